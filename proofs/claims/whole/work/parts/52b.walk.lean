section CW
variable {p : Program} {l : Launch} {e : Env} {s : State} {m : MethodId} {args : Array Value} {below : List Frame} {meth : Method} {c : Code} {H : Heap} {locs : List Loc}
variable {ls : Array Slot} {D : va_G} {dA : Nat → ClassId} {hp0 : aH} {sz sz0 b0 N : Nat} {cells slots dc ds mc ms : Nat} {S' K : cS} {r : Int32} {q : Option Nat} {Z : State → Prop}
variable {RV : Nat → Int32 → Nat → cS → Option (Option Nat × cS × Nat × Nat)} {FV LV : Nat}
def x_T_type_52F (N b0 : Nat) (K : cS) (K52 : Nat → Int64 → Int32 → cS → Option (Int32 × cS)) (y0 : Nat) (y1 : Int64) (y4 : Int32) (S : cS) : Option (Int32 × cS) :=
  if y4 < 0 then (b1 (gI b0 K S 1 2 y0) (fun x1 => some (x1, S))) else (b1 (gR b0 K S 1 0 y0) (fun q3 => b1 (gI b0 K S 1 2 y0) (fun x5 => b1 (x_T_byteAt N b0 K y1 y4 S) (fun x8 => b1 q3 (fun a9 => b1 (aT b0 S 11 a9 x5 (vp_nar .char ((x8.toUInt32 % 65536).toInt32))) (fun S12 => b1 (gI b0 K S12 1 2 y0) (fun x14 => b1 (pI b0 S12 1 2 y0 (x14 + 1)) (fun S16 => K52 y0 y1 (y4 + (-1)) S16))))))))
def x_T_type_52 (N b0 : Nat) (K : cS) : Nat → Nat → Int64 → Int32 → cS → Option (Int32 × cS)
  | 0, _, _, _, _ => none
  | k + 1, y0, y1, y4, S => x_T_type_52F N b0 K  (x_T_type_52 N b0 K  k) y0 y1 y4 S
set_option maxRecDepth 100000 in
set_option maxHeartbeats 4000000 in
theorem w_T_type_52F {K52 : Nat → Int64 → Int32 → cS → Option (Int32 × cS)} {y0 : Nat} {y1 : Int64} {y4 : Int32} {S : cS} (hK52 : ∀ (y0 : Nat) (y1 : Int64) (y4 : Int32) (S : cS) (ls : Array Slot) (H : Heap) (locs : List Loc), lx ls [some (.ref y0), some (.long y1), none, none, some (.int y4)] → AI D vwCl b0 (cH dA b0 S hp0) sz s.heap H locs → K52 y0 y1 y4 S = some (r, S') → W p l e { frames := 3, cells := 0, slots := 0, locals := 120 } s m args below meth c H locs 0 0 (MQ below (CQ D vwCl b0 (some (.int r)) (cH dA b0 S' hp0) sz) args s 0 0 (fun q => b0 ≤ q)) (F0 m 52 ls [])) (B : BX p m c cb_T_type 5 s args (.code y_T_type cb_T_type 5 (some .int) :: wsA) RZ1 meth (some .int) D vwCl (tyL dA) b0 Z) (hR : CR b0 K Z) (hl : lx ls [some (.ref y0), some (.long y1), none, none, some (.int y4)]) (I : AI D vwCl b0 (cH dA b0 S hp0) sz s.heap H locs)  (hm : x_T_type_52F N b0 K  K52 y0 y1 y4 S = some (r, S')) : W p l e { frames := 3, cells := 0, slots := 0, locals := 120 } s m args below meth c H locs 0 0 (MQ below (CQ D vwCl b0 (some (.int r)) (cH dA b0 S' hp0) sz) args s 0 0 (fun q => b0 ≤ q)) (F0 m 52 ls []) := by
  obtain ⟨hx, hb, -⟩ := B.1
  unfold x_T_type_52F at hm
  refine lv_iload (pc := 52) (i := 4) hx hb d_T_type_52 (lx_get hl rfl) ?_
  refine lv_if_lt (pc := 54) (tgt := 89) hx hb d_T_type_54 (by decide) (fun hcc => ?_) (fun hcc => ?_)
  · have hm := ift hcc hm
    refine q_aload_n (pc := 89) (i := 0) (v := .ref y0) hx hb d_T_type_89 rfl rfl (lx_get hl rfl) ?_
    refine ob1 hm (fun x1 e2 hm => ?_)
    refine k_getI (pc := 90) (z := 1) (k := 2) (index := 20) B hR I (by decide) (by decide) mF_T_20 rfl (fun _ _ => rfl) e2 d_T_type_90 ?_
    cases hm
    exact q_iret (pc := 93) B I rfl d_T_type_93
  · have hm := iff' hcc hm
    refine q_aload_n (pc := 57) (i := 0) (v := .ref y0) hx hb d_T_type_57 rfl rfl (lx_get hl rfl) ?_
    refine ob1 hm (fun q3 e4 hm => ?_)
    refine k_getR (pc := 58) (z := 1) (k := 0) (index := 9) B hR I (by decide) (by decide) mF_T_9 rfl (fun _ _ => rfl) e4 d_T_type_58 ?_
    refine q_aload_n (pc := 61) (i := 0) (v := .ref y0) hx hb d_T_type_61 rfl rfl (lx_get hl rfl) ?_
    refine ob1 hm (fun x5 e6 hm => ?_)
    refine k_getI (pc := 62) (z := 1) (k := 2) (index := 20) B hR I (by decide) (by decide) mF_T_20 rfl (fun _ _ => rfl) e6 d_T_type_62 ?_
    refine lv_lload_n (pc := 65) (i := 1) hx hb d_T_type_65 rfl (lx_get hl rfl) ?_
    refine lv_iload (pc := 66) (i := 4) hx hb d_T_type_66 (lx_get hl rfl) ?_
    refine ob1 hm (fun x8 e7 hm => ?_)
    refine k_callS (pc := 68) (As := [.long y1, .int y4]) (rest := [.int x5, va_rf q3]) B hl rfl I (c_T_byteAt hR e7) kw_T_46 rfl (Nat.le_of_ble_eq_true rfl) (Nat.le_of_ble_eq_true rfl) rfl (by simp [cat_i, cat_r, cat_l, va_rf_cat]) d_T_type_68 (Nat.le_refl _) (Nat.le_refl _) (fun H locs I => ?_)
    refine lv_i2c (pc := 71) hx hb d_T_type_71 rfl ?_
    refine ob1 hm (fun a9 e10 hm => ?_)
    have hm_11 := hm; have hl_11 := hl; have I_11 := I
    subst e10
    have hm := hm_11; have hl := hl_11; have I := I_11
    refine ob1 hm (fun S12 e13 hm => ?_)
    refine k_cast (pc := 72) B I e13 d_T_type_72 (fun H locs I => ?_)
    refine q_aload_n (pc := 73) (i := 0) (v := .ref y0) hx hb d_T_type_73 rfl rfl (lx_get hl rfl) ?_
    refine lv_dup (pc := 74) hx hb d_T_type_74 rfl ?_
    refine ob1 hm (fun x14 e15 hm => ?_)
    refine k_getI (pc := 75) (z := 1) (k := 2) (index := 20) B hR I (by decide) (by decide) mF_T_20 rfl (fun _ _ => rfl) e15 d_T_type_75 ?_
    refine lv_iconst (pc := 78) (v := 1) hx hb d_T_type_78 (by decide) ?_
    refine lv_iadd (pc := 79) hx hb d_T_type_79 ?_
    refine ob1 hm (fun S16 e17 hm => ?_)
    refine k_putI (pc := 80) (z := 1) (k := 2) (index := 20) (v := (x14 + 1)) B I (by decide) (by decide) mF_T_20 rfl rfl rfl rfl cset_1_2 e17 d_T_type_80 (fun H locs I => ?_)
    refine q_iinc (pc := 83) (i := 4) (v := y4 + (-1)) (lo' := [some (.ref y0), some (.long y1), none, none, some (.int (y4 + (-1)))]) hx hb d_T_type_83 hl rfl rfl (Nat.le_of_ble_eq_true rfl) (lx_cn rfl) rfl (fun ls hl => ?_)
    refine lv_goto (pc := 86) (tgt := 52) hx hb d_T_type_86 (by decide) ?_
    exact hK52 y0 y1 (y4 + (-1)) S16 _ _ _ hl I hm
set_option maxRecDepth 100000 in
set_option maxHeartbeats 4000000 in
theorem w_T_type_52i (B : BX p m c cb_T_type 5 s args (.code y_T_type cb_T_type 5 (some .int) :: wsA) RZ1 meth (some .int) D vwCl (tyL dA) b0 Z) (hR : CR b0 K Z) (k : Nat) (y0 : Nat) (y1 : Int64) (y4 : Int32) (S : cS) (ls : Array Slot) (H : Heap) (locs : List Loc) (hl : lx ls [some (.ref y0), some (.long y1), none, none, some (.int y4)]) (I : AI D vwCl b0 (cH dA b0 S hp0) sz s.heap H locs)  (hm : x_T_type_52 N b0 K  k y0 y1 y4 S = some (r, S')) : W p l e { frames := 3, cells := 0, slots := 0, locals := 120 } s m args below meth c H locs 0 0 (MQ below (CQ D vwCl b0 (some (.int r)) (cH dA b0 S' hp0) sz) args s 0 0 (fun q => b0 ≤ q)) (F0 m 52 ls []) := by
  induction k generalizing y0 y1 y4 S ls H locs with
  | zero => cases hm
  | succ k ih => exact w_T_type_52F  (fun y0 y1 y4 S ls H locs hl I hm => ih y0 y1 y4 S ls H locs hl I hm) B hR hl I hm
theorem w_T_type_52 {y0 : Nat} {y1 : Int64} {y4 : Int32} {S : cS} (B : BX p m c cb_T_type 5 s args (.code y_T_type cb_T_type 5 (some .int) :: wsA) RZ1 meth (some .int) D vwCl (tyL dA) b0 Z) (hR : CR b0 K Z) (hl : lx ls [some (.ref y0), some (.long y1), none, none, some (.int y4)]) (I : AI D vwCl b0 (cH dA b0 S hp0) sz s.heap H locs)  {k : Nat} (hm : x_T_type_52 N b0 K  k y0 y1 y4 S = some (r, S')) : W p l e { frames := 3, cells := 0, slots := 0, locals := 120 } s m args below meth c H locs 0 0 (MQ below (CQ D vwCl b0 (some (.int r)) (cH dA b0 S' hp0) sz) args s 0 0 (fun q => b0 ≤ q)) (F0 m 52 ls []) := w_T_type_52i  B hR k _ _ _ S ls H locs hl I hm
def x_T_type (N b0 : Nat) (K : cS) (p0 : Nat) (p1 : Int64) (p2 : Int32) (S : cS) : Option (Int32 × cS) :=
  if p2 < 1 then (none) else (if 8 < p2 then (none) else (b1 (x_T_allAreCharacters N b0 K p1 p2 S) (fun x2 => if x2 = 0 then (none) else (b1 (gI b0 K S 1 2 p0) (fun x3 => if x3 + p2 ≤ 240 then (x_T_type_52 N b0 K  N p0 p1 (p2 - 1) S) else (none))))))
set_option maxRecDepth 100000 in
set_option maxHeartbeats 4000000 in
theorem c_T_type {p0 : Nat} {p1 : Int64} {p2 : Int32} {S S' : cS} {r : Int32} (hR : CR b0 K Z) (hm : x_T_type N b0 K p0 p1 p2 S = some (r, S')) : Ct l D vwCl (tyL dA) b0 Z y_T_type (.code y_T_type cb_T_type 5 (some .int) :: wsA) 3 120 [.ref p0, .long p1, .int p2] (cH dA b0 S hp0) sz (some (.int r)) (cH dA b0 S' hp0) 0 0 := by
  refine ct_ofF (cc := cb_T_type) (maxL := 5) (ret := (some .int)) (lo0 := [some (.ref p0), some (.long p1), none, some (.int p2), none]) hR.1 (by decide +kernel) rfl (by simp [lg_sl, cat_i, cat_r, cat_l, va_rf_cat]) rfl (by simp [lx_all, lv_args, cat_i, cat_r, cat_l, va_rf_cat]) ?_
  intro p e s m args below meth c ls B hnm hl I
  obtain ⟨hx, hb, -⟩ := B.1
  unfold x_T_type at hm
  refine lv_iload_n (pc := 0) (i := 3) hx hb d_T_type_0 rfl (lx_get hl rfl) ?_
  refine lv_iconst (pc := 1) (v := 1) hx hb d_T_type_1 (by decide) ?_
  refine lv_icmp_lt (pc := 2) (tgt := 19) hx hb d_T_type_2 (by decide) (fun hcc => ?_) (fun hcc => ?_)
  · have hm := ift hcc hm
    cases hm
  · have hm := iff' hcc hm
    refine lv_iload_n (pc := 5) (i := 3) hx hb d_T_type_5 rfl (lx_get hl rfl) ?_
    refine lv_bipush (pc := 6) (v := 8) hx hb d_T_type_6 (by decide) ?_
    refine lv_icmp_gt (pc := 8) (tgt := 19) hx hb d_T_type_8 (by decide) (fun hcc => ?_) (fun hcc => ?_)
    · have hm := ift hcc hm
      cases hm
    · have hm := iff' hcc hm
      refine lv_lload_n (pc := 11) (i := 1) hx hb d_T_type_11 rfl (lx_get hl rfl) ?_
      refine lv_iload_n (pc := 12) (i := 3) hx hb d_T_type_12 rfl (lx_get hl rfl) ?_
      refine ob1 hm (fun x2 e1 hm => ?_)
      refine k_callS (pc := 13) (As := [.long p1, .int p2]) (rest := []) B hl rfl I (c_T_allAreCharacters hR e1) kw_T_36 rfl (Nat.le_of_ble_eq_true rfl) (Nat.le_of_ble_eq_true rfl) rfl (by simp [cat_i, cat_r, cat_l, va_rf_cat]) d_T_type_13 (Nat.le_refl _) (Nat.le_refl _) (fun H locs I => ?_)
      refine lv_if_ne (pc := 16) (tgt := 27) hx hb d_T_type_16 (by decide) (fun hcc => ?_) (fun hcc => ?_)
      · have hm := iff' hcc hm
        refine q_aload_n (pc := 27) (i := 0) (v := .ref p0) hx hb d_T_type_27 rfl rfl (lx_get hl rfl) ?_
        refine ob1 hm (fun x3 e4 hm => ?_)
        refine k_getI (pc := 28) (z := 1) (k := 2) (index := 20) B hR I (by decide) (by decide) mF_T_20 rfl (fun _ _ => rfl) e4 d_T_type_28 ?_
        refine lv_iload_n (pc := 31) (i := 3) hx hb d_T_type_31 rfl (lx_get hl rfl) ?_
        refine lv_iadd (pc := 32) hx hb d_T_type_32 ?_
        refine lv_sipush (pc := 33) (v := 240) hx hb d_T_type_33 (by decide) ?_
        refine lv_icmp_le (pc := 36) (tgt := 47) hx hb d_T_type_36 (by decide) (fun hcc => ?_) (fun hcc => ?_)
        · have hm := ift hcc hm
          refine lv_iload_n (pc := 47) (i := 3) hx hb d_T_type_47 rfl (lx_get hl rfl) ?_
          refine lv_iconst (pc := 48) (v := 1) hx hb d_T_type_48 (by decide) ?_
          refine lv_isub (pc := 49) hx hb d_T_type_49 ?_
          refine q_istore (pc := 50) (i := 4) (lo' := [some (.ref p0), some (.long p1), none, some (.int p2), some (.int (p2 - 1))]) hx hb d_T_type_50 hl (Nat.le_of_ble_eq_true rfl) (lx_ci rfl) rfl (fun ls hl => ?_)
          exact w_T_type_52 (y0 := p0) (y1 := p1) (y4 := (p2 - 1))  B hR (lx_sub (lo' := [some (.ref p0), some (.long p1), none, none, some (.int (p2 - 1))]) hl (by simp [lx_le])) I hm
        · have hm := iff' hcc hm
          cases hm
      · have hm := ift hcc hm
        cases hm
def xt_T_type (N b0 : Nat) (K : cS) (p0 : Nat) (p1 : Int64) (p2 : Int32) (S : cS) : Option Nat :=
  if p2 < 1 then (some 0) else (if 8 < p2 then (some 0) else (b1 (x_T_allAreCharacters N b0 K p1 p2 S) (fun x2 => if x2 = 0 then (some 0) else (b1 (gI b0 K S 1 2 p0) (fun x3 => if x3 + p2 ≤ 240 then (none) else (some 1))))))
set_option maxRecDepth 100000 in
set_option maxHeartbeats 4000000 in
theorem t_T_type {p0 : Nat} {p1 : Int64} {p2 : Int32} {S : cS} {r : Nat} (hR : CR b0 K Z) (hf : l.flags = pinnedFlags ++ [noTraceFlag]) (hm : xt_T_type N b0 K p0 p1 p2 S = some r) : CtT l D vwCl (tyL dA) b0 Z y_T_type (.code y_T_type cb_T_type 5 (some .int) :: wsA) 6 130 [.ref p0, .long p1, .int p2] (cH dA b0 S hp0) sz (exN r) := by
  refine ct_ofT (cc := cb_T_type) (maxL := 5) (ret := (some .int)) (lo0 := [some (.ref p0), some (.long p1), none, some (.int p2), none]) hR.1 (by decide +kernel) rfl (by simp [lg_sl, cat_i, cat_r, cat_l, va_rf_cat]) rfl (by simp [lx_all, lv_args, cat_i, cat_r, cat_l, va_rf_cat]) ?_
  intro p e s m args below meth c ls B hE hl I
  obtain ⟨hx, hb, -⟩ := B.1
  unfold xt_T_type at hm
  refine lv_iload_n (pc := 0) (i := 3) hx hb d_T_type_0 rfl (lx_get hl rfl) ?_
  refine lv_iconst (pc := 1) (v := 1) hx hb d_T_type_1 (by decide) ?_
  refine lv_icmp_lt (pc := 2) (tgt := 19) hx hb d_T_type_2 (by decide) (fun hcc => ?_) (fun hcc => ?_)
  · have hm := ift hcc hm
    cases hm
    exact k_throw (X := exN 0) (pc := 19) B hR hE hf hl rfl I (fun s' hv hz => thA_0 hR (fun w hw => B.1.2.2.2.2 w (List.mem_cons_of_mem _ hw)) hv hz) (by decide +kernel) thC_0 thI_0 thN_0 (Nat.le_of_ble_eq_true rfl) (Nat.le_of_ble_eq_true rfl) (Nat.le_refl _) (Nat.le_refl _) d_T_type_19 d_T_type_22 d_T_type_23 d_T_type_26
  · have hm := iff' hcc hm
    refine lv_iload_n (pc := 5) (i := 3) hx hb d_T_type_5 rfl (lx_get hl rfl) ?_
    refine lv_bipush (pc := 6) (v := 8) hx hb d_T_type_6 (by decide) ?_
    refine lv_icmp_gt (pc := 8) (tgt := 19) hx hb d_T_type_8 (by decide) (fun hcc => ?_) (fun hcc => ?_)
    · have hm := ift hcc hm
      cases hm
      exact k_throw (X := exN 0) (pc := 19) B hR hE hf hl rfl I (fun s' hv hz => thA_0 hR (fun w hw => B.1.2.2.2.2 w (List.mem_cons_of_mem _ hw)) hv hz) (by decide +kernel) thC_0 thI_0 thN_0 (Nat.le_of_ble_eq_true rfl) (Nat.le_of_ble_eq_true rfl) (Nat.le_refl _) (Nat.le_refl _) d_T_type_19 d_T_type_22 d_T_type_23 d_T_type_26
    · have hm := iff' hcc hm
      refine lv_lload_n (pc := 11) (i := 1) hx hb d_T_type_11 rfl (lx_get hl rfl) ?_
      refine lv_iload_n (pc := 12) (i := 3) hx hb d_T_type_12 rfl (lx_get hl rfl) ?_
      refine ob1 hm (fun x2 e1 hm => ?_)
      refine k_callS (pc := 13) (As := [.long p1, .int p2]) (rest := []) B hl rfl I (c_T_allAreCharacters hR e1) kw_T_36 rfl (Nat.le_of_ble_eq_true rfl) (Nat.le_of_ble_eq_true rfl) rfl (by simp [cat_i, cat_r, cat_l, va_rf_cat]) d_T_type_13 (Nat.zero_le _) (Nat.zero_le _) (fun H locs I => ?_)
      refine lv_if_ne (pc := 16) (tgt := 27) hx hb d_T_type_16 (by decide) (fun hcc => ?_) (fun hcc => ?_)
      · have hm := iff' hcc hm
        refine q_aload_n (pc := 27) (i := 0) (v := .ref p0) hx hb d_T_type_27 rfl rfl (lx_get hl rfl) ?_
        refine ob1 hm (fun x3 e4 hm => ?_)
        refine k_getI (pc := 28) (z := 1) (k := 2) (index := 20) B hR I (by decide) (by decide) mF_T_20 rfl (fun _ _ => rfl) e4 d_T_type_28 ?_
        refine lv_iload_n (pc := 31) (i := 3) hx hb d_T_type_31 rfl (lx_get hl rfl) ?_
        refine lv_iadd (pc := 32) hx hb d_T_type_32 ?_
        refine lv_sipush (pc := 33) (v := 240) hx hb d_T_type_33 (by decide) ?_
        refine lv_icmp_le (pc := 36) (tgt := 47) hx hb d_T_type_36 (by decide) (fun hcc => ?_) (fun hcc => ?_)
        · have hm := ift hcc hm
          cases hm
        · have hm := iff' hcc hm
          cases hm
          exact k_throw (X := exN 1) (pc := 39) B hR hE hf hl rfl I (fun s' hv hz => thA_1 hR (fun w hw => B.1.2.2.2.2 w (List.mem_cons_of_mem _ hw)) hv hz) (by decide +kernel) thC_1 thI_1 thN_1 (Nat.le_of_ble_eq_true rfl) (Nat.le_of_ble_eq_true rfl) (Nat.le_refl _) (Nat.le_refl _) d_T_type_39 d_T_type_42 d_T_type_43 d_T_type_46
      · have hm := ift hcc hm
        cases hm
        exact k_throw (X := exN 0) (pc := 19) B hR hE hf hl rfl I (fun s' hv hz => thA_0 hR (fun w hw => B.1.2.2.2.2 w (List.mem_cons_of_mem _ hw)) hv hz) (by decide +kernel) thC_0 thI_0 thN_0 (Nat.le_of_ble_eq_true rfl) (Nat.le_of_ble_eq_true rfl) (Nat.le_refl _) (Nat.le_refl _) d_T_type_19 d_T_type_22 d_T_type_23 d_T_type_26
def x_T_written (N b0 : Nat) (K : cS) (p0 : Nat) (p1 : Int32) (S : cS) : Option Int32 :=
  if p1 < 0 then (none) else (b1 (gR b0 K S 1 1 p0) (fun q1 => b1 q1 (fun a3 => b1 (gI b0 K S 5 1 a3) (fun x6 => if x6 ≤ p1 then (none) else (if p1 < 600 then (b1 (gR b0 K S 1 1 p0) (fun q8 => b1 q8 (fun a10 => b1 (gR b0 K S 5 0 a10) (fun q13 => b1 q13 (fun a15 => b1 (aL b0 K S 11 a15 p1) (fun x18 => some x18)))))) else (none))))))
set_option maxRecDepth 100000 in
set_option maxHeartbeats 4000000 in
theorem c_T_written {p0 : Nat} {p1 : Int32} {S : cS} {r : Int32} (hR : CR b0 K Z) (hm : x_T_written N b0 K p0 p1 S = some r) : Ct l D vwCl (tyL dA) b0 Z y_T_written (.code y_T_written cb_T_written 2 (some .int) :: wsA) 3 120 [.ref p0, .int p1] (cH dA b0 S hp0) sz (some (.int r)) (cH dA b0 S hp0) 0 0 := by
  refine ct_ofF (cc := cb_T_written) (maxL := 2) (ret := (some .int)) (lo0 := [some (.ref p0), some (.int p1)]) hR.1 (by decide +kernel) rfl (by simp [lg_sl, cat_i, cat_r, cat_l, va_rf_cat]) rfl (by simp [lx_all, lv_args, cat_i, cat_r, cat_l, va_rf_cat]) ?_
  intro p e s m args below meth c ls B hnm hl I
  obtain ⟨hx, hb, -⟩ := B.1
  unfold x_T_written at hm
  refine lv_iload_n (pc := 0) (i := 1) hx hb d_T_written_0 rfl (lx_get hl rfl) ?_
  refine lv_if_lt (pc := 1) (tgt := 22) hx hb d_T_written_1 (by decide) (fun hcc => ?_) (fun hcc => ?_)
  · have hm := ift hcc hm
    cases hm
  · have hm := iff' hcc hm
    refine lv_iload_n (pc := 4) (i := 1) hx hb d_T_written_4 rfl (lx_get hl rfl) ?_
    refine q_aload_n (pc := 5) (i := 0) (v := .ref p0) hx hb d_T_written_5 rfl rfl (lx_get hl rfl) ?_
    refine ob1 hm (fun q1 e2 hm => ?_)
    refine k_getR (pc := 6) (z := 1) (k := 1) (index := 16) B hR I (by decide) (by decide) mF_T_16 rfl (fun _ _ => rfl) e2 d_T_written_6 ?_
    refine ob1 hm (fun a3 e4 hm => ?_)
    have hm_5 := hm; have hl_5 := hl; have I_5 := I
    subst e4
    have hm := hm_5; have hl := hl_5; have I := I_5
    refine ob1 hm (fun x6 e7 hm => ?_)
    refine k_getIN (pc := 9) (z := 5) (k := 1) (index := 66) B hR I (by decide) (by decide) nF_T_66 rfl (fun _ _ => rfl) e7 d_T_written_9 ?_
    refine lv_icmp_ge (pc := 12) (tgt := 22) hx hb d_T_written_12 (by decide) (fun hcc => ?_) (fun hcc => ?_)
    · have hm := ift hcc hm
      cases hm
    · have hm := iff' hcc hm
      refine lv_iload_n (pc := 15) (i := 1) hx hb d_T_written_15 rfl (lx_get hl rfl) ?_
      refine lv_sipush (pc := 16) (v := 600) hx hb d_T_written_16 (by decide) ?_
      refine lv_icmp_lt (pc := 19) (tgt := 30) hx hb d_T_written_19 (by decide) (fun hcc => ?_) (fun hcc => ?_)
      · have hm := ift hcc hm
        refine q_aload_n (pc := 30) (i := 0) (v := .ref p0) hx hb d_T_written_30 rfl rfl (lx_get hl rfl) ?_
        refine ob1 hm (fun q8 e9 hm => ?_)
        refine k_getR (pc := 31) (z := 1) (k := 1) (index := 16) B hR I (by decide) (by decide) mF_T_16 rfl (fun _ _ => rfl) e9 d_T_written_31 ?_
        refine ob1 hm (fun a10 e11 hm => ?_)
        have hm_12 := hm; have hl_12 := hl; have I_12 := I
        subst e11
        have hm := hm_12; have hl := hl_12; have I := I_12
        refine ob1 hm (fun q13 e14 hm => ?_)
        refine k_getRN (pc := 34) (z := 5) (k := 0) (index := 72) B hR I (by decide) (by decide) nF_T_72 rfl (fun _ _ => rfl) e14 d_T_written_34 ?_
        refine lv_iload_n (pc := 37) (i := 1) hx hb d_T_written_37 rfl (lx_get hl rfl) ?_
        refine ob1 hm (fun a15 e16 hm => ?_)
        have hm_17 := hm; have hl_17 := hl; have I_17 := I
        subst e16
        have hm := hm_17; have hl := hl_17; have I := I_17
        refine ob1 hm (fun x18 e19 hm => ?_)
        refine k_cald (pc := 38) B hR I e19 d_T_written_38 ?_
        cases hm
        exact q_iret (pc := 39) B I rfl d_T_written_39
      · have hm := iff' hcc hm
        cases hm
def xt_T_written (N b0 : Nat) (K : cS) (p0 : Nat) (p1 : Int32) (S : cS) : Option Nat :=
  if p1 < 0 then (some 2) else (b1 (gR b0 K S 1 1 p0) (fun q1 => b1 q1 (fun a3 => b1 (gI b0 K S 5 1 a3) (fun x6 => if x6 ≤ p1 then (some 2) else (if p1 < 600 then (none) else (some 2))))))
set_option maxRecDepth 100000 in
set_option maxHeartbeats 4000000 in
theorem t_T_written {p0 : Nat} {p1 : Int32} {S : cS} {r : Nat} (hR : CR b0 K Z) (hf : l.flags = pinnedFlags ++ [noTraceFlag]) (hm : xt_T_written N b0 K p0 p1 S = some r) : CtT l D vwCl (tyL dA) b0 Z y_T_written (.code y_T_written cb_T_written 2 (some .int) :: wsA) 6 130 [.ref p0, .int p1] (cH dA b0 S hp0) sz (exN r) := by
  refine ct_ofT (cc := cb_T_written) (maxL := 2) (ret := (some .int)) (lo0 := [some (.ref p0), some (.int p1)]) hR.1 (by decide +kernel) rfl (by simp [lg_sl, cat_i, cat_r, cat_l, va_rf_cat]) rfl (by simp [lx_all, lv_args, cat_i, cat_r, cat_l, va_rf_cat]) ?_
  intro p e s m args below meth c ls B hE hl I
  obtain ⟨hx, hb, -⟩ := B.1
  unfold xt_T_written at hm
  refine lv_iload_n (pc := 0) (i := 1) hx hb d_T_written_0 rfl (lx_get hl rfl) ?_
  refine lv_if_lt (pc := 1) (tgt := 22) hx hb d_T_written_1 (by decide) (fun hcc => ?_) (fun hcc => ?_)
  · have hm := ift hcc hm
    cases hm
    exact k_throw (X := exN 2) (pc := 22) B hR hE hf hl rfl I (fun s' hv hz => thA_2 hR (fun w hw => B.1.2.2.2.2 w (List.mem_cons_of_mem _ hw)) hv hz) (by decide +kernel) thC_2 thI_2 thN_2 (Nat.le_of_ble_eq_true rfl) (Nat.le_of_ble_eq_true rfl) (Nat.le_refl _) (Nat.le_refl _) d_T_written_22 d_T_written_25 d_T_written_26 d_T_written_29
  · have hm := iff' hcc hm
    refine lv_iload_n (pc := 4) (i := 1) hx hb d_T_written_4 rfl (lx_get hl rfl) ?_
    refine q_aload_n (pc := 5) (i := 0) (v := .ref p0) hx hb d_T_written_5 rfl rfl (lx_get hl rfl) ?_
    refine ob1 hm (fun q1 e2 hm => ?_)
    refine k_getR (pc := 6) (z := 1) (k := 1) (index := 16) B hR I (by decide) (by decide) mF_T_16 rfl (fun _ _ => rfl) e2 d_T_written_6 ?_
    refine ob1 hm (fun a3 e4 hm => ?_)
    have hm_5 := hm; have hl_5 := hl; have I_5 := I
    subst e4
    have hm := hm_5; have hl := hl_5; have I := I_5
    refine ob1 hm (fun x6 e7 hm => ?_)
    refine k_getIN (pc := 9) (z := 5) (k := 1) (index := 66) B hR I (by decide) (by decide) nF_T_66 rfl (fun _ _ => rfl) e7 d_T_written_9 ?_
    refine lv_icmp_ge (pc := 12) (tgt := 22) hx hb d_T_written_12 (by decide) (fun hcc => ?_) (fun hcc => ?_)
    · have hm := ift hcc hm
      cases hm
      exact k_throw (X := exN 2) (pc := 22) B hR hE hf hl rfl I (fun s' hv hz => thA_2 hR (fun w hw => B.1.2.2.2.2 w (List.mem_cons_of_mem _ hw)) hv hz) (by decide +kernel) thC_2 thI_2 thN_2 (Nat.le_of_ble_eq_true rfl) (Nat.le_of_ble_eq_true rfl) (Nat.le_refl _) (Nat.le_refl _) d_T_written_22 d_T_written_25 d_T_written_26 d_T_written_29
    · have hm := iff' hcc hm
      refine lv_iload_n (pc := 15) (i := 1) hx hb d_T_written_15 rfl (lx_get hl rfl) ?_
      refine lv_sipush (pc := 16) (v := 600) hx hb d_T_written_16 (by decide) ?_
      refine lv_icmp_lt (pc := 19) (tgt := 30) hx hb d_T_written_19 (by decide) (fun hcc => ?_) (fun hcc => ?_)
      · have hm := ift hcc hm
        cases hm
      · have hm := iff' hcc hm
        cases hm
        exact k_throw (X := exN 2) (pc := 22) B hR hE hf hl rfl I (fun s' hv hz => thA_2 hR (fun w hw => B.1.2.2.2.2 w (List.mem_cons_of_mem _ hw)) hv hz) (by decide +kernel) thC_2 thI_2 thN_2 (Nat.le_of_ble_eq_true rfl) (Nat.le_of_ble_eq_true rfl) (Nat.le_refl _) (Nat.le_refl _) d_T_written_22 d_T_written_25 d_T_written_26 d_T_written_29
def x_T_down (N b0 : Nat) (K : cS) (p0 : Nat) (p1 : Int32) (S : cS) : Option (Int32 × cS) :=
  b1 (gR b0 K S 1 4 p0) (fun q1 => b1 q1 (fun a3 => ifk b0 K S 2 a3 (b1 (x_N_inner N b0 K a3 p1 S) (fun q7 => om q7 (none) (fun a9 => b1 (pR b0 S 1 4 p0 (some a9)) (fun S10 => b1 (gR b0 K S10 1 4 p0) (fun q12 => b1 q12 (fun a14 => b1 (gI b0 K S10 2 0 a14) (fun x17 => some (x17, S10))))))))))
set_option maxRecDepth 100000 in
set_option maxHeartbeats 4000000 in
theorem c_T_down {p0 : Nat} {p1 : Int32} {S S' : cS} {r : Int32} (hR : CR b0 K Z) (hm : x_T_down N b0 K p0 p1 S = some (r, S')) : Ct l D vwCl (tyL dA) b0 Z y_T_down (.code y_T_down cb_T_down 3 (some .int) :: wsA) 3 120 [.ref p0, .int p1] (cH dA b0 S hp0) sz (some (.int r)) (cH dA b0 S' hp0) 0 0 := by
  refine ct_ofF (cc := cb_T_down) (maxL := 3) (ret := (some .int)) (lo0 := [some (.ref p0), some (.int p1), none]) hR.1 (by decide +kernel) rfl (by simp [lg_sl, cat_i, cat_r, cat_l, va_rf_cat]) rfl (by simp [lx_all, lv_args, cat_i, cat_r, cat_l, va_rf_cat]) ?_
  intro p e s m args below meth c ls B hnm hl I
  obtain ⟨hx, hb, -⟩ := B.1
  unfold x_T_down at hm
  refine q_aload_n (pc := 0) (i := 0) (v := .ref p0) hx hb d_T_down_0 rfl rfl (lx_get hl rfl) ?_
  refine ob1 hm (fun q1 e2 hm => ?_)
  refine k_getR (pc := 1) (z := 1) (k := 4) (index := 33) B hR I (by decide) (by decide) mF_T_33 rfl (fun _ _ => rfl) e2 d_T_down_1 ?_
  refine lv_iload_n (pc := 4) (i := 1) hx hb d_T_down_4 rfl (lx_get hl rfl) ?_
  refine ob1 hm (fun a3 e4 hm => ?_)
  have hm_5 := hm; have hl_5 := hl; have I_5 := I
  subst e4
  have hm := hm_5; have hl := hl_5; have I := I_5
  refine oifk hm (fun hk hm => ?_)
  refine ob1 hm (fun q7 e6 hm => ?_)
  refine k_callVN (pc := 5) (As := [.int p1]) (rest := []) (b := a3) B hR hl rfl I (c_N_inner hR e6) kw_T_78 (by decide) hk rfl (Nat.le_of_ble_eq_true rfl) (Nat.le_of_ble_eq_true rfl) rfl (by simp [cat_i, cat_r, cat_l, va_rf_cat]) d_T_down_5 (Nat.le_refl _) (Nat.le_refl _) (fun H locs I => ?_)
  refine q_astore_n (pc := 8) (i := 2) (v := va_rf q7) (lo' := [some (.ref p0), some (.int p1), some (va_rf q7)]) hx hb d_T_down_8 rfl (va_rf_isRef _) hl (Nat.le_of_ble_eq_true rfl) (lx_ci rfl) rfl (fun ls hl => ?_)
  refine q_aload_n (pc := 9) (i := 2) (v := va_rf q7) hx hb d_T_down_9 rfl (va_rf_isRef _) (lx_get hl rfl) ?_
  refine oom hm (fun e8 hm => ?_) (fun a9 e8 hm => ?_)
  · have hm_19 := hm; have hl_19 := hl; have I_19 := I
    subst e8
    have hm := hm_19; have hl := hl_19; have I := I_19
    refine lv_ifnonnullN (pc := 10) hx hb d_T_down_10 ?_
    cases hm
  · have hm_19 := hm; have hl_19 := hl; have I_19 := I
    subst e8
    have hm := hm_19; have hl := hl_19; have I := I_19
    refine lv_ifnonnull (pc := 10) (tgt := 21) hx hb d_T_down_10 (by decide) ?_
    refine q_aload_n (pc := 21) (i := 0) (v := .ref p0) hx hb d_T_down_21 rfl rfl (lx_get hl rfl) ?_
    refine q_aload_n (pc := 22) (i := 2) (v := .ref a9) hx hb d_T_down_22 rfl rfl (lx_get hl rfl) ?_
    refine ob1 hm (fun S10 e11 hm => ?_)
    refine k_putR (pc := 23) (z := 1) (k := 4) (index := 33) (v := (some a9)) B I (by decide) (by decide) mF_T_33 rfl rfl (Or.inl ⟨_, rfl⟩) cset_1_4 e11 d_T_down_23 (fun H locs I => ?_)
    refine q_aload_n (pc := 26) (i := 0) (v := .ref p0) hx hb d_T_down_26 rfl rfl (lx_get hl rfl) ?_
    refine ob1 hm (fun q12 e13 hm => ?_)
    refine k_getR (pc := 27) (z := 1) (k := 4) (index := 33) B hR I (by decide) (by decide) mF_T_33 rfl (fun _ _ => rfl) e13 d_T_down_27 ?_
    refine ob1 hm (fun a14 e15 hm => ?_)
    have hm_16 := hm; have hl_16 := hl; have I_16 := I
    subst e15
    have hm := hm_16; have hl := hl_16; have I := I_16
    refine ob1 hm (fun x17 e18 hm => ?_)
    refine k_getIN (pc := 30) (z := 2) (k := 0) (index := 82) B hR I (by decide) (by decide) nF_T_82 rfl (fun _ _ => rfl) e18 d_T_down_30 ?_
    cases hm
    exact q_iret (pc := 33) B I rfl d_T_down_33
def xt_T_down (N b0 : Nat) (K : cS) (p0 : Nat) (p1 : Int32) (S : cS) : Option Nat :=
  b1 (gR b0 K S 1 4 p0) (fun q1 => b1 q1 (fun a3 => ifk b0 K S 2 a3 (b1 (x_N_inner N b0 K a3 p1 S) (fun q7 => om q7 (some 2) (fun a9 => none)))))
set_option maxRecDepth 100000 in
set_option maxHeartbeats 4000000 in
theorem t_T_down {p0 : Nat} {p1 : Int32} {S : cS} {r : Nat} (hR : CR b0 K Z) (hf : l.flags = pinnedFlags ++ [noTraceFlag]) (hm : xt_T_down N b0 K p0 p1 S = some r) : CtT l D vwCl (tyL dA) b0 Z y_T_down (.code y_T_down cb_T_down 3 (some .int) :: wsA) 6 130 [.ref p0, .int p1] (cH dA b0 S hp0) sz (exN r) := by
  refine ct_ofT (cc := cb_T_down) (maxL := 3) (ret := (some .int)) (lo0 := [some (.ref p0), some (.int p1), none]) hR.1 (by decide +kernel) rfl (by simp [lg_sl, cat_i, cat_r, cat_l, va_rf_cat]) rfl (by simp [lx_all, lv_args, cat_i, cat_r, cat_l, va_rf_cat]) ?_
  intro p e s m args below meth c ls B hE hl I
  obtain ⟨hx, hb, -⟩ := B.1
  unfold xt_T_down at hm
  refine q_aload_n (pc := 0) (i := 0) (v := .ref p0) hx hb d_T_down_0 rfl rfl (lx_get hl rfl) ?_
  refine ob1 hm (fun q1 e2 hm => ?_)
  refine k_getR (pc := 1) (z := 1) (k := 4) (index := 33) B hR I (by decide) (by decide) mF_T_33 rfl (fun _ _ => rfl) e2 d_T_down_1 ?_
  refine lv_iload_n (pc := 4) (i := 1) hx hb d_T_down_4 rfl (lx_get hl rfl) ?_
  refine ob1 hm (fun a3 e4 hm => ?_)
  have hm_5 := hm; have hl_5 := hl; have I_5 := I
  subst e4
  have hm := hm_5; have hl := hl_5; have I := I_5
  refine oifk hm (fun hk hm => ?_)
  refine ob1 hm (fun q7 e6 hm => ?_)
  refine k_callVN (pc := 5) (As := [.int p1]) (rest := []) (b := a3) B hR hl rfl I (c_N_inner hR e6) kw_T_78 (by decide) hk rfl (Nat.le_of_ble_eq_true rfl) (Nat.le_of_ble_eq_true rfl) rfl (by simp [cat_i, cat_r, cat_l, va_rf_cat]) d_T_down_5 (Nat.zero_le _) (Nat.zero_le _) (fun H locs I => ?_)
  refine q_astore_n (pc := 8) (i := 2) (v := va_rf q7) (lo' := [some (.ref p0), some (.int p1), some (va_rf q7)]) hx hb d_T_down_8 rfl (va_rf_isRef _) hl (Nat.le_of_ble_eq_true rfl) (lx_ci rfl) rfl (fun ls hl => ?_)
  refine q_aload_n (pc := 9) (i := 2) (v := va_rf q7) hx hb d_T_down_9 rfl (va_rf_isRef _) (lx_get hl rfl) ?_
  refine oom hm (fun e8 hm => ?_) (fun a9 e8 hm => ?_)
  · have hm_10 := hm; have hl_10 := hl; have I_10 := I
    subst e8
    have hm := hm_10; have hl := hl_10; have I := I_10
    refine lv_ifnonnullN (pc := 10) hx hb d_T_down_10 ?_
    cases hm
    exact k_throw (X := exN 2) (pc := 13) B hR hE hf hl rfl I (fun s' hv hz => thA_2 hR (fun w hw => B.1.2.2.2.2 w (List.mem_cons_of_mem _ hw)) hv hz) (by decide +kernel) thC_2 thI_2 thN_2 (Nat.le_of_ble_eq_true rfl) (Nat.le_of_ble_eq_true rfl) (Nat.le_refl _) (Nat.le_refl _) d_T_down_13 d_T_down_16 d_T_down_17 d_T_down_20
  · have hm_10 := hm; have hl_10 := hl; have I_10 := I
    subst e8
    have hm := hm_10; have hl := hl_10; have I := I_10
    refine lv_ifnonnull (pc := 10) (tgt := 21) hx hb d_T_down_10 (by decide) ?_
    cases hm
def x_T_up (N b0 : Nat) (K : cS) (p0 : Nat) (S : cS) : Option (Int32 × cS) :=
  b1 (gR b0 K S 1 4 p0) (fun q1 => b1 q1 (fun a3 => b1 (gR b0 K S 2 4 a3) (fun q6 => om q6 (none) (fun a9 => b1 (pR b0 S 1 4 p0 (some a9)) (fun S10 => b1 (gR b0 K S10 1 4 p0) (fun q12 => b1 q12 (fun a14 => b1 (gI b0 K S10 2 0 a14) (fun x17 => some (x17, S10)))))))))
set_option maxRecDepth 100000 in
set_option maxHeartbeats 4000000 in
theorem c_T_up {p0 : Nat} {S S' : cS} {r : Int32} (hR : CR b0 K Z) (hm : x_T_up N b0 K p0 S = some (r, S')) : Ct l D vwCl (tyL dA) b0 Z y_T_up (.code y_T_up cb_T_up 2 (some .int) :: wsA) 3 120 [.ref p0] (cH dA b0 S hp0) sz (some (.int r)) (cH dA b0 S' hp0) 0 0 := by
  refine ct_ofF (cc := cb_T_up) (maxL := 2) (ret := (some .int)) (lo0 := [some (.ref p0), none]) hR.1 (by decide +kernel) rfl (by simp [lg_sl, cat_i, cat_r, cat_l, va_rf_cat]) rfl (by simp [lx_all, lv_args, cat_i, cat_r, cat_l, va_rf_cat]) ?_
  intro p e s m args below meth c ls B hnm hl I
  obtain ⟨hx, hb, -⟩ := B.1
  unfold x_T_up at hm
  refine q_aload_n (pc := 0) (i := 0) (v := .ref p0) hx hb d_T_up_0 rfl rfl (lx_get hl rfl) ?_
  refine ob1 hm (fun q1 e2 hm => ?_)
  refine k_getR (pc := 1) (z := 1) (k := 4) (index := 33) B hR I (by decide) (by decide) mF_T_33 rfl (fun _ _ => rfl) e2 d_T_up_1 ?_
  refine ob1 hm (fun a3 e4 hm => ?_)
  have hm_5 := hm; have hl_5 := hl; have I_5 := I
  subst e4
  have hm := hm_5; have hl := hl_5; have I := I_5
  refine ob1 hm (fun q6 e7 hm => ?_)
  refine k_getRN (pc := 4) (z := 2) (k := 4) (index := 85) B hR I (by decide) (by decide) nF_T_85 rfl (fun _ _ => rfl) e7 d_T_up_4 ?_
  refine q_astore_n (pc := 7) (i := 1) (v := va_rf q6) (lo' := [some (.ref p0), some (va_rf q6)]) hx hb d_T_up_7 rfl (va_rf_isRef _) hl (Nat.le_of_ble_eq_true rfl) (lx_cr rfl) rfl (fun ls hl => ?_)
  refine q_aload_n (pc := 8) (i := 1) (v := va_rf q6) hx hb d_T_up_8 rfl (va_rf_isRef _) (lx_get hl rfl) ?_
  refine oom hm (fun e8 hm => ?_) (fun a9 e8 hm => ?_)
  · have hm_19 := hm; have hl_19 := hl; have I_19 := I
    subst e8
    have hm := hm_19; have hl := hl_19; have I := I_19
    refine lv_ifnonnullN (pc := 9) hx hb d_T_up_9 ?_
    cases hm
  · have hm_19 := hm; have hl_19 := hl; have I_19 := I
    subst e8
    have hm := hm_19; have hl := hl_19; have I := I_19
    refine lv_ifnonnull (pc := 9) (tgt := 20) hx hb d_T_up_9 (by decide) ?_
    refine q_aload_n (pc := 20) (i := 0) (v := .ref p0) hx hb d_T_up_20 rfl rfl (lx_get hl rfl) ?_
    refine q_aload_n (pc := 21) (i := 1) (v := .ref a9) hx hb d_T_up_21 rfl rfl (lx_get hl rfl) ?_
    refine ob1 hm (fun S10 e11 hm => ?_)
    refine k_putR (pc := 22) (z := 1) (k := 4) (index := 33) (v := (some a9)) B I (by decide) (by decide) mF_T_33 rfl rfl (Or.inl ⟨_, rfl⟩) cset_1_4 e11 d_T_up_22 (fun H locs I => ?_)
    refine q_aload_n (pc := 25) (i := 0) (v := .ref p0) hx hb d_T_up_25 rfl rfl (lx_get hl rfl) ?_
    refine ob1 hm (fun q12 e13 hm => ?_)
    refine k_getR (pc := 26) (z := 1) (k := 4) (index := 33) B hR I (by decide) (by decide) mF_T_33 rfl (fun _ _ => rfl) e13 d_T_up_26 ?_
    refine ob1 hm (fun a14 e15 hm => ?_)
    have hm_16 := hm; have hl_16 := hl; have I_16 := I
    subst e15
    have hm := hm_16; have hl := hl_16; have I := I_16
    refine ob1 hm (fun x17 e18 hm => ?_)
    refine k_getIN (pc := 29) (z := 2) (k := 0) (index := 82) B hR I (by decide) (by decide) nF_T_82 rfl (fun _ _ => rfl) e18 d_T_up_29 ?_
    cases hm
    exact q_iret (pc := 32) B I rfl d_T_up_32
def xt_T_up (N b0 : Nat) (K : cS) (p0 : Nat) (S : cS) : Option Nat :=
  b1 (gR b0 K S 1 4 p0) (fun q1 => b1 q1 (fun a3 => b1 (gR b0 K S 2 4 a3) (fun q6 => om q6 (some 1) (fun a9 => none))))
set_option maxRecDepth 100000 in
set_option maxHeartbeats 4000000 in
theorem t_T_up {p0 : Nat} {S : cS} {r : Nat} (hR : CR b0 K Z) (hf : l.flags = pinnedFlags ++ [noTraceFlag]) (hm : xt_T_up N b0 K p0 S = some r) : CtT l D vwCl (tyL dA) b0 Z y_T_up (.code y_T_up cb_T_up 2 (some .int) :: wsA) 6 130 [.ref p0] (cH dA b0 S hp0) sz (exN r) := by
  refine ct_ofT (cc := cb_T_up) (maxL := 2) (ret := (some .int)) (lo0 := [some (.ref p0), none]) hR.1 (by decide +kernel) rfl (by simp [lg_sl, cat_i, cat_r, cat_l, va_rf_cat]) rfl (by simp [lx_all, lv_args, cat_i, cat_r, cat_l, va_rf_cat]) ?_
  intro p e s m args below meth c ls B hE hl I
  obtain ⟨hx, hb, -⟩ := B.1
  unfold xt_T_up at hm
  refine q_aload_n (pc := 0) (i := 0) (v := .ref p0) hx hb d_T_up_0 rfl rfl (lx_get hl rfl) ?_
  refine ob1 hm (fun q1 e2 hm => ?_)
  refine k_getR (pc := 1) (z := 1) (k := 4) (index := 33) B hR I (by decide) (by decide) mF_T_33 rfl (fun _ _ => rfl) e2 d_T_up_1 ?_
  refine ob1 hm (fun a3 e4 hm => ?_)
  have hm_5 := hm; have hl_5 := hl; have I_5 := I
  subst e4
  have hm := hm_5; have hl := hl_5; have I := I_5
  refine ob1 hm (fun q6 e7 hm => ?_)
  refine k_getRN (pc := 4) (z := 2) (k := 4) (index := 85) B hR I (by decide) (by decide) nF_T_85 rfl (fun _ _ => rfl) e7 d_T_up_4 ?_
  refine q_astore_n (pc := 7) (i := 1) (v := va_rf q6) (lo' := [some (.ref p0), some (va_rf q6)]) hx hb d_T_up_7 rfl (va_rf_isRef _) hl (Nat.le_of_ble_eq_true rfl) (lx_cr rfl) rfl (fun ls hl => ?_)
  refine q_aload_n (pc := 8) (i := 1) (v := va_rf q6) hx hb d_T_up_8 rfl (va_rf_isRef _) (lx_get hl rfl) ?_
  refine oom hm (fun e8 hm => ?_) (fun a9 e8 hm => ?_)
  · have hm_10 := hm; have hl_10 := hl; have I_10 := I
    subst e8
    have hm := hm_10; have hl := hl_10; have I := I_10
    refine lv_ifnonnullN (pc := 9) hx hb d_T_up_9 ?_
    cases hm
    exact k_throw (X := exN 1) (pc := 12) B hR hE hf hl rfl I (fun s' hv hz => thA_1 hR (fun w hw => B.1.2.2.2.2 w (List.mem_cons_of_mem _ hw)) hv hz) (by decide +kernel) thC_1 thI_1 thN_1 (Nat.le_of_ble_eq_true rfl) (Nat.le_of_ble_eq_true rfl) (Nat.le_refl _) (Nat.le_refl _) d_T_up_12 d_T_up_15 d_T_up_16 d_T_up_19
  · have hm_10 := hm; have hl_10 := hl; have I_10 := I
    subst e8
    have hm := hm_10; have hl := hl_10; have I := I_10
    refine lv_ifnonnull (pc := 9) (tgt := 20) hx hb d_T_up_9 (by decide) ?_
    cases hm
def x_T_letter (N b0 : Nat) (K : cS) (p0 : Nat) (p1 : Int32) (S : cS) : Option Int32 :=
  b1 (gR b0 K S 1 4 p0) (fun q1 => b1 q1 (fun a3 => b1 (gR b0 K S 2 2 a3) (fun q6 => om q6 (none) (fun a9 => if p1 < 0 then (none) else (ifk b0 K S 6 a9 (b1 (x_Str_length N b0 K a9 S) (fun x11 => if p1 < x11 then (ifk b0 K S 6 a9 (b1 (x_Str_charAt N b0 K a9 p1 S) (fun x13 => some x13))) else (none))))))))
set_option maxRecDepth 100000 in
set_option maxHeartbeats 4000000 in
theorem c_T_letter {p0 : Nat} {p1 : Int32} {S : cS} {r : Int32} (hR : CR b0 K Z) (hm : x_T_letter N b0 K p0 p1 S = some r) : Ct l D vwCl (tyL dA) b0 Z y_T_letter (.code y_T_letter cb_T_letter 3 (some .int) :: wsA) 7 205 [.ref p0, .int p1] (cH dA b0 S hp0) sz (some (.int r)) (cH dA b0 S hp0) 0 0 := by
  refine ct_ofF (cc := cb_T_letter) (maxL := 3) (ret := (some .int)) (lo0 := [some (.ref p0), some (.int p1), none]) hR.1 (by decide +kernel) rfl (by simp [lg_sl, cat_i, cat_r, cat_l, va_rf_cat]) rfl (by simp [lx_all, lv_args, cat_i, cat_r, cat_l, va_rf_cat]) ?_
  intro p e s m args below meth c ls B hnm hl I
  obtain ⟨hx, hb, -⟩ := B.1
  unfold x_T_letter at hm
  refine q_aload_n (pc := 0) (i := 0) (v := .ref p0) hx hb d_T_letter_0 rfl rfl (lx_get hl rfl) ?_
  refine ob1 hm (fun q1 e2 hm => ?_)
  refine k_getR (pc := 1) (z := 1) (k := 4) (index := 33) B hR I (by decide) (by decide) mF_T_33 rfl (fun _ _ => rfl) e2 d_T_letter_1 ?_
  refine ob1 hm (fun a3 e4 hm => ?_)
  have hm_5 := hm; have hl_5 := hl; have I_5 := I
  subst e4
  have hm := hm_5; have hl := hl_5; have I := I_5
  refine ob1 hm (fun q6 e7 hm => ?_)
  refine k_getRN (pc := 4) (z := 2) (k := 2) (index := 88) B hR I (by decide) (by decide) nF_T_88 rfl (fun _ _ => rfl) e7 d_T_letter_4 ?_
  refine q_astore_n (pc := 7) (i := 2) (v := va_rf q6) (lo' := [some (.ref p0), some (.int p1), some (va_rf q6)]) hx hb d_T_letter_7 rfl (va_rf_isRef _) hl (Nat.le_of_ble_eq_true rfl) (lx_ci rfl) rfl (fun ls hl => ?_)
  refine q_aload_n (pc := 8) (i := 2) (v := va_rf q6) hx hb d_T_letter_8 rfl (va_rf_isRef _) (lx_get hl rfl) ?_
  refine oom hm (fun e8 hm => ?_) (fun a9 e8 hm => ?_)
  · have hm_14 := hm; have hl_14 := hl; have I_14 := I
    subst e8
    have hm := hm_14; have hl := hl_14; have I := I_14
    refine lv_ifnonnullN (pc := 9) hx hb d_T_letter_9 ?_
    cases hm
  · have hm_14 := hm; have hl_14 := hl; have I_14 := I
    subst e8
    have hm := hm_14; have hl := hl_14; have I := I_14
    refine lv_ifnonnull (pc := 9) (tgt := 20) hx hb d_T_letter_9 (by decide) ?_
    refine lv_iload_n (pc := 20) (i := 1) hx hb d_T_letter_20 rfl (lx_get hl rfl) ?_
    refine lv_if_lt (pc := 21) (tgt := 32) hx hb d_T_letter_21 (by decide) (fun hcc => ?_) (fun hcc => ?_)
    · have hm := ift hcc hm
      cases hm
    · have hm := iff' hcc hm
      refine lv_iload_n (pc := 24) (i := 1) hx hb d_T_letter_24 rfl (lx_get hl rfl) ?_
      refine q_aload_n (pc := 25) (i := 2) (v := .ref a9) hx hb d_T_letter_25 rfl rfl (lx_get hl rfl) ?_
      refine oifk hm (fun hk hm => ?_)
      refine ob1 hm (fun x11 e10 hm => ?_)
      refine k_callV (pc := 26) (As := []) (rest := [.int p1]) (b := a9) B hR hl rfl I (c_Str_length hR e10) kw_T_92 (by decide) hk rfl (Nat.le_of_ble_eq_true rfl) (Nat.le_of_ble_eq_true rfl) rfl (by simp [cat_i, cat_r, cat_l, va_rf_cat]) d_T_letter_26 (Nat.le_refl _) (Nat.le_refl _) (fun H locs I => ?_)
      refine lv_icmp_lt (pc := 29) (tgt := 40) hx hb d_T_letter_29 (by decide) (fun hcc => ?_) (fun hcc => ?_)
      · have hm := ift hcc hm
        refine q_aload_n (pc := 40) (i := 2) (v := .ref a9) hx hb d_T_letter_40 rfl rfl (lx_get hl rfl) ?_
        refine lv_iload_n (pc := 41) (i := 1) hx hb d_T_letter_41 rfl (lx_get hl rfl) ?_
        refine oifk hm (fun hk hm => ?_)
        refine ob1 hm (fun x13 e12 hm => ?_)
        refine k_callV (pc := 42) (As := [.int p1]) (rest := []) (b := a9) B hR hl rfl I (c_Str_charAt hR e12) kw_T_97 (by decide) hk rfl (Nat.le_of_ble_eq_true rfl) (Nat.le_of_ble_eq_true rfl) rfl (by simp [cat_i, cat_r, cat_l, va_rf_cat]) d_T_letter_42 (Nat.le_refl _) (Nat.le_refl _) (fun H locs I => ?_)
        cases hm
        exact q_iret (pc := 45) B I rfl d_T_letter_45
      · have hm := iff' hcc hm
        cases hm
def xt_T_letter (N b0 : Nat) (K : cS) (p0 : Nat) (p1 : Int32) (S : cS) : Option Nat :=
  b1 (gR b0 K S 1 4 p0) (fun q1 => b1 q1 (fun a3 => b1 (gR b0 K S 2 2 a3) (fun q6 => om q6 (some 1) (fun a9 => if p1 < 0 then (some 2) else (ifk b0 K S 6 a9 (b1 (x_Str_length N b0 K a9 S) (fun x11 => if p1 < x11 then (none) else (some 2))))))))
set_option maxRecDepth 100000 in
set_option maxHeartbeats 4000000 in
theorem t_T_letter {p0 : Nat} {p1 : Int32} {S : cS} {r : Nat} (hR : CR b0 K Z) (hf : l.flags = pinnedFlags ++ [noTraceFlag]) (hm : xt_T_letter N b0 K p0 p1 S = some r) : CtT l D vwCl (tyL dA) b0 Z y_T_letter (.code y_T_letter cb_T_letter 3 (some .int) :: wsA) 7 205 [.ref p0, .int p1] (cH dA b0 S hp0) sz (exN r) := by
  refine ct_ofT (cc := cb_T_letter) (maxL := 3) (ret := (some .int)) (lo0 := [some (.ref p0), some (.int p1), none]) hR.1 (by decide +kernel) rfl (by simp [lg_sl, cat_i, cat_r, cat_l, va_rf_cat]) rfl (by simp [lx_all, lv_args, cat_i, cat_r, cat_l, va_rf_cat]) ?_
  intro p e s m args below meth c ls B hE hl I
  obtain ⟨hx, hb, -⟩ := B.1
  unfold xt_T_letter at hm
  refine q_aload_n (pc := 0) (i := 0) (v := .ref p0) hx hb d_T_letter_0 rfl rfl (lx_get hl rfl) ?_
  refine ob1 hm (fun q1 e2 hm => ?_)
  refine k_getR (pc := 1) (z := 1) (k := 4) (index := 33) B hR I (by decide) (by decide) mF_T_33 rfl (fun _ _ => rfl) e2 d_T_letter_1 ?_
  refine ob1 hm (fun a3 e4 hm => ?_)
  have hm_5 := hm; have hl_5 := hl; have I_5 := I
  subst e4
  have hm := hm_5; have hl := hl_5; have I := I_5
  refine ob1 hm (fun q6 e7 hm => ?_)
  refine k_getRN (pc := 4) (z := 2) (k := 2) (index := 88) B hR I (by decide) (by decide) nF_T_88 rfl (fun _ _ => rfl) e7 d_T_letter_4 ?_
  refine q_astore_n (pc := 7) (i := 2) (v := va_rf q6) (lo' := [some (.ref p0), some (.int p1), some (va_rf q6)]) hx hb d_T_letter_7 rfl (va_rf_isRef _) hl (Nat.le_of_ble_eq_true rfl) (lx_ci rfl) rfl (fun ls hl => ?_)
  refine q_aload_n (pc := 8) (i := 2) (v := va_rf q6) hx hb d_T_letter_8 rfl (va_rf_isRef _) (lx_get hl rfl) ?_
  refine oom hm (fun e8 hm => ?_) (fun a9 e8 hm => ?_)
  · have hm_12 := hm; have hl_12 := hl; have I_12 := I
    subst e8
    have hm := hm_12; have hl := hl_12; have I := I_12
    refine lv_ifnonnullN (pc := 9) hx hb d_T_letter_9 ?_
    cases hm
    exact k_throw (X := exN 1) (pc := 12) B hR hE hf hl rfl I (fun s' hv hz => thA_1 hR (fun w hw => B.1.2.2.2.2 w (List.mem_cons_of_mem _ hw)) hv hz) (by decide +kernel) thC_1 thI_1 thN_1 (Nat.le_of_ble_eq_true rfl) (Nat.le_of_ble_eq_true rfl) (Nat.le_refl _) (Nat.le_refl _) d_T_letter_12 d_T_letter_15 d_T_letter_16 d_T_letter_19
  · have hm_12 := hm; have hl_12 := hl; have I_12 := I
    subst e8
    have hm := hm_12; have hl := hl_12; have I := I_12
    refine lv_ifnonnull (pc := 9) (tgt := 20) hx hb d_T_letter_9 (by decide) ?_
    refine lv_iload_n (pc := 20) (i := 1) hx hb d_T_letter_20 rfl (lx_get hl rfl) ?_
    refine lv_if_lt (pc := 21) (tgt := 32) hx hb d_T_letter_21 (by decide) (fun hcc => ?_) (fun hcc => ?_)
    · have hm := ift hcc hm
      cases hm
      exact k_throw (X := exN 2) (pc := 32) B hR hE hf hl rfl I (fun s' hv hz => thA_2 hR (fun w hw => B.1.2.2.2.2 w (List.mem_cons_of_mem _ hw)) hv hz) (by decide +kernel) thC_2 thI_2 thN_2 (Nat.le_of_ble_eq_true rfl) (Nat.le_of_ble_eq_true rfl) (Nat.le_refl _) (Nat.le_refl _) d_T_letter_32 d_T_letter_35 d_T_letter_36 d_T_letter_39
    · have hm := iff' hcc hm
      refine lv_iload_n (pc := 24) (i := 1) hx hb d_T_letter_24 rfl (lx_get hl rfl) ?_
      refine q_aload_n (pc := 25) (i := 2) (v := .ref a9) hx hb d_T_letter_25 rfl rfl (lx_get hl rfl) ?_
      refine oifk hm (fun hk hm => ?_)
      refine ob1 hm (fun x11 e10 hm => ?_)
      refine k_callV (pc := 26) (As := []) (rest := [.int p1]) (b := a9) B hR hl rfl I (c_Str_length hR e10) kw_T_92 (by decide) hk rfl (Nat.le_of_ble_eq_true rfl) (Nat.le_of_ble_eq_true rfl) rfl (by simp [cat_i, cat_r, cat_l, va_rf_cat]) d_T_letter_26 (Nat.zero_le _) (Nat.zero_le _) (fun H locs I => ?_)
      refine lv_icmp_lt (pc := 29) (tgt := 40) hx hb d_T_letter_29 (by decide) (fun hcc => ?_) (fun hcc => ?_)
      · have hm := ift hcc hm
        cases hm
      · have hm := iff' hcc hm
        cases hm
        exact k_throw (X := exN 2) (pc := 32) B hR hE hf hl rfl I (fun s' hv hz => thA_2 hR (fun w hw => B.1.2.2.2.2 w (List.mem_cons_of_mem _ hw)) hv hz) (by decide +kernel) thC_2 thI_2 thN_2 (Nat.le_of_ble_eq_true rfl) (Nat.le_of_ble_eq_true rfl) (Nat.le_refl _) (Nat.le_refl _) d_T_letter_32 d_T_letter_35 d_T_letter_36 d_T_letter_39
def x_T_key (N b0 : Nat) (K : cS) (p0 : Nat) (p1 : Int32) (S : cS) : Option Int32 :=
  b1 (gR b0 K S 1 4 p0) (fun q1 => b1 q1 (fun a3 => b1 (gR b0 K S 2 3 a3) (fun q6 => om q6 (none) (fun a9 => if p1 < 0 then (some (-1)) else (ifk b0 K S 6 a9 (b1 (x_Str_length N b0 K a9 S) (fun x11 => if x11 ≤ p1 then (some (-1)) else (ifk b0 K S 6 a9 (b1 (x_Str_charAt N b0 K a9 p1 S) (fun x13 => some x13))))))))))
set_option maxRecDepth 100000 in
set_option maxHeartbeats 4000000 in
theorem c_T_key {p0 : Nat} {p1 : Int32} {S : cS} {r : Int32} (hR : CR b0 K Z) (hm : x_T_key N b0 K p0 p1 S = some r) : Ct l D vwCl (tyL dA) b0 Z y_T_key (.code y_T_key cb_T_key 3 (some .int) :: wsA) 7 205 [.ref p0, .int p1] (cH dA b0 S hp0) sz (some (.int r)) (cH dA b0 S hp0) 0 0 := by
  refine ct_ofF (cc := cb_T_key) (maxL := 3) (ret := (some .int)) (lo0 := [some (.ref p0), some (.int p1), none]) hR.1 (by decide +kernel) rfl (by simp [lg_sl, cat_i, cat_r, cat_l, va_rf_cat]) rfl (by simp [lx_all, lv_args, cat_i, cat_r, cat_l, va_rf_cat]) ?_
  intro p e s m args below meth c ls B hnm hl I
  obtain ⟨hx, hb, -⟩ := B.1
  unfold x_T_key at hm
  refine q_aload_n (pc := 0) (i := 0) (v := .ref p0) hx hb d_T_key_0 rfl rfl (lx_get hl rfl) ?_
  refine ob1 hm (fun q1 e2 hm => ?_)
  refine k_getR (pc := 1) (z := 1) (k := 4) (index := 33) B hR I (by decide) (by decide) mF_T_33 rfl (fun _ _ => rfl) e2 d_T_key_1 ?_
  refine ob1 hm (fun a3 e4 hm => ?_)
  have hm_5 := hm; have hl_5 := hl; have I_5 := I
  subst e4
  have hm := hm_5; have hl := hl_5; have I := I_5
  refine ob1 hm (fun q6 e7 hm => ?_)
  refine k_getRN (pc := 4) (z := 2) (k := 3) (index := 101) B hR I (by decide) (by decide) nF_T_101 rfl (fun _ _ => rfl) e7 d_T_key_4 ?_
  refine q_astore_n (pc := 7) (i := 2) (v := va_rf q6) (lo' := [some (.ref p0), some (.int p1), some (va_rf q6)]) hx hb d_T_key_7 rfl (va_rf_isRef _) hl (Nat.le_of_ble_eq_true rfl) (lx_ci rfl) rfl (fun ls hl => ?_)
  refine q_aload_n (pc := 8) (i := 2) (v := va_rf q6) hx hb d_T_key_8 rfl (va_rf_isRef _) (lx_get hl rfl) ?_
  refine oom hm (fun e8 hm => ?_) (fun a9 e8 hm => ?_)
  · have hm_14 := hm; have hl_14 := hl; have I_14 := I
    subst e8
    have hm := hm_14; have hl := hl_14; have I := I_14
    refine lv_ifnonnullN (pc := 9) hx hb d_T_key_9 ?_
    cases hm
  · have hm_14 := hm; have hl_14 := hl; have I_14 := I
    subst e8
    have hm := hm_14; have hl := hl_14; have I := I_14
    refine lv_ifnonnull (pc := 9) (tgt := 20) hx hb d_T_key_9 (by decide) ?_
    refine lv_iload_n (pc := 20) (i := 1) hx hb d_T_key_20 rfl (lx_get hl rfl) ?_
    refine lv_if_lt (pc := 21) (tgt := 40) hx hb d_T_key_21 (by decide) (fun hcc => ?_) (fun hcc => ?_)
    · have hm := ift hcc hm
      refine lv_iconst (pc := 40) (v := (-1)) hx hb d_T_key_40 (by decide) ?_
      cases hm
      exact q_iret (pc := 41) B I rfl d_T_key_41
    · have hm := iff' hcc hm
      refine lv_iload_n (pc := 24) (i := 1) hx hb d_T_key_24 rfl (lx_get hl rfl) ?_
      refine q_aload_n (pc := 25) (i := 2) (v := .ref a9) hx hb d_T_key_25 rfl rfl (lx_get hl rfl) ?_
      refine oifk hm (fun hk hm => ?_)
      refine ob1 hm (fun x11 e10 hm => ?_)
      refine k_callV (pc := 26) (As := []) (rest := [.int p1]) (b := a9) B hR hl rfl I (c_Str_length hR e10) kw_T_92 (by decide) hk rfl (Nat.le_of_ble_eq_true rfl) (Nat.le_of_ble_eq_true rfl) rfl (by simp [cat_i, cat_r, cat_l, va_rf_cat]) d_T_key_26 (Nat.le_refl _) (Nat.le_refl _) (fun H locs I => ?_)
      refine lv_icmp_ge (pc := 29) (tgt := 40) hx hb d_T_key_29 (by decide) (fun hcc => ?_) (fun hcc => ?_)
      · have hm := ift hcc hm
        refine lv_iconst (pc := 40) (v := (-1)) hx hb d_T_key_40 (by decide) ?_
        cases hm
        exact q_iret (pc := 41) B I rfl d_T_key_41
      · have hm := iff' hcc hm
        refine q_aload_n (pc := 32) (i := 2) (v := .ref a9) hx hb d_T_key_32 rfl rfl (lx_get hl rfl) ?_
        refine lv_iload_n (pc := 33) (i := 1) hx hb d_T_key_33 rfl (lx_get hl rfl) ?_
        refine oifk hm (fun hk hm => ?_)
        refine ob1 hm (fun x13 e12 hm => ?_)
        refine k_callV (pc := 34) (As := [.int p1]) (rest := []) (b := a9) B hR hl rfl I (c_Str_charAt hR e12) kw_T_97 (by decide) hk rfl (Nat.le_of_ble_eq_true rfl) (Nat.le_of_ble_eq_true rfl) rfl (by simp [cat_i, cat_r, cat_l, va_rf_cat]) d_T_key_34 (Nat.le_refl _) (Nat.le_refl _) (fun H locs I => ?_)
        refine lv_goto (pc := 37) (tgt := 41) hx hb d_T_key_37 (by decide) ?_
        cases hm
        exact q_iret (pc := 41) B I rfl d_T_key_41
def xt_T_key (N b0 : Nat) (K : cS) (p0 : Nat) (p1 : Int32) (S : cS) : Option Nat :=
  b1 (gR b0 K S 1 4 p0) (fun q1 => b1 q1 (fun a3 => b1 (gR b0 K S 2 3 a3) (fun q6 => om q6 (some 1) (fun a9 => none))))
set_option maxRecDepth 100000 in
set_option maxHeartbeats 4000000 in
theorem t_T_key {p0 : Nat} {p1 : Int32} {S : cS} {r : Nat} (hR : CR b0 K Z) (hf : l.flags = pinnedFlags ++ [noTraceFlag]) (hm : xt_T_key N b0 K p0 p1 S = some r) : CtT l D vwCl (tyL dA) b0 Z y_T_key (.code y_T_key cb_T_key 3 (some .int) :: wsA) 7 205 [.ref p0, .int p1] (cH dA b0 S hp0) sz (exN r) := by
  refine ct_ofT (cc := cb_T_key) (maxL := 3) (ret := (some .int)) (lo0 := [some (.ref p0), some (.int p1), none]) hR.1 (by decide +kernel) rfl (by simp [lg_sl, cat_i, cat_r, cat_l, va_rf_cat]) rfl (by simp [lx_all, lv_args, cat_i, cat_r, cat_l, va_rf_cat]) ?_
  intro p e s m args below meth c ls B hE hl I
  obtain ⟨hx, hb, -⟩ := B.1
  unfold xt_T_key at hm
  refine q_aload_n (pc := 0) (i := 0) (v := .ref p0) hx hb d_T_key_0 rfl rfl (lx_get hl rfl) ?_
  refine ob1 hm (fun q1 e2 hm => ?_)
  refine k_getR (pc := 1) (z := 1) (k := 4) (index := 33) B hR I (by decide) (by decide) mF_T_33 rfl (fun _ _ => rfl) e2 d_T_key_1 ?_
  refine ob1 hm (fun a3 e4 hm => ?_)
  have hm_5 := hm; have hl_5 := hl; have I_5 := I
  subst e4
  have hm := hm_5; have hl := hl_5; have I := I_5
  refine ob1 hm (fun q6 e7 hm => ?_)
  refine k_getRN (pc := 4) (z := 2) (k := 3) (index := 101) B hR I (by decide) (by decide) nF_T_101 rfl (fun _ _ => rfl) e7 d_T_key_4 ?_
  refine q_astore_n (pc := 7) (i := 2) (v := va_rf q6) (lo' := [some (.ref p0), some (.int p1), some (va_rf q6)]) hx hb d_T_key_7 rfl (va_rf_isRef _) hl (Nat.le_of_ble_eq_true rfl) (lx_ci rfl) rfl (fun ls hl => ?_)
  refine q_aload_n (pc := 8) (i := 2) (v := va_rf q6) hx hb d_T_key_8 rfl (va_rf_isRef _) (lx_get hl rfl) ?_
  refine oom hm (fun e8 hm => ?_) (fun a9 e8 hm => ?_)
  · have hm_10 := hm; have hl_10 := hl; have I_10 := I
    subst e8
    have hm := hm_10; have hl := hl_10; have I := I_10
    refine lv_ifnonnullN (pc := 9) hx hb d_T_key_9 ?_
    cases hm
    exact k_throw (X := exN 1) (pc := 12) B hR hE hf hl rfl I (fun s' hv hz => thA_1 hR (fun w hw => B.1.2.2.2.2 w (List.mem_cons_of_mem _ hw)) hv hz) (by decide +kernel) thC_1 thI_1 thN_1 (Nat.le_of_ble_eq_true rfl) (Nat.le_of_ble_eq_true rfl) (Nat.le_refl _) (Nat.le_refl _) d_T_key_12 d_T_key_15 d_T_key_16 d_T_key_19
  · have hm_10 := hm; have hl_10 := hl; have I_10 := I
    subst e8
    have hm := hm_10; have hl := hl_10; have I := I_10
    refine lv_ifnonnull (pc := 9) (tgt := 20) hx hb d_T_key_9 (by decide) ?_
    cases hm
end CW
