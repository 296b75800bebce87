/-! The law's other wrappers. -/
theorem two_h {c : Code} {a b d k a' b' d' k' : Nat} (h : c.exceptionTable.toList.map (fun h => (h.startPc, h.endPc, h.handlerPc, h.catchType)) = [(a, b, d, k), (a', b', d', k')]) : ∃ x x', c.exceptionTable.toList = [x, x'] ∧ (x.startPc = a ∧ x.endPc = b ∧ x.handlerPc = d ∧ x.catchType = k) ∧ x'.startPc = a' ∧ x'.endPc = b' ∧ x'.handlerPc = d' ∧ x'.catchType = k' := by
  cases hl : c.exceptionTable.toList with
  | nil => rw [hl] at h; cases h
  | cons x t =>
    rw [hl] at h
    cases t with
    | nil => simp at h
    | cons y t =>
      cases t with
      | nil => simp only [List.map_cons, List.map_nil, List.cons.injEq, Prod.mk.injEq, and_true] at h; exact ⟨x, y, rfl, h.1, h.2.1, h.2.2.1, h.2.2.2.1, h.2.2.2.2⟩
      | cons z t => simp at h
abbrev cb_W_written : ByteArray := method_4_code
def y_W_written : MethodName := ⟨RLW, "written", "(LTableText;I[J)I"⟩
theorem kw_L_written : kW RLW 17 (cC 1) y_T_written (.code y_T_written cb_T_written 2 (some .int)) 1 := ⟨gV (List.mem_filter.mpr ⟨List.mem_of_getElem? (i := 1062) (by decide +kernel), by decide +kernel⟩) (List.mem_filter.mpr ⟨List.mem_of_getElem? (i := 1063) (by decide +kernel), by decide +kernel⟩) (List.mem_filter.mpr ⟨List.mem_of_getElem? (i := 1064) (by decide +kernel), by decide +kernel⟩) (List.mem_filter.mpr ⟨List.mem_of_getElem? (i := 96) (by decide +kernel), by decide +kernel⟩) (List.mem_filter.mpr ⟨List.mem_of_getElem? (i := 1065) (by decide +kernel), by decide +kernel⟩), rfl, by decide, by decide, by decide +kernel⟩
theorem d_W_written_0 : decode cb_W_written 0 = .ok (.aload_n 2, 1) := by decide +kernel
theorem d_W_written_1 : decode cb_W_written 1 = .ok (.iconst 0, 1) := by decide +kernel
theorem d_W_written_2 : decode cb_W_written 2 = .ok (.aload_n 0, 1) := by decide +kernel
theorem d_W_written_3 : decode cb_W_written 3 = .ok (.iload_n 1, 1) := by decide +kernel
theorem d_W_written_4 : decode cb_W_written 4 = .ok (.invokevirtual 17, 3) := by decide +kernel
theorem d_W_written_7 : decode cb_W_written 7 = .ok (.i2l, 1) := by decide +kernel
theorem d_W_written_8 : decode cb_W_written 8 = .ok (.lastore, 1) := by decide +kernel
theorem d_W_written_9 : decode cb_W_written 9 = .ok (.goto 6, 3) := by decide +kernel
theorem d_W_written_12 : decode cb_W_written 12 = .ok (.astore_n 3, 1) := by decide +kernel
theorem d_W_written_13 : decode cb_W_written 13 = .ok (.iconst 1, 1) := by decide +kernel
theorem d_W_written_14 : decode cb_W_written 14 = .ok (.ireturn, 1) := by decide +kernel
theorem d_W_written_15 : decode cb_W_written 15 = .ok (.iconst 0, 1) := by decide +kernel
theorem d_W_written_16 : decode cb_W_written 16 = .ok (.ireturn, 1) := by decide +kernel
section WR_written
variable {l : Launch} {D : va_G} {dA : Nat → ClassId} {hp0 : aH} {sz b0 N : Nat} {K : cS} {Z : State → Prop}
set_option maxRecDepth 100000 in
set_option maxHeartbeats 4000000 in
theorem w_written (p1 : Int32) {S S' : cS} {r : Int32} {f : Nat → Int64} (hR : CR b0 K Z) (hk : kd b0 K S b0 = 1) (ho : hp0 (b0 + 25) = some (.inl (dA 4, 1, .inr (.inl f)))) (hm : x_T_written N b0 K b0 p1 S = some r) : Ct l D vwCl (tyL dA) b0 Z y_W_written (.codeWith y_W_written cb_W_written 4 (some .int) [(0, 9, 12, 21)] :: wsA) 10 260 [.ref b0, .int p1, .ref (b0 + 25)] (cH dA b0 S hp0) sz (some (.int 0)) (cH dA b0 S (oH dA b0 hp0 (va_up f 0 r.toInt64))) 0 0 := by
  refine ct_ofW (cc := cb_W_written) (maxL := 4) (ret := some .int) (lo0 := [some (.ref b0), some (.int p1), some (.ref (b0 + 25)), none]) hR.1 (by decide +kernel) rfl (by simp [lg_sl, cat_i, cat_r, cat_l, va_rf_cat]) rfl (by simp [lx_all, lv_args, cat_i, cat_r, cat_l, va_rf_cat]) ?_
  intro p e s m args below meth c ls B hE hl I
  obtain ⟨hx, hb, -⟩ := B.1
  refine q_aload_n (pc := 0) (i := 2) (v := .ref (b0 + 25)) hx hb d_W_written_0 rfl rfl (lx_get hl rfl) ?_
  refine lv_iconst (pc := 1) (v := 0) hx hb d_W_written_1 (by decide) ?_
  refine q_aload_n (pc := 2) (i := 0) (v := .ref b0) hx hb d_W_written_2 rfl rfl (lx_get hl rfl) ?_
  refine lv_iload_n (pc := 3) (i := 1) hx hb d_W_written_3 rfl (lx_get hl rfl) ?_
  refine k_callV (pc := 4) (As := [.int p1]) (rest := [.int 0, .ref (b0 + 25)]) (b := b0) (z := 1) B hR hl rfl I (c_T_written hR hm) kw_L_written (by decide) hk rfl (Nat.le_of_ble_eq_true rfl) (Nat.le_of_ble_eq_true rfl) rfl (by simp [cat_i, cat_r, cat_l, va_rf_cat]) d_W_written_4 (Nat.le_refl _) (Nat.le_refl _) (fun H locs I => ?_)
  refine lv_i2l (pc := 7) hx hb d_W_written_7 rfl ?_
  refine q_last (pc := 8) (t0 := 4) (n := 1) (f := f) (i := 0) B I (by rw [cH_25]; exact ho) (by omega) rfl (vp_in_iff.mpr (by decide)) d_W_written_8 (fun H locs I => ?_)
  have I := I.of cH_out
  refine lv_goto (pc := 9) (tgt := 15) hx hb d_W_written_9 (by decide) ?_
  refine lv_iconst (pc := 15) (v := 0) hx hb d_W_written_15 (by decide) ?_
  exact q_iretA (sz0 := sz) (pc := 16) B I rfl rfl rfl rfl d_W_written_16
set_option maxRecDepth 100000 in
set_option maxHeartbeats 4000000 in
theorem wt_written_2 (p1 : Int32) {S : cS} (hR : CR b0 K Z) (hf : l.flags = pinnedFlags ++ [noTraceFlag]) (hk : kd b0 K S b0 = 1) (hm : xt_T_written N b0 K b0 p1 S = some 2) : Ct l D vwCl (tyL dA) b0 Z y_W_written (.codeWith y_W_written cb_W_written 4 (some .int) [(0, 9, 12, 21)] :: wsA) 10 260 [.ref b0, .int p1, .ref (b0 + 25)] (cH dA b0 S hp0) sz (some (.int 1)) (cH dA b0 S hp0) 1 6 := by
  refine ct_ofW (cc := cb_W_written) (maxL := 4) (ret := some .int) (lo0 := [some (.ref b0), some (.int p1), some (.ref (b0 + 25)), none]) hR.1 (by decide +kernel) rfl (by simp [lg_sl, cat_i, cat_r, cat_l, va_rf_cat]) rfl (by simp [lx_all, lv_args, cat_i, cat_r, cat_l, va_rf_cat]) ?_
  intro p e s m args below meth c ls B hE hl I
  obtain ⟨hx, hb, -⟩ := B.1
  refine q_aload_n (pc := 0) (i := 2) (v := .ref (b0 + 25)) hx hb d_W_written_0 rfl rfl (lx_get hl rfl) ?_
  refine lv_iconst (pc := 1) (v := 0) hx hb d_W_written_1 (by decide) ?_
  refine q_aload_n (pc := 2) (i := 0) (v := .ref b0) hx hb d_W_written_2 rfl rfl (lx_get hl rfl) ?_
  refine lv_iload_n (pc := 3) (i := 1) hx hb d_W_written_3 rfl (lx_get hl rfl) ?_
  refine k_callT (pc := 4) (X := exN 2) (As := [.int p1]) (rest := [.int 0, .ref (b0 + 25)]) (b := b0) (z := 1) B hR hl rfl I (t_T_written hR hf hm) kw_L_written (by decide) hk rfl (Nat.le_of_ble_eq_true rfl) (Nat.le_of_ble_eq_true rfl) rfl (by simp [cat_i, cat_r, cat_l, va_rf_cat]) d_W_written_4 (Nat.le_refl _) (Nat.le_refl _) (fun T' locs a cell I hc hv hcls X => ?_)
  obtain ⟨x, hxs, q1, q2, q3, q4⟩ := one_h hE
  have hcast := va_Nw.use (A := args) rfl (ex_at (hR.2 s B.2.2.2.2.1).2.2.2.2.2.2.2.2.2.2.2.2.2.2.2.1 9 rfl)
  obtain ⟨vm', X1, go⟩ := catch1 X B.1.2.2.2.1 hxs (g := F0 m 4 ls [.int 0, .ref (b0 + 25)]) rfl (by show covers x 4 = true; simp [covers, q1, q2]) q4 (by decide) (B.1.2.2.2.2 _ (List.mem_cons_of_mem _ mK_21)) hcast hc hv hcls
  rw [q3] at go
  have w : W p l e { frames := 10, cells := 1, slots := 6, locals := 260 } s m args below meth c T'.heap locs (0 + 1) (0 + 6) (MQ below (CQ D vwCl b0 (some (.int 1)) (cH dA b0 S hp0) (sz + 1)) args s 1 6 (fun q => b0 ≤ q)) (F0 m 12 ls [.ref a]) := by
    refine q_astore_n (pc := 12) (i := 3) (v := .ref a) (lo' := [some (.ref b0), some (.int p1), some (.ref (b0 + 25)), some (.ref a)]) hx hb d_W_written_12 rfl rfl hl (Nat.le_of_ble_eq_true rfl) (lx_cr rfl) rfl (fun ls hl => ?_)
    refine lv_iconst (pc := 13) (v := 1) hx hb d_W_written_13 (by decide) ?_
    exact q_iretA (sz0 := sz) (pc := 14) B I rfl rfl rfl rfl d_W_written_14
  obtain ⟨t, st, hq⟩ := w (T'.setVm vm') rfl X1
  exact ⟨t, go _ st, hq⟩
end WR_written
abbrev cb_W_down : ByteArray := method_5_code
def y_W_down : MethodName := ⟨RLW, "down", "(LTableText;I[J)I"⟩
theorem kw_L_down : kW RLW 23 (cC 1) y_T_down (.code y_T_down cb_T_down 3 (some .int)) 1 := ⟨gV (List.mem_filter.mpr ⟨List.mem_of_getElem? (i := 1084) (by decide +kernel), by decide +kernel⟩) (List.mem_filter.mpr ⟨List.mem_of_getElem? (i := 1085) (by decide +kernel), by decide +kernel⟩) (List.mem_filter.mpr ⟨List.mem_of_getElem? (i := 1086) (by decide +kernel), by decide +kernel⟩) (List.mem_filter.mpr ⟨List.mem_of_getElem? (i := 96) (by decide +kernel), by decide +kernel⟩) (List.mem_filter.mpr ⟨List.mem_of_getElem? (i := 1087) (by decide +kernel), by decide +kernel⟩), rfl, by decide, by decide, by decide +kernel⟩
theorem d_W_down_0 : decode cb_W_down 0 = .ok (.aload_n 2, 1) := by decide +kernel
theorem d_W_down_1 : decode cb_W_down 1 = .ok (.iconst 0, 1) := by decide +kernel
theorem d_W_down_2 : decode cb_W_down 2 = .ok (.aload_n 0, 1) := by decide +kernel
theorem d_W_down_3 : decode cb_W_down 3 = .ok (.iload_n 1, 1) := by decide +kernel
theorem d_W_down_4 : decode cb_W_down 4 = .ok (.invokevirtual 23, 3) := by decide +kernel
theorem d_W_down_7 : decode cb_W_down 7 = .ok (.i2l, 1) := by decide +kernel
theorem d_W_down_8 : decode cb_W_down 8 = .ok (.lastore, 1) := by decide +kernel
theorem d_W_down_9 : decode cb_W_down 9 = .ok (.goto 6, 3) := by decide +kernel
theorem d_W_down_12 : decode cb_W_down 12 = .ok (.astore_n 3, 1) := by decide +kernel
theorem d_W_down_13 : decode cb_W_down 13 = .ok (.iconst 1, 1) := by decide +kernel
theorem d_W_down_14 : decode cb_W_down 14 = .ok (.ireturn, 1) := by decide +kernel
theorem d_W_down_15 : decode cb_W_down 15 = .ok (.iconst 0, 1) := by decide +kernel
theorem d_W_down_16 : decode cb_W_down 16 = .ok (.ireturn, 1) := by decide +kernel
section WR_down
variable {l : Launch} {D : va_G} {dA : Nat → ClassId} {hp0 : aH} {sz b0 N : Nat} {K : cS} {Z : State → Prop}
set_option maxRecDepth 100000 in
set_option maxHeartbeats 4000000 in
theorem w_down (p1 : Int32) {S S' : cS} {r : Int32} {f : Nat → Int64} (hR : CR b0 K Z) (hk : kd b0 K S b0 = 1) (ho : hp0 (b0 + 25) = some (.inl (dA 4, 1, .inr (.inl f)))) (hm : x_T_down N b0 K b0 p1 S = some (r, S')) : Ct l D vwCl (tyL dA) b0 Z y_W_down (.codeWith y_W_down cb_W_down 4 (some .int) [(0, 9, 12, 21)] :: wsA) 10 260 [.ref b0, .int p1, .ref (b0 + 25)] (cH dA b0 S hp0) sz (some (.int 0)) (cH dA b0 S' (oH dA b0 hp0 (va_up f 0 r.toInt64))) 0 0 := by
  refine ct_ofW (cc := cb_W_down) (maxL := 4) (ret := some .int) (lo0 := [some (.ref b0), some (.int p1), some (.ref (b0 + 25)), none]) hR.1 (by decide +kernel) rfl (by simp [lg_sl, cat_i, cat_r, cat_l, va_rf_cat]) rfl (by simp [lx_all, lv_args, cat_i, cat_r, cat_l, va_rf_cat]) ?_
  intro p e s m args below meth c ls B hE hl I
  obtain ⟨hx, hb, -⟩ := B.1
  refine q_aload_n (pc := 0) (i := 2) (v := .ref (b0 + 25)) hx hb d_W_down_0 rfl rfl (lx_get hl rfl) ?_
  refine lv_iconst (pc := 1) (v := 0) hx hb d_W_down_1 (by decide) ?_
  refine q_aload_n (pc := 2) (i := 0) (v := .ref b0) hx hb d_W_down_2 rfl rfl (lx_get hl rfl) ?_
  refine lv_iload_n (pc := 3) (i := 1) hx hb d_W_down_3 rfl (lx_get hl rfl) ?_
  refine k_callV (pc := 4) (As := [.int p1]) (rest := [.int 0, .ref (b0 + 25)]) (b := b0) (z := 1) B hR hl rfl I (c_T_down hR hm) kw_L_down (by decide) hk rfl (Nat.le_of_ble_eq_true rfl) (Nat.le_of_ble_eq_true rfl) rfl (by simp [cat_i, cat_r, cat_l, va_rf_cat]) d_W_down_4 (Nat.le_refl _) (Nat.le_refl _) (fun H locs I => ?_)
  refine lv_i2l (pc := 7) hx hb d_W_down_7 rfl ?_
  refine q_last (pc := 8) (t0 := 4) (n := 1) (f := f) (i := 0) B I (by rw [cH_25]; exact ho) (by omega) rfl (vp_in_iff.mpr (by decide)) d_W_down_8 (fun H locs I => ?_)
  have I := I.of cH_out
  refine lv_goto (pc := 9) (tgt := 15) hx hb d_W_down_9 (by decide) ?_
  refine lv_iconst (pc := 15) (v := 0) hx hb d_W_down_15 (by decide) ?_
  exact q_iretA (sz0 := sz) (pc := 16) B I rfl rfl rfl rfl d_W_down_16
set_option maxRecDepth 100000 in
set_option maxHeartbeats 4000000 in
theorem wt_down_2 (p1 : Int32) {S : cS} (hR : CR b0 K Z) (hf : l.flags = pinnedFlags ++ [noTraceFlag]) (hk : kd b0 K S b0 = 1) (hm : xt_T_down N b0 K b0 p1 S = some 2) : Ct l D vwCl (tyL dA) b0 Z y_W_down (.codeWith y_W_down cb_W_down 4 (some .int) [(0, 9, 12, 21)] :: wsA) 10 260 [.ref b0, .int p1, .ref (b0 + 25)] (cH dA b0 S hp0) sz (some (.int 1)) (cH dA b0 S hp0) 1 6 := by
  refine ct_ofW (cc := cb_W_down) (maxL := 4) (ret := some .int) (lo0 := [some (.ref b0), some (.int p1), some (.ref (b0 + 25)), none]) hR.1 (by decide +kernel) rfl (by simp [lg_sl, cat_i, cat_r, cat_l, va_rf_cat]) rfl (by simp [lx_all, lv_args, cat_i, cat_r, cat_l, va_rf_cat]) ?_
  intro p e s m args below meth c ls B hE hl I
  obtain ⟨hx, hb, -⟩ := B.1
  refine q_aload_n (pc := 0) (i := 2) (v := .ref (b0 + 25)) hx hb d_W_down_0 rfl rfl (lx_get hl rfl) ?_
  refine lv_iconst (pc := 1) (v := 0) hx hb d_W_down_1 (by decide) ?_
  refine q_aload_n (pc := 2) (i := 0) (v := .ref b0) hx hb d_W_down_2 rfl rfl (lx_get hl rfl) ?_
  refine lv_iload_n (pc := 3) (i := 1) hx hb d_W_down_3 rfl (lx_get hl rfl) ?_
  refine k_callT (pc := 4) (X := exN 2) (As := [.int p1]) (rest := [.int 0, .ref (b0 + 25)]) (b := b0) (z := 1) B hR hl rfl I (t_T_down hR hf hm) kw_L_down (by decide) hk rfl (Nat.le_of_ble_eq_true rfl) (Nat.le_of_ble_eq_true rfl) rfl (by simp [cat_i, cat_r, cat_l, va_rf_cat]) d_W_down_4 (Nat.le_refl _) (Nat.le_refl _) (fun T' locs a cell I hc hv hcls X => ?_)
  obtain ⟨x, hxs, q1, q2, q3, q4⟩ := one_h hE
  have hcast := va_Nw.use (A := args) rfl (ex_at (hR.2 s B.2.2.2.2.1).2.2.2.2.2.2.2.2.2.2.2.2.2.2.2.1 9 rfl)
  obtain ⟨vm', X1, go⟩ := catch1 X B.1.2.2.2.1 hxs (g := F0 m 4 ls [.int 0, .ref (b0 + 25)]) rfl (by show covers x 4 = true; simp [covers, q1, q2]) q4 (by decide) (B.1.2.2.2.2 _ (List.mem_cons_of_mem _ mK_21)) hcast hc hv hcls
  rw [q3] at go
  have w : W p l e { frames := 10, cells := 1, slots := 6, locals := 260 } s m args below meth c T'.heap locs (0 + 1) (0 + 6) (MQ below (CQ D vwCl b0 (some (.int 1)) (cH dA b0 S hp0) (sz + 1)) args s 1 6 (fun q => b0 ≤ q)) (F0 m 12 ls [.ref a]) := by
    refine q_astore_n (pc := 12) (i := 3) (v := .ref a) (lo' := [some (.ref b0), some (.int p1), some (.ref (b0 + 25)), some (.ref a)]) hx hb d_W_down_12 rfl rfl hl (Nat.le_of_ble_eq_true rfl) (lx_cr rfl) rfl (fun ls hl => ?_)
    refine lv_iconst (pc := 13) (v := 1) hx hb d_W_down_13 (by decide) ?_
    exact q_iretA (sz0 := sz) (pc := 14) B I rfl rfl rfl rfl d_W_down_14
  obtain ⟨t, st, hq⟩ := w (T'.setVm vm') rfl X1
  exact ⟨t, go _ st, hq⟩
end WR_down
abbrev cb_W_letter : ByteArray := method_7_code
def y_W_letter : MethodName := ⟨RLW, "letter", "(LTableText;I[J)I"⟩
theorem kw_L_letter : kW RLW 30 (cC 1) y_T_letter (.code y_T_letter cb_T_letter 3 (some .int)) 1 := ⟨gV (List.mem_filter.mpr ⟨List.mem_of_getElem? (i := 1102) (by decide +kernel), by decide +kernel⟩) (List.mem_filter.mpr ⟨List.mem_of_getElem? (i := 1103) (by decide +kernel), by decide +kernel⟩) (List.mem_filter.mpr ⟨List.mem_of_getElem? (i := 1104) (by decide +kernel), by decide +kernel⟩) (List.mem_filter.mpr ⟨List.mem_of_getElem? (i := 96) (by decide +kernel), by decide +kernel⟩) (List.mem_filter.mpr ⟨List.mem_of_getElem? (i := 1105) (by decide +kernel), by decide +kernel⟩), rfl, by decide, by decide, by decide +kernel⟩
theorem d_W_letter_0 : decode cb_W_letter 0 = .ok (.aload_n 2, 1) := by decide +kernel
theorem d_W_letter_1 : decode cb_W_letter 1 = .ok (.iconst 0, 1) := by decide +kernel
theorem d_W_letter_2 : decode cb_W_letter 2 = .ok (.aload_n 0, 1) := by decide +kernel
theorem d_W_letter_3 : decode cb_W_letter 3 = .ok (.iload_n 1, 1) := by decide +kernel
theorem d_W_letter_4 : decode cb_W_letter 4 = .ok (.invokevirtual 30, 3) := by decide +kernel
theorem d_W_letter_7 : decode cb_W_letter 7 = .ok (.i2l, 1) := by decide +kernel
theorem d_W_letter_8 : decode cb_W_letter 8 = .ok (.lastore, 1) := by decide +kernel
theorem d_W_letter_9 : decode cb_W_letter 9 = .ok (.goto 9, 3) := by decide +kernel
theorem d_W_letter_12 : decode cb_W_letter 12 = .ok (.astore_n 3, 1) := by decide +kernel
theorem d_W_letter_13 : decode cb_W_letter 13 = .ok (.iconst 1, 1) := by decide +kernel
theorem d_W_letter_14 : decode cb_W_letter 14 = .ok (.ireturn, 1) := by decide +kernel
theorem d_W_letter_15 : decode cb_W_letter 15 = .ok (.astore_n 3, 1) := by decide +kernel
theorem d_W_letter_16 : decode cb_W_letter 16 = .ok (.iconst 2, 1) := by decide +kernel
theorem d_W_letter_17 : decode cb_W_letter 17 = .ok (.ireturn, 1) := by decide +kernel
theorem d_W_letter_18 : decode cb_W_letter 18 = .ok (.iconst 0, 1) := by decide +kernel
theorem d_W_letter_19 : decode cb_W_letter 19 = .ok (.ireturn, 1) := by decide +kernel
section WR_letter
variable {l : Launch} {D : va_G} {dA : Nat → ClassId} {hp0 : aH} {sz b0 N : Nat} {K : cS} {Z : State → Prop}
set_option maxRecDepth 100000 in
set_option maxHeartbeats 4000000 in
theorem w_letter (p1 : Int32) {S S' : cS} {r : Int32} {f : Nat → Int64} (hR : CR b0 K Z) (hk : kd b0 K S b0 = 1) (ho : hp0 (b0 + 25) = some (.inl (dA 4, 1, .inr (.inl f)))) (hm : x_T_letter N b0 K b0 p1 S = some r) : Ct l D vwCl (tyL dA) b0 Z y_W_letter (.codeWith y_W_letter cb_W_letter 4 (some .int) [(0, 9, 12, 15), (0, 9, 15, 21)] :: wsA) 10 260 [.ref b0, .int p1, .ref (b0 + 25)] (cH dA b0 S hp0) sz (some (.int 0)) (cH dA b0 S (oH dA b0 hp0 (va_up f 0 r.toInt64))) 0 0 := by
  refine ct_ofW (cc := cb_W_letter) (maxL := 4) (ret := some .int) (lo0 := [some (.ref b0), some (.int p1), some (.ref (b0 + 25)), none]) hR.1 (by decide +kernel) rfl (by simp [lg_sl, cat_i, cat_r, cat_l, va_rf_cat]) rfl (by simp [lx_all, lv_args, cat_i, cat_r, cat_l, va_rf_cat]) ?_
  intro p e s m args below meth c ls B hE hl I
  obtain ⟨hx, hb, -⟩ := B.1
  refine q_aload_n (pc := 0) (i := 2) (v := .ref (b0 + 25)) hx hb d_W_letter_0 rfl rfl (lx_get hl rfl) ?_
  refine lv_iconst (pc := 1) (v := 0) hx hb d_W_letter_1 (by decide) ?_
  refine q_aload_n (pc := 2) (i := 0) (v := .ref b0) hx hb d_W_letter_2 rfl rfl (lx_get hl rfl) ?_
  refine lv_iload_n (pc := 3) (i := 1) hx hb d_W_letter_3 rfl (lx_get hl rfl) ?_
  refine k_callV (pc := 4) (As := [.int p1]) (rest := [.int 0, .ref (b0 + 25)]) (b := b0) (z := 1) B hR hl rfl I (c_T_letter hR hm) kw_L_letter (by decide) hk rfl (Nat.le_of_ble_eq_true rfl) (Nat.le_of_ble_eq_true rfl) rfl (by simp [cat_i, cat_r, cat_l, va_rf_cat]) d_W_letter_4 (Nat.le_refl _) (Nat.le_refl _) (fun H locs I => ?_)
  refine lv_i2l (pc := 7) hx hb d_W_letter_7 rfl ?_
  refine q_last (pc := 8) (t0 := 4) (n := 1) (f := f) (i := 0) B I (by rw [cH_25]; exact ho) (by omega) rfl (vp_in_iff.mpr (by decide)) d_W_letter_8 (fun H locs I => ?_)
  have I := I.of cH_out
  refine lv_goto (pc := 9) (tgt := 18) hx hb d_W_letter_9 (by decide) ?_
  refine lv_iconst (pc := 18) (v := 0) hx hb d_W_letter_18 (by decide) ?_
  exact q_iretA (sz0 := sz) (pc := 19) B I rfl rfl rfl rfl d_W_letter_19
set_option maxRecDepth 100000 in
set_option maxHeartbeats 4000000 in
theorem wt_letter_1 (p1 : Int32) {S : cS} (hR : CR b0 K Z) (hf : l.flags = pinnedFlags ++ [noTraceFlag]) (hk : kd b0 K S b0 = 1) (hm : xt_T_letter N b0 K b0 p1 S = some 1) : Ct l D vwCl (tyL dA) b0 Z y_W_letter (.codeWith y_W_letter cb_W_letter 4 (some .int) [(0, 9, 12, 15), (0, 9, 15, 21)] :: wsA) 10 260 [.ref b0, .int p1, .ref (b0 + 25)] (cH dA b0 S hp0) sz (some (.int 1)) (cH dA b0 S hp0) 1 6 := by
  refine ct_ofW (cc := cb_W_letter) (maxL := 4) (ret := some .int) (lo0 := [some (.ref b0), some (.int p1), some (.ref (b0 + 25)), none]) hR.1 (by decide +kernel) rfl (by simp [lg_sl, cat_i, cat_r, cat_l, va_rf_cat]) rfl (by simp [lx_all, lv_args, cat_i, cat_r, cat_l, va_rf_cat]) ?_
  intro p e s m args below meth c ls B hE hl I
  obtain ⟨hx, hb, -⟩ := B.1
  refine q_aload_n (pc := 0) (i := 2) (v := .ref (b0 + 25)) hx hb d_W_letter_0 rfl rfl (lx_get hl rfl) ?_
  refine lv_iconst (pc := 1) (v := 0) hx hb d_W_letter_1 (by decide) ?_
  refine q_aload_n (pc := 2) (i := 0) (v := .ref b0) hx hb d_W_letter_2 rfl rfl (lx_get hl rfl) ?_
  refine lv_iload_n (pc := 3) (i := 1) hx hb d_W_letter_3 rfl (lx_get hl rfl) ?_
  refine k_callT (pc := 4) (X := exN 1) (As := [.int p1]) (rest := [.int 0, .ref (b0 + 25)]) (b := b0) (z := 1) B hR hl rfl I (t_T_letter hR hf hm) kw_L_letter (by decide) hk rfl (Nat.le_of_ble_eq_true rfl) (Nat.le_of_ble_eq_true rfl) rfl (by simp [cat_i, cat_r, cat_l, va_rf_cat]) d_W_letter_4 (Nat.le_refl _) (Nat.le_refl _) (fun T' locs a cell I hc hv hcls X => ?_)
  obtain ⟨x, x', hxs, ⟨q1, q2, q3, q4⟩, -⟩ := two_h hE
  have hcast := va_Nw.use (A := args) rfl (ex_at (hR.2 s B.2.2.2.2.1).2.2.2.2.2.2.2.2.2.2.2.2.2.2.2.1 8 rfl)
  obtain ⟨vm', X1, go⟩ := catch1 X B.1.2.2.2.1 hxs (g := F0 m 4 ls [.int 0, .ref (b0 + 25)]) rfl (by show covers x 4 = true; simp [covers, q1, q2]) q4 (by decide) (B.1.2.2.2.2 _ (List.mem_cons_of_mem _ mK_15)) hcast hc hv hcls
  rw [q3] at go
  have w : W p l e { frames := 10, cells := 1, slots := 6, locals := 260 } s m args below meth c T'.heap locs (0 + 1) (0 + 6) (MQ below (CQ D vwCl b0 (some (.int 1)) (cH dA b0 S hp0) (sz + 1)) args s 1 6 (fun q => b0 ≤ q)) (F0 m 12 ls [.ref a]) := by
    refine q_astore_n (pc := 12) (i := 3) (v := .ref a) (lo' := [some (.ref b0), some (.int p1), some (.ref (b0 + 25)), some (.ref a)]) hx hb d_W_letter_12 rfl rfl hl (Nat.le_of_ble_eq_true rfl) (lx_cr rfl) rfl (fun ls hl => ?_)
    refine lv_iconst (pc := 13) (v := 1) hx hb d_W_letter_13 (by decide) ?_
    exact q_iretA (sz0 := sz) (pc := 14) B I rfl rfl rfl rfl d_W_letter_14
  obtain ⟨t, st, hq⟩ := w (T'.setVm vm') rfl X1
  exact ⟨t, go _ st, hq⟩
set_option maxRecDepth 100000 in
set_option maxHeartbeats 4000000 in
theorem wt_letter_2 (p1 : Int32) {S : cS} (hR : CR b0 K Z) (hf : l.flags = pinnedFlags ++ [noTraceFlag]) (hk : kd b0 K S b0 = 1) (hm : xt_T_letter N b0 K b0 p1 S = some 2) : Ct l D vwCl (tyL dA) b0 Z y_W_letter (.codeWith y_W_letter cb_W_letter 4 (some .int) [(0, 9, 12, 15), (0, 9, 15, 21)] :: wsA) 10 260 [.ref b0, .int p1, .ref (b0 + 25)] (cH dA b0 S hp0) sz (some (.int 2)) (cH dA b0 S hp0) 1 6 := by
  refine ct_ofW (cc := cb_W_letter) (maxL := 4) (ret := some .int) (lo0 := [some (.ref b0), some (.int p1), some (.ref (b0 + 25)), none]) hR.1 (by decide +kernel) rfl (by simp [lg_sl, cat_i, cat_r, cat_l, va_rf_cat]) rfl (by simp [lx_all, lv_args, cat_i, cat_r, cat_l, va_rf_cat]) ?_
  intro p e s m args below meth c ls B hE hl I
  obtain ⟨hx, hb, -⟩ := B.1
  refine q_aload_n (pc := 0) (i := 2) (v := .ref (b0 + 25)) hx hb d_W_letter_0 rfl rfl (lx_get hl rfl) ?_
  refine lv_iconst (pc := 1) (v := 0) hx hb d_W_letter_1 (by decide) ?_
  refine q_aload_n (pc := 2) (i := 0) (v := .ref b0) hx hb d_W_letter_2 rfl rfl (lx_get hl rfl) ?_
  refine lv_iload_n (pc := 3) (i := 1) hx hb d_W_letter_3 rfl (lx_get hl rfl) ?_
  refine k_callT (pc := 4) (X := exN 2) (As := [.int p1]) (rest := [.int 0, .ref (b0 + 25)]) (b := b0) (z := 1) B hR hl rfl I (t_T_letter hR hf hm) kw_L_letter (by decide) hk rfl (Nat.le_of_ble_eq_true rfl) (Nat.le_of_ble_eq_true rfl) rfl (by simp [cat_i, cat_r, cat_l, va_rf_cat]) d_W_letter_4 (Nat.le_refl _) (Nat.le_refl _) (fun T' locs a cell I hc hv hcls X => ?_)
  obtain ⟨x, x', hxs, ⟨q1, q2, q3, q4⟩, k1, k2, k3, k4⟩ := two_h hE
  have hcast := va_Nw.use (A := args) rfl (ex_at (hR.2 s B.2.2.2.2.1).2.2.2.2.2.2.2.2.2.2.2.2.2.2.2.1 9 rfl)
  have hno : (Cond.not (.castable (exN 2) (exN 1))).before args s = true := ex_at (hR.2 s B.2.2.2.2.1).2.2.2.2.2.2.2.2.2.2.2.2.2.2.2.1 11 rfl
  obtain ⟨vm', X1, go⟩ := catch2 X B.1.2.2.2.1 hxs (g := F0 m 4 ls [.int 0, .ref (b0 + 25)]) rfl (by show covers x 4 = true; simp [covers, q1, q2]) (by show covers x' 4 = true; simp [covers, k1, k2]) q4 k4 (by decide) (by decide) (B.1.2.2.2.2 _ (List.mem_cons_of_mem _ mK_15)) (B.1.2.2.2.2 _ (List.mem_cons_of_mem _ mK_21)) hno hcast hc hv hcls
  rw [k3] at go
  have w : W p l e { frames := 10, cells := 1, slots := 6, locals := 260 } s m args below meth c T'.heap locs (0 + 1) (0 + 6) (MQ below (CQ D vwCl b0 (some (.int 2)) (cH dA b0 S hp0) (sz + 1)) args s 1 6 (fun q => b0 ≤ q)) (F0 m 15 ls [.ref a]) := by
    refine q_astore_n (pc := 15) (i := 3) (v := .ref a) (lo' := [some (.ref b0), some (.int p1), some (.ref (b0 + 25)), some (.ref a)]) hx hb d_W_letter_15 rfl rfl hl (Nat.le_of_ble_eq_true rfl) (lx_cr rfl) rfl (fun ls hl => ?_)
    refine lv_iconst (pc := 16) (v := 2) hx hb d_W_letter_16 (by decide) ?_
    exact q_iretA (sz0 := sz) (pc := 17) B I rfl rfl rfl rfl d_W_letter_17
  obtain ⟨t, st, hq⟩ := w (T'.setVm vm') rfl X1
  exact ⟨t, go _ st, hq⟩
end WR_letter
abbrev cb_W_key : ByteArray := method_8_code
def y_W_key : MethodName := ⟨RLW, "key", "(LTableText;I[J)I"⟩
theorem kw_L_key : kW RLW 33 (cC 1) y_T_key (.code y_T_key cb_T_key 3 (some .int)) 1 := ⟨gV (List.mem_filter.mpr ⟨List.mem_of_getElem? (i := 1111) (by decide +kernel), by decide +kernel⟩) (List.mem_filter.mpr ⟨List.mem_of_getElem? (i := 1112) (by decide +kernel), by decide +kernel⟩) (List.mem_filter.mpr ⟨List.mem_of_getElem? (i := 1113) (by decide +kernel), by decide +kernel⟩) (List.mem_filter.mpr ⟨List.mem_of_getElem? (i := 96) (by decide +kernel), by decide +kernel⟩) (List.mem_filter.mpr ⟨List.mem_of_getElem? (i := 1114) (by decide +kernel), by decide +kernel⟩), rfl, by decide, by decide, by decide +kernel⟩
theorem d_W_key_0 : decode cb_W_key 0 = .ok (.aload_n 2, 1) := by decide +kernel
theorem d_W_key_1 : decode cb_W_key 1 = .ok (.iconst 0, 1) := by decide +kernel
theorem d_W_key_2 : decode cb_W_key 2 = .ok (.aload_n 0, 1) := by decide +kernel
theorem d_W_key_3 : decode cb_W_key 3 = .ok (.iload_n 1, 1) := by decide +kernel
theorem d_W_key_4 : decode cb_W_key 4 = .ok (.invokevirtual 33, 3) := by decide +kernel
theorem d_W_key_7 : decode cb_W_key 7 = .ok (.i2l, 1) := by decide +kernel
theorem d_W_key_8 : decode cb_W_key 8 = .ok (.lastore, 1) := by decide +kernel
theorem d_W_key_9 : decode cb_W_key 9 = .ok (.goto 6, 3) := by decide +kernel
theorem d_W_key_12 : decode cb_W_key 12 = .ok (.astore_n 3, 1) := by decide +kernel
theorem d_W_key_13 : decode cb_W_key 13 = .ok (.iconst 1, 1) := by decide +kernel
theorem d_W_key_14 : decode cb_W_key 14 = .ok (.ireturn, 1) := by decide +kernel
theorem d_W_key_15 : decode cb_W_key 15 = .ok (.iconst 0, 1) := by decide +kernel
theorem d_W_key_16 : decode cb_W_key 16 = .ok (.ireturn, 1) := by decide +kernel
section WR_key
variable {l : Launch} {D : va_G} {dA : Nat → ClassId} {hp0 : aH} {sz b0 N : Nat} {K : cS} {Z : State → Prop}
set_option maxRecDepth 100000 in
set_option maxHeartbeats 4000000 in
theorem w_key (p1 : Int32) {S S' : cS} {r : Int32} {f : Nat → Int64} (hR : CR b0 K Z) (hk : kd b0 K S b0 = 1) (ho : hp0 (b0 + 25) = some (.inl (dA 4, 1, .inr (.inl f)))) (hm : x_T_key N b0 K b0 p1 S = some r) : Ct l D vwCl (tyL dA) b0 Z y_W_key (.codeWith y_W_key cb_W_key 4 (some .int) [(0, 9, 12, 15)] :: wsA) 10 260 [.ref b0, .int p1, .ref (b0 + 25)] (cH dA b0 S hp0) sz (some (.int 0)) (cH dA b0 S (oH dA b0 hp0 (va_up f 0 r.toInt64))) 0 0 := by
  refine ct_ofW (cc := cb_W_key) (maxL := 4) (ret := some .int) (lo0 := [some (.ref b0), some (.int p1), some (.ref (b0 + 25)), none]) hR.1 (by decide +kernel) rfl (by simp [lg_sl, cat_i, cat_r, cat_l, va_rf_cat]) rfl (by simp [lx_all, lv_args, cat_i, cat_r, cat_l, va_rf_cat]) ?_
  intro p e s m args below meth c ls B hE hl I
  obtain ⟨hx, hb, -⟩ := B.1
  refine q_aload_n (pc := 0) (i := 2) (v := .ref (b0 + 25)) hx hb d_W_key_0 rfl rfl (lx_get hl rfl) ?_
  refine lv_iconst (pc := 1) (v := 0) hx hb d_W_key_1 (by decide) ?_
  refine q_aload_n (pc := 2) (i := 0) (v := .ref b0) hx hb d_W_key_2 rfl rfl (lx_get hl rfl) ?_
  refine lv_iload_n (pc := 3) (i := 1) hx hb d_W_key_3 rfl (lx_get hl rfl) ?_
  refine k_callV (pc := 4) (As := [.int p1]) (rest := [.int 0, .ref (b0 + 25)]) (b := b0) (z := 1) B hR hl rfl I (c_T_key hR hm) kw_L_key (by decide) hk rfl (Nat.le_of_ble_eq_true rfl) (Nat.le_of_ble_eq_true rfl) rfl (by simp [cat_i, cat_r, cat_l, va_rf_cat]) d_W_key_4 (Nat.le_refl _) (Nat.le_refl _) (fun H locs I => ?_)
  refine lv_i2l (pc := 7) hx hb d_W_key_7 rfl ?_
  refine q_last (pc := 8) (t0 := 4) (n := 1) (f := f) (i := 0) B I (by rw [cH_25]; exact ho) (by omega) rfl (vp_in_iff.mpr (by decide)) d_W_key_8 (fun H locs I => ?_)
  have I := I.of cH_out
  refine lv_goto (pc := 9) (tgt := 15) hx hb d_W_key_9 (by decide) ?_
  refine lv_iconst (pc := 15) (v := 0) hx hb d_W_key_15 (by decide) ?_
  exact q_iretA (sz0 := sz) (pc := 16) B I rfl rfl rfl rfl d_W_key_16
set_option maxRecDepth 100000 in
set_option maxHeartbeats 4000000 in
theorem wt_key_1 (p1 : Int32) {S : cS} (hR : CR b0 K Z) (hf : l.flags = pinnedFlags ++ [noTraceFlag]) (hk : kd b0 K S b0 = 1) (hm : xt_T_key N b0 K b0 p1 S = some 1) : Ct l D vwCl (tyL dA) b0 Z y_W_key (.codeWith y_W_key cb_W_key 4 (some .int) [(0, 9, 12, 15)] :: wsA) 10 260 [.ref b0, .int p1, .ref (b0 + 25)] (cH dA b0 S hp0) sz (some (.int 1)) (cH dA b0 S hp0) 1 6 := by
  refine ct_ofW (cc := cb_W_key) (maxL := 4) (ret := some .int) (lo0 := [some (.ref b0), some (.int p1), some (.ref (b0 + 25)), none]) hR.1 (by decide +kernel) rfl (by simp [lg_sl, cat_i, cat_r, cat_l, va_rf_cat]) rfl (by simp [lx_all, lv_args, cat_i, cat_r, cat_l, va_rf_cat]) ?_
  intro p e s m args below meth c ls B hE hl I
  obtain ⟨hx, hb, -⟩ := B.1
  refine q_aload_n (pc := 0) (i := 2) (v := .ref (b0 + 25)) hx hb d_W_key_0 rfl rfl (lx_get hl rfl) ?_
  refine lv_iconst (pc := 1) (v := 0) hx hb d_W_key_1 (by decide) ?_
  refine q_aload_n (pc := 2) (i := 0) (v := .ref b0) hx hb d_W_key_2 rfl rfl (lx_get hl rfl) ?_
  refine lv_iload_n (pc := 3) (i := 1) hx hb d_W_key_3 rfl (lx_get hl rfl) ?_
  refine k_callT (pc := 4) (X := exN 1) (As := [.int p1]) (rest := [.int 0, .ref (b0 + 25)]) (b := b0) (z := 1) B hR hl rfl I (t_T_key hR hf hm) kw_L_key (by decide) hk rfl (Nat.le_of_ble_eq_true rfl) (Nat.le_of_ble_eq_true rfl) rfl (by simp [cat_i, cat_r, cat_l, va_rf_cat]) d_W_key_4 (Nat.le_refl _) (Nat.le_refl _) (fun T' locs a cell I hc hv hcls X => ?_)
  obtain ⟨x, hxs, q1, q2, q3, q4⟩ := one_h hE
  have hcast := va_Nw.use (A := args) rfl (ex_at (hR.2 s B.2.2.2.2.1).2.2.2.2.2.2.2.2.2.2.2.2.2.2.2.1 8 rfl)
  obtain ⟨vm', X1, go⟩ := catch1 X B.1.2.2.2.1 hxs (g := F0 m 4 ls [.int 0, .ref (b0 + 25)]) rfl (by show covers x 4 = true; simp [covers, q1, q2]) q4 (by decide) (B.1.2.2.2.2 _ (List.mem_cons_of_mem _ mK_15)) hcast hc hv hcls
  rw [q3] at go
  have w : W p l e { frames := 10, cells := 1, slots := 6, locals := 260 } s m args below meth c T'.heap locs (0 + 1) (0 + 6) (MQ below (CQ D vwCl b0 (some (.int 1)) (cH dA b0 S hp0) (sz + 1)) args s 1 6 (fun q => b0 ≤ q)) (F0 m 12 ls [.ref a]) := by
    refine q_astore_n (pc := 12) (i := 3) (v := .ref a) (lo' := [some (.ref b0), some (.int p1), some (.ref (b0 + 25)), some (.ref a)]) hx hb d_W_key_12 rfl rfl hl (Nat.le_of_ble_eq_true rfl) (lx_cr rfl) rfl (fun ls hl => ?_)
    refine lv_iconst (pc := 13) (v := 1) hx hb d_W_key_13 (by decide) ?_
    exact q_iretA (sz0 := sz) (pc := 14) B I rfl rfl rfl rfl d_W_key_14
  obtain ⟨t, st, hq⟩ := w (T'.setVm vm') rfl X1
  exact ⟨t, go _ st, hq⟩
end WR_key
abbrev cb_W_type : ByteArray := method_3_code
def y_W_type : MethodName := ⟨RLW, "type", "(LTableText;JI[J)I"⟩
theorem kw_L_type : kW RLW 7 (cC 1) y_T_type (.code y_T_type cb_T_type 5 (some .int)) 2 := ⟨gV (List.mem_filter.mpr ⟨List.mem_of_getElem? (i := 1022) (by decide +kernel), by decide +kernel⟩) (List.mem_filter.mpr ⟨List.mem_of_getElem? (i := 1023) (by decide +kernel), by decide +kernel⟩) (List.mem_filter.mpr ⟨List.mem_of_getElem? (i := 1024) (by decide +kernel), by decide +kernel⟩) (List.mem_filter.mpr ⟨List.mem_of_getElem? (i := 96) (by decide +kernel), by decide +kernel⟩) (List.mem_filter.mpr ⟨List.mem_of_getElem? (i := 1025) (by decide +kernel), by decide +kernel⟩), rfl, by decide, by decide, by decide +kernel⟩
theorem d_W_type_0 : decode cb_W_type 0 = .ok (.aload 4, 2) := by decide +kernel
theorem d_W_type_2 : decode cb_W_type 2 = .ok (.iconst 0, 1) := by decide +kernel
theorem d_W_type_3 : decode cb_W_type 3 = .ok (.aload_n 0, 1) := by decide +kernel
theorem d_W_type_4 : decode cb_W_type 4 = .ok (.lload_n 1, 1) := by decide +kernel
theorem d_W_type_5 : decode cb_W_type 5 = .ok (.iload_n 3, 1) := by decide +kernel
theorem d_W_type_6 : decode cb_W_type 6 = .ok (.invokevirtual 7, 3) := by decide +kernel
theorem d_W_type_9 : decode cb_W_type 9 = .ok (.i2l, 1) := by decide +kernel
theorem d_W_type_10 : decode cb_W_type 10 = .ok (.lastore, 1) := by decide +kernel
theorem d_W_type_11 : decode cb_W_type 11 = .ok (.goto 11, 3) := by decide +kernel
theorem d_W_type_14 : decode cb_W_type 14 = .ok (.astore 5, 2) := by decide +kernel
theorem d_W_type_16 : decode cb_W_type 16 = .ok (.iconst 1, 1) := by decide +kernel
theorem d_W_type_17 : decode cb_W_type 17 = .ok (.ireturn, 1) := by decide +kernel
theorem d_W_type_18 : decode cb_W_type 18 = .ok (.astore 5, 2) := by decide +kernel
theorem d_W_type_20 : decode cb_W_type 20 = .ok (.iconst 2, 1) := by decide +kernel
theorem d_W_type_21 : decode cb_W_type 21 = .ok (.ireturn, 1) := by decide +kernel
theorem d_W_type_22 : decode cb_W_type 22 = .ok (.iconst 0, 1) := by decide +kernel
theorem d_W_type_23 : decode cb_W_type 23 = .ok (.ireturn, 1) := by decide +kernel
section WR_type
variable {l : Launch} {D : va_G} {dA : Nat → ClassId} {hp0 : aH} {sz b0 N : Nat} {K : cS} {Z : State → Prop}
set_option maxRecDepth 100000 in
set_option maxHeartbeats 4000000 in
theorem w_type (p1 : Int64) (p2 : Int32) {S S' : cS} {r : Int32} {f : Nat → Int64} (hR : CR b0 K Z) (hk : kd b0 K S b0 = 1) (ho : hp0 (b0 + 25) = some (.inl (dA 4, 1, .inr (.inl f)))) (hm : x_T_type N b0 K b0 p1 p2 S = some (r, S')) : Ct l D vwCl (tyL dA) b0 Z y_W_type (.codeWith y_W_type cb_W_type 6 (some .int) [(0, 11, 14, 13), (0, 11, 18, 15)] :: wsA) 10 260 [.ref b0, .long p1, .int p2, .ref (b0 + 25)] (cH dA b0 S hp0) sz (some (.int 0)) (cH dA b0 S' (oH dA b0 hp0 (va_up f 0 r.toInt64))) 0 0 := by
  refine ct_ofW (cc := cb_W_type) (maxL := 6) (ret := some .int) (lo0 := [some (.ref b0), some (.long p1), none, some (.int p2), some (.ref (b0 + 25)), none]) hR.1 (by decide +kernel) rfl (by simp [lg_sl, cat_i, cat_r, cat_l, va_rf_cat]) rfl (by simp [lx_all, lv_args, cat_i, cat_r, cat_l, va_rf_cat]) ?_
  intro p e s m args below meth c ls B hE hl I
  obtain ⟨hx, hb, -⟩ := B.1
  refine q_aload (pc := 0) (i := 4) (v := .ref (b0 + 25)) hx hb d_W_type_0 rfl (lx_get hl rfl) ?_
  refine lv_iconst (pc := 2) (v := 0) hx hb d_W_type_2 (by decide) ?_
  refine q_aload_n (pc := 3) (i := 0) (v := .ref b0) hx hb d_W_type_3 rfl rfl (lx_get hl rfl) ?_
  refine lv_lload_n (pc := 4) (i := 1) hx hb d_W_type_4 rfl (lx_get hl rfl) ?_
  refine lv_iload_n (pc := 5) (i := 3) hx hb d_W_type_5 rfl (lx_get hl rfl) ?_
  refine k_callV (pc := 6) (As := [.long p1, .int p2]) (rest := [.int 0, .ref (b0 + 25)]) (b := b0) (z := 1) B hR hl rfl I (c_T_type hR hm) kw_L_type (by decide) hk rfl (Nat.le_of_ble_eq_true rfl) (Nat.le_of_ble_eq_true rfl) rfl (by simp [cat_i, cat_r, cat_l, va_rf_cat]) d_W_type_6 (Nat.le_refl _) (Nat.le_refl _) (fun H locs I => ?_)
  refine lv_i2l (pc := 9) hx hb d_W_type_9 rfl ?_
  refine q_last (pc := 10) (t0 := 4) (n := 1) (f := f) (i := 0) B I (by rw [cH_25]; exact ho) (by omega) rfl (vp_in_iff.mpr (by decide)) d_W_type_10 (fun H locs I => ?_)
  have I := I.of cH_out
  refine lv_goto (pc := 11) (tgt := 22) hx hb d_W_type_11 (by decide) ?_
  refine lv_iconst (pc := 22) (v := 0) hx hb d_W_type_22 (by decide) ?_
  exact q_iretA (sz0 := sz) (pc := 23) B I rfl rfl rfl rfl d_W_type_23
set_option maxRecDepth 100000 in
set_option maxHeartbeats 4000000 in
theorem wt_type_0 (p1 : Int64) (p2 : Int32) {S : cS} (hR : CR b0 K Z) (hf : l.flags = pinnedFlags ++ [noTraceFlag]) (hk : kd b0 K S b0 = 1) (hm : xt_T_type N b0 K b0 p1 p2 S = some 0) : Ct l D vwCl (tyL dA) b0 Z y_W_type (.codeWith y_W_type cb_W_type 6 (some .int) [(0, 11, 14, 13), (0, 11, 18, 15)] :: wsA) 10 260 [.ref b0, .long p1, .int p2, .ref (b0 + 25)] (cH dA b0 S hp0) sz (some (.int 1)) (cH dA b0 S hp0) 1 6 := by
  refine ct_ofW (cc := cb_W_type) (maxL := 6) (ret := some .int) (lo0 := [some (.ref b0), some (.long p1), none, some (.int p2), some (.ref (b0 + 25)), none]) hR.1 (by decide +kernel) rfl (by simp [lg_sl, cat_i, cat_r, cat_l, va_rf_cat]) rfl (by simp [lx_all, lv_args, cat_i, cat_r, cat_l, va_rf_cat]) ?_
  intro p e s m args below meth c ls B hE hl I
  obtain ⟨hx, hb, -⟩ := B.1
  refine q_aload (pc := 0) (i := 4) (v := .ref (b0 + 25)) hx hb d_W_type_0 rfl (lx_get hl rfl) ?_
  refine lv_iconst (pc := 2) (v := 0) hx hb d_W_type_2 (by decide) ?_
  refine q_aload_n (pc := 3) (i := 0) (v := .ref b0) hx hb d_W_type_3 rfl rfl (lx_get hl rfl) ?_
  refine lv_lload_n (pc := 4) (i := 1) hx hb d_W_type_4 rfl (lx_get hl rfl) ?_
  refine lv_iload_n (pc := 5) (i := 3) hx hb d_W_type_5 rfl (lx_get hl rfl) ?_
  refine k_callT (pc := 6) (X := exN 0) (As := [.long p1, .int p2]) (rest := [.int 0, .ref (b0 + 25)]) (b := b0) (z := 1) B hR hl rfl I (t_T_type hR hf hm) kw_L_type (by decide) hk rfl (Nat.le_of_ble_eq_true rfl) (Nat.le_of_ble_eq_true rfl) rfl (by simp [cat_i, cat_r, cat_l, va_rf_cat]) d_W_type_6 (Nat.le_refl _) (Nat.le_refl _) (fun T' locs a cell I hc hv hcls X => ?_)
  obtain ⟨x, x', hxs, ⟨q1, q2, q3, q4⟩, -⟩ := two_h hE
  have hcast := va_Nw.use (A := args) rfl (ex_at (hR.2 s B.2.2.2.2.1).2.2.2.2.2.2.2.2.2.2.2.2.2.2.2.1 7 rfl)
  obtain ⟨vm', X1, go⟩ := catch1 X B.1.2.2.2.1 hxs (g := F0 m 6 ls [.int 0, .ref (b0 + 25)]) rfl (by show covers x 6 = true; simp [covers, q1, q2]) q4 (by decide) (B.1.2.2.2.2 _ (List.mem_cons_of_mem _ mK_13)) hcast hc hv hcls
  rw [q3] at go
  have w : W p l e { frames := 10, cells := 1, slots := 6, locals := 260 } s m args below meth c T'.heap locs (0 + 1) (0 + 6) (MQ below (CQ D vwCl b0 (some (.int 1)) (cH dA b0 S hp0) (sz + 1)) args s 1 6 (fun q => b0 ≤ q)) (F0 m 14 ls [.ref a]) := by
    refine q_astore (pc := 14) (i := 5) (v := .ref a) (lo' := [some (.ref b0), some (.long p1), none, some (.int p2), some (.ref (b0 + 25)), some (.ref a)]) hx hb d_W_type_14 rfl hl (Nat.le_of_ble_eq_true rfl) (lx_cr rfl) rfl (fun ls hl => ?_)
    refine lv_iconst (pc := 16) (v := 1) hx hb d_W_type_16 (by decide) ?_
    exact q_iretA (sz0 := sz) (pc := 17) B I rfl rfl rfl rfl d_W_type_17
  obtain ⟨t, st, hq⟩ := w (T'.setVm vm') rfl X1
  exact ⟨t, go _ st, hq⟩
set_option maxRecDepth 100000 in
set_option maxHeartbeats 4000000 in
theorem wt_type_1 (p1 : Int64) (p2 : Int32) {S : cS} (hR : CR b0 K Z) (hf : l.flags = pinnedFlags ++ [noTraceFlag]) (hk : kd b0 K S b0 = 1) (hm : xt_T_type N b0 K b0 p1 p2 S = some 1) : Ct l D vwCl (tyL dA) b0 Z y_W_type (.codeWith y_W_type cb_W_type 6 (some .int) [(0, 11, 14, 13), (0, 11, 18, 15)] :: wsA) 10 260 [.ref b0, .long p1, .int p2, .ref (b0 + 25)] (cH dA b0 S hp0) sz (some (.int 2)) (cH dA b0 S hp0) 1 6 := by
  refine ct_ofW (cc := cb_W_type) (maxL := 6) (ret := some .int) (lo0 := [some (.ref b0), some (.long p1), none, some (.int p2), some (.ref (b0 + 25)), none]) hR.1 (by decide +kernel) rfl (by simp [lg_sl, cat_i, cat_r, cat_l, va_rf_cat]) rfl (by simp [lx_all, lv_args, cat_i, cat_r, cat_l, va_rf_cat]) ?_
  intro p e s m args below meth c ls B hE hl I
  obtain ⟨hx, hb, -⟩ := B.1
  refine q_aload (pc := 0) (i := 4) (v := .ref (b0 + 25)) hx hb d_W_type_0 rfl (lx_get hl rfl) ?_
  refine lv_iconst (pc := 2) (v := 0) hx hb d_W_type_2 (by decide) ?_
  refine q_aload_n (pc := 3) (i := 0) (v := .ref b0) hx hb d_W_type_3 rfl rfl (lx_get hl rfl) ?_
  refine lv_lload_n (pc := 4) (i := 1) hx hb d_W_type_4 rfl (lx_get hl rfl) ?_
  refine lv_iload_n (pc := 5) (i := 3) hx hb d_W_type_5 rfl (lx_get hl rfl) ?_
  refine k_callT (pc := 6) (X := exN 1) (As := [.long p1, .int p2]) (rest := [.int 0, .ref (b0 + 25)]) (b := b0) (z := 1) B hR hl rfl I (t_T_type hR hf hm) kw_L_type (by decide) hk rfl (Nat.le_of_ble_eq_true rfl) (Nat.le_of_ble_eq_true rfl) rfl (by simp [cat_i, cat_r, cat_l, va_rf_cat]) d_W_type_6 (Nat.le_refl _) (Nat.le_refl _) (fun T' locs a cell I hc hv hcls X => ?_)
  obtain ⟨x, x', hxs, ⟨q1, q2, q3, q4⟩, k1, k2, k3, k4⟩ := two_h hE
  have hcast := va_Nw.use (A := args) rfl (ex_at (hR.2 s B.2.2.2.2.1).2.2.2.2.2.2.2.2.2.2.2.2.2.2.2.1 8 rfl)
  have hno : (Cond.not (.castable (exN 1) (exN 0))).before args s = true := ex_at (hR.2 s B.2.2.2.2.1).2.2.2.2.2.2.2.2.2.2.2.2.2.2.2.1 10 rfl
  obtain ⟨vm', X1, go⟩ := catch2 X B.1.2.2.2.1 hxs (g := F0 m 6 ls [.int 0, .ref (b0 + 25)]) rfl (by show covers x 6 = true; simp [covers, q1, q2]) (by show covers x' 6 = true; simp [covers, k1, k2]) q4 k4 (by decide) (by decide) (B.1.2.2.2.2 _ (List.mem_cons_of_mem _ mK_13)) (B.1.2.2.2.2 _ (List.mem_cons_of_mem _ mK_15)) hno hcast hc hv hcls
  rw [k3] at go
  have w : W p l e { frames := 10, cells := 1, slots := 6, locals := 260 } s m args below meth c T'.heap locs (0 + 1) (0 + 6) (MQ below (CQ D vwCl b0 (some (.int 2)) (cH dA b0 S hp0) (sz + 1)) args s 1 6 (fun q => b0 ≤ q)) (F0 m 18 ls [.ref a]) := by
    refine q_astore (pc := 18) (i := 5) (v := .ref a) (lo' := [some (.ref b0), some (.long p1), none, some (.int p2), some (.ref (b0 + 25)), some (.ref a)]) hx hb d_W_type_18 rfl hl (Nat.le_of_ble_eq_true rfl) (lx_cr rfl) rfl (fun ls hl => ?_)
    refine lv_iconst (pc := 20) (v := 2) hx hb d_W_type_20 (by decide) ?_
    exact q_iretA (sz0 := sz) (pc := 21) B I rfl rfl rfl rfl d_W_type_21
  obtain ⟨t, st, hq⟩ := w (T'.setVm vm') rfl X1
  exact ⟨t, go _ st, hq⟩
end WR_type
