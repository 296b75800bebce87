/-! The law's wrappers: names, words. -/
def RLW : String := "TableTextLaw"
def oH (dA : Nat → ClassId) (b0 : Nat) (hp0 : aH) (g : Nat → Int64) : aH := va_up hp0 (b0 + 25) (some (.inl (dA 4, 1, .inr (.inl g))))
theorem cCell_25 {dA : Nat → ClassId} {b0 : Nat} {S : cS} : cCell dA b0 S (b0 + 25) = none := by
  unfold cCell
  rw [if_pos (by unfold ck; rw [if_pos (by omega)])]
theorem cH_25 {dA : Nat → ClassId} {b0 : Nat} {S : cS} {hp0 : aH} : cH dA b0 S hp0 (b0 + 25) = hp0 (b0 + 25) := by
  unfold cH; rw [cCell_25]
theorem cH_out {dA : Nat → ClassId} {b0 : Nat} {S : cS} {hp0 : aH} {g : Nat → Int64} : va_up (cH dA b0 S hp0) (b0 + 25) (some (.inl (dA 4, 1, .inr (.inl g)))) = cH dA b0 S (oH dA b0 hp0 g) := by
  funext a
  by_cases e : a = b0 + 25
  · subst e; rw [va_up_self, cH_25]; unfold oH; rw [va_up_self]
  · rw [va_up_ne _ _ e]
    unfold cH oH
    cases cCell dA b0 S a with
    | none => show _ = va_up _ _ _ _; rw [va_up_ne _ _ e]
    | some _ => rfl
abbrev cb_W_up : ByteArray := method_6_code
def y_W_up : MethodName := ⟨RLW, "up", "(LTableText;[J)I"⟩
theorem kw_L_up : kW RLW 26 (cC 1) y_T_up (.code y_T_up cb_T_up 2 (some .int)) 0 := ⟨gV (List.mem_filter.mpr ⟨List.mem_of_getElem? (i := 1095) (by decide +kernel), by decide +kernel⟩) (List.mem_filter.mpr ⟨List.mem_of_getElem? (i := 1096) (by decide +kernel), by decide +kernel⟩) (List.mem_filter.mpr ⟨List.mem_of_getElem? (i := 1097) (by decide +kernel), by decide +kernel⟩) (List.mem_filter.mpr ⟨List.mem_of_getElem? (i := 96) (by decide +kernel), by decide +kernel⟩) (List.mem_filter.mpr ⟨List.mem_of_getElem? (i := 1098) (by decide +kernel), by decide +kernel⟩), rfl, by decide, by decide, by decide +kernel⟩
theorem d_W_up_0 : decode cb_W_up 0 = .ok (.aload_n 1, 1) := by decide +kernel
theorem d_W_up_1 : decode cb_W_up 1 = .ok (.iconst 0, 1) := by decide +kernel
theorem d_W_up_2 : decode cb_W_up 2 = .ok (.aload_n 0, 1) := by decide +kernel
theorem d_W_up_3 : decode cb_W_up 3 = .ok (.invokevirtual 26, 3) := by decide +kernel
theorem d_W_up_6 : decode cb_W_up 6 = .ok (.i2l, 1) := by decide +kernel
theorem d_W_up_7 : decode cb_W_up 7 = .ok (.lastore, 1) := by decide +kernel
theorem d_W_up_8 : decode cb_W_up 8 = .ok (.goto 6, 3) := by decide +kernel
theorem d_W_up_11 : decode cb_W_up 11 = .ok (.astore_n 2, 1) := by decide +kernel
theorem d_W_up_12 : decode cb_W_up 12 = .ok (.iconst 1, 1) := by decide +kernel
theorem d_W_up_13 : decode cb_W_up 13 = .ok (.ireturn, 1) := by decide +kernel
theorem d_W_up_14 : decode cb_W_up 14 = .ok (.iconst 0, 1) := by decide +kernel
theorem d_W_up_15 : decode cb_W_up 15 = .ok (.ireturn, 1) := by decide +kernel
section WR
variable {l : Launch} {D : va_G} {dA : Nat → ClassId} {hp0 : aH} {sz b0 N : Nat} {K : cS} {Z : State → Prop}
set_option maxRecDepth 100000 in
set_option maxHeartbeats 4000000 in
theorem w_up {S S' : cS} {r : Int32} {f : Nat → Int64} (hR : CR b0 K Z) (hk : kd b0 K S b0 = 1) (ho : hp0 (b0 + 25) = some (.inl (dA 4, 1, .inr (.inl f)))) (hm : x_T_up N b0 K b0 S = some (r, S')) : Ct l D vwCl (tyL dA) b0 Z y_W_up (.codeWith y_W_up cb_W_up 3 (some .int) [(0, 8, 11, 15)] :: wsA) 10 250 [.ref b0, .ref (b0 + 25)] (cH dA b0 S hp0) sz (some (.int 0)) (cH dA b0 S' (oH dA b0 hp0 (va_up f 0 r.toInt64))) 0 0 := by
  refine ct_ofW (cc := cb_W_up) (maxL := 3) (ret := some .int) (lo0 := [some (.ref b0), some (.ref (b0 + 25)), none]) hR.1 (by decide +kernel) rfl (by simp [lg_sl, cat_i, cat_r, cat_l, va_rf_cat]) rfl (by simp [lx_all, lv_args, cat_i, cat_r, cat_l, va_rf_cat]) ?_
  intro p e s m args below meth c ls B hE hl I
  obtain ⟨hx, hb, -⟩ := B.1
  refine q_aload_n (pc := 0) (i := 1) (v := .ref (b0 + 25)) hx hb d_W_up_0 rfl rfl (lx_get hl rfl) ?_
  refine lv_iconst (pc := 1) (v := 0) hx hb d_W_up_1 (by decide) ?_
  refine q_aload_n (pc := 2) (i := 0) (v := .ref b0) hx hb d_W_up_2 rfl rfl (lx_get hl rfl) ?_
  refine k_callV (pc := 3) (As := []) (rest := [.int 0, .ref (b0 + 25)]) (b := b0) (z := 1) B hR hl rfl I (c_T_up hR hm) kw_L_up (by decide) hk rfl (Nat.le_of_ble_eq_true rfl) (Nat.le_of_ble_eq_true rfl) rfl (by simp [cat_i, cat_r, cat_l, va_rf_cat]) d_W_up_3 (Nat.le_refl _) (Nat.le_refl _) (fun H locs I => ?_)
  refine lv_i2l (pc := 6) hx hb d_W_up_6 rfl ?_
  refine q_last (pc := 7) (t0 := 4) (n := 1) (f := f) (i := 0) B I (by rw [cH_25]; exact ho) (by omega) rfl (vp_in_iff.mpr (by decide)) d_W_up_7 (fun H locs I => ?_)
  have I := I.of cH_out
  refine lv_goto (pc := 8) (tgt := 14) hx hb d_W_up_8 (by decide) ?_
  refine lv_iconst (pc := 14) (v := 0) hx hb d_W_up_14 (by decide) ?_
  exact q_iretA (sz0 := sz) (pc := 15) B I rfl rfl rfl rfl d_W_up_15
theorem one_h {c : Code} {a b d k : Nat} (h : c.exceptionTable.toList.map (fun h => (h.startPc, h.endPc, h.handlerPc, h.catchType)) = [(a, b, d, k)]) : ∃ x, c.exceptionTable.toList = [x] ∧ x.startPc = a ∧ x.endPc = b ∧ x.handlerPc = d ∧ x.catchType = k := by
  cases hl : c.exceptionTable.toList with
  | nil => rw [hl] at h; cases h
  | cons x t =>
    rw [hl] at h
    cases t with
    | nil => simp only [List.map_cons, List.map_nil, List.cons.injEq, Prod.mk.injEq, and_true] at h; exact ⟨x, rfl, h.1, h.2.1, h.2.2.1, h.2.2.2⟩
    | cons y t => simp at h
theorem mK_15 : Cond.classLink RLW 15 (exN 1) ∈ wsA := (List.mem_filter.mpr ⟨List.mem_of_getElem? (i := 1021) (by decide +kernel), by decide +kernel⟩)
theorem mK_21 : Cond.classLink RLW 21 (exN 2) ∈ wsA := (List.mem_filter.mpr ⟨List.mem_of_getElem? (i := 1061) (by decide +kernel), by decide +kernel⟩)
theorem mK_13 : Cond.classLink RLW 13 (exN 0) ∈ wsA := (List.mem_filter.mpr ⟨List.mem_of_getElem? (i := 1020) (by decide +kernel), by decide +kernel⟩)
set_option maxRecDepth 100000 in
set_option maxHeartbeats 4000000 in
theorem wt_up {S : cS} (hR : CR b0 K Z) (hf : l.flags = pinnedFlags ++ [noTraceFlag]) (hk : kd b0 K S b0 = 1) (hm : xt_T_up N b0 K b0 S = some 1) : Ct l D vwCl (tyL dA) b0 Z y_W_up (.codeWith y_W_up cb_W_up 3 (some .int) [(0, 8, 11, 15)] :: wsA) 10 250 [.ref b0, .ref (b0 + 25)] (cH dA b0 S hp0) sz (some (.int 1)) (cH dA b0 S hp0) 1 6 := by
  refine ct_ofW (cc := cb_W_up) (maxL := 3) (ret := some .int) (lo0 := [some (.ref b0), some (.ref (b0 + 25)), none]) hR.1 (by decide +kernel) rfl (by simp [lg_sl, cat_i, cat_r, cat_l, va_rf_cat]) rfl (by simp [lx_all, lv_args, cat_i, cat_r, cat_l, va_rf_cat]) ?_
  intro p e s m args below meth c ls B hE hl I
  obtain ⟨hx, hb, -⟩ := B.1
  refine q_aload_n (pc := 0) (i := 1) (v := .ref (b0 + 25)) hx hb d_W_up_0 rfl rfl (lx_get hl rfl) ?_
  refine lv_iconst (pc := 1) (v := 0) hx hb d_W_up_1 (by decide) ?_
  refine q_aload_n (pc := 2) (i := 0) (v := .ref b0) hx hb d_W_up_2 rfl rfl (lx_get hl rfl) ?_
  refine k_callT (pc := 3) (X := exN 1) (As := []) (rest := [.int 0, .ref (b0 + 25)]) (b := b0) (z := 1) B hR hl rfl I (t_T_up hR hf hm) kw_L_up (by decide) hk rfl (Nat.le_of_ble_eq_true rfl) (Nat.le_of_ble_eq_true rfl) rfl (by simp [cat_i, cat_r, cat_l, va_rf_cat]) d_W_up_3 (Nat.le_refl _) (Nat.le_refl _) (fun T' locs a cell I hc hv hcls X => ?_)
  obtain ⟨x, hxs, q1, q2, q3, q4⟩ := one_h hE
  have hcast := va_Nw.use (A := args) rfl (ex_at (hR.2 s B.2.2.2.2.1).2.2.2.2.2.2.2.2.2.2.2.2.2.2.2.1 8 rfl)
  obtain ⟨vm', X1, go⟩ := catch1 X B.1.2.2.2.1 hxs (g := F0 m 3 ls [.int 0, .ref (b0 + 25)]) rfl (by show covers x 3 = true; simp [covers, q1, q2]) q4 (by decide) (B.1.2.2.2.2 _ (List.mem_cons_of_mem _ mK_15)) hcast hc hv hcls
  rw [q3] at go
  have w : W p l e { frames := 10, cells := 1, slots := 6, locals := 250 } s m args below meth c T'.heap locs (0 + 1) (0 + 6) (MQ below (CQ D vwCl b0 (some (.int 1)) (cH dA b0 S hp0) (sz + 1)) args s 1 6 (fun q => b0 ≤ q)) (F0 m 11 ls [.ref a]) := by
    refine q_astore_n (pc := 11) (i := 2) (v := .ref a) (lo' := [some (.ref b0), some (.ref (b0 + 25)), some (.ref a)]) hx hb d_W_up_11 rfl rfl hl (Nat.le_of_ble_eq_true rfl) (fun w hw => by cases hw; rfl) rfl (fun ls hl => ?_)
    refine lv_iconst (pc := 12) (v := 1) hx hb d_W_up_12 (by decide) ?_
    exact q_iretA (sz0 := sz) (pc := 13) B I rfl rfl rfl rfl d_W_up_13
  obtain ⟨t, st, hq⟩ := w (T'.setVm vm') rfl X1
  exact ⟨t, go _ st, hq⟩
end WR
