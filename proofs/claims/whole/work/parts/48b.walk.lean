section CW
variable {p : Program} {l : Launch} {e : Env} {s : State} {m : MethodId} {args : Array Value} {below : List Frame} {meth : Method} {c : Code} {H : Heap} {locs : List Loc}
variable {ls : Array Slot} {D : va_G} {dA : Nat → ClassId} {hp0 : aH} {sz sz0 b0 N : Nat} {cells slots dc ds mc ms : Nat} {S' K : cS} {r : Int32} {q : Option Nat} {Z : State → Prop}
variable {RV : Nat → Int32 → Nat → cS → Option (Option Nat × cS × Nat × Nat)} {FV LV : Nat}
def x_R_readEntry_41 (N b0 : Nat) (K : cS) (RV : Nat → Int32 → Nat → cS → Option (Option Nat × cS × Nat × Nat)) (y0 : Nat) (y2 : Int32) (y3 : Option Nat) (y4 : Option Nat) (sz : Nat) (S : cS) : Option (Int32 × cS × Nat × Nat) :=
  om y3 (some (0, S, 0, 0)) (fun a2 => om y4 (some (0, S, 0, 0)) (fun a4 => b1 (gR b0 K S 3 0 a2) (fun q5 => ifk b0 K S 2 a4 (b1 (x_N_entryNamed N b0 K a4 q5 S) (fun q8 => om q8 (ifk b0 K S 4 y0 (b2 (x_R_take N b0 K y0 61 S) (fun x12 S13 => if x12 = 0 then (some (0, S13, 0, 0)) else (ifk b0 K S13 4 y0 (b1 (x_R_skipBlanks N b0 K y0 S13) (fun S15 => ifk b0 K S15 4 y0 (b4 (RV y0 y2 sz S15) (fun q17 S18 c19 d20 => wr4 c19 d20 (om q17 (some (0, S18, 0, 0)) (fun a22 => b1 (gR b0 K S18 3 0 a2) (fun q23 => b1 (pR b0 S18 2 3 a22 q23) (fun S25 => ifk b0 K S25 2 a4 (b1 (x_N_add N b0 K a4 (some a22) S25) (fun S28 => some (1, S28, 0, 0))))))))))))))) (fun a10 => b1 (gI b0 K S 3 1 a2) (fun x30 => ifk b0 K S 4 y0 (b2 (x_R_wrong N b0 K y0 x30 S) (fun q33 S34 => some (0, S34, 0, 0))))))))))
set_option maxRecDepth 100000 in
set_option maxHeartbeats 4000000 in
theorem w_R_readEntry_41 {y0 : Nat} {y2 : Int32} {y3 : Option Nat} {y4 : Option Nat} {sz : Nat} {S : cS} (B : BX p m c cb_R_readEntry 6 s args (.code y_R_readEntry cb_R_readEntry 6 (some .boolean) :: wsA) RZ4 meth (some .boolean) D vwCl (tyL dA) b0 Z) (hR : CR b0 K Z) (hV : ∀ (a : Nat) (n : Int32) (z : Nat) (T T' : cS) (q : Option Nat) (dc ds : Nat), RV a n z T = some (q, T', dc, ds) → Ct l D vwCl (tyL dA) b0 Z y_R_readValue (.code y_R_readValue cb_R_readValue 3 (some (.object "TableText$Node")) :: wsA) FV LV [.ref a, .int n] (cH dA b0 T hp0) z (some (va_rf q)) (cH dA b0 T' hp0) dc ds) (hl : lx ls [some (.ref y0), none, some (.int y2), some (va_rf y3), some (va_rf y4), none]) (I : AI D vwCl b0 (cH dA b0 S hp0) sz s.heap H locs) (hz : sz = sz0 + cells) (hc : cells + dc = mc) (hs : slots + ds = ms) (hm : x_R_readEntry_41 N b0 K RV  y0 y2 y3 y4 sz S = some (r, S', dc, ds)) : W p l e { frames := FV + 20, cells := mc, slots := ms, locals := LV + 600 } s m args below meth c H locs cells slots (MQ below (CQ D vwCl b0 (some (.int r)) (cH dA b0 S' hp0) (sz0 + mc)) args s mc ms (fun q => b0 ≤ q)) (F0 m 41 ls []) := by
  obtain ⟨hx, hb, -⟩ := B.1
  unfold x_R_readEntry_41 at hm
  refine q_aload_n (pc := 41) (i := 3) (v := va_rf y3) hx hb d_R_readEntry_41 rfl (va_rf_isRef _) (lx_get hl rfl) ?_
  refine oom hm (fun e1 hm => ?_) (fun a2 e1 hm => ?_)
  · have hm_37 := hm; have hl_37 := hl; have I_37 := I
    subst e1
    have hm := hm_37; have hl := hl_37; have I := I_37
    refine lv_ifnullN (pc := 42) (tgt := 50) hx hb d_R_readEntry_42 (by decide) ?_
    refine lv_iconst (pc := 50) (v := 0) hx hb d_R_readEntry_50 (by decide) ?_
    cases hm
    exact q_zretA (pc := 51) B I hz hc hs rfl (by decide) d_R_readEntry_51
  · have hm_37 := hm; have hl_37 := hl; have I_37 := I
    subst e1
    have hm := hm_37; have hl := hl_37; have I := I_37
    refine lv_ifnull (pc := 42) hx hb d_R_readEntry_42 ?_
    refine q_aload (pc := 45) (i := 4) (v := va_rf y4) hx hb d_R_readEntry_45 (va_rf_isRef _) (lx_get hl rfl) ?_
    refine oom hm (fun e3 hm => ?_) (fun a4 e3 hm => ?_)
    · have hm_36 := hm; have hl_36 := hl; have I_36 := I
      subst e3
      have hm := hm_36; have hl := hl_36; have I := I_36
      refine lv_ifnonnullN (pc := 47) hx hb d_R_readEntry_47 ?_
      refine lv_iconst (pc := 50) (v := 0) hx hb d_R_readEntry_50 (by decide) ?_
      cases hm
      exact q_zretA (pc := 51) B I hz hc hs rfl (by decide) d_R_readEntry_51
    · have hm_36 := hm; have hl_36 := hl; have I_36 := I
      subst e3
      have hm := hm_36; have hl := hl_36; have I := I_36
      refine lv_ifnonnull (pc := 47) (tgt := 52) hx hb d_R_readEntry_47 (by decide) ?_
      refine q_aload (pc := 52) (i := 4) (v := .ref a4) hx hb d_R_readEntry_52 rfl (lx_get hl rfl) ?_
      refine q_aload_n (pc := 54) (i := 3) (v := .ref a2) hx hb d_R_readEntry_54 rfl rfl (lx_get hl rfl) ?_
      refine ob1 hm (fun q5 e6 hm => ?_)
      refine k_getRN (pc := 55) (z := 3) (k := 0) (index := 94) B hR I (by decide) (by decide) nF_R_94 rfl (fun _ _ => rfl) e6 d_R_readEntry_55 ?_
      refine oifk hm (fun hk hm => ?_)
      refine ob1 hm (fun q8 e7 hm => ?_)
      refine k_callVN (pc := 58) (As := [va_rf q5]) (rest := []) (b := a4) B hR hl rfl I (c_N_entryNamed hR e7) kw_R_98 (by decide) hk rfl (fr_k (Nat.le_of_ble_eq_true rfl)) (lo_k (Nat.le_of_ble_eq_true rfl)) rfl (by simp [cat_i, cat_r, cat_l, va_rf_cat]) d_R_readEntry_58 (hr0 hc) (hr0 hs) (fun H locs I => ?_)
      refine oom hm (fun e9 hm => ?_) (fun a10 e9 hm => ?_)
      · have hm_35 := hm; have hl_35 := hl; have I_35 := I
        subst e9
        have hm := hm_35; have hl := hl_35; have I := I_35
        refine lv_ifnullN (pc := 61) (tgt := 75) hx hb d_R_readEntry_61 (by decide) ?_
        refine q_aload_n (pc := 75) (i := 0) (v := .ref y0) hx hb d_R_readEntry_75 rfl rfl (lx_get hl rfl) ?_
        refine lv_bipush (pc := 76) (v := 61) hx hb d_R_readEntry_76 (by decide) ?_
        refine oifk hm (fun hk hm => ?_)
        refine ob2 hm (fun x12 S13 e11 hm => ?_)
        refine k_callV (pc := 78) (As := [.int 61]) (rest := []) (b := y0) B hR hl rfl I (c_R_take hR e11) kw_R_73 (by decide) hk rfl (fr_k (Nat.le_of_ble_eq_true rfl)) (lo_k (Nat.le_of_ble_eq_true rfl)) rfl (by simp [cat_i, cat_r, cat_l, va_rf_cat]) d_R_readEntry_78 (hr0 hc) (hr0 hs) (fun H locs I => ?_)
        refine lv_if_ne (pc := 81) (tgt := 86) hx hb d_R_readEntry_81 (by decide) (fun hcc => ?_) (fun hcc => ?_)
        · have hm := iff' hcc hm
          refine q_aload_n (pc := 86) (i := 0) (v := .ref y0) hx hb d_R_readEntry_86 rfl rfl (lx_get hl rfl) ?_
          refine oifk hm (fun hk hm => ?_)
          refine ob1 hm (fun S15 e14 hm => ?_)
          refine k_callV (pc := 87) (As := []) (rest := []) (b := y0) B hR hl rfl I (c_R_skipBlanks hR e14) kw_R_51 (by decide) hk rfl (fr_k (Nat.le_of_ble_eq_true rfl)) (lo_k (Nat.le_of_ble_eq_true rfl)) rfl (by simp [cat_i, cat_r, cat_l, va_rf_cat]) d_R_readEntry_87 (hr0 hc) (hr0 hs) (fun H locs I => ?_)
          refine q_aload_n (pc := 90) (i := 0) (v := .ref y0) hx hb d_R_readEntry_90 rfl rfl (lx_get hl rfl) ?_
          refine lv_iload_n (pc := 91) (i := 2) hx hb d_R_readEntry_91 rfl (lx_get hl rfl) ?_
          refine oifk hm (fun hk hm => ?_)
          refine ob4 hm (fun q17 S18 c19 d20 e16 hm => ?_)
          refine owr4 hm hc hs (fun dc ds hm hc hs => ?_)
          refine k_callV (pc := 92) (As := [.int y2]) (rest := []) (b := y0) B hR hl rfl I (hV _ _ _ _ _ _ _ _ e16) kw_R_109 (by decide) hk rfl (fr_r (Nat.le_of_ble_eq_true rfl)) (lo_r (Nat.le_of_ble_eq_true rfl)) rfl (by simp [cat_i, cat_r, cat_l, va_rf_cat]) d_R_readEntry_92 (hr_ hc) (hr_ hs) (fun H locs I => ?_)
          have hz := hzn (n := c19) hz
          refine q_astore (pc := 95) (i := 5) (v := va_rf q17) (lo' := [some (.ref y0), none, some (.int y2), some (.ref a2), some (.ref a4), some (va_rf q17)]) hx hb d_R_readEntry_95 (va_rf_isRef _) hl (Nat.le_of_ble_eq_true rfl) (lx_cr rfl) rfl (fun ls hl => ?_)
          refine q_aload (pc := 97) (i := 5) (v := va_rf q17) hx hb d_R_readEntry_97 (va_rf_isRef _) (lx_get hl rfl) ?_
          refine oom hm (fun e21 hm => ?_) (fun a22 e21 hm => ?_)
          · have hm_29 := hm; have hl_29 := hl; have I_29 := I
            subst e21
            have hm := hm_29; have hl := hl_29; have I := I_29
            refine lv_ifnonnullN (pc := 99) hx hb d_R_readEntry_99 ?_
            refine lv_iconst (pc := 102) (v := 0) hx hb d_R_readEntry_102 (by decide) ?_
            cases hm
            exact q_zretA (pc := 103) B I hz hc hs rfl (by decide) d_R_readEntry_103
          · have hm_29 := hm; have hl_29 := hl; have I_29 := I
            subst e21
            have hm := hm_29; have hl := hl_29; have I := I_29
            refine lv_ifnonnull (pc := 99) (tgt := 104) hx hb d_R_readEntry_99 (by decide) ?_
            refine q_aload (pc := 104) (i := 5) (v := .ref a22) hx hb d_R_readEntry_104 rfl (lx_get hl rfl) ?_
            refine q_aload_n (pc := 106) (i := 3) (v := .ref a2) hx hb d_R_readEntry_106 rfl rfl (lx_get hl rfl) ?_
            refine ob1 hm (fun q23 e24 hm => ?_)
            refine k_getRN (pc := 107) (z := 3) (k := 0) (index := 94) B hR I (by decide) (by decide) nF_R_94 rfl (fun _ _ => rfl) e24 d_R_readEntry_107 ?_
            refine ob1 hm (fun S25 e26 hm => ?_)
            refine k_putRN (pc := 110) (z := 2) (k := 3) (index := 112) (v := q23) B hR I (by decide) (by decide) nF_R_112 rfl rfl (Or.inl ⟨_, rfl⟩) cset_2_3 e26 d_R_readEntry_110 (fun H locs I => ?_)
            refine q_aload (pc := 113) (i := 4) (v := .ref a4) hx hb d_R_readEntry_113 rfl (lx_get hl rfl) ?_
            refine q_aload (pc := 115) (i := 5) (v := .ref a22) hx hb d_R_readEntry_115 rfl (lx_get hl rfl) ?_
            refine oifk hm (fun hk hm => ?_)
            refine ob1 hm (fun S28 e27 hm => ?_)
            refine k_callVN (pc := 117) (As := [va_rf (some a22)]) (rest := []) (b := a4) B hR hl rfl I (c_N_add hR e27) kw_R_113 (by decide) hk rfl (fr_k (Nat.le_of_ble_eq_true rfl)) (lo_k (Nat.le_of_ble_eq_true rfl)) rfl (by simp [cat_i, cat_r, cat_l, va_rf_cat]) d_R_readEntry_117 (hr0 hc) (hr0 hs) (fun H locs I => ?_)
            refine lv_iconst (pc := 120) (v := 1) hx hb d_R_readEntry_120 (by decide) ?_
            cases hm
            exact q_zretA (pc := 121) B I hz hc hs rfl (by decide) d_R_readEntry_121
        · have hm := ift hcc hm
          refine lv_iconst (pc := 84) (v := 0) hx hb d_R_readEntry_84 (by decide) ?_
          cases hm
          exact q_zretA (pc := 85) B I hz hc hs rfl (by decide) d_R_readEntry_85
      · have hm_35 := hm; have hl_35 := hl; have I_35 := I
        subst e9
        have hm := hm_35; have hl := hl_35; have I := I_35
        refine lv_ifnull (pc := 61) hx hb d_R_readEntry_61 ?_
        refine q_aload_n (pc := 64) (i := 0) (v := .ref y0) hx hb d_R_readEntry_64 rfl rfl (lx_get hl rfl) ?_
        refine q_aload_n (pc := 65) (i := 3) (v := .ref a2) hx hb d_R_readEntry_65 rfl rfl (lx_get hl rfl) ?_
        refine ob1 hm (fun x30 e31 hm => ?_)
        refine k_getIN (pc := 66) (z := 3) (k := 1) (index := 102) B hR I (by decide) (by decide) nF_R_102 rfl (fun _ _ => rfl) e31 d_R_readEntry_66 ?_
        refine oifk hm (fun hk hm => ?_)
        refine ob2 hm (fun q33 S34 e32 hm => ?_)
        refine k_callV (pc := 69) (As := [.int x30]) (rest := []) (b := y0) B hR hl rfl I (c_R_wrong hR e32) kw_R_105 (by decide) hk rfl (fr_k (Nat.le_of_ble_eq_true rfl)) (lo_k (Nat.le_of_ble_eq_true rfl)) rfl (by simp [cat_i, cat_r, cat_l, va_rf_cat]) d_R_readEntry_69 (hr0 hc) (hr0 hs) (fun H locs I => ?_)
        refine lv_pop (pc := 72) hx hb d_R_readEntry_72 (va_rf_cat _) ?_
        refine lv_iconst (pc := 73) (v := 0) hx hb d_R_readEntry_73 (by decide) ?_
        cases hm
        exact q_zretA (pc := 74) B I hz hc hs rfl (by decide) d_R_readEntry_74
def x_R_readEntry_8F (N b0 : Nat) (K : cS) (RV : Nat → Int32 → Nat → cS → Option (Option Nat × cS × Nat × Nat)) (K8 : Nat → Int32 → Option Nat → Option Nat → Nat → cS → Option (Int32 × cS × Nat × Nat)) (y0 : Nat) (y2 : Int32) (y3 : Option Nat) (y4 : Option Nat) (sz : Nat) (S : cS) : Option (Int32 × cS × Nat × Nat) :=
  om y3 (x_R_readEntry_41 N b0 K RV  y0 y2 none y4 sz S) (fun a2 => b1 (gR b0 K S 3 2 a2) (fun q3 => om q3 (x_R_readEntry_41 N b0 K RV  y0 y2 (some a2) y4 sz S) (fun a6 => om y4 (x_R_readEntry_41 N b0 K RV  y0 y2 (some a2) none sz S) (fun a8 => ifk b0 K S 4 y0 (b4 (x_R_dottedTable N b0 K y0 (some a8) (some a2) sz S) (fun q10 S11 c12 d13 => wr4 c12 d13 (b1 (gR b0 K S11 3 2 a2) (fun q14 => K8 y0 y2 q14 q10 (sz + c12) S11))))))))
def x_R_readEntry_8 (N b0 : Nat) (K : cS) (RV : Nat → Int32 → Nat → cS → Option (Option Nat × cS × Nat × Nat)) : Nat → Nat → Int32 → Option Nat → Option Nat → Nat → cS → Option (Int32 × cS × Nat × Nat)
  | 0, _, _, _, _, _, _ => none
  | k + 1, y0, y2, y3, y4, sz, S => x_R_readEntry_8F N b0 K RV  (x_R_readEntry_8 N b0 K RV  k) y0 y2 y3 y4 sz S
set_option maxRecDepth 100000 in
set_option maxHeartbeats 4000000 in
theorem w_R_readEntry_8F {K8 : Nat → Int32 → Option Nat → Option Nat → Nat → cS → Option (Int32 × cS × Nat × Nat)} {y0 : Nat} {y2 : Int32} {y3 : Option Nat} {y4 : Option Nat} {sz : Nat} {S : cS} (hK8 : ∀ (y0 : Nat) (y2 : Int32) (y3 : Option Nat) (y4 : Option Nat) (sz : Nat) (S : cS) (ls : Array Slot) (H : Heap) (locs : List Loc) (cells slots dc ds : Nat), lx ls [some (.ref y0), none, some (.int y2), some (va_rf y3), some (va_rf y4), none] → AI D vwCl b0 (cH dA b0 S hp0) sz s.heap H locs → sz = sz0 + cells → cells + dc = mc → slots + ds = ms → K8 y0 y2 y3 y4 sz S = some (r, S', dc, ds) → W p l e { frames := FV + 20, cells := mc, slots := ms, locals := LV + 600 } s m args below meth c H locs cells slots (MQ below (CQ D vwCl b0 (some (.int r)) (cH dA b0 S' hp0) (sz0 + mc)) args s mc ms (fun q => b0 ≤ q)) (F0 m 8 ls [])) (B : BX p m c cb_R_readEntry 6 s args (.code y_R_readEntry cb_R_readEntry 6 (some .boolean) :: wsA) RZ4 meth (some .boolean) D vwCl (tyL dA) b0 Z) (hR : CR b0 K Z) (hV : ∀ (a : Nat) (n : Int32) (z : Nat) (T T' : cS) (q : Option Nat) (dc ds : Nat), RV a n z T = some (q, T', dc, ds) → Ct l D vwCl (tyL dA) b0 Z y_R_readValue (.code y_R_readValue cb_R_readValue 3 (some (.object "TableText$Node")) :: wsA) FV LV [.ref a, .int n] (cH dA b0 T hp0) z (some (va_rf q)) (cH dA b0 T' hp0) dc ds) (hl : lx ls [some (.ref y0), none, some (.int y2), some (va_rf y3), some (va_rf y4), none]) (I : AI D vwCl b0 (cH dA b0 S hp0) sz s.heap H locs) (hz : sz = sz0 + cells) (hc : cells + dc = mc) (hs : slots + ds = ms) (hm : x_R_readEntry_8F N b0 K RV  K8 y0 y2 y3 y4 sz S = some (r, S', dc, ds)) : W p l e { frames := FV + 20, cells := mc, slots := ms, locals := LV + 600 } s m args below meth c H locs cells slots (MQ below (CQ D vwCl b0 (some (.int r)) (cH dA b0 S' hp0) (sz0 + mc)) args s mc ms (fun q => b0 ≤ q)) (F0 m 8 ls []) := by
  obtain ⟨hx, hb, -⟩ := B.1
  unfold x_R_readEntry_8F at hm
  refine q_aload_n (pc := 8) (i := 3) (v := va_rf y3) hx hb d_R_readEntry_8 rfl (va_rf_isRef _) (lx_get hl rfl) ?_
  refine oom hm (fun e1 hm => ?_) (fun a2 e1 hm => ?_)
  · have hm_18 := hm; have hl_18 := hl; have I_18 := I
    subst e1
    have hm := hm_18; have hl := hl_18; have I := I_18
    refine lv_ifnullN (pc := 9) (tgt := 41) hx hb d_R_readEntry_9 (by decide) ?_
    exact w_R_readEntry_41 (y0 := y0) (y2 := y2) (y3 := none) (y4 := y4)  B hR hV hl I hz hc hs hm
  · have hm_18 := hm; have hl_18 := hl; have I_18 := I
    subst e1
    have hm := hm_18; have hl := hl_18; have I := I_18
    refine lv_ifnull (pc := 9) hx hb d_R_readEntry_9 ?_
    refine q_aload_n (pc := 12) (i := 3) (v := .ref a2) hx hb d_R_readEntry_12 rfl rfl (lx_get hl rfl) ?_
    refine ob1 hm (fun q3 e4 hm => ?_)
    refine k_getRN (pc := 13) (z := 3) (k := 2) (index := 84) B hR I (by decide) (by decide) nF_R_84 rfl (fun _ _ => rfl) e4 d_R_readEntry_13 ?_
    refine oom hm (fun e5 hm => ?_) (fun a6 e5 hm => ?_)
    · have hm_17 := hm; have hl_17 := hl; have I_17 := I
      subst e5
      have hm := hm_17; have hl := hl_17; have I := I_17
      refine lv_ifnullN (pc := 16) (tgt := 41) hx hb d_R_readEntry_16 (by decide) ?_
      exact w_R_readEntry_41 (y0 := y0) (y2 := y2) (y3 := (some a2)) (y4 := y4)  B hR hV hl I hz hc hs hm
    · have hm_17 := hm; have hl_17 := hl; have I_17 := I
      subst e5
      have hm := hm_17; have hl := hl_17; have I := I_17
      refine lv_ifnull (pc := 16) hx hb d_R_readEntry_16 ?_
      refine q_aload (pc := 19) (i := 4) (v := va_rf y4) hx hb d_R_readEntry_19 (va_rf_isRef _) (lx_get hl rfl) ?_
      refine oom hm (fun e7 hm => ?_) (fun a8 e7 hm => ?_)
      · have hm_16 := hm; have hl_16 := hl; have I_16 := I
        subst e7
        have hm := hm_16; have hl := hl_16; have I := I_16
        refine lv_ifnullN (pc := 21) (tgt := 41) hx hb d_R_readEntry_21 (by decide) ?_
        exact w_R_readEntry_41 (y0 := y0) (y2 := y2) (y3 := (some a2)) (y4 := none)  B hR hV hl I hz hc hs hm
      · have hm_16 := hm; have hl_16 := hl; have I_16 := I
        subst e7
        have hm := hm_16; have hl := hl_16; have I := I_16
        refine lv_ifnull (pc := 21) hx hb d_R_readEntry_21 ?_
        refine q_aload_n (pc := 24) (i := 0) (v := .ref y0) hx hb d_R_readEntry_24 rfl rfl (lx_get hl rfl) ?_
        refine q_aload (pc := 25) (i := 4) (v := .ref a8) hx hb d_R_readEntry_25 rfl (lx_get hl rfl) ?_
        refine q_aload_n (pc := 27) (i := 3) (v := .ref a2) hx hb d_R_readEntry_27 rfl rfl (lx_get hl rfl) ?_
        refine oifk hm (fun hk hm => ?_)
        refine ob4 hm (fun q10 S11 c12 d13 e9 hm => ?_)
        refine owr4 hm hc hs (fun dc ds hm hc hs => ?_)
        refine k_callV (pc := 28) (As := [va_rf (some a8), va_rf (some a2)]) (rest := []) (b := y0) B hR hl rfl I (c_R_dottedTable hR e9) kw_R_90 (by decide) hk rfl (fr_k (Nat.le_of_ble_eq_true rfl)) (lo_k (Nat.le_of_ble_eq_true rfl)) rfl (by simp [cat_i, cat_r, cat_l, va_rf_cat]) d_R_readEntry_28 (hr_ hc) (hr_ hs) (fun H locs I => ?_)
        have hz := hzn (n := c12) hz
        refine q_astore (pc := 31) (i := 4) (v := va_rf q10) (lo' := [some (.ref y0), none, some (.int y2), some (.ref a2), some (va_rf q10), none]) hx hb d_R_readEntry_31 (va_rf_isRef _) hl (Nat.le_of_ble_eq_true rfl) (lx_cr rfl) rfl (fun ls hl => ?_)
        refine q_aload_n (pc := 33) (i := 3) (v := .ref a2) hx hb d_R_readEntry_33 rfl rfl (lx_get hl rfl) ?_
        refine ob1 hm (fun q14 e15 hm => ?_)
        refine k_getRN (pc := 34) (z := 3) (k := 2) (index := 84) B hR I (by decide) (by decide) nF_R_84 rfl (fun _ _ => rfl) e15 d_R_readEntry_34 ?_
        refine q_astore_n (pc := 37) (i := 3) (v := va_rf q14) (lo' := [some (.ref y0), none, some (.int y2), some (va_rf q14), some (va_rf q10), none]) hx hb d_R_readEntry_37 rfl (va_rf_isRef _) hl (Nat.le_of_ble_eq_true rfl) (lx_ci rfl) rfl (fun ls hl => ?_)
        refine lv_goto (pc := 38) (tgt := 8) hx hb d_R_readEntry_38 (by decide) ?_
        exact hK8 y0 y2 q14 q10 (sz + c12) S11 _ _ _ _ _ _ _ hl I hz hc hs hm
set_option maxRecDepth 100000 in
set_option maxHeartbeats 4000000 in
theorem w_R_readEntry_8i (B : BX p m c cb_R_readEntry 6 s args (.code y_R_readEntry cb_R_readEntry 6 (some .boolean) :: wsA) RZ4 meth (some .boolean) D vwCl (tyL dA) b0 Z) (hR : CR b0 K Z) (hV : ∀ (a : Nat) (n : Int32) (z : Nat) (T T' : cS) (q : Option Nat) (dc ds : Nat), RV a n z T = some (q, T', dc, ds) → Ct l D vwCl (tyL dA) b0 Z y_R_readValue (.code y_R_readValue cb_R_readValue 3 (some (.object "TableText$Node")) :: wsA) FV LV [.ref a, .int n] (cH dA b0 T hp0) z (some (va_rf q)) (cH dA b0 T' hp0) dc ds) (k : Nat) (y0 : Nat) (y2 : Int32) (y3 : Option Nat) (y4 : Option Nat) (sz : Nat) (S : cS) (ls : Array Slot) (H : Heap) (locs : List Loc) (cells slots dc ds : Nat) (hl : lx ls [some (.ref y0), none, some (.int y2), some (va_rf y3), some (va_rf y4), none]) (I : AI D vwCl b0 (cH dA b0 S hp0) sz s.heap H locs) (hz : sz = sz0 + cells) (hc : cells + dc = mc) (hs : slots + ds = ms) (hm : x_R_readEntry_8 N b0 K RV  k y0 y2 y3 y4 sz S = some (r, S', dc, ds)) : W p l e { frames := FV + 20, cells := mc, slots := ms, locals := LV + 600 } s m args below meth c H locs cells slots (MQ below (CQ D vwCl b0 (some (.int r)) (cH dA b0 S' hp0) (sz0 + mc)) args s mc ms (fun q => b0 ≤ q)) (F0 m 8 ls []) := by
  induction k generalizing y0 y2 y3 y4 sz S ls H locs cells slots dc ds with
  | zero => cases hm
  | succ k ih => exact w_R_readEntry_8F  (fun y0 y2 y3 y4 sz S ls H locs cells slots dc ds hl I hz hc hs hm => ih y0 y2 y3 y4 sz S ls H locs cells slots dc ds hl I hz hc hs hm) B hR hV hl I hz hc hs hm
theorem w_R_readEntry_8 {y0 : Nat} {y2 : Int32} {y3 : Option Nat} {y4 : Option Nat} {sz : Nat} {S : cS} (B : BX p m c cb_R_readEntry 6 s args (.code y_R_readEntry cb_R_readEntry 6 (some .boolean) :: wsA) RZ4 meth (some .boolean) D vwCl (tyL dA) b0 Z) (hR : CR b0 K Z) (hV : ∀ (a : Nat) (n : Int32) (z : Nat) (T T' : cS) (q : Option Nat) (dc ds : Nat), RV a n z T = some (q, T', dc, ds) → Ct l D vwCl (tyL dA) b0 Z y_R_readValue (.code y_R_readValue cb_R_readValue 3 (some (.object "TableText$Node")) :: wsA) FV LV [.ref a, .int n] (cH dA b0 T hp0) z (some (va_rf q)) (cH dA b0 T' hp0) dc ds) (hl : lx ls [some (.ref y0), none, some (.int y2), some (va_rf y3), some (va_rf y4), none]) (I : AI D vwCl b0 (cH dA b0 S hp0) sz s.heap H locs) (hz : sz = sz0 + cells) (hc : cells + dc = mc) (hs : slots + ds = ms) {k : Nat} (hm : x_R_readEntry_8 N b0 K RV  k y0 y2 y3 y4 sz S = some (r, S', dc, ds)) : W p l e { frames := FV + 20, cells := mc, slots := ms, locals := LV + 600 } s m args below meth c H locs cells slots (MQ below (CQ D vwCl b0 (some (.int r)) (cH dA b0 S' hp0) (sz0 + mc)) args s mc ms (fun q => b0 ≤ q)) (F0 m 8 ls []) := w_R_readEntry_8i  B hR hV k _ _ _ _ sz S ls H locs _ _ _ _ hl I hz hc hs hm
def x_R_readEntry (N b0 : Nat) (K : cS) (RV : Nat → Int32 → Nat → cS → Option (Option Nat × cS × Nat × Nat)) (p0 : Nat) (p1 : Option Nat) (p2 : Int32) (sz : Nat) (S : cS) : Option (Int32 × cS × Nat × Nat) :=
  ifk b0 K S 4 p0 (b4 (x_R_readPath N b0 K p0 sz S) (fun q2 S3 c4 d5 => wr4 c4 d5 (x_R_readEntry_8 N b0 K RV  N p0 p2 q2 p1 (sz + c4) S3)))
set_option maxRecDepth 100000 in
set_option maxHeartbeats 4000000 in
theorem c_R_readEntry {p0 : Nat} {p1 : Option Nat} {p2 : Int32} {S S' : cS} {r : Int32} {dc ds : Nat} (hR : CR b0 K Z) (hV : ∀ (a : Nat) (n : Int32) (z : Nat) (T T' : cS) (q : Option Nat) (dc ds : Nat), RV a n z T = some (q, T', dc, ds) → Ct l D vwCl (tyL dA) b0 Z y_R_readValue (.code y_R_readValue cb_R_readValue 3 (some (.object "TableText$Node")) :: wsA) FV LV [.ref a, .int n] (cH dA b0 T hp0) z (some (va_rf q)) (cH dA b0 T' hp0) dc ds) (hm : x_R_readEntry N b0 K RV p0 p1 p2 sz S = some (r, S', dc, ds)) : Ct l D vwCl (tyL dA) b0 Z y_R_readEntry (.code y_R_readEntry cb_R_readEntry 6 (some .boolean) :: wsA) (FV + 20) (LV + 600) [.ref p0, va_rf p1, .int p2] (cH dA b0 S hp0) sz (some (.int r)) (cH dA b0 S' hp0) dc ds := by
  refine ct_ofF (cc := cb_R_readEntry) (maxL := 6) (ret := (some .boolean)) (lo0 := [some (.ref p0), some (va_rf p1), some (.int p2), none, none, none]) hR.1 (by decide +kernel) rfl (by simp [lg_sl, cat_i, cat_r, cat_l, va_rf_cat]) rfl (by simp [lx_all, lv_args, cat_i, cat_r, cat_l, va_rf_cat]) ?_
  intro p e s m args below meth c ls B hnm hl I
  obtain ⟨hx, hb, -⟩ := B.1
  have hz : sz = sz + 0 := rfl
  have hc : 0 + dc = dc := Nat.zero_add _
  have hs : 0 + ds = ds := Nat.zero_add _
  unfold x_R_readEntry at hm
  refine q_aload_n (pc := 0) (i := 0) (v := .ref p0) hx hb d_R_readEntry_0 rfl rfl (lx_get hl rfl) ?_
  refine oifk hm (fun hk hm => ?_)
  refine ob4 hm (fun q2 S3 c4 d5 e1 hm => ?_)
  refine owr4 hm hc hs (fun dc ds hm hc hs => ?_)
  refine k_callV (pc := 1) (As := []) (rest := []) (b := p0) B hR hl rfl I (c_R_readPath hR e1) kw_R_76 (by decide) hk rfl (fr_k (Nat.le_of_ble_eq_true rfl)) (lo_k (Nat.le_of_ble_eq_true rfl)) rfl (by simp [cat_i, cat_r, cat_l, va_rf_cat]) d_R_readEntry_1 (hr_ hc) (hr_ hs) (fun H locs I => ?_)
  have hz := hzn (n := c4) hz
  refine q_astore_n (pc := 4) (i := 3) (v := va_rf q2) (lo' := [some (.ref p0), some (va_rf p1), some (.int p2), some (va_rf q2), none, none]) hx hb d_R_readEntry_4 rfl (va_rf_isRef _) hl (Nat.le_of_ble_eq_true rfl) (lx_ci rfl) rfl (fun ls hl => ?_)
  refine q_aload_n (pc := 5) (i := 1) (v := va_rf p1) hx hb d_R_readEntry_5 rfl (va_rf_isRef _) (lx_get hl rfl) ?_
  refine q_astore (pc := 6) (i := 4) (v := va_rf p1) (lo' := [some (.ref p0), some (va_rf p1), some (.int p2), some (va_rf q2), some (va_rf p1), none]) hx hb d_R_readEntry_6 (va_rf_isRef _) hl (Nat.le_of_ble_eq_true rfl) (lx_cq rfl) rfl (fun ls hl => ?_)
  exact w_R_readEntry_8 (y0 := p0) (y2 := p2) (y3 := q2) (y4 := p1)  B hR hV (lx_sub (lo' := [some (.ref p0), none, some (.int p2), some (va_rf q2), some (va_rf p1), none]) hl (by simp [lx_le, va_rf])) I hz hc hs hm
def x_R_readList_126 (N b0 : Nat) (K : cS) (RV : Nat → Int32 → Nat → cS → Option (Option Nat × cS × Nat × Nat)) (K42 : Nat → Int32 → Nat → Int32 → Int32 → Nat → cS → Option (Option Nat × cS × Nat × Nat)) (y0 : Nat) (y1 : Int32) (y2 : Nat) (y3 : Int32) (y4 : Int32) (sz : Nat) (S : cS) : Option (Option Nat × cS × Nat × Nat) :=
  K42 y0 y1 y2 y3 (y4 + 1) sz S
set_option maxRecDepth 100000 in
set_option maxHeartbeats 4000000 in
theorem w_R_readList_126 {K42 : Nat → Int32 → Nat → Int32 → Int32 → Nat → cS → Option (Option Nat × cS × Nat × Nat)} {y0 : Nat} {y1 : Int32} {y2 : Nat} {y3 : Int32} {y4 : Int32} {sz : Nat} {S : cS} (hK42 : ∀ (y0 : Nat) (y1 : Int32) (y2 : Nat) (y3 : Int32) (y4 : Int32) (sz : Nat) (S : cS) (ls : Array Slot) (H : Heap) (locs : List Loc) (cells slots dc ds : Nat), lx ls [some (.ref y0), some (.int y1), some (.ref y2), some (.int y3), some (.int y4), none] → AI D vwCl b0 (cH dA b0 S hp0) sz s.heap H locs → sz = sz0 + cells → cells + dc = mc → slots + ds = ms → K42 y0 y1 y2 y3 y4 sz S = some (q, S', dc, ds) → W p l e { frames := FV + 20, cells := mc, slots := ms, locals := LV + 600 } s m args below meth c H locs cells slots (MQ below (CQ D vwCl b0 (some (va_rf q)) (cH dA b0 S' hp0) (sz0 + mc)) args s mc ms (fun q => b0 ≤ q)) (F0 m 42 ls [])) (B : BX p m c cb_R_readList 6 s args (.code y_R_readList cb_R_readList 6 (some (.object "TableText$Node")) :: wsA) RZ4 meth (some (.object "TableText$Node")) D vwCl (tyL dA) b0 Z) (hR : CR b0 K Z) (hV : ∀ (a : Nat) (n : Int32) (z : Nat) (T T' : cS) (q : Option Nat) (dc ds : Nat), RV a n z T = some (q, T', dc, ds) → Ct l D vwCl (tyL dA) b0 Z y_R_readValue (.code y_R_readValue cb_R_readValue 3 (some (.object "TableText$Node")) :: wsA) FV LV [.ref a, .int n] (cH dA b0 T hp0) z (some (va_rf q)) (cH dA b0 T' hp0) dc ds) (hl : lx ls [some (.ref y0), some (.int y1), some (.ref y2), some (.int y3), some (.int y4), none]) (I : AI D vwCl b0 (cH dA b0 S hp0) sz s.heap H locs) (hz : sz = sz0 + cells) (hc : cells + dc = mc) (hs : slots + ds = ms) (hm : x_R_readList_126 N b0 K RV K42 y0 y1 y2 y3 y4 sz S = some (q, S', dc, ds)) : W p l e { frames := FV + 20, cells := mc, slots := ms, locals := LV + 600 } s m args below meth c H locs cells slots (MQ below (CQ D vwCl b0 (some (va_rf q)) (cH dA b0 S' hp0) (sz0 + mc)) args s mc ms (fun q => b0 ≤ q)) (F0 m 126 ls []) := by
  obtain ⟨hx, hb, -⟩ := B.1
  unfold x_R_readList_126 at hm
  refine q_iinc (pc := 126) (i := 4) (v := y4 + 1) (lo' := [some (.ref y0), some (.int y1), some (.ref y2), some (.int y3), some (.int (y4 + 1)), none]) hx hb d_R_readList_126 hl rfl rfl (Nat.le_of_ble_eq_true rfl) (lx_ci rfl) rfl (fun ls hl => ?_)
  refine lv_goto (pc := 129) (tgt := 42) hx hb d_R_readList_129 (by decide) ?_
  exact hK42 y0 y1 y2 y3 (y4 + 1) sz S _ _ _ _ _ _ _ hl I hz hc hs hm
def x_R_readList_125 (N b0 : Nat) (K : cS) (RV : Nat → Int32 → Nat → cS → Option (Option Nat × cS × Nat × Nat)) (K42 : Nat → Int32 → Nat → Int32 → Int32 → Nat → cS → Option (Option Nat × cS × Nat × Nat)) (y0 : Nat) (y1 : Int32) (y2 : Nat) (y4 : Int32) (z0 : Int32) (sz : Nat) (S : cS) : Option (Option Nat × cS × Nat × Nat) :=
  x_R_readList_126 N b0 K RV K42 y0 y1 y2 z0 y4 sz S
set_option maxRecDepth 100000 in
set_option maxHeartbeats 4000000 in
theorem w_R_readList_125 {K42 : Nat → Int32 → Nat → Int32 → Int32 → Nat → cS → Option (Option Nat × cS × Nat × Nat)} {y0 : Nat} {y1 : Int32} {y2 : Nat} {y4 : Int32} {z0 : Int32} {sz : Nat} {S : cS} (hK42 : ∀ (y0 : Nat) (y1 : Int32) (y2 : Nat) (y3 : Int32) (y4 : Int32) (sz : Nat) (S : cS) (ls : Array Slot) (H : Heap) (locs : List Loc) (cells slots dc ds : Nat), lx ls [some (.ref y0), some (.int y1), some (.ref y2), some (.int y3), some (.int y4), none] → AI D vwCl b0 (cH dA b0 S hp0) sz s.heap H locs → sz = sz0 + cells → cells + dc = mc → slots + ds = ms → K42 y0 y1 y2 y3 y4 sz S = some (q, S', dc, ds) → W p l e { frames := FV + 20, cells := mc, slots := ms, locals := LV + 600 } s m args below meth c H locs cells slots (MQ below (CQ D vwCl b0 (some (va_rf q)) (cH dA b0 S' hp0) (sz0 + mc)) args s mc ms (fun q => b0 ≤ q)) (F0 m 42 ls [])) (B : BX p m c cb_R_readList 6 s args (.code y_R_readList cb_R_readList 6 (some (.object "TableText$Node")) :: wsA) RZ4 meth (some (.object "TableText$Node")) D vwCl (tyL dA) b0 Z) (hR : CR b0 K Z) (hV : ∀ (a : Nat) (n : Int32) (z : Nat) (T T' : cS) (q : Option Nat) (dc ds : Nat), RV a n z T = some (q, T', dc, ds) → Ct l D vwCl (tyL dA) b0 Z y_R_readValue (.code y_R_readValue cb_R_readValue 3 (some (.object "TableText$Node")) :: wsA) FV LV [.ref a, .int n] (cH dA b0 T hp0) z (some (va_rf q)) (cH dA b0 T' hp0) dc ds) (hl : lx ls [some (.ref y0), some (.int y1), some (.ref y2), none, some (.int y4), none]) (I : AI D vwCl b0 (cH dA b0 S hp0) sz s.heap H locs) (hz : sz = sz0 + cells) (hc : cells + dc = mc) (hs : slots + ds = ms) (hm : x_R_readList_125 N b0 K RV K42 y0 y1 y2 y4 z0 sz S = some (q, S', dc, ds)) : W p l e { frames := FV + 20, cells := mc, slots := ms, locals := LV + 600 } s m args below meth c H locs cells slots (MQ below (CQ D vwCl b0 (some (va_rf q)) (cH dA b0 S' hp0) (sz0 + mc)) args s mc ms (fun q => b0 ≤ q)) (F0 m 125 ls [.int z0]) := by
  obtain ⟨hx, hb, -⟩ := B.1
  unfold x_R_readList_125 at hm
  refine q_istore_n (pc := 125) (i := 3) (lo' := [some (.ref y0), some (.int y1), some (.ref y2), some (.int z0), some (.int y4), none]) hx hb d_R_readList_125 rfl hl (Nat.le_of_ble_eq_true rfl) (lx_cr rfl) rfl (fun ls hl => ?_)
  exact w_R_readList_126 (y0 := y0) (y1 := y1) (y2 := y2) (y3 := z0) (y4 := y4) hK42 B hR hV hl I hz hc hs hm
def x_R_readList_92 (N b0 : Nat) (K : cS) (RV : Nat → Int32 → Nat → cS → Option (Option Nat × cS × Nat × Nat)) (K42 : Nat → Int32 → Nat → Int32 → Int32 → Nat → cS → Option (Option Nat × cS × Nat × Nat)) (y0 : Nat) (y1 : Int32) (y2 : Nat) (y4 : Int32) (z0 : Int32) (sz : Nat) (S : cS) : Option (Option Nat × cS × Nat × Nat) :=
  if z0 = 0 then (x_R_readList_126 N b0 K RV K42 y0 y1 y2 z0 y4 sz S) else (b1 (gI b0 K S 4 6 y0) (fun x1 => b1 (pI b0 S 4 6 y0 (x1 + 1)) (fun S3 => ifk b0 K S3 4 y0 (b1 (x_R_skipBlanksLinesAndComments N b0 K y0 S3) (fun S6 => ifk b0 K S6 4 y0 (b1 (x_R_peek N b0 K y0 S6) (fun x8 => if x8 = 93 then (x_R_readList_125 N b0 K RV K42 y0 y1 y2 y4 0 sz S6) else (x_R_readList_125 N b0 K RV K42 y0 y1 y2 y4 1 sz S6))))))))
set_option maxRecDepth 100000 in
set_option maxHeartbeats 4000000 in
theorem w_R_readList_92 {K42 : Nat → Int32 → Nat → Int32 → Int32 → Nat → cS → Option (Option Nat × cS × Nat × Nat)} {y0 : Nat} {y1 : Int32} {y2 : Nat} {y4 : Int32} {z0 : Int32} {sz : Nat} {S : cS} (hK42 : ∀ (y0 : Nat) (y1 : Int32) (y2 : Nat) (y3 : Int32) (y4 : Int32) (sz : Nat) (S : cS) (ls : Array Slot) (H : Heap) (locs : List Loc) (cells slots dc ds : Nat), lx ls [some (.ref y0), some (.int y1), some (.ref y2), some (.int y3), some (.int y4), none] → AI D vwCl b0 (cH dA b0 S hp0) sz s.heap H locs → sz = sz0 + cells → cells + dc = mc → slots + ds = ms → K42 y0 y1 y2 y3 y4 sz S = some (q, S', dc, ds) → W p l e { frames := FV + 20, cells := mc, slots := ms, locals := LV + 600 } s m args below meth c H locs cells slots (MQ below (CQ D vwCl b0 (some (va_rf q)) (cH dA b0 S' hp0) (sz0 + mc)) args s mc ms (fun q => b0 ≤ q)) (F0 m 42 ls [])) (B : BX p m c cb_R_readList 6 s args (.code y_R_readList cb_R_readList 6 (some (.object "TableText$Node")) :: wsA) RZ4 meth (some (.object "TableText$Node")) D vwCl (tyL dA) b0 Z) (hR : CR b0 K Z) (hV : ∀ (a : Nat) (n : Int32) (z : Nat) (T T' : cS) (q : Option Nat) (dc ds : Nat), RV a n z T = some (q, T', dc, ds) → Ct l D vwCl (tyL dA) b0 Z y_R_readValue (.code y_R_readValue cb_R_readValue 3 (some (.object "TableText$Node")) :: wsA) FV LV [.ref a, .int n] (cH dA b0 T hp0) z (some (va_rf q)) (cH dA b0 T' hp0) dc ds) (hl : lx ls [some (.ref y0), some (.int y1), some (.ref y2), none, some (.int y4), none]) (I : AI D vwCl b0 (cH dA b0 S hp0) sz s.heap H locs) (hz : sz = sz0 + cells) (hc : cells + dc = mc) (hs : slots + ds = ms) (hm : x_R_readList_92 N b0 K RV K42 y0 y1 y2 y4 z0 sz S = some (q, S', dc, ds)) : W p l e { frames := FV + 20, cells := mc, slots := ms, locals := LV + 600 } s m args below meth c H locs cells slots (MQ below (CQ D vwCl b0 (some (va_rf q)) (cH dA b0 S' hp0) (sz0 + mc)) args s mc ms (fun q => b0 ≤ q)) (F0 m 92 ls [.int z0]) := by
  obtain ⟨hx, hb, -⟩ := B.1
  unfold x_R_readList_92 at hm
  refine q_istore_n (pc := 92) (i := 3) (lo' := [some (.ref y0), some (.int y1), some (.ref y2), some (.int z0), some (.int y4), none]) hx hb d_R_readList_92 rfl hl (Nat.le_of_ble_eq_true rfl) (lx_cr rfl) rfl (fun ls hl => ?_)
  refine lv_iload_n (pc := 93) (i := 3) hx hb d_R_readList_93 rfl (lx_get hl rfl) ?_
  refine lv_if_eq (pc := 94) (tgt := 126) hx hb d_R_readList_94 (by decide) (fun hcc => ?_) (fun hcc => ?_)
  · have hm := ift hcc hm
    exact w_R_readList_126 (y0 := y0) (y1 := y1) (y2 := y2) (y3 := z0) (y4 := y4) hK42 B hR hV hl I hz hc hs hm
  · have hm := iff' hcc hm
    refine q_aload_n (pc := 97) (i := 0) (v := .ref y0) hx hb d_R_readList_97 rfl rfl (lx_get hl rfl) ?_
    refine lv_dup (pc := 98) hx hb d_R_readList_98 rfl ?_
    refine ob1 hm (fun x1 e2 hm => ?_)
    refine k_getI (pc := 99) (z := 4) (k := 6) (index := 45) B hR I (by decide) (by decide) mF_R_45 rfl (fun _ _ => rfl) e2 d_R_readList_99 ?_
    refine lv_iconst (pc := 102) (v := 1) hx hb d_R_readList_102 (by decide) ?_
    refine lv_iadd (pc := 103) hx hb d_R_readList_103 ?_
    refine ob1 hm (fun S3 e4 hm => ?_)
    refine k_putI (pc := 104) (z := 4) (k := 6) (index := 45) (v := (x1 + 1)) B I (by decide) (by decide) mF_R_45 rfl rfl rfl rfl cset_4_6 e4 d_R_readList_104 (fun H locs I => ?_)
    refine q_aload_n (pc := 107) (i := 0) (v := .ref y0) hx hb d_R_readList_107 rfl rfl (lx_get hl rfl) ?_
    refine oifk hm (fun hk hm => ?_)
    refine ob1 hm (fun S6 e5 hm => ?_)
    refine k_callV (pc := 108) (As := []) (rest := []) (b := y0) B hR hl rfl I (c_R_skipBlanksLinesAndComments hR e5) kw_R_178 (by decide) hk rfl (fr_k (Nat.le_of_ble_eq_true rfl)) (lo_k (Nat.le_of_ble_eq_true rfl)) rfl (by simp [cat_i, cat_r, cat_l, va_rf_cat]) d_R_readList_108 (hr0 hc) (hr0 hs) (fun H locs I => ?_)
    refine q_aload_n (pc := 111) (i := 0) (v := .ref y0) hx hb d_R_readList_111 rfl rfl (lx_get hl rfl) ?_
    refine oifk hm (fun hk hm => ?_)
    refine ob1 hm (fun x8 e7 hm => ?_)
    refine k_callV (pc := 112) (As := []) (rest := []) (b := y0) B hR hl rfl I (c_R_peek hR e7) kw_R_54 (by decide) hk rfl (fr_k (Nat.le_of_ble_eq_true rfl)) (lo_k (Nat.le_of_ble_eq_true rfl)) rfl (by simp [cat_i, cat_r, cat_l, va_rf_cat]) d_R_readList_112 (hr0 hc) (hr0 hs) (fun H locs I => ?_)
    refine lv_bipush (pc := 115) (v := 93) hx hb d_R_readList_115 (by decide) ?_
    refine lv_icmp_eq (pc := 117) (tgt := 124) hx hb d_R_readList_117 (by decide) (fun hcc => ?_) (fun hcc => ?_)
    · have hm := ift hcc hm
      refine lv_iconst (pc := 124) (v := 0) hx hb d_R_readList_124 (by decide) ?_
      exact w_R_readList_125 (y0 := y0) (y1 := y1) (y2 := y2) (y4 := y4) (z0 := 0) hK42 B hR hV (lx_sub (lo' := [some (.ref y0), some (.int y1), some (.ref y2), none, some (.int y4), none]) hl (by simp [lx_le])) I hz hc hs hm
    · have hm := iff' hcc hm
      refine lv_iconst (pc := 120) (v := 1) hx hb d_R_readList_120 (by decide) ?_
      refine lv_goto (pc := 121) (tgt := 125) hx hb d_R_readList_121 (by decide) ?_
      exact w_R_readList_125 (y0 := y0) (y1 := y1) (y2 := y2) (y4 := y4) (z0 := 1) hK42 B hR hV (lx_sub (lo' := [some (.ref y0), some (.int y1), some (.ref y2), none, some (.int y4), none]) hl (by simp [lx_le])) I hz hc hs hm
def x_R_readList_132 (N b0 : Nat) (K : cS) (RV : Nat → Int32 → Nat → cS → Option (Option Nat × cS × Nat × Nat)) (y0 : Nat) (y2 : Nat) (sz : Nat) (S : cS) : Option (Option Nat × cS × Nat × Nat) :=
  ifk b0 K S 4 y0 (b2 (x_R_take N b0 K y0 93 S) (fun x2 S3 => if x2 = 0 then (some (none, S3, 0, 0)) else (some (some y2, S3, 0, 0))))
set_option maxRecDepth 100000 in
set_option maxHeartbeats 4000000 in
theorem w_R_readList_132 {y0 : Nat} {y2 : Nat} {sz : Nat} {S : cS} (B : BX p m c cb_R_readList 6 s args (.code y_R_readList cb_R_readList 6 (some (.object "TableText$Node")) :: wsA) RZ4 meth (some (.object "TableText$Node")) D vwCl (tyL dA) b0 Z) (hR : CR b0 K Z) (hV : ∀ (a : Nat) (n : Int32) (z : Nat) (T T' : cS) (q : Option Nat) (dc ds : Nat), RV a n z T = some (q, T', dc, ds) → Ct l D vwCl (tyL dA) b0 Z y_R_readValue (.code y_R_readValue cb_R_readValue 3 (some (.object "TableText$Node")) :: wsA) FV LV [.ref a, .int n] (cH dA b0 T hp0) z (some (va_rf q)) (cH dA b0 T' hp0) dc ds) (hl : lx ls [some (.ref y0), none, some (.ref y2), none, none, none]) (I : AI D vwCl b0 (cH dA b0 S hp0) sz s.heap H locs) (hz : sz = sz0 + cells) (hc : cells + dc = mc) (hs : slots + ds = ms) (hm : x_R_readList_132 N b0 K RV  y0 y2 sz S = some (q, S', dc, ds)) : W p l e { frames := FV + 20, cells := mc, slots := ms, locals := LV + 600 } s m args below meth c H locs cells slots (MQ below (CQ D vwCl b0 (some (va_rf q)) (cH dA b0 S' hp0) (sz0 + mc)) args s mc ms (fun q => b0 ≤ q)) (F0 m 132 ls []) := by
  obtain ⟨hx, hb, -⟩ := B.1
  unfold x_R_readList_132 at hm
  refine q_aload_n (pc := 132) (i := 0) (v := .ref y0) hx hb d_R_readList_132 rfl rfl (lx_get hl rfl) ?_
  refine lv_bipush (pc := 133) (v := 93) hx hb d_R_readList_133 (by decide) ?_
  refine oifk hm (fun hk hm => ?_)
  refine ob2 hm (fun x2 S3 e1 hm => ?_)
  refine k_callV (pc := 135) (As := [.int 93]) (rest := []) (b := y0) B hR hl rfl I (c_R_take hR e1) kw_R_73 (by decide) hk rfl (fr_k (Nat.le_of_ble_eq_true rfl)) (lo_k (Nat.le_of_ble_eq_true rfl)) rfl (by simp [cat_i, cat_r, cat_l, va_rf_cat]) d_R_readList_135 (hr0 hc) (hr0 hs) (fun H locs I => ?_)
  refine lv_if_eq (pc := 138) (tgt := 145) hx hb d_R_readList_138 (by decide) (fun hcc => ?_) (fun hcc => ?_)
  · have hm := ift hcc hm
    refine lv_null (pc := 145) hx hb d_R_readList_145 ?_
    cases hm
    exact q_aretA (pc := 146) B I hz hc hs rfl (Or.inl ⟨_, rfl⟩) d_R_readList_146
  · have hm := iff' hcc hm
    refine q_aload_n (pc := 141) (i := 2) (v := .ref y2) hx hb d_R_readList_141 rfl rfl (lx_get hl rfl) ?_
    refine lv_goto (pc := 142) (tgt := 146) hx hb d_R_readList_142 (by decide) ?_
    cases hm
    exact q_aretA (pc := 146) B I hz hc hs rfl (Or.inl ⟨_, rfl⟩) d_R_readList_146
def x_R_readList_42F (N b0 : Nat) (K : cS) (RV : Nat → Int32 → Nat → cS → Option (Option Nat × cS × Nat × Nat)) (K42 : Nat → Int32 → Nat → Int32 → Int32 → Nat → cS → Option (Option Nat × cS × Nat × Nat)) (y0 : Nat) (y1 : Int32) (y2 : Nat) (y3 : Int32) (y4 : Int32) (sz : Nat) (S : cS) : Option (Option Nat × cS × Nat × Nat) :=
  if y3 = 0 then (x_R_readList_132 N b0 K RV  y0 y2 sz S) else (if 240 ≤ y4 then (x_R_readList_132 N b0 K RV  y0 y2 sz S) else (ifk b0 K S 4 y0 (b4 (RV y0 y1 sz S) (fun q2 S3 c4 d5 => wr4 c4 d5 (om q2 (some (none, S3, 0, 0)) (fun a7 => ifk b0 K S3 2 y2 (b1 (x_N_add N b0 K y2 (some a7) S3) (fun S9 => ifk b0 K S9 4 y0 (b1 (x_R_skipBlanksLinesAndComments N b0 K y0 S9) (fun S11 => ifk b0 K S11 4 y0 (b1 (x_R_peek N b0 K y0 S11) (fun x13 => if x13 = 44 then (x_R_readList_92 N b0 K RV K42 y0 y1 y2 y4 1 (sz + c4) S11) else (x_R_readList_92 N b0 K RV K42 y0 y1 y2 y4 0 (sz + c4) S11)))))))))))))
def x_R_readList_42 (N b0 : Nat) (K : cS) (RV : Nat → Int32 → Nat → cS → Option (Option Nat × cS × Nat × Nat)) : Nat → Nat → Int32 → Nat → Int32 → Int32 → Nat → cS → Option (Option Nat × cS × Nat × Nat)
  | 0, _, _, _, _, _, _, _ => none
  | k + 1, y0, y1, y2, y3, y4, sz, S => x_R_readList_42F N b0 K RV  (x_R_readList_42 N b0 K RV  k) y0 y1 y2 y3 y4 sz S
set_option maxRecDepth 100000 in
set_option maxHeartbeats 4000000 in
theorem w_R_readList_42F {K42 : Nat → Int32 → Nat → Int32 → Int32 → Nat → cS → Option (Option Nat × cS × Nat × Nat)} {y0 : Nat} {y1 : Int32} {y2 : Nat} {y3 : Int32} {y4 : Int32} {sz : Nat} {S : cS} (hK42 : ∀ (y0 : Nat) (y1 : Int32) (y2 : Nat) (y3 : Int32) (y4 : Int32) (sz : Nat) (S : cS) (ls : Array Slot) (H : Heap) (locs : List Loc) (cells slots dc ds : Nat), lx ls [some (.ref y0), some (.int y1), some (.ref y2), some (.int y3), some (.int y4), none] → AI D vwCl b0 (cH dA b0 S hp0) sz s.heap H locs → sz = sz0 + cells → cells + dc = mc → slots + ds = ms → K42 y0 y1 y2 y3 y4 sz S = some (q, S', dc, ds) → W p l e { frames := FV + 20, cells := mc, slots := ms, locals := LV + 600 } s m args below meth c H locs cells slots (MQ below (CQ D vwCl b0 (some (va_rf q)) (cH dA b0 S' hp0) (sz0 + mc)) args s mc ms (fun q => b0 ≤ q)) (F0 m 42 ls [])) (B : BX p m c cb_R_readList 6 s args (.code y_R_readList cb_R_readList 6 (some (.object "TableText$Node")) :: wsA) RZ4 meth (some (.object "TableText$Node")) D vwCl (tyL dA) b0 Z) (hR : CR b0 K Z) (hV : ∀ (a : Nat) (n : Int32) (z : Nat) (T T' : cS) (q : Option Nat) (dc ds : Nat), RV a n z T = some (q, T', dc, ds) → Ct l D vwCl (tyL dA) b0 Z y_R_readValue (.code y_R_readValue cb_R_readValue 3 (some (.object "TableText$Node")) :: wsA) FV LV [.ref a, .int n] (cH dA b0 T hp0) z (some (va_rf q)) (cH dA b0 T' hp0) dc ds) (hl : lx ls [some (.ref y0), some (.int y1), some (.ref y2), some (.int y3), some (.int y4), none]) (I : AI D vwCl b0 (cH dA b0 S hp0) sz s.heap H locs) (hz : sz = sz0 + cells) (hc : cells + dc = mc) (hs : slots + ds = ms) (hm : x_R_readList_42F N b0 K RV  K42 y0 y1 y2 y3 y4 sz S = some (q, S', dc, ds)) : W p l e { frames := FV + 20, cells := mc, slots := ms, locals := LV + 600 } s m args below meth c H locs cells slots (MQ below (CQ D vwCl b0 (some (va_rf q)) (cH dA b0 S' hp0) (sz0 + mc)) args s mc ms (fun q => b0 ≤ q)) (F0 m 42 ls []) := by
  obtain ⟨hx, hb, -⟩ := B.1
  unfold x_R_readList_42F at hm
  refine lv_iload_n (pc := 42) (i := 3) hx hb d_R_readList_42 rfl (lx_get hl rfl) ?_
  refine lv_if_eq (pc := 43) (tgt := 132) hx hb d_R_readList_43 (by decide) (fun hcc => ?_) (fun hcc => ?_)
  · have hm := ift hcc hm
    exact w_R_readList_132 (y0 := y0) (y2 := y2)  B hR hV (lx_sub (lo' := [some (.ref y0), none, some (.ref y2), none, none, none]) hl (by simp [lx_le])) I hz hc hs hm
  · have hm := iff' hcc hm
    refine lv_iload (pc := 46) (i := 4) hx hb d_R_readList_46 (lx_get hl rfl) ?_
    refine lv_sipush (pc := 48) (v := 240) hx hb d_R_readList_48 (by decide) ?_
    refine lv_icmp_ge (pc := 51) (tgt := 132) hx hb d_R_readList_51 (by decide) (fun hcc => ?_) (fun hcc => ?_)
    · have hm := ift hcc hm
      exact w_R_readList_132 (y0 := y0) (y2 := y2)  B hR hV (lx_sub (lo' := [some (.ref y0), none, some (.ref y2), none, none, none]) hl (by simp [lx_le])) I hz hc hs hm
    · have hm := iff' hcc hm
      refine q_aload_n (pc := 54) (i := 0) (v := .ref y0) hx hb d_R_readList_54 rfl rfl (lx_get hl rfl) ?_
      refine lv_iload_n (pc := 55) (i := 1) hx hb d_R_readList_55 rfl (lx_get hl rfl) ?_
      refine oifk hm (fun hk hm => ?_)
      refine ob4 hm (fun q2 S3 c4 d5 e1 hm => ?_)
      refine owr4 hm hc hs (fun dc ds hm hc hs => ?_)
      refine k_callV (pc := 56) (As := [.int y1]) (rest := []) (b := y0) B hR hl rfl I (hV _ _ _ _ _ _ _ _ e1) kw_R_109 (by decide) hk rfl (fr_r (Nat.le_of_ble_eq_true rfl)) (lo_r (Nat.le_of_ble_eq_true rfl)) rfl (by simp [cat_i, cat_r, cat_l, va_rf_cat]) d_R_readList_56 (hr_ hc) (hr_ hs) (fun H locs I => ?_)
      have hz := hzn (n := c4) hz
      refine q_astore (pc := 59) (i := 5) (v := va_rf q2) (lo' := [some (.ref y0), some (.int y1), some (.ref y2), some (.int y3), some (.int y4), some (va_rf q2)]) hx hb d_R_readList_59 (va_rf_isRef _) hl (Nat.le_of_ble_eq_true rfl) (lx_ci rfl) rfl (fun ls hl => ?_)
      refine q_aload (pc := 61) (i := 5) (v := va_rf q2) hx hb d_R_readList_61 (va_rf_isRef _) (lx_get hl rfl) ?_
      refine oom hm (fun e6 hm => ?_) (fun a7 e6 hm => ?_)
      · have hm_14 := hm; have hl_14 := hl; have I_14 := I
        subst e6
        have hm := hm_14; have hl := hl_14; have I := I_14
        refine lv_ifnonnullN (pc := 63) hx hb d_R_readList_63 ?_
        refine lv_null (pc := 66) hx hb d_R_readList_66 ?_
        cases hm
        exact q_aretA (pc := 67) B I hz hc hs rfl (Or.inl ⟨_, rfl⟩) d_R_readList_67
      · have hm_14 := hm; have hl_14 := hl; have I_14 := I
        subst e6
        have hm := hm_14; have hl := hl_14; have I := I_14
        refine lv_ifnonnull (pc := 63) (tgt := 68) hx hb d_R_readList_63 (by decide) ?_
        refine q_aload_n (pc := 68) (i := 2) (v := .ref y2) hx hb d_R_readList_68 rfl rfl (lx_get hl rfl) ?_
        refine q_aload (pc := 69) (i := 5) (v := .ref a7) hx hb d_R_readList_69 rfl (lx_get hl rfl) ?_
        refine oifk hm (fun hk hm => ?_)
        refine ob1 hm (fun S9 e8 hm => ?_)
        refine k_callVN (pc := 71) (As := [va_rf (some a7)]) (rest := []) (b := y2) B hR hl rfl I (c_N_add hR e8) kw_R_113 (by decide) hk rfl (fr_k (Nat.le_of_ble_eq_true rfl)) (lo_k (Nat.le_of_ble_eq_true rfl)) rfl (by simp [cat_i, cat_r, cat_l, va_rf_cat]) d_R_readList_71 (hr0 hc) (hr0 hs) (fun H locs I => ?_)
        refine q_aload_n (pc := 74) (i := 0) (v := .ref y0) hx hb d_R_readList_74 rfl rfl (lx_get hl rfl) ?_
        refine oifk hm (fun hk hm => ?_)
        refine ob1 hm (fun S11 e10 hm => ?_)
        refine k_callV (pc := 75) (As := []) (rest := []) (b := y0) B hR hl rfl I (c_R_skipBlanksLinesAndComments hR e10) kw_R_178 (by decide) hk rfl (fr_k (Nat.le_of_ble_eq_true rfl)) (lo_k (Nat.le_of_ble_eq_true rfl)) rfl (by simp [cat_i, cat_r, cat_l, va_rf_cat]) d_R_readList_75 (hr0 hc) (hr0 hs) (fun H locs I => ?_)
        refine q_aload_n (pc := 78) (i := 0) (v := .ref y0) hx hb d_R_readList_78 rfl rfl (lx_get hl rfl) ?_
        refine oifk hm (fun hk hm => ?_)
        refine ob1 hm (fun x13 e12 hm => ?_)
        refine k_callV (pc := 79) (As := []) (rest := []) (b := y0) B hR hl rfl I (c_R_peek hR e12) kw_R_54 (by decide) hk rfl (fr_k (Nat.le_of_ble_eq_true rfl)) (lo_k (Nat.le_of_ble_eq_true rfl)) rfl (by simp [cat_i, cat_r, cat_l, va_rf_cat]) d_R_readList_79 (hr0 hc) (hr0 hs) (fun H locs I => ?_)
        refine lv_bipush (pc := 82) (v := 44) hx hb d_R_readList_82 (by decide) ?_
        refine lv_icmp_ne (pc := 84) (tgt := 91) hx hb d_R_readList_84 (by decide) (fun hcc => ?_) (fun hcc => ?_)
        · have hm := iff' hcc hm
          refine lv_iconst (pc := 91) (v := 0) hx hb d_R_readList_91 (by decide) ?_
          exact w_R_readList_92 (y0 := y0) (y1 := y1) (y2 := y2) (y4 := y4) (z0 := 0) hK42 B hR hV (lx_sub (lo' := [some (.ref y0), some (.int y1), some (.ref y2), none, some (.int y4), none]) hl (by simp [lx_le])) I hz hc hs hm
        · have hm := ift hcc hm
          refine lv_iconst (pc := 87) (v := 1) hx hb d_R_readList_87 (by decide) ?_
          refine lv_goto (pc := 88) (tgt := 92) hx hb d_R_readList_88 (by decide) ?_
          exact w_R_readList_92 (y0 := y0) (y1 := y1) (y2 := y2) (y4 := y4) (z0 := 1) hK42 B hR hV (lx_sub (lo' := [some (.ref y0), some (.int y1), some (.ref y2), none, some (.int y4), none]) hl (by simp [lx_le])) I hz hc hs hm
set_option maxRecDepth 100000 in
set_option maxHeartbeats 4000000 in
theorem w_R_readList_42i (B : BX p m c cb_R_readList 6 s args (.code y_R_readList cb_R_readList 6 (some (.object "TableText$Node")) :: wsA) RZ4 meth (some (.object "TableText$Node")) D vwCl (tyL dA) b0 Z) (hR : CR b0 K Z) (hV : ∀ (a : Nat) (n : Int32) (z : Nat) (T T' : cS) (q : Option Nat) (dc ds : Nat), RV a n z T = some (q, T', dc, ds) → Ct l D vwCl (tyL dA) b0 Z y_R_readValue (.code y_R_readValue cb_R_readValue 3 (some (.object "TableText$Node")) :: wsA) FV LV [.ref a, .int n] (cH dA b0 T hp0) z (some (va_rf q)) (cH dA b0 T' hp0) dc ds) (k : Nat) (y0 : Nat) (y1 : Int32) (y2 : Nat) (y3 : Int32) (y4 : Int32) (sz : Nat) (S : cS) (ls : Array Slot) (H : Heap) (locs : List Loc) (cells slots dc ds : Nat) (hl : lx ls [some (.ref y0), some (.int y1), some (.ref y2), some (.int y3), some (.int y4), none]) (I : AI D vwCl b0 (cH dA b0 S hp0) sz s.heap H locs) (hz : sz = sz0 + cells) (hc : cells + dc = mc) (hs : slots + ds = ms) (hm : x_R_readList_42 N b0 K RV  k y0 y1 y2 y3 y4 sz S = some (q, S', dc, ds)) : W p l e { frames := FV + 20, cells := mc, slots := ms, locals := LV + 600 } s m args below meth c H locs cells slots (MQ below (CQ D vwCl b0 (some (va_rf q)) (cH dA b0 S' hp0) (sz0 + mc)) args s mc ms (fun q => b0 ≤ q)) (F0 m 42 ls []) := by
  induction k generalizing y0 y1 y2 y3 y4 sz S ls H locs cells slots dc ds with
  | zero => cases hm
  | succ k ih => exact w_R_readList_42F  (fun y0 y1 y2 y3 y4 sz S ls H locs cells slots dc ds hl I hz hc hs hm => ih y0 y1 y2 y3 y4 sz S ls H locs cells slots dc ds hl I hz hc hs hm) B hR hV hl I hz hc hs hm
theorem w_R_readList_42 {y0 : Nat} {y1 : Int32} {y2 : Nat} {y3 : Int32} {y4 : Int32} {sz : Nat} {S : cS} (B : BX p m c cb_R_readList 6 s args (.code y_R_readList cb_R_readList 6 (some (.object "TableText$Node")) :: wsA) RZ4 meth (some (.object "TableText$Node")) D vwCl (tyL dA) b0 Z) (hR : CR b0 K Z) (hV : ∀ (a : Nat) (n : Int32) (z : Nat) (T T' : cS) (q : Option Nat) (dc ds : Nat), RV a n z T = some (q, T', dc, ds) → Ct l D vwCl (tyL dA) b0 Z y_R_readValue (.code y_R_readValue cb_R_readValue 3 (some (.object "TableText$Node")) :: wsA) FV LV [.ref a, .int n] (cH dA b0 T hp0) z (some (va_rf q)) (cH dA b0 T' hp0) dc ds) (hl : lx ls [some (.ref y0), some (.int y1), some (.ref y2), some (.int y3), some (.int y4), none]) (I : AI D vwCl b0 (cH dA b0 S hp0) sz s.heap H locs) (hz : sz = sz0 + cells) (hc : cells + dc = mc) (hs : slots + ds = ms) {k : Nat} (hm : x_R_readList_42 N b0 K RV  k y0 y1 y2 y3 y4 sz S = some (q, S', dc, ds)) : W p l e { frames := FV + 20, cells := mc, slots := ms, locals := LV + 600 } s m args below meth c H locs cells slots (MQ below (CQ D vwCl b0 (some (va_rf q)) (cH dA b0 S' hp0) (sz0 + mc)) args s mc ms (fun q => b0 ≤ q)) (F0 m 42 ls []) := w_R_readList_42i  B hR hV k _ _ _ _ _ sz S ls H locs _ _ _ _ hl I hz hc hs hm
def x_R_readList_38 (N b0 : Nat) (K : cS) (RV : Nat → Int32 → Nat → cS → Option (Option Nat × cS × Nat × Nat)) (y0 : Nat) (y1 : Int32) (y2 : Nat) (z0 : Int32) (sz : Nat) (S : cS) : Option (Option Nat × cS × Nat × Nat) :=
  x_R_readList_42 N b0 K RV  N y0 y1 y2 z0 0 sz S
set_option maxRecDepth 100000 in
set_option maxHeartbeats 4000000 in
theorem w_R_readList_38 {y0 : Nat} {y1 : Int32} {y2 : Nat} {z0 : Int32} {sz : Nat} {S : cS} (B : BX p m c cb_R_readList 6 s args (.code y_R_readList cb_R_readList 6 (some (.object "TableText$Node")) :: wsA) RZ4 meth (some (.object "TableText$Node")) D vwCl (tyL dA) b0 Z) (hR : CR b0 K Z) (hV : ∀ (a : Nat) (n : Int32) (z : Nat) (T T' : cS) (q : Option Nat) (dc ds : Nat), RV a n z T = some (q, T', dc, ds) → Ct l D vwCl (tyL dA) b0 Z y_R_readValue (.code y_R_readValue cb_R_readValue 3 (some (.object "TableText$Node")) :: wsA) FV LV [.ref a, .int n] (cH dA b0 T hp0) z (some (va_rf q)) (cH dA b0 T' hp0) dc ds) (hl : lx ls [some (.ref y0), some (.int y1), some (.ref y2), none, none, none]) (I : AI D vwCl b0 (cH dA b0 S hp0) sz s.heap H locs) (hz : sz = sz0 + cells) (hc : cells + dc = mc) (hs : slots + ds = ms) (hm : x_R_readList_38 N b0 K RV  y0 y1 y2 z0 sz S = some (q, S', dc, ds)) : W p l e { frames := FV + 20, cells := mc, slots := ms, locals := LV + 600 } s m args below meth c H locs cells slots (MQ below (CQ D vwCl b0 (some (va_rf q)) (cH dA b0 S' hp0) (sz0 + mc)) args s mc ms (fun q => b0 ≤ q)) (F0 m 38 ls [.int z0]) := by
  obtain ⟨hx, hb, -⟩ := B.1
  unfold x_R_readList_38 at hm
  refine q_istore_n (pc := 38) (i := 3) (lo' := [some (.ref y0), some (.int y1), some (.ref y2), some (.int z0), none, none]) hx hb d_R_readList_38 rfl hl (Nat.le_of_ble_eq_true rfl) (lx_cr rfl) rfl (fun ls hl => ?_)
  refine lv_iconst (pc := 39) (v := 0) hx hb d_R_readList_39 (by decide) ?_
  refine q_istore (pc := 40) (i := 4) (lo' := [some (.ref y0), some (.int y1), some (.ref y2), some (.int z0), some (.int 0), none]) hx hb d_R_readList_40 hl (Nat.le_of_ble_eq_true rfl) (lx_ci rfl) rfl (fun ls hl => ?_)
  exact w_R_readList_42 (y0 := y0) (y1 := y1) (y2 := y2) (y3 := z0) (y4 := 0)  B hR hV hl I hz hc hs hm
def x_R_readList (N b0 : Nat) (K : cS) (RV : Nat → Int32 → Nat → cS → Option (Option Nat × cS × Nat × Nat)) (p0 : Nat) (p1 : Int32) (sz : Nat) (S : cS) : Option (Option Nat × cS × Nat × Nat) :=
  wr4 1 8 (b1 (nOo b0 S 2 sz) (fun S1 => b1 (x_N_init N b0 K sz 5 0 S1) (fun S4 => b1 (gI b0 K S4 4 6 p0) (fun x5 => b1 (pI b0 S4 4 6 p0 (x5 + 1)) (fun S7 => ifk b0 K S7 4 p0 (b1 (x_R_skipBlanksLinesAndComments N b0 K p0 S7) (fun S10 => ifk b0 K S10 4 p0 (b1 (x_R_peek N b0 K p0 S10) (fun x12 => if x12 = 93 then (x_R_readList_38 N b0 K RV  p0 p1 sz 0 (sz + 1) S10) else (x_R_readList_38 N b0 K RV  p0 p1 sz 1 (sz + 1) S10))))))))))
set_option maxRecDepth 100000 in
set_option maxHeartbeats 4000000 in
theorem c_R_readList {p0 : Nat} {p1 : Int32} {S S' : cS} {q : Option Nat} {dc ds : Nat} (hR : CR b0 K Z) (hV : ∀ (a : Nat) (n : Int32) (z : Nat) (T T' : cS) (q : Option Nat) (dc ds : Nat), RV a n z T = some (q, T', dc, ds) → Ct l D vwCl (tyL dA) b0 Z y_R_readValue (.code y_R_readValue cb_R_readValue 3 (some (.object "TableText$Node")) :: wsA) FV LV [.ref a, .int n] (cH dA b0 T hp0) z (some (va_rf q)) (cH dA b0 T' hp0) dc ds) (hm : x_R_readList N b0 K RV p0 p1 sz S = some (q, S', dc, ds)) : Ct l D vwCl (tyL dA) b0 Z y_R_readList (.code y_R_readList cb_R_readList 6 (some (.object "TableText$Node")) :: wsA) (FV + 20) (LV + 600) [.ref p0, .int p1] (cH dA b0 S hp0) sz (some (va_rf q)) (cH dA b0 S' hp0) dc ds := by
  refine ct_ofF (cc := cb_R_readList) (maxL := 6) (ret := (some (.object "TableText$Node"))) (lo0 := [some (.ref p0), some (.int p1), none, none, none, none]) hR.1 (by decide +kernel) rfl (by simp [lg_sl, cat_i, cat_r, cat_l, va_rf_cat]) rfl (by simp [lx_all, lv_args, cat_i, cat_r, cat_l, va_rf_cat]) ?_
  intro p e s m args below meth c ls B hnm hl I
  obtain ⟨hx, hb, -⟩ := B.1
  have hz : sz = sz + 0 := rfl
  have hc : 0 + dc = dc := Nat.zero_add _
  have hs : 0 + ds = ds := Nat.zero_add _
  unfold x_R_readList at hm
  refine owr4 hm hc hs (fun dc ds hm hc hs => ?_)
  refine ob1 hm (fun S1 e2 hm => ?_)
  refine k_new (pc := 0) (z := 2) (index := 33) (n := 8) B I (by decide) mC_R_33 mI_2 mN_2 nf_2 (hr_ hc) (hr_ hs) e2 d_R_readList_0 (fun H I => ?_)
  have hz := hzn (n := 1) hz
  refine lv_dup (pc := 3) hx hb d_R_readList_3 rfl ?_
  refine lv_iconst (pc := 4) (v := 5) hx hb d_R_readList_4 (by decide) ?_
  refine lv_iconst (pc := 5) (v := 0) hx hb d_R_readList_5 (by decide) ?_
  refine ob1 hm (fun S4 e3 hm => ?_)
  refine k_callIN (pc := 6) (As := [.int 5, .int 0]) (rest := [.ref sz]) (b := sz) B hR hl rfl I (c_N_init hR e3) kw_R_35 rfl (fr_k (Nat.le_of_ble_eq_true rfl)) (lo_k (Nat.le_of_ble_eq_true rfl)) rfl (by simp [cat_i, cat_r, cat_l, va_rf_cat]) d_R_readList_6 (hr0 hc) (hr0 hs) (fun H locs I => ?_)
  refine q_astore_n (pc := 9) (i := 2) (v := .ref sz) (lo' := [some (.ref p0), some (.int p1), some (.ref sz), none, none, none]) hx hb d_R_readList_9 rfl rfl hl (Nat.le_of_ble_eq_true rfl) (lx_ci rfl) rfl (fun ls hl => ?_)
  refine q_aload_n (pc := 10) (i := 0) (v := .ref p0) hx hb d_R_readList_10 rfl rfl (lx_get hl rfl) ?_
  refine lv_dup (pc := 11) hx hb d_R_readList_11 rfl ?_
  refine ob1 hm (fun x5 e6 hm => ?_)
  refine k_getI (pc := 12) (z := 4) (k := 6) (index := 45) B hR I (by decide) (by decide) mF_R_45 rfl (fun _ _ => rfl) e6 d_R_readList_12 ?_
  refine lv_iconst (pc := 15) (v := 1) hx hb d_R_readList_15 (by decide) ?_
  refine lv_iadd (pc := 16) hx hb d_R_readList_16 ?_
  refine ob1 hm (fun S7 e8 hm => ?_)
  refine k_putI (pc := 17) (z := 4) (k := 6) (index := 45) (v := (x5 + 1)) B I (by decide) (by decide) mF_R_45 rfl rfl rfl rfl cset_4_6 e8 d_R_readList_17 (fun H locs I => ?_)
  refine q_aload_n (pc := 20) (i := 0) (v := .ref p0) hx hb d_R_readList_20 rfl rfl (lx_get hl rfl) ?_
  refine oifk hm (fun hk hm => ?_)
  refine ob1 hm (fun S10 e9 hm => ?_)
  refine k_callV (pc := 21) (As := []) (rest := []) (b := p0) B hR hl rfl I (c_R_skipBlanksLinesAndComments hR e9) kw_R_178 (by decide) hk rfl (fr_k (Nat.le_of_ble_eq_true rfl)) (lo_k (Nat.le_of_ble_eq_true rfl)) rfl (by simp [cat_i, cat_r, cat_l, va_rf_cat]) d_R_readList_21 (hr0 hc) (hr0 hs) (fun H locs I => ?_)
  refine q_aload_n (pc := 24) (i := 0) (v := .ref p0) hx hb d_R_readList_24 rfl rfl (lx_get hl rfl) ?_
  refine oifk hm (fun hk hm => ?_)
  refine ob1 hm (fun x12 e11 hm => ?_)
  refine k_callV (pc := 25) (As := []) (rest := []) (b := p0) B hR hl rfl I (c_R_peek hR e11) kw_R_54 (by decide) hk rfl (fr_k (Nat.le_of_ble_eq_true rfl)) (lo_k (Nat.le_of_ble_eq_true rfl)) rfl (by simp [cat_i, cat_r, cat_l, va_rf_cat]) d_R_readList_25 (hr0 hc) (hr0 hs) (fun H locs I => ?_)
  refine lv_bipush (pc := 28) (v := 93) hx hb d_R_readList_28 (by decide) ?_
  refine lv_icmp_eq (pc := 30) (tgt := 37) hx hb d_R_readList_30 (by decide) (fun hcc => ?_) (fun hcc => ?_)
  · have hm := ift hcc hm
    refine lv_iconst (pc := 37) (v := 0) hx hb d_R_readList_37 (by decide) ?_
    exact w_R_readList_38 (y0 := p0) (y1 := p1) (y2 := sz) (z0 := 0)  B hR hV hl I hz hc hs hm
  · have hm := iff' hcc hm
    refine lv_iconst (pc := 33) (v := 1) hx hb d_R_readList_33 (by decide) ?_
    refine lv_goto (pc := 34) (tgt := 38) hx hb d_R_readList_34 (by decide) ?_
    exact w_R_readList_38 (y0 := p0) (y1 := p1) (y2 := sz) (z0 := 1)  B hR hV hl I hz hc hs hm
def x_R_readClosedTable_115 (N b0 : Nat) (K : cS) (RV : Nat → Int32 → Nat → cS → Option (Option Nat × cS × Nat × Nat)) (K52 : Nat → Int32 → Nat → Int32 → Int32 → Int32 → Nat → cS → Option (Option Nat × cS × Nat × Nat)) (y0 : Nat) (y1 : Int32) (y2 : Nat) (y3 : Int32) (y4 : Int32) (y5 : Int32) (sz : Nat) (S : cS) : Option (Option Nat × cS × Nat × Nat) :=
  K52 y0 y1 y2 y3 y4 (y5 + 1) sz S
set_option maxRecDepth 100000 in
set_option maxHeartbeats 4000000 in
theorem w_R_readClosedTable_115 {K52 : Nat → Int32 → Nat → Int32 → Int32 → Int32 → Nat → cS → Option (Option Nat × cS × Nat × Nat)} {y0 : Nat} {y1 : Int32} {y2 : Nat} {y3 : Int32} {y4 : Int32} {y5 : Int32} {sz : Nat} {S : cS} (hK52 : ∀ (y0 : Nat) (y1 : Int32) (y2 : Nat) (y3 : Int32) (y4 : Int32) (y5 : Int32) (sz : Nat) (S : cS) (ls : Array Slot) (H : Heap) (locs : List Loc) (cells slots dc ds : Nat), lx ls [some (.ref y0), some (.int y1), some (.ref y2), some (.int y3), some (.int y4), some (.int y5)] → AI D vwCl b0 (cH dA b0 S hp0) sz s.heap H locs → sz = sz0 + cells → cells + dc = mc → slots + ds = ms → K52 y0 y1 y2 y3 y4 y5 sz S = some (q, S', dc, ds) → W p l e { frames := FV + 40, cells := mc, slots := ms, locals := LV + 1200 } s m args below meth c H locs cells slots (MQ below (CQ D vwCl b0 (some (va_rf q)) (cH dA b0 S' hp0) (sz0 + mc)) args s mc ms (fun q => b0 ≤ q)) (F0 m 52 ls [])) (B : BX p m c cb_R_readClosedTable 6 s args (.code y_R_readClosedTable cb_R_readClosedTable 6 (some (.object "TableText$Node")) :: wsA) RZ4 meth (some (.object "TableText$Node")) D vwCl (tyL dA) b0 Z) (hR : CR b0 K Z) (hV : ∀ (a : Nat) (n : Int32) (z : Nat) (T T' : cS) (q : Option Nat) (dc ds : Nat), RV a n z T = some (q, T', dc, ds) → Ct l D vwCl (tyL dA) b0 Z y_R_readValue (.code y_R_readValue cb_R_readValue 3 (some (.object "TableText$Node")) :: wsA) FV LV [.ref a, .int n] (cH dA b0 T hp0) z (some (va_rf q)) (cH dA b0 T' hp0) dc ds) (hl : lx ls [some (.ref y0), some (.int y1), some (.ref y2), some (.int y3), some (.int y4), some (.int y5)]) (I : AI D vwCl b0 (cH dA b0 S hp0) sz s.heap H locs) (hz : sz = sz0 + cells) (hc : cells + dc = mc) (hs : slots + ds = ms) (hm : x_R_readClosedTable_115 N b0 K RV K52 y0 y1 y2 y3 y4 y5 sz S = some (q, S', dc, ds)) : W p l e { frames := FV + 40, cells := mc, slots := ms, locals := LV + 1200 } s m args below meth c H locs cells slots (MQ below (CQ D vwCl b0 (some (va_rf q)) (cH dA b0 S' hp0) (sz0 + mc)) args s mc ms (fun q => b0 ≤ q)) (F0 m 115 ls []) := by
  obtain ⟨hx, hb, -⟩ := B.1
  unfold x_R_readClosedTable_115 at hm
  refine q_iinc (pc := 115) (i := 5) (v := y5 + 1) (lo' := [some (.ref y0), some (.int y1), some (.ref y2), some (.int y3), some (.int y4), some (.int (y5 + 1))]) hx hb d_R_readClosedTable_115 hl rfl rfl (Nat.le_of_ble_eq_true rfl) (lx_ci rfl) rfl (fun ls hl => ?_)
  refine lv_goto (pc := 118) (tgt := 52) hx hb d_R_readClosedTable_118 (by decide) ?_
  exact hK52 y0 y1 y2 y3 y4 (y5 + 1) sz S _ _ _ _ _ _ _ hl I hz hc hs hm
def x_R_readClosedTable_94 (N b0 : Nat) (K : cS) (RV : Nat → Int32 → Nat → cS → Option (Option Nat × cS × Nat × Nat)) (K52 : Nat → Int32 → Nat → Int32 → Int32 → Int32 → Nat → cS → Option (Option Nat × cS × Nat × Nat)) (y0 : Nat) (y1 : Int32) (y2 : Nat) (y3 : Int32) (y5 : Int32) (z0 : Int32) (sz : Nat) (S : cS) : Option (Option Nat × cS × Nat × Nat) :=
  if z0 = 0 then (x_R_readClosedTable_115 N b0 K RV K52 y0 y1 y2 y3 z0 y5 sz S) else (b1 (gI b0 K S 4 6 y0) (fun x1 => b1 (pI b0 S 4 6 y0 (x1 + 1)) (fun S3 => ifk b0 K S3 4 y0 (b1 (x_R_skipBlanks N b0 K y0 S3) (fun S6 => x_R_readClosedTable_115 N b0 K RV K52 y0 y1 y2 y3 z0 y5 sz S6)))))
set_option maxRecDepth 100000 in
set_option maxHeartbeats 4000000 in
theorem w_R_readClosedTable_94 {K52 : Nat → Int32 → Nat → Int32 → Int32 → Int32 → Nat → cS → Option (Option Nat × cS × Nat × Nat)} {y0 : Nat} {y1 : Int32} {y2 : Nat} {y3 : Int32} {y5 : Int32} {z0 : Int32} {sz : Nat} {S : cS} (hK52 : ∀ (y0 : Nat) (y1 : Int32) (y2 : Nat) (y3 : Int32) (y4 : Int32) (y5 : Int32) (sz : Nat) (S : cS) (ls : Array Slot) (H : Heap) (locs : List Loc) (cells slots dc ds : Nat), lx ls [some (.ref y0), some (.int y1), some (.ref y2), some (.int y3), some (.int y4), some (.int y5)] → AI D vwCl b0 (cH dA b0 S hp0) sz s.heap H locs → sz = sz0 + cells → cells + dc = mc → slots + ds = ms → K52 y0 y1 y2 y3 y4 y5 sz S = some (q, S', dc, ds) → W p l e { frames := FV + 40, cells := mc, slots := ms, locals := LV + 1200 } s m args below meth c H locs cells slots (MQ below (CQ D vwCl b0 (some (va_rf q)) (cH dA b0 S' hp0) (sz0 + mc)) args s mc ms (fun q => b0 ≤ q)) (F0 m 52 ls [])) (B : BX p m c cb_R_readClosedTable 6 s args (.code y_R_readClosedTable cb_R_readClosedTable 6 (some (.object "TableText$Node")) :: wsA) RZ4 meth (some (.object "TableText$Node")) D vwCl (tyL dA) b0 Z) (hR : CR b0 K Z) (hV : ∀ (a : Nat) (n : Int32) (z : Nat) (T T' : cS) (q : Option Nat) (dc ds : Nat), RV a n z T = some (q, T', dc, ds) → Ct l D vwCl (tyL dA) b0 Z y_R_readValue (.code y_R_readValue cb_R_readValue 3 (some (.object "TableText$Node")) :: wsA) FV LV [.ref a, .int n] (cH dA b0 T hp0) z (some (va_rf q)) (cH dA b0 T' hp0) dc ds) (hl : lx ls [some (.ref y0), some (.int y1), some (.ref y2), some (.int y3), none, some (.int y5)]) (I : AI D vwCl b0 (cH dA b0 S hp0) sz s.heap H locs) (hz : sz = sz0 + cells) (hc : cells + dc = mc) (hs : slots + ds = ms) (hm : x_R_readClosedTable_94 N b0 K RV K52 y0 y1 y2 y3 y5 z0 sz S = some (q, S', dc, ds)) : W p l e { frames := FV + 40, cells := mc, slots := ms, locals := LV + 1200 } s m args below meth c H locs cells slots (MQ below (CQ D vwCl b0 (some (va_rf q)) (cH dA b0 S' hp0) (sz0 + mc)) args s mc ms (fun q => b0 ≤ q)) (F0 m 94 ls [.int z0]) := by
  obtain ⟨hx, hb, -⟩ := B.1
  unfold x_R_readClosedTable_94 at hm
  refine q_istore (pc := 94) (i := 4) (lo' := [some (.ref y0), some (.int y1), some (.ref y2), some (.int y3), some (.int z0), some (.int y5)]) hx hb d_R_readClosedTable_94 hl (Nat.le_of_ble_eq_true rfl) (lx_ci rfl) rfl (fun ls hl => ?_)
  refine lv_iload (pc := 96) (i := 4) hx hb d_R_readClosedTable_96 (lx_get hl rfl) ?_
  refine lv_if_eq (pc := 98) (tgt := 115) hx hb d_R_readClosedTable_98 (by decide) (fun hcc => ?_) (fun hcc => ?_)
  · have hm := ift hcc hm
    exact w_R_readClosedTable_115 (y0 := y0) (y1 := y1) (y2 := y2) (y3 := y3) (y4 := z0) (y5 := y5) hK52 B hR hV hl I hz hc hs hm
  · have hm := iff' hcc hm
    refine q_aload_n (pc := 101) (i := 0) (v := .ref y0) hx hb d_R_readClosedTable_101 rfl rfl (lx_get hl rfl) ?_
    refine lv_dup (pc := 102) hx hb d_R_readClosedTable_102 rfl ?_
    refine ob1 hm (fun x1 e2 hm => ?_)
    refine k_getI (pc := 103) (z := 4) (k := 6) (index := 45) B hR I (by decide) (by decide) mF_R_45 rfl (fun _ _ => rfl) e2 d_R_readClosedTable_103 ?_
    refine lv_iconst (pc := 106) (v := 1) hx hb d_R_readClosedTable_106 (by decide) ?_
    refine lv_iadd (pc := 107) hx hb d_R_readClosedTable_107 ?_
    refine ob1 hm (fun S3 e4 hm => ?_)
    refine k_putI (pc := 108) (z := 4) (k := 6) (index := 45) (v := (x1 + 1)) B I (by decide) (by decide) mF_R_45 rfl rfl rfl rfl cset_4_6 e4 d_R_readClosedTable_108 (fun H locs I => ?_)
    refine q_aload_n (pc := 111) (i := 0) (v := .ref y0) hx hb d_R_readClosedTable_111 rfl rfl (lx_get hl rfl) ?_
    refine oifk hm (fun hk hm => ?_)
    refine ob1 hm (fun S6 e5 hm => ?_)
    refine k_callV (pc := 112) (As := []) (rest := []) (b := y0) B hR hl rfl I (c_R_skipBlanks hR e5) kw_R_51 (by decide) hk rfl (fr_k (Nat.le_of_ble_eq_true rfl)) (lo_k (Nat.le_of_ble_eq_true rfl)) rfl (by simp [cat_i, cat_r, cat_l, va_rf_cat]) d_R_readClosedTable_112 (hr0 hc) (hr0 hs) (fun H locs I => ?_)
    exact w_R_readClosedTable_115 (y0 := y0) (y1 := y1) (y2 := y2) (y3 := y3) (y4 := z0) (y5 := y5) hK52 B hR hV hl I hz hc hs hm
def x_R_readClosedTable_135F (N b0 : Nat) (K : cS) (RV : Nat → Int32 → Nat → cS → Option (Option Nat × cS × Nat × Nat)) (K135 : Nat → Nat → Int32 → Nat → cS → Option (Option Nat × cS × Nat × Nat)) (y0 : Nat) (y2 : Nat) (y5 : Int32) (sz : Nat) (S : cS) : Option (Option Nat × cS × Nat × Nat) :=
  b1 (gR b0 K S 4 3 y0) (fun q1 => b1 q1 (fun a3 => ifk b0 K S 8 a3 (b1 (x_AL_size N b0 K a3 S) (fun x7 => if x7 ≤ y5 then (some (some y2, S, 0, 0)) else (b1 (gR b0 K S 4 3 y0) (fun q8 => b1 q8 (fun a10 => ifk b0 K S 8 a10 (b1 (x_AL_get N b0 K a10 y5 S) (fun q14 => b1 q14 (fun a15 => ifk b0 K S 2 a15 (b1 (pI b0 S 2 0 a15 10) (fun S18 => K135 y0 y2 (y5 + 1) sz S18))))))))))))
def x_R_readClosedTable_135 (N b0 : Nat) (K : cS) (RV : Nat → Int32 → Nat → cS → Option (Option Nat × cS × Nat × Nat)) : Nat → Nat → Nat → Int32 → Nat → cS → Option (Option Nat × cS × Nat × Nat)
  | 0, _, _, _, _, _ => none
  | k + 1, y0, y2, y5, sz, S => x_R_readClosedTable_135F N b0 K RV  (x_R_readClosedTable_135 N b0 K RV  k) y0 y2 y5 sz S
set_option maxRecDepth 100000 in
set_option maxHeartbeats 4000000 in
theorem w_R_readClosedTable_135F {K135 : Nat → Nat → Int32 → Nat → cS → Option (Option Nat × cS × Nat × Nat)} {y0 : Nat} {y2 : Nat} {y5 : Int32} {sz : Nat} {S : cS} (hK135 : ∀ (y0 : Nat) (y2 : Nat) (y5 : Int32) (sz : Nat) (S : cS) (ls : Array Slot) (H : Heap) (locs : List Loc) (cells slots dc ds : Nat), lx ls [some (.ref y0), none, some (.ref y2), none, none, some (.int y5)] → AI D vwCl b0 (cH dA b0 S hp0) sz s.heap H locs → sz = sz0 + cells → cells + dc = mc → slots + ds = ms → K135 y0 y2 y5 sz S = some (q, S', dc, ds) → W p l e { frames := FV + 40, cells := mc, slots := ms, locals := LV + 1200 } s m args below meth c H locs cells slots (MQ below (CQ D vwCl b0 (some (va_rf q)) (cH dA b0 S' hp0) (sz0 + mc)) args s mc ms (fun q => b0 ≤ q)) (F0 m 135 ls [])) (B : BX p m c cb_R_readClosedTable 6 s args (.code y_R_readClosedTable cb_R_readClosedTable 6 (some (.object "TableText$Node")) :: wsA) RZ4 meth (some (.object "TableText$Node")) D vwCl (tyL dA) b0 Z) (hR : CR b0 K Z) (hV : ∀ (a : Nat) (n : Int32) (z : Nat) (T T' : cS) (q : Option Nat) (dc ds : Nat), RV a n z T = some (q, T', dc, ds) → Ct l D vwCl (tyL dA) b0 Z y_R_readValue (.code y_R_readValue cb_R_readValue 3 (some (.object "TableText$Node")) :: wsA) FV LV [.ref a, .int n] (cH dA b0 T hp0) z (some (va_rf q)) (cH dA b0 T' hp0) dc ds) (hl : lx ls [some (.ref y0), none, some (.ref y2), none, none, some (.int y5)]) (I : AI D vwCl b0 (cH dA b0 S hp0) sz s.heap H locs) (hz : sz = sz0 + cells) (hc : cells + dc = mc) (hs : slots + ds = ms) (hm : x_R_readClosedTable_135F N b0 K RV  K135 y0 y2 y5 sz S = some (q, S', dc, ds)) : W p l e { frames := FV + 40, cells := mc, slots := ms, locals := LV + 1200 } s m args below meth c H locs cells slots (MQ below (CQ D vwCl b0 (some (va_rf q)) (cH dA b0 S' hp0) (sz0 + mc)) args s mc ms (fun q => b0 ≤ q)) (F0 m 135 ls []) := by
  obtain ⟨hx, hb, -⟩ := B.1
  unfold x_R_readClosedTable_135F at hm
  refine lv_iload (pc := 135) (i := 5) hx hb d_R_readClosedTable_135 (lx_get hl rfl) ?_
  refine q_aload_n (pc := 137) (i := 0) (v := .ref y0) hx hb d_R_readClosedTable_137 rfl rfl (lx_get hl rfl) ?_
  refine ob1 hm (fun q1 e2 hm => ?_)
  refine k_getR (pc := 138) (z := 4) (k := 3) (index := 29) B hR I (by decide) (by decide) mF_R_29 rfl (fun _ _ => rfl) e2 d_R_readClosedTable_138 ?_
  refine ob1 hm (fun a3 e4 hm => ?_)
  have hm_5 := hm; have hl_5 := hl; have I_5 := I
  subst e4
  have hm := hm_5; have hl := hl_5; have I := I_5
  refine oifk hm (fun hk hm => ?_)
  refine ob1 hm (fun x7 e6 hm => ?_)
  refine k_callV (pc := 141) (As := []) (rest := [.int y5]) (b := a3) B hR hl rfl I (c_AL_size hR e6) kw_R_181 (by decide) hk rfl (fr_k (Nat.le_of_ble_eq_true rfl)) (lo_k (Nat.le_of_ble_eq_true rfl)) rfl (by simp [cat_i, cat_r, cat_l, va_rf_cat]) d_R_readClosedTable_141 (hr0 hc) (hr0 hs) (fun H locs I => ?_)
  refine lv_icmp_ge (pc := 144) (tgt := 170) hx hb d_R_readClosedTable_144 (by decide) (fun hcc => ?_) (fun hcc => ?_)
  · have hm := ift hcc hm
    refine q_aload_n (pc := 170) (i := 2) (v := .ref y2) hx hb d_R_readClosedTable_170 rfl rfl (lx_get hl rfl) ?_
    cases hm
    exact q_aretA (pc := 171) B I hz hc hs rfl (Or.inl ⟨_, rfl⟩) d_R_readClosedTable_171
  · have hm := iff' hcc hm
    refine q_aload_n (pc := 147) (i := 0) (v := .ref y0) hx hb d_R_readClosedTable_147 rfl rfl (lx_get hl rfl) ?_
    refine ob1 hm (fun q8 e9 hm => ?_)
    refine k_getR (pc := 148) (z := 4) (k := 3) (index := 29) B hR I (by decide) (by decide) mF_R_29 rfl (fun _ _ => rfl) e9 d_R_readClosedTable_148 ?_
    refine lv_iload (pc := 151) (i := 5) hx hb d_R_readClosedTable_151 (lx_get hl rfl) ?_
    refine ob1 hm (fun a10 e11 hm => ?_)
    have hm_12 := hm; have hl_12 := hl; have I_12 := I
    subst e11
    have hm := hm_12; have hl := hl_12; have I := I_12
    refine oifk hm (fun hk hm => ?_)
    refine ob1 hm (fun q14 e13 hm => ?_)
    refine k_callV (pc := 153) (As := [.int y5]) (rest := []) (b := a10) B hR hl rfl I (c_AL_get hR e13) kw_R_184 (by decide) hk rfl (fr_k (Nat.le_of_ble_eq_true rfl)) (lo_k (Nat.le_of_ble_eq_true rfl)) rfl (by simp [cat_i, cat_r, cat_l, va_rf_cat]) d_R_readClosedTable_153 (hr0 hc) (hr0 hs) (fun H locs I => ?_)
    refine ob1 hm (fun a15 e16 hm => ?_)
    have hm_17 := hm; have hl_17 := hl; have I_17 := I
    subst e16
    have hm := hm_17; have hl := hl_17; have I := I_17
    refine oifk hm (fun hk hm => ?_)
    refine k_castY (pc := 156) (z := 2) (index := 33) B hR I (by decide) hk mC_R_33 d_R_readClosedTable_156 ?_
    refine lv_bipush (pc := 159) (v := 10) hx hb d_R_readClosedTable_159 (by decide) ?_
    refine ob1 hm (fun S18 e19 hm => ?_)
    refine k_putIN (pc := 161) (z := 2) (k := 0) (index := 131) (v := 10) B hR I (by decide) (by decide) nF_R_131 rfl rfl rfl rfl cset_2_0 e19 d_R_readClosedTable_161 (fun H locs I => ?_)
    refine q_iinc (pc := 164) (i := 5) (v := y5 + 1) (lo' := [some (.ref y0), none, some (.ref y2), none, none, some (.int (y5 + 1))]) hx hb d_R_readClosedTable_164 hl rfl rfl (Nat.le_of_ble_eq_true rfl) (lx_cn rfl) rfl (fun ls hl => ?_)
    refine lv_goto (pc := 167) (tgt := 135) hx hb d_R_readClosedTable_167 (by decide) ?_
    exact hK135 y0 y2 (y5 + 1) sz S18 _ _ _ _ _ _ _ hl I hz hc hs hm
set_option maxRecDepth 100000 in
set_option maxHeartbeats 4000000 in
theorem w_R_readClosedTable_135i (B : BX p m c cb_R_readClosedTable 6 s args (.code y_R_readClosedTable cb_R_readClosedTable 6 (some (.object "TableText$Node")) :: wsA) RZ4 meth (some (.object "TableText$Node")) D vwCl (tyL dA) b0 Z) (hR : CR b0 K Z) (hV : ∀ (a : Nat) (n : Int32) (z : Nat) (T T' : cS) (q : Option Nat) (dc ds : Nat), RV a n z T = some (q, T', dc, ds) → Ct l D vwCl (tyL dA) b0 Z y_R_readValue (.code y_R_readValue cb_R_readValue 3 (some (.object "TableText$Node")) :: wsA) FV LV [.ref a, .int n] (cH dA b0 T hp0) z (some (va_rf q)) (cH dA b0 T' hp0) dc ds) (k : Nat) (y0 : Nat) (y2 : Nat) (y5 : Int32) (sz : Nat) (S : cS) (ls : Array Slot) (H : Heap) (locs : List Loc) (cells slots dc ds : Nat) (hl : lx ls [some (.ref y0), none, some (.ref y2), none, none, some (.int y5)]) (I : AI D vwCl b0 (cH dA b0 S hp0) sz s.heap H locs) (hz : sz = sz0 + cells) (hc : cells + dc = mc) (hs : slots + ds = ms) (hm : x_R_readClosedTable_135 N b0 K RV  k y0 y2 y5 sz S = some (q, S', dc, ds)) : W p l e { frames := FV + 40, cells := mc, slots := ms, locals := LV + 1200 } s m args below meth c H locs cells slots (MQ below (CQ D vwCl b0 (some (va_rf q)) (cH dA b0 S' hp0) (sz0 + mc)) args s mc ms (fun q => b0 ≤ q)) (F0 m 135 ls []) := by
  induction k generalizing y0 y2 y5 sz S ls H locs cells slots dc ds with
  | zero => cases hm
  | succ k ih => exact w_R_readClosedTable_135F  (fun y0 y2 y5 sz S ls H locs cells slots dc ds hl I hz hc hs hm => ih y0 y2 y5 sz S ls H locs cells slots dc ds hl I hz hc hs hm) B hR hV hl I hz hc hs hm
theorem w_R_readClosedTable_135 {y0 : Nat} {y2 : Nat} {y5 : Int32} {sz : Nat} {S : cS} (B : BX p m c cb_R_readClosedTable 6 s args (.code y_R_readClosedTable cb_R_readClosedTable 6 (some (.object "TableText$Node")) :: wsA) RZ4 meth (some (.object "TableText$Node")) D vwCl (tyL dA) b0 Z) (hR : CR b0 K Z) (hV : ∀ (a : Nat) (n : Int32) (z : Nat) (T T' : cS) (q : Option Nat) (dc ds : Nat), RV a n z T = some (q, T', dc, ds) → Ct l D vwCl (tyL dA) b0 Z y_R_readValue (.code y_R_readValue cb_R_readValue 3 (some (.object "TableText$Node")) :: wsA) FV LV [.ref a, .int n] (cH dA b0 T hp0) z (some (va_rf q)) (cH dA b0 T' hp0) dc ds) (hl : lx ls [some (.ref y0), none, some (.ref y2), none, none, some (.int y5)]) (I : AI D vwCl b0 (cH dA b0 S hp0) sz s.heap H locs) (hz : sz = sz0 + cells) (hc : cells + dc = mc) (hs : slots + ds = ms) {k : Nat} (hm : x_R_readClosedTable_135 N b0 K RV  k y0 y2 y5 sz S = some (q, S', dc, ds)) : W p l e { frames := FV + 40, cells := mc, slots := ms, locals := LV + 1200 } s m args below meth c H locs cells slots (MQ below (CQ D vwCl b0 (some (va_rf q)) (cH dA b0 S' hp0) (sz0 + mc)) args s mc ms (fun q => b0 ≤ q)) (F0 m 135 ls []) := w_R_readClosedTable_135i  B hR hV k _ _ _ sz S ls H locs _ _ _ _ hl I hz hc hs hm
def x_R_readClosedTable_121 (N b0 : Nat) (K : cS) (RV : Nat → Int32 → Nat → cS → Option (Option Nat × cS × Nat × Nat)) (y0 : Nat) (y2 : Nat) (y3 : Int32) (sz : Nat) (S : cS) : Option (Option Nat × cS × Nat × Nat) :=
  ifk b0 K S 4 y0 (b2 (x_R_take N b0 K y0 125 S) (fun x2 S3 => if x2 = 0 then (some (none, S3, 0, 0)) else (x_R_readClosedTable_135 N b0 K RV  N y0 y2 y3 sz S3)))
set_option maxRecDepth 100000 in
set_option maxHeartbeats 4000000 in
theorem w_R_readClosedTable_121 {y0 : Nat} {y2 : Nat} {y3 : Int32} {sz : Nat} {S : cS} (B : BX p m c cb_R_readClosedTable 6 s args (.code y_R_readClosedTable cb_R_readClosedTable 6 (some (.object "TableText$Node")) :: wsA) RZ4 meth (some (.object "TableText$Node")) D vwCl (tyL dA) b0 Z) (hR : CR b0 K Z) (hV : ∀ (a : Nat) (n : Int32) (z : Nat) (T T' : cS) (q : Option Nat) (dc ds : Nat), RV a n z T = some (q, T', dc, ds) → Ct l D vwCl (tyL dA) b0 Z y_R_readValue (.code y_R_readValue cb_R_readValue 3 (some (.object "TableText$Node")) :: wsA) FV LV [.ref a, .int n] (cH dA b0 T hp0) z (some (va_rf q)) (cH dA b0 T' hp0) dc ds) (hl : lx ls [some (.ref y0), none, some (.ref y2), some (.int y3), none, none]) (I : AI D vwCl b0 (cH dA b0 S hp0) sz s.heap H locs) (hz : sz = sz0 + cells) (hc : cells + dc = mc) (hs : slots + ds = ms) (hm : x_R_readClosedTable_121 N b0 K RV  y0 y2 y3 sz S = some (q, S', dc, ds)) : W p l e { frames := FV + 40, cells := mc, slots := ms, locals := LV + 1200 } s m args below meth c H locs cells slots (MQ below (CQ D vwCl b0 (some (va_rf q)) (cH dA b0 S' hp0) (sz0 + mc)) args s mc ms (fun q => b0 ≤ q)) (F0 m 121 ls []) := by
  obtain ⟨hx, hb, -⟩ := B.1
  unfold x_R_readClosedTable_121 at hm
  refine q_aload_n (pc := 121) (i := 0) (v := .ref y0) hx hb d_R_readClosedTable_121 rfl rfl (lx_get hl rfl) ?_
  refine lv_bipush (pc := 122) (v := 125) hx hb d_R_readClosedTable_122 (by decide) ?_
  refine oifk hm (fun hk hm => ?_)
  refine ob2 hm (fun x2 S3 e1 hm => ?_)
  refine k_callV (pc := 124) (As := [.int 125]) (rest := []) (b := y0) B hR hl rfl I (c_R_take hR e1) kw_R_73 (by decide) hk rfl (fr_k (Nat.le_of_ble_eq_true rfl)) (lo_k (Nat.le_of_ble_eq_true rfl)) rfl (by simp [cat_i, cat_r, cat_l, va_rf_cat]) d_R_readClosedTable_124 (hr0 hc) (hr0 hs) (fun H locs I => ?_)
  refine lv_if_ne (pc := 127) (tgt := 132) hx hb d_R_readClosedTable_127 (by decide) (fun hcc => ?_) (fun hcc => ?_)
  · have hm := iff' hcc hm
    refine lv_iload_n (pc := 132) (i := 3) hx hb d_R_readClosedTable_132 rfl (lx_get hl rfl) ?_
    refine q_istore (pc := 133) (i := 5) (lo' := [some (.ref y0), none, some (.ref y2), some (.int y3), none, some (.int y3)]) hx hb d_R_readClosedTable_133 hl (Nat.le_of_ble_eq_true rfl) (lx_cn rfl) rfl (fun ls hl => ?_)
    exact w_R_readClosedTable_135 (y0 := y0) (y2 := y2) (y5 := y3)  B hR hV (lx_sub (lo' := [some (.ref y0), none, some (.ref y2), none, none, some (.int y3)]) hl (by simp [lx_le])) I hz hc hs hm
  · have hm := ift hcc hm
    refine lv_null (pc := 130) hx hb d_R_readClosedTable_130 ?_
    cases hm
    exact q_aretA (pc := 131) B I hz hc hs rfl (Or.inl ⟨_, rfl⟩) d_R_readClosedTable_131
def x_R_readClosedTable_52F (N b0 : Nat) (K : cS) (RV : Nat → Int32 → Nat → cS → Option (Option Nat × cS × Nat × Nat)) (K52 : Nat → Int32 → Nat → Int32 → Int32 → Int32 → Nat → cS → Option (Option Nat × cS × Nat × Nat)) (y0 : Nat) (y1 : Int32) (y2 : Nat) (y3 : Int32) (y4 : Int32) (y5 : Int32) (sz : Nat) (S : cS) : Option (Option Nat × cS × Nat × Nat) :=
  if y4 = 0 then (x_R_readClosedTable_121 N b0 K RV  y0 y2 y3 sz S) else (if 240 ≤ y5 then (x_R_readClosedTable_121 N b0 K RV  y0 y2 y3 sz S) else (ifk b0 K S 4 y0 (b4 (x_R_readEntry N b0 K RV y0 (some y2) y1 sz S) (fun x2 S3 c4 d5 => wr4 c4 d5 (if x2 = 0 then (some (none, S3, 0, 0)) else (ifk b0 K S3 4 y0 (b1 (x_R_skipBlanks N b0 K y0 S3) (fun S7 => ifk b0 K S7 4 y0 (b1 (x_R_peek N b0 K y0 S7) (fun x9 => if x9 = 44 then (x_R_readClosedTable_94 N b0 K RV K52 y0 y1 y2 y3 y5 1 (sz + c4) S7) else (x_R_readClosedTable_94 N b0 K RV K52 y0 y1 y2 y3 y5 0 (sz + c4) S7)))))))))))
def x_R_readClosedTable_52 (N b0 : Nat) (K : cS) (RV : Nat → Int32 → Nat → cS → Option (Option Nat × cS × Nat × Nat)) : Nat → Nat → Int32 → Nat → Int32 → Int32 → Int32 → Nat → cS → Option (Option Nat × cS × Nat × Nat)
  | 0, _, _, _, _, _, _, _, _ => none
  | k + 1, y0, y1, y2, y3, y4, y5, sz, S => x_R_readClosedTable_52F N b0 K RV  (x_R_readClosedTable_52 N b0 K RV  k) y0 y1 y2 y3 y4 y5 sz S
set_option maxRecDepth 100000 in
set_option maxHeartbeats 4000000 in
theorem w_R_readClosedTable_52F {K52 : Nat → Int32 → Nat → Int32 → Int32 → Int32 → Nat → cS → Option (Option Nat × cS × Nat × Nat)} {y0 : Nat} {y1 : Int32} {y2 : Nat} {y3 : Int32} {y4 : Int32} {y5 : Int32} {sz : Nat} {S : cS} (hK52 : ∀ (y0 : Nat) (y1 : Int32) (y2 : Nat) (y3 : Int32) (y4 : Int32) (y5 : Int32) (sz : Nat) (S : cS) (ls : Array Slot) (H : Heap) (locs : List Loc) (cells slots dc ds : Nat), lx ls [some (.ref y0), some (.int y1), some (.ref y2), some (.int y3), some (.int y4), some (.int y5)] → AI D vwCl b0 (cH dA b0 S hp0) sz s.heap H locs → sz = sz0 + cells → cells + dc = mc → slots + ds = ms → K52 y0 y1 y2 y3 y4 y5 sz S = some (q, S', dc, ds) → W p l e { frames := FV + 40, cells := mc, slots := ms, locals := LV + 1200 } s m args below meth c H locs cells slots (MQ below (CQ D vwCl b0 (some (va_rf q)) (cH dA b0 S' hp0) (sz0 + mc)) args s mc ms (fun q => b0 ≤ q)) (F0 m 52 ls [])) (B : BX p m c cb_R_readClosedTable 6 s args (.code y_R_readClosedTable cb_R_readClosedTable 6 (some (.object "TableText$Node")) :: wsA) RZ4 meth (some (.object "TableText$Node")) D vwCl (tyL dA) b0 Z) (hR : CR b0 K Z) (hV : ∀ (a : Nat) (n : Int32) (z : Nat) (T T' : cS) (q : Option Nat) (dc ds : Nat), RV a n z T = some (q, T', dc, ds) → Ct l D vwCl (tyL dA) b0 Z y_R_readValue (.code y_R_readValue cb_R_readValue 3 (some (.object "TableText$Node")) :: wsA) FV LV [.ref a, .int n] (cH dA b0 T hp0) z (some (va_rf q)) (cH dA b0 T' hp0) dc ds) (hl : lx ls [some (.ref y0), some (.int y1), some (.ref y2), some (.int y3), some (.int y4), some (.int y5)]) (I : AI D vwCl b0 (cH dA b0 S hp0) sz s.heap H locs) (hz : sz = sz0 + cells) (hc : cells + dc = mc) (hs : slots + ds = ms) (hm : x_R_readClosedTable_52F N b0 K RV  K52 y0 y1 y2 y3 y4 y5 sz S = some (q, S', dc, ds)) : W p l e { frames := FV + 40, cells := mc, slots := ms, locals := LV + 1200 } s m args below meth c H locs cells slots (MQ below (CQ D vwCl b0 (some (va_rf q)) (cH dA b0 S' hp0) (sz0 + mc)) args s mc ms (fun q => b0 ≤ q)) (F0 m 52 ls []) := by
  obtain ⟨hx, hb, -⟩ := B.1
  unfold x_R_readClosedTable_52F at hm
  refine lv_iload (pc := 52) (i := 4) hx hb d_R_readClosedTable_52 (lx_get hl rfl) ?_
  refine lv_if_eq (pc := 54) (tgt := 121) hx hb d_R_readClosedTable_54 (by decide) (fun hcc => ?_) (fun hcc => ?_)
  · have hm := ift hcc hm
    exact w_R_readClosedTable_121 (y0 := y0) (y2 := y2) (y3 := y3)  B hR hV (lx_sub (lo' := [some (.ref y0), none, some (.ref y2), some (.int y3), none, none]) hl (by simp [lx_le])) I hz hc hs hm
  · have hm := iff' hcc hm
    refine lv_iload (pc := 57) (i := 5) hx hb d_R_readClosedTable_57 (lx_get hl rfl) ?_
    refine lv_sipush (pc := 59) (v := 240) hx hb d_R_readClosedTable_59 (by decide) ?_
    refine lv_icmp_ge (pc := 62) (tgt := 121) hx hb d_R_readClosedTable_62 (by decide) (fun hcc => ?_) (fun hcc => ?_)
    · have hm := ift hcc hm
      exact w_R_readClosedTable_121 (y0 := y0) (y2 := y2) (y3 := y3)  B hR hV (lx_sub (lo' := [some (.ref y0), none, some (.ref y2), some (.int y3), none, none]) hl (by simp [lx_le])) I hz hc hs hm
    · have hm := iff' hcc hm
      refine q_aload_n (pc := 65) (i := 0) (v := .ref y0) hx hb d_R_readClosedTable_65 rfl rfl (lx_get hl rfl) ?_
      refine q_aload_n (pc := 66) (i := 2) (v := .ref y2) hx hb d_R_readClosedTable_66 rfl rfl (lx_get hl rfl) ?_
      refine lv_iload_n (pc := 67) (i := 1) hx hb d_R_readClosedTable_67 rfl (lx_get hl rfl) ?_
      refine oifk hm (fun hk hm => ?_)
      refine ob4 hm (fun x2 S3 c4 d5 e1 hm => ?_)
      refine owr4 hm hc hs (fun dc ds hm hc hs => ?_)
      refine k_callV (pc := 68) (As := [va_rf (some y2), .int y1]) (rest := []) (b := y0) B hR hl rfl I (c_R_readEntry hR hV e1) kw_R_66 (by decide) hk rfl (fr_g (Nat.le_of_ble_eq_true rfl)) (lo_g (Nat.le_of_ble_eq_true rfl)) rfl (by simp [cat_i, cat_r, cat_l, va_rf_cat]) d_R_readClosedTable_68 (hr_ hc) (hr_ hs) (fun H locs I => ?_)
      have hz := hzn (n := c4) hz
      refine lv_if_ne (pc := 71) (tgt := 76) hx hb d_R_readClosedTable_71 (by decide) (fun hcc => ?_) (fun hcc => ?_)
      · have hm := iff' hcc hm
        refine q_aload_n (pc := 76) (i := 0) (v := .ref y0) hx hb d_R_readClosedTable_76 rfl rfl (lx_get hl rfl) ?_
        refine oifk hm (fun hk hm => ?_)
        refine ob1 hm (fun S7 e6 hm => ?_)
        refine k_callV (pc := 77) (As := []) (rest := []) (b := y0) B hR hl rfl I (c_R_skipBlanks hR e6) kw_R_51 (by decide) hk rfl (fr_k (Nat.le_of_ble_eq_true rfl)) (lo_k (Nat.le_of_ble_eq_true rfl)) rfl (by simp [cat_i, cat_r, cat_l, va_rf_cat]) d_R_readClosedTable_77 (hr0 hc) (hr0 hs) (fun H locs I => ?_)
        refine q_aload_n (pc := 80) (i := 0) (v := .ref y0) hx hb d_R_readClosedTable_80 rfl rfl (lx_get hl rfl) ?_
        refine oifk hm (fun hk hm => ?_)
        refine ob1 hm (fun x9 e8 hm => ?_)
        refine k_callV (pc := 81) (As := []) (rest := []) (b := y0) B hR hl rfl I (c_R_peek hR e8) kw_R_54 (by decide) hk rfl (fr_k (Nat.le_of_ble_eq_true rfl)) (lo_k (Nat.le_of_ble_eq_true rfl)) rfl (by simp [cat_i, cat_r, cat_l, va_rf_cat]) d_R_readClosedTable_81 (hr0 hc) (hr0 hs) (fun H locs I => ?_)
        refine lv_bipush (pc := 84) (v := 44) hx hb d_R_readClosedTable_84 (by decide) ?_
        refine lv_icmp_ne (pc := 86) (tgt := 93) hx hb d_R_readClosedTable_86 (by decide) (fun hcc => ?_) (fun hcc => ?_)
        · have hm := iff' hcc hm
          refine lv_iconst (pc := 93) (v := 0) hx hb d_R_readClosedTable_93 (by decide) ?_
          exact w_R_readClosedTable_94 (y0 := y0) (y1 := y1) (y2 := y2) (y3 := y3) (y5 := y5) (z0 := 0) hK52 B hR hV (lx_sub (lo' := [some (.ref y0), some (.int y1), some (.ref y2), some (.int y3), none, some (.int y5)]) hl (by simp [lx_le])) I hz hc hs hm
        · have hm := ift hcc hm
          refine lv_iconst (pc := 89) (v := 1) hx hb d_R_readClosedTable_89 (by decide) ?_
          refine lv_goto (pc := 90) (tgt := 94) hx hb d_R_readClosedTable_90 (by decide) ?_
          exact w_R_readClosedTable_94 (y0 := y0) (y1 := y1) (y2 := y2) (y3 := y3) (y5 := y5) (z0 := 1) hK52 B hR hV (lx_sub (lo' := [some (.ref y0), some (.int y1), some (.ref y2), some (.int y3), none, some (.int y5)]) hl (by simp [lx_le])) I hz hc hs hm
      · have hm := ift hcc hm
        refine lv_null (pc := 74) hx hb d_R_readClosedTable_74 ?_
        cases hm
        exact q_aretA (pc := 75) B I hz hc hs rfl (Or.inl ⟨_, rfl⟩) d_R_readClosedTable_75
set_option maxRecDepth 100000 in
set_option maxHeartbeats 4000000 in
theorem w_R_readClosedTable_52i (B : BX p m c cb_R_readClosedTable 6 s args (.code y_R_readClosedTable cb_R_readClosedTable 6 (some (.object "TableText$Node")) :: wsA) RZ4 meth (some (.object "TableText$Node")) D vwCl (tyL dA) b0 Z) (hR : CR b0 K Z) (hV : ∀ (a : Nat) (n : Int32) (z : Nat) (T T' : cS) (q : Option Nat) (dc ds : Nat), RV a n z T = some (q, T', dc, ds) → Ct l D vwCl (tyL dA) b0 Z y_R_readValue (.code y_R_readValue cb_R_readValue 3 (some (.object "TableText$Node")) :: wsA) FV LV [.ref a, .int n] (cH dA b0 T hp0) z (some (va_rf q)) (cH dA b0 T' hp0) dc ds) (k : Nat) (y0 : Nat) (y1 : Int32) (y2 : Nat) (y3 : Int32) (y4 : Int32) (y5 : Int32) (sz : Nat) (S : cS) (ls : Array Slot) (H : Heap) (locs : List Loc) (cells slots dc ds : Nat) (hl : lx ls [some (.ref y0), some (.int y1), some (.ref y2), some (.int y3), some (.int y4), some (.int y5)]) (I : AI D vwCl b0 (cH dA b0 S hp0) sz s.heap H locs) (hz : sz = sz0 + cells) (hc : cells + dc = mc) (hs : slots + ds = ms) (hm : x_R_readClosedTable_52 N b0 K RV  k y0 y1 y2 y3 y4 y5 sz S = some (q, S', dc, ds)) : W p l e { frames := FV + 40, cells := mc, slots := ms, locals := LV + 1200 } s m args below meth c H locs cells slots (MQ below (CQ D vwCl b0 (some (va_rf q)) (cH dA b0 S' hp0) (sz0 + mc)) args s mc ms (fun q => b0 ≤ q)) (F0 m 52 ls []) := by
  induction k generalizing y0 y1 y2 y3 y4 y5 sz S ls H locs cells slots dc ds with
  | zero => cases hm
  | succ k ih => exact w_R_readClosedTable_52F  (fun y0 y1 y2 y3 y4 y5 sz S ls H locs cells slots dc ds hl I hz hc hs hm => ih y0 y1 y2 y3 y4 y5 sz S ls H locs cells slots dc ds hl I hz hc hs hm) B hR hV hl I hz hc hs hm
theorem w_R_readClosedTable_52 {y0 : Nat} {y1 : Int32} {y2 : Nat} {y3 : Int32} {y4 : Int32} {y5 : Int32} {sz : Nat} {S : cS} (B : BX p m c cb_R_readClosedTable 6 s args (.code y_R_readClosedTable cb_R_readClosedTable 6 (some (.object "TableText$Node")) :: wsA) RZ4 meth (some (.object "TableText$Node")) D vwCl (tyL dA) b0 Z) (hR : CR b0 K Z) (hV : ∀ (a : Nat) (n : Int32) (z : Nat) (T T' : cS) (q : Option Nat) (dc ds : Nat), RV a n z T = some (q, T', dc, ds) → Ct l D vwCl (tyL dA) b0 Z y_R_readValue (.code y_R_readValue cb_R_readValue 3 (some (.object "TableText$Node")) :: wsA) FV LV [.ref a, .int n] (cH dA b0 T hp0) z (some (va_rf q)) (cH dA b0 T' hp0) dc ds) (hl : lx ls [some (.ref y0), some (.int y1), some (.ref y2), some (.int y3), some (.int y4), some (.int y5)]) (I : AI D vwCl b0 (cH dA b0 S hp0) sz s.heap H locs) (hz : sz = sz0 + cells) (hc : cells + dc = mc) (hs : slots + ds = ms) {k : Nat} (hm : x_R_readClosedTable_52 N b0 K RV  k y0 y1 y2 y3 y4 y5 sz S = some (q, S', dc, ds)) : W p l e { frames := FV + 40, cells := mc, slots := ms, locals := LV + 1200 } s m args below meth c H locs cells slots (MQ below (CQ D vwCl b0 (some (va_rf q)) (cH dA b0 S' hp0) (sz0 + mc)) args s mc ms (fun q => b0 ≤ q)) (F0 m 52 ls []) := w_R_readClosedTable_52i  B hR hV k _ _ _ _ _ _ sz S ls H locs _ _ _ _ hl I hz hc hs hm
def x_R_readClosedTable_47 (N b0 : Nat) (K : cS) (RV : Nat → Int32 → Nat → cS → Option (Option Nat × cS × Nat × Nat)) (y0 : Nat) (y1 : Int32) (y2 : Nat) (y3 : Int32) (z0 : Int32) (sz : Nat) (S : cS) : Option (Option Nat × cS × Nat × Nat) :=
  x_R_readClosedTable_52 N b0 K RV  N y0 y1 y2 y3 z0 0 sz S
set_option maxRecDepth 100000 in
set_option maxHeartbeats 4000000 in
theorem w_R_readClosedTable_47 {y0 : Nat} {y1 : Int32} {y2 : Nat} {y3 : Int32} {z0 : Int32} {sz : Nat} {S : cS} (B : BX p m c cb_R_readClosedTable 6 s args (.code y_R_readClosedTable cb_R_readClosedTable 6 (some (.object "TableText$Node")) :: wsA) RZ4 meth (some (.object "TableText$Node")) D vwCl (tyL dA) b0 Z) (hR : CR b0 K Z) (hV : ∀ (a : Nat) (n : Int32) (z : Nat) (T T' : cS) (q : Option Nat) (dc ds : Nat), RV a n z T = some (q, T', dc, ds) → Ct l D vwCl (tyL dA) b0 Z y_R_readValue (.code y_R_readValue cb_R_readValue 3 (some (.object "TableText$Node")) :: wsA) FV LV [.ref a, .int n] (cH dA b0 T hp0) z (some (va_rf q)) (cH dA b0 T' hp0) dc ds) (hl : lx ls [some (.ref y0), some (.int y1), some (.ref y2), some (.int y3), none, none]) (I : AI D vwCl b0 (cH dA b0 S hp0) sz s.heap H locs) (hz : sz = sz0 + cells) (hc : cells + dc = mc) (hs : slots + ds = ms) (hm : x_R_readClosedTable_47 N b0 K RV  y0 y1 y2 y3 z0 sz S = some (q, S', dc, ds)) : W p l e { frames := FV + 40, cells := mc, slots := ms, locals := LV + 1200 } s m args below meth c H locs cells slots (MQ below (CQ D vwCl b0 (some (va_rf q)) (cH dA b0 S' hp0) (sz0 + mc)) args s mc ms (fun q => b0 ≤ q)) (F0 m 47 ls [.int z0]) := by
  obtain ⟨hx, hb, -⟩ := B.1
  unfold x_R_readClosedTable_47 at hm
  refine q_istore (pc := 47) (i := 4) (lo' := [some (.ref y0), some (.int y1), some (.ref y2), some (.int y3), some (.int z0), none]) hx hb d_R_readClosedTable_47 hl (Nat.le_of_ble_eq_true rfl) (lx_ci rfl) rfl (fun ls hl => ?_)
  refine lv_iconst (pc := 49) (v := 0) hx hb d_R_readClosedTable_49 (by decide) ?_
  refine q_istore (pc := 50) (i := 5) (lo' := [some (.ref y0), some (.int y1), some (.ref y2), some (.int y3), some (.int z0), some (.int 0)]) hx hb d_R_readClosedTable_50 hl (Nat.le_of_ble_eq_true rfl) (lx_ci rfl) rfl (fun ls hl => ?_)
  exact w_R_readClosedTable_52 (y0 := y0) (y1 := y1) (y2 := y2) (y3 := y3) (y4 := z0) (y5 := 0)  B hR hV hl I hz hc hs hm
def x_R_readClosedTable (N b0 : Nat) (K : cS) (RV : Nat → Int32 → Nat → cS → Option (Option Nat × cS × Nat × Nat)) (p0 : Nat) (p1 : Int32) (sz : Nat) (S : cS) : Option (Option Nat × cS × Nat × Nat) :=
  wr4 1 8 (b1 (nOo b0 S 2 sz) (fun S1 => b1 (x_N_init N b0 K sz 10 0 S1) (fun S4 => b1 (gR b0 K S4 4 3 p0) (fun q5 => b1 q5 (fun a7 => ifk b0 K S4 8 a7 (b1 (x_AL_size N b0 K a7 S4) (fun x11 => b1 (gI b0 K S4 4 6 p0) (fun x12 => b1 (pI b0 S4 4 6 p0 (x12 + 1)) (fun S14 => ifk b0 K S14 4 p0 (b1 (x_R_skipBlanks N b0 K p0 S14) (fun S17 => ifk b0 K S17 4 p0 (b1 (x_R_peek N b0 K p0 S17) (fun x19 => if x19 = 125 then (x_R_readClosedTable_47 N b0 K RV  p0 p1 sz x11 0 (sz + 1) S17) else (x_R_readClosedTable_47 N b0 K RV  p0 p1 sz x11 1 (sz + 1) S17))))))))))))))
set_option maxRecDepth 100000 in
set_option maxHeartbeats 4000000 in
theorem c_R_readClosedTable {p0 : Nat} {p1 : Int32} {S S' : cS} {q : Option Nat} {dc ds : Nat} (hR : CR b0 K Z) (hV : ∀ (a : Nat) (n : Int32) (z : Nat) (T T' : cS) (q : Option Nat) (dc ds : Nat), RV a n z T = some (q, T', dc, ds) → Ct l D vwCl (tyL dA) b0 Z y_R_readValue (.code y_R_readValue cb_R_readValue 3 (some (.object "TableText$Node")) :: wsA) FV LV [.ref a, .int n] (cH dA b0 T hp0) z (some (va_rf q)) (cH dA b0 T' hp0) dc ds) (hm : x_R_readClosedTable N b0 K RV p0 p1 sz S = some (q, S', dc, ds)) : Ct l D vwCl (tyL dA) b0 Z y_R_readClosedTable (.code y_R_readClosedTable cb_R_readClosedTable 6 (some (.object "TableText$Node")) :: wsA) (FV + 40) (LV + 1200) [.ref p0, .int p1] (cH dA b0 S hp0) sz (some (va_rf q)) (cH dA b0 S' hp0) dc ds := by
  refine ct_ofF (cc := cb_R_readClosedTable) (maxL := 6) (ret := (some (.object "TableText$Node"))) (lo0 := [some (.ref p0), some (.int p1), none, none, none, none]) hR.1 (by decide +kernel) rfl (by simp [lg_sl, cat_i, cat_r, cat_l, va_rf_cat]) rfl (by simp [lx_all, lv_args, cat_i, cat_r, cat_l, va_rf_cat]) ?_
  intro p e s m args below meth c ls B hnm hl I
  obtain ⟨hx, hb, -⟩ := B.1
  have hz : sz = sz + 0 := rfl
  have hc : 0 + dc = dc := Nat.zero_add _
  have hs : 0 + ds = ds := Nat.zero_add _
  unfold x_R_readClosedTable at hm
  refine owr4 hm hc hs (fun dc ds hm hc hs => ?_)
  refine ob1 hm (fun S1 e2 hm => ?_)
  refine k_new (pc := 0) (z := 2) (index := 33) (n := 8) B I (by decide) mC_R_33 mI_2 mN_2 nf_2 (hr_ hc) (hr_ hs) e2 d_R_readClosedTable_0 (fun H I => ?_)
  have hz := hzn (n := 1) hz
  refine lv_dup (pc := 3) hx hb d_R_readClosedTable_3 rfl ?_
  refine lv_bipush (pc := 4) (v := 10) hx hb d_R_readClosedTable_4 (by decide) ?_
  refine lv_iconst (pc := 6) (v := 0) hx hb d_R_readClosedTable_6 (by decide) ?_
  refine ob1 hm (fun S4 e3 hm => ?_)
  refine k_callIN (pc := 7) (As := [.int 10, .int 0]) (rest := [.ref sz]) (b := sz) B hR hl rfl I (c_N_init hR e3) kw_R_35 rfl (fr_k (Nat.le_of_ble_eq_true rfl)) (lo_k (Nat.le_of_ble_eq_true rfl)) rfl (by simp [cat_i, cat_r, cat_l, va_rf_cat]) d_R_readClosedTable_7 (hr0 hc) (hr0 hs) (fun H locs I => ?_)
  refine q_astore_n (pc := 10) (i := 2) (v := .ref sz) (lo' := [some (.ref p0), some (.int p1), some (.ref sz), none, none, none]) hx hb d_R_readClosedTable_10 rfl rfl hl (Nat.le_of_ble_eq_true rfl) (lx_ci rfl) rfl (fun ls hl => ?_)
  refine q_aload_n (pc := 11) (i := 0) (v := .ref p0) hx hb d_R_readClosedTable_11 rfl rfl (lx_get hl rfl) ?_
  refine ob1 hm (fun q5 e6 hm => ?_)
  refine k_getR (pc := 12) (z := 4) (k := 3) (index := 29) B hR I (by decide) (by decide) mF_R_29 rfl (fun _ _ => rfl) e6 d_R_readClosedTable_12 ?_
  refine ob1 hm (fun a7 e8 hm => ?_)
  have hm_9 := hm; have hl_9 := hl; have I_9 := I
  subst e8
  have hm := hm_9; have hl := hl_9; have I := I_9
  refine oifk hm (fun hk hm => ?_)
  refine ob1 hm (fun x11 e10 hm => ?_)
  refine k_callV (pc := 15) (As := []) (rest := []) (b := a7) B hR hl rfl I (c_AL_size hR e10) kw_R_181 (by decide) hk rfl (fr_k (Nat.le_of_ble_eq_true rfl)) (lo_k (Nat.le_of_ble_eq_true rfl)) rfl (by simp [cat_i, cat_r, cat_l, va_rf_cat]) d_R_readClosedTable_15 (hr0 hc) (hr0 hs) (fun H locs I => ?_)
  refine q_istore_n (pc := 18) (i := 3) (lo' := [some (.ref p0), some (.int p1), some (.ref sz), some (.int x11), none, none]) hx hb d_R_readClosedTable_18 rfl hl (Nat.le_of_ble_eq_true rfl) (lx_cr rfl) rfl (fun ls hl => ?_)
  refine q_aload_n (pc := 19) (i := 0) (v := .ref p0) hx hb d_R_readClosedTable_19 rfl rfl (lx_get hl rfl) ?_
  refine lv_dup (pc := 20) hx hb d_R_readClosedTable_20 rfl ?_
  refine ob1 hm (fun x12 e13 hm => ?_)
  refine k_getI (pc := 21) (z := 4) (k := 6) (index := 45) B hR I (by decide) (by decide) mF_R_45 rfl (fun _ _ => rfl) e13 d_R_readClosedTable_21 ?_
  refine lv_iconst (pc := 24) (v := 1) hx hb d_R_readClosedTable_24 (by decide) ?_
  refine lv_iadd (pc := 25) hx hb d_R_readClosedTable_25 ?_
  refine ob1 hm (fun S14 e15 hm => ?_)
  refine k_putI (pc := 26) (z := 4) (k := 6) (index := 45) (v := (x12 + 1)) B I (by decide) (by decide) mF_R_45 rfl rfl rfl rfl cset_4_6 e15 d_R_readClosedTable_26 (fun H locs I => ?_)
  refine q_aload_n (pc := 29) (i := 0) (v := .ref p0) hx hb d_R_readClosedTable_29 rfl rfl (lx_get hl rfl) ?_
  refine oifk hm (fun hk hm => ?_)
  refine ob1 hm (fun S17 e16 hm => ?_)
  refine k_callV (pc := 30) (As := []) (rest := []) (b := p0) B hR hl rfl I (c_R_skipBlanks hR e16) kw_R_51 (by decide) hk rfl (fr_k (Nat.le_of_ble_eq_true rfl)) (lo_k (Nat.le_of_ble_eq_true rfl)) rfl (by simp [cat_i, cat_r, cat_l, va_rf_cat]) d_R_readClosedTable_30 (hr0 hc) (hr0 hs) (fun H locs I => ?_)
  refine q_aload_n (pc := 33) (i := 0) (v := .ref p0) hx hb d_R_readClosedTable_33 rfl rfl (lx_get hl rfl) ?_
  refine oifk hm (fun hk hm => ?_)
  refine ob1 hm (fun x19 e18 hm => ?_)
  refine k_callV (pc := 34) (As := []) (rest := []) (b := p0) B hR hl rfl I (c_R_peek hR e18) kw_R_54 (by decide) hk rfl (fr_k (Nat.le_of_ble_eq_true rfl)) (lo_k (Nat.le_of_ble_eq_true rfl)) rfl (by simp [cat_i, cat_r, cat_l, va_rf_cat]) d_R_readClosedTable_34 (hr0 hc) (hr0 hs) (fun H locs I => ?_)
  refine lv_bipush (pc := 37) (v := 125) hx hb d_R_readClosedTable_37 (by decide) ?_
  refine lv_icmp_eq (pc := 39) (tgt := 46) hx hb d_R_readClosedTable_39 (by decide) (fun hcc => ?_) (fun hcc => ?_)
  · have hm := ift hcc hm
    refine lv_iconst (pc := 46) (v := 0) hx hb d_R_readClosedTable_46 (by decide) ?_
    exact w_R_readClosedTable_47 (y0 := p0) (y1 := p1) (y2 := sz) (y3 := x11) (z0 := 0)  B hR hV hl I hz hc hs hm
  · have hm := iff' hcc hm
    refine lv_iconst (pc := 42) (v := 1) hx hb d_R_readClosedTable_42 (by decide) ?_
    refine lv_goto (pc := 43) (tgt := 47) hx hb d_R_readClosedTable_43 (by decide) ?_
    exact w_R_readClosedTable_47 (y0 := p0) (y1 := p1) (y2 := sz) (y3 := x11) (z0 := 1)  B hR hV hl I hz hc hs hm
def x_R_readValueF_17 (N b0 : Nat) (K : cS) (RV : Nat → Int32 → Nat → cS → Option (Option Nat × cS × Nat × Nat)) (y0 : Nat) (y1 : Int32) (y2 : Int32) (sz : Nat) (S : cS) : Option (Option Nat × cS × Nat × Nat) :=
  if y1 < 6 then (if y2 = 91 then (ifk b0 K S 4 y0 (b4 (x_R_readList N b0 K RV y0 (y1 + 1) sz S) (fun q7 S8 c9 d10 => wr4 c9 d10 (some (q7, S8, 0, 0))))) else (ifk b0 K S 4 y0 (b4 (x_R_readClosedTable N b0 K RV y0 (y1 + 1) sz S) (fun q2 S3 c4 d5 => wr4 c4 d5 (some (q2, S3, 0, 0)))))) else (b1 (gI b0 K S 4 6 y0) (fun x11 => ifk b0 K S 4 y0 (b2 (x_R_wrong N b0 K y0 x11 S) (fun q14 S15 => some (q14, S15, 0, 0)))))
set_option maxRecDepth 100000 in
set_option maxHeartbeats 4000000 in
theorem w_R_readValueF_17 {y0 : Nat} {y1 : Int32} {y2 : Int32} {sz : Nat} {S : cS} (B : BX p m c cb_R_readValue 3 s args (.code y_R_readValue cb_R_readValue 3 (some (.object "TableText$Node")) :: wsA) RZ4 meth (some (.object "TableText$Node")) D vwCl (tyL dA) b0 Z) (hR : CR b0 K Z) (hV : ∀ (a : Nat) (n : Int32) (z : Nat) (T T' : cS) (q : Option Nat) (dc ds : Nat), RV a n z T = some (q, T', dc, ds) → Ct l D vwCl (tyL dA) b0 Z y_R_readValue (.code y_R_readValue cb_R_readValue 3 (some (.object "TableText$Node")) :: wsA) FV LV [.ref a, .int n] (cH dA b0 T hp0) z (some (va_rf q)) (cH dA b0 T' hp0) dc ds) (hl : lx ls [some (.ref y0), some (.int y1), some (.int y2)]) (I : AI D vwCl b0 (cH dA b0 S hp0) sz s.heap H locs) (hz : sz = sz0 + cells) (hc : cells + dc = mc) (hs : slots + ds = ms) (hm : x_R_readValueF_17 N b0 K RV  y0 y1 y2 sz S = some (q, S', dc, ds)) : W p l e { frames := FV + 60, cells := mc, slots := ms, locals := LV + 1800 } s m args below meth c H locs cells slots (MQ below (CQ D vwCl b0 (some (va_rf q)) (cH dA b0 S' hp0) (sz0 + mc)) args s mc ms (fun q => b0 ≤ q)) (F0 m 17 ls []) := by
  obtain ⟨hx, hb, -⟩ := B.1
  unfold x_R_readValueF_17 at hm
  refine lv_iload_n (pc := 17) (i := 1) hx hb d_R_readValue_17 rfl (lx_get hl rfl) ?_
  refine lv_bipush (pc := 18) (v := 6) hx hb d_R_readValue_18 (by decide) ?_
  refine lv_icmp_lt (pc := 20) (tgt := 32) hx hb d_R_readValue_20 (by decide) (fun hcc => ?_) (fun hcc => ?_)
  · have hm := ift hcc hm
    refine lv_iload_n (pc := 32) (i := 2) hx hb d_R_readValue_32 rfl (lx_get hl rfl) ?_
    refine lv_bipush (pc := 33) (v := 91) hx hb d_R_readValue_33 (by decide) ?_
    refine lv_icmp_ne (pc := 35) (tgt := 48) hx hb d_R_readValue_35 (by decide) (fun hcc => ?_) (fun hcc => ?_)
    · have hm := iff' hcc hm
      refine q_aload_n (pc := 48) (i := 0) (v := .ref y0) hx hb d_R_readValue_48 rfl rfl (lx_get hl rfl) ?_
      refine lv_iload_n (pc := 49) (i := 1) hx hb d_R_readValue_49 rfl (lx_get hl rfl) ?_
      refine lv_iconst (pc := 50) (v := 1) hx hb d_R_readValue_50 (by decide) ?_
      refine lv_iadd (pc := 51) hx hb d_R_readValue_51 ?_
      refine oifk hm (fun hk hm => ?_)
      refine ob4 hm (fun q2 S3 c4 d5 e1 hm => ?_)
      refine owr4 hm hc hs (fun dc ds hm hc hs => ?_)
      refine k_callV (pc := 52) (As := [.int (y1 + 1)]) (rest := []) (b := y0) B hR hl rfl I (c_R_readClosedTable hR hV e1) kw_R_155 (by decide) hk rfl (fr_g (Nat.le_of_ble_eq_true rfl)) (lo_g (Nat.le_of_ble_eq_true rfl)) rfl (by simp [cat_i, cat_r, cat_l, va_rf_cat]) d_R_readValue_52 (hr_ hc) (hr_ hs) (fun H locs I => ?_)
      have hz := hzn (n := c4) hz
      cases hm
      exact q_aretA (pc := 55) B I hz hc hs rfl (Or.inl ⟨_, rfl⟩) d_R_readValue_55
    · have hm := ift hcc hm
      refine q_aload_n (pc := 38) (i := 0) (v := .ref y0) hx hb d_R_readValue_38 rfl rfl (lx_get hl rfl) ?_
      refine lv_iload_n (pc := 39) (i := 1) hx hb d_R_readValue_39 rfl (lx_get hl rfl) ?_
      refine lv_iconst (pc := 40) (v := 1) hx hb d_R_readValue_40 (by decide) ?_
      refine lv_iadd (pc := 41) hx hb d_R_readValue_41 ?_
      refine oifk hm (fun hk hm => ?_)
      refine ob4 hm (fun q7 S8 c9 d10 e6 hm => ?_)
      refine owr4 hm hc hs (fun dc ds hm hc hs => ?_)
      refine k_callV (pc := 42) (As := [.int (y1 + 1)]) (rest := []) (b := y0) B hR hl rfl I (c_R_readList hR hV e6) kw_R_152 (by decide) hk rfl (fr_g (Nat.le_of_ble_eq_true rfl)) (lo_g (Nat.le_of_ble_eq_true rfl)) rfl (by simp [cat_i, cat_r, cat_l, va_rf_cat]) d_R_readValue_42 (hr_ hc) (hr_ hs) (fun H locs I => ?_)
      have hz := hzn (n := c9) hz
      refine lv_goto (pc := 45) (tgt := 55) hx hb d_R_readValue_45 (by decide) ?_
      cases hm
      exact q_aretA (pc := 55) B I hz hc hs rfl (Or.inl ⟨_, rfl⟩) d_R_readValue_55
  · have hm := iff' hcc hm
    refine q_aload_n (pc := 23) (i := 0) (v := .ref y0) hx hb d_R_readValue_23 rfl rfl (lx_get hl rfl) ?_
    refine q_aload_n (pc := 24) (i := 0) (v := .ref y0) hx hb d_R_readValue_24 rfl rfl (lx_get hl rfl) ?_
    refine ob1 hm (fun x11 e12 hm => ?_)
    refine k_getI (pc := 25) (z := 4) (k := 6) (index := 45) B hR I (by decide) (by decide) mF_R_45 rfl (fun _ _ => rfl) e12 d_R_readValue_25 ?_
    refine oifk hm (fun hk hm => ?_)
    refine ob2 hm (fun q14 S15 e13 hm => ?_)
    refine k_callV (pc := 28) (As := [.int x11]) (rest := []) (b := y0) B hR hl rfl I (c_R_wrong hR e13) kw_R_105 (by decide) hk rfl (fr_k (Nat.le_of_ble_eq_true rfl)) (lo_k (Nat.le_of_ble_eq_true rfl)) rfl (by simp [cat_i, cat_r, cat_l, va_rf_cat]) d_R_readValue_28 (hr0 hc) (hr0 hs) (fun H locs I => ?_)
    cases hm
    exact q_aretA (pc := 31) B I hz hc hs rfl (Or.inl ⟨_, rfl⟩) d_R_readValue_31
def x_R_readValueF_68 (N b0 : Nat) (K : cS) (RV : Nat → Int32 → Nat → cS → Option (Option Nat × cS × Nat × Nat)) (y0 : Nat) (sz : Nat) (S : cS) : Option (Option Nat × cS × Nat × Nat) :=
  ifk b0 K S 4 y0 (b4 (x_R_readString N b0 K y0 sz S) (fun q2 S3 c4 d5 => wr4 c4 d5 (some (q2, S3, 0, 0))))
set_option maxRecDepth 100000 in
set_option maxHeartbeats 4000000 in
theorem w_R_readValueF_68 {y0 : Nat} {sz : Nat} {S : cS} (B : BX p m c cb_R_readValue 3 s args (.code y_R_readValue cb_R_readValue 3 (some (.object "TableText$Node")) :: wsA) RZ4 meth (some (.object "TableText$Node")) D vwCl (tyL dA) b0 Z) (hR : CR b0 K Z) (hV : ∀ (a : Nat) (n : Int32) (z : Nat) (T T' : cS) (q : Option Nat) (dc ds : Nat), RV a n z T = some (q, T', dc, ds) → Ct l D vwCl (tyL dA) b0 Z y_R_readValue (.code y_R_readValue cb_R_readValue 3 (some (.object "TableText$Node")) :: wsA) FV LV [.ref a, .int n] (cH dA b0 T hp0) z (some (va_rf q)) (cH dA b0 T' hp0) dc ds) (hl : lx ls [some (.ref y0), none, none]) (I : AI D vwCl b0 (cH dA b0 S hp0) sz s.heap H locs) (hz : sz = sz0 + cells) (hc : cells + dc = mc) (hs : slots + ds = ms) (hm : x_R_readValueF_68 N b0 K RV  y0 sz S = some (q, S', dc, ds)) : W p l e { frames := FV + 60, cells := mc, slots := ms, locals := LV + 1800 } s m args below meth c H locs cells slots (MQ below (CQ D vwCl b0 (some (va_rf q)) (cH dA b0 S' hp0) (sz0 + mc)) args s mc ms (fun q => b0 ≤ q)) (F0 m 68 ls []) := by
  obtain ⟨hx, hb, -⟩ := B.1
  unfold x_R_readValueF_68 at hm
  refine q_aload_n (pc := 68) (i := 0) (v := .ref y0) hx hb d_R_readValue_68 rfl rfl (lx_get hl rfl) ?_
  refine oifk hm (fun hk hm => ?_)
  refine ob4 hm (fun q2 S3 c4 d5 e1 hm => ?_)
  refine owr4 hm hc hs (fun dc ds hm hc hs => ?_)
  refine k_callV (pc := 69) (As := []) (rest := []) (b := y0) B hR hl rfl I (c_R_readString hR e1) kw_R_158 (by decide) hk rfl (fr_k (Nat.le_of_ble_eq_true rfl)) (lo_k (Nat.le_of_ble_eq_true rfl)) rfl (by simp [cat_i, cat_r, cat_l, va_rf_cat]) d_R_readValue_69 (hr_ hc) (hr_ hs) (fun H locs I => ?_)
  have hz := hzn (n := c4) hz
  cases hm
  exact q_aretA (pc := 72) B I hz hc hs rfl (Or.inl ⟨_, rfl⟩) d_R_readValue_72
def x_R_readValueF (N b0 : Nat) (K : cS) (RV : Nat → Int32 → Nat → cS → Option (Option Nat × cS × Nat × Nat)) (p0 : Nat) (p1 : Int32) (sz : Nat) (S : cS) : Option (Option Nat × cS × Nat × Nat) :=
  ifk b0 K S 4 p0 (b1 (x_R_peek N b0 K p0 S) (fun x2 => if x2 = 91 then (x_R_readValueF_17 N b0 K RV  p0 p1 x2 sz S) else (if x2 = 123 then (x_R_readValueF_17 N b0 K RV  p0 p1 x2 sz S) else (if x2 = 34 then (x_R_readValueF_68 N b0 K RV  p0 sz S) else (if x2 = 39 then (x_R_readValueF_68 N b0 K RV  p0 sz S) else (if x2 = 116 then (b1 (K.2.2.2 0 1) (fun a22 => ifk b0 K S 4 p0 (b4 (x_R_readTruth N b0 K p0 (some a22) 1 sz S) (fun q25 S26 c27 d28 => wr4 c27 d28 (some (q25, S26, 0, 0)))))) else (if x2 = 102 then (b1 (K.2.2.2 0 2) (fun a15 => ifk b0 K S 4 p0 (b4 (x_R_readTruth N b0 K p0 (some a15) 0 sz S) (fun q18 S19 c20 d21 => wr4 c20 d21 (some (q18, S19, 0, 0)))))) else (ifk b0 K S 4 p0 (b1 (x_R_dateBegins N b0 K p0 S) (fun x4 => if x4 = 0 then (ifk b0 K S 4 p0 (b4 (x_R_readNumber N b0 K p0 sz S) (fun q6 S7 c8 d9 => wr4 c8 d9 (some (q6, S7, 0, 0))))) else (ifk b0 K S 4 p0 (b4 (x_R_readDate N b0 K p0 sz S) (fun q11 S12 c13 d14 => wr4 c13 d14 (some (q11, S12, 0, 0)))))))))))))))
set_option maxRecDepth 100000 in
set_option maxHeartbeats 4000000 in
theorem c_R_readValueF {p0 : Nat} {p1 : Int32} {S S' : cS} {q : Option Nat} {dc ds : Nat} (hR : CR b0 K Z) (hV : ∀ (a : Nat) (n : Int32) (z : Nat) (T T' : cS) (q : Option Nat) (dc ds : Nat), RV a n z T = some (q, T', dc, ds) → Ct l D vwCl (tyL dA) b0 Z y_R_readValue (.code y_R_readValue cb_R_readValue 3 (some (.object "TableText$Node")) :: wsA) FV LV [.ref a, .int n] (cH dA b0 T hp0) z (some (va_rf q)) (cH dA b0 T' hp0) dc ds) (hm : x_R_readValueF N b0 K RV p0 p1 sz S = some (q, S', dc, ds)) : Ct l D vwCl (tyL dA) b0 Z y_R_readValue (.code y_R_readValue cb_R_readValue 3 (some (.object "TableText$Node")) :: wsA) (FV + 60) (LV + 1800) [.ref p0, .int p1] (cH dA b0 S hp0) sz (some (va_rf q)) (cH dA b0 S' hp0) dc ds := by
  refine ct_ofF (cc := cb_R_readValue) (maxL := 3) (ret := (some (.object "TableText$Node"))) (lo0 := [some (.ref p0), some (.int p1), none]) hR.1 (by decide +kernel) rfl (by simp [lg_sl, cat_i, cat_r, cat_l, va_rf_cat]) rfl (by simp [lx_all, lv_args, cat_i, cat_r, cat_l, va_rf_cat]) ?_
  intro p e s m args below meth c ls B hnm hl I
  obtain ⟨hx, hb, -⟩ := B.1
  have hz : sz = sz + 0 := rfl
  have hc : 0 + dc = dc := Nat.zero_add _
  have hs : 0 + ds = ds := Nat.zero_add _
  unfold x_R_readValueF at hm
  refine q_aload_n (pc := 0) (i := 0) (v := .ref p0) hx hb d_R_readValue_0 rfl rfl (lx_get hl rfl) ?_
  refine oifk hm (fun hk hm => ?_)
  refine ob1 hm (fun x2 e1 hm => ?_)
  refine k_callV (pc := 1) (As := []) (rest := []) (b := p0) B hR hl rfl I (c_R_peek hR e1) kw_R_54 (by decide) hk rfl (fr_k (Nat.le_of_ble_eq_true rfl)) (lo_k (Nat.le_of_ble_eq_true rfl)) rfl (by simp [cat_i, cat_r, cat_l, va_rf_cat]) d_R_readValue_1 (hr0 hc) (hr0 hs) (fun H locs I => ?_)
  refine q_istore_n (pc := 4) (i := 2) (lo' := [some (.ref p0), some (.int p1), some (.int x2)]) hx hb d_R_readValue_4 rfl hl (Nat.le_of_ble_eq_true rfl) (lx_ci rfl) rfl (fun ls hl => ?_)
  refine lv_iload_n (pc := 5) (i := 2) hx hb d_R_readValue_5 rfl (lx_get hl rfl) ?_
  refine lv_bipush (pc := 6) (v := 91) hx hb d_R_readValue_6 (by decide) ?_
  refine lv_icmp_eq (pc := 8) (tgt := 17) hx hb d_R_readValue_8 (by decide) (fun hcc => ?_) (fun hcc => ?_)
  · have hm := ift hcc hm
    exact w_R_readValueF_17 (y0 := p0) (y1 := p1) (y2 := x2)  B hR hV hl I hz hc hs hm
  · have hm := iff' hcc hm
    refine lv_iload_n (pc := 11) (i := 2) hx hb d_R_readValue_11 rfl (lx_get hl rfl) ?_
    refine lv_bipush (pc := 12) (v := 123) hx hb d_R_readValue_12 (by decide) ?_
    refine lv_icmp_ne (pc := 14) (tgt := 56) hx hb d_R_readValue_14 (by decide) (fun hcc => ?_) (fun hcc => ?_)
    · have hm := iff' hcc hm
      refine lv_iload_n (pc := 56) (i := 2) hx hb d_R_readValue_56 rfl (lx_get hl rfl) ?_
      refine lv_bipush (pc := 57) (v := 34) hx hb d_R_readValue_57 (by decide) ?_
      refine lv_icmp_eq (pc := 59) (tgt := 68) hx hb d_R_readValue_59 (by decide) (fun hcc => ?_) (fun hcc => ?_)
      · have hm := ift hcc hm
        exact w_R_readValueF_68 (y0 := p0)  B hR hV (lx_sub (lo' := [some (.ref p0), none, none]) hl (by simp [lx_le])) I hz hc hs hm
      · have hm := iff' hcc hm
        refine lv_iload_n (pc := 62) (i := 2) hx hb d_R_readValue_62 rfl (lx_get hl rfl) ?_
        refine lv_bipush (pc := 63) (v := 39) hx hb d_R_readValue_63 (by decide) ?_
        refine lv_icmp_ne (pc := 65) (tgt := 73) hx hb d_R_readValue_65 (by decide) (fun hcc => ?_) (fun hcc => ?_)
        · have hm := iff' hcc hm
          refine lv_iload_n (pc := 73) (i := 2) hx hb d_R_readValue_73 rfl (lx_get hl rfl) ?_
          refine lv_bipush (pc := 74) (v := 116) hx hb d_R_readValue_74 (by decide) ?_
          refine lv_icmp_ne (pc := 76) (tgt := 87) hx hb d_R_readValue_76 (by decide) (fun hcc => ?_) (fun hcc => ?_)
          · have hm := iff' hcc hm
            refine lv_iload_n (pc := 87) (i := 2) hx hb d_R_readValue_87 rfl (lx_get hl rfl) ?_
            refine lv_bipush (pc := 88) (v := 102) hx hb d_R_readValue_88 (by decide) ?_
            refine lv_icmp_ne (pc := 90) (tgt := 101) hx hb d_R_readValue_90 (by decide) (fun hcc => ?_) (fun hcc => ?_)
            · have hm := iff' hcc hm
              refine q_aload_n (pc := 101) (i := 0) (v := .ref p0) hx hb d_R_readValue_101 rfl rfl (lx_get hl rfl) ?_
              refine oifk hm (fun hk hm => ?_)
              refine ob1 hm (fun x4 e3 hm => ?_)
              refine k_callV (pc := 102) (As := []) (rest := []) (b := p0) B hR hl rfl I (c_R_dateBegins hR e3) kw_R_169 (by decide) hk rfl (fr_k (Nat.le_of_ble_eq_true rfl)) (lo_k (Nat.le_of_ble_eq_true rfl)) rfl (by simp [cat_i, cat_r, cat_l, va_rf_cat]) d_R_readValue_102 (hr0 hc) (hr0 hs) (fun H locs I => ?_)
              refine lv_if_eq (pc := 105) (tgt := 115) hx hb d_R_readValue_105 (by decide) (fun hcc => ?_) (fun hcc => ?_)
              · have hm := ift hcc hm
                refine q_aload_n (pc := 115) (i := 0) (v := .ref p0) hx hb d_R_readValue_115 rfl rfl (lx_get hl rfl) ?_
                refine oifk hm (fun hk hm => ?_)
                refine ob4 hm (fun q6 S7 c8 d9 e5 hm => ?_)
                refine owr4 hm hc hs (fun dc ds hm hc hs => ?_)
                refine k_callV (pc := 116) (As := []) (rest := []) (b := p0) B hR hl rfl I (c_R_readNumber hR e5) kw_R_175 (by decide) hk rfl (fr_k (Nat.le_of_ble_eq_true rfl)) (lo_k (Nat.le_of_ble_eq_true rfl)) rfl (by simp [cat_i, cat_r, cat_l, va_rf_cat]) d_R_readValue_116 (hr_ hc) (hr_ hs) (fun H locs I => ?_)
                have hz := hzn (n := c8) hz
                cases hm
                exact q_aretA (pc := 119) B I hz hc hs rfl (Or.inl ⟨_, rfl⟩) d_R_readValue_119
              · have hm := iff' hcc hm
                refine q_aload_n (pc := 108) (i := 0) (v := .ref p0) hx hb d_R_readValue_108 rfl rfl (lx_get hl rfl) ?_
                refine oifk hm (fun hk hm => ?_)
                refine ob4 hm (fun q11 S12 c13 d14 e10 hm => ?_)
                refine owr4 hm hc hs (fun dc ds hm hc hs => ?_)
                refine k_callV (pc := 109) (As := []) (rest := []) (b := p0) B hR hl rfl I (c_R_readDate hR e10) kw_R_172 (by decide) hk rfl (fr_k (Nat.le_of_ble_eq_true rfl)) (lo_k (Nat.le_of_ble_eq_true rfl)) rfl (by simp [cat_i, cat_r, cat_l, va_rf_cat]) d_R_readValue_109 (hr_ hc) (hr_ hs) (fun H locs I => ?_)
                have hz := hzn (n := c13) hz
                refine lv_goto (pc := 112) (tgt := 119) hx hb d_R_readValue_112 (by decide) ?_
                cases hm
                exact q_aretA (pc := 119) B I hz hc hs rfl (Or.inl ⟨_, rfl⟩) d_R_readValue_119
            · have hm := ift hcc hm
              refine q_aload_n (pc := 93) (i := 0) (v := .ref p0) hx hb d_R_readValue_93 rfl rfl (lx_get hl rfl) ?_
              refine ob1 hm (fun a15 e16 hm => ?_)
              refine k_ldc (pc := 94) (j := 1) B hR rfl e16 d_R_readValue_94 ?_
              refine lv_iconst (pc := 96) (v := 0) hx hb d_R_readValue_96 (by decide) ?_
              refine oifk hm (fun hk hm => ?_)
              refine ob4 hm (fun q18 S19 c20 d21 e17 hm => ?_)
              refine owr4 hm hc hs (fun dc ds hm hc hs => ?_)
              refine k_callV (pc := 97) (As := [va_rf (some a15), .int 0]) (rest := []) (b := p0) B hR hl rfl I (c_R_readTruth hR e17) kw_R_164 (by decide) hk rfl (fr_k (Nat.le_of_ble_eq_true rfl)) (lo_k (Nat.le_of_ble_eq_true rfl)) rfl (by simp [cat_i, cat_r, cat_l, va_rf_cat]) d_R_readValue_97 (hr_ hc) (hr_ hs) (fun H locs I => ?_)
              have hz := hzn (n := c20) hz
              cases hm
              exact q_aretA (pc := 100) B I hz hc hs rfl (Or.inl ⟨_, rfl⟩) d_R_readValue_100
          · have hm := ift hcc hm
            refine q_aload_n (pc := 79) (i := 0) (v := .ref p0) hx hb d_R_readValue_79 rfl rfl (lx_get hl rfl) ?_
            refine ob1 hm (fun a22 e23 hm => ?_)
            refine k_ldc (pc := 80) (j := 0) B hR rfl e23 d_R_readValue_80 ?_
            refine lv_iconst (pc := 82) (v := 1) hx hb d_R_readValue_82 (by decide) ?_
            refine oifk hm (fun hk hm => ?_)
            refine ob4 hm (fun q25 S26 c27 d28 e24 hm => ?_)
            refine owr4 hm hc hs (fun dc ds hm hc hs => ?_)
            refine k_callV (pc := 83) (As := [va_rf (some a22), .int 1]) (rest := []) (b := p0) B hR hl rfl I (c_R_readTruth hR e24) kw_R_164 (by decide) hk rfl (fr_k (Nat.le_of_ble_eq_true rfl)) (lo_k (Nat.le_of_ble_eq_true rfl)) rfl (by simp [cat_i, cat_r, cat_l, va_rf_cat]) d_R_readValue_83 (hr_ hc) (hr_ hs) (fun H locs I => ?_)
            have hz := hzn (n := c27) hz
            cases hm
            exact q_aretA (pc := 86) B I hz hc hs rfl (Or.inl ⟨_, rfl⟩) d_R_readValue_86
        · have hm := ift hcc hm
          exact w_R_readValueF_68 (y0 := p0)  B hR hV (lx_sub (lo' := [some (.ref p0), none, none]) hl (by simp [lx_le])) I hz hc hs hm
    · have hm := ift hcc hm
      exact w_R_readValueF_17 (y0 := p0) (y1 := p1) (y2 := x2)  B hR hV hl I hz hc hs hm
def x_R_readValue (N b0 : Nat) (K : cS) : Nat → Nat → Int32 → Nat → cS → Option (Option Nat × cS × Nat × Nat)
  | 0, _, _, _, _ => none
  | d + 1, p0, p1, sz, S => x_R_readValueF N b0 K (x_R_readValue N b0 K d) p0 p1 sz S
theorem c_R_readValue (hR : CR b0 K Z) {d p0 : Nat} {p1 : Int32} {S S' : cS} {q : Option Nat} {sz dc ds : Nat} (hm : x_R_readValue N b0 K d p0 p1 sz S = some (q, S', dc, ds)) : Ct l D vwCl (tyL dA) b0 Z y_R_readValue (.code y_R_readValue cb_R_readValue 3 (some (.object "TableText$Node")) :: wsA) (60 * d) (1800 * d) [.ref p0, .int p1] (cH dA b0 S hp0) sz (some (va_rf q)) (cH dA b0 S' hp0) dc ds := by
  induction d generalizing p0 p1 sz S S' q dc ds with
  | zero => cases hm
  | succ d ih => exact c_R_readValueF hR (fun a n z T T' q dc ds h => ih h) hm
def x_R_readDocument_109 (N b0 : Nat) (K : cS) (K4 : Nat → Int32 → Int32 → Nat → cS → Option (Option Nat × cS × Nat × Nat)) (y0 : Nat) (y1 : Int32) (y2 : Int32) (sz : Nat) (S : cS) : Option (Option Nat × cS × Nat × Nat) :=
  K4 y0 y1 (y2 + 1) sz S
set_option maxRecDepth 100000 in
set_option maxHeartbeats 4000000 in
theorem w_R_readDocument_109 {K4 : Nat → Int32 → Int32 → Nat → cS → Option (Option Nat × cS × Nat × Nat)} {y0 : Nat} {y1 : Int32} {y2 : Int32} {sz : Nat} {S : cS} (hK4 : ∀ (y0 : Nat) (y1 : Int32) (y2 : Int32) (sz : Nat) (S : cS) (ls : Array Slot) (H : Heap) (locs : List Loc) (cells slots dc ds : Nat), lx ls [some (.ref y0), some (.int y1), some (.int y2), none] → AI D vwCl b0 (cH dA b0 S hp0) sz s.heap H locs → sz = sz0 + cells → cells + dc = mc → slots + ds = ms → K4 y0 y1 y2 sz S = some (q, S', dc, ds) → W p l e { frames := 501, cells := mc, slots := ms, locals := 15025 } s m args below meth c H locs cells slots (MQ below (CQ D vwCl b0 (some (va_rf q)) (cH dA b0 S' hp0) (sz0 + mc)) args s mc ms (fun q => b0 ≤ q)) (F0 m 4 ls [])) (B : BX p m c cb_R_readDocument 4 s args (.code y_R_readDocument cb_R_readDocument 4 (some (.object "TableText$Node")) :: wsA) RZ4 meth (some (.object "TableText$Node")) D vwCl (tyL dA) b0 Z) (hR : CR b0 K Z) (hl : lx ls [some (.ref y0), some (.int y1), some (.int y2), none]) (I : AI D vwCl b0 (cH dA b0 S hp0) sz s.heap H locs) (hz : sz = sz0 + cells) (hc : cells + dc = mc) (hs : slots + ds = ms) (hm : x_R_readDocument_109 N b0 K K4 y0 y1 y2 sz S = some (q, S', dc, ds)) : W p l e { frames := 501, cells := mc, slots := ms, locals := 15025 } s m args below meth c H locs cells slots (MQ below (CQ D vwCl b0 (some (va_rf q)) (cH dA b0 S' hp0) (sz0 + mc)) args s mc ms (fun q => b0 ≤ q)) (F0 m 109 ls []) := by
  obtain ⟨hx, hb, -⟩ := B.1
  unfold x_R_readDocument_109 at hm
  refine q_iinc (pc := 109) (i := 2) (v := y2 + 1) (lo' := [some (.ref y0), some (.int y1), some (.int (y2 + 1)), none]) hx hb d_R_readDocument_109 hl rfl rfl (Nat.le_of_ble_eq_true rfl) (lx_ci rfl) rfl (fun ls hl => ?_)
  refine lv_goto (pc := 112) (tgt := 4) hx hb d_R_readDocument_112 (by decide) ?_
  exact hK4 y0 y1 (y2 + 1) sz S _ _ _ _ _ _ _ hl I hz hc hs hm
def x_R_readDocument_93 (N b0 : Nat) (K : cS) (K4 : Nat → Int32 → Int32 → Nat → cS → Option (Option Nat × cS × Nat × Nat)) (y0 : Nat) (y2 : Int32) (z0 : Int32) (sz : Nat) (S : cS) : Option (Option Nat × cS × Nat × Nat) :=
  if z0 = 0 then (x_R_readDocument_109 N b0 K K4 y0 z0 y2 sz S) else (ifk b0 K S 4 y0 (b2 (x_R_take N b0 K y0 10 S) (fun x2 S3 => if x2 = 0 then (some (none, S3, 0, 0)) else (x_R_readDocument_109 N b0 K K4 y0 z0 y2 sz S3))))
set_option maxRecDepth 100000 in
set_option maxHeartbeats 4000000 in
theorem w_R_readDocument_93 {K4 : Nat → Int32 → Int32 → Nat → cS → Option (Option Nat × cS × Nat × Nat)} {y0 : Nat} {y2 : Int32} {z0 : Int32} {sz : Nat} {S : cS} (hK4 : ∀ (y0 : Nat) (y1 : Int32) (y2 : Int32) (sz : Nat) (S : cS) (ls : Array Slot) (H : Heap) (locs : List Loc) (cells slots dc ds : Nat), lx ls [some (.ref y0), some (.int y1), some (.int y2), none] → AI D vwCl b0 (cH dA b0 S hp0) sz s.heap H locs → sz = sz0 + cells → cells + dc = mc → slots + ds = ms → K4 y0 y1 y2 sz S = some (q, S', dc, ds) → W p l e { frames := 501, cells := mc, slots := ms, locals := 15025 } s m args below meth c H locs cells slots (MQ below (CQ D vwCl b0 (some (va_rf q)) (cH dA b0 S' hp0) (sz0 + mc)) args s mc ms (fun q => b0 ≤ q)) (F0 m 4 ls [])) (B : BX p m c cb_R_readDocument 4 s args (.code y_R_readDocument cb_R_readDocument 4 (some (.object "TableText$Node")) :: wsA) RZ4 meth (some (.object "TableText$Node")) D vwCl (tyL dA) b0 Z) (hR : CR b0 K Z) (hl : lx ls [some (.ref y0), none, some (.int y2), none]) (I : AI D vwCl b0 (cH dA b0 S hp0) sz s.heap H locs) (hz : sz = sz0 + cells) (hc : cells + dc = mc) (hs : slots + ds = ms) (hm : x_R_readDocument_93 N b0 K K4 y0 y2 z0 sz S = some (q, S', dc, ds)) : W p l e { frames := 501, cells := mc, slots := ms, locals := 15025 } s m args below meth c H locs cells slots (MQ below (CQ D vwCl b0 (some (va_rf q)) (cH dA b0 S' hp0) (sz0 + mc)) args s mc ms (fun q => b0 ≤ q)) (F0 m 93 ls [.int z0]) := by
  obtain ⟨hx, hb, -⟩ := B.1
  unfold x_R_readDocument_93 at hm
  refine q_istore_n (pc := 93) (i := 1) (lo' := [some (.ref y0), some (.int z0), some (.int y2), none]) hx hb d_R_readDocument_93 rfl hl (Nat.le_of_ble_eq_true rfl) (lx_cr rfl) rfl (fun ls hl => ?_)
  refine lv_iload_n (pc := 94) (i := 1) hx hb d_R_readDocument_94 rfl (lx_get hl rfl) ?_
  refine lv_if_eq (pc := 95) (tgt := 109) hx hb d_R_readDocument_95 (by decide) (fun hcc => ?_) (fun hcc => ?_)
  · have hm := ift hcc hm
    exact w_R_readDocument_109 (y0 := y0) (y1 := z0) (y2 := y2) hK4 B hR hl I hz hc hs hm
  · have hm := iff' hcc hm
    refine q_aload_n (pc := 98) (i := 0) (v := .ref y0) hx hb d_R_readDocument_98 rfl rfl (lx_get hl rfl) ?_
    refine lv_bipush (pc := 99) (v := 10) hx hb d_R_readDocument_99 (by decide) ?_
    refine oifk hm (fun hk hm => ?_)
    refine ob2 hm (fun x2 S3 e1 hm => ?_)
    refine k_callV (pc := 101) (As := [.int 10]) (rest := []) (b := y0) B hR hl rfl I (c_R_take hR e1) kw_R_73 (by decide) hk rfl (Nat.le_of_ble_eq_true rfl) (Nat.le_of_ble_eq_true rfl) rfl (by simp [cat_i, cat_r, cat_l, va_rf_cat]) d_R_readDocument_101 (hr0 hc) (hr0 hs) (fun H locs I => ?_)
    refine lv_if_ne (pc := 104) (tgt := 109) hx hb d_R_readDocument_104 (by decide) (fun hcc => ?_) (fun hcc => ?_)
    · have hm := iff' hcc hm
      exact w_R_readDocument_109 (y0 := y0) (y1 := z0) (y2 := y2) hK4 B hR hl I hz hc hs hm
    · have hm := ift hcc hm
      refine lv_null (pc := 107) hx hb d_R_readDocument_107 ?_
      cases hm
      exact q_aretA (pc := 108) B I hz hc hs rfl (Or.inl ⟨_, rfl⟩) d_R_readDocument_108
def x_R_readDocument_65 (N b0 : Nat) (K : cS) (K4 : Nat → Int32 → Int32 → Nat → cS → Option (Option Nat × cS × Nat × Nat)) (y0 : Nat) (y2 : Int32) (z0 : Int32) (sz : Nat) (S : cS) : Option (Option Nat × cS × Nat × Nat) :=
  if z0 = 0 then (some (none, S, 0, 0)) else (ifk b0 K S 4 y0 (b1 (x_R_skipBlanks N b0 K y0 S) (fun S2 => ifk b0 K S2 4 y0 (b1 (x_R_skipComment N b0 K y0 S2) (fun S4 => ifk b0 K S4 4 y0 (b1 (x_R_peek N b0 K y0 S4) (fun x6 => if x6 = (-1) then (x_R_readDocument_93 N b0 K K4 y0 y2 0 sz S4) else (x_R_readDocument_93 N b0 K K4 y0 y2 1 sz S4))))))))
set_option maxRecDepth 100000 in
set_option maxHeartbeats 4000000 in
theorem w_R_readDocument_65 {K4 : Nat → Int32 → Int32 → Nat → cS → Option (Option Nat × cS × Nat × Nat)} {y0 : Nat} {y2 : Int32} {z0 : Int32} {sz : Nat} {S : cS} (hK4 : ∀ (y0 : Nat) (y1 : Int32) (y2 : Int32) (sz : Nat) (S : cS) (ls : Array Slot) (H : Heap) (locs : List Loc) (cells slots dc ds : Nat), lx ls [some (.ref y0), some (.int y1), some (.int y2), none] → AI D vwCl b0 (cH dA b0 S hp0) sz s.heap H locs → sz = sz0 + cells → cells + dc = mc → slots + ds = ms → K4 y0 y1 y2 sz S = some (q, S', dc, ds) → W p l e { frames := 501, cells := mc, slots := ms, locals := 15025 } s m args below meth c H locs cells slots (MQ below (CQ D vwCl b0 (some (va_rf q)) (cH dA b0 S' hp0) (sz0 + mc)) args s mc ms (fun q => b0 ≤ q)) (F0 m 4 ls [])) (B : BX p m c cb_R_readDocument 4 s args (.code y_R_readDocument cb_R_readDocument 4 (some (.object "TableText$Node")) :: wsA) RZ4 meth (some (.object "TableText$Node")) D vwCl (tyL dA) b0 Z) (hR : CR b0 K Z) (hl : lx ls [some (.ref y0), none, some (.int y2), none]) (I : AI D vwCl b0 (cH dA b0 S hp0) sz s.heap H locs) (hz : sz = sz0 + cells) (hc : cells + dc = mc) (hs : slots + ds = ms) (hm : x_R_readDocument_65 N b0 K K4 y0 y2 z0 sz S = some (q, S', dc, ds)) : W p l e { frames := 501, cells := mc, slots := ms, locals := 15025 } s m args below meth c H locs cells slots (MQ below (CQ D vwCl b0 (some (va_rf q)) (cH dA b0 S' hp0) (sz0 + mc)) args s mc ms (fun q => b0 ≤ q)) (F0 m 65 ls [.int z0]) := by
  obtain ⟨hx, hb, -⟩ := B.1
  unfold x_R_readDocument_65 at hm
  refine q_istore_n (pc := 65) (i := 3) (lo' := [some (.ref y0), none, some (.int y2), some (.int z0)]) hx hb d_R_readDocument_65 rfl hl (Nat.le_of_ble_eq_true rfl) (lx_ci rfl) rfl (fun ls hl => ?_)
  refine lv_iload_n (pc := 66) (i := 3) hx hb d_R_readDocument_66 rfl (lx_get hl rfl) ?_
  refine lv_if_ne (pc := 67) (tgt := 72) hx hb d_R_readDocument_67 (by decide) (fun hcc => ?_) (fun hcc => ?_)
  · have hm := iff' hcc hm
    refine q_aload_n (pc := 72) (i := 0) (v := .ref y0) hx hb d_R_readDocument_72 rfl rfl (lx_get hl rfl) ?_
    refine oifk hm (fun hk hm => ?_)
    refine ob1 hm (fun S2 e1 hm => ?_)
    refine k_callV (pc := 73) (As := []) (rest := []) (b := y0) B hR hl rfl I (c_R_skipBlanks hR e1) kw_R_51 (by decide) hk rfl (Nat.le_of_ble_eq_true rfl) (Nat.le_of_ble_eq_true rfl) rfl (by simp [cat_i, cat_r, cat_l, va_rf_cat]) d_R_readDocument_73 (hr0 hc) (hr0 hs) (fun H locs I => ?_)
    refine q_aload_n (pc := 76) (i := 0) (v := .ref y0) hx hb d_R_readDocument_76 rfl rfl (lx_get hl rfl) ?_
    refine oifk hm (fun hk hm => ?_)
    refine ob1 hm (fun S4 e3 hm => ?_)
    refine k_callV (pc := 77) (As := []) (rest := []) (b := y0) B hR hl rfl I (c_R_skipComment hR e3) kw_R_70 (by decide) hk rfl (Nat.le_of_ble_eq_true rfl) (Nat.le_of_ble_eq_true rfl) rfl (by simp [cat_i, cat_r, cat_l, va_rf_cat]) d_R_readDocument_77 (hr0 hc) (hr0 hs) (fun H locs I => ?_)
    refine q_aload_n (pc := 80) (i := 0) (v := .ref y0) hx hb d_R_readDocument_80 rfl rfl (lx_get hl rfl) ?_
    refine oifk hm (fun hk hm => ?_)
    refine ob1 hm (fun x6 e5 hm => ?_)
    refine k_callV (pc := 81) (As := []) (rest := []) (b := y0) B hR hl rfl I (c_R_peek hR e5) kw_R_54 (by decide) hk rfl (Nat.le_of_ble_eq_true rfl) (Nat.le_of_ble_eq_true rfl) rfl (by simp [cat_i, cat_r, cat_l, va_rf_cat]) d_R_readDocument_81 (hr0 hc) (hr0 hs) (fun H locs I => ?_)
    refine lv_iconst (pc := 84) (v := (-1)) hx hb d_R_readDocument_84 (by decide) ?_
    refine lv_icmp_eq (pc := 85) (tgt := 92) hx hb d_R_readDocument_85 (by decide) (fun hcc => ?_) (fun hcc => ?_)
    · have hm := ift hcc hm
      refine lv_iconst (pc := 92) (v := 0) hx hb d_R_readDocument_92 (by decide) ?_
      exact w_R_readDocument_93 (y0 := y0) (y2 := y2) (z0 := 0) hK4 B hR (lx_sub (lo' := [some (.ref y0), none, some (.int y2), none]) hl (by simp [lx_le])) I hz hc hs hm
    · have hm := iff' hcc hm
      refine lv_iconst (pc := 88) (v := 1) hx hb d_R_readDocument_88 (by decide) ?_
      refine lv_goto (pc := 89) (tgt := 93) hx hb d_R_readDocument_89 (by decide) ?_
      exact w_R_readDocument_93 (y0 := y0) (y2 := y2) (z0 := 1) hK4 B hR (lx_sub (lo' := [some (.ref y0), none, some (.int y2), none]) hl (by simp [lx_le])) I hz hc hs hm
  · have hm := ift hcc hm
    refine lv_null (pc := 70) hx hb d_R_readDocument_70 ?_
    cases hm
    exact q_aretA (pc := 71) B I hz hc hs rfl (Or.inl ⟨_, rfl⟩) d_R_readDocument_71
def x_R_readDocument_60 (N b0 : Nat) (K : cS) (K4 : Nat → Int32 → Int32 → Nat → cS → Option (Option Nat × cS × Nat × Nat)) (y0 : Nat) (y2 : Int32) (sz : Nat) (S : cS) : Option (Option Nat × cS × Nat × Nat) :=
  x_R_readDocument_65 N b0 K K4 y0 y2 1 sz S
set_option maxRecDepth 100000 in
set_option maxHeartbeats 4000000 in
theorem w_R_readDocument_60 {K4 : Nat → Int32 → Int32 → Nat → cS → Option (Option Nat × cS × Nat × Nat)} {y0 : Nat} {y2 : Int32} {sz : Nat} {S : cS} (hK4 : ∀ (y0 : Nat) (y1 : Int32) (y2 : Int32) (sz : Nat) (S : cS) (ls : Array Slot) (H : Heap) (locs : List Loc) (cells slots dc ds : Nat), lx ls [some (.ref y0), some (.int y1), some (.int y2), none] → AI D vwCl b0 (cH dA b0 S hp0) sz s.heap H locs → sz = sz0 + cells → cells + dc = mc → slots + ds = ms → K4 y0 y1 y2 sz S = some (q, S', dc, ds) → W p l e { frames := 501, cells := mc, slots := ms, locals := 15025 } s m args below meth c H locs cells slots (MQ below (CQ D vwCl b0 (some (va_rf q)) (cH dA b0 S' hp0) (sz0 + mc)) args s mc ms (fun q => b0 ≤ q)) (F0 m 4 ls [])) (B : BX p m c cb_R_readDocument 4 s args (.code y_R_readDocument cb_R_readDocument 4 (some (.object "TableText$Node")) :: wsA) RZ4 meth (some (.object "TableText$Node")) D vwCl (tyL dA) b0 Z) (hR : CR b0 K Z) (hl : lx ls [some (.ref y0), none, some (.int y2), none]) (I : AI D vwCl b0 (cH dA b0 S hp0) sz s.heap H locs) (hz : sz = sz0 + cells) (hc : cells + dc = mc) (hs : slots + ds = ms) (hm : x_R_readDocument_60 N b0 K K4 y0 y2 sz S = some (q, S', dc, ds)) : W p l e { frames := 501, cells := mc, slots := ms, locals := 15025 } s m args below meth c H locs cells slots (MQ below (CQ D vwCl b0 (some (va_rf q)) (cH dA b0 S' hp0) (sz0 + mc)) args s mc ms (fun q => b0 ≤ q)) (F0 m 60 ls []) := by
  obtain ⟨hx, hb, -⟩ := B.1
  unfold x_R_readDocument_60 at hm
  refine lv_iconst (pc := 60) (v := 1) hx hb d_R_readDocument_60 (by decide) ?_
  refine lv_goto (pc := 61) (tgt := 65) hx hb d_R_readDocument_61 (by decide) ?_
  exact w_R_readDocument_65 (y0 := y0) (y2 := y2) (z0 := 1) hK4 B hR hl I hz hc hs hm
def x_R_readDocument_64 (N b0 : Nat) (K : cS) (K4 : Nat → Int32 → Int32 → Nat → cS → Option (Option Nat × cS × Nat × Nat)) (y0 : Nat) (y2 : Int32) (sz : Nat) (S : cS) : Option (Option Nat × cS × Nat × Nat) :=
  x_R_readDocument_65 N b0 K K4 y0 y2 0 sz S
set_option maxRecDepth 100000 in
set_option maxHeartbeats 4000000 in
theorem w_R_readDocument_64 {K4 : Nat → Int32 → Int32 → Nat → cS → Option (Option Nat × cS × Nat × Nat)} {y0 : Nat} {y2 : Int32} {sz : Nat} {S : cS} (hK4 : ∀ (y0 : Nat) (y1 : Int32) (y2 : Int32) (sz : Nat) (S : cS) (ls : Array Slot) (H : Heap) (locs : List Loc) (cells slots dc ds : Nat), lx ls [some (.ref y0), some (.int y1), some (.int y2), none] → AI D vwCl b0 (cH dA b0 S hp0) sz s.heap H locs → sz = sz0 + cells → cells + dc = mc → slots + ds = ms → K4 y0 y1 y2 sz S = some (q, S', dc, ds) → W p l e { frames := 501, cells := mc, slots := ms, locals := 15025 } s m args below meth c H locs cells slots (MQ below (CQ D vwCl b0 (some (va_rf q)) (cH dA b0 S' hp0) (sz0 + mc)) args s mc ms (fun q => b0 ≤ q)) (F0 m 4 ls [])) (B : BX p m c cb_R_readDocument 4 s args (.code y_R_readDocument cb_R_readDocument 4 (some (.object "TableText$Node")) :: wsA) RZ4 meth (some (.object "TableText$Node")) D vwCl (tyL dA) b0 Z) (hR : CR b0 K Z) (hl : lx ls [some (.ref y0), none, some (.int y2), none]) (I : AI D vwCl b0 (cH dA b0 S hp0) sz s.heap H locs) (hz : sz = sz0 + cells) (hc : cells + dc = mc) (hs : slots + ds = ms) (hm : x_R_readDocument_64 N b0 K K4 y0 y2 sz S = some (q, S', dc, ds)) : W p l e { frames := 501, cells := mc, slots := ms, locals := 15025 } s m args below meth c H locs cells slots (MQ below (CQ D vwCl b0 (some (va_rf q)) (cH dA b0 S' hp0) (sz0 + mc)) args s mc ms (fun q => b0 ≤ q)) (F0 m 64 ls []) := by
  obtain ⟨hx, hb, -⟩ := B.1
  unfold x_R_readDocument_64 at hm
  refine lv_iconst (pc := 64) (v := 0) hx hb d_R_readDocument_64 (by decide) ?_
  exact w_R_readDocument_65 (y0 := y0) (y2 := y2) (z0 := 0) hK4 B hR hl I hz hc hs hm
def x_R_readDocument_115 (N b0 : Nat) (K : cS) (y0 : Nat) (sz : Nat) (S : cS) : Option (Option Nat × cS × Nat × Nat) :=
  b1 (gR b0 K S 4 4 y0) (fun q1 => some (q1, S, 0, 0))
set_option maxRecDepth 100000 in
set_option maxHeartbeats 4000000 in
theorem w_R_readDocument_115 {y0 : Nat} {sz : Nat} {S : cS} (B : BX p m c cb_R_readDocument 4 s args (.code y_R_readDocument cb_R_readDocument 4 (some (.object "TableText$Node")) :: wsA) RZ4 meth (some (.object "TableText$Node")) D vwCl (tyL dA) b0 Z) (hR : CR b0 K Z) (hl : lx ls [some (.ref y0), none, none, none]) (I : AI D vwCl b0 (cH dA b0 S hp0) sz s.heap H locs) (hz : sz = sz0 + cells) (hc : cells + dc = mc) (hs : slots + ds = ms) (hm : x_R_readDocument_115 N b0 K  y0 sz S = some (q, S', dc, ds)) : W p l e { frames := 501, cells := mc, slots := ms, locals := 15025 } s m args below meth c H locs cells slots (MQ below (CQ D vwCl b0 (some (va_rf q)) (cH dA b0 S' hp0) (sz0 + mc)) args s mc ms (fun q => b0 ≤ q)) (F0 m 115 ls []) := by
  obtain ⟨hx, hb, -⟩ := B.1
  unfold x_R_readDocument_115 at hm
  refine q_aload_n (pc := 115) (i := 0) (v := .ref y0) hx hb d_R_readDocument_115 rfl rfl (lx_get hl rfl) ?_
  refine ob1 hm (fun q1 e2 hm => ?_)
  refine k_getR (pc := 116) (z := 4) (k := 4) (index := 38) B hR I (by decide) (by decide) mF_R_38 rfl (fun _ _ => rfl) e2 d_R_readDocument_116 ?_
  cases hm
  exact q_aretA (pc := 119) B I hz hc hs rfl (Or.inl ⟨_, rfl⟩) d_R_readDocument_119
def x_R_readDocument_4F (N b0 : Nat) (K : cS) (K4 : Nat → Int32 → Int32 → Nat → cS → Option (Option Nat × cS × Nat × Nat)) (y0 : Nat) (y1 : Int32) (y2 : Int32) (sz : Nat) (S : cS) : Option (Option Nat × cS × Nat × Nat) :=
  if y1 = 0 then (x_R_readDocument_115 N b0 K  y0 sz S) else (if 240 < y2 then (x_R_readDocument_115 N b0 K  y0 sz S) else (ifk b0 K S 4 y0 (b1 (x_R_skipBlanks N b0 K y0 S) (fun S2 => ifk b0 K S2 4 y0 (b1 (x_R_peek N b0 K y0 S2) (fun x4 => b1 (x_R_saysNothing N b0 K x4 S2) (fun x6 => if x6 = 0 then (ifk b0 K S2 4 y0 (b1 (x_R_peek N b0 K y0 S2) (fun x8 => if x8 = 91 then (ifk b0 K S2 4 y0 (b4 (x_R_readHeader N b0 K y0 sz S2) (fun x17 S18 c19 d20 => wr4 c19 d20 (if x17 = 0 then (x_R_readDocument_64 N b0 K K4 y0 y2 (sz + c19) S18) else (x_R_readDocument_60 N b0 K K4 y0 y2 (sz + c19) S18))))) else (b1 (gR b0 K S2 4 5 y0) (fun q9 => ifk b0 K S2 4 y0 (b4 (x_R_readEntry N b0 K (x_R_readValue N b0 K 8) y0 q9 0 sz S2) (fun x12 S13 c14 d15 => wr4 c14 d15 (if x12 = 0 then (x_R_readDocument_64 N b0 K K4 y0 y2 (sz + c14) S13) else (x_R_readDocument_60 N b0 K K4 y0 y2 (sz + c14) S13))))))))) else (x_R_readDocument_60 N b0 K K4 y0 y2 sz S2))))))))
def x_R_readDocument_4 (N b0 : Nat) (K : cS) : Nat → Nat → Int32 → Int32 → Nat → cS → Option (Option Nat × cS × Nat × Nat)
  | 0, _, _, _, _, _ => none
  | k + 1, y0, y1, y2, sz, S => x_R_readDocument_4F N b0 K  (x_R_readDocument_4 N b0 K  k) y0 y1 y2 sz S
set_option maxRecDepth 100000 in
set_option maxHeartbeats 4000000 in
theorem w_R_readDocument_4F {K4 : Nat → Int32 → Int32 → Nat → cS → Option (Option Nat × cS × Nat × Nat)} {y0 : Nat} {y1 : Int32} {y2 : Int32} {sz : Nat} {S : cS} (hK4 : ∀ (y0 : Nat) (y1 : Int32) (y2 : Int32) (sz : Nat) (S : cS) (ls : Array Slot) (H : Heap) (locs : List Loc) (cells slots dc ds : Nat), lx ls [some (.ref y0), some (.int y1), some (.int y2), none] → AI D vwCl b0 (cH dA b0 S hp0) sz s.heap H locs → sz = sz0 + cells → cells + dc = mc → slots + ds = ms → K4 y0 y1 y2 sz S = some (q, S', dc, ds) → W p l e { frames := 501, cells := mc, slots := ms, locals := 15025 } s m args below meth c H locs cells slots (MQ below (CQ D vwCl b0 (some (va_rf q)) (cH dA b0 S' hp0) (sz0 + mc)) args s mc ms (fun q => b0 ≤ q)) (F0 m 4 ls [])) (B : BX p m c cb_R_readDocument 4 s args (.code y_R_readDocument cb_R_readDocument 4 (some (.object "TableText$Node")) :: wsA) RZ4 meth (some (.object "TableText$Node")) D vwCl (tyL dA) b0 Z) (hR : CR b0 K Z) (hl : lx ls [some (.ref y0), some (.int y1), some (.int y2), none]) (I : AI D vwCl b0 (cH dA b0 S hp0) sz s.heap H locs) (hz : sz = sz0 + cells) (hc : cells + dc = mc) (hs : slots + ds = ms) (hm : x_R_readDocument_4F N b0 K  K4 y0 y1 y2 sz S = some (q, S', dc, ds)) : W p l e { frames := 501, cells := mc, slots := ms, locals := 15025 } s m args below meth c H locs cells slots (MQ below (CQ D vwCl b0 (some (va_rf q)) (cH dA b0 S' hp0) (sz0 + mc)) args s mc ms (fun q => b0 ≤ q)) (F0 m 4 ls []) := by
  obtain ⟨hx, hb, -⟩ := B.1
  unfold x_R_readDocument_4F at hm
  refine lv_iload_n (pc := 4) (i := 1) hx hb d_R_readDocument_4 rfl (lx_get hl rfl) ?_
  refine lv_if_eq (pc := 5) (tgt := 115) hx hb d_R_readDocument_5 (by decide) (fun hcc => ?_) (fun hcc => ?_)
  · have hm := ift hcc hm
    exact w_R_readDocument_115 (y0 := y0)  B hR (lx_sub (lo' := [some (.ref y0), none, none, none]) hl (by simp [lx_le])) I hz hc hs hm
  · have hm := iff' hcc hm
    refine lv_iload_n (pc := 8) (i := 2) hx hb d_R_readDocument_8 rfl (lx_get hl rfl) ?_
    refine lv_sipush (pc := 9) (v := 240) hx hb d_R_readDocument_9 (by decide) ?_
    refine lv_icmp_gt (pc := 12) (tgt := 115) hx hb d_R_readDocument_12 (by decide) (fun hcc => ?_) (fun hcc => ?_)
    · have hm := ift hcc hm
      exact w_R_readDocument_115 (y0 := y0)  B hR (lx_sub (lo' := [some (.ref y0), none, none, none]) hl (by simp [lx_le])) I hz hc hs hm
    · have hm := iff' hcc hm
      refine q_aload_n (pc := 15) (i := 0) (v := .ref y0) hx hb d_R_readDocument_15 rfl rfl (lx_get hl rfl) ?_
      refine oifk hm (fun hk hm => ?_)
      refine ob1 hm (fun S2 e1 hm => ?_)
      refine k_callV (pc := 16) (As := []) (rest := []) (b := y0) B hR hl rfl I (c_R_skipBlanks hR e1) kw_R_51 (by decide) hk rfl (Nat.le_of_ble_eq_true rfl) (Nat.le_of_ble_eq_true rfl) rfl (by simp [cat_i, cat_r, cat_l, va_rf_cat]) d_R_readDocument_16 (hr0 hc) (hr0 hs) (fun H locs I => ?_)
      refine q_aload_n (pc := 19) (i := 0) (v := .ref y0) hx hb d_R_readDocument_19 rfl rfl (lx_get hl rfl) ?_
      refine oifk hm (fun hk hm => ?_)
      refine ob1 hm (fun x4 e3 hm => ?_)
      refine k_callV (pc := 20) (As := []) (rest := []) (b := y0) B hR hl rfl I (c_R_peek hR e3) kw_R_54 (by decide) hk rfl (Nat.le_of_ble_eq_true rfl) (Nat.le_of_ble_eq_true rfl) rfl (by simp [cat_i, cat_r, cat_l, va_rf_cat]) d_R_readDocument_20 (hr0 hc) (hr0 hs) (fun H locs I => ?_)
      refine ob1 hm (fun x6 e5 hm => ?_)
      refine k_callS (pc := 23) (As := [.int x4]) (rest := []) B hl rfl I (c_R_saysNothing hR e5) kw_R_58 rfl (Nat.le_of_ble_eq_true rfl) (Nat.le_of_ble_eq_true rfl) rfl (by simp [cat_i, cat_r, cat_l, va_rf_cat]) d_R_readDocument_23 (hr0 hc) (hr0 hs) (fun H locs I => ?_)
      refine lv_if_ne (pc := 26) (tgt := 60) hx hb d_R_readDocument_26 (by decide) (fun hcc => ?_) (fun hcc => ?_)
      · have hm := iff' hcc hm
        exact w_R_readDocument_60 (y0 := y0) (y2 := y2) hK4 B hR (lx_sub (lo' := [some (.ref y0), none, some (.int y2), none]) hl (by simp [lx_le])) I hz hc hs hm
      · have hm := ift hcc hm
        refine q_aload_n (pc := 29) (i := 0) (v := .ref y0) hx hb d_R_readDocument_29 rfl rfl (lx_get hl rfl) ?_
        refine oifk hm (fun hk hm => ?_)
        refine ob1 hm (fun x8 e7 hm => ?_)
        refine k_callV (pc := 30) (As := []) (rest := []) (b := y0) B hR hl rfl I (c_R_peek hR e7) kw_R_54 (by decide) hk rfl (Nat.le_of_ble_eq_true rfl) (Nat.le_of_ble_eq_true rfl) rfl (by simp [cat_i, cat_r, cat_l, va_rf_cat]) d_R_readDocument_30 (hr0 hc) (hr0 hs) (fun H locs I => ?_)
        refine lv_bipush (pc := 33) (v := 91) hx hb d_R_readDocument_33 (by decide) ?_
        refine lv_icmp_ne (pc := 35) (tgt := 48) hx hb d_R_readDocument_35 (by decide) (fun hcc => ?_) (fun hcc => ?_)
        · have hm := iff' hcc hm
          refine q_aload_n (pc := 48) (i := 0) (v := .ref y0) hx hb d_R_readDocument_48 rfl rfl (lx_get hl rfl) ?_
          refine q_aload_n (pc := 49) (i := 0) (v := .ref y0) hx hb d_R_readDocument_49 rfl rfl (lx_get hl rfl) ?_
          refine ob1 hm (fun q9 e10 hm => ?_)
          refine k_getR (pc := 50) (z := 4) (k := 5) (index := 42) B hR I (by decide) (by decide) mF_R_42 rfl (fun _ _ => rfl) e10 d_R_readDocument_50 ?_
          refine lv_iconst (pc := 53) (v := 0) hx hb d_R_readDocument_53 (by decide) ?_
          refine oifk hm (fun hk hm => ?_)
          refine ob4 hm (fun x12 S13 c14 d15 e11 hm => ?_)
          refine owr4 hm hc hs (fun dc ds hm hc hs => ?_)
          refine k_callV (pc := 54) (As := [va_rf q9, .int 0]) (rest := []) (b := y0) B hR hl rfl I (c_R_readEntry hR (fun _ _ _ _ _ _ _ _ h => c_R_readValue hR h) e11) kw_R_66 (by decide) hk rfl (Nat.le_of_ble_eq_true rfl) (Nat.le_of_ble_eq_true rfl) rfl (by simp [cat_i, cat_r, cat_l, va_rf_cat]) d_R_readDocument_54 (hr_ hc) (hr_ hs) (fun H locs I => ?_)
          have hz := hzn (n := c14) hz
          refine lv_if_eq (pc := 57) (tgt := 64) hx hb d_R_readDocument_57 (by decide) (fun hcc => ?_) (fun hcc => ?_)
          · have hm := ift hcc hm
            exact w_R_readDocument_64 (y0 := y0) (y2 := y2) hK4 B hR (lx_sub (lo' := [some (.ref y0), none, some (.int y2), none]) hl (by simp [lx_le])) I hz hc hs hm
          · have hm := iff' hcc hm
            exact w_R_readDocument_60 (y0 := y0) (y2 := y2) hK4 B hR (lx_sub (lo' := [some (.ref y0), none, some (.int y2), none]) hl (by simp [lx_le])) I hz hc hs hm
        · have hm := ift hcc hm
          refine q_aload_n (pc := 38) (i := 0) (v := .ref y0) hx hb d_R_readDocument_38 rfl rfl (lx_get hl rfl) ?_
          refine oifk hm (fun hk hm => ?_)
          refine ob4 hm (fun x17 S18 c19 d20 e16 hm => ?_)
          refine owr4 hm hc hs (fun dc ds hm hc hs => ?_)
          refine k_callV (pc := 39) (As := []) (rest := []) (b := y0) B hR hl rfl I (c_R_readHeader hR e16) kw_R_62 (by decide) hk rfl (Nat.le_of_ble_eq_true rfl) (Nat.le_of_ble_eq_true rfl) rfl (by simp [cat_i, cat_r, cat_l, va_rf_cat]) d_R_readDocument_39 (hr_ hc) (hr_ hs) (fun H locs I => ?_)
          have hz := hzn (n := c19) hz
          refine lv_if_eq (pc := 42) (tgt := 64) hx hb d_R_readDocument_42 (by decide) (fun hcc => ?_) (fun hcc => ?_)
          · have hm := ift hcc hm
            exact w_R_readDocument_64 (y0 := y0) (y2 := y2) hK4 B hR (lx_sub (lo' := [some (.ref y0), none, some (.int y2), none]) hl (by simp [lx_le])) I hz hc hs hm
          · have hm := iff' hcc hm
            refine lv_goto (pc := 45) (tgt := 60) hx hb d_R_readDocument_45 (by decide) ?_
            exact w_R_readDocument_60 (y0 := y0) (y2 := y2) hK4 B hR (lx_sub (lo' := [some (.ref y0), none, some (.int y2), none]) hl (by simp [lx_le])) I hz hc hs hm
set_option maxRecDepth 100000 in
set_option maxHeartbeats 4000000 in
theorem w_R_readDocument_4i (B : BX p m c cb_R_readDocument 4 s args (.code y_R_readDocument cb_R_readDocument 4 (some (.object "TableText$Node")) :: wsA) RZ4 meth (some (.object "TableText$Node")) D vwCl (tyL dA) b0 Z) (hR : CR b0 K Z) (k : Nat) (y0 : Nat) (y1 : Int32) (y2 : Int32) (sz : Nat) (S : cS) (ls : Array Slot) (H : Heap) (locs : List Loc) (cells slots dc ds : Nat) (hl : lx ls [some (.ref y0), some (.int y1), some (.int y2), none]) (I : AI D vwCl b0 (cH dA b0 S hp0) sz s.heap H locs) (hz : sz = sz0 + cells) (hc : cells + dc = mc) (hs : slots + ds = ms) (hm : x_R_readDocument_4 N b0 K  k y0 y1 y2 sz S = some (q, S', dc, ds)) : W p l e { frames := 501, cells := mc, slots := ms, locals := 15025 } s m args below meth c H locs cells slots (MQ below (CQ D vwCl b0 (some (va_rf q)) (cH dA b0 S' hp0) (sz0 + mc)) args s mc ms (fun q => b0 ≤ q)) (F0 m 4 ls []) := by
  induction k generalizing y0 y1 y2 sz S ls H locs cells slots dc ds with
  | zero => cases hm
  | succ k ih => exact w_R_readDocument_4F  (fun y0 y1 y2 sz S ls H locs cells slots dc ds hl I hz hc hs hm => ih y0 y1 y2 sz S ls H locs cells slots dc ds hl I hz hc hs hm) B hR hl I hz hc hs hm
theorem w_R_readDocument_4 {y0 : Nat} {y1 : Int32} {y2 : Int32} {sz : Nat} {S : cS} (B : BX p m c cb_R_readDocument 4 s args (.code y_R_readDocument cb_R_readDocument 4 (some (.object "TableText$Node")) :: wsA) RZ4 meth (some (.object "TableText$Node")) D vwCl (tyL dA) b0 Z) (hR : CR b0 K Z) (hl : lx ls [some (.ref y0), some (.int y1), some (.int y2), none]) (I : AI D vwCl b0 (cH dA b0 S hp0) sz s.heap H locs) (hz : sz = sz0 + cells) (hc : cells + dc = mc) (hs : slots + ds = ms) {k : Nat} (hm : x_R_readDocument_4 N b0 K  k y0 y1 y2 sz S = some (q, S', dc, ds)) : W p l e { frames := 501, cells := mc, slots := ms, locals := 15025 } s m args below meth c H locs cells slots (MQ below (CQ D vwCl b0 (some (va_rf q)) (cH dA b0 S' hp0) (sz0 + mc)) args s mc ms (fun q => b0 ≤ q)) (F0 m 4 ls []) := w_R_readDocument_4i  B hR k _ _ _ sz S ls H locs _ _ _ _ hl I hz hc hs hm
def x_R_readDocument (N b0 : Nat) (K : cS) (p0 : Nat) (sz : Nat) (S : cS) : Option (Option Nat × cS × Nat × Nat) :=
  x_R_readDocument_4 N b0 K  N p0 1 0 sz S
set_option maxRecDepth 100000 in
set_option maxHeartbeats 4000000 in
theorem c_R_readDocument {p0 : Nat} {S S' : cS} {q : Option Nat} {dc ds : Nat} (hR : CR b0 K Z) (hm : x_R_readDocument N b0 K p0 sz S = some (q, S', dc, ds)) : Ct l D vwCl (tyL dA) b0 Z y_R_readDocument (.code y_R_readDocument cb_R_readDocument 4 (some (.object "TableText$Node")) :: wsA) 501 15025 [.ref p0] (cH dA b0 S hp0) sz (some (va_rf q)) (cH dA b0 S' hp0) dc ds := by
  refine ct_ofF (cc := cb_R_readDocument) (maxL := 4) (ret := (some (.object "TableText$Node"))) (lo0 := [some (.ref p0), none, none, none]) hR.1 (by decide +kernel) rfl (by simp [lg_sl, cat_i, cat_r, cat_l, va_rf_cat]) rfl (by simp [lx_all, lv_args, cat_i, cat_r, cat_l, va_rf_cat]) ?_
  intro p e s m args below meth c ls B hnm hl I
  obtain ⟨hx, hb, -⟩ := B.1
  have hz : sz = sz + 0 := rfl
  have hc : 0 + dc = dc := Nat.zero_add _
  have hs : 0 + ds = ds := Nat.zero_add _
  unfold x_R_readDocument at hm
  refine lv_iconst (pc := 0) (v := 1) hx hb d_R_readDocument_0 (by decide) ?_
  refine q_istore_n (pc := 1) (i := 1) (lo' := [some (.ref p0), some (.int 1), none, none]) hx hb d_R_readDocument_1 rfl hl (Nat.le_of_ble_eq_true rfl) (lx_cr rfl) rfl (fun ls hl => ?_)
  refine lv_iconst (pc := 2) (v := 0) hx hb d_R_readDocument_2 (by decide) ?_
  refine q_istore_n (pc := 3) (i := 2) (lo' := [some (.ref p0), some (.int 1), some (.int 0), none]) hx hb d_R_readDocument_3 rfl hl (Nat.le_of_ble_eq_true rfl) (lx_ci rfl) rfl (fun ls hl => ?_)
  exact w_R_readDocument_4 (y0 := p0) (y1 := 1) (y2 := 0)  B hR hl I hz hc hs hm
def x_T_read (N b0 : Nat) (K : cS) (p0 : Nat) (sz : Nat) (S : cS) : Option (Int32 × cS × Nat × Nat) :=
  wr4 1 8 (b1 (nOo b0 S 4 sz) (fun S1 => b1 (gR b0 K S1 1 0 p0) (fun q3 => b1 (gI b0 K S1 1 2 p0) (fun x5 => b3 (x_R_init N b0 K sz q3 x5 (sz + 1) S1) (fun S8 c9 d10 => wr4 c9 d10 (b1 (pI b0 S8 1 2 p0 0) (fun S11 => ifk b0 K S11 4 sz (b4 (x_R_readDocument N b0 K sz ((sz + 1) + c9) S11) (fun q14 S15 c16 d17 => wr4 c16 d17 (om q14 (b1 (gI b0 K S15 4 7 sz) (fun x20 => some (x20, S15, 0, 0))) (fun a19 => b1 (pR b0 S15 1 3 p0 (some a19)) (fun S22 => b1 (pR b0 S22 1 4 p0 (some a19)) (fun S24 => some ((-1), S24, 0, 0))))))))))))))
set_option maxRecDepth 100000 in
set_option maxHeartbeats 4000000 in
theorem c_T_read {p0 : Nat} {S S' : cS} {r : Int32} {dc ds : Nat} (hR : CR b0 K Z) (hm : x_T_read N b0 K p0 sz S = some (r, S', dc, ds)) : Ct l D vwCl (tyL dA) b0 Z y_T_read (.code y_T_read cb_T_read 3 (some .int) :: wsA) 502 15048 [.ref p0] (cH dA b0 S hp0) sz (some (.int r)) (cH dA b0 S' hp0) dc ds := by
  refine ct_ofF (cc := cb_T_read) (maxL := 3) (ret := (some .int)) (lo0 := [some (.ref p0), none, none]) hR.1 (by decide +kernel) rfl (by simp [lg_sl, cat_i, cat_r, cat_l, va_rf_cat]) rfl (by simp [lx_all, lv_args, cat_i, cat_r, cat_l, va_rf_cat]) ?_
  intro p e s m args below meth c ls B hnm hl I
  obtain ⟨hx, hb, -⟩ := B.1
  have hz : sz = sz + 0 := rfl
  have hc : 0 + dc = dc := Nat.zero_add _
  have hs : 0 + ds = ds := Nat.zero_add _
  unfold x_T_read at hm
  refine owr4 hm hc hs (fun dc ds hm hc hs => ?_)
  refine ob1 hm (fun S1 e2 hm => ?_)
  refine k_new (pc := 0) (z := 4) (index := 50) (n := 8) B I (by decide) mC_T_50 mI_4 mN_4 nf_4 (hr_ hc) (hr_ hs) e2 d_T_read_0 (fun H I => ?_)
  have hz := hzn (n := 1) hz
  refine lv_dup (pc := 3) hx hb d_T_read_3 rfl ?_
  refine q_aload_n (pc := 4) (i := 0) (v := .ref p0) hx hb d_T_read_4 rfl rfl (lx_get hl rfl) ?_
  refine ob1 hm (fun q3 e4 hm => ?_)
  refine k_getR (pc := 5) (z := 1) (k := 0) (index := 9) B hR I (by decide) (by decide) mF_T_9 rfl (fun _ _ => rfl) e4 d_T_read_5 ?_
  refine q_aload_n (pc := 8) (i := 0) (v := .ref p0) hx hb d_T_read_8 rfl rfl (lx_get hl rfl) ?_
  refine ob1 hm (fun x5 e6 hm => ?_)
  refine k_getI (pc := 9) (z := 1) (k := 2) (index := 20) B hR I (by decide) (by decide) mF_T_20 rfl (fun _ _ => rfl) e6 d_T_read_9 ?_
  refine ob3 hm (fun S8 c9 d10 e7 hm => ?_)
  refine owr4 hm hc hs (fun dc ds hm hc hs => ?_)
  refine k_callIN (pc := 12) (As := [va_rf q3, .int x5]) (rest := [.ref sz]) (b := sz) B hR hl rfl I (c_R_init hR e7) kw_T_52 rfl (Nat.le_of_ble_eq_true rfl) (Nat.le_of_ble_eq_true rfl) rfl (by simp [cat_i, cat_r, cat_l, va_rf_cat]) d_T_read_12 (hr_ hc) (hr_ hs) (fun H locs I => ?_)
  have hz := hzn (n := c9) hz
  refine q_astore_n (pc := 15) (i := 1) (v := .ref sz) (lo' := [some (.ref p0), some (.ref sz), none]) hx hb d_T_read_15 rfl rfl hl (Nat.le_of_ble_eq_true rfl) (lx_cr rfl) rfl (fun ls hl => ?_)
  refine q_aload_n (pc := 16) (i := 0) (v := .ref p0) hx hb d_T_read_16 rfl rfl (lx_get hl rfl) ?_
  refine lv_iconst (pc := 17) (v := 0) hx hb d_T_read_17 (by decide) ?_
  refine ob1 hm (fun S11 e12 hm => ?_)
  refine k_putI (pc := 18) (z := 1) (k := 2) (index := 20) (v := 0) B I (by decide) (by decide) mF_T_20 rfl rfl rfl rfl cset_1_2 e12 d_T_read_18 (fun H locs I => ?_)
  refine q_aload_n (pc := 21) (i := 1) (v := .ref sz) hx hb d_T_read_21 rfl rfl (lx_get hl rfl) ?_
  refine oifk hm (fun hk hm => ?_)
  refine ob4 hm (fun q14 S15 c16 d17 e13 hm => ?_)
  refine owr4 hm hc hs (fun dc ds hm hc hs => ?_)
  refine k_callVN (pc := 22) (As := []) (rest := []) (b := sz) B hR hl rfl I (c_R_readDocument hR e13) kw_T_55 (by decide) hk rfl (Nat.le_of_ble_eq_true rfl) (Nat.le_of_ble_eq_true rfl) rfl (by simp [cat_i, cat_r, cat_l, va_rf_cat]) d_T_read_22 (hr_ hc) (hr_ hs) (fun H locs I => ?_)
  have hz := hzn (n := c16) hz
  refine q_astore_n (pc := 25) (i := 2) (v := va_rf q14) (lo' := [some (.ref p0), some (.ref sz), some (va_rf q14)]) hx hb d_T_read_25 rfl (va_rf_isRef _) hl (Nat.le_of_ble_eq_true rfl) (lx_cr rfl) rfl (fun ls hl => ?_)
  refine q_aload_n (pc := 26) (i := 2) (v := va_rf q14) hx hb d_T_read_26 rfl (va_rf_isRef _) (lx_get hl rfl) ?_
  refine oom hm (fun e18 hm => ?_) (fun a19 e18 hm => ?_)
  · have hm_26 := hm; have hl_26 := hl; have I_26 := I
    subst e18
    have hm := hm_26; have hl := hl_26; have I := I_26
    refine lv_ifnonnullN (pc := 27) hx hb d_T_read_27 ?_
    refine q_aload_n (pc := 30) (i := 1) (v := .ref sz) hx hb d_T_read_30 rfl rfl (lx_get hl rfl) ?_
    refine ob1 hm (fun x20 e21 hm => ?_)
    refine k_getIN (pc := 31) (z := 4) (k := 7) (index := 59) B hR I (by decide) (by decide) nF_T_59 rfl (fun _ _ => rfl) e21 d_T_read_31 ?_
    cases hm
    exact q_iretA (pc := 34) B I hz hc hs rfl d_T_read_34
  · have hm_26 := hm; have hl_26 := hl; have I_26 := I
    subst e18
    have hm := hm_26; have hl := hl_26; have I := I_26
    refine lv_ifnonnull (pc := 27) (tgt := 35) hx hb d_T_read_27 (by decide) ?_
    refine q_aload_n (pc := 35) (i := 0) (v := .ref p0) hx hb d_T_read_35 rfl rfl (lx_get hl rfl) ?_
    refine q_aload_n (pc := 36) (i := 2) (v := .ref a19) hx hb d_T_read_36 rfl rfl (lx_get hl rfl) ?_
    refine ob1 hm (fun S22 e23 hm => ?_)
    refine k_putR (pc := 37) (z := 1) (k := 3) (index := 29) (v := (some a19)) B I (by decide) (by decide) mF_T_29 rfl rfl (Or.inl ⟨_, rfl⟩) cset_1_3 e23 d_T_read_37 (fun H locs I => ?_)
    refine q_aload_n (pc := 40) (i := 0) (v := .ref p0) hx hb d_T_read_40 rfl rfl (lx_get hl rfl) ?_
    refine q_aload_n (pc := 41) (i := 2) (v := .ref a19) hx hb d_T_read_41 rfl rfl (lx_get hl rfl) ?_
    refine ob1 hm (fun S24 e25 hm => ?_)
    refine k_putR (pc := 42) (z := 1) (k := 4) (index := 33) (v := (some a19)) B I (by decide) (by decide) mF_T_33 rfl rfl (Or.inl ⟨_, rfl⟩) cset_1_4 e25 d_T_read_42 (fun H locs I => ?_)
    refine lv_iconst (pc := 45) (v := (-1)) hx hb d_T_read_45 (by decide) ?_
    cases hm
    exact q_iretA (pc := 46) B I hz hc hs rfl d_T_read_46
end CW
