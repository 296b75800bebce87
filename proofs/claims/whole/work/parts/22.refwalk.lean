section RW
variable {p : Program} {l : Launch} {e : Env} {s : State} {m : MethodId} {args : Array Value} {below : List Frame} {meth : Method} {c : Code} {H : Heap} {locs : List Loc}
variable {ls : Array Slot} {D : va_G} {dA : Nat → ClassId} {hp0 : aH} {sz b0 h N : Nat} {S' : rS} {r : Int32} {Z : State → Prop}
def m_digitOf (N : Nat) (p1 : Int32) (S : rS) : Option Int32 :=
  b1 (m_isDigit N p1 S) (fun x2 => if x2 = 0 then (if p1 < 97 then (some (-1)) else (if 102 < p1 then (some (-1)) else (some (p1 - 87)))) else (some (p1 - 48)))
set_option maxRecDepth 100000 in
set_option maxHeartbeats 4000000 in
theorem c_digitOf {p1 : Int32} {S : rS} {r : Int32} (hR : RR b0 h Z) (hm : m_digitOf N p1 S = some r) : Ct l D vwCl (tyL dA) b0 Z y_digitOf (.code y_digitOf cb_digitOf 2 (some .int) :: wsA) 1 21 [.ref h, .int p1] (rH dA h S hp0) sz (some (.int r)) (rH dA h S hp0) 0 0 := by
  refine ct_of (cc := cb_digitOf) (maxL := 2) (ret := (some .int)) (lo0 := [some (.ref h), some (.int p1)]) hR.2 (by decide) rfl (by simp [lg_sl, Value.category]) rfl (by simp [lx_all, lv_args, Value.category]) ?_
  intro p e s m args below meth c ls B hnm hl I
  obtain ⟨hx, hb, -⟩ := B.1
  unfold m_digitOf at hm
  refine lv_aload_n (pc := 0) (i := 0) hx hb d_digitOf_0 rfl (lx_get hl rfl) ?_
  refine lv_iload_n (pc := 1) (i := 1) hx hb d_digitOf_1 rfl (lx_get hl rfl) ?_
  refine ob1 hm (fun x2 e1 hm => ?_)
  refine r_call (pc := 2) (As := [.int p1]) (rest := []) B hl rfl I (c_isDigit hR e1) kw_isDigit rfl (by decide) (by decide) rfl (by simp [Value.category]) d_digitOf_2 (fun H locs I => ?_)
  refine lv_if_eq (pc := 5) (tgt := 15) hx hb d_digitOf_5 (by decide) (fun hc => ?_) (fun hc => ?_)
  · have hm := ift hc hm
    refine lv_iload_n (pc := 15) (i := 1) hx hb d_digitOf_15 rfl (lx_get hl rfl) ?_
    refine lv_bipush (pc := 16) (v := 97) hx hb d_digitOf_16 (by decide) ?_
    refine lv_icmp_lt (pc := 18) (tgt := 34) hx hb d_digitOf_18 (by decide) (fun hc => ?_) (fun hc => ?_)
    · have hm := ift hc hm
      refine lv_iconst (pc := 34) (v := (-1)) hx hb d_digitOf_34 (by decide) ?_
      cases hm
      exact q_iret (pc := 35) B I rfl d_digitOf_35
    · have hm := iff' hc hm
      refine lv_iload_n (pc := 21) (i := 1) hx hb d_digitOf_21 rfl (lx_get hl rfl) ?_
      refine lv_bipush (pc := 22) (v := 102) hx hb d_digitOf_22 (by decide) ?_
      refine lv_icmp_gt (pc := 24) (tgt := 34) hx hb d_digitOf_24 (by decide) (fun hc => ?_) (fun hc => ?_)
      · have hm := ift hc hm
        refine lv_iconst (pc := 34) (v := (-1)) hx hb d_digitOf_34 (by decide) ?_
        cases hm
        exact q_iret (pc := 35) B I rfl d_digitOf_35
      · have hm := iff' hc hm
        refine lv_iload_n (pc := 27) (i := 1) hx hb d_digitOf_27 rfl (lx_get hl rfl) ?_
        refine lv_bipush (pc := 28) (v := 87) hx hb d_digitOf_28 (by decide) ?_
        refine lv_isub (pc := 30) hx hb d_digitOf_30 ?_
        refine lv_goto (pc := 31) (tgt := 35) hx hb d_digitOf_31 (by decide) ?_
        cases hm
        exact q_iret (pc := 35) B I rfl d_digitOf_35
  · have hm := iff' hc hm
    refine lv_iload_n (pc := 8) (i := 1) hx hb d_digitOf_8 rfl (lx_get hl rfl) ?_
    refine lv_bipush (pc := 9) (v := 48) hx hb d_digitOf_9 (by decide) ?_
    refine lv_isub (pc := 11) hx hb d_digitOf_11 ?_
    refine lv_goto (pc := 12) (tgt := 35) hx hb d_digitOf_12 (by decide) ?_
    cases hm
    exact q_iret (pc := 35) B I rfl d_digitOf_35
def m_digits_40 (N : Nat) (S : rS) : Option (Int32 × rS) :=
  b1 (rP S 4 (S.1 3)) (fun S1 => some ((-1), S1))
set_option maxRecDepth 100000 in
set_option maxHeartbeats 4000000 in
theorem w_digits_40 {S : rS} (B : BX p m c cb_digits 9 s args (.code y_digits cb_digits 9 (some .int) :: wsA) RREF meth (some .int) D vwCl (tyL dA) b0 Z) (hR : RR b0 h Z) (hl : lx ls [some (.ref h), none, none, none, none, none, none, none, none]) (I : AI D vwCl b0 (rH dA h S hp0) sz s.heap H locs)  (hm : m_digits_40 N   S = some (r, S')) : W p l e { frames := 2, cells := 0, slots := 0, locals := 42 } s m args below meth c H locs 0 0 (MQ below (CQ D vwCl b0 (some (.int r)) (rH dA h S' hp0) sz) args s 0 0 (fun q => b0 ≤ q)) (F0 m 40 ls []) := by
  obtain ⟨hx, hb, -⟩ := B.1
  unfold m_digits_40 at hm
  refine lv_aload_n (pc := 40) (i := 0) hx hb d_digits_40 rfl (lx_get hl rfl) ?_
  refine lv_aload_n (pc := 41) (i := 0) hx hb d_digits_41 rfl (lx_get hl rfl) ?_
  refine r_get (pc := 42) (k := 3) (index := 76) B I (by decide) mF_76 rfl rfl d_digits_42 ?_
  refine ob1 hm (fun S1 e2 hm => ?_)
  refine r_put (pc := 45) (k := 4) (index := 79) B hR I (by decide) mF_79 rfl rfl rfl (fun _ _ => rfl) e2 d_digits_45 (fun H locs I => ?_)
  refine lv_iconst (pc := 48) (v := (-1)) hx hb d_digits_48 (by decide) ?_
  cases hm
  exact q_iret (pc := 49) B I rfl d_digits_49
def m_digits_135 (N : Nat) (K8 : Int32 → Int32 → Int32 → Int32 → Int32 → rS → Option (Int32 × rS)) (y1 : Int32) (y2 : Int32) (y3 : Int32) (y4 : Int32) (z0 : Int32) (S : rS) : Option (Int32 × rS) :=
  K8 y1 y2 y3 y4 z0 S
set_option maxRecDepth 100000 in
set_option maxHeartbeats 4000000 in
theorem w_digits_135 {K8 : Int32 → Int32 → Int32 → Int32 → Int32 → rS → Option (Int32 × rS)} {y1 : Int32} {y2 : Int32} {y3 : Int32} {y4 : Int32} {z0 : Int32} {S : rS} (hK8 : ∀ (y1 : Int32) (y2 : Int32) (y3 : Int32) (y4 : Int32) (y5 : Int32) (S : rS) (ls : Array Slot) (H : Heap) (locs : List Loc), lx ls [some (.ref h), some (.int y1), some (.int y2), some (.int y3), some (.int y4), some (.int y5), none, none, none] → AI D vwCl b0 (rH dA h S hp0) sz s.heap H locs → K8 y1 y2 y3 y4 y5 S = some (r, S') → W p l e { frames := 2, cells := 0, slots := 0, locals := 42 } s m args below meth c H locs 0 0 (MQ below (CQ D vwCl b0 (some (.int r)) (rH dA h S' hp0) sz) args s 0 0 (fun q => b0 ≤ q)) (F0 m 8 ls [])) (B : BX p m c cb_digits 9 s args (.code y_digits cb_digits 9 (some .int) :: wsA) RREF meth (some .int) D vwCl (tyL dA) b0 Z) (hR : RR b0 h Z) (hl : lx ls [some (.ref h), some (.int y1), some (.int y2), some (.int y3), some (.int y4), none, none, none, none]) (I : AI D vwCl b0 (rH dA h S hp0) sz s.heap H locs)  (hm : m_digits_135 N K8 y1 y2 y3 y4 z0 S = some (r, S')) : W p l e { frames := 2, cells := 0, slots := 0, locals := 42 } s m args below meth c H locs 0 0 (MQ below (CQ D vwCl b0 (some (.int r)) (rH dA h S' hp0) sz) args s 0 0 (fun q => b0 ≤ q)) (F0 m 135 ls [.int z0]) := by
  obtain ⟨hx, hb, -⟩ := B.1
  unfold m_digits_135 at hm
  refine q_istore (pc := 135) (i := 5) (lo' := [some (.ref h), some (.int y1), some (.int y2), some (.int y3), some (.int y4), some (.int z0), none, none, none]) hx hb d_digits_135 hl (Nat.le_of_ble_eq_true rfl) (lx_ci rfl) rfl (fun ls hl => ?_)
  refine lv_goto (pc := 137) (tgt := 8) hx hb d_digits_137 (by decide) ?_
  exact hK8 _ _ _ _ _ _ _ _ _ hl I hm
def m_digits_130 (N : Nat) (K8 : Int32 → Int32 → Int32 → Int32 → Int32 → rS → Option (Int32 × rS)) (y1 : Int32) (y2 : Int32) (y3 : Int32) (y4 : Int32) (S : rS) : Option (Int32 × rS) :=
  m_digits_135 N K8 y1 y2 y3 y4 1 S
set_option maxRecDepth 100000 in
set_option maxHeartbeats 4000000 in
theorem w_digits_130 {K8 : Int32 → Int32 → Int32 → Int32 → Int32 → rS → Option (Int32 × rS)} {y1 : Int32} {y2 : Int32} {y3 : Int32} {y4 : Int32} {S : rS} (hK8 : ∀ (y1 : Int32) (y2 : Int32) (y3 : Int32) (y4 : Int32) (y5 : Int32) (S : rS) (ls : Array Slot) (H : Heap) (locs : List Loc), lx ls [some (.ref h), some (.int y1), some (.int y2), some (.int y3), some (.int y4), some (.int y5), none, none, none] → AI D vwCl b0 (rH dA h S hp0) sz s.heap H locs → K8 y1 y2 y3 y4 y5 S = some (r, S') → W p l e { frames := 2, cells := 0, slots := 0, locals := 42 } s m args below meth c H locs 0 0 (MQ below (CQ D vwCl b0 (some (.int r)) (rH dA h S' hp0) sz) args s 0 0 (fun q => b0 ≤ q)) (F0 m 8 ls [])) (B : BX p m c cb_digits 9 s args (.code y_digits cb_digits 9 (some .int) :: wsA) RREF meth (some .int) D vwCl (tyL dA) b0 Z) (hR : RR b0 h Z) (hl : lx ls [some (.ref h), some (.int y1), some (.int y2), some (.int y3), some (.int y4), none, none, none, none]) (I : AI D vwCl b0 (rH dA h S hp0) sz s.heap H locs)  (hm : m_digits_130 N K8 y1 y2 y3 y4 S = some (r, S')) : W p l e { frames := 2, cells := 0, slots := 0, locals := 42 } s m args below meth c H locs 0 0 (MQ below (CQ D vwCl b0 (some (.int r)) (rH dA h S' hp0) sz) args s 0 0 (fun q => b0 ≤ q)) (F0 m 130 ls []) := by
  obtain ⟨hx, hb, -⟩ := B.1
  unfold m_digits_130 at hm
  refine lv_iconst (pc := 130) (v := 1) hx hb d_digits_130 (by decide) ?_
  refine lv_goto (pc := 131) (tgt := 135) hx hb d_digits_131 (by decide) ?_
  exact w_digits_135 hK8 B hR hl I hm
def m_digits_134 (N : Nat) (K8 : Int32 → Int32 → Int32 → Int32 → Int32 → rS → Option (Int32 × rS)) (y1 : Int32) (y2 : Int32) (y3 : Int32) (y4 : Int32) (S : rS) : Option (Int32 × rS) :=
  m_digits_135 N K8 y1 y2 y3 y4 0 S
set_option maxRecDepth 100000 in
set_option maxHeartbeats 4000000 in
theorem w_digits_134 {K8 : Int32 → Int32 → Int32 → Int32 → Int32 → rS → Option (Int32 × rS)} {y1 : Int32} {y2 : Int32} {y3 : Int32} {y4 : Int32} {S : rS} (hK8 : ∀ (y1 : Int32) (y2 : Int32) (y3 : Int32) (y4 : Int32) (y5 : Int32) (S : rS) (ls : Array Slot) (H : Heap) (locs : List Loc), lx ls [some (.ref h), some (.int y1), some (.int y2), some (.int y3), some (.int y4), some (.int y5), none, none, none] → AI D vwCl b0 (rH dA h S hp0) sz s.heap H locs → K8 y1 y2 y3 y4 y5 S = some (r, S') → W p l e { frames := 2, cells := 0, slots := 0, locals := 42 } s m args below meth c H locs 0 0 (MQ below (CQ D vwCl b0 (some (.int r)) (rH dA h S' hp0) sz) args s 0 0 (fun q => b0 ≤ q)) (F0 m 8 ls [])) (B : BX p m c cb_digits 9 s args (.code y_digits cb_digits 9 (some .int) :: wsA) RREF meth (some .int) D vwCl (tyL dA) b0 Z) (hR : RR b0 h Z) (hl : lx ls [some (.ref h), some (.int y1), some (.int y2), some (.int y3), some (.int y4), none, none, none, none]) (I : AI D vwCl b0 (rH dA h S hp0) sz s.heap H locs)  (hm : m_digits_134 N K8 y1 y2 y3 y4 S = some (r, S')) : W p l e { frames := 2, cells := 0, slots := 0, locals := 42 } s m args below meth c H locs 0 0 (MQ below (CQ D vwCl b0 (some (.int r)) (rH dA h S' hp0) sz) args s 0 0 (fun q => b0 ≤ q)) (F0 m 134 ls []) := by
  obtain ⟨hx, hb, -⟩ := B.1
  unfold m_digits_134 at hm
  refine lv_iconst (pc := 134) (v := 0) hx hb d_digits_134 (by decide) ?_
  exact w_digits_135 hK8 B hR hl I hm
def m_digits_103 (N : Nat) (K8 : Int32 → Int32 → Int32 → Int32 → Int32 → rS → Option (Int32 × rS)) (y1 : Int32) (y2 : Int32) (y3 : Int32) (y4 : Int32) (y7 : Int32) (S : rS) : Option (Int32 × rS) :=
  b1 (m_here N S) (fun x2 => b1 (m_digitOf N x2 S) (fun x4 => if y7 = 0 then (if x4 = (-1) then (m_digits_134 N K8 y1 y2 y3 y4 S) else (if y1 ≤ x4 then (m_digits_134 N K8 y1 y2 y3 y4 S) else (m_digits_130 N K8 y1 y2 y3 y4 S))) else (m_digits_130 N K8 y1 y2 y3 y4 S)))
set_option maxRecDepth 100000 in
set_option maxHeartbeats 4000000 in
theorem w_digits_103 {K8 : Int32 → Int32 → Int32 → Int32 → Int32 → rS → Option (Int32 × rS)} {y1 : Int32} {y2 : Int32} {y3 : Int32} {y4 : Int32} {y7 : Int32} {S : rS} (hK8 : ∀ (y1 : Int32) (y2 : Int32) (y3 : Int32) (y4 : Int32) (y5 : Int32) (S : rS) (ls : Array Slot) (H : Heap) (locs : List Loc), lx ls [some (.ref h), some (.int y1), some (.int y2), some (.int y3), some (.int y4), some (.int y5), none, none, none] → AI D vwCl b0 (rH dA h S hp0) sz s.heap H locs → K8 y1 y2 y3 y4 y5 S = some (r, S') → W p l e { frames := 2, cells := 0, slots := 0, locals := 42 } s m args below meth c H locs 0 0 (MQ below (CQ D vwCl b0 (some (.int r)) (rH dA h S' hp0) sz) args s 0 0 (fun q => b0 ≤ q)) (F0 m 8 ls [])) (B : BX p m c cb_digits 9 s args (.code y_digits cb_digits 9 (some .int) :: wsA) RREF meth (some .int) D vwCl (tyL dA) b0 Z) (hR : RR b0 h Z) (hl : lx ls [some (.ref h), some (.int y1), some (.int y2), some (.int y3), some (.int y4), none, none, some (.int y7), none]) (I : AI D vwCl b0 (rH dA h S hp0) sz s.heap H locs)  (hm : m_digits_103 N K8 y1 y2 y3 y4 y7 S = some (r, S')) : W p l e { frames := 2, cells := 0, slots := 0, locals := 42 } s m args below meth c H locs 0 0 (MQ below (CQ D vwCl b0 (some (.int r)) (rH dA h S' hp0) sz) args s 0 0 (fun q => b0 ≤ q)) (F0 m 103 ls []) := by
  obtain ⟨hx, hb, -⟩ := B.1
  unfold m_digits_103 at hm
  refine lv_aload_n (pc := 103) (i := 0) hx hb d_digits_103 rfl (lx_get hl rfl) ?_
  refine lv_aload_n (pc := 104) (i := 0) hx hb d_digits_104 rfl (lx_get hl rfl) ?_
  refine ob1 hm (fun x2 e1 hm => ?_)
  refine r_call (pc := 105) (As := []) (rest := [.ref h]) B hl rfl I (c_here hR e1) kw_here rfl (by decide) (by decide) rfl (by simp [Value.category]) d_digits_105 (fun H locs I => ?_)
  refine ob1 hm (fun x4 e3 hm => ?_)
  refine r_call (pc := 108) (As := [.int x2]) (rest := []) B hl rfl I (c_digitOf hR e3) kw_digitOf rfl (by decide) (by decide) rfl (by simp [Value.category]) d_digits_108 (fun H locs I => ?_)
  refine q_istore (pc := 111) (i := 8) (lo' := [some (.ref h), some (.int y1), some (.int y2), some (.int y3), some (.int y4), none, none, some (.int y7), some (.int x4)]) hx hb d_digits_111 hl (Nat.le_of_ble_eq_true rfl) (lx_ci rfl) rfl (fun ls hl => ?_)
  refine lv_iload (pc := 113) (i := 7) hx hb d_digits_113 (lx_get hl rfl) ?_
  refine lv_if_ne (pc := 115) (tgt := 130) hx hb d_digits_115 (by decide) (fun hc => ?_) (fun hc => ?_)
  · have hm := iff' hc hm
    exact w_digits_130 hK8 B hR (lx_sub (lo' := [some (.ref h), some (.int y1), some (.int y2), some (.int y3), some (.int y4), none, none, none, none]) hl (by simp [lx_le])) I hm
  · have hm := ift hc hm
    refine lv_iload (pc := 118) (i := 8) hx hb d_digits_118 (lx_get hl rfl) ?_
    refine lv_iconst (pc := 120) (v := (-1)) hx hb d_digits_120 (by decide) ?_
    refine lv_icmp_eq (pc := 121) (tgt := 134) hx hb d_digits_121 (by decide) (fun hc => ?_) (fun hc => ?_)
    · have hm := ift hc hm
      exact w_digits_134 hK8 B hR (lx_sub (lo' := [some (.ref h), some (.int y1), some (.int y2), some (.int y3), some (.int y4), none, none, none, none]) hl (by simp [lx_le])) I hm
    · have hm := iff' hc hm
      refine lv_iload (pc := 124) (i := 8) hx hb d_digits_124 (lx_get hl rfl) ?_
      refine lv_iload_n (pc := 126) (i := 1) hx hb d_digits_126 rfl (lx_get hl rfl) ?_
      refine lv_icmp_ge (pc := 127) (tgt := 134) hx hb d_digits_127 (by decide) (fun hc => ?_) (fun hc => ?_)
      · have hm := ift hc hm
        exact w_digits_134 hK8 B hR (lx_sub (lo' := [some (.ref h), some (.int y1), some (.int y2), some (.int y3), some (.int y4), none, none, none, none]) hl (by simp [lx_le])) I hm
      · have hm := iff' hc hm
        exact w_digits_130 hK8 B hR (lx_sub (lo' := [some (.ref h), some (.int y1), some (.int y2), some (.int y3), some (.int y4), none, none, none, none]) hl (by simp [lx_le])) I hm
def m_digits_86 (N : Nat) (K8 : Int32 → Int32 → Int32 → Int32 → Int32 → rS → Option (Int32 × rS)) (y1 : Int32) (y2 : Int32) (y3 : Int32) (y4 : Int32) (z0 : Int32) (S : rS) : Option (Int32 × rS) :=
  if z0 = 0 then (m_digits_103 N K8 y1 y2 y3 y4 z0 S) else (b1 (rP S 3 ((S.1 3) + 1)) (fun S1 => m_digits_103 N K8 y1 y2 y3 y4 z0 S1))
set_option maxRecDepth 100000 in
set_option maxHeartbeats 4000000 in
theorem w_digits_86 {K8 : Int32 → Int32 → Int32 → Int32 → Int32 → rS → Option (Int32 × rS)} {y1 : Int32} {y2 : Int32} {y3 : Int32} {y4 : Int32} {z0 : Int32} {S : rS} (hK8 : ∀ (y1 : Int32) (y2 : Int32) (y3 : Int32) (y4 : Int32) (y5 : Int32) (S : rS) (ls : Array Slot) (H : Heap) (locs : List Loc), lx ls [some (.ref h), some (.int y1), some (.int y2), some (.int y3), some (.int y4), some (.int y5), none, none, none] → AI D vwCl b0 (rH dA h S hp0) sz s.heap H locs → K8 y1 y2 y3 y4 y5 S = some (r, S') → W p l e { frames := 2, cells := 0, slots := 0, locals := 42 } s m args below meth c H locs 0 0 (MQ below (CQ D vwCl b0 (some (.int r)) (rH dA h S' hp0) sz) args s 0 0 (fun q => b0 ≤ q)) (F0 m 8 ls [])) (B : BX p m c cb_digits 9 s args (.code y_digits cb_digits 9 (some .int) :: wsA) RREF meth (some .int) D vwCl (tyL dA) b0 Z) (hR : RR b0 h Z) (hl : lx ls [some (.ref h), some (.int y1), some (.int y2), some (.int y3), some (.int y4), none, none, none, none]) (I : AI D vwCl b0 (rH dA h S hp0) sz s.heap H locs)  (hm : m_digits_86 N K8 y1 y2 y3 y4 z0 S = some (r, S')) : W p l e { frames := 2, cells := 0, slots := 0, locals := 42 } s m args below meth c H locs 0 0 (MQ below (CQ D vwCl b0 (some (.int r)) (rH dA h S' hp0) sz) args s 0 0 (fun q => b0 ≤ q)) (F0 m 86 ls [.int z0]) := by
  obtain ⟨hx, hb, -⟩ := B.1
  unfold m_digits_86 at hm
  refine q_istore (pc := 86) (i := 7) (lo' := [some (.ref h), some (.int y1), some (.int y2), some (.int y3), some (.int y4), none, none, some (.int z0), none]) hx hb d_digits_86 hl (Nat.le_of_ble_eq_true rfl) (lx_cn rfl) rfl (fun ls hl => ?_)
  refine lv_iload (pc := 88) (i := 7) hx hb d_digits_88 (lx_get hl rfl) ?_
  refine lv_if_eq (pc := 90) (tgt := 103) hx hb d_digits_90 (by decide) (fun hc => ?_) (fun hc => ?_)
  · have hm := ift hc hm
    exact w_digits_103 hK8 B hR hl I hm
  · have hm := iff' hc hm
    refine lv_aload_n (pc := 93) (i := 0) hx hb d_digits_93 rfl (lx_get hl rfl) ?_
    refine lv_dup (pc := 94) hx hb d_digits_94 rfl ?_
    refine r_get (pc := 95) (k := 3) (index := 76) B I (by decide) mF_76 rfl rfl d_digits_95 ?_
    refine lv_iconst (pc := 98) (v := 1) hx hb d_digits_98 (by decide) ?_
    refine lv_iadd (pc := 99) hx hb d_digits_99 ?_
    refine ob1 hm (fun S1 e2 hm => ?_)
    refine r_put (pc := 100) (k := 3) (index := 76) B hR I (by decide) mF_76 rfl rfl rfl (fun _ _ => rfl) e2 d_digits_100 (fun H locs I => ?_)
    exact w_digits_103 hK8 B hR hl I hm
def m_digits_8F (N : Nat) (K8 : Int32 → Int32 → Int32 → Int32 → Int32 → rS → Option (Int32 × rS)) (y1 : Int32) (y2 : Int32) (y3 : Int32) (y4 : Int32) (y5 : Int32) (S : rS) : Option (Int32 × rS) :=
  if y5 = 0 then (some (y4, S)) else (b1 (m_here N S) (fun x2 => b1 (m_digitOf N x2 S) (fun x4 => if x4 = (-1) then (m_digits_40 N  S) else (if y1 ≤ x4 then (m_digits_40 N  S) else (if y3 = y2 then (m_digits_40 N  S) else (b1 (rP S 3 ((S.1 3) + 1)) (fun S5 => b1 (m_here N S5) (fun x8 => if x8 = 95 then (m_digits_86 N K8 y1 y2 (y3 + 1) ((y1 * y4) + x4) 1 S5) else (m_digits_86 N K8 y1 y2 (y3 + 1) ((y1 * y4) + x4) 0 S5)))))))))
def m_digits_8 (N : Nat) : Nat → Int32 → Int32 → Int32 → Int32 → Int32 → rS → Option (Int32 × rS)
  | 0, _, _, _, _, _, _ => none
  | k + 1, y1, y2, y3, y4, y5, S => m_digits_8F N  (m_digits_8 N  k) y1 y2 y3 y4 y5 S
set_option maxRecDepth 100000 in
set_option maxHeartbeats 4000000 in
theorem w_digits_8F {K8 : Int32 → Int32 → Int32 → Int32 → Int32 → rS → Option (Int32 × rS)} {y1 : Int32} {y2 : Int32} {y3 : Int32} {y4 : Int32} {y5 : Int32} {S : rS} (hK8 : ∀ (y1 : Int32) (y2 : Int32) (y3 : Int32) (y4 : Int32) (y5 : Int32) (S : rS) (ls : Array Slot) (H : Heap) (locs : List Loc), lx ls [some (.ref h), some (.int y1), some (.int y2), some (.int y3), some (.int y4), some (.int y5), none, none, none] → AI D vwCl b0 (rH dA h S hp0) sz s.heap H locs → K8 y1 y2 y3 y4 y5 S = some (r, S') → W p l e { frames := 2, cells := 0, slots := 0, locals := 42 } s m args below meth c H locs 0 0 (MQ below (CQ D vwCl b0 (some (.int r)) (rH dA h S' hp0) sz) args s 0 0 (fun q => b0 ≤ q)) (F0 m 8 ls [])) (B : BX p m c cb_digits 9 s args (.code y_digits cb_digits 9 (some .int) :: wsA) RREF meth (some .int) D vwCl (tyL dA) b0 Z) (hR : RR b0 h Z) (hl : lx ls [some (.ref h), some (.int y1), some (.int y2), some (.int y3), some (.int y4), some (.int y5), none, none, none]) (I : AI D vwCl b0 (rH dA h S hp0) sz s.heap H locs)  (hm : m_digits_8F N  K8 y1 y2 y3 y4 y5 S = some (r, S')) : W p l e { frames := 2, cells := 0, slots := 0, locals := 42 } s m args below meth c H locs 0 0 (MQ below (CQ D vwCl b0 (some (.int r)) (rH dA h S' hp0) sz) args s 0 0 (fun q => b0 ≤ q)) (F0 m 8 ls []) := by
  obtain ⟨hx, hb, -⟩ := B.1
  unfold m_digits_8F at hm
  refine lv_iload (pc := 8) (i := 5) hx hb d_digits_8 (lx_get hl rfl) ?_
  refine lv_if_eq (pc := 10) (tgt := 140) hx hb d_digits_10 (by decide) (fun hc => ?_) (fun hc => ?_)
  · have hm := ift hc hm
    refine lv_iload (pc := 140) (i := 4) hx hb d_digits_140 (lx_get hl rfl) ?_
    cases hm
    exact q_iret (pc := 142) B I rfl d_digits_142
  · have hm := iff' hc hm
    refine lv_aload_n (pc := 13) (i := 0) hx hb d_digits_13 rfl (lx_get hl rfl) ?_
    refine lv_aload_n (pc := 14) (i := 0) hx hb d_digits_14 rfl (lx_get hl rfl) ?_
    refine ob1 hm (fun x2 e1 hm => ?_)
    refine r_call (pc := 15) (As := []) (rest := [.ref h]) B hl rfl I (c_here hR e1) kw_here rfl (by decide) (by decide) rfl (by simp [Value.category]) d_digits_15 (fun H locs I => ?_)
    refine ob1 hm (fun x4 e3 hm => ?_)
    refine r_call (pc := 18) (As := [.int x2]) (rest := []) B hl rfl I (c_digitOf hR e3) kw_digitOf rfl (by decide) (by decide) rfl (by simp [Value.category]) d_digits_18 (fun H locs I => ?_)
    refine q_istore (pc := 21) (i := 6) (lo' := [some (.ref h), some (.int y1), some (.int y2), some (.int y3), some (.int y4), some (.int y5), some (.int x4), none, none]) hx hb d_digits_21 hl (Nat.le_of_ble_eq_true rfl) (lx_ci rfl) rfl (fun ls hl => ?_)
    refine lv_iload (pc := 23) (i := 6) hx hb d_digits_23 (lx_get hl rfl) ?_
    refine lv_iconst (pc := 25) (v := (-1)) hx hb d_digits_25 (by decide) ?_
    refine lv_icmp_eq (pc := 26) (tgt := 40) hx hb d_digits_26 (by decide) (fun hc => ?_) (fun hc => ?_)
    · have hm := ift hc hm
      exact w_digits_40  B hR (lx_sub (lo' := [some (.ref h), none, none, none, none, none, none, none, none]) hl (by simp [lx_le])) I hm
    · have hm := iff' hc hm
      refine lv_iload (pc := 29) (i := 6) hx hb d_digits_29 (lx_get hl rfl) ?_
      refine lv_iload_n (pc := 31) (i := 1) hx hb d_digits_31 rfl (lx_get hl rfl) ?_
      refine lv_icmp_ge (pc := 32) (tgt := 40) hx hb d_digits_32 (by decide) (fun hc => ?_) (fun hc => ?_)
      · have hm := ift hc hm
        exact w_digits_40  B hR (lx_sub (lo' := [some (.ref h), none, none, none, none, none, none, none, none]) hl (by simp [lx_le])) I hm
      · have hm := iff' hc hm
        refine lv_iload_n (pc := 35) (i := 3) hx hb d_digits_35 rfl (lx_get hl rfl) ?_
        refine lv_iload_n (pc := 36) (i := 2) hx hb d_digits_36 rfl (lx_get hl rfl) ?_
        refine lv_icmp_ne (pc := 37) (tgt := 50) hx hb d_digits_37 (by decide) (fun hc => ?_) (fun hc => ?_)
        · have hm := iff' hc hm
          refine lv_iload_n (pc := 50) (i := 1) hx hb d_digits_50 rfl (lx_get hl rfl) ?_
          refine lv_iload (pc := 51) (i := 4) hx hb d_digits_51 (lx_get hl rfl) ?_
          refine lv_imul (pc := 53) hx hb d_digits_53 ?_
          refine lv_iload (pc := 54) (i := 6) hx hb d_digits_54 (lx_get hl rfl) ?_
          refine lv_iadd (pc := 56) hx hb d_digits_56 ?_
          refine q_istore (pc := 57) (i := 4) (lo' := [some (.ref h), some (.int y1), some (.int y2), some (.int y3), some (.int ((y1 * y4) + x4)), some (.int y5), some (.int x4), none, none]) hx hb d_digits_57 hl (Nat.le_of_ble_eq_true rfl) (lx_ci rfl) rfl (fun ls hl => ?_)
          refine q_iinc (pc := 59) (i := 3) (v := y3 + 1) (lo' := [some (.ref h), some (.int y1), some (.int y2), some (.int (y3 + 1)), some (.int ((y1 * y4) + x4)), some (.int y5), some (.int x4), none, none]) hx hb d_digits_59 hl rfl rfl (Nat.le_of_ble_eq_true rfl) (lx_ci rfl) rfl (fun ls hl => ?_)
          refine lv_aload_n (pc := 62) (i := 0) hx hb d_digits_62 rfl (lx_get hl rfl) ?_
          refine lv_dup (pc := 63) hx hb d_digits_63 rfl ?_
          refine r_get (pc := 64) (k := 3) (index := 76) B I (by decide) mF_76 rfl rfl d_digits_64 ?_
          refine lv_iconst (pc := 67) (v := 1) hx hb d_digits_67 (by decide) ?_
          refine lv_iadd (pc := 68) hx hb d_digits_68 ?_
          refine ob1 hm (fun S5 e6 hm => ?_)
          refine r_put (pc := 69) (k := 3) (index := 76) B hR I (by decide) mF_76 rfl rfl rfl (fun _ _ => rfl) e6 d_digits_69 (fun H locs I => ?_)
          refine lv_aload_n (pc := 72) (i := 0) hx hb d_digits_72 rfl (lx_get hl rfl) ?_
          refine ob1 hm (fun x8 e7 hm => ?_)
          refine r_call (pc := 73) (As := []) (rest := []) B hl rfl I (c_here hR e7) kw_here rfl (by decide) (by decide) rfl (by simp [Value.category]) d_digits_73 (fun H locs I => ?_)
          refine lv_bipush (pc := 76) (v := 95) hx hb d_digits_76 (by decide) ?_
          refine lv_icmp_ne (pc := 78) (tgt := 85) hx hb d_digits_78 (by decide) (fun hc => ?_) (fun hc => ?_)
          · have hm := iff' hc hm
            refine lv_iconst (pc := 85) (v := 0) hx hb d_digits_85 (by decide) ?_
            exact w_digits_86 hK8 B hR (lx_sub (lo' := [some (.ref h), some (.int y1), some (.int y2), some (.int (y3 + 1)), some (.int ((y1 * y4) + x4)), none, none, none, none]) hl (by simp [lx_le])) I hm
          · have hm := ift hc hm
            refine lv_iconst (pc := 81) (v := 1) hx hb d_digits_81 (by decide) ?_
            refine lv_goto (pc := 82) (tgt := 86) hx hb d_digits_82 (by decide) ?_
            exact w_digits_86 hK8 B hR (lx_sub (lo' := [some (.ref h), some (.int y1), some (.int y2), some (.int (y3 + 1)), some (.int ((y1 * y4) + x4)), none, none, none, none]) hl (by simp [lx_le])) I hm
        · have hm := ift hc hm
          exact w_digits_40  B hR (lx_sub (lo' := [some (.ref h), none, none, none, none, none, none, none, none]) hl (by simp [lx_le])) I hm
set_option maxRecDepth 100000 in
set_option maxHeartbeats 4000000 in
theorem w_digits_8i (B : BX p m c cb_digits 9 s args (.code y_digits cb_digits 9 (some .int) :: wsA) RREF meth (some .int) D vwCl (tyL dA) b0 Z) (hR : RR b0 h Z) (k : Nat) (y1 : Int32) (y2 : Int32) (y3 : Int32) (y4 : Int32) (y5 : Int32) (S : rS) (ls : Array Slot) (H : Heap) (locs : List Loc) (hl : lx ls [some (.ref h), some (.int y1), some (.int y2), some (.int y3), some (.int y4), some (.int y5), none, none, none]) (I : AI D vwCl b0 (rH dA h S hp0) sz s.heap H locs)  (hm : m_digits_8 N  k y1 y2 y3 y4 y5 S = some (r, S')) : W p l e { frames := 2, cells := 0, slots := 0, locals := 42 } s m args below meth c H locs 0 0 (MQ below (CQ D vwCl b0 (some (.int r)) (rH dA h S' hp0) sz) args s 0 0 (fun q => b0 ≤ q)) (F0 m 8 ls []) := by
  induction k generalizing y1 y2 y3 y4 y5 S ls H locs with
  | zero => cases hm
  | succ k ih => exact w_digits_8F  (fun y1 y2 y3 y4 y5 S ls H locs hl I hm => ih y1 y2 y3 y4 y5 S ls H locs hl I hm) B hR hl I hm
theorem w_digits_8 {y1 : Int32} {y2 : Int32} {y3 : Int32} {y4 : Int32} {y5 : Int32} {S : rS} (B : BX p m c cb_digits 9 s args (.code y_digits cb_digits 9 (some .int) :: wsA) RREF meth (some .int) D vwCl (tyL dA) b0 Z) (hR : RR b0 h Z) (hl : lx ls [some (.ref h), some (.int y1), some (.int y2), some (.int y3), some (.int y4), some (.int y5), none, none, none]) (I : AI D vwCl b0 (rH dA h S hp0) sz s.heap H locs)  {k : Nat} (hm : m_digits_8 N  k y1 y2 y3 y4 y5 S = some (r, S')) : W p l e { frames := 2, cells := 0, slots := 0, locals := 42 } s m args below meth c H locs 0 0 (MQ below (CQ D vwCl b0 (some (.int r)) (rH dA h S' hp0) sz) args s 0 0 (fun q => b0 ≤ q)) (F0 m 8 ls []) := w_digits_8i  B hR k _ _ _ _ _ S ls H locs hl I hm
def m_digits (N : Nat) (p1 : Int32) (p2 : Int32) (S : rS) : Option (Int32 × rS) :=
  m_digits_8 N  N p1 p2 0 0 1 S
set_option maxRecDepth 100000 in
set_option maxHeartbeats 4000000 in
theorem c_digits {p1 : Int32} {p2 : Int32} {S S' : rS} {r : Int32} (hR : RR b0 h Z) (hm : m_digits N p1 p2 S = some (r, S')) : Ct l D vwCl (tyL dA) b0 Z y_digits (.code y_digits cb_digits 9 (some .int) :: wsA) 2 42 [.ref h, .int p1, .int p2] (rH dA h S hp0) sz (some (.int r)) (rH dA h S' hp0) 0 0 := by
  refine ct_of (cc := cb_digits) (maxL := 9) (ret := (some .int)) (lo0 := [some (.ref h), some (.int p1), some (.int p2), none, none, none, none, none, none]) hR.2 (by decide) rfl (by simp [lg_sl, Value.category]) rfl (by simp [lx_all, lv_args, Value.category]) ?_
  intro p e s m args below meth c ls B hnm hl I
  obtain ⟨hx, hb, -⟩ := B.1
  unfold m_digits at hm
  refine lv_iconst (pc := 0) (v := 0) hx hb d_digits_0 (by decide) ?_
  refine q_istore_n (pc := 1) (i := 3) (lo' := [some (.ref h), some (.int p1), some (.int p2), some (.int 0), none, none, none, none, none]) hx hb d_digits_1 rfl hl (Nat.le_of_ble_eq_true rfl) (lx_ci rfl) rfl (fun ls hl => ?_)
  refine lv_iconst (pc := 2) (v := 0) hx hb d_digits_2 (by decide) ?_
  refine q_istore (pc := 3) (i := 4) (lo' := [some (.ref h), some (.int p1), some (.int p2), some (.int 0), some (.int 0), none, none, none, none]) hx hb d_digits_3 hl (Nat.le_of_ble_eq_true rfl) (lx_ci rfl) rfl (fun ls hl => ?_)
  refine lv_iconst (pc := 5) (v := 1) hx hb d_digits_5 (by decide) ?_
  refine q_istore (pc := 6) (i := 5) (lo' := [some (.ref h), some (.int p1), some (.int p2), some (.int 0), some (.int 0), some (.int 1), none, none, none]) hx hb d_digits_6 hl (Nat.le_of_ble_eq_true rfl) (lx_ci rfl) rfl (fun ls hl => ?_)
  exact w_digits_8  B hR hl I hm
def m_number_127 (N : Nat) (S : rS) : Option (Int32 × rS) :=
  b2 (m_fail N (S.1 3) S) (fun x2 S3 => if x2 = 0 ∨ x2 = 1 then (some (x2, S3)) else none)
set_option maxRecDepth 100000 in
set_option maxHeartbeats 4000000 in
theorem w_number_127 {S : rS} (B : BX p m c cb_number 6 s args (.code y_number cb_number 6 (some .boolean) :: wsA) RREF meth (some .boolean) D vwCl (tyL dA) b0 Z) (hR : RR b0 h Z) (hl : lx ls [some (.ref h), none, none, none, none, none]) (I : AI D vwCl b0 (rH dA h S hp0) sz s.heap H locs)  (hm : m_number_127 N   S = some (r, S')) : W p l e { frames := 3, cells := 0, slots := 0, locals := 70 } s m args below meth c H locs 0 0 (MQ below (CQ D vwCl b0 (some (.int r)) (rH dA h S' hp0) sz) args s 0 0 (fun q => b0 ≤ q)) (F0 m 127 ls []) := by
  obtain ⟨hx, hb, -⟩ := B.1
  unfold m_number_127 at hm
  refine lv_aload_n (pc := 127) (i := 0) hx hb d_number_127 rfl (lx_get hl rfl) ?_
  refine lv_aload_n (pc := 128) (i := 0) hx hb d_number_128 rfl (lx_get hl rfl) ?_
  refine r_get (pc := 129) (k := 3) (index := 76) B I (by decide) mF_76 rfl rfl d_number_129 ?_
  refine ob2 hm (fun x2 S3 e1 hm => ?_)
  refine r_call (pc := 132) (As := [.int (S.1 3)]) (rest := []) B hl rfl I (c_fail hR e1) kw_fail rfl (by decide) (by decide) rfl (by simp [Value.category]) d_number_132 (fun H locs I => ?_)
  by_cases hq : x2 = 0 ∨ x2 = 1
  · have hm := ift hq hm
    cases hm
    exact q_zret (pc := 135) B I rfl (zn hq) d_number_135
  · have hm := iff' hq hm
    cases hm
def m_number_175 (N : Nat) (z1 : Int32) (z2 : Int32) (S : rS) : Option (Int32 × rS) :=
  b1 (rT S 4 z1 z2) (fun S1 => if S1.1 4 = (-1) then (some (1, S1)) else (some (0, S1)))
set_option maxRecDepth 100000 in
set_option maxHeartbeats 4000000 in
theorem w_number_175 {z1 : Int32} {z2 : Int32} {S : rS} (B : BX p m c cb_number 6 s args (.code y_number cb_number 6 (some .boolean) :: wsA) RREF meth (some .boolean) D vwCl (tyL dA) b0 Z) (hR : RR b0 h Z) (hl : lx ls [some (.ref h), none, none, none, none, none]) (I : AI D vwCl b0 (rH dA h S hp0) sz s.heap H locs)  (hm : m_number_175 N  z1 z2 S = some (r, S')) : W p l e { frames := 3, cells := 0, slots := 0, locals := 70 } s m args below meth c H locs 0 0 (MQ below (CQ D vwCl b0 (some (.int r)) (rH dA h S' hp0) sz) args s 0 0 (fun q => b0 ≤ q)) (F0 m 175 ls [.int z2, .int z1, .ref (h + 4)]) := by
  obtain ⟨hx, hb, -⟩ := B.1
  unfold m_number_175 at hm
  refine ob1 hm (fun S1 e2 hm => ?_)
  refine r_ast (pc := 175) (j := 4) B hR I (by decide) (by decide) e2 d_number_175 (fun H locs I => ?_)
  refine lv_aload_n (pc := 176) (i := 0) hx hb d_number_176 rfl (lx_get hl rfl) ?_
  refine r_get (pc := 177) (k := 4) (index := 79) B I (by decide) mF_79 rfl rfl d_number_177 ?_
  refine lv_iconst (pc := 180) (v := (-1)) hx hb d_number_180 (by decide) ?_
  refine lv_icmp_ne (pc := 181) (tgt := 188) hx hb d_number_181 (by decide) (fun hc => ?_) (fun hc => ?_)
  · have hm := iff' hc hm
    refine lv_iconst (pc := 188) (v := 0) hx hb d_number_188 (by decide) ?_
    cases hm
    exact q_zret (pc := 189) B I rfl (by decide) d_number_189
  · have hm := ift hc hm
    refine lv_iconst (pc := 184) (v := 1) hx hb d_number_184 (by decide) ?_
    refine lv_goto (pc := 185) (tgt := 189) hx hb d_number_185 (by decide) ?_
    cases hm
    exact q_zret (pc := 189) B I rfl (by decide) d_number_189
def m_number_149 (N : Nat) (y1 : Int32) (y2 : Int32) (y4 : Int32) (S : rS) : Option (Int32 × rS) :=
  b1 (rT S 3 y1 1) (fun S1 => if y2 = 45 then (m_number_175 N  y1 (-y4) S1) else (m_number_175 N  y1 y4 S1))
set_option maxRecDepth 100000 in
set_option maxHeartbeats 4000000 in
theorem w_number_149 {y1 : Int32} {y2 : Int32} {y4 : Int32} {S : rS} (B : BX p m c cb_number 6 s args (.code y_number cb_number 6 (some .boolean) :: wsA) RREF meth (some .boolean) D vwCl (tyL dA) b0 Z) (hR : RR b0 h Z) (hl : lx ls [some (.ref h), some (.int y1), some (.int y2), none, some (.int y4), none]) (I : AI D vwCl b0 (rH dA h S hp0) sz s.heap H locs)  (hm : m_number_149 N  y1 y2 y4 S = some (r, S')) : W p l e { frames := 3, cells := 0, slots := 0, locals := 70 } s m args below meth c H locs 0 0 (MQ below (CQ D vwCl b0 (some (.int r)) (rH dA h S' hp0) sz) args s 0 0 (fun q => b0 ≤ q)) (F0 m 149 ls []) := by
  obtain ⟨hx, hb, -⟩ := B.1
  unfold m_number_149 at hm
  refine lv_aload_n (pc := 149) (i := 0) hx hb d_number_149 rfl (lx_get hl rfl) ?_
  refine r_get (pc := 150) (k := 7) (index := 16) B I (by decide) mF_16 rfl rfl d_number_150 ?_
  refine lv_iload_n (pc := 153) (i := 1) hx hb d_number_153 rfl (lx_get hl rfl) ?_
  refine lv_iconst (pc := 154) (v := 1) hx hb d_number_154 (by decide) ?_
  refine ob1 hm (fun S1 e2 hm => ?_)
  refine r_ast (pc := 155) (j := 3) B hR I (by decide) (by decide) e2 d_number_155 (fun H locs I => ?_)
  refine lv_aload_n (pc := 156) (i := 0) hx hb d_number_156 rfl (lx_get hl rfl) ?_
  refine r_get (pc := 157) (k := 8) (index := 19) B I (by decide) mF_19 rfl rfl d_number_157 ?_
  refine lv_iload_n (pc := 160) (i := 1) hx hb d_number_160 rfl (lx_get hl rfl) ?_
  refine lv_iload_n (pc := 161) (i := 2) hx hb d_number_161 rfl (lx_get hl rfl) ?_
  refine lv_bipush (pc := 162) (v := 45) hx hb d_number_162 (by decide) ?_
  refine lv_icmp_ne (pc := 164) (tgt := 173) hx hb d_number_164 (by decide) (fun hc => ?_) (fun hc => ?_)
  · have hm := iff' hc hm
    refine lv_iload (pc := 173) (i := 4) hx hb d_number_173 (lx_get hl rfl) ?_
    exact w_number_175  B hR (lx_sub (lo' := [some (.ref h), none, none, none, none, none]) hl (by simp [lx_le])) I hm
  · have hm := ift hc hm
    refine lv_iload (pc := 167) (i := 4) hx hb d_number_167 (lx_get hl rfl) ?_
    refine lv_ineg (pc := 169) hx hb d_number_169 ?_
    refine lv_goto (pc := 170) (tgt := 175) hx hb d_number_170 (by decide) ?_
    exact w_number_175  B hR (lx_sub (lo' := [some (.ref h), none, none, none, none, none]) hl (by simp [lx_le])) I hm
def m_number_136 (N : Nat) (y1 : Int32) (y2 : Int32) (y4 : Int32) (S : rS) : Option (Int32 × rS) :=
  m_number_149 N  y1 y2 y4 S
set_option maxRecDepth 100000 in
set_option maxHeartbeats 4000000 in
theorem w_number_136 {y1 : Int32} {y2 : Int32} {y4 : Int32} {S : rS} (B : BX p m c cb_number 6 s args (.code y_number cb_number 6 (some .boolean) :: wsA) RREF meth (some .boolean) D vwCl (tyL dA) b0 Z) (hR : RR b0 h Z) (hl : lx ls [some (.ref h), some (.int y1), some (.int y2), none, some (.int y4), none]) (I : AI D vwCl b0 (rH dA h S hp0) sz s.heap H locs)  (hm : m_number_136 N  y1 y2 y4 S = some (r, S')) : W p l e { frames := 3, cells := 0, slots := 0, locals := 70 } s m args below meth c H locs 0 0 (MQ below (CQ D vwCl b0 (some (.int r)) (rH dA h S' hp0) sz) args s 0 0 (fun q => b0 ≤ q)) (F0 m 136 ls []) := by
  obtain ⟨hx, hb, -⟩ := B.1
  unfold m_number_136 at hm
  refine lv_goto (pc := 136) (tgt := 149) hx hb d_number_136 (by decide) ?_
  exact w_number_149  B hR hl I hm
def m_number_77 (N : Nat) (y1 : Int32) (y2 : Int32) (y4 : Int32) (z0 : Int32) (S : rS) : Option (Int32 × rS) :=
  if z0 = 0 then (b1 (m_here N S) (fun x2 => b1 (m_isDigit N x2 S) (fun x4 => if x4 = 0 then (b1 (m_here N S) (fun x6 => if x6 = 95 then (m_number_127 N  S) else (m_number_136 N  y1 y2 y4 S))) else (m_number_127 N  S)))) else (b1 (rP S 3 ((S.1 3) + 1)) (fun S7 => b2 (m_digits N 16 7 S7) (fun x10 S11 => m_number_136 N  y1 y2 x10 S11)))
set_option maxRecDepth 100000 in
set_option maxHeartbeats 4000000 in
theorem w_number_77 {y1 : Int32} {y2 : Int32} {y4 : Int32} {z0 : Int32} {S : rS} (B : BX p m c cb_number 6 s args (.code y_number cb_number 6 (some .boolean) :: wsA) RREF meth (some .boolean) D vwCl (tyL dA) b0 Z) (hR : RR b0 h Z) (hl : lx ls [some (.ref h), some (.int y1), some (.int y2), none, some (.int y4), none]) (I : AI D vwCl b0 (rH dA h S hp0) sz s.heap H locs)  (hm : m_number_77 N  y1 y2 y4 z0 S = some (r, S')) : W p l e { frames := 3, cells := 0, slots := 0, locals := 70 } s m args below meth c H locs 0 0 (MQ below (CQ D vwCl b0 (some (.int r)) (rH dA h S' hp0) sz) args s 0 0 (fun q => b0 ≤ q)) (F0 m 77 ls [.int z0]) := by
  obtain ⟨hx, hb, -⟩ := B.1
  unfold m_number_77 at hm
  refine q_istore (pc := 77) (i := 5) (lo' := [some (.ref h), some (.int y1), some (.int y2), none, some (.int y4), some (.int z0)]) hx hb d_number_77 hl (Nat.le_of_ble_eq_true rfl) (lx_ci rfl) rfl (fun ls hl => ?_)
  refine lv_iload (pc := 79) (i := 5) hx hb d_number_79 (lx_get hl rfl) ?_
  refine lv_if_eq (pc := 81) (tgt := 107) hx hb d_number_81 (by decide) (fun hc => ?_) (fun hc => ?_)
  · have hm := ift hc hm
    refine lv_aload_n (pc := 107) (i := 0) hx hb d_number_107 rfl (lx_get hl rfl) ?_
    refine lv_aload_n (pc := 108) (i := 0) hx hb d_number_108 rfl (lx_get hl rfl) ?_
    refine ob1 hm (fun x2 e1 hm => ?_)
    refine r_call (pc := 109) (As := []) (rest := [.ref h]) B hl rfl I (c_here hR e1) kw_here rfl (by decide) (by decide) rfl (by simp [Value.category]) d_number_109 (fun H locs I => ?_)
    refine ob1 hm (fun x4 e3 hm => ?_)
    refine r_call (pc := 112) (As := [.int x2]) (rest := []) B hl rfl I (c_isDigit hR e3) kw_isDigit rfl (by decide) (by decide) rfl (by simp [Value.category]) d_number_112 (fun H locs I => ?_)
    refine lv_if_ne (pc := 115) (tgt := 127) hx hb d_number_115 (by decide) (fun hc => ?_) (fun hc => ?_)
    · have hm := iff' hc hm
      exact w_number_127  B hR (lx_sub (lo' := [some (.ref h), none, none, none, none, none]) hl (by simp [lx_le])) I hm
    · have hm := ift hc hm
      refine lv_aload_n (pc := 118) (i := 0) hx hb d_number_118 rfl (lx_get hl rfl) ?_
      refine ob1 hm (fun x6 e5 hm => ?_)
      refine r_call (pc := 119) (As := []) (rest := []) B hl rfl I (c_here hR e5) kw_here rfl (by decide) (by decide) rfl (by simp [Value.category]) d_number_119 (fun H locs I => ?_)
      refine lv_bipush (pc := 122) (v := 95) hx hb d_number_122 (by decide) ?_
      refine lv_icmp_ne (pc := 124) (tgt := 136) hx hb d_number_124 (by decide) (fun hc => ?_) (fun hc => ?_)
      · have hm := iff' hc hm
        exact w_number_136  B hR (lx_sub (lo' := [some (.ref h), some (.int y1), some (.int y2), none, some (.int y4), none]) hl (by simp [lx_le])) I hm
      · have hm := ift hc hm
        exact w_number_127  B hR (lx_sub (lo' := [some (.ref h), none, none, none, none, none]) hl (by simp [lx_le])) I hm
  · have hm := iff' hc hm
    refine lv_aload_n (pc := 84) (i := 0) hx hb d_number_84 rfl (lx_get hl rfl) ?_
    refine lv_dup (pc := 85) hx hb d_number_85 rfl ?_
    refine r_get (pc := 86) (k := 3) (index := 76) B I (by decide) mF_76 rfl rfl d_number_86 ?_
    refine lv_iconst (pc := 89) (v := 1) hx hb d_number_89 (by decide) ?_
    refine lv_iadd (pc := 90) hx hb d_number_90 ?_
    refine ob1 hm (fun S7 e8 hm => ?_)
    refine r_put (pc := 91) (k := 3) (index := 76) B hR I (by decide) mF_76 rfl rfl rfl (fun _ _ => rfl) e8 d_number_91 (fun H locs I => ?_)
    refine lv_aload_n (pc := 94) (i := 0) hx hb d_number_94 rfl (lx_get hl rfl) ?_
    refine lv_bipush (pc := 95) (v := 16) hx hb d_number_95 (by decide) ?_
    refine lv_bipush (pc := 97) (v := 7) hx hb d_number_97 (by decide) ?_
    refine ob2 hm (fun x10 S11 e9 hm => ?_)
    refine r_call (pc := 99) (As := [.int 16, .int 7]) (rest := []) B hl rfl I (c_digits hR e9) kw_digits rfl (by decide) (by decide) rfl (by simp [Value.category]) d_number_99 (fun H locs I => ?_)
    refine q_istore (pc := 102) (i := 4) (lo' := [some (.ref h), some (.int y1), some (.int y2), none, some (.int x10), some (.int z0)]) hx hb d_number_102 hl (Nat.le_of_ble_eq_true rfl) (lx_cn rfl) rfl (fun ls hl => ?_)
    refine lv_goto (pc := 104) (tgt := 136) hx hb d_number_104 (by decide) ?_
    exact w_number_136  B hR (lx_sub (lo' := [some (.ref h), some (.int y1), some (.int y2), none, some (.int x10), none]) hl (by simp [lx_le])) I hm
def m_number_76 (N : Nat) (y1 : Int32) (y2 : Int32) (y4 : Int32) (S : rS) : Option (Int32 × rS) :=
  m_number_77 N  y1 y2 y4 0 S
set_option maxRecDepth 100000 in
set_option maxHeartbeats 4000000 in
theorem w_number_76 {y1 : Int32} {y2 : Int32} {y4 : Int32} {S : rS} (B : BX p m c cb_number 6 s args (.code y_number cb_number 6 (some .boolean) :: wsA) RREF meth (some .boolean) D vwCl (tyL dA) b0 Z) (hR : RR b0 h Z) (hl : lx ls [some (.ref h), some (.int y1), some (.int y2), none, some (.int y4), none]) (I : AI D vwCl b0 (rH dA h S hp0) sz s.heap H locs)  (hm : m_number_76 N  y1 y2 y4 S = some (r, S')) : W p l e { frames := 3, cells := 0, slots := 0, locals := 70 } s m args below meth c H locs 0 0 (MQ below (CQ D vwCl b0 (some (.int r)) (rH dA h S' hp0) sz) args s 0 0 (fun q => b0 ≤ q)) (F0 m 76 ls []) := by
  obtain ⟨hx, hb, -⟩ := B.1
  unfold m_number_76 at hm
  refine lv_iconst (pc := 76) (v := 0) hx hb d_number_76 (by decide) ?_
  exact w_number_77  B hR hl I hm
def m_number_37 (N : Nat) (y1 : Int32) (y2 : Int32) (y3 : Int32) (S : rS) : Option (Int32 × rS) :=
  b1 (m_here N S) (fun x2 => if x2 = 48 then (b1 (rP S 3 ((S.1 3) + 1)) (fun S6 => if y3 = 0 then (b1 (m_here N S6) (fun x9 => if x9 = 120 then (m_number_77 N  y1 y2 0 1 S6) else (m_number_76 N  y1 y2 0 S6))) else (m_number_76 N  y1 y2 0 S6))) else (b2 (m_digits N 10 9 S) (fun x4 S5 => m_number_149 N  y1 y2 x4 S5)))
set_option maxRecDepth 100000 in
set_option maxHeartbeats 4000000 in
theorem w_number_37 {y1 : Int32} {y2 : Int32} {y3 : Int32} {S : rS} (B : BX p m c cb_number 6 s args (.code y_number cb_number 6 (some .boolean) :: wsA) RREF meth (some .boolean) D vwCl (tyL dA) b0 Z) (hR : RR b0 h Z) (hl : lx ls [some (.ref h), some (.int y1), some (.int y2), some (.int y3), none, none]) (I : AI D vwCl b0 (rH dA h S hp0) sz s.heap H locs)  (hm : m_number_37 N  y1 y2 y3 S = some (r, S')) : W p l e { frames := 3, cells := 0, slots := 0, locals := 70 } s m args below meth c H locs 0 0 (MQ below (CQ D vwCl b0 (some (.int r)) (rH dA h S' hp0) sz) args s 0 0 (fun q => b0 ≤ q)) (F0 m 37 ls []) := by
  obtain ⟨hx, hb, -⟩ := B.1
  unfold m_number_37 at hm
  refine lv_iconst (pc := 37) (v := 0) hx hb d_number_37 (by decide) ?_
  refine q_istore (pc := 38) (i := 4) (lo' := [some (.ref h), some (.int y1), some (.int y2), some (.int y3), some (.int 0), none]) hx hb d_number_38 hl (Nat.le_of_ble_eq_true rfl) (lx_ci rfl) rfl (fun ls hl => ?_)
  refine lv_aload_n (pc := 40) (i := 0) hx hb d_number_40 rfl (lx_get hl rfl) ?_
  refine ob1 hm (fun x2 e1 hm => ?_)
  refine r_call (pc := 41) (As := []) (rest := []) B hl rfl I (c_here hR e1) kw_here rfl (by decide) (by decide) rfl (by simp [Value.category]) d_number_41 (fun H locs I => ?_)
  refine lv_bipush (pc := 44) (v := 48) hx hb d_number_44 (by decide) ?_
  refine lv_icmp_ne (pc := 46) (tgt := 139) hx hb d_number_46 (by decide) (fun hc => ?_) (fun hc => ?_)
  · have hm := iff' hc hm
    refine lv_aload_n (pc := 139) (i := 0) hx hb d_number_139 rfl (lx_get hl rfl) ?_
    refine lv_bipush (pc := 140) (v := 10) hx hb d_number_140 (by decide) ?_
    refine lv_bipush (pc := 142) (v := 9) hx hb d_number_142 (by decide) ?_
    refine ob2 hm (fun x4 S5 e3 hm => ?_)
    refine r_call (pc := 144) (As := [.int 10, .int 9]) (rest := []) B hl rfl I (c_digits hR e3) kw_digits rfl (by decide) (by decide) rfl (by simp [Value.category]) d_number_144 (fun H locs I => ?_)
    refine q_istore (pc := 147) (i := 4) (lo' := [some (.ref h), some (.int y1), some (.int y2), some (.int y3), some (.int x4), none]) hx hb d_number_147 hl (Nat.le_of_ble_eq_true rfl) (lx_ci rfl) rfl (fun ls hl => ?_)
    exact w_number_149  B hR (lx_sub (lo' := [some (.ref h), some (.int y1), some (.int y2), none, some (.int x4), none]) hl (by simp [lx_le])) I hm
  · have hm := ift hc hm
    refine lv_aload_n (pc := 49) (i := 0) hx hb d_number_49 rfl (lx_get hl rfl) ?_
    refine lv_dup (pc := 50) hx hb d_number_50 rfl ?_
    refine r_get (pc := 51) (k := 3) (index := 76) B I (by decide) mF_76 rfl rfl d_number_51 ?_
    refine lv_iconst (pc := 54) (v := 1) hx hb d_number_54 (by decide) ?_
    refine lv_iadd (pc := 55) hx hb d_number_55 ?_
    refine ob1 hm (fun S6 e7 hm => ?_)
    refine r_put (pc := 56) (k := 3) (index := 76) B hR I (by decide) mF_76 rfl rfl rfl (fun _ _ => rfl) e7 d_number_56 (fun H locs I => ?_)
    refine lv_iload_n (pc := 59) (i := 3) hx hb d_number_59 rfl (lx_get hl rfl) ?_
    refine lv_if_ne (pc := 60) (tgt := 76) hx hb d_number_60 (by decide) (fun hc => ?_) (fun hc => ?_)
    · have hm := iff' hc hm
      exact w_number_76  B hR (lx_sub (lo' := [some (.ref h), some (.int y1), some (.int y2), none, some (.int 0), none]) hl (by simp [lx_le])) I hm
    · have hm := ift hc hm
      refine lv_aload_n (pc := 63) (i := 0) hx hb d_number_63 rfl (lx_get hl rfl) ?_
      refine ob1 hm (fun x9 e8 hm => ?_)
      refine r_call (pc := 64) (As := []) (rest := []) B hl rfl I (c_here hR e8) kw_here rfl (by decide) (by decide) rfl (by simp [Value.category]) d_number_64 (fun H locs I => ?_)
      refine lv_bipush (pc := 67) (v := 120) hx hb d_number_67 (by decide) ?_
      refine lv_icmp_ne (pc := 69) (tgt := 76) hx hb d_number_69 (by decide) (fun hc => ?_) (fun hc => ?_)
      · have hm := iff' hc hm
        exact w_number_76  B hR (lx_sub (lo' := [some (.ref h), some (.int y1), some (.int y2), none, some (.int 0), none]) hl (by simp [lx_le])) I hm
      · have hm := ift hc hm
        refine lv_iconst (pc := 72) (v := 1) hx hb d_number_72 (by decide) ?_
        refine lv_goto (pc := 73) (tgt := 77) hx hb d_number_73 (by decide) ?_
        exact w_number_77  B hR (lx_sub (lo' := [some (.ref h), some (.int y1), some (.int y2), none, some (.int 0), none]) hl (by simp [lx_le])) I hm
def m_number_22 (N : Nat) (y1 : Int32) (y2 : Int32) (z0 : Int32) (S : rS) : Option (Int32 × rS) :=
  if z0 = 0 then (m_number_37 N  y1 y2 z0 S) else (b1 (rP S 3 ((S.1 3) + 1)) (fun S1 => m_number_37 N  y1 y2 z0 S1))
set_option maxRecDepth 100000 in
set_option maxHeartbeats 4000000 in
theorem w_number_22 {y1 : Int32} {y2 : Int32} {z0 : Int32} {S : rS} (B : BX p m c cb_number 6 s args (.code y_number cb_number 6 (some .boolean) :: wsA) RREF meth (some .boolean) D vwCl (tyL dA) b0 Z) (hR : RR b0 h Z) (hl : lx ls [some (.ref h), some (.int y1), some (.int y2), none, none, none]) (I : AI D vwCl b0 (rH dA h S hp0) sz s.heap H locs)  (hm : m_number_22 N  y1 y2 z0 S = some (r, S')) : W p l e { frames := 3, cells := 0, slots := 0, locals := 70 } s m args below meth c H locs 0 0 (MQ below (CQ D vwCl b0 (some (.int r)) (rH dA h S' hp0) sz) args s 0 0 (fun q => b0 ≤ q)) (F0 m 22 ls [.int z0]) := by
  obtain ⟨hx, hb, -⟩ := B.1
  unfold m_number_22 at hm
  refine q_istore_n (pc := 22) (i := 3) (lo' := [some (.ref h), some (.int y1), some (.int y2), some (.int z0), none, none]) hx hb d_number_22 rfl hl (Nat.le_of_ble_eq_true rfl) (lx_ci rfl) rfl (fun ls hl => ?_)
  refine lv_iload_n (pc := 23) (i := 3) hx hb d_number_23 rfl (lx_get hl rfl) ?_
  refine lv_if_eq (pc := 24) (tgt := 37) hx hb d_number_24 (by decide) (fun hc => ?_) (fun hc => ?_)
  · have hm := ift hc hm
    exact w_number_37  B hR hl I hm
  · have hm := iff' hc hm
    refine lv_aload_n (pc := 27) (i := 0) hx hb d_number_27 rfl (lx_get hl rfl) ?_
    refine lv_dup (pc := 28) hx hb d_number_28 rfl ?_
    refine r_get (pc := 29) (k := 3) (index := 76) B I (by decide) mF_76 rfl rfl d_number_29 ?_
    refine lv_iconst (pc := 32) (v := 1) hx hb d_number_32 (by decide) ?_
    refine lv_iadd (pc := 33) hx hb d_number_33 ?_
    refine ob1 hm (fun S1 e2 hm => ?_)
    refine r_put (pc := 34) (k := 3) (index := 76) B hR I (by decide) mF_76 rfl rfl rfl (fun _ _ => rfl) e2 d_number_34 (fun H locs I => ?_)
    exact w_number_37  B hR hl I hm
def m_number_17 (N : Nat) (y1 : Int32) (y2 : Int32) (S : rS) : Option (Int32 × rS) :=
  m_number_22 N  y1 y2 1 S
set_option maxRecDepth 100000 in
set_option maxHeartbeats 4000000 in
theorem w_number_17 {y1 : Int32} {y2 : Int32} {S : rS} (B : BX p m c cb_number 6 s args (.code y_number cb_number 6 (some .boolean) :: wsA) RREF meth (some .boolean) D vwCl (tyL dA) b0 Z) (hR : RR b0 h Z) (hl : lx ls [some (.ref h), some (.int y1), some (.int y2), none, none, none]) (I : AI D vwCl b0 (rH dA h S hp0) sz s.heap H locs)  (hm : m_number_17 N  y1 y2 S = some (r, S')) : W p l e { frames := 3, cells := 0, slots := 0, locals := 70 } s m args below meth c H locs 0 0 (MQ below (CQ D vwCl b0 (some (.int r)) (rH dA h S' hp0) sz) args s 0 0 (fun q => b0 ≤ q)) (F0 m 17 ls []) := by
  obtain ⟨hx, hb, -⟩ := B.1
  unfold m_number_17 at hm
  refine lv_iconst (pc := 17) (v := 1) hx hb d_number_17 (by decide) ?_
  refine lv_goto (pc := 18) (tgt := 22) hx hb d_number_18 (by decide) ?_
  exact w_number_22  B hR hl I hm
def m_number (N : Nat) (p1 : Int32) (S : rS) : Option (Int32 × rS) :=
  b1 (m_here N S) (fun x2 => if x2 = 43 then (m_number_17 N  p1 x2 S) else (if x2 = 45 then (m_number_17 N  p1 x2 S) else (m_number_22 N  p1 x2 0 S)))
set_option maxRecDepth 100000 in
set_option maxHeartbeats 4000000 in
theorem c_number {p1 : Int32} {S S' : rS} {r : Int32} (hR : RR b0 h Z) (hm : m_number N p1 S = some (r, S')) : Ct l D vwCl (tyL dA) b0 Z y_number (.code y_number cb_number 6 (some .boolean) :: wsA) 3 70 [.ref h, .int p1] (rH dA h S hp0) sz (some (.int r)) (rH dA h S' hp0) 0 0 := by
  refine ct_of (cc := cb_number) (maxL := 6) (ret := (some .boolean)) (lo0 := [some (.ref h), some (.int p1), none, none, none, none]) hR.2 (by decide) rfl (by simp [lg_sl, Value.category]) rfl (by simp [lx_all, lv_args, Value.category]) ?_
  intro p e s m args below meth c ls B hnm hl I
  obtain ⟨hx, hb, -⟩ := B.1
  unfold m_number at hm
  refine lv_aload_n (pc := 0) (i := 0) hx hb d_number_0 rfl (lx_get hl rfl) ?_
  refine ob1 hm (fun x2 e1 hm => ?_)
  refine r_call (pc := 1) (As := []) (rest := []) B hl rfl I (c_here hR e1) kw_here rfl (by decide) (by decide) rfl (by simp [Value.category]) d_number_1 (fun H locs I => ?_)
  refine q_istore_n (pc := 4) (i := 2) (lo' := [some (.ref h), some (.int p1), some (.int x2), none, none, none]) hx hb d_number_4 rfl hl (Nat.le_of_ble_eq_true rfl) (lx_ci rfl) rfl (fun ls hl => ?_)
  refine lv_iload_n (pc := 5) (i := 2) hx hb d_number_5 rfl (lx_get hl rfl) ?_
  refine lv_bipush (pc := 6) (v := 43) hx hb d_number_6 (by decide) ?_
  refine lv_icmp_eq (pc := 8) (tgt := 17) hx hb d_number_8 (by decide) (fun hc => ?_) (fun hc => ?_)
  · have hm := ift hc hm
    exact w_number_17  B hR hl I hm
  · have hm := iff' hc hm
    refine lv_iload_n (pc := 11) (i := 2) hx hb d_number_11 rfl (lx_get hl rfl) ?_
    refine lv_bipush (pc := 12) (v := 45) hx hb d_number_12 (by decide) ?_
    refine lv_icmp_ne (pc := 14) (tgt := 21) hx hb d_number_14 (by decide) (fun hc => ?_) (fun hc => ?_)
    · have hm := iff' hc hm
      refine lv_iconst (pc := 21) (v := 0) hx hb d_number_21 (by decide) ?_
      exact w_number_22  B hR hl I hm
    · have hm := ift hc hm
      exact w_number_17  B hR hl I hm
def m_isDate_52 (N : Nat) (y1 : Int32) (S : rS) : Option Int32 :=
  if y1 = 0 then (some 0) else (b1 (rL S 1 ((S.1 3) + 4)) (fun x1 => if x1 = 45 then (some 1) else (some 0)))
set_option maxRecDepth 100000 in
set_option maxHeartbeats 4000000 in
theorem w_isDate_52 {y1 : Int32} {S : rS} (B : BX p m c cb_isDate 3 s args (.code y_isDate cb_isDate 3 (some .boolean) :: wsA) RREF meth (some .boolean) D vwCl (tyL dA) b0 Z) (hR : RR b0 h Z) (hl : lx ls [some (.ref h), some (.int y1), none]) (I : AI D vwCl b0 (rH dA h S hp0) sz s.heap H locs)  (hm : m_isDate_52 N  y1 S = some r) : W p l e { frames := 1, cells := 0, slots := 0, locals := 21 } s m args below meth c H locs 0 0 (MQ below (CQ D vwCl b0 (some (.int r)) (rH dA h S hp0) sz) args s 0 0 (fun q => b0 ≤ q)) (F0 m 52 ls []) := by
  obtain ⟨hx, hb, -⟩ := B.1
  unfold m_isDate_52 at hm
  refine lv_iload_n (pc := 52) (i := 1) hx hb d_isDate_52 rfl (lx_get hl rfl) ?_
  refine lv_if_eq (pc := 53) (tgt := 76) hx hb d_isDate_53 (by decide) (fun hc => ?_) (fun hc => ?_)
  · have hm := ift hc hm
    refine lv_iconst (pc := 76) (v := 0) hx hb d_isDate_76 (by decide) ?_
    cases hm
    exact q_zret (pc := 77) B I rfl (by decide) d_isDate_77
  · have hm := iff' hc hm
    refine lv_aload_n (pc := 56) (i := 0) hx hb d_isDate_56 rfl (lx_get hl rfl) ?_
    refine r_get (pc := 57) (k := 2) (index := 7) B I (by decide) mF_7 rfl rfl d_isDate_57 ?_
    refine lv_aload_n (pc := 60) (i := 0) hx hb d_isDate_60 rfl (lx_get hl rfl) ?_
    refine r_get (pc := 61) (k := 3) (index := 76) B I (by decide) mF_76 rfl rfl d_isDate_61 ?_
    refine lv_iconst (pc := 64) (v := 4) hx hb d_isDate_64 (by decide) ?_
    refine lv_iadd (pc := 65) hx hb d_isDate_65 ?_
    refine ob1 hm (fun x1 e2 hm => ?_)
    refine r_ald (pc := 66) (j := 1) B I (by decide) (by decide) e2 d_isDate_66 ?_
    refine lv_bipush (pc := 67) (v := 45) hx hb d_isDate_67 (by decide) ?_
    refine lv_icmp_ne (pc := 69) (tgt := 76) hx hb d_isDate_69 (by decide) (fun hc => ?_) (fun hc => ?_)
    · have hm := iff' hc hm
      refine lv_iconst (pc := 76) (v := 0) hx hb d_isDate_76 (by decide) ?_
      cases hm
      exact q_zret (pc := 77) B I rfl (by decide) d_isDate_77
    · have hm := ift hc hm
      refine lv_iconst (pc := 72) (v := 1) hx hb d_isDate_72 (by decide) ?_
      refine lv_goto (pc := 73) (tgt := 77) hx hb d_isDate_73 (by decide) ?_
      cases hm
      exact q_zret (pc := 77) B I rfl (by decide) d_isDate_77
def m_isDate_21F (N : Nat) (K21 : Int32 → Int32 → rS → Option Int32) (y1 : Int32) (y2 : Int32) (S : rS) : Option Int32 :=
  if 4 ≤ y2 then (m_isDate_52 N  y1 S) else (if y1 = 0 then (m_isDate_52 N  y1 S) else (b1 (rL S 1 ((S.1 3) + y2)) (fun x1 => b1 (m_isDigit N x1 S) (fun x4 => K21 x4 (y2 + 1) S))))
def m_isDate_21 (N : Nat) : Nat → Int32 → Int32 → rS → Option Int32
  | 0, _, _, _ => none
  | k + 1, y1, y2, S => m_isDate_21F N  (m_isDate_21 N  k) y1 y2 S
set_option maxRecDepth 100000 in
set_option maxHeartbeats 4000000 in
theorem w_isDate_21F {K21 : Int32 → Int32 → rS → Option Int32} {y1 : Int32} {y2 : Int32} {S : rS} (hK21 : ∀ (y1 : Int32) (y2 : Int32) (S : rS) (ls : Array Slot) (H : Heap) (locs : List Loc), lx ls [some (.ref h), some (.int y1), some (.int y2)] → AI D vwCl b0 (rH dA h S hp0) sz s.heap H locs → K21 y1 y2 S = some r → W p l e { frames := 1, cells := 0, slots := 0, locals := 21 } s m args below meth c H locs 0 0 (MQ below (CQ D vwCl b0 (some (.int r)) (rH dA h S hp0) sz) args s 0 0 (fun q => b0 ≤ q)) (F0 m 21 ls [])) (B : BX p m c cb_isDate 3 s args (.code y_isDate cb_isDate 3 (some .boolean) :: wsA) RREF meth (some .boolean) D vwCl (tyL dA) b0 Z) (hR : RR b0 h Z) (hl : lx ls [some (.ref h), some (.int y1), some (.int y2)]) (I : AI D vwCl b0 (rH dA h S hp0) sz s.heap H locs)  (hm : m_isDate_21F N  K21 y1 y2 S = some r) : W p l e { frames := 1, cells := 0, slots := 0, locals := 21 } s m args below meth c H locs 0 0 (MQ below (CQ D vwCl b0 (some (.int r)) (rH dA h S hp0) sz) args s 0 0 (fun q => b0 ≤ q)) (F0 m 21 ls []) := by
  obtain ⟨hx, hb, -⟩ := B.1
  unfold m_isDate_21F at hm
  refine lv_iload_n (pc := 21) (i := 2) hx hb d_isDate_21 rfl (lx_get hl rfl) ?_
  refine lv_iconst (pc := 22) (v := 4) hx hb d_isDate_22 (by decide) ?_
  refine lv_icmp_ge (pc := 23) (tgt := 52) hx hb d_isDate_23 (by decide) (fun hc => ?_) (fun hc => ?_)
  · have hm := ift hc hm
    exact w_isDate_52  B hR (lx_sub (lo' := [some (.ref h), some (.int y1), none]) hl (by simp [lx_le])) I hm
  · have hm := iff' hc hm
    refine lv_iload_n (pc := 26) (i := 1) hx hb d_isDate_26 rfl (lx_get hl rfl) ?_
    refine lv_if_eq (pc := 27) (tgt := 52) hx hb d_isDate_27 (by decide) (fun hc => ?_) (fun hc => ?_)
    · have hm := ift hc hm
      exact w_isDate_52  B hR (lx_sub (lo' := [some (.ref h), some (.int y1), none]) hl (by simp [lx_le])) I hm
    · have hm := iff' hc hm
      refine lv_aload_n (pc := 30) (i := 0) hx hb d_isDate_30 rfl (lx_get hl rfl) ?_
      refine lv_aload_n (pc := 31) (i := 0) hx hb d_isDate_31 rfl (lx_get hl rfl) ?_
      refine r_get (pc := 32) (k := 2) (index := 7) B I (by decide) mF_7 rfl rfl d_isDate_32 ?_
      refine lv_aload_n (pc := 35) (i := 0) hx hb d_isDate_35 rfl (lx_get hl rfl) ?_
      refine r_get (pc := 36) (k := 3) (index := 76) B I (by decide) mF_76 rfl rfl d_isDate_36 ?_
      refine lv_iload_n (pc := 39) (i := 2) hx hb d_isDate_39 rfl (lx_get hl rfl) ?_
      refine lv_iadd (pc := 40) hx hb d_isDate_40 ?_
      refine ob1 hm (fun x1 e2 hm => ?_)
      refine r_ald (pc := 41) (j := 1) B I (by decide) (by decide) e2 d_isDate_41 ?_
      refine ob1 hm (fun x4 e3 hm => ?_)
      refine r_call (pc := 42) (As := [.int x1]) (rest := []) B hl rfl I (c_isDigit hR e3) kw_isDigit rfl (by decide) (by decide) rfl (by simp [Value.category]) d_isDate_42 (fun H locs I => ?_)
      refine q_istore_n (pc := 45) (i := 1) (lo' := [some (.ref h), some (.int x4), some (.int y2)]) hx hb d_isDate_45 rfl hl (Nat.le_of_ble_eq_true rfl) (lx_cr rfl) rfl (fun ls hl => ?_)
      refine q_iinc (pc := 46) (i := 2) (v := y2 + 1) (lo' := [some (.ref h), some (.int x4), some (.int (y2 + 1))]) hx hb d_isDate_46 hl rfl rfl (Nat.le_of_ble_eq_true rfl) (lx_ci rfl) rfl (fun ls hl => ?_)
      refine lv_goto (pc := 49) (tgt := 21) hx hb d_isDate_49 (by decide) ?_
      exact hK21 _ _ _ _ _ _ hl I hm
set_option maxRecDepth 100000 in
set_option maxHeartbeats 4000000 in
theorem w_isDate_21i (B : BX p m c cb_isDate 3 s args (.code y_isDate cb_isDate 3 (some .boolean) :: wsA) RREF meth (some .boolean) D vwCl (tyL dA) b0 Z) (hR : RR b0 h Z) (k : Nat) (y1 : Int32) (y2 : Int32) (S : rS) (ls : Array Slot) (H : Heap) (locs : List Loc) (hl : lx ls [some (.ref h), some (.int y1), some (.int y2)]) (I : AI D vwCl b0 (rH dA h S hp0) sz s.heap H locs)  (hm : m_isDate_21 N  k y1 y2 S = some r) : W p l e { frames := 1, cells := 0, slots := 0, locals := 21 } s m args below meth c H locs 0 0 (MQ below (CQ D vwCl b0 (some (.int r)) (rH dA h S hp0) sz) args s 0 0 (fun q => b0 ≤ q)) (F0 m 21 ls []) := by
  induction k generalizing y1 y2 S ls H locs with
  | zero => cases hm
  | succ k ih => exact w_isDate_21F  (fun y1 y2 S ls H locs hl I hm => ih y1 y2 S ls H locs hl I hm) B hR hl I hm
theorem w_isDate_21 {y1 : Int32} {y2 : Int32} {S : rS} (B : BX p m c cb_isDate 3 s args (.code y_isDate cb_isDate 3 (some .boolean) :: wsA) RREF meth (some .boolean) D vwCl (tyL dA) b0 Z) (hR : RR b0 h Z) (hl : lx ls [some (.ref h), some (.int y1), some (.int y2)]) (I : AI D vwCl b0 (rH dA h S hp0) sz s.heap H locs)  {k : Nat} (hm : m_isDate_21 N  k y1 y2 S = some r) : W p l e { frames := 1, cells := 0, slots := 0, locals := 21 } s m args below meth c H locs 0 0 (MQ below (CQ D vwCl b0 (some (.int r)) (rH dA h S hp0) sz) args s 0 0 (fun q => b0 ≤ q)) (F0 m 21 ls []) := w_isDate_21i  B hR k _ _ S ls H locs hl I hm
def m_isDate_18 (N : Nat) (z0 : Int32) (S : rS) : Option Int32 :=
  m_isDate_21 N  N z0 0 S
set_option maxRecDepth 100000 in
set_option maxHeartbeats 4000000 in
theorem w_isDate_18 {z0 : Int32} {S : rS} (B : BX p m c cb_isDate 3 s args (.code y_isDate cb_isDate 3 (some .boolean) :: wsA) RREF meth (some .boolean) D vwCl (tyL dA) b0 Z) (hR : RR b0 h Z) (hl : lx ls [some (.ref h), none, none]) (I : AI D vwCl b0 (rH dA h S hp0) sz s.heap H locs)  (hm : m_isDate_18 N  z0 S = some r) : W p l e { frames := 1, cells := 0, slots := 0, locals := 21 } s m args below meth c H locs 0 0 (MQ below (CQ D vwCl b0 (some (.int r)) (rH dA h S hp0) sz) args s 0 0 (fun q => b0 ≤ q)) (F0 m 18 ls [.int z0]) := by
  obtain ⟨hx, hb, -⟩ := B.1
  unfold m_isDate_18 at hm
  refine q_istore_n (pc := 18) (i := 1) (lo' := [some (.ref h), some (.int z0), none]) hx hb d_isDate_18 rfl hl (Nat.le_of_ble_eq_true rfl) (lx_cr rfl) rfl (fun ls hl => ?_)
  refine lv_iconst (pc := 19) (v := 0) hx hb d_isDate_19 (by decide) ?_
  refine q_istore_n (pc := 20) (i := 2) (lo' := [some (.ref h), some (.int z0), some (.int 0)]) hx hb d_isDate_20 rfl hl (Nat.le_of_ble_eq_true rfl) (lx_ci rfl) rfl (fun ls hl => ?_)
  exact w_isDate_21  B hR hl I hm
def m_isDate (N : Nat) (S : rS) : Option Int32 :=
  if S.1 1 ≤ (S.1 3) + 4 then (m_isDate_18 N  0 S) else (m_isDate_18 N  1 S)
set_option maxRecDepth 100000 in
set_option maxHeartbeats 4000000 in
theorem c_isDate {S : rS} {r : Int32} (hR : RR b0 h Z) (hm : m_isDate N  S = some r) : Ct l D vwCl (tyL dA) b0 Z y_isDate (.code y_isDate cb_isDate 3 (some .boolean) :: wsA) 1 21 [.ref h] (rH dA h S hp0) sz (some (.int r)) (rH dA h S hp0) 0 0 := by
  refine ct_of (cc := cb_isDate) (maxL := 3) (ret := (some .boolean)) (lo0 := [some (.ref h), none, none]) hR.2 (by decide) rfl (by simp [lg_sl, Value.category]) rfl (by simp [lx_all, lv_args, Value.category]) ?_
  intro p e s m args below meth c ls B hnm hl I
  obtain ⟨hx, hb, -⟩ := B.1
  unfold m_isDate at hm
  refine lv_aload_n (pc := 0) (i := 0) hx hb d_isDate_0 rfl (lx_get hl rfl) ?_
  refine r_get (pc := 1) (k := 3) (index := 76) B I (by decide) mF_76 rfl rfl d_isDate_1 ?_
  refine lv_iconst (pc := 4) (v := 4) hx hb d_isDate_4 (by decide) ?_
  refine lv_iadd (pc := 5) hx hb d_isDate_5 ?_
  refine lv_aload_n (pc := 6) (i := 0) hx hb d_isDate_6 rfl (lx_get hl rfl) ?_
  refine r_get (pc := 7) (k := 1) (index := 73) B I (by decide) mF_73 rfl rfl d_isDate_7 ?_
  refine lv_icmp_ge (pc := 10) (tgt := 17) hx hb d_isDate_10 (by decide) (fun hc => ?_) (fun hc => ?_)
  · have hm := ift hc hm
    refine lv_iconst (pc := 17) (v := 0) hx hb d_isDate_17 (by decide) ?_
    exact w_isDate_18  B hR hl I hm
  · have hm := iff' hc hm
    refine lv_iconst (pc := 13) (v := 1) hx hb d_isDate_13 (by decide) ?_
    refine lv_goto (pc := 14) (tgt := 18) hx hb d_isDate_14 (by decide) ?_
    exact w_isDate_18  B hR hl I hm
def m_two_4F (N : Nat) (K4 : Int32 → Int32 → rS → Option (Int32 × rS)) (y1 : Int32) (y2 : Int32) (S : rS) : Option (Int32 × rS) :=
  if 2 ≤ y2 then (some (y1, S)) else (b1 (m_here N S) (fun x2 => b1 (m_isDigit N x2 S) (fun x4 => if x4 = 0 then (b1 (rP S 4 (S.1 3)) (fun S9 => some ((-1), S9))) else (b1 (m_here N S) (fun x6 => b1 (rP S 3 ((S.1 3) + 1)) (fun S7 => K4 (((10 * y1) + x6) - 48) (y2 + 1) S7))))))
def m_two_4 (N : Nat) : Nat → Int32 → Int32 → rS → Option (Int32 × rS)
  | 0, _, _, _ => none
  | k + 1, y1, y2, S => m_two_4F N  (m_two_4 N  k) y1 y2 S
set_option maxRecDepth 100000 in
set_option maxHeartbeats 4000000 in
theorem w_two_4F {K4 : Int32 → Int32 → rS → Option (Int32 × rS)} {y1 : Int32} {y2 : Int32} {S : rS} (hK4 : ∀ (y1 : Int32) (y2 : Int32) (S : rS) (ls : Array Slot) (H : Heap) (locs : List Loc), lx ls [some (.ref h), some (.int y1), some (.int y2)] → AI D vwCl b0 (rH dA h S hp0) sz s.heap H locs → K4 y1 y2 S = some (r, S') → W p l e { frames := 1, cells := 0, slots := 0, locals := 21 } s m args below meth c H locs 0 0 (MQ below (CQ D vwCl b0 (some (.int r)) (rH dA h S' hp0) sz) args s 0 0 (fun q => b0 ≤ q)) (F0 m 4 ls [])) (B : BX p m c cb_two 3 s args (.code y_two cb_two 3 (some .int) :: wsA) RREF meth (some .int) D vwCl (tyL dA) b0 Z) (hR : RR b0 h Z) (hl : lx ls [some (.ref h), some (.int y1), some (.int y2)]) (I : AI D vwCl b0 (rH dA h S hp0) sz s.heap H locs)  (hm : m_two_4F N  K4 y1 y2 S = some (r, S')) : W p l e { frames := 1, cells := 0, slots := 0, locals := 21 } s m args below meth c H locs 0 0 (MQ below (CQ D vwCl b0 (some (.int r)) (rH dA h S' hp0) sz) args s 0 0 (fun q => b0 ≤ q)) (F0 m 4 ls []) := by
  obtain ⟨hx, hb, -⟩ := B.1
  unfold m_two_4F at hm
  refine lv_iload_n (pc := 4) (i := 2) hx hb d_two_4 rfl (lx_get hl rfl) ?_
  refine lv_iconst (pc := 5) (v := 2) hx hb d_two_5 (by decide) ?_
  refine lv_icmp_ge (pc := 6) (tgt := 59) hx hb d_two_6 (by decide) (fun hc => ?_) (fun hc => ?_)
  · have hm := ift hc hm
    refine lv_iload_n (pc := 59) (i := 1) hx hb d_two_59 rfl (lx_get hl rfl) ?_
    cases hm
    exact q_iret (pc := 60) B I rfl d_two_60
  · have hm := iff' hc hm
    refine lv_aload_n (pc := 9) (i := 0) hx hb d_two_9 rfl (lx_get hl rfl) ?_
    refine lv_aload_n (pc := 10) (i := 0) hx hb d_two_10 rfl (lx_get hl rfl) ?_
    refine ob1 hm (fun x2 e1 hm => ?_)
    refine r_call (pc := 11) (As := []) (rest := [.ref h]) B hl rfl I (c_here hR e1) kw_here rfl (by decide) (by decide) rfl (by simp [Value.category]) d_two_11 (fun H locs I => ?_)
    refine ob1 hm (fun x4 e3 hm => ?_)
    refine r_call (pc := 14) (As := [.int x2]) (rest := []) B hl rfl I (c_isDigit hR e3) kw_isDigit rfl (by decide) (by decide) rfl (by simp [Value.category]) d_two_14 (fun H locs I => ?_)
    refine lv_if_ne (pc := 17) (tgt := 30) hx hb d_two_17 (by decide) (fun hc => ?_) (fun hc => ?_)
    · have hm := iff' hc hm
      refine lv_bipush (pc := 30) (v := 10) hx hb d_two_30 (by decide) ?_
      refine lv_iload_n (pc := 32) (i := 1) hx hb d_two_32 rfl (lx_get hl rfl) ?_
      refine lv_imul (pc := 33) hx hb d_two_33 ?_
      refine lv_aload_n (pc := 34) (i := 0) hx hb d_two_34 rfl (lx_get hl rfl) ?_
      refine ob1 hm (fun x6 e5 hm => ?_)
      refine r_call (pc := 35) (As := []) (rest := [.int (10 * y1)]) B hl rfl I (c_here hR e5) kw_here rfl (by decide) (by decide) rfl (by simp [Value.category]) d_two_35 (fun H locs I => ?_)
      refine lv_iadd (pc := 38) hx hb d_two_38 ?_
      refine lv_bipush (pc := 39) (v := 48) hx hb d_two_39 (by decide) ?_
      refine lv_isub (pc := 41) hx hb d_two_41 ?_
      refine q_istore_n (pc := 42) (i := 1) (lo' := [some (.ref h), some (.int (((10 * y1) + x6) - 48)), some (.int y2)]) hx hb d_two_42 rfl hl (Nat.le_of_ble_eq_true rfl) (lx_cr rfl) rfl (fun ls hl => ?_)
      refine lv_aload_n (pc := 43) (i := 0) hx hb d_two_43 rfl (lx_get hl rfl) ?_
      refine lv_dup (pc := 44) hx hb d_two_44 rfl ?_
      refine r_get (pc := 45) (k := 3) (index := 76) B I (by decide) mF_76 rfl rfl d_two_45 ?_
      refine lv_iconst (pc := 48) (v := 1) hx hb d_two_48 (by decide) ?_
      refine lv_iadd (pc := 49) hx hb d_two_49 ?_
      refine ob1 hm (fun S7 e8 hm => ?_)
      refine r_put (pc := 50) (k := 3) (index := 76) B hR I (by decide) mF_76 rfl rfl rfl (fun _ _ => rfl) e8 d_two_50 (fun H locs I => ?_)
      refine q_iinc (pc := 53) (i := 2) (v := y2 + 1) (lo' := [some (.ref h), some (.int (((10 * y1) + x6) - 48)), some (.int (y2 + 1))]) hx hb d_two_53 hl rfl rfl (Nat.le_of_ble_eq_true rfl) (lx_ci rfl) rfl (fun ls hl => ?_)
      refine lv_goto (pc := 56) (tgt := 4) hx hb d_two_56 (by decide) ?_
      exact hK4 _ _ _ _ _ _ hl I hm
    · have hm := ift hc hm
      refine lv_aload_n (pc := 20) (i := 0) hx hb d_two_20 rfl (lx_get hl rfl) ?_
      refine lv_aload_n (pc := 21) (i := 0) hx hb d_two_21 rfl (lx_get hl rfl) ?_
      refine r_get (pc := 22) (k := 3) (index := 76) B I (by decide) mF_76 rfl rfl d_two_22 ?_
      refine ob1 hm (fun S9 e10 hm => ?_)
      refine r_put (pc := 25) (k := 4) (index := 79) B hR I (by decide) mF_79 rfl rfl rfl (fun _ _ => rfl) e10 d_two_25 (fun H locs I => ?_)
      refine lv_iconst (pc := 28) (v := (-1)) hx hb d_two_28 (by decide) ?_
      cases hm
      exact q_iret (pc := 29) B I rfl d_two_29
set_option maxRecDepth 100000 in
set_option maxHeartbeats 4000000 in
theorem w_two_4i (B : BX p m c cb_two 3 s args (.code y_two cb_two 3 (some .int) :: wsA) RREF meth (some .int) D vwCl (tyL dA) b0 Z) (hR : RR b0 h Z) (k : Nat) (y1 : Int32) (y2 : Int32) (S : rS) (ls : Array Slot) (H : Heap) (locs : List Loc) (hl : lx ls [some (.ref h), some (.int y1), some (.int y2)]) (I : AI D vwCl b0 (rH dA h S hp0) sz s.heap H locs)  (hm : m_two_4 N  k y1 y2 S = some (r, S')) : W p l e { frames := 1, cells := 0, slots := 0, locals := 21 } s m args below meth c H locs 0 0 (MQ below (CQ D vwCl b0 (some (.int r)) (rH dA h S' hp0) sz) args s 0 0 (fun q => b0 ≤ q)) (F0 m 4 ls []) := by
  induction k generalizing y1 y2 S ls H locs with
  | zero => cases hm
  | succ k ih => exact w_two_4F  (fun y1 y2 S ls H locs hl I hm => ih y1 y2 S ls H locs hl I hm) B hR hl I hm
theorem w_two_4 {y1 : Int32} {y2 : Int32} {S : rS} (B : BX p m c cb_two 3 s args (.code y_two cb_two 3 (some .int) :: wsA) RREF meth (some .int) D vwCl (tyL dA) b0 Z) (hR : RR b0 h Z) (hl : lx ls [some (.ref h), some (.int y1), some (.int y2)]) (I : AI D vwCl b0 (rH dA h S hp0) sz s.heap H locs)  {k : Nat} (hm : m_two_4 N  k y1 y2 S = some (r, S')) : W p l e { frames := 1, cells := 0, slots := 0, locals := 21 } s m args below meth c H locs 0 0 (MQ below (CQ D vwCl b0 (some (.int r)) (rH dA h S' hp0) sz) args s 0 0 (fun q => b0 ≤ q)) (F0 m 4 ls []) := w_two_4i  B hR k _ _ S ls H locs hl I hm
def m_two (N : Nat) (S : rS) : Option (Int32 × rS) :=
  m_two_4 N  N 0 0 S
set_option maxRecDepth 100000 in
set_option maxHeartbeats 4000000 in
theorem c_two {S S' : rS} {r : Int32} (hR : RR b0 h Z) (hm : m_two N  S = some (r, S')) : Ct l D vwCl (tyL dA) b0 Z y_two (.code y_two cb_two 3 (some .int) :: wsA) 1 21 [.ref h] (rH dA h S hp0) sz (some (.int r)) (rH dA h S' hp0) 0 0 := by
  refine ct_of (cc := cb_two) (maxL := 3) (ret := (some .int)) (lo0 := [some (.ref h), none, none]) hR.2 (by decide) rfl (by simp [lg_sl, Value.category]) rfl (by simp [lx_all, lv_args, Value.category]) ?_
  intro p e s m args below meth c ls B hnm hl I
  obtain ⟨hx, hb, -⟩ := B.1
  unfold m_two at hm
  refine lv_iconst (pc := 0) (v := 0) hx hb d_two_0 (by decide) ?_
  refine q_istore_n (pc := 1) (i := 1) (lo' := [some (.ref h), some (.int 0), none]) hx hb d_two_1 rfl hl (Nat.le_of_ble_eq_true rfl) (lx_cr rfl) rfl (fun ls hl => ?_)
  refine lv_iconst (pc := 2) (v := 0) hx hb d_two_2 (by decide) ?_
  refine q_istore_n (pc := 3) (i := 2) (lo' := [some (.ref h), some (.int 0), some (.int 0)]) hx hb d_two_3 rfl hl (Nat.le_of_ble_eq_true rfl) (lx_ci rfl) rfl (fun ls hl => ?_)
  exact w_two_4  B hR hl I hm
def m_daysOf (N : Nat) (p1 : Int32) (p2 : Int32) (S : rS) : Option Int32 :=
  if p2 = 2 then (if p1 - p1 / 400 * 400 = 0 then (some 29) else (if p1 - p1 / 4 * 4 = 0 then (if p1 - p1 / 100 * 100 = 0 then (some 28) else (some 29)) else (some 28))) else (if p2 = 4 then (some 30) else (if p2 = 6 then (some 30) else (if p2 = 9 then (some 30) else (if p2 = 11 then (some 30) else (some 31)))))
set_option maxRecDepth 100000 in
set_option maxHeartbeats 4000000 in
theorem c_daysOf {p1 : Int32} {p2 : Int32} {S : rS} {r : Int32} (hR : RR b0 h Z) (hm : m_daysOf N p1 p2 S = some r) : Ct l D vwCl (tyL dA) b0 Z y_daysOf (.code y_daysOf cb_daysOf 3 (some .int) :: wsA) 0 0 [.ref h, .int p1, .int p2] (rH dA h S hp0) sz (some (.int r)) (rH dA h S hp0) 0 0 := by
  refine ct_of (cc := cb_daysOf) (maxL := 3) (ret := (some .int)) (lo0 := [some (.ref h), some (.int p1), some (.int p2)]) hR.2 (by decide) rfl (by simp [lg_sl, Value.category]) rfl (by simp [lx_all, lv_args, Value.category]) ?_
  intro p e s m args below meth c ls B hnm hl I
  obtain ⟨hx, hb, -⟩ := B.1
  unfold m_daysOf at hm
  refine lv_iload_n (pc := 0) (i := 2) hx hb d_daysOf_0 rfl (lx_get hl rfl) ?_
  refine lv_iconst (pc := 1) (v := 2) hx hb d_daysOf_1 (by decide) ?_
  refine lv_icmp_ne (pc := 2) (tgt := 34) hx hb d_daysOf_2 (by decide) (fun hc => ?_) (fun hc => ?_)
  · have hm := iff' hc hm
    refine lv_iload_n (pc := 34) (i := 2) hx hb d_daysOf_34 rfl (lx_get hl rfl) ?_
    refine lv_iconst (pc := 35) (v := 4) hx hb d_daysOf_35 (by decide) ?_
    refine lv_icmp_eq (pc := 36) (tgt := 57) hx hb d_daysOf_36 (by decide) (fun hc => ?_) (fun hc => ?_)
    · have hm := ift hc hm
      refine lv_bipush (pc := 57) (v := 30) hx hb d_daysOf_57 (by decide) ?_
      refine lv_goto (pc := 59) (tgt := 64) hx hb d_daysOf_59 (by decide) ?_
      cases hm
      exact q_iret (pc := 64) B I rfl d_daysOf_64
    · have hm := iff' hc hm
      refine lv_iload_n (pc := 39) (i := 2) hx hb d_daysOf_39 rfl (lx_get hl rfl) ?_
      refine lv_bipush (pc := 40) (v := 6) hx hb d_daysOf_40 (by decide) ?_
      refine lv_icmp_eq (pc := 42) (tgt := 57) hx hb d_daysOf_42 (by decide) (fun hc => ?_) (fun hc => ?_)
      · have hm := ift hc hm
        refine lv_bipush (pc := 57) (v := 30) hx hb d_daysOf_57 (by decide) ?_
        refine lv_goto (pc := 59) (tgt := 64) hx hb d_daysOf_59 (by decide) ?_
        cases hm
        exact q_iret (pc := 64) B I rfl d_daysOf_64
      · have hm := iff' hc hm
        refine lv_iload_n (pc := 45) (i := 2) hx hb d_daysOf_45 rfl (lx_get hl rfl) ?_
        refine lv_bipush (pc := 46) (v := 9) hx hb d_daysOf_46 (by decide) ?_
        refine lv_icmp_eq (pc := 48) (tgt := 57) hx hb d_daysOf_48 (by decide) (fun hc => ?_) (fun hc => ?_)
        · have hm := ift hc hm
          refine lv_bipush (pc := 57) (v := 30) hx hb d_daysOf_57 (by decide) ?_
          refine lv_goto (pc := 59) (tgt := 64) hx hb d_daysOf_59 (by decide) ?_
          cases hm
          exact q_iret (pc := 64) B I rfl d_daysOf_64
        · have hm := iff' hc hm
          refine lv_iload_n (pc := 51) (i := 2) hx hb d_daysOf_51 rfl (lx_get hl rfl) ?_
          refine lv_bipush (pc := 52) (v := 11) hx hb d_daysOf_52 (by decide) ?_
          refine lv_icmp_ne (pc := 54) (tgt := 62) hx hb d_daysOf_54 (by decide) (fun hc => ?_) (fun hc => ?_)
          · have hm := iff' hc hm
            refine lv_bipush (pc := 62) (v := 31) hx hb d_daysOf_62 (by decide) ?_
            cases hm
            exact q_iret (pc := 64) B I rfl d_daysOf_64
          · have hm := ift hc hm
            refine lv_bipush (pc := 57) (v := 30) hx hb d_daysOf_57 (by decide) ?_
            refine lv_goto (pc := 59) (tgt := 64) hx hb d_daysOf_59 (by decide) ?_
            cases hm
            exact q_iret (pc := 64) B I rfl d_daysOf_64
  · have hm := ift hc hm
    refine lv_iload_n (pc := 5) (i := 1) hx hb d_daysOf_5 rfl (lx_get hl rfl) ?_
    refine lv_sipush (pc := 6) (v := 400) hx hb d_daysOf_6 (by decide) ?_
    refine lv_irem (pc := 9) hx hb d_daysOf_9 (by decide) ?_
    refine lv_if_eq (pc := 10) (tgt := 26) hx hb d_daysOf_10 (by decide) (fun hc => ?_) (fun hc => ?_)
    · have hm := ift hc hm
      refine lv_bipush (pc := 26) (v := 29) hx hb d_daysOf_26 (by decide) ?_
      refine lv_goto (pc := 28) (tgt := 33) hx hb d_daysOf_28 (by decide) ?_
      cases hm
      exact q_iret (pc := 33) B I rfl d_daysOf_33
    · have hm := iff' hc hm
      refine lv_iload_n (pc := 13) (i := 1) hx hb d_daysOf_13 rfl (lx_get hl rfl) ?_
      refine lv_iconst (pc := 14) (v := 4) hx hb d_daysOf_14 (by decide) ?_
      refine lv_irem (pc := 15) hx hb d_daysOf_15 (by decide) ?_
      refine lv_if_ne (pc := 16) (tgt := 31) hx hb d_daysOf_16 (by decide) (fun hc => ?_) (fun hc => ?_)
      · have hm := iff' hc hm
        refine lv_bipush (pc := 31) (v := 28) hx hb d_daysOf_31 (by decide) ?_
        cases hm
        exact q_iret (pc := 33) B I rfl d_daysOf_33
      · have hm := ift hc hm
        refine lv_iload_n (pc := 19) (i := 1) hx hb d_daysOf_19 rfl (lx_get hl rfl) ?_
        refine lv_bipush (pc := 20) (v := 100) hx hb d_daysOf_20 (by decide) ?_
        refine lv_irem (pc := 22) hx hb d_daysOf_22 (by decide) ?_
        refine lv_if_eq (pc := 23) (tgt := 31) hx hb d_daysOf_23 (by decide) (fun hc => ?_) (fun hc => ?_)
        · have hm := ift hc hm
          refine lv_bipush (pc := 31) (v := 28) hx hb d_daysOf_31 (by decide) ?_
          cases hm
          exact q_iret (pc := 33) B I rfl d_daysOf_33
        · have hm := iff' hc hm
          refine lv_bipush (pc := 26) (v := 29) hx hb d_daysOf_26 (by decide) ?_
          refine lv_goto (pc := 28) (tgt := 33) hx hb d_daysOf_28 (by decide) ?_
          cases hm
          exact q_iret (pc := 33) B I rfl d_daysOf_33
def m_date_71 (N : Nat) (S : rS) : Option (Int32 × rS) :=
  b2 (m_fail N ((S.1 3) - 2) S) (fun x2 S3 => if x2 = 0 ∨ x2 = 1 then (some (x2, S3)) else none)
set_option maxRecDepth 100000 in
set_option maxHeartbeats 4000000 in
theorem w_date_71 {S : rS} (B : BX p m c cb_date 5 s args (.code y_date cb_date 5 (some .boolean) :: wsA) RREF meth (some .boolean) D vwCl (tyL dA) b0 Z) (hR : RR b0 h Z) (hl : lx ls [some (.ref h), none, none, none, none]) (I : AI D vwCl b0 (rH dA h S hp0) sz s.heap H locs)  (hm : m_date_71 N   S = some (r, S')) : W p l e { frames := 2, cells := 0, slots := 0, locals := 43 } s m args below meth c H locs 0 0 (MQ below (CQ D vwCl b0 (some (.int r)) (rH dA h S' hp0) sz) args s 0 0 (fun q => b0 ≤ q)) (F0 m 71 ls []) := by
  obtain ⟨hx, hb, -⟩ := B.1
  unfold m_date_71 at hm
  refine lv_aload_n (pc := 71) (i := 0) hx hb d_date_71 rfl (lx_get hl rfl) ?_
  refine lv_aload_n (pc := 72) (i := 0) hx hb d_date_72 rfl (lx_get hl rfl) ?_
  refine r_get (pc := 73) (k := 3) (index := 76) B I (by decide) mF_76 rfl rfl d_date_73 ?_
  refine lv_iconst (pc := 76) (v := 2) hx hb d_date_76 (by decide) ?_
  refine lv_isub (pc := 77) hx hb d_date_77 ?_
  refine ob2 hm (fun x2 S3 e1 hm => ?_)
  refine r_call (pc := 78) (As := [.int ((S.1 3) - 2)]) (rest := []) B hl rfl I (c_fail hR e1) kw_fail rfl (by decide) (by decide) rfl (by simp [Value.category]) d_date_78 (fun H locs I => ?_)
  by_cases hq : x2 = 0 ∨ x2 = 1
  · have hm := ift hq hm
    cases hm
    exact q_zret (pc := 81) B I rfl (zn hq) d_date_81
  · have hm := iff' hq hm
    cases hm
def m_date_141 (N : Nat) (S : rS) : Option (Int32 × rS) :=
  b2 (m_fail N ((S.1 3) - 2) S) (fun x2 S3 => if x2 = 0 ∨ x2 = 1 then (some (x2, S3)) else none)
set_option maxRecDepth 100000 in
set_option maxHeartbeats 4000000 in
theorem w_date_141 {S : rS} (B : BX p m c cb_date 5 s args (.code y_date cb_date 5 (some .boolean) :: wsA) RREF meth (some .boolean) D vwCl (tyL dA) b0 Z) (hR : RR b0 h Z) (hl : lx ls [some (.ref h), none, none, none, none]) (I : AI D vwCl b0 (rH dA h S hp0) sz s.heap H locs)  (hm : m_date_141 N   S = some (r, S')) : W p l e { frames := 2, cells := 0, slots := 0, locals := 43 } s m args below meth c H locs 0 0 (MQ below (CQ D vwCl b0 (some (.int r)) (rH dA h S' hp0) sz) args s 0 0 (fun q => b0 ≤ q)) (F0 m 141 ls []) := by
  obtain ⟨hx, hb, -⟩ := B.1
  unfold m_date_141 at hm
  refine lv_aload_n (pc := 141) (i := 0) hx hb d_date_141 rfl (lx_get hl rfl) ?_
  refine lv_aload_n (pc := 142) (i := 0) hx hb d_date_142 rfl (lx_get hl rfl) ?_
  refine r_get (pc := 143) (k := 3) (index := 76) B I (by decide) mF_76 rfl rfl d_date_143 ?_
  refine lv_iconst (pc := 146) (v := 2) hx hb d_date_146 (by decide) ?_
  refine lv_isub (pc := 147) hx hb d_date_147 ?_
  refine ob2 hm (fun x2 S3 e1 hm => ?_)
  refine r_call (pc := 148) (As := [.int ((S.1 3) - 2)]) (rest := []) B hl rfl I (c_fail hR e1) kw_fail rfl (by decide) (by decide) rfl (by simp [Value.category]) d_date_148 (fun H locs I => ?_)
  by_cases hq : x2 = 0 ∨ x2 = 1
  · have hm := ift hq hm
    cases hm
    exact q_zret (pc := 151) B I rfl (zn hq) d_date_151
  · have hm := iff' hq hm
    cases hm
def m_date_4F (N : Nat) (K4 : Int32 → Int32 → Int32 → rS → Option (Int32 × rS)) (y1 : Int32) (y2 : Int32) (y3 : Int32) (S : rS) : Option (Int32 × rS) :=
  if 4 ≤ y3 then (b1 (rP S 3 ((S.1 3) + 1)) (fun S1 => b2 (m_two N S1) (fun x4 S5 => if x4 = (-1) then (some (0, S5)) else (if x4 < 1 then (m_date_71 N  S5) else (if x4 ≤ 12 then (b1 (m_here N S5) (fun x7 => if x7 = 45 then (b1 (rP S5 3 ((S5.1 3) + 1)) (fun S8 => b2 (m_two N S8) (fun x11 S12 => if x11 = (-1) then (some (0, S12)) else (if x11 < 1 then (m_date_141 N  S12) else (b1 (m_daysOf N y2 x4 S12) (fun x14 => if x11 ≤ x14 then (b1 (rT S12 3 y1 4) (fun S15 => b1 (rT S15 4 y1 (((10000 * y2) + (100 * x4)) + x11)) (fun S17 => some (1, S17)))) else (m_date_141 N  S12))))))) else (b2 (m_fail N (S5.1 3) S5) (fun x20 S21 => if x20 = 0 ∨ x20 = 1 then (some (x20, S21)) else none)))) else (m_date_71 N  S5)))))) else (b1 (m_here N S) (fun x23 => b1 (rP S 3 ((S.1 3) + 1)) (fun S24 => K4 y1 (((10 * y2) + x23) - 48) (y3 + 1) S24)))
def m_date_4 (N : Nat) : Nat → Int32 → Int32 → Int32 → rS → Option (Int32 × rS)
  | 0, _, _, _, _ => none
  | k + 1, y1, y2, y3, S => m_date_4F N  (m_date_4 N  k) y1 y2 y3 S
set_option maxRecDepth 100000 in
set_option maxHeartbeats 4000000 in
theorem w_date_4F {K4 : Int32 → Int32 → Int32 → rS → Option (Int32 × rS)} {y1 : Int32} {y2 : Int32} {y3 : Int32} {S : rS} (hK4 : ∀ (y1 : Int32) (y2 : Int32) (y3 : Int32) (S : rS) (ls : Array Slot) (H : Heap) (locs : List Loc), lx ls [some (.ref h), some (.int y1), some (.int y2), some (.int y3), none] → AI D vwCl b0 (rH dA h S hp0) sz s.heap H locs → K4 y1 y2 y3 S = some (r, S') → W p l e { frames := 2, cells := 0, slots := 0, locals := 43 } s m args below meth c H locs 0 0 (MQ below (CQ D vwCl b0 (some (.int r)) (rH dA h S' hp0) sz) args s 0 0 (fun q => b0 ≤ q)) (F0 m 4 ls [])) (B : BX p m c cb_date 5 s args (.code y_date cb_date 5 (some .boolean) :: wsA) RREF meth (some .boolean) D vwCl (tyL dA) b0 Z) (hR : RR b0 h Z) (hl : lx ls [some (.ref h), some (.int y1), some (.int y2), some (.int y3), none]) (I : AI D vwCl b0 (rH dA h S hp0) sz s.heap H locs)  (hm : m_date_4F N  K4 y1 y2 y3 S = some (r, S')) : W p l e { frames := 2, cells := 0, slots := 0, locals := 43 } s m args below meth c H locs 0 0 (MQ below (CQ D vwCl b0 (some (.int r)) (rH dA h S' hp0) sz) args s 0 0 (fun q => b0 ≤ q)) (F0 m 4 ls []) := by
  obtain ⟨hx, hb, -⟩ := B.1
  unfold m_date_4F at hm
  refine lv_iload_n (pc := 4) (i := 3) hx hb d_date_4 rfl (lx_get hl rfl) ?_
  refine lv_iconst (pc := 5) (v := 4) hx hb d_date_5 (by decide) ?_
  refine lv_icmp_ge (pc := 6) (tgt := 38) hx hb d_date_6 (by decide) (fun hc => ?_) (fun hc => ?_)
  · have hm := ift hc hm
    refine lv_aload_n (pc := 38) (i := 0) hx hb d_date_38 rfl (lx_get hl rfl) ?_
    refine lv_dup (pc := 39) hx hb d_date_39 rfl ?_
    refine r_get (pc := 40) (k := 3) (index := 76) B I (by decide) mF_76 rfl rfl d_date_40 ?_
    refine lv_iconst (pc := 43) (v := 1) hx hb d_date_43 (by decide) ?_
    refine lv_iadd (pc := 44) hx hb d_date_44 ?_
    refine ob1 hm (fun S1 e2 hm => ?_)
    refine r_put (pc := 45) (k := 3) (index := 76) B hR I (by decide) mF_76 rfl rfl rfl (fun _ _ => rfl) e2 d_date_45 (fun H locs I => ?_)
    refine lv_aload_n (pc := 48) (i := 0) hx hb d_date_48 rfl (lx_get hl rfl) ?_
    refine ob2 hm (fun x4 S5 e3 hm => ?_)
    refine r_call (pc := 49) (As := []) (rest := []) B hl rfl I (c_two hR e3) kw_two rfl (by decide) (by decide) rfl (by simp [Value.category]) d_date_49 (fun H locs I => ?_)
    refine q_istore_n (pc := 52) (i := 3) (lo' := [some (.ref h), some (.int y1), some (.int y2), some (.int x4), none]) hx hb d_date_52 rfl hl (Nat.le_of_ble_eq_true rfl) (lx_ci rfl) rfl (fun ls hl => ?_)
    refine lv_iload_n (pc := 53) (i := 3) hx hb d_date_53 rfl (lx_get hl rfl) ?_
    refine lv_iconst (pc := 54) (v := (-1)) hx hb d_date_54 (by decide) ?_
    refine lv_icmp_ne (pc := 55) (tgt := 60) hx hb d_date_55 (by decide) (fun hc => ?_) (fun hc => ?_)
    · have hm := iff' hc hm
      refine lv_iload_n (pc := 60) (i := 3) hx hb d_date_60 rfl (lx_get hl rfl) ?_
      refine lv_iconst (pc := 61) (v := 1) hx hb d_date_61 (by decide) ?_
      refine lv_icmp_lt (pc := 62) (tgt := 71) hx hb d_date_62 (by decide) (fun hc => ?_) (fun hc => ?_)
      · have hm := ift hc hm
        exact w_date_71  B hR (lx_sub (lo' := [some (.ref h), none, none, none, none]) hl (by simp [lx_le])) I hm
      · have hm := iff' hc hm
        refine lv_iload_n (pc := 65) (i := 3) hx hb d_date_65 rfl (lx_get hl rfl) ?_
        refine lv_bipush (pc := 66) (v := 12) hx hb d_date_66 (by decide) ?_
        refine lv_icmp_le (pc := 68) (tgt := 82) hx hb d_date_68 (by decide) (fun hc => ?_) (fun hc => ?_)
        · have hm := ift hc hm
          refine lv_aload_n (pc := 82) (i := 0) hx hb d_date_82 rfl (lx_get hl rfl) ?_
          refine ob1 hm (fun x7 e6 hm => ?_)
          refine r_call (pc := 83) (As := []) (rest := []) B hl rfl I (c_here hR e6) kw_here rfl (by decide) (by decide) rfl (by simp [Value.category]) d_date_83 (fun H locs I => ?_)
          refine lv_bipush (pc := 86) (v := 45) hx hb d_date_86 (by decide) ?_
          refine lv_icmp_eq (pc := 88) (tgt := 100) hx hb d_date_88 (by decide) (fun hc => ?_) (fun hc => ?_)
          · have hm := ift hc hm
            refine lv_aload_n (pc := 100) (i := 0) hx hb d_date_100 rfl (lx_get hl rfl) ?_
            refine lv_dup (pc := 101) hx hb d_date_101 rfl ?_
            refine r_get (pc := 102) (k := 3) (index := 76) B I (by decide) mF_76 rfl rfl d_date_102 ?_
            refine lv_iconst (pc := 105) (v := 1) hx hb d_date_105 (by decide) ?_
            refine lv_iadd (pc := 106) hx hb d_date_106 ?_
            refine ob1 hm (fun S8 e9 hm => ?_)
            refine r_put (pc := 107) (k := 3) (index := 76) B hR I (by decide) mF_76 rfl rfl rfl (fun _ _ => rfl) e9 d_date_107 (fun H locs I => ?_)
            refine lv_aload_n (pc := 110) (i := 0) hx hb d_date_110 rfl (lx_get hl rfl) ?_
            refine ob2 hm (fun x11 S12 e10 hm => ?_)
            refine r_call (pc := 111) (As := []) (rest := []) B hl rfl I (c_two hR e10) kw_two rfl (by decide) (by decide) rfl (by simp [Value.category]) d_date_111 (fun H locs I => ?_)
            refine q_istore (pc := 114) (i := 4) (lo' := [some (.ref h), some (.int y1), some (.int y2), some (.int x4), some (.int x11)]) hx hb d_date_114 hl (Nat.le_of_ble_eq_true rfl) (lx_ci rfl) rfl (fun ls hl => ?_)
            refine lv_iload (pc := 116) (i := 4) hx hb d_date_116 (lx_get hl rfl) ?_
            refine lv_iconst (pc := 118) (v := (-1)) hx hb d_date_118 (by decide) ?_
            refine lv_icmp_ne (pc := 119) (tgt := 124) hx hb d_date_119 (by decide) (fun hc => ?_) (fun hc => ?_)
            · have hm := iff' hc hm
              refine lv_iload (pc := 124) (i := 4) hx hb d_date_124 (lx_get hl rfl) ?_
              refine lv_iconst (pc := 126) (v := 1) hx hb d_date_126 (by decide) ?_
              refine lv_icmp_lt (pc := 127) (tgt := 141) hx hb d_date_127 (by decide) (fun hc => ?_) (fun hc => ?_)
              · have hm := ift hc hm
                exact w_date_141  B hR (lx_sub (lo' := [some (.ref h), none, none, none, none]) hl (by simp [lx_le])) I hm
              · have hm := iff' hc hm
                refine lv_iload (pc := 130) (i := 4) hx hb d_date_130 (lx_get hl rfl) ?_
                refine lv_aload_n (pc := 132) (i := 0) hx hb d_date_132 rfl (lx_get hl rfl) ?_
                refine lv_iload_n (pc := 133) (i := 2) hx hb d_date_133 rfl (lx_get hl rfl) ?_
                refine lv_iload_n (pc := 134) (i := 3) hx hb d_date_134 rfl (lx_get hl rfl) ?_
                refine ob1 hm (fun x14 e13 hm => ?_)
                refine r_call (pc := 135) (As := [.int y2, .int x4]) (rest := [.int x11]) B hl rfl I (c_daysOf hR e13) kw_daysOf rfl (by decide) (by decide) rfl (by simp [Value.category]) d_date_135 (fun H locs I => ?_)
                refine lv_icmp_le (pc := 138) (tgt := 152) hx hb d_date_138 (by decide) (fun hc => ?_) (fun hc => ?_)
                · have hm := ift hc hm
                  refine lv_aload_n (pc := 152) (i := 0) hx hb d_date_152 rfl (lx_get hl rfl) ?_
                  refine r_get (pc := 153) (k := 7) (index := 16) B I (by decide) mF_16 rfl rfl d_date_153 ?_
                  refine lv_iload_n (pc := 156) (i := 1) hx hb d_date_156 rfl (lx_get hl rfl) ?_
                  refine lv_iconst (pc := 157) (v := 4) hx hb d_date_157 (by decide) ?_
                  refine ob1 hm (fun S15 e16 hm => ?_)
                  refine r_ast (pc := 158) (j := 3) B hR I (by decide) (by decide) e16 d_date_158 (fun H locs I => ?_)
                  refine lv_aload_n (pc := 159) (i := 0) hx hb d_date_159 rfl (lx_get hl rfl) ?_
                  refine r_get (pc := 160) (k := 8) (index := 19) B I (by decide) mF_19 rfl rfl d_date_160 ?_
                  refine lv_iload_n (pc := 163) (i := 1) hx hb d_date_163 rfl (lx_get hl rfl) ?_
                  refine lv_sipush (pc := 164) (v := 10000) hx hb d_date_164 (by decide) ?_
                  refine lv_iload_n (pc := 167) (i := 2) hx hb d_date_167 rfl (lx_get hl rfl) ?_
                  refine lv_imul (pc := 168) hx hb d_date_168 ?_
                  refine lv_bipush (pc := 169) (v := 100) hx hb d_date_169 (by decide) ?_
                  refine lv_iload_n (pc := 171) (i := 3) hx hb d_date_171 rfl (lx_get hl rfl) ?_
                  refine lv_imul (pc := 172) hx hb d_date_172 ?_
                  refine lv_iadd (pc := 173) hx hb d_date_173 ?_
                  refine lv_iload (pc := 174) (i := 4) hx hb d_date_174 (lx_get hl rfl) ?_
                  refine lv_iadd (pc := 176) hx hb d_date_176 ?_
                  refine ob1 hm (fun S17 e18 hm => ?_)
                  refine r_ast (pc := 177) (j := 4) B hR I (by decide) (by decide) e18 d_date_177 (fun H locs I => ?_)
                  refine lv_iconst (pc := 178) (v := 1) hx hb d_date_178 (by decide) ?_
                  cases hm
                  exact q_zret (pc := 179) B I rfl (by decide) d_date_179
                · have hm := iff' hc hm
                  exact w_date_141  B hR (lx_sub (lo' := [some (.ref h), none, none, none, none]) hl (by simp [lx_le])) I hm
            · have hm := ift hc hm
              refine lv_iconst (pc := 122) (v := 0) hx hb d_date_122 (by decide) ?_
              cases hm
              exact q_zret (pc := 123) B I rfl (by decide) d_date_123
          · have hm := iff' hc hm
            refine lv_aload_n (pc := 91) (i := 0) hx hb d_date_91 rfl (lx_get hl rfl) ?_
            refine lv_aload_n (pc := 92) (i := 0) hx hb d_date_92 rfl (lx_get hl rfl) ?_
            refine r_get (pc := 93) (k := 3) (index := 76) B I (by decide) mF_76 rfl rfl d_date_93 ?_
            refine ob2 hm (fun x20 S21 e19 hm => ?_)
            refine r_call (pc := 96) (As := [.int (S5.1 3)]) (rest := []) B hl rfl I (c_fail hR e19) kw_fail rfl (by decide) (by decide) rfl (by simp [Value.category]) d_date_96 (fun H locs I => ?_)
            by_cases hq : x20 = 0 ∨ x20 = 1
            · have hm := ift hq hm
              cases hm
              exact q_zret (pc := 99) B I rfl (zn hq) d_date_99
            · have hm := iff' hq hm
              cases hm
        · have hm := iff' hc hm
          exact w_date_71  B hR (lx_sub (lo' := [some (.ref h), none, none, none, none]) hl (by simp [lx_le])) I hm
    · have hm := ift hc hm
      refine lv_iconst (pc := 58) (v := 0) hx hb d_date_58 (by decide) ?_
      cases hm
      exact q_zret (pc := 59) B I rfl (by decide) d_date_59
  · have hm := iff' hc hm
    refine lv_bipush (pc := 9) (v := 10) hx hb d_date_9 (by decide) ?_
    refine lv_iload_n (pc := 11) (i := 2) hx hb d_date_11 rfl (lx_get hl rfl) ?_
    refine lv_imul (pc := 12) hx hb d_date_12 ?_
    refine lv_aload_n (pc := 13) (i := 0) hx hb d_date_13 rfl (lx_get hl rfl) ?_
    refine ob1 hm (fun x23 e22 hm => ?_)
    refine r_call (pc := 14) (As := []) (rest := [.int (10 * y2)]) B hl rfl I (c_here hR e22) kw_here rfl (by decide) (by decide) rfl (by simp [Value.category]) d_date_14 (fun H locs I => ?_)
    refine lv_iadd (pc := 17) hx hb d_date_17 ?_
    refine lv_bipush (pc := 18) (v := 48) hx hb d_date_18 (by decide) ?_
    refine lv_isub (pc := 20) hx hb d_date_20 ?_
    refine q_istore_n (pc := 21) (i := 2) (lo' := [some (.ref h), some (.int y1), some (.int (((10 * y2) + x23) - 48)), some (.int y3), none]) hx hb d_date_21 rfl hl (Nat.le_of_ble_eq_true rfl) (lx_ci rfl) rfl (fun ls hl => ?_)
    refine lv_aload_n (pc := 22) (i := 0) hx hb d_date_22 rfl (lx_get hl rfl) ?_
    refine lv_dup (pc := 23) hx hb d_date_23 rfl ?_
    refine r_get (pc := 24) (k := 3) (index := 76) B I (by decide) mF_76 rfl rfl d_date_24 ?_
    refine lv_iconst (pc := 27) (v := 1) hx hb d_date_27 (by decide) ?_
    refine lv_iadd (pc := 28) hx hb d_date_28 ?_
    refine ob1 hm (fun S24 e25 hm => ?_)
    refine r_put (pc := 29) (k := 3) (index := 76) B hR I (by decide) mF_76 rfl rfl rfl (fun _ _ => rfl) e25 d_date_29 (fun H locs I => ?_)
    refine q_iinc (pc := 32) (i := 3) (v := y3 + 1) (lo' := [some (.ref h), some (.int y1), some (.int (((10 * y2) + x23) - 48)), some (.int (y3 + 1)), none]) hx hb d_date_32 hl rfl rfl (Nat.le_of_ble_eq_true rfl) (lx_ci rfl) rfl (fun ls hl => ?_)
    refine lv_goto (pc := 35) (tgt := 4) hx hb d_date_35 (by decide) ?_
    exact hK4 _ _ _ _ _ _ _ hl I hm
set_option maxRecDepth 100000 in
set_option maxHeartbeats 4000000 in
theorem w_date_4i (B : BX p m c cb_date 5 s args (.code y_date cb_date 5 (some .boolean) :: wsA) RREF meth (some .boolean) D vwCl (tyL dA) b0 Z) (hR : RR b0 h Z) (k : Nat) (y1 : Int32) (y2 : Int32) (y3 : Int32) (S : rS) (ls : Array Slot) (H : Heap) (locs : List Loc) (hl : lx ls [some (.ref h), some (.int y1), some (.int y2), some (.int y3), none]) (I : AI D vwCl b0 (rH dA h S hp0) sz s.heap H locs)  (hm : m_date_4 N  k y1 y2 y3 S = some (r, S')) : W p l e { frames := 2, cells := 0, slots := 0, locals := 43 } s m args below meth c H locs 0 0 (MQ below (CQ D vwCl b0 (some (.int r)) (rH dA h S' hp0) sz) args s 0 0 (fun q => b0 ≤ q)) (F0 m 4 ls []) := by
  induction k generalizing y1 y2 y3 S ls H locs with
  | zero => cases hm
  | succ k ih => exact w_date_4F  (fun y1 y2 y3 S ls H locs hl I hm => ih y1 y2 y3 S ls H locs hl I hm) B hR hl I hm
theorem w_date_4 {y1 : Int32} {y2 : Int32} {y3 : Int32} {S : rS} (B : BX p m c cb_date 5 s args (.code y_date cb_date 5 (some .boolean) :: wsA) RREF meth (some .boolean) D vwCl (tyL dA) b0 Z) (hR : RR b0 h Z) (hl : lx ls [some (.ref h), some (.int y1), some (.int y2), some (.int y3), none]) (I : AI D vwCl b0 (rH dA h S hp0) sz s.heap H locs)  {k : Nat} (hm : m_date_4 N  k y1 y2 y3 S = some (r, S')) : W p l e { frames := 2, cells := 0, slots := 0, locals := 43 } s m args below meth c H locs 0 0 (MQ below (CQ D vwCl b0 (some (.int r)) (rH dA h S' hp0) sz) args s 0 0 (fun q => b0 ≤ q)) (F0 m 4 ls []) := w_date_4i  B hR k _ _ _ S ls H locs hl I hm
def m_date (N : Nat) (p1 : Int32) (S : rS) : Option (Int32 × rS) :=
  m_date_4 N  N p1 0 0 S
set_option maxRecDepth 100000 in
set_option maxHeartbeats 4000000 in
theorem c_date {p1 : Int32} {S S' : rS} {r : Int32} (hR : RR b0 h Z) (hm : m_date N p1 S = some (r, S')) : Ct l D vwCl (tyL dA) b0 Z y_date (.code y_date cb_date 5 (some .boolean) :: wsA) 2 43 [.ref h, .int p1] (rH dA h S hp0) sz (some (.int r)) (rH dA h S' hp0) 0 0 := by
  refine ct_of (cc := cb_date) (maxL := 5) (ret := (some .boolean)) (lo0 := [some (.ref h), some (.int p1), none, none, none]) hR.2 (by decide) rfl (by simp [lg_sl, Value.category]) rfl (by simp [lx_all, lv_args, Value.category]) ?_
  intro p e s m args below meth c ls B hnm hl I
  obtain ⟨hx, hb, -⟩ := B.1
  unfold m_date at hm
  refine lv_iconst (pc := 0) (v := 0) hx hb d_date_0 (by decide) ?_
  refine q_istore_n (pc := 1) (i := 2) (lo' := [some (.ref h), some (.int p1), some (.int 0), none, none]) hx hb d_date_1 rfl hl (Nat.le_of_ble_eq_true rfl) (lx_ci rfl) rfl (fun ls hl => ?_)
  refine lv_iconst (pc := 2) (v := 0) hx hb d_date_2 (by decide) ?_
  refine q_istore_n (pc := 3) (i := 3) (lo' := [some (.ref h), some (.int p1), some (.int 0), some (.int 0), none]) hx hb d_date_3 rfl hl (Nat.le_of_ble_eq_true rfl) (lx_ci rfl) rfl (fun ls hl => ?_)
  exact w_date_4  B hR hl I hm
def m_letterOf (N : Nat) (p1 : Int32) (p2 : Int32) (S : rS) : Option Int32 :=
  if p2 = 0 then (if p1 = 0 then (some 102) else (some 116)) else (if p2 = 1 then (if p1 = 0 then (some 97) else (some 114)) else (if p2 = 2 then (if p1 = 0 then (some 108) else (some 117)) else (if p2 = 3 then (if p1 = 0 then (some 115) else (some 101)) else (some 101))))
set_option maxRecDepth 100000 in
set_option maxHeartbeats 4000000 in
theorem c_letterOf {p1 : Int32} {p2 : Int32} {S : rS} {r : Int32} (hR : RR b0 h Z) (hm : m_letterOf N p1 p2 S = some r) : Ct l D vwCl (tyL dA) b0 Z y_letterOf (.code y_letterOf cb_letterOf 3 (some .int) :: wsA) 0 0 [.ref h, .int p1, .int p2] (rH dA h S hp0) sz (some (.int r)) (rH dA h S hp0) 0 0 := by
  refine ct_of (cc := cb_letterOf) (maxL := 3) (ret := (some .int)) (lo0 := [some (.ref h), some (.int p1), some (.int p2)]) hR.2 (by decide) rfl (by simp [lg_sl, Value.category]) rfl (by simp [lx_all, lv_args, Value.category]) ?_
  intro p e s m args below meth c ls B hnm hl I
  obtain ⟨hx, hb, -⟩ := B.1
  unfold m_letterOf at hm
  refine lv_iload_n (pc := 0) (i := 2) hx hb d_letterOf_0 rfl (lx_get hl rfl) ?_
  by_cases hs1 : p2 = 0
  · have hm := ift hs1 hm
    refine lv_tableIn (pc := 1) (tgt := 32) hx hb d_letterOf_1 (by rw [hs1]; decide) (by rw [hs1]; decide) (by rw [hs1]; rfl) (by decide) ?_
    refine lv_iload_n (pc := 32) (i := 1) hx hb d_letterOf_32 rfl (lx_get hl rfl) ?_
    refine lv_if_eq (pc := 33) (tgt := 41) hx hb d_letterOf_33 (by decide) (fun hc => ?_) (fun hc => ?_)
    · have hm := ift hc hm
      refine lv_bipush (pc := 41) (v := 102) hx hb d_letterOf_41 (by decide) ?_
      cases hm
      exact q_iret (pc := 43) B I rfl d_letterOf_43
    · have hm := iff' hc hm
      refine lv_bipush (pc := 36) (v := 116) hx hb d_letterOf_36 (by decide) ?_
      refine lv_goto (pc := 38) (tgt := 43) hx hb d_letterOf_38 (by decide) ?_
      cases hm
      exact q_iret (pc := 43) B I rfl d_letterOf_43
  · have hm := iff' hs1 hm
    by_cases hs2 : p2 = 1
    · have hm := ift hs2 hm
      refine lv_tableIn (pc := 1) (tgt := 44) hx hb d_letterOf_1 (by rw [hs2]; decide) (by rw [hs2]; decide) (by rw [hs2]; rfl) (by decide) ?_
      refine lv_iload_n (pc := 44) (i := 1) hx hb d_letterOf_44 rfl (lx_get hl rfl) ?_
      refine lv_if_eq (pc := 45) (tgt := 53) hx hb d_letterOf_45 (by decide) (fun hc => ?_) (fun hc => ?_)
      · have hm := ift hc hm
        refine lv_bipush (pc := 53) (v := 97) hx hb d_letterOf_53 (by decide) ?_
        cases hm
        exact q_iret (pc := 55) B I rfl d_letterOf_55
      · have hm := iff' hc hm
        refine lv_bipush (pc := 48) (v := 114) hx hb d_letterOf_48 (by decide) ?_
        refine lv_goto (pc := 50) (tgt := 55) hx hb d_letterOf_50 (by decide) ?_
        cases hm
        exact q_iret (pc := 55) B I rfl d_letterOf_55
    · have hm := iff' hs2 hm
      by_cases hs3 : p2 = 2
      · have hm := ift hs3 hm
        refine lv_tableIn (pc := 1) (tgt := 56) hx hb d_letterOf_1 (by rw [hs3]; decide) (by rw [hs3]; decide) (by rw [hs3]; rfl) (by decide) ?_
        refine lv_iload_n (pc := 56) (i := 1) hx hb d_letterOf_56 rfl (lx_get hl rfl) ?_
        refine lv_if_eq (pc := 57) (tgt := 65) hx hb d_letterOf_57 (by decide) (fun hc => ?_) (fun hc => ?_)
        · have hm := ift hc hm
          refine lv_bipush (pc := 65) (v := 108) hx hb d_letterOf_65 (by decide) ?_
          cases hm
          exact q_iret (pc := 67) B I rfl d_letterOf_67
        · have hm := iff' hc hm
          refine lv_bipush (pc := 60) (v := 117) hx hb d_letterOf_60 (by decide) ?_
          refine lv_goto (pc := 62) (tgt := 67) hx hb d_letterOf_62 (by decide) ?_
          cases hm
          exact q_iret (pc := 67) B I rfl d_letterOf_67
      · have hm := iff' hs3 hm
        by_cases hs4 : p2 = 3
        · have hm := ift hs4 hm
          refine lv_tableIn (pc := 1) (tgt := 68) hx hb d_letterOf_1 (by rw [hs4]; decide) (by rw [hs4]; decide) (by rw [hs4]; rfl) (by decide) ?_
          refine lv_iload_n (pc := 68) (i := 1) hx hb d_letterOf_68 rfl (lx_get hl rfl) ?_
          refine lv_if_eq (pc := 69) (tgt := 77) hx hb d_letterOf_69 (by decide) (fun hc => ?_) (fun hc => ?_)
          · have hm := ift hc hm
            refine lv_bipush (pc := 77) (v := 115) hx hb d_letterOf_77 (by decide) ?_
            cases hm
            exact q_iret (pc := 79) B I rfl d_letterOf_79
          · have hm := iff' hc hm
            refine lv_bipush (pc := 72) (v := 101) hx hb d_letterOf_72 (by decide) ?_
            refine lv_goto (pc := 74) (tgt := 79) hx hb d_letterOf_74 (by decide) ?_
            cases hm
            exact q_iret (pc := 79) B I rfl d_letterOf_79
        · have hm := iff' hs4 hm
          refine lv_tableOut (pc := 1) (tgt := 80) hx hb d_letterOf_1 (by have := lv_neT hs1 (a := 0) (by decide); have := lv_neT hs2 (a := 1) (by decide); have := lv_neT hs3 (a := 2) (by decide); have := lv_neT hs4 (a := 3) (by decide); omega) (by decide) ?_
          refine lv_bipush (pc := 80) (v := 101) hx hb d_letterOf_80 (by decide) ?_
          cases hm
          exact q_iret (pc := 82) B I rfl d_letterOf_82
def m_truth_89 (N : Nat) (z1 : Int32) (z2 : Int32) (S : rS) : Option (Int32 × rS) :=
  b1 (rT S 4 z1 z2) (fun S1 => some (1, S1))
set_option maxRecDepth 100000 in
set_option maxHeartbeats 4000000 in
theorem w_truth_89 {z1 : Int32} {z2 : Int32} {S : rS} (B : BX p m c cb_truth 4 s args (.code y_truth cb_truth 4 (some .boolean) :: wsA) RREF meth (some .boolean) D vwCl (tyL dA) b0 Z) (hR : RR b0 h Z) (hl : lx ls [some (.ref h), none, none, none]) (I : AI D vwCl b0 (rH dA h S hp0) sz s.heap H locs)  (hm : m_truth_89 N  z1 z2 S = some (r, S')) : W p l e { frames := 1, cells := 0, slots := 0, locals := 22 } s m args below meth c H locs 0 0 (MQ below (CQ D vwCl b0 (some (.int r)) (rH dA h S' hp0) sz) args s 0 0 (fun q => b0 ≤ q)) (F0 m 89 ls [.int z2, .int z1, .ref (h + 4)]) := by
  obtain ⟨hx, hb, -⟩ := B.1
  unfold m_truth_89 at hm
  refine ob1 hm (fun S1 e2 hm => ?_)
  refine r_ast (pc := 89) (j := 4) B hR I (by decide) (by decide) e2 d_truth_89 (fun H locs I => ?_)
  refine lv_iconst (pc := 90) (v := 1) hx hb d_truth_90 (by decide) ?_
  cases hm
  exact q_zret (pc := 91) B I rfl (by decide) d_truth_91
def m_truth_27 (N : Nat) (K17 : Int32 → Int32 → Int32 → rS → Option (Int32 × rS)) (y1 : Int32) (y2 : Int32) (y3 : Int32) (z0 : Int32) (z1 : Int32) (S : rS) : Option (Int32 × rS) :=
  if z1 ≤ z0 then (b1 (rT S 3 y1 2) (fun S1 => if y2 = 0 then (m_truth_89 N  y1 0 S1) else (m_truth_89 N  y1 1 S1))) else (b1 (m_here N S) (fun x4 => b1 (m_letterOf N y2 y3 S) (fun x6 => if x4 = x6 then (b1 (rP S 3 ((S.1 3) + 1)) (fun S7 => K17 y1 y2 (y3 + 1) S7)) else (b2 (m_fail N (S.1 3) S) (fun x10 S11 => if x10 = 0 ∨ x10 = 1 then (some (x10, S11)) else none)))))
set_option maxRecDepth 100000 in
set_option maxHeartbeats 4000000 in
theorem w_truth_27 {K17 : Int32 → Int32 → Int32 → rS → Option (Int32 × rS)} {y1 : Int32} {y2 : Int32} {y3 : Int32} {z0 : Int32} {z1 : Int32} {S : rS} (hK17 : ∀ (y1 : Int32) (y2 : Int32) (y3 : Int32) (S : rS) (ls : Array Slot) (H : Heap) (locs : List Loc), lx ls [some (.ref h), some (.int y1), some (.int y2), some (.int y3)] → AI D vwCl b0 (rH dA h S hp0) sz s.heap H locs → K17 y1 y2 y3 S = some (r, S') → W p l e { frames := 1, cells := 0, slots := 0, locals := 22 } s m args below meth c H locs 0 0 (MQ below (CQ D vwCl b0 (some (.int r)) (rH dA h S' hp0) sz) args s 0 0 (fun q => b0 ≤ q)) (F0 m 17 ls [])) (B : BX p m c cb_truth 4 s args (.code y_truth cb_truth 4 (some .boolean) :: wsA) RREF meth (some .boolean) D vwCl (tyL dA) b0 Z) (hR : RR b0 h Z) (hl : lx ls [some (.ref h), some (.int y1), some (.int y2), some (.int y3)]) (I : AI D vwCl b0 (rH dA h S hp0) sz s.heap H locs)  (hm : m_truth_27 N K17 y1 y2 y3 z0 z1 S = some (r, S')) : W p l e { frames := 1, cells := 0, slots := 0, locals := 22 } s m args below meth c H locs 0 0 (MQ below (CQ D vwCl b0 (some (.int r)) (rH dA h S' hp0) sz) args s 0 0 (fun q => b0 ≤ q)) (F0 m 27 ls [.int z1, .int z0]) := by
  obtain ⟨hx, hb, -⟩ := B.1
  unfold m_truth_27 at hm
  refine lv_icmp_ge (pc := 27) (tgt := 68) hx hb d_truth_27 (by decide) (fun hc => ?_) (fun hc => ?_)
  · have hm := ift hc hm
    refine lv_aload_n (pc := 68) (i := 0) hx hb d_truth_68 rfl (lx_get hl rfl) ?_
    refine r_get (pc := 69) (k := 7) (index := 16) B I (by decide) mF_16 rfl rfl d_truth_69 ?_
    refine lv_iload_n (pc := 72) (i := 1) hx hb d_truth_72 rfl (lx_get hl rfl) ?_
    refine lv_iconst (pc := 73) (v := 2) hx hb d_truth_73 (by decide) ?_
    refine ob1 hm (fun S1 e2 hm => ?_)
    refine r_ast (pc := 74) (j := 3) B hR I (by decide) (by decide) e2 d_truth_74 (fun H locs I => ?_)
    refine lv_aload_n (pc := 75) (i := 0) hx hb d_truth_75 rfl (lx_get hl rfl) ?_
    refine r_get (pc := 76) (k := 8) (index := 19) B I (by decide) mF_19 rfl rfl d_truth_76 ?_
    refine lv_iload_n (pc := 79) (i := 1) hx hb d_truth_79 rfl (lx_get hl rfl) ?_
    refine lv_iload_n (pc := 80) (i := 2) hx hb d_truth_80 rfl (lx_get hl rfl) ?_
    refine lv_if_eq (pc := 81) (tgt := 88) hx hb d_truth_81 (by decide) (fun hc => ?_) (fun hc => ?_)
    · have hm := ift hc hm
      refine lv_iconst (pc := 88) (v := 0) hx hb d_truth_88 (by decide) ?_
      exact w_truth_89  B hR (lx_sub (lo' := [some (.ref h), none, none, none]) hl (by simp [lx_le])) I hm
    · have hm := iff' hc hm
      refine lv_iconst (pc := 84) (v := 1) hx hb d_truth_84 (by decide) ?_
      refine lv_goto (pc := 85) (tgt := 89) hx hb d_truth_85 (by decide) ?_
      exact w_truth_89  B hR (lx_sub (lo' := [some (.ref h), none, none, none]) hl (by simp [lx_le])) I hm
  · have hm := iff' hc hm
    refine lv_aload_n (pc := 30) (i := 0) hx hb d_truth_30 rfl (lx_get hl rfl) ?_
    refine ob1 hm (fun x4 e3 hm => ?_)
    refine r_call (pc := 31) (As := []) (rest := []) B hl rfl I (c_here hR e3) kw_here rfl (by decide) (by decide) rfl (by simp [Value.category]) d_truth_31 (fun H locs I => ?_)
    refine lv_aload_n (pc := 34) (i := 0) hx hb d_truth_34 rfl (lx_get hl rfl) ?_
    refine lv_iload_n (pc := 35) (i := 2) hx hb d_truth_35 rfl (lx_get hl rfl) ?_
    refine lv_iload_n (pc := 36) (i := 3) hx hb d_truth_36 rfl (lx_get hl rfl) ?_
    refine ob1 hm (fun x6 e5 hm => ?_)
    refine r_call (pc := 37) (As := [.int y2, .int y3]) (rest := [.int x4]) B hl rfl I (c_letterOf hR e5) kw_letterOf rfl (by decide) (by decide) rfl (by simp [Value.category]) d_truth_37 (fun H locs I => ?_)
    refine lv_icmp_eq (pc := 40) (tgt := 52) hx hb d_truth_40 (by decide) (fun hc => ?_) (fun hc => ?_)
    · have hm := ift hc hm
      refine lv_aload_n (pc := 52) (i := 0) hx hb d_truth_52 rfl (lx_get hl rfl) ?_
      refine lv_dup (pc := 53) hx hb d_truth_53 rfl ?_
      refine r_get (pc := 54) (k := 3) (index := 76) B I (by decide) mF_76 rfl rfl d_truth_54 ?_
      refine lv_iconst (pc := 57) (v := 1) hx hb d_truth_57 (by decide) ?_
      refine lv_iadd (pc := 58) hx hb d_truth_58 ?_
      refine ob1 hm (fun S7 e8 hm => ?_)
      refine r_put (pc := 59) (k := 3) (index := 76) B hR I (by decide) mF_76 rfl rfl rfl (fun _ _ => rfl) e8 d_truth_59 (fun H locs I => ?_)
      refine q_iinc (pc := 62) (i := 3) (v := y3 + 1) (lo' := [some (.ref h), some (.int y1), some (.int y2), some (.int (y3 + 1))]) hx hb d_truth_62 hl rfl rfl (Nat.le_of_ble_eq_true rfl) (lx_ci rfl) rfl (fun ls hl => ?_)
      refine lv_goto (pc := 65) (tgt := 17) hx hb d_truth_65 (by decide) ?_
      exact hK17 _ _ _ _ _ _ _ hl I hm
    · have hm := iff' hc hm
      refine lv_aload_n (pc := 43) (i := 0) hx hb d_truth_43 rfl (lx_get hl rfl) ?_
      refine lv_aload_n (pc := 44) (i := 0) hx hb d_truth_44 rfl (lx_get hl rfl) ?_
      refine r_get (pc := 45) (k := 3) (index := 76) B I (by decide) mF_76 rfl rfl d_truth_45 ?_
      refine ob2 hm (fun x10 S11 e9 hm => ?_)
      refine r_call (pc := 48) (As := [.int (S.1 3)]) (rest := []) B hl rfl I (c_fail hR e9) kw_fail rfl (by decide) (by decide) rfl (by simp [Value.category]) d_truth_48 (fun H locs I => ?_)
      by_cases hq : x10 = 0 ∨ x10 = 1
      · have hm := ift hq hm
        cases hm
        exact q_zret (pc := 51) B I rfl (zn hq) d_truth_51
      · have hm := iff' hq hm
        cases hm
def m_truth_17F (N : Nat) (K17 : Int32 → Int32 → Int32 → rS → Option (Int32 × rS)) (y1 : Int32) (y2 : Int32) (y3 : Int32) (S : rS) : Option (Int32 × rS) :=
  if y2 = 0 then (m_truth_27 N K17 y1 y2 y3 y3 5 S) else (m_truth_27 N K17 y1 y2 y3 y3 4 S)
def m_truth_17 (N : Nat) : Nat → Int32 → Int32 → Int32 → rS → Option (Int32 × rS)
  | 0, _, _, _, _ => none
  | k + 1, y1, y2, y3, S => m_truth_17F N  (m_truth_17 N  k) y1 y2 y3 S
set_option maxRecDepth 100000 in
set_option maxHeartbeats 4000000 in
theorem w_truth_17F {K17 : Int32 → Int32 → Int32 → rS → Option (Int32 × rS)} {y1 : Int32} {y2 : Int32} {y3 : Int32} {S : rS} (hK17 : ∀ (y1 : Int32) (y2 : Int32) (y3 : Int32) (S : rS) (ls : Array Slot) (H : Heap) (locs : List Loc), lx ls [some (.ref h), some (.int y1), some (.int y2), some (.int y3)] → AI D vwCl b0 (rH dA h S hp0) sz s.heap H locs → K17 y1 y2 y3 S = some (r, S') → W p l e { frames := 1, cells := 0, slots := 0, locals := 22 } s m args below meth c H locs 0 0 (MQ below (CQ D vwCl b0 (some (.int r)) (rH dA h S' hp0) sz) args s 0 0 (fun q => b0 ≤ q)) (F0 m 17 ls [])) (B : BX p m c cb_truth 4 s args (.code y_truth cb_truth 4 (some .boolean) :: wsA) RREF meth (some .boolean) D vwCl (tyL dA) b0 Z) (hR : RR b0 h Z) (hl : lx ls [some (.ref h), some (.int y1), some (.int y2), some (.int y3)]) (I : AI D vwCl b0 (rH dA h S hp0) sz s.heap H locs)  (hm : m_truth_17F N  K17 y1 y2 y3 S = some (r, S')) : W p l e { frames := 1, cells := 0, slots := 0, locals := 22 } s m args below meth c H locs 0 0 (MQ below (CQ D vwCl b0 (some (.int r)) (rH dA h S' hp0) sz) args s 0 0 (fun q => b0 ≤ q)) (F0 m 17 ls []) := by
  obtain ⟨hx, hb, -⟩ := B.1
  unfold m_truth_17F at hm
  refine lv_iload_n (pc := 17) (i := 3) hx hb d_truth_17 rfl (lx_get hl rfl) ?_
  refine lv_iload_n (pc := 18) (i := 2) hx hb d_truth_18 rfl (lx_get hl rfl) ?_
  refine lv_if_eq (pc := 19) (tgt := 26) hx hb d_truth_19 (by decide) (fun hc => ?_) (fun hc => ?_)
  · have hm := ift hc hm
    refine lv_iconst (pc := 26) (v := 5) hx hb d_truth_26 (by decide) ?_
    exact w_truth_27 hK17 B hR hl I hm
  · have hm := iff' hc hm
    refine lv_iconst (pc := 22) (v := 4) hx hb d_truth_22 (by decide) ?_
    refine lv_goto (pc := 23) (tgt := 27) hx hb d_truth_23 (by decide) ?_
    exact w_truth_27 hK17 B hR hl I hm
set_option maxRecDepth 100000 in
set_option maxHeartbeats 4000000 in
theorem w_truth_17i (B : BX p m c cb_truth 4 s args (.code y_truth cb_truth 4 (some .boolean) :: wsA) RREF meth (some .boolean) D vwCl (tyL dA) b0 Z) (hR : RR b0 h Z) (k : Nat) (y1 : Int32) (y2 : Int32) (y3 : Int32) (S : rS) (ls : Array Slot) (H : Heap) (locs : List Loc) (hl : lx ls [some (.ref h), some (.int y1), some (.int y2), some (.int y3)]) (I : AI D vwCl b0 (rH dA h S hp0) sz s.heap H locs)  (hm : m_truth_17 N  k y1 y2 y3 S = some (r, S')) : W p l e { frames := 1, cells := 0, slots := 0, locals := 22 } s m args below meth c H locs 0 0 (MQ below (CQ D vwCl b0 (some (.int r)) (rH dA h S' hp0) sz) args s 0 0 (fun q => b0 ≤ q)) (F0 m 17 ls []) := by
  induction k generalizing y1 y2 y3 S ls H locs with
  | zero => cases hm
  | succ k ih => exact w_truth_17F  (fun y1 y2 y3 S ls H locs hl I hm => ih y1 y2 y3 S ls H locs hl I hm) B hR hl I hm
theorem w_truth_17 {y1 : Int32} {y2 : Int32} {y3 : Int32} {S : rS} (B : BX p m c cb_truth 4 s args (.code y_truth cb_truth 4 (some .boolean) :: wsA) RREF meth (some .boolean) D vwCl (tyL dA) b0 Z) (hR : RR b0 h Z) (hl : lx ls [some (.ref h), some (.int y1), some (.int y2), some (.int y3)]) (I : AI D vwCl b0 (rH dA h S hp0) sz s.heap H locs)  {k : Nat} (hm : m_truth_17 N  k y1 y2 y3 S = some (r, S')) : W p l e { frames := 1, cells := 0, slots := 0, locals := 22 } s m args below meth c H locs 0 0 (MQ below (CQ D vwCl b0 (some (.int r)) (rH dA h S' hp0) sz) args s 0 0 (fun q => b0 ≤ q)) (F0 m 17 ls []) := w_truth_17i  B hR k _ _ _ S ls H locs hl I hm
def m_truth_14 (N : Nat) (y1 : Int32) (z0 : Int32) (S : rS) : Option (Int32 × rS) :=
  m_truth_17 N  N y1 z0 0 S
set_option maxRecDepth 100000 in
set_option maxHeartbeats 4000000 in
theorem w_truth_14 {y1 : Int32} {z0 : Int32} {S : rS} (B : BX p m c cb_truth 4 s args (.code y_truth cb_truth 4 (some .boolean) :: wsA) RREF meth (some .boolean) D vwCl (tyL dA) b0 Z) (hR : RR b0 h Z) (hl : lx ls [some (.ref h), some (.int y1), none, none]) (I : AI D vwCl b0 (rH dA h S hp0) sz s.heap H locs)  (hm : m_truth_14 N  y1 z0 S = some (r, S')) : W p l e { frames := 1, cells := 0, slots := 0, locals := 22 } s m args below meth c H locs 0 0 (MQ below (CQ D vwCl b0 (some (.int r)) (rH dA h S' hp0) sz) args s 0 0 (fun q => b0 ≤ q)) (F0 m 14 ls [.int z0]) := by
  obtain ⟨hx, hb, -⟩ := B.1
  unfold m_truth_14 at hm
  refine q_istore_n (pc := 14) (i := 2) (lo' := [some (.ref h), some (.int y1), some (.int z0), none]) hx hb d_truth_14 rfl hl (Nat.le_of_ble_eq_true rfl) (lx_ci rfl) rfl (fun ls hl => ?_)
  refine lv_iconst (pc := 15) (v := 0) hx hb d_truth_15 (by decide) ?_
  refine q_istore_n (pc := 16) (i := 3) (lo' := [some (.ref h), some (.int y1), some (.int z0), some (.int 0)]) hx hb d_truth_16 rfl hl (Nat.le_of_ble_eq_true rfl) (lx_ci rfl) rfl (fun ls hl => ?_)
  exact w_truth_17  B hR hl I hm
def m_truth (N : Nat) (p1 : Int32) (S : rS) : Option (Int32 × rS) :=
  b1 (m_here N S) (fun x2 => if x2 = 116 then (m_truth_14 N  p1 1 S) else (m_truth_14 N  p1 0 S))
set_option maxRecDepth 100000 in
set_option maxHeartbeats 4000000 in
theorem c_truth {p1 : Int32} {S S' : rS} {r : Int32} (hR : RR b0 h Z) (hm : m_truth N p1 S = some (r, S')) : Ct l D vwCl (tyL dA) b0 Z y_truth (.code y_truth cb_truth 4 (some .boolean) :: wsA) 1 22 [.ref h, .int p1] (rH dA h S hp0) sz (some (.int r)) (rH dA h S' hp0) 0 0 := by
  refine ct_of (cc := cb_truth) (maxL := 4) (ret := (some .boolean)) (lo0 := [some (.ref h), some (.int p1), none, none]) hR.2 (by decide) rfl (by simp [lg_sl, Value.category]) rfl (by simp [lx_all, lv_args, Value.category]) ?_
  intro p e s m args below meth c ls B hnm hl I
  obtain ⟨hx, hb, -⟩ := B.1
  unfold m_truth at hm
  refine lv_aload_n (pc := 0) (i := 0) hx hb d_truth_0 rfl (lx_get hl rfl) ?_
  refine ob1 hm (fun x2 e1 hm => ?_)
  refine r_call (pc := 1) (As := []) (rest := []) B hl rfl I (c_here hR e1) kw_here rfl (by decide) (by decide) rfl (by simp [Value.category]) d_truth_1 (fun H locs I => ?_)
  refine lv_bipush (pc := 4) (v := 116) hx hb d_truth_4 (by decide) ?_
  refine lv_icmp_ne (pc := 6) (tgt := 13) hx hb d_truth_6 (by decide) (fun hc => ?_) (fun hc => ?_)
  · have hm := iff' hc hm
    refine lv_iconst (pc := 13) (v := 0) hx hb d_truth_13 (by decide) ?_
    exact w_truth_14  B hR hl I hm
  · have hm := ift hc hm
    refine lv_iconst (pc := 9) (v := 1) hx hb d_truth_9 (by decide) ?_
    refine lv_goto (pc := 10) (tgt := 14) hx hb d_truth_10 (by decide) ?_
    exact w_truth_14  B hR hl I hm
end RW
