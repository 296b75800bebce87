section RW
variable {p : Program} {l : Launch} {e : Env} {s : State} {m : MethodId} {args : Array Value} {below : List Frame} {meth : Method} {c : Code} {H : Heap} {locs : List Loc}
variable {ls : Array Slot} {D : va_G} {dA : Nat → ClassId} {hp0 : aH} {sz b0 h N : Nat} {S' : rS} {r : Int32} {Z : State → Prop}
def m_written_25 (N : Nat) (y1 : Int32) (z1 : Int32) (S : rS) : Option (Int32 × rS) :=
  b1 (rP S 0 z1) (fun S1 => if S1.1 0 = 0 then (b1 (rL S1 19 y1) (fun x3 => some (x3, S1))) else (some (0, S1)))
set_option maxRecDepth 100000 in
set_option maxHeartbeats 4000000 in
theorem w_written_25 {y1 : Int32} {z1 : Int32} {S : rS} (B : BX p m c cb_written 2 s args (.code y_written cb_written 2 (some .int) :: wsA) RREF meth (some .int) D vwCl (tyL dA) b0 Z) (hR : RR b0 h Z) (hl : lx ls [some (.ref h), some (.int y1)]) (I : AI D vwCl b0 (rH dA h S hp0) sz s.heap H locs)  (hm : m_written_25 N  y1 z1 S = some (r, S')) : W p l e { frames := 0, cells := 0, slots := 0, locals := 0 } s m args below meth c H locs 0 0 (MQ below (CQ D vwCl b0 (some (.int r)) (rH dA h S' hp0) sz) args s 0 0 (fun q => b0 ≤ q)) (F0 m 25 ls [.int z1, .ref h]) := by
  obtain ⟨hx, hb, -⟩ := B.1
  unfold m_written_25 at hm
  refine ob1 hm (fun S1 e2 hm => ?_)
  refine r_put (pc := 25) (k := 0) (index := 67) B hR I (by decide) mF_67 rfl rfl rfl (fun _ _ => rfl) e2 d_written_25 (fun H locs I => ?_)
  refine lv_aload_n (pc := 28) (i := 0) hx hb d_written_28 rfl (lx_get hl rfl) ?_
  refine r_get (pc := 29) (k := 0) (index := 67) B I (by decide) mF_67 rfl rfl d_written_29 ?_
  refine lv_if_ne (pc := 32) (tgt := 44) hx hb d_written_32 (by decide) (fun hc => ?_) (fun hc => ?_)
  · have hm := iff' hc hm
    refine lv_iconst (pc := 44) (v := 0) hx hb d_written_44 (by decide) ?_
    cases hm
    exact q_iret (pc := 45) B I rfl d_written_45
  · have hm := ift hc hm
    refine lv_aload_n (pc := 35) (i := 0) hx hb d_written_35 rfl (lx_get hl rfl) ?_
    refine r_get (pc := 36) (k := 30) (index := 64) B I (by decide) mF_64 rfl rfl d_written_36 ?_
    refine lv_iload_n (pc := 39) (i := 1) hx hb d_written_39 rfl (lx_get hl rfl) ?_
    refine ob1 hm (fun x3 e4 hm => ?_)
    refine r_ald (pc := 40) (j := 19) B I (by decide) (by decide) e4 d_written_40 ?_
    refine lv_goto (pc := 41) (tgt := 45) hx hb d_written_41 (by decide) ?_
    cases hm
    exact q_iret (pc := 45) B I rfl d_written_45
def m_written_20 (N : Nat) (y1 : Int32) (S : rS) : Option (Int32 × rS) :=
  m_written_25 N  y1 1 S
set_option maxRecDepth 100000 in
set_option maxHeartbeats 4000000 in
theorem w_written_20 {y1 : Int32} {S : rS} (B : BX p m c cb_written 2 s args (.code y_written cb_written 2 (some .int) :: wsA) RREF meth (some .int) D vwCl (tyL dA) b0 Z) (hR : RR b0 h Z) (hl : lx ls [some (.ref h), some (.int y1)]) (I : AI D vwCl b0 (rH dA h S hp0) sz s.heap H locs)  (hm : m_written_20 N  y1 S = some (r, S')) : W p l e { frames := 0, cells := 0, slots := 0, locals := 0 } s m args below meth c H locs 0 0 (MQ below (CQ D vwCl b0 (some (.int r)) (rH dA h S' hp0) sz) args s 0 0 (fun q => b0 ≤ q)) (F0 m 20 ls [.ref h]) := by
  obtain ⟨hx, hb, -⟩ := B.1
  unfold m_written_20 at hm
  refine lv_iconst (pc := 20) (v := 1) hx hb d_written_20 (by decide) ?_
  refine lv_goto (pc := 21) (tgt := 25) hx hb d_written_21 (by decide) ?_
  exact w_written_25  B hR hl I hm
def m_written (N : Nat) (p1 : Int32) (S : rS) : Option (Int32 × rS) :=
  if p1 < 0 then (m_written_20 N  p1 S) else (if S.1 29 ≤ p1 then (m_written_20 N  p1 S) else (if p1 < 600 then (m_written_25 N  p1 0 S) else (m_written_20 N  p1 S)))
set_option maxRecDepth 100000 in
set_option maxHeartbeats 4000000 in
theorem c_written {p1 : Int32} {S S' : rS} {r : Int32} (hR : RR b0 h Z) (hm : m_written N p1 S = some (r, S')) : Ct l D vwCl (tyL dA) b0 Z y_written (.code y_written cb_written 2 (some .int) :: wsA) 0 0 [.ref h, .int p1] (rH dA h S hp0) sz (some (.int r)) (rH dA h S' hp0) 0 0 := by
  refine ct_of (cc := cb_written) (maxL := 2) (ret := (some .int)) (lo0 := [some (.ref h), some (.int p1)]) hR.2 (by decide) rfl (by simp [lg_sl, Value.category]) rfl (by simp [lx_all, lv_args, Value.category]) ?_
  intro p e s m args below meth c ls B hnm hl I
  obtain ⟨hx, hb, -⟩ := B.1
  unfold m_written at hm
  refine lv_aload_n (pc := 0) (i := 0) hx hb d_written_0 rfl (lx_get hl rfl) ?_
  refine lv_iload_n (pc := 1) (i := 1) hx hb d_written_1 rfl (lx_get hl rfl) ?_
  refine lv_if_lt (pc := 2) (tgt := 20) hx hb d_written_2 (by decide) (fun hc => ?_) (fun hc => ?_)
  · have hm := ift hc hm
    exact w_written_20  B hR hl I hm
  · have hm := iff' hc hm
    refine lv_iload_n (pc := 5) (i := 1) hx hb d_written_5 rfl (lx_get hl rfl) ?_
    refine lv_aload_n (pc := 6) (i := 0) hx hb d_written_6 rfl (lx_get hl rfl) ?_
    refine r_get (pc := 7) (k := 29) (index := 219) B I (by decide) mF_219 rfl rfl d_written_7 ?_
    refine lv_icmp_ge (pc := 10) (tgt := 20) hx hb d_written_10 (by decide) (fun hc => ?_) (fun hc => ?_)
    · have hm := ift hc hm
      exact w_written_20  B hR hl I hm
    · have hm := iff' hc hm
      refine lv_iload_n (pc := 13) (i := 1) hx hb d_written_13 rfl (lx_get hl rfl) ?_
      refine lv_sipush (pc := 14) (v := 600) hx hb d_written_14 (by decide) ?_
      refine lv_icmp_lt (pc := 17) (tgt := 24) hx hb d_written_17 (by decide) (fun hc => ?_) (fun hc => ?_)
      · have hm := ift hc hm
        refine lv_iconst (pc := 24) (v := 0) hx hb d_written_24 (by decide) ?_
        exact w_written_25  B hR hl I hm
      · have hm := iff' hc hm
        exact w_written_20  B hR hl I hm
def m_top (N : Nat) (S : rS) : Option (Int32 × rS) :=
  b1 (rP S 0 0) (fun S1 => b1 (rP S1 18 (260 * (S1.1 5))) (fun S3 => b1 (rL S3 9 (S3.1 18)) (fun x5 => some (x5, S3))))
set_option maxRecDepth 100000 in
set_option maxHeartbeats 4000000 in
theorem c_top {S S' : rS} {r : Int32} (hR : RR b0 h Z) (hm : m_top N  S = some (r, S')) : Ct l D vwCl (tyL dA) b0 Z y_top (.code y_top cb_top 1 (some .int) :: wsA) 0 0 [.ref h] (rH dA h S hp0) sz (some (.int r)) (rH dA h S' hp0) 0 0 := by
  refine ct_of (cc := cb_top) (maxL := 1) (ret := (some .int)) (lo0 := [some (.ref h)]) hR.2 (by decide) rfl (by simp [lg_sl, Value.category]) rfl (by simp [lx_all, lv_args, Value.category]) ?_
  intro p e s m args below meth c ls B hnm hl I
  obtain ⟨hx, hb, -⟩ := B.1
  unfold m_top at hm
  refine lv_aload_n (pc := 0) (i := 0) hx hb d_top_0 rfl (lx_get hl rfl) ?_
  refine lv_iconst (pc := 1) (v := 0) hx hb d_top_1 (by decide) ?_
  refine ob1 hm (fun S1 e2 hm => ?_)
  refine r_put (pc := 2) (k := 0) (index := 67) B hR I (by decide) mF_67 rfl rfl rfl (fun _ _ => rfl) e2 d_top_2 (fun H locs I => ?_)
  refine lv_aload_n (pc := 5) (i := 0) hx hb d_top_5 rfl (lx_get hl rfl) ?_
  refine lv_sipush (pc := 6) (v := 260) hx hb d_top_6 (by decide) ?_
  refine lv_aload_n (pc := 9) (i := 0) hx hb d_top_9 rfl (lx_get hl rfl) ?_
  refine r_get (pc := 10) (k := 5) (index := 210) B I (by decide) mF_210 rfl rfl d_top_10 ?_
  refine lv_imul (pc := 13) hx hb d_top_13 ?_
  refine ob1 hm (fun S3 e4 hm => ?_)
  refine r_put (pc := 14) (k := 18) (index := 216) B hR I (by decide) mF_216 rfl rfl rfl (fun _ _ => rfl) e4 d_top_14 (fun H locs I => ?_)
  refine lv_aload_n (pc := 17) (i := 0) hx hb d_top_17 rfl (lx_get hl rfl) ?_
  refine r_get (pc := 18) (k := 13) (index := 34) B I (by decide) mF_34 rfl rfl d_top_18 ?_
  refine lv_aload_n (pc := 21) (i := 0) hx hb d_top_21 rfl (lx_get hl rfl) ?_
  refine r_get (pc := 22) (k := 18) (index := 216) B I (by decide) mF_216 rfl rfl d_top_22 ?_
  refine ob1 hm (fun x5 e6 hm => ?_)
  refine r_ald (pc := 25) (j := 9) B I (by decide) (by decide) e6 d_top_25 ?_
  cases hm
  exact q_iret (pc := 26) B I rfl d_top_26
def m_down_58F (N : Nat) (K58 : Int32 → Int32 → Int32 → rS → Option (Int32 × rS)) (y1 : Int32) (y2 : Int32) (y3 : Int32) (S : rS) : Option (Int32 × rS) :=
  if y1 ≤ y3 then (b1 (rP S 18 y2) (fun S1 => b1 (rL S1 3 y2) (fun x3 => some (x3, S1)))) else (b1 (rL S 8 y2) (fun x5 => K58 y1 x5 (y3 + 1) S))
def m_down_58 (N : Nat) : Nat → Int32 → Int32 → Int32 → rS → Option (Int32 × rS)
  | 0, _, _, _, _ => none
  | k + 1, y1, y2, y3, S => m_down_58F N  (m_down_58 N  k) y1 y2 y3 S
set_option maxRecDepth 100000 in
set_option maxHeartbeats 4000000 in
theorem w_down_58F {K58 : Int32 → Int32 → Int32 → rS → Option (Int32 × rS)} {y1 : Int32} {y2 : Int32} {y3 : Int32} {S : rS} (hK58 : ∀ (y1 : Int32) (y2 : Int32) (y3 : Int32) (S : rS) (ls : Array Slot) (H : Heap) (locs : List Loc), lx ls [some (.ref h), some (.int y1), some (.int y2), some (.int y3)] → AI D vwCl b0 (rH dA h S hp0) sz s.heap H locs → K58 y1 y2 y3 S = some (r, S') → W p l e { frames := 1, cells := 0, slots := 0, locals := 21 } s m args below meth c H locs 0 0 (MQ below (CQ D vwCl b0 (some (.int r)) (rH dA h S' hp0) sz) args s 0 0 (fun q => b0 ≤ q)) (F0 m 58 ls [])) (B : BX p m c cb_down 4 s args (.code y_down cb_down 4 (some .int) :: wsA) RREF meth (some .int) D vwCl (tyL dA) b0 Z) (hR : RR b0 h Z) (hl : lx ls [some (.ref h), some (.int y1), some (.int y2), some (.int y3)]) (I : AI D vwCl b0 (rH dA h S hp0) sz s.heap H locs)  (hm : m_down_58F N  K58 y1 y2 y3 S = some (r, S')) : W p l e { frames := 1, cells := 0, slots := 0, locals := 21 } s m args below meth c H locs 0 0 (MQ below (CQ D vwCl b0 (some (.int r)) (rH dA h S' hp0) sz) args s 0 0 (fun q => b0 ≤ q)) (F0 m 58 ls []) := by
  obtain ⟨hx, hb, -⟩ := B.1
  unfold m_down_58F at hm
  refine lv_iload_n (pc := 58) (i := 3) hx hb d_down_58 rfl (lx_get hl rfl) ?_
  refine lv_iload_n (pc := 59) (i := 1) hx hb d_down_59 rfl (lx_get hl rfl) ?_
  refine lv_icmp_ge (pc := 60) (tgt := 76) hx hb d_down_60 (by decide) (fun hc => ?_) (fun hc => ?_)
  · have hm := ift hc hm
    refine lv_aload_n (pc := 76) (i := 0) hx hb d_down_76 rfl (lx_get hl rfl) ?_
    refine lv_iload_n (pc := 77) (i := 2) hx hb d_down_77 rfl (lx_get hl rfl) ?_
    refine ob1 hm (fun S1 e2 hm => ?_)
    refine r_put (pc := 78) (k := 18) (index := 216) B hR I (by decide) mF_216 rfl rfl rfl (fun _ _ => rfl) e2 d_down_78 (fun H locs I => ?_)
    refine lv_aload_n (pc := 81) (i := 0) hx hb d_down_81 rfl (lx_get hl rfl) ?_
    refine r_get (pc := 82) (k := 7) (index := 16) B I (by decide) mF_16 rfl rfl d_down_82 ?_
    refine lv_iload_n (pc := 85) (i := 2) hx hb d_down_85 rfl (lx_get hl rfl) ?_
    refine ob1 hm (fun x3 e4 hm => ?_)
    refine r_ald (pc := 86) (j := 3) B I (by decide) (by decide) e4 d_down_86 ?_
    cases hm
    exact q_iret (pc := 87) B I rfl d_down_87
  · have hm := iff' hc hm
    refine lv_aload_n (pc := 63) (i := 0) hx hb d_down_63 rfl (lx_get hl rfl) ?_
    refine r_get (pc := 64) (k := 12) (index := 31) B I (by decide) mF_31 rfl rfl d_down_64 ?_
    refine lv_iload_n (pc := 67) (i := 2) hx hb d_down_67 rfl (lx_get hl rfl) ?_
    refine ob1 hm (fun x5 e6 hm => ?_)
    refine r_ald (pc := 68) (j := 8) B I (by decide) (by decide) e6 d_down_68 ?_
    refine q_istore_n (pc := 69) (i := 2) (lo' := [some (.ref h), some (.int y1), some (.int x5), some (.int y3)]) hx hb d_down_69 rfl hl (Nat.le_of_ble_eq_true rfl) (lx_ci rfl) rfl (fun ls hl => ?_)
    refine q_iinc (pc := 70) (i := 3) (v := y3 + 1) (lo' := [some (.ref h), some (.int y1), some (.int x5), some (.int (y3 + 1))]) hx hb d_down_70 hl rfl rfl (Nat.le_of_ble_eq_true rfl) (lx_ci rfl) rfl (fun ls hl => ?_)
    refine lv_goto (pc := 73) (tgt := 58) hx hb d_down_73 (by decide) ?_
    exact hK58 _ _ _ _ _ _ _ hl I hm
set_option maxRecDepth 100000 in
set_option maxHeartbeats 4000000 in
theorem w_down_58i (B : BX p m c cb_down 4 s args (.code y_down cb_down 4 (some .int) :: wsA) RREF meth (some .int) D vwCl (tyL dA) b0 Z) (hR : RR b0 h Z) (k : Nat) (y1 : Int32) (y2 : Int32) (y3 : Int32) (S : rS) (ls : Array Slot) (H : Heap) (locs : List Loc) (hl : lx ls [some (.ref h), some (.int y1), some (.int y2), some (.int y3)]) (I : AI D vwCl b0 (rH dA h S hp0) sz s.heap H locs)  (hm : m_down_58 N  k y1 y2 y3 S = some (r, S')) : W p l e { frames := 1, cells := 0, slots := 0, locals := 21 } s m args below meth c H locs 0 0 (MQ below (CQ D vwCl b0 (some (.int r)) (rH dA h S' hp0) sz) args s 0 0 (fun q => b0 ≤ q)) (F0 m 58 ls []) := by
  induction k generalizing y1 y2 y3 S ls H locs with
  | zero => cases hm
  | succ k ih => exact w_down_58F  (fun y1 y2 y3 S ls H locs hl I hm => ih y1 y2 y3 S ls H locs hl I hm) B hR hl I hm
theorem w_down_58 {y1 : Int32} {y2 : Int32} {y3 : Int32} {S : rS} (B : BX p m c cb_down 4 s args (.code y_down cb_down 4 (some .int) :: wsA) RREF meth (some .int) D vwCl (tyL dA) b0 Z) (hR : RR b0 h Z) (hl : lx ls [some (.ref h), some (.int y1), some (.int y2), some (.int y3)]) (I : AI D vwCl b0 (rH dA h S hp0) sz s.heap H locs)  {k : Nat} (hm : m_down_58 N  k y1 y2 y3 S = some (r, S')) : W p l e { frames := 1, cells := 0, slots := 0, locals := 21 } s m args below meth c H locs 0 0 (MQ below (CQ D vwCl b0 (some (.int r)) (rH dA h S' hp0) sz) args s 0 0 (fun q => b0 ≤ q)) (F0 m 58 ls []) := w_down_58i  B hR k _ _ _ S ls H locs hl I hm
def m_down_34 (N : Nat) (y1 : Int32) (z1 : Int32) (S : rS) : Option (Int32 × rS) :=
  b1 (rP S 0 z1) (fun S1 => if S1.1 0 = 0 then (b1 (rL S1 6 (S1.1 18)) (fun x3 => m_down_58 N  N y1 x3 0 S1)) else (some (0, S1)))
set_option maxRecDepth 100000 in
set_option maxHeartbeats 4000000 in
theorem w_down_34 {y1 : Int32} {z1 : Int32} {S : rS} (B : BX p m c cb_down 4 s args (.code y_down cb_down 4 (some .int) :: wsA) RREF meth (some .int) D vwCl (tyL dA) b0 Z) (hR : RR b0 h Z) (hl : lx ls [some (.ref h), some (.int y1), none, none]) (I : AI D vwCl b0 (rH dA h S hp0) sz s.heap H locs)  (hm : m_down_34 N  y1 z1 S = some (r, S')) : W p l e { frames := 1, cells := 0, slots := 0, locals := 21 } s m args below meth c H locs 0 0 (MQ below (CQ D vwCl b0 (some (.int r)) (rH dA h S' hp0) sz) args s 0 0 (fun q => b0 ≤ q)) (F0 m 34 ls [.int z1, .ref h]) := by
  obtain ⟨hx, hb, -⟩ := B.1
  unfold m_down_34 at hm
  refine ob1 hm (fun S1 e2 hm => ?_)
  refine r_put (pc := 34) (k := 0) (index := 67) B hR I (by decide) mF_67 rfl rfl rfl (fun _ _ => rfl) e2 d_down_34 (fun H locs I => ?_)
  refine lv_aload_n (pc := 37) (i := 0) hx hb d_down_37 rfl (lx_get hl rfl) ?_
  refine r_get (pc := 38) (k := 0) (index := 67) B I (by decide) mF_67 rfl rfl d_down_38 ?_
  refine lv_if_eq (pc := 41) (tgt := 46) hx hb d_down_41 (by decide) (fun hc => ?_) (fun hc => ?_)
  · have hm := ift hc hm
    refine lv_aload_n (pc := 46) (i := 0) hx hb d_down_46 rfl (lx_get hl rfl) ?_
    refine r_get (pc := 47) (k := 10) (index := 25) B I (by decide) mF_25 rfl rfl d_down_47 ?_
    refine lv_aload_n (pc := 50) (i := 0) hx hb d_down_50 rfl (lx_get hl rfl) ?_
    refine r_get (pc := 51) (k := 18) (index := 216) B I (by decide) mF_216 rfl rfl d_down_51 ?_
    refine ob1 hm (fun x3 e4 hm => ?_)
    refine r_ald (pc := 54) (j := 6) B I (by decide) (by decide) e4 d_down_54 ?_
    refine q_istore_n (pc := 55) (i := 2) (lo' := [some (.ref h), some (.int y1), some (.int x3), none]) hx hb d_down_55 rfl hl (Nat.le_of_ble_eq_true rfl) (lx_ci rfl) rfl (fun ls hl => ?_)
    refine lv_iconst (pc := 56) (v := 0) hx hb d_down_56 (by decide) ?_
    refine q_istore_n (pc := 57) (i := 3) (lo' := [some (.ref h), some (.int y1), some (.int x3), some (.int 0)]) hx hb d_down_57 rfl hl (Nat.le_of_ble_eq_true rfl) (lx_ci rfl) rfl (fun ls hl => ?_)
    exact w_down_58  B hR hl I hm
  · have hm := iff' hc hm
    refine lv_iconst (pc := 44) (v := 0) hx hb d_down_44 (by decide) ?_
    cases hm
    exact q_iret (pc := 45) B I rfl d_down_45
def m_down_29 (N : Nat) (y1 : Int32) (S : rS) : Option (Int32 × rS) :=
  m_down_34 N  y1 1 S
set_option maxRecDepth 100000 in
set_option maxHeartbeats 4000000 in
theorem w_down_29 {y1 : Int32} {S : rS} (B : BX p m c cb_down 4 s args (.code y_down cb_down 4 (some .int) :: wsA) RREF meth (some .int) D vwCl (tyL dA) b0 Z) (hR : RR b0 h Z) (hl : lx ls [some (.ref h), some (.int y1), none, none]) (I : AI D vwCl b0 (rH dA h S hp0) sz s.heap H locs)  (hm : m_down_29 N  y1 S = some (r, S')) : W p l e { frames := 1, cells := 0, slots := 0, locals := 21 } s m args below meth c H locs 0 0 (MQ below (CQ D vwCl b0 (some (.int r)) (rH dA h S' hp0) sz) args s 0 0 (fun q => b0 ≤ q)) (F0 m 29 ls [.ref h]) := by
  obtain ⟨hx, hb, -⟩ := B.1
  unfold m_down_29 at hm
  refine lv_iconst (pc := 29) (v := 1) hx hb d_down_29 (by decide) ?_
  refine lv_goto (pc := 30) (tgt := 34) hx hb d_down_30 (by decide) ?_
  exact w_down_34  B hR hl I hm
def m_down (N : Nat) (p1 : Int32) (S : rS) : Option (Int32 × rS) :=
  b1 (m_holds N (S.1 18) S) (fun x2 => if x2 = 0 then (m_down_29 N  p1 S) else (if p1 < 0 then (m_down_29 N  p1 S) else (b1 (rL S 9 (S.1 18)) (fun x3 => if p1 < x3 then (m_down_34 N  p1 0 S) else (m_down_29 N  p1 S)))))
set_option maxRecDepth 100000 in
set_option maxHeartbeats 4000000 in
theorem c_down {p1 : Int32} {S S' : rS} {r : Int32} (hR : RR b0 h Z) (hm : m_down N p1 S = some (r, S')) : Ct l D vwCl (tyL dA) b0 Z y_down (.code y_down cb_down 4 (some .int) :: wsA) 1 21 [.ref h, .int p1] (rH dA h S hp0) sz (some (.int r)) (rH dA h S' hp0) 0 0 := by
  refine ct_of (cc := cb_down) (maxL := 4) (ret := (some .int)) (lo0 := [some (.ref h), some (.int p1), none, none]) hR.2 (by decide) rfl (by simp [lg_sl, Value.category]) rfl (by simp [lx_all, lv_args, Value.category]) ?_
  intro p e s m args below meth c ls B hnm hl I
  obtain ⟨hx, hb, -⟩ := B.1
  unfold m_down at hm
  refine lv_aload_n (pc := 0) (i := 0) hx hb d_down_0 rfl (lx_get hl rfl) ?_
  refine lv_aload_n (pc := 1) (i := 0) hx hb d_down_1 rfl (lx_get hl rfl) ?_
  refine lv_aload_n (pc := 2) (i := 0) hx hb d_down_2 rfl (lx_get hl rfl) ?_
  refine r_get (pc := 3) (k := 18) (index := 216) B I (by decide) mF_216 rfl rfl d_down_3 ?_
  refine ob1 hm (fun x2 e1 hm => ?_)
  refine r_call (pc := 6) (As := [.int (S.1 18)]) (rest := [.ref h]) B hl rfl I (c_holds hR e1) kw_holds rfl (by decide) (by decide) rfl (by simp [Value.category]) d_down_6 (fun H locs I => ?_)
  refine lv_if_eq (pc := 9) (tgt := 29) hx hb d_down_9 (by decide) (fun hc => ?_) (fun hc => ?_)
  · have hm := ift hc hm
    exact w_down_29  B hR hl I hm
  · have hm := iff' hc hm
    refine lv_iload_n (pc := 12) (i := 1) hx hb d_down_12 rfl (lx_get hl rfl) ?_
    refine lv_if_lt (pc := 13) (tgt := 29) hx hb d_down_13 (by decide) (fun hc => ?_) (fun hc => ?_)
    · have hm := ift hc hm
      exact w_down_29  B hR hl I hm
    · have hm := iff' hc hm
      refine lv_iload_n (pc := 16) (i := 1) hx hb d_down_16 rfl (lx_get hl rfl) ?_
      refine lv_aload_n (pc := 17) (i := 0) hx hb d_down_17 rfl (lx_get hl rfl) ?_
      refine r_get (pc := 18) (k := 13) (index := 34) B I (by decide) mF_34 rfl rfl d_down_18 ?_
      refine lv_aload_n (pc := 21) (i := 0) hx hb d_down_21 rfl (lx_get hl rfl) ?_
      refine r_get (pc := 22) (k := 18) (index := 216) B I (by decide) mF_216 rfl rfl d_down_22 ?_
      refine ob1 hm (fun x3 e4 hm => ?_)
      refine r_ald (pc := 25) (j := 9) B I (by decide) (by decide) e4 d_down_25 ?_
      refine lv_icmp_lt (pc := 26) (tgt := 33) hx hb d_down_26 (by decide) (fun hc => ?_) (fun hc => ?_)
      · have hm := ift hc hm
        refine lv_iconst (pc := 33) (v := 0) hx hb d_down_33 (by decide) ?_
        exact w_down_34  B hR hl I hm
      · have hm := iff' hc hm
        exact w_down_29  B hR hl I hm
def m_up_19 (N : Nat) (z1 : Int32) (S : rS) : Option (Int32 × rS) :=
  b1 (rP S 0 z1) (fun S1 => if S1.1 0 = 0 then (b1 (rL S1 5 (S1.1 18)) (fun x3 => b1 (rP S1 18 x3) (fun S5 => b1 (rL S5 3 (S5.1 18)) (fun x7 => some (x7, S5))))) else (some (0, S1)))
set_option maxRecDepth 100000 in
set_option maxHeartbeats 4000000 in
theorem w_up_19 {z1 : Int32} {S : rS} (B : BX p m c cb_up 1 s args (.code y_up cb_up 1 (some .int) :: wsA) RREF meth (some .int) D vwCl (tyL dA) b0 Z) (hR : RR b0 h Z) (hl : lx ls [some (.ref h)]) (I : AI D vwCl b0 (rH dA h S hp0) sz s.heap H locs)  (hm : m_up_19 N  z1 S = some (r, S')) : W p l e { frames := 0, cells := 0, slots := 0, locals := 0 } s m args below meth c H locs 0 0 (MQ below (CQ D vwCl b0 (some (.int r)) (rH dA h S' hp0) sz) args s 0 0 (fun q => b0 ≤ q)) (F0 m 19 ls [.int z1, .ref h]) := by
  obtain ⟨hx, hb, -⟩ := B.1
  unfold m_up_19 at hm
  refine ob1 hm (fun S1 e2 hm => ?_)
  refine r_put (pc := 19) (k := 0) (index := 67) B hR I (by decide) mF_67 rfl rfl rfl (fun _ _ => rfl) e2 d_up_19 (fun H locs I => ?_)
  refine lv_aload_n (pc := 22) (i := 0) hx hb d_up_22 rfl (lx_get hl rfl) ?_
  refine r_get (pc := 23) (k := 0) (index := 67) B I (by decide) mF_67 rfl rfl d_up_23 ?_
  refine lv_if_eq (pc := 26) (tgt := 31) hx hb d_up_26 (by decide) (fun hc => ?_) (fun hc => ?_)
  · have hm := ift hc hm
    refine lv_aload_n (pc := 31) (i := 0) hx hb d_up_31 rfl (lx_get hl rfl) ?_
    refine lv_aload_n (pc := 32) (i := 0) hx hb d_up_32 rfl (lx_get hl rfl) ?_
    refine r_get (pc := 33) (k := 9) (index := 22) B I (by decide) mF_22 rfl rfl d_up_33 ?_
    refine lv_aload_n (pc := 36) (i := 0) hx hb d_up_36 rfl (lx_get hl rfl) ?_
    refine r_get (pc := 37) (k := 18) (index := 216) B I (by decide) mF_216 rfl rfl d_up_37 ?_
    refine ob1 hm (fun x3 e4 hm => ?_)
    refine r_ald (pc := 40) (j := 5) B I (by decide) (by decide) e4 d_up_40 ?_
    refine ob1 hm (fun S5 e6 hm => ?_)
    refine r_put (pc := 41) (k := 18) (index := 216) B hR I (by decide) mF_216 rfl rfl rfl (fun _ _ => rfl) e6 d_up_41 (fun H locs I => ?_)
    refine lv_aload_n (pc := 44) (i := 0) hx hb d_up_44 rfl (lx_get hl rfl) ?_
    refine r_get (pc := 45) (k := 7) (index := 16) B I (by decide) mF_16 rfl rfl d_up_45 ?_
    refine lv_aload_n (pc := 48) (i := 0) hx hb d_up_48 rfl (lx_get hl rfl) ?_
    refine r_get (pc := 49) (k := 18) (index := 216) B I (by decide) mF_216 rfl rfl d_up_49 ?_
    refine ob1 hm (fun x7 e8 hm => ?_)
    refine r_ald (pc := 52) (j := 3) B I (by decide) (by decide) e8 d_up_52 ?_
    cases hm
    exact q_iret (pc := 53) B I rfl d_up_53
  · have hm := iff' hc hm
    refine lv_iconst (pc := 29) (v := 0) hx hb d_up_29 (by decide) ?_
    cases hm
    exact q_iret (pc := 30) B I rfl d_up_30
def m_up (N : Nat) (S : rS) : Option (Int32 × rS) :=
  b1 (rL S 5 (S.1 18)) (fun x1 => if x1 = (-1) then (m_up_19 N  1 S) else (m_up_19 N  0 S))
set_option maxRecDepth 100000 in
set_option maxHeartbeats 4000000 in
theorem c_up {S S' : rS} {r : Int32} (hR : RR b0 h Z) (hm : m_up N  S = some (r, S')) : Ct l D vwCl (tyL dA) b0 Z y_up (.code y_up cb_up 1 (some .int) :: wsA) 0 0 [.ref h] (rH dA h S hp0) sz (some (.int r)) (rH dA h S' hp0) 0 0 := by
  refine ct_of (cc := cb_up) (maxL := 1) (ret := (some .int)) (lo0 := [some (.ref h)]) hR.2 (by decide) rfl (by simp [lg_sl, Value.category]) rfl (by simp [lx_all, lv_args, Value.category]) ?_
  intro p e s m args below meth c ls B hnm hl I
  obtain ⟨hx, hb, -⟩ := B.1
  unfold m_up at hm
  refine lv_aload_n (pc := 0) (i := 0) hx hb d_up_0 rfl (lx_get hl rfl) ?_
  refine lv_aload_n (pc := 1) (i := 0) hx hb d_up_1 rfl (lx_get hl rfl) ?_
  refine r_get (pc := 2) (k := 9) (index := 22) B I (by decide) mF_22 rfl rfl d_up_2 ?_
  refine lv_aload_n (pc := 5) (i := 0) hx hb d_up_5 rfl (lx_get hl rfl) ?_
  refine r_get (pc := 6) (k := 18) (index := 216) B I (by decide) mF_216 rfl rfl d_up_6 ?_
  refine ob1 hm (fun x1 e2 hm => ?_)
  refine r_ald (pc := 9) (j := 5) B I (by decide) (by decide) e2 d_up_9 ?_
  refine lv_iconst (pc := 10) (v := (-1)) hx hb d_up_10 (by decide) ?_
  refine lv_icmp_ne (pc := 11) (tgt := 18) hx hb d_up_11 (by decide) (fun hc => ?_) (fun hc => ?_)
  · have hm := iff' hc hm
    refine lv_iconst (pc := 18) (v := 0) hx hb d_up_18 (by decide) ?_
    exact w_up_19  B hR hl I hm
  · have hm := ift hc hm
    refine lv_iconst (pc := 14) (v := 1) hx hb d_up_14 (by decide) ?_
    refine lv_goto (pc := 15) (tgt := 19) hx hb d_up_15 (by decide) ?_
    exact w_up_19  B hR hl I hm
def m_kind (N : Nat) (S : rS) : Option (Int32 × rS) :=
  b1 (rP S 0 0) (fun S1 => b1 (rL S1 3 (S1.1 18)) (fun x3 => some (x3, S1)))
set_option maxRecDepth 100000 in
set_option maxHeartbeats 4000000 in
theorem c_kind {S S' : rS} {r : Int32} (hR : RR b0 h Z) (hm : m_kind N  S = some (r, S')) : Ct l D vwCl (tyL dA) b0 Z y_kind (.code y_kind cb_kind 1 (some .int) :: wsA) 0 0 [.ref h] (rH dA h S hp0) sz (some (.int r)) (rH dA h S' hp0) 0 0 := by
  refine ct_of (cc := cb_kind) (maxL := 1) (ret := (some .int)) (lo0 := [some (.ref h)]) hR.2 (by decide) rfl (by simp [lg_sl, Value.category]) rfl (by simp [lx_all, lv_args, Value.category]) ?_
  intro p e s m args below meth c ls B hnm hl I
  obtain ⟨hx, hb, -⟩ := B.1
  unfold m_kind at hm
  refine lv_aload_n (pc := 0) (i := 0) hx hb d_kind_0 rfl (lx_get hl rfl) ?_
  refine lv_iconst (pc := 1) (v := 0) hx hb d_kind_1 (by decide) ?_
  refine ob1 hm (fun S1 e2 hm => ?_)
  refine r_put (pc := 2) (k := 0) (index := 67) B hR I (by decide) mF_67 rfl rfl rfl (fun _ _ => rfl) e2 d_kind_2 (fun H locs I => ?_)
  refine lv_aload_n (pc := 5) (i := 0) hx hb d_kind_5 rfl (lx_get hl rfl) ?_
  refine r_get (pc := 6) (k := 7) (index := 16) B I (by decide) mF_16 rfl rfl d_kind_6 ?_
  refine lv_aload_n (pc := 9) (i := 0) hx hb d_kind_9 rfl (lx_get hl rfl) ?_
  refine r_get (pc := 10) (k := 18) (index := 216) B I (by decide) mF_216 rfl rfl d_kind_10 ?_
  refine ob1 hm (fun x3 e4 hm => ?_)
  refine r_ald (pc := 13) (j := 3) B I (by decide) (by decide) e4 d_kind_13 ?_
  cases hm
  exact q_iret (pc := 14) B I rfl d_kind_14
def m_value_29 (N : Nat) (S : rS) : Option (Int32 × rS) :=
  b1 (rL S 9 (S.1 18)) (fun x1 => some (x1, S))
set_option maxRecDepth 100000 in
set_option maxHeartbeats 4000000 in
theorem w_value_29 {S : rS} (B : BX p m c cb_value 1 s args (.code y_value cb_value 1 (some .int) :: wsA) RREF meth (some .int) D vwCl (tyL dA) b0 Z) (hR : RR b0 h Z) (hl : lx ls [some (.ref h)]) (I : AI D vwCl b0 (rH dA h S hp0) sz s.heap H locs)  (hm : m_value_29 N   S = some (r, S')) : W p l e { frames := 1, cells := 0, slots := 0, locals := 21 } s m args below meth c H locs 0 0 (MQ below (CQ D vwCl b0 (some (.int r)) (rH dA h S' hp0) sz) args s 0 0 (fun q => b0 ≤ q)) (F0 m 29 ls []) := by
  obtain ⟨hx, hb, -⟩ := B.1
  unfold m_value_29 at hm
  refine lv_aload_n (pc := 29) (i := 0) hx hb d_value_29 rfl (lx_get hl rfl) ?_
  refine r_get (pc := 30) (k := 13) (index := 34) B I (by decide) mF_34 rfl rfl d_value_30 ?_
  refine lv_aload_n (pc := 33) (i := 0) hx hb d_value_33 rfl (lx_get hl rfl) ?_
  refine r_get (pc := 34) (k := 18) (index := 216) B I (by decide) mF_216 rfl rfl d_value_34 ?_
  refine ob1 hm (fun x1 e2 hm => ?_)
  refine r_ald (pc := 37) (j := 9) B I (by decide) (by decide) e2 d_value_37 ?_
  refine lv_goto (pc := 38) (tgt := 50) hx hb d_value_38 (by decide) ?_
  cases hm
  exact q_iret (pc := 50) B I rfl d_value_50
def m_value (N : Nat) (S : rS) : Option (Int32 × rS) :=
  b1 (rP S 0 0) (fun S1 => b1 (rL S1 3 (S1.1 18)) (fun x3 => if x3 = 3 then (m_value_29 N  S1) else (b1 (m_holds N (S1.1 18) S1) (fun x6 => if x6 = 0 then (b1 (rL S1 4 (S1.1 18)) (fun x7 => some (x7, S1))) else (m_value_29 N  S1)))))
set_option maxRecDepth 100000 in
set_option maxHeartbeats 4000000 in
theorem c_value {S S' : rS} {r : Int32} (hR : RR b0 h Z) (hm : m_value N  S = some (r, S')) : Ct l D vwCl (tyL dA) b0 Z y_value (.code y_value cb_value 1 (some .int) :: wsA) 1 21 [.ref h] (rH dA h S hp0) sz (some (.int r)) (rH dA h S' hp0) 0 0 := by
  refine ct_of (cc := cb_value) (maxL := 1) (ret := (some .int)) (lo0 := [some (.ref h)]) hR.2 (by decide) rfl (by simp [lg_sl, Value.category]) rfl (by simp [lx_all, lv_args, Value.category]) ?_
  intro p e s m args below meth c ls B hnm hl I
  obtain ⟨hx, hb, -⟩ := B.1
  unfold m_value at hm
  refine lv_aload_n (pc := 0) (i := 0) hx hb d_value_0 rfl (lx_get hl rfl) ?_
  refine lv_iconst (pc := 1) (v := 0) hx hb d_value_1 (by decide) ?_
  refine ob1 hm (fun S1 e2 hm => ?_)
  refine r_put (pc := 2) (k := 0) (index := 67) B hR I (by decide) mF_67 rfl rfl rfl (fun _ _ => rfl) e2 d_value_2 (fun H locs I => ?_)
  refine lv_aload_n (pc := 5) (i := 0) hx hb d_value_5 rfl (lx_get hl rfl) ?_
  refine r_get (pc := 6) (k := 7) (index := 16) B I (by decide) mF_16 rfl rfl d_value_6 ?_
  refine lv_aload_n (pc := 9) (i := 0) hx hb d_value_9 rfl (lx_get hl rfl) ?_
  refine r_get (pc := 10) (k := 18) (index := 216) B I (by decide) mF_216 rfl rfl d_value_10 ?_
  refine ob1 hm (fun x3 e4 hm => ?_)
  refine r_ald (pc := 13) (j := 3) B I (by decide) (by decide) e4 d_value_13 ?_
  refine lv_iconst (pc := 14) (v := 3) hx hb d_value_14 (by decide) ?_
  refine lv_icmp_eq (pc := 15) (tgt := 29) hx hb d_value_15 (by decide) (fun hc => ?_) (fun hc => ?_)
  · have hm := ift hc hm
    exact w_value_29  B hR hl I hm
  · have hm := iff' hc hm
    refine lv_aload_n (pc := 18) (i := 0) hx hb d_value_18 rfl (lx_get hl rfl) ?_
    refine lv_aload_n (pc := 19) (i := 0) hx hb d_value_19 rfl (lx_get hl rfl) ?_
    refine r_get (pc := 20) (k := 18) (index := 216) B I (by decide) mF_216 rfl rfl d_value_20 ?_
    refine ob1 hm (fun x6 e5 hm => ?_)
    refine r_call (pc := 23) (As := [.int (S1.1 18)]) (rest := []) B hl rfl I (c_holds hR e5) kw_holds rfl (by decide) (by decide) rfl (by simp [Value.category]) d_value_23 (fun H locs I => ?_)
    refine lv_if_eq (pc := 26) (tgt := 41) hx hb d_value_26 (by decide) (fun hc => ?_) (fun hc => ?_)
    · have hm := ift hc hm
      refine lv_aload_n (pc := 41) (i := 0) hx hb d_value_41 rfl (lx_get hl rfl) ?_
      refine r_get (pc := 42) (k := 8) (index := 19) B I (by decide) mF_19 rfl rfl d_value_42 ?_
      refine lv_aload_n (pc := 45) (i := 0) hx hb d_value_45 rfl (lx_get hl rfl) ?_
      refine r_get (pc := 46) (k := 18) (index := 216) B I (by decide) mF_216 rfl rfl d_value_46 ?_
      refine ob1 hm (fun x7 e8 hm => ?_)
      refine r_ald (pc := 49) (j := 4) B I (by decide) (by decide) e8 d_value_49 ?_
      cases hm
      exact q_iret (pc := 50) B I rfl d_value_50
    · have hm := iff' hc hm
      exact w_value_29  B hR hl I hm
def m_letter_40 (N : Nat) (y1 : Int32) (z1 : Int32) (S : rS) : Option (Int32 × rS) :=
  b1 (rP S 0 z1) (fun S1 => if S1.1 0 = 0 then (b1 (rL S1 4 (S1.1 18)) (fun x3 => b1 (rL S1 13 (x3 + y1)) (fun x5 => some (x5, S1)))) else (some (0, S1)))
set_option maxRecDepth 100000 in
set_option maxHeartbeats 4000000 in
theorem w_letter_40 {y1 : Int32} {z1 : Int32} {S : rS} (B : BX p m c cb_letter 2 s args (.code y_letter cb_letter 2 (some .int) :: wsA) RREF meth (some .int) D vwCl (tyL dA) b0 Z) (hR : RR b0 h Z) (hl : lx ls [some (.ref h), some (.int y1)]) (I : AI D vwCl b0 (rH dA h S hp0) sz s.heap H locs)  (hm : m_letter_40 N  y1 z1 S = some (r, S')) : W p l e { frames := 0, cells := 0, slots := 0, locals := 0 } s m args below meth c H locs 0 0 (MQ below (CQ D vwCl b0 (some (.int r)) (rH dA h S' hp0) sz) args s 0 0 (fun q => b0 ≤ q)) (F0 m 40 ls [.int z1, .ref h]) := by
  obtain ⟨hx, hb, -⟩ := B.1
  unfold m_letter_40 at hm
  refine ob1 hm (fun S1 e2 hm => ?_)
  refine r_put (pc := 40) (k := 0) (index := 67) B hR I (by decide) mF_67 rfl rfl rfl (fun _ _ => rfl) e2 d_letter_40 (fun H locs I => ?_)
  refine lv_aload_n (pc := 43) (i := 0) hx hb d_letter_43 rfl (lx_get hl rfl) ?_
  refine r_get (pc := 44) (k := 0) (index := 67) B I (by decide) mF_67 rfl rfl d_letter_44 ?_
  refine lv_if_ne (pc := 47) (tgt := 69) hx hb d_letter_47 (by decide) (fun hc => ?_) (fun hc => ?_)
  · have hm := iff' hc hm
    refine lv_iconst (pc := 69) (v := 0) hx hb d_letter_69 (by decide) ?_
    cases hm
    exact q_iret (pc := 70) B I rfl d_letter_70
  · have hm := ift hc hm
    refine lv_aload_n (pc := 50) (i := 0) hx hb d_letter_50 rfl (lx_get hl rfl) ?_
    refine r_get (pc := 51) (k := 17) (index := 46) B I (by decide) mF_46 rfl rfl d_letter_51 ?_
    refine lv_aload_n (pc := 54) (i := 0) hx hb d_letter_54 rfl (lx_get hl rfl) ?_
    refine r_get (pc := 55) (k := 8) (index := 19) B I (by decide) mF_19 rfl rfl d_letter_55 ?_
    refine lv_aload_n (pc := 58) (i := 0) hx hb d_letter_58 rfl (lx_get hl rfl) ?_
    refine r_get (pc := 59) (k := 18) (index := 216) B I (by decide) mF_216 rfl rfl d_letter_59 ?_
    refine ob1 hm (fun x3 e4 hm => ?_)
    refine r_ald (pc := 62) (j := 4) B I (by decide) (by decide) e4 d_letter_62 ?_
    refine lv_iload_n (pc := 63) (i := 1) hx hb d_letter_63 rfl (lx_get hl rfl) ?_
    refine lv_iadd (pc := 64) hx hb d_letter_64 ?_
    refine ob1 hm (fun x5 e6 hm => ?_)
    refine r_ald (pc := 65) (j := 13) B I (by decide) (by decide) e6 d_letter_65 ?_
    refine lv_goto (pc := 66) (tgt := 70) hx hb d_letter_66 (by decide) ?_
    cases hm
    exact q_iret (pc := 70) B I rfl d_letter_70
def m_letter_35 (N : Nat) (y1 : Int32) (S : rS) : Option (Int32 × rS) :=
  m_letter_40 N  y1 2 S
set_option maxRecDepth 100000 in
set_option maxHeartbeats 4000000 in
theorem w_letter_35 {y1 : Int32} {S : rS} (B : BX p m c cb_letter 2 s args (.code y_letter cb_letter 2 (some .int) :: wsA) RREF meth (some .int) D vwCl (tyL dA) b0 Z) (hR : RR b0 h Z) (hl : lx ls [some (.ref h), some (.int y1)]) (I : AI D vwCl b0 (rH dA h S hp0) sz s.heap H locs)  (hm : m_letter_35 N  y1 S = some (r, S')) : W p l e { frames := 0, cells := 0, slots := 0, locals := 0 } s m args below meth c H locs 0 0 (MQ below (CQ D vwCl b0 (some (.int r)) (rH dA h S' hp0) sz) args s 0 0 (fun q => b0 ≤ q)) (F0 m 35 ls [.ref h]) := by
  obtain ⟨hx, hb, -⟩ := B.1
  unfold m_letter_35 at hm
  refine lv_iconst (pc := 35) (v := 2) hx hb d_letter_35 (by decide) ?_
  refine lv_goto (pc := 36) (tgt := 40) hx hb d_letter_36 (by decide) ?_
  exact w_letter_40  B hR hl I hm
def m_letter (N : Nat) (p1 : Int32) (S : rS) : Option (Int32 × rS) :=
  b1 (rL S 3 (S.1 18)) (fun x1 => if x1 = 3 then (if p1 < 0 then (m_letter_35 N  p1 S) else (b1 (rL S 9 (S.1 18)) (fun x3 => if p1 < x3 then (m_letter_40 N  p1 0 S) else (m_letter_35 N  p1 S)))) else (m_letter_40 N  p1 1 S))
set_option maxRecDepth 100000 in
set_option maxHeartbeats 4000000 in
theorem c_letter {p1 : Int32} {S S' : rS} {r : Int32} (hR : RR b0 h Z) (hm : m_letter N p1 S = some (r, S')) : Ct l D vwCl (tyL dA) b0 Z y_letter (.code y_letter cb_letter 2 (some .int) :: wsA) 0 0 [.ref h, .int p1] (rH dA h S hp0) sz (some (.int r)) (rH dA h S' hp0) 0 0 := by
  refine ct_of (cc := cb_letter) (maxL := 2) (ret := (some .int)) (lo0 := [some (.ref h), some (.int p1)]) hR.2 (by decide) rfl (by simp [lg_sl, Value.category]) rfl (by simp [lx_all, lv_args, Value.category]) ?_
  intro p e s m args below meth c ls B hnm hl I
  obtain ⟨hx, hb, -⟩ := B.1
  unfold m_letter at hm
  refine lv_aload_n (pc := 0) (i := 0) hx hb d_letter_0 rfl (lx_get hl rfl) ?_
  refine lv_aload_n (pc := 1) (i := 0) hx hb d_letter_1 rfl (lx_get hl rfl) ?_
  refine r_get (pc := 2) (k := 7) (index := 16) B I (by decide) mF_16 rfl rfl d_letter_2 ?_
  refine lv_aload_n (pc := 5) (i := 0) hx hb d_letter_5 rfl (lx_get hl rfl) ?_
  refine r_get (pc := 6) (k := 18) (index := 216) B I (by decide) mF_216 rfl rfl d_letter_6 ?_
  refine ob1 hm (fun x1 e2 hm => ?_)
  refine r_ald (pc := 9) (j := 3) B I (by decide) (by decide) e2 d_letter_9 ?_
  refine lv_iconst (pc := 10) (v := 3) hx hb d_letter_10 (by decide) ?_
  refine lv_icmp_eq (pc := 11) (tgt := 18) hx hb d_letter_11 (by decide) (fun hc => ?_) (fun hc => ?_)
  · have hm := ift hc hm
    refine lv_iload_n (pc := 18) (i := 1) hx hb d_letter_18 rfl (lx_get hl rfl) ?_
    refine lv_if_lt (pc := 19) (tgt := 35) hx hb d_letter_19 (by decide) (fun hc => ?_) (fun hc => ?_)
    · have hm := ift hc hm
      exact w_letter_35  B hR hl I hm
    · have hm := iff' hc hm
      refine lv_iload_n (pc := 22) (i := 1) hx hb d_letter_22 rfl (lx_get hl rfl) ?_
      refine lv_aload_n (pc := 23) (i := 0) hx hb d_letter_23 rfl (lx_get hl rfl) ?_
      refine r_get (pc := 24) (k := 13) (index := 34) B I (by decide) mF_34 rfl rfl d_letter_24 ?_
      refine lv_aload_n (pc := 27) (i := 0) hx hb d_letter_27 rfl (lx_get hl rfl) ?_
      refine r_get (pc := 28) (k := 18) (index := 216) B I (by decide) mF_216 rfl rfl d_letter_28 ?_
      refine ob1 hm (fun x3 e4 hm => ?_)
      refine r_ald (pc := 31) (j := 9) B I (by decide) (by decide) e4 d_letter_31 ?_
      refine lv_icmp_lt (pc := 32) (tgt := 39) hx hb d_letter_32 (by decide) (fun hc => ?_) (fun hc => ?_)
      · have hm := ift hc hm
        refine lv_iconst (pc := 39) (v := 0) hx hb d_letter_39 (by decide) ?_
        exact w_letter_40  B hR hl I hm
      · have hm := iff' hc hm
        exact w_letter_35  B hR hl I hm
  · have hm := iff' hc hm
    refine lv_iconst (pc := 14) (v := 1) hx hb d_letter_14 (by decide) ?_
    refine lv_goto (pc := 15) (tgt := 40) hx hb d_letter_15 (by decide) ?_
    exact w_letter_40  B hR hl I hm
def m_key_33 (N : Nat) (y1 : Int32) (z1 : Int32) (S : rS) : Option (Int32 × rS) :=
  b1 (rP S 0 z1) (fun S1 => if S1.1 0 = 0 then (if y1 < 0 then (some ((-1), S1)) else (b1 (rL S1 11 (S1.1 18)) (fun x3 => if y1 < x3 then (b1 (rL S1 10 (S1.1 18)) (fun x5 => b1 (rL S1 13 (x5 + y1)) (fun x7 => some (x7, S1)))) else (some ((-1), S1))))) else (some (0, S1)))
set_option maxRecDepth 100000 in
set_option maxHeartbeats 4000000 in
theorem w_key_33 {y1 : Int32} {z1 : Int32} {S : rS} (B : BX p m c cb_key 3 s args (.code y_key cb_key 3 (some .int) :: wsA) RREF meth (some .int) D vwCl (tyL dA) b0 Z) (hR : RR b0 h Z) (hl : lx ls [some (.ref h), some (.int y1), none]) (I : AI D vwCl b0 (rH dA h S hp0) sz s.heap H locs)  (hm : m_key_33 N  y1 z1 S = some (r, S')) : W p l e { frames := 1, cells := 0, slots := 0, locals := 21 } s m args below meth c H locs 0 0 (MQ below (CQ D vwCl b0 (some (.int r)) (rH dA h S' hp0) sz) args s 0 0 (fun q => b0 ≤ q)) (F0 m 33 ls [.int z1, .ref h]) := by
  obtain ⟨hx, hb, -⟩ := B.1
  unfold m_key_33 at hm
  refine ob1 hm (fun S1 e2 hm => ?_)
  refine r_put (pc := 33) (k := 0) (index := 67) B hR I (by decide) mF_67 rfl rfl rfl (fun _ _ => rfl) e2 d_key_33 (fun H locs I => ?_)
  refine lv_aload_n (pc := 36) (i := 0) hx hb d_key_36 rfl (lx_get hl rfl) ?_
  refine r_get (pc := 37) (k := 0) (index := 67) B I (by decide) mF_67 rfl rfl d_key_37 ?_
  refine lv_if_eq (pc := 40) (tgt := 45) hx hb d_key_40 (by decide) (fun hc => ?_) (fun hc => ?_)
  · have hm := ift hc hm
    refine lv_iload_n (pc := 45) (i := 1) hx hb d_key_45 rfl (lx_get hl rfl) ?_
    refine lv_if_lt (pc := 46) (tgt := 62) hx hb d_key_46 (by decide) (fun hc => ?_) (fun hc => ?_)
    · have hm := ift hc hm
      refine lv_iconst (pc := 62) (v := (-1)) hx hb d_key_62 (by decide) ?_
      refine lv_goto (pc := 63) (tgt := 82) hx hb d_key_63 (by decide) ?_
      cases hm
      exact q_iret (pc := 82) B I rfl d_key_82
    · have hm := iff' hc hm
      refine lv_iload_n (pc := 49) (i := 1) hx hb d_key_49 rfl (lx_get hl rfl) ?_
      refine lv_aload_n (pc := 50) (i := 0) hx hb d_key_50 rfl (lx_get hl rfl) ?_
      refine r_get (pc := 51) (k := 15) (index := 40) B I (by decide) mF_40 rfl rfl d_key_51 ?_
      refine lv_aload_n (pc := 54) (i := 0) hx hb d_key_54 rfl (lx_get hl rfl) ?_
      refine r_get (pc := 55) (k := 18) (index := 216) B I (by decide) mF_216 rfl rfl d_key_55 ?_
      refine ob1 hm (fun x3 e4 hm => ?_)
      refine r_ald (pc := 58) (j := 11) B I (by decide) (by decide) e4 d_key_58 ?_
      refine lv_icmp_lt (pc := 59) (tgt := 66) hx hb d_key_59 (by decide) (fun hc => ?_) (fun hc => ?_)
      · have hm := ift hc hm
        refine lv_aload_n (pc := 66) (i := 0) hx hb d_key_66 rfl (lx_get hl rfl) ?_
        refine r_get (pc := 67) (k := 17) (index := 46) B I (by decide) mF_46 rfl rfl d_key_67 ?_
        refine lv_aload_n (pc := 70) (i := 0) hx hb d_key_70 rfl (lx_get hl rfl) ?_
        refine r_get (pc := 71) (k := 14) (index := 37) B I (by decide) mF_37 rfl rfl d_key_71 ?_
        refine lv_aload_n (pc := 74) (i := 0) hx hb d_key_74 rfl (lx_get hl rfl) ?_
        refine r_get (pc := 75) (k := 18) (index := 216) B I (by decide) mF_216 rfl rfl d_key_75 ?_
        refine ob1 hm (fun x5 e6 hm => ?_)
        refine r_ald (pc := 78) (j := 10) B I (by decide) (by decide) e6 d_key_78 ?_
        refine lv_iload_n (pc := 79) (i := 1) hx hb d_key_79 rfl (lx_get hl rfl) ?_
        refine lv_iadd (pc := 80) hx hb d_key_80 ?_
        refine ob1 hm (fun x7 e8 hm => ?_)
        refine r_ald (pc := 81) (j := 13) B I (by decide) (by decide) e8 d_key_81 ?_
        cases hm
        exact q_iret (pc := 82) B I rfl d_key_82
      · have hm := iff' hc hm
        refine lv_iconst (pc := 62) (v := (-1)) hx hb d_key_62 (by decide) ?_
        refine lv_goto (pc := 63) (tgt := 82) hx hb d_key_63 (by decide) ?_
        cases hm
        exact q_iret (pc := 82) B I rfl d_key_82
  · have hm := iff' hc hm
    refine lv_iconst (pc := 43) (v := 0) hx hb d_key_43 (by decide) ?_
    cases hm
    exact q_iret (pc := 44) B I rfl d_key_44
def m_key (N : Nat) (p1 : Int32) (S : rS) : Option (Int32 × rS) :=
  b1 (rL S 5 (S.1 18)) (fun x1 => if x1 = (-1) then (m_key_33 N  p1 1 S) else (b1 (m_isTable N x1 S) (fun x4 => if x4 = 0 then (m_key_33 N  p1 1 S) else (m_key_33 N  p1 0 S))))
set_option maxRecDepth 100000 in
set_option maxHeartbeats 4000000 in
theorem c_key {p1 : Int32} {S S' : rS} {r : Int32} (hR : RR b0 h Z) (hm : m_key N p1 S = some (r, S')) : Ct l D vwCl (tyL dA) b0 Z y_key (.code y_key cb_key 3 (some .int) :: wsA) 1 21 [.ref h, .int p1] (rH dA h S hp0) sz (some (.int r)) (rH dA h S' hp0) 0 0 := by
  refine ct_of (cc := cb_key) (maxL := 3) (ret := (some .int)) (lo0 := [some (.ref h), some (.int p1), none]) hR.2 (by decide) rfl (by simp [lg_sl, Value.category]) rfl (by simp [lx_all, lv_args, Value.category]) ?_
  intro p e s m args below meth c ls B hnm hl I
  obtain ⟨hx, hb, -⟩ := B.1
  unfold m_key at hm
  refine lv_aload_n (pc := 0) (i := 0) hx hb d_key_0 rfl (lx_get hl rfl) ?_
  refine r_get (pc := 1) (k := 9) (index := 22) B I (by decide) mF_22 rfl rfl d_key_1 ?_
  refine lv_aload_n (pc := 4) (i := 0) hx hb d_key_4 rfl (lx_get hl rfl) ?_
  refine r_get (pc := 5) (k := 18) (index := 216) B I (by decide) mF_216 rfl rfl d_key_5 ?_
  refine ob1 hm (fun x1 e2 hm => ?_)
  refine r_ald (pc := 8) (j := 5) B I (by decide) (by decide) e2 d_key_8 ?_
  refine q_istore_n (pc := 9) (i := 2) (lo' := [some (.ref h), some (.int p1), some (.int x1)]) hx hb d_key_9 rfl hl (Nat.le_of_ble_eq_true rfl) (lx_ci rfl) rfl (fun ls hl => ?_)
  refine lv_aload_n (pc := 10) (i := 0) hx hb d_key_10 rfl (lx_get hl rfl) ?_
  refine lv_iload_n (pc := 11) (i := 2) hx hb d_key_11 rfl (lx_get hl rfl) ?_
  refine lv_iconst (pc := 12) (v := (-1)) hx hb d_key_12 (by decide) ?_
  refine lv_icmp_ne (pc := 13) (tgt := 20) hx hb d_key_13 (by decide) (fun hc => ?_) (fun hc => ?_)
  · have hm := iff' hc hm
    refine lv_aload_n (pc := 20) (i := 0) hx hb d_key_20 rfl (lx_get hl rfl) ?_
    refine lv_iload_n (pc := 21) (i := 2) hx hb d_key_21 rfl (lx_get hl rfl) ?_
    refine ob1 hm (fun x4 e3 hm => ?_)
    refine r_call (pc := 22) (As := [.int x1]) (rest := [.ref h]) B hl rfl I (c_isTable hR e3) kw_isTable rfl (by decide) (by decide) rfl (by simp [Value.category]) d_key_22 (fun H locs I => ?_)
    refine lv_if_eq (pc := 25) (tgt := 32) hx hb d_key_25 (by decide) (fun hc => ?_) (fun hc => ?_)
    · have hm := ift hc hm
      refine lv_iconst (pc := 32) (v := 1) hx hb d_key_32 (by decide) ?_
      exact w_key_33  B hR (lx_sub (lo' := [some (.ref h), some (.int p1), none]) hl (by simp [lx_le])) I hm
    · have hm := iff' hc hm
      refine lv_iconst (pc := 28) (v := 0) hx hb d_key_28 (by decide) ?_
      refine lv_goto (pc := 29) (tgt := 33) hx hb d_key_29 (by decide) ?_
      exact w_key_33  B hR (lx_sub (lo' := [some (.ref h), some (.int p1), none]) hl (by simp [lx_le])) I hm
  · have hm := ift hc hm
    refine lv_iconst (pc := 16) (v := 1) hx hb d_key_16 (by decide) ?_
    refine lv_goto (pc := 17) (tgt := 33) hx hb d_key_17 (by decide) ?_
    exact w_key_33  B hR (lx_sub (lo' := [some (.ref h), some (.int p1), none]) hl (by simp [lx_le])) I hm
end RW
