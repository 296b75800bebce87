section RW
variable {p : Program} {l : Launch} {e : Env} {s : State} {m : MethodId} {args : Array Value} {below : List Frame} {meth : Method} {c : Code} {H : Heap} {locs : List Loc}
variable {ls : Array Slot} {D : va_G} {dA : Nat → ClassId} {hp0 : aH} {sz b0 h N : Nat} {S' : rS} {r : Int32} {Z : State → Prop}
def m_put_20 (N : Nat) (S : rS) : Option rS :=
  b1 (rP S 29 ((S.1 29) + 1)) (fun S1 => some S1)
set_option maxRecDepth 100000 in
set_option maxHeartbeats 4000000 in
theorem w_put_20 {S : rS} (B : BX p m c cb_put 2 s args (.code y_put cb_put 2 none :: wsA) RREF meth none D vwCl (tyL dA) b0 Z) (hR : RR b0 h Z) (hl : lx ls [some (.ref h), none]) (I : AI D vwCl b0 (rH dA h S hp0) sz s.heap H locs)  (hm : m_put_20 N   S = some S') : W p l e { frames := 0, cells := 0, slots := 0, locals := 0 } s m args below meth c H locs 0 0 (MQ below (CQ D vwCl b0 none (rH dA h S' hp0) sz) args s 0 0 (fun q => b0 ≤ q)) (F0 m 20 ls []) := by
  obtain ⟨hx, hb, -⟩ := B.1
  unfold m_put_20 at hm
  refine lv_aload_n (pc := 20) (i := 0) hx hb d_put_20 rfl (lx_get hl rfl) ?_
  refine lv_dup (pc := 21) hx hb d_put_21 rfl ?_
  refine r_get (pc := 22) (k := 29) (index := 219) B I (by decide) mF_219 rfl rfl d_put_22 ?_
  refine lv_iconst (pc := 25) (v := 1) hx hb d_put_25 (by decide) ?_
  refine lv_iadd (pc := 26) hx hb d_put_26 ?_
  refine ob1 hm (fun S1 e2 hm => ?_)
  refine r_put (pc := 27) (k := 29) (index := 219) B hR I (by decide) mF_219 rfl rfl rfl (fun _ _ => rfl) e2 d_put_27 (fun H locs I => ?_)
  cases hm
  exact q_vret (pc := 30) B I rfl d_put_30
def m_put (N : Nat) (p1 : Int32) (S : rS) : Option rS :=
  if 600 ≤ S.1 29 then (m_put_20 N  S) else (b1 (rT S 19 (S.1 29) p1) (fun S1 => m_put_20 N  S1))
set_option maxRecDepth 100000 in
set_option maxHeartbeats 4000000 in
theorem c_put {p1 : Int32} {S S' : rS} (hR : RR b0 h Z) (hm : m_put N p1 S = some S') : Ct l D vwCl (tyL dA) b0 Z y_put (.code y_put cb_put 2 none :: wsA) 0 0 [.ref h, .int p1] (rH dA h S hp0) sz none (rH dA h S' hp0) 0 0 := by
  refine ct_of (cc := cb_put) (maxL := 2) (ret := none) (lo0 := [some (.ref h), some (.int p1)]) hR.2 (by decide) rfl (by simp [lg_sl, Value.category]) rfl (by simp [lx_all, lv_args, Value.category]) ?_
  intro p e s m args below meth c ls B hnm hl I
  obtain ⟨hx, hb, -⟩ := B.1
  unfold m_put at hm
  refine lv_aload_n (pc := 0) (i := 0) hx hb d_put_0 rfl (lx_get hl rfl) ?_
  refine r_get (pc := 1) (k := 29) (index := 219) B I (by decide) mF_219 rfl rfl d_put_1 ?_
  refine lv_sipush (pc := 4) (v := 600) hx hb d_put_4 (by decide) ?_
  refine lv_icmp_ge (pc := 7) (tgt := 20) hx hb d_put_7 (by decide) (fun hc => ?_) (fun hc => ?_)
  · have hm := ift hc hm
    exact w_put_20  B hR (lx_sub (lo' := [some (.ref h), none]) hl (by simp [lx_le])) I hm
  · have hm := iff' hc hm
    refine lv_aload_n (pc := 10) (i := 0) hx hb d_put_10 rfl (lx_get hl rfl) ?_
    refine r_get (pc := 11) (k := 30) (index := 64) B I (by decide) mF_64 rfl rfl d_put_11 ?_
    refine lv_aload_n (pc := 14) (i := 0) hx hb d_put_14 rfl (lx_get hl rfl) ?_
    refine r_get (pc := 15) (k := 29) (index := 219) B I (by decide) mF_219 rfl rfl d_put_15 ?_
    refine lv_iload_n (pc := 18) (i := 1) hx hb d_put_18 rfl (lx_get hl rfl) ?_
    refine ob1 hm (fun S1 e2 hm => ?_)
    refine r_ast (pc := 19) (j := 19) B hR I (by decide) (by decide) e2 d_put_19 (fun H locs I => ?_)
    exact w_put_20  B hR (lx_sub (lo' := [some (.ref h), none]) hl (by simp [lx_le])) I hm
def m_putNumber_41F (N : Nat) (K41 : Int32 → Int32 → rS → Option rS) (y1 : Int32) (y4 : Int32) (S : rS) : Option rS :=
  if y4 ≤ 0 then (some S) else (if y4 = 0 then none else (b1 (m_put N (48 + ((y1 / y4) - (y1 / y4) / 10 * 10)) S) (fun S3 => K41 y1 (y4 / 10) S3)))
def m_putNumber_41 (N : Nat) : Nat → Int32 → Int32 → rS → Option rS
  | 0, _, _, _ => none
  | k + 1, y1, y4, S => m_putNumber_41F N  (m_putNumber_41 N  k) y1 y4 S
set_option maxRecDepth 100000 in
set_option maxHeartbeats 4000000 in
theorem w_putNumber_41F {K41 : Int32 → Int32 → rS → Option rS} {y1 : Int32} {y4 : Int32} {S : rS} (hK41 : ∀ (y1 : Int32) (y4 : Int32) (S : rS) (ls : Array Slot) (H : Heap) (locs : List Loc), lx ls [some (.ref h), some (.int y1), none, none, some (.int y4)] → AI D vwCl b0 (rH dA h S hp0) sz s.heap H locs → K41 y1 y4 S = some S' → W p l e { frames := 1, cells := 0, slots := 0, locals := 21 } s m args below meth c H locs 0 0 (MQ below (CQ D vwCl b0 none (rH dA h S' hp0) sz) args s 0 0 (fun q => b0 ≤ q)) (F0 m 41 ls [])) (B : BX p m c cb_putNumber 5 s args (.code y_putNumber cb_putNumber 5 none :: wsA) RREF meth none D vwCl (tyL dA) b0 Z) (hR : RR b0 h Z) (hl : lx ls [some (.ref h), some (.int y1), none, none, some (.int y4)]) (I : AI D vwCl b0 (rH dA h S hp0) sz s.heap H locs)  (hm : m_putNumber_41F N  K41 y1 y4 S = some S') : W p l e { frames := 1, cells := 0, slots := 0, locals := 21 } s m args below meth c H locs 0 0 (MQ below (CQ D vwCl b0 none (rH dA h S' hp0) sz) args s 0 0 (fun q => b0 ≤ q)) (F0 m 41 ls []) := by
  obtain ⟨hx, hb, -⟩ := B.1
  unfold m_putNumber_41F at hm
  refine lv_iload (pc := 41) (i := 4) hx hb d_putNumber_41 (lx_get hl rfl) ?_
  refine lv_if_le (pc := 43) (tgt := 70) hx hb d_putNumber_43 (by decide) (fun hc => ?_) (fun hc => ?_)
  · have hm := ift hc hm
    cases hm
    exact q_vret (pc := 70) B I rfl d_putNumber_70
  · have hm := iff' hc hm
    refine lv_aload_n (pc := 46) (i := 0) hx hb d_putNumber_46 rfl (lx_get hl rfl) ?_
    refine lv_bipush (pc := 47) (v := 48) hx hb d_putNumber_47 (by decide) ?_
    refine lv_iload_n (pc := 49) (i := 1) hx hb d_putNumber_49 rfl (lx_get hl rfl) ?_
    refine lv_iload (pc := 50) (i := 4) hx hb d_putNumber_50 (lx_get hl rfl) ?_
    have hz1 : ¬ y4 = 0 := fun hc => by have hm := ift hc hm; cases hm
    have hm := iff' hz1 hm
    refine lv_idiv (pc := 52) hx hb d_putNumber_52 hz1 ?_
    refine lv_bipush (pc := 53) (v := 10) hx hb d_putNumber_53 (by decide) ?_
    refine lv_irem (pc := 55) hx hb d_putNumber_55 (by decide) ?_
    refine lv_iadd (pc := 56) hx hb d_putNumber_56 ?_
    refine ob1 hm (fun S3 e2 hm => ?_)
    refine r_call (pc := 57) (As := [.int (48 + ((y1 / y4) - (y1 / y4) / 10 * 10))]) (rest := []) B hl rfl I (c_put hR e2) kw_put rfl (by decide) (by decide) rfl (by simp [Value.category]) d_putNumber_57 (fun H locs I => ?_)
    refine lv_iload (pc := 60) (i := 4) hx hb d_putNumber_60 (lx_get hl rfl) ?_
    refine lv_bipush (pc := 62) (v := 10) hx hb d_putNumber_62 (by decide) ?_
    refine lv_idiv (pc := 64) hx hb d_putNumber_64 (by decide) ?_
    refine q_istore (pc := 65) (i := 4) (lo' := [some (.ref h), some (.int y1), none, none, some (.int (y4 / 10))]) hx hb d_putNumber_65 hl (Nat.le_of_ble_eq_true rfl) (lx_cn rfl) rfl (fun ls hl => ?_)
    refine lv_goto (pc := 67) (tgt := 41) hx hb d_putNumber_67 (by decide) ?_
    exact hK41 _ _ _ _ _ _ hl I hm
set_option maxRecDepth 100000 in
set_option maxHeartbeats 4000000 in
theorem w_putNumber_41i (B : BX p m c cb_putNumber 5 s args (.code y_putNumber cb_putNumber 5 none :: wsA) RREF meth none D vwCl (tyL dA) b0 Z) (hR : RR b0 h Z) (k : Nat) (y1 : Int32) (y4 : Int32) (S : rS) (ls : Array Slot) (H : Heap) (locs : List Loc) (hl : lx ls [some (.ref h), some (.int y1), none, none, some (.int y4)]) (I : AI D vwCl b0 (rH dA h S hp0) sz s.heap H locs)  (hm : m_putNumber_41 N  k y1 y4 S = some S') : W p l e { frames := 1, cells := 0, slots := 0, locals := 21 } s m args below meth c H locs 0 0 (MQ below (CQ D vwCl b0 none (rH dA h S' hp0) sz) args s 0 0 (fun q => b0 ≤ q)) (F0 m 41 ls []) := by
  induction k generalizing y1 y4 S ls H locs with
  | zero => cases hm
  | succ k ih => exact w_putNumber_41F  (fun y1 y4 S ls H locs hl I hm => ih y1 y4 S ls H locs hl I hm) B hR hl I hm
theorem w_putNumber_41 {y1 : Int32} {y4 : Int32} {S : rS} (B : BX p m c cb_putNumber 5 s args (.code y_putNumber cb_putNumber 5 none :: wsA) RREF meth none D vwCl (tyL dA) b0 Z) (hR : RR b0 h Z) (hl : lx ls [some (.ref h), some (.int y1), none, none, some (.int y4)]) (I : AI D vwCl b0 (rH dA h S hp0) sz s.heap H locs)  {k : Nat} (hm : m_putNumber_41 N  k y1 y4 S = some S') : W p l e { frames := 1, cells := 0, slots := 0, locals := 21 } s m args below meth c H locs 0 0 (MQ below (CQ D vwCl b0 none (rH dA h S' hp0) sz) args s 0 0 (fun q => b0 ≤ q)) (F0 m 41 ls []) := w_putNumber_41i  B hR k _ _ S ls H locs hl I hm
def m_putNumber_22F (N : Nat) (K22 : Int32 → Int32 → rS → Option rS) (y1 : Int32) (y3 : Int32) (S : rS) : Option rS :=
  if y3 = 0 then none else (if y1 / y3 ≤ 9 then (m_putNumber_41 N  N y1 y3 S) else (K22 y1 (y3 * 10) S))
def m_putNumber_22 (N : Nat) : Nat → Int32 → Int32 → rS → Option rS
  | 0, _, _, _ => none
  | k + 1, y1, y3, S => m_putNumber_22F N  (m_putNumber_22 N  k) y1 y3 S
set_option maxRecDepth 100000 in
set_option maxHeartbeats 4000000 in
theorem w_putNumber_22F {K22 : Int32 → Int32 → rS → Option rS} {y1 : Int32} {y3 : Int32} {S : rS} (hK22 : ∀ (y1 : Int32) (y3 : Int32) (S : rS) (ls : Array Slot) (H : Heap) (locs : List Loc), lx ls [some (.ref h), some (.int y1), none, some (.int y3), none] → AI D vwCl b0 (rH dA h S hp0) sz s.heap H locs → K22 y1 y3 S = some S' → W p l e { frames := 1, cells := 0, slots := 0, locals := 21 } s m args below meth c H locs 0 0 (MQ below (CQ D vwCl b0 none (rH dA h S' hp0) sz) args s 0 0 (fun q => b0 ≤ q)) (F0 m 22 ls [])) (B : BX p m c cb_putNumber 5 s args (.code y_putNumber cb_putNumber 5 none :: wsA) RREF meth none D vwCl (tyL dA) b0 Z) (hR : RR b0 h Z) (hl : lx ls [some (.ref h), some (.int y1), none, some (.int y3), none]) (I : AI D vwCl b0 (rH dA h S hp0) sz s.heap H locs)  (hm : m_putNumber_22F N  K22 y1 y3 S = some S') : W p l e { frames := 1, cells := 0, slots := 0, locals := 21 } s m args below meth c H locs 0 0 (MQ below (CQ D vwCl b0 none (rH dA h S' hp0) sz) args s 0 0 (fun q => b0 ≤ q)) (F0 m 22 ls []) := by
  obtain ⟨hx, hb, -⟩ := B.1
  unfold m_putNumber_22F at hm
  refine lv_iload_n (pc := 22) (i := 1) hx hb d_putNumber_22 rfl (lx_get hl rfl) ?_
  refine lv_iload_n (pc := 23) (i := 3) hx hb d_putNumber_23 rfl (lx_get hl rfl) ?_
  have hz1 : ¬ y3 = 0 := fun hc => by have hm := ift hc hm; cases hm
  have hm := iff' hz1 hm
  refine lv_idiv (pc := 24) hx hb d_putNumber_24 hz1 ?_
  refine lv_bipush (pc := 25) (v := 9) hx hb d_putNumber_25 (by decide) ?_
  refine lv_icmp_le (pc := 27) (tgt := 38) hx hb d_putNumber_27 (by decide) (fun hc => ?_) (fun hc => ?_)
  · have hm := ift hc hm
    refine lv_iload_n (pc := 38) (i := 3) hx hb d_putNumber_38 rfl (lx_get hl rfl) ?_
    refine q_istore (pc := 39) (i := 4) (lo' := [some (.ref h), some (.int y1), none, some (.int y3), some (.int y3)]) hx hb d_putNumber_39 hl (Nat.le_of_ble_eq_true rfl) (lx_ci rfl) rfl (fun ls hl => ?_)
    exact w_putNumber_41  B hR (lx_sub (lo' := [some (.ref h), some (.int y1), none, none, some (.int y3)]) hl (by simp [lx_le])) I hm
  · have hm := iff' hc hm
    refine lv_iload_n (pc := 30) (i := 3) hx hb d_putNumber_30 rfl (lx_get hl rfl) ?_
    refine lv_bipush (pc := 31) (v := 10) hx hb d_putNumber_31 (by decide) ?_
    refine lv_imul (pc := 33) hx hb d_putNumber_33 ?_
    refine q_istore_n (pc := 34) (i := 3) (lo' := [some (.ref h), some (.int y1), none, some (.int (y3 * 10)), none]) hx hb d_putNumber_34 rfl hl (Nat.le_of_ble_eq_true rfl) (lx_cn rfl) rfl (fun ls hl => ?_)
    refine lv_goto (pc := 35) (tgt := 22) hx hb d_putNumber_35 (by decide) ?_
    exact hK22 _ _ _ _ _ _ hl I hm
set_option maxRecDepth 100000 in
set_option maxHeartbeats 4000000 in
theorem w_putNumber_22i (B : BX p m c cb_putNumber 5 s args (.code y_putNumber cb_putNumber 5 none :: wsA) RREF meth none D vwCl (tyL dA) b0 Z) (hR : RR b0 h Z) (k : Nat) (y1 : Int32) (y3 : Int32) (S : rS) (ls : Array Slot) (H : Heap) (locs : List Loc) (hl : lx ls [some (.ref h), some (.int y1), none, some (.int y3), none]) (I : AI D vwCl b0 (rH dA h S hp0) sz s.heap H locs)  (hm : m_putNumber_22 N  k y1 y3 S = some S') : W p l e { frames := 1, cells := 0, slots := 0, locals := 21 } s m args below meth c H locs 0 0 (MQ below (CQ D vwCl b0 none (rH dA h S' hp0) sz) args s 0 0 (fun q => b0 ≤ q)) (F0 m 22 ls []) := by
  induction k generalizing y1 y3 S ls H locs with
  | zero => cases hm
  | succ k ih => exact w_putNumber_22F  (fun y1 y3 S ls H locs hl I hm => ih y1 y3 S ls H locs hl I hm) B hR hl I hm
theorem w_putNumber_22 {y1 : Int32} {y3 : Int32} {S : rS} (B : BX p m c cb_putNumber 5 s args (.code y_putNumber cb_putNumber 5 none :: wsA) RREF meth none D vwCl (tyL dA) b0 Z) (hR : RR b0 h Z) (hl : lx ls [some (.ref h), some (.int y1), none, some (.int y3), none]) (I : AI D vwCl b0 (rH dA h S hp0) sz s.heap H locs)  {k : Nat} (hm : m_putNumber_22 N  k y1 y3 S = some S') : W p l e { frames := 1, cells := 0, slots := 0, locals := 21 } s m args below meth c H locs 0 0 (MQ below (CQ D vwCl b0 none (rH dA h S' hp0) sz) args s 0 0 (fun q => b0 ≤ q)) (F0 m 22 ls []) := w_putNumber_22i  B hR k _ _ S ls H locs hl I hm
def m_putNumber_5F (N : Nat) (K5 : Int32 → Int32 → Int32 → Int32 → rS → Option rS) (y1 : Int32) (y2 : Int32) (y3 : Int32) (y4 : Int32) (S : rS) : Option rS :=
  if y2 ≤ y4 then (m_putNumber_22 N  N y1 y3 S) else (K5 y1 y2 (y3 * 10) (y4 + 1) S)
def m_putNumber_5 (N : Nat) : Nat → Int32 → Int32 → Int32 → Int32 → rS → Option rS
  | 0, _, _, _, _, _ => none
  | k + 1, y1, y2, y3, y4, S => m_putNumber_5F N  (m_putNumber_5 N  k) y1 y2 y3 y4 S
set_option maxRecDepth 100000 in
set_option maxHeartbeats 4000000 in
theorem w_putNumber_5F {K5 : Int32 → Int32 → Int32 → Int32 → rS → Option rS} {y1 : Int32} {y2 : Int32} {y3 : Int32} {y4 : Int32} {S : rS} (hK5 : ∀ (y1 : Int32) (y2 : Int32) (y3 : Int32) (y4 : Int32) (S : rS) (ls : Array Slot) (H : Heap) (locs : List Loc), lx ls [some (.ref h), some (.int y1), some (.int y2), some (.int y3), some (.int y4)] → AI D vwCl b0 (rH dA h S hp0) sz s.heap H locs → K5 y1 y2 y3 y4 S = some S' → W p l e { frames := 1, cells := 0, slots := 0, locals := 21 } s m args below meth c H locs 0 0 (MQ below (CQ D vwCl b0 none (rH dA h S' hp0) sz) args s 0 0 (fun q => b0 ≤ q)) (F0 m 5 ls [])) (B : BX p m c cb_putNumber 5 s args (.code y_putNumber cb_putNumber 5 none :: wsA) RREF meth none D vwCl (tyL dA) b0 Z) (hR : RR b0 h Z) (hl : lx ls [some (.ref h), some (.int y1), some (.int y2), some (.int y3), some (.int y4)]) (I : AI D vwCl b0 (rH dA h S hp0) sz s.heap H locs)  (hm : m_putNumber_5F N  K5 y1 y2 y3 y4 S = some S') : W p l e { frames := 1, cells := 0, slots := 0, locals := 21 } s m args below meth c H locs 0 0 (MQ below (CQ D vwCl b0 none (rH dA h S' hp0) sz) args s 0 0 (fun q => b0 ≤ q)) (F0 m 5 ls []) := by
  obtain ⟨hx, hb, -⟩ := B.1
  unfold m_putNumber_5F at hm
  refine lv_iload (pc := 5) (i := 4) hx hb d_putNumber_5 (lx_get hl rfl) ?_
  refine lv_iload_n (pc := 7) (i := 2) hx hb d_putNumber_7 rfl (lx_get hl rfl) ?_
  refine lv_icmp_ge (pc := 8) (tgt := 22) hx hb d_putNumber_8 (by decide) (fun hc => ?_) (fun hc => ?_)
  · have hm := ift hc hm
    exact w_putNumber_22  B hR (lx_sub (lo' := [some (.ref h), some (.int y1), none, some (.int y3), none]) hl (by simp [lx_le])) I hm
  · have hm := iff' hc hm
    refine lv_iload_n (pc := 11) (i := 3) hx hb d_putNumber_11 rfl (lx_get hl rfl) ?_
    refine lv_bipush (pc := 12) (v := 10) hx hb d_putNumber_12 (by decide) ?_
    refine lv_imul (pc := 14) hx hb d_putNumber_14 ?_
    refine q_istore_n (pc := 15) (i := 3) (lo' := [some (.ref h), some (.int y1), some (.int y2), some (.int (y3 * 10)), some (.int y4)]) hx hb d_putNumber_15 rfl hl (Nat.le_of_ble_eq_true rfl) (lx_ci rfl) rfl (fun ls hl => ?_)
    refine q_iinc (pc := 16) (i := 4) (v := y4 + 1) (lo' := [some (.ref h), some (.int y1), some (.int y2), some (.int (y3 * 10)), some (.int (y4 + 1))]) hx hb d_putNumber_16 hl rfl rfl (Nat.le_of_ble_eq_true rfl) (lx_ci rfl) rfl (fun ls hl => ?_)
    refine lv_goto (pc := 19) (tgt := 5) hx hb d_putNumber_19 (by decide) ?_
    exact hK5 _ _ _ _ _ _ _ _ hl I hm
set_option maxRecDepth 100000 in
set_option maxHeartbeats 4000000 in
theorem w_putNumber_5i (B : BX p m c cb_putNumber 5 s args (.code y_putNumber cb_putNumber 5 none :: wsA) RREF meth none D vwCl (tyL dA) b0 Z) (hR : RR b0 h Z) (k : Nat) (y1 : Int32) (y2 : Int32) (y3 : Int32) (y4 : Int32) (S : rS) (ls : Array Slot) (H : Heap) (locs : List Loc) (hl : lx ls [some (.ref h), some (.int y1), some (.int y2), some (.int y3), some (.int y4)]) (I : AI D vwCl b0 (rH dA h S hp0) sz s.heap H locs)  (hm : m_putNumber_5 N  k y1 y2 y3 y4 S = some S') : W p l e { frames := 1, cells := 0, slots := 0, locals := 21 } s m args below meth c H locs 0 0 (MQ below (CQ D vwCl b0 none (rH dA h S' hp0) sz) args s 0 0 (fun q => b0 ≤ q)) (F0 m 5 ls []) := by
  induction k generalizing y1 y2 y3 y4 S ls H locs with
  | zero => cases hm
  | succ k ih => exact w_putNumber_5F  (fun y1 y2 y3 y4 S ls H locs hl I hm => ih y1 y2 y3 y4 S ls H locs hl I hm) B hR hl I hm
theorem w_putNumber_5 {y1 : Int32} {y2 : Int32} {y3 : Int32} {y4 : Int32} {S : rS} (B : BX p m c cb_putNumber 5 s args (.code y_putNumber cb_putNumber 5 none :: wsA) RREF meth none D vwCl (tyL dA) b0 Z) (hR : RR b0 h Z) (hl : lx ls [some (.ref h), some (.int y1), some (.int y2), some (.int y3), some (.int y4)]) (I : AI D vwCl b0 (rH dA h S hp0) sz s.heap H locs)  {k : Nat} (hm : m_putNumber_5 N  k y1 y2 y3 y4 S = some S') : W p l e { frames := 1, cells := 0, slots := 0, locals := 21 } s m args below meth c H locs 0 0 (MQ below (CQ D vwCl b0 none (rH dA h S' hp0) sz) args s 0 0 (fun q => b0 ≤ q)) (F0 m 5 ls []) := w_putNumber_5i  B hR k _ _ _ _ S ls H locs hl I hm
def m_putNumber (N : Nat) (p1 : Int32) (p2 : Int32) (S : rS) : Option rS :=
  m_putNumber_5 N  N p1 p2 1 1 S
set_option maxRecDepth 100000 in
set_option maxHeartbeats 4000000 in
theorem c_putNumber {p1 : Int32} {p2 : Int32} {S S' : rS} (hR : RR b0 h Z) (hm : m_putNumber N p1 p2 S = some S') : Ct l D vwCl (tyL dA) b0 Z y_putNumber (.code y_putNumber cb_putNumber 5 none :: wsA) 1 21 [.ref h, .int p1, .int p2] (rH dA h S hp0) sz none (rH dA h S' hp0) 0 0 := by
  refine ct_of (cc := cb_putNumber) (maxL := 5) (ret := none) (lo0 := [some (.ref h), some (.int p1), some (.int p2), none, none]) hR.2 (by decide) rfl (by simp [lg_sl, Value.category]) rfl (by simp [lx_all, lv_args, Value.category]) ?_
  intro p e s m args below meth c ls B hnm hl I
  obtain ⟨hx, hb, -⟩ := B.1
  unfold m_putNumber at hm
  refine lv_iconst (pc := 0) (v := 1) hx hb d_putNumber_0 (by decide) ?_
  refine q_istore_n (pc := 1) (i := 3) (lo' := [some (.ref h), some (.int p1), some (.int p2), some (.int 1), none]) hx hb d_putNumber_1 rfl hl (Nat.le_of_ble_eq_true rfl) (lx_ci rfl) rfl (fun ls hl => ?_)
  refine lv_iconst (pc := 2) (v := 1) hx hb d_putNumber_2 (by decide) ?_
  refine q_istore (pc := 3) (i := 4) (lo' := [some (.ref h), some (.int p1), some (.int p2), some (.int 1), some (.int 1)]) hx hb d_putNumber_3 hl (Nat.le_of_ble_eq_true rfl) (lx_ci rfl) rfl (fun ls hl => ?_)
  exact w_putNumber_5  B hR hl I hm
def m_putQuoted_84 (N : Nat) (K8 : Int32 → Int32 → Int32 → rS → Option rS) (y1 : Int32) (y2 : Int32) (y3 : Int32) (z1 : Int32) (S : rS) : Option rS :=
  b1 (m_put N z1 S) (fun S2 => K8 y1 y2 (y3 + 1) S2)
set_option maxRecDepth 100000 in
set_option maxHeartbeats 4000000 in
theorem w_putQuoted_84 {K8 : Int32 → Int32 → Int32 → rS → Option rS} {y1 : Int32} {y2 : Int32} {y3 : Int32} {z1 : Int32} {S : rS} (hK8 : ∀ (y1 : Int32) (y2 : Int32) (y3 : Int32) (S : rS) (ls : Array Slot) (H : Heap) (locs : List Loc), lx ls [some (.ref h), some (.int y1), some (.int y2), some (.int y3), none] → AI D vwCl b0 (rH dA h S hp0) sz s.heap H locs → K8 y1 y2 y3 S = some S' → W p l e { frames := 1, cells := 0, slots := 0, locals := 21 } s m args below meth c H locs 0 0 (MQ below (CQ D vwCl b0 none (rH dA h S' hp0) sz) args s 0 0 (fun q => b0 ≤ q)) (F0 m 8 ls [])) (B : BX p m c cb_putQuoted 5 s args (.code y_putQuoted cb_putQuoted 5 none :: wsA) RREF meth none D vwCl (tyL dA) b0 Z) (hR : RR b0 h Z) (hl : lx ls [some (.ref h), some (.int y1), some (.int y2), some (.int y3), none]) (I : AI D vwCl b0 (rH dA h S hp0) sz s.heap H locs)  (hm : m_putQuoted_84 N K8 y1 y2 y3 z1 S = some S') : W p l e { frames := 1, cells := 0, slots := 0, locals := 21 } s m args below meth c H locs 0 0 (MQ below (CQ D vwCl b0 none (rH dA h S' hp0) sz) args s 0 0 (fun q => b0 ≤ q)) (F0 m 84 ls [.int z1, .ref h]) := by
  obtain ⟨hx, hb, -⟩ := B.1
  unfold m_putQuoted_84 at hm
  refine ob1 hm (fun S2 e1 hm => ?_)
  refine r_call (pc := 84) (As := [.int z1]) (rest := []) B hl rfl I (c_put hR e1) kw_put rfl (by decide) (by decide) rfl (by simp [Value.category]) d_putQuoted_84 (fun H locs I => ?_)
  refine q_iinc (pc := 87) (i := 3) (v := y3 + 1) (lo' := [some (.ref h), some (.int y1), some (.int y2), some (.int (y3 + 1)), none]) hx hb d_putQuoted_87 hl rfl rfl (Nat.le_of_ble_eq_true rfl) (lx_ci rfl) rfl (fun ls hl => ?_)
  refine lv_goto (pc := 90) (tgt := 8) hx hb d_putQuoted_90 (by decide) ?_
  exact hK8 _ _ _ _ _ _ _ hl I hm
def m_putQuoted_57 (N : Nat) (K8 : Int32 → Int32 → Int32 → rS → Option rS) (y1 : Int32) (y2 : Int32) (y3 : Int32) (y4 : Int32) (S : rS) : Option rS :=
  if y4 = 10 then (m_putQuoted_84 N K8 y1 y2 y3 110 S) else (if y4 = 9 then (m_putQuoted_84 N K8 y1 y2 y3 116 S) else (m_putQuoted_84 N K8 y1 y2 y3 y4 S))
set_option maxRecDepth 100000 in
set_option maxHeartbeats 4000000 in
theorem w_putQuoted_57 {K8 : Int32 → Int32 → Int32 → rS → Option rS} {y1 : Int32} {y2 : Int32} {y3 : Int32} {y4 : Int32} {S : rS} (hK8 : ∀ (y1 : Int32) (y2 : Int32) (y3 : Int32) (S : rS) (ls : Array Slot) (H : Heap) (locs : List Loc), lx ls [some (.ref h), some (.int y1), some (.int y2), some (.int y3), none] → AI D vwCl b0 (rH dA h S hp0) sz s.heap H locs → K8 y1 y2 y3 S = some S' → W p l e { frames := 1, cells := 0, slots := 0, locals := 21 } s m args below meth c H locs 0 0 (MQ below (CQ D vwCl b0 none (rH dA h S' hp0) sz) args s 0 0 (fun q => b0 ≤ q)) (F0 m 8 ls [])) (B : BX p m c cb_putQuoted 5 s args (.code y_putQuoted cb_putQuoted 5 none :: wsA) RREF meth none D vwCl (tyL dA) b0 Z) (hR : RR b0 h Z) (hl : lx ls [some (.ref h), some (.int y1), some (.int y2), some (.int y3), some (.int y4)]) (I : AI D vwCl b0 (rH dA h S hp0) sz s.heap H locs)  (hm : m_putQuoted_57 N K8 y1 y2 y3 y4 S = some S') : W p l e { frames := 1, cells := 0, slots := 0, locals := 21 } s m args below meth c H locs 0 0 (MQ below (CQ D vwCl b0 none (rH dA h S' hp0) sz) args s 0 0 (fun q => b0 ≤ q)) (F0 m 57 ls []) := by
  obtain ⟨hx, hb, -⟩ := B.1
  unfold m_putQuoted_57 at hm
  refine lv_aload_n (pc := 57) (i := 0) hx hb d_putQuoted_57 rfl (lx_get hl rfl) ?_
  refine lv_iload (pc := 58) (i := 4) hx hb d_putQuoted_58 (lx_get hl rfl) ?_
  refine lv_bipush (pc := 60) (v := 10) hx hb d_putQuoted_60 (by decide) ?_
  refine lv_icmp_ne (pc := 62) (tgt := 70) hx hb d_putQuoted_62 (by decide) (fun hc => ?_) (fun hc => ?_)
  · have hm := iff' hc hm
    refine lv_iload (pc := 70) (i := 4) hx hb d_putQuoted_70 (lx_get hl rfl) ?_
    refine lv_bipush (pc := 72) (v := 9) hx hb d_putQuoted_72 (by decide) ?_
    refine lv_icmp_ne (pc := 74) (tgt := 82) hx hb d_putQuoted_74 (by decide) (fun hc => ?_) (fun hc => ?_)
    · have hm := iff' hc hm
      refine lv_iload (pc := 82) (i := 4) hx hb d_putQuoted_82 (lx_get hl rfl) ?_
      exact w_putQuoted_84 hK8 B hR (lx_sub (lo' := [some (.ref h), some (.int y1), some (.int y2), some (.int y3), none]) hl (by simp [lx_le])) I hm
    · have hm := ift hc hm
      refine lv_bipush (pc := 77) (v := 116) hx hb d_putQuoted_77 (by decide) ?_
      refine lv_goto (pc := 79) (tgt := 84) hx hb d_putQuoted_79 (by decide) ?_
      exact w_putQuoted_84 hK8 B hR (lx_sub (lo' := [some (.ref h), some (.int y1), some (.int y2), some (.int y3), none]) hl (by simp [lx_le])) I hm
  · have hm := ift hc hm
    refine lv_bipush (pc := 65) (v := 110) hx hb d_putQuoted_65 (by decide) ?_
    refine lv_goto (pc := 67) (tgt := 84) hx hb d_putQuoted_67 (by decide) ?_
    exact w_putQuoted_84 hK8 B hR (lx_sub (lo' := [some (.ref h), some (.int y1), some (.int y2), some (.int y3), none]) hl (by simp [lx_le])) I hm
def m_putQuoted_51 (N : Nat) (K8 : Int32 → Int32 → Int32 → rS → Option rS) (y1 : Int32) (y2 : Int32) (y3 : Int32) (y4 : Int32) (S : rS) : Option rS :=
  b1 (m_put N 92 S) (fun S2 => m_putQuoted_57 N K8 y1 y2 y3 y4 S2)
set_option maxRecDepth 100000 in
set_option maxHeartbeats 4000000 in
theorem w_putQuoted_51 {K8 : Int32 → Int32 → Int32 → rS → Option rS} {y1 : Int32} {y2 : Int32} {y3 : Int32} {y4 : Int32} {S : rS} (hK8 : ∀ (y1 : Int32) (y2 : Int32) (y3 : Int32) (S : rS) (ls : Array Slot) (H : Heap) (locs : List Loc), lx ls [some (.ref h), some (.int y1), some (.int y2), some (.int y3), none] → AI D vwCl b0 (rH dA h S hp0) sz s.heap H locs → K8 y1 y2 y3 S = some S' → W p l e { frames := 1, cells := 0, slots := 0, locals := 21 } s m args below meth c H locs 0 0 (MQ below (CQ D vwCl b0 none (rH dA h S' hp0) sz) args s 0 0 (fun q => b0 ≤ q)) (F0 m 8 ls [])) (B : BX p m c cb_putQuoted 5 s args (.code y_putQuoted cb_putQuoted 5 none :: wsA) RREF meth none D vwCl (tyL dA) b0 Z) (hR : RR b0 h Z) (hl : lx ls [some (.ref h), some (.int y1), some (.int y2), some (.int y3), some (.int y4)]) (I : AI D vwCl b0 (rH dA h S hp0) sz s.heap H locs)  (hm : m_putQuoted_51 N K8 y1 y2 y3 y4 S = some S') : W p l e { frames := 1, cells := 0, slots := 0, locals := 21 } s m args below meth c H locs 0 0 (MQ below (CQ D vwCl b0 none (rH dA h S' hp0) sz) args s 0 0 (fun q => b0 ≤ q)) (F0 m 51 ls []) := by
  obtain ⟨hx, hb, -⟩ := B.1
  unfold m_putQuoted_51 at hm
  refine lv_aload_n (pc := 51) (i := 0) hx hb d_putQuoted_51 rfl (lx_get hl rfl) ?_
  refine lv_bipush (pc := 52) (v := 92) hx hb d_putQuoted_52 (by decide) ?_
  refine ob1 hm (fun S2 e1 hm => ?_)
  refine r_call (pc := 54) (As := [.int 92]) (rest := []) B hl rfl I (c_put hR e1) kw_put rfl (by decide) (by decide) rfl (by simp [Value.category]) d_putQuoted_54 (fun H locs I => ?_)
  exact w_putQuoted_57 hK8 B hR hl I hm
def m_putQuoted_8F (N : Nat) (K8 : Int32 → Int32 → Int32 → rS → Option rS) (y1 : Int32) (y2 : Int32) (y3 : Int32) (S : rS) : Option rS :=
  if y2 ≤ y3 then (b1 (m_put N 34 S) (fun S2 => some S2)) else (b1 (rL S 13 (y1 + y3)) (fun x3 => if x3 = 34 then (m_putQuoted_51 N K8 y1 y2 y3 x3 S) else (if x3 = 92 then (m_putQuoted_51 N K8 y1 y2 y3 x3 S) else (if x3 = 10 then (m_putQuoted_51 N K8 y1 y2 y3 x3 S) else (if x3 = 9 then (m_putQuoted_51 N K8 y1 y2 y3 x3 S) else (m_putQuoted_57 N K8 y1 y2 y3 x3 S))))))
def m_putQuoted_8 (N : Nat) : Nat → Int32 → Int32 → Int32 → rS → Option rS
  | 0, _, _, _, _ => none
  | k + 1, y1, y2, y3, S => m_putQuoted_8F N  (m_putQuoted_8 N  k) y1 y2 y3 S
set_option maxRecDepth 100000 in
set_option maxHeartbeats 4000000 in
theorem w_putQuoted_8F {K8 : Int32 → Int32 → Int32 → rS → Option rS} {y1 : Int32} {y2 : Int32} {y3 : Int32} {S : rS} (hK8 : ∀ (y1 : Int32) (y2 : Int32) (y3 : Int32) (S : rS) (ls : Array Slot) (H : Heap) (locs : List Loc), lx ls [some (.ref h), some (.int y1), some (.int y2), some (.int y3), none] → AI D vwCl b0 (rH dA h S hp0) sz s.heap H locs → K8 y1 y2 y3 S = some S' → W p l e { frames := 1, cells := 0, slots := 0, locals := 21 } s m args below meth c H locs 0 0 (MQ below (CQ D vwCl b0 none (rH dA h S' hp0) sz) args s 0 0 (fun q => b0 ≤ q)) (F0 m 8 ls [])) (B : BX p m c cb_putQuoted 5 s args (.code y_putQuoted cb_putQuoted 5 none :: wsA) RREF meth none D vwCl (tyL dA) b0 Z) (hR : RR b0 h Z) (hl : lx ls [some (.ref h), some (.int y1), some (.int y2), some (.int y3), none]) (I : AI D vwCl b0 (rH dA h S hp0) sz s.heap H locs)  (hm : m_putQuoted_8F N  K8 y1 y2 y3 S = some S') : W p l e { frames := 1, cells := 0, slots := 0, locals := 21 } s m args below meth c H locs 0 0 (MQ below (CQ D vwCl b0 none (rH dA h S' hp0) sz) args s 0 0 (fun q => b0 ≤ q)) (F0 m 8 ls []) := by
  obtain ⟨hx, hb, -⟩ := B.1
  unfold m_putQuoted_8F at hm
  refine lv_iload_n (pc := 8) (i := 3) hx hb d_putQuoted_8 rfl (lx_get hl rfl) ?_
  refine lv_iload_n (pc := 9) (i := 2) hx hb d_putQuoted_9 rfl (lx_get hl rfl) ?_
  refine lv_icmp_ge (pc := 10) (tgt := 93) hx hb d_putQuoted_10 (by decide) (fun hc => ?_) (fun hc => ?_)
  · have hm := ift hc hm
    refine lv_aload_n (pc := 93) (i := 0) hx hb d_putQuoted_93 rfl (lx_get hl rfl) ?_
    refine lv_bipush (pc := 94) (v := 34) hx hb d_putQuoted_94 (by decide) ?_
    refine ob1 hm (fun S2 e1 hm => ?_)
    refine r_call (pc := 96) (As := [.int 34]) (rest := []) B hl rfl I (c_put hR e1) kw_put rfl (by decide) (by decide) rfl (by simp [Value.category]) d_putQuoted_96 (fun H locs I => ?_)
    cases hm
    exact q_vret (pc := 99) B I rfl d_putQuoted_99
  · have hm := iff' hc hm
    refine lv_aload_n (pc := 13) (i := 0) hx hb d_putQuoted_13 rfl (lx_get hl rfl) ?_
    refine r_get (pc := 14) (k := 17) (index := 46) B I (by decide) mF_46 rfl rfl d_putQuoted_14 ?_
    refine lv_iload_n (pc := 17) (i := 1) hx hb d_putQuoted_17 rfl (lx_get hl rfl) ?_
    refine lv_iload_n (pc := 18) (i := 3) hx hb d_putQuoted_18 rfl (lx_get hl rfl) ?_
    refine lv_iadd (pc := 19) hx hb d_putQuoted_19 ?_
    refine ob1 hm (fun x3 e4 hm => ?_)
    refine r_ald (pc := 20) (j := 13) B I (by decide) (by decide) e4 d_putQuoted_20 ?_
    refine q_istore (pc := 21) (i := 4) (lo' := [some (.ref h), some (.int y1), some (.int y2), some (.int y3), some (.int x3)]) hx hb d_putQuoted_21 hl (Nat.le_of_ble_eq_true rfl) (lx_ci rfl) rfl (fun ls hl => ?_)
    refine lv_iload (pc := 23) (i := 4) hx hb d_putQuoted_23 (lx_get hl rfl) ?_
    refine lv_bipush (pc := 25) (v := 34) hx hb d_putQuoted_25 (by decide) ?_
    refine lv_icmp_eq (pc := 27) (tgt := 51) hx hb d_putQuoted_27 (by decide) (fun hc => ?_) (fun hc => ?_)
    · have hm := ift hc hm
      exact w_putQuoted_51 hK8 B hR hl I hm
    · have hm := iff' hc hm
      refine lv_iload (pc := 30) (i := 4) hx hb d_putQuoted_30 (lx_get hl rfl) ?_
      refine lv_bipush (pc := 32) (v := 92) hx hb d_putQuoted_32 (by decide) ?_
      refine lv_icmp_eq (pc := 34) (tgt := 51) hx hb d_putQuoted_34 (by decide) (fun hc => ?_) (fun hc => ?_)
      · have hm := ift hc hm
        exact w_putQuoted_51 hK8 B hR hl I hm
      · have hm := iff' hc hm
        refine lv_iload (pc := 37) (i := 4) hx hb d_putQuoted_37 (lx_get hl rfl) ?_
        refine lv_bipush (pc := 39) (v := 10) hx hb d_putQuoted_39 (by decide) ?_
        refine lv_icmp_eq (pc := 41) (tgt := 51) hx hb d_putQuoted_41 (by decide) (fun hc => ?_) (fun hc => ?_)
        · have hm := ift hc hm
          exact w_putQuoted_51 hK8 B hR hl I hm
        · have hm := iff' hc hm
          refine lv_iload (pc := 44) (i := 4) hx hb d_putQuoted_44 (lx_get hl rfl) ?_
          refine lv_bipush (pc := 46) (v := 9) hx hb d_putQuoted_46 (by decide) ?_
          refine lv_icmp_ne (pc := 48) (tgt := 57) hx hb d_putQuoted_48 (by decide) (fun hc => ?_) (fun hc => ?_)
          · have hm := iff' hc hm
            exact w_putQuoted_57 hK8 B hR hl I hm
          · have hm := ift hc hm
            exact w_putQuoted_51 hK8 B hR hl I hm
set_option maxRecDepth 100000 in
set_option maxHeartbeats 4000000 in
theorem w_putQuoted_8i (B : BX p m c cb_putQuoted 5 s args (.code y_putQuoted cb_putQuoted 5 none :: wsA) RREF meth none D vwCl (tyL dA) b0 Z) (hR : RR b0 h Z) (k : Nat) (y1 : Int32) (y2 : Int32) (y3 : Int32) (S : rS) (ls : Array Slot) (H : Heap) (locs : List Loc) (hl : lx ls [some (.ref h), some (.int y1), some (.int y2), some (.int y3), none]) (I : AI D vwCl b0 (rH dA h S hp0) sz s.heap H locs)  (hm : m_putQuoted_8 N  k y1 y2 y3 S = some S') : W p l e { frames := 1, cells := 0, slots := 0, locals := 21 } s m args below meth c H locs 0 0 (MQ below (CQ D vwCl b0 none (rH dA h S' hp0) sz) args s 0 0 (fun q => b0 ≤ q)) (F0 m 8 ls []) := by
  induction k generalizing y1 y2 y3 S ls H locs with
  | zero => cases hm
  | succ k ih => exact w_putQuoted_8F  (fun y1 y2 y3 S ls H locs hl I hm => ih y1 y2 y3 S ls H locs hl I hm) B hR hl I hm
theorem w_putQuoted_8 {y1 : Int32} {y2 : Int32} {y3 : Int32} {S : rS} (B : BX p m c cb_putQuoted 5 s args (.code y_putQuoted cb_putQuoted 5 none :: wsA) RREF meth none D vwCl (tyL dA) b0 Z) (hR : RR b0 h Z) (hl : lx ls [some (.ref h), some (.int y1), some (.int y2), some (.int y3), none]) (I : AI D vwCl b0 (rH dA h S hp0) sz s.heap H locs)  {k : Nat} (hm : m_putQuoted_8 N  k y1 y2 y3 S = some S') : W p l e { frames := 1, cells := 0, slots := 0, locals := 21 } s m args below meth c H locs 0 0 (MQ below (CQ D vwCl b0 none (rH dA h S' hp0) sz) args s 0 0 (fun q => b0 ≤ q)) (F0 m 8 ls []) := w_putQuoted_8i  B hR k _ _ _ S ls H locs hl I hm
def m_putQuoted (N : Nat) (p1 : Int32) (p2 : Int32) (S : rS) : Option rS :=
  b1 (m_put N 34 S) (fun S2 => m_putQuoted_8 N  N p1 p2 0 S2)
set_option maxRecDepth 100000 in
set_option maxHeartbeats 4000000 in
theorem c_putQuoted {p1 : Int32} {p2 : Int32} {S S' : rS} (hR : RR b0 h Z) (hm : m_putQuoted N p1 p2 S = some S') : Ct l D vwCl (tyL dA) b0 Z y_putQuoted (.code y_putQuoted cb_putQuoted 5 none :: wsA) 1 21 [.ref h, .int p1, .int p2] (rH dA h S hp0) sz none (rH dA h S' hp0) 0 0 := by
  refine ct_of (cc := cb_putQuoted) (maxL := 5) (ret := none) (lo0 := [some (.ref h), some (.int p1), some (.int p2), none, none]) hR.2 (by decide) rfl (by simp [lg_sl, Value.category]) rfl (by simp [lx_all, lv_args, Value.category]) ?_
  intro p e s m args below meth c ls B hnm hl I
  obtain ⟨hx, hb, -⟩ := B.1
  unfold m_putQuoted at hm
  refine lv_aload_n (pc := 0) (i := 0) hx hb d_putQuoted_0 rfl (lx_get hl rfl) ?_
  refine lv_bipush (pc := 1) (v := 34) hx hb d_putQuoted_1 (by decide) ?_
  refine ob1 hm (fun S2 e1 hm => ?_)
  refine r_call (pc := 3) (As := [.int 34]) (rest := []) B hl rfl I (c_put hR e1) kw_put rfl (by decide) (by decide) rfl (by simp [Value.category]) d_putQuoted_3 (fun H locs I => ?_)
  refine lv_iconst (pc := 6) (v := 0) hx hb d_putQuoted_6 (by decide) ?_
  refine q_istore_n (pc := 7) (i := 3) (lo' := [some (.ref h), some (.int p1), some (.int p2), some (.int 0), none]) hx hb d_putQuoted_7 rfl hl (Nat.le_of_ble_eq_true rfl) (lx_ci rfl) rfl (fun ls hl => ?_)
  exact w_putQuoted_8  B hR hl I hm
def m_putKey_56 (N : Nat) (K17 : Int32 → Int32 → Int32 → rS → Option rS) (y1 : Int32) (y3 : Int32) (z0 : Int32) (S : rS) : Option rS :=
  K17 y1 z0 (y3 + 1) S
set_option maxRecDepth 100000 in
set_option maxHeartbeats 4000000 in
theorem w_putKey_56 {K17 : Int32 → Int32 → Int32 → rS → Option rS} {y1 : Int32} {y3 : Int32} {z0 : Int32} {S : rS} (hK17 : ∀ (y1 : Int32) (y2 : Int32) (y3 : Int32) (S : rS) (ls : Array Slot) (H : Heap) (locs : List Loc), lx ls [some (.ref h), some (.int y1), some (.int y2), some (.int y3)] → AI D vwCl b0 (rH dA h S hp0) sz s.heap H locs → K17 y1 y2 y3 S = some S' → W p l e { frames := 2, cells := 0, slots := 0, locals := 45 } s m args below meth c H locs 0 0 (MQ below (CQ D vwCl b0 none (rH dA h S' hp0) sz) args s 0 0 (fun q => b0 ≤ q)) (F0 m 17 ls [])) (B : BX p m c cb_putKey 4 s args (.code y_putKey cb_putKey 4 none :: wsA) RREF meth none D vwCl (tyL dA) b0 Z) (hR : RR b0 h Z) (hl : lx ls [some (.ref h), some (.int y1), none, some (.int y3)]) (I : AI D vwCl b0 (rH dA h S hp0) sz s.heap H locs)  (hm : m_putKey_56 N K17 y1 y3 z0 S = some S') : W p l e { frames := 2, cells := 0, slots := 0, locals := 45 } s m args below meth c H locs 0 0 (MQ below (CQ D vwCl b0 none (rH dA h S' hp0) sz) args s 0 0 (fun q => b0 ≤ q)) (F0 m 56 ls [.int z0]) := by
  obtain ⟨hx, hb, -⟩ := B.1
  unfold m_putKey_56 at hm
  refine q_istore_n (pc := 56) (i := 2) (lo' := [some (.ref h), some (.int y1), some (.int z0), some (.int y3)]) hx hb d_putKey_56 rfl hl (Nat.le_of_ble_eq_true rfl) (lx_ci rfl) rfl (fun ls hl => ?_)
  refine q_iinc (pc := 57) (i := 3) (v := y3 + 1) (lo' := [some (.ref h), some (.int y1), some (.int z0), some (.int (y3 + 1))]) hx hb d_putKey_57 hl rfl rfl (Nat.le_of_ble_eq_true rfl) (lx_ci rfl) rfl (fun ls hl => ?_)
  refine lv_goto (pc := 60) (tgt := 17) hx hb d_putKey_60 (by decide) ?_
  exact hK17 _ _ _ _ _ _ _ hl I hm
def m_putKey_55 (N : Nat) (K17 : Int32 → Int32 → Int32 → rS → Option rS) (y1 : Int32) (y3 : Int32) (S : rS) : Option rS :=
  m_putKey_56 N K17 y1 y3 0 S
set_option maxRecDepth 100000 in
set_option maxHeartbeats 4000000 in
theorem w_putKey_55 {K17 : Int32 → Int32 → Int32 → rS → Option rS} {y1 : Int32} {y3 : Int32} {S : rS} (hK17 : ∀ (y1 : Int32) (y2 : Int32) (y3 : Int32) (S : rS) (ls : Array Slot) (H : Heap) (locs : List Loc), lx ls [some (.ref h), some (.int y1), some (.int y2), some (.int y3)] → AI D vwCl b0 (rH dA h S hp0) sz s.heap H locs → K17 y1 y2 y3 S = some S' → W p l e { frames := 2, cells := 0, slots := 0, locals := 45 } s m args below meth c H locs 0 0 (MQ below (CQ D vwCl b0 none (rH dA h S' hp0) sz) args s 0 0 (fun q => b0 ≤ q)) (F0 m 17 ls [])) (B : BX p m c cb_putKey 4 s args (.code y_putKey cb_putKey 4 none :: wsA) RREF meth none D vwCl (tyL dA) b0 Z) (hR : RR b0 h Z) (hl : lx ls [some (.ref h), some (.int y1), none, some (.int y3)]) (I : AI D vwCl b0 (rH dA h S hp0) sz s.heap H locs)  (hm : m_putKey_55 N K17 y1 y3 S = some S') : W p l e { frames := 2, cells := 0, slots := 0, locals := 45 } s m args below meth c H locs 0 0 (MQ below (CQ D vwCl b0 none (rH dA h S' hp0) sz) args s 0 0 (fun q => b0 ≤ q)) (F0 m 55 ls []) := by
  obtain ⟨hx, hb, -⟩ := B.1
  unfold m_putKey_55 at hm
  refine lv_iconst (pc := 55) (v := 0) hx hb d_putKey_55 (by decide) ?_
  exact w_putKey_56 hK17 B hR hl I hm
def m_putKey_122 (N : Nat) (S : rS) : Option rS :=
  b1 (m_put N 32 S) (fun S2 => b1 (m_put N 61 S2) (fun S4 => b1 (m_put N 32 S4) (fun S6 => some S6)))
set_option maxRecDepth 100000 in
set_option maxHeartbeats 4000000 in
theorem w_putKey_122 {S : rS} (B : BX p m c cb_putKey 4 s args (.code y_putKey cb_putKey 4 none :: wsA) RREF meth none D vwCl (tyL dA) b0 Z) (hR : RR b0 h Z) (hl : lx ls [some (.ref h), none, none, none]) (I : AI D vwCl b0 (rH dA h S hp0) sz s.heap H locs)  (hm : m_putKey_122 N   S = some S') : W p l e { frames := 2, cells := 0, slots := 0, locals := 45 } s m args below meth c H locs 0 0 (MQ below (CQ D vwCl b0 none (rH dA h S' hp0) sz) args s 0 0 (fun q => b0 ≤ q)) (F0 m 122 ls []) := by
  obtain ⟨hx, hb, -⟩ := B.1
  unfold m_putKey_122 at hm
  refine lv_aload_n (pc := 122) (i := 0) hx hb d_putKey_122 rfl (lx_get hl rfl) ?_
  refine lv_bipush (pc := 123) (v := 32) hx hb d_putKey_123 (by decide) ?_
  refine ob1 hm (fun S2 e1 hm => ?_)
  refine r_call (pc := 125) (As := [.int 32]) (rest := []) B hl rfl I (c_put hR e1) kw_put rfl (by decide) (by decide) rfl (by simp [Value.category]) d_putKey_125 (fun H locs I => ?_)
  refine lv_aload_n (pc := 128) (i := 0) hx hb d_putKey_128 rfl (lx_get hl rfl) ?_
  refine lv_bipush (pc := 129) (v := 61) hx hb d_putKey_129 (by decide) ?_
  refine ob1 hm (fun S4 e3 hm => ?_)
  refine r_call (pc := 131) (As := [.int 61]) (rest := []) B hl rfl I (c_put hR e3) kw_put rfl (by decide) (by decide) rfl (by simp [Value.category]) d_putKey_131 (fun H locs I => ?_)
  refine lv_aload_n (pc := 134) (i := 0) hx hb d_putKey_134 rfl (lx_get hl rfl) ?_
  refine lv_bipush (pc := 135) (v := 32) hx hb d_putKey_135 (by decide) ?_
  refine ob1 hm (fun S6 e5 hm => ?_)
  refine r_call (pc := 137) (As := [.int 32]) (rest := []) B hl rfl I (c_put hR e5) kw_put rfl (by decide) (by decide) rfl (by simp [Value.category]) d_putKey_137 (fun H locs I => ?_)
  cases hm
  exact q_vret (pc := 140) B I rfl d_putKey_140
def m_putKey_85F (N : Nat) (K85 : Int32 → Int32 → Int32 → rS → Option rS) (y1 : Int32) (y2 : Int32) (y3 : Int32) (S : rS) : Option rS :=
  b1 (rL S 11 y1) (fun x1 => if x1 ≤ y3 then (m_putKey_122 N  S) else (if y2 = 0 then (m_putKey_122 N  S) else (b1 (rL S 10 y1) (fun x3 => b1 (rL S 13 (x3 + y3)) (fun x5 => b1 (m_put N x5 S) (fun S8 => K85 y1 y2 (y3 + 1) S8))))))
def m_putKey_85 (N : Nat) : Nat → Int32 → Int32 → Int32 → rS → Option rS
  | 0, _, _, _, _ => none
  | k + 1, y1, y2, y3, S => m_putKey_85F N  (m_putKey_85 N  k) y1 y2 y3 S
set_option maxRecDepth 100000 in
set_option maxHeartbeats 4000000 in
theorem w_putKey_85F {K85 : Int32 → Int32 → Int32 → rS → Option rS} {y1 : Int32} {y2 : Int32} {y3 : Int32} {S : rS} (hK85 : ∀ (y1 : Int32) (y2 : Int32) (y3 : Int32) (S : rS) (ls : Array Slot) (H : Heap) (locs : List Loc), lx ls [some (.ref h), some (.int y1), some (.int y2), some (.int y3)] → AI D vwCl b0 (rH dA h S hp0) sz s.heap H locs → K85 y1 y2 y3 S = some S' → W p l e { frames := 2, cells := 0, slots := 0, locals := 45 } s m args below meth c H locs 0 0 (MQ below (CQ D vwCl b0 none (rH dA h S' hp0) sz) args s 0 0 (fun q => b0 ≤ q)) (F0 m 85 ls [])) (B : BX p m c cb_putKey 4 s args (.code y_putKey cb_putKey 4 none :: wsA) RREF meth none D vwCl (tyL dA) b0 Z) (hR : RR b0 h Z) (hl : lx ls [some (.ref h), some (.int y1), some (.int y2), some (.int y3)]) (I : AI D vwCl b0 (rH dA h S hp0) sz s.heap H locs)  (hm : m_putKey_85F N  K85 y1 y2 y3 S = some S') : W p l e { frames := 2, cells := 0, slots := 0, locals := 45 } s m args below meth c H locs 0 0 (MQ below (CQ D vwCl b0 none (rH dA h S' hp0) sz) args s 0 0 (fun q => b0 ≤ q)) (F0 m 85 ls []) := by
  obtain ⟨hx, hb, -⟩ := B.1
  unfold m_putKey_85F at hm
  refine lv_iload_n (pc := 85) (i := 3) hx hb d_putKey_85 rfl (lx_get hl rfl) ?_
  refine lv_aload_n (pc := 86) (i := 0) hx hb d_putKey_86 rfl (lx_get hl rfl) ?_
  refine r_get (pc := 87) (k := 15) (index := 40) B I (by decide) mF_40 rfl rfl d_putKey_87 ?_
  refine lv_iload_n (pc := 90) (i := 1) hx hb d_putKey_90 rfl (lx_get hl rfl) ?_
  refine ob1 hm (fun x1 e2 hm => ?_)
  refine r_ald (pc := 91) (j := 11) B I (by decide) (by decide) e2 d_putKey_91 ?_
  refine lv_icmp_ge (pc := 92) (tgt := 122) hx hb d_putKey_92 (by decide) (fun hc => ?_) (fun hc => ?_)
  · have hm := ift hc hm
    exact w_putKey_122  B hR (lx_sub (lo' := [some (.ref h), none, none, none]) hl (by simp [lx_le])) I hm
  · have hm := iff' hc hm
    refine lv_iload_n (pc := 95) (i := 2) hx hb d_putKey_95 rfl (lx_get hl rfl) ?_
    refine lv_if_eq (pc := 96) (tgt := 122) hx hb d_putKey_96 (by decide) (fun hc => ?_) (fun hc => ?_)
    · have hm := ift hc hm
      exact w_putKey_122  B hR (lx_sub (lo' := [some (.ref h), none, none, none]) hl (by simp [lx_le])) I hm
    · have hm := iff' hc hm
      refine lv_aload_n (pc := 99) (i := 0) hx hb d_putKey_99 rfl (lx_get hl rfl) ?_
      refine lv_aload_n (pc := 100) (i := 0) hx hb d_putKey_100 rfl (lx_get hl rfl) ?_
      refine r_get (pc := 101) (k := 17) (index := 46) B I (by decide) mF_46 rfl rfl d_putKey_101 ?_
      refine lv_aload_n (pc := 104) (i := 0) hx hb d_putKey_104 rfl (lx_get hl rfl) ?_
      refine r_get (pc := 105) (k := 14) (index := 37) B I (by decide) mF_37 rfl rfl d_putKey_105 ?_
      refine lv_iload_n (pc := 108) (i := 1) hx hb d_putKey_108 rfl (lx_get hl rfl) ?_
      refine ob1 hm (fun x3 e4 hm => ?_)
      refine r_ald (pc := 109) (j := 10) B I (by decide) (by decide) e4 d_putKey_109 ?_
      refine lv_iload_n (pc := 110) (i := 3) hx hb d_putKey_110 rfl (lx_get hl rfl) ?_
      refine lv_iadd (pc := 111) hx hb d_putKey_111 ?_
      refine ob1 hm (fun x5 e6 hm => ?_)
      refine r_ald (pc := 112) (j := 13) B I (by decide) (by decide) e6 d_putKey_112 ?_
      refine ob1 hm (fun S8 e7 hm => ?_)
      refine r_call (pc := 113) (As := [.int x5]) (rest := []) B hl rfl I (c_put hR e7) kw_put rfl (by decide) (by decide) rfl (by simp [Value.category]) d_putKey_113 (fun H locs I => ?_)
      refine q_iinc (pc := 116) (i := 3) (v := y3 + 1) (lo' := [some (.ref h), some (.int y1), some (.int y2), some (.int (y3 + 1))]) hx hb d_putKey_116 hl rfl rfl (Nat.le_of_ble_eq_true rfl) (lx_ci rfl) rfl (fun ls hl => ?_)
      refine lv_goto (pc := 119) (tgt := 85) hx hb d_putKey_119 (by decide) ?_
      exact hK85 _ _ _ _ _ _ _ hl I hm
set_option maxRecDepth 100000 in
set_option maxHeartbeats 4000000 in
theorem w_putKey_85i (B : BX p m c cb_putKey 4 s args (.code y_putKey cb_putKey 4 none :: wsA) RREF meth none D vwCl (tyL dA) b0 Z) (hR : RR b0 h Z) (k : Nat) (y1 : Int32) (y2 : Int32) (y3 : Int32) (S : rS) (ls : Array Slot) (H : Heap) (locs : List Loc) (hl : lx ls [some (.ref h), some (.int y1), some (.int y2), some (.int y3)]) (I : AI D vwCl b0 (rH dA h S hp0) sz s.heap H locs)  (hm : m_putKey_85 N  k y1 y2 y3 S = some S') : W p l e { frames := 2, cells := 0, slots := 0, locals := 45 } s m args below meth c H locs 0 0 (MQ below (CQ D vwCl b0 none (rH dA h S' hp0) sz) args s 0 0 (fun q => b0 ≤ q)) (F0 m 85 ls []) := by
  induction k generalizing y1 y2 y3 S ls H locs with
  | zero => cases hm
  | succ k ih => exact w_putKey_85F  (fun y1 y2 y3 S ls H locs hl I hm => ih y1 y2 y3 S ls H locs hl I hm) B hR hl I hm
theorem w_putKey_85 {y1 : Int32} {y2 : Int32} {y3 : Int32} {S : rS} (B : BX p m c cb_putKey 4 s args (.code y_putKey cb_putKey 4 none :: wsA) RREF meth none D vwCl (tyL dA) b0 Z) (hR : RR b0 h Z) (hl : lx ls [some (.ref h), some (.int y1), some (.int y2), some (.int y3)]) (I : AI D vwCl b0 (rH dA h S hp0) sz s.heap H locs)  {k : Nat} (hm : m_putKey_85 N  k y1 y2 y3 S = some S') : W p l e { frames := 2, cells := 0, slots := 0, locals := 45 } s m args below meth c H locs 0 0 (MQ below (CQ D vwCl b0 none (rH dA h S' hp0) sz) args s 0 0 (fun q => b0 ≤ q)) (F0 m 85 ls []) := w_putKey_85i  B hR k _ _ _ S ls H locs hl I hm
def m_putKey_83 (N : Nat) (y1 : Int32) (y2 : Int32) (S : rS) : Option rS :=
  m_putKey_85 N  N y1 y2 0 S
set_option maxRecDepth 100000 in
set_option maxHeartbeats 4000000 in
theorem w_putKey_83 {y1 : Int32} {y2 : Int32} {S : rS} (B : BX p m c cb_putKey 4 s args (.code y_putKey cb_putKey 4 none :: wsA) RREF meth none D vwCl (tyL dA) b0 Z) (hR : RR b0 h Z) (hl : lx ls [some (.ref h), some (.int y1), some (.int y2), none]) (I : AI D vwCl b0 (rH dA h S hp0) sz s.heap H locs)  (hm : m_putKey_83 N  y1 y2 S = some S') : W p l e { frames := 2, cells := 0, slots := 0, locals := 45 } s m args below meth c H locs 0 0 (MQ below (CQ D vwCl b0 none (rH dA h S' hp0) sz) args s 0 0 (fun q => b0 ≤ q)) (F0 m 83 ls []) := by
  obtain ⟨hx, hb, -⟩ := B.1
  unfold m_putKey_83 at hm
  refine lv_iconst (pc := 83) (v := 0) hx hb d_putKey_83 (by decide) ?_
  refine q_istore_n (pc := 84) (i := 3) (lo' := [some (.ref h), some (.int y1), some (.int y2), some (.int 0)]) hx hb d_putKey_84 rfl hl (Nat.le_of_ble_eq_true rfl) (lx_ci rfl) rfl (fun ls hl => ?_)
  exact w_putKey_85  B hR hl I hm
def m_putKey_17F (N : Nat) (K17 : Int32 → Int32 → Int32 → rS → Option rS) (y1 : Int32) (y2 : Int32) (y3 : Int32) (S : rS) : Option rS :=
  b1 (rL S 11 y1) (fun x1 => if x1 ≤ y3 then (if y2 = 0 then (b1 (rL S 10 y1) (fun x3 => b1 (rL S 11 y1) (fun x5 => b1 (m_putQuoted N x3 x5 S) (fun S8 => m_putKey_83 N  y1 y2 S8)))) else (m_putKey_83 N  y1 y2 S)) else (if y2 = 0 then (m_putKey_55 N K17 y1 y3 S) else (b1 (rL S 10 y1) (fun x9 => b1 (rL S 13 (x9 + y3)) (fun x11 => b1 (m_isBare N x11 S) (fun x14 => if x14 = 0 then (m_putKey_55 N K17 y1 y3 S) else (m_putKey_56 N K17 y1 y3 1 S)))))))
def m_putKey_17 (N : Nat) : Nat → Int32 → Int32 → Int32 → rS → Option rS
  | 0, _, _, _, _ => none
  | k + 1, y1, y2, y3, S => m_putKey_17F N  (m_putKey_17 N  k) y1 y2 y3 S
set_option maxRecDepth 100000 in
set_option maxHeartbeats 4000000 in
theorem w_putKey_17F {K17 : Int32 → Int32 → Int32 → rS → Option rS} {y1 : Int32} {y2 : Int32} {y3 : Int32} {S : rS} (hK17 : ∀ (y1 : Int32) (y2 : Int32) (y3 : Int32) (S : rS) (ls : Array Slot) (H : Heap) (locs : List Loc), lx ls [some (.ref h), some (.int y1), some (.int y2), some (.int y3)] → AI D vwCl b0 (rH dA h S hp0) sz s.heap H locs → K17 y1 y2 y3 S = some S' → W p l e { frames := 2, cells := 0, slots := 0, locals := 45 } s m args below meth c H locs 0 0 (MQ below (CQ D vwCl b0 none (rH dA h S' hp0) sz) args s 0 0 (fun q => b0 ≤ q)) (F0 m 17 ls [])) (B : BX p m c cb_putKey 4 s args (.code y_putKey cb_putKey 4 none :: wsA) RREF meth none D vwCl (tyL dA) b0 Z) (hR : RR b0 h Z) (hl : lx ls [some (.ref h), some (.int y1), some (.int y2), some (.int y3)]) (I : AI D vwCl b0 (rH dA h S hp0) sz s.heap H locs)  (hm : m_putKey_17F N  K17 y1 y2 y3 S = some S') : W p l e { frames := 2, cells := 0, slots := 0, locals := 45 } s m args below meth c H locs 0 0 (MQ below (CQ D vwCl b0 none (rH dA h S' hp0) sz) args s 0 0 (fun q => b0 ≤ q)) (F0 m 17 ls []) := by
  obtain ⟨hx, hb, -⟩ := B.1
  unfold m_putKey_17F at hm
  refine lv_iload_n (pc := 17) (i := 3) hx hb d_putKey_17 rfl (lx_get hl rfl) ?_
  refine lv_aload_n (pc := 18) (i := 0) hx hb d_putKey_18 rfl (lx_get hl rfl) ?_
  refine r_get (pc := 19) (k := 15) (index := 40) B I (by decide) mF_40 rfl rfl d_putKey_19 ?_
  refine lv_iload_n (pc := 22) (i := 1) hx hb d_putKey_22 rfl (lx_get hl rfl) ?_
  refine ob1 hm (fun x1 e2 hm => ?_)
  refine r_ald (pc := 23) (j := 11) B I (by decide) (by decide) e2 d_putKey_23 ?_
  refine lv_icmp_ge (pc := 24) (tgt := 63) hx hb d_putKey_24 (by decide) (fun hc => ?_) (fun hc => ?_)
  · have hm := ift hc hm
    refine lv_iload_n (pc := 63) (i := 2) hx hb d_putKey_63 rfl (lx_get hl rfl) ?_
    refine lv_if_ne (pc := 64) (tgt := 83) hx hb d_putKey_64 (by decide) (fun hc => ?_) (fun hc => ?_)
    · have hm := iff' hc hm
      exact w_putKey_83  B hR (lx_sub (lo' := [some (.ref h), some (.int y1), some (.int y2), none]) hl (by simp [lx_le])) I hm
    · have hm := ift hc hm
      refine lv_aload_n (pc := 67) (i := 0) hx hb d_putKey_67 rfl (lx_get hl rfl) ?_
      refine lv_aload_n (pc := 68) (i := 0) hx hb d_putKey_68 rfl (lx_get hl rfl) ?_
      refine r_get (pc := 69) (k := 14) (index := 37) B I (by decide) mF_37 rfl rfl d_putKey_69 ?_
      refine lv_iload_n (pc := 72) (i := 1) hx hb d_putKey_72 rfl (lx_get hl rfl) ?_
      refine ob1 hm (fun x3 e4 hm => ?_)
      refine r_ald (pc := 73) (j := 10) B I (by decide) (by decide) e4 d_putKey_73 ?_
      refine lv_aload_n (pc := 74) (i := 0) hx hb d_putKey_74 rfl (lx_get hl rfl) ?_
      refine r_get (pc := 75) (k := 15) (index := 40) B I (by decide) mF_40 rfl rfl d_putKey_75 ?_
      refine lv_iload_n (pc := 78) (i := 1) hx hb d_putKey_78 rfl (lx_get hl rfl) ?_
      refine ob1 hm (fun x5 e6 hm => ?_)
      refine r_ald (pc := 79) (j := 11) B I (by decide) (by decide) e6 d_putKey_79 ?_
      refine ob1 hm (fun S8 e7 hm => ?_)
      refine r_call (pc := 80) (As := [.int x3, .int x5]) (rest := []) B hl rfl I (c_putQuoted hR e7) kw_putQuoted rfl (by decide) (by decide) rfl (by simp [Value.category]) d_putKey_80 (fun H locs I => ?_)
      exact w_putKey_83  B hR (lx_sub (lo' := [some (.ref h), some (.int y1), some (.int y2), none]) hl (by simp [lx_le])) I hm
  · have hm := iff' hc hm
    refine lv_iload_n (pc := 27) (i := 2) hx hb d_putKey_27 rfl (lx_get hl rfl) ?_
    refine lv_if_eq (pc := 28) (tgt := 55) hx hb d_putKey_28 (by decide) (fun hc => ?_) (fun hc => ?_)
    · have hm := ift hc hm
      exact w_putKey_55 hK17 B hR (lx_sub (lo' := [some (.ref h), some (.int y1), none, some (.int y3)]) hl (by simp [lx_le])) I hm
    · have hm := iff' hc hm
      refine lv_aload_n (pc := 31) (i := 0) hx hb d_putKey_31 rfl (lx_get hl rfl) ?_
      refine lv_aload_n (pc := 32) (i := 0) hx hb d_putKey_32 rfl (lx_get hl rfl) ?_
      refine r_get (pc := 33) (k := 17) (index := 46) B I (by decide) mF_46 rfl rfl d_putKey_33 ?_
      refine lv_aload_n (pc := 36) (i := 0) hx hb d_putKey_36 rfl (lx_get hl rfl) ?_
      refine r_get (pc := 37) (k := 14) (index := 37) B I (by decide) mF_37 rfl rfl d_putKey_37 ?_
      refine lv_iload_n (pc := 40) (i := 1) hx hb d_putKey_40 rfl (lx_get hl rfl) ?_
      refine ob1 hm (fun x9 e10 hm => ?_)
      refine r_ald (pc := 41) (j := 10) B I (by decide) (by decide) e10 d_putKey_41 ?_
      refine lv_iload_n (pc := 42) (i := 3) hx hb d_putKey_42 rfl (lx_get hl rfl) ?_
      refine lv_iadd (pc := 43) hx hb d_putKey_43 ?_
      refine ob1 hm (fun x11 e12 hm => ?_)
      refine r_ald (pc := 44) (j := 13) B I (by decide) (by decide) e12 d_putKey_44 ?_
      refine ob1 hm (fun x14 e13 hm => ?_)
      refine r_call (pc := 45) (As := [.int x11]) (rest := []) B hl rfl I (c_isBare hR e13) kw_isBare rfl (by decide) (by decide) rfl (by simp [Value.category]) d_putKey_45 (fun H locs I => ?_)
      refine lv_if_eq (pc := 48) (tgt := 55) hx hb d_putKey_48 (by decide) (fun hc => ?_) (fun hc => ?_)
      · have hm := ift hc hm
        exact w_putKey_55 hK17 B hR (lx_sub (lo' := [some (.ref h), some (.int y1), none, some (.int y3)]) hl (by simp [lx_le])) I hm
      · have hm := iff' hc hm
        refine lv_iconst (pc := 51) (v := 1) hx hb d_putKey_51 (by decide) ?_
        refine lv_goto (pc := 52) (tgt := 56) hx hb d_putKey_52 (by decide) ?_
        exact w_putKey_56 hK17 B hR (lx_sub (lo' := [some (.ref h), some (.int y1), none, some (.int y3)]) hl (by simp [lx_le])) I hm
set_option maxRecDepth 100000 in
set_option maxHeartbeats 4000000 in
theorem w_putKey_17i (B : BX p m c cb_putKey 4 s args (.code y_putKey cb_putKey 4 none :: wsA) RREF meth none D vwCl (tyL dA) b0 Z) (hR : RR b0 h Z) (k : Nat) (y1 : Int32) (y2 : Int32) (y3 : Int32) (S : rS) (ls : Array Slot) (H : Heap) (locs : List Loc) (hl : lx ls [some (.ref h), some (.int y1), some (.int y2), some (.int y3)]) (I : AI D vwCl b0 (rH dA h S hp0) sz s.heap H locs)  (hm : m_putKey_17 N  k y1 y2 y3 S = some S') : W p l e { frames := 2, cells := 0, slots := 0, locals := 45 } s m args below meth c H locs 0 0 (MQ below (CQ D vwCl b0 none (rH dA h S' hp0) sz) args s 0 0 (fun q => b0 ≤ q)) (F0 m 17 ls []) := by
  induction k generalizing y1 y2 y3 S ls H locs with
  | zero => cases hm
  | succ k ih => exact w_putKey_17F  (fun y1 y2 y3 S ls H locs hl I hm => ih y1 y2 y3 S ls H locs hl I hm) B hR hl I hm
theorem w_putKey_17 {y1 : Int32} {y2 : Int32} {y3 : Int32} {S : rS} (B : BX p m c cb_putKey 4 s args (.code y_putKey cb_putKey 4 none :: wsA) RREF meth none D vwCl (tyL dA) b0 Z) (hR : RR b0 h Z) (hl : lx ls [some (.ref h), some (.int y1), some (.int y2), some (.int y3)]) (I : AI D vwCl b0 (rH dA h S hp0) sz s.heap H locs)  {k : Nat} (hm : m_putKey_17 N  k y1 y2 y3 S = some S') : W p l e { frames := 2, cells := 0, slots := 0, locals := 45 } s m args below meth c H locs 0 0 (MQ below (CQ D vwCl b0 none (rH dA h S' hp0) sz) args s 0 0 (fun q => b0 ≤ q)) (F0 m 17 ls []) := w_putKey_17i  B hR k _ _ _ S ls H locs hl I hm
def m_putKey_14 (N : Nat) (y1 : Int32) (z0 : Int32) (S : rS) : Option rS :=
  m_putKey_17 N  N y1 z0 0 S
set_option maxRecDepth 100000 in
set_option maxHeartbeats 4000000 in
theorem w_putKey_14 {y1 : Int32} {z0 : Int32} {S : rS} (B : BX p m c cb_putKey 4 s args (.code y_putKey cb_putKey 4 none :: wsA) RREF meth none D vwCl (tyL dA) b0 Z) (hR : RR b0 h Z) (hl : lx ls [some (.ref h), some (.int y1), none, none]) (I : AI D vwCl b0 (rH dA h S hp0) sz s.heap H locs)  (hm : m_putKey_14 N  y1 z0 S = some S') : W p l e { frames := 2, cells := 0, slots := 0, locals := 45 } s m args below meth c H locs 0 0 (MQ below (CQ D vwCl b0 none (rH dA h S' hp0) sz) args s 0 0 (fun q => b0 ≤ q)) (F0 m 14 ls [.int z0]) := by
  obtain ⟨hx, hb, -⟩ := B.1
  unfold m_putKey_14 at hm
  refine q_istore_n (pc := 14) (i := 2) (lo' := [some (.ref h), some (.int y1), some (.int z0), none]) hx hb d_putKey_14 rfl hl (Nat.le_of_ble_eq_true rfl) (lx_ci rfl) rfl (fun ls hl => ?_)
  refine lv_iconst (pc := 15) (v := 0) hx hb d_putKey_15 (by decide) ?_
  refine q_istore_n (pc := 16) (i := 3) (lo' := [some (.ref h), some (.int y1), some (.int z0), some (.int 0)]) hx hb d_putKey_16 rfl hl (Nat.le_of_ble_eq_true rfl) (lx_ci rfl) rfl (fun ls hl => ?_)
  exact w_putKey_17  B hR hl I hm
def m_putKey (N : Nat) (p1 : Int32) (S : rS) : Option rS :=
  b1 (rL S 11 p1) (fun x1 => if x1 ≤ 0 then (m_putKey_14 N  p1 0 S) else (m_putKey_14 N  p1 1 S))
set_option maxRecDepth 100000 in
set_option maxHeartbeats 4000000 in
theorem c_putKey {p1 : Int32} {S S' : rS} (hR : RR b0 h Z) (hm : m_putKey N p1 S = some S') : Ct l D vwCl (tyL dA) b0 Z y_putKey (.code y_putKey cb_putKey 4 none :: wsA) 2 45 [.ref h, .int p1] (rH dA h S hp0) sz none (rH dA h S' hp0) 0 0 := by
  refine ct_of (cc := cb_putKey) (maxL := 4) (ret := none) (lo0 := [some (.ref h), some (.int p1), none, none]) hR.2 (by decide) rfl (by simp [lg_sl, Value.category]) rfl (by simp [lx_all, lv_args, Value.category]) ?_
  intro p e s m args below meth c ls B hnm hl I
  obtain ⟨hx, hb, -⟩ := B.1
  unfold m_putKey at hm
  refine lv_aload_n (pc := 0) (i := 0) hx hb d_putKey_0 rfl (lx_get hl rfl) ?_
  refine r_get (pc := 1) (k := 15) (index := 40) B I (by decide) mF_40 rfl rfl d_putKey_1 ?_
  refine lv_iload_n (pc := 4) (i := 1) hx hb d_putKey_4 rfl (lx_get hl rfl) ?_
  refine ob1 hm (fun x1 e2 hm => ?_)
  refine r_ald (pc := 5) (j := 11) B I (by decide) (by decide) e2 d_putKey_5 ?_
  refine lv_if_le (pc := 6) (tgt := 13) hx hb d_putKey_6 (by decide) (fun hc => ?_) (fun hc => ?_)
  · have hm := ift hc hm
    refine lv_iconst (pc := 13) (v := 0) hx hb d_putKey_13 (by decide) ?_
    exact w_putKey_14  B hR hl I hm
  · have hm := iff' hc hm
    refine lv_iconst (pc := 9) (v := 1) hx hb d_putKey_9 (by decide) ?_
    refine lv_goto (pc := 10) (tgt := 14) hx hb d_putKey_10 (by decide) ?_
    exact w_putKey_14  B hR hl I hm
def m_putHead_53 (N : Nat) (z1 : Int32) (S : rS) : Option rS :=
  b1 (m_putNumber N z1 1 S) (fun S2 => some S2)
set_option maxRecDepth 100000 in
set_option maxHeartbeats 4000000 in
theorem w_putHead_53 {z1 : Int32} {S : rS} (B : BX p m c cb_putHead 4 s args (.code y_putHead cb_putHead 4 none :: wsA) RREF meth none D vwCl (tyL dA) b0 Z) (hR : RR b0 h Z) (hl : lx ls [some (.ref h), none, none, none]) (I : AI D vwCl b0 (rH dA h S hp0) sz s.heap H locs)  (hm : m_putHead_53 N  z1 S = some S') : W p l e { frames := 2, cells := 0, slots := 0, locals := 45 } s m args below meth c H locs 0 0 (MQ below (CQ D vwCl b0 none (rH dA h S' hp0) sz) args s 0 0 (fun q => b0 ≤ q)) (F0 m 53 ls [.int z1, .ref h]) := by
  obtain ⟨hx, hb, -⟩ := B.1
  unfold m_putHead_53 at hm
  refine lv_iconst (pc := 53) (v := 1) hx hb d_putHead_53 (by decide) ?_
  refine ob1 hm (fun S2 e1 hm => ?_)
  refine r_call (pc := 54) (As := [.int z1, .int 1]) (rest := []) B hl rfl I (c_putNumber hR e1) kw_putNumber rfl (by decide) (by decide) rfl (by simp [Value.category]) d_putHead_54 (fun H locs I => ?_)
  refine lv_goto (pc := 57) (tgt := 219) hx hb d_putHead_57 (by decide) ?_
  cases hm
  exact q_vret (pc := 219) B I rfl d_putHead_219
def m_putHead_27 (N : Nat) (y1 : Int32) (S : rS) : Option rS :=
  b1 (rL S 4 y1) (fun x1 => if 0 ≤ x1 then (b1 (rL S 4 y1) (fun x3 => m_putHead_53 N  x3 S)) else (b1 (rL S 4 y1) (fun x5 => m_putHead_53 N  (-x5) S)))
set_option maxRecDepth 100000 in
set_option maxHeartbeats 4000000 in
theorem w_putHead_27 {y1 : Int32} {S : rS} (B : BX p m c cb_putHead 4 s args (.code y_putHead cb_putHead 4 none :: wsA) RREF meth none D vwCl (tyL dA) b0 Z) (hR : RR b0 h Z) (hl : lx ls [some (.ref h), some (.int y1), none, none]) (I : AI D vwCl b0 (rH dA h S hp0) sz s.heap H locs)  (hm : m_putHead_27 N  y1 S = some S') : W p l e { frames := 2, cells := 0, slots := 0, locals := 45 } s m args below meth c H locs 0 0 (MQ below (CQ D vwCl b0 none (rH dA h S' hp0) sz) args s 0 0 (fun q => b0 ≤ q)) (F0 m 27 ls []) := by
  obtain ⟨hx, hb, -⟩ := B.1
  unfold m_putHead_27 at hm
  refine lv_aload_n (pc := 27) (i := 0) hx hb d_putHead_27 rfl (lx_get hl rfl) ?_
  refine lv_aload_n (pc := 28) (i := 0) hx hb d_putHead_28 rfl (lx_get hl rfl) ?_
  refine r_get (pc := 29) (k := 8) (index := 19) B I (by decide) mF_19 rfl rfl d_putHead_29 ?_
  refine lv_iload_n (pc := 32) (i := 1) hx hb d_putHead_32 rfl (lx_get hl rfl) ?_
  refine ob1 hm (fun x1 e2 hm => ?_)
  refine r_ald (pc := 33) (j := 4) B I (by decide) (by decide) e2 d_putHead_33 ?_
  refine lv_if_ge (pc := 34) (tgt := 47) hx hb d_putHead_34 (by decide) (fun hc => ?_) (fun hc => ?_)
  · have hm := ift hc hm
    refine lv_aload_n (pc := 47) (i := 0) hx hb d_putHead_47 rfl (lx_get hl rfl) ?_
    refine r_get (pc := 48) (k := 8) (index := 19) B I (by decide) mF_19 rfl rfl d_putHead_48 ?_
    refine lv_iload_n (pc := 51) (i := 1) hx hb d_putHead_51 rfl (lx_get hl rfl) ?_
    refine ob1 hm (fun x3 e4 hm => ?_)
    refine r_ald (pc := 52) (j := 4) B I (by decide) (by decide) e4 d_putHead_52 ?_
    exact w_putHead_53  B hR (lx_sub (lo' := [some (.ref h), none, none, none]) hl (by simp [lx_le])) I hm
  · have hm := iff' hc hm
    refine lv_aload_n (pc := 37) (i := 0) hx hb d_putHead_37 rfl (lx_get hl rfl) ?_
    refine r_get (pc := 38) (k := 8) (index := 19) B I (by decide) mF_19 rfl rfl d_putHead_38 ?_
    refine lv_iload_n (pc := 41) (i := 1) hx hb d_putHead_41 rfl (lx_get hl rfl) ?_
    refine ob1 hm (fun x5 e6 hm => ?_)
    refine r_ald (pc := 42) (j := 4) B I (by decide) (by decide) e6 d_putHead_42 ?_
    refine lv_ineg (pc := 43) hx hb d_putHead_43 ?_
    refine lv_goto (pc := 44) (tgt := 53) hx hb d_putHead_44 (by decide) ?_
    exact w_putHead_53  B hR (lx_sub (lo' := [some (.ref h), none, none, none]) hl (by simp [lx_le])) I hm
def m_putHead_96 (N : Nat) (K67 : Int32 → Int32 → rS → Option rS) (y1 : Int32) (y3 : Int32) (z2 : Int32) (S : rS) : Option rS :=
  b1 (m_letterOf N z2 y3 S) (fun x2 => b1 (m_put N x2 S) (fun S4 => K67 y1 (y3 + 1) S4))
set_option maxRecDepth 100000 in
set_option maxHeartbeats 4000000 in
theorem w_putHead_96 {K67 : Int32 → Int32 → rS → Option rS} {y1 : Int32} {y3 : Int32} {z2 : Int32} {S : rS} (hK67 : ∀ (y1 : Int32) (y3 : Int32) (S : rS) (ls : Array Slot) (H : Heap) (locs : List Loc), lx ls [some (.ref h), some (.int y1), none, some (.int y3)] → AI D vwCl b0 (rH dA h S hp0) sz s.heap H locs → K67 y1 y3 S = some S' → W p l e { frames := 2, cells := 0, slots := 0, locals := 45 } s m args below meth c H locs 0 0 (MQ below (CQ D vwCl b0 none (rH dA h S' hp0) sz) args s 0 0 (fun q => b0 ≤ q)) (F0 m 67 ls [])) (B : BX p m c cb_putHead 4 s args (.code y_putHead cb_putHead 4 none :: wsA) RREF meth none D vwCl (tyL dA) b0 Z) (hR : RR b0 h Z) (hl : lx ls [some (.ref h), some (.int y1), none, some (.int y3)]) (I : AI D vwCl b0 (rH dA h S hp0) sz s.heap H locs)  (hm : m_putHead_96 N K67 y1 y3 z2 S = some S') : W p l e { frames := 2, cells := 0, slots := 0, locals := 45 } s m args below meth c H locs 0 0 (MQ below (CQ D vwCl b0 none (rH dA h S' hp0) sz) args s 0 0 (fun q => b0 ≤ q)) (F0 m 96 ls [.int z2, .ref h, .ref h]) := by
  obtain ⟨hx, hb, -⟩ := B.1
  unfold m_putHead_96 at hm
  refine lv_iload_n (pc := 96) (i := 3) hx hb d_putHead_96 rfl (lx_get hl rfl) ?_
  refine ob1 hm (fun x2 e1 hm => ?_)
  refine r_call (pc := 97) (As := [.int z2, .int y3]) (rest := [.ref h]) B hl rfl I (c_letterOf hR e1) kw_letterOf rfl (by decide) (by decide) rfl (by simp [Value.category]) d_putHead_97 (fun H locs I => ?_)
  refine ob1 hm (fun S4 e3 hm => ?_)
  refine r_call (pc := 100) (As := [.int x2]) (rest := []) B hl rfl I (c_put hR e3) kw_put rfl (by decide) (by decide) rfl (by simp [Value.category]) d_putHead_100 (fun H locs I => ?_)
  refine q_iinc (pc := 103) (i := 3) (v := y3 + 1) (lo' := [some (.ref h), some (.int y1), none, some (.int (y3 + 1))]) hx hb d_putHead_103 hl rfl rfl (Nat.le_of_ble_eq_true rfl) (lx_cn rfl) rfl (fun ls hl => ?_)
  refine lv_goto (pc := 106) (tgt := 67) hx hb d_putHead_106 (by decide) ?_
  exact hK67 _ _ _ _ _ _ hl I hm
def m_putHead_67F (N : Nat) (K67 : Int32 → Int32 → rS → Option rS) (y1 : Int32) (y3 : Int32) (S : rS) : Option rS :=
  b1 (rL S 4 y1) (fun x1 => if 5 - x1 ≤ y3 then (some S) else (b1 (rL S 4 y1) (fun x3 => if x3 = 1 then (m_putHead_96 N K67 y1 y3 1 S) else (m_putHead_96 N K67 y1 y3 0 S))))
def m_putHead_67 (N : Nat) : Nat → Int32 → Int32 → rS → Option rS
  | 0, _, _, _ => none
  | k + 1, y1, y3, S => m_putHead_67F N  (m_putHead_67 N  k) y1 y3 S
set_option maxRecDepth 100000 in
set_option maxHeartbeats 4000000 in
theorem w_putHead_67F {K67 : Int32 → Int32 → rS → Option rS} {y1 : Int32} {y3 : Int32} {S : rS} (hK67 : ∀ (y1 : Int32) (y3 : Int32) (S : rS) (ls : Array Slot) (H : Heap) (locs : List Loc), lx ls [some (.ref h), some (.int y1), none, some (.int y3)] → AI D vwCl b0 (rH dA h S hp0) sz s.heap H locs → K67 y1 y3 S = some S' → W p l e { frames := 2, cells := 0, slots := 0, locals := 45 } s m args below meth c H locs 0 0 (MQ below (CQ D vwCl b0 none (rH dA h S' hp0) sz) args s 0 0 (fun q => b0 ≤ q)) (F0 m 67 ls [])) (B : BX p m c cb_putHead 4 s args (.code y_putHead cb_putHead 4 none :: wsA) RREF meth none D vwCl (tyL dA) b0 Z) (hR : RR b0 h Z) (hl : lx ls [some (.ref h), some (.int y1), none, some (.int y3)]) (I : AI D vwCl b0 (rH dA h S hp0) sz s.heap H locs)  (hm : m_putHead_67F N  K67 y1 y3 S = some S') : W p l e { frames := 2, cells := 0, slots := 0, locals := 45 } s m args below meth c H locs 0 0 (MQ below (CQ D vwCl b0 none (rH dA h S' hp0) sz) args s 0 0 (fun q => b0 ≤ q)) (F0 m 67 ls []) := by
  obtain ⟨hx, hb, -⟩ := B.1
  unfold m_putHead_67F at hm
  refine lv_iload_n (pc := 67) (i := 3) hx hb d_putHead_67 rfl (lx_get hl rfl) ?_
  refine lv_iconst (pc := 68) (v := 5) hx hb d_putHead_68 (by decide) ?_
  refine lv_aload_n (pc := 69) (i := 0) hx hb d_putHead_69 rfl (lx_get hl rfl) ?_
  refine r_get (pc := 70) (k := 8) (index := 19) B I (by decide) mF_19 rfl rfl d_putHead_70 ?_
  refine lv_iload_n (pc := 73) (i := 1) hx hb d_putHead_73 rfl (lx_get hl rfl) ?_
  refine ob1 hm (fun x1 e2 hm => ?_)
  refine r_ald (pc := 74) (j := 4) B I (by decide) (by decide) e2 d_putHead_74 ?_
  refine lv_isub (pc := 75) hx hb d_putHead_75 ?_
  refine lv_icmp_ge (pc := 76) (tgt := 109) hx hb d_putHead_76 (by decide) (fun hc => ?_) (fun hc => ?_)
  · have hm := ift hc hm
    refine lv_goto (pc := 109) (tgt := 219) hx hb d_putHead_109 (by decide) ?_
    cases hm
    exact q_vret (pc := 219) B I rfl d_putHead_219
  · have hm := iff' hc hm
    refine lv_aload_n (pc := 79) (i := 0) hx hb d_putHead_79 rfl (lx_get hl rfl) ?_
    refine lv_aload_n (pc := 80) (i := 0) hx hb d_putHead_80 rfl (lx_get hl rfl) ?_
    refine lv_aload_n (pc := 81) (i := 0) hx hb d_putHead_81 rfl (lx_get hl rfl) ?_
    refine r_get (pc := 82) (k := 8) (index := 19) B I (by decide) mF_19 rfl rfl d_putHead_82 ?_
    refine lv_iload_n (pc := 85) (i := 1) hx hb d_putHead_85 rfl (lx_get hl rfl) ?_
    refine ob1 hm (fun x3 e4 hm => ?_)
    refine r_ald (pc := 86) (j := 4) B I (by decide) (by decide) e4 d_putHead_86 ?_
    refine lv_iconst (pc := 87) (v := 1) hx hb d_putHead_87 (by decide) ?_
    refine lv_icmp_ne (pc := 88) (tgt := 95) hx hb d_putHead_88 (by decide) (fun hc => ?_) (fun hc => ?_)
    · have hm := iff' hc hm
      refine lv_iconst (pc := 95) (v := 0) hx hb d_putHead_95 (by decide) ?_
      exact w_putHead_96 hK67 B hR hl I hm
    · have hm := ift hc hm
      refine lv_iconst (pc := 91) (v := 1) hx hb d_putHead_91 (by decide) ?_
      refine lv_goto (pc := 92) (tgt := 96) hx hb d_putHead_92 (by decide) ?_
      exact w_putHead_96 hK67 B hR hl I hm
set_option maxRecDepth 100000 in
set_option maxHeartbeats 4000000 in
theorem w_putHead_67i (B : BX p m c cb_putHead 4 s args (.code y_putHead cb_putHead 4 none :: wsA) RREF meth none D vwCl (tyL dA) b0 Z) (hR : RR b0 h Z) (k : Nat) (y1 : Int32) (y3 : Int32) (S : rS) (ls : Array Slot) (H : Heap) (locs : List Loc) (hl : lx ls [some (.ref h), some (.int y1), none, some (.int y3)]) (I : AI D vwCl b0 (rH dA h S hp0) sz s.heap H locs)  (hm : m_putHead_67 N  k y1 y3 S = some S') : W p l e { frames := 2, cells := 0, slots := 0, locals := 45 } s m args below meth c H locs 0 0 (MQ below (CQ D vwCl b0 none (rH dA h S' hp0) sz) args s 0 0 (fun q => b0 ≤ q)) (F0 m 67 ls []) := by
  induction k generalizing y1 y3 S ls H locs with
  | zero => cases hm
  | succ k ih => exact w_putHead_67F  (fun y1 y3 S ls H locs hl I hm => ih y1 y3 S ls H locs hl I hm) B hR hl I hm
theorem w_putHead_67 {y1 : Int32} {y3 : Int32} {S : rS} (B : BX p m c cb_putHead 4 s args (.code y_putHead cb_putHead 4 none :: wsA) RREF meth none D vwCl (tyL dA) b0 Z) (hR : RR b0 h Z) (hl : lx ls [some (.ref h), some (.int y1), none, some (.int y3)]) (I : AI D vwCl b0 (rH dA h S hp0) sz s.heap H locs)  {k : Nat} (hm : m_putHead_67 N  k y1 y3 S = some S') : W p l e { frames := 2, cells := 0, slots := 0, locals := 45 } s m args below meth c H locs 0 0 (MQ below (CQ D vwCl b0 none (rH dA h S' hp0) sz) args s 0 0 (fun q => b0 ≤ q)) (F0 m 67 ls []) := w_putHead_67i  B hR k _ _ S ls H locs hl I hm
def m_putHead_216 (N : Nat) (z1 : Int32) (S : rS) : Option rS :=
  b1 (m_put N z1 S) (fun S2 => some S2)
set_option maxRecDepth 100000 in
set_option maxHeartbeats 4000000 in
theorem w_putHead_216 {z1 : Int32} {S : rS} (B : BX p m c cb_putHead 4 s args (.code y_putHead cb_putHead 4 none :: wsA) RREF meth none D vwCl (tyL dA) b0 Z) (hR : RR b0 h Z) (hl : lx ls [some (.ref h), none, none, none]) (I : AI D vwCl b0 (rH dA h S hp0) sz s.heap H locs)  (hm : m_putHead_216 N  z1 S = some S') : W p l e { frames := 2, cells := 0, slots := 0, locals := 45 } s m args below meth c H locs 0 0 (MQ below (CQ D vwCl b0 none (rH dA h S' hp0) sz) args s 0 0 (fun q => b0 ≤ q)) (F0 m 216 ls [.int z1, .ref h]) := by
  obtain ⟨hx, hb, -⟩ := B.1
  unfold m_putHead_216 at hm
  refine ob1 hm (fun S2 e1 hm => ?_)
  refine r_call (pc := 216) (As := [.int z1]) (rest := []) B hl rfl I (c_put hR e1) kw_put rfl (by decide) (by decide) rfl (by simp [Value.category]) d_putHead_216 (fun H locs I => ?_)
  cases hm
  exact q_vret (pc := 219) B I rfl d_putHead_219
def m_putHead (N : Nat) (p1 : Int32) (S : rS) : Option rS :=
  b1 (rL S 3 p1) (fun x1 => if x1 = 1 then (b1 (rL S 4 p1) (fun x25 => if 0 ≤ x25 then (m_putHead_27 N  p1 S) else (b1 (m_put N 45 S) (fun S28 => m_putHead_27 N  p1 S28)))) else (if x1 = 2 then (m_putHead_67 N  N p1 0 S) else (if x1 = 3 then (b1 (rL S 4 p1) (fun x19 => b1 (rL S 9 p1) (fun x21 => b1 (m_putQuoted N x19 x21 S) (fun S24 => some S24)))) else (if x1 = 4 then (b1 (rL S 4 p1) (fun x3 => b1 (m_putNumber N (x3 / 10000) 4 S) (fun S6 => b1 (m_put N 45 S6) (fun S8 => b1 (rL S8 4 p1) (fun x9 => b1 (m_putNumber N ((x9 / 100) - (x9 / 100) / 100 * 100) 2 S8) (fun S12 => b1 (m_put N 45 S12) (fun S14 => b1 (rL S14 4 p1) (fun x15 => b1 (m_putNumber N (x15 - x15 / 100 * 100) 2 S14) (fun S18 => some S18))))))))) else (if x1 ≤ 6 then (m_putHead_216 N  91 S) else (m_putHead_216 N  123 S))))))
set_option maxRecDepth 100000 in
set_option maxHeartbeats 4000000 in
theorem c_putHead {p1 : Int32} {S S' : rS} (hR : RR b0 h Z) (hm : m_putHead N p1 S = some S') : Ct l D vwCl (tyL dA) b0 Z y_putHead (.code y_putHead cb_putHead 4 none :: wsA) 2 45 [.ref h, .int p1] (rH dA h S hp0) sz none (rH dA h S' hp0) 0 0 := by
  refine ct_of (cc := cb_putHead) (maxL := 4) (ret := none) (lo0 := [some (.ref h), some (.int p1), none, none]) hR.2 (by decide) rfl (by simp [lg_sl, Value.category]) rfl (by simp [lx_all, lv_args, Value.category]) ?_
  intro p e s m args below meth c ls B hnm hl I
  obtain ⟨hx, hb, -⟩ := B.1
  unfold m_putHead at hm
  refine lv_aload_n (pc := 0) (i := 0) hx hb d_putHead_0 rfl (lx_get hl rfl) ?_
  refine r_get (pc := 1) (k := 7) (index := 16) B I (by decide) mF_16 rfl rfl d_putHead_1 ?_
  refine lv_iload_n (pc := 4) (i := 1) hx hb d_putHead_4 rfl (lx_get hl rfl) ?_
  refine ob1 hm (fun x1 e2 hm => ?_)
  refine r_ald (pc := 5) (j := 3) B I (by decide) (by decide) e2 d_putHead_5 ?_
  refine q_istore_n (pc := 6) (i := 2) (lo' := [some (.ref h), some (.int p1), some (.int x1), none]) hx hb d_putHead_6 rfl hl (Nat.le_of_ble_eq_true rfl) (lx_ci rfl) rfl (fun ls hl => ?_)
  refine lv_iload_n (pc := 7) (i := 2) hx hb d_putHead_7 rfl (lx_get hl rfl) ?_
  refine lv_iconst (pc := 8) (v := 1) hx hb d_putHead_8 (by decide) ?_
  refine lv_icmp_ne (pc := 9) (tgt := 60) hx hb d_putHead_9 (by decide) (fun hc => ?_) (fun hc => ?_)
  · have hm := iff' hc hm
    refine lv_iload_n (pc := 60) (i := 2) hx hb d_putHead_60 rfl (lx_get hl rfl) ?_
    refine lv_iconst (pc := 61) (v := 2) hx hb d_putHead_61 (by decide) ?_
    refine lv_icmp_ne (pc := 62) (tgt := 112) hx hb d_putHead_62 (by decide) (fun hc => ?_) (fun hc => ?_)
    · have hm := iff' hc hm
      refine lv_iload_n (pc := 112) (i := 2) hx hb d_putHead_112 rfl (lx_get hl rfl) ?_
      refine lv_iconst (pc := 113) (v := 3) hx hb d_putHead_113 (by decide) ?_
      refine lv_icmp_ne (pc := 114) (tgt := 136) hx hb d_putHead_114 (by decide) (fun hc => ?_) (fun hc => ?_)
      · have hm := iff' hc hm
        refine lv_iload_n (pc := 136) (i := 2) hx hb d_putHead_136 rfl (lx_get hl rfl) ?_
        refine lv_iconst (pc := 137) (v := 4) hx hb d_putHead_137 (by decide) ?_
        refine lv_icmp_ne (pc := 138) (tgt := 202) hx hb d_putHead_138 (by decide) (fun hc => ?_) (fun hc => ?_)
        · have hm := iff' hc hm
          refine lv_aload_n (pc := 202) (i := 0) hx hb d_putHead_202 rfl (lx_get hl rfl) ?_
          refine lv_iload_n (pc := 203) (i := 2) hx hb d_putHead_203 rfl (lx_get hl rfl) ?_
          refine lv_bipush (pc := 204) (v := 6) hx hb d_putHead_204 (by decide) ?_
          refine lv_icmp_le (pc := 206) (tgt := 214) hx hb d_putHead_206 (by decide) (fun hc => ?_) (fun hc => ?_)
          · have hm := ift hc hm
            refine lv_bipush (pc := 214) (v := 91) hx hb d_putHead_214 (by decide) ?_
            exact w_putHead_216  B hR (lx_sub (lo' := [some (.ref h), none, none, none]) hl (by simp [lx_le])) I hm
          · have hm := iff' hc hm
            refine lv_bipush (pc := 209) (v := 123) hx hb d_putHead_209 (by decide) ?_
            refine lv_goto (pc := 211) (tgt := 216) hx hb d_putHead_211 (by decide) ?_
            exact w_putHead_216  B hR (lx_sub (lo' := [some (.ref h), none, none, none]) hl (by simp [lx_le])) I hm
        · have hm := ift hc hm
          refine lv_aload_n (pc := 141) (i := 0) hx hb d_putHead_141 rfl (lx_get hl rfl) ?_
          refine lv_aload_n (pc := 142) (i := 0) hx hb d_putHead_142 rfl (lx_get hl rfl) ?_
          refine r_get (pc := 143) (k := 8) (index := 19) B I (by decide) mF_19 rfl rfl d_putHead_143 ?_
          refine lv_iload_n (pc := 146) (i := 1) hx hb d_putHead_146 rfl (lx_get hl rfl) ?_
          refine ob1 hm (fun x3 e4 hm => ?_)
          refine r_ald (pc := 147) (j := 4) B I (by decide) (by decide) e4 d_putHead_147 ?_
          refine lv_sipush (pc := 148) (v := 10000) hx hb d_putHead_148 (by decide) ?_
          refine lv_idiv (pc := 151) hx hb d_putHead_151 (by decide) ?_
          refine lv_iconst (pc := 152) (v := 4) hx hb d_putHead_152 (by decide) ?_
          refine ob1 hm (fun S6 e5 hm => ?_)
          refine r_call (pc := 153) (As := [.int (x3 / 10000), .int 4]) (rest := []) B hl rfl I (c_putNumber hR e5) kw_putNumber rfl (by decide) (by decide) rfl (by simp [Value.category]) d_putHead_153 (fun H locs I => ?_)
          refine lv_aload_n (pc := 156) (i := 0) hx hb d_putHead_156 rfl (lx_get hl rfl) ?_
          refine lv_bipush (pc := 157) (v := 45) hx hb d_putHead_157 (by decide) ?_
          refine ob1 hm (fun S8 e7 hm => ?_)
          refine r_call (pc := 159) (As := [.int 45]) (rest := []) B hl rfl I (c_put hR e7) kw_put rfl (by decide) (by decide) rfl (by simp [Value.category]) d_putHead_159 (fun H locs I => ?_)
          refine lv_aload_n (pc := 162) (i := 0) hx hb d_putHead_162 rfl (lx_get hl rfl) ?_
          refine lv_aload_n (pc := 163) (i := 0) hx hb d_putHead_163 rfl (lx_get hl rfl) ?_
          refine r_get (pc := 164) (k := 8) (index := 19) B I (by decide) mF_19 rfl rfl d_putHead_164 ?_
          refine lv_iload_n (pc := 167) (i := 1) hx hb d_putHead_167 rfl (lx_get hl rfl) ?_
          refine ob1 hm (fun x9 e10 hm => ?_)
          refine r_ald (pc := 168) (j := 4) B I (by decide) (by decide) e10 d_putHead_168 ?_
          refine lv_bipush (pc := 169) (v := 100) hx hb d_putHead_169 (by decide) ?_
          refine lv_idiv (pc := 171) hx hb d_putHead_171 (by decide) ?_
          refine lv_bipush (pc := 172) (v := 100) hx hb d_putHead_172 (by decide) ?_
          refine lv_irem (pc := 174) hx hb d_putHead_174 (by decide) ?_
          refine lv_iconst (pc := 175) (v := 2) hx hb d_putHead_175 (by decide) ?_
          refine ob1 hm (fun S12 e11 hm => ?_)
          refine r_call (pc := 176) (As := [.int ((x9 / 100) - (x9 / 100) / 100 * 100), .int 2]) (rest := []) B hl rfl I (c_putNumber hR e11) kw_putNumber rfl (by decide) (by decide) rfl (by simp [Value.category]) d_putHead_176 (fun H locs I => ?_)
          refine lv_aload_n (pc := 179) (i := 0) hx hb d_putHead_179 rfl (lx_get hl rfl) ?_
          refine lv_bipush (pc := 180) (v := 45) hx hb d_putHead_180 (by decide) ?_
          refine ob1 hm (fun S14 e13 hm => ?_)
          refine r_call (pc := 182) (As := [.int 45]) (rest := []) B hl rfl I (c_put hR e13) kw_put rfl (by decide) (by decide) rfl (by simp [Value.category]) d_putHead_182 (fun H locs I => ?_)
          refine lv_aload_n (pc := 185) (i := 0) hx hb d_putHead_185 rfl (lx_get hl rfl) ?_
          refine lv_aload_n (pc := 186) (i := 0) hx hb d_putHead_186 rfl (lx_get hl rfl) ?_
          refine r_get (pc := 187) (k := 8) (index := 19) B I (by decide) mF_19 rfl rfl d_putHead_187 ?_
          refine lv_iload_n (pc := 190) (i := 1) hx hb d_putHead_190 rfl (lx_get hl rfl) ?_
          refine ob1 hm (fun x15 e16 hm => ?_)
          refine r_ald (pc := 191) (j := 4) B I (by decide) (by decide) e16 d_putHead_191 ?_
          refine lv_bipush (pc := 192) (v := 100) hx hb d_putHead_192 (by decide) ?_
          refine lv_irem (pc := 194) hx hb d_putHead_194 (by decide) ?_
          refine lv_iconst (pc := 195) (v := 2) hx hb d_putHead_195 (by decide) ?_
          refine ob1 hm (fun S18 e17 hm => ?_)
          refine r_call (pc := 196) (As := [.int (x15 - x15 / 100 * 100), .int 2]) (rest := []) B hl rfl I (c_putNumber hR e17) kw_putNumber rfl (by decide) (by decide) rfl (by simp [Value.category]) d_putHead_196 (fun H locs I => ?_)
          refine lv_goto (pc := 199) (tgt := 219) hx hb d_putHead_199 (by decide) ?_
          cases hm
          exact q_vret (pc := 219) B I rfl d_putHead_219
      · have hm := ift hc hm
        refine lv_aload_n (pc := 117) (i := 0) hx hb d_putHead_117 rfl (lx_get hl rfl) ?_
        refine lv_aload_n (pc := 118) (i := 0) hx hb d_putHead_118 rfl (lx_get hl rfl) ?_
        refine r_get (pc := 119) (k := 8) (index := 19) B I (by decide) mF_19 rfl rfl d_putHead_119 ?_
        refine lv_iload_n (pc := 122) (i := 1) hx hb d_putHead_122 rfl (lx_get hl rfl) ?_
        refine ob1 hm (fun x19 e20 hm => ?_)
        refine r_ald (pc := 123) (j := 4) B I (by decide) (by decide) e20 d_putHead_123 ?_
        refine lv_aload_n (pc := 124) (i := 0) hx hb d_putHead_124 rfl (lx_get hl rfl) ?_
        refine r_get (pc := 125) (k := 13) (index := 34) B I (by decide) mF_34 rfl rfl d_putHead_125 ?_
        refine lv_iload_n (pc := 128) (i := 1) hx hb d_putHead_128 rfl (lx_get hl rfl) ?_
        refine ob1 hm (fun x21 e22 hm => ?_)
        refine r_ald (pc := 129) (j := 9) B I (by decide) (by decide) e22 d_putHead_129 ?_
        refine ob1 hm (fun S24 e23 hm => ?_)
        refine r_call (pc := 130) (As := [.int x19, .int x21]) (rest := []) B hl rfl I (c_putQuoted hR e23) kw_putQuoted rfl (by decide) (by decide) rfl (by simp [Value.category]) d_putHead_130 (fun H locs I => ?_)
        refine lv_goto (pc := 133) (tgt := 219) hx hb d_putHead_133 (by decide) ?_
        cases hm
        exact q_vret (pc := 219) B I rfl d_putHead_219
    · have hm := ift hc hm
      refine lv_iconst (pc := 65) (v := 0) hx hb d_putHead_65 (by decide) ?_
      refine q_istore_n (pc := 66) (i := 3) (lo' := [some (.ref h), some (.int p1), some (.int x1), some (.int 0)]) hx hb d_putHead_66 rfl hl (Nat.le_of_ble_eq_true rfl) (lx_ci rfl) rfl (fun ls hl => ?_)
      exact w_putHead_67  B hR (lx_sub (lo' := [some (.ref h), some (.int p1), none, some (.int 0)]) hl (by simp [lx_le])) I hm
  · have hm := ift hc hm
    refine lv_aload_n (pc := 12) (i := 0) hx hb d_putHead_12 rfl (lx_get hl rfl) ?_
    refine r_get (pc := 13) (k := 8) (index := 19) B I (by decide) mF_19 rfl rfl d_putHead_13 ?_
    refine lv_iload_n (pc := 16) (i := 1) hx hb d_putHead_16 rfl (lx_get hl rfl) ?_
    refine ob1 hm (fun x25 e26 hm => ?_)
    refine r_ald (pc := 17) (j := 4) B I (by decide) (by decide) e26 d_putHead_17 ?_
    refine lv_if_ge (pc := 18) (tgt := 27) hx hb d_putHead_18 (by decide) (fun hc => ?_) (fun hc => ?_)
    · have hm := ift hc hm
      exact w_putHead_27  B hR (lx_sub (lo' := [some (.ref h), some (.int p1), none, none]) hl (by simp [lx_le])) I hm
    · have hm := iff' hc hm
      refine lv_aload_n (pc := 21) (i := 0) hx hb d_putHead_21 rfl (lx_get hl rfl) ?_
      refine lv_bipush (pc := 22) (v := 45) hx hb d_putHead_22 (by decide) ?_
      refine ob1 hm (fun S28 e27 hm => ?_)
      refine r_call (pc := 24) (As := [.int 45]) (rest := []) B hl rfl I (c_put hR e27) kw_put rfl (by decide) (by decide) rfl (by simp [Value.category]) d_putHead_24 (fun H locs I => ?_)
      exact w_putHead_27  B hR (lx_sub (lo' := [some (.ref h), some (.int p1), none, none]) hl (by simp [lx_le])) I hm
def m_holds (N : Nat) (p1 : Int32) (S : rS) : Option Int32 :=
  b1 (rL S 3 p1) (fun x1 => if x1 ≤ 4 then (some 0) else (some 1))
set_option maxRecDepth 100000 in
set_option maxHeartbeats 4000000 in
theorem c_holds {p1 : Int32} {S : rS} {r : Int32} (hR : RR b0 h Z) (hm : m_holds N p1 S = some r) : Ct l D vwCl (tyL dA) b0 Z y_holds (.code y_holds cb_holds 2 (some .boolean) :: wsA) 0 0 [.ref h, .int p1] (rH dA h S hp0) sz (some (.int r)) (rH dA h S hp0) 0 0 := by
  refine ct_of (cc := cb_holds) (maxL := 2) (ret := (some .boolean)) (lo0 := [some (.ref h), some (.int p1)]) hR.2 (by decide) rfl (by simp [lg_sl, Value.category]) rfl (by simp [lx_all, lv_args, Value.category]) ?_
  intro p e s m args below meth c ls B hnm hl I
  obtain ⟨hx, hb, -⟩ := B.1
  unfold m_holds at hm
  refine lv_aload_n (pc := 0) (i := 0) hx hb d_holds_0 rfl (lx_get hl rfl) ?_
  refine r_get (pc := 1) (k := 7) (index := 16) B I (by decide) mF_16 rfl rfl d_holds_1 ?_
  refine lv_iload_n (pc := 4) (i := 1) hx hb d_holds_4 rfl (lx_get hl rfl) ?_
  refine ob1 hm (fun x1 e2 hm => ?_)
  refine r_ald (pc := 5) (j := 3) B I (by decide) (by decide) e2 d_holds_5 ?_
  refine lv_iconst (pc := 6) (v := 4) hx hb d_holds_6 (by decide) ?_
  refine lv_icmp_le (pc := 7) (tgt := 14) hx hb d_holds_7 (by decide) (fun hc => ?_) (fun hc => ?_)
  · have hm := ift hc hm
    refine lv_iconst (pc := 14) (v := 0) hx hb d_holds_14 (by decide) ?_
    cases hm
    exact q_zret (pc := 15) B I rfl (by decide) d_holds_15
  · have hm := iff' hc hm
    refine lv_iconst (pc := 10) (v := 1) hx hb d_holds_10 (by decide) ?_
    refine lv_goto (pc := 11) (tgt := 15) hx hb d_holds_11 (by decide) ?_
    cases hm
    exact q_zret (pc := 15) B I rfl (by decide) d_holds_15
def m_putEntry_18 (N : Nat) (y1 : Int32) (S : rS) : Option rS :=
  b1 (m_putHead N y1 S) (fun S2 => some S2)
set_option maxRecDepth 100000 in
set_option maxHeartbeats 4000000 in
theorem w_putEntry_18 {y1 : Int32} {S : rS} (B : BX p m c cb_putEntry 2 s args (.code y_putEntry cb_putEntry 2 none :: wsA) RREF meth none D vwCl (tyL dA) b0 Z) (hR : RR b0 h Z) (hl : lx ls [some (.ref h), some (.int y1)]) (I : AI D vwCl b0 (rH dA h S hp0) sz s.heap H locs)  (hm : m_putEntry_18 N  y1 S = some S') : W p l e { frames := 3, cells := 0, slots := 0, locals := 68 } s m args below meth c H locs 0 0 (MQ below (CQ D vwCl b0 none (rH dA h S' hp0) sz) args s 0 0 (fun q => b0 ≤ q)) (F0 m 18 ls []) := by
  obtain ⟨hx, hb, -⟩ := B.1
  unfold m_putEntry_18 at hm
  refine lv_aload_n (pc := 18) (i := 0) hx hb d_putEntry_18 rfl (lx_get hl rfl) ?_
  refine lv_iload_n (pc := 19) (i := 1) hx hb d_putEntry_19 rfl (lx_get hl rfl) ?_
  refine ob1 hm (fun S2 e1 hm => ?_)
  refine r_call (pc := 20) (As := [.int y1]) (rest := []) B hl rfl I (c_putHead hR e1) kw_putHead rfl (by decide) (by decide) rfl (by simp [Value.category]) d_putEntry_20 (fun H locs I => ?_)
  cases hm
  exact q_vret (pc := 23) B I rfl d_putEntry_23
def m_putEntry (N : Nat) (p1 : Int32) (S : rS) : Option rS :=
  b1 (rL S 5 p1) (fun x1 => b1 (m_isTable N x1 S) (fun x4 => if x4 = 0 then (m_putEntry_18 N  p1 S) else (b1 (m_putKey N p1 S) (fun S6 => m_putEntry_18 N  p1 S6))))
set_option maxRecDepth 100000 in
set_option maxHeartbeats 4000000 in
theorem c_putEntry {p1 : Int32} {S S' : rS} (hR : RR b0 h Z) (hm : m_putEntry N p1 S = some S') : Ct l D vwCl (tyL dA) b0 Z y_putEntry (.code y_putEntry cb_putEntry 2 none :: wsA) 3 68 [.ref h, .int p1] (rH dA h S hp0) sz none (rH dA h S' hp0) 0 0 := by
  refine ct_of (cc := cb_putEntry) (maxL := 2) (ret := none) (lo0 := [some (.ref h), some (.int p1)]) hR.2 (by decide) rfl (by simp [lg_sl, Value.category]) rfl (by simp [lx_all, lv_args, Value.category]) ?_
  intro p e s m args below meth c ls B hnm hl I
  obtain ⟨hx, hb, -⟩ := B.1
  unfold m_putEntry at hm
  refine lv_aload_n (pc := 0) (i := 0) hx hb d_putEntry_0 rfl (lx_get hl rfl) ?_
  refine lv_aload_n (pc := 1) (i := 0) hx hb d_putEntry_1 rfl (lx_get hl rfl) ?_
  refine r_get (pc := 2) (k := 9) (index := 22) B I (by decide) mF_22 rfl rfl d_putEntry_2 ?_
  refine lv_iload_n (pc := 5) (i := 1) hx hb d_putEntry_5 rfl (lx_get hl rfl) ?_
  refine ob1 hm (fun x1 e2 hm => ?_)
  refine r_ald (pc := 6) (j := 5) B I (by decide) (by decide) e2 d_putEntry_6 ?_
  refine ob1 hm (fun x4 e3 hm => ?_)
  refine r_call (pc := 7) (As := [.int x1]) (rest := []) B hl rfl I (c_isTable hR e3) kw_isTable rfl (by decide) (by decide) rfl (by simp [Value.category]) d_putEntry_7 (fun H locs I => ?_)
  refine lv_if_eq (pc := 10) (tgt := 18) hx hb d_putEntry_10 (by decide) (fun hc => ?_) (fun hc => ?_)
  · have hm := ift hc hm
    exact w_putEntry_18  B hR hl I hm
  · have hm := iff' hc hm
    refine lv_aload_n (pc := 13) (i := 0) hx hb d_putEntry_13 rfl (lx_get hl rfl) ?_
    refine lv_iload_n (pc := 14) (i := 1) hx hb d_putEntry_14 rfl (lx_get hl rfl) ?_
    refine ob1 hm (fun S6 e5 hm => ?_)
    refine r_call (pc := 15) (As := [.int p1]) (rest := []) B hl rfl I (c_putKey hR e5) kw_putKey rfl (by decide) (by decide) rfl (by simp [Value.category]) d_putEntry_15 (fun H locs I => ?_)
    exact w_putEntry_18  B hR hl I hm
def m_putValue_116 (N : Nat) (K12 : Int32 → Int32 → Int32 → Int32 → rS → Option rS) (y1 : Int32) (y2 : Int32) (y4 : Int32) (z0 : Int32) (S : rS) : Option rS :=
  if z0 = 0 then (if y4 = 0 then (K12 y1 y2 z0 y4 S) else (b1 (rL S 5 y2) (fun x1 => K12 y1 x1 z0 y4 S))) else (b1 (m_put N 44 S) (fun S4 => b1 (m_put N 32 S4) (fun S6 => b1 (rL S6 8 y2) (fun x7 => b1 (m_putEntry N x7 S6) (fun S10 => K12 y1 x7 z0 y4 S10)))))
set_option maxRecDepth 100000 in
set_option maxHeartbeats 4000000 in
theorem w_putValue_116 {K12 : Int32 → Int32 → Int32 → Int32 → rS → Option rS} {y1 : Int32} {y2 : Int32} {y4 : Int32} {z0 : Int32} {S : rS} (hK12 : ∀ (y1 : Int32) (y2 : Int32) (y3 : Int32) (y4 : Int32) (S : rS) (ls : Array Slot) (H : Heap) (locs : List Loc), lx ls [some (.ref h), some (.int y1), some (.int y2), some (.int y3), some (.int y4)] → AI D vwCl b0 (rH dA h S hp0) sz s.heap H locs → K12 y1 y2 y3 y4 S = some S' → W p l e { frames := 4, cells := 0, slots := 0, locals := 89 } s m args below meth c H locs 0 0 (MQ below (CQ D vwCl b0 none (rH dA h S' hp0) sz) args s 0 0 (fun q => b0 ≤ q)) (F0 m 12 ls [])) (B : BX p m c cb_putValue 5 s args (.code y_putValue cb_putValue 5 none :: wsA) RREF meth none D vwCl (tyL dA) b0 Z) (hR : RR b0 h Z) (hl : lx ls [some (.ref h), some (.int y1), some (.int y2), none, some (.int y4)]) (I : AI D vwCl b0 (rH dA h S hp0) sz s.heap H locs)  (hm : m_putValue_116 N K12 y1 y2 y4 z0 S = some S') : W p l e { frames := 4, cells := 0, slots := 0, locals := 89 } s m args below meth c H locs 0 0 (MQ below (CQ D vwCl b0 none (rH dA h S' hp0) sz) args s 0 0 (fun q => b0 ≤ q)) (F0 m 116 ls [.int z0]) := by
  obtain ⟨hx, hb, -⟩ := B.1
  unfold m_putValue_116 at hm
  refine q_istore_n (pc := 116) (i := 3) (lo' := [some (.ref h), some (.int y1), some (.int y2), some (.int z0), some (.int y4)]) hx hb d_putValue_116 rfl hl (Nat.le_of_ble_eq_true rfl) (lx_ci rfl) rfl (fun ls hl => ?_)
  refine lv_iload_n (pc := 117) (i := 3) hx hb d_putValue_117 rfl (lx_get hl rfl) ?_
  refine lv_if_eq (pc := 118) (tgt := 148) hx hb d_putValue_118 (by decide) (fun hc => ?_) (fun hc => ?_)
  · have hm := ift hc hm
    refine lv_iload (pc := 148) (i := 4) hx hb d_putValue_148 (lx_get hl rfl) ?_
    refine lv_if_eq (pc := 150) (tgt := 12) hx hb d_putValue_150 (by decide) (fun hc => ?_) (fun hc => ?_)
    · have hm := ift hc hm
      exact hK12 _ _ _ _ _ _ _ _ hl I hm
    · have hm := iff' hc hm
      refine lv_aload_n (pc := 153) (i := 0) hx hb d_putValue_153 rfl (lx_get hl rfl) ?_
      refine r_get (pc := 154) (k := 9) (index := 22) B I (by decide) mF_22 rfl rfl d_putValue_154 ?_
      refine lv_iload_n (pc := 157) (i := 2) hx hb d_putValue_157 rfl (lx_get hl rfl) ?_
      refine ob1 hm (fun x1 e2 hm => ?_)
      refine r_ald (pc := 158) (j := 5) B I (by decide) (by decide) e2 d_putValue_158 ?_
      refine q_istore_n (pc := 159) (i := 2) (lo' := [some (.ref h), some (.int y1), some (.int x1), some (.int z0), some (.int y4)]) hx hb d_putValue_159 rfl hl (Nat.le_of_ble_eq_true rfl) (lx_ci rfl) rfl (fun ls hl => ?_)
      refine lv_goto (pc := 160) (tgt := 12) hx hb d_putValue_160 (by decide) ?_
      exact hK12 _ _ _ _ _ _ _ _ hl I hm
  · have hm := iff' hc hm
    refine lv_aload_n (pc := 121) (i := 0) hx hb d_putValue_121 rfl (lx_get hl rfl) ?_
    refine lv_bipush (pc := 122) (v := 44) hx hb d_putValue_122 (by decide) ?_
    refine ob1 hm (fun S4 e3 hm => ?_)
    refine r_call (pc := 124) (As := [.int 44]) (rest := []) B hl rfl I (c_put hR e3) kw_put rfl (by decide) (by decide) rfl (by simp [Value.category]) d_putValue_124 (fun H locs I => ?_)
    refine lv_aload_n (pc := 127) (i := 0) hx hb d_putValue_127 rfl (lx_get hl rfl) ?_
    refine lv_bipush (pc := 128) (v := 32) hx hb d_putValue_128 (by decide) ?_
    refine ob1 hm (fun S6 e5 hm => ?_)
    refine r_call (pc := 130) (As := [.int 32]) (rest := []) B hl rfl I (c_put hR e5) kw_put rfl (by decide) (by decide) rfl (by simp [Value.category]) d_putValue_130 (fun H locs I => ?_)
    refine lv_aload_n (pc := 133) (i := 0) hx hb d_putValue_133 rfl (lx_get hl rfl) ?_
    refine r_get (pc := 134) (k := 12) (index := 31) B I (by decide) mF_31 rfl rfl d_putValue_134 ?_
    refine lv_iload_n (pc := 137) (i := 2) hx hb d_putValue_137 rfl (lx_get hl rfl) ?_
    refine ob1 hm (fun x7 e8 hm => ?_)
    refine r_ald (pc := 138) (j := 8) B I (by decide) (by decide) e8 d_putValue_138 ?_
    refine q_istore_n (pc := 139) (i := 2) (lo' := [some (.ref h), some (.int y1), some (.int x7), some (.int z0), some (.int y4)]) hx hb d_putValue_139 rfl hl (Nat.le_of_ble_eq_true rfl) (lx_ci rfl) rfl (fun ls hl => ?_)
    refine lv_aload_n (pc := 140) (i := 0) hx hb d_putValue_140 rfl (lx_get hl rfl) ?_
    refine lv_iload_n (pc := 141) (i := 2) hx hb d_putValue_141 rfl (lx_get hl rfl) ?_
    refine ob1 hm (fun S10 e9 hm => ?_)
    refine r_call (pc := 142) (As := [.int x7]) (rest := []) B hl rfl I (c_putEntry hR e9) kw_putEntry rfl (by decide) (by decide) rfl (by simp [Value.category]) d_putValue_142 (fun H locs I => ?_)
    refine lv_goto (pc := 145) (tgt := 12) hx hb d_putValue_145 (by decide) ?_
    exact hK12 _ _ _ _ _ _ _ _ hl I hm
def m_putValue_115 (N : Nat) (K12 : Int32 → Int32 → Int32 → Int32 → rS → Option rS) (y1 : Int32) (y2 : Int32) (y4 : Int32) (S : rS) : Option rS :=
  m_putValue_116 N K12 y1 y2 y4 0 S
set_option maxRecDepth 100000 in
set_option maxHeartbeats 4000000 in
theorem w_putValue_115 {K12 : Int32 → Int32 → Int32 → Int32 → rS → Option rS} {y1 : Int32} {y2 : Int32} {y4 : Int32} {S : rS} (hK12 : ∀ (y1 : Int32) (y2 : Int32) (y3 : Int32) (y4 : Int32) (S : rS) (ls : Array Slot) (H : Heap) (locs : List Loc), lx ls [some (.ref h), some (.int y1), some (.int y2), some (.int y3), some (.int y4)] → AI D vwCl b0 (rH dA h S hp0) sz s.heap H locs → K12 y1 y2 y3 y4 S = some S' → W p l e { frames := 4, cells := 0, slots := 0, locals := 89 } s m args below meth c H locs 0 0 (MQ below (CQ D vwCl b0 none (rH dA h S' hp0) sz) args s 0 0 (fun q => b0 ≤ q)) (F0 m 12 ls [])) (B : BX p m c cb_putValue 5 s args (.code y_putValue cb_putValue 5 none :: wsA) RREF meth none D vwCl (tyL dA) b0 Z) (hR : RR b0 h Z) (hl : lx ls [some (.ref h), some (.int y1), some (.int y2), none, some (.int y4)]) (I : AI D vwCl b0 (rH dA h S hp0) sz s.heap H locs)  (hm : m_putValue_115 N K12 y1 y2 y4 S = some S') : W p l e { frames := 4, cells := 0, slots := 0, locals := 89 } s m args below meth c H locs 0 0 (MQ below (CQ D vwCl b0 none (rH dA h S' hp0) sz) args s 0 0 (fun q => b0 ≤ q)) (F0 m 115 ls []) := by
  obtain ⟨hx, hb, -⟩ := B.1
  unfold m_putValue_115 at hm
  refine lv_iconst (pc := 115) (v := 0) hx hb d_putValue_115 (by decide) ?_
  exact w_putValue_116 hK12 B hR hl I hm
def m_putValue_94 (N : Nat) (K12 : Int32 → Int32 → Int32 → Int32 → rS → Option rS) (y1 : Int32) (y2 : Int32) (z0 : Int32) (S : rS) : Option rS :=
  if z0 = 0 then (m_putValue_115 N K12 y1 y2 z0 S) else (b1 (rL S 8 y2) (fun x1 => if x1 = (-1) then (m_putValue_115 N K12 y1 y2 z0 S) else (m_putValue_116 N K12 y1 y2 z0 1 S)))
set_option maxRecDepth 100000 in
set_option maxHeartbeats 4000000 in
theorem w_putValue_94 {K12 : Int32 → Int32 → Int32 → Int32 → rS → Option rS} {y1 : Int32} {y2 : Int32} {z0 : Int32} {S : rS} (hK12 : ∀ (y1 : Int32) (y2 : Int32) (y3 : Int32) (y4 : Int32) (S : rS) (ls : Array Slot) (H : Heap) (locs : List Loc), lx ls [some (.ref h), some (.int y1), some (.int y2), some (.int y3), some (.int y4)] → AI D vwCl b0 (rH dA h S hp0) sz s.heap H locs → K12 y1 y2 y3 y4 S = some S' → W p l e { frames := 4, cells := 0, slots := 0, locals := 89 } s m args below meth c H locs 0 0 (MQ below (CQ D vwCl b0 none (rH dA h S' hp0) sz) args s 0 0 (fun q => b0 ≤ q)) (F0 m 12 ls [])) (B : BX p m c cb_putValue 5 s args (.code y_putValue cb_putValue 5 none :: wsA) RREF meth none D vwCl (tyL dA) b0 Z) (hR : RR b0 h Z) (hl : lx ls [some (.ref h), some (.int y1), some (.int y2), none, none]) (I : AI D vwCl b0 (rH dA h S hp0) sz s.heap H locs)  (hm : m_putValue_94 N K12 y1 y2 z0 S = some S') : W p l e { frames := 4, cells := 0, slots := 0, locals := 89 } s m args below meth c H locs 0 0 (MQ below (CQ D vwCl b0 none (rH dA h S' hp0) sz) args s 0 0 (fun q => b0 ≤ q)) (F0 m 94 ls [.int z0]) := by
  obtain ⟨hx, hb, -⟩ := B.1
  unfold m_putValue_94 at hm
  refine q_istore (pc := 94) (i := 4) (lo' := [some (.ref h), some (.int y1), some (.int y2), none, some (.int z0)]) hx hb d_putValue_94 hl (Nat.le_of_ble_eq_true rfl) (lx_cn rfl) rfl (fun ls hl => ?_)
  refine lv_iload (pc := 96) (i := 4) hx hb d_putValue_96 (lx_get hl rfl) ?_
  refine lv_if_eq (pc := 98) (tgt := 115) hx hb d_putValue_98 (by decide) (fun hc => ?_) (fun hc => ?_)
  · have hm := ift hc hm
    exact w_putValue_115 hK12 B hR hl I hm
  · have hm := iff' hc hm
    refine lv_aload_n (pc := 101) (i := 0) hx hb d_putValue_101 rfl (lx_get hl rfl) ?_
    refine r_get (pc := 102) (k := 12) (index := 31) B I (by decide) mF_31 rfl rfl d_putValue_102 ?_
    refine lv_iload_n (pc := 105) (i := 2) hx hb d_putValue_105 rfl (lx_get hl rfl) ?_
    refine ob1 hm (fun x1 e2 hm => ?_)
    refine r_ald (pc := 106) (j := 8) B I (by decide) (by decide) e2 d_putValue_106 ?_
    refine lv_iconst (pc := 107) (v := (-1)) hx hb d_putValue_107 (by decide) ?_
    refine lv_icmp_eq (pc := 108) (tgt := 115) hx hb d_putValue_108 (by decide) (fun hc => ?_) (fun hc => ?_)
    · have hm := ift hc hm
      exact w_putValue_115 hK12 B hR hl I hm
    · have hm := iff' hc hm
      refine lv_iconst (pc := 111) (v := 1) hx hb d_putValue_111 (by decide) ?_
      refine lv_goto (pc := 112) (tgt := 116) hx hb d_putValue_112 (by decide) ?_
      exact w_putValue_116 hK12 B hR hl I hm
def m_putValue_84 (N : Nat) (K12 : Int32 → Int32 → Int32 → Int32 → rS → Option rS) (y1 : Int32) (y2 : Int32) (S : rS) : Option rS :=
  if y2 = y1 then (m_putValue_94 N K12 y1 y2 0 S) else (m_putValue_94 N K12 y1 y2 1 S)
set_option maxRecDepth 100000 in
set_option maxHeartbeats 4000000 in
theorem w_putValue_84 {K12 : Int32 → Int32 → Int32 → Int32 → rS → Option rS} {y1 : Int32} {y2 : Int32} {S : rS} (hK12 : ∀ (y1 : Int32) (y2 : Int32) (y3 : Int32) (y4 : Int32) (S : rS) (ls : Array Slot) (H : Heap) (locs : List Loc), lx ls [some (.ref h), some (.int y1), some (.int y2), some (.int y3), some (.int y4)] → AI D vwCl b0 (rH dA h S hp0) sz s.heap H locs → K12 y1 y2 y3 y4 S = some S' → W p l e { frames := 4, cells := 0, slots := 0, locals := 89 } s m args below meth c H locs 0 0 (MQ below (CQ D vwCl b0 none (rH dA h S' hp0) sz) args s 0 0 (fun q => b0 ≤ q)) (F0 m 12 ls [])) (B : BX p m c cb_putValue 5 s args (.code y_putValue cb_putValue 5 none :: wsA) RREF meth none D vwCl (tyL dA) b0 Z) (hR : RR b0 h Z) (hl : lx ls [some (.ref h), some (.int y1), some (.int y2), none, none]) (I : AI D vwCl b0 (rH dA h S hp0) sz s.heap H locs)  (hm : m_putValue_84 N K12 y1 y2 S = some S') : W p l e { frames := 4, cells := 0, slots := 0, locals := 89 } s m args below meth c H locs 0 0 (MQ below (CQ D vwCl b0 none (rH dA h S' hp0) sz) args s 0 0 (fun q => b0 ≤ q)) (F0 m 84 ls []) := by
  obtain ⟨hx, hb, -⟩ := B.1
  unfold m_putValue_84 at hm
  refine lv_iload_n (pc := 84) (i := 2) hx hb d_putValue_84 rfl (lx_get hl rfl) ?_
  refine lv_iload_n (pc := 85) (i := 1) hx hb d_putValue_85 rfl (lx_get hl rfl) ?_
  refine lv_icmp_eq (pc := 86) (tgt := 93) hx hb d_putValue_86 (by decide) (fun hc => ?_) (fun hc => ?_)
  · have hm := ift hc hm
    refine lv_iconst (pc := 93) (v := 0) hx hb d_putValue_93 (by decide) ?_
    exact w_putValue_94 hK12 B hR hl I hm
  · have hm := iff' hc hm
    refine lv_iconst (pc := 89) (v := 1) hx hb d_putValue_89 (by decide) ?_
    refine lv_goto (pc := 90) (tgt := 94) hx hb d_putValue_90 (by decide) ?_
    exact w_putValue_94 hK12 B hR hl I hm
def m_putValue_81 (N : Nat) (K12 : Int32 → Int32 → Int32 → Int32 → rS → Option rS) (y1 : Int32) (y2 : Int32) (z1 : Int32) (S : rS) : Option rS :=
  b1 (m_put N z1 S) (fun S2 => m_putValue_84 N K12 y1 y2 S2)
set_option maxRecDepth 100000 in
set_option maxHeartbeats 4000000 in
theorem w_putValue_81 {K12 : Int32 → Int32 → Int32 → Int32 → rS → Option rS} {y1 : Int32} {y2 : Int32} {z1 : Int32} {S : rS} (hK12 : ∀ (y1 : Int32) (y2 : Int32) (y3 : Int32) (y4 : Int32) (S : rS) (ls : Array Slot) (H : Heap) (locs : List Loc), lx ls [some (.ref h), some (.int y1), some (.int y2), some (.int y3), some (.int y4)] → AI D vwCl b0 (rH dA h S hp0) sz s.heap H locs → K12 y1 y2 y3 y4 S = some S' → W p l e { frames := 4, cells := 0, slots := 0, locals := 89 } s m args below meth c H locs 0 0 (MQ below (CQ D vwCl b0 none (rH dA h S' hp0) sz) args s 0 0 (fun q => b0 ≤ q)) (F0 m 12 ls [])) (B : BX p m c cb_putValue 5 s args (.code y_putValue cb_putValue 5 none :: wsA) RREF meth none D vwCl (tyL dA) b0 Z) (hR : RR b0 h Z) (hl : lx ls [some (.ref h), some (.int y1), some (.int y2), none, none]) (I : AI D vwCl b0 (rH dA h S hp0) sz s.heap H locs)  (hm : m_putValue_81 N K12 y1 y2 z1 S = some S') : W p l e { frames := 4, cells := 0, slots := 0, locals := 89 } s m args below meth c H locs 0 0 (MQ below (CQ D vwCl b0 none (rH dA h S' hp0) sz) args s 0 0 (fun q => b0 ≤ q)) (F0 m 81 ls [.int z1, .ref h]) := by
  obtain ⟨hx, hb, -⟩ := B.1
  unfold m_putValue_81 at hm
  refine ob1 hm (fun S2 e1 hm => ?_)
  refine r_call (pc := 81) (As := [.int z1]) (rest := []) B hl rfl I (c_put hR e1) kw_put rfl (by decide) (by decide) rfl (by simp [Value.category]) d_putValue_81 (fun H locs I => ?_)
  exact w_putValue_84 hK12 B hR hl I hm
def m_putValue_54 (N : Nat) (K12 : Int32 → Int32 → Int32 → Int32 → rS → Option rS) (y1 : Int32) (y2 : Int32) (S : rS) : Option rS :=
  b1 (m_holds N y2 S) (fun x2 => if x2 = 0 then (m_putValue_84 N K12 y1 y2 S) else (b1 (rL S 3 y2) (fun x3 => if x3 ≤ 6 then (m_putValue_81 N K12 y1 y2 93 S) else (m_putValue_81 N K12 y1 y2 125 S))))
set_option maxRecDepth 100000 in
set_option maxHeartbeats 4000000 in
theorem w_putValue_54 {K12 : Int32 → Int32 → Int32 → Int32 → rS → Option rS} {y1 : Int32} {y2 : Int32} {S : rS} (hK12 : ∀ (y1 : Int32) (y2 : Int32) (y3 : Int32) (y4 : Int32) (S : rS) (ls : Array Slot) (H : Heap) (locs : List Loc), lx ls [some (.ref h), some (.int y1), some (.int y2), some (.int y3), some (.int y4)] → AI D vwCl b0 (rH dA h S hp0) sz s.heap H locs → K12 y1 y2 y3 y4 S = some S' → W p l e { frames := 4, cells := 0, slots := 0, locals := 89 } s m args below meth c H locs 0 0 (MQ below (CQ D vwCl b0 none (rH dA h S' hp0) sz) args s 0 0 (fun q => b0 ≤ q)) (F0 m 12 ls [])) (B : BX p m c cb_putValue 5 s args (.code y_putValue cb_putValue 5 none :: wsA) RREF meth none D vwCl (tyL dA) b0 Z) (hR : RR b0 h Z) (hl : lx ls [some (.ref h), some (.int y1), some (.int y2), none, none]) (I : AI D vwCl b0 (rH dA h S hp0) sz s.heap H locs)  (hm : m_putValue_54 N K12 y1 y2 S = some S') : W p l e { frames := 4, cells := 0, slots := 0, locals := 89 } s m args below meth c H locs 0 0 (MQ below (CQ D vwCl b0 none (rH dA h S' hp0) sz) args s 0 0 (fun q => b0 ≤ q)) (F0 m 54 ls []) := by
  obtain ⟨hx, hb, -⟩ := B.1
  unfold m_putValue_54 at hm
  refine lv_aload_n (pc := 54) (i := 0) hx hb d_putValue_54 rfl (lx_get hl rfl) ?_
  refine lv_iload_n (pc := 55) (i := 2) hx hb d_putValue_55 rfl (lx_get hl rfl) ?_
  refine ob1 hm (fun x2 e1 hm => ?_)
  refine r_call (pc := 56) (As := [.int y2]) (rest := []) B hl rfl I (c_holds hR e1) kw_holds rfl (by decide) (by decide) rfl (by simp [Value.category]) d_putValue_56 (fun H locs I => ?_)
  refine lv_if_eq (pc := 59) (tgt := 84) hx hb d_putValue_59 (by decide) (fun hc => ?_) (fun hc => ?_)
  · have hm := ift hc hm
    exact w_putValue_84 hK12 B hR hl I hm
  · have hm := iff' hc hm
    refine lv_aload_n (pc := 62) (i := 0) hx hb d_putValue_62 rfl (lx_get hl rfl) ?_
    refine lv_aload_n (pc := 63) (i := 0) hx hb d_putValue_63 rfl (lx_get hl rfl) ?_
    refine r_get (pc := 64) (k := 7) (index := 16) B I (by decide) mF_16 rfl rfl d_putValue_64 ?_
    refine lv_iload_n (pc := 67) (i := 2) hx hb d_putValue_67 rfl (lx_get hl rfl) ?_
    refine ob1 hm (fun x3 e4 hm => ?_)
    refine r_ald (pc := 68) (j := 3) B I (by decide) (by decide) e4 d_putValue_68 ?_
    refine lv_bipush (pc := 69) (v := 6) hx hb d_putValue_69 (by decide) ?_
    refine lv_icmp_le (pc := 71) (tgt := 79) hx hb d_putValue_71 (by decide) (fun hc => ?_) (fun hc => ?_)
    · have hm := ift hc hm
      refine lv_bipush (pc := 79) (v := 93) hx hb d_putValue_79 (by decide) ?_
      exact w_putValue_81 hK12 B hR hl I hm
    · have hm := iff' hc hm
      refine lv_bipush (pc := 74) (v := 125) hx hb d_putValue_74 (by decide) ?_
      refine lv_goto (pc := 76) (tgt := 81) hx hb d_putValue_76 (by decide) ?_
      exact w_putValue_81 hK12 B hR hl I hm
def m_putValue_12F (N : Nat) (K12 : Int32 → Int32 → Int32 → Int32 → rS → Option rS) (y1 : Int32) (y2 : Int32) (y3 : Int32) (y4 : Int32) (S : rS) : Option rS :=
  if y4 = 0 then (some S) else (if y3 = 0 then (m_putValue_54 N K12 y1 y2 S) else (b1 (m_holds N y2 S) (fun x2 => if x2 = 0 then (m_putValue_54 N K12 y1 y2 S) else (b1 (rL S 6 y2) (fun x3 => if x3 = (-1) then (m_putValue_54 N K12 y1 y2 S) else (b1 (rL S 6 y2) (fun x5 => b1 (m_putEntry N x5 S) (fun S8 => K12 y1 x5 y3 y4 S8))))))))
def m_putValue_12 (N : Nat) : Nat → Int32 → Int32 → Int32 → Int32 → rS → Option rS
  | 0, _, _, _, _, _ => none
  | k + 1, y1, y2, y3, y4, S => m_putValue_12F N  (m_putValue_12 N  k) y1 y2 y3 y4 S
set_option maxRecDepth 100000 in
set_option maxHeartbeats 4000000 in
theorem w_putValue_12F {K12 : Int32 → Int32 → Int32 → Int32 → rS → Option rS} {y1 : Int32} {y2 : Int32} {y3 : Int32} {y4 : Int32} {S : rS} (hK12 : ∀ (y1 : Int32) (y2 : Int32) (y3 : Int32) (y4 : Int32) (S : rS) (ls : Array Slot) (H : Heap) (locs : List Loc), lx ls [some (.ref h), some (.int y1), some (.int y2), some (.int y3), some (.int y4)] → AI D vwCl b0 (rH dA h S hp0) sz s.heap H locs → K12 y1 y2 y3 y4 S = some S' → W p l e { frames := 4, cells := 0, slots := 0, locals := 89 } s m args below meth c H locs 0 0 (MQ below (CQ D vwCl b0 none (rH dA h S' hp0) sz) args s 0 0 (fun q => b0 ≤ q)) (F0 m 12 ls [])) (B : BX p m c cb_putValue 5 s args (.code y_putValue cb_putValue 5 none :: wsA) RREF meth none D vwCl (tyL dA) b0 Z) (hR : RR b0 h Z) (hl : lx ls [some (.ref h), some (.int y1), some (.int y2), some (.int y3), some (.int y4)]) (I : AI D vwCl b0 (rH dA h S hp0) sz s.heap H locs)  (hm : m_putValue_12F N  K12 y1 y2 y3 y4 S = some S') : W p l e { frames := 4, cells := 0, slots := 0, locals := 89 } s m args below meth c H locs 0 0 (MQ below (CQ D vwCl b0 none (rH dA h S' hp0) sz) args s 0 0 (fun q => b0 ≤ q)) (F0 m 12 ls []) := by
  obtain ⟨hx, hb, -⟩ := B.1
  unfold m_putValue_12F at hm
  refine lv_iload (pc := 12) (i := 4) hx hb d_putValue_12 (lx_get hl rfl) ?_
  refine lv_if_eq (pc := 14) (tgt := 163) hx hb d_putValue_14 (by decide) (fun hc => ?_) (fun hc => ?_)
  · have hm := ift hc hm
    cases hm
    exact q_vret (pc := 163) B I rfl d_putValue_163
  · have hm := iff' hc hm
    refine lv_iload_n (pc := 17) (i := 3) hx hb d_putValue_17 rfl (lx_get hl rfl) ?_
    refine lv_if_eq (pc := 18) (tgt := 54) hx hb d_putValue_18 (by decide) (fun hc => ?_) (fun hc => ?_)
    · have hm := ift hc hm
      exact w_putValue_54 hK12 B hR (lx_sub (lo' := [some (.ref h), some (.int y1), some (.int y2), none, none]) hl (by simp [lx_le])) I hm
    · have hm := iff' hc hm
      refine lv_aload_n (pc := 21) (i := 0) hx hb d_putValue_21 rfl (lx_get hl rfl) ?_
      refine lv_iload_n (pc := 22) (i := 2) hx hb d_putValue_22 rfl (lx_get hl rfl) ?_
      refine ob1 hm (fun x2 e1 hm => ?_)
      refine r_call (pc := 23) (As := [.int y2]) (rest := []) B hl rfl I (c_holds hR e1) kw_holds rfl (by decide) (by decide) rfl (by simp [Value.category]) d_putValue_23 (fun H locs I => ?_)
      refine lv_if_eq (pc := 26) (tgt := 54) hx hb d_putValue_26 (by decide) (fun hc => ?_) (fun hc => ?_)
      · have hm := ift hc hm
        exact w_putValue_54 hK12 B hR (lx_sub (lo' := [some (.ref h), some (.int y1), some (.int y2), none, none]) hl (by simp [lx_le])) I hm
      · have hm := iff' hc hm
        refine lv_aload_n (pc := 29) (i := 0) hx hb d_putValue_29 rfl (lx_get hl rfl) ?_
        refine r_get (pc := 30) (k := 10) (index := 25) B I (by decide) mF_25 rfl rfl d_putValue_30 ?_
        refine lv_iload_n (pc := 33) (i := 2) hx hb d_putValue_33 rfl (lx_get hl rfl) ?_
        refine ob1 hm (fun x3 e4 hm => ?_)
        refine r_ald (pc := 34) (j := 6) B I (by decide) (by decide) e4 d_putValue_34 ?_
        refine lv_iconst (pc := 35) (v := (-1)) hx hb d_putValue_35 (by decide) ?_
        refine lv_icmp_eq (pc := 36) (tgt := 54) hx hb d_putValue_36 (by decide) (fun hc => ?_) (fun hc => ?_)
        · have hm := ift hc hm
          exact w_putValue_54 hK12 B hR (lx_sub (lo' := [some (.ref h), some (.int y1), some (.int y2), none, none]) hl (by simp [lx_le])) I hm
        · have hm := iff' hc hm
          refine lv_aload_n (pc := 39) (i := 0) hx hb d_putValue_39 rfl (lx_get hl rfl) ?_
          refine r_get (pc := 40) (k := 10) (index := 25) B I (by decide) mF_25 rfl rfl d_putValue_40 ?_
          refine lv_iload_n (pc := 43) (i := 2) hx hb d_putValue_43 rfl (lx_get hl rfl) ?_
          refine ob1 hm (fun x5 e6 hm => ?_)
          refine r_ald (pc := 44) (j := 6) B I (by decide) (by decide) e6 d_putValue_44 ?_
          refine q_istore_n (pc := 45) (i := 2) (lo' := [some (.ref h), some (.int y1), some (.int x5), some (.int y3), some (.int y4)]) hx hb d_putValue_45 rfl hl (Nat.le_of_ble_eq_true rfl) (lx_ci rfl) rfl (fun ls hl => ?_)
          refine lv_aload_n (pc := 46) (i := 0) hx hb d_putValue_46 rfl (lx_get hl rfl) ?_
          refine lv_iload_n (pc := 47) (i := 2) hx hb d_putValue_47 rfl (lx_get hl rfl) ?_
          refine ob1 hm (fun S8 e7 hm => ?_)
          refine r_call (pc := 48) (As := [.int x5]) (rest := []) B hl rfl I (c_putEntry hR e7) kw_putEntry rfl (by decide) (by decide) rfl (by simp [Value.category]) d_putValue_48 (fun H locs I => ?_)
          refine lv_goto (pc := 51) (tgt := 12) hx hb d_putValue_51 (by decide) ?_
          exact hK12 _ _ _ _ _ _ _ _ hl I hm
set_option maxRecDepth 100000 in
set_option maxHeartbeats 4000000 in
theorem w_putValue_12i (B : BX p m c cb_putValue 5 s args (.code y_putValue cb_putValue 5 none :: wsA) RREF meth none D vwCl (tyL dA) b0 Z) (hR : RR b0 h Z) (k : Nat) (y1 : Int32) (y2 : Int32) (y3 : Int32) (y4 : Int32) (S : rS) (ls : Array Slot) (H : Heap) (locs : List Loc) (hl : lx ls [some (.ref h), some (.int y1), some (.int y2), some (.int y3), some (.int y4)]) (I : AI D vwCl b0 (rH dA h S hp0) sz s.heap H locs)  (hm : m_putValue_12 N  k y1 y2 y3 y4 S = some S') : W p l e { frames := 4, cells := 0, slots := 0, locals := 89 } s m args below meth c H locs 0 0 (MQ below (CQ D vwCl b0 none (rH dA h S' hp0) sz) args s 0 0 (fun q => b0 ≤ q)) (F0 m 12 ls []) := by
  induction k generalizing y1 y2 y3 y4 S ls H locs with
  | zero => cases hm
  | succ k ih => exact w_putValue_12F  (fun y1 y2 y3 y4 S ls H locs hl I hm => ih y1 y2 y3 y4 S ls H locs hl I hm) B hR hl I hm
theorem w_putValue_12 {y1 : Int32} {y2 : Int32} {y3 : Int32} {y4 : Int32} {S : rS} (B : BX p m c cb_putValue 5 s args (.code y_putValue cb_putValue 5 none :: wsA) RREF meth none D vwCl (tyL dA) b0 Z) (hR : RR b0 h Z) (hl : lx ls [some (.ref h), some (.int y1), some (.int y2), some (.int y3), some (.int y4)]) (I : AI D vwCl b0 (rH dA h S hp0) sz s.heap H locs)  {k : Nat} (hm : m_putValue_12 N  k y1 y2 y3 y4 S = some S') : W p l e { frames := 4, cells := 0, slots := 0, locals := 89 } s m args below meth c H locs 0 0 (MQ below (CQ D vwCl b0 none (rH dA h S' hp0) sz) args s 0 0 (fun q => b0 ≤ q)) (F0 m 12 ls []) := w_putValue_12i  B hR k _ _ _ _ S ls H locs hl I hm
def m_putValue (N : Nat) (p1 : Int32) (S : rS) : Option rS :=
  b1 (m_putHead N p1 S) (fun S2 => m_putValue_12 N  N p1 p1 1 1 S2)
set_option maxRecDepth 100000 in
set_option maxHeartbeats 4000000 in
theorem c_putValue {p1 : Int32} {S S' : rS} (hR : RR b0 h Z) (hm : m_putValue N p1 S = some S') : Ct l D vwCl (tyL dA) b0 Z y_putValue (.code y_putValue cb_putValue 5 none :: wsA) 4 89 [.ref h, .int p1] (rH dA h S hp0) sz none (rH dA h S' hp0) 0 0 := by
  refine ct_of (cc := cb_putValue) (maxL := 5) (ret := none) (lo0 := [some (.ref h), some (.int p1), none, none, none]) hR.2 (by decide) rfl (by simp [lg_sl, Value.category]) rfl (by simp [lx_all, lv_args, Value.category]) ?_
  intro p e s m args below meth c ls B hnm hl I
  obtain ⟨hx, hb, -⟩ := B.1
  unfold m_putValue at hm
  refine lv_iload_n (pc := 0) (i := 1) hx hb d_putValue_0 rfl (lx_get hl rfl) ?_
  refine q_istore_n (pc := 1) (i := 2) (lo' := [some (.ref h), some (.int p1), some (.int p1), none, none]) hx hb d_putValue_1 rfl hl (Nat.le_of_ble_eq_true rfl) (lx_ci rfl) rfl (fun ls hl => ?_)
  refine lv_aload_n (pc := 2) (i := 0) hx hb d_putValue_2 rfl (lx_get hl rfl) ?_
  refine lv_iload_n (pc := 3) (i := 2) hx hb d_putValue_3 rfl (lx_get hl rfl) ?_
  refine ob1 hm (fun S2 e1 hm => ?_)
  refine r_call (pc := 4) (As := [.int p1]) (rest := []) B hl rfl I (c_putHead hR e1) kw_putHead rfl (by decide) (by decide) rfl (by simp [Value.category]) d_putValue_4 (fun H locs I => ?_)
  refine lv_iconst (pc := 7) (v := 1) hx hb d_putValue_7 (by decide) ?_
  refine q_istore_n (pc := 8) (i := 3) (lo' := [some (.ref h), some (.int p1), some (.int p1), some (.int 1), none]) hx hb d_putValue_8 rfl hl (Nat.le_of_ble_eq_true rfl) (lx_ci rfl) rfl (fun ls hl => ?_)
  refine lv_iconst (pc := 9) (v := 1) hx hb d_putValue_9 (by decide) ?_
  refine q_istore (pc := 10) (i := 4) (lo' := [some (.ref h), some (.int p1), some (.int p1), some (.int 1), some (.int 1)]) hx hb d_putValue_10 hl (Nat.le_of_ble_eq_true rfl) (lx_ci rfl) rfl (fun ls hl => ?_)
  exact w_putValue_12  B hR hl I hm
def m_write_24F (N : Nat) (K24 : Int32 → rS → Option (Int32 × rS)) (y1 : Int32) (S : rS) : Option (Int32 × rS) :=
  if y1 = (-1) then (some (S.1 29, S)) else (b1 (m_putKey N y1 S) (fun S2 => b1 (m_putValue N y1 S2) (fun S4 => b1 (m_put N 10 S4) (fun S6 => b1 (rL S6 8 y1) (fun x7 => K24 x7 S6)))))
def m_write_24 (N : Nat) : Nat → Int32 → rS → Option (Int32 × rS)
  | 0, _, _ => none
  | k + 1, y1, S => m_write_24F N  (m_write_24 N  k) y1 S
set_option maxRecDepth 100000 in
set_option maxHeartbeats 4000000 in
theorem w_write_24F {K24 : Int32 → rS → Option (Int32 × rS)} {y1 : Int32} {S : rS} (hK24 : ∀ (y1 : Int32) (S : rS) (ls : Array Slot) (H : Heap) (locs : List Loc), lx ls [some (.ref h), some (.int y1)] → AI D vwCl b0 (rH dA h S hp0) sz s.heap H locs → K24 y1 S = some (r, S') → W p l e { frames := 5, cells := 0, slots := 0, locals := 113 } s m args below meth c H locs 0 0 (MQ below (CQ D vwCl b0 (some (.int r)) (rH dA h S' hp0) sz) args s 0 0 (fun q => b0 ≤ q)) (F0 m 24 ls [])) (B : BX p m c cb_write 2 s args (.code y_write cb_write 2 (some .int) :: wsA) RREF meth (some .int) D vwCl (tyL dA) b0 Z) (hR : RR b0 h Z) (hl : lx ls [some (.ref h), some (.int y1)]) (I : AI D vwCl b0 (rH dA h S hp0) sz s.heap H locs)  (hm : m_write_24F N  K24 y1 S = some (r, S')) : W p l e { frames := 5, cells := 0, slots := 0, locals := 113 } s m args below meth c H locs 0 0 (MQ below (CQ D vwCl b0 (some (.int r)) (rH dA h S' hp0) sz) args s 0 0 (fun q => b0 ≤ q)) (F0 m 24 ls []) := by
  obtain ⟨hx, hb, -⟩ := B.1
  unfold m_write_24F at hm
  refine lv_iload_n (pc := 24) (i := 1) hx hb d_write_24 rfl (lx_get hl rfl) ?_
  refine lv_iconst (pc := 25) (v := (-1)) hx hb d_write_25 (by decide) ?_
  refine lv_icmp_eq (pc := 26) (tgt := 55) hx hb d_write_26 (by decide) (fun hc => ?_) (fun hc => ?_)
  · have hm := ift hc hm
    refine lv_aload_n (pc := 55) (i := 0) hx hb d_write_55 rfl (lx_get hl rfl) ?_
    refine r_get (pc := 56) (k := 29) (index := 219) B I (by decide) mF_219 rfl rfl d_write_56 ?_
    cases hm
    exact q_iret (pc := 59) B I rfl d_write_59
  · have hm := iff' hc hm
    refine lv_aload_n (pc := 29) (i := 0) hx hb d_write_29 rfl (lx_get hl rfl) ?_
    refine lv_iload_n (pc := 30) (i := 1) hx hb d_write_30 rfl (lx_get hl rfl) ?_
    refine ob1 hm (fun S2 e1 hm => ?_)
    refine r_call (pc := 31) (As := [.int y1]) (rest := []) B hl rfl I (c_putKey hR e1) kw_putKey rfl (by decide) (by decide) rfl (by simp [Value.category]) d_write_31 (fun H locs I => ?_)
    refine lv_aload_n (pc := 34) (i := 0) hx hb d_write_34 rfl (lx_get hl rfl) ?_
    refine lv_iload_n (pc := 35) (i := 1) hx hb d_write_35 rfl (lx_get hl rfl) ?_
    refine ob1 hm (fun S4 e3 hm => ?_)
    refine r_call (pc := 36) (As := [.int y1]) (rest := []) B hl rfl I (c_putValue hR e3) kw_putValue rfl (by decide) (by decide) rfl (by simp [Value.category]) d_write_36 (fun H locs I => ?_)
    refine lv_aload_n (pc := 39) (i := 0) hx hb d_write_39 rfl (lx_get hl rfl) ?_
    refine lv_bipush (pc := 40) (v := 10) hx hb d_write_40 (by decide) ?_
    refine ob1 hm (fun S6 e5 hm => ?_)
    refine r_call (pc := 42) (As := [.int 10]) (rest := []) B hl rfl I (c_put hR e5) kw_put rfl (by decide) (by decide) rfl (by simp [Value.category]) d_write_42 (fun H locs I => ?_)
    refine lv_aload_n (pc := 45) (i := 0) hx hb d_write_45 rfl (lx_get hl rfl) ?_
    refine r_get (pc := 46) (k := 12) (index := 31) B I (by decide) mF_31 rfl rfl d_write_46 ?_
    refine lv_iload_n (pc := 49) (i := 1) hx hb d_write_49 rfl (lx_get hl rfl) ?_
    refine ob1 hm (fun x7 e8 hm => ?_)
    refine r_ald (pc := 50) (j := 8) B I (by decide) (by decide) e8 d_write_50 ?_
    refine q_istore_n (pc := 51) (i := 1) (lo' := [some (.ref h), some (.int x7)]) hx hb d_write_51 rfl hl (Nat.le_of_ble_eq_true rfl) (lx_cr rfl) rfl (fun ls hl => ?_)
    refine lv_goto (pc := 52) (tgt := 24) hx hb d_write_52 (by decide) ?_
    exact hK24 _ _ _ _ _ hl I hm
set_option maxRecDepth 100000 in
set_option maxHeartbeats 4000000 in
theorem w_write_24i (B : BX p m c cb_write 2 s args (.code y_write cb_write 2 (some .int) :: wsA) RREF meth (some .int) D vwCl (tyL dA) b0 Z) (hR : RR b0 h Z) (k : Nat) (y1 : Int32) (S : rS) (ls : Array Slot) (H : Heap) (locs : List Loc) (hl : lx ls [some (.ref h), some (.int y1)]) (I : AI D vwCl b0 (rH dA h S hp0) sz s.heap H locs)  (hm : m_write_24 N  k y1 S = some (r, S')) : W p l e { frames := 5, cells := 0, slots := 0, locals := 113 } s m args below meth c H locs 0 0 (MQ below (CQ D vwCl b0 (some (.int r)) (rH dA h S' hp0) sz) args s 0 0 (fun q => b0 ≤ q)) (F0 m 24 ls []) := by
  induction k generalizing y1 S ls H locs with
  | zero => cases hm
  | succ k ih => exact w_write_24F  (fun y1 S ls H locs hl I hm => ih y1 S ls H locs hl I hm) B hR hl I hm
theorem w_write_24 {y1 : Int32} {S : rS} (B : BX p m c cb_write 2 s args (.code y_write cb_write 2 (some .int) :: wsA) RREF meth (some .int) D vwCl (tyL dA) b0 Z) (hR : RR b0 h Z) (hl : lx ls [some (.ref h), some (.int y1)]) (I : AI D vwCl b0 (rH dA h S hp0) sz s.heap H locs)  {k : Nat} (hm : m_write_24 N  k y1 S = some (r, S')) : W p l e { frames := 5, cells := 0, slots := 0, locals := 113 } s m args below meth c H locs 0 0 (MQ below (CQ D vwCl b0 (some (.int r)) (rH dA h S' hp0) sz) args s 0 0 (fun q => b0 ≤ q)) (F0 m 24 ls []) := w_write_24i  B hR k _ S ls H locs hl I hm
def m_write (N : Nat) (S : rS) : Option (Int32 × rS) :=
  b1 (rP S 0 0) (fun S1 => b1 (rP S1 29 0) (fun S3 => b1 (rL S3 6 (260 * (S3.1 5))) (fun x5 => m_write_24 N  N x5 S3)))
set_option maxRecDepth 100000 in
set_option maxHeartbeats 4000000 in
theorem c_write {S S' : rS} {r : Int32} (hR : RR b0 h Z) (hm : m_write N  S = some (r, S')) : Ct l D vwCl (tyL dA) b0 Z y_write (.code y_write cb_write 2 (some .int) :: wsA) 5 113 [.ref h] (rH dA h S hp0) sz (some (.int r)) (rH dA h S' hp0) 0 0 := by
  refine ct_of (cc := cb_write) (maxL := 2) (ret := (some .int)) (lo0 := [some (.ref h), none]) hR.2 (by decide) rfl (by simp [lg_sl, Value.category]) rfl (by simp [lx_all, lv_args, Value.category]) ?_
  intro p e s m args below meth c ls B hnm hl I
  obtain ⟨hx, hb, -⟩ := B.1
  unfold m_write at hm
  refine lv_aload_n (pc := 0) (i := 0) hx hb d_write_0 rfl (lx_get hl rfl) ?_
  refine lv_iconst (pc := 1) (v := 0) hx hb d_write_1 (by decide) ?_
  refine ob1 hm (fun S1 e2 hm => ?_)
  refine r_put (pc := 2) (k := 0) (index := 67) B hR I (by decide) mF_67 rfl rfl rfl (fun _ _ => rfl) e2 d_write_2 (fun H locs I => ?_)
  refine lv_aload_n (pc := 5) (i := 0) hx hb d_write_5 rfl (lx_get hl rfl) ?_
  refine lv_iconst (pc := 6) (v := 0) hx hb d_write_6 (by decide) ?_
  refine ob1 hm (fun S3 e4 hm => ?_)
  refine r_put (pc := 7) (k := 29) (index := 219) B hR I (by decide) mF_219 rfl rfl rfl (fun _ _ => rfl) e4 d_write_7 (fun H locs I => ?_)
  refine lv_aload_n (pc := 10) (i := 0) hx hb d_write_10 rfl (lx_get hl rfl) ?_
  refine r_get (pc := 11) (k := 10) (index := 25) B I (by decide) mF_25 rfl rfl d_write_11 ?_
  refine lv_sipush (pc := 14) (v := 260) hx hb d_write_14 (by decide) ?_
  refine lv_aload_n (pc := 17) (i := 0) hx hb d_write_17 rfl (lx_get hl rfl) ?_
  refine r_get (pc := 18) (k := 5) (index := 210) B I (by decide) mF_210 rfl rfl d_write_18 ?_
  refine lv_imul (pc := 21) hx hb d_write_21 ?_
  refine ob1 hm (fun x5 e6 hm => ?_)
  refine r_ald (pc := 22) (j := 6) B I (by decide) (by decide) e6 d_write_22 ?_
  refine q_istore_n (pc := 23) (i := 1) (lo' := [some (.ref h), some (.int x5)]) hx hb d_write_23 rfl hl (Nat.le_of_ble_eq_true rfl) (lx_cr rfl) rfl (fun ls hl => ?_)
  exact w_write_24  B hR hl I hm
end RW
