section RW
variable {p : Program} {l : Launch} {e : Env} {s : State} {m : MethodId} {args : Array Value} {below : List Frame} {meth : Method} {c : Code} {H : Heap} {locs : List Loc}
variable {ls : Array Slot} {D : va_G} {dA : Nat → ClassId} {hp0 : aH} {sz b0 h N : Nat} {S' : rS} {r : Int32} {Z : State → Prop}
def m_thrown (N : Nat) (S : rS) : Option Int32 :=
  some (S.1 0)
set_option maxRecDepth 100000 in
set_option maxHeartbeats 4000000 in
theorem c_thrown {S : rS} {r : Int32} (hR : RR b0 h Z) (hm : m_thrown N  S = some r) : Ct l D vwCl (tyL dA) b0 Z y_thrown (.code y_thrown cb_thrown 1 (some .int) :: wsA) 0 0 [.ref h] (rH dA h S hp0) sz (some (.int r)) (rH dA h S hp0) 0 0 := by
  refine ct_of (cc := cb_thrown) (maxL := 1) (ret := (some .int)) (lo0 := [some (.ref h)]) hR.2 (by decide) rfl (by simp [lg_sl, Value.category]) rfl (by simp [lx_all, lv_args, Value.category]) ?_
  intro p e s m args below meth c ls B hnm hl I
  obtain ⟨hx, hb, -⟩ := B.1
  unfold m_thrown at hm
  refine lv_aload_n (pc := 0) (i := 0) hx hb d_thrown_0 rfl (lx_get hl rfl) ?_
  refine r_get (pc := 1) (k := 0) (index := 67) B I (by decide) mF_67 rfl rfl d_thrown_1 ?_
  cases hm
  exact q_iret (pc := 4) B I rfl d_thrown_4
def m_type_72 (N : Nat) (K21 : Int64 → Int32 → Int32 → Int32 → rS → Option (Int32 × rS)) (y1 : Int64) (y3 : Int32) (y5 : Int32) (z0 : Int32) (S : rS) : Option (Int32 × rS) :=
  K21 y1 y3 z0 (y5 + 1) S
set_option maxRecDepth 100000 in
set_option maxHeartbeats 4000000 in
theorem w_type_72 {K21 : Int64 → Int32 → Int32 → Int32 → rS → Option (Int32 × rS)} {y1 : Int64} {y3 : Int32} {y5 : Int32} {z0 : Int32} {S : rS} (hK21 : ∀ (y1 : Int64) (y3 : Int32) (y4 : Int32) (y5 : Int32) (S : rS) (ls : Array Slot) (H : Heap) (locs : List Loc), lx ls [some (.ref h), some (.long y1), none, some (.int y3), some (.int y4), some (.int y5), none] → AI D vwCl b0 (rH dA h S hp0) sz s.heap H locs → K21 y1 y3 y4 y5 S = some (r, S') → W p l e { frames := 0, cells := 0, slots := 0, locals := 0 } s m args below meth c H locs 0 0 (MQ below (CQ D vwCl b0 (some (.int r)) (rH dA h S' hp0) sz) args s 0 0 (fun q => b0 ≤ q)) (F0 m 21 ls [])) (B : BX p m c cb_type 7 s args (.code y_type cb_type 7 (some .int) :: wsA) RREF meth (some .int) D vwCl (tyL dA) b0 Z) (hR : RR b0 h Z) (hl : lx ls [some (.ref h), some (.long y1), none, some (.int y3), none, some (.int y5), none]) (I : AI D vwCl b0 (rH dA h S hp0) sz s.heap H locs)  (hm : m_type_72 N K21 y1 y3 y5 z0 S = some (r, S')) : W p l e { frames := 0, cells := 0, slots := 0, locals := 0 } s m args below meth c H locs 0 0 (MQ below (CQ D vwCl b0 (some (.int r)) (rH dA h S' hp0) sz) args s 0 0 (fun q => b0 ≤ q)) (F0 m 72 ls [.int z0]) := by
  obtain ⟨hx, hb, -⟩ := B.1
  unfold m_type_72 at hm
  refine q_istore (pc := 72) (i := 4) (lo' := [some (.ref h), some (.long y1), none, some (.int y3), some (.int z0), some (.int y5), none]) hx hb d_type_72 hl (Nat.le_of_ble_eq_true rfl) (lx_ci rfl) rfl (fun ls hl => ?_)
  refine q_iinc (pc := 74) (i := 5) (v := y5 + 1) (lo' := [some (.ref h), some (.long y1), none, some (.int y3), some (.int z0), some (.int (y5 + 1)), none]) hx hb d_type_74 hl rfl rfl (Nat.le_of_ble_eq_true rfl) (lx_ci rfl) rfl (fun ls hl => ?_)
  refine lv_goto (pc := 77) (tgt := 21) hx hb d_type_77 (by decide) ?_
  exact hK21 _ _ _ _ _ _ _ _ hl I hm
def m_type_67 (N : Nat) (K21 : Int64 → Int32 → Int32 → Int32 → rS → Option (Int32 × rS)) (y1 : Int64) (y3 : Int32) (y5 : Int32) (S : rS) : Option (Int32 × rS) :=
  m_type_72 N K21 y1 y3 y5 1 S
set_option maxRecDepth 100000 in
set_option maxHeartbeats 4000000 in
theorem w_type_67 {K21 : Int64 → Int32 → Int32 → Int32 → rS → Option (Int32 × rS)} {y1 : Int64} {y3 : Int32} {y5 : Int32} {S : rS} (hK21 : ∀ (y1 : Int64) (y3 : Int32) (y4 : Int32) (y5 : Int32) (S : rS) (ls : Array Slot) (H : Heap) (locs : List Loc), lx ls [some (.ref h), some (.long y1), none, some (.int y3), some (.int y4), some (.int y5), none] → AI D vwCl b0 (rH dA h S hp0) sz s.heap H locs → K21 y1 y3 y4 y5 S = some (r, S') → W p l e { frames := 0, cells := 0, slots := 0, locals := 0 } s m args below meth c H locs 0 0 (MQ below (CQ D vwCl b0 (some (.int r)) (rH dA h S' hp0) sz) args s 0 0 (fun q => b0 ≤ q)) (F0 m 21 ls [])) (B : BX p m c cb_type 7 s args (.code y_type cb_type 7 (some .int) :: wsA) RREF meth (some .int) D vwCl (tyL dA) b0 Z) (hR : RR b0 h Z) (hl : lx ls [some (.ref h), some (.long y1), none, some (.int y3), none, some (.int y5), none]) (I : AI D vwCl b0 (rH dA h S hp0) sz s.heap H locs)  (hm : m_type_67 N K21 y1 y3 y5 S = some (r, S')) : W p l e { frames := 0, cells := 0, slots := 0, locals := 0 } s m args below meth c H locs 0 0 (MQ below (CQ D vwCl b0 (some (.int r)) (rH dA h S' hp0) sz) args s 0 0 (fun q => b0 ≤ q)) (F0 m 67 ls []) := by
  obtain ⟨hx, hb, -⟩ := B.1
  unfold m_type_67 at hm
  refine lv_iconst (pc := 67) (v := 1) hx hb d_type_67 (by decide) ?_
  refine lv_goto (pc := 68) (tgt := 72) hx hb d_type_68 (by decide) ?_
  exact w_type_72 hK21 B hR hl I hm
def m_type_71 (N : Nat) (K21 : Int64 → Int32 → Int32 → Int32 → rS → Option (Int32 × rS)) (y1 : Int64) (y3 : Int32) (y5 : Int32) (S : rS) : Option (Int32 × rS) :=
  m_type_72 N K21 y1 y3 y5 0 S
set_option maxRecDepth 100000 in
set_option maxHeartbeats 4000000 in
theorem w_type_71 {K21 : Int64 → Int32 → Int32 → Int32 → rS → Option (Int32 × rS)} {y1 : Int64} {y3 : Int32} {y5 : Int32} {S : rS} (hK21 : ∀ (y1 : Int64) (y3 : Int32) (y4 : Int32) (y5 : Int32) (S : rS) (ls : Array Slot) (H : Heap) (locs : List Loc), lx ls [some (.ref h), some (.long y1), none, some (.int y3), some (.int y4), some (.int y5), none] → AI D vwCl b0 (rH dA h S hp0) sz s.heap H locs → K21 y1 y3 y4 y5 S = some (r, S') → W p l e { frames := 0, cells := 0, slots := 0, locals := 0 } s m args below meth c H locs 0 0 (MQ below (CQ D vwCl b0 (some (.int r)) (rH dA h S' hp0) sz) args s 0 0 (fun q => b0 ≤ q)) (F0 m 21 ls [])) (B : BX p m c cb_type 7 s args (.code y_type cb_type 7 (some .int) :: wsA) RREF meth (some .int) D vwCl (tyL dA) b0 Z) (hR : RR b0 h Z) (hl : lx ls [some (.ref h), some (.long y1), none, some (.int y3), none, some (.int y5), none]) (I : AI D vwCl b0 (rH dA h S hp0) sz s.heap H locs)  (hm : m_type_71 N K21 y1 y3 y5 S = some (r, S')) : W p l e { frames := 0, cells := 0, slots := 0, locals := 0 } s m args below meth c H locs 0 0 (MQ below (CQ D vwCl b0 (some (.int r)) (rH dA h S' hp0) sz) args s 0 0 (fun q => b0 ≤ q)) (F0 m 71 ls []) := by
  obtain ⟨hx, hb, -⟩ := B.1
  unfold m_type_71 at hm
  refine lv_iconst (pc := 71) (v := 0) hx hb d_type_71 (by decide) ?_
  exact w_type_72 hK21 B hR hl I hm
def m_type_124F (N : Nat) (K124 : Int64 → Int32 → rS → Option (Int32 × rS)) (y1 : Int64) (y5 : Int32) (S : rS) : Option (Int32 × rS) :=
  if y5 < 0 then (some (S.1 1, S)) else (b1 (rT S 1 (S.1 1) (((y1 >>> ((8 * y5).toInt64 &&& 63)) &&& 255).toInt32)) (fun S1 => b1 (rP S1 1 ((S1.1 1) + 1)) (fun S3 => K124 y1 (y5 + (-1)) S3)))
def m_type_124 (N : Nat) : Nat → Int64 → Int32 → rS → Option (Int32 × rS)
  | 0, _, _, _ => none
  | k + 1, y1, y5, S => m_type_124F N  (m_type_124 N  k) y1 y5 S
set_option maxRecDepth 100000 in
set_option maxHeartbeats 4000000 in
theorem w_type_124F {K124 : Int64 → Int32 → rS → Option (Int32 × rS)} {y1 : Int64} {y5 : Int32} {S : rS} (hK124 : ∀ (y1 : Int64) (y5 : Int32) (S : rS) (ls : Array Slot) (H : Heap) (locs : List Loc), lx ls [some (.ref h), some (.long y1), none, none, none, some (.int y5), none] → AI D vwCl b0 (rH dA h S hp0) sz s.heap H locs → K124 y1 y5 S = some (r, S') → W p l e { frames := 0, cells := 0, slots := 0, locals := 0 } s m args below meth c H locs 0 0 (MQ below (CQ D vwCl b0 (some (.int r)) (rH dA h S' hp0) sz) args s 0 0 (fun q => b0 ≤ q)) (F0 m 124 ls [])) (B : BX p m c cb_type 7 s args (.code y_type cb_type 7 (some .int) :: wsA) RREF meth (some .int) D vwCl (tyL dA) b0 Z) (hR : RR b0 h Z) (hl : lx ls [some (.ref h), some (.long y1), none, none, none, some (.int y5), none]) (I : AI D vwCl b0 (rH dA h S hp0) sz s.heap H locs)  (hm : m_type_124F N  K124 y1 y5 S = some (r, S')) : W p l e { frames := 0, cells := 0, slots := 0, locals := 0 } s m args below meth c H locs 0 0 (MQ below (CQ D vwCl b0 (some (.int r)) (rH dA h S' hp0) sz) args s 0 0 (fun q => b0 ≤ q)) (F0 m 124 ls []) := by
  obtain ⟨hx, hb, -⟩ := B.1
  unfold m_type_124F at hm
  refine lv_iload (pc := 124) (i := 5) hx hb d_type_124 (lx_get hl rfl) ?_
  refine lv_if_lt (pc := 126) (tgt := 166) hx hb d_type_126 (by decide) (fun hc => ?_) (fun hc => ?_)
  · have hm := ift hc hm
    refine lv_aload_n (pc := 166) (i := 0) hx hb d_type_166 rfl (lx_get hl rfl) ?_
    refine r_get (pc := 167) (k := 1) (index := 73) B I (by decide) mF_73 rfl rfl d_type_167 ?_
    cases hm
    exact q_iret (pc := 170) B I rfl d_type_170
  · have hm := iff' hc hm
    refine lv_aload_n (pc := 129) (i := 0) hx hb d_type_129 rfl (lx_get hl rfl) ?_
    refine r_get (pc := 130) (k := 2) (index := 7) B I (by decide) mF_7 rfl rfl d_type_130 ?_
    refine lv_aload_n (pc := 133) (i := 0) hx hb d_type_133 rfl (lx_get hl rfl) ?_
    refine r_get (pc := 134) (k := 1) (index := 73) B I (by decide) mF_73 rfl rfl d_type_134 ?_
    refine lv_lload_n (pc := 137) (i := 1) hx hb d_type_137 rfl (lx_get hl rfl) ?_
    refine lv_bipush (pc := 138) (v := 8) hx hb d_type_138 (by decide) ?_
    refine lv_iload (pc := 140) (i := 5) hx hb d_type_140 (lx_get hl rfl) ?_
    refine lv_imul (pc := 142) hx hb d_type_142 ?_
    refine lv_lshr (pc := 143) hx hb d_type_143 rfl ?_
    refine lv_ldc2 (pc := 144) (v := 255) hx hb B.1.2.2.2.1 (B.1.2.2.2.2 _ (List.mem_cons_of_mem _ mL_71)) d_type_144 ?_
    refine lv_land (pc := 147) hx hb d_type_147 ?_
    refine lv_l2i (pc := 148) hx hb d_type_148 rfl ?_
    refine ob1 hm (fun S1 e2 hm => ?_)
    refine r_ast (pc := 149) (j := 1) B hR I (by decide) (by decide) e2 d_type_149 (fun H locs I => ?_)
    refine lv_aload_n (pc := 150) (i := 0) hx hb d_type_150 rfl (lx_get hl rfl) ?_
    refine lv_dup (pc := 151) hx hb d_type_151 rfl ?_
    refine r_get (pc := 152) (k := 1) (index := 73) B I (by decide) mF_73 rfl rfl d_type_152 ?_
    refine lv_iconst (pc := 155) (v := 1) hx hb d_type_155 (by decide) ?_
    refine lv_iadd (pc := 156) hx hb d_type_156 ?_
    refine ob1 hm (fun S3 e4 hm => ?_)
    refine r_put (pc := 157) (k := 1) (index := 73) B hR I (by decide) mF_73 rfl rfl rfl (fun _ _ => rfl) e4 d_type_157 (fun H locs I => ?_)
    refine q_iinc (pc := 160) (i := 5) (v := y5 + (-1)) (lo' := [some (.ref h), some (.long y1), none, none, none, some (.int (y5 + (-1))), none]) hx hb d_type_160 hl rfl rfl (Nat.le_of_ble_eq_true rfl) (lx_cn rfl) rfl (fun ls hl => ?_)
    refine lv_goto (pc := 163) (tgt := 124) hx hb d_type_163 (by decide) ?_
    exact hK124 _ _ _ _ _ _ hl I hm
set_option maxRecDepth 100000 in
set_option maxHeartbeats 4000000 in
theorem w_type_124i (B : BX p m c cb_type 7 s args (.code y_type cb_type 7 (some .int) :: wsA) RREF meth (some .int) D vwCl (tyL dA) b0 Z) (hR : RR b0 h Z) (k : Nat) (y1 : Int64) (y5 : Int32) (S : rS) (ls : Array Slot) (H : Heap) (locs : List Loc) (hl : lx ls [some (.ref h), some (.long y1), none, none, none, some (.int y5), none]) (I : AI D vwCl b0 (rH dA h S hp0) sz s.heap H locs)  (hm : m_type_124 N  k y1 y5 S = some (r, S')) : W p l e { frames := 0, cells := 0, slots := 0, locals := 0 } s m args below meth c H locs 0 0 (MQ below (CQ D vwCl b0 (some (.int r)) (rH dA h S' hp0) sz) args s 0 0 (fun q => b0 ≤ q)) (F0 m 124 ls []) := by
  induction k generalizing y1 y5 S ls H locs with
  | zero => cases hm
  | succ k ih => exact w_type_124F  (fun y1 y5 S ls H locs hl I hm => ih y1 y5 S ls H locs hl I hm) B hR hl I hm
theorem w_type_124 {y1 : Int64} {y5 : Int32} {S : rS} (B : BX p m c cb_type 7 s args (.code y_type cb_type 7 (some .int) :: wsA) RREF meth (some .int) D vwCl (tyL dA) b0 Z) (hR : RR b0 h Z) (hl : lx ls [some (.ref h), some (.long y1), none, none, none, some (.int y5), none]) (I : AI D vwCl b0 (rH dA h S hp0) sz s.heap H locs)  {k : Nat} (hm : m_type_124 N  k y1 y5 S = some (r, S')) : W p l e { frames := 0, cells := 0, slots := 0, locals := 0 } s m args below meth c H locs 0 0 (MQ below (CQ D vwCl b0 (some (.int r)) (rH dA h S' hp0) sz) args s 0 0 (fun q => b0 ≤ q)) (F0 m 124 ls []) := w_type_124i  B hR k _ _ S ls H locs hl I hm
def m_type_107 (N : Nat) (y1 : Int64) (y3 : Int32) (z1 : Int32) (S : rS) : Option (Int32 × rS) :=
  b1 (rP S 0 z1) (fun S1 => if S1.1 0 = 0 then (m_type_124 N  N y1 (y3 - 1) S1) else (some (0, S1)))
set_option maxRecDepth 100000 in
set_option maxHeartbeats 4000000 in
theorem w_type_107 {y1 : Int64} {y3 : Int32} {z1 : Int32} {S : rS} (B : BX p m c cb_type 7 s args (.code y_type cb_type 7 (some .int) :: wsA) RREF meth (some .int) D vwCl (tyL dA) b0 Z) (hR : RR b0 h Z) (hl : lx ls [some (.ref h), some (.long y1), none, some (.int y3), none, none, none]) (I : AI D vwCl b0 (rH dA h S hp0) sz s.heap H locs)  (hm : m_type_107 N  y1 y3 z1 S = some (r, S')) : W p l e { frames := 0, cells := 0, slots := 0, locals := 0 } s m args below meth c H locs 0 0 (MQ below (CQ D vwCl b0 (some (.int r)) (rH dA h S' hp0) sz) args s 0 0 (fun q => b0 ≤ q)) (F0 m 107 ls [.int z1, .ref h]) := by
  obtain ⟨hx, hb, -⟩ := B.1
  unfold m_type_107 at hm
  refine ob1 hm (fun S1 e2 hm => ?_)
  refine r_put (pc := 107) (k := 0) (index := 67) B hR I (by decide) mF_67 rfl rfl rfl (fun _ _ => rfl) e2 d_type_107 (fun H locs I => ?_)
  refine lv_aload_n (pc := 110) (i := 0) hx hb d_type_110 rfl (lx_get hl rfl) ?_
  refine r_get (pc := 111) (k := 0) (index := 67) B I (by decide) mF_67 rfl rfl d_type_111 ?_
  refine lv_if_eq (pc := 114) (tgt := 119) hx hb d_type_114 (by decide) (fun hc => ?_) (fun hc => ?_)
  · have hm := ift hc hm
    refine lv_iload_n (pc := 119) (i := 3) hx hb d_type_119 rfl (lx_get hl rfl) ?_
    refine lv_iconst (pc := 120) (v := 1) hx hb d_type_120 (by decide) ?_
    refine lv_isub (pc := 121) hx hb d_type_121 ?_
    refine q_istore (pc := 122) (i := 5) (lo' := [some (.ref h), some (.long y1), none, some (.int y3), none, some (.int (y3 - 1)), none]) hx hb d_type_122 hl (Nat.le_of_ble_eq_true rfl) (lx_cn rfl) rfl (fun ls hl => ?_)
    exact w_type_124  B hR (lx_sub (lo' := [some (.ref h), some (.long y1), none, none, none, some (.int (y3 - 1)), none]) hl (by simp [lx_le])) I hm
  · have hm := iff' hc hm
    refine lv_iconst (pc := 117) (v := 0) hx hb d_type_117 (by decide) ?_
    cases hm
    exact q_iret (pc := 118) B I rfl d_type_118
def m_type_80 (N : Nat) (y1 : Int64) (y3 : Int32) (y4 : Int32) (S : rS) : Option (Int32 × rS) :=
  if y4 = 0 then (if (S.1 1) + y3 ≤ 240 then (m_type_107 N  y1 y3 0 S) else (m_type_107 N  y1 y3 2 S)) else (m_type_107 N  y1 y3 1 S)
set_option maxRecDepth 100000 in
set_option maxHeartbeats 4000000 in
theorem w_type_80 {y1 : Int64} {y3 : Int32} {y4 : Int32} {S : rS} (B : BX p m c cb_type 7 s args (.code y_type cb_type 7 (some .int) :: wsA) RREF meth (some .int) D vwCl (tyL dA) b0 Z) (hR : RR b0 h Z) (hl : lx ls [some (.ref h), some (.long y1), none, some (.int y3), some (.int y4), none, none]) (I : AI D vwCl b0 (rH dA h S hp0) sz s.heap H locs)  (hm : m_type_80 N  y1 y3 y4 S = some (r, S')) : W p l e { frames := 0, cells := 0, slots := 0, locals := 0 } s m args below meth c H locs 0 0 (MQ below (CQ D vwCl b0 (some (.int r)) (rH dA h S' hp0) sz) args s 0 0 (fun q => b0 ≤ q)) (F0 m 80 ls []) := by
  obtain ⟨hx, hb, -⟩ := B.1
  unfold m_type_80 at hm
  refine lv_aload_n (pc := 80) (i := 0) hx hb d_type_80 rfl (lx_get hl rfl) ?_
  refine lv_iload (pc := 81) (i := 4) hx hb d_type_81 (lx_get hl rfl) ?_
  refine lv_if_eq (pc := 83) (tgt := 90) hx hb d_type_83 (by decide) (fun hc => ?_) (fun hc => ?_)
  · have hm := ift hc hm
    refine lv_aload_n (pc := 90) (i := 0) hx hb d_type_90 rfl (lx_get hl rfl) ?_
    refine r_get (pc := 91) (k := 1) (index := 73) B I (by decide) mF_73 rfl rfl d_type_91 ?_
    refine lv_iload_n (pc := 94) (i := 3) hx hb d_type_94 rfl (lx_get hl rfl) ?_
    refine lv_iadd (pc := 95) hx hb d_type_95 ?_
    refine lv_sipush (pc := 96) (v := 240) hx hb d_type_96 (by decide) ?_
    refine lv_icmp_le (pc := 99) (tgt := 106) hx hb d_type_99 (by decide) (fun hc => ?_) (fun hc => ?_)
    · have hm := ift hc hm
      refine lv_iconst (pc := 106) (v := 0) hx hb d_type_106 (by decide) ?_
      exact w_type_107  B hR (lx_sub (lo' := [some (.ref h), some (.long y1), none, some (.int y3), none, none, none]) hl (by simp [lx_le])) I hm
    · have hm := iff' hc hm
      refine lv_iconst (pc := 102) (v := 2) hx hb d_type_102 (by decide) ?_
      refine lv_goto (pc := 103) (tgt := 107) hx hb d_type_103 (by decide) ?_
      exact w_type_107  B hR (lx_sub (lo' := [some (.ref h), some (.long y1), none, some (.int y3), none, none, none]) hl (by simp [lx_le])) I hm
  · have hm := iff' hc hm
    refine lv_iconst (pc := 86) (v := 1) hx hb d_type_86 (by decide) ?_
    refine lv_goto (pc := 87) (tgt := 107) hx hb d_type_87 (by decide) ?_
    exact w_type_107  B hR (lx_sub (lo' := [some (.ref h), some (.long y1), none, some (.int y3), none, none, none]) hl (by simp [lx_le])) I hm
def m_type_21F (N : Nat) (K21 : Int64 → Int32 → Int32 → Int32 → rS → Option (Int32 × rS)) (y1 : Int64) (y3 : Int32) (y4 : Int32) (y5 : Int32) (S : rS) : Option (Int32 × rS) :=
  if y3 ≤ y5 then (m_type_80 N  y1 y3 y4 S) else (if y4 = 0 then (if ((y1 >>> ((8 * y5).toInt64 &&& 63)) &&& 255).toInt32 = 10 then (m_type_71 N K21 y1 y3 y5 S) else (if ((y1 >>> ((8 * y5).toInt64 &&& 63)) &&& 255).toInt32 < 32 then (m_type_67 N K21 y1 y3 y5 S) else (if ((y1 >>> ((8 * y5).toInt64 &&& 63)) &&& 255).toInt32 ≤ 126 then (m_type_71 N K21 y1 y3 y5 S) else (m_type_67 N K21 y1 y3 y5 S)))) else (m_type_80 N  y1 y3 y4 S))
def m_type_21 (N : Nat) : Nat → Int64 → Int32 → Int32 → Int32 → rS → Option (Int32 × rS)
  | 0, _, _, _, _, _ => none
  | k + 1, y1, y3, y4, y5, S => m_type_21F N  (m_type_21 N  k) y1 y3 y4 y5 S
set_option maxRecDepth 100000 in
set_option maxHeartbeats 4000000 in
theorem w_type_21F {K21 : Int64 → Int32 → Int32 → Int32 → rS → Option (Int32 × rS)} {y1 : Int64} {y3 : Int32} {y4 : Int32} {y5 : Int32} {S : rS} (hK21 : ∀ (y1 : Int64) (y3 : Int32) (y4 : Int32) (y5 : Int32) (S : rS) (ls : Array Slot) (H : Heap) (locs : List Loc), lx ls [some (.ref h), some (.long y1), none, some (.int y3), some (.int y4), some (.int y5), none] → AI D vwCl b0 (rH dA h S hp0) sz s.heap H locs → K21 y1 y3 y4 y5 S = some (r, S') → W p l e { frames := 0, cells := 0, slots := 0, locals := 0 } s m args below meth c H locs 0 0 (MQ below (CQ D vwCl b0 (some (.int r)) (rH dA h S' hp0) sz) args s 0 0 (fun q => b0 ≤ q)) (F0 m 21 ls [])) (B : BX p m c cb_type 7 s args (.code y_type cb_type 7 (some .int) :: wsA) RREF meth (some .int) D vwCl (tyL dA) b0 Z) (hR : RR b0 h Z) (hl : lx ls [some (.ref h), some (.long y1), none, some (.int y3), some (.int y4), some (.int y5), none]) (I : AI D vwCl b0 (rH dA h S hp0) sz s.heap H locs)  (hm : m_type_21F N  K21 y1 y3 y4 y5 S = some (r, S')) : W p l e { frames := 0, cells := 0, slots := 0, locals := 0 } s m args below meth c H locs 0 0 (MQ below (CQ D vwCl b0 (some (.int r)) (rH dA h S' hp0) sz) args s 0 0 (fun q => b0 ≤ q)) (F0 m 21 ls []) := by
  obtain ⟨hx, hb, -⟩ := B.1
  unfold m_type_21F at hm
  refine lv_iload (pc := 21) (i := 5) hx hb d_type_21 (lx_get hl rfl) ?_
  refine lv_iload_n (pc := 23) (i := 3) hx hb d_type_23 rfl (lx_get hl rfl) ?_
  refine lv_icmp_ge (pc := 24) (tgt := 80) hx hb d_type_24 (by decide) (fun hc => ?_) (fun hc => ?_)
  · have hm := ift hc hm
    exact w_type_80  B hR (lx_sub (lo' := [some (.ref h), some (.long y1), none, some (.int y3), some (.int y4), none, none]) hl (by simp [lx_le])) I hm
  · have hm := iff' hc hm
    refine lv_iload (pc := 27) (i := 4) hx hb d_type_27 (lx_get hl rfl) ?_
    refine lv_if_ne (pc := 29) (tgt := 80) hx hb d_type_29 (by decide) (fun hc => ?_) (fun hc => ?_)
    · have hm := iff' hc hm
      exact w_type_80  B hR (lx_sub (lo' := [some (.ref h), some (.long y1), none, some (.int y3), some (.int y4), none, none]) hl (by simp [lx_le])) I hm
    · have hm := ift hc hm
      refine lv_lload_n (pc := 32) (i := 1) hx hb d_type_32 rfl (lx_get hl rfl) ?_
      refine lv_bipush (pc := 33) (v := 8) hx hb d_type_33 (by decide) ?_
      refine lv_iload (pc := 35) (i := 5) hx hb d_type_35 (lx_get hl rfl) ?_
      refine lv_imul (pc := 37) hx hb d_type_37 ?_
      refine lv_lshr (pc := 38) hx hb d_type_38 rfl ?_
      refine lv_ldc2 (pc := 39) (v := 255) hx hb B.1.2.2.2.1 (B.1.2.2.2.2 _ (List.mem_cons_of_mem _ mL_71)) d_type_39 ?_
      refine lv_land (pc := 42) hx hb d_type_42 ?_
      refine lv_l2i (pc := 43) hx hb d_type_43 rfl ?_
      refine q_istore (pc := 44) (i := 6) (lo' := [some (.ref h), some (.long y1), none, some (.int y3), some (.int y4), some (.int y5), some (.int (((y1 >>> ((8 * y5).toInt64 &&& 63)) &&& 255).toInt32))]) hx hb d_type_44 hl (Nat.le_of_ble_eq_true rfl) (lx_ci rfl) rfl (fun ls hl => ?_)
      refine lv_iload (pc := 46) (i := 6) hx hb d_type_46 (lx_get hl rfl) ?_
      refine lv_bipush (pc := 48) (v := 10) hx hb d_type_48 (by decide) ?_
      refine lv_icmp_eq (pc := 50) (tgt := 71) hx hb d_type_50 (by decide) (fun hc => ?_) (fun hc => ?_)
      · have hm := ift hc hm
        exact w_type_71 hK21 B hR (lx_sub (lo' := [some (.ref h), some (.long y1), none, some (.int y3), none, some (.int y5), none]) hl (by simp [lx_le])) I hm
      · have hm := iff' hc hm
        refine lv_iload (pc := 53) (i := 6) hx hb d_type_53 (lx_get hl rfl) ?_
        refine lv_bipush (pc := 55) (v := 32) hx hb d_type_55 (by decide) ?_
        refine lv_icmp_lt (pc := 57) (tgt := 67) hx hb d_type_57 (by decide) (fun hc => ?_) (fun hc => ?_)
        · have hm := ift hc hm
          exact w_type_67 hK21 B hR (lx_sub (lo' := [some (.ref h), some (.long y1), none, some (.int y3), none, some (.int y5), none]) hl (by simp [lx_le])) I hm
        · have hm := iff' hc hm
          refine lv_iload (pc := 60) (i := 6) hx hb d_type_60 (lx_get hl rfl) ?_
          refine lv_bipush (pc := 62) (v := 126) hx hb d_type_62 (by decide) ?_
          refine lv_icmp_le (pc := 64) (tgt := 71) hx hb d_type_64 (by decide) (fun hc => ?_) (fun hc => ?_)
          · have hm := ift hc hm
            exact w_type_71 hK21 B hR (lx_sub (lo' := [some (.ref h), some (.long y1), none, some (.int y3), none, some (.int y5), none]) hl (by simp [lx_le])) I hm
          · have hm := iff' hc hm
            exact w_type_67 hK21 B hR (lx_sub (lo' := [some (.ref h), some (.long y1), none, some (.int y3), none, some (.int y5), none]) hl (by simp [lx_le])) I hm
set_option maxRecDepth 100000 in
set_option maxHeartbeats 4000000 in
theorem w_type_21i (B : BX p m c cb_type 7 s args (.code y_type cb_type 7 (some .int) :: wsA) RREF meth (some .int) D vwCl (tyL dA) b0 Z) (hR : RR b0 h Z) (k : Nat) (y1 : Int64) (y3 : Int32) (y4 : Int32) (y5 : Int32) (S : rS) (ls : Array Slot) (H : Heap) (locs : List Loc) (hl : lx ls [some (.ref h), some (.long y1), none, some (.int y3), some (.int y4), some (.int y5), none]) (I : AI D vwCl b0 (rH dA h S hp0) sz s.heap H locs)  (hm : m_type_21 N  k y1 y3 y4 y5 S = some (r, S')) : W p l e { frames := 0, cells := 0, slots := 0, locals := 0 } s m args below meth c H locs 0 0 (MQ below (CQ D vwCl b0 (some (.int r)) (rH dA h S' hp0) sz) args s 0 0 (fun q => b0 ≤ q)) (F0 m 21 ls []) := by
  induction k generalizing y1 y3 y4 y5 S ls H locs with
  | zero => cases hm
  | succ k ih => exact w_type_21F  (fun y1 y3 y4 y5 S ls H locs hl I hm => ih y1 y3 y4 y5 S ls H locs hl I hm) B hR hl I hm
theorem w_type_21 {y1 : Int64} {y3 : Int32} {y4 : Int32} {y5 : Int32} {S : rS} (B : BX p m c cb_type 7 s args (.code y_type cb_type 7 (some .int) :: wsA) RREF meth (some .int) D vwCl (tyL dA) b0 Z) (hR : RR b0 h Z) (hl : lx ls [some (.ref h), some (.long y1), none, some (.int y3), some (.int y4), some (.int y5), none]) (I : AI D vwCl b0 (rH dA h S hp0) sz s.heap H locs)  {k : Nat} (hm : m_type_21 N  k y1 y3 y4 y5 S = some (r, S')) : W p l e { frames := 0, cells := 0, slots := 0, locals := 0 } s m args below meth c H locs 0 0 (MQ below (CQ D vwCl b0 (some (.int r)) (rH dA h S' hp0) sz) args s 0 0 (fun q => b0 ≤ q)) (F0 m 21 ls []) := w_type_21i  B hR k _ _ _ _ S ls H locs hl I hm
def m_type_16 (N : Nat) (y1 : Int64) (y3 : Int32) (z0 : Int32) (S : rS) : Option (Int32 × rS) :=
  m_type_21 N  N y1 y3 z0 0 S
set_option maxRecDepth 100000 in
set_option maxHeartbeats 4000000 in
theorem w_type_16 {y1 : Int64} {y3 : Int32} {z0 : Int32} {S : rS} (B : BX p m c cb_type 7 s args (.code y_type cb_type 7 (some .int) :: wsA) RREF meth (some .int) D vwCl (tyL dA) b0 Z) (hR : RR b0 h Z) (hl : lx ls [some (.ref h), some (.long y1), none, some (.int y3), none, none, none]) (I : AI D vwCl b0 (rH dA h S hp0) sz s.heap H locs)  (hm : m_type_16 N  y1 y3 z0 S = some (r, S')) : W p l e { frames := 0, cells := 0, slots := 0, locals := 0 } s m args below meth c H locs 0 0 (MQ below (CQ D vwCl b0 (some (.int r)) (rH dA h S' hp0) sz) args s 0 0 (fun q => b0 ≤ q)) (F0 m 16 ls [.int z0]) := by
  obtain ⟨hx, hb, -⟩ := B.1
  unfold m_type_16 at hm
  refine q_istore (pc := 16) (i := 4) (lo' := [some (.ref h), some (.long y1), none, some (.int y3), some (.int z0), none, none]) hx hb d_type_16 hl (Nat.le_of_ble_eq_true rfl) (lx_ci rfl) rfl (fun ls hl => ?_)
  refine lv_iconst (pc := 18) (v := 0) hx hb d_type_18 (by decide) ?_
  refine q_istore (pc := 19) (i := 5) (lo' := [some (.ref h), some (.long y1), none, some (.int y3), some (.int z0), some (.int 0), none]) hx hb d_type_19 hl (Nat.le_of_ble_eq_true rfl) (lx_ci rfl) rfl (fun ls hl => ?_)
  exact w_type_21  B hR hl I hm
def m_type_11 (N : Nat) (y1 : Int64) (y3 : Int32) (S : rS) : Option (Int32 × rS) :=
  m_type_16 N  y1 y3 1 S
set_option maxRecDepth 100000 in
set_option maxHeartbeats 4000000 in
theorem w_type_11 {y1 : Int64} {y3 : Int32} {S : rS} (B : BX p m c cb_type 7 s args (.code y_type cb_type 7 (some .int) :: wsA) RREF meth (some .int) D vwCl (tyL dA) b0 Z) (hR : RR b0 h Z) (hl : lx ls [some (.ref h), some (.long y1), none, some (.int y3), none, none, none]) (I : AI D vwCl b0 (rH dA h S hp0) sz s.heap H locs)  (hm : m_type_11 N  y1 y3 S = some (r, S')) : W p l e { frames := 0, cells := 0, slots := 0, locals := 0 } s m args below meth c H locs 0 0 (MQ below (CQ D vwCl b0 (some (.int r)) (rH dA h S' hp0) sz) args s 0 0 (fun q => b0 ≤ q)) (F0 m 11 ls []) := by
  obtain ⟨hx, hb, -⟩ := B.1
  unfold m_type_11 at hm
  refine lv_iconst (pc := 11) (v := 1) hx hb d_type_11 (by decide) ?_
  refine lv_goto (pc := 12) (tgt := 16) hx hb d_type_12 (by decide) ?_
  exact w_type_16  B hR hl I hm
def m_type (N : Nat) (p1 : Int64) (p2 : Int32) (S : rS) : Option (Int32 × rS) :=
  if p2 < 1 then (m_type_11 N  p1 p2 S) else (if p2 ≤ 8 then (m_type_16 N  p1 p2 0 S) else (m_type_11 N  p1 p2 S))
set_option maxRecDepth 100000 in
set_option maxHeartbeats 4000000 in
theorem c_type {p1 : Int64} {p2 : Int32} {S S' : rS} {r : Int32} (hR : RR b0 h Z) (hm : m_type N p1 p2 S = some (r, S')) : Ct l D vwCl (tyL dA) b0 Z y_type (.code y_type cb_type 7 (some .int) :: wsA) 0 0 [.ref h, .long p1, .int p2] (rH dA h S hp0) sz (some (.int r)) (rH dA h S' hp0) 0 0 := by
  refine ct_of (cc := cb_type) (maxL := 7) (ret := (some .int)) (lo0 := [some (.ref h), some (.long p1), none, some (.int p2), none, none, none]) hR.2 (by decide) rfl (by simp [lg_sl, Value.category]) rfl (by simp [lx_all, lv_args, Value.category]) ?_
  intro p e s m args below meth c ls B hnm hl I
  obtain ⟨hx, hb, -⟩ := B.1
  unfold m_type at hm
  refine lv_iload_n (pc := 0) (i := 3) hx hb d_type_0 rfl (lx_get hl rfl) ?_
  refine lv_iconst (pc := 1) (v := 1) hx hb d_type_1 (by decide) ?_
  refine lv_icmp_lt (pc := 2) (tgt := 11) hx hb d_type_2 (by decide) (fun hc => ?_) (fun hc => ?_)
  · have hm := ift hc hm
    exact w_type_11  B hR hl I hm
  · have hm := iff' hc hm
    refine lv_iload_n (pc := 5) (i := 3) hx hb d_type_5 rfl (lx_get hl rfl) ?_
    refine lv_bipush (pc := 6) (v := 8) hx hb d_type_6 (by decide) ?_
    refine lv_icmp_le (pc := 8) (tgt := 15) hx hb d_type_8 (by decide) (fun hc => ?_) (fun hc => ?_)
    · have hm := ift hc hm
      refine lv_iconst (pc := 15) (v := 0) hx hb d_type_15 (by decide) ?_
      exact w_type_16  B hR hl I hm
    · have hm := iff' hc hm
      exact w_type_11  B hR hl I hm
def m_here (N : Nat) (S : rS) : Option Int32 :=
  if S.1 1 ≤ S.1 3 then (some 0) else (b1 (rL S 1 (S.1 3)) (fun x1 => some x1))
set_option maxRecDepth 100000 in
set_option maxHeartbeats 4000000 in
theorem c_here {S : rS} {r : Int32} (hR : RR b0 h Z) (hm : m_here N  S = some r) : Ct l D vwCl (tyL dA) b0 Z y_here (.code y_here cb_here 1 (some .int) :: wsA) 0 0 [.ref h] (rH dA h S hp0) sz (some (.int r)) (rH dA h S hp0) 0 0 := by
  refine ct_of (cc := cb_here) (maxL := 1) (ret := (some .int)) (lo0 := [some (.ref h)]) hR.2 (by decide) rfl (by simp [lg_sl, Value.category]) rfl (by simp [lx_all, lv_args, Value.category]) ?_
  intro p e s m args below meth c ls B hnm hl I
  obtain ⟨hx, hb, -⟩ := B.1
  unfold m_here at hm
  refine lv_aload_n (pc := 0) (i := 0) hx hb d_here_0 rfl (lx_get hl rfl) ?_
  refine r_get (pc := 1) (k := 3) (index := 76) B I (by decide) mF_76 rfl rfl d_here_1 ?_
  refine lv_aload_n (pc := 4) (i := 0) hx hb d_here_4 rfl (lx_get hl rfl) ?_
  refine r_get (pc := 5) (k := 1) (index := 73) B I (by decide) mF_73 rfl rfl d_here_5 ?_
  refine lv_icmp_ge (pc := 8) (tgt := 23) hx hb d_here_8 (by decide) (fun hc => ?_) (fun hc => ?_)
  · have hm := ift hc hm
    refine lv_iconst (pc := 23) (v := 0) hx hb d_here_23 (by decide) ?_
    cases hm
    exact q_iret (pc := 24) B I rfl d_here_24
  · have hm := iff' hc hm
    refine lv_aload_n (pc := 11) (i := 0) hx hb d_here_11 rfl (lx_get hl rfl) ?_
    refine r_get (pc := 12) (k := 2) (index := 7) B I (by decide) mF_7 rfl rfl d_here_12 ?_
    refine lv_aload_n (pc := 15) (i := 0) hx hb d_here_15 rfl (lx_get hl rfl) ?_
    refine r_get (pc := 16) (k := 3) (index := 76) B I (by decide) mF_76 rfl rfl d_here_16 ?_
    refine ob1 hm (fun x1 e2 hm => ?_)
    refine r_ald (pc := 19) (j := 1) B I (by decide) (by decide) e2 d_here_19 ?_
    refine lv_goto (pc := 20) (tgt := 24) hx hb d_here_20 (by decide) ?_
    cases hm
    exact q_iret (pc := 24) B I rfl d_here_24
def m_fail (N : Nat) (p1 : Int32) (S : rS) : Option (Int32 × rS) :=
  b1 (rP S 4 p1) (fun S1 => some (0, S1))
set_option maxRecDepth 100000 in
set_option maxHeartbeats 4000000 in
theorem c_fail {p1 : Int32} {S S' : rS} {r : Int32} (hR : RR b0 h Z) (hm : m_fail N p1 S = some (r, S')) : Ct l D vwCl (tyL dA) b0 Z y_fail (.code y_fail cb_fail 2 (some .boolean) :: wsA) 0 0 [.ref h, .int p1] (rH dA h S hp0) sz (some (.int r)) (rH dA h S' hp0) 0 0 := by
  refine ct_of (cc := cb_fail) (maxL := 2) (ret := (some .boolean)) (lo0 := [some (.ref h), some (.int p1)]) hR.2 (by decide) rfl (by simp [lg_sl, Value.category]) rfl (by simp [lx_all, lv_args, Value.category]) ?_
  intro p e s m args below meth c ls B hnm hl I
  obtain ⟨hx, hb, -⟩ := B.1
  unfold m_fail at hm
  refine lv_aload_n (pc := 0) (i := 0) hx hb d_fail_0 rfl (lx_get hl rfl) ?_
  refine lv_iload_n (pc := 1) (i := 1) hx hb d_fail_1 rfl (lx_get hl rfl) ?_
  refine ob1 hm (fun S1 e2 hm => ?_)
  refine r_put (pc := 2) (k := 4) (index := 79) B hR I (by decide) mF_79 rfl rfl rfl (fun _ _ => rfl) e2 d_fail_2 (fun H locs I => ?_)
  refine lv_iconst (pc := 5) (v := 0) hx hb d_fail_5 (by decide) ?_
  cases hm
  exact q_zret (pc := 6) B I rfl (by decide) d_fail_6
def m_blanks_0F (N : Nat) (K0 : rS → Option rS) (S : rS) : Option rS :=
  b1 (m_here N S) (fun x2 => if x2 = 32 then (b1 (rP S 3 ((S.1 3) + 1)) (fun S3 => K0 S3)) else (some S))
def m_blanks_0 (N : Nat) : Nat → rS → Option rS
  | 0, _ => none
  | k + 1, S => m_blanks_0F N  (m_blanks_0 N  k)  S
set_option maxRecDepth 100000 in
set_option maxHeartbeats 4000000 in
theorem w_blanks_0F {K0 : rS → Option rS} {S : rS} (hK0 : ∀ (S : rS) (ls : Array Slot) (H : Heap) (locs : List Loc), lx ls [some (.ref h)] → AI D vwCl b0 (rH dA h S hp0) sz s.heap H locs → K0 S = some S' → W p l e { frames := 1, cells := 0, slots := 0, locals := 20 } s m args below meth c H locs 0 0 (MQ below (CQ D vwCl b0 none (rH dA h S' hp0) sz) args s 0 0 (fun q => b0 ≤ q)) (F0 m 0 ls [])) (B : BX p m c cb_blanks 1 s args (.code y_blanks cb_blanks 1 none :: wsA) RREF meth none D vwCl (tyL dA) b0 Z) (hR : RR b0 h Z) (hl : lx ls [some (.ref h)]) (I : AI D vwCl b0 (rH dA h S hp0) sz s.heap H locs)  (hm : m_blanks_0F N  K0  S = some S') : W p l e { frames := 1, cells := 0, slots := 0, locals := 20 } s m args below meth c H locs 0 0 (MQ below (CQ D vwCl b0 none (rH dA h S' hp0) sz) args s 0 0 (fun q => b0 ≤ q)) (F0 m 0 ls []) := by
  obtain ⟨hx, hb, -⟩ := B.1
  unfold m_blanks_0F at hm
  refine lv_aload_n (pc := 0) (i := 0) hx hb d_blanks_0 rfl (lx_get hl rfl) ?_
  refine ob1 hm (fun x2 e1 hm => ?_)
  refine r_call (pc := 1) (As := []) (rest := []) B hl rfl I (c_here hR e1) kw_here rfl (by decide) (by decide) rfl (by simp [Value.category]) d_blanks_1 (fun H locs I => ?_)
  refine lv_bipush (pc := 4) (v := 32) hx hb d_blanks_4 (by decide) ?_
  refine lv_icmp_ne (pc := 6) (tgt := 22) hx hb d_blanks_6 (by decide) (fun hc => ?_) (fun hc => ?_)
  · have hm := iff' hc hm
    cases hm
    exact q_vret (pc := 22) B I rfl d_blanks_22
  · have hm := ift hc hm
    refine lv_aload_n (pc := 9) (i := 0) hx hb d_blanks_9 rfl (lx_get hl rfl) ?_
    refine lv_dup (pc := 10) hx hb d_blanks_10 rfl ?_
    refine r_get (pc := 11) (k := 3) (index := 76) B I (by decide) mF_76 rfl rfl d_blanks_11 ?_
    refine lv_iconst (pc := 14) (v := 1) hx hb d_blanks_14 (by decide) ?_
    refine lv_iadd (pc := 15) hx hb d_blanks_15 ?_
    refine ob1 hm (fun S3 e4 hm => ?_)
    refine r_put (pc := 16) (k := 3) (index := 76) B hR I (by decide) mF_76 rfl rfl rfl (fun _ _ => rfl) e4 d_blanks_16 (fun H locs I => ?_)
    refine lv_goto (pc := 19) (tgt := 0) hx hb d_blanks_19 (by decide) ?_
    exact hK0  _ _ _ _ hl I hm
set_option maxRecDepth 100000 in
set_option maxHeartbeats 4000000 in
theorem w_blanks_0i (B : BX p m c cb_blanks 1 s args (.code y_blanks cb_blanks 1 none :: wsA) RREF meth none D vwCl (tyL dA) b0 Z) (hR : RR b0 h Z) (k : Nat) (S : rS) (ls : Array Slot) (H : Heap) (locs : List Loc) (hl : lx ls [some (.ref h)]) (I : AI D vwCl b0 (rH dA h S hp0) sz s.heap H locs)  (hm : m_blanks_0 N  k  S = some S') : W p l e { frames := 1, cells := 0, slots := 0, locals := 20 } s m args below meth c H locs 0 0 (MQ below (CQ D vwCl b0 none (rH dA h S' hp0) sz) args s 0 0 (fun q => b0 ≤ q)) (F0 m 0 ls []) := by
  induction k generalizing  S ls H locs with
  | zero => cases hm
  | succ k ih => exact w_blanks_0F  (fun  S ls H locs hl I hm => ih  S ls H locs hl I hm) B hR hl I hm
theorem w_blanks_0 {S : rS} (B : BX p m c cb_blanks 1 s args (.code y_blanks cb_blanks 1 none :: wsA) RREF meth none D vwCl (tyL dA) b0 Z) (hR : RR b0 h Z) (hl : lx ls [some (.ref h)]) (I : AI D vwCl b0 (rH dA h S hp0) sz s.heap H locs)  {k : Nat} (hm : m_blanks_0 N  k  S = some S') : W p l e { frames := 1, cells := 0, slots := 0, locals := 20 } s m args below meth c H locs 0 0 (MQ below (CQ D vwCl b0 none (rH dA h S' hp0) sz) args s 0 0 (fun q => b0 ≤ q)) (F0 m 0 ls []) := w_blanks_0i  B hR k  S ls H locs hl I hm
def m_blanks (N : Nat) (S : rS) : Option rS :=
  m_blanks_0 N  N S
set_option maxRecDepth 100000 in
set_option maxHeartbeats 4000000 in
theorem c_blanks {S S' : rS} (hR : RR b0 h Z) (hm : m_blanks N  S = some S') : Ct l D vwCl (tyL dA) b0 Z y_blanks (.code y_blanks cb_blanks 1 none :: wsA) 1 20 [.ref h] (rH dA h S hp0) sz none (rH dA h S' hp0) 0 0 := by
  refine ct_of (cc := cb_blanks) (maxL := 1) (ret := none) (lo0 := [some (.ref h)]) hR.2 (by decide) rfl (by simp [lg_sl, Value.category]) rfl (by simp [lx_all, lv_args, Value.category]) ?_
  intro p e s m args below meth c ls B hnm hl I
  obtain ⟨hx, hb, -⟩ := B.1
  unfold m_blanks at hm
  exact w_blanks_0  B hR hl I hm
def m_comment_0F (N : Nat) (K0 : rS → Option rS) (S : rS) : Option rS :=
  b1 (m_here N S) (fun x2 => if x2 = 10 then (some S) else (if S.1 1 ≤ S.1 3 then (some S) else (b1 (rP S 3 ((S.1 3) + 1)) (fun S3 => K0 S3))))
def m_comment_0 (N : Nat) : Nat → rS → Option rS
  | 0, _ => none
  | k + 1, S => m_comment_0F N  (m_comment_0 N  k)  S
set_option maxRecDepth 100000 in
set_option maxHeartbeats 4000000 in
theorem w_comment_0F {K0 : rS → Option rS} {S : rS} (hK0 : ∀ (S : rS) (ls : Array Slot) (H : Heap) (locs : List Loc), lx ls [some (.ref h)] → AI D vwCl b0 (rH dA h S hp0) sz s.heap H locs → K0 S = some S' → W p l e { frames := 1, cells := 0, slots := 0, locals := 20 } s m args below meth c H locs 0 0 (MQ below (CQ D vwCl b0 none (rH dA h S' hp0) sz) args s 0 0 (fun q => b0 ≤ q)) (F0 m 0 ls [])) (B : BX p m c cb_comment 1 s args (.code y_comment cb_comment 1 none :: wsA) RREF meth none D vwCl (tyL dA) b0 Z) (hR : RR b0 h Z) (hl : lx ls [some (.ref h)]) (I : AI D vwCl b0 (rH dA h S hp0) sz s.heap H locs)  (hm : m_comment_0F N  K0  S = some S') : W p l e { frames := 1, cells := 0, slots := 0, locals := 20 } s m args below meth c H locs 0 0 (MQ below (CQ D vwCl b0 none (rH dA h S' hp0) sz) args s 0 0 (fun q => b0 ≤ q)) (F0 m 0 ls []) := by
  obtain ⟨hx, hb, -⟩ := B.1
  unfold m_comment_0F at hm
  refine lv_aload_n (pc := 0) (i := 0) hx hb d_comment_0 rfl (lx_get hl rfl) ?_
  refine ob1 hm (fun x2 e1 hm => ?_)
  refine r_call (pc := 1) (As := []) (rest := []) B hl rfl I (c_here hR e1) kw_here rfl (by decide) (by decide) rfl (by simp [Value.category]) d_comment_1 (fun H locs I => ?_)
  refine lv_bipush (pc := 4) (v := 10) hx hb d_comment_4 (by decide) ?_
  refine lv_icmp_eq (pc := 6) (tgt := 33) hx hb d_comment_6 (by decide) (fun hc => ?_) (fun hc => ?_)
  · have hm := ift hc hm
    cases hm
    exact q_vret (pc := 33) B I rfl d_comment_33
  · have hm := iff' hc hm
    refine lv_aload_n (pc := 9) (i := 0) hx hb d_comment_9 rfl (lx_get hl rfl) ?_
    refine r_get (pc := 10) (k := 3) (index := 76) B I (by decide) mF_76 rfl rfl d_comment_10 ?_
    refine lv_aload_n (pc := 13) (i := 0) hx hb d_comment_13 rfl (lx_get hl rfl) ?_
    refine r_get (pc := 14) (k := 1) (index := 73) B I (by decide) mF_73 rfl rfl d_comment_14 ?_
    refine lv_icmp_ge (pc := 17) (tgt := 33) hx hb d_comment_17 (by decide) (fun hc => ?_) (fun hc => ?_)
    · have hm := ift hc hm
      cases hm
      exact q_vret (pc := 33) B I rfl d_comment_33
    · have hm := iff' hc hm
      refine lv_aload_n (pc := 20) (i := 0) hx hb d_comment_20 rfl (lx_get hl rfl) ?_
      refine lv_dup (pc := 21) hx hb d_comment_21 rfl ?_
      refine r_get (pc := 22) (k := 3) (index := 76) B I (by decide) mF_76 rfl rfl d_comment_22 ?_
      refine lv_iconst (pc := 25) (v := 1) hx hb d_comment_25 (by decide) ?_
      refine lv_iadd (pc := 26) hx hb d_comment_26 ?_
      refine ob1 hm (fun S3 e4 hm => ?_)
      refine r_put (pc := 27) (k := 3) (index := 76) B hR I (by decide) mF_76 rfl rfl rfl (fun _ _ => rfl) e4 d_comment_27 (fun H locs I => ?_)
      refine lv_goto (pc := 30) (tgt := 0) hx hb d_comment_30 (by decide) ?_
      exact hK0  _ _ _ _ hl I hm
set_option maxRecDepth 100000 in
set_option maxHeartbeats 4000000 in
theorem w_comment_0i (B : BX p m c cb_comment 1 s args (.code y_comment cb_comment 1 none :: wsA) RREF meth none D vwCl (tyL dA) b0 Z) (hR : RR b0 h Z) (k : Nat) (S : rS) (ls : Array Slot) (H : Heap) (locs : List Loc) (hl : lx ls [some (.ref h)]) (I : AI D vwCl b0 (rH dA h S hp0) sz s.heap H locs)  (hm : m_comment_0 N  k  S = some S') : W p l e { frames := 1, cells := 0, slots := 0, locals := 20 } s m args below meth c H locs 0 0 (MQ below (CQ D vwCl b0 none (rH dA h S' hp0) sz) args s 0 0 (fun q => b0 ≤ q)) (F0 m 0 ls []) := by
  induction k generalizing  S ls H locs with
  | zero => cases hm
  | succ k ih => exact w_comment_0F  (fun  S ls H locs hl I hm => ih  S ls H locs hl I hm) B hR hl I hm
theorem w_comment_0 {S : rS} (B : BX p m c cb_comment 1 s args (.code y_comment cb_comment 1 none :: wsA) RREF meth none D vwCl (tyL dA) b0 Z) (hR : RR b0 h Z) (hl : lx ls [some (.ref h)]) (I : AI D vwCl b0 (rH dA h S hp0) sz s.heap H locs)  {k : Nat} (hm : m_comment_0 N  k  S = some S') : W p l e { frames := 1, cells := 0, slots := 0, locals := 20 } s m args below meth c H locs 0 0 (MQ below (CQ D vwCl b0 none (rH dA h S' hp0) sz) args s 0 0 (fun q => b0 ≤ q)) (F0 m 0 ls []) := w_comment_0i  B hR k  S ls H locs hl I hm
def m_comment (N : Nat) (S : rS) : Option rS :=
  m_comment_0 N  N S
set_option maxRecDepth 100000 in
set_option maxHeartbeats 4000000 in
theorem c_comment {S S' : rS} (hR : RR b0 h Z) (hm : m_comment N  S = some S') : Ct l D vwCl (tyL dA) b0 Z y_comment (.code y_comment cb_comment 1 none :: wsA) 1 20 [.ref h] (rH dA h S hp0) sz none (rH dA h S' hp0) 0 0 := by
  refine ct_of (cc := cb_comment) (maxL := 1) (ret := none) (lo0 := [some (.ref h)]) hR.2 (by decide) rfl (by simp [lg_sl, Value.category]) rfl (by simp [lx_all, lv_args, Value.category]) ?_
  intro p e s m args below meth c ls B hnm hl I
  obtain ⟨hx, hb, -⟩ := B.1
  unfold m_comment at hm
  exact w_comment_0  B hR hl I hm
def m_room_27 (N : Nat) (K0 : rS → Option rS) (S : rS) : Option rS :=
  b1 (m_here N S) (fun x2 => if x2 = 35 then (b1 (m_comment N S) (fun S6 => K0 S6)) else (b1 (rP S 3 ((S.1 3) + 1)) (fun S3 => K0 S3)))
set_option maxRecDepth 100000 in
set_option maxHeartbeats 4000000 in
theorem w_room_27 {K0 : rS → Option rS} {S : rS} (hK0 : ∀ (S : rS) (ls : Array Slot) (H : Heap) (locs : List Loc), lx ls [some (.ref h)] → AI D vwCl b0 (rH dA h S hp0) sz s.heap H locs → K0 S = some S' → W p l e { frames := 2, cells := 0, slots := 0, locals := 40 } s m args below meth c H locs 0 0 (MQ below (CQ D vwCl b0 none (rH dA h S' hp0) sz) args s 0 0 (fun q => b0 ≤ q)) (F0 m 0 ls [])) (B : BX p m c cb_room 1 s args (.code y_room cb_room 1 none :: wsA) RREF meth none D vwCl (tyL dA) b0 Z) (hR : RR b0 h Z) (hl : lx ls [some (.ref h)]) (I : AI D vwCl b0 (rH dA h S hp0) sz s.heap H locs)  (hm : m_room_27 N K0  S = some S') : W p l e { frames := 2, cells := 0, slots := 0, locals := 40 } s m args below meth c H locs 0 0 (MQ below (CQ D vwCl b0 none (rH dA h S' hp0) sz) args s 0 0 (fun q => b0 ≤ q)) (F0 m 27 ls []) := by
  obtain ⟨hx, hb, -⟩ := B.1
  unfold m_room_27 at hm
  refine lv_aload_n (pc := 27) (i := 0) hx hb d_room_27 rfl (lx_get hl rfl) ?_
  refine ob1 hm (fun x2 e1 hm => ?_)
  refine r_call (pc := 28) (As := []) (rest := []) B hl rfl I (c_here hR e1) kw_here rfl (by decide) (by decide) rfl (by simp [Value.category]) d_room_28 (fun H locs I => ?_)
  refine lv_bipush (pc := 31) (v := 35) hx hb d_room_31 (by decide) ?_
  refine lv_icmp_ne (pc := 33) (tgt := 43) hx hb d_room_33 (by decide) (fun hc => ?_) (fun hc => ?_)
  · have hm := iff' hc hm
    refine lv_aload_n (pc := 43) (i := 0) hx hb d_room_43 rfl (lx_get hl rfl) ?_
    refine lv_dup (pc := 44) hx hb d_room_44 rfl ?_
    refine r_get (pc := 45) (k := 3) (index := 76) B I (by decide) mF_76 rfl rfl d_room_45 ?_
    refine lv_iconst (pc := 48) (v := 1) hx hb d_room_48 (by decide) ?_
    refine lv_iadd (pc := 49) hx hb d_room_49 ?_
    refine ob1 hm (fun S3 e4 hm => ?_)
    refine r_put (pc := 50) (k := 3) (index := 76) B hR I (by decide) mF_76 rfl rfl rfl (fun _ _ => rfl) e4 d_room_50 (fun H locs I => ?_)
    refine lv_goto (pc := 53) (tgt := 0) hx hb d_room_53 (by decide) ?_
    exact hK0  _ _ _ _ hl I hm
  · have hm := ift hc hm
    refine lv_aload_n (pc := 36) (i := 0) hx hb d_room_36 rfl (lx_get hl rfl) ?_
    refine ob1 hm (fun S6 e5 hm => ?_)
    refine r_call (pc := 37) (As := []) (rest := []) B hl rfl I (c_comment hR e5) kw_comment rfl (by decide) (by decide) rfl (by simp [Value.category]) d_room_37 (fun H locs I => ?_)
    refine lv_goto (pc := 40) (tgt := 0) hx hb d_room_40 (by decide) ?_
    exact hK0  _ _ _ _ hl I hm
def m_room_0F (N : Nat) (K0 : rS → Option rS) (S : rS) : Option rS :=
  b1 (m_here N S) (fun x2 => if x2 = 32 then (m_room_27 N K0 S) else (b1 (m_here N S) (fun x4 => if x4 = 10 then (m_room_27 N K0 S) else (b1 (m_here N S) (fun x6 => if x6 = 35 then (m_room_27 N K0 S) else (some S))))))
def m_room_0 (N : Nat) : Nat → rS → Option rS
  | 0, _ => none
  | k + 1, S => m_room_0F N  (m_room_0 N  k)  S
set_option maxRecDepth 100000 in
set_option maxHeartbeats 4000000 in
theorem w_room_0F {K0 : rS → Option rS} {S : rS} (hK0 : ∀ (S : rS) (ls : Array Slot) (H : Heap) (locs : List Loc), lx ls [some (.ref h)] → AI D vwCl b0 (rH dA h S hp0) sz s.heap H locs → K0 S = some S' → W p l e { frames := 2, cells := 0, slots := 0, locals := 40 } s m args below meth c H locs 0 0 (MQ below (CQ D vwCl b0 none (rH dA h S' hp0) sz) args s 0 0 (fun q => b0 ≤ q)) (F0 m 0 ls [])) (B : BX p m c cb_room 1 s args (.code y_room cb_room 1 none :: wsA) RREF meth none D vwCl (tyL dA) b0 Z) (hR : RR b0 h Z) (hl : lx ls [some (.ref h)]) (I : AI D vwCl b0 (rH dA h S hp0) sz s.heap H locs)  (hm : m_room_0F N  K0  S = some S') : W p l e { frames := 2, cells := 0, slots := 0, locals := 40 } s m args below meth c H locs 0 0 (MQ below (CQ D vwCl b0 none (rH dA h S' hp0) sz) args s 0 0 (fun q => b0 ≤ q)) (F0 m 0 ls []) := by
  obtain ⟨hx, hb, -⟩ := B.1
  unfold m_room_0F at hm
  refine lv_aload_n (pc := 0) (i := 0) hx hb d_room_0 rfl (lx_get hl rfl) ?_
  refine ob1 hm (fun x2 e1 hm => ?_)
  refine r_call (pc := 1) (As := []) (rest := []) B hl rfl I (c_here hR e1) kw_here rfl (by decide) (by decide) rfl (by simp [Value.category]) d_room_1 (fun H locs I => ?_)
  refine lv_bipush (pc := 4) (v := 32) hx hb d_room_4 (by decide) ?_
  refine lv_icmp_eq (pc := 6) (tgt := 27) hx hb d_room_6 (by decide) (fun hc => ?_) (fun hc => ?_)
  · have hm := ift hc hm
    exact w_room_27 hK0 B hR hl I hm
  · have hm := iff' hc hm
    refine lv_aload_n (pc := 9) (i := 0) hx hb d_room_9 rfl (lx_get hl rfl) ?_
    refine ob1 hm (fun x4 e3 hm => ?_)
    refine r_call (pc := 10) (As := []) (rest := []) B hl rfl I (c_here hR e3) kw_here rfl (by decide) (by decide) rfl (by simp [Value.category]) d_room_10 (fun H locs I => ?_)
    refine lv_bipush (pc := 13) (v := 10) hx hb d_room_13 (by decide) ?_
    refine lv_icmp_eq (pc := 15) (tgt := 27) hx hb d_room_15 (by decide) (fun hc => ?_) (fun hc => ?_)
    · have hm := ift hc hm
      exact w_room_27 hK0 B hR hl I hm
    · have hm := iff' hc hm
      refine lv_aload_n (pc := 18) (i := 0) hx hb d_room_18 rfl (lx_get hl rfl) ?_
      refine ob1 hm (fun x6 e5 hm => ?_)
      refine r_call (pc := 19) (As := []) (rest := []) B hl rfl I (c_here hR e5) kw_here rfl (by decide) (by decide) rfl (by simp [Value.category]) d_room_19 (fun H locs I => ?_)
      refine lv_bipush (pc := 22) (v := 35) hx hb d_room_22 (by decide) ?_
      refine lv_icmp_ne (pc := 24) (tgt := 56) hx hb d_room_24 (by decide) (fun hc => ?_) (fun hc => ?_)
      · have hm := iff' hc hm
        cases hm
        exact q_vret (pc := 56) B I rfl d_room_56
      · have hm := ift hc hm
        exact w_room_27 hK0 B hR hl I hm
set_option maxRecDepth 100000 in
set_option maxHeartbeats 4000000 in
theorem w_room_0i (B : BX p m c cb_room 1 s args (.code y_room cb_room 1 none :: wsA) RREF meth none D vwCl (tyL dA) b0 Z) (hR : RR b0 h Z) (k : Nat) (S : rS) (ls : Array Slot) (H : Heap) (locs : List Loc) (hl : lx ls [some (.ref h)]) (I : AI D vwCl b0 (rH dA h S hp0) sz s.heap H locs)  (hm : m_room_0 N  k  S = some S') : W p l e { frames := 2, cells := 0, slots := 0, locals := 40 } s m args below meth c H locs 0 0 (MQ below (CQ D vwCl b0 none (rH dA h S' hp0) sz) args s 0 0 (fun q => b0 ≤ q)) (F0 m 0 ls []) := by
  induction k generalizing  S ls H locs with
  | zero => cases hm
  | succ k ih => exact w_room_0F  (fun  S ls H locs hl I hm => ih  S ls H locs hl I hm) B hR hl I hm
theorem w_room_0 {S : rS} (B : BX p m c cb_room 1 s args (.code y_room cb_room 1 none :: wsA) RREF meth none D vwCl (tyL dA) b0 Z) (hR : RR b0 h Z) (hl : lx ls [some (.ref h)]) (I : AI D vwCl b0 (rH dA h S hp0) sz s.heap H locs)  {k : Nat} (hm : m_room_0 N  k  S = some S') : W p l e { frames := 2, cells := 0, slots := 0, locals := 40 } s m args below meth c H locs 0 0 (MQ below (CQ D vwCl b0 none (rH dA h S' hp0) sz) args s 0 0 (fun q => b0 ≤ q)) (F0 m 0 ls []) := w_room_0i  B hR k  S ls H locs hl I hm
def m_room (N : Nat) (S : rS) : Option rS :=
  m_room_0 N  N S
set_option maxRecDepth 100000 in
set_option maxHeartbeats 4000000 in
theorem c_room {S S' : rS} (hR : RR b0 h Z) (hm : m_room N  S = some S') : Ct l D vwCl (tyL dA) b0 Z y_room (.code y_room cb_room 1 none :: wsA) 2 40 [.ref h] (rH dA h S hp0) sz none (rH dA h S' hp0) 0 0 := by
  refine ct_of (cc := cb_room) (maxL := 1) (ret := none) (lo0 := [some (.ref h)]) hR.2 (by decide) rfl (by simp [lg_sl, Value.category]) rfl (by simp [lx_all, lv_args, Value.category]) ?_
  intro p e s m args below meth c ls B hnm hl I
  obtain ⟨hx, hb, -⟩ := B.1
  unfold m_room at hm
  exact w_room_0  B hR hl I hm
def m_isDigit (N : Nat) (p1 : Int32) (S : rS) : Option Int32 :=
  if p1 < 48 then (some 0) else (if 57 < p1 then (some 0) else (some 1))
set_option maxRecDepth 100000 in
set_option maxHeartbeats 4000000 in
theorem c_isDigit {p1 : Int32} {S : rS} {r : Int32} (hR : RR b0 h Z) (hm : m_isDigit N p1 S = some r) : Ct l D vwCl (tyL dA) b0 Z y_isDigit (.code y_isDigit cb_isDigit 2 (some .boolean) :: wsA) 0 0 [.ref h, .int p1] (rH dA h S hp0) sz (some (.int r)) (rH dA h S hp0) 0 0 := by
  refine ct_of (cc := cb_isDigit) (maxL := 2) (ret := (some .boolean)) (lo0 := [some (.ref h), some (.int p1)]) hR.2 (by decide) rfl (by simp [lg_sl, Value.category]) rfl (by simp [lx_all, lv_args, Value.category]) ?_
  intro p e s m args below meth c ls B hnm hl I
  obtain ⟨hx, hb, -⟩ := B.1
  unfold m_isDigit at hm
  refine lv_iload_n (pc := 0) (i := 1) hx hb d_isDigit_0 rfl (lx_get hl rfl) ?_
  refine lv_bipush (pc := 1) (v := 48) hx hb d_isDigit_1 (by decide) ?_
  refine lv_icmp_lt (pc := 3) (tgt := 16) hx hb d_isDigit_3 (by decide) (fun hc => ?_) (fun hc => ?_)
  · have hm := ift hc hm
    refine lv_iconst (pc := 16) (v := 0) hx hb d_isDigit_16 (by decide) ?_
    cases hm
    exact q_zret (pc := 17) B I rfl (by decide) d_isDigit_17
  · have hm := iff' hc hm
    refine lv_iload_n (pc := 6) (i := 1) hx hb d_isDigit_6 rfl (lx_get hl rfl) ?_
    refine lv_bipush (pc := 7) (v := 57) hx hb d_isDigit_7 (by decide) ?_
    refine lv_icmp_gt (pc := 9) (tgt := 16) hx hb d_isDigit_9 (by decide) (fun hc => ?_) (fun hc => ?_)
    · have hm := ift hc hm
      refine lv_iconst (pc := 16) (v := 0) hx hb d_isDigit_16 (by decide) ?_
      cases hm
      exact q_zret (pc := 17) B I rfl (by decide) d_isDigit_17
    · have hm := iff' hc hm
      refine lv_iconst (pc := 12) (v := 1) hx hb d_isDigit_12 (by decide) ?_
      refine lv_goto (pc := 13) (tgt := 17) hx hb d_isDigit_13 (by decide) ?_
      cases hm
      exact q_zret (pc := 17) B I rfl (by decide) d_isDigit_17
def m_isBare_24 (N : Nat) (y1 : Int32) (S : rS) : Option Int32 :=
  b1 (m_isDigit N y1 S) (fun x2 => if x2 = 0 then (if y1 = 95 then (some 1) else (if y1 = 45 then (some 1) else (some 0))) else (some 1))
set_option maxRecDepth 100000 in
set_option maxHeartbeats 4000000 in
theorem w_isBare_24 {y1 : Int32} {S : rS} (B : BX p m c cb_isBare 2 s args (.code y_isBare cb_isBare 2 (some .boolean) :: wsA) RREF meth (some .boolean) D vwCl (tyL dA) b0 Z) (hR : RR b0 h Z) (hl : lx ls [some (.ref h), some (.int y1)]) (I : AI D vwCl b0 (rH dA h S hp0) sz s.heap H locs)  (hm : m_isBare_24 N  y1 S = some r) : W p l e { frames := 1, cells := 0, slots := 0, locals := 21 } s m args below meth c H locs 0 0 (MQ below (CQ D vwCl b0 (some (.int r)) (rH dA h S hp0) sz) args s 0 0 (fun q => b0 ≤ q)) (F0 m 24 ls []) := by
  obtain ⟨hx, hb, -⟩ := B.1
  unfold m_isBare_24 at hm
  refine lv_aload_n (pc := 24) (i := 0) hx hb d_isBare_24 rfl (lx_get hl rfl) ?_
  refine lv_iload_n (pc := 25) (i := 1) hx hb d_isBare_25 rfl (lx_get hl rfl) ?_
  refine ob1 hm (fun x2 e1 hm => ?_)
  refine r_call (pc := 26) (As := [.int y1]) (rest := []) B hl rfl I (c_isDigit hR e1) kw_isDigit rfl (by decide) (by decide) rfl (by simp [Value.category]) d_isBare_26 (fun H locs I => ?_)
  refine lv_if_ne (pc := 29) (tgt := 44) hx hb d_isBare_29 (by decide) (fun hc => ?_) (fun hc => ?_)
  · have hm := iff' hc hm
    refine lv_iconst (pc := 44) (v := 1) hx hb d_isBare_44 (by decide) ?_
    refine lv_goto (pc := 45) (tgt := 49) hx hb d_isBare_45 (by decide) ?_
    cases hm
    exact q_zret (pc := 49) B I rfl (by decide) d_isBare_49
  · have hm := ift hc hm
    refine lv_iload_n (pc := 32) (i := 1) hx hb d_isBare_32 rfl (lx_get hl rfl) ?_
    refine lv_bipush (pc := 33) (v := 95) hx hb d_isBare_33 (by decide) ?_
    refine lv_icmp_eq (pc := 35) (tgt := 44) hx hb d_isBare_35 (by decide) (fun hc => ?_) (fun hc => ?_)
    · have hm := ift hc hm
      refine lv_iconst (pc := 44) (v := 1) hx hb d_isBare_44 (by decide) ?_
      refine lv_goto (pc := 45) (tgt := 49) hx hb d_isBare_45 (by decide) ?_
      cases hm
      exact q_zret (pc := 49) B I rfl (by decide) d_isBare_49
    · have hm := iff' hc hm
      refine lv_iload_n (pc := 38) (i := 1) hx hb d_isBare_38 rfl (lx_get hl rfl) ?_
      refine lv_bipush (pc := 39) (v := 45) hx hb d_isBare_39 (by decide) ?_
      refine lv_icmp_ne (pc := 41) (tgt := 48) hx hb d_isBare_41 (by decide) (fun hc => ?_) (fun hc => ?_)
      · have hm := iff' hc hm
        refine lv_iconst (pc := 48) (v := 0) hx hb d_isBare_48 (by decide) ?_
        cases hm
        exact q_zret (pc := 49) B I rfl (by decide) d_isBare_49
      · have hm := ift hc hm
        refine lv_iconst (pc := 44) (v := 1) hx hb d_isBare_44 (by decide) ?_
        refine lv_goto (pc := 45) (tgt := 49) hx hb d_isBare_45 (by decide) ?_
        cases hm
        exact q_zret (pc := 49) B I rfl (by decide) d_isBare_49
def m_isBare_12 (N : Nat) (y1 : Int32) (S : rS) : Option Int32 :=
  if y1 < 65 then (m_isBare_24 N  y1 S) else (if y1 ≤ 90 then (some 1) else (m_isBare_24 N  y1 S))
set_option maxRecDepth 100000 in
set_option maxHeartbeats 4000000 in
theorem w_isBare_12 {y1 : Int32} {S : rS} (B : BX p m c cb_isBare 2 s args (.code y_isBare cb_isBare 2 (some .boolean) :: wsA) RREF meth (some .boolean) D vwCl (tyL dA) b0 Z) (hR : RR b0 h Z) (hl : lx ls [some (.ref h), some (.int y1)]) (I : AI D vwCl b0 (rH dA h S hp0) sz s.heap H locs)  (hm : m_isBare_12 N  y1 S = some r) : W p l e { frames := 1, cells := 0, slots := 0, locals := 21 } s m args below meth c H locs 0 0 (MQ below (CQ D vwCl b0 (some (.int r)) (rH dA h S hp0) sz) args s 0 0 (fun q => b0 ≤ q)) (F0 m 12 ls []) := by
  obtain ⟨hx, hb, -⟩ := B.1
  unfold m_isBare_12 at hm
  refine lv_iload_n (pc := 12) (i := 1) hx hb d_isBare_12 rfl (lx_get hl rfl) ?_
  refine lv_bipush (pc := 13) (v := 65) hx hb d_isBare_13 (by decide) ?_
  refine lv_icmp_lt (pc := 15) (tgt := 24) hx hb d_isBare_15 (by decide) (fun hc => ?_) (fun hc => ?_)
  · have hm := ift hc hm
    exact w_isBare_24  B hR hl I hm
  · have hm := iff' hc hm
    refine lv_iload_n (pc := 18) (i := 1) hx hb d_isBare_18 rfl (lx_get hl rfl) ?_
    refine lv_bipush (pc := 19) (v := 90) hx hb d_isBare_19 (by decide) ?_
    refine lv_icmp_le (pc := 21) (tgt := 44) hx hb d_isBare_21 (by decide) (fun hc => ?_) (fun hc => ?_)
    · have hm := ift hc hm
      refine lv_iconst (pc := 44) (v := 1) hx hb d_isBare_44 (by decide) ?_
      refine lv_goto (pc := 45) (tgt := 49) hx hb d_isBare_45 (by decide) ?_
      cases hm
      exact q_zret (pc := 49) B I rfl (by decide) d_isBare_49
    · have hm := iff' hc hm
      exact w_isBare_24  B hR hl I hm
def m_isBare (N : Nat) (p1 : Int32) (S : rS) : Option Int32 :=
  if p1 < 97 then (m_isBare_12 N  p1 S) else (if p1 ≤ 122 then (some 1) else (m_isBare_12 N  p1 S))
set_option maxRecDepth 100000 in
set_option maxHeartbeats 4000000 in
theorem c_isBare {p1 : Int32} {S : rS} {r : Int32} (hR : RR b0 h Z) (hm : m_isBare N p1 S = some r) : Ct l D vwCl (tyL dA) b0 Z y_isBare (.code y_isBare cb_isBare 2 (some .boolean) :: wsA) 1 21 [.ref h, .int p1] (rH dA h S hp0) sz (some (.int r)) (rH dA h S hp0) 0 0 := by
  refine ct_of (cc := cb_isBare) (maxL := 2) (ret := (some .boolean)) (lo0 := [some (.ref h), some (.int p1)]) hR.2 (by decide) rfl (by simp [lg_sl, Value.category]) rfl (by simp [lx_all, lv_args, Value.category]) ?_
  intro p e s m args below meth c ls B hnm hl I
  obtain ⟨hx, hb, -⟩ := B.1
  unfold m_isBare at hm
  refine lv_iload_n (pc := 0) (i := 1) hx hb d_isBare_0 rfl (lx_get hl rfl) ?_
  refine lv_bipush (pc := 1) (v := 97) hx hb d_isBare_1 (by decide) ?_
  refine lv_icmp_lt (pc := 3) (tgt := 12) hx hb d_isBare_3 (by decide) (fun hc => ?_) (fun hc => ?_)
  · have hm := ift hc hm
    exact w_isBare_12  B hR hl I hm
  · have hm := iff' hc hm
    refine lv_iload_n (pc := 6) (i := 1) hx hb d_isBare_6 rfl (lx_get hl rfl) ?_
    refine lv_bipush (pc := 7) (v := 122) hx hb d_isBare_7 (by decide) ?_
    refine lv_icmp_le (pc := 9) (tgt := 44) hx hb d_isBare_9 (by decide) (fun hc => ?_) (fun hc => ?_)
    · have hm := ift hc hm
      refine lv_iconst (pc := 44) (v := 1) hx hb d_isBare_44 (by decide) ?_
      refine lv_goto (pc := 45) (tgt := 49) hx hb d_isBare_45 (by decide) ?_
      cases hm
      exact q_zret (pc := 49) B I rfl (by decide) d_isBare_49
    · have hm := iff' hc hm
      exact w_isBare_12  B hR hl I hm
def m_begin (N : Nat) (S : rS) : Option rS :=
  b1 (rL S 12 (S.1 19)) (fun x1 => b1 (rP S 24 ((300 * (S.1 19)) + x1)) (fun S3 => b1 (rP S3 25 0) (fun S5 => some S5)))
set_option maxRecDepth 100000 in
set_option maxHeartbeats 4000000 in
theorem c_begin {S S' : rS} (hR : RR b0 h Z) (hm : m_begin N  S = some S') : Ct l D vwCl (tyL dA) b0 Z y_begin (.code y_begin cb_begin 1 none :: wsA) 0 0 [.ref h] (rH dA h S hp0) sz none (rH dA h S' hp0) 0 0 := by
  refine ct_of (cc := cb_begin) (maxL := 1) (ret := none) (lo0 := [some (.ref h)]) hR.2 (by decide) rfl (by simp [lg_sl, Value.category]) rfl (by simp [lx_all, lv_args, Value.category]) ?_
  intro p e s m args below meth c ls B hnm hl I
  obtain ⟨hx, hb, -⟩ := B.1
  unfold m_begin at hm
  refine lv_aload_n (pc := 0) (i := 0) hx hb d_begin_0 rfl (lx_get hl rfl) ?_
  refine lv_sipush (pc := 1) (v := 300) hx hb d_begin_1 (by decide) ?_
  refine lv_aload_n (pc := 4) (i := 0) hx hb d_begin_4 rfl (lx_get hl rfl) ?_
  refine r_get (pc := 5) (k := 19) (index := 93) B I (by decide) mF_93 rfl rfl d_begin_5 ?_
  refine lv_imul (pc := 8) hx hb d_begin_8 ?_
  refine lv_aload_n (pc := 9) (i := 0) hx hb d_begin_9 rfl (lx_get hl rfl) ?_
  refine r_get (pc := 10) (k := 16) (index := 43) B I (by decide) mF_43 rfl rfl d_begin_10 ?_
  refine lv_aload_n (pc := 13) (i := 0) hx hb d_begin_13 rfl (lx_get hl rfl) ?_
  refine r_get (pc := 14) (k := 19) (index := 93) B I (by decide) mF_93 rfl rfl d_begin_14 ?_
  refine ob1 hm (fun x1 e2 hm => ?_)
  refine r_ald (pc := 17) (j := 12) B I (by decide) (by decide) e2 d_begin_17 ?_
  refine lv_iadd (pc := 18) hx hb d_begin_18 ?_
  refine ob1 hm (fun S3 e4 hm => ?_)
  refine r_put (pc := 19) (k := 24) (index := 96) B hR I (by decide) mF_96 rfl rfl rfl (fun _ _ => rfl) e4 d_begin_19 (fun H locs I => ?_)
  refine lv_aload_n (pc := 22) (i := 0) hx hb d_begin_22 rfl (lx_get hl rfl) ?_
  refine lv_iconst (pc := 23) (v := 0) hx hb d_begin_23 (by decide) ?_
  refine ob1 hm (fun S5 e6 hm => ?_)
  refine r_put (pc := 24) (k := 25) (index := 99) B hR I (by decide) mF_99 rfl rfl rfl (fun _ _ => rfl) e6 d_begin_24 (fun H locs I => ?_)
  cases hm
  exact q_vret (pc := 27) B I rfl d_begin_27
def m_add (N : Nat) (p1 : Int32) (p2 : Int32) (S : rS) : Option (Int32 × rS) :=
  if S.1 25 = 30 then (b2 (m_fail N p2 S) (fun x10 S11 => if x10 = 0 ∨ x10 = 1 then (some (x10, S11)) else none)) else (b1 (rT S 13 ((S.1 24) + (S.1 25)) p1) (fun S1 => b1 (rP S1 25 ((S1.1 25) + 1)) (fun S3 => b1 (rL S3 12 (S3.1 19)) (fun x5 => b1 (rT S3 12 (S3.1 19) (x5 + 1)) (fun S7 => some (1, S7))))))
set_option maxRecDepth 100000 in
set_option maxHeartbeats 4000000 in
theorem c_add {p1 : Int32} {p2 : Int32} {S S' : rS} {r : Int32} (hR : RR b0 h Z) (hm : m_add N p1 p2 S = some (r, S')) : Ct l D vwCl (tyL dA) b0 Z y_add (.code y_add cb_add 3 (some .boolean) :: wsA) 1 21 [.ref h, .int p1, .int p2] (rH dA h S hp0) sz (some (.int r)) (rH dA h S' hp0) 0 0 := by
  refine ct_of (cc := cb_add) (maxL := 3) (ret := (some .boolean)) (lo0 := [some (.ref h), some (.int p1), some (.int p2)]) hR.2 (by decide) rfl (by simp [lg_sl, Value.category]) rfl (by simp [lx_all, lv_args, Value.category]) ?_
  intro p e s m args below meth c ls B hnm hl I
  obtain ⟨hx, hb, -⟩ := B.1
  unfold m_add at hm
  refine lv_aload_n (pc := 0) (i := 0) hx hb d_add_0 rfl (lx_get hl rfl) ?_
  refine r_get (pc := 1) (k := 25) (index := 99) B I (by decide) mF_99 rfl rfl d_add_1 ?_
  refine lv_bipush (pc := 4) (v := 30) hx hb d_add_4 (by decide) ?_
  refine lv_icmp_ne (pc := 6) (tgt := 15) hx hb d_add_6 (by decide) (fun hc => ?_) (fun hc => ?_)
  · have hm := iff' hc hm
    refine lv_aload_n (pc := 15) (i := 0) hx hb d_add_15 rfl (lx_get hl rfl) ?_
    refine r_get (pc := 16) (k := 17) (index := 46) B I (by decide) mF_46 rfl rfl d_add_16 ?_
    refine lv_aload_n (pc := 19) (i := 0) hx hb d_add_19 rfl (lx_get hl rfl) ?_
    refine r_get (pc := 20) (k := 24) (index := 96) B I (by decide) mF_96 rfl rfl d_add_20 ?_
    refine lv_aload_n (pc := 23) (i := 0) hx hb d_add_23 rfl (lx_get hl rfl) ?_
    refine r_get (pc := 24) (k := 25) (index := 99) B I (by decide) mF_99 rfl rfl d_add_24 ?_
    refine lv_iadd (pc := 27) hx hb d_add_27 ?_
    refine lv_iload_n (pc := 28) (i := 1) hx hb d_add_28 rfl (lx_get hl rfl) ?_
    refine ob1 hm (fun S1 e2 hm => ?_)
    refine r_ast (pc := 29) (j := 13) B hR I (by decide) (by decide) e2 d_add_29 (fun H locs I => ?_)
    refine lv_aload_n (pc := 30) (i := 0) hx hb d_add_30 rfl (lx_get hl rfl) ?_
    refine lv_dup (pc := 31) hx hb d_add_31 rfl ?_
    refine r_get (pc := 32) (k := 25) (index := 99) B I (by decide) mF_99 rfl rfl d_add_32 ?_
    refine lv_iconst (pc := 35) (v := 1) hx hb d_add_35 (by decide) ?_
    refine lv_iadd (pc := 36) hx hb d_add_36 ?_
    refine ob1 hm (fun S3 e4 hm => ?_)
    refine r_put (pc := 37) (k := 25) (index := 99) B hR I (by decide) mF_99 rfl rfl rfl (fun _ _ => rfl) e4 d_add_37 (fun H locs I => ?_)
    refine lv_aload_n (pc := 40) (i := 0) hx hb d_add_40 rfl (lx_get hl rfl) ?_
    refine r_get (pc := 41) (k := 16) (index := 43) B I (by decide) mF_43 rfl rfl d_add_41 ?_
    refine lv_aload_n (pc := 44) (i := 0) hx hb d_add_44 rfl (lx_get hl rfl) ?_
    refine r_get (pc := 45) (k := 19) (index := 93) B I (by decide) mF_93 rfl rfl d_add_45 ?_
    refine lv_dup2_11 (pc := 48) hx hb d_add_48 rfl rfl ?_
    refine ob1 hm (fun x5 e6 hm => ?_)
    refine r_ald (pc := 49) (j := 12) B I (by decide) (by decide) e6 d_add_49 ?_
    refine lv_iconst (pc := 50) (v := 1) hx hb d_add_50 (by decide) ?_
    refine lv_iadd (pc := 51) hx hb d_add_51 ?_
    refine ob1 hm (fun S7 e8 hm => ?_)
    refine r_ast (pc := 52) (j := 12) B hR I (by decide) (by decide) e8 d_add_52 (fun H locs I => ?_)
    refine lv_iconst (pc := 53) (v := 1) hx hb d_add_53 (by decide) ?_
    cases hm
    exact q_zret (pc := 54) B I rfl (by decide) d_add_54
  · have hm := ift hc hm
    refine lv_aload_n (pc := 9) (i := 0) hx hb d_add_9 rfl (lx_get hl rfl) ?_
    refine lv_iload_n (pc := 10) (i := 2) hx hb d_add_10 rfl (lx_get hl rfl) ?_
    refine ob2 hm (fun x10 S11 e9 hm => ?_)
    refine r_call (pc := 11) (As := [.int p2]) (rest := []) B hl rfl I (c_fail hR e9) kw_fail rfl (by decide) (by decide) rfl (by simp [Value.category]) d_add_11 (fun H locs I => ?_)
    by_cases hq : x10 = 0 ∨ x10 = 1
    · have hm := ift hq hm
      cases hm
      exact q_zret (pc := 14) B I rfl (zn hq) d_add_14
    · have hm := iff' hq hm
      cases hm
def m_behindBar (N : Nat) (p1 : Int32) (S : rS) : Option Int32 :=
  if p1 = 34 then (some p1) else (if p1 = 92 then (some p1) else (if p1 = 110 then (some 10) else (if p1 = 116 then (some 9) else (some 0))))
set_option maxRecDepth 100000 in
set_option maxHeartbeats 4000000 in
theorem c_behindBar {p1 : Int32} {S : rS} {r : Int32} (hR : RR b0 h Z) (hm : m_behindBar N p1 S = some r) : Ct l D vwCl (tyL dA) b0 Z y_behindBar (.code y_behindBar cb_behindBar 2 (some .int) :: wsA) 0 0 [.ref h, .int p1] (rH dA h S hp0) sz (some (.int r)) (rH dA h S hp0) 0 0 := by
  refine ct_of (cc := cb_behindBar) (maxL := 2) (ret := (some .int)) (lo0 := [some (.ref h), some (.int p1)]) hR.2 (by decide) rfl (by simp [lg_sl, Value.category]) rfl (by simp [lx_all, lv_args, Value.category]) ?_
  intro p e s m args below meth c ls B hnm hl I
  obtain ⟨hx, hb, -⟩ := B.1
  unfold m_behindBar at hm
  refine lv_iload_n (pc := 0) (i := 1) hx hb d_behindBar_0 rfl (lx_get hl rfl) ?_
  refine lv_bipush (pc := 1) (v := 34) hx hb d_behindBar_1 (by decide) ?_
  refine lv_icmp_eq (pc := 3) (tgt := 12) hx hb d_behindBar_3 (by decide) (fun hc => ?_) (fun hc => ?_)
  · have hm := ift hc hm
    refine lv_iload_n (pc := 12) (i := 1) hx hb d_behindBar_12 rfl (lx_get hl rfl) ?_
    refine lv_goto (pc := 13) (tgt := 39) hx hb d_behindBar_13 (by decide) ?_
    cases hm
    exact q_iret (pc := 39) B I rfl d_behindBar_39
  · have hm := iff' hc hm
    refine lv_iload_n (pc := 6) (i := 1) hx hb d_behindBar_6 rfl (lx_get hl rfl) ?_
    refine lv_bipush (pc := 7) (v := 92) hx hb d_behindBar_7 (by decide) ?_
    refine lv_icmp_ne (pc := 9) (tgt := 16) hx hb d_behindBar_9 (by decide) (fun hc => ?_) (fun hc => ?_)
    · have hm := iff' hc hm
      refine lv_iload_n (pc := 16) (i := 1) hx hb d_behindBar_16 rfl (lx_get hl rfl) ?_
      refine lv_bipush (pc := 17) (v := 110) hx hb d_behindBar_17 (by decide) ?_
      refine lv_icmp_ne (pc := 19) (tgt := 27) hx hb d_behindBar_19 (by decide) (fun hc => ?_) (fun hc => ?_)
      · have hm := iff' hc hm
        refine lv_iload_n (pc := 27) (i := 1) hx hb d_behindBar_27 rfl (lx_get hl rfl) ?_
        refine lv_bipush (pc := 28) (v := 116) hx hb d_behindBar_28 (by decide) ?_
        refine lv_icmp_ne (pc := 30) (tgt := 38) hx hb d_behindBar_30 (by decide) (fun hc => ?_) (fun hc => ?_)
        · have hm := iff' hc hm
          refine lv_iconst (pc := 38) (v := 0) hx hb d_behindBar_38 (by decide) ?_
          cases hm
          exact q_iret (pc := 39) B I rfl d_behindBar_39
        · have hm := ift hc hm
          refine lv_bipush (pc := 33) (v := 9) hx hb d_behindBar_33 (by decide) ?_
          refine lv_goto (pc := 35) (tgt := 39) hx hb d_behindBar_35 (by decide) ?_
          cases hm
          exact q_iret (pc := 39) B I rfl d_behindBar_39
      · have hm := ift hc hm
        refine lv_bipush (pc := 22) (v := 10) hx hb d_behindBar_22 (by decide) ?_
        refine lv_goto (pc := 24) (tgt := 39) hx hb d_behindBar_24 (by decide) ?_
        cases hm
        exact q_iret (pc := 39) B I rfl d_behindBar_39
    · have hm := ift hc hm
      refine lv_iload_n (pc := 12) (i := 1) hx hb d_behindBar_12 rfl (lx_get hl rfl) ?_
      refine lv_goto (pc := 13) (tgt := 39) hx hb d_behindBar_13 (by decide) ?_
      cases hm
      exact q_iret (pc := 39) B I rfl d_behindBar_39
def m_string_54 (N : Nat) (S : rS) : Option (Int32 × rS) :=
  b2 (m_fail N (S.1 3) S) (fun x2 S3 => if x2 = 0 ∨ x2 = 1 then (some (x2, S3)) else none)
set_option maxRecDepth 100000 in
set_option maxHeartbeats 4000000 in
theorem w_string_54 {S : rS} (B : BX p m c cb_string 4 s args (.code y_string cb_string 4 (some .boolean) :: wsA) RREF meth (some .boolean) D vwCl (tyL dA) b0 Z) (hR : RR b0 h Z) (hl : lx ls [some (.ref h), none, none, none]) (I : AI D vwCl b0 (rH dA h S hp0) sz s.heap H locs)  (hm : m_string_54 N   S = some (r, S')) : W p l e { frames := 2, cells := 0, slots := 0, locals := 43 } s m args below meth c H locs 0 0 (MQ below (CQ D vwCl b0 (some (.int r)) (rH dA h S' hp0) sz) args s 0 0 (fun q => b0 ≤ q)) (F0 m 54 ls []) := by
  obtain ⟨hx, hb, -⟩ := B.1
  unfold m_string_54 at hm
  refine lv_aload_n (pc := 54) (i := 0) hx hb d_string_54 rfl (lx_get hl rfl) ?_
  refine lv_aload_n (pc := 55) (i := 0) hx hb d_string_55 rfl (lx_get hl rfl) ?_
  refine r_get (pc := 56) (k := 3) (index := 76) B I (by decide) mF_76 rfl rfl d_string_56 ?_
  refine ob2 hm (fun x2 S3 e1 hm => ?_)
  refine r_call (pc := 59) (As := [.int (S.1 3)]) (rest := []) B hl rfl I (c_fail hR e1) kw_fail rfl (by decide) (by decide) rfl (by simp [Value.category]) d_string_59 (fun H locs I => ?_)
  by_cases hq : x2 = 0 ∨ x2 = 1
  · have hm := ift hq hm
    cases hm
    exact q_zret (pc := 62) B I rfl (zn hq) d_string_62
  · have hm := iff' hq hm
    cases hm
def m_string_125 (N : Nat) (K19 : Int32 → rS → Option (Int32 × rS)) (y1 : Int32) (y2 : Int32) (y3 : Int32) (S : rS) : Option (Int32 × rS) :=
  b2 (m_add N y2 y3 S) (fun x2 S3 => if x2 = 0 then (some (0, S3)) else (b1 (rP S3 3 ((S3.1 3) + 1)) (fun S4 => K19 y1 S4)))
set_option maxRecDepth 100000 in
set_option maxHeartbeats 4000000 in
theorem w_string_125 {K19 : Int32 → rS → Option (Int32 × rS)} {y1 : Int32} {y2 : Int32} {y3 : Int32} {S : rS} (hK19 : ∀ (y1 : Int32) (S : rS) (ls : Array Slot) (H : Heap) (locs : List Loc), lx ls [some (.ref h), some (.int y1), none, none] → AI D vwCl b0 (rH dA h S hp0) sz s.heap H locs → K19 y1 S = some (r, S') → W p l e { frames := 2, cells := 0, slots := 0, locals := 43 } s m args below meth c H locs 0 0 (MQ below (CQ D vwCl b0 (some (.int r)) (rH dA h S' hp0) sz) args s 0 0 (fun q => b0 ≤ q)) (F0 m 19 ls [])) (B : BX p m c cb_string 4 s args (.code y_string cb_string 4 (some .boolean) :: wsA) RREF meth (some .boolean) D vwCl (tyL dA) b0 Z) (hR : RR b0 h Z) (hl : lx ls [some (.ref h), some (.int y1), some (.int y2), some (.int y3)]) (I : AI D vwCl b0 (rH dA h S hp0) sz s.heap H locs)  (hm : m_string_125 N K19 y1 y2 y3 S = some (r, S')) : W p l e { frames := 2, cells := 0, slots := 0, locals := 43 } s m args below meth c H locs 0 0 (MQ below (CQ D vwCl b0 (some (.int r)) (rH dA h S' hp0) sz) args s 0 0 (fun q => b0 ≤ q)) (F0 m 125 ls []) := by
  obtain ⟨hx, hb, -⟩ := B.1
  unfold m_string_125 at hm
  refine lv_aload_n (pc := 125) (i := 0) hx hb d_string_125 rfl (lx_get hl rfl) ?_
  refine lv_iload_n (pc := 126) (i := 2) hx hb d_string_126 rfl (lx_get hl rfl) ?_
  refine lv_iload_n (pc := 127) (i := 3) hx hb d_string_127 rfl (lx_get hl rfl) ?_
  refine ob2 hm (fun x2 S3 e1 hm => ?_)
  refine r_call (pc := 128) (As := [.int y2, .int y3]) (rest := []) B hl rfl I (c_add hR e1) kw_add rfl (by decide) (by decide) rfl (by simp [Value.category]) d_string_128 (fun H locs I => ?_)
  refine lv_if_ne (pc := 131) (tgt := 136) hx hb d_string_131 (by decide) (fun hc => ?_) (fun hc => ?_)
  · have hm := iff' hc hm
    refine lv_aload_n (pc := 136) (i := 0) hx hb d_string_136 rfl (lx_get hl rfl) ?_
    refine lv_dup (pc := 137) hx hb d_string_137 rfl ?_
    refine r_get (pc := 138) (k := 3) (index := 76) B I (by decide) mF_76 rfl rfl d_string_138 ?_
    refine lv_iconst (pc := 141) (v := 1) hx hb d_string_141 (by decide) ?_
    refine lv_iadd (pc := 142) hx hb d_string_142 ?_
    refine ob1 hm (fun S4 e5 hm => ?_)
    refine r_put (pc := 143) (k := 3) (index := 76) B hR I (by decide) mF_76 rfl rfl rfl (fun _ _ => rfl) e5 d_string_143 (fun H locs I => ?_)
    refine lv_goto (pc := 146) (tgt := 19) hx hb d_string_146 (by decide) ?_
    exact hK19 _ _ _ _ _ (lx_sub (lo' := [some (.ref h), some (.int y1), none, none]) hl (by simp [lx_le])) I hm
  · have hm := ift hc hm
    refine lv_iconst (pc := 134) (v := 0) hx hb d_string_134 (by decide) ?_
    cases hm
    exact q_zret (pc := 135) B I rfl (by decide) d_string_135
def m_string_19F (N : Nat) (K19 : Int32 → rS → Option (Int32 × rS)) (y1 : Int32) (S : rS) : Option (Int32 × rS) :=
  b1 (m_here N S) (fun x2 => if x2 = y1 then (b1 (rP S 3 ((S.1 3) + 1)) (fun S3 => some (1, S3))) else (b1 (m_here N S) (fun x6 => if S.1 1 ≤ S.1 3 then (m_string_54 N  S) else (if x6 = 10 then (m_string_54 N  S) else (if S.1 25 = 30 then (b2 (m_fail N (S.1 3) S) (fun x17 S18 => if x17 = 0 ∨ x17 = 1 then (some (x17, S18)) else none)) else (if y1 = 34 then (if x6 = 92 then (b1 (rP S 3 ((S.1 3) + 1)) (fun S7 => b1 (m_here N S7) (fun x10 => b1 (m_behindBar N x10 S7) (fun x12 => if x12 = 0 then (b2 (m_fail N (S7.1 3) S7) (fun x14 S15 => if x14 = 0 ∨ x14 = 1 then (some (x14, S15)) else none)) else (m_string_125 N K19 y1 x12 (S.1 3) S7))))) else (m_string_125 N K19 y1 x6 (S.1 3) S)) else (m_string_125 N K19 y1 x6 (S.1 3) S)))))))
def m_string_19 (N : Nat) : Nat → Int32 → rS → Option (Int32 × rS)
  | 0, _, _ => none
  | k + 1, y1, S => m_string_19F N  (m_string_19 N  k) y1 S
set_option maxRecDepth 100000 in
set_option maxHeartbeats 4000000 in
theorem w_string_19F {K19 : Int32 → rS → Option (Int32 × rS)} {y1 : Int32} {S : rS} (hK19 : ∀ (y1 : Int32) (S : rS) (ls : Array Slot) (H : Heap) (locs : List Loc), lx ls [some (.ref h), some (.int y1), none, none] → AI D vwCl b0 (rH dA h S hp0) sz s.heap H locs → K19 y1 S = some (r, S') → W p l e { frames := 2, cells := 0, slots := 0, locals := 43 } s m args below meth c H locs 0 0 (MQ below (CQ D vwCl b0 (some (.int r)) (rH dA h S' hp0) sz) args s 0 0 (fun q => b0 ≤ q)) (F0 m 19 ls [])) (B : BX p m c cb_string 4 s args (.code y_string cb_string 4 (some .boolean) :: wsA) RREF meth (some .boolean) D vwCl (tyL dA) b0 Z) (hR : RR b0 h Z) (hl : lx ls [some (.ref h), some (.int y1), none, none]) (I : AI D vwCl b0 (rH dA h S hp0) sz s.heap H locs)  (hm : m_string_19F N  K19 y1 S = some (r, S')) : W p l e { frames := 2, cells := 0, slots := 0, locals := 43 } s m args below meth c H locs 0 0 (MQ below (CQ D vwCl b0 (some (.int r)) (rH dA h S' hp0) sz) args s 0 0 (fun q => b0 ≤ q)) (F0 m 19 ls []) := by
  obtain ⟨hx, hb, -⟩ := B.1
  unfold m_string_19F at hm
  refine lv_aload_n (pc := 19) (i := 0) hx hb d_string_19 rfl (lx_get hl rfl) ?_
  refine ob1 hm (fun x2 e1 hm => ?_)
  refine r_call (pc := 20) (As := []) (rest := []) B hl rfl I (c_here hR e1) kw_here rfl (by decide) (by decide) rfl (by simp [Value.category]) d_string_20 (fun H locs I => ?_)
  refine lv_iload_n (pc := 23) (i := 1) hx hb d_string_23 rfl (lx_get hl rfl) ?_
  refine lv_icmp_eq (pc := 24) (tgt := 149) hx hb d_string_24 (by decide) (fun hc => ?_) (fun hc => ?_)
  · have hm := ift hc hm
    refine lv_aload_n (pc := 149) (i := 0) hx hb d_string_149 rfl (lx_get hl rfl) ?_
    refine lv_dup (pc := 150) hx hb d_string_150 rfl ?_
    refine r_get (pc := 151) (k := 3) (index := 76) B I (by decide) mF_76 rfl rfl d_string_151 ?_
    refine lv_iconst (pc := 154) (v := 1) hx hb d_string_154 (by decide) ?_
    refine lv_iadd (pc := 155) hx hb d_string_155 ?_
    refine ob1 hm (fun S3 e4 hm => ?_)
    refine r_put (pc := 156) (k := 3) (index := 76) B hR I (by decide) mF_76 rfl rfl rfl (fun _ _ => rfl) e4 d_string_156 (fun H locs I => ?_)
    refine lv_iconst (pc := 159) (v := 1) hx hb d_string_159 (by decide) ?_
    cases hm
    exact q_zret (pc := 160) B I rfl (by decide) d_string_160
  · have hm := iff' hc hm
    refine lv_aload_n (pc := 27) (i := 0) hx hb d_string_27 rfl (lx_get hl rfl) ?_
    refine ob1 hm (fun x6 e5 hm => ?_)
    refine r_call (pc := 28) (As := []) (rest := []) B hl rfl I (c_here hR e5) kw_here rfl (by decide) (by decide) rfl (by simp [Value.category]) d_string_28 (fun H locs I => ?_)
    refine q_istore_n (pc := 31) (i := 2) (lo' := [some (.ref h), some (.int y1), some (.int x6), none]) hx hb d_string_31 rfl hl (Nat.le_of_ble_eq_true rfl) (lx_ci rfl) rfl (fun ls hl => ?_)
    refine lv_aload_n (pc := 32) (i := 0) hx hb d_string_32 rfl (lx_get hl rfl) ?_
    refine r_get (pc := 33) (k := 3) (index := 76) B I (by decide) mF_76 rfl rfl d_string_33 ?_
    refine q_istore_n (pc := 36) (i := 3) (lo' := [some (.ref h), some (.int y1), some (.int x6), some (.int (S.1 3))]) hx hb d_string_36 rfl hl (Nat.le_of_ble_eq_true rfl) (lx_ci rfl) rfl (fun ls hl => ?_)
    refine lv_aload_n (pc := 37) (i := 0) hx hb d_string_37 rfl (lx_get hl rfl) ?_
    refine r_get (pc := 38) (k := 3) (index := 76) B I (by decide) mF_76 rfl rfl d_string_38 ?_
    refine lv_aload_n (pc := 41) (i := 0) hx hb d_string_41 rfl (lx_get hl rfl) ?_
    refine r_get (pc := 42) (k := 1) (index := 73) B I (by decide) mF_73 rfl rfl d_string_42 ?_
    refine lv_icmp_ge (pc := 45) (tgt := 54) hx hb d_string_45 (by decide) (fun hc => ?_) (fun hc => ?_)
    · have hm := ift hc hm
      exact w_string_54  B hR (lx_sub (lo' := [some (.ref h), none, none, none]) hl (by simp [lx_le])) I hm
    · have hm := iff' hc hm
      refine lv_iload_n (pc := 48) (i := 2) hx hb d_string_48 rfl (lx_get hl rfl) ?_
      refine lv_bipush (pc := 49) (v := 10) hx hb d_string_49 (by decide) ?_
      refine lv_icmp_ne (pc := 51) (tgt := 63) hx hb d_string_51 (by decide) (fun hc => ?_) (fun hc => ?_)
      · have hm := iff' hc hm
        refine lv_aload_n (pc := 63) (i := 0) hx hb d_string_63 rfl (lx_get hl rfl) ?_
        refine r_get (pc := 64) (k := 25) (index := 99) B I (by decide) mF_99 rfl rfl d_string_64 ?_
        refine lv_bipush (pc := 67) (v := 30) hx hb d_string_67 (by decide) ?_
        refine lv_icmp_ne (pc := 69) (tgt := 81) hx hb d_string_69 (by decide) (fun hc => ?_) (fun hc => ?_)
        · have hm := iff' hc hm
          refine lv_iload_n (pc := 81) (i := 1) hx hb d_string_81 rfl (lx_get hl rfl) ?_
          refine lv_bipush (pc := 82) (v := 34) hx hb d_string_82 (by decide) ?_
          refine lv_icmp_ne (pc := 84) (tgt := 125) hx hb d_string_84 (by decide) (fun hc => ?_) (fun hc => ?_)
          · have hm := iff' hc hm
            exact w_string_125 hK19 B hR hl I hm
          · have hm := ift hc hm
            refine lv_iload_n (pc := 87) (i := 2) hx hb d_string_87 rfl (lx_get hl rfl) ?_
            refine lv_bipush (pc := 88) (v := 92) hx hb d_string_88 (by decide) ?_
            refine lv_icmp_ne (pc := 90) (tgt := 125) hx hb d_string_90 (by decide) (fun hc => ?_) (fun hc => ?_)
            · have hm := iff' hc hm
              exact w_string_125 hK19 B hR hl I hm
            · have hm := ift hc hm
              refine lv_aload_n (pc := 93) (i := 0) hx hb d_string_93 rfl (lx_get hl rfl) ?_
              refine lv_dup (pc := 94) hx hb d_string_94 rfl ?_
              refine r_get (pc := 95) (k := 3) (index := 76) B I (by decide) mF_76 rfl rfl d_string_95 ?_
              refine lv_iconst (pc := 98) (v := 1) hx hb d_string_98 (by decide) ?_
              refine lv_iadd (pc := 99) hx hb d_string_99 ?_
              refine ob1 hm (fun S7 e8 hm => ?_)
              refine r_put (pc := 100) (k := 3) (index := 76) B hR I (by decide) mF_76 rfl rfl rfl (fun _ _ => rfl) e8 d_string_100 (fun H locs I => ?_)
              refine lv_aload_n (pc := 103) (i := 0) hx hb d_string_103 rfl (lx_get hl rfl) ?_
              refine lv_aload_n (pc := 104) (i := 0) hx hb d_string_104 rfl (lx_get hl rfl) ?_
              refine ob1 hm (fun x10 e9 hm => ?_)
              refine r_call (pc := 105) (As := []) (rest := [.ref h]) B hl rfl I (c_here hR e9) kw_here rfl (by decide) (by decide) rfl (by simp [Value.category]) d_string_105 (fun H locs I => ?_)
              refine ob1 hm (fun x12 e11 hm => ?_)
              refine r_call (pc := 108) (As := [.int x10]) (rest := []) B hl rfl I (c_behindBar hR e11) kw_behindBar rfl (by decide) (by decide) rfl (by simp [Value.category]) d_string_108 (fun H locs I => ?_)
              refine q_istore_n (pc := 111) (i := 2) (lo' := [some (.ref h), some (.int y1), some (.int x12), some (.int (S.1 3))]) hx hb d_string_111 rfl hl (Nat.le_of_ble_eq_true rfl) (lx_ci rfl) rfl (fun ls hl => ?_)
              refine lv_iload_n (pc := 112) (i := 2) hx hb d_string_112 rfl (lx_get hl rfl) ?_
              refine lv_if_ne (pc := 113) (tgt := 125) hx hb d_string_113 (by decide) (fun hc => ?_) (fun hc => ?_)
              · have hm := iff' hc hm
                exact w_string_125 hK19 B hR hl I hm
              · have hm := ift hc hm
                refine lv_aload_n (pc := 116) (i := 0) hx hb d_string_116 rfl (lx_get hl rfl) ?_
                refine lv_aload_n (pc := 117) (i := 0) hx hb d_string_117 rfl (lx_get hl rfl) ?_
                refine r_get (pc := 118) (k := 3) (index := 76) B I (by decide) mF_76 rfl rfl d_string_118 ?_
                refine ob2 hm (fun x14 S15 e13 hm => ?_)
                refine r_call (pc := 121) (As := [.int (S7.1 3)]) (rest := []) B hl rfl I (c_fail hR e13) kw_fail rfl (by decide) (by decide) rfl (by simp [Value.category]) d_string_121 (fun H locs I => ?_)
                by_cases hq : x14 = 0 ∨ x14 = 1
                · have hm := ift hq hm
                  cases hm
                  exact q_zret (pc := 124) B I rfl (zn hq) d_string_124
                · have hm := iff' hq hm
                  cases hm
        · have hm := ift hc hm
          refine lv_aload_n (pc := 72) (i := 0) hx hb d_string_72 rfl (lx_get hl rfl) ?_
          refine lv_aload_n (pc := 73) (i := 0) hx hb d_string_73 rfl (lx_get hl rfl) ?_
          refine r_get (pc := 74) (k := 3) (index := 76) B I (by decide) mF_76 rfl rfl d_string_74 ?_
          refine ob2 hm (fun x17 S18 e16 hm => ?_)
          refine r_call (pc := 77) (As := [.int (S.1 3)]) (rest := []) B hl rfl I (c_fail hR e16) kw_fail rfl (by decide) (by decide) rfl (by simp [Value.category]) d_string_77 (fun H locs I => ?_)
          by_cases hq : x17 = 0 ∨ x17 = 1
          · have hm := ift hq hm
            cases hm
            exact q_zret (pc := 80) B I rfl (zn hq) d_string_80
          · have hm := iff' hq hm
            cases hm
      · have hm := ift hc hm
        exact w_string_54  B hR (lx_sub (lo' := [some (.ref h), none, none, none]) hl (by simp [lx_le])) I hm
set_option maxRecDepth 100000 in
set_option maxHeartbeats 4000000 in
theorem w_string_19i (B : BX p m c cb_string 4 s args (.code y_string cb_string 4 (some .boolean) :: wsA) RREF meth (some .boolean) D vwCl (tyL dA) b0 Z) (hR : RR b0 h Z) (k : Nat) (y1 : Int32) (S : rS) (ls : Array Slot) (H : Heap) (locs : List Loc) (hl : lx ls [some (.ref h), some (.int y1), none, none]) (I : AI D vwCl b0 (rH dA h S hp0) sz s.heap H locs)  (hm : m_string_19 N  k y1 S = some (r, S')) : W p l e { frames := 2, cells := 0, slots := 0, locals := 43 } s m args below meth c H locs 0 0 (MQ below (CQ D vwCl b0 (some (.int r)) (rH dA h S' hp0) sz) args s 0 0 (fun q => b0 ≤ q)) (F0 m 19 ls []) := by
  induction k generalizing y1 S ls H locs with
  | zero => cases hm
  | succ k ih => exact w_string_19F  (fun y1 S ls H locs hl I hm => ih y1 S ls H locs hl I hm) B hR hl I hm
theorem w_string_19 {y1 : Int32} {S : rS} (B : BX p m c cb_string 4 s args (.code y_string cb_string 4 (some .boolean) :: wsA) RREF meth (some .boolean) D vwCl (tyL dA) b0 Z) (hR : RR b0 h Z) (hl : lx ls [some (.ref h), some (.int y1), none, none]) (I : AI D vwCl b0 (rH dA h S hp0) sz s.heap H locs)  {k : Nat} (hm : m_string_19 N  k y1 S = some (r, S')) : W p l e { frames := 2, cells := 0, slots := 0, locals := 43 } s m args below meth c H locs 0 0 (MQ below (CQ D vwCl b0 (some (.int r)) (rH dA h S' hp0) sz) args s 0 0 (fun q => b0 ≤ q)) (F0 m 19 ls []) := w_string_19i  B hR k _ S ls H locs hl I hm
def m_string (N : Nat) (S : rS) : Option (Int32 × rS) :=
  b1 (m_here N S) (fun x2 => b1 (m_begin N S) (fun S4 => b1 (rP S4 3 ((S4.1 3) + 1)) (fun S5 => m_string_19 N  N x2 S5)))
set_option maxRecDepth 100000 in
set_option maxHeartbeats 4000000 in
theorem c_string {S S' : rS} {r : Int32} (hR : RR b0 h Z) (hm : m_string N  S = some (r, S')) : Ct l D vwCl (tyL dA) b0 Z y_string (.code y_string cb_string 4 (some .boolean) :: wsA) 2 43 [.ref h] (rH dA h S hp0) sz (some (.int r)) (rH dA h S' hp0) 0 0 := by
  refine ct_of (cc := cb_string) (maxL := 4) (ret := (some .boolean)) (lo0 := [some (.ref h), none, none, none]) hR.2 (by decide) rfl (by simp [lg_sl, Value.category]) rfl (by simp [lx_all, lv_args, Value.category]) ?_
  intro p e s m args below meth c ls B hnm hl I
  obtain ⟨hx, hb, -⟩ := B.1
  unfold m_string at hm
  refine lv_aload_n (pc := 0) (i := 0) hx hb d_string_0 rfl (lx_get hl rfl) ?_
  refine ob1 hm (fun x2 e1 hm => ?_)
  refine r_call (pc := 1) (As := []) (rest := []) B hl rfl I (c_here hR e1) kw_here rfl (by decide) (by decide) rfl (by simp [Value.category]) d_string_1 (fun H locs I => ?_)
  refine q_istore_n (pc := 4) (i := 1) (lo' := [some (.ref h), some (.int x2), none, none]) hx hb d_string_4 rfl hl (Nat.le_of_ble_eq_true rfl) (lx_cr rfl) rfl (fun ls hl => ?_)
  refine lv_aload_n (pc := 5) (i := 0) hx hb d_string_5 rfl (lx_get hl rfl) ?_
  refine ob1 hm (fun S4 e3 hm => ?_)
  refine r_call (pc := 6) (As := []) (rest := []) B hl rfl I (c_begin hR e3) kw_begin rfl (by decide) (by decide) rfl (by simp [Value.category]) d_string_6 (fun H locs I => ?_)
  refine lv_aload_n (pc := 9) (i := 0) hx hb d_string_9 rfl (lx_get hl rfl) ?_
  refine lv_dup (pc := 10) hx hb d_string_10 rfl ?_
  refine r_get (pc := 11) (k := 3) (index := 76) B I (by decide) mF_76 rfl rfl d_string_11 ?_
  refine lv_iconst (pc := 14) (v := 1) hx hb d_string_14 (by decide) ?_
  refine lv_iadd (pc := 15) hx hb d_string_15 ?_
  refine ob1 hm (fun S5 e6 hm => ?_)
  refine r_put (pc := 16) (k := 3) (index := 76) B hR I (by decide) mF_76 rfl rfl rfl (fun _ _ => rfl) e6 d_string_16 (fun H locs I => ?_)
  exact w_string_19  B hR hl I hm
def m_bare_4F (N : Nat) (K4 : rS → Option (Int32 × rS)) (S : rS) : Option (Int32 × rS) :=
  b1 (m_here N S) (fun x2 => b1 (m_isBare N x2 S) (fun x4 => if x4 = 0 then (if 0 < S.1 25 then (some (1, S)) else (b2 (m_fail N (S.1 3) S) (fun x6 S7 => if x6 = 0 then (some (0, S7)) else (some (1, S7))))) else (b1 (m_here N S) (fun x9 => b2 (m_add N x9 (S.1 3) S) (fun x11 S12 => if x11 = 0 then (some (0, S12)) else (b1 (rP S12 3 ((S12.1 3) + 1)) (fun S13 => K4 S13)))))))
def m_bare_4 (N : Nat) : Nat → rS → Option (Int32 × rS)
  | 0, _ => none
  | k + 1, S => m_bare_4F N  (m_bare_4 N  k)  S
set_option maxRecDepth 100000 in
set_option maxHeartbeats 4000000 in
theorem w_bare_4F {K4 : rS → Option (Int32 × rS)} {S : rS} (hK4 : ∀ (S : rS) (ls : Array Slot) (H : Heap) (locs : List Loc), lx ls [some (.ref h)] → AI D vwCl b0 (rH dA h S hp0) sz s.heap H locs → K4 S = some (r, S') → W p l e { frames := 2, cells := 0, slots := 0, locals := 43 } s m args below meth c H locs 0 0 (MQ below (CQ D vwCl b0 (some (.int r)) (rH dA h S' hp0) sz) args s 0 0 (fun q => b0 ≤ q)) (F0 m 4 ls [])) (B : BX p m c cb_bare 1 s args (.code y_bare cb_bare 1 (some .boolean) :: wsA) RREF meth (some .boolean) D vwCl (tyL dA) b0 Z) (hR : RR b0 h Z) (hl : lx ls [some (.ref h)]) (I : AI D vwCl b0 (rH dA h S hp0) sz s.heap H locs)  (hm : m_bare_4F N  K4  S = some (r, S')) : W p l e { frames := 2, cells := 0, slots := 0, locals := 43 } s m args below meth c H locs 0 0 (MQ below (CQ D vwCl b0 (some (.int r)) (rH dA h S' hp0) sz) args s 0 0 (fun q => b0 ≤ q)) (F0 m 4 ls []) := by
  obtain ⟨hx, hb, -⟩ := B.1
  unfold m_bare_4F at hm
  refine lv_aload_n (pc := 4) (i := 0) hx hb d_bare_4 rfl (lx_get hl rfl) ?_
  refine lv_aload_n (pc := 5) (i := 0) hx hb d_bare_5 rfl (lx_get hl rfl) ?_
  refine ob1 hm (fun x2 e1 hm => ?_)
  refine r_call (pc := 6) (As := []) (rest := [.ref h]) B hl rfl I (c_here hR e1) kw_here rfl (by decide) (by decide) rfl (by simp [Value.category]) d_bare_6 (fun H locs I => ?_)
  refine ob1 hm (fun x4 e3 hm => ?_)
  refine r_call (pc := 9) (As := [.int x2]) (rest := []) B hl rfl I (c_isBare hR e3) kw_isBare rfl (by decide) (by decide) rfl (by simp [Value.category]) d_bare_9 (fun H locs I => ?_)
  refine lv_if_eq (pc := 12) (tgt := 45) hx hb d_bare_12 (by decide) (fun hc => ?_) (fun hc => ?_)
  · have hm := ift hc hm
    refine lv_aload_n (pc := 45) (i := 0) hx hb d_bare_45 rfl (lx_get hl rfl) ?_
    refine r_get (pc := 46) (k := 25) (index := 99) B I (by decide) mF_99 rfl rfl d_bare_46 ?_
    refine lv_if_gt (pc := 49) (tgt := 63) hx hb d_bare_49 (by decide) (fun hc => ?_) (fun hc => ?_)
    · have hm := ift hc hm
      refine lv_iconst (pc := 63) (v := 1) hx hb d_bare_63 (by decide) ?_
      refine lv_goto (pc := 64) (tgt := 68) hx hb d_bare_64 (by decide) ?_
      cases hm
      exact q_zret (pc := 68) B I rfl (by decide) d_bare_68
    · have hm := iff' hc hm
      refine lv_aload_n (pc := 52) (i := 0) hx hb d_bare_52 rfl (lx_get hl rfl) ?_
      refine lv_aload_n (pc := 53) (i := 0) hx hb d_bare_53 rfl (lx_get hl rfl) ?_
      refine r_get (pc := 54) (k := 3) (index := 76) B I (by decide) mF_76 rfl rfl d_bare_54 ?_
      refine ob2 hm (fun x6 S7 e5 hm => ?_)
      refine r_call (pc := 57) (As := [.int (S.1 3)]) (rest := []) B hl rfl I (c_fail hR e5) kw_fail rfl (by decide) (by decide) rfl (by simp [Value.category]) d_bare_57 (fun H locs I => ?_)
      refine lv_if_eq (pc := 60) (tgt := 67) hx hb d_bare_60 (by decide) (fun hc => ?_) (fun hc => ?_)
      · have hm := ift hc hm
        refine lv_iconst (pc := 67) (v := 0) hx hb d_bare_67 (by decide) ?_
        cases hm
        exact q_zret (pc := 68) B I rfl (by decide) d_bare_68
      · have hm := iff' hc hm
        refine lv_iconst (pc := 63) (v := 1) hx hb d_bare_63 (by decide) ?_
        refine lv_goto (pc := 64) (tgt := 68) hx hb d_bare_64 (by decide) ?_
        cases hm
        exact q_zret (pc := 68) B I rfl (by decide) d_bare_68
  · have hm := iff' hc hm
    refine lv_aload_n (pc := 15) (i := 0) hx hb d_bare_15 rfl (lx_get hl rfl) ?_
    refine lv_aload_n (pc := 16) (i := 0) hx hb d_bare_16 rfl (lx_get hl rfl) ?_
    refine ob1 hm (fun x9 e8 hm => ?_)
    refine r_call (pc := 17) (As := []) (rest := [.ref h]) B hl rfl I (c_here hR e8) kw_here rfl (by decide) (by decide) rfl (by simp [Value.category]) d_bare_17 (fun H locs I => ?_)
    refine lv_aload_n (pc := 20) (i := 0) hx hb d_bare_20 rfl (lx_get hl rfl) ?_
    refine r_get (pc := 21) (k := 3) (index := 76) B I (by decide) mF_76 rfl rfl d_bare_21 ?_
    refine ob2 hm (fun x11 S12 e10 hm => ?_)
    refine r_call (pc := 24) (As := [.int x9, .int (S.1 3)]) (rest := []) B hl rfl I (c_add hR e10) kw_add rfl (by decide) (by decide) rfl (by simp [Value.category]) d_bare_24 (fun H locs I => ?_)
    refine lv_if_ne (pc := 27) (tgt := 32) hx hb d_bare_27 (by decide) (fun hc => ?_) (fun hc => ?_)
    · have hm := iff' hc hm
      refine lv_aload_n (pc := 32) (i := 0) hx hb d_bare_32 rfl (lx_get hl rfl) ?_
      refine lv_dup (pc := 33) hx hb d_bare_33 rfl ?_
      refine r_get (pc := 34) (k := 3) (index := 76) B I (by decide) mF_76 rfl rfl d_bare_34 ?_
      refine lv_iconst (pc := 37) (v := 1) hx hb d_bare_37 (by decide) ?_
      refine lv_iadd (pc := 38) hx hb d_bare_38 ?_
      refine ob1 hm (fun S13 e14 hm => ?_)
      refine r_put (pc := 39) (k := 3) (index := 76) B hR I (by decide) mF_76 rfl rfl rfl (fun _ _ => rfl) e14 d_bare_39 (fun H locs I => ?_)
      refine lv_goto (pc := 42) (tgt := 4) hx hb d_bare_42 (by decide) ?_
      exact hK4  _ _ _ _ hl I hm
    · have hm := ift hc hm
      refine lv_iconst (pc := 30) (v := 0) hx hb d_bare_30 (by decide) ?_
      cases hm
      exact q_zret (pc := 31) B I rfl (by decide) d_bare_31
set_option maxRecDepth 100000 in
set_option maxHeartbeats 4000000 in
theorem w_bare_4i (B : BX p m c cb_bare 1 s args (.code y_bare cb_bare 1 (some .boolean) :: wsA) RREF meth (some .boolean) D vwCl (tyL dA) b0 Z) (hR : RR b0 h Z) (k : Nat) (S : rS) (ls : Array Slot) (H : Heap) (locs : List Loc) (hl : lx ls [some (.ref h)]) (I : AI D vwCl b0 (rH dA h S hp0) sz s.heap H locs)  (hm : m_bare_4 N  k  S = some (r, S')) : W p l e { frames := 2, cells := 0, slots := 0, locals := 43 } s m args below meth c H locs 0 0 (MQ below (CQ D vwCl b0 (some (.int r)) (rH dA h S' hp0) sz) args s 0 0 (fun q => b0 ≤ q)) (F0 m 4 ls []) := by
  induction k generalizing  S ls H locs with
  | zero => cases hm
  | succ k ih => exact w_bare_4F  (fun  S ls H locs hl I hm => ih  S ls H locs hl I hm) B hR hl I hm
theorem w_bare_4 {S : rS} (B : BX p m c cb_bare 1 s args (.code y_bare cb_bare 1 (some .boolean) :: wsA) RREF meth (some .boolean) D vwCl (tyL dA) b0 Z) (hR : RR b0 h Z) (hl : lx ls [some (.ref h)]) (I : AI D vwCl b0 (rH dA h S hp0) sz s.heap H locs)  {k : Nat} (hm : m_bare_4 N  k  S = some (r, S')) : W p l e { frames := 2, cells := 0, slots := 0, locals := 43 } s m args below meth c H locs 0 0 (MQ below (CQ D vwCl b0 (some (.int r)) (rH dA h S' hp0) sz) args s 0 0 (fun q => b0 ≤ q)) (F0 m 4 ls []) := w_bare_4i  B hR k  S ls H locs hl I hm
def m_bare (N : Nat) (S : rS) : Option (Int32 × rS) :=
  b1 (m_begin N S) (fun S2 => m_bare_4 N  N S2)
set_option maxRecDepth 100000 in
set_option maxHeartbeats 4000000 in
theorem c_bare {S S' : rS} {r : Int32} (hR : RR b0 h Z) (hm : m_bare N  S = some (r, S')) : Ct l D vwCl (tyL dA) b0 Z y_bare (.code y_bare cb_bare 1 (some .boolean) :: wsA) 2 43 [.ref h] (rH dA h S hp0) sz (some (.int r)) (rH dA h S' hp0) 0 0 := by
  refine ct_of (cc := cb_bare) (maxL := 1) (ret := (some .boolean)) (lo0 := [some (.ref h)]) hR.2 (by decide) rfl (by simp [lg_sl, Value.category]) rfl (by simp [lx_all, lv_args, Value.category]) ?_
  intro p e s m args below meth c ls B hnm hl I
  obtain ⟨hx, hb, -⟩ := B.1
  unfold m_bare at hm
  refine lv_aload_n (pc := 0) (i := 0) hx hb d_bare_0 rfl (lx_get hl rfl) ?_
  refine ob1 hm (fun S2 e1 hm => ?_)
  refine r_call (pc := 1) (As := []) (rest := []) B hl rfl I (c_begin hR e1) kw_begin rfl (by decide) (by decide) rfl (by simp [Value.category]) d_bare_1 (fun H locs I => ?_)
  exact w_bare_4  B hR hl I hm
end RW
