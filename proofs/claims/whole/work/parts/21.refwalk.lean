section RW
variable {p : Program} {l : Launch} {e : Env} {s : State} {m : MethodId} {args : Array Value} {below : List Frame} {meth : Method} {c : Code} {H : Heap} {locs : List Loc}
variable {ls : Array Slot} {D : va_G} {dA : Nat → ClassId} {hp0 : aH} {sz b0 h N : Nat} {S' : rS} {r : Int32} {Z : State → Prop}
def m_path_106 (N : Nat) (K7 : Int32 → rS → Option (Int32 × rS)) (z0 : Int32) (S : rS) : Option (Int32 × rS) :=
  if z0 = 0 then (K7 z0 S) else (b1 (rP S 3 ((S.1 3) + 1)) (fun S1 => b1 (m_blanks N S1) (fun S4 => K7 z0 S4)))
set_option maxRecDepth 100000 in
set_option maxHeartbeats 4000000 in
theorem w_path_106 {K7 : Int32 → rS → Option (Int32 × rS)} {z0 : Int32} {S : rS} (hK7 : ∀ (y1 : Int32) (S : rS) (ls : Array Slot) (H : Heap) (locs : List Loc), lx ls [some (.ref h), some (.int y1)] → AI D vwCl b0 (rH dA h S hp0) sz s.heap H locs → K7 y1 S = some (r, S') → W p l e { frames := 3, cells := 0, slots := 0, locals := 66 } s m args below meth c H locs 0 0 (MQ below (CQ D vwCl b0 (some (.int r)) (rH dA h S' hp0) sz) args s 0 0 (fun q => b0 ≤ q)) (F0 m 7 ls [])) (B : BX p m c cb_path 2 s args (.code y_path cb_path 2 (some .boolean) :: wsA) RREF meth (some .boolean) D vwCl (tyL dA) b0 Z) (hR : RR b0 h Z) (hl : lx ls [some (.ref h), none]) (I : AI D vwCl b0 (rH dA h S hp0) sz s.heap H locs)  (hm : m_path_106 N K7 z0 S = some (r, S')) : W p l e { frames := 3, cells := 0, slots := 0, locals := 66 } s m args below meth c H locs 0 0 (MQ below (CQ D vwCl b0 (some (.int r)) (rH dA h S' hp0) sz) args s 0 0 (fun q => b0 ≤ q)) (F0 m 106 ls [.int z0]) := by
  obtain ⟨hx, hb, -⟩ := B.1
  unfold m_path_106 at hm
  refine q_istore_n (pc := 106) (i := 1) (lo' := [some (.ref h), some (.int z0)]) hx hb d_path_106 rfl hl (Nat.le_of_ble_eq_true rfl) (lx_cr rfl) rfl (fun ls hl => ?_)
  refine lv_iload_n (pc := 107) (i := 1) hx hb d_path_107 rfl (lx_get hl rfl) ?_
  refine lv_if_eq (pc := 108) (tgt := 7) hx hb d_path_108 (by decide) (fun hc => ?_) (fun hc => ?_)
  · have hm := ift hc hm
    exact hK7 _ _ _ _ _ hl I hm
  · have hm := iff' hc hm
    refine lv_aload_n (pc := 111) (i := 0) hx hb d_path_111 rfl (lx_get hl rfl) ?_
    refine lv_dup (pc := 112) hx hb d_path_112 rfl ?_
    refine r_get (pc := 113) (k := 3) (index := 76) B I (by decide) mF_76 rfl rfl d_path_113 ?_
    refine lv_iconst (pc := 116) (v := 1) hx hb d_path_116 (by decide) ?_
    refine lv_iadd (pc := 117) hx hb d_path_117 ?_
    refine ob1 hm (fun S1 e2 hm => ?_)
    refine r_put (pc := 118) (k := 3) (index := 76) B hR I (by decide) mF_76 rfl rfl rfl (fun _ _ => rfl) e2 d_path_118 (fun H locs I => ?_)
    refine lv_aload_n (pc := 121) (i := 0) hx hb d_path_121 rfl (lx_get hl rfl) ?_
    refine ob1 hm (fun S4 e3 hm => ?_)
    refine r_call (pc := 122) (As := []) (rest := []) B hl rfl I (c_blanks hR e3) kw_blanks rfl (by decide) (by decide) rfl (by simp [Value.category]) d_path_122 (fun H locs I => ?_)
    refine lv_goto (pc := 125) (tgt := 7) hx hb d_path_125 (by decide) ?_
    exact hK7 _ _ _ _ _ hl I hm
def m_path_52 (N : Nat) (K7 : Int32 → rS → Option (Int32 × rS)) (S : rS) : Option (Int32 × rS) :=
  b1 (rT S 15 (S.1 20) (S.1 24)) (fun S1 => b1 (rT S1 16 (S1.1 20) (S1.1 25)) (fun S3 => b1 (rP S3 20 ((S3.1 20) + 1)) (fun S5 => b1 (m_blanks N S5) (fun S8 => b1 (m_here N S8) (fun x10 => if x10 = 46 then (m_path_106 N K7 1 S8) else (m_path_106 N K7 0 S8))))))
set_option maxRecDepth 100000 in
set_option maxHeartbeats 4000000 in
theorem w_path_52 {K7 : Int32 → rS → Option (Int32 × rS)} {S : rS} (hK7 : ∀ (y1 : Int32) (S : rS) (ls : Array Slot) (H : Heap) (locs : List Loc), lx ls [some (.ref h), some (.int y1)] → AI D vwCl b0 (rH dA h S hp0) sz s.heap H locs → K7 y1 S = some (r, S') → W p l e { frames := 3, cells := 0, slots := 0, locals := 66 } s m args below meth c H locs 0 0 (MQ below (CQ D vwCl b0 (some (.int r)) (rH dA h S' hp0) sz) args s 0 0 (fun q => b0 ≤ q)) (F0 m 7 ls [])) (B : BX p m c cb_path 2 s args (.code y_path cb_path 2 (some .boolean) :: wsA) RREF meth (some .boolean) D vwCl (tyL dA) b0 Z) (hR : RR b0 h Z) (hl : lx ls [some (.ref h), none]) (I : AI D vwCl b0 (rH dA h S hp0) sz s.heap H locs)  (hm : m_path_52 N K7  S = some (r, S')) : W p l e { frames := 3, cells := 0, slots := 0, locals := 66 } s m args below meth c H locs 0 0 (MQ below (CQ D vwCl b0 (some (.int r)) (rH dA h S' hp0) sz) args s 0 0 (fun q => b0 ≤ q)) (F0 m 52 ls []) := by
  obtain ⟨hx, hb, -⟩ := B.1
  unfold m_path_52 at hm
  refine lv_aload_n (pc := 52) (i := 0) hx hb d_path_52 rfl (lx_get hl rfl) ?_
  refine r_get (pc := 53) (k := 22) (index := 52) B I (by decide) mF_52 rfl rfl d_path_53 ?_
  refine lv_aload_n (pc := 56) (i := 0) hx hb d_path_56 rfl (lx_get hl rfl) ?_
  refine r_get (pc := 57) (k := 20) (index := 119) B I (by decide) mF_119 rfl rfl d_path_57 ?_
  refine lv_aload_n (pc := 60) (i := 0) hx hb d_path_60 rfl (lx_get hl rfl) ?_
  refine r_get (pc := 61) (k := 24) (index := 96) B I (by decide) mF_96 rfl rfl d_path_61 ?_
  refine ob1 hm (fun S1 e2 hm => ?_)
  refine r_ast (pc := 64) (j := 15) B hR I (by decide) (by decide) e2 d_path_64 (fun H locs I => ?_)
  refine lv_aload_n (pc := 65) (i := 0) hx hb d_path_65 rfl (lx_get hl rfl) ?_
  refine r_get (pc := 66) (k := 23) (index := 55) B I (by decide) mF_55 rfl rfl d_path_66 ?_
  refine lv_aload_n (pc := 69) (i := 0) hx hb d_path_69 rfl (lx_get hl rfl) ?_
  refine r_get (pc := 70) (k := 20) (index := 119) B I (by decide) mF_119 rfl rfl d_path_70 ?_
  refine lv_aload_n (pc := 73) (i := 0) hx hb d_path_73 rfl (lx_get hl rfl) ?_
  refine r_get (pc := 74) (k := 25) (index := 99) B I (by decide) mF_99 rfl rfl d_path_74 ?_
  refine ob1 hm (fun S3 e4 hm => ?_)
  refine r_ast (pc := 77) (j := 16) B hR I (by decide) (by decide) e4 d_path_77 (fun H locs I => ?_)
  refine lv_aload_n (pc := 78) (i := 0) hx hb d_path_78 rfl (lx_get hl rfl) ?_
  refine lv_dup (pc := 79) hx hb d_path_79 rfl ?_
  refine r_get (pc := 80) (k := 20) (index := 119) B I (by decide) mF_119 rfl rfl d_path_80 ?_
  refine lv_iconst (pc := 83) (v := 1) hx hb d_path_83 (by decide) ?_
  refine lv_iadd (pc := 84) hx hb d_path_84 ?_
  refine ob1 hm (fun S5 e6 hm => ?_)
  refine r_put (pc := 85) (k := 20) (index := 119) B hR I (by decide) mF_119 rfl rfl rfl (fun _ _ => rfl) e6 d_path_85 (fun H locs I => ?_)
  refine lv_aload_n (pc := 88) (i := 0) hx hb d_path_88 rfl (lx_get hl rfl) ?_
  refine ob1 hm (fun S8 e7 hm => ?_)
  refine r_call (pc := 89) (As := []) (rest := []) B hl rfl I (c_blanks hR e7) kw_blanks rfl (by decide) (by decide) rfl (by simp [Value.category]) d_path_89 (fun H locs I => ?_)
  refine lv_aload_n (pc := 92) (i := 0) hx hb d_path_92 rfl (lx_get hl rfl) ?_
  refine ob1 hm (fun x10 e9 hm => ?_)
  refine r_call (pc := 93) (As := []) (rest := []) B hl rfl I (c_here hR e9) kw_here rfl (by decide) (by decide) rfl (by simp [Value.category]) d_path_93 (fun H locs I => ?_)
  refine lv_bipush (pc := 96) (v := 46) hx hb d_path_96 (by decide) ?_
  refine lv_icmp_ne (pc := 98) (tgt := 105) hx hb d_path_98 (by decide) (fun hc => ?_) (fun hc => ?_)
  · have hm := iff' hc hm
    refine lv_iconst (pc := 105) (v := 0) hx hb d_path_105 (by decide) ?_
    exact w_path_106 hK7 B hR hl I hm
  · have hm := ift hc hm
    refine lv_iconst (pc := 101) (v := 1) hx hb d_path_101 (by decide) ?_
    refine lv_goto (pc := 102) (tgt := 106) hx hb d_path_102 (by decide) ?_
    exact w_path_106 hK7 B hR hl I hm
def m_path_7F (N : Nat) (K7 : Int32 → rS → Option (Int32 × rS)) (y1 : Int32) (S : rS) : Option (Int32 × rS) :=
  if y1 = 0 then (some (1, S)) else (b1 (rT S 14 (S.1 20) (S.1 3)) (fun S1 => b1 (m_here N S1) (fun x4 => if x4 = 34 then (b2 (m_string N S1) (fun x9 S10 => if x9 = 0 then (some (0, S10)) else (m_path_52 N K7 S10))) else (b2 (m_bare N S1) (fun x6 S7 => if x6 = 0 then (some (0, S7)) else (m_path_52 N K7 S7))))))
def m_path_7 (N : Nat) : Nat → Int32 → rS → Option (Int32 × rS)
  | 0, _, _ => none
  | k + 1, y1, S => m_path_7F N  (m_path_7 N  k) y1 S
set_option maxRecDepth 100000 in
set_option maxHeartbeats 4000000 in
theorem w_path_7F {K7 : Int32 → rS → Option (Int32 × rS)} {y1 : Int32} {S : rS} (hK7 : ∀ (y1 : Int32) (S : rS) (ls : Array Slot) (H : Heap) (locs : List Loc), lx ls [some (.ref h), some (.int y1)] → AI D vwCl b0 (rH dA h S hp0) sz s.heap H locs → K7 y1 S = some (r, S') → W p l e { frames := 3, cells := 0, slots := 0, locals := 66 } s m args below meth c H locs 0 0 (MQ below (CQ D vwCl b0 (some (.int r)) (rH dA h S' hp0) sz) args s 0 0 (fun q => b0 ≤ q)) (F0 m 7 ls [])) (B : BX p m c cb_path 2 s args (.code y_path cb_path 2 (some .boolean) :: wsA) RREF meth (some .boolean) D vwCl (tyL dA) b0 Z) (hR : RR b0 h Z) (hl : lx ls [some (.ref h), some (.int y1)]) (I : AI D vwCl b0 (rH dA h S hp0) sz s.heap H locs)  (hm : m_path_7F N  K7 y1 S = some (r, S')) : W p l e { frames := 3, cells := 0, slots := 0, locals := 66 } s m args below meth c H locs 0 0 (MQ below (CQ D vwCl b0 (some (.int r)) (rH dA h S' hp0) sz) args s 0 0 (fun q => b0 ≤ q)) (F0 m 7 ls []) := by
  obtain ⟨hx, hb, -⟩ := B.1
  unfold m_path_7F at hm
  refine lv_iload_n (pc := 7) (i := 1) hx hb d_path_7 rfl (lx_get hl rfl) ?_
  refine lv_if_eq (pc := 8) (tgt := 128) hx hb d_path_8 (by decide) (fun hc => ?_) (fun hc => ?_)
  · have hm := ift hc hm
    refine lv_iconst (pc := 128) (v := 1) hx hb d_path_128 (by decide) ?_
    cases hm
    exact q_zret (pc := 129) B I rfl (by decide) d_path_129
  · have hm := iff' hc hm
    refine lv_aload_n (pc := 11) (i := 0) hx hb d_path_11 rfl (lx_get hl rfl) ?_
    refine r_get (pc := 12) (k := 21) (index := 49) B I (by decide) mF_49 rfl rfl d_path_12 ?_
    refine lv_aload_n (pc := 15) (i := 0) hx hb d_path_15 rfl (lx_get hl rfl) ?_
    refine r_get (pc := 16) (k := 20) (index := 119) B I (by decide) mF_119 rfl rfl d_path_16 ?_
    refine lv_aload_n (pc := 19) (i := 0) hx hb d_path_19 rfl (lx_get hl rfl) ?_
    refine r_get (pc := 20) (k := 3) (index := 76) B I (by decide) mF_76 rfl rfl d_path_20 ?_
    refine ob1 hm (fun S1 e2 hm => ?_)
    refine r_ast (pc := 23) (j := 14) B hR I (by decide) (by decide) e2 d_path_23 (fun H locs I => ?_)
    refine lv_aload_n (pc := 24) (i := 0) hx hb d_path_24 rfl (lx_get hl rfl) ?_
    refine ob1 hm (fun x4 e3 hm => ?_)
    refine r_call (pc := 25) (As := []) (rest := []) B hl rfl I (c_here hR e3) kw_here rfl (by decide) (by decide) rfl (by simp [Value.category]) d_path_25 (fun H locs I => ?_)
    refine lv_bipush (pc := 28) (v := 34) hx hb d_path_28 (by decide) ?_
    refine lv_icmp_ne (pc := 30) (tgt := 43) hx hb d_path_30 (by decide) (fun hc => ?_) (fun hc => ?_)
    · have hm := iff' hc hm
      refine lv_aload_n (pc := 43) (i := 0) hx hb d_path_43 rfl (lx_get hl rfl) ?_
      refine ob2 hm (fun x6 S7 e5 hm => ?_)
      refine r_call (pc := 44) (As := []) (rest := []) B hl rfl I (c_bare hR e5) kw_bare rfl (by decide) (by decide) rfl (by simp [Value.category]) d_path_44 (fun H locs I => ?_)
      refine lv_if_ne (pc := 47) (tgt := 52) hx hb d_path_47 (by decide) (fun hc => ?_) (fun hc => ?_)
      · have hm := iff' hc hm
        exact w_path_52 hK7 B hR (lx_sub (lo' := [some (.ref h), none]) hl (by simp [lx_le])) I hm
      · have hm := ift hc hm
        refine lv_iconst (pc := 50) (v := 0) hx hb d_path_50 (by decide) ?_
        cases hm
        exact q_zret (pc := 51) B I rfl (by decide) d_path_51
    · have hm := ift hc hm
      refine lv_aload_n (pc := 33) (i := 0) hx hb d_path_33 rfl (lx_get hl rfl) ?_
      refine ob2 hm (fun x9 S10 e8 hm => ?_)
      refine r_call (pc := 34) (As := []) (rest := []) B hl rfl I (c_string hR e8) kw_string rfl (by decide) (by decide) rfl (by simp [Value.category]) d_path_34 (fun H locs I => ?_)
      refine lv_if_eq (pc := 37) (tgt := 50) hx hb d_path_37 (by decide) (fun hc => ?_) (fun hc => ?_)
      · have hm := ift hc hm
        refine lv_iconst (pc := 50) (v := 0) hx hb d_path_50 (by decide) ?_
        cases hm
        exact q_zret (pc := 51) B I rfl (by decide) d_path_51
      · have hm := iff' hc hm
        refine lv_goto (pc := 40) (tgt := 52) hx hb d_path_40 (by decide) ?_
        exact w_path_52 hK7 B hR (lx_sub (lo' := [some (.ref h), none]) hl (by simp [lx_le])) I hm
set_option maxRecDepth 100000 in
set_option maxHeartbeats 4000000 in
theorem w_path_7i (B : BX p m c cb_path 2 s args (.code y_path cb_path 2 (some .boolean) :: wsA) RREF meth (some .boolean) D vwCl (tyL dA) b0 Z) (hR : RR b0 h Z) (k : Nat) (y1 : Int32) (S : rS) (ls : Array Slot) (H : Heap) (locs : List Loc) (hl : lx ls [some (.ref h), some (.int y1)]) (I : AI D vwCl b0 (rH dA h S hp0) sz s.heap H locs)  (hm : m_path_7 N  k y1 S = some (r, S')) : W p l e { frames := 3, cells := 0, slots := 0, locals := 66 } s m args below meth c H locs 0 0 (MQ below (CQ D vwCl b0 (some (.int r)) (rH dA h S' hp0) sz) args s 0 0 (fun q => b0 ≤ q)) (F0 m 7 ls []) := by
  induction k generalizing y1 S ls H locs with
  | zero => cases hm
  | succ k ih => exact w_path_7F  (fun y1 S ls H locs hl I hm => ih y1 S ls H locs hl I hm) B hR hl I hm
theorem w_path_7 {y1 : Int32} {S : rS} (B : BX p m c cb_path 2 s args (.code y_path cb_path 2 (some .boolean) :: wsA) RREF meth (some .boolean) D vwCl (tyL dA) b0 Z) (hR : RR b0 h Z) (hl : lx ls [some (.ref h), some (.int y1)]) (I : AI D vwCl b0 (rH dA h S hp0) sz s.heap H locs)  {k : Nat} (hm : m_path_7 N  k y1 S = some (r, S')) : W p l e { frames := 3, cells := 0, slots := 0, locals := 66 } s m args below meth c H locs 0 0 (MQ below (CQ D vwCl b0 (some (.int r)) (rH dA h S' hp0) sz) args s 0 0 (fun q => b0 ≤ q)) (F0 m 7 ls []) := w_path_7i  B hR k _ S ls H locs hl I hm
def m_path (N : Nat) (S : rS) : Option (Int32 × rS) :=
  b1 (rP S 20 0) (fun S1 => m_path_7 N  N 1 S1)
set_option maxRecDepth 100000 in
set_option maxHeartbeats 4000000 in
theorem c_path {S S' : rS} {r : Int32} (hR : RR b0 h Z) (hm : m_path N  S = some (r, S')) : Ct l D vwCl (tyL dA) b0 Z y_path (.code y_path cb_path 2 (some .boolean) :: wsA) 3 66 [.ref h] (rH dA h S hp0) sz (some (.int r)) (rH dA h S' hp0) 0 0 := by
  refine ct_of (cc := cb_path) (maxL := 2) (ret := (some .boolean)) (lo0 := [some (.ref h), none]) hR.2 (by decide) rfl (by simp [lg_sl, Value.category]) rfl (by simp [lx_all, lv_args, Value.category]) ?_
  intro p e s m args below meth c ls B hnm hl I
  obtain ⟨hx, hb, -⟩ := B.1
  unfold m_path at hm
  refine lv_aload_n (pc := 0) (i := 0) hx hb d_path_0 rfl (lx_get hl rfl) ?_
  refine lv_iconst (pc := 1) (v := 0) hx hb d_path_1 (by decide) ?_
  refine ob1 hm (fun S1 e2 hm => ?_)
  refine r_put (pc := 2) (k := 20) (index := 119) B hR I (by decide) mF_119 rfl rfl rfl (fun _ _ => rfl) e2 d_path_2 (fun H locs I => ?_)
  refine lv_iconst (pc := 5) (v := 1) hx hb d_path_5 (by decide) ?_
  refine q_istore_n (pc := 6) (i := 1) (lo' := [some (.ref h), some (.int 1)]) hx hb d_path_6 rfl hl (Nat.le_of_ble_eq_true rfl) (lx_cr rfl) rfl (fun ls hl => ?_)
  exact w_path_7  B hR hl I hm
def m_isTable (N : Nat) (p1 : Int32) (S : rS) : Option Int32 :=
  b1 (rL S 3 p1) (fun x1 => if x1 ≤ 6 then (some 0) else (some 1))
set_option maxRecDepth 100000 in
set_option maxHeartbeats 4000000 in
theorem c_isTable {p1 : Int32} {S : rS} {r : Int32} (hR : RR b0 h Z) (hm : m_isTable N p1 S = some r) : Ct l D vwCl (tyL dA) b0 Z y_isTable (.code y_isTable cb_isTable 2 (some .boolean) :: wsA) 0 0 [.ref h, .int p1] (rH dA h S hp0) sz (some (.int r)) (rH dA h S hp0) 0 0 := by
  refine ct_of (cc := cb_isTable) (maxL := 2) (ret := (some .boolean)) (lo0 := [some (.ref h), some (.int p1)]) hR.2 (by decide) rfl (by simp [lg_sl, Value.category]) rfl (by simp [lx_all, lv_args, Value.category]) ?_
  intro p e s m args below meth c ls B hnm hl I
  obtain ⟨hx, hb, -⟩ := B.1
  unfold m_isTable at hm
  refine lv_aload_n (pc := 0) (i := 0) hx hb d_isTable_0 rfl (lx_get hl rfl) ?_
  refine r_get (pc := 1) (k := 7) (index := 16) B I (by decide) mF_16 rfl rfl d_isTable_1 ?_
  refine lv_iload_n (pc := 4) (i := 1) hx hb d_isTable_4 rfl (lx_get hl rfl) ?_
  refine ob1 hm (fun x1 e2 hm => ?_)
  refine r_ald (pc := 5) (j := 3) B I (by decide) (by decide) e2 d_isTable_5 ?_
  refine lv_bipush (pc := 6) (v := 6) hx hb d_isTable_6 (by decide) ?_
  refine lv_icmp_le (pc := 8) (tgt := 15) hx hb d_isTable_8 (by decide) (fun hc => ?_) (fun hc => ?_)
  · have hm := ift hc hm
    refine lv_iconst (pc := 15) (v := 0) hx hb d_isTable_15 (by decide) ?_
    cases hm
    exact q_zret (pc := 16) B I rfl (by decide) d_isTable_16
  · have hm := iff' hc hm
    refine lv_iconst (pc := 11) (v := 1) hx hb d_isTable_11 (by decide) ?_
    refine lv_goto (pc := 12) (tgt := 16) hx hb d_isTable_12 (by decide) ?_
    cases hm
    exact q_zret (pc := 16) B I rfl (by decide) d_isTable_16
def m_make_111 (N : Nat) (y2 : Int32) (y3 : Int32) (S : rS) : Option (Int32 × rS) :=
  b1 (rT S 7 y2 y3) (fun S1 => b1 (rL S1 9 y2) (fun x3 => b1 (rT S1 9 y2 (x3 + 1)) (fun S5 => some (y3, S5))))
set_option maxRecDepth 100000 in
set_option maxHeartbeats 4000000 in
theorem w_make_111 {y2 : Int32} {y3 : Int32} {S : rS} (B : BX p m c cb_make 4 s args (.code y_make cb_make 4 (some .int) :: wsA) RREF meth (some .int) D vwCl (tyL dA) b0 Z) (hR : RR b0 h Z) (hl : lx ls [some (.ref h), none, some (.int y2), some (.int y3)]) (I : AI D vwCl b0 (rH dA h S hp0) sz s.heap H locs)  (hm : m_make_111 N  y2 y3 S = some (r, S')) : W p l e { frames := 0, cells := 0, slots := 0, locals := 0 } s m args below meth c H locs 0 0 (MQ below (CQ D vwCl b0 (some (.int r)) (rH dA h S' hp0) sz) args s 0 0 (fun q => b0 ≤ q)) (F0 m 111 ls []) := by
  obtain ⟨hx, hb, -⟩ := B.1
  unfold m_make_111 at hm
  refine lv_aload_n (pc := 111) (i := 0) hx hb d_make_111 rfl (lx_get hl rfl) ?_
  refine r_get (pc := 112) (k := 11) (index := 28) B I (by decide) mF_28 rfl rfl d_make_112 ?_
  refine lv_iload_n (pc := 115) (i := 2) hx hb d_make_115 rfl (lx_get hl rfl) ?_
  refine lv_iload_n (pc := 116) (i := 3) hx hb d_make_116 rfl (lx_get hl rfl) ?_
  refine ob1 hm (fun S1 e2 hm => ?_)
  refine r_ast (pc := 117) (j := 7) B hR I (by decide) (by decide) e2 d_make_117 (fun H locs I => ?_)
  refine lv_aload_n (pc := 118) (i := 0) hx hb d_make_118 rfl (lx_get hl rfl) ?_
  refine r_get (pc := 119) (k := 13) (index := 34) B I (by decide) mF_34 rfl rfl d_make_119 ?_
  refine lv_iload_n (pc := 122) (i := 2) hx hb d_make_122 rfl (lx_get hl rfl) ?_
  refine lv_dup2_11 (pc := 123) hx hb d_make_123 rfl rfl ?_
  refine ob1 hm (fun x3 e4 hm => ?_)
  refine r_ald (pc := 124) (j := 9) B I (by decide) (by decide) e4 d_make_124 ?_
  refine lv_iconst (pc := 125) (v := 1) hx hb d_make_125 (by decide) ?_
  refine lv_iadd (pc := 126) hx hb d_make_126 ?_
  refine ob1 hm (fun S5 e6 hm => ?_)
  refine r_ast (pc := 127) (j := 9) B hR I (by decide) (by decide) e6 d_make_127 (fun H locs I => ?_)
  refine lv_iload_n (pc := 128) (i := 3) hx hb d_make_128 rfl (lx_get hl rfl) ?_
  cases hm
  exact q_iret (pc := 129) B I rfl d_make_129
def m_make (N : Nat) (p1 : Int32) (p2 : Int32) (S : rS) : Option (Int32 × rS) :=
  b1 (rL S 2 (S.1 19)) (fun x1 => b1 (rL S 2 (S.1 19)) (fun x3 => b1 (rT S 2 (S.1 19) (x3 + 1)) (fun S5 => b1 (rT S5 3 ((260 * (S.1 19)) + x1) p1) (fun S7 => b1 (rT S7 5 ((260 * (S.1 19)) + x1) p2) (fun S9 => b1 (rT S9 6 ((260 * (S.1 19)) + x1) (-1)) (fun S11 => b1 (rT S11 8 ((260 * (S.1 19)) + x1) (-1)) (fun S13 => b1 (rT S13 9 ((260 * (S.1 19)) + x1) 0) (fun S15 => b1 (rT S15 4 ((260 * (S.1 19)) + x1) 0) (fun S17 => if p2 = (-1) then (some ((260 * (S.1 19)) + x1, S17)) else (b1 (rL S17 6 p2) (fun x19 => if x19 = (-1) then (b1 (rT S17 6 p2 ((260 * (S.1 19)) + x1)) (fun S25 => m_make_111 N  p2 ((260 * (S.1 19)) + x1) S25)) else (b1 (rL S17 7 p2) (fun x21 => b1 (rT S17 8 x21 ((260 * (S.1 19)) + x1)) (fun S23 => m_make_111 N  p2 ((260 * (S.1 19)) + x1) S23))))))))))))))
set_option maxRecDepth 100000 in
set_option maxHeartbeats 4000000 in
theorem c_make {p1 : Int32} {p2 : Int32} {S S' : rS} {r : Int32} (hR : RR b0 h Z) (hm : m_make N p1 p2 S = some (r, S')) : Ct l D vwCl (tyL dA) b0 Z y_make (.code y_make cb_make 4 (some .int) :: wsA) 0 0 [.ref h, .int p1, .int p2] (rH dA h S hp0) sz (some (.int r)) (rH dA h S' hp0) 0 0 := by
  refine ct_of (cc := cb_make) (maxL := 4) (ret := (some .int)) (lo0 := [some (.ref h), some (.int p1), some (.int p2), none]) hR.2 (by decide) rfl (by simp [lg_sl, Value.category]) rfl (by simp [lx_all, lv_args, Value.category]) ?_
  intro p e s m args below meth c ls B hnm hl I
  obtain ⟨hx, hb, -⟩ := B.1
  unfold m_make at hm
  refine lv_sipush (pc := 0) (v := 260) hx hb d_make_0 (by decide) ?_
  refine lv_aload_n (pc := 3) (i := 0) hx hb d_make_3 rfl (lx_get hl rfl) ?_
  refine r_get (pc := 4) (k := 19) (index := 93) B I (by decide) mF_93 rfl rfl d_make_4 ?_
  refine lv_imul (pc := 7) hx hb d_make_7 ?_
  refine lv_aload_n (pc := 8) (i := 0) hx hb d_make_8 rfl (lx_get hl rfl) ?_
  refine r_get (pc := 9) (k := 6) (index := 13) B I (by decide) mF_13 rfl rfl d_make_9 ?_
  refine lv_aload_n (pc := 12) (i := 0) hx hb d_make_12 rfl (lx_get hl rfl) ?_
  refine r_get (pc := 13) (k := 19) (index := 93) B I (by decide) mF_93 rfl rfl d_make_13 ?_
  refine ob1 hm (fun x1 e2 hm => ?_)
  refine r_ald (pc := 16) (j := 2) B I (by decide) (by decide) e2 d_make_16 ?_
  refine lv_iadd (pc := 17) hx hb d_make_17 ?_
  refine q_istore_n (pc := 18) (i := 3) (lo' := [some (.ref h), some (.int p1), some (.int p2), some (.int ((260 * (S.1 19)) + x1))]) hx hb d_make_18 rfl hl (Nat.le_of_ble_eq_true rfl) (lx_ci rfl) rfl (fun ls hl => ?_)
  refine lv_aload_n (pc := 19) (i := 0) hx hb d_make_19 rfl (lx_get hl rfl) ?_
  refine r_get (pc := 20) (k := 6) (index := 13) B I (by decide) mF_13 rfl rfl d_make_20 ?_
  refine lv_aload_n (pc := 23) (i := 0) hx hb d_make_23 rfl (lx_get hl rfl) ?_
  refine r_get (pc := 24) (k := 19) (index := 93) B I (by decide) mF_93 rfl rfl d_make_24 ?_
  refine lv_dup2_11 (pc := 27) hx hb d_make_27 rfl rfl ?_
  refine ob1 hm (fun x3 e4 hm => ?_)
  refine r_ald (pc := 28) (j := 2) B I (by decide) (by decide) e4 d_make_28 ?_
  refine lv_iconst (pc := 29) (v := 1) hx hb d_make_29 (by decide) ?_
  refine lv_iadd (pc := 30) hx hb d_make_30 ?_
  refine ob1 hm (fun S5 e6 hm => ?_)
  refine r_ast (pc := 31) (j := 2) B hR I (by decide) (by decide) e6 d_make_31 (fun H locs I => ?_)
  refine lv_aload_n (pc := 32) (i := 0) hx hb d_make_32 rfl (lx_get hl rfl) ?_
  refine r_get (pc := 33) (k := 7) (index := 16) B I (by decide) mF_16 rfl rfl d_make_33 ?_
  refine lv_iload_n (pc := 36) (i := 3) hx hb d_make_36 rfl (lx_get hl rfl) ?_
  refine lv_iload_n (pc := 37) (i := 1) hx hb d_make_37 rfl (lx_get hl rfl) ?_
  refine ob1 hm (fun S7 e8 hm => ?_)
  refine r_ast (pc := 38) (j := 3) B hR I (by decide) (by decide) e8 d_make_38 (fun H locs I => ?_)
  refine lv_aload_n (pc := 39) (i := 0) hx hb d_make_39 rfl (lx_get hl rfl) ?_
  refine r_get (pc := 40) (k := 9) (index := 22) B I (by decide) mF_22 rfl rfl d_make_40 ?_
  refine lv_iload_n (pc := 43) (i := 3) hx hb d_make_43 rfl (lx_get hl rfl) ?_
  refine lv_iload_n (pc := 44) (i := 2) hx hb d_make_44 rfl (lx_get hl rfl) ?_
  refine ob1 hm (fun S9 e10 hm => ?_)
  refine r_ast (pc := 45) (j := 5) B hR I (by decide) (by decide) e10 d_make_45 (fun H locs I => ?_)
  refine lv_aload_n (pc := 46) (i := 0) hx hb d_make_46 rfl (lx_get hl rfl) ?_
  refine r_get (pc := 47) (k := 10) (index := 25) B I (by decide) mF_25 rfl rfl d_make_47 ?_
  refine lv_iload_n (pc := 50) (i := 3) hx hb d_make_50 rfl (lx_get hl rfl) ?_
  refine lv_iconst (pc := 51) (v := (-1)) hx hb d_make_51 (by decide) ?_
  refine ob1 hm (fun S11 e12 hm => ?_)
  refine r_ast (pc := 52) (j := 6) B hR I (by decide) (by decide) e12 d_make_52 (fun H locs I => ?_)
  refine lv_aload_n (pc := 53) (i := 0) hx hb d_make_53 rfl (lx_get hl rfl) ?_
  refine r_get (pc := 54) (k := 12) (index := 31) B I (by decide) mF_31 rfl rfl d_make_54 ?_
  refine lv_iload_n (pc := 57) (i := 3) hx hb d_make_57 rfl (lx_get hl rfl) ?_
  refine lv_iconst (pc := 58) (v := (-1)) hx hb d_make_58 (by decide) ?_
  refine ob1 hm (fun S13 e14 hm => ?_)
  refine r_ast (pc := 59) (j := 8) B hR I (by decide) (by decide) e14 d_make_59 (fun H locs I => ?_)
  refine lv_aload_n (pc := 60) (i := 0) hx hb d_make_60 rfl (lx_get hl rfl) ?_
  refine r_get (pc := 61) (k := 13) (index := 34) B I (by decide) mF_34 rfl rfl d_make_61 ?_
  refine lv_iload_n (pc := 64) (i := 3) hx hb d_make_64 rfl (lx_get hl rfl) ?_
  refine lv_iconst (pc := 65) (v := 0) hx hb d_make_65 (by decide) ?_
  refine ob1 hm (fun S15 e16 hm => ?_)
  refine r_ast (pc := 66) (j := 9) B hR I (by decide) (by decide) e16 d_make_66 (fun H locs I => ?_)
  refine lv_aload_n (pc := 67) (i := 0) hx hb d_make_67 rfl (lx_get hl rfl) ?_
  refine r_get (pc := 68) (k := 8) (index := 19) B I (by decide) mF_19 rfl rfl d_make_68 ?_
  refine lv_iload_n (pc := 71) (i := 3) hx hb d_make_71 rfl (lx_get hl rfl) ?_
  refine lv_iconst (pc := 72) (v := 0) hx hb d_make_72 (by decide) ?_
  refine ob1 hm (fun S17 e18 hm => ?_)
  refine r_ast (pc := 73) (j := 4) B hR I (by decide) (by decide) e18 d_make_73 (fun H locs I => ?_)
  refine lv_iload_n (pc := 74) (i := 2) hx hb d_make_74 rfl (lx_get hl rfl) ?_
  refine lv_iconst (pc := 75) (v := (-1)) hx hb d_make_75 (by decide) ?_
  refine lv_icmp_eq (pc := 76) (tgt := 128) hx hb d_make_76 (by decide) (fun hc => ?_) (fun hc => ?_)
  · have hm := ift hc hm
    refine lv_iload_n (pc := 128) (i := 3) hx hb d_make_128 rfl (lx_get hl rfl) ?_
    cases hm
    exact q_iret (pc := 129) B I rfl d_make_129
  · have hm := iff' hc hm
    refine lv_aload_n (pc := 79) (i := 0) hx hb d_make_79 rfl (lx_get hl rfl) ?_
    refine r_get (pc := 80) (k := 10) (index := 25) B I (by decide) mF_25 rfl rfl d_make_80 ?_
    refine lv_iload_n (pc := 83) (i := 2) hx hb d_make_83 rfl (lx_get hl rfl) ?_
    refine ob1 hm (fun x19 e20 hm => ?_)
    refine r_ald (pc := 84) (j := 6) B I (by decide) (by decide) e20 d_make_84 ?_
    refine lv_iconst (pc := 85) (v := (-1)) hx hb d_make_85 (by decide) ?_
    refine lv_icmp_ne (pc := 86) (tgt := 99) hx hb d_make_86 (by decide) (fun hc => ?_) (fun hc => ?_)
    · have hm := iff' hc hm
      refine lv_aload_n (pc := 99) (i := 0) hx hb d_make_99 rfl (lx_get hl rfl) ?_
      refine r_get (pc := 100) (k := 12) (index := 31) B I (by decide) mF_31 rfl rfl d_make_100 ?_
      refine lv_aload_n (pc := 103) (i := 0) hx hb d_make_103 rfl (lx_get hl rfl) ?_
      refine r_get (pc := 104) (k := 11) (index := 28) B I (by decide) mF_28 rfl rfl d_make_104 ?_
      refine lv_iload_n (pc := 107) (i := 2) hx hb d_make_107 rfl (lx_get hl rfl) ?_
      refine ob1 hm (fun x21 e22 hm => ?_)
      refine r_ald (pc := 108) (j := 7) B I (by decide) (by decide) e22 d_make_108 ?_
      refine lv_iload_n (pc := 109) (i := 3) hx hb d_make_109 rfl (lx_get hl rfl) ?_
      refine ob1 hm (fun S23 e24 hm => ?_)
      refine r_ast (pc := 110) (j := 8) B hR I (by decide) (by decide) e24 d_make_110 (fun H locs I => ?_)
      exact w_make_111  B hR (lx_sub (lo' := [some (.ref h), none, some (.int p2), some (.int ((260 * (S.1 19)) + x1))]) hl (by simp [lx_le])) I hm
    · have hm := ift hc hm
      refine lv_aload_n (pc := 89) (i := 0) hx hb d_make_89 rfl (lx_get hl rfl) ?_
      refine r_get (pc := 90) (k := 10) (index := 25) B I (by decide) mF_25 rfl rfl d_make_90 ?_
      refine lv_iload_n (pc := 93) (i := 2) hx hb d_make_93 rfl (lx_get hl rfl) ?_
      refine lv_iload_n (pc := 94) (i := 3) hx hb d_make_94 rfl (lx_get hl rfl) ?_
      refine ob1 hm (fun S25 e26 hm => ?_)
      refine r_ast (pc := 95) (j := 6) B hR I (by decide) (by decide) e26 d_make_95 (fun H locs I => ?_)
      refine lv_goto (pc := 96) (tgt := 111) hx hb d_make_96 (by decide) ?_
      exact w_make_111  B hR (lx_sub (lo' := [some (.ref h), none, some (.int p2), some (.int ((260 * (S.1 19)) + x1))]) hl (by simp [lx_le])) I hm
def m_named (N : Nat) (p1 : Int32) (p2 : Int32) (S : rS) : Option (Int32 × rS) :=
  b1 (rL S 15 p2) (fun x1 => b1 (rT S 10 p1 x1) (fun S3 => b1 (rL S3 16 p2) (fun x5 => b1 (rT S3 11 p1 x5) (fun S7 => some (p1, S7)))))
set_option maxRecDepth 100000 in
set_option maxHeartbeats 4000000 in
theorem c_named {p1 : Int32} {p2 : Int32} {S S' : rS} {r : Int32} (hR : RR b0 h Z) (hm : m_named N p1 p2 S = some (r, S')) : Ct l D vwCl (tyL dA) b0 Z y_named (.code y_named cb_named 3 (some .int) :: wsA) 0 0 [.ref h, .int p1, .int p2] (rH dA h S hp0) sz (some (.int r)) (rH dA h S' hp0) 0 0 := by
  refine ct_of (cc := cb_named) (maxL := 3) (ret := (some .int)) (lo0 := [some (.ref h), some (.int p1), some (.int p2)]) hR.2 (by decide) rfl (by simp [lg_sl, Value.category]) rfl (by simp [lx_all, lv_args, Value.category]) ?_
  intro p e s m args below meth c ls B hnm hl I
  obtain ⟨hx, hb, -⟩ := B.1
  unfold m_named at hm
  refine lv_aload_n (pc := 0) (i := 0) hx hb d_named_0 rfl (lx_get hl rfl) ?_
  refine r_get (pc := 1) (k := 14) (index := 37) B I (by decide) mF_37 rfl rfl d_named_1 ?_
  refine lv_iload_n (pc := 4) (i := 1) hx hb d_named_4 rfl (lx_get hl rfl) ?_
  refine lv_aload_n (pc := 5) (i := 0) hx hb d_named_5 rfl (lx_get hl rfl) ?_
  refine r_get (pc := 6) (k := 22) (index := 52) B I (by decide) mF_52 rfl rfl d_named_6 ?_
  refine lv_iload_n (pc := 9) (i := 2) hx hb d_named_9 rfl (lx_get hl rfl) ?_
  refine ob1 hm (fun x1 e2 hm => ?_)
  refine r_ald (pc := 10) (j := 15) B I (by decide) (by decide) e2 d_named_10 ?_
  refine ob1 hm (fun S3 e4 hm => ?_)
  refine r_ast (pc := 11) (j := 10) B hR I (by decide) (by decide) e4 d_named_11 (fun H locs I => ?_)
  refine lv_aload_n (pc := 12) (i := 0) hx hb d_named_12 rfl (lx_get hl rfl) ?_
  refine r_get (pc := 13) (k := 15) (index := 40) B I (by decide) mF_40 rfl rfl d_named_13 ?_
  refine lv_iload_n (pc := 16) (i := 1) hx hb d_named_16 rfl (lx_get hl rfl) ?_
  refine lv_aload_n (pc := 17) (i := 0) hx hb d_named_17 rfl (lx_get hl rfl) ?_
  refine r_get (pc := 18) (k := 23) (index := 55) B I (by decide) mF_55 rfl rfl d_named_18 ?_
  refine lv_iload_n (pc := 21) (i := 2) hx hb d_named_21 rfl (lx_get hl rfl) ?_
  refine ob1 hm (fun x5 e6 hm => ?_)
  refine r_ald (pc := 22) (j := 16) B I (by decide) (by decide) e6 d_named_22 ?_
  refine ob1 hm (fun S7 e8 hm => ?_)
  refine r_ast (pc := 23) (j := 11) B hR I (by decide) (by decide) e8 d_named_23 (fun H locs I => ?_)
  refine lv_iload_n (pc := 24) (i := 1) hx hb d_named_24 rfl (lx_get hl rfl) ?_
  cases hm
  exact q_iret (pc := 25) B I rfl d_named_25
def m_entryOf_89 (N : Nat) (K7 : Int32 → Int32 → rS → Option Int32) (K37 : Int32 → Int32 → Int32 → Int32 → rS → Option Int32) (y2 : Int32) (y3 : Int32) (y5 : Int32) (z0 : Int32) (S : rS) : Option Int32 :=
  K37 y2 y3 z0 (y5 + 1) S
set_option maxRecDepth 100000 in
set_option maxHeartbeats 4000000 in
theorem w_entryOf_89 {K7 : Int32 → Int32 → rS → Option Int32} {K37 : Int32 → Int32 → Int32 → Int32 → rS → Option Int32} {y2 : Int32} {y3 : Int32} {y5 : Int32} {z0 : Int32} {S : rS} (hK7 : ∀ (y2 : Int32) (y3 : Int32) (S : rS) (ls : Array Slot) (H : Heap) (locs : List Loc), lx ls [some (.ref h), none, some (.int y2), some (.int y3), none, none] → AI D vwCl b0 (rH dA h S hp0) sz s.heap H locs → K7 y2 y3 S = some r → W p l e { frames := 0, cells := 0, slots := 0, locals := 0 } s m args below meth c H locs 0 0 (MQ below (CQ D vwCl b0 (some (.int r)) (rH dA h S hp0) sz) args s 0 0 (fun q => b0 ≤ q)) (F0 m 7 ls [])) (hK37 : ∀ (y2 : Int32) (y3 : Int32) (y4 : Int32) (y5 : Int32) (S : rS) (ls : Array Slot) (H : Heap) (locs : List Loc), lx ls [some (.ref h), none, some (.int y2), some (.int y3), some (.int y4), some (.int y5)] → AI D vwCl b0 (rH dA h S hp0) sz s.heap H locs → K37 y2 y3 y4 y5 S = some r → W p l e { frames := 0, cells := 0, slots := 0, locals := 0 } s m args below meth c H locs 0 0 (MQ below (CQ D vwCl b0 (some (.int r)) (rH dA h S hp0) sz) args s 0 0 (fun q => b0 ≤ q)) (F0 m 37 ls [])) (B : BX p m c cb_entryOf 6 s args (.code y_entryOf cb_entryOf 6 (some .int) :: wsA) RREF meth (some .int) D vwCl (tyL dA) b0 Z) (hR : RR b0 h Z) (hl : lx ls [some (.ref h), none, some (.int y2), some (.int y3), none, some (.int y5)]) (I : AI D vwCl b0 (rH dA h S hp0) sz s.heap H locs)  (hm : m_entryOf_89 N K7 K37 y2 y3 y5 z0 S = some r) : W p l e { frames := 0, cells := 0, slots := 0, locals := 0 } s m args below meth c H locs 0 0 (MQ below (CQ D vwCl b0 (some (.int r)) (rH dA h S hp0) sz) args s 0 0 (fun q => b0 ≤ q)) (F0 m 89 ls [.int z0]) := by
  obtain ⟨hx, hb, -⟩ := B.1
  unfold m_entryOf_89 at hm
  refine q_istore (pc := 89) (i := 4) (lo' := [some (.ref h), none, some (.int y2), some (.int y3), some (.int z0), some (.int y5)]) hx hb d_entryOf_89 hl (Nat.le_of_ble_eq_true rfl) (lx_ci rfl) rfl (fun ls hl => ?_)
  refine q_iinc (pc := 91) (i := 5) (v := y5 + 1) (lo' := [some (.ref h), none, some (.int y2), some (.int y3), some (.int z0), some (.int (y5 + 1))]) hx hb d_entryOf_91 hl rfl rfl (Nat.le_of_ble_eq_true rfl) (lx_ci rfl) rfl (fun ls hl => ?_)
  refine lv_goto (pc := 94) (tgt := 37) hx hb d_entryOf_94 (by decide) ?_
  exact hK37 _ _ _ _ _ _ _ _ hl I hm
def m_entryOf_97 (N : Nat) (K7 : Int32 → Int32 → rS → Option Int32) (y2 : Int32) (y3 : Int32) (y4 : Int32) (S : rS) : Option Int32 :=
  if y4 = 0 then (b1 (rL S 8 y3) (fun x1 => K7 y2 x1 S)) else (some y3)
set_option maxRecDepth 100000 in
set_option maxHeartbeats 4000000 in
theorem w_entryOf_97 {K7 : Int32 → Int32 → rS → Option Int32} {y2 : Int32} {y3 : Int32} {y4 : Int32} {S : rS} (hK7 : ∀ (y2 : Int32) (y3 : Int32) (S : rS) (ls : Array Slot) (H : Heap) (locs : List Loc), lx ls [some (.ref h), none, some (.int y2), some (.int y3), none, none] → AI D vwCl b0 (rH dA h S hp0) sz s.heap H locs → K7 y2 y3 S = some r → W p l e { frames := 0, cells := 0, slots := 0, locals := 0 } s m args below meth c H locs 0 0 (MQ below (CQ D vwCl b0 (some (.int r)) (rH dA h S hp0) sz) args s 0 0 (fun q => b0 ≤ q)) (F0 m 7 ls [])) (B : BX p m c cb_entryOf 6 s args (.code y_entryOf cb_entryOf 6 (some .int) :: wsA) RREF meth (some .int) D vwCl (tyL dA) b0 Z) (hR : RR b0 h Z) (hl : lx ls [some (.ref h), none, some (.int y2), some (.int y3), some (.int y4), none]) (I : AI D vwCl b0 (rH dA h S hp0) sz s.heap H locs)  (hm : m_entryOf_97 N K7 y2 y3 y4 S = some r) : W p l e { frames := 0, cells := 0, slots := 0, locals := 0 } s m args below meth c H locs 0 0 (MQ below (CQ D vwCl b0 (some (.int r)) (rH dA h S hp0) sz) args s 0 0 (fun q => b0 ≤ q)) (F0 m 97 ls []) := by
  obtain ⟨hx, hb, -⟩ := B.1
  unfold m_entryOf_97 at hm
  refine lv_iload (pc := 97) (i := 4) hx hb d_entryOf_97 (lx_get hl rfl) ?_
  refine lv_if_eq (pc := 99) (tgt := 104) hx hb d_entryOf_99 (by decide) (fun hc => ?_) (fun hc => ?_)
  · have hm := ift hc hm
    refine lv_aload_n (pc := 104) (i := 0) hx hb d_entryOf_104 rfl (lx_get hl rfl) ?_
    refine r_get (pc := 105) (k := 12) (index := 31) B I (by decide) mF_31 rfl rfl d_entryOf_105 ?_
    refine lv_iload_n (pc := 108) (i := 3) hx hb d_entryOf_108 rfl (lx_get hl rfl) ?_
    refine ob1 hm (fun x1 e2 hm => ?_)
    refine r_ald (pc := 109) (j := 8) B I (by decide) (by decide) e2 d_entryOf_109 ?_
    refine q_istore_n (pc := 110) (i := 3) (lo' := [some (.ref h), none, some (.int y2), some (.int x1), some (.int y4), none]) hx hb d_entryOf_110 rfl hl (Nat.le_of_ble_eq_true rfl) (lx_ci rfl) rfl (fun ls hl => ?_)
    refine lv_goto (pc := 111) (tgt := 7) hx hb d_entryOf_111 (by decide) ?_
    exact hK7 _ _ _ _ _ _ (lx_sub (lo' := [some (.ref h), none, some (.int y2), some (.int x1), none, none]) hl (by simp [lx_le])) I hm
  · have hm := iff' hc hm
    refine lv_iload_n (pc := 102) (i := 3) hx hb d_entryOf_102 rfl (lx_get hl rfl) ?_
    cases hm
    exact q_iret (pc := 103) B I rfl d_entryOf_103
def m_entryOf_37F (N : Nat) (K7 : Int32 → Int32 → rS → Option Int32) (K37 : Int32 → Int32 → Int32 → Int32 → rS → Option Int32) (y2 : Int32) (y3 : Int32) (y4 : Int32) (y5 : Int32) (S : rS) : Option Int32 :=
  b1 (rL S 16 y2) (fun x1 => if x1 ≤ y5 then (m_entryOf_97 N K7 y2 y3 y4 S) else (if y4 = 0 then (m_entryOf_97 N K7 y2 y3 y4 S) else (b1 (rL S 10 y3) (fun x3 => b1 (rL S 13 (x3 + y5)) (fun x5 => b1 (rL S 15 y2) (fun x7 => b1 (rL S 13 (x7 + y5)) (fun x9 => if x5 = x9 then (m_entryOf_89 N K7 K37 y2 y3 y5 1 S) else (m_entryOf_89 N K7 K37 y2 y3 y5 0 S))))))))
def m_entryOf_37 (N : Nat) (K7 : Int32 → Int32 → rS → Option Int32) : Nat → Int32 → Int32 → Int32 → Int32 → rS → Option Int32
  | 0, _, _, _, _, _ => none
  | k + 1, y2, y3, y4, y5, S => m_entryOf_37F N K7 (m_entryOf_37 N K7 k) y2 y3 y4 y5 S
set_option maxRecDepth 100000 in
set_option maxHeartbeats 4000000 in
theorem w_entryOf_37F {K7 : Int32 → Int32 → rS → Option Int32} {K37 : Int32 → Int32 → Int32 → Int32 → rS → Option Int32} {y2 : Int32} {y3 : Int32} {y4 : Int32} {y5 : Int32} {S : rS} (hK7 : ∀ (y2 : Int32) (y3 : Int32) (S : rS) (ls : Array Slot) (H : Heap) (locs : List Loc), lx ls [some (.ref h), none, some (.int y2), some (.int y3), none, none] → AI D vwCl b0 (rH dA h S hp0) sz s.heap H locs → K7 y2 y3 S = some r → W p l e { frames := 0, cells := 0, slots := 0, locals := 0 } s m args below meth c H locs 0 0 (MQ below (CQ D vwCl b0 (some (.int r)) (rH dA h S hp0) sz) args s 0 0 (fun q => b0 ≤ q)) (F0 m 7 ls [])) (hK37 : ∀ (y2 : Int32) (y3 : Int32) (y4 : Int32) (y5 : Int32) (S : rS) (ls : Array Slot) (H : Heap) (locs : List Loc), lx ls [some (.ref h), none, some (.int y2), some (.int y3), some (.int y4), some (.int y5)] → AI D vwCl b0 (rH dA h S hp0) sz s.heap H locs → K37 y2 y3 y4 y5 S = some r → W p l e { frames := 0, cells := 0, slots := 0, locals := 0 } s m args below meth c H locs 0 0 (MQ below (CQ D vwCl b0 (some (.int r)) (rH dA h S hp0) sz) args s 0 0 (fun q => b0 ≤ q)) (F0 m 37 ls [])) (B : BX p m c cb_entryOf 6 s args (.code y_entryOf cb_entryOf 6 (some .int) :: wsA) RREF meth (some .int) D vwCl (tyL dA) b0 Z) (hR : RR b0 h Z) (hl : lx ls [some (.ref h), none, some (.int y2), some (.int y3), some (.int y4), some (.int y5)]) (I : AI D vwCl b0 (rH dA h S hp0) sz s.heap H locs)  (hm : m_entryOf_37F N K7 K37 y2 y3 y4 y5 S = some r) : W p l e { frames := 0, cells := 0, slots := 0, locals := 0 } s m args below meth c H locs 0 0 (MQ below (CQ D vwCl b0 (some (.int r)) (rH dA h S hp0) sz) args s 0 0 (fun q => b0 ≤ q)) (F0 m 37 ls []) := by
  obtain ⟨hx, hb, -⟩ := B.1
  unfold m_entryOf_37F at hm
  refine lv_iload (pc := 37) (i := 5) hx hb d_entryOf_37 (lx_get hl rfl) ?_
  refine lv_aload_n (pc := 39) (i := 0) hx hb d_entryOf_39 rfl (lx_get hl rfl) ?_
  refine r_get (pc := 40) (k := 23) (index := 55) B I (by decide) mF_55 rfl rfl d_entryOf_40 ?_
  refine lv_iload_n (pc := 43) (i := 2) hx hb d_entryOf_43 rfl (lx_get hl rfl) ?_
  refine ob1 hm (fun x1 e2 hm => ?_)
  refine r_ald (pc := 44) (j := 16) B I (by decide) (by decide) e2 d_entryOf_44 ?_
  refine lv_icmp_ge (pc := 45) (tgt := 97) hx hb d_entryOf_45 (by decide) (fun hc => ?_) (fun hc => ?_)
  · have hm := ift hc hm
    exact w_entryOf_97 hK7 B hR (lx_sub (lo' := [some (.ref h), none, some (.int y2), some (.int y3), some (.int y4), none]) hl (by simp [lx_le])) I hm
  · have hm := iff' hc hm
    refine lv_iload (pc := 48) (i := 4) hx hb d_entryOf_48 (lx_get hl rfl) ?_
    refine lv_if_eq (pc := 50) (tgt := 97) hx hb d_entryOf_50 (by decide) (fun hc => ?_) (fun hc => ?_)
    · have hm := ift hc hm
      exact w_entryOf_97 hK7 B hR (lx_sub (lo' := [some (.ref h), none, some (.int y2), some (.int y3), some (.int y4), none]) hl (by simp [lx_le])) I hm
    · have hm := iff' hc hm
      refine lv_aload_n (pc := 53) (i := 0) hx hb d_entryOf_53 rfl (lx_get hl rfl) ?_
      refine r_get (pc := 54) (k := 17) (index := 46) B I (by decide) mF_46 rfl rfl d_entryOf_54 ?_
      refine lv_aload_n (pc := 57) (i := 0) hx hb d_entryOf_57 rfl (lx_get hl rfl) ?_
      refine r_get (pc := 58) (k := 14) (index := 37) B I (by decide) mF_37 rfl rfl d_entryOf_58 ?_
      refine lv_iload_n (pc := 61) (i := 3) hx hb d_entryOf_61 rfl (lx_get hl rfl) ?_
      refine ob1 hm (fun x3 e4 hm => ?_)
      refine r_ald (pc := 62) (j := 10) B I (by decide) (by decide) e4 d_entryOf_62 ?_
      refine lv_iload (pc := 63) (i := 5) hx hb d_entryOf_63 (lx_get hl rfl) ?_
      refine lv_iadd (pc := 65) hx hb d_entryOf_65 ?_
      refine ob1 hm (fun x5 e6 hm => ?_)
      refine r_ald (pc := 66) (j := 13) B I (by decide) (by decide) e6 d_entryOf_66 ?_
      refine lv_aload_n (pc := 67) (i := 0) hx hb d_entryOf_67 rfl (lx_get hl rfl) ?_
      refine r_get (pc := 68) (k := 17) (index := 46) B I (by decide) mF_46 rfl rfl d_entryOf_68 ?_
      refine lv_aload_n (pc := 71) (i := 0) hx hb d_entryOf_71 rfl (lx_get hl rfl) ?_
      refine r_get (pc := 72) (k := 22) (index := 52) B I (by decide) mF_52 rfl rfl d_entryOf_72 ?_
      refine lv_iload_n (pc := 75) (i := 2) hx hb d_entryOf_75 rfl (lx_get hl rfl) ?_
      refine ob1 hm (fun x7 e8 hm => ?_)
      refine r_ald (pc := 76) (j := 15) B I (by decide) (by decide) e8 d_entryOf_76 ?_
      refine lv_iload (pc := 77) (i := 5) hx hb d_entryOf_77 (lx_get hl rfl) ?_
      refine lv_iadd (pc := 79) hx hb d_entryOf_79 ?_
      refine ob1 hm (fun x9 e10 hm => ?_)
      refine r_ald (pc := 80) (j := 13) B I (by decide) (by decide) e10 d_entryOf_80 ?_
      refine lv_icmp_ne (pc := 81) (tgt := 88) hx hb d_entryOf_81 (by decide) (fun hc => ?_) (fun hc => ?_)
      · have hm := iff' hc hm
        refine lv_iconst (pc := 88) (v := 0) hx hb d_entryOf_88 (by decide) ?_
        exact w_entryOf_89 hK7 hK37 B hR (lx_sub (lo' := [some (.ref h), none, some (.int y2), some (.int y3), none, some (.int y5)]) hl (by simp [lx_le])) I hm
      · have hm := ift hc hm
        refine lv_iconst (pc := 84) (v := 1) hx hb d_entryOf_84 (by decide) ?_
        refine lv_goto (pc := 85) (tgt := 89) hx hb d_entryOf_85 (by decide) ?_
        exact w_entryOf_89 hK7 hK37 B hR (lx_sub (lo' := [some (.ref h), none, some (.int y2), some (.int y3), none, some (.int y5)]) hl (by simp [lx_le])) I hm
set_option maxRecDepth 100000 in
set_option maxHeartbeats 4000000 in
theorem w_entryOf_37i {K7 : Int32 → Int32 → rS → Option Int32} (hK7 : ∀ (y2 : Int32) (y3 : Int32) (S : rS) (ls : Array Slot) (H : Heap) (locs : List Loc), lx ls [some (.ref h), none, some (.int y2), some (.int y3), none, none] → AI D vwCl b0 (rH dA h S hp0) sz s.heap H locs → K7 y2 y3 S = some r → W p l e { frames := 0, cells := 0, slots := 0, locals := 0 } s m args below meth c H locs 0 0 (MQ below (CQ D vwCl b0 (some (.int r)) (rH dA h S hp0) sz) args s 0 0 (fun q => b0 ≤ q)) (F0 m 7 ls [])) (B : BX p m c cb_entryOf 6 s args (.code y_entryOf cb_entryOf 6 (some .int) :: wsA) RREF meth (some .int) D vwCl (tyL dA) b0 Z) (hR : RR b0 h Z) (k : Nat) (y2 : Int32) (y3 : Int32) (y4 : Int32) (y5 : Int32) (S : rS) (ls : Array Slot) (H : Heap) (locs : List Loc) (hl : lx ls [some (.ref h), none, some (.int y2), some (.int y3), some (.int y4), some (.int y5)]) (I : AI D vwCl b0 (rH dA h S hp0) sz s.heap H locs)  (hm : m_entryOf_37 N K7 k y2 y3 y4 y5 S = some r) : W p l e { frames := 0, cells := 0, slots := 0, locals := 0 } s m args below meth c H locs 0 0 (MQ below (CQ D vwCl b0 (some (.int r)) (rH dA h S hp0) sz) args s 0 0 (fun q => b0 ≤ q)) (F0 m 37 ls []) := by
  induction k generalizing y2 y3 y4 y5 S ls H locs with
  | zero => cases hm
  | succ k ih => exact w_entryOf_37F hK7 (fun y2 y3 y4 y5 S ls H locs hl I hm => ih y2 y3 y4 y5 S ls H locs hl I hm) B hR hl I hm
theorem w_entryOf_37 {K7 : Int32 → Int32 → rS → Option Int32} {y2 : Int32} {y3 : Int32} {y4 : Int32} {y5 : Int32} {S : rS} (hK7 : ∀ (y2 : Int32) (y3 : Int32) (S : rS) (ls : Array Slot) (H : Heap) (locs : List Loc), lx ls [some (.ref h), none, some (.int y2), some (.int y3), none, none] → AI D vwCl b0 (rH dA h S hp0) sz s.heap H locs → K7 y2 y3 S = some r → W p l e { frames := 0, cells := 0, slots := 0, locals := 0 } s m args below meth c H locs 0 0 (MQ below (CQ D vwCl b0 (some (.int r)) (rH dA h S hp0) sz) args s 0 0 (fun q => b0 ≤ q)) (F0 m 7 ls [])) (B : BX p m c cb_entryOf 6 s args (.code y_entryOf cb_entryOf 6 (some .int) :: wsA) RREF meth (some .int) D vwCl (tyL dA) b0 Z) (hR : RR b0 h Z) (hl : lx ls [some (.ref h), none, some (.int y2), some (.int y3), some (.int y4), some (.int y5)]) (I : AI D vwCl b0 (rH dA h S hp0) sz s.heap H locs)  {k : Nat} (hm : m_entryOf_37 N K7 k y2 y3 y4 y5 S = some r) : W p l e { frames := 0, cells := 0, slots := 0, locals := 0 } s m args below meth c H locs 0 0 (MQ below (CQ D vwCl b0 (some (.int r)) (rH dA h S hp0) sz) args s 0 0 (fun q => b0 ≤ q)) (F0 m 37 ls []) := w_entryOf_37i hK7 B hR k _ _ _ _ S ls H locs hl I hm
def m_entryOf_32 (N : Nat) (K7 : Int32 → Int32 → rS → Option Int32) (y2 : Int32) (y3 : Int32) (z0 : Int32) (S : rS) : Option Int32 :=
  m_entryOf_37 N K7 N y2 y3 z0 0 S
set_option maxRecDepth 100000 in
set_option maxHeartbeats 4000000 in
theorem w_entryOf_32 {K7 : Int32 → Int32 → rS → Option Int32} {y2 : Int32} {y3 : Int32} {z0 : Int32} {S : rS} (hK7 : ∀ (y2 : Int32) (y3 : Int32) (S : rS) (ls : Array Slot) (H : Heap) (locs : List Loc), lx ls [some (.ref h), none, some (.int y2), some (.int y3), none, none] → AI D vwCl b0 (rH dA h S hp0) sz s.heap H locs → K7 y2 y3 S = some r → W p l e { frames := 0, cells := 0, slots := 0, locals := 0 } s m args below meth c H locs 0 0 (MQ below (CQ D vwCl b0 (some (.int r)) (rH dA h S hp0) sz) args s 0 0 (fun q => b0 ≤ q)) (F0 m 7 ls [])) (B : BX p m c cb_entryOf 6 s args (.code y_entryOf cb_entryOf 6 (some .int) :: wsA) RREF meth (some .int) D vwCl (tyL dA) b0 Z) (hR : RR b0 h Z) (hl : lx ls [some (.ref h), none, some (.int y2), some (.int y3), none, none]) (I : AI D vwCl b0 (rH dA h S hp0) sz s.heap H locs)  (hm : m_entryOf_32 N K7 y2 y3 z0 S = some r) : W p l e { frames := 0, cells := 0, slots := 0, locals := 0 } s m args below meth c H locs 0 0 (MQ below (CQ D vwCl b0 (some (.int r)) (rH dA h S hp0) sz) args s 0 0 (fun q => b0 ≤ q)) (F0 m 32 ls [.int z0]) := by
  obtain ⟨hx, hb, -⟩ := B.1
  unfold m_entryOf_32 at hm
  refine q_istore (pc := 32) (i := 4) (lo' := [some (.ref h), none, some (.int y2), some (.int y3), some (.int z0), none]) hx hb d_entryOf_32 hl (Nat.le_of_ble_eq_true rfl) (lx_ci rfl) rfl (fun ls hl => ?_)
  refine lv_iconst (pc := 34) (v := 0) hx hb d_entryOf_34 (by decide) ?_
  refine q_istore (pc := 35) (i := 5) (lo' := [some (.ref h), none, some (.int y2), some (.int y3), some (.int z0), some (.int 0)]) hx hb d_entryOf_35 hl (Nat.le_of_ble_eq_true rfl) (lx_ci rfl) rfl (fun ls hl => ?_)
  exact w_entryOf_37 hK7 B hR hl I hm
def m_entryOf_7F (N : Nat) (K7 : Int32 → Int32 → rS → Option Int32) (y2 : Int32) (y3 : Int32) (S : rS) : Option Int32 :=
  if y3 = (-1) then (some (-1)) else (b1 (rL S 11 y3) (fun x1 => b1 (rL S 16 y2) (fun x3 => if x1 = x3 then (m_entryOf_32 N K7 y2 y3 1 S) else (m_entryOf_32 N K7 y2 y3 0 S))))
def m_entryOf_7 (N : Nat) : Nat → Int32 → Int32 → rS → Option Int32
  | 0, _, _, _ => none
  | k + 1, y2, y3, S => m_entryOf_7F N  (m_entryOf_7 N  k) y2 y3 S
set_option maxRecDepth 100000 in
set_option maxHeartbeats 4000000 in
theorem w_entryOf_7F {K7 : Int32 → Int32 → rS → Option Int32} {y2 : Int32} {y3 : Int32} {S : rS} (hK7 : ∀ (y2 : Int32) (y3 : Int32) (S : rS) (ls : Array Slot) (H : Heap) (locs : List Loc), lx ls [some (.ref h), none, some (.int y2), some (.int y3), none, none] → AI D vwCl b0 (rH dA h S hp0) sz s.heap H locs → K7 y2 y3 S = some r → W p l e { frames := 0, cells := 0, slots := 0, locals := 0 } s m args below meth c H locs 0 0 (MQ below (CQ D vwCl b0 (some (.int r)) (rH dA h S hp0) sz) args s 0 0 (fun q => b0 ≤ q)) (F0 m 7 ls [])) (B : BX p m c cb_entryOf 6 s args (.code y_entryOf cb_entryOf 6 (some .int) :: wsA) RREF meth (some .int) D vwCl (tyL dA) b0 Z) (hR : RR b0 h Z) (hl : lx ls [some (.ref h), none, some (.int y2), some (.int y3), none, none]) (I : AI D vwCl b0 (rH dA h S hp0) sz s.heap H locs)  (hm : m_entryOf_7F N  K7 y2 y3 S = some r) : W p l e { frames := 0, cells := 0, slots := 0, locals := 0 } s m args below meth c H locs 0 0 (MQ below (CQ D vwCl b0 (some (.int r)) (rH dA h S hp0) sz) args s 0 0 (fun q => b0 ≤ q)) (F0 m 7 ls []) := by
  obtain ⟨hx, hb, -⟩ := B.1
  unfold m_entryOf_7F at hm
  refine lv_iload_n (pc := 7) (i := 3) hx hb d_entryOf_7 rfl (lx_get hl rfl) ?_
  refine lv_iconst (pc := 8) (v := (-1)) hx hb d_entryOf_8 (by decide) ?_
  refine lv_icmp_eq (pc := 9) (tgt := 114) hx hb d_entryOf_9 (by decide) (fun hc => ?_) (fun hc => ?_)
  · have hm := ift hc hm
    refine lv_iconst (pc := 114) (v := (-1)) hx hb d_entryOf_114 (by decide) ?_
    cases hm
    exact q_iret (pc := 115) B I rfl d_entryOf_115
  · have hm := iff' hc hm
    refine lv_aload_n (pc := 12) (i := 0) hx hb d_entryOf_12 rfl (lx_get hl rfl) ?_
    refine r_get (pc := 13) (k := 15) (index := 40) B I (by decide) mF_40 rfl rfl d_entryOf_13 ?_
    refine lv_iload_n (pc := 16) (i := 3) hx hb d_entryOf_16 rfl (lx_get hl rfl) ?_
    refine ob1 hm (fun x1 e2 hm => ?_)
    refine r_ald (pc := 17) (j := 11) B I (by decide) (by decide) e2 d_entryOf_17 ?_
    refine lv_aload_n (pc := 18) (i := 0) hx hb d_entryOf_18 rfl (lx_get hl rfl) ?_
    refine r_get (pc := 19) (k := 23) (index := 55) B I (by decide) mF_55 rfl rfl d_entryOf_19 ?_
    refine lv_iload_n (pc := 22) (i := 2) hx hb d_entryOf_22 rfl (lx_get hl rfl) ?_
    refine ob1 hm (fun x3 e4 hm => ?_)
    refine r_ald (pc := 23) (j := 16) B I (by decide) (by decide) e4 d_entryOf_23 ?_
    refine lv_icmp_ne (pc := 24) (tgt := 31) hx hb d_entryOf_24 (by decide) (fun hc => ?_) (fun hc => ?_)
    · have hm := iff' hc hm
      refine lv_iconst (pc := 31) (v := 0) hx hb d_entryOf_31 (by decide) ?_
      exact w_entryOf_32 hK7 B hR hl I hm
    · have hm := ift hc hm
      refine lv_iconst (pc := 27) (v := 1) hx hb d_entryOf_27 (by decide) ?_
      refine lv_goto (pc := 28) (tgt := 32) hx hb d_entryOf_28 (by decide) ?_
      exact w_entryOf_32 hK7 B hR hl I hm
set_option maxRecDepth 100000 in
set_option maxHeartbeats 4000000 in
theorem w_entryOf_7i (B : BX p m c cb_entryOf 6 s args (.code y_entryOf cb_entryOf 6 (some .int) :: wsA) RREF meth (some .int) D vwCl (tyL dA) b0 Z) (hR : RR b0 h Z) (k : Nat) (y2 : Int32) (y3 : Int32) (S : rS) (ls : Array Slot) (H : Heap) (locs : List Loc) (hl : lx ls [some (.ref h), none, some (.int y2), some (.int y3), none, none]) (I : AI D vwCl b0 (rH dA h S hp0) sz s.heap H locs)  (hm : m_entryOf_7 N  k y2 y3 S = some r) : W p l e { frames := 0, cells := 0, slots := 0, locals := 0 } s m args below meth c H locs 0 0 (MQ below (CQ D vwCl b0 (some (.int r)) (rH dA h S hp0) sz) args s 0 0 (fun q => b0 ≤ q)) (F0 m 7 ls []) := by
  induction k generalizing y2 y3 S ls H locs with
  | zero => cases hm
  | succ k ih => exact w_entryOf_7F  (fun y2 y3 S ls H locs hl I hm => ih y2 y3 S ls H locs hl I hm) B hR hl I hm
theorem w_entryOf_7 {y2 : Int32} {y3 : Int32} {S : rS} (B : BX p m c cb_entryOf 6 s args (.code y_entryOf cb_entryOf 6 (some .int) :: wsA) RREF meth (some .int) D vwCl (tyL dA) b0 Z) (hR : RR b0 h Z) (hl : lx ls [some (.ref h), none, some (.int y2), some (.int y3), none, none]) (I : AI D vwCl b0 (rH dA h S hp0) sz s.heap H locs)  {k : Nat} (hm : m_entryOf_7 N  k y2 y3 S = some r) : W p l e { frames := 0, cells := 0, slots := 0, locals := 0 } s m args below meth c H locs 0 0 (MQ below (CQ D vwCl b0 (some (.int r)) (rH dA h S hp0) sz) args s 0 0 (fun q => b0 ≤ q)) (F0 m 7 ls []) := w_entryOf_7i  B hR k _ _ S ls H locs hl I hm
def m_entryOf (N : Nat) (p1 : Int32) (p2 : Int32) (S : rS) : Option Int32 :=
  b1 (rL S 6 p1) (fun x1 => m_entryOf_7 N  N p2 x1 S)
set_option maxRecDepth 100000 in
set_option maxHeartbeats 4000000 in
theorem c_entryOf {p1 : Int32} {p2 : Int32} {S : rS} {r : Int32} (hR : RR b0 h Z) (hm : m_entryOf N p1 p2 S = some r) : Ct l D vwCl (tyL dA) b0 Z y_entryOf (.code y_entryOf cb_entryOf 6 (some .int) :: wsA) 0 0 [.ref h, .int p1, .int p2] (rH dA h S hp0) sz (some (.int r)) (rH dA h S hp0) 0 0 := by
  refine ct_of (cc := cb_entryOf) (maxL := 6) (ret := (some .int)) (lo0 := [some (.ref h), some (.int p1), some (.int p2), none, none, none]) hR.2 (by decide) rfl (by simp [lg_sl, Value.category]) rfl (by simp [lx_all, lv_args, Value.category]) ?_
  intro p e s m args below meth c ls B hnm hl I
  obtain ⟨hx, hb, -⟩ := B.1
  unfold m_entryOf at hm
  refine lv_aload_n (pc := 0) (i := 0) hx hb d_entryOf_0 rfl (lx_get hl rfl) ?_
  refine r_get (pc := 1) (k := 10) (index := 25) B I (by decide) mF_25 rfl rfl d_entryOf_1 ?_
  refine lv_iload_n (pc := 4) (i := 1) hx hb d_entryOf_4 rfl (lx_get hl rfl) ?_
  refine ob1 hm (fun x1 e2 hm => ?_)
  refine r_ald (pc := 5) (j := 6) B I (by decide) (by decide) e2 d_entryOf_5 ?_
  refine q_istore_n (pc := 6) (i := 3) (lo' := [some (.ref h), some (.int p1), some (.int p2), some (.int x1), none, none]) hx hb d_entryOf_6 rfl hl (Nat.le_of_ble_eq_true rfl) (lx_ci rfl) rfl (fun ls hl => ?_)
  exact w_entryOf_7  B hR (lx_sub (lo' := [some (.ref h), none, some (.int p2), some (.int x1), none, none]) hl (by simp [lx_le])) I hm
def m_leadEntry_75 (N : Nat) (K4 : Int32 → Int32 → rS → Option (Int32 × rS)) (y3 : Int32) (z0 : Int32) (S : rS) : Option (Int32 × rS) :=
  K4 z0 (y3 + 1) S
set_option maxRecDepth 100000 in
set_option maxHeartbeats 4000000 in
theorem w_leadEntry_75 {K4 : Int32 → Int32 → rS → Option (Int32 × rS)} {y3 : Int32} {z0 : Int32} {S : rS} (hK4 : ∀ (y2 : Int32) (y3 : Int32) (S : rS) (ls : Array Slot) (H : Heap) (locs : List Loc), lx ls [some (.ref h), none, some (.int y2), some (.int y3), none] → AI D vwCl b0 (rH dA h S hp0) sz s.heap H locs → K4 y2 y3 S = some (r, S') → W p l e { frames := 1, cells := 0, slots := 0, locals := 25 } s m args below meth c H locs 0 0 (MQ below (CQ D vwCl b0 (some (.int r)) (rH dA h S' hp0) sz) args s 0 0 (fun q => b0 ≤ q)) (F0 m 4 ls [])) (B : BX p m c cb_leadEntry 5 s args (.code y_leadEntry cb_leadEntry 5 (some .int) :: wsA) RREF meth (some .int) D vwCl (tyL dA) b0 Z) (hR : RR b0 h Z) (hl : lx ls [some (.ref h), none, none, some (.int y3), none]) (I : AI D vwCl b0 (rH dA h S hp0) sz s.heap H locs)  (hm : m_leadEntry_75 N K4 y3 z0 S = some (r, S')) : W p l e { frames := 1, cells := 0, slots := 0, locals := 25 } s m args below meth c H locs 0 0 (MQ below (CQ D vwCl b0 (some (.int r)) (rH dA h S' hp0) sz) args s 0 0 (fun q => b0 ≤ q)) (F0 m 75 ls [.int z0]) := by
  obtain ⟨hx, hb, -⟩ := B.1
  unfold m_leadEntry_75 at hm
  refine q_istore_n (pc := 75) (i := 2) (lo' := [some (.ref h), none, some (.int z0), some (.int y3), none]) hx hb d_leadEntry_75 rfl hl (Nat.le_of_ble_eq_true rfl) (lx_cn rfl) rfl (fun ls hl => ?_)
  refine q_iinc (pc := 76) (i := 3) (v := y3 + 1) (lo' := [some (.ref h), none, some (.int z0), some (.int (y3 + 1)), none]) hx hb d_leadEntry_76 hl rfl rfl (Nat.le_of_ble_eq_true rfl) (lx_ci rfl) rfl (fun ls hl => ?_)
  refine lv_goto (pc := 79) (tgt := 4) hx hb d_leadEntry_79 (by decide) ?_
  exact hK4 _ _ _ _ _ _ hl I hm
def m_leadEntry_52 (N : Nat) (K4 : Int32 → Int32 → rS → Option (Int32 × rS)) (y2 : Int32) (y3 : Int32) (y4 : Int32) (S : rS) : Option (Int32 × rS) :=
  if y4 = (-1) then (b2 (m_make N 9 y2 S) (fun x2 S3 => b2 (m_named N x2 y3 S3) (fun x5 S6 => m_leadEntry_75 N K4 y3 x5 S6))) else (m_leadEntry_75 N K4 y3 y4 S)
set_option maxRecDepth 100000 in
set_option maxHeartbeats 4000000 in
theorem w_leadEntry_52 {K4 : Int32 → Int32 → rS → Option (Int32 × rS)} {y2 : Int32} {y3 : Int32} {y4 : Int32} {S : rS} (hK4 : ∀ (y2 : Int32) (y3 : Int32) (S : rS) (ls : Array Slot) (H : Heap) (locs : List Loc), lx ls [some (.ref h), none, some (.int y2), some (.int y3), none] → AI D vwCl b0 (rH dA h S hp0) sz s.heap H locs → K4 y2 y3 S = some (r, S') → W p l e { frames := 1, cells := 0, slots := 0, locals := 25 } s m args below meth c H locs 0 0 (MQ below (CQ D vwCl b0 (some (.int r)) (rH dA h S' hp0) sz) args s 0 0 (fun q => b0 ≤ q)) (F0 m 4 ls [])) (B : BX p m c cb_leadEntry 5 s args (.code y_leadEntry cb_leadEntry 5 (some .int) :: wsA) RREF meth (some .int) D vwCl (tyL dA) b0 Z) (hR : RR b0 h Z) (hl : lx ls [some (.ref h), none, some (.int y2), some (.int y3), some (.int y4)]) (I : AI D vwCl b0 (rH dA h S hp0) sz s.heap H locs)  (hm : m_leadEntry_52 N K4 y2 y3 y4 S = some (r, S')) : W p l e { frames := 1, cells := 0, slots := 0, locals := 25 } s m args below meth c H locs 0 0 (MQ below (CQ D vwCl b0 (some (.int r)) (rH dA h S' hp0) sz) args s 0 0 (fun q => b0 ≤ q)) (F0 m 52 ls []) := by
  obtain ⟨hx, hb, -⟩ := B.1
  unfold m_leadEntry_52 at hm
  refine lv_iload (pc := 52) (i := 4) hx hb d_leadEntry_52 (lx_get hl rfl) ?_
  refine lv_iconst (pc := 54) (v := (-1)) hx hb d_leadEntry_54 (by decide) ?_
  refine lv_icmp_ne (pc := 55) (tgt := 73) hx hb d_leadEntry_55 (by decide) (fun hc => ?_) (fun hc => ?_)
  · have hm := iff' hc hm
    refine lv_iload (pc := 73) (i := 4) hx hb d_leadEntry_73 (lx_get hl rfl) ?_
    exact w_leadEntry_75 hK4 B hR (lx_sub (lo' := [some (.ref h), none, none, some (.int y3), none]) hl (by simp [lx_le])) I hm
  · have hm := ift hc hm
    refine lv_aload_n (pc := 58) (i := 0) hx hb d_leadEntry_58 rfl (lx_get hl rfl) ?_
    refine lv_aload_n (pc := 59) (i := 0) hx hb d_leadEntry_59 rfl (lx_get hl rfl) ?_
    refine lv_bipush (pc := 60) (v := 9) hx hb d_leadEntry_60 (by decide) ?_
    refine lv_iload_n (pc := 62) (i := 2) hx hb d_leadEntry_62 rfl (lx_get hl rfl) ?_
    refine ob2 hm (fun x2 S3 e1 hm => ?_)
    refine r_call (pc := 63) (As := [.int 9, .int y2]) (rest := [.ref h]) B hl rfl I (c_make hR e1) kw_make rfl (by decide) (by decide) rfl (by simp [Value.category]) d_leadEntry_63 (fun H locs I => ?_)
    refine lv_iload_n (pc := 66) (i := 3) hx hb d_leadEntry_66 rfl (lx_get hl rfl) ?_
    refine ob2 hm (fun x5 S6 e4 hm => ?_)
    refine r_call (pc := 67) (As := [.int x2, .int y3]) (rest := []) B hl rfl I (c_named hR e4) kw_named rfl (by decide) (by decide) rfl (by simp [Value.category]) d_leadEntry_67 (fun H locs I => ?_)
    refine lv_goto (pc := 70) (tgt := 75) hx hb d_leadEntry_70 (by decide) ?_
    exact w_leadEntry_75 hK4 B hR (lx_sub (lo' := [some (.ref h), none, none, some (.int y3), none]) hl (by simp [lx_le])) I hm
def m_leadEntry_4F (N : Nat) (K4 : Int32 → Int32 → rS → Option (Int32 × rS)) (y2 : Int32) (y3 : Int32) (S : rS) : Option (Int32 × rS) :=
  if (S.1 20) - 1 ≤ y3 then (b1 (m_entryOf N y2 ((S.1 20) - 1) S) (fun x2 => if x2 = (-1) then (some (y2, S)) else (b1 (rL S 14 ((S.1 20) - 1)) (fun x3 => b1 (rP S 4 x3) (fun S5 => some ((-1), S5)))))) else (b1 (m_entryOf N y2 y3 S) (fun x8 => if x8 = (-1) then (m_leadEntry_52 N K4 y2 y3 x8 S) else (b1 (rL S 3 x8) (fun x9 => if x9 = 9 then (m_leadEntry_52 N K4 y2 y3 x8 S) else (b1 (rL S 14 y3) (fun x11 => b1 (rP S 4 x11) (fun S13 => some ((-1), S13))))))))
def m_leadEntry_4 (N : Nat) : Nat → Int32 → Int32 → rS → Option (Int32 × rS)
  | 0, _, _, _ => none
  | k + 1, y2, y3, S => m_leadEntry_4F N  (m_leadEntry_4 N  k) y2 y3 S
set_option maxRecDepth 100000 in
set_option maxHeartbeats 4000000 in
theorem w_leadEntry_4F {K4 : Int32 → Int32 → rS → Option (Int32 × rS)} {y2 : Int32} {y3 : Int32} {S : rS} (hK4 : ∀ (y2 : Int32) (y3 : Int32) (S : rS) (ls : Array Slot) (H : Heap) (locs : List Loc), lx ls [some (.ref h), none, some (.int y2), some (.int y3), none] → AI D vwCl b0 (rH dA h S hp0) sz s.heap H locs → K4 y2 y3 S = some (r, S') → W p l e { frames := 1, cells := 0, slots := 0, locals := 25 } s m args below meth c H locs 0 0 (MQ below (CQ D vwCl b0 (some (.int r)) (rH dA h S' hp0) sz) args s 0 0 (fun q => b0 ≤ q)) (F0 m 4 ls [])) (B : BX p m c cb_leadEntry 5 s args (.code y_leadEntry cb_leadEntry 5 (some .int) :: wsA) RREF meth (some .int) D vwCl (tyL dA) b0 Z) (hR : RR b0 h Z) (hl : lx ls [some (.ref h), none, some (.int y2), some (.int y3), none]) (I : AI D vwCl b0 (rH dA h S hp0) sz s.heap H locs)  (hm : m_leadEntry_4F N  K4 y2 y3 S = some (r, S')) : W p l e { frames := 1, cells := 0, slots := 0, locals := 25 } s m args below meth c H locs 0 0 (MQ below (CQ D vwCl b0 (some (.int r)) (rH dA h S' hp0) sz) args s 0 0 (fun q => b0 ≤ q)) (F0 m 4 ls []) := by
  obtain ⟨hx, hb, -⟩ := B.1
  unfold m_leadEntry_4F at hm
  refine lv_iload_n (pc := 4) (i := 3) hx hb d_leadEntry_4 rfl (lx_get hl rfl) ?_
  refine lv_aload_n (pc := 5) (i := 0) hx hb d_leadEntry_5 rfl (lx_get hl rfl) ?_
  refine r_get (pc := 6) (k := 20) (index := 119) B I (by decide) mF_119 rfl rfl d_leadEntry_6 ?_
  refine lv_iconst (pc := 9) (v := 1) hx hb d_leadEntry_9 (by decide) ?_
  refine lv_isub (pc := 10) hx hb d_leadEntry_10 ?_
  refine lv_icmp_ge (pc := 11) (tgt := 82) hx hb d_leadEntry_11 (by decide) (fun hc => ?_) (fun hc => ?_)
  · have hm := ift hc hm
    refine lv_aload_n (pc := 82) (i := 0) hx hb d_leadEntry_82 rfl (lx_get hl rfl) ?_
    refine lv_iload_n (pc := 83) (i := 2) hx hb d_leadEntry_83 rfl (lx_get hl rfl) ?_
    refine lv_aload_n (pc := 84) (i := 0) hx hb d_leadEntry_84 rfl (lx_get hl rfl) ?_
    refine r_get (pc := 85) (k := 20) (index := 119) B I (by decide) mF_119 rfl rfl d_leadEntry_85 ?_
    refine lv_iconst (pc := 88) (v := 1) hx hb d_leadEntry_88 (by decide) ?_
    refine lv_isub (pc := 89) hx hb d_leadEntry_89 ?_
    refine ob1 hm (fun x2 e1 hm => ?_)
    refine r_call (pc := 90) (As := [.int y2, .int ((S.1 20) - 1)]) (rest := []) B hl rfl I (c_entryOf hR e1) kw_entryOf rfl (by decide) (by decide) rfl (by simp [Value.category]) d_leadEntry_90 (fun H locs I => ?_)
    refine lv_iconst (pc := 93) (v := (-1)) hx hb d_leadEntry_93 (by decide) ?_
    refine lv_icmp_eq (pc := 94) (tgt := 114) hx hb d_leadEntry_94 (by decide) (fun hc => ?_) (fun hc => ?_)
    · have hm := ift hc hm
      refine lv_iload_n (pc := 114) (i := 2) hx hb d_leadEntry_114 rfl (lx_get hl rfl) ?_
      cases hm
      exact q_iret (pc := 115) B I rfl d_leadEntry_115
    · have hm := iff' hc hm
      refine lv_aload_n (pc := 97) (i := 0) hx hb d_leadEntry_97 rfl (lx_get hl rfl) ?_
      refine lv_aload_n (pc := 98) (i := 0) hx hb d_leadEntry_98 rfl (lx_get hl rfl) ?_
      refine r_get (pc := 99) (k := 21) (index := 49) B I (by decide) mF_49 rfl rfl d_leadEntry_99 ?_
      refine lv_aload_n (pc := 102) (i := 0) hx hb d_leadEntry_102 rfl (lx_get hl rfl) ?_
      refine r_get (pc := 103) (k := 20) (index := 119) B I (by decide) mF_119 rfl rfl d_leadEntry_103 ?_
      refine lv_iconst (pc := 106) (v := 1) hx hb d_leadEntry_106 (by decide) ?_
      refine lv_isub (pc := 107) hx hb d_leadEntry_107 ?_
      refine ob1 hm (fun x3 e4 hm => ?_)
      refine r_ald (pc := 108) (j := 14) B I (by decide) (by decide) e4 d_leadEntry_108 ?_
      refine ob1 hm (fun S5 e6 hm => ?_)
      refine r_put (pc := 109) (k := 4) (index := 79) B hR I (by decide) mF_79 rfl rfl rfl (fun _ _ => rfl) e6 d_leadEntry_109 (fun H locs I => ?_)
      refine lv_iconst (pc := 112) (v := (-1)) hx hb d_leadEntry_112 (by decide) ?_
      cases hm
      exact q_iret (pc := 113) B I rfl d_leadEntry_113
  · have hm := iff' hc hm
    refine lv_aload_n (pc := 14) (i := 0) hx hb d_leadEntry_14 rfl (lx_get hl rfl) ?_
    refine lv_iload_n (pc := 15) (i := 2) hx hb d_leadEntry_15 rfl (lx_get hl rfl) ?_
    refine lv_iload_n (pc := 16) (i := 3) hx hb d_leadEntry_16 rfl (lx_get hl rfl) ?_
    refine ob1 hm (fun x8 e7 hm => ?_)
    refine r_call (pc := 17) (As := [.int y2, .int y3]) (rest := []) B hl rfl I (c_entryOf hR e7) kw_entryOf rfl (by decide) (by decide) rfl (by simp [Value.category]) d_leadEntry_17 (fun H locs I => ?_)
    refine q_istore (pc := 20) (i := 4) (lo' := [some (.ref h), none, some (.int y2), some (.int y3), some (.int x8)]) hx hb d_leadEntry_20 hl (Nat.le_of_ble_eq_true rfl) (lx_ci rfl) rfl (fun ls hl => ?_)
    refine lv_iload (pc := 22) (i := 4) hx hb d_leadEntry_22 (lx_get hl rfl) ?_
    refine lv_iconst (pc := 24) (v := (-1)) hx hb d_leadEntry_24 (by decide) ?_
    refine lv_icmp_eq (pc := 25) (tgt := 52) hx hb d_leadEntry_25 (by decide) (fun hc => ?_) (fun hc => ?_)
    · have hm := ift hc hm
      exact w_leadEntry_52 hK4 B hR hl I hm
    · have hm := iff' hc hm
      refine lv_aload_n (pc := 28) (i := 0) hx hb d_leadEntry_28 rfl (lx_get hl rfl) ?_
      refine r_get (pc := 29) (k := 7) (index := 16) B I (by decide) mF_16 rfl rfl d_leadEntry_29 ?_
      refine lv_iload (pc := 32) (i := 4) hx hb d_leadEntry_32 (lx_get hl rfl) ?_
      refine ob1 hm (fun x9 e10 hm => ?_)
      refine r_ald (pc := 34) (j := 3) B I (by decide) (by decide) e10 d_leadEntry_34 ?_
      refine lv_bipush (pc := 35) (v := 9) hx hb d_leadEntry_35 (by decide) ?_
      refine lv_icmp_eq (pc := 37) (tgt := 52) hx hb d_leadEntry_37 (by decide) (fun hc => ?_) (fun hc => ?_)
      · have hm := ift hc hm
        exact w_leadEntry_52 hK4 B hR hl I hm
      · have hm := iff' hc hm
        refine lv_aload_n (pc := 40) (i := 0) hx hb d_leadEntry_40 rfl (lx_get hl rfl) ?_
        refine lv_aload_n (pc := 41) (i := 0) hx hb d_leadEntry_41 rfl (lx_get hl rfl) ?_
        refine r_get (pc := 42) (k := 21) (index := 49) B I (by decide) mF_49 rfl rfl d_leadEntry_42 ?_
        refine lv_iload_n (pc := 45) (i := 3) hx hb d_leadEntry_45 rfl (lx_get hl rfl) ?_
        refine ob1 hm (fun x11 e12 hm => ?_)
        refine r_ald (pc := 46) (j := 14) B I (by decide) (by decide) e12 d_leadEntry_46 ?_
        refine ob1 hm (fun S13 e14 hm => ?_)
        refine r_put (pc := 47) (k := 4) (index := 79) B hR I (by decide) mF_79 rfl rfl rfl (fun _ _ => rfl) e14 d_leadEntry_47 (fun H locs I => ?_)
        refine lv_iconst (pc := 50) (v := (-1)) hx hb d_leadEntry_50 (by decide) ?_
        cases hm
        exact q_iret (pc := 51) B I rfl d_leadEntry_51
set_option maxRecDepth 100000 in
set_option maxHeartbeats 4000000 in
theorem w_leadEntry_4i (B : BX p m c cb_leadEntry 5 s args (.code y_leadEntry cb_leadEntry 5 (some .int) :: wsA) RREF meth (some .int) D vwCl (tyL dA) b0 Z) (hR : RR b0 h Z) (k : Nat) (y2 : Int32) (y3 : Int32) (S : rS) (ls : Array Slot) (H : Heap) (locs : List Loc) (hl : lx ls [some (.ref h), none, some (.int y2), some (.int y3), none]) (I : AI D vwCl b0 (rH dA h S hp0) sz s.heap H locs)  (hm : m_leadEntry_4 N  k y2 y3 S = some (r, S')) : W p l e { frames := 1, cells := 0, slots := 0, locals := 25 } s m args below meth c H locs 0 0 (MQ below (CQ D vwCl b0 (some (.int r)) (rH dA h S' hp0) sz) args s 0 0 (fun q => b0 ≤ q)) (F0 m 4 ls []) := by
  induction k generalizing y2 y3 S ls H locs with
  | zero => cases hm
  | succ k ih => exact w_leadEntry_4F  (fun y2 y3 S ls H locs hl I hm => ih y2 y3 S ls H locs hl I hm) B hR hl I hm
theorem w_leadEntry_4 {y2 : Int32} {y3 : Int32} {S : rS} (B : BX p m c cb_leadEntry 5 s args (.code y_leadEntry cb_leadEntry 5 (some .int) :: wsA) RREF meth (some .int) D vwCl (tyL dA) b0 Z) (hR : RR b0 h Z) (hl : lx ls [some (.ref h), none, some (.int y2), some (.int y3), none]) (I : AI D vwCl b0 (rH dA h S hp0) sz s.heap H locs)  {k : Nat} (hm : m_leadEntry_4 N  k y2 y3 S = some (r, S')) : W p l e { frames := 1, cells := 0, slots := 0, locals := 25 } s m args below meth c H locs 0 0 (MQ below (CQ D vwCl b0 (some (.int r)) (rH dA h S' hp0) sz) args s 0 0 (fun q => b0 ≤ q)) (F0 m 4 ls []) := w_leadEntry_4i  B hR k _ _ S ls H locs hl I hm
def m_leadEntry (N : Nat) (p1 : Int32) (S : rS) : Option (Int32 × rS) :=
  m_leadEntry_4 N  N p1 0 S
set_option maxRecDepth 100000 in
set_option maxHeartbeats 4000000 in
theorem c_leadEntry {p1 : Int32} {S S' : rS} {r : Int32} (hR : RR b0 h Z) (hm : m_leadEntry N p1 S = some (r, S')) : Ct l D vwCl (tyL dA) b0 Z y_leadEntry (.code y_leadEntry cb_leadEntry 5 (some .int) :: wsA) 1 25 [.ref h, .int p1] (rH dA h S hp0) sz (some (.int r)) (rH dA h S' hp0) 0 0 := by
  refine ct_of (cc := cb_leadEntry) (maxL := 5) (ret := (some .int)) (lo0 := [some (.ref h), some (.int p1), none, none, none]) hR.2 (by decide) rfl (by simp [lg_sl, Value.category]) rfl (by simp [lx_all, lv_args, Value.category]) ?_
  intro p e s m args below meth c ls B hnm hl I
  obtain ⟨hx, hb, -⟩ := B.1
  unfold m_leadEntry at hm
  refine lv_iload_n (pc := 0) (i := 1) hx hb d_leadEntry_0 rfl (lx_get hl rfl) ?_
  refine q_istore_n (pc := 1) (i := 2) (lo' := [some (.ref h), some (.int p1), some (.int p1), none, none]) hx hb d_leadEntry_1 rfl hl (Nat.le_of_ble_eq_true rfl) (lx_ci rfl) rfl (fun ls hl => ?_)
  refine lv_iconst (pc := 2) (v := 0) hx hb d_leadEntry_2 (by decide) ?_
  refine q_istore_n (pc := 3) (i := 3) (lo' := [some (.ref h), some (.int p1), some (.int p1), some (.int 0), none]) hx hb d_leadEntry_3 rfl hl (Nat.le_of_ble_eq_true rfl) (lx_ci rfl) rfl (fun ls hl => ?_)
  exact w_leadEntry_4  B hR (lx_sub (lo' := [some (.ref h), none, some (.int p1), some (.int 0), none]) hl (by simp [lx_le])) I hm
def m_leadHeader_94 (N : Nat) (y2 : Int32) (S : rS) : Option (Int32 × rS) :=
  b1 (rL S 14 y2) (fun x1 => b1 (rP S 4 x1) (fun S3 => some ((-1), S3)))
set_option maxRecDepth 100000 in
set_option maxHeartbeats 4000000 in
theorem w_leadHeader_94 {y2 : Int32} {S : rS} (B : BX p m c cb_leadHeader 4 s args (.code y_leadHeader cb_leadHeader 4 (some .int) :: wsA) RREF meth (some .int) D vwCl (tyL dA) b0 Z) (hR : RR b0 h Z) (hl : lx ls [some (.ref h), none, some (.int y2), none]) (I : AI D vwCl b0 (rH dA h S hp0) sz s.heap H locs)  (hm : m_leadHeader_94 N  y2 S = some (r, S')) : W p l e { frames := 1, cells := 0, slots := 0, locals := 25 } s m args below meth c H locs 0 0 (MQ below (CQ D vwCl b0 (some (.int r)) (rH dA h S' hp0) sz) args s 0 0 (fun q => b0 ≤ q)) (F0 m 94 ls []) := by
  obtain ⟨hx, hb, -⟩ := B.1
  unfold m_leadHeader_94 at hm
  refine lv_aload_n (pc := 94) (i := 0) hx hb d_leadHeader_94 rfl (lx_get hl rfl) ?_
  refine lv_aload_n (pc := 95) (i := 0) hx hb d_leadHeader_95 rfl (lx_get hl rfl) ?_
  refine r_get (pc := 96) (k := 21) (index := 49) B I (by decide) mF_49 rfl rfl d_leadHeader_96 ?_
  refine lv_iload_n (pc := 99) (i := 2) hx hb d_leadHeader_99 rfl (lx_get hl rfl) ?_
  refine ob1 hm (fun x1 e2 hm => ?_)
  refine r_ald (pc := 100) (j := 14) B I (by decide) (by decide) e2 d_leadHeader_100 ?_
  refine ob1 hm (fun S3 e4 hm => ?_)
  refine r_put (pc := 101) (k := 4) (index := 79) B hR I (by decide) mF_79 rfl rfl rfl (fun _ _ => rfl) e4 d_leadHeader_101 (fun H locs I => ?_)
  refine lv_iconst (pc := 104) (v := (-1)) hx hb d_leadHeader_104 (by decide) ?_
  cases hm
  exact q_iret (pc := 105) B I rfl d_leadHeader_105
def m_leadHeader_106 (N : Nat) (K11 : Int32 → Int32 → rS → Option (Int32 × rS)) (y1 : Int32) (y2 : Int32) (S : rS) : Option (Int32 × rS) :=
  K11 y1 (y2 + 1) S
set_option maxRecDepth 100000 in
set_option maxHeartbeats 4000000 in
theorem w_leadHeader_106 {K11 : Int32 → Int32 → rS → Option (Int32 × rS)} {y1 : Int32} {y2 : Int32} {S : rS} (hK11 : ∀ (y1 : Int32) (y2 : Int32) (S : rS) (ls : Array Slot) (H : Heap) (locs : List Loc), lx ls [some (.ref h), some (.int y1), some (.int y2), none] → AI D vwCl b0 (rH dA h S hp0) sz s.heap H locs → K11 y1 y2 S = some (r, S') → W p l e { frames := 1, cells := 0, slots := 0, locals := 25 } s m args below meth c H locs 0 0 (MQ below (CQ D vwCl b0 (some (.int r)) (rH dA h S' hp0) sz) args s 0 0 (fun q => b0 ≤ q)) (F0 m 11 ls [])) (B : BX p m c cb_leadHeader 4 s args (.code y_leadHeader cb_leadHeader 4 (some .int) :: wsA) RREF meth (some .int) D vwCl (tyL dA) b0 Z) (hR : RR b0 h Z) (hl : lx ls [some (.ref h), some (.int y1), some (.int y2), none]) (I : AI D vwCl b0 (rH dA h S hp0) sz s.heap H locs)  (hm : m_leadHeader_106 N K11 y1 y2 S = some (r, S')) : W p l e { frames := 1, cells := 0, slots := 0, locals := 25 } s m args below meth c H locs 0 0 (MQ below (CQ D vwCl b0 (some (.int r)) (rH dA h S' hp0) sz) args s 0 0 (fun q => b0 ≤ q)) (F0 m 106 ls []) := by
  obtain ⟨hx, hb, -⟩ := B.1
  unfold m_leadHeader_106 at hm
  refine q_iinc (pc := 106) (i := 2) (v := y2 + 1) (lo' := [some (.ref h), some (.int y1), some (.int (y2 + 1)), none]) hx hb d_leadHeader_106 hl rfl rfl (Nat.le_of_ble_eq_true rfl) (lx_ci rfl) rfl (fun ls hl => ?_)
  refine lv_goto (pc := 109) (tgt := 11) hx hb d_leadHeader_109 (by decide) ?_
  exact hK11 _ _ _ _ _ _ hl I hm
def m_leadHeader_11F (N : Nat) (K11 : Int32 → Int32 → rS → Option (Int32 × rS)) (y1 : Int32) (y2 : Int32) (S : rS) : Option (Int32 × rS) :=
  if (S.1 20) - 1 ≤ y2 then (some (y1, S)) else (b1 (m_entryOf N y1 y2 S) (fun x2 => if x2 = (-1) then (b2 (m_make N 8 y1 S) (fun x12 S13 => b2 (m_named N x12 y2 S13) (fun x15 S16 => m_leadHeader_106 N K11 x15 y2 S16))) else (b1 (rL S 3 x2) (fun x3 => if x3 = 6 then (b1 (rL S 7 x2) (fun x9 => m_leadHeader_106 N K11 x9 y2 S)) else (b1 (m_isTable N x2 S) (fun x6 => if x6 = 0 then (m_leadHeader_94 N  y2 S) else (b1 (rL S 3 x2) (fun x7 => if x7 = 10 then (m_leadHeader_94 N  y2 S) else (m_leadHeader_106 N K11 x2 y2 S)))))))))
def m_leadHeader_11 (N : Nat) : Nat → Int32 → Int32 → rS → Option (Int32 × rS)
  | 0, _, _, _ => none
  | k + 1, y1, y2, S => m_leadHeader_11F N  (m_leadHeader_11 N  k) y1 y2 S
set_option maxRecDepth 100000 in
set_option maxHeartbeats 4000000 in
theorem w_leadHeader_11F {K11 : Int32 → Int32 → rS → Option (Int32 × rS)} {y1 : Int32} {y2 : Int32} {S : rS} (hK11 : ∀ (y1 : Int32) (y2 : Int32) (S : rS) (ls : Array Slot) (H : Heap) (locs : List Loc), lx ls [some (.ref h), some (.int y1), some (.int y2), none] → AI D vwCl b0 (rH dA h S hp0) sz s.heap H locs → K11 y1 y2 S = some (r, S') → W p l e { frames := 1, cells := 0, slots := 0, locals := 25 } s m args below meth c H locs 0 0 (MQ below (CQ D vwCl b0 (some (.int r)) (rH dA h S' hp0) sz) args s 0 0 (fun q => b0 ≤ q)) (F0 m 11 ls [])) (B : BX p m c cb_leadHeader 4 s args (.code y_leadHeader cb_leadHeader 4 (some .int) :: wsA) RREF meth (some .int) D vwCl (tyL dA) b0 Z) (hR : RR b0 h Z) (hl : lx ls [some (.ref h), some (.int y1), some (.int y2), none]) (I : AI D vwCl b0 (rH dA h S hp0) sz s.heap H locs)  (hm : m_leadHeader_11F N  K11 y1 y2 S = some (r, S')) : W p l e { frames := 1, cells := 0, slots := 0, locals := 25 } s m args below meth c H locs 0 0 (MQ below (CQ D vwCl b0 (some (.int r)) (rH dA h S' hp0) sz) args s 0 0 (fun q => b0 ≤ q)) (F0 m 11 ls []) := by
  obtain ⟨hx, hb, -⟩ := B.1
  unfold m_leadHeader_11F at hm
  refine lv_iload_n (pc := 11) (i := 2) hx hb d_leadHeader_11 rfl (lx_get hl rfl) ?_
  refine lv_aload_n (pc := 12) (i := 0) hx hb d_leadHeader_12 rfl (lx_get hl rfl) ?_
  refine r_get (pc := 13) (k := 20) (index := 119) B I (by decide) mF_119 rfl rfl d_leadHeader_13 ?_
  refine lv_iconst (pc := 16) (v := 1) hx hb d_leadHeader_16 (by decide) ?_
  refine lv_isub (pc := 17) hx hb d_leadHeader_17 ?_
  refine lv_icmp_ge (pc := 18) (tgt := 112) hx hb d_leadHeader_18 (by decide) (fun hc => ?_) (fun hc => ?_)
  · have hm := ift hc hm
    refine lv_iload_n (pc := 112) (i := 1) hx hb d_leadHeader_112 rfl (lx_get hl rfl) ?_
    cases hm
    exact q_iret (pc := 113) B I rfl d_leadHeader_113
  · have hm := iff' hc hm
    refine lv_aload_n (pc := 21) (i := 0) hx hb d_leadHeader_21 rfl (lx_get hl rfl) ?_
    refine lv_iload_n (pc := 22) (i := 1) hx hb d_leadHeader_22 rfl (lx_get hl rfl) ?_
    refine lv_iload_n (pc := 23) (i := 2) hx hb d_leadHeader_23 rfl (lx_get hl rfl) ?_
    refine ob1 hm (fun x2 e1 hm => ?_)
    refine r_call (pc := 24) (As := [.int y1, .int y2]) (rest := []) B hl rfl I (c_entryOf hR e1) kw_entryOf rfl (by decide) (by decide) rfl (by simp [Value.category]) d_leadHeader_24 (fun H locs I => ?_)
    refine q_istore_n (pc := 27) (i := 3) (lo' := [some (.ref h), some (.int y1), some (.int y2), some (.int x2)]) hx hb d_leadHeader_27 rfl hl (Nat.le_of_ble_eq_true rfl) (lx_ci rfl) rfl (fun ls hl => ?_)
    refine lv_iload_n (pc := 28) (i := 3) hx hb d_leadHeader_28 rfl (lx_get hl rfl) ?_
    refine lv_iconst (pc := 29) (v := (-1)) hx hb d_leadHeader_29 (by decide) ?_
    refine lv_icmp_ne (pc := 30) (tgt := 49) hx hb d_leadHeader_30 (by decide) (fun hc => ?_) (fun hc => ?_)
    · have hm := iff' hc hm
      refine lv_aload_n (pc := 49) (i := 0) hx hb d_leadHeader_49 rfl (lx_get hl rfl) ?_
      refine r_get (pc := 50) (k := 7) (index := 16) B I (by decide) mF_16 rfl rfl d_leadHeader_50 ?_
      refine lv_iload_n (pc := 53) (i := 3) hx hb d_leadHeader_53 rfl (lx_get hl rfl) ?_
      refine ob1 hm (fun x3 e4 hm => ?_)
      refine r_ald (pc := 54) (j := 3) B I (by decide) (by decide) e4 d_leadHeader_54 ?_
      refine lv_bipush (pc := 55) (v := 6) hx hb d_leadHeader_55 (by decide) ?_
      refine lv_icmp_ne (pc := 57) (tgt := 70) hx hb d_leadHeader_57 (by decide) (fun hc => ?_) (fun hc => ?_)
      · have hm := iff' hc hm
        refine lv_aload_n (pc := 70) (i := 0) hx hb d_leadHeader_70 rfl (lx_get hl rfl) ?_
        refine lv_iload_n (pc := 71) (i := 3) hx hb d_leadHeader_71 rfl (lx_get hl rfl) ?_
        refine ob1 hm (fun x6 e5 hm => ?_)
        refine r_call (pc := 72) (As := [.int x2]) (rest := []) B hl rfl I (c_isTable hR e5) kw_isTable rfl (by decide) (by decide) rfl (by simp [Value.category]) d_leadHeader_72 (fun H locs I => ?_)
        refine lv_if_eq (pc := 75) (tgt := 94) hx hb d_leadHeader_75 (by decide) (fun hc => ?_) (fun hc => ?_)
        · have hm := ift hc hm
          exact w_leadHeader_94  B hR (lx_sub (lo' := [some (.ref h), none, some (.int y2), none]) hl (by simp [lx_le])) I hm
        · have hm := iff' hc hm
          refine lv_aload_n (pc := 78) (i := 0) hx hb d_leadHeader_78 rfl (lx_get hl rfl) ?_
          refine r_get (pc := 79) (k := 7) (index := 16) B I (by decide) mF_16 rfl rfl d_leadHeader_79 ?_
          refine lv_iload_n (pc := 82) (i := 3) hx hb d_leadHeader_82 rfl (lx_get hl rfl) ?_
          refine ob1 hm (fun x7 e8 hm => ?_)
          refine r_ald (pc := 83) (j := 3) B I (by decide) (by decide) e8 d_leadHeader_83 ?_
          refine lv_bipush (pc := 84) (v := 10) hx hb d_leadHeader_84 (by decide) ?_
          refine lv_icmp_eq (pc := 86) (tgt := 94) hx hb d_leadHeader_86 (by decide) (fun hc => ?_) (fun hc => ?_)
          · have hm := ift hc hm
            exact w_leadHeader_94  B hR (lx_sub (lo' := [some (.ref h), none, some (.int y2), none]) hl (by simp [lx_le])) I hm
          · have hm := iff' hc hm
            refine lv_iload_n (pc := 89) (i := 3) hx hb d_leadHeader_89 rfl (lx_get hl rfl) ?_
            refine q_istore_n (pc := 90) (i := 1) (lo' := [some (.ref h), some (.int x2), some (.int y2), some (.int x2)]) hx hb d_leadHeader_90 rfl hl (Nat.le_of_ble_eq_true rfl) (lx_cr rfl) rfl (fun ls hl => ?_)
            refine lv_goto (pc := 91) (tgt := 106) hx hb d_leadHeader_91 (by decide) ?_
            exact w_leadHeader_106 hK11 B hR (lx_sub (lo' := [some (.ref h), some (.int x2), some (.int y2), none]) hl (by simp [lx_le])) I hm
      · have hm := ift hc hm
        refine lv_aload_n (pc := 60) (i := 0) hx hb d_leadHeader_60 rfl (lx_get hl rfl) ?_
        refine r_get (pc := 61) (k := 11) (index := 28) B I (by decide) mF_28 rfl rfl d_leadHeader_61 ?_
        refine lv_iload_n (pc := 64) (i := 3) hx hb d_leadHeader_64 rfl (lx_get hl rfl) ?_
        refine ob1 hm (fun x9 e10 hm => ?_)
        refine r_ald (pc := 65) (j := 7) B I (by decide) (by decide) e10 d_leadHeader_65 ?_
        refine q_istore_n (pc := 66) (i := 1) (lo' := [some (.ref h), some (.int x9), some (.int y2), some (.int x2)]) hx hb d_leadHeader_66 rfl hl (Nat.le_of_ble_eq_true rfl) (lx_cr rfl) rfl (fun ls hl => ?_)
        refine lv_goto (pc := 67) (tgt := 106) hx hb d_leadHeader_67 (by decide) ?_
        exact w_leadHeader_106 hK11 B hR (lx_sub (lo' := [some (.ref h), some (.int x9), some (.int y2), none]) hl (by simp [lx_le])) I hm
    · have hm := ift hc hm
      refine lv_aload_n (pc := 33) (i := 0) hx hb d_leadHeader_33 rfl (lx_get hl rfl) ?_
      refine lv_aload_n (pc := 34) (i := 0) hx hb d_leadHeader_34 rfl (lx_get hl rfl) ?_
      refine lv_bipush (pc := 35) (v := 8) hx hb d_leadHeader_35 (by decide) ?_
      refine lv_iload_n (pc := 37) (i := 1) hx hb d_leadHeader_37 rfl (lx_get hl rfl) ?_
      refine ob2 hm (fun x12 S13 e11 hm => ?_)
      refine r_call (pc := 38) (As := [.int 8, .int y1]) (rest := [.ref h]) B hl rfl I (c_make hR e11) kw_make rfl (by decide) (by decide) rfl (by simp [Value.category]) d_leadHeader_38 (fun H locs I => ?_)
      refine lv_iload_n (pc := 41) (i := 2) hx hb d_leadHeader_41 rfl (lx_get hl rfl) ?_
      refine ob2 hm (fun x15 S16 e14 hm => ?_)
      refine r_call (pc := 42) (As := [.int x12, .int y2]) (rest := []) B hl rfl I (c_named hR e14) kw_named rfl (by decide) (by decide) rfl (by simp [Value.category]) d_leadHeader_42 (fun H locs I => ?_)
      refine q_istore_n (pc := 45) (i := 1) (lo' := [some (.ref h), some (.int x15), some (.int y2), some (.int x2)]) hx hb d_leadHeader_45 rfl hl (Nat.le_of_ble_eq_true rfl) (lx_cr rfl) rfl (fun ls hl => ?_)
      refine lv_goto (pc := 46) (tgt := 106) hx hb d_leadHeader_46 (by decide) ?_
      exact w_leadHeader_106 hK11 B hR (lx_sub (lo' := [some (.ref h), some (.int x15), some (.int y2), none]) hl (by simp [lx_le])) I hm
set_option maxRecDepth 100000 in
set_option maxHeartbeats 4000000 in
theorem w_leadHeader_11i (B : BX p m c cb_leadHeader 4 s args (.code y_leadHeader cb_leadHeader 4 (some .int) :: wsA) RREF meth (some .int) D vwCl (tyL dA) b0 Z) (hR : RR b0 h Z) (k : Nat) (y1 : Int32) (y2 : Int32) (S : rS) (ls : Array Slot) (H : Heap) (locs : List Loc) (hl : lx ls [some (.ref h), some (.int y1), some (.int y2), none]) (I : AI D vwCl b0 (rH dA h S hp0) sz s.heap H locs)  (hm : m_leadHeader_11 N  k y1 y2 S = some (r, S')) : W p l e { frames := 1, cells := 0, slots := 0, locals := 25 } s m args below meth c H locs 0 0 (MQ below (CQ D vwCl b0 (some (.int r)) (rH dA h S' hp0) sz) args s 0 0 (fun q => b0 ≤ q)) (F0 m 11 ls []) := by
  induction k generalizing y1 y2 S ls H locs with
  | zero => cases hm
  | succ k ih => exact w_leadHeader_11F  (fun y1 y2 S ls H locs hl I hm => ih y1 y2 S ls H locs hl I hm) B hR hl I hm
theorem w_leadHeader_11 {y1 : Int32} {y2 : Int32} {S : rS} (B : BX p m c cb_leadHeader 4 s args (.code y_leadHeader cb_leadHeader 4 (some .int) :: wsA) RREF meth (some .int) D vwCl (tyL dA) b0 Z) (hR : RR b0 h Z) (hl : lx ls [some (.ref h), some (.int y1), some (.int y2), none]) (I : AI D vwCl b0 (rH dA h S hp0) sz s.heap H locs)  {k : Nat} (hm : m_leadHeader_11 N  k y1 y2 S = some (r, S')) : W p l e { frames := 1, cells := 0, slots := 0, locals := 25 } s m args below meth c H locs 0 0 (MQ below (CQ D vwCl b0 (some (.int r)) (rH dA h S' hp0) sz) args s 0 0 (fun q => b0 ≤ q)) (F0 m 11 ls []) := w_leadHeader_11i  B hR k _ _ S ls H locs hl I hm
def m_leadHeader (N : Nat) (S : rS) : Option (Int32 × rS) :=
  m_leadHeader_11 N  N (260 * (S.1 19)) 0 S
set_option maxRecDepth 100000 in
set_option maxHeartbeats 4000000 in
theorem c_leadHeader {S S' : rS} {r : Int32} (hR : RR b0 h Z) (hm : m_leadHeader N  S = some (r, S')) : Ct l D vwCl (tyL dA) b0 Z y_leadHeader (.code y_leadHeader cb_leadHeader 4 (some .int) :: wsA) 1 25 [.ref h] (rH dA h S hp0) sz (some (.int r)) (rH dA h S' hp0) 0 0 := by
  refine ct_of (cc := cb_leadHeader) (maxL := 4) (ret := (some .int)) (lo0 := [some (.ref h), none, none, none]) hR.2 (by decide) rfl (by simp [lg_sl, Value.category]) rfl (by simp [lx_all, lv_args, Value.category]) ?_
  intro p e s m args below meth c ls B hnm hl I
  obtain ⟨hx, hb, -⟩ := B.1
  unfold m_leadHeader at hm
  refine lv_sipush (pc := 0) (v := 260) hx hb d_leadHeader_0 (by decide) ?_
  refine lv_aload_n (pc := 3) (i := 0) hx hb d_leadHeader_3 rfl (lx_get hl rfl) ?_
  refine r_get (pc := 4) (k := 19) (index := 93) B I (by decide) mF_93 rfl rfl d_leadHeader_4 ?_
  refine lv_imul (pc := 7) hx hb d_leadHeader_7 ?_
  refine q_istore_n (pc := 8) (i := 1) (lo' := [some (.ref h), some (.int (260 * (S.1 19))), none, none]) hx hb d_leadHeader_8 rfl hl (Nat.le_of_ble_eq_true rfl) (lx_cr rfl) rfl (fun ls hl => ?_)
  refine lv_iconst (pc := 9) (v := 0) hx hb d_leadHeader_9 (by decide) ?_
  refine q_istore_n (pc := 10) (i := 2) (lo' := [some (.ref h), some (.int (260 * (S.1 19))), some (.int 0), none]) hx hb d_leadHeader_10 rfl hl (Nat.le_of_ble_eq_true rfl) (lx_ci rfl) rfl (fun ls hl => ?_)
  exact w_leadHeader_11  B hR hl I hm
def m_opened_87 (N : Nat) (z1 : Int32) (z2 : Int32) (S : rS) : Option (Int32 × rS) :=
  b2 (m_make N z1 z2 S) (fun x2 S3 => some (x2, S3))
set_option maxRecDepth 100000 in
set_option maxHeartbeats 4000000 in
theorem w_opened_87 {z1 : Int32} {z2 : Int32} {S : rS} (B : BX p m c cb_opened 5 s args (.code y_opened cb_opened 5 (some .int) :: wsA) RREF meth (some .int) D vwCl (tyL dA) b0 Z) (hR : RR b0 h Z) (hl : lx ls [some (.ref h), none, none, none, none]) (I : AI D vwCl b0 (rH dA h S hp0) sz s.heap H locs)  (hm : m_opened_87 N  z1 z2 S = some (r, S')) : W p l e { frames := 2, cells := 0, slots := 0, locals := 48 } s m args below meth c H locs 0 0 (MQ below (CQ D vwCl b0 (some (.int r)) (rH dA h S' hp0) sz) args s 0 0 (fun q => b0 ≤ q)) (F0 m 87 ls [.int z2, .int z1, .ref h]) := by
  obtain ⟨hx, hb, -⟩ := B.1
  unfold m_opened_87 at hm
  refine ob2 hm (fun x2 S3 e1 hm => ?_)
  refine r_call (pc := 87) (As := [.int z1, .int z2]) (rest := []) B hl rfl I (c_make hR e1) kw_make rfl (by decide) (by decide) rfl (by simp [Value.category]) d_opened_87 (fun H locs I => ?_)
  cases hm
  exact q_iret (pc := 90) B I rfl d_opened_90
def m_opened_61 (N : Nat) (y2 : Int32) (y3 : Int32) (y4 : Int32) (S : rS) : Option (Int32 × rS) :=
  if y4 = (-1) then (b2 (m_make N 6 y2 S) (fun x2 S3 => b2 (m_named N x2 y3 S3) (fun x5 S6 => m_opened_87 N  7 x5 S6))) else (m_opened_87 N  7 y4 S)
set_option maxRecDepth 100000 in
set_option maxHeartbeats 4000000 in
theorem w_opened_61 {y2 : Int32} {y3 : Int32} {y4 : Int32} {S : rS} (B : BX p m c cb_opened 5 s args (.code y_opened cb_opened 5 (some .int) :: wsA) RREF meth (some .int) D vwCl (tyL dA) b0 Z) (hR : RR b0 h Z) (hl : lx ls [some (.ref h), none, some (.int y2), some (.int y3), some (.int y4)]) (I : AI D vwCl b0 (rH dA h S hp0) sz s.heap H locs)  (hm : m_opened_61 N  y2 y3 y4 S = some (r, S')) : W p l e { frames := 2, cells := 0, slots := 0, locals := 48 } s m args below meth c H locs 0 0 (MQ below (CQ D vwCl b0 (some (.int r)) (rH dA h S' hp0) sz) args s 0 0 (fun q => b0 ≤ q)) (F0 m 61 ls []) := by
  obtain ⟨hx, hb, -⟩ := B.1
  unfold m_opened_61 at hm
  refine lv_aload_n (pc := 61) (i := 0) hx hb d_opened_61 rfl (lx_get hl rfl) ?_
  refine lv_bipush (pc := 62) (v := 7) hx hb d_opened_62 (by decide) ?_
  refine lv_iload (pc := 64) (i := 4) hx hb d_opened_64 (lx_get hl rfl) ?_
  refine lv_iconst (pc := 66) (v := (-1)) hx hb d_opened_66 (by decide) ?_
  refine lv_icmp_ne (pc := 67) (tgt := 85) hx hb d_opened_67 (by decide) (fun hc => ?_) (fun hc => ?_)
  · have hm := iff' hc hm
    refine lv_iload (pc := 85) (i := 4) hx hb d_opened_85 (lx_get hl rfl) ?_
    exact w_opened_87  B hR (lx_sub (lo' := [some (.ref h), none, none, none, none]) hl (by simp [lx_le])) I hm
  · have hm := ift hc hm
    refine lv_aload_n (pc := 70) (i := 0) hx hb d_opened_70 rfl (lx_get hl rfl) ?_
    refine lv_aload_n (pc := 71) (i := 0) hx hb d_opened_71 rfl (lx_get hl rfl) ?_
    refine lv_bipush (pc := 72) (v := 6) hx hb d_opened_72 (by decide) ?_
    refine lv_iload_n (pc := 74) (i := 2) hx hb d_opened_74 rfl (lx_get hl rfl) ?_
    refine ob2 hm (fun x2 S3 e1 hm => ?_)
    refine r_call (pc := 75) (As := [.int 6, .int y2]) (rest := [.ref h, .int 7, .ref h]) B hl rfl I (c_make hR e1) kw_make rfl (by decide) (by decide) rfl (by simp [Value.category]) d_opened_75 (fun H locs I => ?_)
    refine lv_iload_n (pc := 78) (i := 3) hx hb d_opened_78 rfl (lx_get hl rfl) ?_
    refine ob2 hm (fun x5 S6 e4 hm => ?_)
    refine r_call (pc := 79) (As := [.int x2, .int y3]) (rest := [.int 7, .ref h]) B hl rfl I (c_named hR e4) kw_named rfl (by decide) (by decide) rfl (by simp [Value.category]) d_opened_79 (fun H locs I => ?_)
    refine lv_goto (pc := 82) (tgt := 87) hx hb d_opened_82 (by decide) ?_
    exact w_opened_87  B hR (lx_sub (lo' := [some (.ref h), none, none, none, none]) hl (by simp [lx_le])) I hm
def m_opened (N : Nat) (p1 : Int32) (S : rS) : Option (Int32 × rS) :=
  b2 (m_leadHeader N S) (fun x2 S3 => if x2 = (-1) then (some ((-1), S3)) else (b1 (m_entryOf N x2 ((S3.1 20) - 1) S3) (fun x5 => if p1 = 0 then (if x5 = (-1) then (b2 (m_make N 7 x2 S3) (fun x15 S16 => b2 (m_named N x15 ((S3.1 20) - 1) S16) (fun x18 S19 => some (x18, S19)))) else (b1 (rL S3 3 x5) (fun x6 => if x6 = 8 then (b1 (rT S3 3 x5 7) (fun S8 => some (x5, S8))) else (b1 (rL S3 14 ((S3.1 20) - 1)) (fun x10 => b1 (rP S3 4 x10) (fun S12 => some ((-1), S12))))))) else (if x5 = (-1) then (m_opened_61 N  x2 ((S3.1 20) - 1) x5 S3) else (b1 (rL S3 3 x5) (fun x20 => if x20 = 6 then (m_opened_61 N  x2 ((S3.1 20) - 1) x5 S3) else (b1 (rL S3 14 ((S3.1 20) - 1)) (fun x22 => b1 (rP S3 4 x22) (fun S24 => some ((-1), S24))))))))))
set_option maxRecDepth 100000 in
set_option maxHeartbeats 4000000 in
theorem c_opened {p1 : Int32} {S S' : rS} {r : Int32} (hR : RR b0 h Z) (hm : m_opened N p1 S = some (r, S')) : Ct l D vwCl (tyL dA) b0 Z y_opened (.code y_opened cb_opened 5 (some .int) :: wsA) 2 48 [.ref h, .int p1] (rH dA h S hp0) sz (some (.int r)) (rH dA h S' hp0) 0 0 := by
  refine ct_of (cc := cb_opened) (maxL := 5) (ret := (some .int)) (lo0 := [some (.ref h), some (.int p1), none, none, none]) hR.2 (by decide) rfl (by simp [lg_sl, Value.category]) rfl (by simp [lx_all, lv_args, Value.category]) ?_
  intro p e s m args below meth c ls B hnm hl I
  obtain ⟨hx, hb, -⟩ := B.1
  unfold m_opened at hm
  refine lv_aload_n (pc := 0) (i := 0) hx hb d_opened_0 rfl (lx_get hl rfl) ?_
  refine ob2 hm (fun x2 S3 e1 hm => ?_)
  refine r_call (pc := 1) (As := []) (rest := []) B hl rfl I (c_leadHeader hR e1) kw_leadHeader rfl (by decide) (by decide) rfl (by simp [Value.category]) d_opened_1 (fun H locs I => ?_)
  refine q_istore_n (pc := 4) (i := 2) (lo' := [some (.ref h), some (.int p1), some (.int x2), none, none]) hx hb d_opened_4 rfl hl (Nat.le_of_ble_eq_true rfl) (lx_ci rfl) rfl (fun ls hl => ?_)
  refine lv_iload_n (pc := 5) (i := 2) hx hb d_opened_5 rfl (lx_get hl rfl) ?_
  refine lv_iconst (pc := 6) (v := (-1)) hx hb d_opened_6 (by decide) ?_
  refine lv_icmp_ne (pc := 7) (tgt := 12) hx hb d_opened_7 (by decide) (fun hc => ?_) (fun hc => ?_)
  · have hm := iff' hc hm
    refine lv_aload_n (pc := 12) (i := 0) hx hb d_opened_12 rfl (lx_get hl rfl) ?_
    refine r_get (pc := 13) (k := 20) (index := 119) B I (by decide) mF_119 rfl rfl d_opened_13 ?_
    refine lv_iconst (pc := 16) (v := 1) hx hb d_opened_16 (by decide) ?_
    refine lv_isub (pc := 17) hx hb d_opened_17 ?_
    refine q_istore_n (pc := 18) (i := 3) (lo' := [some (.ref h), some (.int p1), some (.int x2), some (.int ((S3.1 20) - 1)), none]) hx hb d_opened_18 rfl hl (Nat.le_of_ble_eq_true rfl) (lx_ci rfl) rfl (fun ls hl => ?_)
    refine lv_aload_n (pc := 19) (i := 0) hx hb d_opened_19 rfl (lx_get hl rfl) ?_
    refine lv_iload_n (pc := 20) (i := 2) hx hb d_opened_20 rfl (lx_get hl rfl) ?_
    refine lv_iload_n (pc := 21) (i := 3) hx hb d_opened_21 rfl (lx_get hl rfl) ?_
    refine ob1 hm (fun x5 e4 hm => ?_)
    refine r_call (pc := 22) (As := [.int x2, .int ((S3.1 20) - 1)]) (rest := []) B hl rfl I (c_entryOf hR e4) kw_entryOf rfl (by decide) (by decide) rfl (by simp [Value.category]) d_opened_22 (fun H locs I => ?_)
    refine q_istore (pc := 25) (i := 4) (lo' := [some (.ref h), some (.int p1), some (.int x2), some (.int ((S3.1 20) - 1)), some (.int x5)]) hx hb d_opened_25 hl (Nat.le_of_ble_eq_true rfl) (lx_ci rfl) rfl (fun ls hl => ?_)
    refine lv_iload_n (pc := 27) (i := 1) hx hb d_opened_27 rfl (lx_get hl rfl) ?_
    refine lv_if_eq (pc := 28) (tgt := 91) hx hb d_opened_28 (by decide) (fun hc => ?_) (fun hc => ?_)
    · have hm := ift hc hm
      refine lv_iload (pc := 91) (i := 4) hx hb d_opened_91 (lx_get hl rfl) ?_
      refine lv_iconst (pc := 93) (v := (-1)) hx hb d_opened_93 (by decide) ?_
      refine lv_icmp_ne (pc := 94) (tgt := 110) hx hb d_opened_94 (by decide) (fun hc => ?_) (fun hc => ?_)
      · have hm := iff' hc hm
        refine lv_aload_n (pc := 110) (i := 0) hx hb d_opened_110 rfl (lx_get hl rfl) ?_
        refine r_get (pc := 111) (k := 7) (index := 16) B I (by decide) mF_16 rfl rfl d_opened_111 ?_
        refine lv_iload (pc := 114) (i := 4) hx hb d_opened_114 (lx_get hl rfl) ?_
        refine ob1 hm (fun x6 e7 hm => ?_)
        refine r_ald (pc := 116) (j := 3) B I (by decide) (by decide) e7 d_opened_116 ?_
        refine lv_bipush (pc := 117) (v := 8) hx hb d_opened_117 (by decide) ?_
        refine lv_icmp_eq (pc := 119) (tgt := 134) hx hb d_opened_119 (by decide) (fun hc => ?_) (fun hc => ?_)
        · have hm := ift hc hm
          refine lv_aload_n (pc := 134) (i := 0) hx hb d_opened_134 rfl (lx_get hl rfl) ?_
          refine r_get (pc := 135) (k := 7) (index := 16) B I (by decide) mF_16 rfl rfl d_opened_135 ?_
          refine lv_iload (pc := 138) (i := 4) hx hb d_opened_138 (lx_get hl rfl) ?_
          refine lv_bipush (pc := 140) (v := 7) hx hb d_opened_140 (by decide) ?_
          refine ob1 hm (fun S8 e9 hm => ?_)
          refine r_ast (pc := 142) (j := 3) B hR I (by decide) (by decide) e9 d_opened_142 (fun H locs I => ?_)
          refine lv_iload (pc := 143) (i := 4) hx hb d_opened_143 (lx_get hl rfl) ?_
          cases hm
          exact q_iret (pc := 145) B I rfl d_opened_145
        · have hm := iff' hc hm
          refine lv_aload_n (pc := 122) (i := 0) hx hb d_opened_122 rfl (lx_get hl rfl) ?_
          refine lv_aload_n (pc := 123) (i := 0) hx hb d_opened_123 rfl (lx_get hl rfl) ?_
          refine r_get (pc := 124) (k := 21) (index := 49) B I (by decide) mF_49 rfl rfl d_opened_124 ?_
          refine lv_iload_n (pc := 127) (i := 3) hx hb d_opened_127 rfl (lx_get hl rfl) ?_
          refine ob1 hm (fun x10 e11 hm => ?_)
          refine r_ald (pc := 128) (j := 14) B I (by decide) (by decide) e11 d_opened_128 ?_
          refine ob1 hm (fun S12 e13 hm => ?_)
          refine r_put (pc := 129) (k := 4) (index := 79) B hR I (by decide) mF_79 rfl rfl rfl (fun _ _ => rfl) e13 d_opened_129 (fun H locs I => ?_)
          refine lv_iconst (pc := 132) (v := (-1)) hx hb d_opened_132 (by decide) ?_
          cases hm
          exact q_iret (pc := 133) B I rfl d_opened_133
      · have hm := ift hc hm
        refine lv_aload_n (pc := 97) (i := 0) hx hb d_opened_97 rfl (lx_get hl rfl) ?_
        refine lv_aload_n (pc := 98) (i := 0) hx hb d_opened_98 rfl (lx_get hl rfl) ?_
        refine lv_bipush (pc := 99) (v := 7) hx hb d_opened_99 (by decide) ?_
        refine lv_iload_n (pc := 101) (i := 2) hx hb d_opened_101 rfl (lx_get hl rfl) ?_
        refine ob2 hm (fun x15 S16 e14 hm => ?_)
        refine r_call (pc := 102) (As := [.int 7, .int x2]) (rest := [.ref h]) B hl rfl I (c_make hR e14) kw_make rfl (by decide) (by decide) rfl (by simp [Value.category]) d_opened_102 (fun H locs I => ?_)
        refine lv_iload_n (pc := 105) (i := 3) hx hb d_opened_105 rfl (lx_get hl rfl) ?_
        refine ob2 hm (fun x18 S19 e17 hm => ?_)
        refine r_call (pc := 106) (As := [.int x15, .int ((S3.1 20) - 1)]) (rest := []) B hl rfl I (c_named hR e17) kw_named rfl (by decide) (by decide) rfl (by simp [Value.category]) d_opened_106 (fun H locs I => ?_)
        cases hm
        exact q_iret (pc := 109) B I rfl d_opened_109
    · have hm := iff' hc hm
      refine lv_iload (pc := 31) (i := 4) hx hb d_opened_31 (lx_get hl rfl) ?_
      refine lv_iconst (pc := 33) (v := (-1)) hx hb d_opened_33 (by decide) ?_
      refine lv_icmp_eq (pc := 34) (tgt := 61) hx hb d_opened_34 (by decide) (fun hc => ?_) (fun hc => ?_)
      · have hm := ift hc hm
        exact w_opened_61  B hR (lx_sub (lo' := [some (.ref h), none, some (.int x2), some (.int ((S3.1 20) - 1)), some (.int x5)]) hl (by simp [lx_le])) I hm
      · have hm := iff' hc hm
        refine lv_aload_n (pc := 37) (i := 0) hx hb d_opened_37 rfl (lx_get hl rfl) ?_
        refine r_get (pc := 38) (k := 7) (index := 16) B I (by decide) mF_16 rfl rfl d_opened_38 ?_
        refine lv_iload (pc := 41) (i := 4) hx hb d_opened_41 (lx_get hl rfl) ?_
        refine ob1 hm (fun x20 e21 hm => ?_)
        refine r_ald (pc := 43) (j := 3) B I (by decide) (by decide) e21 d_opened_43 ?_
        refine lv_bipush (pc := 44) (v := 6) hx hb d_opened_44 (by decide) ?_
        refine lv_icmp_eq (pc := 46) (tgt := 61) hx hb d_opened_46 (by decide) (fun hc => ?_) (fun hc => ?_)
        · have hm := ift hc hm
          exact w_opened_61  B hR (lx_sub (lo' := [some (.ref h), none, some (.int x2), some (.int ((S3.1 20) - 1)), some (.int x5)]) hl (by simp [lx_le])) I hm
        · have hm := iff' hc hm
          refine lv_aload_n (pc := 49) (i := 0) hx hb d_opened_49 rfl (lx_get hl rfl) ?_
          refine lv_aload_n (pc := 50) (i := 0) hx hb d_opened_50 rfl (lx_get hl rfl) ?_
          refine r_get (pc := 51) (k := 21) (index := 49) B I (by decide) mF_49 rfl rfl d_opened_51 ?_
          refine lv_iload_n (pc := 54) (i := 3) hx hb d_opened_54 rfl (lx_get hl rfl) ?_
          refine ob1 hm (fun x22 e23 hm => ?_)
          refine r_ald (pc := 55) (j := 14) B I (by decide) (by decide) e23 d_opened_55 ?_
          refine ob1 hm (fun S24 e25 hm => ?_)
          refine r_put (pc := 56) (k := 4) (index := 79) B hR I (by decide) mF_79 rfl rfl rfl (fun _ _ => rfl) e25 d_opened_56 (fun H locs I => ?_)
          refine lv_iconst (pc := 59) (v := (-1)) hx hb d_opened_59 (by decide) ?_
          cases hm
          exact q_iret (pc := 60) B I rfl d_opened_60
  · have hm := ift hc hm
    refine lv_iconst (pc := 10) (v := (-1)) hx hb d_opened_10 (by decide) ?_
    cases hm
    exact q_iret (pc := 11) B I rfl d_opened_11
end RW
