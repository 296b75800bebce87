section RW
variable {p : Program} {l : Launch} {e : Env} {s : State} {m : MethodId} {args : Array Value} {below : List Frame} {meth : Method} {c : Code} {H : Heap} {locs : List Loc}
variable {ls : Array Slot} {D : va_G} {dA : Nat → ClassId} {hp0 : aH} {sz b0 h N : Nat} {S' : rS} {r : Int32} {Z : State → Prop}
def m_beginValue_99 (N : Nat) (S : rS) : Option (Int32 × rS) :=
  b2 (m_fail N (S.1 3) S) (fun x2 S3 => if x2 = 0 ∨ x2 = 1 then (some (x2, S3)) else none)
set_option maxRecDepth 100000 in
set_option maxHeartbeats 4000000 in
theorem w_beginValue_99 {S : rS} (B : BX p m c cb_beginValue 8 s args (.code y_beginValue cb_beginValue 8 (some .boolean) :: wsA) RREF meth (some .boolean) D vwCl (tyL dA) b0 Z) (hR : RR b0 h Z) (hl : lx ls [some (.ref h), none, none, none, none, none, none, none]) (I : AI D vwCl b0 (rH dA h S hp0) sz s.heap H locs)  (hm : m_beginValue_99 N   S = some (r, S')) : W p l e { frames := 4, cells := 0, slots := 0, locals := 95 } s m args below meth c H locs 0 0 (MQ below (CQ D vwCl b0 (some (.int r)) (rH dA h S' hp0) sz) args s 0 0 (fun q => b0 ≤ q)) (F0 m 99 ls []) := by
  obtain ⟨hx, hb, -⟩ := B.1
  unfold m_beginValue_99 at hm
  refine lv_aload_n (pc := 99) (i := 0) hx hb d_beginValue_99 rfl (lx_get hl rfl) ?_
  refine lv_aload_n (pc := 100) (i := 0) hx hb d_beginValue_100 rfl (lx_get hl rfl) ?_
  refine r_get (pc := 101) (k := 3) (index := 76) B I (by decide) mF_76 rfl rfl d_beginValue_101 ?_
  refine ob2 hm (fun x2 S3 e1 hm => ?_)
  refine r_call (pc := 104) (As := [.int (S.1 3)]) (rest := []) B hl rfl I (c_fail hR e1) kw_fail rfl (by decide) (by decide) rfl (by simp [Value.category]) d_beginValue_104 (fun H locs I => ?_)
  by_cases hq : x2 = 0 ∨ x2 = 1
  · have hm := ift hq hm
    cases hm
    exact q_zret (pc := 107) B I rfl (zn hq) d_beginValue_107
  · have hm := iff' hq hm
    cases hm
def m_beginValue_152 (N : Nat) (y6 : Int32) (z1 : Int32) (z2 : Int32) (S : rS) : Option (Int32 × rS) :=
  b1 (rT S 3 z1 z2) (fun S1 => b1 (rT S1 17 (S1.1 26) y6) (fun S3 => b1 (rT S3 18 (S3.1 26) 0) (fun S5 => b1 (rP S5 26 ((S5.1 26) + 1)) (fun S7 => b1 (rP S7 3 ((S7.1 3) + 1)) (fun S9 => some (1, S9))))))
set_option maxRecDepth 100000 in
set_option maxHeartbeats 4000000 in
theorem w_beginValue_152 {y6 : Int32} {z1 : Int32} {z2 : Int32} {S : rS} (B : BX p m c cb_beginValue 8 s args (.code y_beginValue cb_beginValue 8 (some .boolean) :: wsA) RREF meth (some .boolean) D vwCl (tyL dA) b0 Z) (hR : RR b0 h Z) (hl : lx ls [some (.ref h), none, none, none, none, none, some (.int y6), none]) (I : AI D vwCl b0 (rH dA h S hp0) sz s.heap H locs)  (hm : m_beginValue_152 N  y6 z1 z2 S = some (r, S')) : W p l e { frames := 4, cells := 0, slots := 0, locals := 95 } s m args below meth c H locs 0 0 (MQ below (CQ D vwCl b0 (some (.int r)) (rH dA h S' hp0) sz) args s 0 0 (fun q => b0 ≤ q)) (F0 m 152 ls [.int z2, .int z1, .ref (h + 3)]) := by
  obtain ⟨hx, hb, -⟩ := B.1
  unfold m_beginValue_152 at hm
  refine ob1 hm (fun S1 e2 hm => ?_)
  refine r_ast (pc := 152) (j := 3) B hR I (by decide) (by decide) e2 d_beginValue_152 (fun H locs I => ?_)
  refine lv_aload_n (pc := 153) (i := 0) hx hb d_beginValue_153 rfl (lx_get hl rfl) ?_
  refine r_get (pc := 154) (k := 27) (index := 58) B I (by decide) mF_58 rfl rfl d_beginValue_154 ?_
  refine lv_aload_n (pc := 157) (i := 0) hx hb d_beginValue_157 rfl (lx_get hl rfl) ?_
  refine r_get (pc := 158) (k := 26) (index := 164) B I (by decide) mF_164 rfl rfl d_beginValue_158 ?_
  refine lv_iload (pc := 161) (i := 6) hx hb d_beginValue_161 (lx_get hl rfl) ?_
  refine ob1 hm (fun S3 e4 hm => ?_)
  refine r_ast (pc := 163) (j := 17) B hR I (by decide) (by decide) e4 d_beginValue_163 (fun H locs I => ?_)
  refine lv_aload_n (pc := 164) (i := 0) hx hb d_beginValue_164 rfl (lx_get hl rfl) ?_
  refine r_get (pc := 165) (k := 28) (index := 61) B I (by decide) mF_61 rfl rfl d_beginValue_165 ?_
  refine lv_aload_n (pc := 168) (i := 0) hx hb d_beginValue_168 rfl (lx_get hl rfl) ?_
  refine r_get (pc := 169) (k := 26) (index := 164) B I (by decide) mF_164 rfl rfl d_beginValue_169 ?_
  refine lv_iconst (pc := 172) (v := 0) hx hb d_beginValue_172 (by decide) ?_
  refine ob1 hm (fun S5 e6 hm => ?_)
  refine r_ast (pc := 173) (j := 18) B hR I (by decide) (by decide) e6 d_beginValue_173 (fun H locs I => ?_)
  refine lv_aload_n (pc := 174) (i := 0) hx hb d_beginValue_174 rfl (lx_get hl rfl) ?_
  refine lv_dup (pc := 175) hx hb d_beginValue_175 rfl ?_
  refine r_get (pc := 176) (k := 26) (index := 164) B I (by decide) mF_164 rfl rfl d_beginValue_176 ?_
  refine lv_iconst (pc := 179) (v := 1) hx hb d_beginValue_179 (by decide) ?_
  refine lv_iadd (pc := 180) hx hb d_beginValue_180 ?_
  refine ob1 hm (fun S7 e8 hm => ?_)
  refine r_put (pc := 181) (k := 26) (index := 164) B hR I (by decide) mF_164 rfl rfl rfl (fun _ _ => rfl) e8 d_beginValue_181 (fun H locs I => ?_)
  refine lv_aload_n (pc := 184) (i := 0) hx hb d_beginValue_184 rfl (lx_get hl rfl) ?_
  refine lv_dup (pc := 185) hx hb d_beginValue_185 rfl ?_
  refine r_get (pc := 186) (k := 3) (index := 76) B I (by decide) mF_76 rfl rfl d_beginValue_186 ?_
  refine lv_iconst (pc := 189) (v := 1) hx hb d_beginValue_189 (by decide) ?_
  refine lv_iadd (pc := 190) hx hb d_beginValue_190 ?_
  refine ob1 hm (fun S9 e10 hm => ?_)
  refine r_put (pc := 191) (k := 3) (index := 76) B hR I (by decide) mF_76 rfl rfl rfl (fun _ _ => rfl) e10 d_beginValue_191 (fun H locs I => ?_)
  refine lv_iconst (pc := 194) (v := 1) hx hb d_beginValue_194 (by decide) ?_
  cases hm
  exact q_zret (pc := 195) B I rfl (by decide) d_beginValue_195
def m_beginValue_236 (N : Nat) (y6 : Int32) (S : rS) : Option (Int32 × rS) :=
  b2 (m_string N S) (fun x2 S3 => b1 (rT S3 3 y6 3) (fun S4 => b1 (rT S4 4 y6 (S4.1 24)) (fun S6 => b1 (rT S6 9 y6 (S6.1 25)) (fun S8 => if x2 = 0 ∨ x2 = 1 then (some (x2, S8)) else none))))
set_option maxRecDepth 100000 in
set_option maxHeartbeats 4000000 in
theorem w_beginValue_236 {y6 : Int32} {S : rS} (B : BX p m c cb_beginValue 8 s args (.code y_beginValue cb_beginValue 8 (some .boolean) :: wsA) RREF meth (some .boolean) D vwCl (tyL dA) b0 Z) (hR : RR b0 h Z) (hl : lx ls [some (.ref h), none, none, none, none, none, some (.int y6), none]) (I : AI D vwCl b0 (rH dA h S hp0) sz s.heap H locs)  (hm : m_beginValue_236 N  y6 S = some (r, S')) : W p l e { frames := 4, cells := 0, slots := 0, locals := 95 } s m args below meth c H locs 0 0 (MQ below (CQ D vwCl b0 (some (.int r)) (rH dA h S' hp0) sz) args s 0 0 (fun q => b0 ≤ q)) (F0 m 236 ls []) := by
  obtain ⟨hx, hb, -⟩ := B.1
  unfold m_beginValue_236 at hm
  refine lv_aload_n (pc := 236) (i := 0) hx hb d_beginValue_236 rfl (lx_get hl rfl) ?_
  refine ob2 hm (fun x2 S3 e1 hm => ?_)
  refine r_call (pc := 237) (As := []) (rest := []) B hl rfl I (c_string hR e1) kw_string rfl (by decide) (by decide) rfl (by simp [Value.category]) d_beginValue_237 (fun H locs I => ?_)
  refine q_istore (pc := 240) (i := 7) (lo' := [some (.ref h), none, none, none, none, none, some (.int y6), some (.int x2)]) hx hb d_beginValue_240 hl (Nat.le_of_ble_eq_true rfl) (lx_ci rfl) rfl (fun ls hl => ?_)
  refine lv_aload_n (pc := 242) (i := 0) hx hb d_beginValue_242 rfl (lx_get hl rfl) ?_
  refine r_get (pc := 243) (k := 7) (index := 16) B I (by decide) mF_16 rfl rfl d_beginValue_243 ?_
  refine lv_iload (pc := 246) (i := 6) hx hb d_beginValue_246 (lx_get hl rfl) ?_
  refine lv_iconst (pc := 248) (v := 3) hx hb d_beginValue_248 (by decide) ?_
  refine ob1 hm (fun S4 e5 hm => ?_)
  refine r_ast (pc := 249) (j := 3) B hR I (by decide) (by decide) e5 d_beginValue_249 (fun H locs I => ?_)
  refine lv_aload_n (pc := 250) (i := 0) hx hb d_beginValue_250 rfl (lx_get hl rfl) ?_
  refine r_get (pc := 251) (k := 8) (index := 19) B I (by decide) mF_19 rfl rfl d_beginValue_251 ?_
  refine lv_iload (pc := 254) (i := 6) hx hb d_beginValue_254 (lx_get hl rfl) ?_
  refine lv_aload_n (pc := 256) (i := 0) hx hb d_beginValue_256 rfl (lx_get hl rfl) ?_
  refine r_get (pc := 257) (k := 24) (index := 96) B I (by decide) mF_96 rfl rfl d_beginValue_257 ?_
  refine ob1 hm (fun S6 e7 hm => ?_)
  refine r_ast (pc := 260) (j := 4) B hR I (by decide) (by decide) e7 d_beginValue_260 (fun H locs I => ?_)
  refine lv_aload_n (pc := 261) (i := 0) hx hb d_beginValue_261 rfl (lx_get hl rfl) ?_
  refine r_get (pc := 262) (k := 13) (index := 34) B I (by decide) mF_34 rfl rfl d_beginValue_262 ?_
  refine lv_iload (pc := 265) (i := 6) hx hb d_beginValue_265 (lx_get hl rfl) ?_
  refine lv_aload_n (pc := 267) (i := 0) hx hb d_beginValue_267 rfl (lx_get hl rfl) ?_
  refine r_get (pc := 268) (k := 25) (index := 99) B I (by decide) mF_99 rfl rfl d_beginValue_268 ?_
  refine ob1 hm (fun S8 e9 hm => ?_)
  refine r_ast (pc := 271) (j := 9) B hR I (by decide) (by decide) e9 d_beginValue_271 (fun H locs I => ?_)
  refine lv_iload (pc := 272) (i := 7) hx hb d_beginValue_272 (lx_get hl rfl) ?_
  by_cases hq : x2 = 0 ∨ x2 = 1
  · have hm := ift hq hm
    cases hm
    exact q_zret (pc := 274) B I rfl (zn hq) d_beginValue_274
  · have hm := iff' hq hm
    cases hm
def m_beginValue_129 (N : Nat) (y3 : Int32) (y4 : Int32) (y5 : Int32) (y6 : Int32) (S : rS) : Option (Int32 × rS) :=
  if y5 = 0 then (if y4 = 0 then (if y3 = 34 then (m_beginValue_236 N  y6 S) else (if y3 = 39 then (m_beginValue_236 N  y6 S) else (b2 (m_truth N y6 S) (fun x2 S3 => if x2 = 0 ∨ x2 = 1 then (some (x2, S3)) else none)))) else (b1 (m_isDate N S) (fun x5 => if x5 = 0 then (b2 (m_number N y6 S) (fun x7 S8 => if x7 = 0 ∨ x7 = 1 then (some (x7, S8)) else none)) else (b2 (m_date N y6 S) (fun x10 S11 => if x10 = 0 ∨ x10 = 1 then (some (x10, S11)) else none))))) else (if y3 = 91 then (m_beginValue_152 N  y6 y6 5 S) else (m_beginValue_152 N  y6 y6 10 S))
set_option maxRecDepth 100000 in
set_option maxHeartbeats 4000000 in
theorem w_beginValue_129 {y3 : Int32} {y4 : Int32} {y5 : Int32} {y6 : Int32} {S : rS} (B : BX p m c cb_beginValue 8 s args (.code y_beginValue cb_beginValue 8 (some .boolean) :: wsA) RREF meth (some .boolean) D vwCl (tyL dA) b0 Z) (hR : RR b0 h Z) (hl : lx ls [some (.ref h), none, none, some (.int y3), some (.int y4), some (.int y5), some (.int y6), none]) (I : AI D vwCl b0 (rH dA h S hp0) sz s.heap H locs)  (hm : m_beginValue_129 N  y3 y4 y5 y6 S = some (r, S')) : W p l e { frames := 4, cells := 0, slots := 0, locals := 95 } s m args below meth c H locs 0 0 (MQ below (CQ D vwCl b0 (some (.int r)) (rH dA h S' hp0) sz) args s 0 0 (fun q => b0 ≤ q)) (F0 m 129 ls []) := by
  obtain ⟨hx, hb, -⟩ := B.1
  unfold m_beginValue_129 at hm
  refine lv_iload (pc := 129) (i := 5) hx hb d_beginValue_129 (lx_get hl rfl) ?_
  refine lv_if_eq (pc := 131) (tgt := 196) hx hb d_beginValue_131 (by decide) (fun hc => ?_) (fun hc => ?_)
  · have hm := ift hc hm
    refine lv_iload (pc := 196) (i := 4) hx hb d_beginValue_196 (lx_get hl rfl) ?_
    refine lv_if_eq (pc := 198) (tgt := 224) hx hb d_beginValue_198 (by decide) (fun hc => ?_) (fun hc => ?_)
    · have hm := ift hc hm
      refine lv_iload_n (pc := 224) (i := 3) hx hb d_beginValue_224 rfl (lx_get hl rfl) ?_
      refine lv_bipush (pc := 225) (v := 34) hx hb d_beginValue_225 (by decide) ?_
      refine lv_icmp_eq (pc := 227) (tgt := 236) hx hb d_beginValue_227 (by decide) (fun hc => ?_) (fun hc => ?_)
      · have hm := ift hc hm
        exact w_beginValue_236  B hR (lx_sub (lo' := [some (.ref h), none, none, none, none, none, some (.int y6), none]) hl (by simp [lx_le])) I hm
      · have hm := iff' hc hm
        refine lv_iload_n (pc := 230) (i := 3) hx hb d_beginValue_230 rfl (lx_get hl rfl) ?_
        refine lv_bipush (pc := 231) (v := 39) hx hb d_beginValue_231 (by decide) ?_
        refine lv_icmp_ne (pc := 233) (tgt := 275) hx hb d_beginValue_233 (by decide) (fun hc => ?_) (fun hc => ?_)
        · have hm := iff' hc hm
          refine lv_aload_n (pc := 275) (i := 0) hx hb d_beginValue_275 rfl (lx_get hl rfl) ?_
          refine lv_iload (pc := 276) (i := 6) hx hb d_beginValue_276 (lx_get hl rfl) ?_
          refine ob2 hm (fun x2 S3 e1 hm => ?_)
          refine r_call (pc := 278) (As := [.int y6]) (rest := []) B hl rfl I (c_truth hR e1) kw_truth rfl (by decide) (by decide) rfl (by simp [Value.category]) d_beginValue_278 (fun H locs I => ?_)
          by_cases hq : x2 = 0 ∨ x2 = 1
          · have hm := ift hq hm
            cases hm
            exact q_zret (pc := 281) B I rfl (zn hq) d_beginValue_281
          · have hm := iff' hq hm
            cases hm
        · have hm := ift hc hm
          exact w_beginValue_236  B hR (lx_sub (lo' := [some (.ref h), none, none, none, none, none, some (.int y6), none]) hl (by simp [lx_le])) I hm
    · have hm := iff' hc hm
      refine lv_aload_n (pc := 201) (i := 0) hx hb d_beginValue_201 rfl (lx_get hl rfl) ?_
      refine ob1 hm (fun x5 e4 hm => ?_)
      refine r_call (pc := 202) (As := []) (rest := []) B hl rfl I (c_isDate hR e4) kw_isDate rfl (by decide) (by decide) rfl (by simp [Value.category]) d_beginValue_202 (fun H locs I => ?_)
      refine lv_if_eq (pc := 205) (tgt := 217) hx hb d_beginValue_205 (by decide) (fun hc => ?_) (fun hc => ?_)
      · have hm := ift hc hm
        refine lv_aload_n (pc := 217) (i := 0) hx hb d_beginValue_217 rfl (lx_get hl rfl) ?_
        refine lv_iload (pc := 218) (i := 6) hx hb d_beginValue_218 (lx_get hl rfl) ?_
        refine ob2 hm (fun x7 S8 e6 hm => ?_)
        refine r_call (pc := 220) (As := [.int y6]) (rest := []) B hl rfl I (c_number hR e6) kw_number rfl (by decide) (by decide) rfl (by simp [Value.category]) d_beginValue_220 (fun H locs I => ?_)
        by_cases hq : x7 = 0 ∨ x7 = 1
        · have hm := ift hq hm
          cases hm
          exact q_zret (pc := 223) B I rfl (zn hq) d_beginValue_223
        · have hm := iff' hq hm
          cases hm
      · have hm := iff' hc hm
        refine lv_aload_n (pc := 208) (i := 0) hx hb d_beginValue_208 rfl (lx_get hl rfl) ?_
        refine lv_iload (pc := 209) (i := 6) hx hb d_beginValue_209 (lx_get hl rfl) ?_
        refine ob2 hm (fun x10 S11 e9 hm => ?_)
        refine r_call (pc := 211) (As := [.int y6]) (rest := []) B hl rfl I (c_date hR e9) kw_date rfl (by decide) (by decide) rfl (by simp [Value.category]) d_beginValue_211 (fun H locs I => ?_)
        refine lv_goto (pc := 214) (tgt := 223) hx hb d_beginValue_214 (by decide) ?_
        by_cases hq : x10 = 0 ∨ x10 = 1
        · have hm := ift hq hm
          cases hm
          exact q_zret (pc := 223) B I rfl (zn hq) d_beginValue_223
        · have hm := iff' hq hm
          cases hm
  · have hm := iff' hc hm
    refine lv_aload_n (pc := 134) (i := 0) hx hb d_beginValue_134 rfl (lx_get hl rfl) ?_
    refine r_get (pc := 135) (k := 7) (index := 16) B I (by decide) mF_16 rfl rfl d_beginValue_135 ?_
    refine lv_iload (pc := 138) (i := 6) hx hb d_beginValue_138 (lx_get hl rfl) ?_
    refine lv_iload_n (pc := 140) (i := 3) hx hb d_beginValue_140 rfl (lx_get hl rfl) ?_
    refine lv_bipush (pc := 141) (v := 91) hx hb d_beginValue_141 (by decide) ?_
    refine lv_icmp_ne (pc := 143) (tgt := 150) hx hb d_beginValue_143 (by decide) (fun hc => ?_) (fun hc => ?_)
    · have hm := iff' hc hm
      refine lv_bipush (pc := 150) (v := 10) hx hb d_beginValue_150 (by decide) ?_
      exact w_beginValue_152  B hR (lx_sub (lo' := [some (.ref h), none, none, none, none, none, some (.int y6), none]) hl (by simp [lx_le])) I hm
    · have hm := ift hc hm
      refine lv_iconst (pc := 146) (v := 5) hx hb d_beginValue_146 (by decide) ?_
      refine lv_goto (pc := 147) (tgt := 152) hx hb d_beginValue_147 (by decide) ?_
      exact w_beginValue_152  B hR (lx_sub (lo' := [some (.ref h), none, none, none, none, none, some (.int y6), none]) hl (by simp [lx_le])) I hm
def m_beginValue_108 (N : Nat) (y1 : Int32) (y2 : Int32) (y3 : Int32) (y4 : Int32) (y5 : Int32) (S : rS) : Option (Int32 × rS) :=
  b2 (m_make N 0 y1 S) (fun x2 S3 => if y2 = (-1) then (m_beginValue_129 N  y3 y4 y5 x2 S3) else (b2 (m_named N x2 y2 S3) (fun x5 S6 => m_beginValue_129 N  y3 y4 y5 x2 S6)))
set_option maxRecDepth 100000 in
set_option maxHeartbeats 4000000 in
theorem w_beginValue_108 {y1 : Int32} {y2 : Int32} {y3 : Int32} {y4 : Int32} {y5 : Int32} {S : rS} (B : BX p m c cb_beginValue 8 s args (.code y_beginValue cb_beginValue 8 (some .boolean) :: wsA) RREF meth (some .boolean) D vwCl (tyL dA) b0 Z) (hR : RR b0 h Z) (hl : lx ls [some (.ref h), some (.int y1), some (.int y2), some (.int y3), some (.int y4), some (.int y5), none, none]) (I : AI D vwCl b0 (rH dA h S hp0) sz s.heap H locs)  (hm : m_beginValue_108 N  y1 y2 y3 y4 y5 S = some (r, S')) : W p l e { frames := 4, cells := 0, slots := 0, locals := 95 } s m args below meth c H locs 0 0 (MQ below (CQ D vwCl b0 (some (.int r)) (rH dA h S' hp0) sz) args s 0 0 (fun q => b0 ≤ q)) (F0 m 108 ls []) := by
  obtain ⟨hx, hb, -⟩ := B.1
  unfold m_beginValue_108 at hm
  refine lv_aload_n (pc := 108) (i := 0) hx hb d_beginValue_108 rfl (lx_get hl rfl) ?_
  refine lv_iconst (pc := 109) (v := 0) hx hb d_beginValue_109 (by decide) ?_
  refine lv_iload_n (pc := 110) (i := 1) hx hb d_beginValue_110 rfl (lx_get hl rfl) ?_
  refine ob2 hm (fun x2 S3 e1 hm => ?_)
  refine r_call (pc := 111) (As := [.int 0, .int y1]) (rest := []) B hl rfl I (c_make hR e1) kw_make rfl (by decide) (by decide) rfl (by simp [Value.category]) d_beginValue_111 (fun H locs I => ?_)
  refine q_istore (pc := 114) (i := 6) (lo' := [some (.ref h), some (.int y1), some (.int y2), some (.int y3), some (.int y4), some (.int y5), some (.int x2), none]) hx hb d_beginValue_114 hl (Nat.le_of_ble_eq_true rfl) (lx_ci rfl) rfl (fun ls hl => ?_)
  refine lv_iload_n (pc := 116) (i := 2) hx hb d_beginValue_116 rfl (lx_get hl rfl) ?_
  refine lv_iconst (pc := 117) (v := (-1)) hx hb d_beginValue_117 (by decide) ?_
  refine lv_icmp_eq (pc := 118) (tgt := 129) hx hb d_beginValue_118 (by decide) (fun hc => ?_) (fun hc => ?_)
  · have hm := ift hc hm
    exact w_beginValue_129  B hR (lx_sub (lo' := [some (.ref h), none, none, some (.int y3), some (.int y4), some (.int y5), some (.int x2), none]) hl (by simp [lx_le])) I hm
  · have hm := iff' hc hm
    refine lv_aload_n (pc := 121) (i := 0) hx hb d_beginValue_121 rfl (lx_get hl rfl) ?_
    refine lv_iload (pc := 122) (i := 6) hx hb d_beginValue_122 (lx_get hl rfl) ?_
    refine lv_iload_n (pc := 124) (i := 2) hx hb d_beginValue_124 rfl (lx_get hl rfl) ?_
    refine ob2 hm (fun x5 S6 e4 hm => ?_)
    refine r_call (pc := 125) (As := [.int x2, .int y2]) (rest := []) B hl rfl I (c_named hR e4) kw_named rfl (by decide) (by decide) rfl (by simp [Value.category]) d_beginValue_125 (fun H locs I => ?_)
    refine lv_pop (pc := 128) hx hb d_beginValue_128 rfl ?_
    exact w_beginValue_129  B hR (lx_sub (lo' := [some (.ref h), none, none, some (.int y3), some (.int y4), some (.int y5), some (.int x2), none]) hl (by simp [lx_le])) I hm
def m_beginValue_85 (N : Nat) (y1 : Int32) (y2 : Int32) (y3 : Int32) (y4 : Int32) (y5 : Int32) (S : rS) : Option (Int32 × rS) :=
  if y5 = 0 then (m_beginValue_108 N  y1 y2 y3 y4 y5 S) else (if S.1 26 = 6 then (m_beginValue_99 N  S) else (m_beginValue_108 N  y1 y2 y3 y4 y5 S))
set_option maxRecDepth 100000 in
set_option maxHeartbeats 4000000 in
theorem w_beginValue_85 {y1 : Int32} {y2 : Int32} {y3 : Int32} {y4 : Int32} {y5 : Int32} {S : rS} (B : BX p m c cb_beginValue 8 s args (.code y_beginValue cb_beginValue 8 (some .boolean) :: wsA) RREF meth (some .boolean) D vwCl (tyL dA) b0 Z) (hR : RR b0 h Z) (hl : lx ls [some (.ref h), some (.int y1), some (.int y2), some (.int y3), some (.int y4), some (.int y5), none, none]) (I : AI D vwCl b0 (rH dA h S hp0) sz s.heap H locs)  (hm : m_beginValue_85 N  y1 y2 y3 y4 y5 S = some (r, S')) : W p l e { frames := 4, cells := 0, slots := 0, locals := 95 } s m args below meth c H locs 0 0 (MQ below (CQ D vwCl b0 (some (.int r)) (rH dA h S' hp0) sz) args s 0 0 (fun q => b0 ≤ q)) (F0 m 85 ls []) := by
  obtain ⟨hx, hb, -⟩ := B.1
  unfold m_beginValue_85 at hm
  refine lv_iload (pc := 85) (i := 5) hx hb d_beginValue_85 (lx_get hl rfl) ?_
  refine lv_if_eq (pc := 87) (tgt := 108) hx hb d_beginValue_87 (by decide) (fun hc => ?_) (fun hc => ?_)
  · have hm := ift hc hm
    exact w_beginValue_108  B hR hl I hm
  · have hm := iff' hc hm
    refine lv_aload_n (pc := 90) (i := 0) hx hb d_beginValue_90 rfl (lx_get hl rfl) ?_
    refine r_get (pc := 91) (k := 26) (index := 164) B I (by decide) mF_164 rfl rfl d_beginValue_91 ?_
    refine lv_bipush (pc := 94) (v := 6) hx hb d_beginValue_94 (by decide) ?_
    refine lv_icmp_ne (pc := 96) (tgt := 108) hx hb d_beginValue_96 (by decide) (fun hc => ?_) (fun hc => ?_)
    · have hm := iff' hc hm
      exact w_beginValue_108  B hR hl I hm
    · have hm := ift hc hm
      exact w_beginValue_99  B hR (lx_sub (lo' := [some (.ref h), none, none, none, none, none, none, none]) hl (by simp [lx_le])) I hm
def m_beginValue_49 (N : Nat) (y1 : Int32) (y2 : Int32) (y3 : Int32) (y4 : Int32) (z0 : Int32) (S : rS) : Option (Int32 × rS) :=
  if y4 = 0 then (if z0 = 0 then (if y3 = 116 then (m_beginValue_85 N  y1 y2 y3 y4 z0 S) else (if y3 = 102 then (m_beginValue_85 N  y1 y2 y3 y4 z0 S) else (if y3 = 34 then (m_beginValue_85 N  y1 y2 y3 y4 z0 S) else (if y3 = 39 then (m_beginValue_85 N  y1 y2 y3 y4 z0 S) else (m_beginValue_99 N  S))))) else (m_beginValue_85 N  y1 y2 y3 y4 z0 S)) else (m_beginValue_85 N  y1 y2 y3 y4 z0 S)
set_option maxRecDepth 100000 in
set_option maxHeartbeats 4000000 in
theorem w_beginValue_49 {y1 : Int32} {y2 : Int32} {y3 : Int32} {y4 : Int32} {z0 : Int32} {S : rS} (B : BX p m c cb_beginValue 8 s args (.code y_beginValue cb_beginValue 8 (some .boolean) :: wsA) RREF meth (some .boolean) D vwCl (tyL dA) b0 Z) (hR : RR b0 h Z) (hl : lx ls [some (.ref h), some (.int y1), some (.int y2), some (.int y3), some (.int y4), none, none, none]) (I : AI D vwCl b0 (rH dA h S hp0) sz s.heap H locs)  (hm : m_beginValue_49 N  y1 y2 y3 y4 z0 S = some (r, S')) : W p l e { frames := 4, cells := 0, slots := 0, locals := 95 } s m args below meth c H locs 0 0 (MQ below (CQ D vwCl b0 (some (.int r)) (rH dA h S' hp0) sz) args s 0 0 (fun q => b0 ≤ q)) (F0 m 49 ls [.int z0]) := by
  obtain ⟨hx, hb, -⟩ := B.1
  unfold m_beginValue_49 at hm
  refine q_istore (pc := 49) (i := 5) (lo' := [some (.ref h), some (.int y1), some (.int y2), some (.int y3), some (.int y4), some (.int z0), none, none]) hx hb d_beginValue_49 hl (Nat.le_of_ble_eq_true rfl) (lx_ci rfl) rfl (fun ls hl => ?_)
  refine lv_iload (pc := 51) (i := 4) hx hb d_beginValue_51 (lx_get hl rfl) ?_
  refine lv_if_ne (pc := 53) (tgt := 85) hx hb d_beginValue_53 (by decide) (fun hc => ?_) (fun hc => ?_)
  · have hm := iff' hc hm
    exact w_beginValue_85  B hR hl I hm
  · have hm := ift hc hm
    refine lv_iload (pc := 56) (i := 5) hx hb d_beginValue_56 (lx_get hl rfl) ?_
    refine lv_if_ne (pc := 58) (tgt := 85) hx hb d_beginValue_58 (by decide) (fun hc => ?_) (fun hc => ?_)
    · have hm := iff' hc hm
      exact w_beginValue_85  B hR hl I hm
    · have hm := ift hc hm
      refine lv_iload_n (pc := 61) (i := 3) hx hb d_beginValue_61 rfl (lx_get hl rfl) ?_
      refine lv_bipush (pc := 62) (v := 116) hx hb d_beginValue_62 (by decide) ?_
      refine lv_icmp_eq (pc := 64) (tgt := 85) hx hb d_beginValue_64 (by decide) (fun hc => ?_) (fun hc => ?_)
      · have hm := ift hc hm
        exact w_beginValue_85  B hR hl I hm
      · have hm := iff' hc hm
        refine lv_iload_n (pc := 67) (i := 3) hx hb d_beginValue_67 rfl (lx_get hl rfl) ?_
        refine lv_bipush (pc := 68) (v := 102) hx hb d_beginValue_68 (by decide) ?_
        refine lv_icmp_eq (pc := 70) (tgt := 85) hx hb d_beginValue_70 (by decide) (fun hc => ?_) (fun hc => ?_)
        · have hm := ift hc hm
          exact w_beginValue_85  B hR hl I hm
        · have hm := iff' hc hm
          refine lv_iload_n (pc := 73) (i := 3) hx hb d_beginValue_73 rfl (lx_get hl rfl) ?_
          refine lv_bipush (pc := 74) (v := 34) hx hb d_beginValue_74 (by decide) ?_
          refine lv_icmp_eq (pc := 76) (tgt := 85) hx hb d_beginValue_76 (by decide) (fun hc => ?_) (fun hc => ?_)
          · have hm := ift hc hm
            exact w_beginValue_85  B hR hl I hm
          · have hm := iff' hc hm
            refine lv_iload_n (pc := 79) (i := 3) hx hb d_beginValue_79 rfl (lx_get hl rfl) ?_
            refine lv_bipush (pc := 80) (v := 39) hx hb d_beginValue_80 (by decide) ?_
            refine lv_icmp_ne (pc := 82) (tgt := 99) hx hb d_beginValue_82 (by decide) (fun hc => ?_) (fun hc => ?_)
            · have hm := iff' hc hm
              exact w_beginValue_99  B hR (lx_sub (lo' := [some (.ref h), none, none, none, none, none, none, none]) hl (by simp [lx_le])) I hm
            · have hm := ift hc hm
              exact w_beginValue_85  B hR hl I hm
def m_beginValue_44 (N : Nat) (y1 : Int32) (y2 : Int32) (y3 : Int32) (y4 : Int32) (S : rS) : Option (Int32 × rS) :=
  m_beginValue_49 N  y1 y2 y3 y4 1 S
set_option maxRecDepth 100000 in
set_option maxHeartbeats 4000000 in
theorem w_beginValue_44 {y1 : Int32} {y2 : Int32} {y3 : Int32} {y4 : Int32} {S : rS} (B : BX p m c cb_beginValue 8 s args (.code y_beginValue cb_beginValue 8 (some .boolean) :: wsA) RREF meth (some .boolean) D vwCl (tyL dA) b0 Z) (hR : RR b0 h Z) (hl : lx ls [some (.ref h), some (.int y1), some (.int y2), some (.int y3), some (.int y4), none, none, none]) (I : AI D vwCl b0 (rH dA h S hp0) sz s.heap H locs)  (hm : m_beginValue_44 N  y1 y2 y3 y4 S = some (r, S')) : W p l e { frames := 4, cells := 0, slots := 0, locals := 95 } s m args below meth c H locs 0 0 (MQ below (CQ D vwCl b0 (some (.int r)) (rH dA h S' hp0) sz) args s 0 0 (fun q => b0 ≤ q)) (F0 m 44 ls []) := by
  obtain ⟨hx, hb, -⟩ := B.1
  unfold m_beginValue_44 at hm
  refine lv_iconst (pc := 44) (v := 1) hx hb d_beginValue_44 (by decide) ?_
  refine lv_goto (pc := 45) (tgt := 49) hx hb d_beginValue_45 (by decide) ?_
  exact w_beginValue_49  B hR hl I hm
def m_beginValue_30 (N : Nat) (y1 : Int32) (y2 : Int32) (y3 : Int32) (z0 : Int32) (S : rS) : Option (Int32 × rS) :=
  if y3 = 91 then (m_beginValue_44 N  y1 y2 y3 z0 S) else (if y3 = 123 then (m_beginValue_44 N  y1 y2 y3 z0 S) else (m_beginValue_49 N  y1 y2 y3 z0 0 S))
set_option maxRecDepth 100000 in
set_option maxHeartbeats 4000000 in
theorem w_beginValue_30 {y1 : Int32} {y2 : Int32} {y3 : Int32} {z0 : Int32} {S : rS} (B : BX p m c cb_beginValue 8 s args (.code y_beginValue cb_beginValue 8 (some .boolean) :: wsA) RREF meth (some .boolean) D vwCl (tyL dA) b0 Z) (hR : RR b0 h Z) (hl : lx ls [some (.ref h), some (.int y1), some (.int y2), some (.int y3), none, none, none, none]) (I : AI D vwCl b0 (rH dA h S hp0) sz s.heap H locs)  (hm : m_beginValue_30 N  y1 y2 y3 z0 S = some (r, S')) : W p l e { frames := 4, cells := 0, slots := 0, locals := 95 } s m args below meth c H locs 0 0 (MQ below (CQ D vwCl b0 (some (.int r)) (rH dA h S' hp0) sz) args s 0 0 (fun q => b0 ≤ q)) (F0 m 30 ls [.int z0]) := by
  obtain ⟨hx, hb, -⟩ := B.1
  unfold m_beginValue_30 at hm
  refine q_istore (pc := 30) (i := 4) (lo' := [some (.ref h), some (.int y1), some (.int y2), some (.int y3), some (.int z0), none, none, none]) hx hb d_beginValue_30 hl (Nat.le_of_ble_eq_true rfl) (lx_ci rfl) rfl (fun ls hl => ?_)
  refine lv_iload_n (pc := 32) (i := 3) hx hb d_beginValue_32 rfl (lx_get hl rfl) ?_
  refine lv_bipush (pc := 33) (v := 91) hx hb d_beginValue_33 (by decide) ?_
  refine lv_icmp_eq (pc := 35) (tgt := 44) hx hb d_beginValue_35 (by decide) (fun hc => ?_) (fun hc => ?_)
  · have hm := ift hc hm
    exact w_beginValue_44  B hR hl I hm
  · have hm := iff' hc hm
    refine lv_iload_n (pc := 38) (i := 3) hx hb d_beginValue_38 rfl (lx_get hl rfl) ?_
    refine lv_bipush (pc := 39) (v := 123) hx hb d_beginValue_39 (by decide) ?_
    refine lv_icmp_ne (pc := 41) (tgt := 48) hx hb d_beginValue_41 (by decide) (fun hc => ?_) (fun hc => ?_)
    · have hm := iff' hc hm
      refine lv_iconst (pc := 48) (v := 0) hx hb d_beginValue_48 (by decide) ?_
      exact w_beginValue_49  B hR hl I hm
    · have hm := ift hc hm
      exact w_beginValue_44  B hR hl I hm
def m_beginValue_25 (N : Nat) (y1 : Int32) (y2 : Int32) (y3 : Int32) (S : rS) : Option (Int32 × rS) :=
  m_beginValue_30 N  y1 y2 y3 1 S
set_option maxRecDepth 100000 in
set_option maxHeartbeats 4000000 in
theorem w_beginValue_25 {y1 : Int32} {y2 : Int32} {y3 : Int32} {S : rS} (B : BX p m c cb_beginValue 8 s args (.code y_beginValue cb_beginValue 8 (some .boolean) :: wsA) RREF meth (some .boolean) D vwCl (tyL dA) b0 Z) (hR : RR b0 h Z) (hl : lx ls [some (.ref h), some (.int y1), some (.int y2), some (.int y3), none, none, none, none]) (I : AI D vwCl b0 (rH dA h S hp0) sz s.heap H locs)  (hm : m_beginValue_25 N  y1 y2 y3 S = some (r, S')) : W p l e { frames := 4, cells := 0, slots := 0, locals := 95 } s m args below meth c H locs 0 0 (MQ below (CQ D vwCl b0 (some (.int r)) (rH dA h S' hp0) sz) args s 0 0 (fun q => b0 ≤ q)) (F0 m 25 ls []) := by
  obtain ⟨hx, hb, -⟩ := B.1
  unfold m_beginValue_25 at hm
  refine lv_iconst (pc := 25) (v := 1) hx hb d_beginValue_25 (by decide) ?_
  refine lv_goto (pc := 26) (tgt := 30) hx hb d_beginValue_26 (by decide) ?_
  exact w_beginValue_30  B hR hl I hm
def m_beginValue (N : Nat) (p1 : Int32) (p2 : Int32) (S : rS) : Option (Int32 × rS) :=
  b1 (m_here N S) (fun x2 => b1 (m_isDigit N x2 S) (fun x4 => if x4 = 0 then (if x2 = 43 then (m_beginValue_25 N  p1 p2 x2 S) else (if x2 = 45 then (m_beginValue_25 N  p1 p2 x2 S) else (m_beginValue_30 N  p1 p2 x2 0 S))) else (m_beginValue_25 N  p1 p2 x2 S)))
set_option maxRecDepth 100000 in
set_option maxHeartbeats 4000000 in
theorem c_beginValue {p1 : Int32} {p2 : Int32} {S S' : rS} {r : Int32} (hR : RR b0 h Z) (hm : m_beginValue N p1 p2 S = some (r, S')) : Ct l D vwCl (tyL dA) b0 Z y_beginValue (.code y_beginValue cb_beginValue 8 (some .boolean) :: wsA) 4 95 [.ref h, .int p1, .int p2] (rH dA h S hp0) sz (some (.int r)) (rH dA h S' hp0) 0 0 := by
  refine ct_of (cc := cb_beginValue) (maxL := 8) (ret := (some .boolean)) (lo0 := [some (.ref h), some (.int p1), some (.int p2), none, none, none, none, none]) hR.2 (by decide) rfl (by simp [lg_sl, Value.category]) rfl (by simp [lx_all, lv_args, Value.category]) ?_
  intro p e s m args below meth c ls B hnm hl I
  obtain ⟨hx, hb, -⟩ := B.1
  unfold m_beginValue at hm
  refine lv_aload_n (pc := 0) (i := 0) hx hb d_beginValue_0 rfl (lx_get hl rfl) ?_
  refine ob1 hm (fun x2 e1 hm => ?_)
  refine r_call (pc := 1) (As := []) (rest := []) B hl rfl I (c_here hR e1) kw_here rfl (by decide) (by decide) rfl (by simp [Value.category]) d_beginValue_1 (fun H locs I => ?_)
  refine q_istore_n (pc := 4) (i := 3) (lo' := [some (.ref h), some (.int p1), some (.int p2), some (.int x2), none, none, none, none]) hx hb d_beginValue_4 rfl hl (Nat.le_of_ble_eq_true rfl) (lx_ci rfl) rfl (fun ls hl => ?_)
  refine lv_aload_n (pc := 5) (i := 0) hx hb d_beginValue_5 rfl (lx_get hl rfl) ?_
  refine lv_iload_n (pc := 6) (i := 3) hx hb d_beginValue_6 rfl (lx_get hl rfl) ?_
  refine ob1 hm (fun x4 e3 hm => ?_)
  refine r_call (pc := 7) (As := [.int x2]) (rest := []) B hl rfl I (c_isDigit hR e3) kw_isDigit rfl (by decide) (by decide) rfl (by simp [Value.category]) d_beginValue_7 (fun H locs I => ?_)
  refine lv_if_ne (pc := 10) (tgt := 25) hx hb d_beginValue_10 (by decide) (fun hc => ?_) (fun hc => ?_)
  · have hm := iff' hc hm
    exact w_beginValue_25  B hR hl I hm
  · have hm := ift hc hm
    refine lv_iload_n (pc := 13) (i := 3) hx hb d_beginValue_13 rfl (lx_get hl rfl) ?_
    refine lv_bipush (pc := 14) (v := 43) hx hb d_beginValue_14 (by decide) ?_
    refine lv_icmp_eq (pc := 16) (tgt := 25) hx hb d_beginValue_16 (by decide) (fun hc => ?_) (fun hc => ?_)
    · have hm := ift hc hm
      exact w_beginValue_25  B hR hl I hm
    · have hm := iff' hc hm
      refine lv_iload_n (pc := 19) (i := 3) hx hb d_beginValue_19 rfl (lx_get hl rfl) ?_
      refine lv_bipush (pc := 20) (v := 45) hx hb d_beginValue_20 (by decide) ?_
      refine lv_icmp_ne (pc := 22) (tgt := 29) hx hb d_beginValue_22 (by decide) (fun hc => ?_) (fun hc => ?_)
      · have hm := iff' hc hm
        refine lv_iconst (pc := 29) (v := 0) hx hb d_beginValue_29 (by decide) ?_
        exact w_beginValue_30  B hR hl I hm
      · have hm := ift hc hm
        exact w_beginValue_25  B hR hl I hm
def m_stepList (N : Nat) (p1 : Int32) (S : rS) : Option (Int32 × rS) :=
  b1 (rL S 17 p1) (fun x1 => b1 (m_room N S) (fun S4 => b1 (m_here N S4) (fun x6 => if x6 = 93 then (b1 (rP S4 3 ((S4.1 3) + 1)) (fun S23 => b1 (rP S23 26 ((S23.1 26) - 1)) (fun S25 => some (1, S25)))) else (b1 (rL S4 18 p1) (fun x7 => if x7 = 1 then (b1 (m_here N S4) (fun x15 => if x15 = 44 then (b1 (rP S4 3 ((S4.1 3) + 1)) (fun S16 => b1 (rT S16 18 p1 0) (fun S18 => some (1, S18)))) else (b2 (m_fail N (S4.1 3) S4) (fun x21 S22 => if x21 = 0 ∨ x21 = 1 then (some (x21, S22)) else none)))) else (b1 (rT S4 18 p1 1) (fun S9 => b2 (m_beginValue N x1 (-1) S9) (fun x12 S13 => if x12 = 0 ∨ x12 = 1 then (some (x12, S13)) else none))))))))
set_option maxRecDepth 100000 in
set_option maxHeartbeats 4000000 in
theorem c_stepList {p1 : Int32} {S S' : rS} {r : Int32} (hR : RR b0 h Z) (hm : m_stepList N p1 S = some (r, S')) : Ct l D vwCl (tyL dA) b0 Z y_stepList (.code y_stepList cb_stepList 3 (some .boolean) :: wsA) 5 122 [.ref h, .int p1] (rH dA h S hp0) sz (some (.int r)) (rH dA h S' hp0) 0 0 := by
  refine ct_of (cc := cb_stepList) (maxL := 3) (ret := (some .boolean)) (lo0 := [some (.ref h), some (.int p1), none]) hR.2 (by decide) rfl (by simp [lg_sl, Value.category]) rfl (by simp [lx_all, lv_args, Value.category]) ?_
  intro p e s m args below meth c ls B hnm hl I
  obtain ⟨hx, hb, -⟩ := B.1
  unfold m_stepList at hm
  refine lv_aload_n (pc := 0) (i := 0) hx hb d_stepList_0 rfl (lx_get hl rfl) ?_
  refine r_get (pc := 1) (k := 27) (index := 58) B I (by decide) mF_58 rfl rfl d_stepList_1 ?_
  refine lv_iload_n (pc := 4) (i := 1) hx hb d_stepList_4 rfl (lx_get hl rfl) ?_
  refine ob1 hm (fun x1 e2 hm => ?_)
  refine r_ald (pc := 5) (j := 17) B I (by decide) (by decide) e2 d_stepList_5 ?_
  refine q_istore_n (pc := 6) (i := 2) (lo' := [some (.ref h), some (.int p1), some (.int x1)]) hx hb d_stepList_6 rfl hl (Nat.le_of_ble_eq_true rfl) (lx_ci rfl) rfl (fun ls hl => ?_)
  refine lv_aload_n (pc := 7) (i := 0) hx hb d_stepList_7 rfl (lx_get hl rfl) ?_
  refine ob1 hm (fun S4 e3 hm => ?_)
  refine r_call (pc := 8) (As := []) (rest := []) B hl rfl I (c_room hR e3) kw_room rfl (by decide) (by decide) rfl (by simp [Value.category]) d_stepList_8 (fun H locs I => ?_)
  refine lv_aload_n (pc := 11) (i := 0) hx hb d_stepList_11 rfl (lx_get hl rfl) ?_
  refine ob1 hm (fun x6 e5 hm => ?_)
  refine r_call (pc := 12) (As := []) (rest := []) B hl rfl I (c_here hR e5) kw_here rfl (by decide) (by decide) rfl (by simp [Value.category]) d_stepList_12 (fun H locs I => ?_)
  refine lv_bipush (pc := 15) (v := 93) hx hb d_stepList_15 (by decide) ?_
  refine lv_icmp_ne (pc := 17) (tgt := 42) hx hb d_stepList_17 (by decide) (fun hc => ?_) (fun hc => ?_)
  · have hm := iff' hc hm
    refine lv_aload_n (pc := 42) (i := 0) hx hb d_stepList_42 rfl (lx_get hl rfl) ?_
    refine r_get (pc := 43) (k := 28) (index := 61) B I (by decide) mF_61 rfl rfl d_stepList_43 ?_
    refine lv_iload_n (pc := 46) (i := 1) hx hb d_stepList_46 rfl (lx_get hl rfl) ?_
    refine ob1 hm (fun x7 e8 hm => ?_)
    refine r_ald (pc := 47) (j := 18) B I (by decide) (by decide) e8 d_stepList_47 ?_
    refine lv_iconst (pc := 48) (v := 1) hx hb d_stepList_48 (by decide) ?_
    refine lv_icmp_ne (pc := 49) (tgt := 89) hx hb d_stepList_49 (by decide) (fun hc => ?_) (fun hc => ?_)
    · have hm := iff' hc hm
      refine lv_aload_n (pc := 89) (i := 0) hx hb d_stepList_89 rfl (lx_get hl rfl) ?_
      refine r_get (pc := 90) (k := 28) (index := 61) B I (by decide) mF_61 rfl rfl d_stepList_90 ?_
      refine lv_iload_n (pc := 93) (i := 1) hx hb d_stepList_93 rfl (lx_get hl rfl) ?_
      refine lv_iconst (pc := 94) (v := 1) hx hb d_stepList_94 (by decide) ?_
      refine ob1 hm (fun S9 e10 hm => ?_)
      refine r_ast (pc := 95) (j := 18) B hR I (by decide) (by decide) e10 d_stepList_95 (fun H locs I => ?_)
      refine lv_aload_n (pc := 96) (i := 0) hx hb d_stepList_96 rfl (lx_get hl rfl) ?_
      refine lv_iload_n (pc := 97) (i := 2) hx hb d_stepList_97 rfl (lx_get hl rfl) ?_
      refine lv_iconst (pc := 98) (v := (-1)) hx hb d_stepList_98 (by decide) ?_
      refine ob2 hm (fun x12 S13 e11 hm => ?_)
      refine r_call (pc := 99) (As := [.int x1, .int (-1)]) (rest := []) B hl rfl I (c_beginValue hR e11) kw_beginValue rfl (by decide) (by decide) rfl (by simp [Value.category]) d_stepList_99 (fun H locs I => ?_)
      by_cases hq : x12 = 0 ∨ x12 = 1
      · have hm := ift hq hm
        cases hm
        exact q_zret (pc := 102) B I rfl (zn hq) d_stepList_102
      · have hm := iff' hq hm
        cases hm
    · have hm := ift hc hm
      refine lv_aload_n (pc := 52) (i := 0) hx hb d_stepList_52 rfl (lx_get hl rfl) ?_
      refine ob1 hm (fun x15 e14 hm => ?_)
      refine r_call (pc := 53) (As := []) (rest := []) B hl rfl I (c_here hR e14) kw_here rfl (by decide) (by decide) rfl (by simp [Value.category]) d_stepList_53 (fun H locs I => ?_)
      refine lv_bipush (pc := 56) (v := 44) hx hb d_stepList_56 (by decide) ?_
      refine lv_icmp_eq (pc := 58) (tgt := 70) hx hb d_stepList_58 (by decide) (fun hc => ?_) (fun hc => ?_)
      · have hm := ift hc hm
        refine lv_aload_n (pc := 70) (i := 0) hx hb d_stepList_70 rfl (lx_get hl rfl) ?_
        refine lv_dup (pc := 71) hx hb d_stepList_71 rfl ?_
        refine r_get (pc := 72) (k := 3) (index := 76) B I (by decide) mF_76 rfl rfl d_stepList_72 ?_
        refine lv_iconst (pc := 75) (v := 1) hx hb d_stepList_75 (by decide) ?_
        refine lv_iadd (pc := 76) hx hb d_stepList_76 ?_
        refine ob1 hm (fun S16 e17 hm => ?_)
        refine r_put (pc := 77) (k := 3) (index := 76) B hR I (by decide) mF_76 rfl rfl rfl (fun _ _ => rfl) e17 d_stepList_77 (fun H locs I => ?_)
        refine lv_aload_n (pc := 80) (i := 0) hx hb d_stepList_80 rfl (lx_get hl rfl) ?_
        refine r_get (pc := 81) (k := 28) (index := 61) B I (by decide) mF_61 rfl rfl d_stepList_81 ?_
        refine lv_iload_n (pc := 84) (i := 1) hx hb d_stepList_84 rfl (lx_get hl rfl) ?_
        refine lv_iconst (pc := 85) (v := 0) hx hb d_stepList_85 (by decide) ?_
        refine ob1 hm (fun S18 e19 hm => ?_)
        refine r_ast (pc := 86) (j := 18) B hR I (by decide) (by decide) e19 d_stepList_86 (fun H locs I => ?_)
        refine lv_iconst (pc := 87) (v := 1) hx hb d_stepList_87 (by decide) ?_
        cases hm
        exact q_zret (pc := 88) B I rfl (by decide) d_stepList_88
      · have hm := iff' hc hm
        refine lv_aload_n (pc := 61) (i := 0) hx hb d_stepList_61 rfl (lx_get hl rfl) ?_
        refine lv_aload_n (pc := 62) (i := 0) hx hb d_stepList_62 rfl (lx_get hl rfl) ?_
        refine r_get (pc := 63) (k := 3) (index := 76) B I (by decide) mF_76 rfl rfl d_stepList_63 ?_
        refine ob2 hm (fun x21 S22 e20 hm => ?_)
        refine r_call (pc := 66) (As := [.int (S4.1 3)]) (rest := []) B hl rfl I (c_fail hR e20) kw_fail rfl (by decide) (by decide) rfl (by simp [Value.category]) d_stepList_66 (fun H locs I => ?_)
        by_cases hq : x21 = 0 ∨ x21 = 1
        · have hm := ift hq hm
          cases hm
          exact q_zret (pc := 69) B I rfl (zn hq) d_stepList_69
        · have hm := iff' hq hm
          cases hm
  · have hm := ift hc hm
    refine lv_aload_n (pc := 20) (i := 0) hx hb d_stepList_20 rfl (lx_get hl rfl) ?_
    refine lv_dup (pc := 21) hx hb d_stepList_21 rfl ?_
    refine r_get (pc := 22) (k := 3) (index := 76) B I (by decide) mF_76 rfl rfl d_stepList_22 ?_
    refine lv_iconst (pc := 25) (v := 1) hx hb d_stepList_25 (by decide) ?_
    refine lv_iadd (pc := 26) hx hb d_stepList_26 ?_
    refine ob1 hm (fun S23 e24 hm => ?_)
    refine r_put (pc := 27) (k := 3) (index := 76) B hR I (by decide) mF_76 rfl rfl rfl (fun _ _ => rfl) e24 d_stepList_27 (fun H locs I => ?_)
    refine lv_aload_n (pc := 30) (i := 0) hx hb d_stepList_30 rfl (lx_get hl rfl) ?_
    refine lv_dup (pc := 31) hx hb d_stepList_31 rfl ?_
    refine r_get (pc := 32) (k := 26) (index := 164) B I (by decide) mF_164 rfl rfl d_stepList_32 ?_
    refine lv_iconst (pc := 35) (v := 1) hx hb d_stepList_35 (by decide) ?_
    refine lv_isub (pc := 36) hx hb d_stepList_36 ?_
    refine ob1 hm (fun S25 e26 hm => ?_)
    refine r_put (pc := 37) (k := 26) (index := 164) B hR I (by decide) mF_164 rfl rfl rfl (fun _ _ => rfl) e26 d_stepList_37 (fun H locs I => ?_)
    refine lv_iconst (pc := 40) (v := 1) hx hb d_stepList_40 (by decide) ?_
    cases hm
    exact q_zret (pc := 41) B I rfl (by decide) d_stepList_41
def m_entry (N : Nat) (p1 : Int32) (S : rS) : Option (Int32 × rS) :=
  b2 (m_path N S) (fun x2 S3 => if x2 = 0 then (some (0, S3)) else (b2 (m_leadEntry N p1 S3) (fun x5 S6 => if x5 = (-1) then (some (0, S6)) else (b1 (m_here N S6) (fun x8 => if x8 = 61 then (b1 (rP S6 3 ((S6.1 3) + 1)) (fun S9 => b1 (m_blanks N S9) (fun S12 => b2 (m_beginValue N x5 ((S12.1 20) - 1) S12) (fun x14 S15 => if x14 = 0 ∨ x14 = 1 then (some (x14, S15)) else none)))) else (b2 (m_fail N (S6.1 3) S6) (fun x17 S18 => if x17 = 0 ∨ x17 = 1 then (some (x17, S18)) else none)))))))
set_option maxRecDepth 100000 in
set_option maxHeartbeats 4000000 in
theorem c_entry {p1 : Int32} {S S' : rS} {r : Int32} (hR : RR b0 h Z) (hm : m_entry N p1 S = some (r, S')) : Ct l D vwCl (tyL dA) b0 Z y_entry (.code y_entry cb_entry 3 (some .boolean) :: wsA) 5 122 [.ref h, .int p1] (rH dA h S hp0) sz (some (.int r)) (rH dA h S' hp0) 0 0 := by
  refine ct_of (cc := cb_entry) (maxL := 3) (ret := (some .boolean)) (lo0 := [some (.ref h), some (.int p1), none]) hR.2 (by decide) rfl (by simp [lg_sl, Value.category]) rfl (by simp [lx_all, lv_args, Value.category]) ?_
  intro p e s m args below meth c ls B hnm hl I
  obtain ⟨hx, hb, -⟩ := B.1
  unfold m_entry at hm
  refine lv_aload_n (pc := 0) (i := 0) hx hb d_entry_0 rfl (lx_get hl rfl) ?_
  refine ob2 hm (fun x2 S3 e1 hm => ?_)
  refine r_call (pc := 1) (As := []) (rest := []) B hl rfl I (c_path hR e1) kw_path rfl (by decide) (by decide) rfl (by simp [Value.category]) d_entry_1 (fun H locs I => ?_)
  refine lv_if_ne (pc := 4) (tgt := 9) hx hb d_entry_4 (by decide) (fun hc => ?_) (fun hc => ?_)
  · have hm := iff' hc hm
    refine lv_aload_n (pc := 9) (i := 0) hx hb d_entry_9 rfl (lx_get hl rfl) ?_
    refine lv_iload_n (pc := 10) (i := 1) hx hb d_entry_10 rfl (lx_get hl rfl) ?_
    refine ob2 hm (fun x5 S6 e4 hm => ?_)
    refine r_call (pc := 11) (As := [.int p1]) (rest := []) B hl rfl I (c_leadEntry hR e4) kw_leadEntry rfl (by decide) (by decide) rfl (by simp [Value.category]) d_entry_11 (fun H locs I => ?_)
    refine q_istore_n (pc := 14) (i := 2) (lo' := [some (.ref h), some (.int p1), some (.int x5)]) hx hb d_entry_14 rfl hl (Nat.le_of_ble_eq_true rfl) (lx_ci rfl) rfl (fun ls hl => ?_)
    refine lv_iload_n (pc := 15) (i := 2) hx hb d_entry_15 rfl (lx_get hl rfl) ?_
    refine lv_iconst (pc := 16) (v := (-1)) hx hb d_entry_16 (by decide) ?_
    refine lv_icmp_ne (pc := 17) (tgt := 22) hx hb d_entry_17 (by decide) (fun hc => ?_) (fun hc => ?_)
    · have hm := iff' hc hm
      refine lv_aload_n (pc := 22) (i := 0) hx hb d_entry_22 rfl (lx_get hl rfl) ?_
      refine ob1 hm (fun x8 e7 hm => ?_)
      refine r_call (pc := 23) (As := []) (rest := []) B hl rfl I (c_here hR e7) kw_here rfl (by decide) (by decide) rfl (by simp [Value.category]) d_entry_23 (fun H locs I => ?_)
      refine lv_bipush (pc := 26) (v := 61) hx hb d_entry_26 (by decide) ?_
      refine lv_icmp_eq (pc := 28) (tgt := 40) hx hb d_entry_28 (by decide) (fun hc => ?_) (fun hc => ?_)
      · have hm := ift hc hm
        refine lv_aload_n (pc := 40) (i := 0) hx hb d_entry_40 rfl (lx_get hl rfl) ?_
        refine lv_dup (pc := 41) hx hb d_entry_41 rfl ?_
        refine r_get (pc := 42) (k := 3) (index := 76) B I (by decide) mF_76 rfl rfl d_entry_42 ?_
        refine lv_iconst (pc := 45) (v := 1) hx hb d_entry_45 (by decide) ?_
        refine lv_iadd (pc := 46) hx hb d_entry_46 ?_
        refine ob1 hm (fun S9 e10 hm => ?_)
        refine r_put (pc := 47) (k := 3) (index := 76) B hR I (by decide) mF_76 rfl rfl rfl (fun _ _ => rfl) e10 d_entry_47 (fun H locs I => ?_)
        refine lv_aload_n (pc := 50) (i := 0) hx hb d_entry_50 rfl (lx_get hl rfl) ?_
        refine ob1 hm (fun S12 e11 hm => ?_)
        refine r_call (pc := 51) (As := []) (rest := []) B hl rfl I (c_blanks hR e11) kw_blanks rfl (by decide) (by decide) rfl (by simp [Value.category]) d_entry_51 (fun H locs I => ?_)
        refine lv_aload_n (pc := 54) (i := 0) hx hb d_entry_54 rfl (lx_get hl rfl) ?_
        refine lv_iload_n (pc := 55) (i := 2) hx hb d_entry_55 rfl (lx_get hl rfl) ?_
        refine lv_aload_n (pc := 56) (i := 0) hx hb d_entry_56 rfl (lx_get hl rfl) ?_
        refine r_get (pc := 57) (k := 20) (index := 119) B I (by decide) mF_119 rfl rfl d_entry_57 ?_
        refine lv_iconst (pc := 60) (v := 1) hx hb d_entry_60 (by decide) ?_
        refine lv_isub (pc := 61) hx hb d_entry_61 ?_
        refine ob2 hm (fun x14 S15 e13 hm => ?_)
        refine r_call (pc := 62) (As := [.int x5, .int ((S12.1 20) - 1)]) (rest := []) B hl rfl I (c_beginValue hR e13) kw_beginValue rfl (by decide) (by decide) rfl (by simp [Value.category]) d_entry_62 (fun H locs I => ?_)
        by_cases hq : x14 = 0 ∨ x14 = 1
        · have hm := ift hq hm
          cases hm
          exact q_zret (pc := 65) B I rfl (zn hq) d_entry_65
        · have hm := iff' hq hm
          cases hm
      · have hm := iff' hc hm
        refine lv_aload_n (pc := 31) (i := 0) hx hb d_entry_31 rfl (lx_get hl rfl) ?_
        refine lv_aload_n (pc := 32) (i := 0) hx hb d_entry_32 rfl (lx_get hl rfl) ?_
        refine r_get (pc := 33) (k := 3) (index := 76) B I (by decide) mF_76 rfl rfl d_entry_33 ?_
        refine ob2 hm (fun x17 S18 e16 hm => ?_)
        refine r_call (pc := 36) (As := [.int (S6.1 3)]) (rest := []) B hl rfl I (c_fail hR e16) kw_fail rfl (by decide) (by decide) rfl (by simp [Value.category]) d_entry_36 (fun H locs I => ?_)
        by_cases hq : x17 = 0 ∨ x17 = 1
        · have hm := ift hq hm
          cases hm
          exact q_zret (pc := 39) B I rfl (zn hq) d_entry_39
        · have hm := iff' hq hm
          cases hm
    · have hm := ift hc hm
      refine lv_iconst (pc := 20) (v := 0) hx hb d_entry_20 (by decide) ?_
      cases hm
      exact q_zret (pc := 21) B I rfl (by decide) d_entry_21
  · have hm := ift hc hm
    refine lv_iconst (pc := 7) (v := 0) hx hb d_entry_7 (by decide) ?_
    cases hm
    exact q_zret (pc := 8) B I rfl (by decide) d_entry_8
def m_stepTable_103 (N : Nat) (K54 : Int32 → rS → Option (Int32 × rS)) (y3 : Int32) (z1 : Int32) (z2 : Int32) (S : rS) : Option (Int32 × rS) :=
  b1 (rT S 3 z1 z2) (fun S1 => K54 (y3 + 1) S1)
set_option maxRecDepth 100000 in
set_option maxHeartbeats 4000000 in
theorem w_stepTable_103 {K54 : Int32 → rS → Option (Int32 × rS)} {y3 : Int32} {z1 : Int32} {z2 : Int32} {S : rS} (hK54 : ∀ (y3 : Int32) (S : rS) (ls : Array Slot) (H : Heap) (locs : List Loc), lx ls [some (.ref h), none, none, some (.int y3)] → AI D vwCl b0 (rH dA h S hp0) sz s.heap H locs → K54 y3 S = some (r, S') → W p l e { frames := 6, cells := 0, slots := 0, locals := 144 } s m args below meth c H locs 0 0 (MQ below (CQ D vwCl b0 (some (.int r)) (rH dA h S' hp0) sz) args s 0 0 (fun q => b0 ≤ q)) (F0 m 54 ls [])) (B : BX p m c cb_stepTable 4 s args (.code y_stepTable cb_stepTable 4 (some .boolean) :: wsA) RREF meth (some .boolean) D vwCl (tyL dA) b0 Z) (hR : RR b0 h Z) (hl : lx ls [some (.ref h), none, none, some (.int y3)]) (I : AI D vwCl b0 (rH dA h S hp0) sz s.heap H locs)  (hm : m_stepTable_103 N K54 y3 z1 z2 S = some (r, S')) : W p l e { frames := 6, cells := 0, slots := 0, locals := 144 } s m args below meth c H locs 0 0 (MQ below (CQ D vwCl b0 (some (.int r)) (rH dA h S' hp0) sz) args s 0 0 (fun q => b0 ≤ q)) (F0 m 103 ls [.int z2, .int z1, .ref (h + 3)]) := by
  obtain ⟨hx, hb, -⟩ := B.1
  unfold m_stepTable_103 at hm
  refine ob1 hm (fun S1 e2 hm => ?_)
  refine r_ast (pc := 103) (j := 3) B hR I (by decide) (by decide) e2 d_stepTable_103 (fun H locs I => ?_)
  refine q_iinc (pc := 104) (i := 3) (v := y3 + 1) (lo' := [some (.ref h), none, none, some (.int (y3 + 1))]) hx hb d_stepTable_104 hl rfl rfl (Nat.le_of_ble_eq_true rfl) (lx_cn rfl) rfl (fun ls hl => ?_)
  refine lv_goto (pc := 107) (tgt := 54) hx hb d_stepTable_107 (by decide) ?_
  exact hK54 _ _ _ _ _ hl I hm
def m_stepTable_54F (N : Nat) (K54 : Int32 → rS → Option (Int32 × rS)) (y3 : Int32) (S : rS) : Option (Int32 × rS) :=
  b1 (rL S 2 (S.1 19)) (fun x1 => if (260 * (S.1 19)) + x1 ≤ y3 then (some (1, S)) else (b1 (rL S 3 y3) (fun x3 => if x3 = 9 then (m_stepTable_103 N K54 y3 y3 10 S) else (b1 (rL S 3 y3) (fun x5 => m_stepTable_103 N K54 y3 y3 x5 S)))))
def m_stepTable_54 (N : Nat) : Nat → Int32 → rS → Option (Int32 × rS)
  | 0, _, _ => none
  | k + 1, y3, S => m_stepTable_54F N  (m_stepTable_54 N  k) y3 S
set_option maxRecDepth 100000 in
set_option maxHeartbeats 4000000 in
theorem w_stepTable_54F {K54 : Int32 → rS → Option (Int32 × rS)} {y3 : Int32} {S : rS} (hK54 : ∀ (y3 : Int32) (S : rS) (ls : Array Slot) (H : Heap) (locs : List Loc), lx ls [some (.ref h), none, none, some (.int y3)] → AI D vwCl b0 (rH dA h S hp0) sz s.heap H locs → K54 y3 S = some (r, S') → W p l e { frames := 6, cells := 0, slots := 0, locals := 144 } s m args below meth c H locs 0 0 (MQ below (CQ D vwCl b0 (some (.int r)) (rH dA h S' hp0) sz) args s 0 0 (fun q => b0 ≤ q)) (F0 m 54 ls [])) (B : BX p m c cb_stepTable 4 s args (.code y_stepTable cb_stepTable 4 (some .boolean) :: wsA) RREF meth (some .boolean) D vwCl (tyL dA) b0 Z) (hR : RR b0 h Z) (hl : lx ls [some (.ref h), none, none, some (.int y3)]) (I : AI D vwCl b0 (rH dA h S hp0) sz s.heap H locs)  (hm : m_stepTable_54F N  K54 y3 S = some (r, S')) : W p l e { frames := 6, cells := 0, slots := 0, locals := 144 } s m args below meth c H locs 0 0 (MQ below (CQ D vwCl b0 (some (.int r)) (rH dA h S' hp0) sz) args s 0 0 (fun q => b0 ≤ q)) (F0 m 54 ls []) := by
  obtain ⟨hx, hb, -⟩ := B.1
  unfold m_stepTable_54F at hm
  refine lv_iload_n (pc := 54) (i := 3) hx hb d_stepTable_54 rfl (lx_get hl rfl) ?_
  refine lv_sipush (pc := 55) (v := 260) hx hb d_stepTable_55 (by decide) ?_
  refine lv_aload_n (pc := 58) (i := 0) hx hb d_stepTable_58 rfl (lx_get hl rfl) ?_
  refine r_get (pc := 59) (k := 19) (index := 93) B I (by decide) mF_93 rfl rfl d_stepTable_59 ?_
  refine lv_imul (pc := 62) hx hb d_stepTable_62 ?_
  refine lv_aload_n (pc := 63) (i := 0) hx hb d_stepTable_63 rfl (lx_get hl rfl) ?_
  refine r_get (pc := 64) (k := 6) (index := 13) B I (by decide) mF_13 rfl rfl d_stepTable_64 ?_
  refine lv_aload_n (pc := 67) (i := 0) hx hb d_stepTable_67 rfl (lx_get hl rfl) ?_
  refine r_get (pc := 68) (k := 19) (index := 93) B I (by decide) mF_93 rfl rfl d_stepTable_68 ?_
  refine ob1 hm (fun x1 e2 hm => ?_)
  refine r_ald (pc := 71) (j := 2) B I (by decide) (by decide) e2 d_stepTable_71 ?_
  refine lv_iadd (pc := 72) hx hb d_stepTable_72 ?_
  refine lv_icmp_ge (pc := 73) (tgt := 110) hx hb d_stepTable_73 (by decide) (fun hc => ?_) (fun hc => ?_)
  · have hm := ift hc hm
    refine lv_iconst (pc := 110) (v := 1) hx hb d_stepTable_110 (by decide) ?_
    cases hm
    exact q_zret (pc := 111) B I rfl (by decide) d_stepTable_111
  · have hm := iff' hc hm
    refine lv_aload_n (pc := 76) (i := 0) hx hb d_stepTable_76 rfl (lx_get hl rfl) ?_
    refine r_get (pc := 77) (k := 7) (index := 16) B I (by decide) mF_16 rfl rfl d_stepTable_77 ?_
    refine lv_iload_n (pc := 80) (i := 3) hx hb d_stepTable_80 rfl (lx_get hl rfl) ?_
    refine lv_aload_n (pc := 81) (i := 0) hx hb d_stepTable_81 rfl (lx_get hl rfl) ?_
    refine r_get (pc := 82) (k := 7) (index := 16) B I (by decide) mF_16 rfl rfl d_stepTable_82 ?_
    refine lv_iload_n (pc := 85) (i := 3) hx hb d_stepTable_85 rfl (lx_get hl rfl) ?_
    refine ob1 hm (fun x3 e4 hm => ?_)
    refine r_ald (pc := 86) (j := 3) B I (by decide) (by decide) e4 d_stepTable_86 ?_
    refine lv_bipush (pc := 87) (v := 9) hx hb d_stepTable_87 (by decide) ?_
    refine lv_icmp_ne (pc := 89) (tgt := 97) hx hb d_stepTable_89 (by decide) (fun hc => ?_) (fun hc => ?_)
    · have hm := iff' hc hm
      refine lv_aload_n (pc := 97) (i := 0) hx hb d_stepTable_97 rfl (lx_get hl rfl) ?_
      refine r_get (pc := 98) (k := 7) (index := 16) B I (by decide) mF_16 rfl rfl d_stepTable_98 ?_
      refine lv_iload_n (pc := 101) (i := 3) hx hb d_stepTable_101 rfl (lx_get hl rfl) ?_
      refine ob1 hm (fun x5 e6 hm => ?_)
      refine r_ald (pc := 102) (j := 3) B I (by decide) (by decide) e6 d_stepTable_102 ?_
      exact w_stepTable_103 hK54 B hR hl I hm
    · have hm := ift hc hm
      refine lv_bipush (pc := 92) (v := 10) hx hb d_stepTable_92 (by decide) ?_
      refine lv_goto (pc := 94) (tgt := 103) hx hb d_stepTable_94 (by decide) ?_
      exact w_stepTable_103 hK54 B hR hl I hm
set_option maxRecDepth 100000 in
set_option maxHeartbeats 4000000 in
theorem w_stepTable_54i (B : BX p m c cb_stepTable 4 s args (.code y_stepTable cb_stepTable 4 (some .boolean) :: wsA) RREF meth (some .boolean) D vwCl (tyL dA) b0 Z) (hR : RR b0 h Z) (k : Nat) (y3 : Int32) (S : rS) (ls : Array Slot) (H : Heap) (locs : List Loc) (hl : lx ls [some (.ref h), none, none, some (.int y3)]) (I : AI D vwCl b0 (rH dA h S hp0) sz s.heap H locs)  (hm : m_stepTable_54 N  k y3 S = some (r, S')) : W p l e { frames := 6, cells := 0, slots := 0, locals := 144 } s m args below meth c H locs 0 0 (MQ below (CQ D vwCl b0 (some (.int r)) (rH dA h S' hp0) sz) args s 0 0 (fun q => b0 ≤ q)) (F0 m 54 ls []) := by
  induction k generalizing y3 S ls H locs with
  | zero => cases hm
  | succ k ih => exact w_stepTable_54F  (fun y3 S ls H locs hl I hm => ih y3 S ls H locs hl I hm) B hR hl I hm
theorem w_stepTable_54 {y3 : Int32} {S : rS} (B : BX p m c cb_stepTable 4 s args (.code y_stepTable cb_stepTable 4 (some .boolean) :: wsA) RREF meth (some .boolean) D vwCl (tyL dA) b0 Z) (hR : RR b0 h Z) (hl : lx ls [some (.ref h), none, none, some (.int y3)]) (I : AI D vwCl b0 (rH dA h S hp0) sz s.heap H locs)  {k : Nat} (hm : m_stepTable_54 N  k y3 S = some (r, S')) : W p l e { frames := 6, cells := 0, slots := 0, locals := 144 } s m args below meth c H locs 0 0 (MQ below (CQ D vwCl b0 (some (.int r)) (rH dA h S' hp0) sz) args s 0 0 (fun q => b0 ≤ q)) (F0 m 54 ls []) := w_stepTable_54i  B hR k _ S ls H locs hl I hm
def m_stepTable_112 (N : Nat) (y1 : Int32) (y2 : Int32) (S : rS) : Option (Int32 × rS) :=
  b1 (rL S 18 y1) (fun x1 => if x1 = 1 then (b1 (m_here N S) (fun x9 => if x9 = 44 then (b1 (rP S 3 ((S.1 3) + 1)) (fun S10 => b1 (rT S10 18 y1 2) (fun S12 => some (1, S12)))) else (b2 (m_fail N (S.1 3) S) (fun x15 S16 => if x15 = 0 ∨ x15 = 1 then (some (x15, S16)) else none)))) else (b1 (rT S 18 y1 1) (fun S3 => b2 (m_entry N y2 S3) (fun x6 S7 => if x6 = 0 ∨ x6 = 1 then (some (x6, S7)) else none))))
set_option maxRecDepth 100000 in
set_option maxHeartbeats 4000000 in
theorem w_stepTable_112 {y1 : Int32} {y2 : Int32} {S : rS} (B : BX p m c cb_stepTable 4 s args (.code y_stepTable cb_stepTable 4 (some .boolean) :: wsA) RREF meth (some .boolean) D vwCl (tyL dA) b0 Z) (hR : RR b0 h Z) (hl : lx ls [some (.ref h), some (.int y1), some (.int y2), none]) (I : AI D vwCl b0 (rH dA h S hp0) sz s.heap H locs)  (hm : m_stepTable_112 N  y1 y2 S = some (r, S')) : W p l e { frames := 6, cells := 0, slots := 0, locals := 144 } s m args below meth c H locs 0 0 (MQ below (CQ D vwCl b0 (some (.int r)) (rH dA h S' hp0) sz) args s 0 0 (fun q => b0 ≤ q)) (F0 m 112 ls []) := by
  obtain ⟨hx, hb, -⟩ := B.1
  unfold m_stepTable_112 at hm
  refine lv_aload_n (pc := 112) (i := 0) hx hb d_stepTable_112 rfl (lx_get hl rfl) ?_
  refine r_get (pc := 113) (k := 28) (index := 61) B I (by decide) mF_61 rfl rfl d_stepTable_113 ?_
  refine lv_iload_n (pc := 116) (i := 1) hx hb d_stepTable_116 rfl (lx_get hl rfl) ?_
  refine ob1 hm (fun x1 e2 hm => ?_)
  refine r_ald (pc := 117) (j := 18) B I (by decide) (by decide) e2 d_stepTable_117 ?_
  refine lv_iconst (pc := 118) (v := 1) hx hb d_stepTable_118 (by decide) ?_
  refine lv_icmp_ne (pc := 119) (tgt := 159) hx hb d_stepTable_119 (by decide) (fun hc => ?_) (fun hc => ?_)
  · have hm := iff' hc hm
    refine lv_aload_n (pc := 159) (i := 0) hx hb d_stepTable_159 rfl (lx_get hl rfl) ?_
    refine r_get (pc := 160) (k := 28) (index := 61) B I (by decide) mF_61 rfl rfl d_stepTable_160 ?_
    refine lv_iload_n (pc := 163) (i := 1) hx hb d_stepTable_163 rfl (lx_get hl rfl) ?_
    refine lv_iconst (pc := 164) (v := 1) hx hb d_stepTable_164 (by decide) ?_
    refine ob1 hm (fun S3 e4 hm => ?_)
    refine r_ast (pc := 165) (j := 18) B hR I (by decide) (by decide) e4 d_stepTable_165 (fun H locs I => ?_)
    refine lv_aload_n (pc := 166) (i := 0) hx hb d_stepTable_166 rfl (lx_get hl rfl) ?_
    refine lv_iload_n (pc := 167) (i := 2) hx hb d_stepTable_167 rfl (lx_get hl rfl) ?_
    refine ob2 hm (fun x6 S7 e5 hm => ?_)
    refine r_call (pc := 168) (As := [.int y2]) (rest := []) B hl rfl I (c_entry hR e5) kw_entry rfl (by decide) (by decide) rfl (by simp [Value.category]) d_stepTable_168 (fun H locs I => ?_)
    by_cases hq : x6 = 0 ∨ x6 = 1
    · have hm := ift hq hm
      cases hm
      exact q_zret (pc := 171) B I rfl (zn hq) d_stepTable_171
    · have hm := iff' hq hm
      cases hm
  · have hm := ift hc hm
    refine lv_aload_n (pc := 122) (i := 0) hx hb d_stepTable_122 rfl (lx_get hl rfl) ?_
    refine ob1 hm (fun x9 e8 hm => ?_)
    refine r_call (pc := 123) (As := []) (rest := []) B hl rfl I (c_here hR e8) kw_here rfl (by decide) (by decide) rfl (by simp [Value.category]) d_stepTable_123 (fun H locs I => ?_)
    refine lv_bipush (pc := 126) (v := 44) hx hb d_stepTable_126 (by decide) ?_
    refine lv_icmp_eq (pc := 128) (tgt := 140) hx hb d_stepTable_128 (by decide) (fun hc => ?_) (fun hc => ?_)
    · have hm := ift hc hm
      refine lv_aload_n (pc := 140) (i := 0) hx hb d_stepTable_140 rfl (lx_get hl rfl) ?_
      refine lv_dup (pc := 141) hx hb d_stepTable_141 rfl ?_
      refine r_get (pc := 142) (k := 3) (index := 76) B I (by decide) mF_76 rfl rfl d_stepTable_142 ?_
      refine lv_iconst (pc := 145) (v := 1) hx hb d_stepTable_145 (by decide) ?_
      refine lv_iadd (pc := 146) hx hb d_stepTable_146 ?_
      refine ob1 hm (fun S10 e11 hm => ?_)
      refine r_put (pc := 147) (k := 3) (index := 76) B hR I (by decide) mF_76 rfl rfl rfl (fun _ _ => rfl) e11 d_stepTable_147 (fun H locs I => ?_)
      refine lv_aload_n (pc := 150) (i := 0) hx hb d_stepTable_150 rfl (lx_get hl rfl) ?_
      refine r_get (pc := 151) (k := 28) (index := 61) B I (by decide) mF_61 rfl rfl d_stepTable_151 ?_
      refine lv_iload_n (pc := 154) (i := 1) hx hb d_stepTable_154 rfl (lx_get hl rfl) ?_
      refine lv_iconst (pc := 155) (v := 2) hx hb d_stepTable_155 (by decide) ?_
      refine ob1 hm (fun S12 e13 hm => ?_)
      refine r_ast (pc := 156) (j := 18) B hR I (by decide) (by decide) e13 d_stepTable_156 (fun H locs I => ?_)
      refine lv_iconst (pc := 157) (v := 1) hx hb d_stepTable_157 (by decide) ?_
      cases hm
      exact q_zret (pc := 158) B I rfl (by decide) d_stepTable_158
    · have hm := iff' hc hm
      refine lv_aload_n (pc := 131) (i := 0) hx hb d_stepTable_131 rfl (lx_get hl rfl) ?_
      refine lv_aload_n (pc := 132) (i := 0) hx hb d_stepTable_132 rfl (lx_get hl rfl) ?_
      refine r_get (pc := 133) (k := 3) (index := 76) B I (by decide) mF_76 rfl rfl d_stepTable_133 ?_
      refine ob2 hm (fun x15 S16 e14 hm => ?_)
      refine r_call (pc := 136) (As := [.int (S.1 3)]) (rest := []) B hl rfl I (c_fail hR e14) kw_fail rfl (by decide) (by decide) rfl (by simp [Value.category]) d_stepTable_136 (fun H locs I => ?_)
      by_cases hq : x15 = 0 ∨ x15 = 1
      · have hm := ift hq hm
        cases hm
        exact q_zret (pc := 139) B I rfl (zn hq) d_stepTable_139
      · have hm := iff' hq hm
        cases hm
def m_stepTable (N : Nat) (p1 : Int32) (S : rS) : Option (Int32 × rS) :=
  b1 (rL S 17 p1) (fun x1 => b1 (m_blanks N S) (fun S4 => b1 (m_here N S4) (fun x6 => if x6 = 125 then (b1 (rL S4 18 p1) (fun x7 => if 2 ≤ x7 then (m_stepTable_112 N  p1 x1 S4) else (b1 (rP S4 3 ((S4.1 3) + 1)) (fun S9 => b1 (rP S9 26 ((S9.1 26) - 1)) (fun S11 => m_stepTable_54 N  N (x1 + 1) S11))))) else (m_stepTable_112 N  p1 x1 S4))))
set_option maxRecDepth 100000 in
set_option maxHeartbeats 4000000 in
theorem c_stepTable {p1 : Int32} {S S' : rS} {r : Int32} (hR : RR b0 h Z) (hm : m_stepTable N p1 S = some (r, S')) : Ct l D vwCl (tyL dA) b0 Z y_stepTable (.code y_stepTable cb_stepTable 4 (some .boolean) :: wsA) 6 144 [.ref h, .int p1] (rH dA h S hp0) sz (some (.int r)) (rH dA h S' hp0) 0 0 := by
  refine ct_of (cc := cb_stepTable) (maxL := 4) (ret := (some .boolean)) (lo0 := [some (.ref h), some (.int p1), none, none]) hR.2 (by decide) rfl (by simp [lg_sl, Value.category]) rfl (by simp [lx_all, lv_args, Value.category]) ?_
  intro p e s m args below meth c ls B hnm hl I
  obtain ⟨hx, hb, -⟩ := B.1
  unfold m_stepTable at hm
  refine lv_aload_n (pc := 0) (i := 0) hx hb d_stepTable_0 rfl (lx_get hl rfl) ?_
  refine r_get (pc := 1) (k := 27) (index := 58) B I (by decide) mF_58 rfl rfl d_stepTable_1 ?_
  refine lv_iload_n (pc := 4) (i := 1) hx hb d_stepTable_4 rfl (lx_get hl rfl) ?_
  refine ob1 hm (fun x1 e2 hm => ?_)
  refine r_ald (pc := 5) (j := 17) B I (by decide) (by decide) e2 d_stepTable_5 ?_
  refine q_istore_n (pc := 6) (i := 2) (lo' := [some (.ref h), some (.int p1), some (.int x1), none]) hx hb d_stepTable_6 rfl hl (Nat.le_of_ble_eq_true rfl) (lx_ci rfl) rfl (fun ls hl => ?_)
  refine lv_aload_n (pc := 7) (i := 0) hx hb d_stepTable_7 rfl (lx_get hl rfl) ?_
  refine ob1 hm (fun S4 e3 hm => ?_)
  refine r_call (pc := 8) (As := []) (rest := []) B hl rfl I (c_blanks hR e3) kw_blanks rfl (by decide) (by decide) rfl (by simp [Value.category]) d_stepTable_8 (fun H locs I => ?_)
  refine lv_aload_n (pc := 11) (i := 0) hx hb d_stepTable_11 rfl (lx_get hl rfl) ?_
  refine ob1 hm (fun x6 e5 hm => ?_)
  refine r_call (pc := 12) (As := []) (rest := []) B hl rfl I (c_here hR e5) kw_here rfl (by decide) (by decide) rfl (by simp [Value.category]) d_stepTable_12 (fun H locs I => ?_)
  refine lv_bipush (pc := 15) (v := 125) hx hb d_stepTable_15 (by decide) ?_
  refine lv_icmp_ne (pc := 17) (tgt := 112) hx hb d_stepTable_17 (by decide) (fun hc => ?_) (fun hc => ?_)
  · have hm := iff' hc hm
    exact w_stepTable_112  B hR hl I hm
  · have hm := ift hc hm
    refine lv_aload_n (pc := 20) (i := 0) hx hb d_stepTable_20 rfl (lx_get hl rfl) ?_
    refine r_get (pc := 21) (k := 28) (index := 61) B I (by decide) mF_61 rfl rfl d_stepTable_21 ?_
    refine lv_iload_n (pc := 24) (i := 1) hx hb d_stepTable_24 rfl (lx_get hl rfl) ?_
    refine ob1 hm (fun x7 e8 hm => ?_)
    refine r_ald (pc := 25) (j := 18) B I (by decide) (by decide) e8 d_stepTable_25 ?_
    refine lv_iconst (pc := 26) (v := 2) hx hb d_stepTable_26 (by decide) ?_
    refine lv_icmp_ge (pc := 27) (tgt := 112) hx hb d_stepTable_27 (by decide) (fun hc => ?_) (fun hc => ?_)
    · have hm := ift hc hm
      exact w_stepTable_112  B hR hl I hm
    · have hm := iff' hc hm
      refine lv_aload_n (pc := 30) (i := 0) hx hb d_stepTable_30 rfl (lx_get hl rfl) ?_
      refine lv_dup (pc := 31) hx hb d_stepTable_31 rfl ?_
      refine r_get (pc := 32) (k := 3) (index := 76) B I (by decide) mF_76 rfl rfl d_stepTable_32 ?_
      refine lv_iconst (pc := 35) (v := 1) hx hb d_stepTable_35 (by decide) ?_
      refine lv_iadd (pc := 36) hx hb d_stepTable_36 ?_
      refine ob1 hm (fun S9 e10 hm => ?_)
      refine r_put (pc := 37) (k := 3) (index := 76) B hR I (by decide) mF_76 rfl rfl rfl (fun _ _ => rfl) e10 d_stepTable_37 (fun H locs I => ?_)
      refine lv_aload_n (pc := 40) (i := 0) hx hb d_stepTable_40 rfl (lx_get hl rfl) ?_
      refine lv_dup (pc := 41) hx hb d_stepTable_41 rfl ?_
      refine r_get (pc := 42) (k := 26) (index := 164) B I (by decide) mF_164 rfl rfl d_stepTable_42 ?_
      refine lv_iconst (pc := 45) (v := 1) hx hb d_stepTable_45 (by decide) ?_
      refine lv_isub (pc := 46) hx hb d_stepTable_46 ?_
      refine ob1 hm (fun S11 e12 hm => ?_)
      refine r_put (pc := 47) (k := 26) (index := 164) B hR I (by decide) mF_164 rfl rfl rfl (fun _ _ => rfl) e12 d_stepTable_47 (fun H locs I => ?_)
      refine lv_iload_n (pc := 50) (i := 2) hx hb d_stepTable_50 rfl (lx_get hl rfl) ?_
      refine lv_iconst (pc := 51) (v := 1) hx hb d_stepTable_51 (by decide) ?_
      refine lv_iadd (pc := 52) hx hb d_stepTable_52 ?_
      refine q_istore_n (pc := 53) (i := 3) (lo' := [some (.ref h), some (.int p1), some (.int x1), some (.int (x1 + 1))]) hx hb d_stepTable_53 rfl hl (Nat.le_of_ble_eq_true rfl) (lx_ci rfl) rfl (fun ls hl => ?_)
      exact w_stepTable_54  B hR (lx_sub (lo' := [some (.ref h), none, none, some (.int (x1 + 1))]) hl (by simp [lx_le])) I hm
def m_finishValue_56 (N : Nat) (K2 : Int32 → rS → Option (Int32 × rS)) (z0 : Int32) (S : rS) : Option (Int32 × rS) :=
  K2 z0 S
set_option maxRecDepth 100000 in
set_option maxHeartbeats 4000000 in
theorem w_finishValue_56 {K2 : Int32 → rS → Option (Int32 × rS)} {z0 : Int32} {S : rS} (hK2 : ∀ (y1 : Int32) (S : rS) (ls : Array Slot) (H : Heap) (locs : List Loc), lx ls [some (.ref h), some (.int y1)] → AI D vwCl b0 (rH dA h S hp0) sz s.heap H locs → K2 y1 S = some (r, S') → W p l e { frames := 7, cells := 0, slots := 0, locals := 167 } s m args below meth c H locs 0 0 (MQ below (CQ D vwCl b0 (some (.int r)) (rH dA h S' hp0) sz) args s 0 0 (fun q => b0 ≤ q)) (F0 m 2 ls [])) (B : BX p m c cb_finishValue 2 s args (.code y_finishValue cb_finishValue 2 (some .boolean) :: wsA) RREF meth (some .boolean) D vwCl (tyL dA) b0 Z) (hR : RR b0 h Z) (hl : lx ls [some (.ref h), none]) (I : AI D vwCl b0 (rH dA h S hp0) sz s.heap H locs)  (hm : m_finishValue_56 N K2 z0 S = some (r, S')) : W p l e { frames := 7, cells := 0, slots := 0, locals := 167 } s m args below meth c H locs 0 0 (MQ below (CQ D vwCl b0 (some (.int r)) (rH dA h S' hp0) sz) args s 0 0 (fun q => b0 ≤ q)) (F0 m 56 ls [.int z0]) := by
  obtain ⟨hx, hb, -⟩ := B.1
  unfold m_finishValue_56 at hm
  refine q_istore_n (pc := 56) (i := 1) (lo' := [some (.ref h), some (.int z0)]) hx hb d_finishValue_56 rfl hl (Nat.le_of_ble_eq_true rfl) (lx_cr rfl) rfl (fun ls hl => ?_)
  refine lv_goto (pc := 57) (tgt := 2) hx hb d_finishValue_57 (by decide) ?_
  exact hK2 _ _ _ _ _ hl I hm
def m_finishValue_2F (N : Nat) (K2 : Int32 → rS → Option (Int32 × rS)) (y1 : Int32) (S : rS) : Option (Int32 × rS) :=
  if S.1 26 ≤ 0 then (if y1 = 0 ∨ y1 = 1 then (some (y1, S)) else none) else (if y1 = 0 then (if y1 = 0 ∨ y1 = 1 then (some (y1, S)) else none) else (b1 (rL S 17 ((S.1 26) - 1)) (fun x1 => b1 (rL S 3 x1) (fun x3 => if x3 = 5 then (b2 (m_stepList N ((S.1 26) - 1) S) (fun x9 S10 => m_finishValue_56 N K2 x9 S10)) else (b2 (m_stepTable N ((S.1 26) - 1) S) (fun x6 S7 => m_finishValue_56 N K2 x6 S7))))))
def m_finishValue_2 (N : Nat) : Nat → Int32 → rS → Option (Int32 × rS)
  | 0, _, _ => none
  | k + 1, y1, S => m_finishValue_2F N  (m_finishValue_2 N  k) y1 S
set_option maxRecDepth 100000 in
set_option maxHeartbeats 4000000 in
theorem w_finishValue_2F {K2 : Int32 → rS → Option (Int32 × rS)} {y1 : Int32} {S : rS} (hK2 : ∀ (y1 : Int32) (S : rS) (ls : Array Slot) (H : Heap) (locs : List Loc), lx ls [some (.ref h), some (.int y1)] → AI D vwCl b0 (rH dA h S hp0) sz s.heap H locs → K2 y1 S = some (r, S') → W p l e { frames := 7, cells := 0, slots := 0, locals := 167 } s m args below meth c H locs 0 0 (MQ below (CQ D vwCl b0 (some (.int r)) (rH dA h S' hp0) sz) args s 0 0 (fun q => b0 ≤ q)) (F0 m 2 ls [])) (B : BX p m c cb_finishValue 2 s args (.code y_finishValue cb_finishValue 2 (some .boolean) :: wsA) RREF meth (some .boolean) D vwCl (tyL dA) b0 Z) (hR : RR b0 h Z) (hl : lx ls [some (.ref h), some (.int y1)]) (I : AI D vwCl b0 (rH dA h S hp0) sz s.heap H locs)  (hm : m_finishValue_2F N  K2 y1 S = some (r, S')) : W p l e { frames := 7, cells := 0, slots := 0, locals := 167 } s m args below meth c H locs 0 0 (MQ below (CQ D vwCl b0 (some (.int r)) (rH dA h S' hp0) sz) args s 0 0 (fun q => b0 ≤ q)) (F0 m 2 ls []) := by
  obtain ⟨hx, hb, -⟩ := B.1
  unfold m_finishValue_2F at hm
  refine lv_aload_n (pc := 2) (i := 0) hx hb d_finishValue_2 rfl (lx_get hl rfl) ?_
  refine r_get (pc := 3) (k := 26) (index := 164) B I (by decide) mF_164 rfl rfl d_finishValue_3 ?_
  refine lv_if_le (pc := 6) (tgt := 60) hx hb d_finishValue_6 (by decide) (fun hc => ?_) (fun hc => ?_)
  · have hm := ift hc hm
    refine lv_iload_n (pc := 60) (i := 1) hx hb d_finishValue_60 rfl (lx_get hl rfl) ?_
    by_cases hq : y1 = 0 ∨ y1 = 1
    · have hm := ift hq hm
      cases hm
      exact q_zret (pc := 61) B I rfl (zn hq) d_finishValue_61
    · have hm := iff' hq hm
      cases hm
  · have hm := iff' hc hm
    refine lv_iload_n (pc := 9) (i := 1) hx hb d_finishValue_9 rfl (lx_get hl rfl) ?_
    refine lv_if_eq (pc := 10) (tgt := 60) hx hb d_finishValue_10 (by decide) (fun hc => ?_) (fun hc => ?_)
    · have hm := ift hc hm
      refine lv_iload_n (pc := 60) (i := 1) hx hb d_finishValue_60 rfl (lx_get hl rfl) ?_
      by_cases hq : y1 = 0 ∨ y1 = 1
      · have hm := ift hq hm
        cases hm
        exact q_zret (pc := 61) B I rfl (zn hq) d_finishValue_61
      · have hm := iff' hq hm
        cases hm
    · have hm := iff' hc hm
      refine lv_aload_n (pc := 13) (i := 0) hx hb d_finishValue_13 rfl (lx_get hl rfl) ?_
      refine r_get (pc := 14) (k := 7) (index := 16) B I (by decide) mF_16 rfl rfl d_finishValue_14 ?_
      refine lv_aload_n (pc := 17) (i := 0) hx hb d_finishValue_17 rfl (lx_get hl rfl) ?_
      refine r_get (pc := 18) (k := 27) (index := 58) B I (by decide) mF_58 rfl rfl d_finishValue_18 ?_
      refine lv_aload_n (pc := 21) (i := 0) hx hb d_finishValue_21 rfl (lx_get hl rfl) ?_
      refine r_get (pc := 22) (k := 26) (index := 164) B I (by decide) mF_164 rfl rfl d_finishValue_22 ?_
      refine lv_iconst (pc := 25) (v := 1) hx hb d_finishValue_25 (by decide) ?_
      refine lv_isub (pc := 26) hx hb d_finishValue_26 ?_
      refine ob1 hm (fun x1 e2 hm => ?_)
      refine r_ald (pc := 27) (j := 17) B I (by decide) (by decide) e2 d_finishValue_27 ?_
      refine ob1 hm (fun x3 e4 hm => ?_)
      refine r_ald (pc := 28) (j := 3) B I (by decide) (by decide) e4 d_finishValue_28 ?_
      refine lv_iconst (pc := 29) (v := 5) hx hb d_finishValue_29 (by decide) ?_
      refine lv_icmp_ne (pc := 30) (tgt := 46) hx hb d_finishValue_30 (by decide) (fun hc => ?_) (fun hc => ?_)
      · have hm := iff' hc hm
        refine lv_aload_n (pc := 46) (i := 0) hx hb d_finishValue_46 rfl (lx_get hl rfl) ?_
        refine lv_aload_n (pc := 47) (i := 0) hx hb d_finishValue_47 rfl (lx_get hl rfl) ?_
        refine r_get (pc := 48) (k := 26) (index := 164) B I (by decide) mF_164 rfl rfl d_finishValue_48 ?_
        refine lv_iconst (pc := 51) (v := 1) hx hb d_finishValue_51 (by decide) ?_
        refine lv_isub (pc := 52) hx hb d_finishValue_52 ?_
        refine ob2 hm (fun x6 S7 e5 hm => ?_)
        refine r_call (pc := 53) (As := [.int ((S.1 26) - 1)]) (rest := []) B hl rfl I (c_stepTable hR e5) kw_stepTable rfl (by decide) (by decide) rfl (by simp [Value.category]) d_finishValue_53 (fun H locs I => ?_)
        exact w_finishValue_56 hK2 B hR (lx_sub (lo' := [some (.ref h), none]) hl (by simp [lx_le])) I hm
      · have hm := ift hc hm
        refine lv_aload_n (pc := 33) (i := 0) hx hb d_finishValue_33 rfl (lx_get hl rfl) ?_
        refine lv_aload_n (pc := 34) (i := 0) hx hb d_finishValue_34 rfl (lx_get hl rfl) ?_
        refine r_get (pc := 35) (k := 26) (index := 164) B I (by decide) mF_164 rfl rfl d_finishValue_35 ?_
        refine lv_iconst (pc := 38) (v := 1) hx hb d_finishValue_38 (by decide) ?_
        refine lv_isub (pc := 39) hx hb d_finishValue_39 ?_
        refine ob2 hm (fun x9 S10 e8 hm => ?_)
        refine r_call (pc := 40) (As := [.int ((S.1 26) - 1)]) (rest := []) B hl rfl I (c_stepList hR e8) kw_stepList rfl (by decide) (by decide) rfl (by simp [Value.category]) d_finishValue_40 (fun H locs I => ?_)
        refine lv_goto (pc := 43) (tgt := 56) hx hb d_finishValue_43 (by decide) ?_
        exact w_finishValue_56 hK2 B hR (lx_sub (lo' := [some (.ref h), none]) hl (by simp [lx_le])) I hm
set_option maxRecDepth 100000 in
set_option maxHeartbeats 4000000 in
theorem w_finishValue_2i (B : BX p m c cb_finishValue 2 s args (.code y_finishValue cb_finishValue 2 (some .boolean) :: wsA) RREF meth (some .boolean) D vwCl (tyL dA) b0 Z) (hR : RR b0 h Z) (k : Nat) (y1 : Int32) (S : rS) (ls : Array Slot) (H : Heap) (locs : List Loc) (hl : lx ls [some (.ref h), some (.int y1)]) (I : AI D vwCl b0 (rH dA h S hp0) sz s.heap H locs)  (hm : m_finishValue_2 N  k y1 S = some (r, S')) : W p l e { frames := 7, cells := 0, slots := 0, locals := 167 } s m args below meth c H locs 0 0 (MQ below (CQ D vwCl b0 (some (.int r)) (rH dA h S' hp0) sz) args s 0 0 (fun q => b0 ≤ q)) (F0 m 2 ls []) := by
  induction k generalizing y1 S ls H locs with
  | zero => cases hm
  | succ k ih => exact w_finishValue_2F  (fun y1 S ls H locs hl I hm => ih y1 S ls H locs hl I hm) B hR hl I hm
theorem w_finishValue_2 {y1 : Int32} {S : rS} (B : BX p m c cb_finishValue 2 s args (.code y_finishValue cb_finishValue 2 (some .boolean) :: wsA) RREF meth (some .boolean) D vwCl (tyL dA) b0 Z) (hR : RR b0 h Z) (hl : lx ls [some (.ref h), some (.int y1)]) (I : AI D vwCl b0 (rH dA h S hp0) sz s.heap H locs)  {k : Nat} (hm : m_finishValue_2 N  k y1 S = some (r, S')) : W p l e { frames := 7, cells := 0, slots := 0, locals := 167 } s m args below meth c H locs 0 0 (MQ below (CQ D vwCl b0 (some (.int r)) (rH dA h S' hp0) sz) args s 0 0 (fun q => b0 ≤ q)) (F0 m 2 ls []) := w_finishValue_2i  B hR k _ S ls H locs hl I hm
def m_finishValue (N : Nat) (S : rS) : Option (Int32 × rS) :=
  m_finishValue_2 N  N 1 S
set_option maxRecDepth 100000 in
set_option maxHeartbeats 4000000 in
theorem c_finishValue {S S' : rS} {r : Int32} (hR : RR b0 h Z) (hm : m_finishValue N  S = some (r, S')) : Ct l D vwCl (tyL dA) b0 Z y_finishValue (.code y_finishValue cb_finishValue 2 (some .boolean) :: wsA) 7 167 [.ref h] (rH dA h S hp0) sz (some (.int r)) (rH dA h S' hp0) 0 0 := by
  refine ct_of (cc := cb_finishValue) (maxL := 2) (ret := (some .boolean)) (lo0 := [some (.ref h), none]) hR.2 (by decide) rfl (by simp [lg_sl, Value.category]) rfl (by simp [lx_all, lv_args, Value.category]) ?_
  intro p e s m args below meth c ls B hnm hl I
  obtain ⟨hx, hb, -⟩ := B.1
  unfold m_finishValue at hm
  refine lv_iconst (pc := 0) (v := 1) hx hb d_finishValue_0 (by decide) ?_
  refine q_istore_n (pc := 1) (i := 1) (lo' := [some (.ref h), some (.int 1)]) hx hb d_finishValue_1 rfl hl (Nat.le_of_ble_eq_true rfl) (lx_cr rfl) rfl (fun ls hl => ?_)
  exact w_finishValue_2  B hR hl I hm
def m_header_74 (N : Nat) (K64 : Int32 → Int32 → Int32 → rS → Option (Int32 × rS)) (y1 : Int32) (y2 : Int32) (y3 : Int32) (z0 : Int32) (z1 : Int32) (S : rS) : Option (Int32 × rS) :=
  if z1 ≤ z0 then (some (y2, S)) else (if y2 = (-1) then (some (y2, S)) else (b1 (m_here N S) (fun x2 => if x2 = 93 then (b1 (rP S 3 ((S.1 3) + 1)) (fun S3 => K64 y1 y2 (y3 + 1) S3)) else (b1 (rP S 4 (S.1 3)) (fun S5 => some ((-1), S5))))))
set_option maxRecDepth 100000 in
set_option maxHeartbeats 4000000 in
theorem w_header_74 {K64 : Int32 → Int32 → Int32 → rS → Option (Int32 × rS)} {y1 : Int32} {y2 : Int32} {y3 : Int32} {z0 : Int32} {z1 : Int32} {S : rS} (hK64 : ∀ (y1 : Int32) (y2 : Int32) (y3 : Int32) (S : rS) (ls : Array Slot) (H : Heap) (locs : List Loc), lx ls [some (.ref h), some (.int y1), some (.int y2), some (.int y3)] → AI D vwCl b0 (rH dA h S hp0) sz s.heap H locs → K64 y1 y2 y3 S = some (r, S') → W p l e { frames := 4, cells := 0, slots := 0, locals := 87 } s m args below meth c H locs 0 0 (MQ below (CQ D vwCl b0 (some (.int r)) (rH dA h S' hp0) sz) args s 0 0 (fun q => b0 ≤ q)) (F0 m 64 ls [])) (B : BX p m c cb_header 4 s args (.code y_header cb_header 4 (some .int) :: wsA) RREF meth (some .int) D vwCl (tyL dA) b0 Z) (hR : RR b0 h Z) (hl : lx ls [some (.ref h), some (.int y1), some (.int y2), some (.int y3)]) (I : AI D vwCl b0 (rH dA h S hp0) sz s.heap H locs)  (hm : m_header_74 N K64 y1 y2 y3 z0 z1 S = some (r, S')) : W p l e { frames := 4, cells := 0, slots := 0, locals := 87 } s m args below meth c H locs 0 0 (MQ below (CQ D vwCl b0 (some (.int r)) (rH dA h S' hp0) sz) args s 0 0 (fun q => b0 ≤ q)) (F0 m 74 ls [.int z1, .int z0]) := by
  obtain ⟨hx, hb, -⟩ := B.1
  unfold m_header_74 at hm
  refine lv_icmp_ge (pc := 74) (tgt := 117) hx hb d_header_74 (by decide) (fun hc => ?_) (fun hc => ?_)
  · have hm := ift hc hm
    refine lv_iload_n (pc := 117) (i := 2) hx hb d_header_117 rfl (lx_get hl rfl) ?_
    cases hm
    exact q_iret (pc := 118) B I rfl d_header_118
  · have hm := iff' hc hm
    refine lv_iload_n (pc := 77) (i := 2) hx hb d_header_77 rfl (lx_get hl rfl) ?_
    refine lv_iconst (pc := 78) (v := (-1)) hx hb d_header_78 (by decide) ?_
    refine lv_icmp_eq (pc := 79) (tgt := 117) hx hb d_header_79 (by decide) (fun hc => ?_) (fun hc => ?_)
    · have hm := ift hc hm
      refine lv_iload_n (pc := 117) (i := 2) hx hb d_header_117 rfl (lx_get hl rfl) ?_
      cases hm
      exact q_iret (pc := 118) B I rfl d_header_118
    · have hm := iff' hc hm
      refine lv_aload_n (pc := 82) (i := 0) hx hb d_header_82 rfl (lx_get hl rfl) ?_
      refine ob1 hm (fun x2 e1 hm => ?_)
      refine r_call (pc := 83) (As := []) (rest := []) B hl rfl I (c_here hR e1) kw_here rfl (by decide) (by decide) rfl (by simp [Value.category]) d_header_83 (fun H locs I => ?_)
      refine lv_bipush (pc := 86) (v := 93) hx hb d_header_86 (by decide) ?_
      refine lv_icmp_eq (pc := 88) (tgt := 101) hx hb d_header_88 (by decide) (fun hc => ?_) (fun hc => ?_)
      · have hm := ift hc hm
        refine lv_aload_n (pc := 101) (i := 0) hx hb d_header_101 rfl (lx_get hl rfl) ?_
        refine lv_dup (pc := 102) hx hb d_header_102 rfl ?_
        refine r_get (pc := 103) (k := 3) (index := 76) B I (by decide) mF_76 rfl rfl d_header_103 ?_
        refine lv_iconst (pc := 106) (v := 1) hx hb d_header_106 (by decide) ?_
        refine lv_iadd (pc := 107) hx hb d_header_107 ?_
        refine ob1 hm (fun S3 e4 hm => ?_)
        refine r_put (pc := 108) (k := 3) (index := 76) B hR I (by decide) mF_76 rfl rfl rfl (fun _ _ => rfl) e4 d_header_108 (fun H locs I => ?_)
        refine q_iinc (pc := 111) (i := 3) (v := y3 + 1) (lo' := [some (.ref h), some (.int y1), some (.int y2), some (.int (y3 + 1))]) hx hb d_header_111 hl rfl rfl (Nat.le_of_ble_eq_true rfl) (lx_ci rfl) rfl (fun ls hl => ?_)
        refine lv_goto (pc := 114) (tgt := 64) hx hb d_header_114 (by decide) ?_
        exact hK64 _ _ _ _ _ _ _ hl I hm
      · have hm := iff' hc hm
        refine lv_aload_n (pc := 91) (i := 0) hx hb d_header_91 rfl (lx_get hl rfl) ?_
        refine lv_aload_n (pc := 92) (i := 0) hx hb d_header_92 rfl (lx_get hl rfl) ?_
        refine r_get (pc := 93) (k := 3) (index := 76) B I (by decide) mF_76 rfl rfl d_header_93 ?_
        refine ob1 hm (fun S5 e6 hm => ?_)
        refine r_put (pc := 96) (k := 4) (index := 79) B hR I (by decide) mF_79 rfl rfl rfl (fun _ _ => rfl) e6 d_header_96 (fun H locs I => ?_)
        refine lv_iconst (pc := 99) (v := (-1)) hx hb d_header_99 (by decide) ?_
        cases hm
        exact q_iret (pc := 100) B I rfl d_header_100
def m_header_64F (N : Nat) (K64 : Int32 → Int32 → Int32 → rS → Option (Int32 × rS)) (y1 : Int32) (y2 : Int32) (y3 : Int32) (S : rS) : Option (Int32 × rS) :=
  if y1 = 0 then (m_header_74 N K64 y1 y2 y3 y3 1 S) else (m_header_74 N K64 y1 y2 y3 y3 2 S)
def m_header_64 (N : Nat) : Nat → Int32 → Int32 → Int32 → rS → Option (Int32 × rS)
  | 0, _, _, _, _ => none
  | k + 1, y1, y2, y3, S => m_header_64F N  (m_header_64 N  k) y1 y2 y3 S
set_option maxRecDepth 100000 in
set_option maxHeartbeats 4000000 in
theorem w_header_64F {K64 : Int32 → Int32 → Int32 → rS → Option (Int32 × rS)} {y1 : Int32} {y2 : Int32} {y3 : Int32} {S : rS} (hK64 : ∀ (y1 : Int32) (y2 : Int32) (y3 : Int32) (S : rS) (ls : Array Slot) (H : Heap) (locs : List Loc), lx ls [some (.ref h), some (.int y1), some (.int y2), some (.int y3)] → AI D vwCl b0 (rH dA h S hp0) sz s.heap H locs → K64 y1 y2 y3 S = some (r, S') → W p l e { frames := 4, cells := 0, slots := 0, locals := 87 } s m args below meth c H locs 0 0 (MQ below (CQ D vwCl b0 (some (.int r)) (rH dA h S' hp0) sz) args s 0 0 (fun q => b0 ≤ q)) (F0 m 64 ls [])) (B : BX p m c cb_header 4 s args (.code y_header cb_header 4 (some .int) :: wsA) RREF meth (some .int) D vwCl (tyL dA) b0 Z) (hR : RR b0 h Z) (hl : lx ls [some (.ref h), some (.int y1), some (.int y2), some (.int y3)]) (I : AI D vwCl b0 (rH dA h S hp0) sz s.heap H locs)  (hm : m_header_64F N  K64 y1 y2 y3 S = some (r, S')) : W p l e { frames := 4, cells := 0, slots := 0, locals := 87 } s m args below meth c H locs 0 0 (MQ below (CQ D vwCl b0 (some (.int r)) (rH dA h S' hp0) sz) args s 0 0 (fun q => b0 ≤ q)) (F0 m 64 ls []) := by
  obtain ⟨hx, hb, -⟩ := B.1
  unfold m_header_64F at hm
  refine lv_iload_n (pc := 64) (i := 3) hx hb d_header_64 rfl (lx_get hl rfl) ?_
  refine lv_iload_n (pc := 65) (i := 1) hx hb d_header_65 rfl (lx_get hl rfl) ?_
  refine lv_if_eq (pc := 66) (tgt := 73) hx hb d_header_66 (by decide) (fun hc => ?_) (fun hc => ?_)
  · have hm := ift hc hm
    refine lv_iconst (pc := 73) (v := 1) hx hb d_header_73 (by decide) ?_
    exact w_header_74 hK64 B hR hl I hm
  · have hm := iff' hc hm
    refine lv_iconst (pc := 69) (v := 2) hx hb d_header_69 (by decide) ?_
    refine lv_goto (pc := 70) (tgt := 74) hx hb d_header_70 (by decide) ?_
    exact w_header_74 hK64 B hR hl I hm
set_option maxRecDepth 100000 in
set_option maxHeartbeats 4000000 in
theorem w_header_64i (B : BX p m c cb_header 4 s args (.code y_header cb_header 4 (some .int) :: wsA) RREF meth (some .int) D vwCl (tyL dA) b0 Z) (hR : RR b0 h Z) (k : Nat) (y1 : Int32) (y2 : Int32) (y3 : Int32) (S : rS) (ls : Array Slot) (H : Heap) (locs : List Loc) (hl : lx ls [some (.ref h), some (.int y1), some (.int y2), some (.int y3)]) (I : AI D vwCl b0 (rH dA h S hp0) sz s.heap H locs)  (hm : m_header_64 N  k y1 y2 y3 S = some (r, S')) : W p l e { frames := 4, cells := 0, slots := 0, locals := 87 } s m args below meth c H locs 0 0 (MQ below (CQ D vwCl b0 (some (.int r)) (rH dA h S' hp0) sz) args s 0 0 (fun q => b0 ≤ q)) (F0 m 64 ls []) := by
  induction k generalizing y1 y2 y3 S ls H locs with
  | zero => cases hm
  | succ k ih => exact w_header_64F  (fun y1 y2 y3 S ls H locs hl I hm => ih y1 y2 y3 S ls H locs hl I hm) B hR hl I hm
theorem w_header_64 {y1 : Int32} {y2 : Int32} {y3 : Int32} {S : rS} (B : BX p m c cb_header 4 s args (.code y_header cb_header 4 (some .int) :: wsA) RREF meth (some .int) D vwCl (tyL dA) b0 Z) (hR : RR b0 h Z) (hl : lx ls [some (.ref h), some (.int y1), some (.int y2), some (.int y3)]) (I : AI D vwCl b0 (rH dA h S hp0) sz s.heap H locs)  {k : Nat} (hm : m_header_64 N  k y1 y2 y3 S = some (r, S')) : W p l e { frames := 4, cells := 0, slots := 0, locals := 87 } s m args below meth c H locs 0 0 (MQ below (CQ D vwCl b0 (some (.int r)) (rH dA h S' hp0) sz) args s 0 0 (fun q => b0 ≤ q)) (F0 m 64 ls []) := w_header_64i  B hR k _ _ _ S ls H locs hl I hm
def m_header_39 (N : Nat) (y1 : Int32) (z1 : Int32) (z2 : Int32) (S : rS) : Option (Int32 × rS) :=
  b1 (rP S 3 (z1 + z2)) (fun S1 => b1 (m_blanks N S1) (fun S4 => b2 (m_path N S4) (fun x6 S7 => if x6 = 0 then (some ((-1), S7)) else (b2 (m_opened N y1 S7) (fun x9 S10 => m_header_64 N  N y1 x9 0 S10)))))
set_option maxRecDepth 100000 in
set_option maxHeartbeats 4000000 in
theorem w_header_39 {y1 : Int32} {z1 : Int32} {z2 : Int32} {S : rS} (B : BX p m c cb_header 4 s args (.code y_header cb_header 4 (some .int) :: wsA) RREF meth (some .int) D vwCl (tyL dA) b0 Z) (hR : RR b0 h Z) (hl : lx ls [some (.ref h), some (.int y1), none, none]) (I : AI D vwCl b0 (rH dA h S hp0) sz s.heap H locs)  (hm : m_header_39 N  y1 z1 z2 S = some (r, S')) : W p l e { frames := 4, cells := 0, slots := 0, locals := 87 } s m args below meth c H locs 0 0 (MQ below (CQ D vwCl b0 (some (.int r)) (rH dA h S' hp0) sz) args s 0 0 (fun q => b0 ≤ q)) (F0 m 39 ls [.int z2, .int z1, .ref h]) := by
  obtain ⟨hx, hb, -⟩ := B.1
  unfold m_header_39 at hm
  refine lv_iadd (pc := 39) hx hb d_header_39 ?_
  refine ob1 hm (fun S1 e2 hm => ?_)
  refine r_put (pc := 40) (k := 3) (index := 76) B hR I (by decide) mF_76 rfl rfl rfl (fun _ _ => rfl) e2 d_header_40 (fun H locs I => ?_)
  refine lv_aload_n (pc := 43) (i := 0) hx hb d_header_43 rfl (lx_get hl rfl) ?_
  refine ob1 hm (fun S4 e3 hm => ?_)
  refine r_call (pc := 44) (As := []) (rest := []) B hl rfl I (c_blanks hR e3) kw_blanks rfl (by decide) (by decide) rfl (by simp [Value.category]) d_header_44 (fun H locs I => ?_)
  refine lv_aload_n (pc := 47) (i := 0) hx hb d_header_47 rfl (lx_get hl rfl) ?_
  refine ob2 hm (fun x6 S7 e5 hm => ?_)
  refine r_call (pc := 48) (As := []) (rest := []) B hl rfl I (c_path hR e5) kw_path rfl (by decide) (by decide) rfl (by simp [Value.category]) d_header_48 (fun H locs I => ?_)
  refine lv_if_ne (pc := 51) (tgt := 56) hx hb d_header_51 (by decide) (fun hc => ?_) (fun hc => ?_)
  · have hm := iff' hc hm
    refine lv_aload_n (pc := 56) (i := 0) hx hb d_header_56 rfl (lx_get hl rfl) ?_
    refine lv_iload_n (pc := 57) (i := 1) hx hb d_header_57 rfl (lx_get hl rfl) ?_
    refine ob2 hm (fun x9 S10 e8 hm => ?_)
    refine r_call (pc := 58) (As := [.int y1]) (rest := []) B hl rfl I (c_opened hR e8) kw_opened rfl (by decide) (by decide) rfl (by simp [Value.category]) d_header_58 (fun H locs I => ?_)
    refine q_istore_n (pc := 61) (i := 2) (lo' := [some (.ref h), some (.int y1), some (.int x9), none]) hx hb d_header_61 rfl hl (Nat.le_of_ble_eq_true rfl) (lx_ci rfl) rfl (fun ls hl => ?_)
    refine lv_iconst (pc := 62) (v := 0) hx hb d_header_62 (by decide) ?_
    refine q_istore_n (pc := 63) (i := 3) (lo' := [some (.ref h), some (.int y1), some (.int x9), some (.int 0)]) hx hb d_header_63 rfl hl (Nat.le_of_ble_eq_true rfl) (lx_ci rfl) rfl (fun ls hl => ?_)
    exact w_header_64  B hR hl I hm
  · have hm := ift hc hm
    refine lv_iconst (pc := 54) (v := (-1)) hx hb d_header_54 (by decide) ?_
    cases hm
    exact q_iret (pc := 55) B I rfl d_header_55
def m_header_24 (N : Nat) (z0 : Int32) (S : rS) : Option (Int32 × rS) :=
  if z0 = 0 then (m_header_39 N  z0 (S.1 3) 0 S) else (m_header_39 N  z0 (S.1 3) 1 S)
set_option maxRecDepth 100000 in
set_option maxHeartbeats 4000000 in
theorem w_header_24 {z0 : Int32} {S : rS} (B : BX p m c cb_header 4 s args (.code y_header cb_header 4 (some .int) :: wsA) RREF meth (some .int) D vwCl (tyL dA) b0 Z) (hR : RR b0 h Z) (hl : lx ls [some (.ref h), none, none, none]) (I : AI D vwCl b0 (rH dA h S hp0) sz s.heap H locs)  (hm : m_header_24 N  z0 S = some (r, S')) : W p l e { frames := 4, cells := 0, slots := 0, locals := 87 } s m args below meth c H locs 0 0 (MQ below (CQ D vwCl b0 (some (.int r)) (rH dA h S' hp0) sz) args s 0 0 (fun q => b0 ≤ q)) (F0 m 24 ls [.int z0]) := by
  obtain ⟨hx, hb, -⟩ := B.1
  unfold m_header_24 at hm
  refine q_istore_n (pc := 24) (i := 1) (lo' := [some (.ref h), some (.int z0), none, none]) hx hb d_header_24 rfl hl (Nat.le_of_ble_eq_true rfl) (lx_cr rfl) rfl (fun ls hl => ?_)
  refine lv_aload_n (pc := 25) (i := 0) hx hb d_header_25 rfl (lx_get hl rfl) ?_
  refine lv_dup (pc := 26) hx hb d_header_26 rfl ?_
  refine r_get (pc := 27) (k := 3) (index := 76) B I (by decide) mF_76 rfl rfl d_header_27 ?_
  refine lv_iload_n (pc := 30) (i := 1) hx hb d_header_30 rfl (lx_get hl rfl) ?_
  refine lv_if_eq (pc := 31) (tgt := 38) hx hb d_header_31 (by decide) (fun hc => ?_) (fun hc => ?_)
  · have hm := ift hc hm
    refine lv_iconst (pc := 38) (v := 0) hx hb d_header_38 (by decide) ?_
    exact w_header_39  B hR hl I hm
  · have hm := iff' hc hm
    refine lv_iconst (pc := 34) (v := 1) hx hb d_header_34 (by decide) ?_
    refine lv_goto (pc := 35) (tgt := 39) hx hb d_header_35 (by decide) ?_
    exact w_header_39  B hR hl I hm
def m_header (N : Nat) (S : rS) : Option (Int32 × rS) :=
  b1 (rP S 3 ((S.1 3) + 1)) (fun S1 => b1 (m_here N S1) (fun x4 => if x4 = 91 then (m_header_24 N  1 S1) else (m_header_24 N  0 S1)))
set_option maxRecDepth 100000 in
set_option maxHeartbeats 4000000 in
theorem c_header {S S' : rS} {r : Int32} (hR : RR b0 h Z) (hm : m_header N  S = some (r, S')) : Ct l D vwCl (tyL dA) b0 Z y_header (.code y_header cb_header 4 (some .int) :: wsA) 4 87 [.ref h] (rH dA h S hp0) sz (some (.int r)) (rH dA h S' hp0) 0 0 := by
  refine ct_of (cc := cb_header) (maxL := 4) (ret := (some .int)) (lo0 := [some (.ref h), none, none, none]) hR.2 (by decide) rfl (by simp [lg_sl, Value.category]) rfl (by simp [lx_all, lv_args, Value.category]) ?_
  intro p e s m args below meth c ls B hnm hl I
  obtain ⟨hx, hb, -⟩ := B.1
  unfold m_header at hm
  refine lv_aload_n (pc := 0) (i := 0) hx hb d_header_0 rfl (lx_get hl rfl) ?_
  refine lv_dup (pc := 1) hx hb d_header_1 rfl ?_
  refine r_get (pc := 2) (k := 3) (index := 76) B I (by decide) mF_76 rfl rfl d_header_2 ?_
  refine lv_iconst (pc := 5) (v := 1) hx hb d_header_5 (by decide) ?_
  refine lv_iadd (pc := 6) hx hb d_header_6 ?_
  refine ob1 hm (fun S1 e2 hm => ?_)
  refine r_put (pc := 7) (k := 3) (index := 76) B hR I (by decide) mF_76 rfl rfl rfl (fun _ _ => rfl) e2 d_header_7 (fun H locs I => ?_)
  refine lv_aload_n (pc := 10) (i := 0) hx hb d_header_10 rfl (lx_get hl rfl) ?_
  refine ob1 hm (fun x4 e3 hm => ?_)
  refine r_call (pc := 11) (As := []) (rest := []) B hl rfl I (c_here hR e3) kw_here rfl (by decide) (by decide) rfl (by simp [Value.category]) d_header_11 (fun H locs I => ?_)
  refine lv_bipush (pc := 14) (v := 91) hx hb d_header_14 (by decide) ?_
  refine lv_icmp_ne (pc := 16) (tgt := 23) hx hb d_header_16 (by decide) (fun hc => ?_) (fun hc => ?_)
  · have hm := iff' hc hm
    refine lv_iconst (pc := 23) (v := 0) hx hb d_header_23 (by decide) ?_
    exact w_header_24  B hR hl I hm
  · have hm := ift hc hm
    refine lv_iconst (pc := 19) (v := 1) hx hb d_header_19 (by decide) ?_
    refine lv_goto (pc := 20) (tgt := 24) hx hb d_header_20 (by decide) ?_
    exact w_header_24  B hR hl I hm
def m_line_121 (N : Nat) (y2 : Int32) (S : rS) : Option (Int32 × rS) :=
  b1 (rP S 3 ((S.1 3) + 1)) (fun S1 => some (y2, S1))
set_option maxRecDepth 100000 in
set_option maxHeartbeats 4000000 in
theorem w_line_121 {y2 : Int32} {S : rS} (B : BX p m c cb_line 4 s args (.code y_line cb_line 4 (some .int) :: wsA) RREF meth (some .int) D vwCl (tyL dA) b0 Z) (hR : RR b0 h Z) (hl : lx ls [some (.ref h), none, some (.int y2), none]) (I : AI D vwCl b0 (rH dA h S hp0) sz s.heap H locs)  (hm : m_line_121 N  y2 S = some (r, S')) : W p l e { frames := 8, cells := 0, slots := 0, locals := 188 } s m args below meth c H locs 0 0 (MQ below (CQ D vwCl b0 (some (.int r)) (rH dA h S' hp0) sz) args s 0 0 (fun q => b0 ≤ q)) (F0 m 121 ls []) := by
  obtain ⟨hx, hb, -⟩ := B.1
  unfold m_line_121 at hm
  refine lv_aload_n (pc := 121) (i := 0) hx hb d_line_121 rfl (lx_get hl rfl) ?_
  refine lv_dup (pc := 122) hx hb d_line_122 rfl ?_
  refine r_get (pc := 123) (k := 3) (index := 76) B I (by decide) mF_76 rfl rfl d_line_123 ?_
  refine lv_iconst (pc := 126) (v := 1) hx hb d_line_126 (by decide) ?_
  refine lv_iadd (pc := 127) hx hb d_line_127 ?_
  refine ob1 hm (fun S1 e2 hm => ?_)
  refine r_put (pc := 128) (k := 3) (index := 76) B hR I (by decide) mF_76 rfl rfl rfl (fun _ _ => rfl) e2 d_line_128 (fun H locs I => ?_)
  refine lv_iload_n (pc := 131) (i := 2) hx hb d_line_131 rfl (lx_get hl rfl) ?_
  cases hm
  exact q_iret (pc := 132) B I rfl d_line_132
def m_line_91 (N : Nat) (y2 : Int32) (S : rS) : Option (Int32 × rS) :=
  if S.1 1 ≤ S.1 3 then (m_line_121 N  y2 S) else (b1 (m_here N S) (fun x2 => if x2 = 10 then (m_line_121 N  y2 S) else (b1 (rP S 4 (S.1 3)) (fun S3 => some ((-1), S3)))))
set_option maxRecDepth 100000 in
set_option maxHeartbeats 4000000 in
theorem w_line_91 {y2 : Int32} {S : rS} (B : BX p m c cb_line 4 s args (.code y_line cb_line 4 (some .int) :: wsA) RREF meth (some .int) D vwCl (tyL dA) b0 Z) (hR : RR b0 h Z) (hl : lx ls [some (.ref h), none, some (.int y2), none]) (I : AI D vwCl b0 (rH dA h S hp0) sz s.heap H locs)  (hm : m_line_91 N  y2 S = some (r, S')) : W p l e { frames := 8, cells := 0, slots := 0, locals := 188 } s m args below meth c H locs 0 0 (MQ below (CQ D vwCl b0 (some (.int r)) (rH dA h S' hp0) sz) args s 0 0 (fun q => b0 ≤ q)) (F0 m 91 ls []) := by
  obtain ⟨hx, hb, -⟩ := B.1
  unfold m_line_91 at hm
  refine lv_aload_n (pc := 91) (i := 0) hx hb d_line_91 rfl (lx_get hl rfl) ?_
  refine r_get (pc := 92) (k := 3) (index := 76) B I (by decide) mF_76 rfl rfl d_line_92 ?_
  refine lv_aload_n (pc := 95) (i := 0) hx hb d_line_95 rfl (lx_get hl rfl) ?_
  refine r_get (pc := 96) (k := 1) (index := 73) B I (by decide) mF_73 rfl rfl d_line_96 ?_
  refine lv_icmp_ge (pc := 99) (tgt := 121) hx hb d_line_99 (by decide) (fun hc => ?_) (fun hc => ?_)
  · have hm := ift hc hm
    exact w_line_121  B hR hl I hm
  · have hm := iff' hc hm
    refine lv_aload_n (pc := 102) (i := 0) hx hb d_line_102 rfl (lx_get hl rfl) ?_
    refine ob1 hm (fun x2 e1 hm => ?_)
    refine r_call (pc := 103) (As := []) (rest := []) B hl rfl I (c_here hR e1) kw_here rfl (by decide) (by decide) rfl (by simp [Value.category]) d_line_103 (fun H locs I => ?_)
    refine lv_bipush (pc := 106) (v := 10) hx hb d_line_106 (by decide) ?_
    refine lv_icmp_eq (pc := 108) (tgt := 121) hx hb d_line_108 (by decide) (fun hc => ?_) (fun hc => ?_)
    · have hm := ift hc hm
      exact w_line_121  B hR hl I hm
    · have hm := iff' hc hm
      refine lv_aload_n (pc := 111) (i := 0) hx hb d_line_111 rfl (lx_get hl rfl) ?_
      refine lv_aload_n (pc := 112) (i := 0) hx hb d_line_112 rfl (lx_get hl rfl) ?_
      refine r_get (pc := 113) (k := 3) (index := 76) B I (by decide) mF_76 rfl rfl d_line_113 ?_
      refine ob1 hm (fun S3 e4 hm => ?_)
      refine r_put (pc := 116) (k := 4) (index := 79) B hR I (by decide) mF_79 rfl rfl rfl (fun _ _ => rfl) e4 d_line_116 (fun H locs I => ?_)
      refine lv_iconst (pc := 119) (v := (-1)) hx hb d_line_119 (by decide) ?_
      cases hm
      exact q_iret (pc := 120) B I rfl d_line_120
def m_line_74 (N : Nat) (y2 : Int32) (S : rS) : Option (Int32 × rS) :=
  b1 (m_blanks N S) (fun S2 => b1 (m_here N S2) (fun x4 => if x4 = 35 then (b1 (m_comment N S2) (fun S6 => m_line_91 N  y2 S6)) else (m_line_91 N  y2 S2)))
set_option maxRecDepth 100000 in
set_option maxHeartbeats 4000000 in
theorem w_line_74 {y2 : Int32} {S : rS} (B : BX p m c cb_line 4 s args (.code y_line cb_line 4 (some .int) :: wsA) RREF meth (some .int) D vwCl (tyL dA) b0 Z) (hR : RR b0 h Z) (hl : lx ls [some (.ref h), none, some (.int y2), none]) (I : AI D vwCl b0 (rH dA h S hp0) sz s.heap H locs)  (hm : m_line_74 N  y2 S = some (r, S')) : W p l e { frames := 8, cells := 0, slots := 0, locals := 188 } s m args below meth c H locs 0 0 (MQ below (CQ D vwCl b0 (some (.int r)) (rH dA h S' hp0) sz) args s 0 0 (fun q => b0 ≤ q)) (F0 m 74 ls []) := by
  obtain ⟨hx, hb, -⟩ := B.1
  unfold m_line_74 at hm
  refine lv_aload_n (pc := 74) (i := 0) hx hb d_line_74 rfl (lx_get hl rfl) ?_
  refine ob1 hm (fun S2 e1 hm => ?_)
  refine r_call (pc := 75) (As := []) (rest := []) B hl rfl I (c_blanks hR e1) kw_blanks rfl (by decide) (by decide) rfl (by simp [Value.category]) d_line_75 (fun H locs I => ?_)
  refine lv_aload_n (pc := 78) (i := 0) hx hb d_line_78 rfl (lx_get hl rfl) ?_
  refine ob1 hm (fun x4 e3 hm => ?_)
  refine r_call (pc := 79) (As := []) (rest := []) B hl rfl I (c_here hR e3) kw_here rfl (by decide) (by decide) rfl (by simp [Value.category]) d_line_79 (fun H locs I => ?_)
  refine lv_bipush (pc := 82) (v := 35) hx hb d_line_82 (by decide) ?_
  refine lv_icmp_ne (pc := 84) (tgt := 91) hx hb d_line_84 (by decide) (fun hc => ?_) (fun hc => ?_)
  · have hm := iff' hc hm
    exact w_line_91  B hR hl I hm
  · have hm := ift hc hm
    refine lv_aload_n (pc := 87) (i := 0) hx hb d_line_87 rfl (lx_get hl rfl) ?_
    refine ob1 hm (fun S6 e5 hm => ?_)
    refine r_call (pc := 88) (As := []) (rest := []) B hl rfl I (c_comment hR e5) kw_comment rfl (by decide) (by decide) rfl (by simp [Value.category]) d_line_88 (fun H locs I => ?_)
    exact w_line_91  B hR hl I hm
def m_line (N : Nat) (p1 : Int32) (S : rS) : Option (Int32 × rS) :=
  b1 (m_blanks N S) (fun S2 => b1 (m_here N S2) (fun x4 => if x4 = 91 then (b2 (m_header N S2) (fun x14 S15 => if x14 = (-1) then (some ((-1), S15)) else (m_line_74 N  x14 S15))) else (if S2.1 1 ≤ S2.1 3 then (m_line_74 N  p1 S2) else (if x4 = 10 then (m_line_74 N  p1 S2) else (if x4 = 35 then (m_line_74 N  p1 S2) else (b1 (rP S2 26 0) (fun S5 => b2 (m_entry N p1 S5) (fun x8 S9 => if x8 = 0 then (some ((-1), S9)) else (b2 (m_finishValue N S9) (fun x11 S12 => if x11 = 0 then (some ((-1), S12)) else (m_line_74 N  p1 S12)))))))))))
set_option maxRecDepth 100000 in
set_option maxHeartbeats 4000000 in
theorem c_line {p1 : Int32} {S S' : rS} {r : Int32} (hR : RR b0 h Z) (hm : m_line N p1 S = some (r, S')) : Ct l D vwCl (tyL dA) b0 Z y_line (.code y_line cb_line 4 (some .int) :: wsA) 8 188 [.ref h, .int p1] (rH dA h S hp0) sz (some (.int r)) (rH dA h S' hp0) 0 0 := by
  refine ct_of (cc := cb_line) (maxL := 4) (ret := (some .int)) (lo0 := [some (.ref h), some (.int p1), none, none]) hR.2 (by decide) rfl (by simp [lg_sl, Value.category]) rfl (by simp [lx_all, lv_args, Value.category]) ?_
  intro p e s m args below meth c ls B hnm hl I
  obtain ⟨hx, hb, -⟩ := B.1
  unfold m_line at hm
  refine lv_iload_n (pc := 0) (i := 1) hx hb d_line_0 rfl (lx_get hl rfl) ?_
  refine q_istore_n (pc := 1) (i := 2) (lo' := [some (.ref h), some (.int p1), some (.int p1), none]) hx hb d_line_1 rfl hl (Nat.le_of_ble_eq_true rfl) (lx_ci rfl) rfl (fun ls hl => ?_)
  refine lv_aload_n (pc := 2) (i := 0) hx hb d_line_2 rfl (lx_get hl rfl) ?_
  refine ob1 hm (fun S2 e1 hm => ?_)
  refine r_call (pc := 3) (As := []) (rest := []) B hl rfl I (c_blanks hR e1) kw_blanks rfl (by decide) (by decide) rfl (by simp [Value.category]) d_line_3 (fun H locs I => ?_)
  refine lv_aload_n (pc := 6) (i := 0) hx hb d_line_6 rfl (lx_get hl rfl) ?_
  refine ob1 hm (fun x4 e3 hm => ?_)
  refine r_call (pc := 7) (As := []) (rest := []) B hl rfl I (c_here hR e3) kw_here rfl (by decide) (by decide) rfl (by simp [Value.category]) d_line_7 (fun H locs I => ?_)
  refine q_istore_n (pc := 10) (i := 3) (lo' := [some (.ref h), some (.int p1), some (.int p1), some (.int x4)]) hx hb d_line_10 rfl hl (Nat.le_of_ble_eq_true rfl) (lx_ci rfl) rfl (fun ls hl => ?_)
  refine lv_iload_n (pc := 11) (i := 3) hx hb d_line_11 rfl (lx_get hl rfl) ?_
  refine lv_bipush (pc := 12) (v := 91) hx hb d_line_12 (by decide) ?_
  refine lv_icmp_ne (pc := 14) (tgt := 29) hx hb d_line_14 (by decide) (fun hc => ?_) (fun hc => ?_)
  · have hm := iff' hc hm
    refine lv_aload_n (pc := 29) (i := 0) hx hb d_line_29 rfl (lx_get hl rfl) ?_
    refine r_get (pc := 30) (k := 3) (index := 76) B I (by decide) mF_76 rfl rfl d_line_30 ?_
    refine lv_aload_n (pc := 33) (i := 0) hx hb d_line_33 rfl (lx_get hl rfl) ?_
    refine r_get (pc := 34) (k := 1) (index := 73) B I (by decide) mF_73 rfl rfl d_line_34 ?_
    refine lv_icmp_ge (pc := 37) (tgt := 74) hx hb d_line_37 (by decide) (fun hc => ?_) (fun hc => ?_)
    · have hm := ift hc hm
      exact w_line_74  B hR (lx_sub (lo' := [some (.ref h), none, some (.int p1), none]) hl (by simp [lx_le])) I hm
    · have hm := iff' hc hm
      refine lv_iload_n (pc := 40) (i := 3) hx hb d_line_40 rfl (lx_get hl rfl) ?_
      refine lv_bipush (pc := 41) (v := 10) hx hb d_line_41 (by decide) ?_
      refine lv_icmp_eq (pc := 43) (tgt := 74) hx hb d_line_43 (by decide) (fun hc => ?_) (fun hc => ?_)
      · have hm := ift hc hm
        exact w_line_74  B hR (lx_sub (lo' := [some (.ref h), none, some (.int p1), none]) hl (by simp [lx_le])) I hm
      · have hm := iff' hc hm
        refine lv_iload_n (pc := 46) (i := 3) hx hb d_line_46 rfl (lx_get hl rfl) ?_
        refine lv_bipush (pc := 47) (v := 35) hx hb d_line_47 (by decide) ?_
        refine lv_icmp_eq (pc := 49) (tgt := 74) hx hb d_line_49 (by decide) (fun hc => ?_) (fun hc => ?_)
        · have hm := ift hc hm
          exact w_line_74  B hR (lx_sub (lo' := [some (.ref h), none, some (.int p1), none]) hl (by simp [lx_le])) I hm
        · have hm := iff' hc hm
          refine lv_aload_n (pc := 52) (i := 0) hx hb d_line_52 rfl (lx_get hl rfl) ?_
          refine lv_iconst (pc := 53) (v := 0) hx hb d_line_53 (by decide) ?_
          refine ob1 hm (fun S5 e6 hm => ?_)
          refine r_put (pc := 54) (k := 26) (index := 164) B hR I (by decide) mF_164 rfl rfl rfl (fun _ _ => rfl) e6 d_line_54 (fun H locs I => ?_)
          refine lv_aload_n (pc := 57) (i := 0) hx hb d_line_57 rfl (lx_get hl rfl) ?_
          refine lv_iload_n (pc := 58) (i := 2) hx hb d_line_58 rfl (lx_get hl rfl) ?_
          refine ob2 hm (fun x8 S9 e7 hm => ?_)
          refine r_call (pc := 59) (As := [.int p1]) (rest := []) B hl rfl I (c_entry hR e7) kw_entry rfl (by decide) (by decide) rfl (by simp [Value.category]) d_line_59 (fun H locs I => ?_)
          refine lv_if_eq (pc := 62) (tgt := 72) hx hb d_line_62 (by decide) (fun hc => ?_) (fun hc => ?_)
          · have hm := ift hc hm
            refine lv_iconst (pc := 72) (v := (-1)) hx hb d_line_72 (by decide) ?_
            cases hm
            exact q_iret (pc := 73) B I rfl d_line_73
          · have hm := iff' hc hm
            refine lv_aload_n (pc := 65) (i := 0) hx hb d_line_65 rfl (lx_get hl rfl) ?_
            refine ob2 hm (fun x11 S12 e10 hm => ?_)
            refine r_call (pc := 66) (As := []) (rest := []) B hl rfl I (c_finishValue hR e10) kw_finishValue rfl (by decide) (by decide) rfl (by simp [Value.category]) d_line_66 (fun H locs I => ?_)
            refine lv_if_ne (pc := 69) (tgt := 74) hx hb d_line_69 (by decide) (fun hc => ?_) (fun hc => ?_)
            · have hm := iff' hc hm
              exact w_line_74  B hR (lx_sub (lo' := [some (.ref h), none, some (.int p1), none]) hl (by simp [lx_le])) I hm
            · have hm := ift hc hm
              refine lv_iconst (pc := 72) (v := (-1)) hx hb d_line_72 (by decide) ?_
              cases hm
              exact q_iret (pc := 73) B I rfl d_line_73
  · have hm := ift hc hm
    refine lv_aload_n (pc := 17) (i := 0) hx hb d_line_17 rfl (lx_get hl rfl) ?_
    refine ob2 hm (fun x14 S15 e13 hm => ?_)
    refine r_call (pc := 18) (As := []) (rest := []) B hl rfl I (c_header hR e13) kw_header rfl (by decide) (by decide) rfl (by simp [Value.category]) d_line_18 (fun H locs I => ?_)
    refine q_istore_n (pc := 21) (i := 2) (lo' := [some (.ref h), some (.int p1), some (.int x14), some (.int x4)]) hx hb d_line_21 rfl hl (Nat.le_of_ble_eq_true rfl) (lx_ci rfl) rfl (fun ls hl => ?_)
    refine lv_iload_n (pc := 22) (i := 2) hx hb d_line_22 rfl (lx_get hl rfl) ?_
    refine lv_iconst (pc := 23) (v := (-1)) hx hb d_line_23 (by decide) ?_
    refine lv_icmp_ne (pc := 24) (tgt := 74) hx hb d_line_24 (by decide) (fun hc => ?_) (fun hc => ?_)
    · have hm := iff' hc hm
      exact w_line_74  B hR (lx_sub (lo' := [some (.ref h), none, some (.int x14), none]) hl (by simp [lx_le])) I hm
    · have hm := ift hc hm
      refine lv_iconst (pc := 27) (v := (-1)) hx hb d_line_27 (by decide) ?_
      cases hm
      exact q_iret (pc := 28) B I rfl d_line_28
def m_read_78 (N : Nat) (y1 : Int32) (S : rS) : Option (Int32 × rS) :=
  b1 (rP S 1 0) (fun S1 => if y1 = (-1) then (some (S1.1 4, S1)) else (b1 (rP S1 5 (S1.1 19)) (fun S3 => b1 (rP S3 18 (260 * (S3.1 5))) (fun S5 => some ((-1), S5)))))
set_option maxRecDepth 100000 in
set_option maxHeartbeats 4000000 in
theorem w_read_78 {y1 : Int32} {S : rS} (B : BX p m c cb_read 2 s args (.code y_read cb_read 2 (some .int) :: wsA) RREF meth (some .int) D vwCl (tyL dA) b0 Z) (hR : RR b0 h Z) (hl : lx ls [some (.ref h), some (.int y1)]) (I : AI D vwCl b0 (rH dA h S hp0) sz s.heap H locs)  (hm : m_read_78 N  y1 S = some (r, S')) : W p l e { frames := 9, cells := 0, slots := 0, locals := 211 } s m args below meth c H locs 0 0 (MQ below (CQ D vwCl b0 (some (.int r)) (rH dA h S' hp0) sz) args s 0 0 (fun q => b0 ≤ q)) (F0 m 78 ls []) := by
  obtain ⟨hx, hb, -⟩ := B.1
  unfold m_read_78 at hm
  refine lv_aload_n (pc := 78) (i := 0) hx hb d_read_78 rfl (lx_get hl rfl) ?_
  refine lv_iconst (pc := 79) (v := 0) hx hb d_read_79 (by decide) ?_
  refine ob1 hm (fun S1 e2 hm => ?_)
  refine r_put (pc := 80) (k := 1) (index := 73) B hR I (by decide) mF_73 rfl rfl rfl (fun _ _ => rfl) e2 d_read_80 (fun H locs I => ?_)
  refine lv_iload_n (pc := 83) (i := 1) hx hb d_read_83 rfl (lx_get hl rfl) ?_
  refine lv_iconst (pc := 84) (v := (-1)) hx hb d_read_84 (by decide) ?_
  refine lv_icmp_ne (pc := 85) (tgt := 93) hx hb d_read_85 (by decide) (fun hc => ?_) (fun hc => ?_)
  · have hm := iff' hc hm
    refine lv_aload_n (pc := 93) (i := 0) hx hb d_read_93 rfl (lx_get hl rfl) ?_
    refine lv_aload_n (pc := 94) (i := 0) hx hb d_read_94 rfl (lx_get hl rfl) ?_
    refine r_get (pc := 95) (k := 19) (index := 93) B I (by decide) mF_93 rfl rfl d_read_95 ?_
    refine ob1 hm (fun S3 e4 hm => ?_)
    refine r_put (pc := 98) (k := 5) (index := 210) B hR I (by decide) mF_210 rfl rfl rfl (fun _ _ => rfl) e4 d_read_98 (fun H locs I => ?_)
    refine lv_aload_n (pc := 101) (i := 0) hx hb d_read_101 rfl (lx_get hl rfl) ?_
    refine lv_sipush (pc := 102) (v := 260) hx hb d_read_102 (by decide) ?_
    refine lv_aload_n (pc := 105) (i := 0) hx hb d_read_105 rfl (lx_get hl rfl) ?_
    refine r_get (pc := 106) (k := 5) (index := 210) B I (by decide) mF_210 rfl rfl d_read_106 ?_
    refine lv_imul (pc := 109) hx hb d_read_109 ?_
    refine ob1 hm (fun S5 e6 hm => ?_)
    refine r_put (pc := 110) (k := 18) (index := 216) B hR I (by decide) mF_216 rfl rfl rfl (fun _ _ => rfl) e6 d_read_110 (fun H locs I => ?_)
    refine lv_iconst (pc := 113) (v := (-1)) hx hb d_read_113 (by decide) ?_
    cases hm
    exact q_iret (pc := 114) B I rfl d_read_114
  · have hm := ift hc hm
    refine lv_aload_n (pc := 88) (i := 0) hx hb d_read_88 rfl (lx_get hl rfl) ?_
    refine r_get (pc := 89) (k := 4) (index := 79) B I (by decide) mF_79 rfl rfl d_read_89 ?_
    cases hm
    exact q_iret (pc := 92) B I rfl d_read_92
def m_read_53F (N : Nat) (K53 : Int32 → rS → Option (Int32 × rS)) (y1 : Int32) (S : rS) : Option (Int32 × rS) :=
  if S.1 1 ≤ S.1 3 then (m_read_78 N  y1 S) else (if y1 = (-1) then (m_read_78 N  y1 S) else (b2 (m_line N y1 S) (fun x2 S3 => K53 x2 S3)))
def m_read_53 (N : Nat) : Nat → Int32 → rS → Option (Int32 × rS)
  | 0, _, _ => none
  | k + 1, y1, S => m_read_53F N  (m_read_53 N  k) y1 S
set_option maxRecDepth 100000 in
set_option maxHeartbeats 4000000 in
theorem w_read_53F {K53 : Int32 → rS → Option (Int32 × rS)} {y1 : Int32} {S : rS} (hK53 : ∀ (y1 : Int32) (S : rS) (ls : Array Slot) (H : Heap) (locs : List Loc), lx ls [some (.ref h), some (.int y1)] → AI D vwCl b0 (rH dA h S hp0) sz s.heap H locs → K53 y1 S = some (r, S') → W p l e { frames := 9, cells := 0, slots := 0, locals := 211 } s m args below meth c H locs 0 0 (MQ below (CQ D vwCl b0 (some (.int r)) (rH dA h S' hp0) sz) args s 0 0 (fun q => b0 ≤ q)) (F0 m 53 ls [])) (B : BX p m c cb_read 2 s args (.code y_read cb_read 2 (some .int) :: wsA) RREF meth (some .int) D vwCl (tyL dA) b0 Z) (hR : RR b0 h Z) (hl : lx ls [some (.ref h), some (.int y1)]) (I : AI D vwCl b0 (rH dA h S hp0) sz s.heap H locs)  (hm : m_read_53F N  K53 y1 S = some (r, S')) : W p l e { frames := 9, cells := 0, slots := 0, locals := 211 } s m args below meth c H locs 0 0 (MQ below (CQ D vwCl b0 (some (.int r)) (rH dA h S' hp0) sz) args s 0 0 (fun q => b0 ≤ q)) (F0 m 53 ls []) := by
  obtain ⟨hx, hb, -⟩ := B.1
  unfold m_read_53F at hm
  refine lv_aload_n (pc := 53) (i := 0) hx hb d_read_53 rfl (lx_get hl rfl) ?_
  refine r_get (pc := 54) (k := 3) (index := 76) B I (by decide) mF_76 rfl rfl d_read_54 ?_
  refine lv_aload_n (pc := 57) (i := 0) hx hb d_read_57 rfl (lx_get hl rfl) ?_
  refine r_get (pc := 58) (k := 1) (index := 73) B I (by decide) mF_73 rfl rfl d_read_58 ?_
  refine lv_icmp_ge (pc := 61) (tgt := 78) hx hb d_read_61 (by decide) (fun hc => ?_) (fun hc => ?_)
  · have hm := ift hc hm
    exact w_read_78  B hR hl I hm
  · have hm := iff' hc hm
    refine lv_iload_n (pc := 64) (i := 1) hx hb d_read_64 rfl (lx_get hl rfl) ?_
    refine lv_iconst (pc := 65) (v := (-1)) hx hb d_read_65 (by decide) ?_
    refine lv_icmp_eq (pc := 66) (tgt := 78) hx hb d_read_66 (by decide) (fun hc => ?_) (fun hc => ?_)
    · have hm := ift hc hm
      exact w_read_78  B hR hl I hm
    · have hm := iff' hc hm
      refine lv_aload_n (pc := 69) (i := 0) hx hb d_read_69 rfl (lx_get hl rfl) ?_
      refine lv_iload_n (pc := 70) (i := 1) hx hb d_read_70 rfl (lx_get hl rfl) ?_
      refine ob2 hm (fun x2 S3 e1 hm => ?_)
      refine r_call (pc := 71) (As := [.int y1]) (rest := []) B hl rfl I (c_line hR e1) kw_line rfl (by decide) (by decide) rfl (by simp [Value.category]) d_read_71 (fun H locs I => ?_)
      refine q_istore_n (pc := 74) (i := 1) (lo' := [some (.ref h), some (.int x2)]) hx hb d_read_74 rfl hl (Nat.le_of_ble_eq_true rfl) (lx_cr rfl) rfl (fun ls hl => ?_)
      refine lv_goto (pc := 75) (tgt := 53) hx hb d_read_75 (by decide) ?_
      exact hK53 _ _ _ _ _ hl I hm
set_option maxRecDepth 100000 in
set_option maxHeartbeats 4000000 in
theorem w_read_53i (B : BX p m c cb_read 2 s args (.code y_read cb_read 2 (some .int) :: wsA) RREF meth (some .int) D vwCl (tyL dA) b0 Z) (hR : RR b0 h Z) (k : Nat) (y1 : Int32) (S : rS) (ls : Array Slot) (H : Heap) (locs : List Loc) (hl : lx ls [some (.ref h), some (.int y1)]) (I : AI D vwCl b0 (rH dA h S hp0) sz s.heap H locs)  (hm : m_read_53 N  k y1 S = some (r, S')) : W p l e { frames := 9, cells := 0, slots := 0, locals := 211 } s m args below meth c H locs 0 0 (MQ below (CQ D vwCl b0 (some (.int r)) (rH dA h S' hp0) sz) args s 0 0 (fun q => b0 ≤ q)) (F0 m 53 ls []) := by
  induction k generalizing y1 S ls H locs with
  | zero => cases hm
  | succ k ih => exact w_read_53F  (fun y1 S ls H locs hl I hm => ih y1 S ls H locs hl I hm) B hR hl I hm
theorem w_read_53 {y1 : Int32} {S : rS} (B : BX p m c cb_read 2 s args (.code y_read cb_read 2 (some .int) :: wsA) RREF meth (some .int) D vwCl (tyL dA) b0 Z) (hR : RR b0 h Z) (hl : lx ls [some (.ref h), some (.int y1)]) (I : AI D vwCl b0 (rH dA h S hp0) sz s.heap H locs)  {k : Nat} (hm : m_read_53 N  k y1 S = some (r, S')) : W p l e { frames := 9, cells := 0, slots := 0, locals := 211 } s m args below meth c H locs 0 0 (MQ below (CQ D vwCl b0 (some (.int r)) (rH dA h S' hp0) sz) args s 0 0 (fun q => b0 ≤ q)) (F0 m 53 ls []) := w_read_53i  B hR k _ S ls H locs hl I hm
def m_read (N : Nat) (S : rS) : Option (Int32 × rS) :=
  b1 (rP S 0 0) (fun S1 => b1 (rP S1 19 (1 - (S1.1 5))) (fun S3 => b1 (rT S3 2 (S3.1 19) 0) (fun S5 => b1 (rT S5 12 (S5.1 19) 0) (fun S7 => b1 (rP S7 3 0) (fun S9 => b1 (rP S9 4 (-1)) (fun S11 => b2 (m_make N 7 (-1) S11) (fun x14 S15 => m_read_53 N  N x14 S15)))))))
set_option maxRecDepth 100000 in
set_option maxHeartbeats 4000000 in
theorem c_read {S S' : rS} {r : Int32} (hR : RR b0 h Z) (hm : m_read N  S = some (r, S')) : Ct l D vwCl (tyL dA) b0 Z y_read (.code y_read cb_read 2 (some .int) :: wsA) 9 211 [.ref h] (rH dA h S hp0) sz (some (.int r)) (rH dA h S' hp0) 0 0 := by
  refine ct_of (cc := cb_read) (maxL := 2) (ret := (some .int)) (lo0 := [some (.ref h), none]) hR.2 (by decide) rfl (by simp [lg_sl, Value.category]) rfl (by simp [lx_all, lv_args, Value.category]) ?_
  intro p e s m args below meth c ls B hnm hl I
  obtain ⟨hx, hb, -⟩ := B.1
  unfold m_read at hm
  refine lv_aload_n (pc := 0) (i := 0) hx hb d_read_0 rfl (lx_get hl rfl) ?_
  refine lv_iconst (pc := 1) (v := 0) hx hb d_read_1 (by decide) ?_
  refine ob1 hm (fun S1 e2 hm => ?_)
  refine r_put (pc := 2) (k := 0) (index := 67) B hR I (by decide) mF_67 rfl rfl rfl (fun _ _ => rfl) e2 d_read_2 (fun H locs I => ?_)
  refine lv_aload_n (pc := 5) (i := 0) hx hb d_read_5 rfl (lx_get hl rfl) ?_
  refine lv_iconst (pc := 6) (v := 1) hx hb d_read_6 (by decide) ?_
  refine lv_aload_n (pc := 7) (i := 0) hx hb d_read_7 rfl (lx_get hl rfl) ?_
  refine r_get (pc := 8) (k := 5) (index := 210) B I (by decide) mF_210 rfl rfl d_read_8 ?_
  refine lv_isub (pc := 11) hx hb d_read_11 ?_
  refine ob1 hm (fun S3 e4 hm => ?_)
  refine r_put (pc := 12) (k := 19) (index := 93) B hR I (by decide) mF_93 rfl rfl rfl (fun _ _ => rfl) e4 d_read_12 (fun H locs I => ?_)
  refine lv_aload_n (pc := 15) (i := 0) hx hb d_read_15 rfl (lx_get hl rfl) ?_
  refine r_get (pc := 16) (k := 6) (index := 13) B I (by decide) mF_13 rfl rfl d_read_16 ?_
  refine lv_aload_n (pc := 19) (i := 0) hx hb d_read_19 rfl (lx_get hl rfl) ?_
  refine r_get (pc := 20) (k := 19) (index := 93) B I (by decide) mF_93 rfl rfl d_read_20 ?_
  refine lv_iconst (pc := 23) (v := 0) hx hb d_read_23 (by decide) ?_
  refine ob1 hm (fun S5 e6 hm => ?_)
  refine r_ast (pc := 24) (j := 2) B hR I (by decide) (by decide) e6 d_read_24 (fun H locs I => ?_)
  refine lv_aload_n (pc := 25) (i := 0) hx hb d_read_25 rfl (lx_get hl rfl) ?_
  refine r_get (pc := 26) (k := 16) (index := 43) B I (by decide) mF_43 rfl rfl d_read_26 ?_
  refine lv_aload_n (pc := 29) (i := 0) hx hb d_read_29 rfl (lx_get hl rfl) ?_
  refine r_get (pc := 30) (k := 19) (index := 93) B I (by decide) mF_93 rfl rfl d_read_30 ?_
  refine lv_iconst (pc := 33) (v := 0) hx hb d_read_33 (by decide) ?_
  refine ob1 hm (fun S7 e8 hm => ?_)
  refine r_ast (pc := 34) (j := 12) B hR I (by decide) (by decide) e8 d_read_34 (fun H locs I => ?_)
  refine lv_aload_n (pc := 35) (i := 0) hx hb d_read_35 rfl (lx_get hl rfl) ?_
  refine lv_iconst (pc := 36) (v := 0) hx hb d_read_36 (by decide) ?_
  refine ob1 hm (fun S9 e10 hm => ?_)
  refine r_put (pc := 37) (k := 3) (index := 76) B hR I (by decide) mF_76 rfl rfl rfl (fun _ _ => rfl) e10 d_read_37 (fun H locs I => ?_)
  refine lv_aload_n (pc := 40) (i := 0) hx hb d_read_40 rfl (lx_get hl rfl) ?_
  refine lv_iconst (pc := 41) (v := (-1)) hx hb d_read_41 (by decide) ?_
  refine ob1 hm (fun S11 e12 hm => ?_)
  refine r_put (pc := 42) (k := 4) (index := 79) B hR I (by decide) mF_79 rfl rfl rfl (fun _ _ => rfl) e12 d_read_42 (fun H locs I => ?_)
  refine lv_aload_n (pc := 45) (i := 0) hx hb d_read_45 rfl (lx_get hl rfl) ?_
  refine lv_bipush (pc := 46) (v := 7) hx hb d_read_46 (by decide) ?_
  refine lv_iconst (pc := 48) (v := (-1)) hx hb d_read_48 (by decide) ?_
  refine ob2 hm (fun x14 S15 e13 hm => ?_)
  refine r_call (pc := 49) (As := [.int 7, .int (-1)]) (rest := []) B hl rfl I (c_make hR e13) kw_make rfl (by decide) (by decide) rfl (by simp [Value.category]) d_read_49 (fun H locs I => ?_)
  refine q_istore_n (pc := 52) (i := 1) (lo' := [some (.ref h), some (.int x14)]) hx hb d_read_52 rfl hl (Nat.le_of_ble_eq_true rfl) (lx_cr rfl) rfl (fun ls hl => ?_)
  exact w_read_53  B hR hl I hm
end RW
