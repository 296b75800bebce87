/-! The law's cases. -/
section LCs
variable {p : Program} {l : Launch} {e : Env} {s : State} {m : MethodId} {below : List Frame} {meth : Method} {c : Code} {D : va_G} {dA : Nat → ClassId} {b0 b L kc : Nat} {xs : Nat → Int32} {i : Int32} {K : cS} {Z : State → Prop} {hp0 : aH} {Q : State → Prop}
/-- The law's walk goes on at pc, with kc calls behind it, for everything that stands so. -/
def Lgo (p : Program) (l : Launch) (e : Env) (s : State) (m : MethodId) (below : List Frame) (meth : Method) (c : Code) (D : va_G) (dA : Nat → ClassId) (b0 b : Nat) (hp0 : aH) (i : Int32) (Q : State → Prop) (kc pc : Nat) : Prop :=
  ∀ (H : Heap) (locs : List Loc) (ls : Array Slot) (S : cS) (R : rS) (g : Nat → Int64) (sz n cells slots : Nat), lx ls [some (.ref b), some (.ref b0), some (.ref (b0 + 5)), some (.ref (b0 + 25)), some (.int i), none, none] → AI D vwCl b0 (lawH dA b0 S R g hp0) sz s.heap H locs → Bo b0 S sz R n → cells + 12 * n ≤ 26 + 113 * kc → slots + 500 * n ≤ 7413 + 4539 * kc → W p l e room_1 s m #[Value.ref b] below meth c H locs cells slots Q (F0 m pc ls [])
theorem lawH_at {S : cS} {R : rS} {g : Nat → Int64} : lawH dA b0 S R g hp0 (b0 + 25) = some (.inl (dA 4, 1, .inr (.inl g))) := by
  unfold lawH; rw [cH_25]; exact lawH_25
theorem RRof (hR : CR b0 K Z) : RR b0 (b0 + 5) Z := ⟨by omega, hR.1⟩
set_option maxRecDepth 100000 in
set_option maxHeartbeats 4000000 in
theorem L_read (B : BX p m c code 7 s #[Value.ref b] (.initialized RLW :: wsA) RLW meth (some .boolean) D vwCl (tyL dA) b0 Z) (hR : CR b0 K Z) (hK : KF b0 K) (hk : kc + 1 ≤ 512) (go : Lgo p l e s m below meth c D dA b0 b hp0 i Q (kc + 1) 529) : Lgo p l e s m below meth c D dA b0 b hp0 i Q kc 196 := by
  intro H locs ls S R g sz n cells slots hl I hB hc hs
  obtain ⟨hx, hb, -⟩ := B.1
  obtain ⟨x, S', dc, ds, R', e1, e2, hB', hd1, hd2⟩ := bo_read (N := 200000) hK (Nat.le_refl _) hB
  refine q_aload_n (pc := 196) (i := 1) (v := .ref b0) hx hb d_L_196 rfl rfl (lx_get hl rfl) ?_
  refine k_callV (pc := 197) (As := []) (rest := []) (b := b0) (z := 1) B hR hl rfl I (c_T_read hR e1) kw_LT_read (by decide) hB.k1 rfl (Nat.le_of_ble_eq_true rfl) (Nat.le_of_ble_eq_true rfl) rfl (by simp) d_L_197 (by show _ ≤ 601024; omega) (by show _ ≤ 7293034; omega) (fun H locs I => ?_)
  refine q_aload_n (pc := 200) (i := 2) (v := .ref (b0 + 5)) hx hb d_L_200 rfl rfl (lx_get hl rfl) ?_
  have I : AI D vwCl b0 (rH dA (b0 + 5) _ (cH dA b0 _ (oH dA b0 hp0 _))) _ s.heap _ _ := I.of lawH_r
  refine r_callL (pc := 201) (As := []) (rest := [.int x]) (h := b0 + 5) B hl rfl I (c_read (RRof hR) e2) kw_LR_read rfl (Nat.le_of_ble_eq_true rfl) (Nat.le_of_ble_eq_true rfl) rfl (by simp [cat_i, cat_r, cat_l]) d_L_201 (by show _ ≤ 601024; omega) (by show _ ≤ 7293034; omega) (fun H locs I => ?_)
  have I : AI D vwCl b0 (lawH dA b0 _ _ _ hp0) _ s.heap _ _ := I.of lawH_r.symm
  refine lv_icmp_eq (pc := 204) (tgt := 529) hx hb d_L_204 (by decide) (fun _ => ?_) (fun q => absurd rfl q)
  exact go _ _ _ _ _ _ _ _ _ _ hl I hB' (by omega) (by omega)
set_option maxRecDepth 100000 in
set_option maxHeartbeats 4000000 in
theorem L_write (B : BX p m c code 7 s #[Value.ref b] (.initialized RLW :: wsA) RLW meth (some .boolean) D vwCl (tyL dA) b0 Z) (hR : CR b0 K Z) (hK : KF b0 K) (hk : kc + 1 ≤ 512) (go : Lgo p l e s m below meth c D dA b0 b hp0 i Q (kc + 1) 529) : Lgo p l e s m below meth c D dA b0 b hp0 i Q kc 209 := by
  intro H locs ls S R g sz n cells slots hl I hB hc hs
  obtain ⟨hx, hb, -⟩ := B.1
  obtain ⟨x, S', R', e1, e2, hB'⟩ := bo_write (N := 200000) hK (Nat.le_refl _) hB
  refine q_aload_n (pc := 209) (i := 1) (v := .ref b0) hx hb d_L_209 rfl rfl (lx_get hl rfl) ?_
  refine k_callV (pc := 210) (As := []) (rest := []) (b := b0) (z := 1) B hR hl rfl I (c_T_write hR e1) kw_LT_write (by decide) hB.k1 rfl (Nat.le_of_ble_eq_true rfl) (Nat.le_of_ble_eq_true rfl) rfl (by simp) d_L_210 (by show _ ≤ 601024; omega) (by show _ ≤ 7293034; omega) (fun H locs I => ?_)
  refine q_aload_n (pc := 213) (i := 2) (v := .ref (b0 + 5)) hx hb d_L_213 rfl rfl (lx_get hl rfl) ?_
  have I : AI D vwCl b0 (rH dA (b0 + 5) _ (cH dA b0 _ (oH dA b0 hp0 _))) _ s.heap _ _ := I.of lawH_r
  refine r_callL (pc := 214) (As := []) (rest := [.int x]) (h := b0 + 5) B hl rfl I (c_write (RRof hR) e2) kw_LR_write rfl (Nat.le_of_ble_eq_true rfl) (Nat.le_of_ble_eq_true rfl) rfl (by simp [cat_i, cat_r, cat_l]) d_L_214 (by show _ ≤ 601024; omega) (by show _ ≤ 7293034; omega) (fun H locs I => ?_)
  have I : AI D vwCl b0 (lawH dA b0 _ _ _ hp0) _ s.heap _ _ := I.of lawH_r.symm
  refine lv_icmp_eq (pc := 217) (tgt := 529) hx hb d_L_217 (by decide) (fun _ => ?_) (fun q => absurd rfl q)
  exact go _ _ _ _ _ _ _ _ _ _ hl I hB' (by omega) (by omega)
set_option maxRecDepth 100000 in
set_option maxHeartbeats 4000000 in
theorem L_top (B : BX p m c code 7 s #[Value.ref b] (.initialized RLW :: wsA) RLW meth (some .boolean) D vwCl (tyL dA) b0 Z) (hR : CR b0 K Z) (hk : kc + 1 ≤ 512) (go : Lgo p l e s m below meth c D dA b0 b hp0 i Q (kc + 1) 529) : Lgo p l e s m below meth c D dA b0 b hp0 i Q kc 278 := by
  intro H locs ls S R g sz n cells slots hl I hB hc hs
  obtain ⟨hx, hb, -⟩ := B.1
  obtain ⟨x, S', R', e1, e2, hB'⟩ := bo_top (N := 200000) (K := K) hB
  refine q_aload_n (pc := 278) (i := 1) (v := .ref b0) hx hb d_L_278 rfl rfl (lx_get hl rfl) ?_
  refine k_callV (pc := 279) (As := []) (rest := []) (b := b0) (z := 1) B hR hl rfl I (c_T_top hR e1) kw_LT_top (by decide) hB.k1 rfl (Nat.le_of_ble_eq_true rfl) (Nat.le_of_ble_eq_true rfl) rfl (by simp) d_L_279 (by show _ ≤ 601024; omega) (by show _ ≤ 7293034; omega) (fun H locs I => ?_)
  refine q_aload_n (pc := 282) (i := 2) (v := .ref (b0 + 5)) hx hb d_L_282 rfl rfl (lx_get hl rfl) ?_
  have I : AI D vwCl b0 (rH dA (b0 + 5) _ (cH dA b0 _ (oH dA b0 hp0 _))) _ s.heap _ _ := I.of lawH_r
  refine r_callL (pc := 283) (As := []) (rest := [.int x]) (h := b0 + 5) B hl rfl I (c_top (RRof hR) e2) kw_LR_top rfl (Nat.le_of_ble_eq_true rfl) (Nat.le_of_ble_eq_true rfl) rfl (by simp [cat_i, cat_r, cat_l]) d_L_283 (by show _ ≤ 601024; omega) (by show _ ≤ 7293034; omega) (fun H locs I => ?_)
  have I : AI D vwCl b0 (lawH dA b0 _ _ _ hp0) _ s.heap _ _ := I.of lawH_r.symm
  refine lv_icmp_eq (pc := 286) (tgt := 529) hx hb d_L_286 (by decide) (fun _ => ?_) (fun q => absurd rfl q)
  exact go _ _ _ _ _ _ _ _ _ _ hl I hB' (by omega) (by omega)
set_option maxRecDepth 100000 in
set_option maxHeartbeats 4000000 in
theorem L_kind (B : BX p m c code 7 s #[Value.ref b] (.initialized RLW :: wsA) RLW meth (some .boolean) D vwCl (tyL dA) b0 Z) (hR : CR b0 K Z) (hk : kc + 1 ≤ 512) (go : Lgo p l e s m below meth c D dA b0 b hp0 i Q (kc + 1) 529) : Lgo p l e s m below meth c D dA b0 b hp0 i Q kc 391 := by
  intro H locs ls S R g sz n cells slots hl I hB hc hs
  obtain ⟨hx, hb, -⟩ := B.1
  obtain ⟨x, R', e1, e2, hB'⟩ := bo_kind (N := 200000) (K := K) hB
  refine q_aload_n (pc := 391) (i := 1) (v := .ref b0) hx hb d_L_391 rfl rfl (lx_get hl rfl) ?_
  refine k_callV (pc := 392) (As := []) (rest := []) (b := b0) (z := 1) B hR hl rfl I (c_T_kind hR e1) kw_LT_kind (by decide) hB.k1 rfl (Nat.le_of_ble_eq_true rfl) (Nat.le_of_ble_eq_true rfl) rfl (by simp) d_L_392 (by show _ ≤ 601024; omega) (by show _ ≤ 7293034; omega) (fun H locs I => ?_)
  refine q_aload_n (pc := 395) (i := 2) (v := .ref (b0 + 5)) hx hb d_L_395 rfl rfl (lx_get hl rfl) ?_
  have I : AI D vwCl b0 (rH dA (b0 + 5) _ (cH dA b0 _ (oH dA b0 hp0 _))) _ s.heap _ _ := I.of lawH_r
  refine r_callL (pc := 396) (As := []) (rest := [.int x]) (h := b0 + 5) B hl rfl I (c_kind (RRof hR) e2) kw_LR_kind rfl (Nat.le_of_ble_eq_true rfl) (Nat.le_of_ble_eq_true rfl) rfl (by simp [cat_i, cat_r, cat_l]) d_L_396 (by show _ ≤ 601024; omega) (by show _ ≤ 7293034; omega) (fun H locs I => ?_)
  have I : AI D vwCl b0 (lawH dA b0 _ _ _ hp0) _ s.heap _ _ := I.of lawH_r.symm
  refine lv_icmp_eq (pc := 399) (tgt := 529) hx hb d_L_399 (by decide) (fun _ => ?_) (fun q => absurd rfl q)
  exact go _ _ _ _ _ _ _ _ _ _ hl I hB' (by omega) (by omega)
set_option maxRecDepth 100000 in
set_option maxHeartbeats 4000000 in
theorem L_value (B : BX p m c code 7 s #[Value.ref b] (.initialized RLW :: wsA) RLW meth (some .boolean) D vwCl (tyL dA) b0 Z) (hR : CR b0 K Z) (hk : kc + 1 ≤ 512) (go : Lgo p l e s m below meth c D dA b0 b hp0 i Q (kc + 1) 529) : Lgo p l e s m below meth c D dA b0 b hp0 i Q kc 404 := by
  intro H locs ls S R g sz n cells slots hl I hB hc hs
  obtain ⟨hx, hb, -⟩ := B.1
  obtain ⟨x, R', e1, e2, hB'⟩ := bo_value (N := 200000) (K := K) hB
  refine q_aload_n (pc := 404) (i := 1) (v := .ref b0) hx hb d_L_404 rfl rfl (lx_get hl rfl) ?_
  refine k_callV (pc := 405) (As := []) (rest := []) (b := b0) (z := 1) B hR hl rfl I (c_T_value hR e1) kw_LT_value (by decide) hB.k1 rfl (Nat.le_of_ble_eq_true rfl) (Nat.le_of_ble_eq_true rfl) rfl (by simp) d_L_405 (by show _ ≤ 601024; omega) (by show _ ≤ 7293034; omega) (fun H locs I => ?_)
  refine q_aload_n (pc := 408) (i := 2) (v := .ref (b0 + 5)) hx hb d_L_408 rfl rfl (lx_get hl rfl) ?_
  have I : AI D vwCl b0 (rH dA (b0 + 5) _ (cH dA b0 _ (oH dA b0 hp0 _))) _ s.heap _ _ := I.of lawH_r
  refine r_callL (pc := 409) (As := []) (rest := [.int x]) (h := b0 + 5) B hl rfl I (c_value (RRof hR) e2) kw_LR_value rfl (Nat.le_of_ble_eq_true rfl) (Nat.le_of_ble_eq_true rfl) rfl (by simp [cat_i, cat_r, cat_l]) d_L_409 (by show _ ≤ 601024; omega) (by show _ ≤ 7293034; omega) (fun H locs I => ?_)
  have I : AI D vwCl b0 (lawH dA b0 _ _ _ hp0) _ s.heap _ _ := I.of lawH_r.symm
  refine lv_icmp_eq (pc := 412) (tgt := 529) hx hb d_L_412 (by decide) (fun _ => ?_) (fun q => absurd rfl q)
  exact go _ _ _ _ _ _ _ _ _ _ hl I hB' (by omega) (by omega)
set_option maxRecDepth 100000 in
set_option maxHeartbeats 4000000 in
theorem L_tail_type (B : BX p m c code 7 s #[Value.ref b] (.initialized RLW :: wsA) RLW meth (some .boolean) D vwCl (tyL dA) b0 Z) (hR : CR b0 K Z) {H : Heap} {locs : List Loc} {ls : Array Slot} {S : cS} {R : rS} {g : Nat → Int64} {sz n cells slots : Nat} {k r : Int32} (hk : kc + 1 ≤ 512) (hl : lx ls [some (.ref b), some (.ref b0), some (.ref (b0 + 5)), some (.ref (b0 + 25)), some (.int i), some (.int k), some (.int r)]) (I : AI D vwCl b0 (lawH dA b0 S R g hp0) sz s.heap H locs) (hB : Bo b0 S sz R n) (ht : R.1 0 = k) (hg : k = 0 → g 0 = r.toInt64) (hc : cells + 12 * n ≤ 26 + 113 * (kc + 1)) (hs : slots + 500 * n ≤ 7413 + 4539 * (kc + 1)) (go : Lgo p l e s m below meth c D dA b0 b hp0 i Q (kc + 1) 529) : W p l e room_1 s m #[Value.ref b] below meth c H locs cells slots Q (F0 m 165 ls []) := by
  obtain ⟨hx, hb, -⟩ := B.1
  refine q_aload_n (pc := 165) (i := 2) (v := .ref (b0 + 5)) hx hb d_L_165 rfl rfl (lx_get hl rfl) ?_
  have I : AI D vwCl b0 (rH dA (b0 + 5) _ (cH dA b0 _ (oH dA b0 hp0 _))) _ s.heap _ _ := I.of lawH_r
  refine r_callL (pc := 166) (As := []) (rest := []) (h := b0 + 5) B hl rfl I (c_thrown (N := 0) (RRof hR) rfl) kw_LR_thrown rfl (Nat.le_of_ble_eq_true rfl) (Nat.le_of_ble_eq_true rfl) rfl (by simp [cat_i, cat_r, cat_l]) d_L_166 (by show _ ≤ 601024; omega) (by show _ ≤ 7293034; omega) (fun H locs I => ?_)
  have I : AI D vwCl b0 (lawH dA b0 _ _ _ hp0) _ s.heap _ _ := I.of lawH_r.symm
  refine lv_iload (pc := 169) (i := 5) hx hb d_L_169 (lx_get hl rfl) ?_
  refine lv_icmp_eq (pc := 171) (tgt := 176) hx hb d_L_171 (by decide) (fun _ => ?_) (fun q => absurd ht q)
  refine lv_iload (pc := 176) (i := 5) hx hb d_L_176 (lx_get hl rfl) ?_
  have hl2 := lx_sub (lo' := [some (.ref b), some (.ref b0), some (.ref (b0 + 5)), some (.ref (b0 + 25)), some (.int i), none, none]) hl (by simp [lx_le])
  have fin : W p l e room_1 s m #[Value.ref b] below meth c H locs (cells + 0) (slots + 0) Q (F0 m 193 ls []) := lv_goto (pc := 193) (tgt := 529) hx hb d_L_193 (by decide) (go _ _ _ _ _ _ _ _ _ _ hl2 I hB (by omega) (by omega))
  refine lv_if_ne (pc := 178) (tgt := 193) hx hb d_L_178 (by decide) (fun _ => fin) (fun q => ?_)
  have h0 : g (0 : Int32).toNatClampNeg = r.toInt64 := hg q
  refine q_aload_n (pc := 181) (i := 3) (v := .ref (b0 + 25)) hx hb d_L_181 rfl rfl (lx_get hl rfl) ?_
  refine lv_iconst (pc := 182) (v := 0) hx hb d_L_182 (by decide) ?_
  refine q_lald (pc := 183) (t0 := 4) B I lawH_at rfl (vp_in_iff.mpr (by decide)) d_L_183 ?_
  rw [h0]
  refine lv_iload (pc := 184) (i := 6) hx hb d_L_184 (lx_get hl rfl) ?_
  refine lv_i2l (pc := 186) hx hb d_L_186 rfl ?_
  refine lv_lcmpE (pc := 187) hx hb d_L_187 ?_
  exact lv_if_eq (pc := 188) (tgt := 193) hx hb d_L_188 (by decide) (fun _ => fin) (fun q => absurd rfl q)
set_option maxRecDepth 100000 in
set_option maxHeartbeats 4000000 in
theorem L_mid_type (B : BX p m c code 7 s #[Value.ref b] (.initialized RLW :: wsA) RLW meth (some .boolean) D vwCl (tyL dA) b0 Z) (hR : CR b0 K Z) (hX : va_X b L xs s s.heap) (hbl : b < s.heap.size) (hbb : b < b0) (h1 : vp_in (i + 1) L) (h2 : vp_in (i + 2) L) (h3 : vp_in (i + 3) L) {H : Heap} {locs : List Loc} {ls : Array Slot} {S : cS} {R R' : rS} {g : Nat → Int64} {sz n cells slots : Nat} {k r : Int32} (hk : kc + 1 ≤ 512) (hl : lx ls [some (.ref b), some (.ref b0), some (.ref (b0 + 5)), some (.ref (b0 + 25)), some (.int i), none, none]) (I : AI D vwCl b0 (lawH dA b0 S R g hp0) sz s.heap H locs) (hm : m_type 200000 (((xs (i + 1).toNatClampNeg).toInt64 <<< ((32 : Int32).toInt64 &&& 63)) ||| ((xs (i + 2).toNatClampNeg).toInt64 &&& 4294967295)) (xs (i + 3).toNatClampNeg) R = some (r, R')) (hB : Bo b0 S sz R' n) (ht : R'.1 0 = k) (hg : k = 0 → g 0 = r.toInt64) (hc : cells + 12 * n ≤ 26 + 113 * (kc + 1)) (hs : slots + 500 * n ≤ 7413 + 4539 * (kc + 1)) (go : Lgo p l e s m below meth c D dA b0 b hp0 i Q (kc + 1) 529) : W p l e room_1 s m #[Value.ref b] below meth c H locs cells slots Q (F0 m 129 ls [.int k]) := by
  obtain ⟨hx, hb, -⟩ := B.1
  refine q_istore (pc := 129) (i := 5) (lo' := [some (.ref b), some (.ref b0), some (.ref (b0 + 5)), some (.ref (b0 + 25)), some (.int i), some (.int k), none]) hx hb d_L_129 hl (Nat.le_of_ble_eq_true rfl) (lx_ci rfl) rfl (fun ls hl => ?_)
  refine q_aload_n (pc := 131) (i := 2) (v := .ref (b0 + 5)) hx hb d_L_131 rfl rfl (lx_get hl rfl) ?_
  refine q_aload_n (pc := 132) (i := 0) (v := .ref b) hx hb d_L_132 rfl rfl (lx_get hl rfl) ?_
  refine lv_iload (pc := 133) (i := 4) hx hb d_L_133 (lx_get hl rfl) ?_
  refine lv_iconst (pc := 135) (v := 1) hx hb d_L_135 (by decide) ?_
  refine lv_iadd (pc := 136) hx hb d_L_136 ?_
  refine va_sld (pc := 137) (A := fun q => b0 ≤ q) hx hb hX hbl (by omega) I.2.2.2 h1 d_L_137 ?_
  refine lv_i2l (pc := 138) hx hb d_L_138 rfl ?_
  refine lv_bipush (pc := 139) (v := 32) hx hb d_L_139 (by decide) ?_
  refine lv_lshl (pc := 141) hx hb d_L_141 rfl ?_
  refine q_aload_n (pc := 142) (i := 0) (v := .ref b) hx hb d_L_142 rfl rfl (lx_get hl rfl) ?_
  refine lv_iload (pc := 143) (i := 4) hx hb d_L_143 (lx_get hl rfl) ?_
  refine lv_iconst (pc := 145) (v := 2) hx hb d_L_145 (by decide) ?_
  refine lv_iadd (pc := 146) hx hb d_L_146 ?_
  refine va_sld (pc := 147) (A := fun q => b0 ≤ q) hx hb hX hbl (by omega) I.2.2.2 h2 d_L_147 ?_
  refine lv_i2l (pc := 148) hx hb d_L_148 rfl ?_
  refine lv_ldc2 (pc := 149) (v := 4294967295) hx hb B.1.2.2.2.1 (B.1.2.2.2.2 _ (List.mem_cons_of_mem _ mL_L_40)) d_L_149 ?_
  refine lv_land (pc := 152) hx hb d_L_152 ?_
  refine lv_lor (pc := 153) hx hb d_L_153 ?_
  refine q_aload_n (pc := 154) (i := 0) (v := .ref b) hx hb d_L_154 rfl rfl (lx_get hl rfl) ?_
  refine lv_iload (pc := 155) (i := 4) hx hb d_L_155 (lx_get hl rfl) ?_
  refine lv_iconst (pc := 157) (v := 3) hx hb d_L_157 (by decide) ?_
  refine lv_iadd (pc := 158) hx hb d_L_158 ?_
  refine va_sld (pc := 159) (A := fun q => b0 ≤ q) hx hb hX hbl (by omega) I.2.2.2 h3 d_L_159 ?_
  have I : AI D vwCl b0 (rH dA (b0 + 5) _ (cH dA b0 _ (oH dA b0 hp0 _))) _ s.heap _ _ := I.of lawH_r
  refine r_callL (pc := 160) (As := [.long (((xs (i + 1).toNatClampNeg).toInt64 <<< ((32 : Int32).toInt64 &&& 63)) ||| ((xs (i + 2).toNatClampNeg).toInt64 &&& 4294967295)), .int (xs (i + 3).toNatClampNeg)]) (rest := []) (h := b0 + 5) B hl rfl I (c_type (RRof hR) hm) kw_LR_type rfl (Nat.le_of_ble_eq_true rfl) (Nat.le_of_ble_eq_true rfl) rfl (by simp [cat_i, cat_r, cat_l]) d_L_160 (by show _ ≤ 601024; omega) (by show _ ≤ 7293034; omega) (fun H locs I => ?_)
  have I : AI D vwCl b0 (lawH dA b0 _ _ _ hp0) _ s.heap _ _ := I.of lawH_r.symm
  refine q_istore (pc := 163) (i := 6) (lo' := [some (.ref b), some (.ref b0), some (.ref (b0 + 5)), some (.ref (b0 + 25)), some (.int i), some (.int k), some (.int r)]) hx hb d_L_163 hl (Nat.le_of_ble_eq_true rfl) (lx_ci rfl) rfl (fun ls hl => ?_)
  exact L_tail_type B hR hk hl I hB ht hg (by omega) (by omega) go
set_option maxRecDepth 100000 in
set_option maxHeartbeats 4000000 in
theorem L_type (B : BX p m c code 7 s #[Value.ref b] (.initialized RLW :: wsA) RLW meth (some .boolean) D vwCl (tyL dA) b0 Z) (hR : CR b0 K Z) (hX : va_X b L xs s s.heap) (hbl : b < s.heap.size) (hbb : b < b0) (h1 : vp_in (i + 1) L) (h2 : vp_in (i + 2) L) (h3 : vp_in (i + 3) L) (hfl : l.flags = pinnedFlags ++ [noTraceFlag]) (hk : kc + 1 ≤ 512) (go : Lgo p l e s m below meth c D dA b0 b hp0 i Q (kc + 1) 529) : Lgo p l e s m below meth c D dA b0 b hp0 i Q kc 96 := by
  intro H locs ls S R g sz n cells slots hl I hB hc hs
  obtain ⟨hx, hb, -⟩ := B.1
  refine q_aload_n (pc := 96) (i := 1) (v := .ref b0) hx hb d_L_96 rfl rfl (lx_get hl rfl) ?_
  refine q_aload_n (pc := 97) (i := 0) (v := .ref b) hx hb d_L_97 rfl rfl (lx_get hl rfl) ?_
  refine lv_iload (pc := 98) (i := 4) hx hb d_L_98 (lx_get hl rfl) ?_
  refine lv_iconst (pc := 100) (v := 1) hx hb d_L_100 (by decide) ?_
  refine lv_iadd (pc := 101) hx hb d_L_101 ?_
  refine va_sld (pc := 102) (A := fun q => b0 ≤ q) hx hb hX hbl (by omega) I.2.2.2 h1 d_L_102 ?_
  refine lv_i2l (pc := 103) hx hb d_L_103 rfl ?_
  refine lv_bipush (pc := 104) (v := 32) hx hb d_L_104 (by decide) ?_
  refine lv_lshl (pc := 106) hx hb d_L_106 rfl ?_
  refine q_aload_n (pc := 107) (i := 0) (v := .ref b) hx hb d_L_107 rfl rfl (lx_get hl rfl) ?_
  refine lv_iload (pc := 108) (i := 4) hx hb d_L_108 (lx_get hl rfl) ?_
  refine lv_iconst (pc := 110) (v := 2) hx hb d_L_110 (by decide) ?_
  refine lv_iadd (pc := 111) hx hb d_L_111 ?_
  refine va_sld (pc := 112) (A := fun q => b0 ≤ q) hx hb hX hbl (by omega) I.2.2.2 h2 d_L_112 ?_
  refine lv_i2l (pc := 113) hx hb d_L_113 rfl ?_
  refine lv_ldc2 (pc := 114) (v := 4294967295) hx hb B.1.2.2.2.1 (B.1.2.2.2.2 _ (List.mem_cons_of_mem _ mL_L_40)) d_L_114 ?_
  refine lv_land (pc := 117) hx hb d_L_117 ?_
  refine lv_lor (pc := 118) hx hb d_L_118 ?_
  refine q_aload_n (pc := 119) (i := 0) (v := .ref b) hx hb d_L_119 rfl rfl (lx_get hl rfl) ?_
  refine lv_iload (pc := 120) (i := 4) hx hb d_L_120 (lx_get hl rfl) ?_
  refine lv_iconst (pc := 122) (v := 3) hx hb d_L_122 (by decide) ?_
  refine lv_iadd (pc := 123) hx hb d_L_123 ?_
  refine va_sld (pc := 124) (A := fun q => b0 ≤ q) hx hb hX hbl (by omega) I.2.2.2 h3 d_L_124 ?_
  refine q_aload_n (pc := 125) (i := 3) (v := .ref (b0 + 25)) hx hb d_L_125 rfl rfl (lx_get hl rfl) ?_
  rcases bo_type (N := 200000) (K := K) (by omega) (((xs (i + 1).toNatClampNeg).toInt64 <<< ((32 : Int32).toInt64 &&& 63)) ||| ((xs (i + 2).toNatClampNeg).toInt64 &&& 4294967295)) (xs (i + 3).toNatClampNeg) hB with ⟨r, S', R', n', e1, e2, e3, hB', hn⟩ | ⟨r, R', x, e1, hx1, e2, e3, hB'⟩
  · refine k_callSW (pc := 126) (As := [.ref b0, .long (((xs (i + 1).toNatClampNeg).toInt64 <<< ((32 : Int32).toInt64 &&& 63)) ||| ((xs (i + 2).toNatClampNeg).toInt64 &&& 4294967295)), .int (xs (i + 3).toNatClampNeg), .ref (b0 + 25)]) (rest := []) B hl rfl I (w_type (((xs (i + 1).toNatClampNeg).toInt64 <<< ((32 : Int32).toInt64 &&& 63)) ||| ((xs (i + 2).toNatClampNeg).toInt64 &&& 4294967295)) (xs (i + 3).toNatClampNeg) hR hB.k1 lawH_25 e1) mW_c_type mW_l_type mW_s_type mW_ini (by decide) mW_n_type (Nat.le_of_ble_eq_true rfl) (Nat.le_of_ble_eq_true rfl) rfl (by simp) d_L_126 (by show _ ≤ 601024; omega) (by show _ ≤ 7293034; omega) (fun H locs I => ?_)
    have I : AI D vwCl b0 (lawH dA b0 _ _ _ hp0) _ s.heap _ _ := I.of lawH_o
    exact L_mid_type B hR hX hbl hbb h1 h2 h3 hk hl I e2 hB' e3 (fun _ => va_up_self _ _ _) (by omega) (by omega) go
  · have hx2 : x = 0 ∨ x = 1 := by omega
    rcases hx2 with rfl | rfl
    · refine k_callSW (pc := 126) (As := [.ref b0, .long (((xs (i + 1).toNatClampNeg).toInt64 <<< ((32 : Int32).toInt64 &&& 63)) ||| ((xs (i + 2).toNatClampNeg).toInt64 &&& 4294967295)), .int (xs (i + 3).toNatClampNeg), .ref (b0 + 25)]) (rest := []) B hl rfl I (wt_type_0 (((xs (i + 1).toNatClampNeg).toInt64 <<< ((32 : Int32).toInt64 &&& 63)) ||| ((xs (i + 2).toNatClampNeg).toInt64 &&& 4294967295)) (xs (i + 3).toNatClampNeg) hR hfl hB.k1 e1) mW_c_type mW_l_type mW_s_type mW_ini (by decide) mW_n_type (Nat.le_of_ble_eq_true rfl) (Nat.le_of_ble_eq_true rfl) rfl (by simp) d_L_126 (by show _ ≤ 601024; omega) (by show _ ≤ 7293034; omega) (fun H locs I => ?_)
      exact L_mid_type B hR hX hbl hbb h1 h2 h3 hk hl I e2 (hB'.mono (by omega)) (e3.trans (by decide)) (fun q => absurd q (by decide)) (by omega) (by omega) go
    · refine k_callSW (pc := 126) (As := [.ref b0, .long (((xs (i + 1).toNatClampNeg).toInt64 <<< ((32 : Int32).toInt64 &&& 63)) ||| ((xs (i + 2).toNatClampNeg).toInt64 &&& 4294967295)), .int (xs (i + 3).toNatClampNeg), .ref (b0 + 25)]) (rest := []) B hl rfl I (wt_type_1 (((xs (i + 1).toNatClampNeg).toInt64 <<< ((32 : Int32).toInt64 &&& 63)) ||| ((xs (i + 2).toNatClampNeg).toInt64 &&& 4294967295)) (xs (i + 3).toNatClampNeg) hR hfl hB.k1 e1) mW_c_type mW_l_type mW_s_type mW_ini (by decide) mW_n_type (Nat.le_of_ble_eq_true rfl) (Nat.le_of_ble_eq_true rfl) rfl (by simp) d_L_126 (by show _ ≤ 601024; omega) (by show _ ≤ 7293034; omega) (fun H locs I => ?_)
      exact L_mid_type B hR hX hbl hbb h1 h2 h3 hk hl I e2 (hB'.mono (by omega)) (e3.trans (by decide)) (fun q => absurd q (by decide)) (by omega) (by omega) go
set_option maxRecDepth 100000 in
set_option maxHeartbeats 4000000 in
theorem L_tail_written (B : BX p m c code 7 s #[Value.ref b] (.initialized RLW :: wsA) RLW meth (some .boolean) D vwCl (tyL dA) b0 Z) (hR : CR b0 K Z) {H : Heap} {locs : List Loc} {ls : Array Slot} {S : cS} {R : rS} {g : Nat → Int64} {sz n cells slots : Nat} {k r : Int32} (hk : kc + 1 ≤ 512) (hl : lx ls [some (.ref b), some (.ref b0), some (.ref (b0 + 5)), some (.ref (b0 + 25)), some (.int i), some (.int k), some (.int r)]) (I : AI D vwCl b0 (lawH dA b0 S R g hp0) sz s.heap H locs) (hB : Bo b0 S sz R n) (ht : R.1 0 = k) (hg : k = 0 → g 0 = r.toInt64) (hc : cells + 12 * n ≤ 26 + 113 * (kc + 1)) (hs : slots + 500 * n ≤ 7413 + 4539 * (kc + 1)) (go : Lgo p l e s m below meth c D dA b0 b hp0 i Q (kc + 1) 529) : W p l e room_1 s m #[Value.ref b] below meth c H locs cells slots Q (F0 m 247 ls []) := by
  obtain ⟨hx, hb, -⟩ := B.1
  refine q_aload_n (pc := 247) (i := 2) (v := .ref (b0 + 5)) hx hb d_L_247 rfl rfl (lx_get hl rfl) ?_
  have I : AI D vwCl b0 (rH dA (b0 + 5) _ (cH dA b0 _ (oH dA b0 hp0 _))) _ s.heap _ _ := I.of lawH_r
  refine r_callL (pc := 248) (As := []) (rest := []) (h := b0 + 5) B hl rfl I (c_thrown (N := 0) (RRof hR) rfl) kw_LR_thrown rfl (Nat.le_of_ble_eq_true rfl) (Nat.le_of_ble_eq_true rfl) rfl (by simp [cat_i, cat_r, cat_l]) d_L_248 (by show _ ≤ 601024; omega) (by show _ ≤ 7293034; omega) (fun H locs I => ?_)
  have I : AI D vwCl b0 (lawH dA b0 _ _ _ hp0) _ s.heap _ _ := I.of lawH_r.symm
  refine lv_iload (pc := 251) (i := 5) hx hb d_L_251 (lx_get hl rfl) ?_
  refine lv_icmp_eq (pc := 253) (tgt := 258) hx hb d_L_253 (by decide) (fun _ => ?_) (fun q => absurd ht q)
  refine lv_iload (pc := 258) (i := 5) hx hb d_L_258 (lx_get hl rfl) ?_
  have hl2 := lx_sub (lo' := [some (.ref b), some (.ref b0), some (.ref (b0 + 5)), some (.ref (b0 + 25)), some (.int i), none, none]) hl (by simp [lx_le])
  have fin : W p l e room_1 s m #[Value.ref b] below meth c H locs (cells + 0) (slots + 0) Q (F0 m 275 ls []) := lv_goto (pc := 275) (tgt := 529) hx hb d_L_275 (by decide) (go _ _ _ _ _ _ _ _ _ _ hl2 I hB (by omega) (by omega))
  refine lv_if_ne (pc := 260) (tgt := 275) hx hb d_L_260 (by decide) (fun _ => fin) (fun q => ?_)
  have h0 : g (0 : Int32).toNatClampNeg = r.toInt64 := hg q
  refine q_aload_n (pc := 263) (i := 3) (v := .ref (b0 + 25)) hx hb d_L_263 rfl rfl (lx_get hl rfl) ?_
  refine lv_iconst (pc := 264) (v := 0) hx hb d_L_264 (by decide) ?_
  refine q_lald (pc := 265) (t0 := 4) B I lawH_at rfl (vp_in_iff.mpr (by decide)) d_L_265 ?_
  rw [h0]
  refine lv_iload (pc := 266) (i := 6) hx hb d_L_266 (lx_get hl rfl) ?_
  refine lv_i2l (pc := 268) hx hb d_L_268 rfl ?_
  refine lv_lcmpE (pc := 269) hx hb d_L_269 ?_
  exact lv_if_eq (pc := 270) (tgt := 275) hx hb d_L_270 (by decide) (fun _ => fin) (fun q => absurd rfl q)
set_option maxRecDepth 100000 in
set_option maxHeartbeats 4000000 in
theorem L_mid_written (B : BX p m c code 7 s #[Value.ref b] (.initialized RLW :: wsA) RLW meth (some .boolean) D vwCl (tyL dA) b0 Z) (hR : CR b0 K Z) (hX : va_X b L xs s s.heap) (hbl : b < s.heap.size) (hbb : b < b0) (h1 : vp_in (i + 1) L) {H : Heap} {locs : List Loc} {ls : Array Slot} {S : cS} {R R' : rS} {g : Nat → Int64} {sz n cells slots : Nat} {k r : Int32} (hk : kc + 1 ≤ 512) (hl : lx ls [some (.ref b), some (.ref b0), some (.ref (b0 + 5)), some (.ref (b0 + 25)), some (.int i), none, none]) (I : AI D vwCl b0 (lawH dA b0 S R g hp0) sz s.heap H locs) (hm : m_written 200000 (xs (i + 1).toNatClampNeg) R = some (r, R')) (hB : Bo b0 S sz R' n) (ht : R'.1 0 = k) (hg : k = 0 → g 0 = r.toInt64) (hc : cells + 12 * n ≤ 26 + 113 * (kc + 1)) (hs : slots + 500 * n ≤ 7413 + 4539 * (kc + 1)) (go : Lgo p l e s m below meth c D dA b0 b hp0 i Q (kc + 1) 529) : W p l e room_1 s m #[Value.ref b] below meth c H locs cells slots Q (F0 m 233 ls [.int k]) := by
  obtain ⟨hx, hb, -⟩ := B.1
  refine q_istore (pc := 233) (i := 5) (lo' := [some (.ref b), some (.ref b0), some (.ref (b0 + 5)), some (.ref (b0 + 25)), some (.int i), some (.int k), none]) hx hb d_L_233 hl (Nat.le_of_ble_eq_true rfl) (lx_ci rfl) rfl (fun ls hl => ?_)
  refine q_aload_n (pc := 235) (i := 2) (v := .ref (b0 + 5)) hx hb d_L_235 rfl rfl (lx_get hl rfl) ?_
  refine q_aload_n (pc := 236) (i := 0) (v := .ref b) hx hb d_L_236 rfl rfl (lx_get hl rfl) ?_
  refine lv_iload (pc := 237) (i := 4) hx hb d_L_237 (lx_get hl rfl) ?_
  refine lv_iconst (pc := 239) (v := 1) hx hb d_L_239 (by decide) ?_
  refine lv_iadd (pc := 240) hx hb d_L_240 ?_
  refine va_sld (pc := 241) (A := fun q => b0 ≤ q) hx hb hX hbl (by omega) I.2.2.2 h1 d_L_241 ?_
  have I : AI D vwCl b0 (rH dA (b0 + 5) _ (cH dA b0 _ (oH dA b0 hp0 _))) _ s.heap _ _ := I.of lawH_r
  refine r_callL (pc := 242) (As := [.int (xs (i + 1).toNatClampNeg)]) (rest := []) (h := b0 + 5) B hl rfl I (c_written (RRof hR) hm) kw_LR_written rfl (Nat.le_of_ble_eq_true rfl) (Nat.le_of_ble_eq_true rfl) rfl (by simp [cat_i, cat_r, cat_l]) d_L_242 (by show _ ≤ 601024; omega) (by show _ ≤ 7293034; omega) (fun H locs I => ?_)
  have I : AI D vwCl b0 (lawH dA b0 _ _ _ hp0) _ s.heap _ _ := I.of lawH_r.symm
  refine q_istore (pc := 245) (i := 6) (lo' := [some (.ref b), some (.ref b0), some (.ref (b0 + 5)), some (.ref (b0 + 25)), some (.int i), some (.int k), some (.int r)]) hx hb d_L_245 hl (Nat.le_of_ble_eq_true rfl) (lx_ci rfl) rfl (fun ls hl => ?_)
  exact L_tail_written B hR hk hl I hB ht hg (by omega) (by omega) go
set_option maxRecDepth 100000 in
set_option maxHeartbeats 4000000 in
theorem L_written (B : BX p m c code 7 s #[Value.ref b] (.initialized RLW :: wsA) RLW meth (some .boolean) D vwCl (tyL dA) b0 Z) (hR : CR b0 K Z) (hX : va_X b L xs s s.heap) (hbl : b < s.heap.size) (hbb : b < b0) (h1 : vp_in (i + 1) L) (hfl : l.flags = pinnedFlags ++ [noTraceFlag]) (hk : kc + 1 ≤ 512) (go : Lgo p l e s m below meth c D dA b0 b hp0 i Q (kc + 1) 529) : Lgo p l e s m below meth c D dA b0 b hp0 i Q kc 222 := by
  intro H locs ls S R g sz n cells slots hl I hB hc hs
  obtain ⟨hx, hb, -⟩ := B.1
  refine q_aload_n (pc := 222) (i := 1) (v := .ref b0) hx hb d_L_222 rfl rfl (lx_get hl rfl) ?_
  refine q_aload_n (pc := 223) (i := 0) (v := .ref b) hx hb d_L_223 rfl rfl (lx_get hl rfl) ?_
  refine lv_iload (pc := 224) (i := 4) hx hb d_L_224 (lx_get hl rfl) ?_
  refine lv_iconst (pc := 226) (v := 1) hx hb d_L_226 (by decide) ?_
  refine lv_iadd (pc := 227) hx hb d_L_227 ?_
  refine va_sld (pc := 228) (A := fun q => b0 ≤ q) hx hb hX hbl (by omega) I.2.2.2 h1 d_L_228 ?_
  refine q_aload_n (pc := 229) (i := 3) (v := .ref (b0 + 25)) hx hb d_L_229 rfl rfl (lx_get hl rfl) ?_
  rcases bo_written (N := 200000) (K := K) (xs (i + 1).toNatClampNeg) hB with ⟨r, R', e1, e2, e3, hB'⟩ | ⟨r, R', e1, e2, e3, hB'⟩
  · refine k_callSW (pc := 230) (As := [.ref b0, .int (xs (i + 1).toNatClampNeg), .ref (b0 + 25)]) (rest := []) B hl rfl I (w_written (S' := S) (xs (i + 1).toNatClampNeg) hR hB.k1 lawH_25 e1) mW_c_written mW_l_written mW_s_written mW_ini (by decide) mW_n_written (Nat.le_of_ble_eq_true rfl) (Nat.le_of_ble_eq_true rfl) rfl (by simp) d_L_230 (by show _ ≤ 601024; omega) (by show _ ≤ 7293034; omega) (fun H locs I => ?_)
    have I : AI D vwCl b0 (lawH dA b0 _ _ _ hp0) _ s.heap _ _ := I.of lawH_o
    exact L_mid_written B hR hX hbl hbb h1 hk hl I e2 hB' e3 (fun _ => va_up_self _ _ _) (by omega) (by omega) go
  · refine k_callSW (pc := 230) (As := [.ref b0, .int (xs (i + 1).toNatClampNeg), .ref (b0 + 25)]) (rest := []) B hl rfl I (wt_written_2 (xs (i + 1).toNatClampNeg) hR hfl hB.k1 e1) mW_c_written mW_l_written mW_s_written mW_ini (by decide) mW_n_written (Nat.le_of_ble_eq_true rfl) (Nat.le_of_ble_eq_true rfl) rfl (by simp) d_L_230 (by show _ ≤ 601024; omega) (by show _ ≤ 7293034; omega) (fun H locs I => ?_)
    exact L_mid_written B hR hX hbl hbb h1 hk hl I e2 (hB'.mono (by omega)) (e3) (fun q => absurd q (by decide)) (by omega) (by omega) go
set_option maxRecDepth 100000 in
set_option maxHeartbeats 4000000 in
theorem L_tail_down (B : BX p m c code 7 s #[Value.ref b] (.initialized RLW :: wsA) RLW meth (some .boolean) D vwCl (tyL dA) b0 Z) (hR : CR b0 K Z) {H : Heap} {locs : List Loc} {ls : Array Slot} {S : cS} {R : rS} {g : Nat → Int64} {sz n cells slots : Nat} {k r : Int32} (hk : kc + 1 ≤ 512) (hl : lx ls [some (.ref b), some (.ref b0), some (.ref (b0 + 5)), some (.ref (b0 + 25)), some (.int i), some (.int k), some (.int r)]) (I : AI D vwCl b0 (lawH dA b0 S R g hp0) sz s.heap H locs) (hB : Bo b0 S sz R n) (ht : R.1 0 = k) (hg : k = 0 → g 0 = r.toInt64) (hc : cells + 12 * n ≤ 26 + 113 * (kc + 1)) (hs : slots + 500 * n ≤ 7413 + 4539 * (kc + 1)) (go : Lgo p l e s m below meth c D dA b0 b hp0 i Q (kc + 1) 529) : W p l e room_1 s m #[Value.ref b] below meth c H locs cells slots Q (F0 m 316 ls []) := by
  obtain ⟨hx, hb, -⟩ := B.1
  refine q_aload_n (pc := 316) (i := 2) (v := .ref (b0 + 5)) hx hb d_L_316 rfl rfl (lx_get hl rfl) ?_
  have I : AI D vwCl b0 (rH dA (b0 + 5) _ (cH dA b0 _ (oH dA b0 hp0 _))) _ s.heap _ _ := I.of lawH_r
  refine r_callL (pc := 317) (As := []) (rest := []) (h := b0 + 5) B hl rfl I (c_thrown (N := 0) (RRof hR) rfl) kw_LR_thrown rfl (Nat.le_of_ble_eq_true rfl) (Nat.le_of_ble_eq_true rfl) rfl (by simp [cat_i, cat_r, cat_l]) d_L_317 (by show _ ≤ 601024; omega) (by show _ ≤ 7293034; omega) (fun H locs I => ?_)
  have I : AI D vwCl b0 (lawH dA b0 _ _ _ hp0) _ s.heap _ _ := I.of lawH_r.symm
  refine lv_iload (pc := 320) (i := 5) hx hb d_L_320 (lx_get hl rfl) ?_
  refine lv_icmp_eq (pc := 322) (tgt := 327) hx hb d_L_322 (by decide) (fun _ => ?_) (fun q => absurd ht q)
  refine lv_iload (pc := 327) (i := 5) hx hb d_L_327 (lx_get hl rfl) ?_
  have hl2 := lx_sub (lo' := [some (.ref b), some (.ref b0), some (.ref (b0 + 5)), some (.ref (b0 + 25)), some (.int i), none, none]) hl (by simp [lx_le])
  have fin : W p l e room_1 s m #[Value.ref b] below meth c H locs (cells + 0) (slots + 0) Q (F0 m 344 ls []) := lv_goto (pc := 344) (tgt := 529) hx hb d_L_344 (by decide) (go _ _ _ _ _ _ _ _ _ _ hl2 I hB (by omega) (by omega))
  refine lv_if_ne (pc := 329) (tgt := 344) hx hb d_L_329 (by decide) (fun _ => fin) (fun q => ?_)
  have h0 : g (0 : Int32).toNatClampNeg = r.toInt64 := hg q
  refine q_aload_n (pc := 332) (i := 3) (v := .ref (b0 + 25)) hx hb d_L_332 rfl rfl (lx_get hl rfl) ?_
  refine lv_iconst (pc := 333) (v := 0) hx hb d_L_333 (by decide) ?_
  refine q_lald (pc := 334) (t0 := 4) B I lawH_at rfl (vp_in_iff.mpr (by decide)) d_L_334 ?_
  rw [h0]
  refine lv_iload (pc := 335) (i := 6) hx hb d_L_335 (lx_get hl rfl) ?_
  refine lv_i2l (pc := 337) hx hb d_L_337 rfl ?_
  refine lv_lcmpE (pc := 338) hx hb d_L_338 ?_
  exact lv_if_eq (pc := 339) (tgt := 344) hx hb d_L_339 (by decide) (fun _ => fin) (fun q => absurd rfl q)
set_option maxRecDepth 100000 in
set_option maxHeartbeats 4000000 in
theorem L_mid_down (B : BX p m c code 7 s #[Value.ref b] (.initialized RLW :: wsA) RLW meth (some .boolean) D vwCl (tyL dA) b0 Z) (hR : CR b0 K Z) (hX : va_X b L xs s s.heap) (hbl : b < s.heap.size) (hbb : b < b0) (h1 : vp_in (i + 1) L) {H : Heap} {locs : List Loc} {ls : Array Slot} {S : cS} {R R' : rS} {g : Nat → Int64} {sz n cells slots : Nat} {k r : Int32} (hk : kc + 1 ≤ 512) (hl : lx ls [some (.ref b), some (.ref b0), some (.ref (b0 + 5)), some (.ref (b0 + 25)), some (.int i), none, none]) (I : AI D vwCl b0 (lawH dA b0 S R g hp0) sz s.heap H locs) (hm : m_down 200000 (xs (i + 1).toNatClampNeg) R = some (r, R')) (hB : Bo b0 S sz R' n) (ht : R'.1 0 = k) (hg : k = 0 → g 0 = r.toInt64) (hc : cells + 12 * n ≤ 26 + 113 * (kc + 1)) (hs : slots + 500 * n ≤ 7413 + 4539 * (kc + 1)) (go : Lgo p l e s m below meth c D dA b0 b hp0 i Q (kc + 1) 529) : W p l e room_1 s m #[Value.ref b] below meth c H locs cells slots Q (F0 m 302 ls [.int k]) := by
  obtain ⟨hx, hb, -⟩ := B.1
  refine q_istore (pc := 302) (i := 5) (lo' := [some (.ref b), some (.ref b0), some (.ref (b0 + 5)), some (.ref (b0 + 25)), some (.int i), some (.int k), none]) hx hb d_L_302 hl (Nat.le_of_ble_eq_true rfl) (lx_ci rfl) rfl (fun ls hl => ?_)
  refine q_aload_n (pc := 304) (i := 2) (v := .ref (b0 + 5)) hx hb d_L_304 rfl rfl (lx_get hl rfl) ?_
  refine q_aload_n (pc := 305) (i := 0) (v := .ref b) hx hb d_L_305 rfl rfl (lx_get hl rfl) ?_
  refine lv_iload (pc := 306) (i := 4) hx hb d_L_306 (lx_get hl rfl) ?_
  refine lv_iconst (pc := 308) (v := 1) hx hb d_L_308 (by decide) ?_
  refine lv_iadd (pc := 309) hx hb d_L_309 ?_
  refine va_sld (pc := 310) (A := fun q => b0 ≤ q) hx hb hX hbl (by omega) I.2.2.2 h1 d_L_310 ?_
  have I : AI D vwCl b0 (rH dA (b0 + 5) _ (cH dA b0 _ (oH dA b0 hp0 _))) _ s.heap _ _ := I.of lawH_r
  refine r_callL (pc := 311) (As := [.int (xs (i + 1).toNatClampNeg)]) (rest := []) (h := b0 + 5) B hl rfl I (c_down (RRof hR) hm) kw_LR_down rfl (Nat.le_of_ble_eq_true rfl) (Nat.le_of_ble_eq_true rfl) rfl (by simp [cat_i, cat_r, cat_l]) d_L_311 (by show _ ≤ 601024; omega) (by show _ ≤ 7293034; omega) (fun H locs I => ?_)
  have I : AI D vwCl b0 (lawH dA b0 _ _ _ hp0) _ s.heap _ _ := I.of lawH_r.symm
  refine q_istore (pc := 314) (i := 6) (lo' := [some (.ref b), some (.ref b0), some (.ref (b0 + 5)), some (.ref (b0 + 25)), some (.int i), some (.int k), some (.int r)]) hx hb d_L_314 hl (Nat.le_of_ble_eq_true rfl) (lx_ci rfl) rfl (fun ls hl => ?_)
  exact L_tail_down B hR hk hl I hB ht hg (by omega) (by omega) go
set_option maxRecDepth 100000 in
set_option maxHeartbeats 4000000 in
theorem L_down (B : BX p m c code 7 s #[Value.ref b] (.initialized RLW :: wsA) RLW meth (some .boolean) D vwCl (tyL dA) b0 Z) (hR : CR b0 K Z) (hX : va_X b L xs s s.heap) (hbl : b < s.heap.size) (hbb : b < b0) (h1 : vp_in (i + 1) L) (hfl : l.flags = pinnedFlags ++ [noTraceFlag]) (hk : kc + 1 ≤ 512) (go : Lgo p l e s m below meth c D dA b0 b hp0 i Q (kc + 1) 529) : Lgo p l e s m below meth c D dA b0 b hp0 i Q kc 291 := by
  intro H locs ls S R g sz n cells slots hl I hB hc hs
  obtain ⟨hx, hb, -⟩ := B.1
  refine q_aload_n (pc := 291) (i := 1) (v := .ref b0) hx hb d_L_291 rfl rfl (lx_get hl rfl) ?_
  refine q_aload_n (pc := 292) (i := 0) (v := .ref b) hx hb d_L_292 rfl rfl (lx_get hl rfl) ?_
  refine lv_iload (pc := 293) (i := 4) hx hb d_L_293 (lx_get hl rfl) ?_
  refine lv_iconst (pc := 295) (v := 1) hx hb d_L_295 (by decide) ?_
  refine lv_iadd (pc := 296) hx hb d_L_296 ?_
  refine va_sld (pc := 297) (A := fun q => b0 ≤ q) hx hb hX hbl (by omega) I.2.2.2 h1 d_L_297 ?_
  refine q_aload_n (pc := 298) (i := 3) (v := .ref (b0 + 25)) hx hb d_L_298 rfl rfl (lx_get hl rfl) ?_
  rcases bo_down (N := 200000) (K := K) (by omega) (xs (i + 1).toNatClampNeg) hB with ⟨r, S', R', e1, e2, e3, hB'⟩ | ⟨r, R', e1, e2, e3, hB'⟩
  · refine k_callSW (pc := 299) (As := [.ref b0, .int (xs (i + 1).toNatClampNeg), .ref (b0 + 25)]) (rest := []) B hl rfl I (w_down (xs (i + 1).toNatClampNeg) hR hB.k1 lawH_25 e1) mW_c_down mW_l_down mW_s_down mW_ini (by decide) mW_n_down (Nat.le_of_ble_eq_true rfl) (Nat.le_of_ble_eq_true rfl) rfl (by simp) d_L_299 (by show _ ≤ 601024; omega) (by show _ ≤ 7293034; omega) (fun H locs I => ?_)
    have I : AI D vwCl b0 (lawH dA b0 _ _ _ hp0) _ s.heap _ _ := I.of lawH_o
    exact L_mid_down B hR hX hbl hbb h1 hk hl I e2 hB' e3 (fun _ => va_up_self _ _ _) (by omega) (by omega) go
  · refine k_callSW (pc := 299) (As := [.ref b0, .int (xs (i + 1).toNatClampNeg), .ref (b0 + 25)]) (rest := []) B hl rfl I (wt_down_2 (xs (i + 1).toNatClampNeg) hR hfl hB.k1 e1) mW_c_down mW_l_down mW_s_down mW_ini (by decide) mW_n_down (Nat.le_of_ble_eq_true rfl) (Nat.le_of_ble_eq_true rfl) rfl (by simp) d_L_299 (by show _ ≤ 601024; omega) (by show _ ≤ 7293034; omega) (fun H locs I => ?_)
    exact L_mid_down B hR hX hbl hbb h1 hk hl I e2 (hB'.mono (by omega)) (e3) (fun q => absurd q (by decide)) (by omega) (by omega) go
set_option maxRecDepth 100000 in
set_option maxHeartbeats 4000000 in
theorem L_tail_up (B : BX p m c code 7 s #[Value.ref b] (.initialized RLW :: wsA) RLW meth (some .boolean) D vwCl (tyL dA) b0 Z) (hR : CR b0 K Z) {H : Heap} {locs : List Loc} {ls : Array Slot} {S : cS} {R : rS} {g : Nat → Int64} {sz n cells slots : Nat} {k r : Int32} (hk : kc + 1 ≤ 512) (hl : lx ls [some (.ref b), some (.ref b0), some (.ref (b0 + 5)), some (.ref (b0 + 25)), some (.int i), some (.int k), some (.int r)]) (I : AI D vwCl b0 (lawH dA b0 S R g hp0) sz s.heap H locs) (hB : Bo b0 S sz R n) (ht : R.1 0 = k) (hg : k = 0 → g 0 = r.toInt64) (hc : cells + 12 * n ≤ 26 + 113 * (kc + 1)) (hs : slots + 500 * n ≤ 7413 + 4539 * (kc + 1)) (go : Lgo p l e s m below meth c D dA b0 b hp0 i Q (kc + 1) 529) : W p l e room_1 s m #[Value.ref b] below meth c H locs cells slots Q (F0 m 360 ls []) := by
  obtain ⟨hx, hb, -⟩ := B.1
  refine q_aload_n (pc := 360) (i := 2) (v := .ref (b0 + 5)) hx hb d_L_360 rfl rfl (lx_get hl rfl) ?_
  have I : AI D vwCl b0 (rH dA (b0 + 5) _ (cH dA b0 _ (oH dA b0 hp0 _))) _ s.heap _ _ := I.of lawH_r
  refine r_callL (pc := 361) (As := []) (rest := []) (h := b0 + 5) B hl rfl I (c_thrown (N := 0) (RRof hR) rfl) kw_LR_thrown rfl (Nat.le_of_ble_eq_true rfl) (Nat.le_of_ble_eq_true rfl) rfl (by simp [cat_i, cat_r, cat_l]) d_L_361 (by show _ ≤ 601024; omega) (by show _ ≤ 7293034; omega) (fun H locs I => ?_)
  have I : AI D vwCl b0 (lawH dA b0 _ _ _ hp0) _ s.heap _ _ := I.of lawH_r.symm
  refine lv_iload (pc := 364) (i := 5) hx hb d_L_364 (lx_get hl rfl) ?_
  refine lv_icmp_eq (pc := 366) (tgt := 371) hx hb d_L_366 (by decide) (fun _ => ?_) (fun q => absurd ht q)
  refine lv_iload (pc := 371) (i := 5) hx hb d_L_371 (lx_get hl rfl) ?_
  have hl2 := lx_sub (lo' := [some (.ref b), some (.ref b0), some (.ref (b0 + 5)), some (.ref (b0 + 25)), some (.int i), none, none]) hl (by simp [lx_le])
  have fin : W p l e room_1 s m #[Value.ref b] below meth c H locs (cells + 0) (slots + 0) Q (F0 m 388 ls []) := lv_goto (pc := 388) (tgt := 529) hx hb d_L_388 (by decide) (go _ _ _ _ _ _ _ _ _ _ hl2 I hB (by omega) (by omega))
  refine lv_if_ne (pc := 373) (tgt := 388) hx hb d_L_373 (by decide) (fun _ => fin) (fun q => ?_)
  have h0 : g (0 : Int32).toNatClampNeg = r.toInt64 := hg q
  refine q_aload_n (pc := 376) (i := 3) (v := .ref (b0 + 25)) hx hb d_L_376 rfl rfl (lx_get hl rfl) ?_
  refine lv_iconst (pc := 377) (v := 0) hx hb d_L_377 (by decide) ?_
  refine q_lald (pc := 378) (t0 := 4) B I lawH_at rfl (vp_in_iff.mpr (by decide)) d_L_378 ?_
  rw [h0]
  refine lv_iload (pc := 379) (i := 6) hx hb d_L_379 (lx_get hl rfl) ?_
  refine lv_i2l (pc := 381) hx hb d_L_381 rfl ?_
  refine lv_lcmpE (pc := 382) hx hb d_L_382 ?_
  exact lv_if_eq (pc := 383) (tgt := 388) hx hb d_L_383 (by decide) (fun _ => fin) (fun q => absurd rfl q)
set_option maxRecDepth 100000 in
set_option maxHeartbeats 4000000 in
theorem L_mid_up (B : BX p m c code 7 s #[Value.ref b] (.initialized RLW :: wsA) RLW meth (some .boolean) D vwCl (tyL dA) b0 Z) (hR : CR b0 K Z) {H : Heap} {locs : List Loc} {ls : Array Slot} {S : cS} {R R' : rS} {g : Nat → Int64} {sz n cells slots : Nat} {k r : Int32} (hk : kc + 1 ≤ 512) (hl : lx ls [some (.ref b), some (.ref b0), some (.ref (b0 + 5)), some (.ref (b0 + 25)), some (.int i), none, none]) (I : AI D vwCl b0 (lawH dA b0 S R g hp0) sz s.heap H locs) (hm : m_up 200000  R = some (r, R')) (hB : Bo b0 S sz R' n) (ht : R'.1 0 = k) (hg : k = 0 → g 0 = r.toInt64) (hc : cells + 12 * n ≤ 26 + 113 * (kc + 1)) (hs : slots + 500 * n ≤ 7413 + 4539 * (kc + 1)) (go : Lgo p l e s m below meth c D dA b0 b hp0 i Q (kc + 1) 529) : W p l e room_1 s m #[Value.ref b] below meth c H locs cells slots Q (F0 m 352 ls [.int k]) := by
  obtain ⟨hx, hb, -⟩ := B.1
  refine q_istore (pc := 352) (i := 5) (lo' := [some (.ref b), some (.ref b0), some (.ref (b0 + 5)), some (.ref (b0 + 25)), some (.int i), some (.int k), none]) hx hb d_L_352 hl (Nat.le_of_ble_eq_true rfl) (lx_ci rfl) rfl (fun ls hl => ?_)
  refine q_aload_n (pc := 354) (i := 2) (v := .ref (b0 + 5)) hx hb d_L_354 rfl rfl (lx_get hl rfl) ?_
  have I : AI D vwCl b0 (rH dA (b0 + 5) _ (cH dA b0 _ (oH dA b0 hp0 _))) _ s.heap _ _ := I.of lawH_r
  refine r_callL (pc := 355) (As := []) (rest := []) (h := b0 + 5) B hl rfl I (c_up (RRof hR) hm) kw_LR_up rfl (Nat.le_of_ble_eq_true rfl) (Nat.le_of_ble_eq_true rfl) rfl (by simp [cat_i, cat_r, cat_l]) d_L_355 (by show _ ≤ 601024; omega) (by show _ ≤ 7293034; omega) (fun H locs I => ?_)
  have I : AI D vwCl b0 (lawH dA b0 _ _ _ hp0) _ s.heap _ _ := I.of lawH_r.symm
  refine q_istore (pc := 358) (i := 6) (lo' := [some (.ref b), some (.ref b0), some (.ref (b0 + 5)), some (.ref (b0 + 25)), some (.int i), some (.int k), some (.int r)]) hx hb d_L_358 hl (Nat.le_of_ble_eq_true rfl) (lx_ci rfl) rfl (fun ls hl => ?_)
  exact L_tail_up B hR hk hl I hB ht hg (by omega) (by omega) go
set_option maxRecDepth 100000 in
set_option maxHeartbeats 4000000 in
theorem L_up (B : BX p m c code 7 s #[Value.ref b] (.initialized RLW :: wsA) RLW meth (some .boolean) D vwCl (tyL dA) b0 Z) (hR : CR b0 K Z) (hfl : l.flags = pinnedFlags ++ [noTraceFlag]) (hk : kc + 1 ≤ 512) (go : Lgo p l e s m below meth c D dA b0 b hp0 i Q (kc + 1) 529) : Lgo p l e s m below meth c D dA b0 b hp0 i Q kc 347 := by
  intro H locs ls S R g sz n cells slots hl I hB hc hs
  obtain ⟨hx, hb, -⟩ := B.1
  refine q_aload_n (pc := 347) (i := 1) (v := .ref b0) hx hb d_L_347 rfl rfl (lx_get hl rfl) ?_
  refine q_aload_n (pc := 348) (i := 3) (v := .ref (b0 + 25)) hx hb d_L_348 rfl rfl (lx_get hl rfl) ?_
  rcases bo_up (N := 200000) (K := K)  hB with ⟨r, S', R', e1, e2, e3, hB'⟩ | ⟨r, R', e1, e2, e3, hB'⟩
  · refine k_callSW (pc := 349) (As := [.ref b0, .ref (b0 + 25)]) (rest := []) B hl rfl I (w_up  hR hB.k1 lawH_25 e1) mW_c_up mW_l_up mW_s_up mW_ini (by decide) mW_n_up (Nat.le_of_ble_eq_true rfl) (Nat.le_of_ble_eq_true rfl) rfl (by simp) d_L_349 (by show _ ≤ 601024; omega) (by show _ ≤ 7293034; omega) (fun H locs I => ?_)
    have I : AI D vwCl b0 (lawH dA b0 _ _ _ hp0) _ s.heap _ _ := I.of lawH_o
    exact L_mid_up B hR hk hl I e2 hB' e3 (fun _ => va_up_self _ _ _) (by omega) (by omega) go
  · refine k_callSW (pc := 349) (As := [.ref b0, .ref (b0 + 25)]) (rest := []) B hl rfl I (wt_up  hR hfl hB.k1 e1) mW_c_up mW_l_up mW_s_up mW_ini (by decide) mW_n_up (Nat.le_of_ble_eq_true rfl) (Nat.le_of_ble_eq_true rfl) rfl (by simp) d_L_349 (by show _ ≤ 601024; omega) (by show _ ≤ 7293034; omega) (fun H locs I => ?_)
    exact L_mid_up B hR hk hl I e2 (hB'.mono (by omega)) (e3) (fun q => absurd q (by decide)) (by omega) (by omega) go
set_option maxRecDepth 100000 in
set_option maxHeartbeats 4000000 in
theorem L_tail_letter (B : BX p m c code 7 s #[Value.ref b] (.initialized RLW :: wsA) RLW meth (some .boolean) D vwCl (tyL dA) b0 Z) (hR : CR b0 K Z) {H : Heap} {locs : List Loc} {ls : Array Slot} {S : cS} {R : rS} {g : Nat → Int64} {sz n cells slots : Nat} {k r : Int32} (hk : kc + 1 ≤ 512) (hl : lx ls [some (.ref b), some (.ref b0), some (.ref (b0 + 5)), some (.ref (b0 + 25)), some (.int i), some (.int k), some (.int r)]) (I : AI D vwCl b0 (lawH dA b0 S R g hp0) sz s.heap H locs) (hB : Bo b0 S sz R n) (ht : R.1 0 = k) (hg : k = 0 → g 0 = r.toInt64) (hc : cells + 12 * n ≤ 26 + 113 * (kc + 1)) (hs : slots + 500 * n ≤ 7413 + 4539 * (kc + 1)) (go : Lgo p l e s m below meth c D dA b0 b hp0 i Q (kc + 1) 529) : W p l e room_1 s m #[Value.ref b] below meth c H locs cells slots Q (F0 m 442 ls []) := by
  obtain ⟨hx, hb, -⟩ := B.1
  refine q_aload_n (pc := 442) (i := 2) (v := .ref (b0 + 5)) hx hb d_L_442 rfl rfl (lx_get hl rfl) ?_
  have I : AI D vwCl b0 (rH dA (b0 + 5) _ (cH dA b0 _ (oH dA b0 hp0 _))) _ s.heap _ _ := I.of lawH_r
  refine r_callL (pc := 443) (As := []) (rest := []) (h := b0 + 5) B hl rfl I (c_thrown (N := 0) (RRof hR) rfl) kw_LR_thrown rfl (Nat.le_of_ble_eq_true rfl) (Nat.le_of_ble_eq_true rfl) rfl (by simp [cat_i, cat_r, cat_l]) d_L_443 (by show _ ≤ 601024; omega) (by show _ ≤ 7293034; omega) (fun H locs I => ?_)
  have I : AI D vwCl b0 (lawH dA b0 _ _ _ hp0) _ s.heap _ _ := I.of lawH_r.symm
  refine lv_iload (pc := 446) (i := 5) hx hb d_L_446 (lx_get hl rfl) ?_
  refine lv_icmp_eq (pc := 448) (tgt := 453) hx hb d_L_448 (by decide) (fun _ => ?_) (fun q => absurd ht q)
  refine lv_iload (pc := 453) (i := 5) hx hb d_L_453 (lx_get hl rfl) ?_
  have hl2 := lx_sub (lo' := [some (.ref b), some (.ref b0), some (.ref (b0 + 5)), some (.ref (b0 + 25)), some (.int i), none, none]) hl (by simp [lx_le])
  have fin : W p l e room_1 s m #[Value.ref b] below meth c H locs (cells + 0) (slots + 0) Q (F0 m 470 ls []) := lv_goto (pc := 470) (tgt := 529) hx hb d_L_470 (by decide) (go _ _ _ _ _ _ _ _ _ _ hl2 I hB (by omega) (by omega))
  refine lv_if_ne (pc := 455) (tgt := 470) hx hb d_L_455 (by decide) (fun _ => fin) (fun q => ?_)
  have h0 : g (0 : Int32).toNatClampNeg = r.toInt64 := hg q
  refine q_aload_n (pc := 458) (i := 3) (v := .ref (b0 + 25)) hx hb d_L_458 rfl rfl (lx_get hl rfl) ?_
  refine lv_iconst (pc := 459) (v := 0) hx hb d_L_459 (by decide) ?_
  refine q_lald (pc := 460) (t0 := 4) B I lawH_at rfl (vp_in_iff.mpr (by decide)) d_L_460 ?_
  rw [h0]
  refine lv_iload (pc := 461) (i := 6) hx hb d_L_461 (lx_get hl rfl) ?_
  refine lv_i2l (pc := 463) hx hb d_L_463 rfl ?_
  refine lv_lcmpE (pc := 464) hx hb d_L_464 ?_
  exact lv_if_eq (pc := 465) (tgt := 470) hx hb d_L_465 (by decide) (fun _ => fin) (fun q => absurd rfl q)
set_option maxRecDepth 100000 in
set_option maxHeartbeats 4000000 in
theorem L_mid_letter (B : BX p m c code 7 s #[Value.ref b] (.initialized RLW :: wsA) RLW meth (some .boolean) D vwCl (tyL dA) b0 Z) (hR : CR b0 K Z) (hX : va_X b L xs s s.heap) (hbl : b < s.heap.size) (hbb : b < b0) (h1 : vp_in (i + 1) L) {H : Heap} {locs : List Loc} {ls : Array Slot} {S : cS} {R R' : rS} {g : Nat → Int64} {sz n cells slots : Nat} {k r : Int32} (hk : kc + 1 ≤ 512) (hl : lx ls [some (.ref b), some (.ref b0), some (.ref (b0 + 5)), some (.ref (b0 + 25)), some (.int i), none, none]) (I : AI D vwCl b0 (lawH dA b0 S R g hp0) sz s.heap H locs) (hm : m_letter 200000 (xs (i + 1).toNatClampNeg) R = some (r, R')) (hB : Bo b0 S sz R' n) (ht : R'.1 0 = k) (hg : k = 0 → g 0 = r.toInt64) (hc : cells + 12 * n ≤ 26 + 113 * (kc + 1)) (hs : slots + 500 * n ≤ 7413 + 4539 * (kc + 1)) (go : Lgo p l e s m below meth c D dA b0 b hp0 i Q (kc + 1) 529) : W p l e room_1 s m #[Value.ref b] below meth c H locs cells slots Q (F0 m 428 ls [.int k]) := by
  obtain ⟨hx, hb, -⟩ := B.1
  refine q_istore (pc := 428) (i := 5) (lo' := [some (.ref b), some (.ref b0), some (.ref (b0 + 5)), some (.ref (b0 + 25)), some (.int i), some (.int k), none]) hx hb d_L_428 hl (Nat.le_of_ble_eq_true rfl) (lx_ci rfl) rfl (fun ls hl => ?_)
  refine q_aload_n (pc := 430) (i := 2) (v := .ref (b0 + 5)) hx hb d_L_430 rfl rfl (lx_get hl rfl) ?_
  refine q_aload_n (pc := 431) (i := 0) (v := .ref b) hx hb d_L_431 rfl rfl (lx_get hl rfl) ?_
  refine lv_iload (pc := 432) (i := 4) hx hb d_L_432 (lx_get hl rfl) ?_
  refine lv_iconst (pc := 434) (v := 1) hx hb d_L_434 (by decide) ?_
  refine lv_iadd (pc := 435) hx hb d_L_435 ?_
  refine va_sld (pc := 436) (A := fun q => b0 ≤ q) hx hb hX hbl (by omega) I.2.2.2 h1 d_L_436 ?_
  have I : AI D vwCl b0 (rH dA (b0 + 5) _ (cH dA b0 _ (oH dA b0 hp0 _))) _ s.heap _ _ := I.of lawH_r
  refine r_callL (pc := 437) (As := [.int (xs (i + 1).toNatClampNeg)]) (rest := []) (h := b0 + 5) B hl rfl I (c_letter (RRof hR) hm) kw_LR_letter rfl (Nat.le_of_ble_eq_true rfl) (Nat.le_of_ble_eq_true rfl) rfl (by simp [cat_i, cat_r, cat_l]) d_L_437 (by show _ ≤ 601024; omega) (by show _ ≤ 7293034; omega) (fun H locs I => ?_)
  have I : AI D vwCl b0 (lawH dA b0 _ _ _ hp0) _ s.heap _ _ := I.of lawH_r.symm
  refine q_istore (pc := 440) (i := 6) (lo' := [some (.ref b), some (.ref b0), some (.ref (b0 + 5)), some (.ref (b0 + 25)), some (.int i), some (.int k), some (.int r)]) hx hb d_L_440 hl (Nat.le_of_ble_eq_true rfl) (lx_ci rfl) rfl (fun ls hl => ?_)
  exact L_tail_letter B hR hk hl I hB ht hg (by omega) (by omega) go
set_option maxRecDepth 100000 in
set_option maxHeartbeats 4000000 in
theorem L_letter (B : BX p m c code 7 s #[Value.ref b] (.initialized RLW :: wsA) RLW meth (some .boolean) D vwCl (tyL dA) b0 Z) (hR : CR b0 K Z) (hX : va_X b L xs s s.heap) (hbl : b < s.heap.size) (hbb : b < b0) (h1 : vp_in (i + 1) L) (hfl : l.flags = pinnedFlags ++ [noTraceFlag]) (hk : kc + 1 ≤ 512) (go : Lgo p l e s m below meth c D dA b0 b hp0 i Q (kc + 1) 529) : Lgo p l e s m below meth c D dA b0 b hp0 i Q kc 417 := by
  intro H locs ls S R g sz n cells slots hl I hB hc hs
  obtain ⟨hx, hb, -⟩ := B.1
  refine q_aload_n (pc := 417) (i := 1) (v := .ref b0) hx hb d_L_417 rfl rfl (lx_get hl rfl) ?_
  refine q_aload_n (pc := 418) (i := 0) (v := .ref b) hx hb d_L_418 rfl rfl (lx_get hl rfl) ?_
  refine lv_iload (pc := 419) (i := 4) hx hb d_L_419 (lx_get hl rfl) ?_
  refine lv_iconst (pc := 421) (v := 1) hx hb d_L_421 (by decide) ?_
  refine lv_iadd (pc := 422) hx hb d_L_422 ?_
  refine va_sld (pc := 423) (A := fun q => b0 ≤ q) hx hb hX hbl (by omega) I.2.2.2 h1 d_L_423 ?_
  refine q_aload_n (pc := 424) (i := 3) (v := .ref (b0 + 25)) hx hb d_L_424 rfl rfl (lx_get hl rfl) ?_
  rcases bo_letter (N := 200000) (K := K) (xs (i + 1).toNatClampNeg) hB with ⟨r, R', e1, e2, e3, hB'⟩ | ⟨r, R', x, e1, hx1, e2, e3, hB'⟩
  · refine k_callSW (pc := 425) (As := [.ref b0, .int (xs (i + 1).toNatClampNeg), .ref (b0 + 25)]) (rest := []) B hl rfl I (w_letter (S' := S) (xs (i + 1).toNatClampNeg) hR hB.k1 lawH_25 e1) mW_c_letter mW_l_letter mW_s_letter mW_ini (by decide) mW_n_letter (Nat.le_of_ble_eq_true rfl) (Nat.le_of_ble_eq_true rfl) rfl (by simp) d_L_425 (by show _ ≤ 601024; omega) (by show _ ≤ 7293034; omega) (fun H locs I => ?_)
    have I : AI D vwCl b0 (lawH dA b0 _ _ _ hp0) _ s.heap _ _ := I.of lawH_o
    exact L_mid_letter B hR hX hbl hbb h1 hk hl I e2 hB' e3 (fun _ => va_up_self _ _ _) (by omega) (by omega) go
  · have hx2 : x = 1 ∨ x = 2 := by omega
    rcases hx2 with rfl | rfl
    · refine k_callSW (pc := 425) (As := [.ref b0, .int (xs (i + 1).toNatClampNeg), .ref (b0 + 25)]) (rest := []) B hl rfl I (wt_letter_1 (xs (i + 1).toNatClampNeg) hR hfl hB.k1 e1) mW_c_letter mW_l_letter mW_s_letter mW_ini (by decide) mW_n_letter (Nat.le_of_ble_eq_true rfl) (Nat.le_of_ble_eq_true rfl) rfl (by simp) d_L_425 (by show _ ≤ 601024; omega) (by show _ ≤ 7293034; omega) (fun H locs I => ?_)
      exact L_mid_letter B hR hX hbl hbb h1 hk hl I e2 (hB'.mono (by omega)) (e3.trans (by decide)) (fun q => absurd q (by decide)) (by omega) (by omega) go
    · refine k_callSW (pc := 425) (As := [.ref b0, .int (xs (i + 1).toNatClampNeg), .ref (b0 + 25)]) (rest := []) B hl rfl I (wt_letter_2 (xs (i + 1).toNatClampNeg) hR hfl hB.k1 e1) mW_c_letter mW_l_letter mW_s_letter mW_ini (by decide) mW_n_letter (Nat.le_of_ble_eq_true rfl) (Nat.le_of_ble_eq_true rfl) rfl (by simp) d_L_425 (by show _ ≤ 601024; omega) (by show _ ≤ 7293034; omega) (fun H locs I => ?_)
      exact L_mid_letter B hR hX hbl hbb h1 hk hl I e2 (hB'.mono (by omega)) (e3.trans (by decide)) (fun q => absurd q (by decide)) (by omega) (by omega) go
set_option maxRecDepth 100000 in
set_option maxHeartbeats 4000000 in
theorem L_tail_key (B : BX p m c code 7 s #[Value.ref b] (.initialized RLW :: wsA) RLW meth (some .boolean) D vwCl (tyL dA) b0 Z) (hR : CR b0 K Z) {H : Heap} {locs : List Loc} {ls : Array Slot} {S : cS} {R : rS} {g : Nat → Int64} {sz n cells slots : Nat} {k r : Int32} (hk : kc + 1 ≤ 512) (hl : lx ls [some (.ref b), some (.ref b0), some (.ref (b0 + 5)), some (.ref (b0 + 25)), some (.int i), some (.int k), some (.int r)]) (I : AI D vwCl b0 (lawH dA b0 S R g hp0) sz s.heap H locs) (hB : Bo b0 S sz R n) (ht : R.1 0 = k) (hg : k = 0 → g 0 = r.toInt64) (hc : cells + 12 * n ≤ 26 + 113 * (kc + 1)) (hs : slots + 500 * n ≤ 7413 + 4539 * (kc + 1)) (go : Lgo p l e s m below meth c D dA b0 b hp0 i Q (kc + 1) 529) : W p l e room_1 s m #[Value.ref b] below meth c H locs cells slots Q (F0 m 498 ls []) := by
  obtain ⟨hx, hb, -⟩ := B.1
  refine q_aload_n (pc := 498) (i := 2) (v := .ref (b0 + 5)) hx hb d_L_498 rfl rfl (lx_get hl rfl) ?_
  have I : AI D vwCl b0 (rH dA (b0 + 5) _ (cH dA b0 _ (oH dA b0 hp0 _))) _ s.heap _ _ := I.of lawH_r
  refine r_callL (pc := 499) (As := []) (rest := []) (h := b0 + 5) B hl rfl I (c_thrown (N := 0) (RRof hR) rfl) kw_LR_thrown rfl (Nat.le_of_ble_eq_true rfl) (Nat.le_of_ble_eq_true rfl) rfl (by simp [cat_i, cat_r, cat_l]) d_L_499 (by show _ ≤ 601024; omega) (by show _ ≤ 7293034; omega) (fun H locs I => ?_)
  have I : AI D vwCl b0 (lawH dA b0 _ _ _ hp0) _ s.heap _ _ := I.of lawH_r.symm
  refine lv_iload (pc := 502) (i := 5) hx hb d_L_502 (lx_get hl rfl) ?_
  refine lv_icmp_eq (pc := 504) (tgt := 509) hx hb d_L_504 (by decide) (fun _ => ?_) (fun q => absurd ht q)
  refine lv_iload (pc := 509) (i := 5) hx hb d_L_509 (lx_get hl rfl) ?_
  have hl2 := lx_sub (lo' := [some (.ref b), some (.ref b0), some (.ref (b0 + 5)), some (.ref (b0 + 25)), some (.int i), none, none]) hl (by simp [lx_le])
  have fin : W p l e room_1 s m #[Value.ref b] below meth c H locs (cells + 0) (slots + 0) Q (F0 m 526 ls []) := lv_goto (pc := 526) (tgt := 529) hx hb d_L_526 (by decide) (go _ _ _ _ _ _ _ _ _ _ hl2 I hB (by omega) (by omega))
  refine lv_if_ne (pc := 511) (tgt := 526) hx hb d_L_511 (by decide) (fun _ => fin) (fun q => ?_)
  have h0 : g (0 : Int32).toNatClampNeg = r.toInt64 := hg q
  refine q_aload_n (pc := 514) (i := 3) (v := .ref (b0 + 25)) hx hb d_L_514 rfl rfl (lx_get hl rfl) ?_
  refine lv_iconst (pc := 515) (v := 0) hx hb d_L_515 (by decide) ?_
  refine q_lald (pc := 516) (t0 := 4) B I lawH_at rfl (vp_in_iff.mpr (by decide)) d_L_516 ?_
  rw [h0]
  refine lv_iload (pc := 517) (i := 6) hx hb d_L_517 (lx_get hl rfl) ?_
  refine lv_i2l (pc := 519) hx hb d_L_519 rfl ?_
  refine lv_lcmpE (pc := 520) hx hb d_L_520 ?_
  exact lv_if_eq (pc := 521) (tgt := 526) hx hb d_L_521 (by decide) (fun _ => fin) (fun q => absurd rfl q)
set_option maxRecDepth 100000 in
set_option maxHeartbeats 4000000 in
theorem L_mid_key (B : BX p m c code 7 s #[Value.ref b] (.initialized RLW :: wsA) RLW meth (some .boolean) D vwCl (tyL dA) b0 Z) (hR : CR b0 K Z) (hX : va_X b L xs s s.heap) (hbl : b < s.heap.size) (hbb : b < b0) (h1 : vp_in (i + 1) L) {H : Heap} {locs : List Loc} {ls : Array Slot} {S : cS} {R R' : rS} {g : Nat → Int64} {sz n cells slots : Nat} {k r : Int32} (hk : kc + 1 ≤ 512) (hl : lx ls [some (.ref b), some (.ref b0), some (.ref (b0 + 5)), some (.ref (b0 + 25)), some (.int i), none, none]) (I : AI D vwCl b0 (lawH dA b0 S R g hp0) sz s.heap H locs) (hm : m_key 200000 (xs (i + 1).toNatClampNeg) R = some (r, R')) (hB : Bo b0 S sz R' n) (ht : R'.1 0 = k) (hg : k = 0 → g 0 = r.toInt64) (hc : cells + 12 * n ≤ 26 + 113 * (kc + 1)) (hs : slots + 500 * n ≤ 7413 + 4539 * (kc + 1)) (go : Lgo p l e s m below meth c D dA b0 b hp0 i Q (kc + 1) 529) : W p l e room_1 s m #[Value.ref b] below meth c H locs cells slots Q (F0 m 484 ls [.int k]) := by
  obtain ⟨hx, hb, -⟩ := B.1
  refine q_istore (pc := 484) (i := 5) (lo' := [some (.ref b), some (.ref b0), some (.ref (b0 + 5)), some (.ref (b0 + 25)), some (.int i), some (.int k), none]) hx hb d_L_484 hl (Nat.le_of_ble_eq_true rfl) (lx_ci rfl) rfl (fun ls hl => ?_)
  refine q_aload_n (pc := 486) (i := 2) (v := .ref (b0 + 5)) hx hb d_L_486 rfl rfl (lx_get hl rfl) ?_
  refine q_aload_n (pc := 487) (i := 0) (v := .ref b) hx hb d_L_487 rfl rfl (lx_get hl rfl) ?_
  refine lv_iload (pc := 488) (i := 4) hx hb d_L_488 (lx_get hl rfl) ?_
  refine lv_iconst (pc := 490) (v := 1) hx hb d_L_490 (by decide) ?_
  refine lv_iadd (pc := 491) hx hb d_L_491 ?_
  refine va_sld (pc := 492) (A := fun q => b0 ≤ q) hx hb hX hbl (by omega) I.2.2.2 h1 d_L_492 ?_
  have I : AI D vwCl b0 (rH dA (b0 + 5) _ (cH dA b0 _ (oH dA b0 hp0 _))) _ s.heap _ _ := I.of lawH_r
  refine r_callL (pc := 493) (As := [.int (xs (i + 1).toNatClampNeg)]) (rest := []) (h := b0 + 5) B hl rfl I (c_key (RRof hR) hm) kw_LR_key rfl (Nat.le_of_ble_eq_true rfl) (Nat.le_of_ble_eq_true rfl) rfl (by simp [cat_i, cat_r, cat_l]) d_L_493 (by show _ ≤ 601024; omega) (by show _ ≤ 7293034; omega) (fun H locs I => ?_)
  have I : AI D vwCl b0 (lawH dA b0 _ _ _ hp0) _ s.heap _ _ := I.of lawH_r.symm
  refine q_istore (pc := 496) (i := 6) (lo' := [some (.ref b), some (.ref b0), some (.ref (b0 + 5)), some (.ref (b0 + 25)), some (.int i), some (.int k), some (.int r)]) hx hb d_L_496 hl (Nat.le_of_ble_eq_true rfl) (lx_ci rfl) rfl (fun ls hl => ?_)
  exact L_tail_key B hR hk hl I hB ht hg (by omega) (by omega) go
set_option maxRecDepth 100000 in
set_option maxHeartbeats 4000000 in
theorem L_key (B : BX p m c code 7 s #[Value.ref b] (.initialized RLW :: wsA) RLW meth (some .boolean) D vwCl (tyL dA) b0 Z) (hR : CR b0 K Z) (hX : va_X b L xs s s.heap) (hbl : b < s.heap.size) (hbb : b < b0) (h1 : vp_in (i + 1) L) (hfl : l.flags = pinnedFlags ++ [noTraceFlag]) (hk : kc + 1 ≤ 512) (go : Lgo p l e s m below meth c D dA b0 b hp0 i Q (kc + 1) 529) : Lgo p l e s m below meth c D dA b0 b hp0 i Q kc 473 := by
  intro H locs ls S R g sz n cells slots hl I hB hc hs
  obtain ⟨hx, hb, -⟩ := B.1
  refine q_aload_n (pc := 473) (i := 1) (v := .ref b0) hx hb d_L_473 rfl rfl (lx_get hl rfl) ?_
  refine q_aload_n (pc := 474) (i := 0) (v := .ref b) hx hb d_L_474 rfl rfl (lx_get hl rfl) ?_
  refine lv_iload (pc := 475) (i := 4) hx hb d_L_475 (lx_get hl rfl) ?_
  refine lv_iconst (pc := 477) (v := 1) hx hb d_L_477 (by decide) ?_
  refine lv_iadd (pc := 478) hx hb d_L_478 ?_
  refine va_sld (pc := 479) (A := fun q => b0 ≤ q) hx hb hX hbl (by omega) I.2.2.2 h1 d_L_479 ?_
  refine q_aload_n (pc := 480) (i := 3) (v := .ref (b0 + 25)) hx hb d_L_480 rfl rfl (lx_get hl rfl) ?_
  rcases bo_key (N := 200000) (K := K) (xs (i + 1).toNatClampNeg) hB with ⟨r, R', e1, e2, e3, hB'⟩ | ⟨r, R', e1, e2, e3, hB'⟩
  · refine k_callSW (pc := 481) (As := [.ref b0, .int (xs (i + 1).toNatClampNeg), .ref (b0 + 25)]) (rest := []) B hl rfl I (w_key (S' := S) (xs (i + 1).toNatClampNeg) hR hB.k1 lawH_25 e1) mW_c_key mW_l_key mW_s_key mW_ini (by decide) mW_n_key (Nat.le_of_ble_eq_true rfl) (Nat.le_of_ble_eq_true rfl) rfl (by simp) d_L_481 (by show _ ≤ 601024; omega) (by show _ ≤ 7293034; omega) (fun H locs I => ?_)
    have I : AI D vwCl b0 (lawH dA b0 _ _ _ hp0) _ s.heap _ _ := I.of lawH_o
    exact L_mid_key B hR hX hbl hbb h1 hk hl I e2 hB' e3 (fun _ => va_up_self _ _ _) (by omega) (by omega) go
  · refine k_callSW (pc := 481) (As := [.ref b0, .int (xs (i + 1).toNatClampNeg), .ref (b0 + 25)]) (rest := []) B hl rfl I (wt_key_1 (xs (i + 1).toNatClampNeg) hR hfl hB.k1 e1) mW_c_key mW_l_key mW_s_key mW_ini (by decide) mW_n_key (Nat.le_of_ble_eq_true rfl) (Nat.le_of_ble_eq_true rfl) rfl (by simp) d_L_481 (by show _ ≤ 601024; omega) (by show _ ≤ 7293034; omega) (fun H locs I => ?_)
    exact L_mid_key B hR hX hbl hbb h1 hk hl I e2 (hB'.mono (by omega)) (e3) (fun q => absurd q (by decide)) (by omega) (by omega) go
end LCs
