/-! The law's loop, and its beginning. -/
section LLp
variable {p : Program} {l : Launch} {e : Env} {s : State} {m : MethodId} {below : List Frame} {meth : Method} {c : Code} {D : va_G} {dA : Nat → ClassId} {b0 b L kc : Nat} {xs : Nat → Int32} {i : Int32} {K : cS} {Z : State → Prop} {hp0 : aH} {Q : State → Prop}
theorem L_cmp {k : Nat} (hL : L ≤ 2048) (hk : k ≤ 512) (h : ¬ Int32.ofNat L - 4 < nI (4 * k)) : 4 * k + 4 ≤ L := by
  by_cases h4 : 4 ≤ L
  · have e : Int32.ofNat L - 4 = nI (L - 4) := by
      have := nI_add (L - 4) 4
      rw [show L - 4 + 4 = L by omega] at this
      show nI L - nI 4 = _
      rw [← this]
      exact Int32.add_sub_cancel _ _
    rw [e] at h
    have := mt (nI_ltI (a := L - 4) (b := 4 * k) (by omega) (by omega)).mpr h
    omega
  · exfalso
    apply h
    rw [Int32.lt_iff_toInt_lt, nI_toInt (by omega)]
    have hh : L = 0 ∨ L = 1 ∨ L = 2 ∨ L = 3 := by omega
    rcases hh with rfl | rfl | rfl | rfl
    · have : (Int32.ofNat 0 - 4).toInt = -4 := by decide
      omega
    · have : (Int32.ofNat 1 - 4).toInt = -3 := by decide
      omega
    · have : (Int32.ofNat 2 - 4).toInt = -2 := by decide
      omega
    · have : (Int32.ofNat 3 - 4).toInt = -1 := by decide
      omega
set_option maxRecDepth 100000 in
set_option maxHeartbeats 4000000 in
theorem L_turn (B : BX p m c code 7 s #[Value.ref b] (.initialized RLW :: wsA) RLW meth (some .boolean) D vwCl (tyL dA) b0 Z) (hR : CR b0 K Z) (hK : KF b0 K) (hX : va_X b L xs s s.heap) (hbl : b < s.heap.size) (hbb : b < b0) (hfl : l.flags = pinnedFlags ++ [noTraceFlag]) (h0 : vp_in i L) (h1 : vp_in (i + 1) L) (h2 : vp_in (i + 2) L) (h3 : vp_in (i + 3) L) (hk : kc + 1 ≤ 512) (go : Lgo p l e s m below meth c D dA b0 b hp0 i Q (kc + 1) 529) : Lgo p l e s m below meth c D dA b0 b hp0 i Q kc 32 := by
  intro H locs ls S R g sz n cells slots hl I hB hc hs
  obtain ⟨hx, hb, -⟩ := B.1
  refine q_aload_n (pc := 32) (i := 0) (v := .ref b) hx hb d_L_32 rfl rfl (lx_get hl rfl) ?_
  refine lv_iload (pc := 33) (i := 4) hx hb d_L_33 (lx_get hl rfl) ?_
  refine va_sld (pc := 35) (A := fun q => b0 ≤ q) hx hb hX hbl (by omega) I.2.2.2 h0 d_L_35 ?_
  refine lv_bipush (pc := 36) (v := 15) hx hb d_L_36 (by decide) ?_
  refine lv_iand (pc := 38) hx hb d_L_38 ?_
  generalize xs i.toNatClampNeg &&& 15 = x
  by_cases hw : x.toInt < 0 ∨ 10 < x.toInt
  · refine lv_tableOut (pc := 39) (tgt := 529) hx hb d_L_39 hw (by decide) ?_
    exact go _ _ _ _ _ _ _ _ _ _ hl I hB (by omega) (by omega)
  · have hv : x.toInt = 0 ∨ x.toInt = 1 ∨ x.toInt = 2 ∨ x.toInt = 3 ∨ x.toInt = 4 ∨ x.toInt = 5 ∨ x.toInt = 6 ∨ x.toInt = 7 ∨ x.toInt = 8 ∨ x.toInt = 9 ∨ x.toInt = 10 := by omega
    rcases hv with hv | hv | hv | hv | hv | hv | hv | hv | hv | hv | hv
    · exact lv_tableIn (pc := 39) (tgt := 96) hx hb d_L_39 (by omega) (by omega) (by rw [hv]; rfl) (by decide) (L_type B hR hX hbl hbb h1 h2 h3 hfl hk go _ _ _ _ _ _ _ _ _ _ hl I hB hc hs)
    · exact lv_tableIn (pc := 39) (tgt := 196) hx hb d_L_39 (by omega) (by omega) (by rw [hv]; rfl) (by decide) (L_read B hR hK hk go _ _ _ _ _ _ _ _ _ _ hl I hB hc hs)
    · exact lv_tableIn (pc := 39) (tgt := 209) hx hb d_L_39 (by omega) (by omega) (by rw [hv]; rfl) (by decide) (L_write B hR hK hk go _ _ _ _ _ _ _ _ _ _ hl I hB hc hs)
    · exact lv_tableIn (pc := 39) (tgt := 222) hx hb d_L_39 (by omega) (by omega) (by rw [hv]; rfl) (by decide) (L_written B hR hX hbl hbb h1 hfl hk go _ _ _ _ _ _ _ _ _ _ hl I hB hc hs)
    · exact lv_tableIn (pc := 39) (tgt := 278) hx hb d_L_39 (by omega) (by omega) (by rw [hv]; rfl) (by decide) (L_top B hR hk go _ _ _ _ _ _ _ _ _ _ hl I hB hc hs)
    · exact lv_tableIn (pc := 39) (tgt := 291) hx hb d_L_39 (by omega) (by omega) (by rw [hv]; rfl) (by decide) (L_down B hR hX hbl hbb h1 hfl hk go _ _ _ _ _ _ _ _ _ _ hl I hB hc hs)
    · exact lv_tableIn (pc := 39) (tgt := 347) hx hb d_L_39 (by omega) (by omega) (by rw [hv]; rfl) (by decide) (L_up B hR hfl hk go _ _ _ _ _ _ _ _ _ _ hl I hB hc hs)
    · exact lv_tableIn (pc := 39) (tgt := 391) hx hb d_L_39 (by omega) (by omega) (by rw [hv]; rfl) (by decide) (L_kind B hR hk go _ _ _ _ _ _ _ _ _ _ hl I hB hc hs)
    · exact lv_tableIn (pc := 39) (tgt := 404) hx hb d_L_39 (by omega) (by omega) (by rw [hv]; rfl) (by decide) (L_value B hR hk go _ _ _ _ _ _ _ _ _ _ hl I hB hc hs)
    · exact lv_tableIn (pc := 39) (tgt := 417) hx hb d_L_39 (by omega) (by omega) (by rw [hv]; rfl) (by decide) (L_letter B hR hX hbl hbb h1 hfl hk go _ _ _ _ _ _ _ _ _ _ hl I hB hc hs)
    · exact lv_tableIn (pc := 39) (tgt := 473) hx hb d_L_39 (by omega) (by omega) (by rw [hv]; rfl) (by decide) (L_key B hR hX hbl hbb h1 hfl hk go _ _ _ _ _ _ _ _ _ _ hl I hB hc hs)
set_option maxRecDepth 100000 in
set_option maxHeartbeats 4000000 in
theorem L_loop (B : BX p m c code 7 s #[Value.ref b] (.initialized RLW :: wsA) RLW meth (some .boolean) D vwCl (tyL dA) b0 Z) (hR : CR b0 K Z) (hK : KF b0 K) (hX : va_X b L xs s s.heap) (hbl : b < s.heap.size) (hbb : b < b0) (hfl : l.flags = pinnedFlags ++ [noTraceFlag]) (hL : L ≤ 2048) (hend : ∀ (H : Heap) (locs : List Loc) (ls : Array Slot) (sz cells slots : Nat) (hp : aH), AI D vwCl b0 hp sz s.heap H locs → cells ≤ 601024 → slots ≤ 7293034 → W p l e room_1 s m #[Value.ref b] below meth c H locs cells slots Q (F0 m 535 ls [])) : ∀ d kc, kc + d = 512 → Lgo p l e s m below meth c D dA b0 b hp0 (nI (4 * kc)) Q kc 23 := by
  intro d
  induction d with
  | zero =>
    intro kc hd H locs ls S R g sz n cells slots hl I hB hc hs
    obtain ⟨hx, hb, -⟩ := B.1
    refine lv_iload (pc := 23) (i := 4) hx hb d_L_23 (lx_get hl rfl) ?_
    refine q_aload_n (pc := 25) (i := 0) (v := .ref b) hx hb d_L_25 rfl rfl (lx_get hl rfl) ?_
    refine va_slen (pc := 26) (A := fun q => b0 ≤ q) hx hb hX hbl (by omega) I.2.2.2 d_L_26 ?_
    refine lv_iconst (pc := 27) (v := 4) hx hb d_L_27 (by decide) ?_
    refine lv_isub (pc := 28) hx hb d_L_28 ?_
    refine lv_icmp_gt (pc := 29) (tgt := 535) hx hb d_L_29 (by decide) (fun _ => hend _ _ _ _ _ _ _ I (by omega) (by omega)) (fun w => ?_)
    have w4 := L_cmp hL (by omega) w
    omega
  | succ d ih =>
    intro kc hd H locs ls S R g sz n cells slots hl I hB hc hs
    obtain ⟨hx, hb, -⟩ := B.1
    refine lv_iload (pc := 23) (i := 4) hx hb d_L_23 (lx_get hl rfl) ?_
    refine q_aload_n (pc := 25) (i := 0) (v := .ref b) hx hb d_L_25 rfl rfl (lx_get hl rfl) ?_
    refine va_slen (pc := 26) (A := fun q => b0 ≤ q) hx hb hX hbl (by omega) I.2.2.2 d_L_26 ?_
    refine lv_iconst (pc := 27) (v := 4) hx hb d_L_27 (by decide) ?_
    refine lv_isub (pc := 28) hx hb d_L_28 ?_
    refine lv_icmp_gt (pc := 29) (tgt := 535) hx hb d_L_29 (by decide) (fun _ => hend _ _ _ _ _ _ _ I (by omega) (by omega)) (fun w => ?_)
    have w4 := L_cmp hL (by omega) w
    have j1 : nI (4 * kc) + 1 = nI (4 * kc + 1) := nI_add _ 1
    have j2 : nI (4 * kc) + 2 = nI (4 * kc + 2) := nI_add _ 2
    have j3 : nI (4 * kc) + 3 = nI (4 * kc + 3) := nI_add _ 3
    have j4 : nI (4 * kc) + 4 = nI (4 * (kc + 1)) := nI_add _ 4
    refine L_turn B hR hK hX hbl hbb hfl (vp_in_nI (by omega) (by omega)) (by rw [j1]; exact vp_in_nI (by omega) (by omega)) (by rw [j2]; exact vp_in_nI (by omega) (by omega)) (by rw [j3]; exact vp_in_nI (by omega) (by omega)) (by omega) ?_ _ _ _ _ _ _ _ _ _ _ hl I hB hc hs
    intro H locs ls S R g sz n cells slots hl I hB hc hs
    refine q_iinc (pc := 529) (i := 4) (n := 4) (x := nI (4 * kc)) (v := nI (4 * (kc + 1))) (lo' := [some (.ref b), some (.ref b0), some (.ref (b0 + 5)), some (.ref (b0 + 25)), some (.int (nI (4 * (kc + 1)))), none, none]) hx hb d_L_529 hl rfl j4 (Nat.le_of_ble_eq_true rfl) (lx_cr rfl) rfl (fun ls hl => ?_)
    refine lv_goto (pc := 532) (tgt := 23) hx hb d_L_532 (by decide) ?_
    exact ih (kc + 1) (by omega) _ _ _ _ _ _ _ _ _ _ hl I hB hc hs
def S_0 : cS := (fun _ => 0, fun _ => 0, fun _ _ => 0, fun _ _ => none)
theorem cCell_0 {a : Nat} : cCell dA b0 S_0 a = none := by
  have : ck b0 S_0 a = 0 := by unfold ck S_0; split <;> rfl
  unfold cCell; rw [if_pos this]
theorem lawH_new {S : cS} {R : rS} : va_up (rH dA (b0 + 5) R (cH dA b0 S hp0)) (b0 + 25) (some (.inl (dA 4, 1, .inr (.inl (fun _ => 0))))) = lawH dA b0 S R (fun _ => 0) hp0 := by
  show oH dA b0 (rH dA (b0 + 5) R (cH dA b0 S hp0)) (fun _ => 0) = _
  rw [oH_rH]
  unfold oH
  rw [cH_out]
  exact lawH_r.symm
theorem r_S4 : ∃ S1 S2 S3 S4 : rS, rT ((fun _ => 0), fun _ _ => 0) 3 0 7 = some S1 ∧ rT S1 6 0 (-1) = some S2 ∧ rT S2 5 0 (-1) = some S3 ∧ rT S3 2 0 1 = some S4 ∧ S4.1 1 = 0 ∧ S4.1 5 = 0 ∧ S4.1 18 = 0 ∧ S4.1 29 = 0 ∧ S4.2 3 0 = 7 ∧ S4.2 5 0 = -1 ∧ S4.2 6 0 = -1 ∧ S4.2 4 0 = 0 ∧ S4.2 9 0 = 0 :=
  ⟨_, _, _, _, rfl, rfl, rfl, rfl, rfl, rfl, rfl, rfl, rfl, rfl, rfl, rfl, rfl⟩
set_option maxRecDepth 100000 in
set_option maxHeartbeats 4000000 in
theorem L_start (B : BX p m c code 7 s #[Value.ref b] (.initialized RLW :: wsA) RLW meth (some .boolean) D vwCl (tyL dA) b0 Z) (hR : CR b0 K Z) {ls : Array Slot} (hl : lx ls [some (.ref b), none, none, none, none, none, none]) (hsz : s.heap.size = b0) (go : Lgo p l e s m below meth c D dA b0 b (fun _ => none) (nI (4 * 0)) Q 0 23) : W p l e room_1 s m #[Value.ref b] below meth c s.heap [] 0 0 Q (F0 m 0 ls []) := by
  obtain ⟨hx, hb, -⟩ := B.1
  have I : AI D vwCl b0 (cH dA b0 S_0 (fun _ => none)) b0 s.heap s.heap [] := ⟨fun a e h => (by unfold cH at h; rw [cCell_0] at h; cases h), hsz, by omega, va_S.rf⟩
  obtain ⟨S1, S2, S3, S4, r1, r2, r3, r4, g1, g5, g18, g29, g3, g6, g7, g8, g9⟩ := r_S4
  obtain ⟨S', e2, hB⟩ := bo_new (N := 200000) (K := K) (S := nO S_0 1 b0) (R := S4) (va_up_self _ _ _) g1 g5 g18 g29 g3 g6 g7 g8 g9
  refine k_new (pc := 0) (z := 1) (index := 8) (n := 5) (S1 := nO S_0 1 b0) B I (by decide) mC_L_8 mI_L_1 mN_L_1 nf_1 (Nat.le_of_ble_eq_true rfl) (Nat.le_of_ble_eq_true rfl) (by unfold nOo; rw [if_pos (by omega)]) d_L_0 (fun H I => ?_)
  refine lv_dup (pc := 3) hx hb d_L_3 rfl ?_
  refine k_callI (pc := 4) (As := []) (rest := [.ref b0]) (b := b0) B hl rfl I (c_T_init hR e2) kw_L_init rfl (Nat.le_of_ble_eq_true rfl) (Nat.le_of_ble_eq_true rfl) rfl (by simp [cat_r]) d_L_4 (Nat.le_of_ble_eq_true rfl) (Nat.le_of_ble_eq_true rfl) (fun H locs I => ?_)
  refine q_astore_n (pc := 7) (i := 1) (v := .ref b0) (lo' := [some (.ref b), some (.ref b0), none, none, none, none, none]) hx hb d_L_7 rfl rfl hl (Nat.le_of_ble_eq_true rfl) (lx_cr rfl) rfl (fun ls hl => ?_)
  have I : AI D vwCl b0 (cH dA b0 S' (fun _ => none)) (b0 + 5) s.heap H locs := I
  refine r_newR (pc := 8) (index := 37) B I mC_L_37 mI_L_R mN_L_R (Nat.le_of_ble_eq_true rfl) (Nat.le_of_ble_eq_true rfl) d_L_8 (fun H I => ?_)
  refine lv_dup (pc := 11) hx hb d_L_11 rfl ?_
  refine q_callI (pc := 12) (As := []) (rest := [.ref (b0 + 5)]) (b := b0 + 5) B hl rfl I (c_Rinit (RRof hR) r1 r2 r3 r4) kw_L_Rinit rfl (Nat.le_of_ble_eq_true rfl) (Nat.le_of_ble_eq_true rfl) rfl (by simp [cat_r]) d_L_12 (Nat.le_of_ble_eq_true rfl) (Nat.le_of_ble_eq_true rfl) (fun H locs I => ?_)
  refine q_astore_n (pc := 15) (i := 2) (v := .ref (b0 + 5)) (lo' := [some (.ref b), some (.ref b0), some (.ref (b0 + 5)), none, none, none, none]) hx hb d_L_15 rfl rfl hl (Nat.le_of_ble_eq_true rfl) (lx_cr rfl) rfl (fun ls hl => ?_)
  have I : AI D vwCl b0 (rH dA (b0 + 5) S4 (cH dA b0 S' (fun _ => none))) (b0 + 25) s.heap H locs := I
  refine lv_iconst (pc := 16) (v := 1) hx hb d_L_16 (by decide) ?_
  refine q_newl (pc := 17) B I mA_long (Nat.le_of_ble_eq_true rfl) (Nat.le_of_ble_eq_true rfl) d_L_17 (fun H I => ?_)
  have I : AI D vwCl b0 (lawH dA b0 S' S4 (fun _ => 0) (fun _ => none)) (b0 + 26) s.heap H locs := I.of lawH_new
  refine q_astore_n (pc := 19) (i := 3) (v := .ref (b0 + 25)) (lo' := [some (.ref b), some (.ref b0), some (.ref (b0 + 5)), some (.ref (b0 + 25)), none, none, none]) hx hb d_L_19 rfl rfl hl (Nat.le_of_ble_eq_true rfl) (lx_cr rfl) rfl (fun ls hl => ?_)
  refine lv_iconst (pc := 20) (v := 0) hx hb d_L_20 (by decide) ?_
  refine q_istore (pc := 21) (i := 4) (lo' := [some (.ref b), some (.ref b0), some (.ref (b0 + 5)), some (.ref (b0 + 25)), some (.int (nI (4 * 0))), none, none]) hx hb d_L_21 hl (Nat.le_of_ble_eq_true rfl) (lx_cr rfl) rfl (fun ls hl => ?_)
  exact go _ _ _ _ _ _ _ 0 _ _ hl I hB (by omega) (by omega)
end LLp
