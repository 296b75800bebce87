/-! The reference's constructor. -/
abbrev cb_Rinit : ByteArray := prog_7_method_1_code
def y_Rinit : MethodName := ⟨RZ0, "<init>", "()V"⟩
theorem mA_int : Cond.arrayClass .int ∈ wsA := List.mem_filter.mpr ⟨List.mem_of_getElem? (i := 1215) (by decide +kernel), by decide +kernel⟩
theorem mO_R_1 : Cond.methodLink RZ0 1 objectInit ∈ wsA := List.mem_filter.mpr ⟨List.mem_of_getElem? (i := 1120) (by decide +kernel), by decide +kernel⟩
theorem d_Rinit_0 : decode cb_Rinit 0 = .ok (.aload_n 0, 1) := by decide +kernel
theorem d_Rinit_1 : decode cb_Rinit 1 = .ok (.invokespecial 1, 3) := by decide +kernel
theorem d_Rinit_4 : decode cb_Rinit 4 = .ok (.aload_n 0, 1) := by decide +kernel
theorem d_Rinit_5 : decode cb_Rinit 5 = .ok (.sipush 240, 3) := by decide +kernel
theorem d_Rinit_8 : decode cb_Rinit 8 = .ok (.newarray .int, 2) := by decide +kernel
theorem d_Rinit_10 : decode cb_Rinit 10 = .ok (.putfield 7, 3) := by decide +kernel
theorem d_Rinit_13 : decode cb_Rinit 13 = .ok (.aload_n 0, 1) := by decide +kernel
theorem d_Rinit_14 : decode cb_Rinit 14 = .ok (.iconst 2, 1) := by decide +kernel
theorem d_Rinit_15 : decode cb_Rinit 15 = .ok (.newarray .int, 2) := by decide +kernel
theorem d_Rinit_17 : decode cb_Rinit 17 = .ok (.putfield 13, 3) := by decide +kernel
theorem d_Rinit_20 : decode cb_Rinit 20 = .ok (.aload_n 0, 1) := by decide +kernel
theorem d_Rinit_21 : decode cb_Rinit 21 = .ok (.sipush 520, 3) := by decide +kernel
theorem d_Rinit_24 : decode cb_Rinit 24 = .ok (.newarray .int, 2) := by decide +kernel
theorem d_Rinit_26 : decode cb_Rinit 26 = .ok (.putfield 16, 3) := by decide +kernel
theorem d_Rinit_29 : decode cb_Rinit 29 = .ok (.aload_n 0, 1) := by decide +kernel
theorem d_Rinit_30 : decode cb_Rinit 30 = .ok (.sipush 520, 3) := by decide +kernel
theorem d_Rinit_33 : decode cb_Rinit 33 = .ok (.newarray .int, 2) := by decide +kernel
theorem d_Rinit_35 : decode cb_Rinit 35 = .ok (.putfield 19, 3) := by decide +kernel
theorem d_Rinit_38 : decode cb_Rinit 38 = .ok (.aload_n 0, 1) := by decide +kernel
theorem d_Rinit_39 : decode cb_Rinit 39 = .ok (.sipush 520, 3) := by decide +kernel
theorem d_Rinit_42 : decode cb_Rinit 42 = .ok (.newarray .int, 2) := by decide +kernel
theorem d_Rinit_44 : decode cb_Rinit 44 = .ok (.putfield 22, 3) := by decide +kernel
theorem d_Rinit_47 : decode cb_Rinit 47 = .ok (.aload_n 0, 1) := by decide +kernel
theorem d_Rinit_48 : decode cb_Rinit 48 = .ok (.sipush 520, 3) := by decide +kernel
theorem d_Rinit_51 : decode cb_Rinit 51 = .ok (.newarray .int, 2) := by decide +kernel
theorem d_Rinit_53 : decode cb_Rinit 53 = .ok (.putfield 25, 3) := by decide +kernel
theorem d_Rinit_56 : decode cb_Rinit 56 = .ok (.aload_n 0, 1) := by decide +kernel
theorem d_Rinit_57 : decode cb_Rinit 57 = .ok (.sipush 520, 3) := by decide +kernel
theorem d_Rinit_60 : decode cb_Rinit 60 = .ok (.newarray .int, 2) := by decide +kernel
theorem d_Rinit_62 : decode cb_Rinit 62 = .ok (.putfield 28, 3) := by decide +kernel
theorem d_Rinit_65 : decode cb_Rinit 65 = .ok (.aload_n 0, 1) := by decide +kernel
theorem d_Rinit_66 : decode cb_Rinit 66 = .ok (.sipush 520, 3) := by decide +kernel
theorem d_Rinit_69 : decode cb_Rinit 69 = .ok (.newarray .int, 2) := by decide +kernel
theorem d_Rinit_71 : decode cb_Rinit 71 = .ok (.putfield 31, 3) := by decide +kernel
theorem d_Rinit_74 : decode cb_Rinit 74 = .ok (.aload_n 0, 1) := by decide +kernel
theorem d_Rinit_75 : decode cb_Rinit 75 = .ok (.sipush 520, 3) := by decide +kernel
theorem d_Rinit_78 : decode cb_Rinit 78 = .ok (.newarray .int, 2) := by decide +kernel
theorem d_Rinit_80 : decode cb_Rinit 80 = .ok (.putfield 34, 3) := by decide +kernel
theorem d_Rinit_83 : decode cb_Rinit 83 = .ok (.aload_n 0, 1) := by decide +kernel
theorem d_Rinit_84 : decode cb_Rinit 84 = .ok (.sipush 520, 3) := by decide +kernel
theorem d_Rinit_87 : decode cb_Rinit 87 = .ok (.newarray .int, 2) := by decide +kernel
theorem d_Rinit_89 : decode cb_Rinit 89 = .ok (.putfield 37, 3) := by decide +kernel
theorem d_Rinit_92 : decode cb_Rinit 92 = .ok (.aload_n 0, 1) := by decide +kernel
theorem d_Rinit_93 : decode cb_Rinit 93 = .ok (.sipush 520, 3) := by decide +kernel
theorem d_Rinit_96 : decode cb_Rinit 96 = .ok (.newarray .int, 2) := by decide +kernel
theorem d_Rinit_98 : decode cb_Rinit 98 = .ok (.putfield 40, 3) := by decide +kernel
theorem d_Rinit_101 : decode cb_Rinit 101 = .ok (.aload_n 0, 1) := by decide +kernel
theorem d_Rinit_102 : decode cb_Rinit 102 = .ok (.iconst 2, 1) := by decide +kernel
theorem d_Rinit_103 : decode cb_Rinit 103 = .ok (.newarray .int, 2) := by decide +kernel
theorem d_Rinit_105 : decode cb_Rinit 105 = .ok (.putfield 43, 3) := by decide +kernel
theorem d_Rinit_108 : decode cb_Rinit 108 = .ok (.aload_n 0, 1) := by decide +kernel
theorem d_Rinit_109 : decode cb_Rinit 109 = .ok (.sipush 600, 3) := by decide +kernel
theorem d_Rinit_112 : decode cb_Rinit 112 = .ok (.newarray .int, 2) := by decide +kernel
theorem d_Rinit_114 : decode cb_Rinit 114 = .ok (.putfield 46, 3) := by decide +kernel
theorem d_Rinit_117 : decode cb_Rinit 117 = .ok (.aload_n 0, 1) := by decide +kernel
theorem d_Rinit_118 : decode cb_Rinit 118 = .ok (.sipush 130, 3) := by decide +kernel
theorem d_Rinit_121 : decode cb_Rinit 121 = .ok (.newarray .int, 2) := by decide +kernel
theorem d_Rinit_123 : decode cb_Rinit 123 = .ok (.putfield 49, 3) := by decide +kernel
theorem d_Rinit_126 : decode cb_Rinit 126 = .ok (.aload_n 0, 1) := by decide +kernel
theorem d_Rinit_127 : decode cb_Rinit 127 = .ok (.sipush 130, 3) := by decide +kernel
theorem d_Rinit_130 : decode cb_Rinit 130 = .ok (.newarray .int, 2) := by decide +kernel
theorem d_Rinit_132 : decode cb_Rinit 132 = .ok (.putfield 52, 3) := by decide +kernel
theorem d_Rinit_135 : decode cb_Rinit 135 = .ok (.aload_n 0, 1) := by decide +kernel
theorem d_Rinit_136 : decode cb_Rinit 136 = .ok (.sipush 130, 3) := by decide +kernel
theorem d_Rinit_139 : decode cb_Rinit 139 = .ok (.newarray .int, 2) := by decide +kernel
theorem d_Rinit_141 : decode cb_Rinit 141 = .ok (.putfield 55, 3) := by decide +kernel
theorem d_Rinit_144 : decode cb_Rinit 144 = .ok (.aload_n 0, 1) := by decide +kernel
theorem d_Rinit_145 : decode cb_Rinit 145 = .ok (.bipush 6, 2) := by decide +kernel
theorem d_Rinit_147 : decode cb_Rinit 147 = .ok (.newarray .int, 2) := by decide +kernel
theorem d_Rinit_149 : decode cb_Rinit 149 = .ok (.putfield 58, 3) := by decide +kernel
theorem d_Rinit_152 : decode cb_Rinit 152 = .ok (.aload_n 0, 1) := by decide +kernel
theorem d_Rinit_153 : decode cb_Rinit 153 = .ok (.bipush 6, 2) := by decide +kernel
theorem d_Rinit_155 : decode cb_Rinit 155 = .ok (.newarray .int, 2) := by decide +kernel
theorem d_Rinit_157 : decode cb_Rinit 157 = .ok (.putfield 61, 3) := by decide +kernel
theorem d_Rinit_160 : decode cb_Rinit 160 = .ok (.aload_n 0, 1) := by decide +kernel
theorem d_Rinit_161 : decode cb_Rinit 161 = .ok (.sipush 600, 3) := by decide +kernel
theorem d_Rinit_164 : decode cb_Rinit 164 = .ok (.newarray .int, 2) := by decide +kernel
theorem d_Rinit_166 : decode cb_Rinit 166 = .ok (.putfield 64, 3) := by decide +kernel
theorem d_Rinit_169 : decode cb_Rinit 169 = .ok (.aload_n 0, 1) := by decide +kernel
theorem d_Rinit_170 : decode cb_Rinit 170 = .ok (.getfield 16, 3) := by decide +kernel
theorem d_Rinit_173 : decode cb_Rinit 173 = .ok (.iconst 0, 1) := by decide +kernel
theorem d_Rinit_174 : decode cb_Rinit 174 = .ok (.bipush 7, 2) := by decide +kernel
theorem d_Rinit_176 : decode cb_Rinit 176 = .ok (.iastore, 1) := by decide +kernel
theorem d_Rinit_177 : decode cb_Rinit 177 = .ok (.aload_n 0, 1) := by decide +kernel
theorem d_Rinit_178 : decode cb_Rinit 178 = .ok (.getfield 25, 3) := by decide +kernel
theorem d_Rinit_181 : decode cb_Rinit 181 = .ok (.iconst 0, 1) := by decide +kernel
theorem d_Rinit_182 : decode cb_Rinit 182 = .ok (.iconst (-1), 1) := by decide +kernel
theorem d_Rinit_183 : decode cb_Rinit 183 = .ok (.iastore, 1) := by decide +kernel
theorem d_Rinit_184 : decode cb_Rinit 184 = .ok (.aload_n 0, 1) := by decide +kernel
theorem d_Rinit_185 : decode cb_Rinit 185 = .ok (.getfield 22, 3) := by decide +kernel
theorem d_Rinit_188 : decode cb_Rinit 188 = .ok (.iconst 0, 1) := by decide +kernel
theorem d_Rinit_189 : decode cb_Rinit 189 = .ok (.iconst (-1), 1) := by decide +kernel
theorem d_Rinit_190 : decode cb_Rinit 190 = .ok (.iastore, 1) := by decide +kernel
theorem d_Rinit_191 : decode cb_Rinit 191 = .ok (.aload_n 0, 1) := by decide +kernel
theorem d_Rinit_192 : decode cb_Rinit 192 = .ok (.getfield 13, 3) := by decide +kernel
theorem d_Rinit_195 : decode cb_Rinit 195 = .ok (.iconst 0, 1) := by decide +kernel
theorem d_Rinit_196 : decode cb_Rinit 196 = .ok (.iconst 1, 1) := by decide +kernel
theorem d_Rinit_197 : decode cb_Rinit 197 = .ok (.iastore, 1) := by decide +kernel
theorem d_Rinit_198 : decode cb_Rinit 198 = .ok (.return_, 1) := by decide +kernel
/-- The reference half made: its first k arrays are there. -/
def rO (h k j : Nat) : Option Nat := if j ≤ k then some (h + j) else none
def rFs (h k : Nat) (f : Nat → Int32) : List Value := [.int (f 0), .int (f 1), va_rf (rO h k 1), .int (f 3), .int (f 4), .int (f 5), va_rf (rO h k 2), va_rf (rO h k 3), va_rf (rO h k 4), va_rf (rO h k 5), va_rf (rO h k 6), va_rf (rO h k 7), va_rf (rO h k 8), va_rf (rO h k 9), va_rf (rO h k 10), va_rf (rO h k 11), va_rf (rO h k 12), va_rf (rO h k 13), .int (f 18), .int (f 19), .int (f 20), va_rf (rO h k 14), va_rf (rO h k 15), va_rf (rO h k 16), .int (f 24), .int (f 25), .int (f 26), va_rf (rO h k 17), va_rf (rO h k 18), .int (f 29), va_rf (rO h k 19)]
def rHs (dA : Nat → ClassId) (h k : Nat) (f : Nat → Int32) (hp0 : aH) : aH := fun a =>
  if a = h then some (.inr (cREF, rFs h k f)) else if h < a ∧ a ≤ h + k then some (.inl (dA 0, rN (a - h), .inl (fun _ => 0))) else hp0 a
def jF (j : Nat) : Nat := match j with
  | 1 => 2 | 2 => 6 | 3 => 7 | 4 => 8 | 5 => 9 | 6 => 10 | 7 => 11 | 8 => 12 | 9 => 13 | 10 => 14 | 11 => 15 | 12 => 16 | 13 => 17 | 14 => 21 | 15 => 22 | 16 => 23 | 17 => 27 | 18 => 28 | 19 => 30 | _ => 0
theorem rFs_set {h k : Nat} {f : Nat → Int32} (hk : k < 19) : (rFs h k f).set (jF (k + 1)) (.ref (h + (k + 1))) = rFs h (k + 1) f := by
  have : k = 0 ∨ k = 1 ∨ k = 2 ∨ k = 3 ∨ k = 4 ∨ k = 5 ∨ k = 6 ∨ k = 7 ∨ k = 8 ∨ k = 9 ∨ k = 10 ∨ k = 11 ∨ k = 12 ∨ k = 13 ∨ k = 14 ∨ k = 15 ∨ k = 16 ∨ k = 17 ∨ k = 18 := by omega
  rcases this with rfl | rfl | rfl | rfl | rfl | rfl | rfl | rfl | rfl | rfl | rfl | rfl | rfl | rfl | rfl | rfl | rfl | rfl | rfl <;> rfl
theorem rHs_end {dA : Nat → ClassId} {h : Nat} {f : Nat → Int32} {hp0 : aH} : rHs dA h 19 f hp0 = rH dA h (f, fun _ _ => 0) hp0 := rfl
theorem rHs_step {dA : Nat → ClassId} {h k : Nat} {f : Nat → Int32} {hp0 : aH} (hk : k < 19) : va_up (va_up (rHs dA h k f hp0) (h + (k + 1)) (some (.inl (dA 0, rN (k + 1), .inl (fun _ => 0))))) h (some (.inr (cREF, (rFs h k f).set (jF (k + 1)) (.ref (h + (k + 1)))))) = rHs dA h (k + 1) f hp0 := by
  rw [rFs_set hk]
  funext a
  by_cases e : a = h
  · subst e; rw [va_up_self]; simp [rHs]
  · rw [va_up_ne _ _ e]
    by_cases e1 : a = h + (k + 1)
    · subst e1
      rw [va_up_self]
      unfold rHs
      rw [if_neg e, if_pos (by omega), show h + (k + 1) - h = k + 1 by omega]
    · rw [va_up_ne _ _ e1]
      unfold rHs
      rw [if_neg e, if_neg e]
      by_cases e2 : h < a ∧ a ≤ h + k
      · rw [if_pos e2, if_pos (by omega)]
      · rw [if_neg e2, if_neg (by omega)]
section RI
variable {p : Program} {l : Launch} {e : Env} {R : Room} {s : State} {m : MethodId} {args : Array Value} {below : List Frame} {meth : Method} {c : Code} {H : Heap} {locs : List Loc} {cells slots : Nat} {Q : State → Prop}
variable {cc : ByteArray} {pc : Nat} {ls : Array Slot} {rest : List Value} {D : va_G} {dA : Nat → ClassId} {hp0 : aH} {b0 nL h : Nat} {H0 : Heap} {cd : Cond} {ret : Option FieldType} {f : Nat → Int32} {Z : State → Prop}
theorem r_mk {k index : Nat} {n : Int32} (B : BX p m c cc nL s args (cd :: wsA) RREF meth ret D vwCl (tyL dA) b0 Z) (hR : RR b0 h Z) (I : AI D vwCl b0 (rHs dA h k f hp0) (h + (k + 1)) s.heap H locs) (hk : k < 19) (hn : n.toNatClampNeg = rN (k + 1)) (hn0 : ¬ n < 0) (hn1 : n.toNatClampNeg < 100000) (hlt : jF (k + 1) < 31) (hlink : Cond.fieldLink RREF index RREF (TREF (jF (k + 1))).2.1 (TREF (jF (k + 1))).2.2.1 ∈ wsA) (hsame : (TREF (jF (k + 1))).1 = RREF) (hfin : (TREF (jF (k + 1))).2.2.2 = false) (hty : tyREF (jF (k + 1)) = .array .int) (hcells : cells + 1 ≤ R.cells) (hslots : slots + rN (k + 1) ≤ R.slots) (hdg : decode cc pc = .ok (.newarray .int, 2)) (hdp : decode cc (pc + 2) = .ok (.putfield index, 3))
    (kk : ∀ (H1 : Heap) (locs1 : List Loc), AI D vwCl b0 (rHs dA h (k + 1) f hp0) (h + (k + 1 + 1)) s.heap H1 locs1 → W p l e R s m args below meth c H1 locs1 (cells + 1) (slots + rN (k + 1)) Q (F0 m (pc + 5) ls rest)) : W p l e R s m args below meth c H locs cells slots Q (F0 m pc ls (.int n :: .ref h :: rest)) := by
  have B' := B
  obtain ⟨⟨hx, hb, -, hown, hts⟩, -, -, hK, -⟩ := B
  refine va_newaK (atype := .int) hx hb (hts _ (List.mem_cons_of_mem _ mA_int)) rfl hdg rfl hn0 rfl (by show _ * 4 ≤ _; omega) hcells (by rw [hn]; exact hslots) I.2.1 fun H1 cA e1 z1 o1 hAr hNm => ?_
  have hcA : cA = dA 0 := Option.some.inj (hNm.symm.trans (hK.2 0 (dA 0, .int) rfl).2)
  subst hcA
  rw [hn] at e1 ⊢
  have I1 := I.new (e := .inl (dA 0, rN (k + 1), .inl (fun _ => 0))) e1 z1 o1
  have he : va_up (rHs dA h k f hp0) (h + (k + 1)) (some (.inl (dA 0, rN (k + 1), .inl (fun _ => 0)))) h = some (.inr (cREF, rFs h k f)) := by
    rw [va_up_ne _ _ (by omega)]; simp [rHs]
  refine q_put B' I1 (fun w hw => List.mem_cons_of_mem _ (wsA_ref w hw)) tyREF tyREF_ok nREF he hR.1 hcREF (jF (k + 1)) hlt (List.mem_cons_of_mem _ hlink) hsame hfin rfl (v := .ref (h + (k + 1))) (nar_rf (.inr ⟨_, hty⟩) (some (h + (k + 1)))).1 (nar_rf (.inr ⟨_, hty⟩) (some (h + (k + 1)))).2 hlt hdp fun H2 locs2 J => ?_
  exact kk H2 locs2 (J.of (rHs_step hk))
end RI
section RJ
variable {l : Launch} {D : va_G} {dA : Nat → ClassId} {hp0 : aH} {b0 h : Nat} {f : Nat → Int32} {Z : State → Prop}
set_option maxRecDepth 100000 in
set_option maxHeartbeats 4000000 in
theorem c_Rinit {S1 S2 S3 S4 : rS} (hR : RR b0 h Z) (e1 : rT (f, fun _ _ => 0) 3 0 7 = some S1) (e2 : rT S1 6 0 (-1) = some S2) (e3 : rT S2 5 0 (-1) = some S3) (e4 : rT S3 2 0 1 = some S4) : Ct l D vwCl (tyL dA) b0 Z y_Rinit (.code y_Rinit cb_Rinit 1 none :: wsA) 1 30 [.ref h] (rHs dA h 0 f hp0) (h + 1) none (rH dA h S4 hp0) 19 6526 := by
  refine ct_ofF (cc := cb_Rinit) (maxL := 1) (ret := none) (lo0 := [some (.ref h)]) hR.2 (by decide) rfl (by simp [lg_sl, cat_i, cat_r, cat_l, va_rf_cat]) rfl (by simp [lx_all, lv_args, cat_i, cat_r, cat_l, va_rf_cat]) ?_
  intro p e s m args below meth c ls B hnm hl I
  obtain ⟨hx, hb, -⟩ := B.1
  refine q_aload_n (pc := 0) (i := 0) (v := .ref h) hx hb d_Rinit_0 rfl rfl (lx_get hl rfl) ?_
  refine k_obj (pc := 1) (index := 1) B hl rfl mO_R_1 mA_oI mA_oC (Nat.le_of_ble_eq_true rfl) (Nat.le_of_ble_eq_true rfl) d_Rinit_1 ?_
  refine q_aload_n (pc := 4) (i := 0) (v := .ref h) hx hb d_Rinit_4 rfl rfl (lx_get hl rfl) ?_
  refine lv_sipush (pc := 5) (v := 240) hx hb d_Rinit_5 (by decide) ?_
  refine r_mk (k := 0) (pc := 8) (index := 7) B hR I (by decide) (by decide) (by decide) (by decide) (by decide) mF_7 rfl rfl rfl (Nat.le_of_ble_eq_true rfl) (Nat.le_of_ble_eq_true rfl) d_Rinit_8 d_Rinit_10 (fun H locs I => ?_)
  refine q_aload_n (pc := 13) (i := 0) (v := .ref h) hx hb d_Rinit_13 rfl rfl (lx_get hl rfl) ?_
  refine lv_iconst (pc := 14) (v := 2) hx hb d_Rinit_14 (by decide) ?_
  refine r_mk (k := 1) (pc := 15) (index := 13) B hR I (by decide) (by decide) (by decide) (by decide) (by decide) mF_13 rfl rfl rfl (Nat.le_of_ble_eq_true rfl) (Nat.le_of_ble_eq_true rfl) d_Rinit_15 d_Rinit_17 (fun H locs I => ?_)
  refine q_aload_n (pc := 20) (i := 0) (v := .ref h) hx hb d_Rinit_20 rfl rfl (lx_get hl rfl) ?_
  refine lv_sipush (pc := 21) (v := 520) hx hb d_Rinit_21 (by decide) ?_
  refine r_mk (k := 2) (pc := 24) (index := 16) B hR I (by decide) (by decide) (by decide) (by decide) (by decide) mF_16 rfl rfl rfl (Nat.le_of_ble_eq_true rfl) (Nat.le_of_ble_eq_true rfl) d_Rinit_24 d_Rinit_26 (fun H locs I => ?_)
  refine q_aload_n (pc := 29) (i := 0) (v := .ref h) hx hb d_Rinit_29 rfl rfl (lx_get hl rfl) ?_
  refine lv_sipush (pc := 30) (v := 520) hx hb d_Rinit_30 (by decide) ?_
  refine r_mk (k := 3) (pc := 33) (index := 19) B hR I (by decide) (by decide) (by decide) (by decide) (by decide) mF_19 rfl rfl rfl (Nat.le_of_ble_eq_true rfl) (Nat.le_of_ble_eq_true rfl) d_Rinit_33 d_Rinit_35 (fun H locs I => ?_)
  refine q_aload_n (pc := 38) (i := 0) (v := .ref h) hx hb d_Rinit_38 rfl rfl (lx_get hl rfl) ?_
  refine lv_sipush (pc := 39) (v := 520) hx hb d_Rinit_39 (by decide) ?_
  refine r_mk (k := 4) (pc := 42) (index := 22) B hR I (by decide) (by decide) (by decide) (by decide) (by decide) mF_22 rfl rfl rfl (Nat.le_of_ble_eq_true rfl) (Nat.le_of_ble_eq_true rfl) d_Rinit_42 d_Rinit_44 (fun H locs I => ?_)
  refine q_aload_n (pc := 47) (i := 0) (v := .ref h) hx hb d_Rinit_47 rfl rfl (lx_get hl rfl) ?_
  refine lv_sipush (pc := 48) (v := 520) hx hb d_Rinit_48 (by decide) ?_
  refine r_mk (k := 5) (pc := 51) (index := 25) B hR I (by decide) (by decide) (by decide) (by decide) (by decide) mF_25 rfl rfl rfl (Nat.le_of_ble_eq_true rfl) (Nat.le_of_ble_eq_true rfl) d_Rinit_51 d_Rinit_53 (fun H locs I => ?_)
  refine q_aload_n (pc := 56) (i := 0) (v := .ref h) hx hb d_Rinit_56 rfl rfl (lx_get hl rfl) ?_
  refine lv_sipush (pc := 57) (v := 520) hx hb d_Rinit_57 (by decide) ?_
  refine r_mk (k := 6) (pc := 60) (index := 28) B hR I (by decide) (by decide) (by decide) (by decide) (by decide) mF_28 rfl rfl rfl (Nat.le_of_ble_eq_true rfl) (Nat.le_of_ble_eq_true rfl) d_Rinit_60 d_Rinit_62 (fun H locs I => ?_)
  refine q_aload_n (pc := 65) (i := 0) (v := .ref h) hx hb d_Rinit_65 rfl rfl (lx_get hl rfl) ?_
  refine lv_sipush (pc := 66) (v := 520) hx hb d_Rinit_66 (by decide) ?_
  refine r_mk (k := 7) (pc := 69) (index := 31) B hR I (by decide) (by decide) (by decide) (by decide) (by decide) mF_31 rfl rfl rfl (Nat.le_of_ble_eq_true rfl) (Nat.le_of_ble_eq_true rfl) d_Rinit_69 d_Rinit_71 (fun H locs I => ?_)
  refine q_aload_n (pc := 74) (i := 0) (v := .ref h) hx hb d_Rinit_74 rfl rfl (lx_get hl rfl) ?_
  refine lv_sipush (pc := 75) (v := 520) hx hb d_Rinit_75 (by decide) ?_
  refine r_mk (k := 8) (pc := 78) (index := 34) B hR I (by decide) (by decide) (by decide) (by decide) (by decide) mF_34 rfl rfl rfl (Nat.le_of_ble_eq_true rfl) (Nat.le_of_ble_eq_true rfl) d_Rinit_78 d_Rinit_80 (fun H locs I => ?_)
  refine q_aload_n (pc := 83) (i := 0) (v := .ref h) hx hb d_Rinit_83 rfl rfl (lx_get hl rfl) ?_
  refine lv_sipush (pc := 84) (v := 520) hx hb d_Rinit_84 (by decide) ?_
  refine r_mk (k := 9) (pc := 87) (index := 37) B hR I (by decide) (by decide) (by decide) (by decide) (by decide) mF_37 rfl rfl rfl (Nat.le_of_ble_eq_true rfl) (Nat.le_of_ble_eq_true rfl) d_Rinit_87 d_Rinit_89 (fun H locs I => ?_)
  refine q_aload_n (pc := 92) (i := 0) (v := .ref h) hx hb d_Rinit_92 rfl rfl (lx_get hl rfl) ?_
  refine lv_sipush (pc := 93) (v := 520) hx hb d_Rinit_93 (by decide) ?_
  refine r_mk (k := 10) (pc := 96) (index := 40) B hR I (by decide) (by decide) (by decide) (by decide) (by decide) mF_40 rfl rfl rfl (Nat.le_of_ble_eq_true rfl) (Nat.le_of_ble_eq_true rfl) d_Rinit_96 d_Rinit_98 (fun H locs I => ?_)
  refine q_aload_n (pc := 101) (i := 0) (v := .ref h) hx hb d_Rinit_101 rfl rfl (lx_get hl rfl) ?_
  refine lv_iconst (pc := 102) (v := 2) hx hb d_Rinit_102 (by decide) ?_
  refine r_mk (k := 11) (pc := 103) (index := 43) B hR I (by decide) (by decide) (by decide) (by decide) (by decide) mF_43 rfl rfl rfl (Nat.le_of_ble_eq_true rfl) (Nat.le_of_ble_eq_true rfl) d_Rinit_103 d_Rinit_105 (fun H locs I => ?_)
  refine q_aload_n (pc := 108) (i := 0) (v := .ref h) hx hb d_Rinit_108 rfl rfl (lx_get hl rfl) ?_
  refine lv_sipush (pc := 109) (v := 600) hx hb d_Rinit_109 (by decide) ?_
  refine r_mk (k := 12) (pc := 112) (index := 46) B hR I (by decide) (by decide) (by decide) (by decide) (by decide) mF_46 rfl rfl rfl (Nat.le_of_ble_eq_true rfl) (Nat.le_of_ble_eq_true rfl) d_Rinit_112 d_Rinit_114 (fun H locs I => ?_)
  refine q_aload_n (pc := 117) (i := 0) (v := .ref h) hx hb d_Rinit_117 rfl rfl (lx_get hl rfl) ?_
  refine lv_sipush (pc := 118) (v := 130) hx hb d_Rinit_118 (by decide) ?_
  refine r_mk (k := 13) (pc := 121) (index := 49) B hR I (by decide) (by decide) (by decide) (by decide) (by decide) mF_49 rfl rfl rfl (Nat.le_of_ble_eq_true rfl) (Nat.le_of_ble_eq_true rfl) d_Rinit_121 d_Rinit_123 (fun H locs I => ?_)
  refine q_aload_n (pc := 126) (i := 0) (v := .ref h) hx hb d_Rinit_126 rfl rfl (lx_get hl rfl) ?_
  refine lv_sipush (pc := 127) (v := 130) hx hb d_Rinit_127 (by decide) ?_
  refine r_mk (k := 14) (pc := 130) (index := 52) B hR I (by decide) (by decide) (by decide) (by decide) (by decide) mF_52 rfl rfl rfl (Nat.le_of_ble_eq_true rfl) (Nat.le_of_ble_eq_true rfl) d_Rinit_130 d_Rinit_132 (fun H locs I => ?_)
  refine q_aload_n (pc := 135) (i := 0) (v := .ref h) hx hb d_Rinit_135 rfl rfl (lx_get hl rfl) ?_
  refine lv_sipush (pc := 136) (v := 130) hx hb d_Rinit_136 (by decide) ?_
  refine r_mk (k := 15) (pc := 139) (index := 55) B hR I (by decide) (by decide) (by decide) (by decide) (by decide) mF_55 rfl rfl rfl (Nat.le_of_ble_eq_true rfl) (Nat.le_of_ble_eq_true rfl) d_Rinit_139 d_Rinit_141 (fun H locs I => ?_)
  refine q_aload_n (pc := 144) (i := 0) (v := .ref h) hx hb d_Rinit_144 rfl rfl (lx_get hl rfl) ?_
  refine lv_bipush (pc := 145) (v := 6) hx hb d_Rinit_145 (by decide) ?_
  refine r_mk (k := 16) (pc := 147) (index := 58) B hR I (by decide) (by decide) (by decide) (by decide) (by decide) mF_58 rfl rfl rfl (Nat.le_of_ble_eq_true rfl) (Nat.le_of_ble_eq_true rfl) d_Rinit_147 d_Rinit_149 (fun H locs I => ?_)
  refine q_aload_n (pc := 152) (i := 0) (v := .ref h) hx hb d_Rinit_152 rfl rfl (lx_get hl rfl) ?_
  refine lv_bipush (pc := 153) (v := 6) hx hb d_Rinit_153 (by decide) ?_
  refine r_mk (k := 17) (pc := 155) (index := 61) B hR I (by decide) (by decide) (by decide) (by decide) (by decide) mF_61 rfl rfl rfl (Nat.le_of_ble_eq_true rfl) (Nat.le_of_ble_eq_true rfl) d_Rinit_155 d_Rinit_157 (fun H locs I => ?_)
  refine q_aload_n (pc := 160) (i := 0) (v := .ref h) hx hb d_Rinit_160 rfl rfl (lx_get hl rfl) ?_
  refine lv_sipush (pc := 161) (v := 600) hx hb d_Rinit_161 (by decide) ?_
  refine r_mk (k := 18) (pc := 164) (index := 64) B hR I (by decide) (by decide) (by decide) (by decide) (by decide) mF_64 rfl rfl rfl (Nat.le_of_ble_eq_true rfl) (Nat.le_of_ble_eq_true rfl) d_Rinit_164 d_Rinit_166 (fun H locs I => ?_)
  have I := I.of rHs_end
  refine q_aload_n (pc := 169) (i := 0) (v := .ref h) hx hb d_Rinit_169 rfl rfl (lx_get hl rfl) ?_
  refine r_get (pc := 170) (k := 7) (index := 16) B I (by decide) mF_16 rfl rfl d_Rinit_170 ?_
  refine lv_iconst (pc := 173) (v := 0) hx hb d_Rinit_173 (by decide) ?_
  refine lv_bipush (pc := 174) (v := 7) hx hb d_Rinit_174 (by decide) ?_
  refine r_ast (pc := 176) (j := 3) B hR I (by decide) (by decide) e1 d_Rinit_176 (fun H locs I => ?_)
  refine q_aload_n (pc := 177) (i := 0) (v := .ref h) hx hb d_Rinit_177 rfl rfl (lx_get hl rfl) ?_
  refine r_get (pc := 178) (k := 10) (index := 25) B I (by decide) mF_25 rfl rfl d_Rinit_178 ?_
  refine lv_iconst (pc := 181) (v := 0) hx hb d_Rinit_181 (by decide) ?_
  refine lv_iconst (pc := 182) (v := (-1)) hx hb d_Rinit_182 (by decide) ?_
  refine r_ast (pc := 183) (j := 6) B hR I (by decide) (by decide) e2 d_Rinit_183 (fun H locs I => ?_)
  refine q_aload_n (pc := 184) (i := 0) (v := .ref h) hx hb d_Rinit_184 rfl rfl (lx_get hl rfl) ?_
  refine r_get (pc := 185) (k := 9) (index := 22) B I (by decide) mF_22 rfl rfl d_Rinit_185 ?_
  refine lv_iconst (pc := 188) (v := 0) hx hb d_Rinit_188 (by decide) ?_
  refine lv_iconst (pc := 189) (v := (-1)) hx hb d_Rinit_189 (by decide) ?_
  refine r_ast (pc := 190) (j := 5) B hR I (by decide) (by decide) e3 d_Rinit_190 (fun H locs I => ?_)
  refine q_aload_n (pc := 191) (i := 0) (v := .ref h) hx hb d_Rinit_191 rfl rfl (lx_get hl rfl) ?_
  refine r_get (pc := 192) (k := 6) (index := 13) B I (by decide) mF_13 rfl rfl d_Rinit_192 ?_
  refine lv_iconst (pc := 195) (v := 0) hx hb d_Rinit_195 (by decide) ?_
  refine lv_iconst (pc := 196) (v := 1) hx hb d_Rinit_196 (by decide) ?_
  refine r_ast (pc := 197) (j := 2) B hR I (by decide) (by decide) e4 d_Rinit_197 (fun H locs I => ?_)
  exact q_vretA (sz0 := h + 1) (pc := 198) B I rfl rfl rfl rfl d_Rinit_198
end RJ
