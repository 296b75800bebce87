/-! What the tables and the start say at the law's entry. -/
section KT
variable {s : State} {args : Array Value}
theorem ArrOfT_of {ty : FieldType} {cA comp : ClassId} {k : Class} (h2 : s.vm.classes[cA]? = some k) (h3 : k.kind = .array comp ty) : ArrOfT s cA ty := fun N z => ⟨fun k h => (by cases h), k, h2, comp, h3⟩
theorem k_world (hts : ∀ w ∈ lw_tbl, w.before args s = true) : ∃ (D : va_G) (dA : Nat → ClassId), va_K D vwCl (tyL dA) s := by
  have ht : ∀ w ∈ wsA, w.before args s = true := fun w hw => hts w (List.mem_filter.mp hw).1
  obtain ⟨c0, i0, k0⟩ := u_known (n := _) ht wsA_Z0 (ht _ mI_L_R)
  obtain ⟨c1, i1, k1⟩ := u_known (n := _) ht wsA_Z1 (ht _ mI_L_1)
  obtain ⟨c2, i2, k2⟩ := u_known (n := _) ht wsA_Z2 (ht _ mI_2)
  obtain ⟨c3, i3, k3⟩ := u_known (n := _) ht wsA_Z3 (ht _ mI_3)
  obtain ⟨c4, i4, k4⟩ := u_known (n := _) ht wsA_Z4 (ht _ mI_4)
  obtain ⟨c5, i5, k5⟩ := u_known (n := _) ht wsA_Z5 (ht _ mI_5)
  obtain ⟨c6, i6, k6⟩ := u_known (n := _) ht wsA_Z6 (ht _ mI_6)
  obtain ⟨c7, i7, k7⟩ := u_known (n := _) ht wsA_Z7 (ht _ mI_7)
  obtain ⟨c8, i8, k8⟩ := u_known (n := _) ht wsA_Z8 (ht _ mI_8)
  obtain ⟨a0, f0, p0, r0, t0, u0⟩ := Cond.arrayClass_spec (ht _ mA_int)
  obtain ⟨a1, f1, p1, r1, t1, u1⟩ := Cond.arrayClass_spec (ht _ mA_char)
  obtain ⟨a2, f2, p2, r2, t2, u2⟩ := Cond.arrayClass_spec (ht _ mA_byte)
  obtain ⟨p3, a3, f3, q3, -, t3, u3, r3⟩ := Cond.arrayOver_spec (n := "java/lang/Object") (hts _ (List.mem_of_getElem? (i := 832) (by decide +kernel)))
  obtain ⟨a4, f4, p4, r4, t4, u4⟩ := Cond.arrayClass_spec (ht _ mA_long)
  refine ⟨(fun c => match c with | 0 => c0 | 1 => c1 | 2 => c2 | 3 => c3 | 4 => c4 | 5 => c5 | 6 => c6 | 7 => c7 | _ => c8, fun c => match c with | 0 => i0 | 1 => i1 | 2 => i2 | 3 => i3 | 4 => i4 | 5 => i5 | 6 => i6 | 7 => i7 | _ => i8), fun k => match k with | 0 => a0 | 1 => a1 | 2 => a2 | 3 => a3 | _ => a4, fun c q hq => ?_, fun k q hk => ?_⟩
  · match c, hq with
    | 0, hq => cases hq; exact k0
    | 1, hq => cases hq; exact k1
    | 2, hq => cases hq; exact k2
    | 3, hq => cases hq; exact k3
    | 4, hq => cases hq; exact k4
    | 5, hq => cases hq; exact k5
    | 6, hq => cases hq; exact k6
    | 7, hq => cases hq; exact k7
    | 8, hq => cases hq; exact k8
    | c + 9, hq => cases hq
  · match k, hk with
    | 0, hk => cases hk; exact ⟨ArrOfT_of t0 u0, r0⟩
    | 1, hk => cases hk; exact ⟨ArrOfT_of t1 u1, r1⟩
    | 2, hk => cases hk; exact ⟨ArrOfT_of t2 u2, r2⟩
    | 3, hk => cases hk; exact ⟨ArrOfT_of t3 u3, f3, p3, t3, u3, q3, r3⟩
    | 4, hk => cases hk; exact ⟨ArrOfT_of t4 u4, r4⟩
    | k + 5, hk => cases hk
theorem ls_of {b0 : Nat} {C n d : String} (hb : s.heap.size = b0) (h : (Cond.laysStatic C n d).before args s = true) : lsT b0 C n d s := by
  obtain ⟨c, k, i, f, a, cell, h1, h2, h3, h4, h5, h6, h7, h8, h9⟩ := Cond.laysStatic_spec h
  exact ⟨c, k, i, f, a, cell, h1, h2, h3, h4, h5, h6, h7, h8, h9, by rw [← hb]; exact (Array.getElem?_eq_some_iff.mp h5).1⟩
theorem ncast_of {C T : String} (h : (Cond.not (.castable C T)).before args s = true) : va_Nw (.not (.castable C T)) s := by
  show (Cond.not (.castable C T)).before #[] s = true
  simp only [Cond.before, Cond.holds, Cond.value] at h ⊢
  exact h
theorem nw_of (hts : ∀ w ∈ lw_tbl, w.before args s = true) : ∀ w ∈ nwA, va_Nw w s := by
  intro w hw
  obtain ⟨h1, h2⟩ := List.mem_filter.mp hw
  have h0 := hts w (List.mem_append_right _ h1)
  unfold isNest at h2
  split at h2
  · exact va_Nw.of rfl h0
  · exact va_Nw.of rfl h0
  · cases h2
theorem isRef_rf {t : Term} (h : (Cond.isRef t).before args s = true) : ∃ r : Option Nat, t.eval args s none [] s = some (va_rf r) := by
  obtain ⟨v, hv, hr⟩ := Cond.isRef_spec h
  cases v with
  | null => exact ⟨none, hv⟩
  | ref a => exact ⟨some a, hv⟩
  | _ => cases hr
set_option maxRecDepth 100000 in
theorem ex_of (hts : ∀ w ∈ lw_tbl, w.before args s = true) (hs : ∀ w ∈ flatC (Jvm.Cond.and given_1 narrow_1), w.before args s = true) : ∀ w ∈ exW, va_Nw w s := by
  intro w hw
  obtain ⟨i, hi⟩ := List.getElem?_of_mem hw
  match i, hi with
  | 0, hi => cases hi; exact va_Nw.of rfl (hts _ (List.mem_of_getElem? (i := 1463) (by decide +kernel)))
  | 1, hi => cases hi; exact va_Nw.of rfl (hts _ (List.mem_of_getElem? (i := 388) (by decide +kernel)))
  | 2, hi => cases hi; exact va_Nw.of rfl (sel_AB (y0 := y_AB_isLatin1) (by decide) (hts _ (List.mem_filter.mp sel_AB_isLatin1).1) rfl (hts _ (List.mem_of_getElem? (i := 362) (by decide +kernel))) (hts _ (List.mem_of_getElem? (i := 363) (by decide +kernel))))
  | 3, hi => cases hi; exact va_Nw.of rfl (sel_AB (y0 := y_AB_isLatin1) (by decide) (hts _ (List.mem_filter.mp sel_AB_isLatin1).1) rfl (hts _ (List.mem_of_getElem? (i := 366) (by decide +kernel))) (hts _ (List.mem_of_getElem? (i := 367) (by decide +kernel))))
  | 4, hi => cases hi; exact va_Nw.of rfl (hts _ (List.mem_of_getElem? (i := 534) (by decide +kernel)))
  | 5, hi => cases hi; exact va_Nw.of rfl (hts _ (List.mem_of_getElem? (i := 536) (by decide +kernel)))
  | 6, hi => cases hi; exact va_Nw.of rfl (hts _ (List.mem_of_getElem? (i := 538) (by decide +kernel)))
  | 7, hi => cases hi; exact va_Nw.of rfl (hts _ (List.mem_of_getElem? (i := 533) (by decide +kernel)))
  | 8, hi => cases hi; exact va_Nw.of rfl (hts _ (List.mem_of_getElem? (i := 1045) (by decide +kernel)))
  | 9, hi => cases hi; exact va_Nw.of rfl (hts _ (List.mem_of_getElem? (i := 1068) (by decide +kernel)))
  | 10, hi => cases hi; exact ncast_of (hs _ (List.mem_of_getElem? (i := 254) (by decide +kernel)))
  | 11, hi => cases hi; exact ncast_of (hs _ (List.mem_of_getElem? (i := 275) (by decide +kernel)))
  | i + 12, hi => cases hi
set_option maxRecDepth 100000 in
theorem k_consts {b0 : Nat} {D : va_G} {dA : Nat → ClassId} (hb : s.heap.size = b0) (hK : va_K D vwCl (tyL dA) s) (hts : ∀ w ∈ lw_tbl, w.before args s = true) (hs : ∀ w ∈ flatC (Jvm.Cond.and given_1 narrow_1), w.before args s = true) : ∃ K : cS, ZX b0 K s ∧ KF b0 K := by
  have hA : ∀ a : Nat, a < s.heap.size → ¬ bA b0 a := fun a h q => by unfold bA at q; omega
  obtain ⟨a0, v0, r0, l0⟩ := lit_at (own := "TableText$Reader") (k := 162) (tx := "true") (l := litT 0) hA litT_len (hts _ (List.mem_of_getElem? (i := 878) (by decide +kernel))) (hs _ (List.mem_of_getElem? (i := 406) (by decide +kernel))) (hs _ (List.mem_of_getElem? (i := 407) (by decide +kernel))) (hs _ (List.mem_of_getElem? (i := 408) (by decide +kernel))) (hs _ (List.mem_of_getElem? (i := 409) (by decide +kernel))) (fun i hi => match i, hi with | 0, _ => (hs _ (List.mem_of_getElem? (i := 410) (by decide +kernel))) | 1, _ => (hs _ (List.mem_of_getElem? (i := 411) (by decide +kernel))) | 2, _ => (hs _ (List.mem_of_getElem? (i := 412) (by decide +kernel))) | 3, _ => (hs _ (List.mem_of_getElem? (i := 413) (by decide +kernel))) | i + 4, hi => absurd hi (by show ¬ i + 4 < 4; omega))
  obtain ⟨a1, v1, r1, l1⟩ := lit_at (own := "TableText$Reader") (k := 167) (tx := "false") (l := litT 1) hA litT_len (hts _ (List.mem_of_getElem? (i := 898) (by decide +kernel))) (hs _ (List.mem_of_getElem? (i := 420) (by decide +kernel))) (hs _ (List.mem_of_getElem? (i := 421) (by decide +kernel))) (hs _ (List.mem_of_getElem? (i := 422) (by decide +kernel))) (hs _ (List.mem_of_getElem? (i := 423) (by decide +kernel))) (fun i hi => match i, hi with | 0, _ => (hs _ (List.mem_of_getElem? (i := 424) (by decide +kernel))) | 1, _ => (hs _ (List.mem_of_getElem? (i := 425) (by decide +kernel))) | 2, _ => (hs _ (List.mem_of_getElem? (i := 426) (by decide +kernel))) | 3, _ => (hs _ (List.mem_of_getElem? (i := 427) (by decide +kernel))) | 4, _ => (hs _ (List.mem_of_getElem? (i := 428) (by decide +kernel))) | i + 5, hi => absurd hi (by show ¬ i + 5 < 5; omega))
  obtain ⟨a2, v2, r2, l2⟩ := lit_at (own := "TableText$Page") (k := 114) (tx := "\\n") (l := litT 2) hA litT_len (hts _ (List.mem_of_getElem? (i := 967) (by decide +kernel))) (hs _ (List.mem_of_getElem? (i := 436) (by decide +kernel))) (hs _ (List.mem_of_getElem? (i := 437) (by decide +kernel))) (hs _ (List.mem_of_getElem? (i := 438) (by decide +kernel))) (hs _ (List.mem_of_getElem? (i := 439) (by decide +kernel))) (fun i hi => match i, hi with | 0, _ => (hs _ (List.mem_of_getElem? (i := 440) (by decide +kernel))) | 1, _ => (hs _ (List.mem_of_getElem? (i := 441) (by decide +kernel))) | i + 2, hi => absurd hi (by show ¬ i + 2 < 2; omega))
  obtain ⟨a3, v3, r3, l3⟩ := lit_at (own := "TableText$Page") (k := 116) (tx := "\\t") (l := litT 3) hA litT_len (hts _ (List.mem_of_getElem? (i := 968) (by decide +kernel))) (hs _ (List.mem_of_getElem? (i := 450) (by decide +kernel))) (hs _ (List.mem_of_getElem? (i := 451) (by decide +kernel))) (hs _ (List.mem_of_getElem? (i := 452) (by decide +kernel))) (hs _ (List.mem_of_getElem? (i := 453) (by decide +kernel))) (fun i hi => match i, hi with | 0, _ => (hs _ (List.mem_of_getElem? (i := 454) (by decide +kernel))) | 1, _ => (hs _ (List.mem_of_getElem? (i := 455) (by decide +kernel))) | i + 2, hi => absurd hi (by show ¬ i + 2 < 2; omega))
  obtain ⟨a4, v4, r4, l4⟩ := lit_at (own := "TableText$Page") (k := 41) (tx := " = ") (l := litT 4) hA litT_len (hts _ (List.mem_of_getElem? (i := 969) (by decide +kernel))) (hs _ (List.mem_of_getElem? (i := 465) (by decide +kernel))) (hs _ (List.mem_of_getElem? (i := 466) (by decide +kernel))) (hs _ (List.mem_of_getElem? (i := 467) (by decide +kernel))) (hs _ (List.mem_of_getElem? (i := 468) (by decide +kernel))) (fun i hi => match i, hi with | 0, _ => (hs _ (List.mem_of_getElem? (i := 469) (by decide +kernel))) | 1, _ => (hs _ (List.mem_of_getElem? (i := 470) (by decide +kernel))) | 2, _ => (hs _ (List.mem_of_getElem? (i := 471) (by decide +kernel))) | i + 3, hi => absurd hi (by show ¬ i + 3 < 3; omega))
  obtain ⟨a5, v5, r5, l5⟩ := lit_at (own := "TableText$Page") (k := 69) (tx := "true") (l := litT 5) hA litT_len (hts _ (List.mem_of_getElem? (i := 975) (by decide +kernel))) (hs _ (List.mem_of_getElem? (i := 482) (by decide +kernel))) (hs _ (List.mem_of_getElem? (i := 483) (by decide +kernel))) (hs _ (List.mem_of_getElem? (i := 484) (by decide +kernel))) (hs _ (List.mem_of_getElem? (i := 485) (by decide +kernel))) (fun i hi => match i, hi with | 0, _ => (hs _ (List.mem_of_getElem? (i := 486) (by decide +kernel))) | 1, _ => (hs _ (List.mem_of_getElem? (i := 487) (by decide +kernel))) | 2, _ => (hs _ (List.mem_of_getElem? (i := 488) (by decide +kernel))) | 3, _ => (hs _ (List.mem_of_getElem? (i := 489) (by decide +kernel))) | i + 4, hi => absurd hi (by show ¬ i + 4 < 4; omega))
  obtain ⟨a6, v6, r6, l6⟩ := lit_at (own := "TableText$Page") (k := 71) (tx := "false") (l := litT 6) hA litT_len (hts _ (List.mem_of_getElem? (i := 976) (by decide +kernel))) (hs _ (List.mem_of_getElem? (i := 501) (by decide +kernel))) (hs _ (List.mem_of_getElem? (i := 502) (by decide +kernel))) (hs _ (List.mem_of_getElem? (i := 503) (by decide +kernel))) (hs _ (List.mem_of_getElem? (i := 504) (by decide +kernel))) (fun i hi => match i, hi with | 0, _ => (hs _ (List.mem_of_getElem? (i := 505) (by decide +kernel))) | 1, _ => (hs _ (List.mem_of_getElem? (i := 506) (by decide +kernel))) | 2, _ => (hs _ (List.mem_of_getElem? (i := 507) (by decide +kernel))) | 3, _ => (hs _ (List.mem_of_getElem? (i := 508) (by decide +kernel))) | 4, _ => (hs _ (List.mem_of_getElem? (i := 509) (by decide +kernel))) | i + 5, hi => absurd hi (by show ¬ i + 5 < 5; omega))
  obtain ⟨a7, v7, r7, l7⟩ := lit_at (own := "TableText$Page") (k := 93) (tx := "\n") (l := litT 7) hA litT_len (hts _ (List.mem_of_getElem? (i := 1003) (by decide +kernel))) (hs _ (List.mem_of_getElem? (i := 522) (by decide +kernel))) (hs _ (List.mem_of_getElem? (i := 523) (by decide +kernel))) (hs _ (List.mem_of_getElem? (i := 524) (by decide +kernel))) (hs _ (List.mem_of_getElem? (i := 525) (by decide +kernel))) (fun i hi => match i, hi with | 0, _ => (hs _ (List.mem_of_getElem? (i := 526) (by decide +kernel))) | i + 1, hi => absurd hi (by show ¬ i + 1 < 1; omega))
  obtain ⟨a8, v8, r8, l8⟩ := lit_at (own := "TableText$Page") (k := 95) (tx := ", ") (l := litT 8) hA litT_len (hts _ (List.mem_of_getElem? (i := 1004) (by decide +kernel))) (hs _ (List.mem_of_getElem? (i := 540) (by decide +kernel))) (hs _ (List.mem_of_getElem? (i := 541) (by decide +kernel))) (hs _ (List.mem_of_getElem? (i := 542) (by decide +kernel))) (hs _ (List.mem_of_getElem? (i := 543) (by decide +kernel))) (fun i hi => match i, hi with | 0, _ => (hs _ (List.mem_of_getElem? (i := 544) (by decide +kernel))) | 1, _ => (hs _ (List.mem_of_getElem? (i := 545) (by decide +kernel))) | i + 2, hi => absurd hi (by show ¬ i + 2 < 2; omega))
  obtain ⟨d, hd, hdT⟩ := va_Tof (args := args) (s := s) (tm := .static "java/util/ArrayList" "DEFAULTCAPACITY_EMPTY_ELEMENTDATA" "[Ljava/lang/Object;") (ty := .object "java/lang/Object") (N := 0) (f := fun _ => .null) (A := bA b0) (by decide) (hs _ (List.mem_of_getElem? (i := 6) (by decide +kernel))) (va_eqt (hs _ (List.mem_of_getElem? (i := 8) (by decide +kernel)))) (fun j hj => absurd hj (Nat.not_lt_zero _)) hA
  obtain ⟨y, hy, hyT⟩ := va_Tof (args := args) (s := s) (tm := .static "TableText" "DAYS" "[I") (ty := .int) (N := 12) (f := fun j => .int (daysL.getD j 0)) (A := bA b0) (by decide) (hs _ (List.mem_of_getElem? (i := 222) (by decide +kernel))) (va_eqt (hs _ (List.mem_of_getElem? (i := 223) (by decide +kernel)))) (fun i hi => match i, hi with | 0, _ => va_eqt (hs _ (List.mem_of_getElem? (i := 224) (by decide +kernel))) | 1, _ => va_eqt (hs _ (List.mem_of_getElem? (i := 225) (by decide +kernel))) | 2, _ => va_eqt (hs _ (List.mem_of_getElem? (i := 226) (by decide +kernel))) | 3, _ => va_eqt (hs _ (List.mem_of_getElem? (i := 227) (by decide +kernel))) | 4, _ => va_eqt (hs _ (List.mem_of_getElem? (i := 228) (by decide +kernel))) | 5, _ => va_eqt (hs _ (List.mem_of_getElem? (i := 229) (by decide +kernel))) | 6, _ => va_eqt (hs _ (List.mem_of_getElem? (i := 230) (by decide +kernel))) | 7, _ => va_eqt (hs _ (List.mem_of_getElem? (i := 231) (by decide +kernel))) | 8, _ => va_eqt (hs _ (List.mem_of_getElem? (i := 232) (by decide +kernel))) | 9, _ => va_eqt (hs _ (List.mem_of_getElem? (i := 233) (by decide +kernel))) | 10, _ => va_eqt (hs _ (List.mem_of_getElem? (i := 234) (by decide +kernel))) | 11, _ => va_eqt (hs _ (List.mem_of_getElem? (i := 235) (by decide +kernel))) | i + 12, hi => absurd hi (by omega)) hA
  obtain ⟨sb, hsb⟩ := isRef_rf (t := .static "jdk/internal/util/Preconditions" "SIOOBE_FORMATTER" "Ljava/util/function/BiFunction;") (hs _ (List.mem_of_getElem? (i := 9) (by decide +kernel)))
  obtain ⟨mi, hmi⟩ := va_Mi.of (C := "[Ljava/lang/Object;") (hs _ (List.mem_of_getElem? (i := 287) (by decide +kernel)))
  have hC := (hK.1 6 _ rfl).2
  have hL : ∀ j, j < 9 → LitAt b0 s (litT j) ((fun j => match j with | 0 => a0 | 1 => a1 | 2 => a2 | 3 => a3 | 4 => a4 | 5 => a5 | 6 => a6 | 7 => a7 | _ => a8) j) ((fun j => match j with | 0 => v0 | 1 => v1 | 2 => v2 | 3 => v3 | 4 => v4 | 5 => v5 | 6 => v6 | 7 => v7 | _ => v8) j) := fun j hj => match j, hj with | 0, _ => l0 | 1, _ => l1 | 2, _ => l2 | 3, _ => l3 | 4, _ => l4 | 5, _ => l5 | 6, _ => l6 | 7, _ => l7 | 8, _ => l8 | j + 9, hj => absurd hj (by omega)
  have hlt : ∀ j, j < 9 → (fun j => match j with | 0 => a0 | 1 => a1 | 2 => a2 | 3 => a3 | 4 => a4 | 5 => a5 | 6 => a6 | 7 => a7 | _ => a8) j < b0 ∧ (fun j => match j with | 0 => v0 | 1 => v1 | 2 => v2 | 3 => v3 | 4 => v4 | 5 => v5 | 6 => v6 | 7 => v7 | _ => v8) j < b0 := fun j hj => by
    obtain ⟨⟨_, _, _, _, g1⟩, _, _, ⟨_, _, _, _, _, _, _, g2⟩⟩ := hL j hj
    exact ⟨Nat.not_le.mp g1, Nat.not_le.mp g2⟩
  have hdl : d < b0 := by
    obtain ⟨_, _, _, _, _, _, _, g⟩ := hdT
    exact Nat.not_le.mp g
  refine ⟨kOf (fun j => match j with | 0 => a0 | 1 => a1 | 2 => a2 | 3 => a3 | 4 => a4 | 5 => a5 | 6 => a6 | 7 => a7 | _ => a8) (fun j => match j with | 0 => v0 | 1 => v1 | 2 => v2 | 3 => v3 | 4 => v4 | 5 => v5 | 6 => v6 | 7 => v7 | _ => v8) d mi sb, ⟨nw_of hts, ?_, ⟨d, by rw [kOf_key (by decide)]; rfl, ?_⟩, ?_, ⟨y, ?_, hyT⟩, fun a _ => kOf_kinds hC hdT hL a, fun a _ => kOf_6 hC hdT hL a, fun a _ => kOf_12 hC hdT hL a, fun a _ => kOf_13 hC hdT hL a, ?_, ?_, ?_, ⟨mi, by rw [kOf_key (by decide)]; rfl, hmi⟩, ?_, ?_, ex_of hts hs, ?_, ?_⟩, kOf_KF hC hdT hL hlt hdl⟩
  · exact va_Zof (hts _ (List.mem_of_getElem? (i := 231) (by decide +kernel))) (hts _ (List.mem_of_getElem? (i := 108) (by decide +kernel))) (va_eqt (hs _ (List.mem_of_getElem? (i := 4) (by decide +kernel)))) hA
  · exact va_Zof (hts _ (List.mem_of_getElem? (i := 267) (by decide +kernel))) (hts _ (List.mem_of_getElem? (i := 112) (by decide +kernel))) hd hA
  · rw [show (kOf (fun j => match j with | 0 => a0 | 1 => a1 | 2 => a2 | 3 => a3 | 4 => a4 | 5 => a5 | 6 => a6 | 7 => a7 | _ => a8) (fun j => match j with | 0 => v0 | 1 => v1 | 2 => v2 | 3 => v3 | 4 => v4 | 5 => v5 | 6 => v6 | 7 => v7 | _ => v8) d mi sb).2.2.2 0 100 = sb from by rw [kOf_key (by decide)]; rfl]
    exact va_Zof (hts _ (List.mem_of_getElem? (i := 414) (by decide +kernel))) (hts _ (List.mem_of_getElem? (i := 119) (by decide +kernel))) hsb hA
  · exact va_Zof (hts _ (List.mem_of_getElem? (i := 919) (by decide +kernel))) (hts _ (List.mem_of_getElem? (i := 96) (by decide +kernel))) hy hA
  · intro j w hj
    match j, hj with
    | 0, hj => cases hj; exact ⟨a0, kOf_lit (by decide), r0⟩
    | 1, hj => cases hj; exact ⟨a1, kOf_lit (by decide), r1⟩
    | 2, hj => cases hj; exact ⟨a2, kOf_lit (by decide), r2⟩
    | 3, hj => cases hj; exact ⟨a3, kOf_lit (by decide), r3⟩
    | 4, hj => cases hj; exact ⟨a4, kOf_lit (by decide), r4⟩
    | 5, hj => cases hj; exact ⟨a5, kOf_lit (by decide), r5⟩
    | 6, hj => cases hj; exact ⟨a6, kOf_lit (by decide), r6⟩
    | 7, hj => cases hj; exact ⟨a7, kOf_lit (by decide), r7⟩
    | 8, hj => cases hj; exact ⟨a8, kOf_lit (by decide), r8⟩
    | j + 9, hj => cases hj
  · exact va_Dc.of (hts _ (List.mem_of_getElem? (i := 1460) (by decide +kernel)))
  · exact va_AO.of (hts _ (List.mem_of_getElem? (i := 832) (by decide +kernel)))
  · exact va_Zqof (hts _ (List.mem_of_getElem? (i := 558) (by decide +kernel))) (hts _ (List.mem_of_getElem? (i := 100) (by decide +kernel))) (hs _ (List.mem_of_getElem? (i := 219) (by decide +kernel))) hA
  · exact va_Zqof (hts _ (List.mem_of_getElem? (i := 560) (by decide +kernel))) (hts _ (List.mem_of_getElem? (i := 100) (by decide +kernel))) (hs _ (List.mem_of_getElem? (i := 220) (by decide +kernel))) hA
  · exact ls_of hb (hts _ (List.mem_of_getElem? (i := 558) (by decide +kernel)))
  · exact ls_of hb (hts _ (List.mem_of_getElem? (i := 560) (by decide +kernel)))
end KT
