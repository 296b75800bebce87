/-! The words of "throw new X()". -/
def AllP {α : Type} (P : α → Prop) : List α → Prop
  | [] => True
  | a :: t => P a ∧ AllP P t
theorem AllP.at {α : Type} {P : α → Prop} : ∀ {l : List α}, AllP P l → ∀ a ∈ l, P a
  | [], _, a, h => by cases h
  | b :: t, h, a, ha => by
    rcases List.mem_cons.mp ha with rfl | h2
    · exact h.1
    · exact AllP.at h.2 a h2
theorem tw_1 : Cond.initialized "java/lang/Throwable" ∈ wsA := List.mem_filter.mpr ⟨List.mem_of_getElem? (i := 100) (by decide +kernel), by decide +kernel⟩
theorem tw_2 : Cond.superclass "java/lang/Throwable" "java/lang/Object" ∈ wsA := List.mem_filter.mpr ⟨List.mem_of_getElem? (i := 553) (by decide +kernel), by decide +kernel⟩
theorem tw_3 : Cond.instanceMethod ⟨"java/lang/Throwable", "fillInStackTrace", "()Ljava/lang/Throwable;"⟩ ∈ wsA := List.mem_filter.mpr ⟨List.mem_of_getElem? (i := 562) (by decide +kernel), by decide +kernel⟩
theorem tw_4 : Cond.codeSync Bundle.tFill LibCode.Throwable.Fill.code 1 (some (.object Bundle.tN)) ∈ wsA := List.mem_filter.mpr ⟨List.mem_of_getElem? (i := 568) (by decide +kernel), by decide +kernel⟩
theorem tw_5 : Cond.instanceMethod ⟨"java/lang/Throwable", "fillInStackTrace", "(I)Ljava/lang/Throwable;"⟩ ∈ wsA := List.mem_filter.mpr ⟨List.mem_of_getElem? (i := 571) (by decide +kernel), by decide +kernel⟩
theorem tw_6 : Cond.native ⟨"java/lang/Throwable", "fillInStackTrace", "(I)Ljava/lang/Throwable;"⟩ ∈ wsA := List.mem_filter.mpr ⟨List.mem_of_getElem? (i := 573) (by decide +kernel), by decide +kernel⟩
theorem tw_7 : Cond.instanceMethod ⟨"java/lang/Throwable", "<init>", "()V"⟩ ∈ wsA := List.mem_filter.mpr ⟨List.mem_of_getElem? (i := 554) (by decide +kernel), by decide +kernel⟩
theorem tw_8 : Cond.code Bundle.tInit0 LibCode.Throwable.Init0.code 1 none ∈ wsA := List.mem_filter.mpr ⟨List.mem_of_getElem? (i := 555) (by decide +kernel), by decide +kernel⟩
theorem tw_9 : Cond.instanceMethod ⟨"java/lang/Object", "<init>", "()V"⟩ ∈ wsA := List.mem_filter.mpr ⟨List.mem_of_getElem? (i := 131) (by decide +kernel), by decide +kernel⟩
theorem tw_10 : Cond.methodLink "java/lang/Throwable" 1 ⟨"java/lang/Object", "<init>", "()V"⟩ ∈ wsA := List.mem_filter.mpr ⟨List.mem_of_getElem? (i := 556) (by decide +kernel), by decide +kernel⟩
theorem tw_11 : Cond.methodLink "java/lang/Throwable" 27 ⟨"java/lang/Throwable", "fillInStackTrace", "()Ljava/lang/Throwable;"⟩ ∈ wsA := List.mem_filter.mpr ⟨List.mem_of_getElem? (i := 561) (by decide +kernel), by decide +kernel⟩
theorem tw_12 : Cond.methodLink "java/lang/Throwable" 202 ⟨"java/lang/Throwable", "fillInStackTrace", "(I)Ljava/lang/Throwable;"⟩ ∈ wsA := List.mem_filter.mpr ⟨List.mem_of_getElem? (i := 569) (by decide +kernel), by decide +kernel⟩
theorem tw_13 : Cond.fieldLink "java/lang/Throwable" 7 "java/lang/Throwable" "cause" "Ljava/lang/Throwable;" ∈ wsA := List.mem_filter.mpr ⟨List.mem_of_getElem? (i := 594) (by decide +kernel), by decide +kernel⟩
theorem tw_14 : Cond.lays "java/lang/Throwable" "java/lang/Throwable" "cause" "Ljava/lang/Throwable;" ∈ wsA := List.mem_filter.mpr ⟨List.mem_of_getElem? (i := 543) (by decide +kernel), by decide +kernel⟩
theorem tw_15 : Cond.fieldLink "java/lang/Throwable" 17 "java/lang/Throwable" "stackTrace" "[Ljava/lang/StackTraceElement;" ∈ wsA := List.mem_filter.mpr ⟨List.mem_of_getElem? (i := 595) (by decide +kernel), by decide +kernel⟩
theorem tw_16 : Cond.lays "java/lang/Throwable" "java/lang/Throwable" "stackTrace" "[Ljava/lang/StackTraceElement;" ∈ wsA := List.mem_filter.mpr ⟨List.mem_of_getElem? (i := 545) (by decide +kernel), by decide +kernel⟩
theorem tw_17 : Cond.fieldLink "java/lang/Throwable" 24 "java/lang/Throwable" "suppressedExceptions" "Ljava/util/List;" ∈ wsA := List.mem_filter.mpr ⟨List.mem_of_getElem? (i := 596) (by decide +kernel), by decide +kernel⟩
theorem tw_18 : Cond.lays "java/lang/Throwable" "java/lang/Throwable" "suppressedExceptions" "Ljava/util/List;" ∈ wsA := List.mem_filter.mpr ⟨List.mem_of_getElem? (i := 547) (by decide +kernel), by decide +kernel⟩
theorem tw_19 : Cond.fieldLink "java/lang/Throwable" 13 "java/lang/Throwable" "UNASSIGNED_STACK" "[Ljava/lang/StackTraceElement;" ∈ wsA := List.mem_filter.mpr ⟨List.mem_of_getElem? (i := 557) (by decide +kernel), by decide +kernel⟩
theorem tw_20 : Cond.fieldLink "java/lang/Throwable" 20 "java/lang/Throwable" "SUPPRESSED_SENTINEL" "Ljava/util/List;" ∈ wsA := List.mem_filter.mpr ⟨List.mem_of_getElem? (i := 559) (by decide +kernel), by decide +kernel⟩
theorem tw_21 : Cond.lays "java/lang/Throwable" "java/lang/Throwable" "detailMessage" "Ljava/lang/String;" ∈ wsA := List.mem_filter.mpr ⟨List.mem_of_getElem? (i := 549) (by decide +kernel), by decide +kernel⟩
theorem tw_22 : Cond.instanceMethod ⟨"java/lang/IllegalArgumentException", "<init>", "()V"⟩ ∈ wsA := List.mem_filter.mpr ⟨List.mem_of_getElem? (i := 1034) (by decide +kernel), by decide +kernel⟩
theorem tw_23 : Cond.code (Bundle.init0 "java/lang/IllegalArgumentException") Bundle.five 1 none ∈ wsA := List.mem_filter.mpr ⟨List.mem_of_getElem? (i := 1035) (by decide +kernel), by decide +kernel⟩
theorem tw_24 : Cond.methodLink "java/lang/IllegalArgumentException" 1 ⟨"java/lang/RuntimeException", "<init>", "()V"⟩ ∈ wsA := List.mem_filter.mpr ⟨List.mem_of_getElem? (i := 1036) (by decide +kernel), by decide +kernel⟩
theorem tw_25 : Cond.instanceMethod ⟨"java/lang/RuntimeException", "<init>", "()V"⟩ ∈ wsA := List.mem_filter.mpr ⟨List.mem_of_getElem? (i := 1037) (by decide +kernel), by decide +kernel⟩
theorem tw_26 : Cond.code (Bundle.init0 "java/lang/RuntimeException") Bundle.five 1 none ∈ wsA := List.mem_filter.mpr ⟨List.mem_of_getElem? (i := 1038) (by decide +kernel), by decide +kernel⟩
theorem tw_27 : Cond.methodLink "java/lang/RuntimeException" 1 ⟨"java/lang/Exception", "<init>", "()V"⟩ ∈ wsA := List.mem_filter.mpr ⟨List.mem_of_getElem? (i := 1039) (by decide +kernel), by decide +kernel⟩
theorem tw_28 : Cond.instanceMethod ⟨"java/lang/Exception", "<init>", "()V"⟩ ∈ wsA := List.mem_filter.mpr ⟨List.mem_of_getElem? (i := 1040) (by decide +kernel), by decide +kernel⟩
theorem tw_29 : Cond.code (Bundle.init0 "java/lang/Exception") Bundle.five 1 none ∈ wsA := List.mem_filter.mpr ⟨List.mem_of_getElem? (i := 1041) (by decide +kernel), by decide +kernel⟩
theorem tw_30 : Cond.methodLink "java/lang/Exception" 1 ⟨"java/lang/Throwable", "<init>", "()V"⟩ ∈ wsA := List.mem_filter.mpr ⟨List.mem_of_getElem? (i := 1042) (by decide +kernel), by decide +kernel⟩
theorem tw_31 : Cond.methodLink "TableText" 42 ⟨"java/lang/IllegalArgumentException", "<init>", "()V"⟩ ∈ wsA := List.mem_filter.mpr ⟨List.mem_of_getElem? (i := 1033) (by decide +kernel), by decide +kernel⟩
theorem tw_32 : Cond.instantiable "java/lang/IllegalArgumentException" 6 ∈ wsA := List.mem_filter.mpr ⟨List.mem_of_getElem? (i := 532) (by decide +kernel), by decide +kernel⟩
theorem tw_33 : Cond.selects "java/lang/IllegalArgumentException" ⟨"java/lang/Throwable", "fillInStackTrace", "(I)Ljava/lang/Throwable;"⟩ ⟨"java/lang/Throwable", "fillInStackTrace", "(I)Ljava/lang/Throwable;"⟩ ∈ wsA := List.mem_filter.mpr ⟨List.mem_of_getElem? (i := 540) (by decide +kernel), by decide +kernel⟩
theorem tw_34 : Cond.selects "java/lang/IllegalArgumentException" ⟨"java/lang/Throwable", "fillInStackTrace", "()Ljava/lang/Throwable;"⟩ ⟨"java/lang/Throwable", "fillInStackTrace", "()Ljava/lang/Throwable;"⟩ ∈ wsA := List.mem_filter.mpr ⟨List.mem_of_getElem? (i := 541) (by decide +kernel), by decide +kernel⟩
theorem tw_35 : Cond.lays "java/lang/IllegalArgumentException" "java/lang/Throwable" "cause" "Ljava/lang/Throwable;" ∈ wsA := List.mem_filter.mpr ⟨List.mem_of_getElem? (i := 542) (by decide +kernel), by decide +kernel⟩
theorem tw_36 : Cond.lays "java/lang/IllegalArgumentException" "java/lang/Throwable" "stackTrace" "[Ljava/lang/StackTraceElement;" ∈ wsA := List.mem_filter.mpr ⟨List.mem_of_getElem? (i := 544) (by decide +kernel), by decide +kernel⟩
theorem tw_37 : Cond.lays "java/lang/IllegalArgumentException" "java/lang/Throwable" "suppressedExceptions" "Ljava/util/List;" ∈ wsA := List.mem_filter.mpr ⟨List.mem_of_getElem? (i := 546) (by decide +kernel), by decide +kernel⟩
theorem tw_38 : Cond.lays "java/lang/IllegalArgumentException" "java/lang/Throwable" "detailMessage" "Ljava/lang/String;" ∈ wsA := List.mem_filter.mpr ⟨List.mem_of_getElem? (i := 548) (by decide +kernel), by decide +kernel⟩
theorem tw_39 : Cond.fieldLink "java/lang/Throwable" 198 "java/lang/Throwable" "backtrace" "Ljava/lang/Object;" ∈ wsA := List.mem_filter.mpr ⟨List.mem_of_getElem? (i := 552) (by decide +kernel), by decide +kernel⟩
theorem tw_40 : Cond.lays "java/lang/Throwable" "java/lang/Throwable" "backtrace" "Ljava/lang/Object;" ∈ wsA := List.mem_filter.mpr ⟨List.mem_of_getElem? (i := 551) (by decide +kernel), by decide +kernel⟩
theorem tw_41 : Cond.lays "java/lang/IllegalArgumentException" "java/lang/Throwable" "backtrace" "Ljava/lang/Object;" ∈ wsA := List.mem_filter.mpr ⟨List.mem_of_getElem? (i := 550) (by decide +kernel), by decide +kernel⟩
theorem tw_42 : Cond.instanceMethod ⟨"java/lang/IllegalStateException", "<init>", "()V"⟩ ∈ wsA := List.mem_filter.mpr ⟨List.mem_of_getElem? (i := 1053) (by decide +kernel), by decide +kernel⟩
theorem tw_43 : Cond.code (Bundle.init0 "java/lang/IllegalStateException") Bundle.five 1 none ∈ wsA := List.mem_filter.mpr ⟨List.mem_of_getElem? (i := 1054) (by decide +kernel), by decide +kernel⟩
theorem tw_44 : Cond.methodLink "java/lang/IllegalStateException" 1 ⟨"java/lang/RuntimeException", "<init>", "()V"⟩ ∈ wsA := List.mem_filter.mpr ⟨List.mem_of_getElem? (i := 1055) (by decide +kernel), by decide +kernel⟩
theorem tw_45 : Cond.methodLink "TableText" 45 ⟨"java/lang/IllegalStateException", "<init>", "()V"⟩ ∈ wsA := List.mem_filter.mpr ⟨List.mem_of_getElem? (i := 1052) (by decide +kernel), by decide +kernel⟩
theorem tw_46 : Cond.instantiable "java/lang/IllegalStateException" 6 ∈ wsA := List.mem_filter.mpr ⟨List.mem_of_getElem? (i := 1044) (by decide +kernel), by decide +kernel⟩
theorem tw_47 : Cond.selects "java/lang/IllegalStateException" ⟨"java/lang/Throwable", "fillInStackTrace", "(I)Ljava/lang/Throwable;"⟩ ⟨"java/lang/Throwable", "fillInStackTrace", "(I)Ljava/lang/Throwable;"⟩ ∈ wsA := List.mem_filter.mpr ⟨List.mem_of_getElem? (i := 1046) (by decide +kernel), by decide +kernel⟩
theorem tw_48 : Cond.selects "java/lang/IllegalStateException" ⟨"java/lang/Throwable", "fillInStackTrace", "()Ljava/lang/Throwable;"⟩ ⟨"java/lang/Throwable", "fillInStackTrace", "()Ljava/lang/Throwable;"⟩ ∈ wsA := List.mem_filter.mpr ⟨List.mem_of_getElem? (i := 565) (by decide +kernel), by decide +kernel⟩
theorem tw_49 : Cond.lays "java/lang/IllegalStateException" "java/lang/Throwable" "cause" "Ljava/lang/Throwable;" ∈ wsA := List.mem_filter.mpr ⟨List.mem_of_getElem? (i := 1047) (by decide +kernel), by decide +kernel⟩
theorem tw_50 : Cond.lays "java/lang/IllegalStateException" "java/lang/Throwable" "stackTrace" "[Ljava/lang/StackTraceElement;" ∈ wsA := List.mem_filter.mpr ⟨List.mem_of_getElem? (i := 1048) (by decide +kernel), by decide +kernel⟩
theorem tw_51 : Cond.lays "java/lang/IllegalStateException" "java/lang/Throwable" "suppressedExceptions" "Ljava/util/List;" ∈ wsA := List.mem_filter.mpr ⟨List.mem_of_getElem? (i := 1049) (by decide +kernel), by decide +kernel⟩
theorem tw_52 : Cond.lays "java/lang/IllegalStateException" "java/lang/Throwable" "detailMessage" "Ljava/lang/String;" ∈ wsA := List.mem_filter.mpr ⟨List.mem_of_getElem? (i := 1050) (by decide +kernel), by decide +kernel⟩
theorem tw_53 : Cond.lays "java/lang/IllegalStateException" "java/lang/Throwable" "backtrace" "Ljava/lang/Object;" ∈ wsA := List.mem_filter.mpr ⟨List.mem_of_getElem? (i := 1051) (by decide +kernel), by decide +kernel⟩
theorem tw_54 : Cond.instanceMethod ⟨"java/lang/IndexOutOfBoundsException", "<init>", "()V"⟩ ∈ wsA := List.mem_filter.mpr ⟨List.mem_of_getElem? (i := 1076) (by decide +kernel), by decide +kernel⟩
theorem tw_55 : Cond.code (Bundle.init0 "java/lang/IndexOutOfBoundsException") Bundle.five 1 none ∈ wsA := List.mem_filter.mpr ⟨List.mem_of_getElem? (i := 1077) (by decide +kernel), by decide +kernel⟩
theorem tw_56 : Cond.methodLink "java/lang/IndexOutOfBoundsException" 1 ⟨"java/lang/RuntimeException", "<init>", "()V"⟩ ∈ wsA := List.mem_filter.mpr ⟨List.mem_of_getElem? (i := 1078) (by decide +kernel), by decide +kernel⟩
theorem tw_57 : Cond.methodLink "TableText" 71 ⟨"java/lang/IndexOutOfBoundsException", "<init>", "()V"⟩ ∈ wsA := List.mem_filter.mpr ⟨List.mem_of_getElem? (i := 1075) (by decide +kernel), by decide +kernel⟩
theorem tw_58 : Cond.instantiable "java/lang/IndexOutOfBoundsException" 6 ∈ wsA := List.mem_filter.mpr ⟨List.mem_of_getElem? (i := 1067) (by decide +kernel), by decide +kernel⟩
theorem tw_59 : Cond.selects "java/lang/IndexOutOfBoundsException" ⟨"java/lang/Throwable", "fillInStackTrace", "(I)Ljava/lang/Throwable;"⟩ ⟨"java/lang/Throwable", "fillInStackTrace", "(I)Ljava/lang/Throwable;"⟩ ∈ wsA := List.mem_filter.mpr ⟨List.mem_of_getElem? (i := 1069) (by decide +kernel), by decide +kernel⟩
theorem tw_60 : Cond.selects "java/lang/IndexOutOfBoundsException" ⟨"java/lang/Throwable", "fillInStackTrace", "()Ljava/lang/Throwable;"⟩ ⟨"java/lang/Throwable", "fillInStackTrace", "()Ljava/lang/Throwable;"⟩ ∈ wsA := List.mem_filter.mpr ⟨List.mem_of_getElem? (i := 566) (by decide +kernel), by decide +kernel⟩
theorem tw_61 : Cond.lays "java/lang/IndexOutOfBoundsException" "java/lang/Throwable" "cause" "Ljava/lang/Throwable;" ∈ wsA := List.mem_filter.mpr ⟨List.mem_of_getElem? (i := 1070) (by decide +kernel), by decide +kernel⟩
theorem tw_62 : Cond.lays "java/lang/IndexOutOfBoundsException" "java/lang/Throwable" "stackTrace" "[Ljava/lang/StackTraceElement;" ∈ wsA := List.mem_filter.mpr ⟨List.mem_of_getElem? (i := 1071) (by decide +kernel), by decide +kernel⟩
theorem tw_63 : Cond.lays "java/lang/IndexOutOfBoundsException" "java/lang/Throwable" "suppressedExceptions" "Ljava/util/List;" ∈ wsA := List.mem_filter.mpr ⟨List.mem_of_getElem? (i := 1072) (by decide +kernel), by decide +kernel⟩
theorem tw_64 : Cond.lays "java/lang/IndexOutOfBoundsException" "java/lang/Throwable" "detailMessage" "Ljava/lang/String;" ∈ wsA := List.mem_filter.mpr ⟨List.mem_of_getElem? (i := 1073) (by decide +kernel), by decide +kernel⟩
theorem tw_65 : Cond.lays "java/lang/IndexOutOfBoundsException" "java/lang/Throwable" "backtrace" "Ljava/lang/Object;" ∈ wsA := List.mem_filter.mpr ⟨List.mem_of_getElem? (i := 1074) (by decide +kernel), by decide +kernel⟩
theorem thA_0 {s s' : State} {args : Array Value} {b0 : Nat} {K : cS} {Z : State → Prop} (hR : CR b0 K Z) (hts : ∀ w ∈ wsA, w.before args s = true) (hv : s'.vm = s.vm) (hz : Z s') : ∀ a ∈ Bundle.ownAtoms0 RZ1 42 (exN 0) ["java/lang/RuntimeException", "java/lang/Exception"], a.before args s' = true := by
  have H : ∀ w ∈ wsA, w.before args s' = true := fun w hw => word_at (s := s) (U := s') (by rw [hv]; exact State.WarmedH.refl s) (wsA_good hw).2 (hts w hw)
  have Z0 := hR.2 s' hz
  have E := Z0.2.2.2.2.2.2.2.2.2.2.2.2.2.2.2.1
  have L1 := Z0.2.2.2.2.2.2.2.2.2.2.2.2.2.2.2.2.1
  have L2 := Z0.2.2.2.2.2.2.2.2.2.2.2.2.2.2.2.2.2
  have R1 := Z0.2.2.2.2.2.2.2.2.2.2.2.2.2.1
  have R2 := Z0.2.2.2.2.2.2.2.2.2.2.2.2.2.2.1
  exact AllP.at (show AllP (fun a => a.before args s' = true) (Bundle.ownAtoms0 RZ1 42 (exN 0) ["java/lang/RuntimeException", "java/lang/Exception"]) from ⟨(H _ tw_1), (H _ tw_2), (H _ tw_3), (H _ tw_4), (H _ tw_5), (H _ tw_6), (H _ tw_7), (H _ tw_8), (H _ tw_9), (H _ mA_oC), (H _ tw_10), (H _ tw_11), (H _ tw_12), (H _ tw_13), (H _ tw_14), (H _ tw_15), (H _ tw_16), (H _ tw_17), (H _ tw_18), (H _ tw_19), (lsT.use L1), (H _ tw_20), (lsT.use L2), (H _ tw_21), (H _ tw_22), (H _ tw_23), (H _ tw_24), (H _ tw_25), (va_Nw.use (A := args) rfl (ex_at E 4 rfl)), (H _ tw_25), (H _ tw_26), (H _ tw_27), (H _ tw_28), (va_Nw.use (A := args) rfl (ex_at E 5 rfl)), (H _ tw_28), (H _ tw_29), (H _ tw_30), (H _ tw_7), (va_Nw.use (A := args) rfl (ex_at E 6 rfl)), (H _ tw_31), (H _ tw_32), (va_Nw.use (A := args) rfl (ex_at E 7 rfl)), (H _ tw_33), (H _ tw_34), (H _ tw_35), (H _ tw_36), (H _ tw_37), (H _ tw_38), (zq_isRef R1), (zq_isRef R2), (H _ tw_39), (H _ tw_40), (H _ tw_41), trivial⟩)
theorem thC_0 : Cond.classLink RZ1 40 (exN 0) ∈ wsA := List.mem_filter.mpr ⟨List.mem_of_getElem? (i := 1032) (by decide +kernel), by decide +kernel⟩
theorem thI_0 : Cond.instantiable (exN 0) 6 ∈ wsA := List.mem_filter.mpr ⟨List.mem_of_getElem? (i := 532) (by decide +kernel), by decide +kernel⟩
theorem thN_0 : Cond.initialized (exN 0) ∈ wsA := List.mem_filter.mpr ⟨List.mem_of_getElem? (i := 103) (by decide +kernel), by decide +kernel⟩
theorem thA_1 {s s' : State} {args : Array Value} {b0 : Nat} {K : cS} {Z : State → Prop} (hR : CR b0 K Z) (hts : ∀ w ∈ wsA, w.before args s = true) (hv : s'.vm = s.vm) (hz : Z s') : ∀ a ∈ Bundle.ownAtoms0 RZ1 45 (exN 1) ["java/lang/RuntimeException", "java/lang/Exception"], a.before args s' = true := by
  have H : ∀ w ∈ wsA, w.before args s' = true := fun w hw => word_at (s := s) (U := s') (by rw [hv]; exact State.WarmedH.refl s) (wsA_good hw).2 (hts w hw)
  have Z0 := hR.2 s' hz
  have E := Z0.2.2.2.2.2.2.2.2.2.2.2.2.2.2.2.1
  have L1 := Z0.2.2.2.2.2.2.2.2.2.2.2.2.2.2.2.2.1
  have L2 := Z0.2.2.2.2.2.2.2.2.2.2.2.2.2.2.2.2.2
  have R1 := Z0.2.2.2.2.2.2.2.2.2.2.2.2.2.1
  have R2 := Z0.2.2.2.2.2.2.2.2.2.2.2.2.2.2.1
  exact AllP.at (show AllP (fun a => a.before args s' = true) (Bundle.ownAtoms0 RZ1 45 (exN 1) ["java/lang/RuntimeException", "java/lang/Exception"]) from ⟨(H _ tw_1), (H _ tw_2), (H _ tw_3), (H _ tw_4), (H _ tw_5), (H _ tw_6), (H _ tw_7), (H _ tw_8), (H _ tw_9), (H _ mA_oC), (H _ tw_10), (H _ tw_11), (H _ tw_12), (H _ tw_13), (H _ tw_14), (H _ tw_15), (H _ tw_16), (H _ tw_17), (H _ tw_18), (H _ tw_19), (lsT.use L1), (H _ tw_20), (lsT.use L2), (H _ tw_21), (H _ tw_42), (H _ tw_43), (H _ tw_44), (H _ tw_25), (va_Nw.use (A := args) rfl (ex_at E 4 rfl)), (H _ tw_25), (H _ tw_26), (H _ tw_27), (H _ tw_28), (va_Nw.use (A := args) rfl (ex_at E 5 rfl)), (H _ tw_28), (H _ tw_29), (H _ tw_30), (H _ tw_7), (va_Nw.use (A := args) rfl (ex_at E 6 rfl)), (H _ tw_45), (H _ tw_46), (va_Nw.use (A := args) rfl (ex_at E 8 rfl)), (H _ tw_47), (H _ tw_48), (H _ tw_49), (H _ tw_50), (H _ tw_51), (H _ tw_52), (zq_isRef R1), (zq_isRef R2), (H _ tw_39), (H _ tw_40), (H _ tw_53), trivial⟩)
theorem thC_1 : Cond.classLink RZ1 43 (exN 1) ∈ wsA := List.mem_filter.mpr ⟨List.mem_of_getElem? (i := 1043) (by decide +kernel), by decide +kernel⟩
theorem thI_1 : Cond.instantiable (exN 1) 6 ∈ wsA := List.mem_filter.mpr ⟨List.mem_of_getElem? (i := 1044) (by decide +kernel), by decide +kernel⟩
theorem thN_1 : Cond.initialized (exN 1) ∈ wsA := List.mem_filter.mpr ⟨List.mem_of_getElem? (i := 104) (by decide +kernel), by decide +kernel⟩
theorem thA_2 {s s' : State} {args : Array Value} {b0 : Nat} {K : cS} {Z : State → Prop} (hR : CR b0 K Z) (hts : ∀ w ∈ wsA, w.before args s = true) (hv : s'.vm = s.vm) (hz : Z s') : ∀ a ∈ Bundle.ownAtoms0 RZ1 71 (exN 2) ["java/lang/RuntimeException", "java/lang/Exception"], a.before args s' = true := by
  have H : ∀ w ∈ wsA, w.before args s' = true := fun w hw => word_at (s := s) (U := s') (by rw [hv]; exact State.WarmedH.refl s) (wsA_good hw).2 (hts w hw)
  have Z0 := hR.2 s' hz
  have E := Z0.2.2.2.2.2.2.2.2.2.2.2.2.2.2.2.1
  have L1 := Z0.2.2.2.2.2.2.2.2.2.2.2.2.2.2.2.2.1
  have L2 := Z0.2.2.2.2.2.2.2.2.2.2.2.2.2.2.2.2.2
  have R1 := Z0.2.2.2.2.2.2.2.2.2.2.2.2.2.1
  have R2 := Z0.2.2.2.2.2.2.2.2.2.2.2.2.2.2.1
  exact AllP.at (show AllP (fun a => a.before args s' = true) (Bundle.ownAtoms0 RZ1 71 (exN 2) ["java/lang/RuntimeException", "java/lang/Exception"]) from ⟨(H _ tw_1), (H _ tw_2), (H _ tw_3), (H _ tw_4), (H _ tw_5), (H _ tw_6), (H _ tw_7), (H _ tw_8), (H _ tw_9), (H _ mA_oC), (H _ tw_10), (H _ tw_11), (H _ tw_12), (H _ tw_13), (H _ tw_14), (H _ tw_15), (H _ tw_16), (H _ tw_17), (H _ tw_18), (H _ tw_19), (lsT.use L1), (H _ tw_20), (lsT.use L2), (H _ tw_21), (H _ tw_54), (H _ tw_55), (H _ tw_56), (H _ tw_25), (va_Nw.use (A := args) rfl (ex_at E 4 rfl)), (H _ tw_25), (H _ tw_26), (H _ tw_27), (H _ tw_28), (va_Nw.use (A := args) rfl (ex_at E 5 rfl)), (H _ tw_28), (H _ tw_29), (H _ tw_30), (H _ tw_7), (va_Nw.use (A := args) rfl (ex_at E 6 rfl)), (H _ tw_57), (H _ tw_58), (va_Nw.use (A := args) rfl (ex_at E 9 rfl)), (H _ tw_59), (H _ tw_60), (H _ tw_61), (H _ tw_62), (H _ tw_63), (H _ tw_64), (zq_isRef R1), (zq_isRef R2), (H _ tw_39), (H _ tw_40), (H _ tw_65), trivial⟩)
theorem thC_2 : Cond.classLink RZ1 69 (exN 2) ∈ wsA := List.mem_filter.mpr ⟨List.mem_of_getElem? (i := 1066) (by decide +kernel), by decide +kernel⟩
theorem thI_2 : Cond.instantiable (exN 2) 6 ∈ wsA := List.mem_filter.mpr ⟨List.mem_of_getElem? (i := 1067) (by decide +kernel), by decide +kernel⟩
theorem thN_2 : Cond.initialized (exN 2) ∈ wsA := List.mem_filter.mpr ⟨List.mem_of_getElem? (i := 113) (by decide +kernel), by decide +kernel⟩
