section
-- ===== PART A: goes FIRST, ahead of the names: the tables' words, and 'selects' of the private methods out of them =====
/-- a private method of a class that the tables say can be made, by its rows of tables_1 -/
def lw_okq (q : MethodName × Nat) : Prop := (q.1.cls ≠ "java/lang/invoke/MethodHandle" ∧ q.1.cls ≠ "java/lang/invoke/VarHandle") ∧ Cond.instantiable q.1.cls q.2 ∈ tables_1 ∧ Cond.privateMethod q.1 ∈ tables_1 ∧ Cond.instanceMethod q.1 ∈ tables_1
theorem lw_p0 : lw_okq (⟨"TableText$Reader", "readDocument", "()LTableText$Node;"⟩, 8) := ⟨⟨by decide +kernel, by decide +kernel⟩, List.mem_of_getElem? (i := 121) (by decide +kernel), List.mem_of_getElem? (i := 214) (by decide +kernel), List.mem_of_getElem? (i := 215) (by decide +kernel)⟩
theorem lw_p1 : lw_okq (⟨"TableText$Reader", "skipBlanks", "()V"⟩, 8) := ⟨⟨by decide +kernel, by decide +kernel⟩, List.mem_of_getElem? (i := 121) (by decide +kernel), List.mem_of_getElem? (i := 218) (by decide +kernel), List.mem_of_getElem? (i := 219) (by decide +kernel)⟩
theorem lw_p2 : lw_okq (⟨"TableText$Reader", "peek", "()I"⟩, 8) := ⟨⟨by decide +kernel, by decide +kernel⟩, List.mem_of_getElem? (i := 121) (by decide +kernel), List.mem_of_getElem? (i := 222) (by decide +kernel), List.mem_of_getElem? (i := 223) (by decide +kernel)⟩
theorem lw_p3 : lw_okq (⟨"TableText$Reader", "readHeader", "()Z"⟩, 8) := ⟨⟨by decide +kernel, by decide +kernel⟩, List.mem_of_getElem? (i := 121) (by decide +kernel), List.mem_of_getElem? (i := 229) (by decide +kernel), List.mem_of_getElem? (i := 230) (by decide +kernel)⟩
theorem lw_p4 : lw_okq (⟨"TableText$Reader", "readPath", "()LTableText$Step;"⟩, 8) := ⟨⟨by decide +kernel, by decide +kernel⟩, List.mem_of_getElem? (i := 121) (by decide +kernel), List.mem_of_getElem? (i := 233) (by decide +kernel), List.mem_of_getElem? (i := 234) (by decide +kernel)⟩
theorem lw_p5 : lw_okq (⟨"TableText$Reader", "readQuoted", "()Ljava/lang/String;"⟩, 8) := ⟨⟨by decide +kernel, by decide +kernel⟩, List.mem_of_getElem? (i := 121) (by decide +kernel), List.mem_of_getElem? (i := 237) (by decide +kernel), List.mem_of_getElem? (i := 238) (by decide +kernel)⟩
theorem lw_p6 : lw_okq (⟨"java/lang/Throwable", "fillInStackTrace", "(I)Ljava/lang/Throwable;"⟩, 6) := ⟨⟨by decide +kernel, by decide +kernel⟩, List.mem_of_getElem? (i := 477) (by decide +kernel), List.mem_of_getElem? (i := 475) (by decide +kernel), List.mem_of_getElem? (i := 476) (by decide +kernel)⟩
theorem lw_p7 : lw_okq (⟨"TableText$Reader", "goesOnInString", "(I)Z"⟩, 8) := ⟨⟨by decide +kernel, by decide +kernel⟩, List.mem_of_getElem? (i := 121) (by decide +kernel), List.mem_of_getElem? (i := 582) (by decide +kernel), List.mem_of_getElem? (i := 583) (by decide +kernel)⟩
theorem lw_p8 : lw_okq (⟨"TableText$Reader", "take", "(I)Z"⟩, 8) := ⟨⟨by decide +kernel, by decide +kernel⟩, List.mem_of_getElem? (i := 121) (by decide +kernel), List.mem_of_getElem? (i := 611) (by decide +kernel), List.mem_of_getElem? (i := 612) (by decide +kernel)⟩
theorem lw_p9 : lw_okq (⟨"TableText$Reader", "readBare", "()Ljava/lang/String;"⟩, 8) := ⟨⟨by decide +kernel, by decide +kernel⟩, List.mem_of_getElem? (i := 121) (by decide +kernel), List.mem_of_getElem? (i := 616) (by decide +kernel), List.mem_of_getElem? (i := 617) (by decide +kernel)⟩
theorem lw_p10 : lw_okq (⟨"TableText$Reader", "wrong", "(I)LTableText$Node;"⟩, 8) := ⟨⟨by decide +kernel, by decide +kernel⟩, List.mem_of_getElem? (i := 121) (by decide +kernel), List.mem_of_getElem? (i := 623) (by decide +kernel), List.mem_of_getElem? (i := 624) (by decide +kernel)⟩
theorem lw_p11 : lw_okq (⟨"TableText$Reader", "openTable", "(LTableText$Step;Z)LTableText$Node;"⟩, 8) := ⟨⟨by decide +kernel, by decide +kernel⟩, List.mem_of_getElem? (i := 121) (by decide +kernel), List.mem_of_getElem? (i := 645) (by decide +kernel), List.mem_of_getElem? (i := 646) (by decide +kernel)⟩
theorem lw_p12 : lw_okq (⟨"TableText$Reader", "throughTable", "(LTableText$Node;LTableText$Step;)LTableText$Node;"⟩, 8) := ⟨⟨by decide +kernel, by decide +kernel⟩, List.mem_of_getElem? (i := 121) (by decide +kernel), List.mem_of_getElem? (i := 649) (by decide +kernel), List.mem_of_getElem? (i := 650) (by decide +kernel)⟩
theorem lw_p13 : lw_okq (⟨"TableText$Node", "entryOrNew", "(Ljava/lang/String;I)LTableText$Node;"⟩, 8) := ⟨⟨by decide +kernel, by decide +kernel⟩, List.mem_of_getElem? (i := 55) (by decide +kernel), List.mem_of_getElem? (i := 653) (by decide +kernel), List.mem_of_getElem? (i := 654) (by decide +kernel)⟩
theorem lw_p14 : lw_okq (⟨"TableText$Node", "entryNamed", "(Ljava/lang/String;)LTableText$Node;"⟩, 8) := ⟨⟨by decide +kernel, by decide +kernel⟩, List.mem_of_getElem? (i := 55) (by decide +kernel), List.mem_of_getElem? (i := 657) (by decide +kernel), List.mem_of_getElem? (i := 658) (by decide +kernel)⟩
theorem lw_p15 : lw_okq (⟨"TableText$Node", "add", "(LTableText$Node;)V"⟩, 8) := ⟨⟨by decide +kernel, by decide +kernel⟩, List.mem_of_getElem? (i := 55) (by decide +kernel), List.mem_of_getElem? (i := 671) (by decide +kernel), List.mem_of_getElem? (i := 672) (by decide +kernel)⟩
def lw_privs_1 : List (MethodName × Nat) := [(⟨"TableText$Reader", "readDocument", "()LTableText$Node;"⟩, 8), (⟨"TableText$Reader", "skipBlanks", "()V"⟩, 8), (⟨"TableText$Reader", "peek", "()I"⟩, 8), (⟨"TableText$Reader", "readHeader", "()Z"⟩, 8), (⟨"TableText$Reader", "readPath", "()LTableText$Step;"⟩, 8), (⟨"TableText$Reader", "readQuoted", "()Ljava/lang/String;"⟩, 8), (⟨"java/lang/Throwable", "fillInStackTrace", "(I)Ljava/lang/Throwable;"⟩, 6), (⟨"TableText$Reader", "goesOnInString", "(I)Z"⟩, 8), (⟨"TableText$Reader", "take", "(I)Z"⟩, 8), (⟨"TableText$Reader", "readBare", "()Ljava/lang/String;"⟩, 8), (⟨"TableText$Reader", "wrong", "(I)LTableText$Node;"⟩, 8), (⟨"TableText$Reader", "openTable", "(LTableText$Step;Z)LTableText$Node;"⟩, 8), (⟨"TableText$Reader", "throughTable", "(LTableText$Node;LTableText$Step;)LTableText$Node;"⟩, 8), (⟨"TableText$Node", "entryOrNew", "(Ljava/lang/String;I)LTableText$Node;"⟩, 8), (⟨"TableText$Node", "entryNamed", "(Ljava/lang/String;)LTableText$Node;"⟩, 8), (⟨"TableText$Node", "add", "(LTableText$Node;)V"⟩, 8)]
theorem lw_r1 : ∀ q ∈ lw_privs_1, lw_okq q := List.forall_mem_cons.mpr ⟨lw_p0, List.forall_mem_cons.mpr ⟨lw_p1, List.forall_mem_cons.mpr ⟨lw_p2, List.forall_mem_cons.mpr ⟨lw_p3, List.forall_mem_cons.mpr ⟨lw_p4, List.forall_mem_cons.mpr ⟨lw_p5, List.forall_mem_cons.mpr ⟨lw_p6, List.forall_mem_cons.mpr ⟨lw_p7, List.forall_mem_cons.mpr ⟨lw_p8, List.forall_mem_cons.mpr ⟨lw_p9, List.forall_mem_cons.mpr ⟨lw_p10, List.forall_mem_cons.mpr ⟨lw_p11, List.forall_mem_cons.mpr ⟨lw_p12, List.forall_mem_cons.mpr ⟨lw_p13, List.forall_mem_cons.mpr ⟨lw_p14, List.forall_mem_cons.mpr ⟨lw_p15, fun _ h => absurd h List.not_mem_nil⟩⟩⟩⟩⟩⟩⟩⟩⟩⟩⟩⟩⟩⟩⟩⟩
theorem lw_p16 : lw_okq (⟨"TableText$Node", "isTable", "()Z"⟩, 8) := ⟨⟨by decide +kernel, by decide +kernel⟩, List.mem_of_getElem? (i := 55) (by decide +kernel), List.mem_of_getElem? (i := 675) (by decide +kernel), List.mem_of_getElem? (i := 676) (by decide +kernel)⟩
theorem lw_p17 : lw_okq (⟨"TableText$Reader", "newRow", "(LTableText$Node;LTableText$Step;)LTableText$Node;"⟩, 8) := ⟨⟨by decide +kernel, by decide +kernel⟩, List.mem_of_getElem? (i := 121) (by decide +kernel), List.mem_of_getElem? (i := 679) (by decide +kernel), List.mem_of_getElem? (i := 680) (by decide +kernel)⟩
theorem lw_p18 : lw_okq (⟨"TableText$Reader", "toldTable", "(LTableText$Node;LTableText$Step;)LTableText$Node;"⟩, 8) := ⟨⟨by decide +kernel, by decide +kernel⟩, List.mem_of_getElem? (i := 121) (by decide +kernel), List.mem_of_getElem? (i := 684) (by decide +kernel), List.mem_of_getElem? (i := 685) (by decide +kernel)⟩
theorem lw_p19 : lw_okq (⟨"TableText$Reader", "readEntry", "(LTableText$Node;I)Z"⟩, 8) := ⟨⟨by decide +kernel, by decide +kernel⟩, List.mem_of_getElem? (i := 121) (by decide +kernel), List.mem_of_getElem? (i := 688) (by decide +kernel), List.mem_of_getElem? (i := 689) (by decide +kernel)⟩
theorem lw_p20 : lw_okq (⟨"TableText$Reader", "dottedTable", "(LTableText$Node;LTableText$Step;)LTableText$Node;"⟩, 8) := ⟨⟨by decide +kernel, by decide +kernel⟩, List.mem_of_getElem? (i := 121) (by decide +kernel), List.mem_of_getElem? (i := 692) (by decide +kernel), List.mem_of_getElem? (i := 693) (by decide +kernel)⟩
theorem lw_p21 : lw_okq (⟨"java/util/ArrayList", "add", "(Ljava/lang/Object;[Ljava/lang/Object;I)V"⟩, 3) := ⟨⟨by decide +kernel, by decide +kernel⟩, List.mem_of_getElem? (i := 160) (by decide +kernel), List.mem_of_getElem? (i := 700) (by decide +kernel), List.mem_of_getElem? (i := 701) (by decide +kernel)⟩
theorem lw_p22 : lw_okq (⟨"java/util/ArrayList", "grow", "()[Ljava/lang/Object;"⟩, 3) := ⟨⟨by decide +kernel, by decide +kernel⟩, List.mem_of_getElem? (i := 160) (by decide +kernel), List.mem_of_getElem? (i := 704) (by decide +kernel), List.mem_of_getElem? (i := 705) (by decide +kernel)⟩
theorem lw_p23 : lw_okq (⟨"java/util/ArrayList", "grow", "(I)[Ljava/lang/Object;"⟩, 3) := ⟨⟨by decide +kernel, by decide +kernel⟩, List.mem_of_getElem? (i := 160) (by decide +kernel), List.mem_of_getElem? (i := 708) (by decide +kernel), List.mem_of_getElem? (i := 709) (by decide +kernel)⟩
theorem lw_p24 : lw_okq (⟨"TableText$Reader", "readValue", "(I)LTableText$Node;"⟩, 8) := ⟨⟨by decide +kernel, by decide +kernel⟩, List.mem_of_getElem? (i := 121) (by decide +kernel), List.mem_of_getElem? (i := 743) (by decide +kernel), List.mem_of_getElem? (i := 744) (by decide +kernel)⟩
theorem lw_p25 : lw_okq (⟨"TableText$Reader", "readList", "(I)LTableText$Node;"⟩, 8) := ⟨⟨by decide +kernel, by decide +kernel⟩, List.mem_of_getElem? (i := 121) (by decide +kernel), List.mem_of_getElem? (i := 747) (by decide +kernel), List.mem_of_getElem? (i := 748) (by decide +kernel)⟩
theorem lw_p26 : lw_okq (⟨"TableText$Reader", "skipBlanksLinesAndComments", "()V"⟩, 8) := ⟨⟨by decide +kernel, by decide +kernel⟩, List.mem_of_getElem? (i := 121) (by decide +kernel), List.mem_of_getElem? (i := 751) (by decide +kernel), List.mem_of_getElem? (i := 752) (by decide +kernel)⟩
theorem lw_p27 : lw_okq (⟨"TableText$Reader", "readClosedTable", "(I)LTableText$Node;"⟩, 8) := ⟨⟨by decide +kernel, by decide +kernel⟩, List.mem_of_getElem? (i := 121) (by decide +kernel), List.mem_of_getElem? (i := 755) (by decide +kernel), List.mem_of_getElem? (i := 756) (by decide +kernel)⟩
theorem lw_p28 : lw_okq (⟨"TableText$Reader", "readString", "()LTableText$Node;"⟩, 8) := ⟨⟨by decide +kernel, by decide +kernel⟩, List.mem_of_getElem? (i := 121) (by decide +kernel), List.mem_of_getElem? (i := 775) (by decide +kernel), List.mem_of_getElem? (i := 776) (by decide +kernel)⟩
theorem lw_p29 : lw_okq (⟨"TableText$Reader", "readPlainlyQuoted", "()Ljava/lang/String;"⟩, 8) := ⟨⟨by decide +kernel, by decide +kernel⟩, List.mem_of_getElem? (i := 121) (by decide +kernel), List.mem_of_getElem? (i := 779) (by decide +kernel), List.mem_of_getElem? (i := 780) (by decide +kernel)⟩
theorem lw_p30 : lw_okq (⟨"TableText$Reader", "readTruth", "(Ljava/lang/String;I)LTableText$Node;"⟩, 8) := ⟨⟨by decide +kernel, by decide +kernel⟩, List.mem_of_getElem? (i := 121) (by decide +kernel), List.mem_of_getElem? (i := 785) (by decide +kernel), List.mem_of_getElem? (i := 786) (by decide +kernel)⟩
theorem lw_p31 : lw_okq (⟨"TableText$Reader", "dateBegins", "()Z"⟩, 8) := ⟨⟨by decide +kernel, by decide +kernel⟩, List.mem_of_getElem? (i := 121) (by decide +kernel), List.mem_of_getElem? (i := 805) (by decide +kernel), List.mem_of_getElem? (i := 806) (by decide +kernel)⟩
def lw_privs_2 : List (MethodName × Nat) := [(⟨"TableText$Node", "isTable", "()Z"⟩, 8), (⟨"TableText$Reader", "newRow", "(LTableText$Node;LTableText$Step;)LTableText$Node;"⟩, 8), (⟨"TableText$Reader", "toldTable", "(LTableText$Node;LTableText$Step;)LTableText$Node;"⟩, 8), (⟨"TableText$Reader", "readEntry", "(LTableText$Node;I)Z"⟩, 8), (⟨"TableText$Reader", "dottedTable", "(LTableText$Node;LTableText$Step;)LTableText$Node;"⟩, 8), (⟨"java/util/ArrayList", "add", "(Ljava/lang/Object;[Ljava/lang/Object;I)V"⟩, 3), (⟨"java/util/ArrayList", "grow", "()[Ljava/lang/Object;"⟩, 3), (⟨"java/util/ArrayList", "grow", "(I)[Ljava/lang/Object;"⟩, 3), (⟨"TableText$Reader", "readValue", "(I)LTableText$Node;"⟩, 8), (⟨"TableText$Reader", "readList", "(I)LTableText$Node;"⟩, 8), (⟨"TableText$Reader", "skipBlanksLinesAndComments", "()V"⟩, 8), (⟨"TableText$Reader", "readClosedTable", "(I)LTableText$Node;"⟩, 8), (⟨"TableText$Reader", "readString", "()LTableText$Node;"⟩, 8), (⟨"TableText$Reader", "readPlainlyQuoted", "()Ljava/lang/String;"⟩, 8), (⟨"TableText$Reader", "readTruth", "(Ljava/lang/String;I)LTableText$Node;"⟩, 8), (⟨"TableText$Reader", "dateBegins", "()Z"⟩, 8)]
theorem lw_r2 : ∀ q ∈ lw_privs_2, lw_okq q := List.forall_mem_cons.mpr ⟨lw_p16, List.forall_mem_cons.mpr ⟨lw_p17, List.forall_mem_cons.mpr ⟨lw_p18, List.forall_mem_cons.mpr ⟨lw_p19, List.forall_mem_cons.mpr ⟨lw_p20, List.forall_mem_cons.mpr ⟨lw_p21, List.forall_mem_cons.mpr ⟨lw_p22, List.forall_mem_cons.mpr ⟨lw_p23, List.forall_mem_cons.mpr ⟨lw_p24, List.forall_mem_cons.mpr ⟨lw_p25, List.forall_mem_cons.mpr ⟨lw_p26, List.forall_mem_cons.mpr ⟨lw_p27, List.forall_mem_cons.mpr ⟨lw_p28, List.forall_mem_cons.mpr ⟨lw_p29, List.forall_mem_cons.mpr ⟨lw_p30, List.forall_mem_cons.mpr ⟨lw_p31, fun _ h => absurd h List.not_mem_nil⟩⟩⟩⟩⟩⟩⟩⟩⟩⟩⟩⟩⟩⟩⟩⟩
theorem lw_p32 : lw_okq (⟨"TableText$Reader", "digitAt", "(II)I"⟩, 8) := ⟨⟨by decide +kernel, by decide +kernel⟩, List.mem_of_getElem? (i := 121) (by decide +kernel), List.mem_of_getElem? (i := 809) (by decide +kernel), List.mem_of_getElem? (i := 810) (by decide +kernel)⟩
theorem lw_p33 : lw_okq (⟨"TableText$Reader", "readDate", "()LTableText$Node;"⟩, 8) := ⟨⟨by decide +kernel, by decide +kernel⟩, List.mem_of_getElem? (i := 121) (by decide +kernel), List.mem_of_getElem? (i := 813) (by decide +kernel), List.mem_of_getElem? (i := 814) (by decide +kernel)⟩
theorem lw_p34 : lw_okq (⟨"TableText$Reader", "readTwoDigits", "(I)I"⟩, 8) := ⟨⟨by decide +kernel, by decide +kernel⟩, List.mem_of_getElem? (i := 121) (by decide +kernel), List.mem_of_getElem? (i := 817) (by decide +kernel), List.mem_of_getElem? (i := 818) (by decide +kernel)⟩
theorem lw_p35 : lw_okq (⟨"TableText$Reader", "readNumber", "()LTableText$Node;"⟩, 8) := ⟨⟨by decide +kernel, by decide +kernel⟩, List.mem_of_getElem? (i := 121) (by decide +kernel), List.mem_of_getElem? (i := 826) (by decide +kernel), List.mem_of_getElem? (i := 827) (by decide +kernel)⟩
theorem lw_p36 : lw_okq (⟨"TableText$Reader", "readDigits", "(II)I"⟩, 8) := ⟨⟨by decide +kernel, by decide +kernel⟩, List.mem_of_getElem? (i := 121) (by decide +kernel), List.mem_of_getElem? (i := 830) (by decide +kernel), List.mem_of_getElem? (i := 831) (by decide +kernel)⟩
theorem lw_p37 : lw_okq (⟨"TableText$Reader", "skipComment", "()V"⟩, 8) := ⟨⟨by decide +kernel, by decide +kernel⟩, List.mem_of_getElem? (i := 121) (by decide +kernel), List.mem_of_getElem? (i := 834) (by decide +kernel), List.mem_of_getElem? (i := 835) (by decide +kernel)⟩
theorem lw_p38 : lw_okq (⟨"TableText$Page", "fill", "(LTableText$Node;)V"⟩, 2) := ⟨⟨by decide +kernel, by decide +kernel⟩, List.mem_of_getElem? (i := 39) (by decide +kernel), List.mem_of_getElem? (i := 842) (by decide +kernel), List.mem_of_getElem? (i := 843) (by decide +kernel)⟩
theorem lw_p39 : lw_okq (⟨"TableText$Page", "putBeginning", "(LTableText$Node;)V"⟩, 2) := ⟨⟨by decide +kernel, by decide +kernel⟩, List.mem_of_getElem? (i := 39) (by decide +kernel), List.mem_of_getElem? (i := 846) (by decide +kernel), List.mem_of_getElem? (i := 847) (by decide +kernel)⟩
theorem lw_p40 : lw_okq (⟨"TableText$Page", "putName", "(Ljava/lang/String;)V"⟩, 2) := ⟨⟨by decide +kernel, by decide +kernel⟩, List.mem_of_getElem? (i := 39) (by decide +kernel), List.mem_of_getElem? (i := 850) (by decide +kernel), List.mem_of_getElem? (i := 851) (by decide +kernel)⟩
theorem lw_p41 : lw_okq (⟨"TableText$Page", "putAll", "(Ljava/lang/String;)V"⟩, 2) := ⟨⟨by decide +kernel, by decide +kernel⟩, List.mem_of_getElem? (i := 39) (by decide +kernel), List.mem_of_getElem? (i := 861) (by decide +kernel), List.mem_of_getElem? (i := 862) (by decide +kernel)⟩
theorem lw_p42 : lw_okq (⟨"TableText$Page", "put", "(C)V"⟩, 2) := ⟨⟨by decide +kernel, by decide +kernel⟩, List.mem_of_getElem? (i := 39) (by decide +kernel), List.mem_of_getElem? (i := 865) (by decide +kernel), List.mem_of_getElem? (i := 866) (by decide +kernel)⟩
theorem lw_p43 : lw_okq (⟨"TableText$Page", "putQuoted", "(Ljava/lang/String;)V"⟩, 2) := ⟨⟨by decide +kernel, by decide +kernel⟩, List.mem_of_getElem? (i := 39) (by decide +kernel), List.mem_of_getElem? (i := 869) (by decide +kernel), List.mem_of_getElem? (i := 870) (by decide +kernel)⟩
theorem lw_p44 : lw_okq (⟨"TableText$Node", "isList", "()Z"⟩, 8) := ⟨⟨by decide +kernel, by decide +kernel⟩, List.mem_of_getElem? (i := 55) (by decide +kernel), List.mem_of_getElem? (i := 877) (by decide +kernel), List.mem_of_getElem? (i := 878) (by decide +kernel)⟩
theorem lw_p45 : lw_okq (⟨"TableText$Page", "putDate", "(I)V"⟩, 2) := ⟨⟨by decide +kernel, by decide +kernel⟩, List.mem_of_getElem? (i := 39) (by decide +kernel), List.mem_of_getElem? (i := 883) (by decide +kernel), List.mem_of_getElem? (i := 884) (by decide +kernel)⟩
theorem lw_p46 : lw_okq (⟨"TableText$Page", "putDigits", "(II)V"⟩, 2) := ⟨⟨by decide +kernel, by decide +kernel⟩, List.mem_of_getElem? (i := 39) (by decide +kernel), List.mem_of_getElem? (i := 887) (by decide +kernel), List.mem_of_getElem? (i := 888) (by decide +kernel)⟩
theorem lw_p47 : lw_okq (⟨"TableText$Page", "putNumber", "(I)V"⟩, 2) := ⟨⟨by decide +kernel, by decide +kernel⟩, List.mem_of_getElem? (i := 39) (by decide +kernel), List.mem_of_getElem? (i := 891) (by decide +kernel), List.mem_of_getElem? (i := 892) (by decide +kernel)⟩
def lw_privs_3 : List (MethodName × Nat) := [(⟨"TableText$Reader", "digitAt", "(II)I"⟩, 8), (⟨"TableText$Reader", "readDate", "()LTableText$Node;"⟩, 8), (⟨"TableText$Reader", "readTwoDigits", "(I)I"⟩, 8), (⟨"TableText$Reader", "readNumber", "()LTableText$Node;"⟩, 8), (⟨"TableText$Reader", "readDigits", "(II)I"⟩, 8), (⟨"TableText$Reader", "skipComment", "()V"⟩, 8), (⟨"TableText$Page", "fill", "(LTableText$Node;)V"⟩, 2), (⟨"TableText$Page", "putBeginning", "(LTableText$Node;)V"⟩, 2), (⟨"TableText$Page", "putName", "(Ljava/lang/String;)V"⟩, 2), (⟨"TableText$Page", "putAll", "(Ljava/lang/String;)V"⟩, 2), (⟨"TableText$Page", "put", "(C)V"⟩, 2), (⟨"TableText$Page", "putQuoted", "(Ljava/lang/String;)V"⟩, 2), (⟨"TableText$Node", "isList", "()Z"⟩, 8), (⟨"TableText$Page", "putDate", "(I)V"⟩, 2), (⟨"TableText$Page", "putDigits", "(II)V"⟩, 2), (⟨"TableText$Page", "putNumber", "(I)V"⟩, 2)]
theorem lw_r3 : ∀ q ∈ lw_privs_3, lw_okq q := List.forall_mem_cons.mpr ⟨lw_p32, List.forall_mem_cons.mpr ⟨lw_p33, List.forall_mem_cons.mpr ⟨lw_p34, List.forall_mem_cons.mpr ⟨lw_p35, List.forall_mem_cons.mpr ⟨lw_p36, List.forall_mem_cons.mpr ⟨lw_p37, List.forall_mem_cons.mpr ⟨lw_p38, List.forall_mem_cons.mpr ⟨lw_p39, List.forall_mem_cons.mpr ⟨lw_p40, List.forall_mem_cons.mpr ⟨lw_p41, List.forall_mem_cons.mpr ⟨lw_p42, List.forall_mem_cons.mpr ⟨lw_p43, List.forall_mem_cons.mpr ⟨lw_p44, List.forall_mem_cons.mpr ⟨lw_p45, List.forall_mem_cons.mpr ⟨lw_p46, List.forall_mem_cons.mpr ⟨lw_p47, fun _ h => absurd h List.not_mem_nil⟩⟩⟩⟩⟩⟩⟩⟩⟩⟩⟩⟩⟩⟩⟩⟩
theorem lw_p48 : lw_okq (⟨"TableText$Page", "putEndings", "(LTableText$Node;)LTableText$Node;"⟩, 2) := ⟨⟨by decide +kernel, by decide +kernel⟩, List.mem_of_getElem? (i := 39) (by decide +kernel), List.mem_of_getElem? (i := 898) (by decide +kernel), List.mem_of_getElem? (i := 899) (by decide +kernel)⟩
theorem lw_p49 : lw_okq (⟨"TableText$Page", "putEnd", "(LTableText$Node;)V"⟩, 2) := ⟨⟨by decide +kernel, by decide +kernel⟩, List.mem_of_getElem? (i := 39) (by decide +kernel), List.mem_of_getElem? (i := 902) (by decide +kernel), List.mem_of_getElem? (i := 903) (by decide +kernel)⟩
theorem lw_p50 : lw_okq (⟨"TableText$Node", "inner", "(I)LTableText$Node;"⟩, 8) := ⟨⟨by decide +kernel, by decide +kernel⟩, List.mem_of_getElem? (i := 55) (by decide +kernel), List.mem_of_getElem? (i := 994) (by decide +kernel), List.mem_of_getElem? (i := 995) (by decide +kernel)⟩
theorem lw_p51 : lw_okq (⟨"TableTextModel", "make", "(II)I"⟩, 31) := ⟨⟨by decide +kernel, by decide +kernel⟩, List.mem_of_getElem? (i := 1021) (by decide +kernel), List.mem_of_getElem? (i := 1135) (by decide +kernel), List.mem_of_getElem? (i := 1136) (by decide +kernel)⟩
theorem lw_p52 : lw_okq (⟨"TableTextModel", "line", "(I)I"⟩, 31) := ⟨⟨by decide +kernel, by decide +kernel⟩, List.mem_of_getElem? (i := 1021) (by decide +kernel), List.mem_of_getElem? (i := 1139) (by decide +kernel), List.mem_of_getElem? (i := 1140) (by decide +kernel)⟩
theorem lw_p53 : lw_okq (⟨"TableTextModel", "blanks", "()V"⟩, 31) := ⟨⟨by decide +kernel, by decide +kernel⟩, List.mem_of_getElem? (i := 1021) (by decide +kernel), List.mem_of_getElem? (i := 1143) (by decide +kernel), List.mem_of_getElem? (i := 1144) (by decide +kernel)⟩
theorem lw_p54 : lw_okq (⟨"TableTextModel", "here", "()I"⟩, 31) := ⟨⟨by decide +kernel, by decide +kernel⟩, List.mem_of_getElem? (i := 1021) (by decide +kernel), List.mem_of_getElem? (i := 1147) (by decide +kernel), List.mem_of_getElem? (i := 1148) (by decide +kernel)⟩
theorem lw_p55 : lw_okq (⟨"TableTextModel", "header", "()I"⟩, 31) := ⟨⟨by decide +kernel, by decide +kernel⟩, List.mem_of_getElem? (i := 1021) (by decide +kernel), List.mem_of_getElem? (i := 1151) (by decide +kernel), List.mem_of_getElem? (i := 1152) (by decide +kernel)⟩
theorem lw_p56 : lw_okq (⟨"TableTextModel", "path", "()Z"⟩, 31) := ⟨⟨by decide +kernel, by decide +kernel⟩, List.mem_of_getElem? (i := 1021) (by decide +kernel), List.mem_of_getElem? (i := 1155) (by decide +kernel), List.mem_of_getElem? (i := 1156) (by decide +kernel)⟩
theorem lw_p57 : lw_okq (⟨"TableTextModel", "string", "()Z"⟩, 31) := ⟨⟨by decide +kernel, by decide +kernel⟩, List.mem_of_getElem? (i := 1021) (by decide +kernel), List.mem_of_getElem? (i := 1159) (by decide +kernel), List.mem_of_getElem? (i := 1160) (by decide +kernel)⟩
theorem lw_p58 : lw_okq (⟨"TableTextModel", "begin", "()V"⟩, 31) := ⟨⟨by decide +kernel, by decide +kernel⟩, List.mem_of_getElem? (i := 1021) (by decide +kernel), List.mem_of_getElem? (i := 1163) (by decide +kernel), List.mem_of_getElem? (i := 1164) (by decide +kernel)⟩
theorem lw_p59 : lw_okq (⟨"TableTextModel", "fail", "(I)Z"⟩, 31) := ⟨⟨by decide +kernel, by decide +kernel⟩, List.mem_of_getElem? (i := 1021) (by decide +kernel), List.mem_of_getElem? (i := 1167) (by decide +kernel), List.mem_of_getElem? (i := 1168) (by decide +kernel)⟩
theorem lw_p60 : lw_okq (⟨"TableTextModel", "behindBar", "(I)I"⟩, 31) := ⟨⟨by decide +kernel, by decide +kernel⟩, List.mem_of_getElem? (i := 1021) (by decide +kernel), List.mem_of_getElem? (i := 1171) (by decide +kernel), List.mem_of_getElem? (i := 1172) (by decide +kernel)⟩
theorem lw_p61 : lw_okq (⟨"TableTextModel", "add", "(II)Z"⟩, 31) := ⟨⟨by decide +kernel, by decide +kernel⟩, List.mem_of_getElem? (i := 1021) (by decide +kernel), List.mem_of_getElem? (i := 1175) (by decide +kernel), List.mem_of_getElem? (i := 1176) (by decide +kernel)⟩
theorem lw_p62 : lw_okq (⟨"TableTextModel", "bare", "()Z"⟩, 31) := ⟨⟨by decide +kernel, by decide +kernel⟩, List.mem_of_getElem? (i := 1021) (by decide +kernel), List.mem_of_getElem? (i := 1179) (by decide +kernel), List.mem_of_getElem? (i := 1180) (by decide +kernel)⟩
theorem lw_p63 : lw_okq (⟨"TableTextModel", "isBare", "(I)Z"⟩, 31) := ⟨⟨by decide +kernel, by decide +kernel⟩, List.mem_of_getElem? (i := 1021) (by decide +kernel), List.mem_of_getElem? (i := 1183) (by decide +kernel), List.mem_of_getElem? (i := 1184) (by decide +kernel)⟩
def lw_privs_4 : List (MethodName × Nat) := [(⟨"TableText$Page", "putEndings", "(LTableText$Node;)LTableText$Node;"⟩, 2), (⟨"TableText$Page", "putEnd", "(LTableText$Node;)V"⟩, 2), (⟨"TableText$Node", "inner", "(I)LTableText$Node;"⟩, 8), (⟨"TableTextModel", "make", "(II)I"⟩, 31), (⟨"TableTextModel", "line", "(I)I"⟩, 31), (⟨"TableTextModel", "blanks", "()V"⟩, 31), (⟨"TableTextModel", "here", "()I"⟩, 31), (⟨"TableTextModel", "header", "()I"⟩, 31), (⟨"TableTextModel", "path", "()Z"⟩, 31), (⟨"TableTextModel", "string", "()Z"⟩, 31), (⟨"TableTextModel", "begin", "()V"⟩, 31), (⟨"TableTextModel", "fail", "(I)Z"⟩, 31), (⟨"TableTextModel", "behindBar", "(I)I"⟩, 31), (⟨"TableTextModel", "add", "(II)Z"⟩, 31), (⟨"TableTextModel", "bare", "()Z"⟩, 31), (⟨"TableTextModel", "isBare", "(I)Z"⟩, 31)]
theorem lw_r4 : ∀ q ∈ lw_privs_4, lw_okq q := List.forall_mem_cons.mpr ⟨lw_p48, List.forall_mem_cons.mpr ⟨lw_p49, List.forall_mem_cons.mpr ⟨lw_p50, List.forall_mem_cons.mpr ⟨lw_p51, List.forall_mem_cons.mpr ⟨lw_p52, List.forall_mem_cons.mpr ⟨lw_p53, List.forall_mem_cons.mpr ⟨lw_p54, List.forall_mem_cons.mpr ⟨lw_p55, List.forall_mem_cons.mpr ⟨lw_p56, List.forall_mem_cons.mpr ⟨lw_p57, List.forall_mem_cons.mpr ⟨lw_p58, List.forall_mem_cons.mpr ⟨lw_p59, List.forall_mem_cons.mpr ⟨lw_p60, List.forall_mem_cons.mpr ⟨lw_p61, List.forall_mem_cons.mpr ⟨lw_p62, List.forall_mem_cons.mpr ⟨lw_p63, fun _ h => absurd h List.not_mem_nil⟩⟩⟩⟩⟩⟩⟩⟩⟩⟩⟩⟩⟩⟩⟩⟩
theorem lw_p64 : lw_okq (⟨"TableTextModel", "isDigit", "(I)Z"⟩, 31) := ⟨⟨by decide +kernel, by decide +kernel⟩, List.mem_of_getElem? (i := 1021) (by decide +kernel), List.mem_of_getElem? (i := 1187) (by decide +kernel), List.mem_of_getElem? (i := 1188) (by decide +kernel)⟩
theorem lw_p65 : lw_okq (⟨"TableTextModel", "opened", "(Z)I"⟩, 31) := ⟨⟨by decide +kernel, by decide +kernel⟩, List.mem_of_getElem? (i := 1021) (by decide +kernel), List.mem_of_getElem? (i := 1191) (by decide +kernel), List.mem_of_getElem? (i := 1192) (by decide +kernel)⟩
theorem lw_p66 : lw_okq (⟨"TableTextModel", "leadHeader", "()I"⟩, 31) := ⟨⟨by decide +kernel, by decide +kernel⟩, List.mem_of_getElem? (i := 1021) (by decide +kernel), List.mem_of_getElem? (i := 1195) (by decide +kernel), List.mem_of_getElem? (i := 1196) (by decide +kernel)⟩
theorem lw_p67 : lw_okq (⟨"TableTextModel", "entryOf", "(II)I"⟩, 31) := ⟨⟨by decide +kernel, by decide +kernel⟩, List.mem_of_getElem? (i := 1021) (by decide +kernel), List.mem_of_getElem? (i := 1199) (by decide +kernel), List.mem_of_getElem? (i := 1200) (by decide +kernel)⟩
theorem lw_p68 : lw_okq (⟨"TableTextModel", "named", "(II)I"⟩, 31) := ⟨⟨by decide +kernel, by decide +kernel⟩, List.mem_of_getElem? (i := 1021) (by decide +kernel), List.mem_of_getElem? (i := 1203) (by decide +kernel), List.mem_of_getElem? (i := 1204) (by decide +kernel)⟩
theorem lw_p69 : lw_okq (⟨"TableTextModel", "isTable", "(I)Z"⟩, 31) := ⟨⟨by decide +kernel, by decide +kernel⟩, List.mem_of_getElem? (i := 1021) (by decide +kernel), List.mem_of_getElem? (i := 1207) (by decide +kernel), List.mem_of_getElem? (i := 1208) (by decide +kernel)⟩
theorem lw_p70 : lw_okq (⟨"TableTextModel", "entry", "(I)Z"⟩, 31) := ⟨⟨by decide +kernel, by decide +kernel⟩, List.mem_of_getElem? (i := 1021) (by decide +kernel), List.mem_of_getElem? (i := 1211) (by decide +kernel), List.mem_of_getElem? (i := 1212) (by decide +kernel)⟩
theorem lw_p71 : lw_okq (⟨"TableTextModel", "leadEntry", "(I)I"⟩, 31) := ⟨⟨by decide +kernel, by decide +kernel⟩, List.mem_of_getElem? (i := 1021) (by decide +kernel), List.mem_of_getElem? (i := 1215) (by decide +kernel), List.mem_of_getElem? (i := 1216) (by decide +kernel)⟩
theorem lw_p72 : lw_okq (⟨"TableTextModel", "beginValue", "(II)Z"⟩, 31) := ⟨⟨by decide +kernel, by decide +kernel⟩, List.mem_of_getElem? (i := 1021) (by decide +kernel), List.mem_of_getElem? (i := 1219) (by decide +kernel), List.mem_of_getElem? (i := 1220) (by decide +kernel)⟩
theorem lw_p73 : lw_okq (⟨"TableTextModel", "isDate", "()Z"⟩, 31) := ⟨⟨by decide +kernel, by decide +kernel⟩, List.mem_of_getElem? (i := 1021) (by decide +kernel), List.mem_of_getElem? (i := 1223) (by decide +kernel), List.mem_of_getElem? (i := 1224) (by decide +kernel)⟩
theorem lw_p74 : lw_okq (⟨"TableTextModel", "date", "(I)Z"⟩, 31) := ⟨⟨by decide +kernel, by decide +kernel⟩, List.mem_of_getElem? (i := 1021) (by decide +kernel), List.mem_of_getElem? (i := 1227) (by decide +kernel), List.mem_of_getElem? (i := 1228) (by decide +kernel)⟩
theorem lw_p75 : lw_okq (⟨"TableTextModel", "two", "()I"⟩, 31) := ⟨⟨by decide +kernel, by decide +kernel⟩, List.mem_of_getElem? (i := 1021) (by decide +kernel), List.mem_of_getElem? (i := 1231) (by decide +kernel), List.mem_of_getElem? (i := 1232) (by decide +kernel)⟩
theorem lw_p76 : lw_okq (⟨"TableTextModel", "daysOf", "(II)I"⟩, 31) := ⟨⟨by decide +kernel, by decide +kernel⟩, List.mem_of_getElem? (i := 1021) (by decide +kernel), List.mem_of_getElem? (i := 1235) (by decide +kernel), List.mem_of_getElem? (i := 1236) (by decide +kernel)⟩
theorem lw_p77 : lw_okq (⟨"TableTextModel", "number", "(I)Z"⟩, 31) := ⟨⟨by decide +kernel, by decide +kernel⟩, List.mem_of_getElem? (i := 1021) (by decide +kernel), List.mem_of_getElem? (i := 1239) (by decide +kernel), List.mem_of_getElem? (i := 1240) (by decide +kernel)⟩
theorem lw_p78 : lw_okq (⟨"TableTextModel", "digits", "(II)I"⟩, 31) := ⟨⟨by decide +kernel, by decide +kernel⟩, List.mem_of_getElem? (i := 1021) (by decide +kernel), List.mem_of_getElem? (i := 1243) (by decide +kernel), List.mem_of_getElem? (i := 1244) (by decide +kernel)⟩
theorem lw_p79 : lw_okq (⟨"TableTextModel", "digitOf", "(I)I"⟩, 31) := ⟨⟨by decide +kernel, by decide +kernel⟩, List.mem_of_getElem? (i := 1021) (by decide +kernel), List.mem_of_getElem? (i := 1247) (by decide +kernel), List.mem_of_getElem? (i := 1248) (by decide +kernel)⟩
def lw_privs_5 : List (MethodName × Nat) := [(⟨"TableTextModel", "isDigit", "(I)Z"⟩, 31), (⟨"TableTextModel", "opened", "(Z)I"⟩, 31), (⟨"TableTextModel", "leadHeader", "()I"⟩, 31), (⟨"TableTextModel", "entryOf", "(II)I"⟩, 31), (⟨"TableTextModel", "named", "(II)I"⟩, 31), (⟨"TableTextModel", "isTable", "(I)Z"⟩, 31), (⟨"TableTextModel", "entry", "(I)Z"⟩, 31), (⟨"TableTextModel", "leadEntry", "(I)I"⟩, 31), (⟨"TableTextModel", "beginValue", "(II)Z"⟩, 31), (⟨"TableTextModel", "isDate", "()Z"⟩, 31), (⟨"TableTextModel", "date", "(I)Z"⟩, 31), (⟨"TableTextModel", "two", "()I"⟩, 31), (⟨"TableTextModel", "daysOf", "(II)I"⟩, 31), (⟨"TableTextModel", "number", "(I)Z"⟩, 31), (⟨"TableTextModel", "digits", "(II)I"⟩, 31), (⟨"TableTextModel", "digitOf", "(I)I"⟩, 31)]
theorem lw_r5 : ∀ q ∈ lw_privs_5, lw_okq q := List.forall_mem_cons.mpr ⟨lw_p64, List.forall_mem_cons.mpr ⟨lw_p65, List.forall_mem_cons.mpr ⟨lw_p66, List.forall_mem_cons.mpr ⟨lw_p67, List.forall_mem_cons.mpr ⟨lw_p68, List.forall_mem_cons.mpr ⟨lw_p69, List.forall_mem_cons.mpr ⟨lw_p70, List.forall_mem_cons.mpr ⟨lw_p71, List.forall_mem_cons.mpr ⟨lw_p72, List.forall_mem_cons.mpr ⟨lw_p73, List.forall_mem_cons.mpr ⟨lw_p74, List.forall_mem_cons.mpr ⟨lw_p75, List.forall_mem_cons.mpr ⟨lw_p76, List.forall_mem_cons.mpr ⟨lw_p77, List.forall_mem_cons.mpr ⟨lw_p78, List.forall_mem_cons.mpr ⟨lw_p79, fun _ h => absurd h List.not_mem_nil⟩⟩⟩⟩⟩⟩⟩⟩⟩⟩⟩⟩⟩⟩⟩⟩
theorem lw_p80 : lw_okq (⟨"TableTextModel", "truth", "(I)Z"⟩, 31) := ⟨⟨by decide +kernel, by decide +kernel⟩, List.mem_of_getElem? (i := 1021) (by decide +kernel), List.mem_of_getElem? (i := 1251) (by decide +kernel), List.mem_of_getElem? (i := 1252) (by decide +kernel)⟩
theorem lw_p81 : lw_okq (⟨"TableTextModel", "letterOf", "(ZI)I"⟩, 31) := ⟨⟨by decide +kernel, by decide +kernel⟩, List.mem_of_getElem? (i := 1021) (by decide +kernel), List.mem_of_getElem? (i := 1255) (by decide +kernel), List.mem_of_getElem? (i := 1256) (by decide +kernel)⟩
theorem lw_p82 : lw_okq (⟨"TableTextModel", "finishValue", "()Z"⟩, 31) := ⟨⟨by decide +kernel, by decide +kernel⟩, List.mem_of_getElem? (i := 1021) (by decide +kernel), List.mem_of_getElem? (i := 1259) (by decide +kernel), List.mem_of_getElem? (i := 1260) (by decide +kernel)⟩
theorem lw_p83 : lw_okq (⟨"TableTextModel", "stepList", "(I)Z"⟩, 31) := ⟨⟨by decide +kernel, by decide +kernel⟩, List.mem_of_getElem? (i := 1021) (by decide +kernel), List.mem_of_getElem? (i := 1263) (by decide +kernel), List.mem_of_getElem? (i := 1264) (by decide +kernel)⟩
theorem lw_p84 : lw_okq (⟨"TableTextModel", "room", "()V"⟩, 31) := ⟨⟨by decide +kernel, by decide +kernel⟩, List.mem_of_getElem? (i := 1021) (by decide +kernel), List.mem_of_getElem? (i := 1267) (by decide +kernel), List.mem_of_getElem? (i := 1268) (by decide +kernel)⟩
theorem lw_p85 : lw_okq (⟨"TableTextModel", "comment", "()V"⟩, 31) := ⟨⟨by decide +kernel, by decide +kernel⟩, List.mem_of_getElem? (i := 1021) (by decide +kernel), List.mem_of_getElem? (i := 1271) (by decide +kernel), List.mem_of_getElem? (i := 1272) (by decide +kernel)⟩
theorem lw_p86 : lw_okq (⟨"TableTextModel", "stepTable", "(I)Z"⟩, 31) := ⟨⟨by decide +kernel, by decide +kernel⟩, List.mem_of_getElem? (i := 1021) (by decide +kernel), List.mem_of_getElem? (i := 1275) (by decide +kernel), List.mem_of_getElem? (i := 1276) (by decide +kernel)⟩
theorem lw_p87 : lw_okq (⟨"TableTextModel", "putKey", "(I)V"⟩, 31) := ⟨⟨by decide +kernel, by decide +kernel⟩, List.mem_of_getElem? (i := 1021) (by decide +kernel), List.mem_of_getElem? (i := 1283) (by decide +kernel), List.mem_of_getElem? (i := 1284) (by decide +kernel)⟩
theorem lw_p88 : lw_okq (⟨"TableTextModel", "putQuoted", "(II)V"⟩, 31) := ⟨⟨by decide +kernel, by decide +kernel⟩, List.mem_of_getElem? (i := 1021) (by decide +kernel), List.mem_of_getElem? (i := 1287) (by decide +kernel), List.mem_of_getElem? (i := 1288) (by decide +kernel)⟩
theorem lw_p89 : lw_okq (⟨"TableTextModel", "put", "(I)V"⟩, 31) := ⟨⟨by decide +kernel, by decide +kernel⟩, List.mem_of_getElem? (i := 1021) (by decide +kernel), List.mem_of_getElem? (i := 1291) (by decide +kernel), List.mem_of_getElem? (i := 1292) (by decide +kernel)⟩
theorem lw_p90 : lw_okq (⟨"TableTextModel", "putValue", "(I)V"⟩, 31) := ⟨⟨by decide +kernel, by decide +kernel⟩, List.mem_of_getElem? (i := 1021) (by decide +kernel), List.mem_of_getElem? (i := 1295) (by decide +kernel), List.mem_of_getElem? (i := 1296) (by decide +kernel)⟩
theorem lw_p91 : lw_okq (⟨"TableTextModel", "putHead", "(I)V"⟩, 31) := ⟨⟨by decide +kernel, by decide +kernel⟩, List.mem_of_getElem? (i := 1021) (by decide +kernel), List.mem_of_getElem? (i := 1299) (by decide +kernel), List.mem_of_getElem? (i := 1300) (by decide +kernel)⟩
theorem lw_p92 : lw_okq (⟨"TableTextModel", "putNumber", "(II)V"⟩, 31) := ⟨⟨by decide +kernel, by decide +kernel⟩, List.mem_of_getElem? (i := 1021) (by decide +kernel), List.mem_of_getElem? (i := 1303) (by decide +kernel), List.mem_of_getElem? (i := 1304) (by decide +kernel)⟩
theorem lw_p93 : lw_okq (⟨"TableTextModel", "holds", "(I)Z"⟩, 31) := ⟨⟨by decide +kernel, by decide +kernel⟩, List.mem_of_getElem? (i := 1021) (by decide +kernel), List.mem_of_getElem? (i := 1307) (by decide +kernel), List.mem_of_getElem? (i := 1308) (by decide +kernel)⟩
theorem lw_p94 : lw_okq (⟨"TableTextModel", "putEntry", "(I)V"⟩, 31) := ⟨⟨by decide +kernel, by decide +kernel⟩, List.mem_of_getElem? (i := 1021) (by decide +kernel), List.mem_of_getElem? (i := 1311) (by decide +kernel), List.mem_of_getElem? (i := 1312) (by decide +kernel)⟩
def lw_privs_6 : List (MethodName × Nat) := [(⟨"TableTextModel", "truth", "(I)Z"⟩, 31), (⟨"TableTextModel", "letterOf", "(ZI)I"⟩, 31), (⟨"TableTextModel", "finishValue", "()Z"⟩, 31), (⟨"TableTextModel", "stepList", "(I)Z"⟩, 31), (⟨"TableTextModel", "room", "()V"⟩, 31), (⟨"TableTextModel", "comment", "()V"⟩, 31), (⟨"TableTextModel", "stepTable", "(I)Z"⟩, 31), (⟨"TableTextModel", "putKey", "(I)V"⟩, 31), (⟨"TableTextModel", "putQuoted", "(II)V"⟩, 31), (⟨"TableTextModel", "put", "(I)V"⟩, 31), (⟨"TableTextModel", "putValue", "(I)V"⟩, 31), (⟨"TableTextModel", "putHead", "(I)V"⟩, 31), (⟨"TableTextModel", "putNumber", "(II)V"⟩, 31), (⟨"TableTextModel", "holds", "(I)Z"⟩, 31), (⟨"TableTextModel", "putEntry", "(I)V"⟩, 31)]
theorem lw_r6 : ∀ q ∈ lw_privs_6, lw_okq q := List.forall_mem_cons.mpr ⟨lw_p80, List.forall_mem_cons.mpr ⟨lw_p81, List.forall_mem_cons.mpr ⟨lw_p82, List.forall_mem_cons.mpr ⟨lw_p83, List.forall_mem_cons.mpr ⟨lw_p84, List.forall_mem_cons.mpr ⟨lw_p85, List.forall_mem_cons.mpr ⟨lw_p86, List.forall_mem_cons.mpr ⟨lw_p87, List.forall_mem_cons.mpr ⟨lw_p88, List.forall_mem_cons.mpr ⟨lw_p89, List.forall_mem_cons.mpr ⟨lw_p90, List.forall_mem_cons.mpr ⟨lw_p91, List.forall_mem_cons.mpr ⟨lw_p92, List.forall_mem_cons.mpr ⟨lw_p93, List.forall_mem_cons.mpr ⟨lw_p94, fun _ h => absurd h List.not_mem_nil⟩⟩⟩⟩⟩⟩⟩⟩⟩⟩⟩⟩⟩⟩⟩
def lw_privs : List (MethodName × Nat) := lw_privs_1 ++ (lw_privs_2 ++ (lw_privs_3 ++ (lw_privs_4 ++ (lw_privs_5 ++ (lw_privs_6)))))
def lw_tbl : List Cond := k2_sels lw_privs ++ tables_1
theorem lw_privs_ok : ∀ q ∈ lw_privs, lw_okq q := by
  show ∀ q ∈ lw_privs_1 ++ (lw_privs_2 ++ (lw_privs_3 ++ (lw_privs_4 ++ (lw_privs_5 ++ (lw_privs_6))))), lw_okq q
  exact List.forall_mem_append.mpr ⟨lw_r1, List.forall_mem_append.mpr ⟨lw_r2, List.forall_mem_append.mpr ⟨lw_r3, List.forall_mem_append.mpr ⟨lw_r4, List.forall_mem_append.mpr ⟨lw_r5, lw_r6⟩⟩⟩⟩⟩
end
section
/-! The words that methods may use; the classes, their fields in the order of the worlds. -/
def wsA : List Cond := lw_tbl.filter goodWord
theorem wsA_good {w : Cond} (h : w ∈ wsA) : w ∈ wsA ∧ ((w.onTables && w.keeps) = true ∨ ∃ ty, w = .arrayClass ty) := ⟨h, good_of_word (List.mem_filter.mp h).2⟩
theorem gV {own C : String} {idx : Nat} {y : MethodName} {cd : Cond} (h1 : Cond.methodLink own idx y ∈ wsA) (h2 : Cond.instanceMethod y ∈ wsA) (h3 : Cond.selects C y y ∈ wsA) (h4 : Cond.initialized C ∈ wsA) (h5 : cd ∈ wsA) : GoodIn wsA (wsV own idx C y (cd :: wsA)) := fun w hw => wsA_good (by
  unfold wsV at hw
  rcases List.mem_append.mp hw with h | h
  · simp only [List.mem_cons, List.not_mem_nil, or_false] at h
    rcases h with rfl | rfl | rfl | rfl
    · exact h1
    · exact h2
    · exact h3
    · exact h4
  · rcases List.mem_cons.mp h with rfl | h
    · exact h5
    · exact h)
theorem wsA_app {C : String} {T : u_T} {N : Nat} (h : ∀ k, k < N → u_lay C T k ∈ wsA) : ∀ w ∈ u_ws C T N, w ∈ wsA := fun w hw => by
  obtain ⟨k, hk, rfl⟩ := List.mem_map.mp hw
  exact h k (List.mem_range.mp hk)
def RZ0 : String := "TableTextModel"
def TZ0 : u_T := fun k => match k with
  | 0 => ("TableTextModel", "thrown", "I", false)
  | 1 => ("TableTextModel", "size", "I", false)
  | 2 => ("TableTextModel", "text", "[I", false)
  | 3 => ("TableTextModel", "at", "I", false)
  | 4 => ("TableTextModel", "bad", "I", false)
  | 5 => ("TableTextModel", "half", "I", false)
  | 6 => ("TableTextModel", "many", "[I", false)
  | 7 => ("TableTextModel", "kinds", "[I", false)
  | 8 => ("TableTextModel", "numbers", "[I", false)
  | 9 => ("TableTextModel", "holders", "[I", false)
  | 10 => ("TableTextModel", "firsts", "[I", false)
  | 11 => ("TableTextModel", "lasts", "[I", false)
  | 12 => ("TableTextModel", "nexts", "[I", false)
  | 13 => ("TableTextModel", "counts", "[I", false)
  | 14 => ("TableTextModel", "keyFrom", "[I", false)
  | 15 => ("TableTextModel", "keySize", "[I", false)
  | 16 => ("TableTextModel", "used", "[I", false)
  | 17 => ("TableTextModel", "letters", "[I", false)
  | 18 => ("TableTextModel", "cursor", "I", false)
  | 19 => ("TableTextModel", "build", "I", false)
  | 20 => ("TableTextModel", "parts", "I", false)
  | 21 => ("TableTextModel", "partAt", "[I", false)
  | 22 => ("TableTextModel", "partFrom", "[I", false)
  | 23 => ("TableTextModel", "partSize", "[I", false)
  | 24 => ("TableTextModel", "from", "I", false)
  | 25 => ("TableTextModel", "length", "I", false)
  | 26 => ("TableTextModel", "depth", "I", false)
  | 27 => ("TableTextModel", "open", "[I", false)
  | 28 => ("TableTextModel", "states", "[I", false)
  | 29 => ("TableTextModel", "writtenSize", "I", false)
  | _ => ("TableTextModel", "output", "[I", false)
def tyZ0 : Nat → FieldType := fun k => match k with
  | 0 => .int
  | 1 => .int
  | 2 => .array .int
  | 3 => .int
  | 4 => .int
  | 5 => .int
  | 6 => .array .int
  | 7 => .array .int
  | 8 => .array .int
  | 9 => .array .int
  | 10 => .array .int
  | 11 => .array .int
  | 12 => .array .int
  | 13 => .array .int
  | 14 => .array .int
  | 15 => .array .int
  | 16 => .array .int
  | 17 => .array .int
  | 18 => .int
  | 19 => .int
  | 20 => .int
  | 21 => .array .int
  | 22 => .array .int
  | 23 => .array .int
  | 24 => .int
  | 25 => .int
  | 26 => .int
  | 27 => .array .int
  | 28 => .array .int
  | 29 => .int
  | _ => .array .int
theorem nmZ0 : ∀ a, a < 31 → ∀ b, b < 31 → a ≠ b → (TZ0 a).2.1 ≠ (TZ0 b).2.1 := by decide +kernel
theorem tyZ0_ok : ∀ k, k < 31 → parseFieldDescriptor (TZ0 k).2.2.1 = some (tyZ0 k) := by decide +kernel
theorem wZ0_0 : u_lay RZ0 TZ0 0 ∈ wsA := List.mem_filter.mpr ⟨List.mem_of_getElem? (i := 1152) (by decide +kernel), by decide +kernel⟩
theorem wZ0_1 : u_lay RZ0 TZ0 1 ∈ wsA := List.mem_filter.mpr ⟨List.mem_of_getElem? (i := 1154) (by decide +kernel), by decide +kernel⟩
theorem wZ0_2 : u_lay RZ0 TZ0 2 ∈ wsA := List.mem_filter.mpr ⟨List.mem_of_getElem? (i := 1156) (by decide +kernel), by decide +kernel⟩
theorem wZ0_3 : u_lay RZ0 TZ0 3 ∈ wsA := List.mem_filter.mpr ⟨List.mem_of_getElem? (i := 1158) (by decide +kernel), by decide +kernel⟩
theorem wZ0_4 : u_lay RZ0 TZ0 4 ∈ wsA := List.mem_filter.mpr ⟨List.mem_of_getElem? (i := 1160) (by decide +kernel), by decide +kernel⟩
theorem wZ0_5 : u_lay RZ0 TZ0 5 ∈ wsA := List.mem_filter.mpr ⟨List.mem_of_getElem? (i := 1162) (by decide +kernel), by decide +kernel⟩
theorem wZ0_6 : u_lay RZ0 TZ0 6 ∈ wsA := List.mem_filter.mpr ⟨List.mem_of_getElem? (i := 1164) (by decide +kernel), by decide +kernel⟩
theorem wZ0_7 : u_lay RZ0 TZ0 7 ∈ wsA := List.mem_filter.mpr ⟨List.mem_of_getElem? (i := 1166) (by decide +kernel), by decide +kernel⟩
theorem wZ0_8 : u_lay RZ0 TZ0 8 ∈ wsA := List.mem_filter.mpr ⟨List.mem_of_getElem? (i := 1168) (by decide +kernel), by decide +kernel⟩
theorem wZ0_9 : u_lay RZ0 TZ0 9 ∈ wsA := List.mem_filter.mpr ⟨List.mem_of_getElem? (i := 1170) (by decide +kernel), by decide +kernel⟩
theorem wZ0_10 : u_lay RZ0 TZ0 10 ∈ wsA := List.mem_filter.mpr ⟨List.mem_of_getElem? (i := 1172) (by decide +kernel), by decide +kernel⟩
theorem wZ0_11 : u_lay RZ0 TZ0 11 ∈ wsA := List.mem_filter.mpr ⟨List.mem_of_getElem? (i := 1174) (by decide +kernel), by decide +kernel⟩
theorem wZ0_12 : u_lay RZ0 TZ0 12 ∈ wsA := List.mem_filter.mpr ⟨List.mem_of_getElem? (i := 1176) (by decide +kernel), by decide +kernel⟩
theorem wZ0_13 : u_lay RZ0 TZ0 13 ∈ wsA := List.mem_filter.mpr ⟨List.mem_of_getElem? (i := 1178) (by decide +kernel), by decide +kernel⟩
theorem wZ0_14 : u_lay RZ0 TZ0 14 ∈ wsA := List.mem_filter.mpr ⟨List.mem_of_getElem? (i := 1180) (by decide +kernel), by decide +kernel⟩
theorem wZ0_15 : u_lay RZ0 TZ0 15 ∈ wsA := List.mem_filter.mpr ⟨List.mem_of_getElem? (i := 1182) (by decide +kernel), by decide +kernel⟩
theorem wZ0_16 : u_lay RZ0 TZ0 16 ∈ wsA := List.mem_filter.mpr ⟨List.mem_of_getElem? (i := 1184) (by decide +kernel), by decide +kernel⟩
theorem wZ0_17 : u_lay RZ0 TZ0 17 ∈ wsA := List.mem_filter.mpr ⟨List.mem_of_getElem? (i := 1186) (by decide +kernel), by decide +kernel⟩
theorem wZ0_18 : u_lay RZ0 TZ0 18 ∈ wsA := List.mem_filter.mpr ⟨List.mem_of_getElem? (i := 1188) (by decide +kernel), by decide +kernel⟩
theorem wZ0_19 : u_lay RZ0 TZ0 19 ∈ wsA := List.mem_filter.mpr ⟨List.mem_of_getElem? (i := 1190) (by decide +kernel), by decide +kernel⟩
theorem wZ0_20 : u_lay RZ0 TZ0 20 ∈ wsA := List.mem_filter.mpr ⟨List.mem_of_getElem? (i := 1192) (by decide +kernel), by decide +kernel⟩
theorem wZ0_21 : u_lay RZ0 TZ0 21 ∈ wsA := List.mem_filter.mpr ⟨List.mem_of_getElem? (i := 1194) (by decide +kernel), by decide +kernel⟩
theorem wZ0_22 : u_lay RZ0 TZ0 22 ∈ wsA := List.mem_filter.mpr ⟨List.mem_of_getElem? (i := 1196) (by decide +kernel), by decide +kernel⟩
theorem wZ0_23 : u_lay RZ0 TZ0 23 ∈ wsA := List.mem_filter.mpr ⟨List.mem_of_getElem? (i := 1198) (by decide +kernel), by decide +kernel⟩
theorem wZ0_24 : u_lay RZ0 TZ0 24 ∈ wsA := List.mem_filter.mpr ⟨List.mem_of_getElem? (i := 1200) (by decide +kernel), by decide +kernel⟩
theorem wZ0_25 : u_lay RZ0 TZ0 25 ∈ wsA := List.mem_filter.mpr ⟨List.mem_of_getElem? (i := 1202) (by decide +kernel), by decide +kernel⟩
theorem wZ0_26 : u_lay RZ0 TZ0 26 ∈ wsA := List.mem_filter.mpr ⟨List.mem_of_getElem? (i := 1204) (by decide +kernel), by decide +kernel⟩
theorem wZ0_27 : u_lay RZ0 TZ0 27 ∈ wsA := List.mem_filter.mpr ⟨List.mem_of_getElem? (i := 1206) (by decide +kernel), by decide +kernel⟩
theorem wZ0_28 : u_lay RZ0 TZ0 28 ∈ wsA := List.mem_filter.mpr ⟨List.mem_of_getElem? (i := 1208) (by decide +kernel), by decide +kernel⟩
theorem wZ0_29 : u_lay RZ0 TZ0 29 ∈ wsA := List.mem_filter.mpr ⟨List.mem_of_getElem? (i := 1210) (by decide +kernel), by decide +kernel⟩
theorem wZ0_30 : u_lay RZ0 TZ0 30 ∈ wsA := List.mem_filter.mpr ⟨List.mem_of_getElem? (i := 1212) (by decide +kernel), by decide +kernel⟩
theorem wsA_Z0 : ∀ w ∈ u_ws RZ0 TZ0 31, w ∈ wsA := wsA_app (fun k hk => match k, hk with
  | 0, _ => wZ0_0
  | 1, _ => wZ0_1
  | 2, _ => wZ0_2
  | 3, _ => wZ0_3
  | 4, _ => wZ0_4
  | 5, _ => wZ0_5
  | 6, _ => wZ0_6
  | 7, _ => wZ0_7
  | 8, _ => wZ0_8
  | 9, _ => wZ0_9
  | 10, _ => wZ0_10
  | 11, _ => wZ0_11
  | 12, _ => wZ0_12
  | 13, _ => wZ0_13
  | 14, _ => wZ0_14
  | 15, _ => wZ0_15
  | 16, _ => wZ0_16
  | 17, _ => wZ0_17
  | 18, _ => wZ0_18
  | 19, _ => wZ0_19
  | 20, _ => wZ0_20
  | 21, _ => wZ0_21
  | 22, _ => wZ0_22
  | 23, _ => wZ0_23
  | 24, _ => wZ0_24
  | 25, _ => wZ0_25
  | 26, _ => wZ0_26
  | 27, _ => wZ0_27
  | 28, _ => wZ0_28
  | 29, _ => wZ0_29
  | 30, _ => wZ0_30
  | k + 31, hk => absurd hk (by omega))
def RZ1 : String := "TableText"
def TZ1 : u_T := fun k => match k with
  | 0 => ("TableText", "text", "[C", true)
  | 1 => ("TableText", "page", "LTableText$Page;", true)
  | 2 => ("TableText", "length", "I", false)
  | 3 => ("TableText", "document", "LTableText$Node;", false)
  | _ => ("TableText", "cursor", "LTableText$Node;", false)
def tyZ1 : Nat → FieldType := fun k => match k with
  | 0 => .array .char
  | 1 => .object "TableText$Page"
  | 2 => .int
  | 3 => .object "TableText$Node"
  | _ => .object "TableText$Node"
theorem nmZ1 : ∀ a, a < 5 → ∀ b, b < 5 → a ≠ b → (TZ1 a).2.1 ≠ (TZ1 b).2.1 := by decide +kernel
theorem tyZ1_ok : ∀ k, k < 5 → parseFieldDescriptor (TZ1 k).2.2.1 = some (tyZ1 k) := by decide +kernel
theorem wZ1_0 : u_lay RZ1 TZ1 0 ∈ wsA := List.mem_filter.mpr ⟨List.mem_of_getElem? (i := 200) (by decide +kernel), by decide +kernel⟩
theorem wZ1_1 : u_lay RZ1 TZ1 1 ∈ wsA := List.mem_filter.mpr ⟨List.mem_of_getElem? (i := 202) (by decide +kernel), by decide +kernel⟩
theorem wZ1_2 : u_lay RZ1 TZ1 2 ∈ wsA := List.mem_filter.mpr ⟨List.mem_of_getElem? (i := 204) (by decide +kernel), by decide +kernel⟩
theorem wZ1_3 : u_lay RZ1 TZ1 3 ∈ wsA := List.mem_filter.mpr ⟨List.mem_of_getElem? (i := 206) (by decide +kernel), by decide +kernel⟩
theorem wZ1_4 : u_lay RZ1 TZ1 4 ∈ wsA := List.mem_filter.mpr ⟨List.mem_of_getElem? (i := 208) (by decide +kernel), by decide +kernel⟩
theorem wsA_Z1 : ∀ w ∈ u_ws RZ1 TZ1 5, w ∈ wsA := wsA_app (fun k hk => match k, hk with
  | 0, _ => wZ1_0
  | 1, _ => wZ1_1
  | 2, _ => wZ1_2
  | 3, _ => wZ1_3
  | 4, _ => wZ1_4
  | k + 5, hk => absurd hk (by omega))
def RZ2 : String := "TableText$Node"
def TZ2 : u_T := fun k => match k with
  | 0 => ("TableText$Node", "sort", "I", false)
  | 1 => ("TableText$Node", "amount", "I", false)
  | 2 => ("TableText$Node", "letters", "Ljava/lang/String;", false)
  | 3 => ("TableText$Node", "name", "Ljava/lang/String;", false)
  | 4 => ("TableText$Node", "outer", "LTableText$Node;", false)
  | 5 => ("TableText$Node", "first", "LTableText$Node;", false)
  | 6 => ("TableText$Node", "last", "LTableText$Node;", false)
  | _ => ("TableText$Node", "next", "LTableText$Node;", false)
def tyZ2 : Nat → FieldType := fun k => match k with
  | 0 => .int
  | 1 => .int
  | 2 => .object "java/lang/String"
  | 3 => .object "java/lang/String"
  | 4 => .object "TableText$Node"
  | 5 => .object "TableText$Node"
  | 6 => .object "TableText$Node"
  | _ => .object "TableText$Node"
theorem nmZ2 : ∀ a, a < 8 → ∀ b, b < 8 → a ≠ b → (TZ2 a).2.1 ≠ (TZ2 b).2.1 := by decide +kernel
theorem tyZ2_ok : ∀ k, k < 8 → parseFieldDescriptor (TZ2 k).2.2.1 = some (tyZ2 k) := by decide +kernel
theorem wZ2_0 : u_lay RZ2 TZ2 0 ∈ wsA := List.mem_filter.mpr ⟨List.mem_of_getElem? (i := 178) (by decide +kernel), by decide +kernel⟩
theorem wZ2_1 : u_lay RZ2 TZ2 1 ∈ wsA := List.mem_filter.mpr ⟨List.mem_of_getElem? (i := 180) (by decide +kernel), by decide +kernel⟩
theorem wZ2_2 : u_lay RZ2 TZ2 2 ∈ wsA := List.mem_filter.mpr ⟨List.mem_of_getElem? (i := 182) (by decide +kernel), by decide +kernel⟩
theorem wZ2_3 : u_lay RZ2 TZ2 3 ∈ wsA := List.mem_filter.mpr ⟨List.mem_of_getElem? (i := 184) (by decide +kernel), by decide +kernel⟩
theorem wZ2_4 : u_lay RZ2 TZ2 4 ∈ wsA := List.mem_filter.mpr ⟨List.mem_of_getElem? (i := 186) (by decide +kernel), by decide +kernel⟩
theorem wZ2_5 : u_lay RZ2 TZ2 5 ∈ wsA := List.mem_filter.mpr ⟨List.mem_of_getElem? (i := 188) (by decide +kernel), by decide +kernel⟩
theorem wZ2_6 : u_lay RZ2 TZ2 6 ∈ wsA := List.mem_filter.mpr ⟨List.mem_of_getElem? (i := 190) (by decide +kernel), by decide +kernel⟩
theorem wZ2_7 : u_lay RZ2 TZ2 7 ∈ wsA := List.mem_filter.mpr ⟨List.mem_of_getElem? (i := 192) (by decide +kernel), by decide +kernel⟩
theorem wsA_Z2 : ∀ w ∈ u_ws RZ2 TZ2 8, w ∈ wsA := wsA_app (fun k hk => match k, hk with
  | 0, _ => wZ2_0
  | 1, _ => wZ2_1
  | 2, _ => wZ2_2
  | 3, _ => wZ2_3
  | 4, _ => wZ2_4
  | 5, _ => wZ2_5
  | 6, _ => wZ2_6
  | 7, _ => wZ2_7
  | k + 8, hk => absurd hk (by omega))
def RZ3 : String := "TableText$Step"
def TZ3 : u_T := fun k => match k with
  | 0 => ("TableText$Step", "name", "Ljava/lang/String;", true)
  | 1 => ("TableText$Step", "place", "I", true)
  | _ => ("TableText$Step", "next", "LTableText$Step;", false)
def tyZ3 : Nat → FieldType := fun k => match k with
  | 0 => .object "java/lang/String"
  | 1 => .int
  | _ => .object "TableText$Step"
theorem nmZ3 : ∀ a, a < 3 → ∀ b, b < 3 → a ≠ b → (TZ3 a).2.1 ≠ (TZ3 b).2.1 := by decide +kernel
theorem tyZ3_ok : ∀ k, k < 3 → parseFieldDescriptor (TZ3 k).2.2.1 = some (tyZ3 k) := by decide +kernel
theorem wZ3_0 : u_lay RZ3 TZ3 0 ∈ wsA := List.mem_filter.mpr ⟨List.mem_of_getElem? (i := 732) (by decide +kernel), by decide +kernel⟩
theorem wZ3_1 : u_lay RZ3 TZ3 1 ∈ wsA := List.mem_filter.mpr ⟨List.mem_of_getElem? (i := 734) (by decide +kernel), by decide +kernel⟩
theorem wZ3_2 : u_lay RZ3 TZ3 2 ∈ wsA := List.mem_filter.mpr ⟨List.mem_of_getElem? (i := 736) (by decide +kernel), by decide +kernel⟩
theorem wsA_Z3 : ∀ w ∈ u_ws RZ3 TZ3 3, w ∈ wsA := wsA_app (fun k hk => match k, hk with
  | 0, _ => wZ3_0
  | 1, _ => wZ3_1
  | 2, _ => wZ3_2
  | k + 3, hk => absurd hk (by omega))
def RZ4 : String := "TableText$Reader"
def TZ4 : u_T := fun k => match k with
  | 0 => ("TableText$Reader", "text", "[C", true)
  | 1 => ("TableText$Reader", "length", "I", true)
  | 2 => ("TableText$Reader", "letters", "Ljava/lang/StringBuilder;", true)
  | 3 => ("TableText$Reader", "dotted", "Ljava/util/ArrayList;", true)
  | 4 => ("TableText$Reader", "document", "LTableText$Node;", true)
  | 5 => ("TableText$Reader", "opened", "LTableText$Node;", false)
  | 6 => ("TableText$Reader", "at", "I", false)
  | _ => ("TableText$Reader", "wrongPlace", "I", false)
def tyZ4 : Nat → FieldType := fun k => match k with
  | 0 => .array .char
  | 1 => .int
  | 2 => .object "java/lang/StringBuilder"
  | 3 => .object "java/util/ArrayList"
  | 4 => .object "TableText$Node"
  | 5 => .object "TableText$Node"
  | 6 => .int
  | _ => .int
theorem nmZ4 : ∀ a, a < 8 → ∀ b, b < 8 → a ≠ b → (TZ4 a).2.1 ≠ (TZ4 b).2.1 := by decide +kernel
theorem tyZ4_ok : ∀ k, k < 8 → parseFieldDescriptor (TZ4 k).2.2.1 = some (tyZ4 k) := by decide +kernel
theorem wZ4_0 : u_lay RZ4 TZ4 0 ∈ wsA := List.mem_filter.mpr ⟨List.mem_of_getElem? (i := 291) (by decide +kernel), by decide +kernel⟩
theorem wZ4_1 : u_lay RZ4 TZ4 1 ∈ wsA := List.mem_filter.mpr ⟨List.mem_of_getElem? (i := 293) (by decide +kernel), by decide +kernel⟩
theorem wZ4_2 : u_lay RZ4 TZ4 2 ∈ wsA := List.mem_filter.mpr ⟨List.mem_of_getElem? (i := 295) (by decide +kernel), by decide +kernel⟩
theorem wZ4_3 : u_lay RZ4 TZ4 3 ∈ wsA := List.mem_filter.mpr ⟨List.mem_of_getElem? (i := 297) (by decide +kernel), by decide +kernel⟩
theorem wZ4_4 : u_lay RZ4 TZ4 4 ∈ wsA := List.mem_filter.mpr ⟨List.mem_of_getElem? (i := 299) (by decide +kernel), by decide +kernel⟩
theorem wZ4_5 : u_lay RZ4 TZ4 5 ∈ wsA := List.mem_filter.mpr ⟨List.mem_of_getElem? (i := 301) (by decide +kernel), by decide +kernel⟩
theorem wZ4_6 : u_lay RZ4 TZ4 6 ∈ wsA := List.mem_filter.mpr ⟨List.mem_of_getElem? (i := 303) (by decide +kernel), by decide +kernel⟩
theorem wZ4_7 : u_lay RZ4 TZ4 7 ∈ wsA := List.mem_filter.mpr ⟨List.mem_of_getElem? (i := 305) (by decide +kernel), by decide +kernel⟩
theorem wsA_Z4 : ∀ w ∈ u_ws RZ4 TZ4 8, w ∈ wsA := wsA_app (fun k hk => match k, hk with
  | 0, _ => wZ4_0
  | 1, _ => wZ4_1
  | 2, _ => wZ4_2
  | 3, _ => wZ4_3
  | 4, _ => wZ4_4
  | 5, _ => wZ4_5
  | 6, _ => wZ4_6
  | 7, _ => wZ4_7
  | k + 8, hk => absurd hk (by omega))
def RZ5 : String := "TableText$Page"
def TZ5 : u_T := fun k => match k with
  | 0 => ("TableText$Page", "kept", "[C", true)
  | _ => ("TableText$Page", "count", "I", false)
def tyZ5 : Nat → FieldType := fun k => match k with
  | 0 => .array .char
  | _ => .int
theorem nmZ5 : ∀ a, a < 2 → ∀ b, b < 2 → a ≠ b → (TZ5 a).2.1 ≠ (TZ5 b).2.1 := by decide +kernel
theorem tyZ5_ok : ∀ k, k < 2 → parseFieldDescriptor (TZ5 k).2.2.1 = some (tyZ5 k) := by decide +kernel
theorem wZ5_0 : u_lay RZ5 TZ5 0 ∈ wsA := List.mem_filter.mpr ⟨List.mem_of_getElem? (i := 143) (by decide +kernel), by decide +kernel⟩
theorem wZ5_1 : u_lay RZ5 TZ5 1 ∈ wsA := List.mem_filter.mpr ⟨List.mem_of_getElem? (i := 145) (by decide +kernel), by decide +kernel⟩
theorem wsA_Z5 : ∀ w ∈ u_ws RZ5 TZ5 2, w ∈ wsA := wsA_app (fun k hk => match k, hk with
  | 0, _ => wZ5_0
  | 1, _ => wZ5_1
  | k + 2, hk => absurd hk (by omega))
def RZ6 : String := "java/lang/String"
def TZ6 : u_T := fun k => match k with
  | 0 => ("java/lang/String", "value", "[B", true)
  | _ => ("java/lang/String", "coder", "B", true)
def tyZ6 : Nat → FieldType := fun k => match k with
  | 0 => .array .byte
  | _ => .byte
theorem nmZ6 : ∀ a, a < 2 → ∀ b, b < 2 → a ≠ b → (TZ6 a).2.1 ≠ (TZ6 b).2.1 := by decide +kernel
theorem tyZ6_ok : ∀ k, k < 2 → parseFieldDescriptor (TZ6 k).2.2.1 = some (tyZ6 k) := by decide +kernel
theorem wZ6_0 : u_lay RZ6 TZ6 0 ∈ wsA := List.mem_filter.mpr ⟨List.mem_of_getElem? (i := 620) (by decide +kernel), by decide +kernel⟩
theorem wZ6_1 : u_lay RZ6 TZ6 1 ∈ wsA := List.mem_filter.mpr ⟨List.mem_of_getElem? (i := 622) (by decide +kernel), by decide +kernel⟩
theorem wsA_Z6 : ∀ w ∈ u_ws RZ6 TZ6 2, w ∈ wsA := wsA_app (fun k hk => match k, hk with
  | 0, _ => wZ6_0
  | 1, _ => wZ6_1
  | k + 2, hk => absurd hk (by omega))
def RZ7 : String := "java/lang/StringBuilder"
def TZ7 : u_T := fun k => match k with
  | 0 => ("java/lang/AbstractStringBuilder", "value", "[B", false)
  | 1 => ("java/lang/AbstractStringBuilder", "coder", "B", false)
  | 2 => ("java/lang/AbstractStringBuilder", "maybeLatin1", "Z", false)
  | _ => ("java/lang/AbstractStringBuilder", "count", "I", false)
def tyZ7 : Nat → FieldType := fun k => match k with
  | 0 => .array .byte
  | 1 => .byte
  | 2 => .boolean
  | _ => .int
theorem nmZ7 : ∀ a, a < 4 → ∀ b, b < 4 → a ≠ b → (TZ7 a).2.1 ≠ (TZ7 b).2.1 := by decide +kernel
theorem tyZ7_ok : ∀ k, k < 4 → parseFieldDescriptor (TZ7 k).2.2.1 = some (tyZ7 k) := by decide +kernel
theorem wZ7_0 : u_lay RZ7 TZ7 0 ∈ wsA := List.mem_filter.mpr ⟨List.mem_of_getElem? (i := 244) (by decide +kernel), by decide +kernel⟩
theorem wZ7_1 : u_lay RZ7 TZ7 1 ∈ wsA := List.mem_filter.mpr ⟨List.mem_of_getElem? (i := 246) (by decide +kernel), by decide +kernel⟩
theorem wZ7_2 : u_lay RZ7 TZ7 2 ∈ wsA := List.mem_filter.mpr ⟨List.mem_of_getElem? (i := 248) (by decide +kernel), by decide +kernel⟩
theorem wZ7_3 : u_lay RZ7 TZ7 3 ∈ wsA := List.mem_filter.mpr ⟨List.mem_of_getElem? (i := 250) (by decide +kernel), by decide +kernel⟩
theorem wsA_Z7 : ∀ w ∈ u_ws RZ7 TZ7 4, w ∈ wsA := wsA_app (fun k hk => match k, hk with
  | 0, _ => wZ7_0
  | 1, _ => wZ7_1
  | 2, _ => wZ7_2
  | 3, _ => wZ7_3
  | k + 4, hk => absurd hk (by omega))
def RZ8 : String := "java/util/ArrayList"
def TZ8 : u_T := fun k => match k with
  | 0 => ("java/util/AbstractList", "modCount", "I", false)
  | 1 => ("java/util/ArrayList", "elementData", "[Ljava/lang/Object;", false)
  | _ => ("java/util/ArrayList", "size", "I", false)
def tyZ8 : Nat → FieldType := fun k => match k with
  | 0 => .int
  | 1 => .array (.object "java/lang/Object")
  | _ => .int
theorem nmZ8 : ∀ a, a < 3 → ∀ b, b < 3 → a ≠ b → (TZ8 a).2.1 ≠ (TZ8 b).2.1 := by decide +kernel
theorem tyZ8_ok : ∀ k, k < 3 → parseFieldDescriptor (TZ8 k).2.2.1 = some (tyZ8 k) := by decide +kernel
theorem wZ8_0 : u_lay RZ8 TZ8 0 ∈ wsA := List.mem_filter.mpr ⟨List.mem_of_getElem? (i := 277) (by decide +kernel), by decide +kernel⟩
theorem wZ8_1 : u_lay RZ8 TZ8 1 ∈ wsA := List.mem_filter.mpr ⟨List.mem_of_getElem? (i := 273) (by decide +kernel), by decide +kernel⟩
theorem wZ8_2 : u_lay RZ8 TZ8 2 ∈ wsA := List.mem_filter.mpr ⟨List.mem_of_getElem? (i := 275) (by decide +kernel), by decide +kernel⟩
theorem wsA_Z8 : ∀ w ∈ u_ws RZ8 TZ8 3, w ∈ wsA := wsA_app (fun k hk => match k, hk with
  | 0, _ => wZ8_0
  | 1, _ => wZ8_1
  | 2, _ => wZ8_2
  | k + 3, hk => absurd hk (by omega))
abbrev vwCl : List vw_C := [(RZ0, TZ0, 31), (RZ1, TZ1, 5), (RZ2, TZ2, 8), (RZ3, TZ3, 3), (RZ4, TZ4, 8), (RZ5, TZ5, 2), (RZ6, TZ6, 2), (RZ7, TZ7, 4), (RZ8, TZ8, 3)]
def tyL (dA : Nat → ClassId) : List (ClassId × FieldType) := [(dA 0, .int), (dA 1, .char), (dA 2, .byte), (dA 3, .object "java/lang/Object"), (dA 4, .long)]
abbrev RREF : String := RZ0
abbrev TREF : u_T := TZ0
abbrev tyREF : Nat → FieldType := tyZ0
abbrev cREF : Nat := 0
theorem tyREF_ok : ∀ k, k < 31 → parseFieldDescriptor (TREF k).2.2.1 = some (tyREF k) := tyZ0_ok
theorem nREF : ∀ a, a < 31 → ∀ b, b < 31 → a ≠ b → (TREF a).2.1 ≠ (TREF b).2.1 := nmZ0
theorem wsA_ref : ∀ w ∈ u_ws RREF TREF 31, w ∈ wsA := wsA_Z0
theorem hcREF : vwCl[cREF]? = some (RREF, TREF, 31) := rfl
end
section
/-! An abstract heap: what lies at an address; the world of a walk over it; contracts that speak of it. -/
abbrev aH : Type := Nat → Option va_E
def AH (D : va_G) (cl : List vw_C) (hp : aH) (H : Heap) : Prop := ∀ (a : Nat) (e : va_E), hp a = some e → va_at D cl (a, e) H
def AI (D : va_G) (cl : List vw_C) (b0 : Nat) (hp : aH) (sz : Nat) (H0 H : Heap) (locs : List Loc) : Prop :=
  AH D cl hp H ∧ H.size = sz ∧ b0 ≤ H0.size ∧ va_S (fun q => b0 ≤ q) H0 H locs
/-- facts of the tables and of cells below b0, which stay -/
def ZC (b0 : Nat) (Z : State → Prop) : Prop := ∀ (s U : State), Z s → s.WarmedH U.vm → (∀ q : Nat, q < b0 → U.heap[q]? = s.heap[q]?) → Z U
abbrev BX (p : Program) (m : MethodId) (c : Code) (cc : ByteArray) (nL : Nat) (s : State) (args : Array Value) (Ts : List Cond) (own : String) (meth : Method) (ret : Option FieldType) (D : va_G) (cl : List vw_C) (tys : List (ClassId × FieldType)) (b0 : Nat) (Z : State → Prop) : Prop :=
  CallFix p m c cc nL s args Ts own ∧ meth.sig.returnType = ret ∧ meth.locks = false ∧ va_K D cl tys s ∧ Z s ∧ ZC b0 Z
def CQ (D : va_G) (cl : List vw_C) (b0 : Nat) (rv : Option Value) (hp : aH) (sz : Nat) : Array Value → State → Outcome → State → Prop :=
  fun _ st oc t => oc = .returned rv ∧ t.heap.size = sz ∧ AH D cl hp t.heap ∧ va_F (fun q => b0 ≤ q) st t
def CP (D : va_G) (cl : List vw_C) (tys : List (ClassId × FieldType)) (b0 : Nat) (Z : State → Prop) (hp : aH) (sz : Nat) (U : State) : Prop :=
  U.heap.size = sz ∧ b0 ≤ sz ∧ AH D cl hp U.heap ∧ va_K D cl tys U ∧ Z U
def Ct (l : Launch) (D : va_G) (cl : List vw_C) (tys : List (ClassId × FieldType)) (b0 : Nat) (Z : State → Prop) (y : MethodName) (ws : List Cond) (fr lo : Nat) (av : List Value) (hp : aH) (sz : Nat) (rv : Option Value) (hp' : aH) (mc ms : Nat) : Prop :=
  Met l y ws { frames := fr, cells := mc, slots := ms, locals := lo } (va_Pc av (CP D cl tys b0 Z hp sz)) (CQ D cl b0 rv hp' (sz + mc)) mc ms (fun q => b0 ≤ q)
theorem AH.up {D : va_G} {cl : List vw_C} {hp : aH} {H H1 : Heap} {a : Nat} {e : va_E} (h : AH D cl hp H) (he : va_at D cl (a, e) H1) (o : ∀ q : Nat, q ≠ a → H1[q]? = H[q]?) : AH D cl (va_up hp a (some e)) H1 := by
  intro q x hq
  by_cases hqa : q = a
  · subst hqa
    rw [va_up_self] at hq
    cases hq
    exact he
  · rw [va_up_ne _ _ hqa] at hq
    exact (h q x hq).kept (o q hqa)
theorem AH.push {D : va_G} {cl : List vw_C} {hp : aH} {H H1 : Heap} {e : va_E} (h : AH D cl hp H) (he : va_at D cl (H.size, e) H1) (o : ∀ q : Nat, q < H.size → H1[q]? = H[q]?) : AH D cl (va_up hp H.size (some e)) H1 := by
  intro q x hq
  by_cases hqa : q = H.size
  · subst hqa
    rw [va_up_self] at hq
    cases hq
    exact he
  · rw [va_up_ne _ _ hqa] at hq
    exact (h q x hq).kept (o q (h q x hq).lt)
theorem AI.b {D : va_G} {cl : List vw_C} {b0 sz : Nat} {hp : aH} {H0 H : Heap} {locs : List Loc} (I : AI D cl b0 hp sz H0 H locs) : b0 ≤ sz := by
  have h1 := I.2.2.1
  have h2 := I.2.2.2.1
  have h3 := I.2.1
  omega
theorem AI.of {D : va_G} {cl : List vw_C} {b0 sz : Nat} {hp hp' : aH} {H0 H : Heap} {locs : List Loc} (I : AI D cl b0 hp sz H0 H locs) (h : hp = hp') : AI D cl b0 hp' sz H0 H locs := h ▸ I
/-! locals by their places -/
def lx (ls : Array Slot) (lo : List (Option Value)) : Prop := ls.size = lo.length ∧ lv_wf ls ∧ ∀ (i : Nat) (v : Value), lo[i]? = some (some v) → ls[i]? = some (.val v)
theorem lx_get {ls : Array Slot} {lo : List (Option Value)} (h : lx ls lo) {i : Nat} {v : Value} (hi : lo[i]? = some (some v)) : ls[i]? = some (.val v) := h.2.2 i v hi
theorem lx_put {ls : Array Slot} {lo : List (Option Value)} (h : lx ls lo) {i : Nat} {v : Value} (hi : i < lo.length) (hc : v.category = 1) (hq : ∀ w, lo[i - 1]? = some (some w) → w.category = 1) :
    ∃ ls', storeLocals ls i v = some ls' ∧ lx ls' (lo.set i (some v)) := by
  obtain ⟨h1, h2, h3⟩ := h
  obtain ⟨ls', e, g1, g2, g3⟩ := lv_store1 (l := []) (i := i) (v := v) (nL := lo.length) ⟨h1, h2, fun q hq => by cases hq⟩ hi hc
  refine ⟨ls', e, by rw [g1, List.length_set], g2, fun j w hj => ?_⟩
  by_cases hji : j = i
  · subst hji
    rw [List.getElem?_set_self hi] at hj
    cases hj
    exact g3 (j, v) List.mem_cons_self
  · rw [List.getElem?_set_ne (fun q => hji q.symm)] at hj
    obtain ⟨ls2, e2, -, -, k3⟩ := lv_store1 (l := [(j, w)]) (i := i) (v := v) (nL := lo.length) ⟨h1, h2, fun q hq => by
      rw [List.mem_singleton] at hq; subst hq; exact h3 j w hj⟩ hi hc
    rw [e] at e2
    cases e2
    refine k3 (j, w) (List.mem_cons_of_mem _ (List.mem_filter.mpr ⟨List.mem_singleton.mpr rfl, ?_⟩))
    by_cases hj1 : j + 1 = i
    · have : w.category = 1 := hq w (by rw [← hj1]; exact hj)
      simp [hji, this]
    · simp [hji, hj1]
theorem lx_ci {lo : List (Option Value)} {i : Nat} {x : Int32} (h : lo[i]? = some (some (.int x))) : ∀ w, lo[i]? = some (some w) → w.category = 1 := fun w hw => by
  rw [h] at hw; cases hw; rfl
theorem lx_cr {lo : List (Option Value)} {i : Nat} {x : Nat} (h : lo[i]? = some (some (.ref x))) : ∀ w, lo[i]? = some (some w) → w.category = 1 := fun w hw => by
  rw [h] at hw; cases hw; rfl
theorem va_rf_cat (r : Option Nat) : (va_rf r).category = 1 := by cases r <;> rfl
theorem lx_cq {lo : List (Option Value)} {i : Nat} {r : Option Nat} (h : lo[i]? = some (some (va_rf r))) : ∀ w, lo[i]? = some (some w) → w.category = 1 := fun w hw => by
  rw [h] at hw; cases hw; exact va_rf_cat r
theorem lx_cn {lo : List (Option Value)} {i : Nat} (h : lo[i]? = some none) : ∀ w, lo[i]? = some (some w) → w.category = 1 := fun w hw => by
  rw [h] at hw; cases hw
def lx_le : List (Option Value) → List (Option Value) → Prop
  | [], [] => True
  | none :: t, _ :: r => lx_le t r
  | some v :: t, some w :: r => v = w ∧ lx_le t r
  | _, _ => False
theorem lx_le_at : ∀ (a b : List (Option Value)), lx_le a b → a.length = b.length ∧ ∀ (i : Nat) (v : Value), a[i]? = some (some v) → b[i]? = some (some v)
  | [], [], _ => ⟨rfl, fun i v h => by simp at h⟩
  | [], _ :: _, h => by cases h
  | none :: _, [], h => by cases h
  | some _ :: _, [], h => by cases h
  | some _ :: _, none :: _, h => by cases h
  | none :: t, x :: r, h => by
    have ih := lx_le_at t r h
    refine ⟨by rw [List.length_cons, List.length_cons, ih.1], fun i v hi => ?_⟩
    cases i with
    | zero => simp at hi
    | succ i => simpa using ih.2 i v (by simpa using hi)
  | some v :: t, some w :: r, h => by
    have ih := lx_le_at t r h.2
    refine ⟨by rw [List.length_cons, List.length_cons, ih.1], fun i u hi => ?_⟩
    cases i with
    | zero => rw [← h.1]; exact hi
    | succ i => simpa using ih.2 i u (by simpa using hi)
theorem lx_sub {ls : Array Slot} {lo lo' : List (Option Value)} (h : lx ls lo) (hs : lx_le lo' lo) : lx ls lo' :=
  ⟨by rw [h.1, (lx_le_at _ _ hs).1], h.2.1, fun i v hi => h.2.2 i v ((lx_le_at _ _ hs).2 i v hi)⟩
def lx_all : Nat → List (Option Value) → List (Nat × Value) → Prop
  | _, [], _ => True
  | k, none :: t, A => lx_all (k + 1) t A
  | k, some v :: t, A => (k, v) ∈ A ∧ lx_all (k + 1) t A
theorem lx_all_at : ∀ (t : List (Option Value)) (k : Nat) (A : List (Nat × Value)), lx_all k t A → ∀ (i : Nat) (v : Value), t[i]? = some (some v) → (k + i, v) ∈ A
  | [], _, _, _, i, v, h => by simp at h
  | none :: t, k, A, h, i, v, hi => by
    cases i with
    | zero => simp at hi
    | succ i => have := lx_all_at t (k + 1) A h i v (by simpa using hi); rwa [show k + (i + 1) = k + 1 + i by omega]
  | some w :: t, k, A, h, i, v, hi => by
    cases i with
    | zero => simp at hi; subst hi; exact h.1
    | succ i => have := lx_all_at t (k + 1) A h.2 i v (by simpa using hi); rwa [show k + (i + 1) = k + 1 + i by omega]
/-! a mirror's steps -/
def b1 {α β : Type} (o : Option α) (f : α → Option β) : Option β := match o with
  | none => none
  | some x => f x
def b2 {α β γ : Type} (o : Option (α × β)) (f : α → β → Option γ) : Option γ := match o with
  | none => none
  | some x => f x.1 x.2
theorem ob1 {α β : Type} {o : Option α} {f : α → Option β} {r : β} {P : Prop} (h : b1 o f = some r) (k : ∀ x, o = some x → f x = some r → P) : P := by
  cases o with
  | none => cases h
  | some x => exact k x rfl h
theorem ob2 {α β γ : Type} {o : Option (α × β)} {f : α → β → Option γ} {r : γ} {P : Prop} (h : b2 o f = some r) (k : ∀ x y, o = some (x, y) → f x y = some r → P) : P := by
  cases o with
  | none => cases h
  | some x => exact k x.1 x.2 rfl h
theorem ift {α : Type} {c : Prop} [Decidable c] {A B r : α} (hc : c) (h : (if c then A else B) = r) : A = r := by rw [if_pos hc] at h; exact h
theorem iff' {α : Type} {c : Prop} [Decidable c] {A B r : α} (hc : ¬ c) (h : (if c then A else B) = r) : B = r := by rw [if_neg hc] at h; exact h
theorem osm {α : Type} {a b : α} (h : some a = some b) : a = b := Option.some.inj h
section QX
variable {p : Program} {l : Launch} {e : Env} {R : Room} {s : State} {m : MethodId} {args : Array Value} {below : List Frame} {meth : Method} {c : Code} {H : Heap} {locs : List Loc} {cells slots : Nat} {Q : State → Prop}
variable {cc : ByteArray} {pc : Nat} {ls : Array Slot} {rest : List Value} {D : va_G} {cl : List vw_C} {tys : List (ClassId × FieldType)} {hp : aH} {sz b0 nL : Nat} {H0 : Heap} {Ts : List Cond} {own : String} {ret : Option FieldType} {Z : State → Prop}
theorem q_istore_n {lo lo' : List (Option Value)} {k : Fin 4} {i : Nat} {x : Int32} (hexec : p.tables.exec = Jvm.exec) (hb : c.code = cc) (hdg : decode cc pc = .ok (.istore_n k, 1)) (hi : (k : Nat) = i) (hl : lx ls lo) (hn : i < lo.length) (hq : ∀ w, lo[i - 1]? = some (some w) → w.category = 1) (hlo : lo.set i (some (.int x)) = lo')
    (kk : ∀ ls' : Array Slot, lx ls' lo' → W p l e R s m args below meth c H locs cells slots Q (F0 m (pc + 1) ls' rest)) : W p l e R s m args below meth c H locs cells slots Q (F0 m pc ls (.int x :: rest)) := by
  subst hi
  obtain ⟨ls', e', h'⟩ := lx_put (v := .int x) hl hn rfl hq
  intro T hT X
  obtain ⟨t, a, b⟩ := kk ls' (hlo ▸ h') T hT X
  refine ⟨t, ?_, b⟩
  jvm_step X.here [X.here.top, ↓top_set X.here.top, hexec, hb, hdg, e']
  exact a
theorem q_istore {lo lo' : List (Option Value)} {i : Nat} {x : Int32} (hexec : p.tables.exec = Jvm.exec) (hb : c.code = cc) (hdg : decode cc pc = .ok (.istore i, 2)) (hl : lx ls lo) (hn : i < lo.length) (hq : ∀ w, lo[i - 1]? = some (some w) → w.category = 1) (hlo : lo.set i (some (.int x)) = lo')
    (kk : ∀ ls' : Array Slot, lx ls' lo' → W p l e R s m args below meth c H locs cells slots Q (F0 m (pc + 2) ls' rest)) : W p l e R s m args below meth c H locs cells slots Q (F0 m pc ls (.int x :: rest)) := by
  obtain ⟨ls', e', h'⟩ := lx_put (v := .int x) hl hn rfl hq
  intro T hT X
  obtain ⟨t, a, b⟩ := kk ls' (hlo ▸ h') T hT X
  refine ⟨t, ?_, b⟩
  jvm_step X.here [X.here.top, ↓top_set X.here.top, hexec, hb, hdg, e']
  exact a
theorem q_iinc {lo lo' : List (Option Value)} {i : Nat} {n : Int} {x v : Int32} (hexec : p.tables.exec = Jvm.exec) (hb : c.code = cc) (hdg : decode cc pc = .ok (.iinc i n, 3)) (hl : lx ls lo) (hk : lo[i]? = some (some (.int x))) (hv : x + Int32.ofInt n = v) (hn : i < lo.length) (hq : ∀ w, lo[i - 1]? = some (some w) → w.category = 1) (hlo : lo.set i (some (.int v)) = lo')
    (kk : ∀ ls' : Array Slot, lx ls' lo' → W p l e R s m args below meth c H locs cells slots Q (F0 m (pc + 3) ls' rest)) : W p l e R s m args below meth c H locs cells slots Q (F0 m pc ls rest) := by
  subst hv
  have hg := lx_get hl hk
  obtain ⟨ls', e', h'⟩ := lx_put (v := .int (x + Int32.ofInt n)) hl hn rfl hq
  intro T hT X
  obtain ⟨t, a, b⟩ := kk ls' (hlo ▸ h') T hT X
  refine ⟨t, ?_, b⟩
  jvm_step X.here [X.here.top, ↓top_set X.here.top, hexec, hb, hdg, hg, e']
  exact a
theorem va_rf_isRef (r : Option Nat) : (va_rf r).isRef = true := by cases r <;> rfl
theorem q_aload_n {k : Fin 4} {i : Nat} {v : Value} (hexec : p.tables.exec = Jvm.exec) (hb : c.code = cc) (hdg : decode cc pc = .ok (.aload_n k, 1)) (hi : (k : Nat) = i) (hv : v.isRef = true) (hl : ls[i]? = some (.val v))
    (kk : W p l e R s m args below meth c H locs cells slots Q (F0 m (pc + 1) ls (v :: rest))) : W p l e R s m args below meth c H locs cells slots Q (F0 m pc ls rest) := by
  subst hi
  intro T hT X
  obtain ⟨t, a, b⟩ := kk T hT X
  refine ⟨t, ?_, b⟩
  jvm_step X.here [X.here.top, hexec, hb, hdg, hl, hv]
  exact a
theorem q_aload {i : Nat} {v : Value} (hexec : p.tables.exec = Jvm.exec) (hb : c.code = cc) (hdg : decode cc pc = .ok (.aload i, 2)) (hv : v.isRef = true) (hl : ls[i]? = some (.val v))
    (kk : W p l e R s m args below meth c H locs cells slots Q (F0 m (pc + 2) ls (v :: rest))) : W p l e R s m args below meth c H locs cells slots Q (F0 m pc ls rest) := by
  intro T hT X
  obtain ⟨t, a, b⟩ := kk T hT X
  refine ⟨t, ?_, b⟩
  jvm_step X.here [X.here.top, hexec, hb, hdg, hl, hv]
  exact a
theorem cat_of_isRef {v : Value} (hv : v.isRef = true) : v.category = 1 := by cases v <;> first | rfl | cases hv
theorem q_astore_n {lo lo' : List (Option Value)} {k : Fin 4} {i : Nat} {v : Value} (hexec : p.tables.exec = Jvm.exec) (hb : c.code = cc) (hdg : decode cc pc = .ok (.astore_n k, 1)) (hi : (k : Nat) = i) (hv : v.isRef = true) (hl : lx ls lo) (hn : i < lo.length) (hq : ∀ w, lo[i - 1]? = some (some w) → w.category = 1) (hlo : lo.set i (some v) = lo')
    (kk : ∀ ls' : Array Slot, lx ls' lo' → W p l e R s m args below meth c H locs cells slots Q (F0 m (pc + 1) ls' rest)) : W p l e R s m args below meth c H locs cells slots Q (F0 m pc ls (v :: rest)) := by
  subst hi
  obtain ⟨ls', e', h'⟩ := lx_put (v := v) hl hn (cat_of_isRef hv) hq
  intro T hT X
  obtain ⟨t, a, b⟩ := kk ls' (hlo ▸ h') T hT X
  refine ⟨t, ?_, b⟩
  jvm_step X.here [X.here.top, ↓top_set X.here.top, hexec, hb, hdg, e', hv]
  exact a
theorem q_astore {lo lo' : List (Option Value)} {i : Nat} {v : Value} (hexec : p.tables.exec = Jvm.exec) (hb : c.code = cc) (hdg : decode cc pc = .ok (.astore i, 2)) (hv : v.isRef = true) (hl : lx ls lo) (hn : i < lo.length) (hq : ∀ w, lo[i - 1]? = some (some w) → w.category = 1) (hlo : lo.set i (some v) = lo')
    (kk : ∀ ls' : Array Slot, lx ls' lo' → W p l e R s m args below meth c H locs cells slots Q (F0 m (pc + 2) ls' rest)) : W p l e R s m args below meth c H locs cells slots Q (F0 m pc ls (v :: rest)) := by
  obtain ⟨ls', e', h'⟩ := lx_put (v := v) hl hn (cat_of_isRef hv) hq
  intro T hT X
  obtain ⟨t, a, b⟩ := kk ls' (hlo ▸ h') T hT X
  refine ⟨t, ?_, b⟩
  jvm_step X.here [X.here.top, ↓top_set X.here.top, hexec, hb, hdg, e', hv]
  exact a
theorem q_call {rv : Option Value} {hp' : aH} {sz' mc ms : Nat} {a : Array Value} {st0 : List Value} (hr : va_Run p l e R s m args below meth c H locs cells slots mc ms (F0 m pc ls st0) rest (CQ D cl b0 rv hp' sz' a) (fun q => b0 ≤ q)) (I : AI D cl b0 hp sz H0 H locs)
    (kk : ∀ (H1 : Heap) (locs1 : List Loc), AI D cl b0 hp' sz' H0 H1 locs1 → W p l e R s m args below meth c H1 locs1 (cells + mc) (slots + ms) Q (F0 m (pc + 3) ls (rv.toList ++ rest))) : W p l e R s m args below meth c H locs cells slots Q (F0 m pc ls st0) := by
  intro T hT X
  obtain ⟨v, st₀, t, T', L, h0, X', hL, e1, e2, ⟨hv, hz, hA, f1, f2⟩, st⟩ := hr T hT X
  cases hv
  rw [h0] at f1 f2
  obtain ⟨iA, iz, ib, iS⟩ := I
  obtain ⟨t2, a1, b1⟩ := kk T'.heap (locs ++ L) ⟨by rw [e1]; exact hA, by rw [e1]; exact hz, ib, ⟨Nat.le_trans iS.1 (by rw [e1]; exact f1), fun q h1 h2 => by rw [e1, f2 q (Nat.lt_of_lt_of_le h1 iS.1) h2]; exact iS.2.1 q h1 h2, fun q hq => by
      rcases List.mem_append.mp hq with h | h
      · exact iS.2.2 q h
      · exact hL q h⟩⟩ T' rfl X'
  exact ⟨t2, st t2 a1, b1⟩
theorem q_pre {av : List Value} (B : BX p m c cc nL s args Ts own meth ret D cl tys b0 Z) (I : AI D cl b0 hp sz s.heap H locs) : PreS s H (va_Pc av (CP D cl tys b0 Z hp sz)) av :=
  ⟨fun a U g mk q => by
    obtain ⟨q0, q1, q2, q3, q4, q5⟩ := q
    exact ⟨q0, q1, q2, q3, va_K.moved (u := U) (U := U.calling g mk a) (Vm.Alike.refl U.vm) q4, B.2.2.2.2.2 U (U.calling g mk a) q5 (State.WarmedH.refl U) (fun _ _ => rfl)⟩,
   fun U hU hW => ⟨rfl, by rw [hU]; exact I.2.1, I.b, by rw [hU]; exact I.1, va_K.moved hW.alike B.2.2.2.1, B.2.2.2.2.2 s U B.2.2.2.2.1 hW (fun q hq => by
      rw [hU]
      exact I.2.2.2.2.1 q (Nat.lt_of_lt_of_le hq I.2.2.1) (Nat.not_le.mpr hq))⟩⟩
theorem q_recv {ci a : Nat} {q : vw_C} {fs : List Value} (hK : va_K D cl tys s) (I : AI D cl b0 hp sz H0 H locs) (hc : cl[ci]? = some q) (he : hp a = some (.inr (ci, fs))) : ∃ cell : Cell, H[a]? = some cell ∧ cell.vm.isStatics = false ∧ s.vm.findClass q.1 = some cell.cls := by
  obtain ⟨q', h1, cell, g1, g2, g3, -⟩ := I.1 a _ he
  exact ⟨cell, g1, by rw [g3]; rfl, by rw [g2]; exact (hK.1 ci q hc).2.1⟩
theorem q_iret {v : Int32} (B : BX p m c cc nL s args Ts own meth ret D cl tys b0 Z) (I : AI D cl b0 hp sz s.heap H locs) (hret : ret = some .int) (hd : decode cc pc = .ok (.ireturn, 1)) :
    W p l e R s m args below meth c H locs cells slots (MQ below (CQ D cl b0 (some (.int v)) hp sz) args s cells slots (fun q => b0 ≤ q)) (F0 m pc ls [.int v]) :=
  W.iret B.1.1 B.1.2.1 (B.2.1.trans hret) (fun t ht _ => ⟨rfl, by rw [ht]; exact I.2.1, by rw [ht]; exact I.1, I.2.2.2.F ht⟩) I.2.2.2.2.2 hd B.2.2.1
theorem q_zret {v : Int32} {ty : FieldType} (B : BX p m c cc nL s args Ts own meth ret D cl tys b0 Z) (I : AI D cl b0 hp sz s.heap H locs) (hret : ret = some ty) (hn : narrow ty (.int v) = .int v) (hd : decode cc pc = .ok (.ireturn, 1)) :
    W p l e R s m args below meth c H locs cells slots (MQ below (CQ D cl b0 (some (.int v)) hp sz) args s cells slots (fun q => b0 ≤ q)) (F0 m pc ls [.int v]) :=
  W.zret B.1.1 B.1.2.1 (B.2.1.trans hret) hn (fun t ht _ => ⟨rfl, by rw [ht]; exact I.2.1, by rw [ht]; exact I.1, I.2.2.2.F ht⟩) I.2.2.2.2.2 hd B.2.2.1
theorem q_vret (B : BX p m c cc nL s args Ts own meth ret D cl tys b0 Z) (I : AI D cl b0 hp sz s.heap H locs) (hret : ret = none) (hd : decode cc pc = .ok (.return_, 1)) :
    W p l e R s m args below meth c H locs cells slots (MQ below (CQ D cl b0 none hp sz) args s cells slots (fun q => b0 ≤ q)) (F0 m pc ls []) :=
  W.vret B.1.1 B.1.2.1 (B.2.1.trans hret) (fun t ht _ => ⟨rfl, by rw [ht]; exact I.2.1, by rw [ht]; exact I.1, I.2.2.2.F ht⟩) I.2.2.2.2.2 hd B.2.2.1
theorem q_aret {r : Option Nat} {rt : FieldType} (B : BX p m c cc nL s args Ts own meth ret D cl tys b0 Z) (I : AI D cl b0 hp sz s.heap H locs) (hret : ret = some rt) (hrt : (∃ n, rt = .object n) ∨ ∃ t, rt = .array t) (hd : decode cc pc = .ok (.areturn, 1)) :
    W p l e R s m args below meth c H locs cells slots (MQ below (CQ D cl b0 (some (va_rf r)) hp sz) args s cells slots (fun q => b0 ≤ q)) (F0 m pc ls [va_rf r]) :=
  W.aret B.1.1 B.1.2.1 (B.2.1.trans hret) hrt (va_rf_or r) (fun t ht _ => ⟨rfl, by rw [ht]; exact I.2.1, by rw [ht]; exact I.1, I.2.2.2.F ht⟩) I.2.2.2.2.2 hd B.2.2.1
theorem q_get {ref C : String} {T : u_T} {N ci index a : Nat} (B : BX p m c cc nL s args Ts own meth ret D cl tys b0 Z) (I : AI D cl b0 hp sz H0 H locs) (hin : ∀ w ∈ u_ws C T N, w ∈ Ts) {fs : List Value} (he : hp a = some (.inr (ci, fs))) (hc : cl[ci]? = some (C, T, N)) (k : Nat) (hk : k < N)
    (hlink : (Cond.fieldLink own index ref (T k).2.1 (T k).2.2.1) ∈ Ts) (hsame : (T k).1 = ref) {v : Value} (hv : fs[k]? = some v) (hdg : decode cc pc = .ok (.getfield index, 3))
    (kk : W p l e R s m args below meth c H locs cells slots Q (F0 m (pc + 3) ls (v :: rest))) : W p l e R s m args below meth c H locs cells slots Q (F0 m pc ls (.ref a :: rest)) :=
  va_get (D := D) (ws := [(a, .inr (ci, fs))]) B.1.1 B.1.2.1 B.1.2.2.2.2 hin B.1.2.2.2.1 B.2.2.2.1 (fun k q hq => by
    have hz : k < 1 := (List.getElem?_eq_some_iff.mp hq).1
    rw [show k = 0 by omega] at hq
    cases hq
    exact I.1 a _ he) 0 rfl hc k hk (B.1.2.2.2.2 _ hlink) (fun x h => by rw [← hsame]; exact h) hv hdg kk
theorem q_put {ref C : String} {T : u_T} {N ci index a : Nat} (B : BX p m c cc nL s args Ts own meth ret D cl tys b0 Z) (I : AI D cl b0 hp sz H0 H locs) (hin : ∀ w ∈ u_ws C T N, w ∈ Ts) (ty0 : Nat → FieldType) (hty : ∀ k, k < N → parseFieldDescriptor (T k).2.2.1 = some (ty0 k)) (hnm : ∀ a, a < N → ∀ b, b < N → a ≠ b → (T a).2.1 ≠ (T b).2.1)
    {fs : List Value} (he : hp a = some (.inr (ci, fs))) (hba : b0 ≤ a) (hc : cl[ci]? = some (C, T, N)) (k : Nat) (hk : k < N)
    (hlink : (Cond.fieldLink own index ref (T k).2.1 (T k).2.2.1) ∈ Ts) (hsame : (T k).1 = ref) (hfin : (T k).2.2.2 = false) {ty : FieldType} {v : Value} (hd : ty0 k = ty) (hn : narrow ty v = v) (hfit : fits ty v = true) (hl : k < fs.length) (hdg : decode cc pc = .ok (.putfield index, 3))
    (kk : ∀ (H1 : Heap) (locs1 : List Loc), AI D cl b0 (va_up hp a (some (.inr (ci, fs.set k v)))) sz H0 H1 locs1 → W p l e R s m args below meth c H1 locs1 cells slots Q (F0 m (pc + 3) ls rest)) : W p l e R s m args below meth c H locs cells slots Q (F0 m pc ls (v :: .ref a :: rest)) := by
  obtain ⟨⟨hx, hb, -, hown, hts⟩, -, -, hK, -⟩ := B
  have hap := va_apart (own := own) hts hin ty0 hty hnm hK hc
  obtain ⟨r, h1, cell, q1, q2, q3, q4⟩ := I.1 a _ he
  have hr : r = (C, T, N) := Option.some.inj (h1.symm.trans hc)
  subst hr
  obtain ⟨hS, hfc, kC, hkC, hkind⟩ := hK.1 ci _ hc
  obtain ⟨cf, kf, fi, f, hi, hsl⟩ := hS k hk
  have hlay := hts _ (hin _ (u_in_lay hk))
  unfold u_lay at hlay
  rw [if_neg (by rw [hfin]; decide)] at hlay
  have hst := (u_facts hfc hkC (u_lays hts hin hk) hi).1
  have h6 := u_store hfc hkC hkind hlay hi (hty k hk) (by rw [hd]; exact hn) (by rw [hd]; exact hfit)
  refine W.putK hx hb (f := f) ⟨hown, hts _ hlink, ⟨_, _, _, by rw [← hsame]; exact hi⟩, hst⟩ (by rw [q2]; exact h6) q1 q3 (by rw [hsl]; exact k2_hasslot (q4 k hk)) rfl rfl hdg fun H' e1 e2 e3 => ?_
  rw [hsl] at e1 ⊢
  exact kk H' _ ⟨I.1.up ⟨_, hc, t_OB.to (V := updV (vp_V fs) k v) ⟨_, e1, q2, q3, t_set q4 hap hk v⟩ (fun j _ => vp_updV_set hl v j)⟩ e3, by rw [e2]; exact I.2.1, I.2.2.1, I.2.2.2.put e2 e3 hba⟩
theorem q_iald {a t0 : Nat} {cA : ClassId} {n : Nat} {f : Nat → Int32} {i : Int32} (B : BX p m c cc nL s args Ts own meth ret D cl tys b0 Z) (I : AI D cl b0 hp sz H0 H locs) (he : hp a = some (.inl (cA, n, .inl f))) (ht : tys[t0]? = some (cA, .int)) (hin : vp_in i n) (hdg : decode cc pc = .ok (.iaload, 1))
    (kk : W p l e R s m args below meth c H locs cells slots Q (F0 m (pc + 1) ls (.int (f i.toNatClampNeg) :: rest))) : W p l e R s m args below meth c H locs cells slots Q (F0 m pc ls (.int i :: .ref a :: rest)) :=
  va_iald (D := D) (ws := [(a, .inl (cA, n, .inl f))]) B.1.1 B.1.2.1 B.2.2.2.1 (fun k q hq => by
    have hz : k < 1 := (List.getElem?_eq_some_iff.mp hq).1
    rw [show k = 0 by omega] at hq
    cases hq
    exact I.1 a _ he) 0 t0 rfl ht hin hdg kk
theorem q_iast {a t0 : Nat} {cA : ClassId} {n : Nat} {f : Nat → Int32} {i x : Int32} (B : BX p m c cc nL s args Ts own meth ret D cl tys b0 Z) (I : AI D cl b0 hp sz H0 H locs) (he : hp a = some (.inl (cA, n, .inl f))) (hba : b0 ≤ a) (ht : tys[t0]? = some (cA, .int)) (hin : vp_in i n) (hdg : decode cc pc = .ok (.iastore, 1))
    (kk : ∀ (H1 : Heap) (locs1 : List Loc), AI D cl b0 (va_up hp a (some (.inl (cA, n, .inl (upd f i.toNatClampNeg x))))) sz H0 H1 locs1 → W p l e R s m args below meth c H1 locs1 cells slots Q (F0 m (pc + 1) ls rest)) : W p l e R s m args below meth c H locs cells slots Q (F0 m pc ls (.int x :: .int i :: .ref a :: rest)) := by
  obtain ⟨⟨hx, hb, -, -, -⟩, -, -, hK, -⟩ := B
  refine W.iast hx hb (I.1 a _ he) ((hK.2 t0 _ ht).1 n (fun j => .int (f j))) (fun q => by cases q) (by show ¬ (i < 0 ∨ (arrV _ _ _).slots.size ≤ _); rw [arrV_size]; exact hin) rfl rfl hdg fun H1 e z oq => ?_
  refine kk H1 _ ⟨I.1.up ?_ oq, by rw [z]; exact I.2.1, I.2.2.1, I.2.2.2.put z oq hba⟩
  show H1[a]? = some (vp_cell _ _)
  rw [e, vp_cell_i, vp_cell_i, arrV_store]
  congr 2
  funext q
  by_cases hq : q = i.toNatClampNeg
  · subst hq; simp [updV, upd]
  · simp [updV, upd, hq]
end QX
/-- a contract out of a walk -/
theorem ct_of {l : Launch} {D : va_G} {cl : List vw_C} {tys : List (ClassId × FieldType)} {b0 : Nat} {Z : State → Prop} {y : MethodName} {ws ws' : List Cond} {fr lo : Nat} {av : List Value} {hp : aH} {sz : Nat} {rv : Option Value} {hp' : aH} {mc ms : Nat} {cc : ByteArray} {maxL : Nat} {ret : Option FieldType} {lo0 : List (Option Value)}
    (hZ : ZC b0 Z) (hy : plainName y.cls = true) (hw : ws = Cond.code y cc maxL ret :: ws') (hlen : (lg_sl av).length ≤ maxL) (hlo : lo0.length = maxL) (hla : lx_all 0 lo0 (lv_args 0 av))
    (body : ∀ (p : Program) (e : Env) (s : State) (m : MethodId) (args : Array Value) (below : List Frame) (meth : Method) (c : Code) (ls : Array Slot), BX p m c cc maxL s args ws y.cls meth ret D cl tys b0 Z → meth.name = y.name → lx ls lo0 → AI D cl b0 hp sz s.heap s.heap [] →
      W p l e { frames := fr, cells := mc, slots := ms, locals := lo } s m args below meth c s.heap [] 0 0 (MQ below (CQ D cl b0 rv hp' (sz + mc)) args s mc ms (fun q => b0 ≤ q)) (F0 m 0 ls [])) :
    Ct l D cl tys b0 Z y ws fr lo av hp sz rv hp' mc ms := by
  refine Met.ofW (cc := cc) (maxL := maxL) (ret := ret) hy hw ?_
  intro p e s m args below meth c s₁ B hml hv
  obtain ⟨rfl, hsz, hb0, hA, hK, hZs⟩ := hv
  have hts := atoms_spec (ws := ws) B.pre
  have hown : s.vm.findClass y.cls = some m.cls := findClass_of_methodNamed B.named
  have hl := lv_entry av (n := maxL) hlen
  rw [lg_entry_eq]
  generalize (lg_sl av ++ List.replicate (maxL - (lg_sl av).length) Slot.unset).toArray = ls at hl ⊢
  exact body p e s m _ below meth c ls ⟨⟨B.exec, B.bytes, hml, hown, hts⟩, B.returns, B.notSynchronized, hK, hZs, hZ⟩ (name_of_methodNamed B.named B.method).1 ⟨by rw [hl.1, hlo], hl.2.1, fun i v h => hl.2.2 (i, v) (by have := lx_all_at _ _ _ hla i v h; rwa [Nat.zero_add] at this)⟩ ⟨hA, hsz, by rw [hsz]; exact hb0, va_S.rf⟩
end
section
/-! The reference's world: its object at h, its arrays of ints at h + 1 .. h + 19. -/
abbrev rS : Type := (Nat → Int32) × (Nat → Nat → Int32)
def rF (h : Nat) (f : Nat → Int32) : List Value := [.int (f 0), .int (f 1), .ref (h + 1), .int (f 3), .int (f 4), .int (f 5), .ref (h + 2), .ref (h + 3), .ref (h + 4), .ref (h + 5), .ref (h + 6), .ref (h + 7), .ref (h + 8), .ref (h + 9), .ref (h + 10), .ref (h + 11), .ref (h + 12), .ref (h + 13), .int (f 18), .int (f 19), .int (f 20), .ref (h + 14), .ref (h + 15), .ref (h + 16), .int (f 24), .int (f 25), .int (f 26), .ref (h + 17), .ref (h + 18), .int (f 29), .ref (h + 19)]
def rN (j : Nat) : Nat := match j with
  | 1 => 240 | 2 => 2 | 12 => 2 | 13 => 600 | 14 => 130 | 15 => 130 | 16 => 130 | 17 => 6 | 18 => 6 | 19 => 600 | _ => 520
def rH (dA : Nat → ClassId) (h : Nat) (S : rS) (hp0 : aH) : aH := fun a =>
  if a = h then some (.inr (cREF, rF h S.1)) else if h < a ∧ a ≤ h + 19 then some (.inl (dA 0, rN (a - h), .inl (S.2 (a - h)))) else hp0 a
def rP (S : rS) (k : Nat) (v : Int32) : Option rS := some (va_up S.1 k v, S.2)
def rL (S : rS) (j : Nat) (i : Int32) : Option Int32 := if 0 ≤ i.toInt ∧ i.toInt < rN j then some (S.2 j i.toNatClampNeg) else none
def rT (S : rS) (j : Nat) (i x : Int32) : Option rS := if 0 ≤ i.toInt ∧ i.toInt < rN j then some (S.1, va_up S.2 j (upd (S.2 j) i.toNatClampNeg x)) else none
theorem rH_h {dA : Nat → ClassId} {h : Nat} {S : rS} {hp0 : aH} : rH dA h S hp0 h = some (.inr (cREF, rF h S.1)) := by simp [rH]
theorem rH_a {dA : Nat → ClassId} {h : Nat} {S : rS} {hp0 : aH} {j : Nat} (h1 : 1 ≤ j) (h2 : j ≤ 19) : rH dA h S hp0 (h + j) = some (.inl (dA 0, rN j, .inl (S.2 j))) := by
  have e1 : ¬ h + j = h := by omega
  have e2 : h < h + j ∧ h + j ≤ h + 19 := by omega
  have e3 : h + j - h = j := by omega
  simp only [rH, if_neg e1, if_pos e2, e3]
theorem rH_put {dA : Nat → ClassId} {h : Nat} {S : rS} {hp0 : aH} {f : Nat → Int32} : va_up (rH dA h S hp0) h (some (.inr (cREF, rF h f))) = rH dA h (f, S.2) hp0 := by
  funext a
  by_cases e : a = h
  · subst e; rw [va_up_self]; simp [rH]
  · rw [va_up_ne _ _ e]; simp [rH, e]
theorem rH_ast {dA : Nat → ClassId} {h : Nat} {S : rS} {hp0 : aH} {j : Nat} {g : Nat → Int32} (h1 : 1 ≤ j) (h2 : j ≤ 19) : va_up (rH dA h S hp0) (h + j) (some (.inl (dA 0, rN j, .inl g))) = rH dA h (S.1, va_up S.2 j g) hp0 := by
  funext a
  by_cases e : a = h + j
  · subst e; rw [va_up_self, rH_a h1 h2]; simp [va_up]
  · rw [va_up_ne _ _ e]
    by_cases e0 : a = h
    · simp [rH, e0]
    · by_cases e1 : h < a ∧ a ≤ h + 19
      · have e2 : ¬ a - h = j := by omega
        simp only [rH, if_neg e0, if_pos e1, va_up_ne _ _ e2]
      · simp only [rH, if_neg e0, if_neg e1]
theorem zn {v : Int32} (hq : v = 0 ∨ v = 1) : narrow .boolean (.int v) = .int v := by rcases hq with rfl | rfl <;> rfl
def RR (b0 h : Nat) (Z : State → Prop) : Prop := b0 ≤ h ∧ ZC b0 Z
section RX
variable {p : Program} {l : Launch} {e : Env} {R : Room} {s : State} {m : MethodId} {args : Array Value} {below : List Frame} {meth : Method} {c : Code} {H : Heap} {locs : List Loc} {cells slots : Nat} {Q : State → Prop}
variable {cc : ByteArray} {pc : Nat} {ls : Array Slot} {rest : List Value} {D : va_G} {dA : Nat → ClassId} {hp0 : aH} {sz b0 nL h : Nat} {H0 : Heap} {cd : Cond} {ret : Option FieldType} {S S1 : rS} {Z : State → Prop}
theorem r_get {k index : Nat} {v : Value} (B : BX p m c cc nL s args (cd :: wsA) RREF meth ret D vwCl (tyL dA) b0 Z) (I : AI D vwCl b0 (rH dA h S hp0) sz H0 H locs) (hk : k < 31) (hlink : Cond.fieldLink RREF index RREF (TREF k).2.1 (TREF k).2.2.1 ∈ wsA) (hsame : (TREF k).1 = RREF) (hv : (rF h S.1)[k]? = some v) (hdg : decode cc pc = .ok (.getfield index, 3))
    (kk : W p l e R s m args below meth c H locs cells slots Q (F0 m (pc + 3) ls (v :: rest))) : W p l e R s m args below meth c H locs cells slots Q (F0 m pc ls (.ref h :: rest)) :=
  q_get B I (fun w hw => List.mem_cons_of_mem _ (wsA_ref w hw)) rH_h hcREF k hk (List.mem_cons_of_mem _ hlink) hsame hv hdg kk
theorem r_put {k index : Nat} {v : Int32} (B : BX p m c cc nL s args (cd :: wsA) RREF meth ret D vwCl (tyL dA) b0 Z) (hR : RR b0 h Z) (I : AI D vwCl b0 (rH dA h S hp0) sz H0 H locs) (hk : k < 31) (hlink : Cond.fieldLink RREF index RREF (TREF k).2.1 (TREF k).2.2.1 ∈ wsA) (hsame : (TREF k).1 = RREF) (hfin : (TREF k).2.2.2 = false) (hty : tyREF k = .int) (hset : ∀ (h : Nat) (f : Nat → Int32), (rF h f).set k (.int v) = rF h (va_up f k v)) (e1 : rP S k v = some S1) (hdg : decode cc pc = .ok (.putfield index, 3))
    (kk : ∀ (H1 : Heap) (locs1 : List Loc), AI D vwCl b0 (rH dA h S1 hp0) sz H0 H1 locs1 → W p l e R s m args below meth c H1 locs1 cells slots Q (F0 m (pc + 3) ls rest)) : W p l e R s m args below meth c H locs cells slots Q (F0 m pc ls (.int v :: .ref h :: rest)) := by
  cases e1
  refine q_put B I (fun w hw => List.mem_cons_of_mem _ (wsA_ref w hw)) tyREF tyREF_ok nREF rH_h hR.1 hcREF k hk (List.mem_cons_of_mem _ hlink) hsame hfin hty rfl rfl hk hdg fun H1 locs1 J => ?_
  rw [hset, rH_put] at J
  exact kk H1 locs1 J
theorem rin {i : Int32} {n : Nat} (h : 0 ≤ i.toInt ∧ i.toInt < n) : vp_in i n := vp_in_iff.mpr h
theorem r_ald {j : Nat} {i x : Int32} (B : BX p m c cc nL s args (cd :: wsA) RREF meth ret D vwCl (tyL dA) b0 Z) (I : AI D vwCl b0 (rH dA h S hp0) sz H0 H locs) (h1 : 1 ≤ j) (h2 : j ≤ 19) (e1 : rL S j i = some x) (hdg : decode cc pc = .ok (.iaload, 1))
    (kk : W p l e R s m args below meth c H locs cells slots Q (F0 m (pc + 1) ls (.int x :: rest))) : W p l e R s m args below meth c H locs cells slots Q (F0 m pc ls (.int i :: .ref (h + j) :: rest)) := by
  unfold rL at e1
  by_cases hi : 0 ≤ i.toInt ∧ i.toInt < rN j
  · rw [if_pos hi] at e1
    cases e1
    exact q_iald (t0 := 0) B I (rH_a h1 h2) rfl (rin hi) hdg kk
  · rw [if_neg hi] at e1
    cases e1
theorem r_ast {j : Nat} {i x : Int32} (B : BX p m c cc nL s args (cd :: wsA) RREF meth ret D vwCl (tyL dA) b0 Z) (hR : RR b0 h Z) (I : AI D vwCl b0 (rH dA h S hp0) sz H0 H locs) (h1 : 1 ≤ j) (h2 : j ≤ 19) (e1 : rT S j i x = some S1) (hdg : decode cc pc = .ok (.iastore, 1))
    (kk : ∀ (H1 : Heap) (locs1 : List Loc), AI D vwCl b0 (rH dA h S1 hp0) sz H0 H1 locs1 → W p l e R s m args below meth c H1 locs1 cells slots Q (F0 m (pc + 1) ls rest)) : W p l e R s m args below meth c H locs cells slots Q (F0 m pc ls (.int x :: .int i :: .ref (h + j) :: rest)) := by
  unfold rT at e1
  by_cases hi : 0 ≤ i.toInt ∧ i.toInt < rN j
  · rw [if_pos hi] at e1
    cases e1
    refine q_iast (t0 := 0) B I (rH_a h1 h2) (Nat.le_trans hR.1 (Nat.le_add_right _ _)) rfl (rin hi) hdg fun H1 locs1 J => ?_
    rw [rH_ast h1 h2] at J
    exact kk H1 locs1 J
  · rw [if_neg hi] at e1
    cases e1
theorem r_call {rv : Option Value} {index n maxL fr lo FR LO : Nat} {y : MethodName} {bytes : ByteArray} {retc : Option FieldType} {As st0 : List Value} {lo0 : List (Option Value)}
    (B : BX p m c cc nL s args (cd :: wsA) RREF meth ret D vwCl (tyL dA) b0 Z) (hl : lx ls lo0) (hlo : lo0.length = nL) (I : AI D vwCl b0 (rH dA h S hp0) sz s.heap H locs)
    (hM : Ct l D vwCl (tyL dA) b0 Z y (.code y bytes maxL retc :: wsA) fr lo (.ref h :: As) (rH dA h S hp0) sz rv (rH dA h S1 hp0) 0 0)
    (kw : GoodIn wsA (wsV RREF index RREF y (.code y bytes maxL retc :: wsA)) ∧ y.cls = RREF ∧ y.cls ≠ "java/lang/invoke/MethodHandle" ∧ y.cls ≠ "java/lang/invoke/VarHandle" ∧ (parseMethodDescriptor y.desc).map (fun d => d.parameters.length) = some n) (hn : As.length = n)
    (hfr : fr + 1 ≤ FR) (hlc : 8 + (maxL + 11) + lo ≤ LO) (hst : st0 = As.reverse ++ .ref h :: rest) (hW : (rest.map fun v => v.category).sum ≤ 8) (hdg : decode cc pc = .ok (.invokevirtual index, 3))
    (kk : ∀ (H1 : Heap) (locs1 : List Loc), AI D vwCl b0 (rH dA h S1 hp0) sz s.heap H1 locs1 → W p l e { frames := FR, cells := 0, slots := 0, locals := LO } s m args below meth c H1 locs1 0 0 Q (F0 m (pc + 3) ls (rv.toList ++ rest))) :
    W p l e { frames := FR, cells := 0, slots := 0, locals := LO } s m args below meth c H locs 0 0 Q (F0 m pc ls st0) := by
  have hts : ∀ w ∈ wsA, w.before args s = true := fun w hw => B.1.2.2.2.2 w (List.mem_cons_of_mem _ hw)
  refine q_call (va_runV (As := As) (rest := rest) (b := h) (C := RREF) ⟨B.1.1, B.1.2.1, B.1.2.2.1, B.1.2.2.2.1, hts⟩ hM (cwV n hts kw.1 rfl rfl rfl kw.2 ⟨hfr, hlc⟩) ⟨(q_pre (av := .ref h :: As) B I).1, q_recv B.2.2.2.1 I hcREF rH_h, (q_pre (av := .ref h :: As) B I).2⟩ rfl hn (by rw [← hlo]; exact hl.1) hst (lv_room hW) hdg ⟨Nat.le_refl _, Nat.le_refl _⟩) I kk
end RX
end
section
/-! The reference: names, words. -/
abbrev cb_thrown : ByteArray := prog_7_method_2_code
def y_thrown : MethodName := ⟨RZ0, "thrown", "()I"⟩
abbrev cb_type : ByteArray := prog_7_method_3_code
def y_type : MethodName := ⟨RZ0, "type", "(JI)I"⟩
abbrev cb_here : ByteArray := prog_7_method_4_code
def y_here : MethodName := ⟨RZ0, "here", "()I"⟩
abbrev cb_fail : ByteArray := prog_7_method_5_code
def y_fail : MethodName := ⟨RZ0, "fail", "(I)Z"⟩
abbrev cb_blanks : ByteArray := prog_7_method_6_code
def y_blanks : MethodName := ⟨RZ0, "blanks", "()V"⟩
abbrev cb_comment : ByteArray := prog_7_method_7_code
def y_comment : MethodName := ⟨RZ0, "comment", "()V"⟩
abbrev cb_room : ByteArray := prog_7_method_8_code
def y_room : MethodName := ⟨RZ0, "room", "()V"⟩
abbrev cb_isDigit : ByteArray := prog_7_method_9_code
def y_isDigit : MethodName := ⟨RZ0, "isDigit", "(I)Z"⟩
abbrev cb_isBare : ByteArray := prog_7_method_10_code
def y_isBare : MethodName := ⟨RZ0, "isBare", "(I)Z"⟩
abbrev cb_begin : ByteArray := prog_7_method_11_code
def y_begin : MethodName := ⟨RZ0, "begin", "()V"⟩
abbrev cb_add : ByteArray := prog_7_method_12_code
def y_add : MethodName := ⟨RZ0, "add", "(II)Z"⟩
abbrev cb_behindBar : ByteArray := prog_7_method_13_code
def y_behindBar : MethodName := ⟨RZ0, "behindBar", "(I)I"⟩
abbrev cb_string : ByteArray := prog_7_method_14_code
def y_string : MethodName := ⟨RZ0, "string", "()Z"⟩
abbrev cb_bare : ByteArray := prog_7_method_15_code
def y_bare : MethodName := ⟨RZ0, "bare", "()Z"⟩
abbrev cb_path : ByteArray := prog_7_method_16_code
def y_path : MethodName := ⟨RZ0, "path", "()Z"⟩
abbrev cb_isTable : ByteArray := prog_7_method_17_code
def y_isTable : MethodName := ⟨RZ0, "isTable", "(I)Z"⟩
abbrev cb_make : ByteArray := prog_7_method_18_code
def y_make : MethodName := ⟨RZ0, "make", "(II)I"⟩
abbrev cb_named : ByteArray := prog_7_method_19_code
def y_named : MethodName := ⟨RZ0, "named", "(II)I"⟩
abbrev cb_entryOf : ByteArray := prog_7_method_20_code
def y_entryOf : MethodName := ⟨RZ0, "entryOf", "(II)I"⟩
abbrev cb_leadEntry : ByteArray := prog_7_method_21_code
def y_leadEntry : MethodName := ⟨RZ0, "leadEntry", "(I)I"⟩
abbrev cb_leadHeader : ByteArray := prog_7_method_22_code
def y_leadHeader : MethodName := ⟨RZ0, "leadHeader", "()I"⟩
abbrev cb_opened : ByteArray := prog_7_method_23_code
def y_opened : MethodName := ⟨RZ0, "opened", "(Z)I"⟩
abbrev cb_digitOf : ByteArray := prog_7_method_24_code
def y_digitOf : MethodName := ⟨RZ0, "digitOf", "(I)I"⟩
abbrev cb_digits : ByteArray := prog_7_method_25_code
def y_digits : MethodName := ⟨RZ0, "digits", "(II)I"⟩
abbrev cb_number : ByteArray := prog_7_method_26_code
def y_number : MethodName := ⟨RZ0, "number", "(I)Z"⟩
abbrev cb_isDate : ByteArray := prog_7_method_27_code
def y_isDate : MethodName := ⟨RZ0, "isDate", "()Z"⟩
abbrev cb_two : ByteArray := prog_7_method_28_code
def y_two : MethodName := ⟨RZ0, "two", "()I"⟩
abbrev cb_daysOf : ByteArray := prog_7_method_29_code
def y_daysOf : MethodName := ⟨RZ0, "daysOf", "(II)I"⟩
abbrev cb_date : ByteArray := prog_7_method_30_code
def y_date : MethodName := ⟨RZ0, "date", "(I)Z"⟩
abbrev cb_letterOf : ByteArray := prog_7_method_31_code
def y_letterOf : MethodName := ⟨RZ0, "letterOf", "(ZI)I"⟩
abbrev cb_truth : ByteArray := prog_7_method_32_code
def y_truth : MethodName := ⟨RZ0, "truth", "(I)Z"⟩
abbrev cb_beginValue : ByteArray := prog_7_method_33_code
def y_beginValue : MethodName := ⟨RZ0, "beginValue", "(II)Z"⟩
abbrev cb_stepList : ByteArray := prog_7_method_34_code
def y_stepList : MethodName := ⟨RZ0, "stepList", "(I)Z"⟩
abbrev cb_entry : ByteArray := prog_7_method_35_code
def y_entry : MethodName := ⟨RZ0, "entry", "(I)Z"⟩
abbrev cb_stepTable : ByteArray := prog_7_method_36_code
def y_stepTable : MethodName := ⟨RZ0, "stepTable", "(I)Z"⟩
abbrev cb_finishValue : ByteArray := prog_7_method_37_code
def y_finishValue : MethodName := ⟨RZ0, "finishValue", "()Z"⟩
abbrev cb_header : ByteArray := prog_7_method_38_code
def y_header : MethodName := ⟨RZ0, "header", "()I"⟩
abbrev cb_line : ByteArray := prog_7_method_39_code
def y_line : MethodName := ⟨RZ0, "line", "(I)I"⟩
abbrev cb_read : ByteArray := prog_7_method_40_code
def y_read : MethodName := ⟨RZ0, "read", "()I"⟩
abbrev cb_put : ByteArray := prog_7_method_41_code
def y_put : MethodName := ⟨RZ0, "put", "(I)V"⟩
abbrev cb_putNumber : ByteArray := prog_7_method_42_code
def y_putNumber : MethodName := ⟨RZ0, "putNumber", "(II)V"⟩
abbrev cb_putQuoted : ByteArray := prog_7_method_43_code
def y_putQuoted : MethodName := ⟨RZ0, "putQuoted", "(II)V"⟩
abbrev cb_putKey : ByteArray := prog_7_method_44_code
def y_putKey : MethodName := ⟨RZ0, "putKey", "(I)V"⟩
abbrev cb_putHead : ByteArray := prog_7_method_45_code
def y_putHead : MethodName := ⟨RZ0, "putHead", "(I)V"⟩
abbrev cb_holds : ByteArray := prog_7_method_46_code
def y_holds : MethodName := ⟨RZ0, "holds", "(I)Z"⟩
abbrev cb_putValue : ByteArray := prog_7_method_47_code
def y_putValue : MethodName := ⟨RZ0, "putValue", "(I)V"⟩
abbrev cb_putEntry : ByteArray := prog_7_method_48_code
def y_putEntry : MethodName := ⟨RZ0, "putEntry", "(I)V"⟩
abbrev cb_write : ByteArray := prog_7_method_49_code
def y_write : MethodName := ⟨RZ0, "write", "()I"⟩
abbrev cb_written : ByteArray := prog_7_method_50_code
def y_written : MethodName := ⟨RZ0, "written", "(I)I"⟩
abbrev cb_top : ByteArray := prog_7_method_51_code
def y_top : MethodName := ⟨RZ0, "top", "()I"⟩
abbrev cb_down : ByteArray := prog_7_method_52_code
def y_down : MethodName := ⟨RZ0, "down", "(I)I"⟩
abbrev cb_up : ByteArray := prog_7_method_53_code
def y_up : MethodName := ⟨RZ0, "up", "()I"⟩
abbrev cb_kind : ByteArray := prog_7_method_54_code
def y_kind : MethodName := ⟨RZ0, "kind", "()I"⟩
abbrev cb_value : ByteArray := prog_7_method_55_code
def y_value : MethodName := ⟨RZ0, "value", "()I"⟩
abbrev cb_letter : ByteArray := prog_7_method_56_code
def y_letter : MethodName := ⟨RZ0, "letter", "(I)I"⟩
abbrev cb_key : ByteArray := prog_7_method_57_code
def y_key : MethodName := ⟨RZ0, "key", "(I)I"⟩
theorem mF_7 : Cond.fieldLink RREF 7 RREF (TREF 2).2.1 (TREF 2).2.2.1 ∈ wsA := List.mem_filter.mpr ⟨List.mem_of_getElem? (i := 1123) (by decide +kernel), by decide +kernel⟩
theorem mF_13 : Cond.fieldLink RREF 13 RREF (TREF 6).2.1 (TREF 6).2.2.1 ∈ wsA := List.mem_filter.mpr ⟨List.mem_of_getElem? (i := 1127) (by decide +kernel), by decide +kernel⟩
theorem mF_16 : Cond.fieldLink RREF 16 RREF (TREF 7).2.1 (TREF 7).2.2.1 ∈ wsA := List.mem_filter.mpr ⟨List.mem_of_getElem? (i := 1128) (by decide +kernel), by decide +kernel⟩
theorem mF_19 : Cond.fieldLink RREF 19 RREF (TREF 8).2.1 (TREF 8).2.2.1 ∈ wsA := List.mem_filter.mpr ⟨List.mem_of_getElem? (i := 1129) (by decide +kernel), by decide +kernel⟩
theorem mF_22 : Cond.fieldLink RREF 22 RREF (TREF 9).2.1 (TREF 9).2.2.1 ∈ wsA := List.mem_filter.mpr ⟨List.mem_of_getElem? (i := 1130) (by decide +kernel), by decide +kernel⟩
theorem mF_25 : Cond.fieldLink RREF 25 RREF (TREF 10).2.1 (TREF 10).2.2.1 ∈ wsA := List.mem_filter.mpr ⟨List.mem_of_getElem? (i := 1131) (by decide +kernel), by decide +kernel⟩
theorem mF_28 : Cond.fieldLink RREF 28 RREF (TREF 11).2.1 (TREF 11).2.2.1 ∈ wsA := List.mem_filter.mpr ⟨List.mem_of_getElem? (i := 1132) (by decide +kernel), by decide +kernel⟩
theorem mF_31 : Cond.fieldLink RREF 31 RREF (TREF 12).2.1 (TREF 12).2.2.1 ∈ wsA := List.mem_filter.mpr ⟨List.mem_of_getElem? (i := 1133) (by decide +kernel), by decide +kernel⟩
theorem mF_34 : Cond.fieldLink RREF 34 RREF (TREF 13).2.1 (TREF 13).2.2.1 ∈ wsA := List.mem_filter.mpr ⟨List.mem_of_getElem? (i := 1134) (by decide +kernel), by decide +kernel⟩
theorem mF_37 : Cond.fieldLink RREF 37 RREF (TREF 14).2.1 (TREF 14).2.2.1 ∈ wsA := List.mem_filter.mpr ⟨List.mem_of_getElem? (i := 1135) (by decide +kernel), by decide +kernel⟩
theorem mF_40 : Cond.fieldLink RREF 40 RREF (TREF 15).2.1 (TREF 15).2.2.1 ∈ wsA := List.mem_filter.mpr ⟨List.mem_of_getElem? (i := 1136) (by decide +kernel), by decide +kernel⟩
theorem mF_43 : Cond.fieldLink RREF 43 RREF (TREF 16).2.1 (TREF 16).2.2.1 ∈ wsA := List.mem_filter.mpr ⟨List.mem_of_getElem? (i := 1137) (by decide +kernel), by decide +kernel⟩
theorem mF_46 : Cond.fieldLink RREF 46 RREF (TREF 17).2.1 (TREF 17).2.2.1 ∈ wsA := List.mem_filter.mpr ⟨List.mem_of_getElem? (i := 1138) (by decide +kernel), by decide +kernel⟩
theorem mF_49 : Cond.fieldLink RREF 49 RREF (TREF 21).2.1 (TREF 21).2.2.1 ∈ wsA := List.mem_filter.mpr ⟨List.mem_of_getElem? (i := 1142) (by decide +kernel), by decide +kernel⟩
theorem mF_52 : Cond.fieldLink RREF 52 RREF (TREF 22).2.1 (TREF 22).2.2.1 ∈ wsA := List.mem_filter.mpr ⟨List.mem_of_getElem? (i := 1143) (by decide +kernel), by decide +kernel⟩
theorem mF_55 : Cond.fieldLink RREF 55 RREF (TREF 23).2.1 (TREF 23).2.2.1 ∈ wsA := List.mem_filter.mpr ⟨List.mem_of_getElem? (i := 1144) (by decide +kernel), by decide +kernel⟩
theorem mF_58 : Cond.fieldLink RREF 58 RREF (TREF 27).2.1 (TREF 27).2.2.1 ∈ wsA := List.mem_filter.mpr ⟨List.mem_of_getElem? (i := 1148) (by decide +kernel), by decide +kernel⟩
theorem mF_61 : Cond.fieldLink RREF 61 RREF (TREF 28).2.1 (TREF 28).2.2.1 ∈ wsA := List.mem_filter.mpr ⟨List.mem_of_getElem? (i := 1149) (by decide +kernel), by decide +kernel⟩
theorem mF_64 : Cond.fieldLink RREF 64 RREF (TREF 30).2.1 (TREF 30).2.2.1 ∈ wsA := List.mem_filter.mpr ⟨List.mem_of_getElem? (i := 1151) (by decide +kernel), by decide +kernel⟩
theorem mF_67 : Cond.fieldLink RREF 67 RREF (TREF 0).2.1 (TREF 0).2.2.1 ∈ wsA := List.mem_filter.mpr ⟨List.mem_of_getElem? (i := 1121) (by decide +kernel), by decide +kernel⟩
theorem mF_73 : Cond.fieldLink RREF 73 RREF (TREF 1).2.1 (TREF 1).2.2.1 ∈ wsA := List.mem_filter.mpr ⟨List.mem_of_getElem? (i := 1122) (by decide +kernel), by decide +kernel⟩
theorem mF_76 : Cond.fieldLink RREF 76 RREF (TREF 3).2.1 (TREF 3).2.2.1 ∈ wsA := List.mem_filter.mpr ⟨List.mem_of_getElem? (i := 1124) (by decide +kernel), by decide +kernel⟩
theorem mF_79 : Cond.fieldLink RREF 79 RREF (TREF 4).2.1 (TREF 4).2.2.1 ∈ wsA := List.mem_filter.mpr ⟨List.mem_of_getElem? (i := 1125) (by decide +kernel), by decide +kernel⟩
theorem mF_93 : Cond.fieldLink RREF 93 RREF (TREF 19).2.1 (TREF 19).2.2.1 ∈ wsA := List.mem_filter.mpr ⟨List.mem_of_getElem? (i := 1140) (by decide +kernel), by decide +kernel⟩
theorem mF_96 : Cond.fieldLink RREF 96 RREF (TREF 24).2.1 (TREF 24).2.2.1 ∈ wsA := List.mem_filter.mpr ⟨List.mem_of_getElem? (i := 1145) (by decide +kernel), by decide +kernel⟩
theorem mF_99 : Cond.fieldLink RREF 99 RREF (TREF 25).2.1 (TREF 25).2.2.1 ∈ wsA := List.mem_filter.mpr ⟨List.mem_of_getElem? (i := 1146) (by decide +kernel), by decide +kernel⟩
theorem mF_119 : Cond.fieldLink RREF 119 RREF (TREF 20).2.1 (TREF 20).2.2.1 ∈ wsA := List.mem_filter.mpr ⟨List.mem_of_getElem? (i := 1141) (by decide +kernel), by decide +kernel⟩
theorem mF_164 : Cond.fieldLink RREF 164 RREF (TREF 26).2.1 (TREF 26).2.2.1 ∈ wsA := List.mem_filter.mpr ⟨List.mem_of_getElem? (i := 1147) (by decide +kernel), by decide +kernel⟩
theorem mF_210 : Cond.fieldLink RREF 210 RREF (TREF 5).2.1 (TREF 5).2.2.1 ∈ wsA := List.mem_filter.mpr ⟨List.mem_of_getElem? (i := 1126) (by decide +kernel), by decide +kernel⟩
theorem mF_216 : Cond.fieldLink RREF 216 RREF (TREF 18).2.1 (TREF 18).2.2.1 ∈ wsA := List.mem_filter.mpr ⟨List.mem_of_getElem? (i := 1139) (by decide +kernel), by decide +kernel⟩
theorem mF_219 : Cond.fieldLink RREF 219 RREF (TREF 29).2.1 (TREF 29).2.2.1 ∈ wsA := List.mem_filter.mpr ⟨List.mem_of_getElem? (i := 1150) (by decide +kernel), by decide +kernel⟩
theorem mL_71 : Cond.constantLong RREF 71 255 ∈ wsA := List.mem_filter.mpr ⟨List.mem_of_getElem? (i := 1224) (by decide +kernel), by decide +kernel⟩
theorem kw_here : GoodIn wsA (wsV RREF 82 RREF y_here (.code y_here cb_here 1 (some .int) :: wsA)) ∧ y_here.cls = RREF ∧ y_here.cls ≠ "java/lang/invoke/MethodHandle" ∧ y_here.cls ≠ "java/lang/invoke/VarHandle" ∧ (parseMethodDescriptor y_here.desc).map (fun d => d.parameters.length) = some 0 := ⟨gV (List.mem_filter.mpr ⟨List.mem_of_getElem? (i := 1241) (by decide +kernel), by decide +kernel⟩) (List.mem_filter.mpr ⟨List.mem_of_getElem? (i := 1243) (by decide +kernel), by decide +kernel⟩) (List.mem_filter.mpr ⟨List.mem_of_getElem? (i := 54) (by decide +kernel), by decide +kernel⟩) (List.mem_filter.mpr ⟨List.mem_of_getElem? (i := 99) (by decide +kernel), by decide +kernel⟩) (List.mem_filter.mpr ⟨List.mem_of_getElem? (i := 1244) (by decide +kernel), by decide +kernel⟩), rfl, by decide, by decide, by decide +kernel⟩
theorem kw_fail : GoodIn wsA (wsV RREF 102 RREF y_fail (.code y_fail cb_fail 2 (some .boolean) :: wsA)) ∧ y_fail.cls = RREF ∧ y_fail.cls ≠ "java/lang/invoke/MethodHandle" ∧ y_fail.cls ≠ "java/lang/invoke/VarHandle" ∧ (parseMethodDescriptor y_fail.desc).map (fun d => d.parameters.length) = some 1 := ⟨gV (List.mem_filter.mpr ⟨List.mem_of_getElem? (i := 1261) (by decide +kernel), by decide +kernel⟩) (List.mem_filter.mpr ⟨List.mem_of_getElem? (i := 1263) (by decide +kernel), by decide +kernel⟩) (List.mem_filter.mpr ⟨List.mem_of_getElem? (i := 59) (by decide +kernel), by decide +kernel⟩) (List.mem_filter.mpr ⟨List.mem_of_getElem? (i := 99) (by decide +kernel), by decide +kernel⟩) (List.mem_filter.mpr ⟨List.mem_of_getElem? (i := 1264) (by decide +kernel), by decide +kernel⟩), rfl, by decide, by decide, by decide +kernel⟩
theorem kw_blanks : GoodIn wsA (wsV RREF 129 RREF y_blanks (.code y_blanks cb_blanks 1 none :: wsA)) ∧ y_blanks.cls = RREF ∧ y_blanks.cls ≠ "java/lang/invoke/MethodHandle" ∧ y_blanks.cls ≠ "java/lang/invoke/VarHandle" ∧ (parseMethodDescriptor y_blanks.desc).map (fun d => d.parameters.length) = some 0 := ⟨gV (List.mem_filter.mpr ⟨List.mem_of_getElem? (i := 1237) (by decide +kernel), by decide +kernel⟩) (List.mem_filter.mpr ⟨List.mem_of_getElem? (i := 1239) (by decide +kernel), by decide +kernel⟩) (List.mem_filter.mpr ⟨List.mem_of_getElem? (i := 53) (by decide +kernel), by decide +kernel⟩) (List.mem_filter.mpr ⟨List.mem_of_getElem? (i := 99) (by decide +kernel), by decide +kernel⟩) (List.mem_filter.mpr ⟨List.mem_of_getElem? (i := 1240) (by decide +kernel), by decide +kernel⟩), rfl, by decide, by decide, by decide +kernel⟩
theorem kw_comment : GoodIn wsA (wsV RREF 86 RREF y_comment (.code y_comment cb_comment 1 none :: wsA)) ∧ y_comment.cls = RREF ∧ y_comment.cls ≠ "java/lang/invoke/MethodHandle" ∧ y_comment.cls ≠ "java/lang/invoke/VarHandle" ∧ (parseMethodDescriptor y_comment.desc).map (fun d => d.parameters.length) = some 0 := ⟨gV (List.mem_filter.mpr ⟨List.mem_of_getElem? (i := 1365) (by decide +kernel), by decide +kernel⟩) (List.mem_filter.mpr ⟨List.mem_of_getElem? (i := 1367) (by decide +kernel), by decide +kernel⟩) (List.mem_filter.mpr ⟨List.mem_of_getElem? (i := 85) (by decide +kernel), by decide +kernel⟩) (List.mem_filter.mpr ⟨List.mem_of_getElem? (i := 99) (by decide +kernel), by decide +kernel⟩) (List.mem_filter.mpr ⟨List.mem_of_getElem? (i := 1368) (by decide +kernel), by decide +kernel⟩), rfl, by decide, by decide, by decide +kernel⟩
theorem kw_room : GoodIn wsA (wsV RREF 179 RREF y_room (.code y_room cb_room 1 none :: wsA)) ∧ y_room.cls = RREF ∧ y_room.cls ≠ "java/lang/invoke/MethodHandle" ∧ y_room.cls ≠ "java/lang/invoke/VarHandle" ∧ (parseMethodDescriptor y_room.desc).map (fun d => d.parameters.length) = some 0 := ⟨gV (List.mem_filter.mpr ⟨List.mem_of_getElem? (i := 1361) (by decide +kernel), by decide +kernel⟩) (List.mem_filter.mpr ⟨List.mem_of_getElem? (i := 1363) (by decide +kernel), by decide +kernel⟩) (List.mem_filter.mpr ⟨List.mem_of_getElem? (i := 84) (by decide +kernel), by decide +kernel⟩) (List.mem_filter.mpr ⟨List.mem_of_getElem? (i := 99) (by decide +kernel), by decide +kernel⟩) (List.mem_filter.mpr ⟨List.mem_of_getElem? (i := 1364) (by decide +kernel), by decide +kernel⟩), rfl, by decide, by decide, by decide +kernel⟩
theorem kw_isDigit : GoodIn wsA (wsV RREF 89 RREF y_isDigit (.code y_isDigit cb_isDigit 2 (some .boolean) :: wsA)) ∧ y_isDigit.cls = RREF ∧ y_isDigit.cls ≠ "java/lang/invoke/MethodHandle" ∧ y_isDigit.cls ≠ "java/lang/invoke/VarHandle" ∧ (parseMethodDescriptor y_isDigit.desc).map (fun d => d.parameters.length) = some 1 := ⟨gV (List.mem_filter.mpr ⟨List.mem_of_getElem? (i := 1281) (by decide +kernel), by decide +kernel⟩) (List.mem_filter.mpr ⟨List.mem_of_getElem? (i := 1283) (by decide +kernel), by decide +kernel⟩) (List.mem_filter.mpr ⟨List.mem_of_getElem? (i := 64) (by decide +kernel), by decide +kernel⟩) (List.mem_filter.mpr ⟨List.mem_of_getElem? (i := 99) (by decide +kernel), by decide +kernel⟩) (List.mem_filter.mpr ⟨List.mem_of_getElem? (i := 1284) (by decide +kernel), by decide +kernel⟩), rfl, by decide, by decide, by decide +kernel⟩
theorem kw_isBare : GoodIn wsA (wsV RREF 116 RREF y_isBare (.code y_isBare cb_isBare 2 (some .boolean) :: wsA)) ∧ y_isBare.cls = RREF ∧ y_isBare.cls ≠ "java/lang/invoke/MethodHandle" ∧ y_isBare.cls ≠ "java/lang/invoke/VarHandle" ∧ (parseMethodDescriptor y_isBare.desc).map (fun d => d.parameters.length) = some 1 := ⟨gV (List.mem_filter.mpr ⟨List.mem_of_getElem? (i := 1277) (by decide +kernel), by decide +kernel⟩) (List.mem_filter.mpr ⟨List.mem_of_getElem? (i := 1279) (by decide +kernel), by decide +kernel⟩) (List.mem_filter.mpr ⟨List.mem_of_getElem? (i := 63) (by decide +kernel), by decide +kernel⟩) (List.mem_filter.mpr ⟨List.mem_of_getElem? (i := 99) (by decide +kernel), by decide +kernel⟩) (List.mem_filter.mpr ⟨List.mem_of_getElem? (i := 1280) (by decide +kernel), by decide +kernel⟩), rfl, by decide, by decide, by decide +kernel⟩
theorem kw_begin : GoodIn wsA (wsV RREF 105 RREF y_begin (.code y_begin cb_begin 1 none :: wsA)) ∧ y_begin.cls = RREF ∧ y_begin.cls ≠ "java/lang/invoke/MethodHandle" ∧ y_begin.cls ≠ "java/lang/invoke/VarHandle" ∧ (parseMethodDescriptor y_begin.desc).map (fun d => d.parameters.length) = some 0 := ⟨gV (List.mem_filter.mpr ⟨List.mem_of_getElem? (i := 1257) (by decide +kernel), by decide +kernel⟩) (List.mem_filter.mpr ⟨List.mem_of_getElem? (i := 1259) (by decide +kernel), by decide +kernel⟩) (List.mem_filter.mpr ⟨List.mem_of_getElem? (i := 58) (by decide +kernel), by decide +kernel⟩) (List.mem_filter.mpr ⟨List.mem_of_getElem? (i := 99) (by decide +kernel), by decide +kernel⟩) (List.mem_filter.mpr ⟨List.mem_of_getElem? (i := 1260) (by decide +kernel), by decide +kernel⟩), rfl, by decide, by decide, by decide +kernel⟩
theorem kw_add : GoodIn wsA (wsV RREF 112 RREF y_add (.code y_add cb_add 3 (some .boolean) :: wsA)) ∧ y_add.cls = RREF ∧ y_add.cls ≠ "java/lang/invoke/MethodHandle" ∧ y_add.cls ≠ "java/lang/invoke/VarHandle" ∧ (parseMethodDescriptor y_add.desc).map (fun d => d.parameters.length) = some 2 := ⟨gV (List.mem_filter.mpr ⟨List.mem_of_getElem? (i := 1269) (by decide +kernel), by decide +kernel⟩) (List.mem_filter.mpr ⟨List.mem_of_getElem? (i := 1271) (by decide +kernel), by decide +kernel⟩) (List.mem_filter.mpr ⟨List.mem_of_getElem? (i := 61) (by decide +kernel), by decide +kernel⟩) (List.mem_filter.mpr ⟨List.mem_of_getElem? (i := 99) (by decide +kernel), by decide +kernel⟩) (List.mem_filter.mpr ⟨List.mem_of_getElem? (i := 1272) (by decide +kernel), by decide +kernel⟩), rfl, by decide, by decide, by decide +kernel⟩
theorem kw_behindBar : GoodIn wsA (wsV RREF 108 RREF y_behindBar (.code y_behindBar cb_behindBar 2 (some .int) :: wsA)) ∧ y_behindBar.cls = RREF ∧ y_behindBar.cls ≠ "java/lang/invoke/MethodHandle" ∧ y_behindBar.cls ≠ "java/lang/invoke/VarHandle" ∧ (parseMethodDescriptor y_behindBar.desc).map (fun d => d.parameters.length) = some 1 := ⟨gV (List.mem_filter.mpr ⟨List.mem_of_getElem? (i := 1265) (by decide +kernel), by decide +kernel⟩) (List.mem_filter.mpr ⟨List.mem_of_getElem? (i := 1267) (by decide +kernel), by decide +kernel⟩) (List.mem_filter.mpr ⟨List.mem_of_getElem? (i := 60) (by decide +kernel), by decide +kernel⟩) (List.mem_filter.mpr ⟨List.mem_of_getElem? (i := 99) (by decide +kernel), by decide +kernel⟩) (List.mem_filter.mpr ⟨List.mem_of_getElem? (i := 1268) (by decide +kernel), by decide +kernel⟩), rfl, by decide, by decide, by decide +kernel⟩
theorem kw_string : GoodIn wsA (wsV RREF 122 RREF y_string (.code y_string cb_string 4 (some .boolean) :: wsA)) ∧ y_string.cls = RREF ∧ y_string.cls ≠ "java/lang/invoke/MethodHandle" ∧ y_string.cls ≠ "java/lang/invoke/VarHandle" ∧ (parseMethodDescriptor y_string.desc).map (fun d => d.parameters.length) = some 0 := ⟨gV (List.mem_filter.mpr ⟨List.mem_of_getElem? (i := 1253) (by decide +kernel), by decide +kernel⟩) (List.mem_filter.mpr ⟨List.mem_of_getElem? (i := 1255) (by decide +kernel), by decide +kernel⟩) (List.mem_filter.mpr ⟨List.mem_of_getElem? (i := 57) (by decide +kernel), by decide +kernel⟩) (List.mem_filter.mpr ⟨List.mem_of_getElem? (i := 99) (by decide +kernel), by decide +kernel⟩) (List.mem_filter.mpr ⟨List.mem_of_getElem? (i := 1256) (by decide +kernel), by decide +kernel⟩), rfl, by decide, by decide, by decide +kernel⟩
theorem kw_bare : GoodIn wsA (wsV RREF 126 RREF y_bare (.code y_bare cb_bare 1 (some .boolean) :: wsA)) ∧ y_bare.cls = RREF ∧ y_bare.cls ≠ "java/lang/invoke/MethodHandle" ∧ y_bare.cls ≠ "java/lang/invoke/VarHandle" ∧ (parseMethodDescriptor y_bare.desc).map (fun d => d.parameters.length) = some 0 := ⟨gV (List.mem_filter.mpr ⟨List.mem_of_getElem? (i := 1273) (by decide +kernel), by decide +kernel⟩) (List.mem_filter.mpr ⟨List.mem_of_getElem? (i := 1275) (by decide +kernel), by decide +kernel⟩) (List.mem_filter.mpr ⟨List.mem_of_getElem? (i := 62) (by decide +kernel), by decide +kernel⟩) (List.mem_filter.mpr ⟨List.mem_of_getElem? (i := 99) (by decide +kernel), by decide +kernel⟩) (List.mem_filter.mpr ⟨List.mem_of_getElem? (i := 1276) (by decide +kernel), by decide +kernel⟩), rfl, by decide, by decide, by decide +kernel⟩
theorem kw_path : GoodIn wsA (wsV RREF 185 RREF y_path (.code y_path cb_path 2 (some .boolean) :: wsA)) ∧ y_path.cls = RREF ∧ y_path.cls ≠ "java/lang/invoke/MethodHandle" ∧ y_path.cls ≠ "java/lang/invoke/VarHandle" ∧ (parseMethodDescriptor y_path.desc).map (fun d => d.parameters.length) = some 0 := ⟨gV (List.mem_filter.mpr ⟨List.mem_of_getElem? (i := 1249) (by decide +kernel), by decide +kernel⟩) (List.mem_filter.mpr ⟨List.mem_of_getElem? (i := 1251) (by decide +kernel), by decide +kernel⟩) (List.mem_filter.mpr ⟨List.mem_of_getElem? (i := 56) (by decide +kernel), by decide +kernel⟩) (List.mem_filter.mpr ⟨List.mem_of_getElem? (i := 99) (by decide +kernel), by decide +kernel⟩) (List.mem_filter.mpr ⟨List.mem_of_getElem? (i := 1252) (by decide +kernel), by decide +kernel⟩), rfl, by decide, by decide, by decide +kernel⟩
theorem kw_isTable : GoodIn wsA (wsV RREF 142 RREF y_isTable (.code y_isTable cb_isTable 2 (some .boolean) :: wsA)) ∧ y_isTable.cls = RREF ∧ y_isTable.cls ≠ "java/lang/invoke/MethodHandle" ∧ y_isTable.cls ≠ "java/lang/invoke/VarHandle" ∧ (parseMethodDescriptor y_isTable.desc).map (fun d => d.parameters.length) = some 1 := ⟨gV (List.mem_filter.mpr ⟨List.mem_of_getElem? (i := 1301) (by decide +kernel), by decide +kernel⟩) (List.mem_filter.mpr ⟨List.mem_of_getElem? (i := 1303) (by decide +kernel), by decide +kernel⟩) (List.mem_filter.mpr ⟨List.mem_of_getElem? (i := 69) (by decide +kernel), by decide +kernel⟩) (List.mem_filter.mpr ⟨List.mem_of_getElem? (i := 99) (by decide +kernel), by decide +kernel⟩) (List.mem_filter.mpr ⟨List.mem_of_getElem? (i := 1304) (by decide +kernel), by decide +kernel⟩), rfl, by decide, by decide, by decide +kernel⟩
theorem kw_make : GoodIn wsA (wsV RREF 136 RREF y_make (.code y_make cb_make 4 (some .int) :: wsA)) ∧ y_make.cls = RREF ∧ y_make.cls ≠ "java/lang/invoke/MethodHandle" ∧ y_make.cls ≠ "java/lang/invoke/VarHandle" ∧ (parseMethodDescriptor y_make.desc).map (fun d => d.parameters.length) = some 2 := ⟨gV (List.mem_filter.mpr ⟨List.mem_of_getElem? (i := 1229) (by decide +kernel), by decide +kernel⟩) (List.mem_filter.mpr ⟨List.mem_of_getElem? (i := 1231) (by decide +kernel), by decide +kernel⟩) (List.mem_filter.mpr ⟨List.mem_of_getElem? (i := 51) (by decide +kernel), by decide +kernel⟩) (List.mem_filter.mpr ⟨List.mem_of_getElem? (i := 99) (by decide +kernel), by decide +kernel⟩) (List.mem_filter.mpr ⟨List.mem_of_getElem? (i := 1232) (by decide +kernel), by decide +kernel⟩), rfl, by decide, by decide, by decide +kernel⟩
theorem kw_named : GoodIn wsA (wsV RREF 139 RREF y_named (.code y_named cb_named 3 (some .int) :: wsA)) ∧ y_named.cls = RREF ∧ y_named.cls ≠ "java/lang/invoke/MethodHandle" ∧ y_named.cls ≠ "java/lang/invoke/VarHandle" ∧ (parseMethodDescriptor y_named.desc).map (fun d => d.parameters.length) = some 2 := ⟨gV (List.mem_filter.mpr ⟨List.mem_of_getElem? (i := 1297) (by decide +kernel), by decide +kernel⟩) (List.mem_filter.mpr ⟨List.mem_of_getElem? (i := 1299) (by decide +kernel), by decide +kernel⟩) (List.mem_filter.mpr ⟨List.mem_of_getElem? (i := 68) (by decide +kernel), by decide +kernel⟩) (List.mem_filter.mpr ⟨List.mem_of_getElem? (i := 99) (by decide +kernel), by decide +kernel⟩) (List.mem_filter.mpr ⟨List.mem_of_getElem? (i := 1300) (by decide +kernel), by decide +kernel⟩), rfl, by decide, by decide, by decide +kernel⟩
theorem kw_entryOf : GoodIn wsA (wsV RREF 132 RREF y_entryOf (.code y_entryOf cb_entryOf 6 (some .int) :: wsA)) ∧ y_entryOf.cls = RREF ∧ y_entryOf.cls ≠ "java/lang/invoke/MethodHandle" ∧ y_entryOf.cls ≠ "java/lang/invoke/VarHandle" ∧ (parseMethodDescriptor y_entryOf.desc).map (fun d => d.parameters.length) = some 2 := ⟨gV (List.mem_filter.mpr ⟨List.mem_of_getElem? (i := 1293) (by decide +kernel), by decide +kernel⟩) (List.mem_filter.mpr ⟨List.mem_of_getElem? (i := 1295) (by decide +kernel), by decide +kernel⟩) (List.mem_filter.mpr ⟨List.mem_of_getElem? (i := 67) (by decide +kernel), by decide +kernel⟩) (List.mem_filter.mpr ⟨List.mem_of_getElem? (i := 99) (by decide +kernel), by decide +kernel⟩) (List.mem_filter.mpr ⟨List.mem_of_getElem? (i := 1296) (by decide +kernel), by decide +kernel⟩), rfl, by decide, by decide, by decide +kernel⟩
theorem kw_leadEntry : GoodIn wsA (wsV RREF 188 RREF y_leadEntry (.code y_leadEntry cb_leadEntry 5 (some .int) :: wsA)) ∧ y_leadEntry.cls = RREF ∧ y_leadEntry.cls ≠ "java/lang/invoke/MethodHandle" ∧ y_leadEntry.cls ≠ "java/lang/invoke/VarHandle" ∧ (parseMethodDescriptor y_leadEntry.desc).map (fun d => d.parameters.length) = some 1 := ⟨gV (List.mem_filter.mpr ⟨List.mem_of_getElem? (i := 1309) (by decide +kernel), by decide +kernel⟩) (List.mem_filter.mpr ⟨List.mem_of_getElem? (i := 1311) (by decide +kernel), by decide +kernel⟩) (List.mem_filter.mpr ⟨List.mem_of_getElem? (i := 71) (by decide +kernel), by decide +kernel⟩) (List.mem_filter.mpr ⟨List.mem_of_getElem? (i := 99) (by decide +kernel), by decide +kernel⟩) (List.mem_filter.mpr ⟨List.mem_of_getElem? (i := 1312) (by decide +kernel), by decide +kernel⟩), rfl, by decide, by decide, by decide +kernel⟩
theorem kw_leadHeader : GoodIn wsA (wsV RREF 145 RREF y_leadHeader (.code y_leadHeader cb_leadHeader 4 (some .int) :: wsA)) ∧ y_leadHeader.cls = RREF ∧ y_leadHeader.cls ≠ "java/lang/invoke/MethodHandle" ∧ y_leadHeader.cls ≠ "java/lang/invoke/VarHandle" ∧ (parseMethodDescriptor y_leadHeader.desc).map (fun d => d.parameters.length) = some 0 := ⟨gV (List.mem_filter.mpr ⟨List.mem_of_getElem? (i := 1289) (by decide +kernel), by decide +kernel⟩) (List.mem_filter.mpr ⟨List.mem_of_getElem? (i := 1291) (by decide +kernel), by decide +kernel⟩) (List.mem_filter.mpr ⟨List.mem_of_getElem? (i := 66) (by decide +kernel), by decide +kernel⟩) (List.mem_filter.mpr ⟨List.mem_of_getElem? (i := 99) (by decide +kernel), by decide +kernel⟩) (List.mem_filter.mpr ⟨List.mem_of_getElem? (i := 1292) (by decide +kernel), by decide +kernel⟩), rfl, by decide, by decide, by decide +kernel⟩
theorem kw_opened : GoodIn wsA (wsV RREF 200 RREF y_opened (.code y_opened cb_opened 5 (some .int) :: wsA)) ∧ y_opened.cls = RREF ∧ y_opened.cls ≠ "java/lang/invoke/MethodHandle" ∧ y_opened.cls ≠ "java/lang/invoke/VarHandle" ∧ (parseMethodDescriptor y_opened.desc).map (fun d => d.parameters.length) = some 1 := ⟨gV (List.mem_filter.mpr ⟨List.mem_of_getElem? (i := 1285) (by decide +kernel), by decide +kernel⟩) (List.mem_filter.mpr ⟨List.mem_of_getElem? (i := 1287) (by decide +kernel), by decide +kernel⟩) (List.mem_filter.mpr ⟨List.mem_of_getElem? (i := 65) (by decide +kernel), by decide +kernel⟩) (List.mem_filter.mpr ⟨List.mem_of_getElem? (i := 99) (by decide +kernel), by decide +kernel⟩) (List.mem_filter.mpr ⟨List.mem_of_getElem? (i := 1288) (by decide +kernel), by decide +kernel⟩), rfl, by decide, by decide, by decide +kernel⟩
theorem kw_digitOf : GoodIn wsA (wsV RREF 148 RREF y_digitOf (.code y_digitOf cb_digitOf 2 (some .int) :: wsA)) ∧ y_digitOf.cls = RREF ∧ y_digitOf.cls ≠ "java/lang/invoke/MethodHandle" ∧ y_digitOf.cls ≠ "java/lang/invoke/VarHandle" ∧ (parseMethodDescriptor y_digitOf.desc).map (fun d => d.parameters.length) = some 1 := ⟨gV (List.mem_filter.mpr ⟨List.mem_of_getElem? (i := 1341) (by decide +kernel), by decide +kernel⟩) (List.mem_filter.mpr ⟨List.mem_of_getElem? (i := 1343) (by decide +kernel), by decide +kernel⟩) (List.mem_filter.mpr ⟨List.mem_of_getElem? (i := 79) (by decide +kernel), by decide +kernel⟩) (List.mem_filter.mpr ⟨List.mem_of_getElem? (i := 99) (by decide +kernel), by decide +kernel⟩) (List.mem_filter.mpr ⟨List.mem_of_getElem? (i := 1344) (by decide +kernel), by decide +kernel⟩), rfl, by decide, by decide, by decide +kernel⟩
theorem kw_digits : GoodIn wsA (wsV RREF 151 RREF y_digits (.code y_digits cb_digits 9 (some .int) :: wsA)) ∧ y_digits.cls = RREF ∧ y_digits.cls ≠ "java/lang/invoke/MethodHandle" ∧ y_digits.cls ≠ "java/lang/invoke/VarHandle" ∧ (parseMethodDescriptor y_digits.desc).map (fun d => d.parameters.length) = some 2 := ⟨gV (List.mem_filter.mpr ⟨List.mem_of_getElem? (i := 1337) (by decide +kernel), by decide +kernel⟩) (List.mem_filter.mpr ⟨List.mem_of_getElem? (i := 1339) (by decide +kernel), by decide +kernel⟩) (List.mem_filter.mpr ⟨List.mem_of_getElem? (i := 78) (by decide +kernel), by decide +kernel⟩) (List.mem_filter.mpr ⟨List.mem_of_getElem? (i := 99) (by decide +kernel), by decide +kernel⟩) (List.mem_filter.mpr ⟨List.mem_of_getElem? (i := 1340) (by decide +kernel), by decide +kernel⟩), rfl, by decide, by decide, by decide +kernel⟩
theorem kw_number : GoodIn wsA (wsV RREF 173 RREF y_number (.code y_number cb_number 6 (some .boolean) :: wsA)) ∧ y_number.cls = RREF ∧ y_number.cls ≠ "java/lang/invoke/MethodHandle" ∧ y_number.cls ≠ "java/lang/invoke/VarHandle" ∧ (parseMethodDescriptor y_number.desc).map (fun d => d.parameters.length) = some 1 := ⟨gV (List.mem_filter.mpr ⟨List.mem_of_getElem? (i := 1333) (by decide +kernel), by decide +kernel⟩) (List.mem_filter.mpr ⟨List.mem_of_getElem? (i := 1335) (by decide +kernel), by decide +kernel⟩) (List.mem_filter.mpr ⟨List.mem_of_getElem? (i := 77) (by decide +kernel), by decide +kernel⟩) (List.mem_filter.mpr ⟨List.mem_of_getElem? (i := 99) (by decide +kernel), by decide +kernel⟩) (List.mem_filter.mpr ⟨List.mem_of_getElem? (i := 1336) (by decide +kernel), by decide +kernel⟩), rfl, by decide, by decide, by decide +kernel⟩
theorem kw_isDate : GoodIn wsA (wsV RREF 167 RREF y_isDate (.code y_isDate cb_isDate 3 (some .boolean) :: wsA)) ∧ y_isDate.cls = RREF ∧ y_isDate.cls ≠ "java/lang/invoke/MethodHandle" ∧ y_isDate.cls ≠ "java/lang/invoke/VarHandle" ∧ (parseMethodDescriptor y_isDate.desc).map (fun d => d.parameters.length) = some 0 := ⟨gV (List.mem_filter.mpr ⟨List.mem_of_getElem? (i := 1317) (by decide +kernel), by decide +kernel⟩) (List.mem_filter.mpr ⟨List.mem_of_getElem? (i := 1319) (by decide +kernel), by decide +kernel⟩) (List.mem_filter.mpr ⟨List.mem_of_getElem? (i := 73) (by decide +kernel), by decide +kernel⟩) (List.mem_filter.mpr ⟨List.mem_of_getElem? (i := 99) (by decide +kernel), by decide +kernel⟩) (List.mem_filter.mpr ⟨List.mem_of_getElem? (i := 1320) (by decide +kernel), by decide +kernel⟩), rfl, by decide, by decide, by decide +kernel⟩
theorem kw_two : GoodIn wsA (wsV RREF 154 RREF y_two (.code y_two cb_two 3 (some .int) :: wsA)) ∧ y_two.cls = RREF ∧ y_two.cls ≠ "java/lang/invoke/MethodHandle" ∧ y_two.cls ≠ "java/lang/invoke/VarHandle" ∧ (parseMethodDescriptor y_two.desc).map (fun d => d.parameters.length) = some 0 := ⟨gV (List.mem_filter.mpr ⟨List.mem_of_getElem? (i := 1325) (by decide +kernel), by decide +kernel⟩) (List.mem_filter.mpr ⟨List.mem_of_getElem? (i := 1327) (by decide +kernel), by decide +kernel⟩) (List.mem_filter.mpr ⟨List.mem_of_getElem? (i := 75) (by decide +kernel), by decide +kernel⟩) (List.mem_filter.mpr ⟨List.mem_of_getElem? (i := 99) (by decide +kernel), by decide +kernel⟩) (List.mem_filter.mpr ⟨List.mem_of_getElem? (i := 1328) (by decide +kernel), by decide +kernel⟩), rfl, by decide, by decide, by decide +kernel⟩
theorem kw_daysOf : GoodIn wsA (wsV RREF 157 RREF y_daysOf (.code y_daysOf cb_daysOf 3 (some .int) :: wsA)) ∧ y_daysOf.cls = RREF ∧ y_daysOf.cls ≠ "java/lang/invoke/MethodHandle" ∧ y_daysOf.cls ≠ "java/lang/invoke/VarHandle" ∧ (parseMethodDescriptor y_daysOf.desc).map (fun d => d.parameters.length) = some 2 := ⟨gV (List.mem_filter.mpr ⟨List.mem_of_getElem? (i := 1329) (by decide +kernel), by decide +kernel⟩) (List.mem_filter.mpr ⟨List.mem_of_getElem? (i := 1331) (by decide +kernel), by decide +kernel⟩) (List.mem_filter.mpr ⟨List.mem_of_getElem? (i := 76) (by decide +kernel), by decide +kernel⟩) (List.mem_filter.mpr ⟨List.mem_of_getElem? (i := 99) (by decide +kernel), by decide +kernel⟩) (List.mem_filter.mpr ⟨List.mem_of_getElem? (i := 1332) (by decide +kernel), by decide +kernel⟩), rfl, by decide, by decide, by decide +kernel⟩
theorem kw_date : GoodIn wsA (wsV RREF 170 RREF y_date (.code y_date cb_date 5 (some .boolean) :: wsA)) ∧ y_date.cls = RREF ∧ y_date.cls ≠ "java/lang/invoke/MethodHandle" ∧ y_date.cls ≠ "java/lang/invoke/VarHandle" ∧ (parseMethodDescriptor y_date.desc).map (fun d => d.parameters.length) = some 1 := ⟨gV (List.mem_filter.mpr ⟨List.mem_of_getElem? (i := 1321) (by decide +kernel), by decide +kernel⟩) (List.mem_filter.mpr ⟨List.mem_of_getElem? (i := 1323) (by decide +kernel), by decide +kernel⟩) (List.mem_filter.mpr ⟨List.mem_of_getElem? (i := 74) (by decide +kernel), by decide +kernel⟩) (List.mem_filter.mpr ⟨List.mem_of_getElem? (i := 99) (by decide +kernel), by decide +kernel⟩) (List.mem_filter.mpr ⟨List.mem_of_getElem? (i := 1324) (by decide +kernel), by decide +kernel⟩), rfl, by decide, by decide, by decide +kernel⟩
theorem kw_letterOf : GoodIn wsA (wsV RREF 160 RREF y_letterOf (.code y_letterOf cb_letterOf 3 (some .int) :: wsA)) ∧ y_letterOf.cls = RREF ∧ y_letterOf.cls ≠ "java/lang/invoke/MethodHandle" ∧ y_letterOf.cls ≠ "java/lang/invoke/VarHandle" ∧ (parseMethodDescriptor y_letterOf.desc).map (fun d => d.parameters.length) = some 2 := ⟨gV (List.mem_filter.mpr ⟨List.mem_of_getElem? (i := 1349) (by decide +kernel), by decide +kernel⟩) (List.mem_filter.mpr ⟨List.mem_of_getElem? (i := 1351) (by decide +kernel), by decide +kernel⟩) (List.mem_filter.mpr ⟨List.mem_of_getElem? (i := 81) (by decide +kernel), by decide +kernel⟩) (List.mem_filter.mpr ⟨List.mem_of_getElem? (i := 99) (by decide +kernel), by decide +kernel⟩) (List.mem_filter.mpr ⟨List.mem_of_getElem? (i := 1352) (by decide +kernel), by decide +kernel⟩), rfl, by decide, by decide, by decide +kernel⟩
theorem kw_truth : GoodIn wsA (wsV RREF 176 RREF y_truth (.code y_truth cb_truth 4 (some .boolean) :: wsA)) ∧ y_truth.cls = RREF ∧ y_truth.cls ≠ "java/lang/invoke/MethodHandle" ∧ y_truth.cls ≠ "java/lang/invoke/VarHandle" ∧ (parseMethodDescriptor y_truth.desc).map (fun d => d.parameters.length) = some 1 := ⟨gV (List.mem_filter.mpr ⟨List.mem_of_getElem? (i := 1345) (by decide +kernel), by decide +kernel⟩) (List.mem_filter.mpr ⟨List.mem_of_getElem? (i := 1347) (by decide +kernel), by decide +kernel⟩) (List.mem_filter.mpr ⟨List.mem_of_getElem? (i := 80) (by decide +kernel), by decide +kernel⟩) (List.mem_filter.mpr ⟨List.mem_of_getElem? (i := 99) (by decide +kernel), by decide +kernel⟩) (List.mem_filter.mpr ⟨List.mem_of_getElem? (i := 1348) (by decide +kernel), by decide +kernel⟩), rfl, by decide, by decide, by decide +kernel⟩
theorem kw_beginValue : GoodIn wsA (wsV RREF 182 RREF y_beginValue (.code y_beginValue cb_beginValue 8 (some .boolean) :: wsA)) ∧ y_beginValue.cls = RREF ∧ y_beginValue.cls ≠ "java/lang/invoke/MethodHandle" ∧ y_beginValue.cls ≠ "java/lang/invoke/VarHandle" ∧ (parseMethodDescriptor y_beginValue.desc).map (fun d => d.parameters.length) = some 2 := ⟨gV (List.mem_filter.mpr ⟨List.mem_of_getElem? (i := 1313) (by decide +kernel), by decide +kernel⟩) (List.mem_filter.mpr ⟨List.mem_of_getElem? (i := 1315) (by decide +kernel), by decide +kernel⟩) (List.mem_filter.mpr ⟨List.mem_of_getElem? (i := 72) (by decide +kernel), by decide +kernel⟩) (List.mem_filter.mpr ⟨List.mem_of_getElem? (i := 99) (by decide +kernel), by decide +kernel⟩) (List.mem_filter.mpr ⟨List.mem_of_getElem? (i := 1316) (by decide +kernel), by decide +kernel⟩), rfl, by decide, by decide, by decide +kernel⟩
theorem kw_stepList : GoodIn wsA (wsV RREF 194 RREF y_stepList (.code y_stepList cb_stepList 3 (some .boolean) :: wsA)) ∧ y_stepList.cls = RREF ∧ y_stepList.cls ≠ "java/lang/invoke/MethodHandle" ∧ y_stepList.cls ≠ "java/lang/invoke/VarHandle" ∧ (parseMethodDescriptor y_stepList.desc).map (fun d => d.parameters.length) = some 1 := ⟨gV (List.mem_filter.mpr ⟨List.mem_of_getElem? (i := 1357) (by decide +kernel), by decide +kernel⟩) (List.mem_filter.mpr ⟨List.mem_of_getElem? (i := 1359) (by decide +kernel), by decide +kernel⟩) (List.mem_filter.mpr ⟨List.mem_of_getElem? (i := 83) (by decide +kernel), by decide +kernel⟩) (List.mem_filter.mpr ⟨List.mem_of_getElem? (i := 99) (by decide +kernel), by decide +kernel⟩) (List.mem_filter.mpr ⟨List.mem_of_getElem? (i := 1360) (by decide +kernel), by decide +kernel⟩), rfl, by decide, by decide, by decide +kernel⟩
theorem kw_entry : GoodIn wsA (wsV RREF 191 RREF y_entry (.code y_entry cb_entry 3 (some .boolean) :: wsA)) ∧ y_entry.cls = RREF ∧ y_entry.cls ≠ "java/lang/invoke/MethodHandle" ∧ y_entry.cls ≠ "java/lang/invoke/VarHandle" ∧ (parseMethodDescriptor y_entry.desc).map (fun d => d.parameters.length) = some 1 := ⟨gV (List.mem_filter.mpr ⟨List.mem_of_getElem? (i := 1305) (by decide +kernel), by decide +kernel⟩) (List.mem_filter.mpr ⟨List.mem_of_getElem? (i := 1307) (by decide +kernel), by decide +kernel⟩) (List.mem_filter.mpr ⟨List.mem_of_getElem? (i := 70) (by decide +kernel), by decide +kernel⟩) (List.mem_filter.mpr ⟨List.mem_of_getElem? (i := 99) (by decide +kernel), by decide +kernel⟩) (List.mem_filter.mpr ⟨List.mem_of_getElem? (i := 1308) (by decide +kernel), by decide +kernel⟩), rfl, by decide, by decide, by decide +kernel⟩
theorem kw_stepTable : GoodIn wsA (wsV RREF 197 RREF y_stepTable (.code y_stepTable cb_stepTable 4 (some .boolean) :: wsA)) ∧ y_stepTable.cls = RREF ∧ y_stepTable.cls ≠ "java/lang/invoke/MethodHandle" ∧ y_stepTable.cls ≠ "java/lang/invoke/VarHandle" ∧ (parseMethodDescriptor y_stepTable.desc).map (fun d => d.parameters.length) = some 1 := ⟨gV (List.mem_filter.mpr ⟨List.mem_of_getElem? (i := 1369) (by decide +kernel), by decide +kernel⟩) (List.mem_filter.mpr ⟨List.mem_of_getElem? (i := 1371) (by decide +kernel), by decide +kernel⟩) (List.mem_filter.mpr ⟨List.mem_of_getElem? (i := 86) (by decide +kernel), by decide +kernel⟩) (List.mem_filter.mpr ⟨List.mem_of_getElem? (i := 99) (by decide +kernel), by decide +kernel⟩) (List.mem_filter.mpr ⟨List.mem_of_getElem? (i := 1372) (by decide +kernel), by decide +kernel⟩), rfl, by decide, by decide, by decide +kernel⟩
theorem kw_finishValue : GoodIn wsA (wsV RREF 207 RREF y_finishValue (.code y_finishValue cb_finishValue 2 (some .boolean) :: wsA)) ∧ y_finishValue.cls = RREF ∧ y_finishValue.cls ≠ "java/lang/invoke/MethodHandle" ∧ y_finishValue.cls ≠ "java/lang/invoke/VarHandle" ∧ (parseMethodDescriptor y_finishValue.desc).map (fun d => d.parameters.length) = some 0 := ⟨gV (List.mem_filter.mpr ⟨List.mem_of_getElem? (i := 1353) (by decide +kernel), by decide +kernel⟩) (List.mem_filter.mpr ⟨List.mem_of_getElem? (i := 1355) (by decide +kernel), by decide +kernel⟩) (List.mem_filter.mpr ⟨List.mem_of_getElem? (i := 82) (by decide +kernel), by decide +kernel⟩) (List.mem_filter.mpr ⟨List.mem_of_getElem? (i := 99) (by decide +kernel), by decide +kernel⟩) (List.mem_filter.mpr ⟨List.mem_of_getElem? (i := 1356) (by decide +kernel), by decide +kernel⟩), rfl, by decide, by decide, by decide +kernel⟩
theorem kw_header : GoodIn wsA (wsV RREF 204 RREF y_header (.code y_header cb_header 4 (some .int) :: wsA)) ∧ y_header.cls = RREF ∧ y_header.cls ≠ "java/lang/invoke/MethodHandle" ∧ y_header.cls ≠ "java/lang/invoke/VarHandle" ∧ (parseMethodDescriptor y_header.desc).map (fun d => d.parameters.length) = some 0 := ⟨gV (List.mem_filter.mpr ⟨List.mem_of_getElem? (i := 1245) (by decide +kernel), by decide +kernel⟩) (List.mem_filter.mpr ⟨List.mem_of_getElem? (i := 1247) (by decide +kernel), by decide +kernel⟩) (List.mem_filter.mpr ⟨List.mem_of_getElem? (i := 55) (by decide +kernel), by decide +kernel⟩) (List.mem_filter.mpr ⟨List.mem_of_getElem? (i := 99) (by decide +kernel), by decide +kernel⟩) (List.mem_filter.mpr ⟨List.mem_of_getElem? (i := 1248) (by decide +kernel), by decide +kernel⟩), rfl, by decide, by decide, by decide +kernel⟩
theorem kw_line : GoodIn wsA (wsV RREF 213 RREF y_line (.code y_line cb_line 4 (some .int) :: wsA)) ∧ y_line.cls = RREF ∧ y_line.cls ≠ "java/lang/invoke/MethodHandle" ∧ y_line.cls ≠ "java/lang/invoke/VarHandle" ∧ (parseMethodDescriptor y_line.desc).map (fun d => d.parameters.length) = some 1 := ⟨gV (List.mem_filter.mpr ⟨List.mem_of_getElem? (i := 1233) (by decide +kernel), by decide +kernel⟩) (List.mem_filter.mpr ⟨List.mem_of_getElem? (i := 1235) (by decide +kernel), by decide +kernel⟩) (List.mem_filter.mpr ⟨List.mem_of_getElem? (i := 52) (by decide +kernel), by decide +kernel⟩) (List.mem_filter.mpr ⟨List.mem_of_getElem? (i := 99) (by decide +kernel), by decide +kernel⟩) (List.mem_filter.mpr ⟨List.mem_of_getElem? (i := 1236) (by decide +kernel), by decide +kernel⟩), rfl, by decide, by decide, by decide +kernel⟩
theorem kw_put : GoodIn wsA (wsV RREF 222 RREF y_put (.code y_put cb_put 2 none :: wsA)) ∧ y_put.cls = RREF ∧ y_put.cls ≠ "java/lang/invoke/MethodHandle" ∧ y_put.cls ≠ "java/lang/invoke/VarHandle" ∧ (parseMethodDescriptor y_put.desc).map (fun d => d.parameters.length) = some 1 := ⟨gV (List.mem_filter.mpr ⟨List.mem_of_getElem? (i := 1385) (by decide +kernel), by decide +kernel⟩) (List.mem_filter.mpr ⟨List.mem_of_getElem? (i := 1387) (by decide +kernel), by decide +kernel⟩) (List.mem_filter.mpr ⟨List.mem_of_getElem? (i := 89) (by decide +kernel), by decide +kernel⟩) (List.mem_filter.mpr ⟨List.mem_of_getElem? (i := 99) (by decide +kernel), by decide +kernel⟩) (List.mem_filter.mpr ⟨List.mem_of_getElem? (i := 1388) (by decide +kernel), by decide +kernel⟩), rfl, by decide, by decide, by decide +kernel⟩
theorem kw_putNumber : GoodIn wsA (wsV RREF 230 RREF y_putNumber (.code y_putNumber cb_putNumber 5 none :: wsA)) ∧ y_putNumber.cls = RREF ∧ y_putNumber.cls ≠ "java/lang/invoke/MethodHandle" ∧ y_putNumber.cls ≠ "java/lang/invoke/VarHandle" ∧ (parseMethodDescriptor y_putNumber.desc).map (fun d => d.parameters.length) = some 2 := ⟨gV (List.mem_filter.mpr ⟨List.mem_of_getElem? (i := 1397) (by decide +kernel), by decide +kernel⟩) (List.mem_filter.mpr ⟨List.mem_of_getElem? (i := 1399) (by decide +kernel), by decide +kernel⟩) (List.mem_filter.mpr ⟨List.mem_of_getElem? (i := 92) (by decide +kernel), by decide +kernel⟩) (List.mem_filter.mpr ⟨List.mem_of_getElem? (i := 99) (by decide +kernel), by decide +kernel⟩) (List.mem_filter.mpr ⟨List.mem_of_getElem? (i := 1400) (by decide +kernel), by decide +kernel⟩), rfl, by decide, by decide, by decide +kernel⟩
theorem kw_putQuoted : GoodIn wsA (wsV RREF 226 RREF y_putQuoted (.code y_putQuoted cb_putQuoted 5 none :: wsA)) ∧ y_putQuoted.cls = RREF ∧ y_putQuoted.cls ≠ "java/lang/invoke/MethodHandle" ∧ y_putQuoted.cls ≠ "java/lang/invoke/VarHandle" ∧ (parseMethodDescriptor y_putQuoted.desc).map (fun d => d.parameters.length) = some 2 := ⟨gV (List.mem_filter.mpr ⟨List.mem_of_getElem? (i := 1381) (by decide +kernel), by decide +kernel⟩) (List.mem_filter.mpr ⟨List.mem_of_getElem? (i := 1383) (by decide +kernel), by decide +kernel⟩) (List.mem_filter.mpr ⟨List.mem_of_getElem? (i := 88) (by decide +kernel), by decide +kernel⟩) (List.mem_filter.mpr ⟨List.mem_of_getElem? (i := 99) (by decide +kernel), by decide +kernel⟩) (List.mem_filter.mpr ⟨List.mem_of_getElem? (i := 1384) (by decide +kernel), by decide +kernel⟩), rfl, by decide, by decide, by decide +kernel⟩
theorem kw_putKey : GoodIn wsA (wsV RREF 242 RREF y_putKey (.code y_putKey cb_putKey 4 none :: wsA)) ∧ y_putKey.cls = RREF ∧ y_putKey.cls ≠ "java/lang/invoke/MethodHandle" ∧ y_putKey.cls ≠ "java/lang/invoke/VarHandle" ∧ (parseMethodDescriptor y_putKey.desc).map (fun d => d.parameters.length) = some 1 := ⟨gV (List.mem_filter.mpr ⟨List.mem_of_getElem? (i := 1377) (by decide +kernel), by decide +kernel⟩) (List.mem_filter.mpr ⟨List.mem_of_getElem? (i := 1379) (by decide +kernel), by decide +kernel⟩) (List.mem_filter.mpr ⟨List.mem_of_getElem? (i := 87) (by decide +kernel), by decide +kernel⟩) (List.mem_filter.mpr ⟨List.mem_of_getElem? (i := 99) (by decide +kernel), by decide +kernel⟩) (List.mem_filter.mpr ⟨List.mem_of_getElem? (i := 1380) (by decide +kernel), by decide +kernel⟩), rfl, by decide, by decide, by decide +kernel⟩
theorem kw_putHead : GoodIn wsA (wsV RREF 233 RREF y_putHead (.code y_putHead cb_putHead 4 none :: wsA)) ∧ y_putHead.cls = RREF ∧ y_putHead.cls ≠ "java/lang/invoke/MethodHandle" ∧ y_putHead.cls ≠ "java/lang/invoke/VarHandle" ∧ (parseMethodDescriptor y_putHead.desc).map (fun d => d.parameters.length) = some 1 := ⟨gV (List.mem_filter.mpr ⟨List.mem_of_getElem? (i := 1393) (by decide +kernel), by decide +kernel⟩) (List.mem_filter.mpr ⟨List.mem_of_getElem? (i := 1395) (by decide +kernel), by decide +kernel⟩) (List.mem_filter.mpr ⟨List.mem_of_getElem? (i := 91) (by decide +kernel), by decide +kernel⟩) (List.mem_filter.mpr ⟨List.mem_of_getElem? (i := 99) (by decide +kernel), by decide +kernel⟩) (List.mem_filter.mpr ⟨List.mem_of_getElem? (i := 1396) (by decide +kernel), by decide +kernel⟩), rfl, by decide, by decide, by decide +kernel⟩
theorem kw_holds : GoodIn wsA (wsV RREF 236 RREF y_holds (.code y_holds cb_holds 2 (some .boolean) :: wsA)) ∧ y_holds.cls = RREF ∧ y_holds.cls ≠ "java/lang/invoke/MethodHandle" ∧ y_holds.cls ≠ "java/lang/invoke/VarHandle" ∧ (parseMethodDescriptor y_holds.desc).map (fun d => d.parameters.length) = some 1 := ⟨gV (List.mem_filter.mpr ⟨List.mem_of_getElem? (i := 1401) (by decide +kernel), by decide +kernel⟩) (List.mem_filter.mpr ⟨List.mem_of_getElem? (i := 1403) (by decide +kernel), by decide +kernel⟩) (List.mem_filter.mpr ⟨List.mem_of_getElem? (i := 93) (by decide +kernel), by decide +kernel⟩) (List.mem_filter.mpr ⟨List.mem_of_getElem? (i := 99) (by decide +kernel), by decide +kernel⟩) (List.mem_filter.mpr ⟨List.mem_of_getElem? (i := 1404) (by decide +kernel), by decide +kernel⟩), rfl, by decide, by decide, by decide +kernel⟩
theorem kw_putValue : GoodIn wsA (wsV RREF 245 RREF y_putValue (.code y_putValue cb_putValue 5 none :: wsA)) ∧ y_putValue.cls = RREF ∧ y_putValue.cls ≠ "java/lang/invoke/MethodHandle" ∧ y_putValue.cls ≠ "java/lang/invoke/VarHandle" ∧ (parseMethodDescriptor y_putValue.desc).map (fun d => d.parameters.length) = some 1 := ⟨gV (List.mem_filter.mpr ⟨List.mem_of_getElem? (i := 1389) (by decide +kernel), by decide +kernel⟩) (List.mem_filter.mpr ⟨List.mem_of_getElem? (i := 1391) (by decide +kernel), by decide +kernel⟩) (List.mem_filter.mpr ⟨List.mem_of_getElem? (i := 90) (by decide +kernel), by decide +kernel⟩) (List.mem_filter.mpr ⟨List.mem_of_getElem? (i := 99) (by decide +kernel), by decide +kernel⟩) (List.mem_filter.mpr ⟨List.mem_of_getElem? (i := 1392) (by decide +kernel), by decide +kernel⟩), rfl, by decide, by decide, by decide +kernel⟩
theorem kw_putEntry : GoodIn wsA (wsV RREF 239 RREF y_putEntry (.code y_putEntry cb_putEntry 2 none :: wsA)) ∧ y_putEntry.cls = RREF ∧ y_putEntry.cls ≠ "java/lang/invoke/MethodHandle" ∧ y_putEntry.cls ≠ "java/lang/invoke/VarHandle" ∧ (parseMethodDescriptor y_putEntry.desc).map (fun d => d.parameters.length) = some 1 := ⟨gV (List.mem_filter.mpr ⟨List.mem_of_getElem? (i := 1405) (by decide +kernel), by decide +kernel⟩) (List.mem_filter.mpr ⟨List.mem_of_getElem? (i := 1407) (by decide +kernel), by decide +kernel⟩) (List.mem_filter.mpr ⟨List.mem_of_getElem? (i := 94) (by decide +kernel), by decide +kernel⟩) (List.mem_filter.mpr ⟨List.mem_of_getElem? (i := 99) (by decide +kernel), by decide +kernel⟩) (List.mem_filter.mpr ⟨List.mem_of_getElem? (i := 1408) (by decide +kernel), by decide +kernel⟩), rfl, by decide, by decide, by decide +kernel⟩
end
section
theorem d_thrown_0 : decode cb_thrown 0 = .ok (.aload_n 0, 1) := by decide +kernel
theorem d_thrown_1 : decode cb_thrown 1 = .ok (.getfield 67, 3) := by decide +kernel
theorem d_thrown_4 : decode cb_thrown 4 = .ok (.ireturn, 1) := by decide +kernel
theorem d_type_0 : decode cb_type 0 = .ok (.iload_n 3, 1) := by decide +kernel
theorem d_type_1 : decode cb_type 1 = .ok (.iconst 1, 1) := by decide +kernel
theorem d_type_2 : decode cb_type 2 = .ok (.if_icmp .lt 9, 3) := by decide +kernel
theorem d_type_5 : decode cb_type 5 = .ok (.iload_n 3, 1) := by decide +kernel
theorem d_type_6 : decode cb_type 6 = .ok (.bipush 8, 2) := by decide +kernel
theorem d_type_8 : decode cb_type 8 = .ok (.if_icmp .le 7, 3) := by decide +kernel
theorem d_type_11 : decode cb_type 11 = .ok (.iconst 1, 1) := by decide +kernel
theorem d_type_12 : decode cb_type 12 = .ok (.goto 4, 3) := by decide +kernel
theorem d_type_15 : decode cb_type 15 = .ok (.iconst 0, 1) := by decide +kernel
theorem d_type_16 : decode cb_type 16 = .ok (.istore 4, 2) := by decide +kernel
theorem d_type_18 : decode cb_type 18 = .ok (.iconst 0, 1) := by decide +kernel
theorem d_type_19 : decode cb_type 19 = .ok (.istore 5, 2) := by decide +kernel
theorem d_type_21 : decode cb_type 21 = .ok (.iload 5, 2) := by decide +kernel
theorem d_type_23 : decode cb_type 23 = .ok (.iload_n 3, 1) := by decide +kernel
theorem d_type_24 : decode cb_type 24 = .ok (.if_icmp .ge 56, 3) := by decide +kernel
theorem d_type_27 : decode cb_type 27 = .ok (.iload 4, 2) := by decide +kernel
theorem d_type_29 : decode cb_type 29 = .ok (.ifCond .ne 51, 3) := by decide +kernel
theorem d_type_32 : decode cb_type 32 = .ok (.lload_n 1, 1) := by decide +kernel
theorem d_type_33 : decode cb_type 33 = .ok (.bipush 8, 2) := by decide +kernel
theorem d_type_35 : decode cb_type 35 = .ok (.iload 5, 2) := by decide +kernel
theorem d_type_37 : decode cb_type 37 = .ok (.imul, 1) := by decide +kernel
theorem d_type_38 : decode cb_type 38 = .ok (.lshr, 1) := by decide +kernel
theorem d_type_39 : decode cb_type 39 = .ok (.ldc2_w 71, 3) := by decide +kernel
theorem d_type_42 : decode cb_type 42 = .ok (.land, 1) := by decide +kernel
theorem d_type_43 : decode cb_type 43 = .ok (.l2i, 1) := by decide +kernel
theorem d_type_44 : decode cb_type 44 = .ok (.istore 6, 2) := by decide +kernel
theorem d_type_46 : decode cb_type 46 = .ok (.iload 6, 2) := by decide +kernel
theorem d_type_48 : decode cb_type 48 = .ok (.bipush 10, 2) := by decide +kernel
theorem d_type_50 : decode cb_type 50 = .ok (.if_icmp .eq 21, 3) := by decide +kernel
theorem d_type_53 : decode cb_type 53 = .ok (.iload 6, 2) := by decide +kernel
theorem d_type_55 : decode cb_type 55 = .ok (.bipush 32, 2) := by decide +kernel
theorem d_type_57 : decode cb_type 57 = .ok (.if_icmp .lt 10, 3) := by decide +kernel
theorem d_type_60 : decode cb_type 60 = .ok (.iload 6, 2) := by decide +kernel
theorem d_type_62 : decode cb_type 62 = .ok (.bipush 126, 2) := by decide +kernel
theorem d_type_64 : decode cb_type 64 = .ok (.if_icmp .le 7, 3) := by decide +kernel
theorem d_type_67 : decode cb_type 67 = .ok (.iconst 1, 1) := by decide +kernel
theorem d_type_68 : decode cb_type 68 = .ok (.goto 4, 3) := by decide +kernel
theorem d_type_71 : decode cb_type 71 = .ok (.iconst 0, 1) := by decide +kernel
theorem d_type_72 : decode cb_type 72 = .ok (.istore 4, 2) := by decide +kernel
theorem d_type_74 : decode cb_type 74 = .ok (.iinc 5 1, 3) := by decide +kernel
theorem d_type_77 : decode cb_type 77 = .ok (.goto (-56), 3) := by decide +kernel
theorem d_type_80 : decode cb_type 80 = .ok (.aload_n 0, 1) := by decide +kernel
theorem d_type_81 : decode cb_type 81 = .ok (.iload 4, 2) := by decide +kernel
theorem d_type_83 : decode cb_type 83 = .ok (.ifCond .eq 7, 3) := by decide +kernel
theorem d_type_86 : decode cb_type 86 = .ok (.iconst 1, 1) := by decide +kernel
theorem d_type_87 : decode cb_type 87 = .ok (.goto 20, 3) := by decide +kernel
theorem d_type_90 : decode cb_type 90 = .ok (.aload_n 0, 1) := by decide +kernel
theorem d_type_91 : decode cb_type 91 = .ok (.getfield 73, 3) := by decide +kernel
theorem d_type_94 : decode cb_type 94 = .ok (.iload_n 3, 1) := by decide +kernel
theorem d_type_95 : decode cb_type 95 = .ok (.iadd, 1) := by decide +kernel
theorem d_type_96 : decode cb_type 96 = .ok (.sipush 240, 3) := by decide +kernel
theorem d_type_99 : decode cb_type 99 = .ok (.if_icmp .le 7, 3) := by decide +kernel
theorem d_type_102 : decode cb_type 102 = .ok (.iconst 2, 1) := by decide +kernel
theorem d_type_103 : decode cb_type 103 = .ok (.goto 4, 3) := by decide +kernel
theorem d_type_106 : decode cb_type 106 = .ok (.iconst 0, 1) := by decide +kernel
theorem d_type_107 : decode cb_type 107 = .ok (.putfield 67, 3) := by decide +kernel
theorem d_type_110 : decode cb_type 110 = .ok (.aload_n 0, 1) := by decide +kernel
theorem d_type_111 : decode cb_type 111 = .ok (.getfield 67, 3) := by decide +kernel
theorem d_type_114 : decode cb_type 114 = .ok (.ifCond .eq 5, 3) := by decide +kernel
theorem d_type_117 : decode cb_type 117 = .ok (.iconst 0, 1) := by decide +kernel
theorem d_type_118 : decode cb_type 118 = .ok (.ireturn, 1) := by decide +kernel
theorem d_type_119 : decode cb_type 119 = .ok (.iload_n 3, 1) := by decide +kernel
theorem d_type_120 : decode cb_type 120 = .ok (.iconst 1, 1) := by decide +kernel
theorem d_type_121 : decode cb_type 121 = .ok (.isub, 1) := by decide +kernel
theorem d_type_122 : decode cb_type 122 = .ok (.istore 5, 2) := by decide +kernel
theorem d_type_124 : decode cb_type 124 = .ok (.iload 5, 2) := by decide +kernel
theorem d_type_126 : decode cb_type 126 = .ok (.ifCond .lt 40, 3) := by decide +kernel
theorem d_type_129 : decode cb_type 129 = .ok (.aload_n 0, 1) := by decide +kernel
theorem d_type_130 : decode cb_type 130 = .ok (.getfield 7, 3) := by decide +kernel
theorem d_type_133 : decode cb_type 133 = .ok (.aload_n 0, 1) := by decide +kernel
theorem d_type_134 : decode cb_type 134 = .ok (.getfield 73, 3) := by decide +kernel
theorem d_type_137 : decode cb_type 137 = .ok (.lload_n 1, 1) := by decide +kernel
theorem d_type_138 : decode cb_type 138 = .ok (.bipush 8, 2) := by decide +kernel
theorem d_type_140 : decode cb_type 140 = .ok (.iload 5, 2) := by decide +kernel
theorem d_type_142 : decode cb_type 142 = .ok (.imul, 1) := by decide +kernel
theorem d_type_143 : decode cb_type 143 = .ok (.lshr, 1) := by decide +kernel
theorem d_type_144 : decode cb_type 144 = .ok (.ldc2_w 71, 3) := by decide +kernel
theorem d_type_147 : decode cb_type 147 = .ok (.land, 1) := by decide +kernel
theorem d_type_148 : decode cb_type 148 = .ok (.l2i, 1) := by decide +kernel
theorem d_type_149 : decode cb_type 149 = .ok (.iastore, 1) := by decide +kernel
theorem d_type_150 : decode cb_type 150 = .ok (.aload_n 0, 1) := by decide +kernel
theorem d_type_151 : decode cb_type 151 = .ok (.dup, 1) := by decide +kernel
theorem d_type_152 : decode cb_type 152 = .ok (.getfield 73, 3) := by decide +kernel
theorem d_type_155 : decode cb_type 155 = .ok (.iconst 1, 1) := by decide +kernel
theorem d_type_156 : decode cb_type 156 = .ok (.iadd, 1) := by decide +kernel
theorem d_type_157 : decode cb_type 157 = .ok (.putfield 73, 3) := by decide +kernel
theorem d_type_160 : decode cb_type 160 = .ok (.iinc 5 (-1), 3) := by decide +kernel
theorem d_type_163 : decode cb_type 163 = .ok (.goto (-39), 3) := by decide +kernel
theorem d_type_166 : decode cb_type 166 = .ok (.aload_n 0, 1) := by decide +kernel
theorem d_type_167 : decode cb_type 167 = .ok (.getfield 73, 3) := by decide +kernel
theorem d_type_170 : decode cb_type 170 = .ok (.ireturn, 1) := by decide +kernel
theorem d_here_0 : decode cb_here 0 = .ok (.aload_n 0, 1) := by decide +kernel
theorem d_here_1 : decode cb_here 1 = .ok (.getfield 76, 3) := by decide +kernel
theorem d_here_4 : decode cb_here 4 = .ok (.aload_n 0, 1) := by decide +kernel
theorem d_here_5 : decode cb_here 5 = .ok (.getfield 73, 3) := by decide +kernel
theorem d_here_8 : decode cb_here 8 = .ok (.if_icmp .ge 15, 3) := by decide +kernel
theorem d_here_11 : decode cb_here 11 = .ok (.aload_n 0, 1) := by decide +kernel
theorem d_here_12 : decode cb_here 12 = .ok (.getfield 7, 3) := by decide +kernel
theorem d_here_15 : decode cb_here 15 = .ok (.aload_n 0, 1) := by decide +kernel
theorem d_here_16 : decode cb_here 16 = .ok (.getfield 76, 3) := by decide +kernel
theorem d_here_19 : decode cb_here 19 = .ok (.iaload, 1) := by decide +kernel
theorem d_here_20 : decode cb_here 20 = .ok (.goto 4, 3) := by decide +kernel
theorem d_here_23 : decode cb_here 23 = .ok (.iconst 0, 1) := by decide +kernel
theorem d_here_24 : decode cb_here 24 = .ok (.ireturn, 1) := by decide +kernel
theorem d_fail_0 : decode cb_fail 0 = .ok (.aload_n 0, 1) := by decide +kernel
theorem d_fail_1 : decode cb_fail 1 = .ok (.iload_n 1, 1) := by decide +kernel
theorem d_fail_2 : decode cb_fail 2 = .ok (.putfield 79, 3) := by decide +kernel
theorem d_fail_5 : decode cb_fail 5 = .ok (.iconst 0, 1) := by decide +kernel
theorem d_fail_6 : decode cb_fail 6 = .ok (.ireturn, 1) := by decide +kernel
theorem d_blanks_0 : decode cb_blanks 0 = .ok (.aload_n 0, 1) := by decide +kernel
theorem d_blanks_1 : decode cb_blanks 1 = .ok (.invokevirtual 82, 3) := by decide +kernel
theorem d_blanks_4 : decode cb_blanks 4 = .ok (.bipush 32, 2) := by decide +kernel
theorem d_blanks_6 : decode cb_blanks 6 = .ok (.if_icmp .ne 16, 3) := by decide +kernel
theorem d_blanks_9 : decode cb_blanks 9 = .ok (.aload_n 0, 1) := by decide +kernel
theorem d_blanks_10 : decode cb_blanks 10 = .ok (.dup, 1) := by decide +kernel
theorem d_blanks_11 : decode cb_blanks 11 = .ok (.getfield 76, 3) := by decide +kernel
theorem d_blanks_14 : decode cb_blanks 14 = .ok (.iconst 1, 1) := by decide +kernel
theorem d_blanks_15 : decode cb_blanks 15 = .ok (.iadd, 1) := by decide +kernel
theorem d_blanks_16 : decode cb_blanks 16 = .ok (.putfield 76, 3) := by decide +kernel
theorem d_blanks_19 : decode cb_blanks 19 = .ok (.goto (-19), 3) := by decide +kernel
theorem d_blanks_22 : decode cb_blanks 22 = .ok (.return_, 1) := by decide +kernel
theorem d_comment_0 : decode cb_comment 0 = .ok (.aload_n 0, 1) := by decide +kernel
theorem d_comment_1 : decode cb_comment 1 = .ok (.invokevirtual 82, 3) := by decide +kernel
theorem d_comment_4 : decode cb_comment 4 = .ok (.bipush 10, 2) := by decide +kernel
theorem d_comment_6 : decode cb_comment 6 = .ok (.if_icmp .eq 27, 3) := by decide +kernel
theorem d_comment_9 : decode cb_comment 9 = .ok (.aload_n 0, 1) := by decide +kernel
theorem d_comment_10 : decode cb_comment 10 = .ok (.getfield 76, 3) := by decide +kernel
theorem d_comment_13 : decode cb_comment 13 = .ok (.aload_n 0, 1) := by decide +kernel
theorem d_comment_14 : decode cb_comment 14 = .ok (.getfield 73, 3) := by decide +kernel
theorem d_comment_17 : decode cb_comment 17 = .ok (.if_icmp .ge 16, 3) := by decide +kernel
theorem d_comment_20 : decode cb_comment 20 = .ok (.aload_n 0, 1) := by decide +kernel
theorem d_comment_21 : decode cb_comment 21 = .ok (.dup, 1) := by decide +kernel
theorem d_comment_22 : decode cb_comment 22 = .ok (.getfield 76, 3) := by decide +kernel
theorem d_comment_25 : decode cb_comment 25 = .ok (.iconst 1, 1) := by decide +kernel
theorem d_comment_26 : decode cb_comment 26 = .ok (.iadd, 1) := by decide +kernel
theorem d_comment_27 : decode cb_comment 27 = .ok (.putfield 76, 3) := by decide +kernel
theorem d_comment_30 : decode cb_comment 30 = .ok (.goto (-30), 3) := by decide +kernel
theorem d_comment_33 : decode cb_comment 33 = .ok (.return_, 1) := by decide +kernel
theorem d_room_0 : decode cb_room 0 = .ok (.aload_n 0, 1) := by decide +kernel
theorem d_room_1 : decode cb_room 1 = .ok (.invokevirtual 82, 3) := by decide +kernel
theorem d_room_4 : decode cb_room 4 = .ok (.bipush 32, 2) := by decide +kernel
theorem d_room_6 : decode cb_room 6 = .ok (.if_icmp .eq 21, 3) := by decide +kernel
theorem d_room_9 : decode cb_room 9 = .ok (.aload_n 0, 1) := by decide +kernel
theorem d_room_10 : decode cb_room 10 = .ok (.invokevirtual 82, 3) := by decide +kernel
theorem d_room_13 : decode cb_room 13 = .ok (.bipush 10, 2) := by decide +kernel
theorem d_room_15 : decode cb_room 15 = .ok (.if_icmp .eq 12, 3) := by decide +kernel
theorem d_room_18 : decode cb_room 18 = .ok (.aload_n 0, 1) := by decide +kernel
theorem d_room_19 : decode cb_room 19 = .ok (.invokevirtual 82, 3) := by decide +kernel
theorem d_room_22 : decode cb_room 22 = .ok (.bipush 35, 2) := by decide +kernel
theorem d_room_24 : decode cb_room 24 = .ok (.if_icmp .ne 32, 3) := by decide +kernel
theorem d_room_27 : decode cb_room 27 = .ok (.aload_n 0, 1) := by decide +kernel
theorem d_room_28 : decode cb_room 28 = .ok (.invokevirtual 82, 3) := by decide +kernel
theorem d_room_31 : decode cb_room 31 = .ok (.bipush 35, 2) := by decide +kernel
theorem d_room_33 : decode cb_room 33 = .ok (.if_icmp .ne 10, 3) := by decide +kernel
theorem d_room_36 : decode cb_room 36 = .ok (.aload_n 0, 1) := by decide +kernel
theorem d_room_37 : decode cb_room 37 = .ok (.invokevirtual 86, 3) := by decide +kernel
theorem d_room_40 : decode cb_room 40 = .ok (.goto (-40), 3) := by decide +kernel
theorem d_room_43 : decode cb_room 43 = .ok (.aload_n 0, 1) := by decide +kernel
theorem d_room_44 : decode cb_room 44 = .ok (.dup, 1) := by decide +kernel
theorem d_room_45 : decode cb_room 45 = .ok (.getfield 76, 3) := by decide +kernel
theorem d_room_48 : decode cb_room 48 = .ok (.iconst 1, 1) := by decide +kernel
theorem d_room_49 : decode cb_room 49 = .ok (.iadd, 1) := by decide +kernel
theorem d_room_50 : decode cb_room 50 = .ok (.putfield 76, 3) := by decide +kernel
theorem d_room_53 : decode cb_room 53 = .ok (.goto (-53), 3) := by decide +kernel
theorem d_room_56 : decode cb_room 56 = .ok (.return_, 1) := by decide +kernel
theorem d_isDigit_0 : decode cb_isDigit 0 = .ok (.iload_n 1, 1) := by decide +kernel
theorem d_isDigit_1 : decode cb_isDigit 1 = .ok (.bipush 48, 2) := by decide +kernel
theorem d_isDigit_3 : decode cb_isDigit 3 = .ok (.if_icmp .lt 13, 3) := by decide +kernel
theorem d_isDigit_6 : decode cb_isDigit 6 = .ok (.iload_n 1, 1) := by decide +kernel
theorem d_isDigit_7 : decode cb_isDigit 7 = .ok (.bipush 57, 2) := by decide +kernel
theorem d_isDigit_9 : decode cb_isDigit 9 = .ok (.if_icmp .gt 7, 3) := by decide +kernel
theorem d_isDigit_12 : decode cb_isDigit 12 = .ok (.iconst 1, 1) := by decide +kernel
theorem d_isDigit_13 : decode cb_isDigit 13 = .ok (.goto 4, 3) := by decide +kernel
theorem d_isDigit_16 : decode cb_isDigit 16 = .ok (.iconst 0, 1) := by decide +kernel
theorem d_isDigit_17 : decode cb_isDigit 17 = .ok (.ireturn, 1) := by decide +kernel
theorem d_isBare_0 : decode cb_isBare 0 = .ok (.iload_n 1, 1) := by decide +kernel
theorem d_isBare_1 : decode cb_isBare 1 = .ok (.bipush 97, 2) := by decide +kernel
theorem d_isBare_3 : decode cb_isBare 3 = .ok (.if_icmp .lt 9, 3) := by decide +kernel
theorem d_isBare_6 : decode cb_isBare 6 = .ok (.iload_n 1, 1) := by decide +kernel
theorem d_isBare_7 : decode cb_isBare 7 = .ok (.bipush 122, 2) := by decide +kernel
theorem d_isBare_9 : decode cb_isBare 9 = .ok (.if_icmp .le 35, 3) := by decide +kernel
theorem d_isBare_12 : decode cb_isBare 12 = .ok (.iload_n 1, 1) := by decide +kernel
theorem d_isBare_13 : decode cb_isBare 13 = .ok (.bipush 65, 2) := by decide +kernel
theorem d_isBare_15 : decode cb_isBare 15 = .ok (.if_icmp .lt 9, 3) := by decide +kernel
theorem d_isBare_18 : decode cb_isBare 18 = .ok (.iload_n 1, 1) := by decide +kernel
theorem d_isBare_19 : decode cb_isBare 19 = .ok (.bipush 90, 2) := by decide +kernel
theorem d_isBare_21 : decode cb_isBare 21 = .ok (.if_icmp .le 23, 3) := by decide +kernel
theorem d_isBare_24 : decode cb_isBare 24 = .ok (.aload_n 0, 1) := by decide +kernel
theorem d_isBare_25 : decode cb_isBare 25 = .ok (.iload_n 1, 1) := by decide +kernel
theorem d_isBare_26 : decode cb_isBare 26 = .ok (.invokevirtual 89, 3) := by decide +kernel
theorem d_isBare_29 : decode cb_isBare 29 = .ok (.ifCond .ne 15, 3) := by decide +kernel
theorem d_isBare_32 : decode cb_isBare 32 = .ok (.iload_n 1, 1) := by decide +kernel
theorem d_isBare_33 : decode cb_isBare 33 = .ok (.bipush 95, 2) := by decide +kernel
theorem d_isBare_35 : decode cb_isBare 35 = .ok (.if_icmp .eq 9, 3) := by decide +kernel
theorem d_isBare_38 : decode cb_isBare 38 = .ok (.iload_n 1, 1) := by decide +kernel
theorem d_isBare_39 : decode cb_isBare 39 = .ok (.bipush 45, 2) := by decide +kernel
theorem d_isBare_41 : decode cb_isBare 41 = .ok (.if_icmp .ne 7, 3) := by decide +kernel
theorem d_isBare_44 : decode cb_isBare 44 = .ok (.iconst 1, 1) := by decide +kernel
theorem d_isBare_45 : decode cb_isBare 45 = .ok (.goto 4, 3) := by decide +kernel
theorem d_isBare_48 : decode cb_isBare 48 = .ok (.iconst 0, 1) := by decide +kernel
theorem d_isBare_49 : decode cb_isBare 49 = .ok (.ireturn, 1) := by decide +kernel
theorem d_begin_0 : decode cb_begin 0 = .ok (.aload_n 0, 1) := by decide +kernel
theorem d_begin_1 : decode cb_begin 1 = .ok (.sipush 300, 3) := by decide +kernel
theorem d_begin_4 : decode cb_begin 4 = .ok (.aload_n 0, 1) := by decide +kernel
theorem d_begin_5 : decode cb_begin 5 = .ok (.getfield 93, 3) := by decide +kernel
theorem d_begin_8 : decode cb_begin 8 = .ok (.imul, 1) := by decide +kernel
theorem d_begin_9 : decode cb_begin 9 = .ok (.aload_n 0, 1) := by decide +kernel
theorem d_begin_10 : decode cb_begin 10 = .ok (.getfield 43, 3) := by decide +kernel
theorem d_begin_13 : decode cb_begin 13 = .ok (.aload_n 0, 1) := by decide +kernel
theorem d_begin_14 : decode cb_begin 14 = .ok (.getfield 93, 3) := by decide +kernel
theorem d_begin_17 : decode cb_begin 17 = .ok (.iaload, 1) := by decide +kernel
theorem d_begin_18 : decode cb_begin 18 = .ok (.iadd, 1) := by decide +kernel
theorem d_begin_19 : decode cb_begin 19 = .ok (.putfield 96, 3) := by decide +kernel
theorem d_begin_22 : decode cb_begin 22 = .ok (.aload_n 0, 1) := by decide +kernel
theorem d_begin_23 : decode cb_begin 23 = .ok (.iconst 0, 1) := by decide +kernel
theorem d_begin_24 : decode cb_begin 24 = .ok (.putfield 99, 3) := by decide +kernel
theorem d_begin_27 : decode cb_begin 27 = .ok (.return_, 1) := by decide +kernel
theorem d_add_0 : decode cb_add 0 = .ok (.aload_n 0, 1) := by decide +kernel
theorem d_add_1 : decode cb_add 1 = .ok (.getfield 99, 3) := by decide +kernel
theorem d_add_4 : decode cb_add 4 = .ok (.bipush 30, 2) := by decide +kernel
theorem d_add_6 : decode cb_add 6 = .ok (.if_icmp .ne 9, 3) := by decide +kernel
theorem d_add_9 : decode cb_add 9 = .ok (.aload_n 0, 1) := by decide +kernel
theorem d_add_10 : decode cb_add 10 = .ok (.iload_n 2, 1) := by decide +kernel
theorem d_add_11 : decode cb_add 11 = .ok (.invokevirtual 102, 3) := by decide +kernel
theorem d_add_14 : decode cb_add 14 = .ok (.ireturn, 1) := by decide +kernel
theorem d_add_15 : decode cb_add 15 = .ok (.aload_n 0, 1) := by decide +kernel
theorem d_add_16 : decode cb_add 16 = .ok (.getfield 46, 3) := by decide +kernel
theorem d_add_19 : decode cb_add 19 = .ok (.aload_n 0, 1) := by decide +kernel
theorem d_add_20 : decode cb_add 20 = .ok (.getfield 96, 3) := by decide +kernel
theorem d_add_23 : decode cb_add 23 = .ok (.aload_n 0, 1) := by decide +kernel
theorem d_add_24 : decode cb_add 24 = .ok (.getfield 99, 3) := by decide +kernel
theorem d_add_27 : decode cb_add 27 = .ok (.iadd, 1) := by decide +kernel
theorem d_add_28 : decode cb_add 28 = .ok (.iload_n 1, 1) := by decide +kernel
theorem d_add_29 : decode cb_add 29 = .ok (.iastore, 1) := by decide +kernel
theorem d_add_30 : decode cb_add 30 = .ok (.aload_n 0, 1) := by decide +kernel
theorem d_add_31 : decode cb_add 31 = .ok (.dup, 1) := by decide +kernel
theorem d_add_32 : decode cb_add 32 = .ok (.getfield 99, 3) := by decide +kernel
theorem d_add_35 : decode cb_add 35 = .ok (.iconst 1, 1) := by decide +kernel
theorem d_add_36 : decode cb_add 36 = .ok (.iadd, 1) := by decide +kernel
theorem d_add_37 : decode cb_add 37 = .ok (.putfield 99, 3) := by decide +kernel
theorem d_add_40 : decode cb_add 40 = .ok (.aload_n 0, 1) := by decide +kernel
theorem d_add_41 : decode cb_add 41 = .ok (.getfield 43, 3) := by decide +kernel
theorem d_add_44 : decode cb_add 44 = .ok (.aload_n 0, 1) := by decide +kernel
theorem d_add_45 : decode cb_add 45 = .ok (.getfield 93, 3) := by decide +kernel
theorem d_add_48 : decode cb_add 48 = .ok (.dup2, 1) := by decide +kernel
theorem d_add_49 : decode cb_add 49 = .ok (.iaload, 1) := by decide +kernel
theorem d_add_50 : decode cb_add 50 = .ok (.iconst 1, 1) := by decide +kernel
theorem d_add_51 : decode cb_add 51 = .ok (.iadd, 1) := by decide +kernel
theorem d_add_52 : decode cb_add 52 = .ok (.iastore, 1) := by decide +kernel
theorem d_add_53 : decode cb_add 53 = .ok (.iconst 1, 1) := by decide +kernel
theorem d_add_54 : decode cb_add 54 = .ok (.ireturn, 1) := by decide +kernel
theorem d_behindBar_0 : decode cb_behindBar 0 = .ok (.iload_n 1, 1) := by decide +kernel
theorem d_behindBar_1 : decode cb_behindBar 1 = .ok (.bipush 34, 2) := by decide +kernel
theorem d_behindBar_3 : decode cb_behindBar 3 = .ok (.if_icmp .eq 9, 3) := by decide +kernel
theorem d_behindBar_6 : decode cb_behindBar 6 = .ok (.iload_n 1, 1) := by decide +kernel
theorem d_behindBar_7 : decode cb_behindBar 7 = .ok (.bipush 92, 2) := by decide +kernel
theorem d_behindBar_9 : decode cb_behindBar 9 = .ok (.if_icmp .ne 7, 3) := by decide +kernel
theorem d_behindBar_12 : decode cb_behindBar 12 = .ok (.iload_n 1, 1) := by decide +kernel
theorem d_behindBar_13 : decode cb_behindBar 13 = .ok (.goto 26, 3) := by decide +kernel
theorem d_behindBar_16 : decode cb_behindBar 16 = .ok (.iload_n 1, 1) := by decide +kernel
theorem d_behindBar_17 : decode cb_behindBar 17 = .ok (.bipush 110, 2) := by decide +kernel
theorem d_behindBar_19 : decode cb_behindBar 19 = .ok (.if_icmp .ne 8, 3) := by decide +kernel
theorem d_behindBar_22 : decode cb_behindBar 22 = .ok (.bipush 10, 2) := by decide +kernel
theorem d_behindBar_24 : decode cb_behindBar 24 = .ok (.goto 15, 3) := by decide +kernel
theorem d_behindBar_27 : decode cb_behindBar 27 = .ok (.iload_n 1, 1) := by decide +kernel
theorem d_behindBar_28 : decode cb_behindBar 28 = .ok (.bipush 116, 2) := by decide +kernel
theorem d_behindBar_30 : decode cb_behindBar 30 = .ok (.if_icmp .ne 8, 3) := by decide +kernel
theorem d_behindBar_33 : decode cb_behindBar 33 = .ok (.bipush 9, 2) := by decide +kernel
theorem d_behindBar_35 : decode cb_behindBar 35 = .ok (.goto 4, 3) := by decide +kernel
theorem d_behindBar_38 : decode cb_behindBar 38 = .ok (.iconst 0, 1) := by decide +kernel
theorem d_behindBar_39 : decode cb_behindBar 39 = .ok (.ireturn, 1) := by decide +kernel
theorem d_string_0 : decode cb_string 0 = .ok (.aload_n 0, 1) := by decide +kernel
theorem d_string_1 : decode cb_string 1 = .ok (.invokevirtual 82, 3) := by decide +kernel
theorem d_string_4 : decode cb_string 4 = .ok (.istore_n 1, 1) := by decide +kernel
theorem d_string_5 : decode cb_string 5 = .ok (.aload_n 0, 1) := by decide +kernel
theorem d_string_6 : decode cb_string 6 = .ok (.invokevirtual 105, 3) := by decide +kernel
theorem d_string_9 : decode cb_string 9 = .ok (.aload_n 0, 1) := by decide +kernel
theorem d_string_10 : decode cb_string 10 = .ok (.dup, 1) := by decide +kernel
theorem d_string_11 : decode cb_string 11 = .ok (.getfield 76, 3) := by decide +kernel
theorem d_string_14 : decode cb_string 14 = .ok (.iconst 1, 1) := by decide +kernel
theorem d_string_15 : decode cb_string 15 = .ok (.iadd, 1) := by decide +kernel
theorem d_string_16 : decode cb_string 16 = .ok (.putfield 76, 3) := by decide +kernel
theorem d_string_19 : decode cb_string 19 = .ok (.aload_n 0, 1) := by decide +kernel
theorem d_string_20 : decode cb_string 20 = .ok (.invokevirtual 82, 3) := by decide +kernel
theorem d_string_23 : decode cb_string 23 = .ok (.iload_n 1, 1) := by decide +kernel
theorem d_string_24 : decode cb_string 24 = .ok (.if_icmp .eq 125, 3) := by decide +kernel
theorem d_string_27 : decode cb_string 27 = .ok (.aload_n 0, 1) := by decide +kernel
theorem d_string_28 : decode cb_string 28 = .ok (.invokevirtual 82, 3) := by decide +kernel
theorem d_string_31 : decode cb_string 31 = .ok (.istore_n 2, 1) := by decide +kernel
theorem d_string_32 : decode cb_string 32 = .ok (.aload_n 0, 1) := by decide +kernel
theorem d_string_33 : decode cb_string 33 = .ok (.getfield 76, 3) := by decide +kernel
theorem d_string_36 : decode cb_string 36 = .ok (.istore_n 3, 1) := by decide +kernel
theorem d_string_37 : decode cb_string 37 = .ok (.aload_n 0, 1) := by decide +kernel
theorem d_string_38 : decode cb_string 38 = .ok (.getfield 76, 3) := by decide +kernel
theorem d_string_41 : decode cb_string 41 = .ok (.aload_n 0, 1) := by decide +kernel
theorem d_string_42 : decode cb_string 42 = .ok (.getfield 73, 3) := by decide +kernel
theorem d_string_45 : decode cb_string 45 = .ok (.if_icmp .ge 9, 3) := by decide +kernel
theorem d_string_48 : decode cb_string 48 = .ok (.iload_n 2, 1) := by decide +kernel
theorem d_string_49 : decode cb_string 49 = .ok (.bipush 10, 2) := by decide +kernel
theorem d_string_51 : decode cb_string 51 = .ok (.if_icmp .ne 12, 3) := by decide +kernel
theorem d_string_54 : decode cb_string 54 = .ok (.aload_n 0, 1) := by decide +kernel
theorem d_string_55 : decode cb_string 55 = .ok (.aload_n 0, 1) := by decide +kernel
theorem d_string_56 : decode cb_string 56 = .ok (.getfield 76, 3) := by decide +kernel
theorem d_string_59 : decode cb_string 59 = .ok (.invokevirtual 102, 3) := by decide +kernel
theorem d_string_62 : decode cb_string 62 = .ok (.ireturn, 1) := by decide +kernel
theorem d_string_63 : decode cb_string 63 = .ok (.aload_n 0, 1) := by decide +kernel
theorem d_string_64 : decode cb_string 64 = .ok (.getfield 99, 3) := by decide +kernel
theorem d_string_67 : decode cb_string 67 = .ok (.bipush 30, 2) := by decide +kernel
theorem d_string_69 : decode cb_string 69 = .ok (.if_icmp .ne 12, 3) := by decide +kernel
theorem d_string_72 : decode cb_string 72 = .ok (.aload_n 0, 1) := by decide +kernel
theorem d_string_73 : decode cb_string 73 = .ok (.aload_n 0, 1) := by decide +kernel
theorem d_string_74 : decode cb_string 74 = .ok (.getfield 76, 3) := by decide +kernel
theorem d_string_77 : decode cb_string 77 = .ok (.invokevirtual 102, 3) := by decide +kernel
theorem d_string_80 : decode cb_string 80 = .ok (.ireturn, 1) := by decide +kernel
theorem d_string_81 : decode cb_string 81 = .ok (.iload_n 1, 1) := by decide +kernel
theorem d_string_82 : decode cb_string 82 = .ok (.bipush 34, 2) := by decide +kernel
theorem d_string_84 : decode cb_string 84 = .ok (.if_icmp .ne 41, 3) := by decide +kernel
theorem d_string_87 : decode cb_string 87 = .ok (.iload_n 2, 1) := by decide +kernel
theorem d_string_88 : decode cb_string 88 = .ok (.bipush 92, 2) := by decide +kernel
theorem d_string_90 : decode cb_string 90 = .ok (.if_icmp .ne 35, 3) := by decide +kernel
theorem d_string_93 : decode cb_string 93 = .ok (.aload_n 0, 1) := by decide +kernel
theorem d_string_94 : decode cb_string 94 = .ok (.dup, 1) := by decide +kernel
theorem d_string_95 : decode cb_string 95 = .ok (.getfield 76, 3) := by decide +kernel
theorem d_string_98 : decode cb_string 98 = .ok (.iconst 1, 1) := by decide +kernel
theorem d_string_99 : decode cb_string 99 = .ok (.iadd, 1) := by decide +kernel
theorem d_string_100 : decode cb_string 100 = .ok (.putfield 76, 3) := by decide +kernel
theorem d_string_103 : decode cb_string 103 = .ok (.aload_n 0, 1) := by decide +kernel
theorem d_string_104 : decode cb_string 104 = .ok (.aload_n 0, 1) := by decide +kernel
theorem d_string_105 : decode cb_string 105 = .ok (.invokevirtual 82, 3) := by decide +kernel
theorem d_string_108 : decode cb_string 108 = .ok (.invokevirtual 108, 3) := by decide +kernel
theorem d_string_111 : decode cb_string 111 = .ok (.istore_n 2, 1) := by decide +kernel
theorem d_string_112 : decode cb_string 112 = .ok (.iload_n 2, 1) := by decide +kernel
theorem d_string_113 : decode cb_string 113 = .ok (.ifCond .ne 12, 3) := by decide +kernel
theorem d_string_116 : decode cb_string 116 = .ok (.aload_n 0, 1) := by decide +kernel
theorem d_string_117 : decode cb_string 117 = .ok (.aload_n 0, 1) := by decide +kernel
theorem d_string_118 : decode cb_string 118 = .ok (.getfield 76, 3) := by decide +kernel
theorem d_string_121 : decode cb_string 121 = .ok (.invokevirtual 102, 3) := by decide +kernel
theorem d_string_124 : decode cb_string 124 = .ok (.ireturn, 1) := by decide +kernel
theorem d_string_125 : decode cb_string 125 = .ok (.aload_n 0, 1) := by decide +kernel
theorem d_string_126 : decode cb_string 126 = .ok (.iload_n 2, 1) := by decide +kernel
theorem d_string_127 : decode cb_string 127 = .ok (.iload_n 3, 1) := by decide +kernel
theorem d_string_128 : decode cb_string 128 = .ok (.invokevirtual 112, 3) := by decide +kernel
theorem d_string_131 : decode cb_string 131 = .ok (.ifCond .ne 5, 3) := by decide +kernel
theorem d_string_134 : decode cb_string 134 = .ok (.iconst 0, 1) := by decide +kernel
theorem d_string_135 : decode cb_string 135 = .ok (.ireturn, 1) := by decide +kernel
theorem d_string_136 : decode cb_string 136 = .ok (.aload_n 0, 1) := by decide +kernel
theorem d_string_137 : decode cb_string 137 = .ok (.dup, 1) := by decide +kernel
theorem d_string_138 : decode cb_string 138 = .ok (.getfield 76, 3) := by decide +kernel
theorem d_string_141 : decode cb_string 141 = .ok (.iconst 1, 1) := by decide +kernel
theorem d_string_142 : decode cb_string 142 = .ok (.iadd, 1) := by decide +kernel
theorem d_string_143 : decode cb_string 143 = .ok (.putfield 76, 3) := by decide +kernel
theorem d_string_146 : decode cb_string 146 = .ok (.goto (-127), 3) := by decide +kernel
theorem d_string_149 : decode cb_string 149 = .ok (.aload_n 0, 1) := by decide +kernel
theorem d_string_150 : decode cb_string 150 = .ok (.dup, 1) := by decide +kernel
theorem d_string_151 : decode cb_string 151 = .ok (.getfield 76, 3) := by decide +kernel
theorem d_string_154 : decode cb_string 154 = .ok (.iconst 1, 1) := by decide +kernel
theorem d_string_155 : decode cb_string 155 = .ok (.iadd, 1) := by decide +kernel
theorem d_string_156 : decode cb_string 156 = .ok (.putfield 76, 3) := by decide +kernel
theorem d_string_159 : decode cb_string 159 = .ok (.iconst 1, 1) := by decide +kernel
theorem d_string_160 : decode cb_string 160 = .ok (.ireturn, 1) := by decide +kernel
theorem d_bare_0 : decode cb_bare 0 = .ok (.aload_n 0, 1) := by decide +kernel
theorem d_bare_1 : decode cb_bare 1 = .ok (.invokevirtual 105, 3) := by decide +kernel
theorem d_bare_4 : decode cb_bare 4 = .ok (.aload_n 0, 1) := by decide +kernel
theorem d_bare_5 : decode cb_bare 5 = .ok (.aload_n 0, 1) := by decide +kernel
theorem d_bare_6 : decode cb_bare 6 = .ok (.invokevirtual 82, 3) := by decide +kernel
theorem d_bare_9 : decode cb_bare 9 = .ok (.invokevirtual 116, 3) := by decide +kernel
theorem d_bare_12 : decode cb_bare 12 = .ok (.ifCond .eq 33, 3) := by decide +kernel
theorem d_bare_15 : decode cb_bare 15 = .ok (.aload_n 0, 1) := by decide +kernel
theorem d_bare_16 : decode cb_bare 16 = .ok (.aload_n 0, 1) := by decide +kernel
theorem d_bare_17 : decode cb_bare 17 = .ok (.invokevirtual 82, 3) := by decide +kernel
theorem d_bare_20 : decode cb_bare 20 = .ok (.aload_n 0, 1) := by decide +kernel
theorem d_bare_21 : decode cb_bare 21 = .ok (.getfield 76, 3) := by decide +kernel
theorem d_bare_24 : decode cb_bare 24 = .ok (.invokevirtual 112, 3) := by decide +kernel
theorem d_bare_27 : decode cb_bare 27 = .ok (.ifCond .ne 5, 3) := by decide +kernel
theorem d_bare_30 : decode cb_bare 30 = .ok (.iconst 0, 1) := by decide +kernel
theorem d_bare_31 : decode cb_bare 31 = .ok (.ireturn, 1) := by decide +kernel
theorem d_bare_32 : decode cb_bare 32 = .ok (.aload_n 0, 1) := by decide +kernel
theorem d_bare_33 : decode cb_bare 33 = .ok (.dup, 1) := by decide +kernel
theorem d_bare_34 : decode cb_bare 34 = .ok (.getfield 76, 3) := by decide +kernel
theorem d_bare_37 : decode cb_bare 37 = .ok (.iconst 1, 1) := by decide +kernel
theorem d_bare_38 : decode cb_bare 38 = .ok (.iadd, 1) := by decide +kernel
theorem d_bare_39 : decode cb_bare 39 = .ok (.putfield 76, 3) := by decide +kernel
theorem d_bare_42 : decode cb_bare 42 = .ok (.goto (-38), 3) := by decide +kernel
theorem d_bare_45 : decode cb_bare 45 = .ok (.aload_n 0, 1) := by decide +kernel
theorem d_bare_46 : decode cb_bare 46 = .ok (.getfield 99, 3) := by decide +kernel
theorem d_bare_49 : decode cb_bare 49 = .ok (.ifCond .gt 14, 3) := by decide +kernel
theorem d_bare_52 : decode cb_bare 52 = .ok (.aload_n 0, 1) := by decide +kernel
theorem d_bare_53 : decode cb_bare 53 = .ok (.aload_n 0, 1) := by decide +kernel
theorem d_bare_54 : decode cb_bare 54 = .ok (.getfield 76, 3) := by decide +kernel
theorem d_bare_57 : decode cb_bare 57 = .ok (.invokevirtual 102, 3) := by decide +kernel
theorem d_bare_60 : decode cb_bare 60 = .ok (.ifCond .eq 7, 3) := by decide +kernel
theorem d_bare_63 : decode cb_bare 63 = .ok (.iconst 1, 1) := by decide +kernel
theorem d_bare_64 : decode cb_bare 64 = .ok (.goto 4, 3) := by decide +kernel
theorem d_bare_67 : decode cb_bare 67 = .ok (.iconst 0, 1) := by decide +kernel
theorem d_bare_68 : decode cb_bare 68 = .ok (.ireturn, 1) := by decide +kernel
theorem d_path_0 : decode cb_path 0 = .ok (.aload_n 0, 1) := by decide +kernel
theorem d_path_1 : decode cb_path 1 = .ok (.iconst 0, 1) := by decide +kernel
theorem d_path_2 : decode cb_path 2 = .ok (.putfield 119, 3) := by decide +kernel
theorem d_path_5 : decode cb_path 5 = .ok (.iconst 1, 1) := by decide +kernel
theorem d_path_6 : decode cb_path 6 = .ok (.istore_n 1, 1) := by decide +kernel
theorem d_path_7 : decode cb_path 7 = .ok (.iload_n 1, 1) := by decide +kernel
theorem d_path_8 : decode cb_path 8 = .ok (.ifCond .eq 120, 3) := by decide +kernel
theorem d_path_11 : decode cb_path 11 = .ok (.aload_n 0, 1) := by decide +kernel
theorem d_path_12 : decode cb_path 12 = .ok (.getfield 49, 3) := by decide +kernel
theorem d_path_15 : decode cb_path 15 = .ok (.aload_n 0, 1) := by decide +kernel
theorem d_path_16 : decode cb_path 16 = .ok (.getfield 119, 3) := by decide +kernel
theorem d_path_19 : decode cb_path 19 = .ok (.aload_n 0, 1) := by decide +kernel
theorem d_path_20 : decode cb_path 20 = .ok (.getfield 76, 3) := by decide +kernel
theorem d_path_23 : decode cb_path 23 = .ok (.iastore, 1) := by decide +kernel
theorem d_path_24 : decode cb_path 24 = .ok (.aload_n 0, 1) := by decide +kernel
theorem d_path_25 : decode cb_path 25 = .ok (.invokevirtual 82, 3) := by decide +kernel
theorem d_path_28 : decode cb_path 28 = .ok (.bipush 34, 2) := by decide +kernel
theorem d_path_30 : decode cb_path 30 = .ok (.if_icmp .ne 13, 3) := by decide +kernel
theorem d_path_33 : decode cb_path 33 = .ok (.aload_n 0, 1) := by decide +kernel
theorem d_path_34 : decode cb_path 34 = .ok (.invokevirtual 122, 3) := by decide +kernel
theorem d_path_37 : decode cb_path 37 = .ok (.ifCond .eq 13, 3) := by decide +kernel
theorem d_path_40 : decode cb_path 40 = .ok (.goto 12, 3) := by decide +kernel
theorem d_path_43 : decode cb_path 43 = .ok (.aload_n 0, 1) := by decide +kernel
theorem d_path_44 : decode cb_path 44 = .ok (.invokevirtual 126, 3) := by decide +kernel
theorem d_path_47 : decode cb_path 47 = .ok (.ifCond .ne 5, 3) := by decide +kernel
theorem d_path_50 : decode cb_path 50 = .ok (.iconst 0, 1) := by decide +kernel
theorem d_path_51 : decode cb_path 51 = .ok (.ireturn, 1) := by decide +kernel
theorem d_path_52 : decode cb_path 52 = .ok (.aload_n 0, 1) := by decide +kernel
theorem d_path_53 : decode cb_path 53 = .ok (.getfield 52, 3) := by decide +kernel
theorem d_path_56 : decode cb_path 56 = .ok (.aload_n 0, 1) := by decide +kernel
theorem d_path_57 : decode cb_path 57 = .ok (.getfield 119, 3) := by decide +kernel
theorem d_path_60 : decode cb_path 60 = .ok (.aload_n 0, 1) := by decide +kernel
theorem d_path_61 : decode cb_path 61 = .ok (.getfield 96, 3) := by decide +kernel
theorem d_path_64 : decode cb_path 64 = .ok (.iastore, 1) := by decide +kernel
theorem d_path_65 : decode cb_path 65 = .ok (.aload_n 0, 1) := by decide +kernel
theorem d_path_66 : decode cb_path 66 = .ok (.getfield 55, 3) := by decide +kernel
theorem d_path_69 : decode cb_path 69 = .ok (.aload_n 0, 1) := by decide +kernel
theorem d_path_70 : decode cb_path 70 = .ok (.getfield 119, 3) := by decide +kernel
theorem d_path_73 : decode cb_path 73 = .ok (.aload_n 0, 1) := by decide +kernel
theorem d_path_74 : decode cb_path 74 = .ok (.getfield 99, 3) := by decide +kernel
theorem d_path_77 : decode cb_path 77 = .ok (.iastore, 1) := by decide +kernel
theorem d_path_78 : decode cb_path 78 = .ok (.aload_n 0, 1) := by decide +kernel
theorem d_path_79 : decode cb_path 79 = .ok (.dup, 1) := by decide +kernel
theorem d_path_80 : decode cb_path 80 = .ok (.getfield 119, 3) := by decide +kernel
theorem d_path_83 : decode cb_path 83 = .ok (.iconst 1, 1) := by decide +kernel
theorem d_path_84 : decode cb_path 84 = .ok (.iadd, 1) := by decide +kernel
theorem d_path_85 : decode cb_path 85 = .ok (.putfield 119, 3) := by decide +kernel
theorem d_path_88 : decode cb_path 88 = .ok (.aload_n 0, 1) := by decide +kernel
theorem d_path_89 : decode cb_path 89 = .ok (.invokevirtual 129, 3) := by decide +kernel
theorem d_path_92 : decode cb_path 92 = .ok (.aload_n 0, 1) := by decide +kernel
theorem d_path_93 : decode cb_path 93 = .ok (.invokevirtual 82, 3) := by decide +kernel
theorem d_path_96 : decode cb_path 96 = .ok (.bipush 46, 2) := by decide +kernel
theorem d_path_98 : decode cb_path 98 = .ok (.if_icmp .ne 7, 3) := by decide +kernel
theorem d_path_101 : decode cb_path 101 = .ok (.iconst 1, 1) := by decide +kernel
theorem d_path_102 : decode cb_path 102 = .ok (.goto 4, 3) := by decide +kernel
theorem d_path_105 : decode cb_path 105 = .ok (.iconst 0, 1) := by decide +kernel
theorem d_path_106 : decode cb_path 106 = .ok (.istore_n 1, 1) := by decide +kernel
theorem d_path_107 : decode cb_path 107 = .ok (.iload_n 1, 1) := by decide +kernel
theorem d_path_108 : decode cb_path 108 = .ok (.ifCond .eq (-101), 3) := by decide +kernel
theorem d_path_111 : decode cb_path 111 = .ok (.aload_n 0, 1) := by decide +kernel
theorem d_path_112 : decode cb_path 112 = .ok (.dup, 1) := by decide +kernel
theorem d_path_113 : decode cb_path 113 = .ok (.getfield 76, 3) := by decide +kernel
theorem d_path_116 : decode cb_path 116 = .ok (.iconst 1, 1) := by decide +kernel
theorem d_path_117 : decode cb_path 117 = .ok (.iadd, 1) := by decide +kernel
theorem d_path_118 : decode cb_path 118 = .ok (.putfield 76, 3) := by decide +kernel
theorem d_path_121 : decode cb_path 121 = .ok (.aload_n 0, 1) := by decide +kernel
theorem d_path_122 : decode cb_path 122 = .ok (.invokevirtual 129, 3) := by decide +kernel
theorem d_path_125 : decode cb_path 125 = .ok (.goto (-118), 3) := by decide +kernel
theorem d_path_128 : decode cb_path 128 = .ok (.iconst 1, 1) := by decide +kernel
theorem d_path_129 : decode cb_path 129 = .ok (.ireturn, 1) := by decide +kernel
theorem d_isTable_0 : decode cb_isTable 0 = .ok (.aload_n 0, 1) := by decide +kernel
theorem d_isTable_1 : decode cb_isTable 1 = .ok (.getfield 16, 3) := by decide +kernel
theorem d_isTable_4 : decode cb_isTable 4 = .ok (.iload_n 1, 1) := by decide +kernel
theorem d_isTable_5 : decode cb_isTable 5 = .ok (.iaload, 1) := by decide +kernel
theorem d_isTable_6 : decode cb_isTable 6 = .ok (.bipush 6, 2) := by decide +kernel
theorem d_isTable_8 : decode cb_isTable 8 = .ok (.if_icmp .le 7, 3) := by decide +kernel
theorem d_isTable_11 : decode cb_isTable 11 = .ok (.iconst 1, 1) := by decide +kernel
theorem d_isTable_12 : decode cb_isTable 12 = .ok (.goto 4, 3) := by decide +kernel
theorem d_isTable_15 : decode cb_isTable 15 = .ok (.iconst 0, 1) := by decide +kernel
theorem d_isTable_16 : decode cb_isTable 16 = .ok (.ireturn, 1) := by decide +kernel
theorem d_make_0 : decode cb_make 0 = .ok (.sipush 260, 3) := by decide +kernel
theorem d_make_3 : decode cb_make 3 = .ok (.aload_n 0, 1) := by decide +kernel
theorem d_make_4 : decode cb_make 4 = .ok (.getfield 93, 3) := by decide +kernel
theorem d_make_7 : decode cb_make 7 = .ok (.imul, 1) := by decide +kernel
theorem d_make_8 : decode cb_make 8 = .ok (.aload_n 0, 1) := by decide +kernel
theorem d_make_9 : decode cb_make 9 = .ok (.getfield 13, 3) := by decide +kernel
theorem d_make_12 : decode cb_make 12 = .ok (.aload_n 0, 1) := by decide +kernel
theorem d_make_13 : decode cb_make 13 = .ok (.getfield 93, 3) := by decide +kernel
theorem d_make_16 : decode cb_make 16 = .ok (.iaload, 1) := by decide +kernel
theorem d_make_17 : decode cb_make 17 = .ok (.iadd, 1) := by decide +kernel
theorem d_make_18 : decode cb_make 18 = .ok (.istore_n 3, 1) := by decide +kernel
theorem d_make_19 : decode cb_make 19 = .ok (.aload_n 0, 1) := by decide +kernel
theorem d_make_20 : decode cb_make 20 = .ok (.getfield 13, 3) := by decide +kernel
theorem d_make_23 : decode cb_make 23 = .ok (.aload_n 0, 1) := by decide +kernel
theorem d_make_24 : decode cb_make 24 = .ok (.getfield 93, 3) := by decide +kernel
theorem d_make_27 : decode cb_make 27 = .ok (.dup2, 1) := by decide +kernel
theorem d_make_28 : decode cb_make 28 = .ok (.iaload, 1) := by decide +kernel
theorem d_make_29 : decode cb_make 29 = .ok (.iconst 1, 1) := by decide +kernel
theorem d_make_30 : decode cb_make 30 = .ok (.iadd, 1) := by decide +kernel
theorem d_make_31 : decode cb_make 31 = .ok (.iastore, 1) := by decide +kernel
theorem d_make_32 : decode cb_make 32 = .ok (.aload_n 0, 1) := by decide +kernel
theorem d_make_33 : decode cb_make 33 = .ok (.getfield 16, 3) := by decide +kernel
theorem d_make_36 : decode cb_make 36 = .ok (.iload_n 3, 1) := by decide +kernel
theorem d_make_37 : decode cb_make 37 = .ok (.iload_n 1, 1) := by decide +kernel
theorem d_make_38 : decode cb_make 38 = .ok (.iastore, 1) := by decide +kernel
theorem d_make_39 : decode cb_make 39 = .ok (.aload_n 0, 1) := by decide +kernel
theorem d_make_40 : decode cb_make 40 = .ok (.getfield 22, 3) := by decide +kernel
theorem d_make_43 : decode cb_make 43 = .ok (.iload_n 3, 1) := by decide +kernel
theorem d_make_44 : decode cb_make 44 = .ok (.iload_n 2, 1) := by decide +kernel
theorem d_make_45 : decode cb_make 45 = .ok (.iastore, 1) := by decide +kernel
theorem d_make_46 : decode cb_make 46 = .ok (.aload_n 0, 1) := by decide +kernel
theorem d_make_47 : decode cb_make 47 = .ok (.getfield 25, 3) := by decide +kernel
theorem d_make_50 : decode cb_make 50 = .ok (.iload_n 3, 1) := by decide +kernel
theorem d_make_51 : decode cb_make 51 = .ok (.iconst (-1), 1) := by decide +kernel
theorem d_make_52 : decode cb_make 52 = .ok (.iastore, 1) := by decide +kernel
theorem d_make_53 : decode cb_make 53 = .ok (.aload_n 0, 1) := by decide +kernel
theorem d_make_54 : decode cb_make 54 = .ok (.getfield 31, 3) := by decide +kernel
theorem d_make_57 : decode cb_make 57 = .ok (.iload_n 3, 1) := by decide +kernel
theorem d_make_58 : decode cb_make 58 = .ok (.iconst (-1), 1) := by decide +kernel
theorem d_make_59 : decode cb_make 59 = .ok (.iastore, 1) := by decide +kernel
theorem d_make_60 : decode cb_make 60 = .ok (.aload_n 0, 1) := by decide +kernel
theorem d_make_61 : decode cb_make 61 = .ok (.getfield 34, 3) := by decide +kernel
theorem d_make_64 : decode cb_make 64 = .ok (.iload_n 3, 1) := by decide +kernel
theorem d_make_65 : decode cb_make 65 = .ok (.iconst 0, 1) := by decide +kernel
theorem d_make_66 : decode cb_make 66 = .ok (.iastore, 1) := by decide +kernel
theorem d_make_67 : decode cb_make 67 = .ok (.aload_n 0, 1) := by decide +kernel
theorem d_make_68 : decode cb_make 68 = .ok (.getfield 19, 3) := by decide +kernel
theorem d_make_71 : decode cb_make 71 = .ok (.iload_n 3, 1) := by decide +kernel
theorem d_make_72 : decode cb_make 72 = .ok (.iconst 0, 1) := by decide +kernel
theorem d_make_73 : decode cb_make 73 = .ok (.iastore, 1) := by decide +kernel
theorem d_make_74 : decode cb_make 74 = .ok (.iload_n 2, 1) := by decide +kernel
theorem d_make_75 : decode cb_make 75 = .ok (.iconst (-1), 1) := by decide +kernel
theorem d_make_76 : decode cb_make 76 = .ok (.if_icmp .eq 52, 3) := by decide +kernel
theorem d_make_79 : decode cb_make 79 = .ok (.aload_n 0, 1) := by decide +kernel
theorem d_make_80 : decode cb_make 80 = .ok (.getfield 25, 3) := by decide +kernel
theorem d_make_83 : decode cb_make 83 = .ok (.iload_n 2, 1) := by decide +kernel
theorem d_make_84 : decode cb_make 84 = .ok (.iaload, 1) := by decide +kernel
theorem d_make_85 : decode cb_make 85 = .ok (.iconst (-1), 1) := by decide +kernel
theorem d_make_86 : decode cb_make 86 = .ok (.if_icmp .ne 13, 3) := by decide +kernel
theorem d_make_89 : decode cb_make 89 = .ok (.aload_n 0, 1) := by decide +kernel
theorem d_make_90 : decode cb_make 90 = .ok (.getfield 25, 3) := by decide +kernel
theorem d_make_93 : decode cb_make 93 = .ok (.iload_n 2, 1) := by decide +kernel
theorem d_make_94 : decode cb_make 94 = .ok (.iload_n 3, 1) := by decide +kernel
theorem d_make_95 : decode cb_make 95 = .ok (.iastore, 1) := by decide +kernel
theorem d_make_96 : decode cb_make 96 = .ok (.goto 15, 3) := by decide +kernel
theorem d_make_99 : decode cb_make 99 = .ok (.aload_n 0, 1) := by decide +kernel
theorem d_make_100 : decode cb_make 100 = .ok (.getfield 31, 3) := by decide +kernel
theorem d_make_103 : decode cb_make 103 = .ok (.aload_n 0, 1) := by decide +kernel
theorem d_make_104 : decode cb_make 104 = .ok (.getfield 28, 3) := by decide +kernel
theorem d_make_107 : decode cb_make 107 = .ok (.iload_n 2, 1) := by decide +kernel
theorem d_make_108 : decode cb_make 108 = .ok (.iaload, 1) := by decide +kernel
theorem d_make_109 : decode cb_make 109 = .ok (.iload_n 3, 1) := by decide +kernel
end
section
section RW
variable {p : Program} {l : Launch} {e : Env} {s : State} {m : MethodId} {args : Array Value} {below : List Frame} {meth : Method} {c : Code} {H : Heap} {locs : List Loc}
variable {ls : Array Slot} {D : va_G} {dA : Nat → ClassId} {hp0 : aH} {sz b0 h N : Nat} {S' : rS} {r : Int32} {Z : State → Prop}
def m_thrown (N : Nat) (S : rS) : Option Int32 :=
  some (S.1 0)
set_option maxRecDepth 100000 in
set_option maxHeartbeats 4000000 in
theorem c_thrown {S : rS} {r : Int32} (hR : RR b0 h Z) (hm : m_thrown N  S = some r) : Ct l D vwCl (tyL dA) b0 Z y_thrown (.code y_thrown cb_thrown 1 (some .int) :: wsA) 0 0 [.ref h] (rH dA h S hp0) sz (some (.int r)) (rH dA h S hp0) 0 0 := by
  refine ct_of (cc := cb_thrown) (maxL := 1) (ret := (some .int)) (lo0 := [some (.ref h)]) hR.2 (by decide) rfl (by simp [lg_sl, Value.category]) rfl (by simp [lx_all, lv_args, Value.category]) ?_
  intro p e s m args below meth c ls B hnm hl I
  obtain ⟨hx, hb, -⟩ := B.1
  unfold m_thrown at hm
  refine lv_aload_n (pc := 0) (i := 0) hx hb d_thrown_0 rfl (lx_get hl rfl) ?_
  refine r_get (pc := 1) (k := 0) (index := 67) B I (by decide) mF_67 rfl rfl d_thrown_1 ?_
  cases hm
  exact q_iret (pc := 4) B I rfl d_thrown_4
def m_here (N : Nat) (S : rS) : Option Int32 :=
  if S.1 1 ≤ S.1 3 then (some 0) else (b1 (rL S 1 (S.1 3)) (fun x1 => some x1))
set_option maxRecDepth 100000 in
set_option maxHeartbeats 4000000 in
theorem c_here {S : rS} {r : Int32} (hR : RR b0 h Z) (hm : m_here N  S = some r) : Ct l D vwCl (tyL dA) b0 Z y_here (.code y_here cb_here 1 (some .int) :: wsA) 0 0 [.ref h] (rH dA h S hp0) sz (some (.int r)) (rH dA h S hp0) 0 0 := by
  refine ct_of (cc := cb_here) (maxL := 1) (ret := (some .int)) (lo0 := [some (.ref h)]) hR.2 (by decide) rfl (by simp [lg_sl, Value.category]) rfl (by simp [lx_all, lv_args, Value.category]) ?_
  intro p e s m args below meth c ls B hnm hl I
  obtain ⟨hx, hb, -⟩ := B.1
  unfold m_here at hm
  refine lv_aload_n (pc := 0) (i := 0) hx hb d_here_0 rfl (lx_get hl rfl) ?_
  refine r_get (pc := 1) (k := 3) (index := 76) B I (by decide) mF_76 rfl rfl d_here_1 ?_
  refine lv_aload_n (pc := 4) (i := 0) hx hb d_here_4 rfl (lx_get hl rfl) ?_
  refine r_get (pc := 5) (k := 1) (index := 73) B I (by decide) mF_73 rfl rfl d_here_5 ?_
  refine lv_icmp_ge (pc := 8) (tgt := 23) hx hb d_here_8 (by decide) (fun hc => ?_) (fun hc => ?_)
  · have hm := ift hc hm
    refine lv_iconst (pc := 23) (v := 0) hx hb d_here_23 (by decide) ?_
    cases hm
    exact q_iret (pc := 24) B I rfl d_here_24
  · have hm := iff' hc hm
    refine lv_aload_n (pc := 11) (i := 0) hx hb d_here_11 rfl (lx_get hl rfl) ?_
    refine r_get (pc := 12) (k := 2) (index := 7) B I (by decide) mF_7 rfl rfl d_here_12 ?_
    refine lv_aload_n (pc := 15) (i := 0) hx hb d_here_15 rfl (lx_get hl rfl) ?_
    refine r_get (pc := 16) (k := 3) (index := 76) B I (by decide) mF_76 rfl rfl d_here_16 ?_
    refine ob1 hm (fun x1 e2 hm => ?_)
    refine r_ald (pc := 19) (j := 1) B I (by decide) (by decide) e2 d_here_19 ?_
    refine lv_goto (pc := 20) (tgt := 24) hx hb d_here_20 (by decide) ?_
    cases hm
    exact q_iret (pc := 24) B I rfl d_here_24
def m_fail (N : Nat) (p1 : Int32) (S : rS) : Option (Int32 × rS) :=
  b1 (rP S 4 p1) (fun S1 => some (0, S1))
set_option maxRecDepth 100000 in
set_option maxHeartbeats 4000000 in
theorem c_fail {p1 : Int32} {S S' : rS} {r : Int32} (hR : RR b0 h Z) (hm : m_fail N p1 S = some (r, S')) : Ct l D vwCl (tyL dA) b0 Z y_fail (.code y_fail cb_fail 2 (some .boolean) :: wsA) 0 0 [.ref h, .int p1] (rH dA h S hp0) sz (some (.int r)) (rH dA h S' hp0) 0 0 := by
  refine ct_of (cc := cb_fail) (maxL := 2) (ret := (some .boolean)) (lo0 := [some (.ref h), some (.int p1)]) hR.2 (by decide) rfl (by simp [lg_sl, Value.category]) rfl (by simp [lx_all, lv_args, Value.category]) ?_
  intro p e s m args below meth c ls B hnm hl I
  obtain ⟨hx, hb, -⟩ := B.1
  unfold m_fail at hm
  refine lv_aload_n (pc := 0) (i := 0) hx hb d_fail_0 rfl (lx_get hl rfl) ?_
  refine lv_iload_n (pc := 1) (i := 1) hx hb d_fail_1 rfl (lx_get hl rfl) ?_
  refine ob1 hm (fun S1 e2 hm => ?_)
  refine r_put (pc := 2) (k := 4) (index := 79) B hR I (by decide) mF_79 rfl rfl rfl (fun _ _ => rfl) e2 d_fail_2 (fun H locs I => ?_)
  refine lv_iconst (pc := 5) (v := 0) hx hb d_fail_5 (by decide) ?_
  cases hm
  exact q_zret (pc := 6) B I rfl (by decide) d_fail_6
def m_blanks_0F (N : Nat) (K0 : rS → Option rS) (S : rS) : Option rS :=
  b1 (m_here N S) (fun x2 => if x2 = 32 then (b1 (rP S 3 ((S.1 3) + 1)) (fun S3 => K0 S3)) else (some S))
def m_blanks_0 (N : Nat) : Nat → rS → Option rS
  | 0, _ => none
  | k + 1, S => m_blanks_0F N  (m_blanks_0 N  k)  S
set_option maxRecDepth 100000 in
set_option maxHeartbeats 4000000 in
theorem w_blanks_0F {K0 : rS → Option rS} {S : rS} (hK0 : ∀ (S : rS) (ls : Array Slot) (H : Heap) (locs : List Loc), lx ls [some (.ref h)] → AI D vwCl b0 (rH dA h S hp0) sz s.heap H locs → K0 S = some S' → W p l e { frames := 1, cells := 0, slots := 0, locals := 20 } s m args below meth c H locs 0 0 (MQ below (CQ D vwCl b0 none (rH dA h S' hp0) sz) args s 0 0 (fun q => b0 ≤ q)) (F0 m 0 ls [])) (B : BX p m c cb_blanks 1 s args (.code y_blanks cb_blanks 1 none :: wsA) RREF meth none D vwCl (tyL dA) b0 Z) (hR : RR b0 h Z) (hl : lx ls [some (.ref h)]) (I : AI D vwCl b0 (rH dA h S hp0) sz s.heap H locs)  (hm : m_blanks_0F N  K0  S = some S') : W p l e { frames := 1, cells := 0, slots := 0, locals := 20 } s m args below meth c H locs 0 0 (MQ below (CQ D vwCl b0 none (rH dA h S' hp0) sz) args s 0 0 (fun q => b0 ≤ q)) (F0 m 0 ls []) := by
  obtain ⟨hx, hb, -⟩ := B.1
  unfold m_blanks_0F at hm
  refine lv_aload_n (pc := 0) (i := 0) hx hb d_blanks_0 rfl (lx_get hl rfl) ?_
  refine ob1 hm (fun x2 e1 hm => ?_)
  refine r_call (pc := 1) (As := []) (rest := []) B hl rfl I (c_here hR e1) kw_here rfl (by decide) (by decide) rfl (by simp [Value.category]) d_blanks_1 (fun H locs I => ?_)
  refine lv_bipush (pc := 4) (v := 32) hx hb d_blanks_4 (by decide) ?_
  refine lv_icmp_ne (pc := 6) (tgt := 22) hx hb d_blanks_6 (by decide) (fun hc => ?_) (fun hc => ?_)
  · have hm := iff' hc hm
    cases hm
    exact q_vret (pc := 22) B I rfl d_blanks_22
  · have hm := ift hc hm
    refine lv_aload_n (pc := 9) (i := 0) hx hb d_blanks_9 rfl (lx_get hl rfl) ?_
    refine lv_dup (pc := 10) hx hb d_blanks_10 rfl ?_
    refine r_get (pc := 11) (k := 3) (index := 76) B I (by decide) mF_76 rfl rfl d_blanks_11 ?_
    refine lv_iconst (pc := 14) (v := 1) hx hb d_blanks_14 (by decide) ?_
    refine lv_iadd (pc := 15) hx hb d_blanks_15 ?_
    refine ob1 hm (fun S3 e4 hm => ?_)
    refine r_put (pc := 16) (k := 3) (index := 76) B hR I (by decide) mF_76 rfl rfl rfl (fun _ _ => rfl) e4 d_blanks_16 (fun H locs I => ?_)
    refine lv_goto (pc := 19) (tgt := 0) hx hb d_blanks_19 (by decide) ?_
    exact hK0  _ _ _ _ hl I hm
set_option maxRecDepth 100000 in
set_option maxHeartbeats 4000000 in
theorem w_blanks_0i (B : BX p m c cb_blanks 1 s args (.code y_blanks cb_blanks 1 none :: wsA) RREF meth none D vwCl (tyL dA) b0 Z) (hR : RR b0 h Z) (k : Nat) (S : rS) (ls : Array Slot) (H : Heap) (locs : List Loc) (hl : lx ls [some (.ref h)]) (I : AI D vwCl b0 (rH dA h S hp0) sz s.heap H locs)  (hm : m_blanks_0 N  k  S = some S') : W p l e { frames := 1, cells := 0, slots := 0, locals := 20 } s m args below meth c H locs 0 0 (MQ below (CQ D vwCl b0 none (rH dA h S' hp0) sz) args s 0 0 (fun q => b0 ≤ q)) (F0 m 0 ls []) := by
  induction k generalizing  S ls H locs with
  | zero => cases hm
  | succ k ih => exact w_blanks_0F  (fun  S ls H locs hl I hm => ih  S ls H locs hl I hm) B hR hl I hm
theorem w_blanks_0 {S : rS} (B : BX p m c cb_blanks 1 s args (.code y_blanks cb_blanks 1 none :: wsA) RREF meth none D vwCl (tyL dA) b0 Z) (hR : RR b0 h Z) (hl : lx ls [some (.ref h)]) (I : AI D vwCl b0 (rH dA h S hp0) sz s.heap H locs)  {k : Nat} (hm : m_blanks_0 N  k  S = some S') : W p l e { frames := 1, cells := 0, slots := 0, locals := 20 } s m args below meth c H locs 0 0 (MQ below (CQ D vwCl b0 none (rH dA h S' hp0) sz) args s 0 0 (fun q => b0 ≤ q)) (F0 m 0 ls []) := w_blanks_0i  B hR k  S ls H locs hl I hm
def m_blanks (N : Nat) (S : rS) : Option rS :=
  m_blanks_0 N  N S
set_option maxRecDepth 100000 in
set_option maxHeartbeats 4000000 in
theorem c_blanks {S S' : rS} (hR : RR b0 h Z) (hm : m_blanks N  S = some S') : Ct l D vwCl (tyL dA) b0 Z y_blanks (.code y_blanks cb_blanks 1 none :: wsA) 1 20 [.ref h] (rH dA h S hp0) sz none (rH dA h S' hp0) 0 0 := by
  refine ct_of (cc := cb_blanks) (maxL := 1) (ret := none) (lo0 := [some (.ref h)]) hR.2 (by decide) rfl (by simp [lg_sl, Value.category]) rfl (by simp [lx_all, lv_args, Value.category]) ?_
  intro p e s m args below meth c ls B hnm hl I
  obtain ⟨hx, hb, -⟩ := B.1
  unfold m_blanks at hm
  exact w_blanks_0  B hR hl I hm
def m_comment_0F (N : Nat) (K0 : rS → Option rS) (S : rS) : Option rS :=
  b1 (m_here N S) (fun x2 => if x2 = 10 then (some S) else (if S.1 1 ≤ S.1 3 then (some S) else (b1 (rP S 3 ((S.1 3) + 1)) (fun S3 => K0 S3))))
def m_comment_0 (N : Nat) : Nat → rS → Option rS
  | 0, _ => none
  | k + 1, S => m_comment_0F N  (m_comment_0 N  k)  S
set_option maxRecDepth 100000 in
set_option maxHeartbeats 4000000 in
theorem w_comment_0F {K0 : rS → Option rS} {S : rS} (hK0 : ∀ (S : rS) (ls : Array Slot) (H : Heap) (locs : List Loc), lx ls [some (.ref h)] → AI D vwCl b0 (rH dA h S hp0) sz s.heap H locs → K0 S = some S' → W p l e { frames := 1, cells := 0, slots := 0, locals := 20 } s m args below meth c H locs 0 0 (MQ below (CQ D vwCl b0 none (rH dA h S' hp0) sz) args s 0 0 (fun q => b0 ≤ q)) (F0 m 0 ls [])) (B : BX p m c cb_comment 1 s args (.code y_comment cb_comment 1 none :: wsA) RREF meth none D vwCl (tyL dA) b0 Z) (hR : RR b0 h Z) (hl : lx ls [some (.ref h)]) (I : AI D vwCl b0 (rH dA h S hp0) sz s.heap H locs)  (hm : m_comment_0F N  K0  S = some S') : W p l e { frames := 1, cells := 0, slots := 0, locals := 20 } s m args below meth c H locs 0 0 (MQ below (CQ D vwCl b0 none (rH dA h S' hp0) sz) args s 0 0 (fun q => b0 ≤ q)) (F0 m 0 ls []) := by
  obtain ⟨hx, hb, -⟩ := B.1
  unfold m_comment_0F at hm
  refine lv_aload_n (pc := 0) (i := 0) hx hb d_comment_0 rfl (lx_get hl rfl) ?_
  refine ob1 hm (fun x2 e1 hm => ?_)
  refine r_call (pc := 1) (As := []) (rest := []) B hl rfl I (c_here hR e1) kw_here rfl (by decide) (by decide) rfl (by simp [Value.category]) d_comment_1 (fun H locs I => ?_)
  refine lv_bipush (pc := 4) (v := 10) hx hb d_comment_4 (by decide) ?_
  refine lv_icmp_eq (pc := 6) (tgt := 33) hx hb d_comment_6 (by decide) (fun hc => ?_) (fun hc => ?_)
  · have hm := ift hc hm
    cases hm
    exact q_vret (pc := 33) B I rfl d_comment_33
  · have hm := iff' hc hm
    refine lv_aload_n (pc := 9) (i := 0) hx hb d_comment_9 rfl (lx_get hl rfl) ?_
    refine r_get (pc := 10) (k := 3) (index := 76) B I (by decide) mF_76 rfl rfl d_comment_10 ?_
    refine lv_aload_n (pc := 13) (i := 0) hx hb d_comment_13 rfl (lx_get hl rfl) ?_
    refine r_get (pc := 14) (k := 1) (index := 73) B I (by decide) mF_73 rfl rfl d_comment_14 ?_
    refine lv_icmp_ge (pc := 17) (tgt := 33) hx hb d_comment_17 (by decide) (fun hc => ?_) (fun hc => ?_)
    · have hm := ift hc hm
      cases hm
      exact q_vret (pc := 33) B I rfl d_comment_33
    · have hm := iff' hc hm
      refine lv_aload_n (pc := 20) (i := 0) hx hb d_comment_20 rfl (lx_get hl rfl) ?_
      refine lv_dup (pc := 21) hx hb d_comment_21 rfl ?_
      refine r_get (pc := 22) (k := 3) (index := 76) B I (by decide) mF_76 rfl rfl d_comment_22 ?_
      refine lv_iconst (pc := 25) (v := 1) hx hb d_comment_25 (by decide) ?_
      refine lv_iadd (pc := 26) hx hb d_comment_26 ?_
      refine ob1 hm (fun S3 e4 hm => ?_)
      refine r_put (pc := 27) (k := 3) (index := 76) B hR I (by decide) mF_76 rfl rfl rfl (fun _ _ => rfl) e4 d_comment_27 (fun H locs I => ?_)
      refine lv_goto (pc := 30) (tgt := 0) hx hb d_comment_30 (by decide) ?_
      exact hK0  _ _ _ _ hl I hm
set_option maxRecDepth 100000 in
set_option maxHeartbeats 4000000 in
theorem w_comment_0i (B : BX p m c cb_comment 1 s args (.code y_comment cb_comment 1 none :: wsA) RREF meth none D vwCl (tyL dA) b0 Z) (hR : RR b0 h Z) (k : Nat) (S : rS) (ls : Array Slot) (H : Heap) (locs : List Loc) (hl : lx ls [some (.ref h)]) (I : AI D vwCl b0 (rH dA h S hp0) sz s.heap H locs)  (hm : m_comment_0 N  k  S = some S') : W p l e { frames := 1, cells := 0, slots := 0, locals := 20 } s m args below meth c H locs 0 0 (MQ below (CQ D vwCl b0 none (rH dA h S' hp0) sz) args s 0 0 (fun q => b0 ≤ q)) (F0 m 0 ls []) := by
  induction k generalizing  S ls H locs with
  | zero => cases hm
  | succ k ih => exact w_comment_0F  (fun  S ls H locs hl I hm => ih  S ls H locs hl I hm) B hR hl I hm
theorem w_comment_0 {S : rS} (B : BX p m c cb_comment 1 s args (.code y_comment cb_comment 1 none :: wsA) RREF meth none D vwCl (tyL dA) b0 Z) (hR : RR b0 h Z) (hl : lx ls [some (.ref h)]) (I : AI D vwCl b0 (rH dA h S hp0) sz s.heap H locs)  {k : Nat} (hm : m_comment_0 N  k  S = some S') : W p l e { frames := 1, cells := 0, slots := 0, locals := 20 } s m args below meth c H locs 0 0 (MQ below (CQ D vwCl b0 none (rH dA h S' hp0) sz) args s 0 0 (fun q => b0 ≤ q)) (F0 m 0 ls []) := w_comment_0i  B hR k  S ls H locs hl I hm
def m_comment (N : Nat) (S : rS) : Option rS :=
  m_comment_0 N  N S
set_option maxRecDepth 100000 in
set_option maxHeartbeats 4000000 in
theorem c_comment {S S' : rS} (hR : RR b0 h Z) (hm : m_comment N  S = some S') : Ct l D vwCl (tyL dA) b0 Z y_comment (.code y_comment cb_comment 1 none :: wsA) 1 20 [.ref h] (rH dA h S hp0) sz none (rH dA h S' hp0) 0 0 := by
  refine ct_of (cc := cb_comment) (maxL := 1) (ret := none) (lo0 := [some (.ref h)]) hR.2 (by decide) rfl (by simp [lg_sl, Value.category]) rfl (by simp [lx_all, lv_args, Value.category]) ?_
  intro p e s m args below meth c ls B hnm hl I
  obtain ⟨hx, hb, -⟩ := B.1
  unfold m_comment at hm
  exact w_comment_0  B hR hl I hm
def m_room_27 (N : Nat) (K0 : rS → Option rS) (S : rS) : Option rS :=
  b1 (m_here N S) (fun x2 => if x2 = 35 then (b1 (m_comment N S) (fun S6 => K0 S6)) else (b1 (rP S 3 ((S.1 3) + 1)) (fun S3 => K0 S3)))
set_option maxRecDepth 100000 in
set_option maxHeartbeats 4000000 in
theorem w_room_27 {K0 : rS → Option rS} {S : rS} (hK0 : ∀ (S : rS) (ls : Array Slot) (H : Heap) (locs : List Loc), lx ls [some (.ref h)] → AI D vwCl b0 (rH dA h S hp0) sz s.heap H locs → K0 S = some S' → W p l e { frames := 2, cells := 0, slots := 0, locals := 40 } s m args below meth c H locs 0 0 (MQ below (CQ D vwCl b0 none (rH dA h S' hp0) sz) args s 0 0 (fun q => b0 ≤ q)) (F0 m 0 ls [])) (B : BX p m c cb_room 1 s args (.code y_room cb_room 1 none :: wsA) RREF meth none D vwCl (tyL dA) b0 Z) (hR : RR b0 h Z) (hl : lx ls [some (.ref h)]) (I : AI D vwCl b0 (rH dA h S hp0) sz s.heap H locs)  (hm : m_room_27 N K0  S = some S') : W p l e { frames := 2, cells := 0, slots := 0, locals := 40 } s m args below meth c H locs 0 0 (MQ below (CQ D vwCl b0 none (rH dA h S' hp0) sz) args s 0 0 (fun q => b0 ≤ q)) (F0 m 27 ls []) := by
  obtain ⟨hx, hb, -⟩ := B.1
  unfold m_room_27 at hm
  refine lv_aload_n (pc := 27) (i := 0) hx hb d_room_27 rfl (lx_get hl rfl) ?_
  refine ob1 hm (fun x2 e1 hm => ?_)
  refine r_call (pc := 28) (As := []) (rest := []) B hl rfl I (c_here hR e1) kw_here rfl (by decide) (by decide) rfl (by simp [Value.category]) d_room_28 (fun H locs I => ?_)
  refine lv_bipush (pc := 31) (v := 35) hx hb d_room_31 (by decide) ?_
  refine lv_icmp_ne (pc := 33) (tgt := 43) hx hb d_room_33 (by decide) (fun hc => ?_) (fun hc => ?_)
  · have hm := iff' hc hm
    refine lv_aload_n (pc := 43) (i := 0) hx hb d_room_43 rfl (lx_get hl rfl) ?_
    refine lv_dup (pc := 44) hx hb d_room_44 rfl ?_
    refine r_get (pc := 45) (k := 3) (index := 76) B I (by decide) mF_76 rfl rfl d_room_45 ?_
    refine lv_iconst (pc := 48) (v := 1) hx hb d_room_48 (by decide) ?_
    refine lv_iadd (pc := 49) hx hb d_room_49 ?_
    refine ob1 hm (fun S3 e4 hm => ?_)
    refine r_put (pc := 50) (k := 3) (index := 76) B hR I (by decide) mF_76 rfl rfl rfl (fun _ _ => rfl) e4 d_room_50 (fun H locs I => ?_)
    refine lv_goto (pc := 53) (tgt := 0) hx hb d_room_53 (by decide) ?_
    exact hK0  _ _ _ _ hl I hm
  · have hm := ift hc hm
    refine lv_aload_n (pc := 36) (i := 0) hx hb d_room_36 rfl (lx_get hl rfl) ?_
    refine ob1 hm (fun S6 e5 hm => ?_)
    refine r_call (pc := 37) (As := []) (rest := []) B hl rfl I (c_comment hR e5) kw_comment rfl (by decide) (by decide) rfl (by simp [Value.category]) d_room_37 (fun H locs I => ?_)
    refine lv_goto (pc := 40) (tgt := 0) hx hb d_room_40 (by decide) ?_
    exact hK0  _ _ _ _ hl I hm
def m_room_0F (N : Nat) (K0 : rS → Option rS) (S : rS) : Option rS :=
  b1 (m_here N S) (fun x2 => if x2 = 32 then (m_room_27 N K0 S) else (b1 (m_here N S) (fun x4 => if x4 = 10 then (m_room_27 N K0 S) else (b1 (m_here N S) (fun x6 => if x6 = 35 then (m_room_27 N K0 S) else (some S))))))
def m_room_0 (N : Nat) : Nat → rS → Option rS
  | 0, _ => none
  | k + 1, S => m_room_0F N  (m_room_0 N  k)  S
set_option maxRecDepth 100000 in
set_option maxHeartbeats 4000000 in
theorem w_room_0F {K0 : rS → Option rS} {S : rS} (hK0 : ∀ (S : rS) (ls : Array Slot) (H : Heap) (locs : List Loc), lx ls [some (.ref h)] → AI D vwCl b0 (rH dA h S hp0) sz s.heap H locs → K0 S = some S' → W p l e { frames := 2, cells := 0, slots := 0, locals := 40 } s m args below meth c H locs 0 0 (MQ below (CQ D vwCl b0 none (rH dA h S' hp0) sz) args s 0 0 (fun q => b0 ≤ q)) (F0 m 0 ls [])) (B : BX p m c cb_room 1 s args (.code y_room cb_room 1 none :: wsA) RREF meth none D vwCl (tyL dA) b0 Z) (hR : RR b0 h Z) (hl : lx ls [some (.ref h)]) (I : AI D vwCl b0 (rH dA h S hp0) sz s.heap H locs)  (hm : m_room_0F N  K0  S = some S') : W p l e { frames := 2, cells := 0, slots := 0, locals := 40 } s m args below meth c H locs 0 0 (MQ below (CQ D vwCl b0 none (rH dA h S' hp0) sz) args s 0 0 (fun q => b0 ≤ q)) (F0 m 0 ls []) := by
  obtain ⟨hx, hb, -⟩ := B.1
  unfold m_room_0F at hm
  refine lv_aload_n (pc := 0) (i := 0) hx hb d_room_0 rfl (lx_get hl rfl) ?_
  refine ob1 hm (fun x2 e1 hm => ?_)
  refine r_call (pc := 1) (As := []) (rest := []) B hl rfl I (c_here hR e1) kw_here rfl (by decide) (by decide) rfl (by simp [Value.category]) d_room_1 (fun H locs I => ?_)
  refine lv_bipush (pc := 4) (v := 32) hx hb d_room_4 (by decide) ?_
  refine lv_icmp_eq (pc := 6) (tgt := 27) hx hb d_room_6 (by decide) (fun hc => ?_) (fun hc => ?_)
  · have hm := ift hc hm
    exact w_room_27 hK0 B hR hl I hm
  · have hm := iff' hc hm
    refine lv_aload_n (pc := 9) (i := 0) hx hb d_room_9 rfl (lx_get hl rfl) ?_
    refine ob1 hm (fun x4 e3 hm => ?_)
    refine r_call (pc := 10) (As := []) (rest := []) B hl rfl I (c_here hR e3) kw_here rfl (by decide) (by decide) rfl (by simp [Value.category]) d_room_10 (fun H locs I => ?_)
    refine lv_bipush (pc := 13) (v := 10) hx hb d_room_13 (by decide) ?_
    refine lv_icmp_eq (pc := 15) (tgt := 27) hx hb d_room_15 (by decide) (fun hc => ?_) (fun hc => ?_)
    · have hm := ift hc hm
      exact w_room_27 hK0 B hR hl I hm
    · have hm := iff' hc hm
      refine lv_aload_n (pc := 18) (i := 0) hx hb d_room_18 rfl (lx_get hl rfl) ?_
      refine ob1 hm (fun x6 e5 hm => ?_)
      refine r_call (pc := 19) (As := []) (rest := []) B hl rfl I (c_here hR e5) kw_here rfl (by decide) (by decide) rfl (by simp [Value.category]) d_room_19 (fun H locs I => ?_)
      refine lv_bipush (pc := 22) (v := 35) hx hb d_room_22 (by decide) ?_
      refine lv_icmp_ne (pc := 24) (tgt := 56) hx hb d_room_24 (by decide) (fun hc => ?_) (fun hc => ?_)
      · have hm := iff' hc hm
        cases hm
        exact q_vret (pc := 56) B I rfl d_room_56
      · have hm := ift hc hm
        exact w_room_27 hK0 B hR hl I hm
set_option maxRecDepth 100000 in
set_option maxHeartbeats 4000000 in
theorem w_room_0i (B : BX p m c cb_room 1 s args (.code y_room cb_room 1 none :: wsA) RREF meth none D vwCl (tyL dA) b0 Z) (hR : RR b0 h Z) (k : Nat) (S : rS) (ls : Array Slot) (H : Heap) (locs : List Loc) (hl : lx ls [some (.ref h)]) (I : AI D vwCl b0 (rH dA h S hp0) sz s.heap H locs)  (hm : m_room_0 N  k  S = some S') : W p l e { frames := 2, cells := 0, slots := 0, locals := 40 } s m args below meth c H locs 0 0 (MQ below (CQ D vwCl b0 none (rH dA h S' hp0) sz) args s 0 0 (fun q => b0 ≤ q)) (F0 m 0 ls []) := by
  induction k generalizing  S ls H locs with
  | zero => cases hm
  | succ k ih => exact w_room_0F  (fun  S ls H locs hl I hm => ih  S ls H locs hl I hm) B hR hl I hm
theorem w_room_0 {S : rS} (B : BX p m c cb_room 1 s args (.code y_room cb_room 1 none :: wsA) RREF meth none D vwCl (tyL dA) b0 Z) (hR : RR b0 h Z) (hl : lx ls [some (.ref h)]) (I : AI D vwCl b0 (rH dA h S hp0) sz s.heap H locs)  {k : Nat} (hm : m_room_0 N  k  S = some S') : W p l e { frames := 2, cells := 0, slots := 0, locals := 40 } s m args below meth c H locs 0 0 (MQ below (CQ D vwCl b0 none (rH dA h S' hp0) sz) args s 0 0 (fun q => b0 ≤ q)) (F0 m 0 ls []) := w_room_0i  B hR k  S ls H locs hl I hm
def m_room (N : Nat) (S : rS) : Option rS :=
  m_room_0 N  N S
set_option maxRecDepth 100000 in
set_option maxHeartbeats 4000000 in
theorem c_room {S S' : rS} (hR : RR b0 h Z) (hm : m_room N  S = some S') : Ct l D vwCl (tyL dA) b0 Z y_room (.code y_room cb_room 1 none :: wsA) 2 40 [.ref h] (rH dA h S hp0) sz none (rH dA h S' hp0) 0 0 := by
  refine ct_of (cc := cb_room) (maxL := 1) (ret := none) (lo0 := [some (.ref h)]) hR.2 (by decide) rfl (by simp [lg_sl, Value.category]) rfl (by simp [lx_all, lv_args, Value.category]) ?_
  intro p e s m args below meth c ls B hnm hl I
  obtain ⟨hx, hb, -⟩ := B.1
  unfold m_room at hm
  exact w_room_0  B hR hl I hm
end RW
end
