section
-- ===== PART A: goes FIRST, ahead of the names: the tables' words, and 'selects' of the private methods out of them =====
/-- a private method of a class that the tables say can be made, by its rows of tables_1 -/
def lw_okq (q : MethodName × Nat) : Prop := (q.1.cls ≠ "java/lang/invoke/MethodHandle" ∧ q.1.cls ≠ "java/lang/invoke/VarHandle") ∧ Cond.instantiable q.1.cls q.2 ∈ tables_1 ∧ Cond.privateMethod q.1 ∈ tables_1 ∧ Cond.instanceMethod q.1 ∈ tables_1
theorem lw_p0 : lw_okq (⟨"TableText$Reader", "readDocument", "()LTableText$Node;"⟩, 8) := ⟨⟨by decide +kernel, by decide +kernel⟩, List.mem_of_getElem? (i := 121) (by decide +kernel), List.mem_of_getElem? (i := 214) (by decide +kernel), List.mem_of_getElem? (i := 215) (by decide +kernel)⟩
theorem lw_p1 : lw_okq (⟨"TableText$Reader", "skipBlanks", "()V"⟩, 8) := ⟨⟨by decide +kernel, by decide +kernel⟩, List.mem_of_getElem? (i := 121) (by decide +kernel), List.mem_of_getElem? (i := 218) (by decide +kernel), List.mem_of_getElem? (i := 219) (by decide +kernel)⟩
theorem lw_p2 : lw_okq (⟨"TableText$Reader", "peek", "()I"⟩, 8) := ⟨⟨by decide +kernel, by decide +kernel⟩, List.mem_of_getElem? (i := 121) (by decide +kernel), List.mem_of_getElem? (i := 222) (by decide +kernel), List.mem_of_getElem? (i := 223) (by decide +kernel)⟩
theorem lw_p3 : lw_okq (⟨"TableText$Reader", "readHeader", "()Z"⟩, 8) := ⟨⟨by decide +kernel, by decide +kernel⟩, List.mem_of_getElem? (i := 121) (by decide +kernel), List.mem_of_getElem? (i := 229) (by decide +kernel), List.mem_of_getElem? (i := 230) (by decide +kernel)⟩
theorem lw_p4 : lw_okq (⟨"TableText$Reader", "readPath", "()LTableText$Step;"⟩, 8) := ⟨⟨by decide +kernel, by decide +kernel⟩, List.mem_of_getElem? (i := 121) (by decide +kernel), List.mem_of_getElem? (i := 233) (by decide +kernel), List.mem_of_getElem? (i := 234) (by decide +kernel)⟩
theorem lw_p5 : lw_okq (⟨"TableText$Reader", "readQuoted", "()Ljava/lang/String;"⟩, 8) := ⟨⟨by decide +kernel, by decide +kernel⟩, List.mem_of_getElem? (i := 121) (by decide +kernel), List.mem_of_getElem? (i := 237) (by decide +kernel), List.mem_of_getElem? (i := 238) (by decide +kernel)⟩
theorem lw_p6 : lw_okq (⟨"java/lang/Throwable", "fillInStackTrace", "(I)Ljava/lang/Throwable;"⟩, 6) := ⟨⟨by decide +kernel, by decide +kernel⟩, List.mem_of_getElem? (i := 477) (by decide +kernel), List.mem_of_getElem? (i := 475) (by decide +kernel), List.mem_of_getElem? (i := 476) (by decide +kernel)⟩
theorem lw_p7 : lw_okq (⟨"TableText$Reader", "goesOnInString", "(I)Z"⟩, 8) := ⟨⟨by decide +kernel, by decide +kernel⟩, List.mem_of_getElem? (i := 121) (by decide +kernel), List.mem_of_getElem? (i := 582) (by decide +kernel), List.mem_of_getElem? (i := 583) (by decide +kernel)⟩
theorem lw_p8 : lw_okq (⟨"TableText$Reader", "take", "(I)Z"⟩, 8) := ⟨⟨by decide +kernel, by decide +kernel⟩, List.mem_of_getElem? (i := 121) (by decide +kernel), List.mem_of_getElem? (i := 611) (by decide +kernel), List.mem_of_getElem? (i := 612) (by decide +kernel)⟩
theorem lw_p9 : lw_okq (⟨"TableText$Reader", "readBare", "()Ljava/lang/String;"⟩, 8) := ⟨⟨by decide +kernel, by decide +kernel⟩, List.mem_of_getElem? (i := 121) (by decide +kernel), List.mem_of_getElem? (i := 616) (by decide +kernel), List.mem_of_getElem? (i := 617) (by decide +kernel)⟩
theorem lw_p10 : lw_okq (⟨"TableText$Reader", "wrong", "(I)LTableText$Node;"⟩, 8) := ⟨⟨by decide +kernel, by decide +kernel⟩, List.mem_of_getElem? (i := 121) (by decide +kernel), List.mem_of_getElem? (i := 623) (by decide +kernel), List.mem_of_getElem? (i := 624) (by decide +kernel)⟩
theorem lw_p11 : lw_okq (⟨"TableText$Reader", "openTable", "(LTableText$Step;Z)LTableText$Node;"⟩, 8) := ⟨⟨by decide +kernel, by decide +kernel⟩, List.mem_of_getElem? (i := 121) (by decide +kernel), List.mem_of_getElem? (i := 645) (by decide +kernel), List.mem_of_getElem? (i := 646) (by decide +kernel)⟩
theorem lw_p12 : lw_okq (⟨"TableText$Reader", "throughTable", "(LTableText$Node;LTableText$Step;)LTableText$Node;"⟩, 8) := ⟨⟨by decide +kernel, by decide +kernel⟩, List.mem_of_getElem? (i := 121) (by decide +kernel), List.mem_of_getElem? (i := 649) (by decide +kernel), List.mem_of_getElem? (i := 650) (by decide +kernel)⟩
theorem lw_p13 : lw_okq (⟨"TableText$Node", "entryOrNew", "(Ljava/lang/String;I)LTableText$Node;"⟩, 8) := ⟨⟨by decide +kernel, by decide +kernel⟩, List.mem_of_getElem? (i := 55) (by decide +kernel), List.mem_of_getElem? (i := 653) (by decide +kernel), List.mem_of_getElem? (i := 654) (by decide +kernel)⟩
theorem lw_p14 : lw_okq (⟨"TableText$Node", "entryNamed", "(Ljava/lang/String;)LTableText$Node;"⟩, 8) := ⟨⟨by decide +kernel, by decide +kernel⟩, List.mem_of_getElem? (i := 55) (by decide +kernel), List.mem_of_getElem? (i := 657) (by decide +kernel), List.mem_of_getElem? (i := 658) (by decide +kernel)⟩
theorem lw_p15 : lw_okq (⟨"TableText$Node", "add", "(LTableText$Node;)V"⟩, 8) := ⟨⟨by decide +kernel, by decide +kernel⟩, List.mem_of_getElem? (i := 55) (by decide +kernel), List.mem_of_getElem? (i := 671) (by decide +kernel), List.mem_of_getElem? (i := 672) (by decide +kernel)⟩
def lw_privs_1 : List (MethodName × Nat) := [(⟨"TableText$Reader", "readDocument", "()LTableText$Node;"⟩, 8), (⟨"TableText$Reader", "skipBlanks", "()V"⟩, 8), (⟨"TableText$Reader", "peek", "()I"⟩, 8), (⟨"TableText$Reader", "readHeader", "()Z"⟩, 8), (⟨"TableText$Reader", "readPath", "()LTableText$Step;"⟩, 8), (⟨"TableText$Reader", "readQuoted", "()Ljava/lang/String;"⟩, 8), (⟨"java/lang/Throwable", "fillInStackTrace", "(I)Ljava/lang/Throwable;"⟩, 6), (⟨"TableText$Reader", "goesOnInString", "(I)Z"⟩, 8), (⟨"TableText$Reader", "take", "(I)Z"⟩, 8), (⟨"TableText$Reader", "readBare", "()Ljava/lang/String;"⟩, 8), (⟨"TableText$Reader", "wrong", "(I)LTableText$Node;"⟩, 8), (⟨"TableText$Reader", "openTable", "(LTableText$Step;Z)LTableText$Node;"⟩, 8), (⟨"TableText$Reader", "throughTable", "(LTableText$Node;LTableText$Step;)LTableText$Node;"⟩, 8), (⟨"TableText$Node", "entryOrNew", "(Ljava/lang/String;I)LTableText$Node;"⟩, 8), (⟨"TableText$Node", "entryNamed", "(Ljava/lang/String;)LTableText$Node;"⟩, 8), (⟨"TableText$Node", "add", "(LTableText$Node;)V"⟩, 8)]
theorem lw_r1 : ∀ q ∈ lw_privs_1, lw_okq q := List.forall_mem_cons.mpr ⟨lw_p0, List.forall_mem_cons.mpr ⟨lw_p1, List.forall_mem_cons.mpr ⟨lw_p2, List.forall_mem_cons.mpr ⟨lw_p3, List.forall_mem_cons.mpr ⟨lw_p4, List.forall_mem_cons.mpr ⟨lw_p5, List.forall_mem_cons.mpr ⟨lw_p6, List.forall_mem_cons.mpr ⟨lw_p7, List.forall_mem_cons.mpr ⟨lw_p8, List.forall_mem_cons.mpr ⟨lw_p9, List.forall_mem_cons.mpr ⟨lw_p10, List.forall_mem_cons.mpr ⟨lw_p11, List.forall_mem_cons.mpr ⟨lw_p12, List.forall_mem_cons.mpr ⟨lw_p13, List.forall_mem_cons.mpr ⟨lw_p14, List.forall_mem_cons.mpr ⟨lw_p15, fun _ h => absurd h List.not_mem_nil⟩⟩⟩⟩⟩⟩⟩⟩⟩⟩⟩⟩⟩⟩⟩⟩
theorem lw_p16 : lw_okq (⟨"TableText$Node", "isTable", "()Z"⟩, 8) := ⟨⟨by decide +kernel, by decide +kernel⟩, List.mem_of_getElem? (i := 55) (by decide +kernel), List.mem_of_getElem? (i := 675) (by decide +kernel), List.mem_of_getElem? (i := 676) (by decide +kernel)⟩
theorem lw_p17 : lw_okq (⟨"TableText$Reader", "newRow", "(LTableText$Node;LTableText$Step;)LTableText$Node;"⟩, 8) := ⟨⟨by decide +kernel, by decide +kernel⟩, List.mem_of_getElem? (i := 121) (by decide +kernel), List.mem_of_getElem? (i := 679) (by decide +kernel), List.mem_of_getElem? (i := 680) (by decide +kernel)⟩
theorem lw_p18 : lw_okq (⟨"TableText$Reader", "toldTable", "(LTableText$Node;LTableText$Step;)LTableText$Node;"⟩, 8) := ⟨⟨by decide +kernel, by decide +kernel⟩, List.mem_of_getElem? (i := 121) (by decide +kernel), List.mem_of_getElem? (i := 684) (by decide +kernel), List.mem_of_getElem? (i := 685) (by decide +kernel)⟩
theorem lw_p19 : lw_okq (⟨"TableText$Reader", "readEntry", "(LTableText$Node;I)Z"⟩, 8) := ⟨⟨by decide +kernel, by decide +kernel⟩, List.mem_of_getElem? (i := 121) (by decide +kernel), List.mem_of_getElem? (i := 688) (by decide +kernel), List.mem_of_getElem? (i := 689) (by decide +kernel)⟩
theorem lw_p20 : lw_okq (⟨"TableText$Reader", "dottedTable", "(LTableText$Node;LTableText$Step;)LTableText$Node;"⟩, 8) := ⟨⟨by decide +kernel, by decide +kernel⟩, List.mem_of_getElem? (i := 121) (by decide +kernel), List.mem_of_getElem? (i := 692) (by decide +kernel), List.mem_of_getElem? (i := 693) (by decide +kernel)⟩
theorem lw_p21 : lw_okq (⟨"java/util/ArrayList", "add", "(Ljava/lang/Object;[Ljava/lang/Object;I)V"⟩, 3) := ⟨⟨by decide +kernel, by decide +kernel⟩, List.mem_of_getElem? (i := 160) (by decide +kernel), List.mem_of_getElem? (i := 700) (by decide +kernel), List.mem_of_getElem? (i := 701) (by decide +kernel)⟩
theorem lw_p22 : lw_okq (⟨"java/util/ArrayList", "grow", "()[Ljava/lang/Object;"⟩, 3) := ⟨⟨by decide +kernel, by decide +kernel⟩, List.mem_of_getElem? (i := 160) (by decide +kernel), List.mem_of_getElem? (i := 704) (by decide +kernel), List.mem_of_getElem? (i := 705) (by decide +kernel)⟩
theorem lw_p23 : lw_okq (⟨"java/util/ArrayList", "grow", "(I)[Ljava/lang/Object;"⟩, 3) := ⟨⟨by decide +kernel, by decide +kernel⟩, List.mem_of_getElem? (i := 160) (by decide +kernel), List.mem_of_getElem? (i := 708) (by decide +kernel), List.mem_of_getElem? (i := 709) (by decide +kernel)⟩
theorem lw_p24 : lw_okq (⟨"TableText$Reader", "readValue", "(I)LTableText$Node;"⟩, 8) := ⟨⟨by decide +kernel, by decide +kernel⟩, List.mem_of_getElem? (i := 121) (by decide +kernel), List.mem_of_getElem? (i := 743) (by decide +kernel), List.mem_of_getElem? (i := 744) (by decide +kernel)⟩
theorem lw_p25 : lw_okq (⟨"TableText$Reader", "readList", "(I)LTableText$Node;"⟩, 8) := ⟨⟨by decide +kernel, by decide +kernel⟩, List.mem_of_getElem? (i := 121) (by decide +kernel), List.mem_of_getElem? (i := 747) (by decide +kernel), List.mem_of_getElem? (i := 748) (by decide +kernel)⟩
theorem lw_p26 : lw_okq (⟨"TableText$Reader", "skipBlanksLinesAndComments", "()V"⟩, 8) := ⟨⟨by decide +kernel, by decide +kernel⟩, List.mem_of_getElem? (i := 121) (by decide +kernel), List.mem_of_getElem? (i := 751) (by decide +kernel), List.mem_of_getElem? (i := 752) (by decide +kernel)⟩
theorem lw_p27 : lw_okq (⟨"TableText$Reader", "readClosedTable", "(I)LTableText$Node;"⟩, 8) := ⟨⟨by decide +kernel, by decide +kernel⟩, List.mem_of_getElem? (i := 121) (by decide +kernel), List.mem_of_getElem? (i := 755) (by decide +kernel), List.mem_of_getElem? (i := 756) (by decide +kernel)⟩
theorem lw_p28 : lw_okq (⟨"TableText$Reader", "readString", "()LTableText$Node;"⟩, 8) := ⟨⟨by decide +kernel, by decide +kernel⟩, List.mem_of_getElem? (i := 121) (by decide +kernel), List.mem_of_getElem? (i := 775) (by decide +kernel), List.mem_of_getElem? (i := 776) (by decide +kernel)⟩
theorem lw_p29 : lw_okq (⟨"TableText$Reader", "readPlainlyQuoted", "()Ljava/lang/String;"⟩, 8) := ⟨⟨by decide +kernel, by decide +kernel⟩, List.mem_of_getElem? (i := 121) (by decide +kernel), List.mem_of_getElem? (i := 779) (by decide +kernel), List.mem_of_getElem? (i := 780) (by decide +kernel)⟩
theorem lw_p30 : lw_okq (⟨"TableText$Reader", "readTruth", "(Ljava/lang/String;I)LTableText$Node;"⟩, 8) := ⟨⟨by decide +kernel, by decide +kernel⟩, List.mem_of_getElem? (i := 121) (by decide +kernel), List.mem_of_getElem? (i := 785) (by decide +kernel), List.mem_of_getElem? (i := 786) (by decide +kernel)⟩
theorem lw_p31 : lw_okq (⟨"TableText$Reader", "dateBegins", "()Z"⟩, 8) := ⟨⟨by decide +kernel, by decide +kernel⟩, List.mem_of_getElem? (i := 121) (by decide +kernel), List.mem_of_getElem? (i := 805) (by decide +kernel), List.mem_of_getElem? (i := 806) (by decide +kernel)⟩
def lw_privs_2 : List (MethodName × Nat) := [(⟨"TableText$Node", "isTable", "()Z"⟩, 8), (⟨"TableText$Reader", "newRow", "(LTableText$Node;LTableText$Step;)LTableText$Node;"⟩, 8), (⟨"TableText$Reader", "toldTable", "(LTableText$Node;LTableText$Step;)LTableText$Node;"⟩, 8), (⟨"TableText$Reader", "readEntry", "(LTableText$Node;I)Z"⟩, 8), (⟨"TableText$Reader", "dottedTable", "(LTableText$Node;LTableText$Step;)LTableText$Node;"⟩, 8), (⟨"java/util/ArrayList", "add", "(Ljava/lang/Object;[Ljava/lang/Object;I)V"⟩, 3), (⟨"java/util/ArrayList", "grow", "()[Ljava/lang/Object;"⟩, 3), (⟨"java/util/ArrayList", "grow", "(I)[Ljava/lang/Object;"⟩, 3), (⟨"TableText$Reader", "readValue", "(I)LTableText$Node;"⟩, 8), (⟨"TableText$Reader", "readList", "(I)LTableText$Node;"⟩, 8), (⟨"TableText$Reader", "skipBlanksLinesAndComments", "()V"⟩, 8), (⟨"TableText$Reader", "readClosedTable", "(I)LTableText$Node;"⟩, 8), (⟨"TableText$Reader", "readString", "()LTableText$Node;"⟩, 8), (⟨"TableText$Reader", "readPlainlyQuoted", "()Ljava/lang/String;"⟩, 8), (⟨"TableText$Reader", "readTruth", "(Ljava/lang/String;I)LTableText$Node;"⟩, 8), (⟨"TableText$Reader", "dateBegins", "()Z"⟩, 8)]
theorem lw_r2 : ∀ q ∈ lw_privs_2, lw_okq q := List.forall_mem_cons.mpr ⟨lw_p16, List.forall_mem_cons.mpr ⟨lw_p17, List.forall_mem_cons.mpr ⟨lw_p18, List.forall_mem_cons.mpr ⟨lw_p19, List.forall_mem_cons.mpr ⟨lw_p20, List.forall_mem_cons.mpr ⟨lw_p21, List.forall_mem_cons.mpr ⟨lw_p22, List.forall_mem_cons.mpr ⟨lw_p23, List.forall_mem_cons.mpr ⟨lw_p24, List.forall_mem_cons.mpr ⟨lw_p25, List.forall_mem_cons.mpr ⟨lw_p26, List.forall_mem_cons.mpr ⟨lw_p27, List.forall_mem_cons.mpr ⟨lw_p28, List.forall_mem_cons.mpr ⟨lw_p29, List.forall_mem_cons.mpr ⟨lw_p30, List.forall_mem_cons.mpr ⟨lw_p31, fun _ h => absurd h List.not_mem_nil⟩⟩⟩⟩⟩⟩⟩⟩⟩⟩⟩⟩⟩⟩⟩⟩
theorem lw_p32 : lw_okq (⟨"TableText$Reader", "digitAt", "(II)I"⟩, 8) := ⟨⟨by decide +kernel, by decide +kernel⟩, List.mem_of_getElem? (i := 121) (by decide +kernel), List.mem_of_getElem? (i := 809) (by decide +kernel), List.mem_of_getElem? (i := 810) (by decide +kernel)⟩
theorem lw_p33 : lw_okq (⟨"TableText$Reader", "readDate", "()LTableText$Node;"⟩, 8) := ⟨⟨by decide +kernel, by decide +kernel⟩, List.mem_of_getElem? (i := 121) (by decide +kernel), List.mem_of_getElem? (i := 813) (by decide +kernel), List.mem_of_getElem? (i := 814) (by decide +kernel)⟩
theorem lw_p34 : lw_okq (⟨"TableText$Reader", "readTwoDigits", "(I)I"⟩, 8) := ⟨⟨by decide +kernel, by decide +kernel⟩, List.mem_of_getElem? (i := 121) (by decide +kernel), List.mem_of_getElem? (i := 817) (by decide +kernel), List.mem_of_getElem? (i := 818) (by decide +kernel)⟩
theorem lw_p35 : lw_okq (⟨"TableText$Reader", "readNumber", "()LTableText$Node;"⟩, 8) := ⟨⟨by decide +kernel, by decide +kernel⟩, List.mem_of_getElem? (i := 121) (by decide +kernel), List.mem_of_getElem? (i := 826) (by decide +kernel), List.mem_of_getElem? (i := 827) (by decide +kernel)⟩
theorem lw_p36 : lw_okq (⟨"TableText$Reader", "readDigits", "(II)I"⟩, 8) := ⟨⟨by decide +kernel, by decide +kernel⟩, List.mem_of_getElem? (i := 121) (by decide +kernel), List.mem_of_getElem? (i := 830) (by decide +kernel), List.mem_of_getElem? (i := 831) (by decide +kernel)⟩
theorem lw_p37 : lw_okq (⟨"TableText$Reader", "skipComment", "()V"⟩, 8) := ⟨⟨by decide +kernel, by decide +kernel⟩, List.mem_of_getElem? (i := 121) (by decide +kernel), List.mem_of_getElem? (i := 834) (by decide +kernel), List.mem_of_getElem? (i := 835) (by decide +kernel)⟩
theorem lw_p38 : lw_okq (⟨"TableText$Page", "fill", "(LTableText$Node;)V"⟩, 2) := ⟨⟨by decide +kernel, by decide +kernel⟩, List.mem_of_getElem? (i := 39) (by decide +kernel), List.mem_of_getElem? (i := 842) (by decide +kernel), List.mem_of_getElem? (i := 843) (by decide +kernel)⟩
theorem lw_p39 : lw_okq (⟨"TableText$Page", "putBeginning", "(LTableText$Node;)V"⟩, 2) := ⟨⟨by decide +kernel, by decide +kernel⟩, List.mem_of_getElem? (i := 39) (by decide +kernel), List.mem_of_getElem? (i := 846) (by decide +kernel), List.mem_of_getElem? (i := 847) (by decide +kernel)⟩
theorem lw_p40 : lw_okq (⟨"TableText$Page", "putName", "(Ljava/lang/String;)V"⟩, 2) := ⟨⟨by decide +kernel, by decide +kernel⟩, List.mem_of_getElem? (i := 39) (by decide +kernel), List.mem_of_getElem? (i := 850) (by decide +kernel), List.mem_of_getElem? (i := 851) (by decide +kernel)⟩
theorem lw_p41 : lw_okq (⟨"TableText$Page", "putAll", "(Ljava/lang/String;)V"⟩, 2) := ⟨⟨by decide +kernel, by decide +kernel⟩, List.mem_of_getElem? (i := 39) (by decide +kernel), List.mem_of_getElem? (i := 861) (by decide +kernel), List.mem_of_getElem? (i := 862) (by decide +kernel)⟩
theorem lw_p42 : lw_okq (⟨"TableText$Page", "put", "(C)V"⟩, 2) := ⟨⟨by decide +kernel, by decide +kernel⟩, List.mem_of_getElem? (i := 39) (by decide +kernel), List.mem_of_getElem? (i := 865) (by decide +kernel), List.mem_of_getElem? (i := 866) (by decide +kernel)⟩
theorem lw_p43 : lw_okq (⟨"TableText$Page", "putQuoted", "(Ljava/lang/String;)V"⟩, 2) := ⟨⟨by decide +kernel, by decide +kernel⟩, List.mem_of_getElem? (i := 39) (by decide +kernel), List.mem_of_getElem? (i := 869) (by decide +kernel), List.mem_of_getElem? (i := 870) (by decide +kernel)⟩
theorem lw_p44 : lw_okq (⟨"TableText$Node", "isList", "()Z"⟩, 8) := ⟨⟨by decide +kernel, by decide +kernel⟩, List.mem_of_getElem? (i := 55) (by decide +kernel), List.mem_of_getElem? (i := 877) (by decide +kernel), List.mem_of_getElem? (i := 878) (by decide +kernel)⟩
theorem lw_p45 : lw_okq (⟨"TableText$Page", "putDate", "(I)V"⟩, 2) := ⟨⟨by decide +kernel, by decide +kernel⟩, List.mem_of_getElem? (i := 39) (by decide +kernel), List.mem_of_getElem? (i := 883) (by decide +kernel), List.mem_of_getElem? (i := 884) (by decide +kernel)⟩
theorem lw_p46 : lw_okq (⟨"TableText$Page", "putDigits", "(II)V"⟩, 2) := ⟨⟨by decide +kernel, by decide +kernel⟩, List.mem_of_getElem? (i := 39) (by decide +kernel), List.mem_of_getElem? (i := 887) (by decide +kernel), List.mem_of_getElem? (i := 888) (by decide +kernel)⟩
theorem lw_p47 : lw_okq (⟨"TableText$Page", "putNumber", "(I)V"⟩, 2) := ⟨⟨by decide +kernel, by decide +kernel⟩, List.mem_of_getElem? (i := 39) (by decide +kernel), List.mem_of_getElem? (i := 891) (by decide +kernel), List.mem_of_getElem? (i := 892) (by decide +kernel)⟩
def lw_privs_3 : List (MethodName × Nat) := [(⟨"TableText$Reader", "digitAt", "(II)I"⟩, 8), (⟨"TableText$Reader", "readDate", "()LTableText$Node;"⟩, 8), (⟨"TableText$Reader", "readTwoDigits", "(I)I"⟩, 8), (⟨"TableText$Reader", "readNumber", "()LTableText$Node;"⟩, 8), (⟨"TableText$Reader", "readDigits", "(II)I"⟩, 8), (⟨"TableText$Reader", "skipComment", "()V"⟩, 8), (⟨"TableText$Page", "fill", "(LTableText$Node;)V"⟩, 2), (⟨"TableText$Page", "putBeginning", "(LTableText$Node;)V"⟩, 2), (⟨"TableText$Page", "putName", "(Ljava/lang/String;)V"⟩, 2), (⟨"TableText$Page", "putAll", "(Ljava/lang/String;)V"⟩, 2), (⟨"TableText$Page", "put", "(C)V"⟩, 2), (⟨"TableText$Page", "putQuoted", "(Ljava/lang/String;)V"⟩, 2), (⟨"TableText$Node", "isList", "()Z"⟩, 8), (⟨"TableText$Page", "putDate", "(I)V"⟩, 2), (⟨"TableText$Page", "putDigits", "(II)V"⟩, 2), (⟨"TableText$Page", "putNumber", "(I)V"⟩, 2)]
theorem lw_r3 : ∀ q ∈ lw_privs_3, lw_okq q := List.forall_mem_cons.mpr ⟨lw_p32, List.forall_mem_cons.mpr ⟨lw_p33, List.forall_mem_cons.mpr ⟨lw_p34, List.forall_mem_cons.mpr ⟨lw_p35, List.forall_mem_cons.mpr ⟨lw_p36, List.forall_mem_cons.mpr ⟨lw_p37, List.forall_mem_cons.mpr ⟨lw_p38, List.forall_mem_cons.mpr ⟨lw_p39, List.forall_mem_cons.mpr ⟨lw_p40, List.forall_mem_cons.mpr ⟨lw_p41, List.forall_mem_cons.mpr ⟨lw_p42, List.forall_mem_cons.mpr ⟨lw_p43, List.forall_mem_cons.mpr ⟨lw_p44, List.forall_mem_cons.mpr ⟨lw_p45, List.forall_mem_cons.mpr ⟨lw_p46, List.forall_mem_cons.mpr ⟨lw_p47, fun _ h => absurd h List.not_mem_nil⟩⟩⟩⟩⟩⟩⟩⟩⟩⟩⟩⟩⟩⟩⟩⟩
theorem lw_p48 : lw_okq (⟨"TableText$Page", "putEndings", "(LTableText$Node;)LTableText$Node;"⟩, 2) := ⟨⟨by decide +kernel, by decide +kernel⟩, List.mem_of_getElem? (i := 39) (by decide +kernel), List.mem_of_getElem? (i := 898) (by decide +kernel), List.mem_of_getElem? (i := 899) (by decide +kernel)⟩
theorem lw_p49 : lw_okq (⟨"TableText$Page", "putEnd", "(LTableText$Node;)V"⟩, 2) := ⟨⟨by decide +kernel, by decide +kernel⟩, List.mem_of_getElem? (i := 39) (by decide +kernel), List.mem_of_getElem? (i := 902) (by decide +kernel), List.mem_of_getElem? (i := 903) (by decide +kernel)⟩
theorem lw_p50 : lw_okq (⟨"TableText$Node", "inner", "(I)LTableText$Node;"⟩, 8) := ⟨⟨by decide +kernel, by decide +kernel⟩, List.mem_of_getElem? (i := 55) (by decide +kernel), List.mem_of_getElem? (i := 994) (by decide +kernel), List.mem_of_getElem? (i := 995) (by decide +kernel)⟩
theorem lw_p51 : lw_okq (⟨"TableTextModel", "make", "(II)I"⟩, 31) := ⟨⟨by decide +kernel, by decide +kernel⟩, List.mem_of_getElem? (i := 1021) (by decide +kernel), List.mem_of_getElem? (i := 1135) (by decide +kernel), List.mem_of_getElem? (i := 1136) (by decide +kernel)⟩
theorem lw_p52 : lw_okq (⟨"TableTextModel", "line", "(I)I"⟩, 31) := ⟨⟨by decide +kernel, by decide +kernel⟩, List.mem_of_getElem? (i := 1021) (by decide +kernel), List.mem_of_getElem? (i := 1139) (by decide +kernel), List.mem_of_getElem? (i := 1140) (by decide +kernel)⟩
theorem lw_p53 : lw_okq (⟨"TableTextModel", "blanks", "()V"⟩, 31) := ⟨⟨by decide +kernel, by decide +kernel⟩, List.mem_of_getElem? (i := 1021) (by decide +kernel), List.mem_of_getElem? (i := 1143) (by decide +kernel), List.mem_of_getElem? (i := 1144) (by decide +kernel)⟩
theorem lw_p54 : lw_okq (⟨"TableTextModel", "here", "()I"⟩, 31) := ⟨⟨by decide +kernel, by decide +kernel⟩, List.mem_of_getElem? (i := 1021) (by decide +kernel), List.mem_of_getElem? (i := 1147) (by decide +kernel), List.mem_of_getElem? (i := 1148) (by decide +kernel)⟩
theorem lw_p55 : lw_okq (⟨"TableTextModel", "header", "()I"⟩, 31) := ⟨⟨by decide +kernel, by decide +kernel⟩, List.mem_of_getElem? (i := 1021) (by decide +kernel), List.mem_of_getElem? (i := 1151) (by decide +kernel), List.mem_of_getElem? (i := 1152) (by decide +kernel)⟩
theorem lw_p56 : lw_okq (⟨"TableTextModel", "path", "()Z"⟩, 31) := ⟨⟨by decide +kernel, by decide +kernel⟩, List.mem_of_getElem? (i := 1021) (by decide +kernel), List.mem_of_getElem? (i := 1155) (by decide +kernel), List.mem_of_getElem? (i := 1156) (by decide +kernel)⟩
theorem lw_p57 : lw_okq (⟨"TableTextModel", "string", "()Z"⟩, 31) := ⟨⟨by decide +kernel, by decide +kernel⟩, List.mem_of_getElem? (i := 1021) (by decide +kernel), List.mem_of_getElem? (i := 1159) (by decide +kernel), List.mem_of_getElem? (i := 1160) (by decide +kernel)⟩
theorem lw_p58 : lw_okq (⟨"TableTextModel", "begin", "()V"⟩, 31) := ⟨⟨by decide +kernel, by decide +kernel⟩, List.mem_of_getElem? (i := 1021) (by decide +kernel), List.mem_of_getElem? (i := 1163) (by decide +kernel), List.mem_of_getElem? (i := 1164) (by decide +kernel)⟩
theorem lw_p59 : lw_okq (⟨"TableTextModel", "fail", "(I)Z"⟩, 31) := ⟨⟨by decide +kernel, by decide +kernel⟩, List.mem_of_getElem? (i := 1021) (by decide +kernel), List.mem_of_getElem? (i := 1167) (by decide +kernel), List.mem_of_getElem? (i := 1168) (by decide +kernel)⟩
theorem lw_p60 : lw_okq (⟨"TableTextModel", "behindBar", "(I)I"⟩, 31) := ⟨⟨by decide +kernel, by decide +kernel⟩, List.mem_of_getElem? (i := 1021) (by decide +kernel), List.mem_of_getElem? (i := 1171) (by decide +kernel), List.mem_of_getElem? (i := 1172) (by decide +kernel)⟩
theorem lw_p61 : lw_okq (⟨"TableTextModel", "add", "(II)Z"⟩, 31) := ⟨⟨by decide +kernel, by decide +kernel⟩, List.mem_of_getElem? (i := 1021) (by decide +kernel), List.mem_of_getElem? (i := 1175) (by decide +kernel), List.mem_of_getElem? (i := 1176) (by decide +kernel)⟩
theorem lw_p62 : lw_okq (⟨"TableTextModel", "bare", "()Z"⟩, 31) := ⟨⟨by decide +kernel, by decide +kernel⟩, List.mem_of_getElem? (i := 1021) (by decide +kernel), List.mem_of_getElem? (i := 1179) (by decide +kernel), List.mem_of_getElem? (i := 1180) (by decide +kernel)⟩
theorem lw_p63 : lw_okq (⟨"TableTextModel", "isBare", "(I)Z"⟩, 31) := ⟨⟨by decide +kernel, by decide +kernel⟩, List.mem_of_getElem? (i := 1021) (by decide +kernel), List.mem_of_getElem? (i := 1183) (by decide +kernel), List.mem_of_getElem? (i := 1184) (by decide +kernel)⟩
def lw_privs_4 : List (MethodName × Nat) := [(⟨"TableText$Page", "putEndings", "(LTableText$Node;)LTableText$Node;"⟩, 2), (⟨"TableText$Page", "putEnd", "(LTableText$Node;)V"⟩, 2), (⟨"TableText$Node", "inner", "(I)LTableText$Node;"⟩, 8), (⟨"TableTextModel", "make", "(II)I"⟩, 31), (⟨"TableTextModel", "line", "(I)I"⟩, 31), (⟨"TableTextModel", "blanks", "()V"⟩, 31), (⟨"TableTextModel", "here", "()I"⟩, 31), (⟨"TableTextModel", "header", "()I"⟩, 31), (⟨"TableTextModel", "path", "()Z"⟩, 31), (⟨"TableTextModel", "string", "()Z"⟩, 31), (⟨"TableTextModel", "begin", "()V"⟩, 31), (⟨"TableTextModel", "fail", "(I)Z"⟩, 31), (⟨"TableTextModel", "behindBar", "(I)I"⟩, 31), (⟨"TableTextModel", "add", "(II)Z"⟩, 31), (⟨"TableTextModel", "bare", "()Z"⟩, 31), (⟨"TableTextModel", "isBare", "(I)Z"⟩, 31)]
theorem lw_r4 : ∀ q ∈ lw_privs_4, lw_okq q := List.forall_mem_cons.mpr ⟨lw_p48, List.forall_mem_cons.mpr ⟨lw_p49, List.forall_mem_cons.mpr ⟨lw_p50, List.forall_mem_cons.mpr ⟨lw_p51, List.forall_mem_cons.mpr ⟨lw_p52, List.forall_mem_cons.mpr ⟨lw_p53, List.forall_mem_cons.mpr ⟨lw_p54, List.forall_mem_cons.mpr ⟨lw_p55, List.forall_mem_cons.mpr ⟨lw_p56, List.forall_mem_cons.mpr ⟨lw_p57, List.forall_mem_cons.mpr ⟨lw_p58, List.forall_mem_cons.mpr ⟨lw_p59, List.forall_mem_cons.mpr ⟨lw_p60, List.forall_mem_cons.mpr ⟨lw_p61, List.forall_mem_cons.mpr ⟨lw_p62, List.forall_mem_cons.mpr ⟨lw_p63, fun _ h => absurd h List.not_mem_nil⟩⟩⟩⟩⟩⟩⟩⟩⟩⟩⟩⟩⟩⟩⟩⟩
theorem lw_p64 : lw_okq (⟨"TableTextModel", "isDigit", "(I)Z"⟩, 31) := ⟨⟨by decide +kernel, by decide +kernel⟩, List.mem_of_getElem? (i := 1021) (by decide +kernel), List.mem_of_getElem? (i := 1187) (by decide +kernel), List.mem_of_getElem? (i := 1188) (by decide +kernel)⟩
theorem lw_p65 : lw_okq (⟨"TableTextModel", "opened", "(Z)I"⟩, 31) := ⟨⟨by decide +kernel, by decide +kernel⟩, List.mem_of_getElem? (i := 1021) (by decide +kernel), List.mem_of_getElem? (i := 1191) (by decide +kernel), List.mem_of_getElem? (i := 1192) (by decide +kernel)⟩
theorem lw_p66 : lw_okq (⟨"TableTextModel", "leadHeader", "()I"⟩, 31) := ⟨⟨by decide +kernel, by decide +kernel⟩, List.mem_of_getElem? (i := 1021) (by decide +kernel), List.mem_of_getElem? (i := 1195) (by decide +kernel), List.mem_of_getElem? (i := 1196) (by decide +kernel)⟩
theorem lw_p67 : lw_okq (⟨"TableTextModel", "entryOf", "(II)I"⟩, 31) := ⟨⟨by decide +kernel, by decide +kernel⟩, List.mem_of_getElem? (i := 1021) (by decide +kernel), List.mem_of_getElem? (i := 1199) (by decide +kernel), List.mem_of_getElem? (i := 1200) (by decide +kernel)⟩
theorem lw_p68 : lw_okq (⟨"TableTextModel", "named", "(II)I"⟩, 31) := ⟨⟨by decide +kernel, by decide +kernel⟩, List.mem_of_getElem? (i := 1021) (by decide +kernel), List.mem_of_getElem? (i := 1203) (by decide +kernel), List.mem_of_getElem? (i := 1204) (by decide +kernel)⟩
theorem lw_p69 : lw_okq (⟨"TableTextModel", "isTable", "(I)Z"⟩, 31) := ⟨⟨by decide +kernel, by decide +kernel⟩, List.mem_of_getElem? (i := 1021) (by decide +kernel), List.mem_of_getElem? (i := 1207) (by decide +kernel), List.mem_of_getElem? (i := 1208) (by decide +kernel)⟩
theorem lw_p70 : lw_okq (⟨"TableTextModel", "entry", "(I)Z"⟩, 31) := ⟨⟨by decide +kernel, by decide +kernel⟩, List.mem_of_getElem? (i := 1021) (by decide +kernel), List.mem_of_getElem? (i := 1211) (by decide +kernel), List.mem_of_getElem? (i := 1212) (by decide +kernel)⟩
theorem lw_p71 : lw_okq (⟨"TableTextModel", "leadEntry", "(I)I"⟩, 31) := ⟨⟨by decide +kernel, by decide +kernel⟩, List.mem_of_getElem? (i := 1021) (by decide +kernel), List.mem_of_getElem? (i := 1215) (by decide +kernel), List.mem_of_getElem? (i := 1216) (by decide +kernel)⟩
theorem lw_p72 : lw_okq (⟨"TableTextModel", "beginValue", "(II)Z"⟩, 31) := ⟨⟨by decide +kernel, by decide +kernel⟩, List.mem_of_getElem? (i := 1021) (by decide +kernel), List.mem_of_getElem? (i := 1219) (by decide +kernel), List.mem_of_getElem? (i := 1220) (by decide +kernel)⟩
theorem lw_p73 : lw_okq (⟨"TableTextModel", "isDate", "()Z"⟩, 31) := ⟨⟨by decide +kernel, by decide +kernel⟩, List.mem_of_getElem? (i := 1021) (by decide +kernel), List.mem_of_getElem? (i := 1223) (by decide +kernel), List.mem_of_getElem? (i := 1224) (by decide +kernel)⟩
theorem lw_p74 : lw_okq (⟨"TableTextModel", "date", "(I)Z"⟩, 31) := ⟨⟨by decide +kernel, by decide +kernel⟩, List.mem_of_getElem? (i := 1021) (by decide +kernel), List.mem_of_getElem? (i := 1227) (by decide +kernel), List.mem_of_getElem? (i := 1228) (by decide +kernel)⟩
theorem lw_p75 : lw_okq (⟨"TableTextModel", "two", "()I"⟩, 31) := ⟨⟨by decide +kernel, by decide +kernel⟩, List.mem_of_getElem? (i := 1021) (by decide +kernel), List.mem_of_getElem? (i := 1231) (by decide +kernel), List.mem_of_getElem? (i := 1232) (by decide +kernel)⟩
theorem lw_p76 : lw_okq (⟨"TableTextModel", "daysOf", "(II)I"⟩, 31) := ⟨⟨by decide +kernel, by decide +kernel⟩, List.mem_of_getElem? (i := 1021) (by decide +kernel), List.mem_of_getElem? (i := 1235) (by decide +kernel), List.mem_of_getElem? (i := 1236) (by decide +kernel)⟩
theorem lw_p77 : lw_okq (⟨"TableTextModel", "number", "(I)Z"⟩, 31) := ⟨⟨by decide +kernel, by decide +kernel⟩, List.mem_of_getElem? (i := 1021) (by decide +kernel), List.mem_of_getElem? (i := 1239) (by decide +kernel), List.mem_of_getElem? (i := 1240) (by decide +kernel)⟩
theorem lw_p78 : lw_okq (⟨"TableTextModel", "digits", "(II)I"⟩, 31) := ⟨⟨by decide +kernel, by decide +kernel⟩, List.mem_of_getElem? (i := 1021) (by decide +kernel), List.mem_of_getElem? (i := 1243) (by decide +kernel), List.mem_of_getElem? (i := 1244) (by decide +kernel)⟩
theorem lw_p79 : lw_okq (⟨"TableTextModel", "digitOf", "(I)I"⟩, 31) := ⟨⟨by decide +kernel, by decide +kernel⟩, List.mem_of_getElem? (i := 1021) (by decide +kernel), List.mem_of_getElem? (i := 1247) (by decide +kernel), List.mem_of_getElem? (i := 1248) (by decide +kernel)⟩
def lw_privs_5 : List (MethodName × Nat) := [(⟨"TableTextModel", "isDigit", "(I)Z"⟩, 31), (⟨"TableTextModel", "opened", "(Z)I"⟩, 31), (⟨"TableTextModel", "leadHeader", "()I"⟩, 31), (⟨"TableTextModel", "entryOf", "(II)I"⟩, 31), (⟨"TableTextModel", "named", "(II)I"⟩, 31), (⟨"TableTextModel", "isTable", "(I)Z"⟩, 31), (⟨"TableTextModel", "entry", "(I)Z"⟩, 31), (⟨"TableTextModel", "leadEntry", "(I)I"⟩, 31), (⟨"TableTextModel", "beginValue", "(II)Z"⟩, 31), (⟨"TableTextModel", "isDate", "()Z"⟩, 31), (⟨"TableTextModel", "date", "(I)Z"⟩, 31), (⟨"TableTextModel", "two", "()I"⟩, 31), (⟨"TableTextModel", "daysOf", "(II)I"⟩, 31), (⟨"TableTextModel", "number", "(I)Z"⟩, 31), (⟨"TableTextModel", "digits", "(II)I"⟩, 31), (⟨"TableTextModel", "digitOf", "(I)I"⟩, 31)]
theorem lw_r5 : ∀ q ∈ lw_privs_5, lw_okq q := List.forall_mem_cons.mpr ⟨lw_p64, List.forall_mem_cons.mpr ⟨lw_p65, List.forall_mem_cons.mpr ⟨lw_p66, List.forall_mem_cons.mpr ⟨lw_p67, List.forall_mem_cons.mpr ⟨lw_p68, List.forall_mem_cons.mpr ⟨lw_p69, List.forall_mem_cons.mpr ⟨lw_p70, List.forall_mem_cons.mpr ⟨lw_p71, List.forall_mem_cons.mpr ⟨lw_p72, List.forall_mem_cons.mpr ⟨lw_p73, List.forall_mem_cons.mpr ⟨lw_p74, List.forall_mem_cons.mpr ⟨lw_p75, List.forall_mem_cons.mpr ⟨lw_p76, List.forall_mem_cons.mpr ⟨lw_p77, List.forall_mem_cons.mpr ⟨lw_p78, List.forall_mem_cons.mpr ⟨lw_p79, fun _ h => absurd h List.not_mem_nil⟩⟩⟩⟩⟩⟩⟩⟩⟩⟩⟩⟩⟩⟩⟩⟩
theorem lw_p80 : lw_okq (⟨"TableTextModel", "truth", "(I)Z"⟩, 31) := ⟨⟨by decide +kernel, by decide +kernel⟩, List.mem_of_getElem? (i := 1021) (by decide +kernel), List.mem_of_getElem? (i := 1251) (by decide +kernel), List.mem_of_getElem? (i := 1252) (by decide +kernel)⟩
theorem lw_p81 : lw_okq (⟨"TableTextModel", "letterOf", "(ZI)I"⟩, 31) := ⟨⟨by decide +kernel, by decide +kernel⟩, List.mem_of_getElem? (i := 1021) (by decide +kernel), List.mem_of_getElem? (i := 1255) (by decide +kernel), List.mem_of_getElem? (i := 1256) (by decide +kernel)⟩
theorem lw_p82 : lw_okq (⟨"TableTextModel", "finishValue", "()Z"⟩, 31) := ⟨⟨by decide +kernel, by decide +kernel⟩, List.mem_of_getElem? (i := 1021) (by decide +kernel), List.mem_of_getElem? (i := 1259) (by decide +kernel), List.mem_of_getElem? (i := 1260) (by decide +kernel)⟩
theorem lw_p83 : lw_okq (⟨"TableTextModel", "stepList", "(I)Z"⟩, 31) := ⟨⟨by decide +kernel, by decide +kernel⟩, List.mem_of_getElem? (i := 1021) (by decide +kernel), List.mem_of_getElem? (i := 1263) (by decide +kernel), List.mem_of_getElem? (i := 1264) (by decide +kernel)⟩
theorem lw_p84 : lw_okq (⟨"TableTextModel", "room", "()V"⟩, 31) := ⟨⟨by decide +kernel, by decide +kernel⟩, List.mem_of_getElem? (i := 1021) (by decide +kernel), List.mem_of_getElem? (i := 1267) (by decide +kernel), List.mem_of_getElem? (i := 1268) (by decide +kernel)⟩
theorem lw_p85 : lw_okq (⟨"TableTextModel", "comment", "()V"⟩, 31) := ⟨⟨by decide +kernel, by decide +kernel⟩, List.mem_of_getElem? (i := 1021) (by decide +kernel), List.mem_of_getElem? (i := 1271) (by decide +kernel), List.mem_of_getElem? (i := 1272) (by decide +kernel)⟩
theorem lw_p86 : lw_okq (⟨"TableTextModel", "stepTable", "(I)Z"⟩, 31) := ⟨⟨by decide +kernel, by decide +kernel⟩, List.mem_of_getElem? (i := 1021) (by decide +kernel), List.mem_of_getElem? (i := 1275) (by decide +kernel), List.mem_of_getElem? (i := 1276) (by decide +kernel)⟩
theorem lw_p87 : lw_okq (⟨"TableTextModel", "putKey", "(I)V"⟩, 31) := ⟨⟨by decide +kernel, by decide +kernel⟩, List.mem_of_getElem? (i := 1021) (by decide +kernel), List.mem_of_getElem? (i := 1283) (by decide +kernel), List.mem_of_getElem? (i := 1284) (by decide +kernel)⟩
theorem lw_p88 : lw_okq (⟨"TableTextModel", "putQuoted", "(II)V"⟩, 31) := ⟨⟨by decide +kernel, by decide +kernel⟩, List.mem_of_getElem? (i := 1021) (by decide +kernel), List.mem_of_getElem? (i := 1287) (by decide +kernel), List.mem_of_getElem? (i := 1288) (by decide +kernel)⟩
theorem lw_p89 : lw_okq (⟨"TableTextModel", "put", "(I)V"⟩, 31) := ⟨⟨by decide +kernel, by decide +kernel⟩, List.mem_of_getElem? (i := 1021) (by decide +kernel), List.mem_of_getElem? (i := 1291) (by decide +kernel), List.mem_of_getElem? (i := 1292) (by decide +kernel)⟩
theorem lw_p90 : lw_okq (⟨"TableTextModel", "putValue", "(I)V"⟩, 31) := ⟨⟨by decide +kernel, by decide +kernel⟩, List.mem_of_getElem? (i := 1021) (by decide +kernel), List.mem_of_getElem? (i := 1295) (by decide +kernel), List.mem_of_getElem? (i := 1296) (by decide +kernel)⟩
theorem lw_p91 : lw_okq (⟨"TableTextModel", "putHead", "(I)V"⟩, 31) := ⟨⟨by decide +kernel, by decide +kernel⟩, List.mem_of_getElem? (i := 1021) (by decide +kernel), List.mem_of_getElem? (i := 1299) (by decide +kernel), List.mem_of_getElem? (i := 1300) (by decide +kernel)⟩
theorem lw_p92 : lw_okq (⟨"TableTextModel", "putNumber", "(II)V"⟩, 31) := ⟨⟨by decide +kernel, by decide +kernel⟩, List.mem_of_getElem? (i := 1021) (by decide +kernel), List.mem_of_getElem? (i := 1303) (by decide +kernel), List.mem_of_getElem? (i := 1304) (by decide +kernel)⟩
theorem lw_p93 : lw_okq (⟨"TableTextModel", "holds", "(I)Z"⟩, 31) := ⟨⟨by decide +kernel, by decide +kernel⟩, List.mem_of_getElem? (i := 1021) (by decide +kernel), List.mem_of_getElem? (i := 1307) (by decide +kernel), List.mem_of_getElem? (i := 1308) (by decide +kernel)⟩
theorem lw_p94 : lw_okq (⟨"TableTextModel", "putEntry", "(I)V"⟩, 31) := ⟨⟨by decide +kernel, by decide +kernel⟩, List.mem_of_getElem? (i := 1021) (by decide +kernel), List.mem_of_getElem? (i := 1311) (by decide +kernel), List.mem_of_getElem? (i := 1312) (by decide +kernel)⟩
def lw_privs_6 : List (MethodName × Nat) := [(⟨"TableTextModel", "truth", "(I)Z"⟩, 31), (⟨"TableTextModel", "letterOf", "(ZI)I"⟩, 31), (⟨"TableTextModel", "finishValue", "()Z"⟩, 31), (⟨"TableTextModel", "stepList", "(I)Z"⟩, 31), (⟨"TableTextModel", "room", "()V"⟩, 31), (⟨"TableTextModel", "comment", "()V"⟩, 31), (⟨"TableTextModel", "stepTable", "(I)Z"⟩, 31), (⟨"TableTextModel", "putKey", "(I)V"⟩, 31), (⟨"TableTextModel", "putQuoted", "(II)V"⟩, 31), (⟨"TableTextModel", "put", "(I)V"⟩, 31), (⟨"TableTextModel", "putValue", "(I)V"⟩, 31), (⟨"TableTextModel", "putHead", "(I)V"⟩, 31), (⟨"TableTextModel", "putNumber", "(II)V"⟩, 31), (⟨"TableTextModel", "holds", "(I)Z"⟩, 31), (⟨"TableTextModel", "putEntry", "(I)V"⟩, 31)]
theorem lw_r6 : ∀ q ∈ lw_privs_6, lw_okq q := List.forall_mem_cons.mpr ⟨lw_p80, List.forall_mem_cons.mpr ⟨lw_p81, List.forall_mem_cons.mpr ⟨lw_p82, List.forall_mem_cons.mpr ⟨lw_p83, List.forall_mem_cons.mpr ⟨lw_p84, List.forall_mem_cons.mpr ⟨lw_p85, List.forall_mem_cons.mpr ⟨lw_p86, List.forall_mem_cons.mpr ⟨lw_p87, List.forall_mem_cons.mpr ⟨lw_p88, List.forall_mem_cons.mpr ⟨lw_p89, List.forall_mem_cons.mpr ⟨lw_p90, List.forall_mem_cons.mpr ⟨lw_p91, List.forall_mem_cons.mpr ⟨lw_p92, List.forall_mem_cons.mpr ⟨lw_p93, List.forall_mem_cons.mpr ⟨lw_p94, fun _ h => absurd h List.not_mem_nil⟩⟩⟩⟩⟩⟩⟩⟩⟩⟩⟩⟩⟩⟩⟩
def lw_privs : List (MethodName × Nat) := lw_privs_1 ++ (lw_privs_2 ++ (lw_privs_3 ++ (lw_privs_4 ++ (lw_privs_5 ++ (lw_privs_6)))))
def lw_tbl : List Cond := k2_sels lw_privs ++ tables_1
theorem lw_privs_ok : ∀ q ∈ lw_privs, lw_okq q := by
  show ∀ q ∈ lw_privs_1 ++ (lw_privs_2 ++ (lw_privs_3 ++ (lw_privs_4 ++ (lw_privs_5 ++ (lw_privs_6))))), lw_okq q
  exact List.forall_mem_append.mpr ⟨lw_r1, List.forall_mem_append.mpr ⟨lw_r2, List.forall_mem_append.mpr ⟨lw_r3, List.forall_mem_append.mpr ⟨lw_r4, List.forall_mem_append.mpr ⟨lw_r5, lw_r6⟩⟩⟩⟩⟩
end
section
/-! The words that methods may use; the classes, their fields in the order of the worlds. -/
def wsA : List Cond := lw_tbl.filter goodWord
theorem wsA_good {w : Cond} (h : w ∈ wsA) : w ∈ wsA ∧ ((w.onTables && w.keeps) = true ∨ ∃ ty, w = .arrayClass ty) := ⟨h, good_of_word (List.mem_filter.mp h).2⟩
theorem gV {own C : String} {idx : Nat} {y : MethodName} {cd : Cond} (h1 : Cond.methodLink own idx y ∈ wsA) (h2 : Cond.instanceMethod y ∈ wsA) (h3 : Cond.selects C y y ∈ wsA) (h4 : Cond.initialized C ∈ wsA) (h5 : cd ∈ wsA) : GoodIn wsA (wsV own idx C y (cd :: wsA)) := fun w hw => wsA_good (by
  unfold wsV at hw
  rcases List.mem_append.mp hw with h | h
  · simp only [List.mem_cons, List.not_mem_nil, or_false] at h
    rcases h with rfl | rfl | rfl | rfl
    · exact h1
    · exact h2
    · exact h3
    · exact h4
  · rcases List.mem_cons.mp h with rfl | h
    · exact h5
    · exact h)
theorem wsA_app {C : String} {T : u_T} {N : Nat} (h : ∀ k, k < N → u_lay C T k ∈ wsA) : ∀ w ∈ u_ws C T N, w ∈ wsA := fun w hw => by
  obtain ⟨k, hk, rfl⟩ := List.mem_map.mp hw
  exact h k (List.mem_range.mp hk)
def RZ0 : String := "TableTextModel"
def TZ0 : u_T := fun k => match k with
  | 0 => ("TableTextModel", "thrown", "I", false)
  | 1 => ("TableTextModel", "size", "I", false)
  | 2 => ("TableTextModel", "text", "[I", false)
  | 3 => ("TableTextModel", "at", "I", false)
  | 4 => ("TableTextModel", "bad", "I", false)
  | 5 => ("TableTextModel", "half", "I", false)
  | 6 => ("TableTextModel", "many", "[I", false)
  | 7 => ("TableTextModel", "kinds", "[I", false)
  | 8 => ("TableTextModel", "numbers", "[I", false)
  | 9 => ("TableTextModel", "holders", "[I", false)
  | 10 => ("TableTextModel", "firsts", "[I", false)
  | 11 => ("TableTextModel", "lasts", "[I", false)
  | 12 => ("TableTextModel", "nexts", "[I", false)
  | 13 => ("TableTextModel", "counts", "[I", false)
  | 14 => ("TableTextModel", "keyFrom", "[I", false)
  | 15 => ("TableTextModel", "keySize", "[I", false)
  | 16 => ("TableTextModel", "used", "[I", false)
  | 17 => ("TableTextModel", "letters", "[I", false)
  | 18 => ("TableTextModel", "cursor", "I", false)
  | 19 => ("TableTextModel", "build", "I", false)
  | 20 => ("TableTextModel", "parts", "I", false)
  | 21 => ("TableTextModel", "partAt", "[I", false)
  | 22 => ("TableTextModel", "partFrom", "[I", false)
  | 23 => ("TableTextModel", "partSize", "[I", false)
  | 24 => ("TableTextModel", "from", "I", false)
  | 25 => ("TableTextModel", "length", "I", false)
  | 26 => ("TableTextModel", "depth", "I", false)
  | 27 => ("TableTextModel", "open", "[I", false)
  | 28 => ("TableTextModel", "states", "[I", false)
  | 29 => ("TableTextModel", "writtenSize", "I", false)
  | _ => ("TableTextModel", "output", "[I", false)
def tyZ0 : Nat → FieldType := fun k => match k with
  | 0 => .int
  | 1 => .int
  | 2 => .array .int
  | 3 => .int
  | 4 => .int
  | 5 => .int
  | 6 => .array .int
  | 7 => .array .int
  | 8 => .array .int
  | 9 => .array .int
  | 10 => .array .int
  | 11 => .array .int
  | 12 => .array .int
  | 13 => .array .int
  | 14 => .array .int
  | 15 => .array .int
  | 16 => .array .int
  | 17 => .array .int
  | 18 => .int
  | 19 => .int
  | 20 => .int
  | 21 => .array .int
  | 22 => .array .int
  | 23 => .array .int
  | 24 => .int
  | 25 => .int
  | 26 => .int
  | 27 => .array .int
  | 28 => .array .int
  | 29 => .int
  | _ => .array .int
theorem nmZ0 : ∀ a, a < 31 → ∀ b, b < 31 → a ≠ b → (TZ0 a).2.1 ≠ (TZ0 b).2.1 := by decide +kernel
theorem tyZ0_ok : ∀ k, k < 31 → parseFieldDescriptor (TZ0 k).2.2.1 = some (tyZ0 k) := by decide +kernel
theorem wZ0_0 : u_lay RZ0 TZ0 0 ∈ wsA := List.mem_filter.mpr ⟨List.mem_of_getElem? (i := 1152) (by decide +kernel), by decide +kernel⟩
theorem wZ0_1 : u_lay RZ0 TZ0 1 ∈ wsA := List.mem_filter.mpr ⟨List.mem_of_getElem? (i := 1154) (by decide +kernel), by decide +kernel⟩
theorem wZ0_2 : u_lay RZ0 TZ0 2 ∈ wsA := List.mem_filter.mpr ⟨List.mem_of_getElem? (i := 1156) (by decide +kernel), by decide +kernel⟩
theorem wZ0_3 : u_lay RZ0 TZ0 3 ∈ wsA := List.mem_filter.mpr ⟨List.mem_of_getElem? (i := 1158) (by decide +kernel), by decide +kernel⟩
theorem wZ0_4 : u_lay RZ0 TZ0 4 ∈ wsA := List.mem_filter.mpr ⟨List.mem_of_getElem? (i := 1160) (by decide +kernel), by decide +kernel⟩
theorem wZ0_5 : u_lay RZ0 TZ0 5 ∈ wsA := List.mem_filter.mpr ⟨List.mem_of_getElem? (i := 1162) (by decide +kernel), by decide +kernel⟩
theorem wZ0_6 : u_lay RZ0 TZ0 6 ∈ wsA := List.mem_filter.mpr ⟨List.mem_of_getElem? (i := 1164) (by decide +kernel), by decide +kernel⟩
theorem wZ0_7 : u_lay RZ0 TZ0 7 ∈ wsA := List.mem_filter.mpr ⟨List.mem_of_getElem? (i := 1166) (by decide +kernel), by decide +kernel⟩
theorem wZ0_8 : u_lay RZ0 TZ0 8 ∈ wsA := List.mem_filter.mpr ⟨List.mem_of_getElem? (i := 1168) (by decide +kernel), by decide +kernel⟩
theorem wZ0_9 : u_lay RZ0 TZ0 9 ∈ wsA := List.mem_filter.mpr ⟨List.mem_of_getElem? (i := 1170) (by decide +kernel), by decide +kernel⟩
theorem wZ0_10 : u_lay RZ0 TZ0 10 ∈ wsA := List.mem_filter.mpr ⟨List.mem_of_getElem? (i := 1172) (by decide +kernel), by decide +kernel⟩
theorem wZ0_11 : u_lay RZ0 TZ0 11 ∈ wsA := List.mem_filter.mpr ⟨List.mem_of_getElem? (i := 1174) (by decide +kernel), by decide +kernel⟩
theorem wZ0_12 : u_lay RZ0 TZ0 12 ∈ wsA := List.mem_filter.mpr ⟨List.mem_of_getElem? (i := 1176) (by decide +kernel), by decide +kernel⟩
theorem wZ0_13 : u_lay RZ0 TZ0 13 ∈ wsA := List.mem_filter.mpr ⟨List.mem_of_getElem? (i := 1178) (by decide +kernel), by decide +kernel⟩
theorem wZ0_14 : u_lay RZ0 TZ0 14 ∈ wsA := List.mem_filter.mpr ⟨List.mem_of_getElem? (i := 1180) (by decide +kernel), by decide +kernel⟩
theorem wZ0_15 : u_lay RZ0 TZ0 15 ∈ wsA := List.mem_filter.mpr ⟨List.mem_of_getElem? (i := 1182) (by decide +kernel), by decide +kernel⟩
theorem wZ0_16 : u_lay RZ0 TZ0 16 ∈ wsA := List.mem_filter.mpr ⟨List.mem_of_getElem? (i := 1184) (by decide +kernel), by decide +kernel⟩
theorem wZ0_17 : u_lay RZ0 TZ0 17 ∈ wsA := List.mem_filter.mpr ⟨List.mem_of_getElem? (i := 1186) (by decide +kernel), by decide +kernel⟩
theorem wZ0_18 : u_lay RZ0 TZ0 18 ∈ wsA := List.mem_filter.mpr ⟨List.mem_of_getElem? (i := 1188) (by decide +kernel), by decide +kernel⟩
theorem wZ0_19 : u_lay RZ0 TZ0 19 ∈ wsA := List.mem_filter.mpr ⟨List.mem_of_getElem? (i := 1190) (by decide +kernel), by decide +kernel⟩
theorem wZ0_20 : u_lay RZ0 TZ0 20 ∈ wsA := List.mem_filter.mpr ⟨List.mem_of_getElem? (i := 1192) (by decide +kernel), by decide +kernel⟩
theorem wZ0_21 : u_lay RZ0 TZ0 21 ∈ wsA := List.mem_filter.mpr ⟨List.mem_of_getElem? (i := 1194) (by decide +kernel), by decide +kernel⟩
theorem wZ0_22 : u_lay RZ0 TZ0 22 ∈ wsA := List.mem_filter.mpr ⟨List.mem_of_getElem? (i := 1196) (by decide +kernel), by decide +kernel⟩
theorem wZ0_23 : u_lay RZ0 TZ0 23 ∈ wsA := List.mem_filter.mpr ⟨List.mem_of_getElem? (i := 1198) (by decide +kernel), by decide +kernel⟩
theorem wZ0_24 : u_lay RZ0 TZ0 24 ∈ wsA := List.mem_filter.mpr ⟨List.mem_of_getElem? (i := 1200) (by decide +kernel), by decide +kernel⟩
theorem wZ0_25 : u_lay RZ0 TZ0 25 ∈ wsA := List.mem_filter.mpr ⟨List.mem_of_getElem? (i := 1202) (by decide +kernel), by decide +kernel⟩
theorem wZ0_26 : u_lay RZ0 TZ0 26 ∈ wsA := List.mem_filter.mpr ⟨List.mem_of_getElem? (i := 1204) (by decide +kernel), by decide +kernel⟩
theorem wZ0_27 : u_lay RZ0 TZ0 27 ∈ wsA := List.mem_filter.mpr ⟨List.mem_of_getElem? (i := 1206) (by decide +kernel), by decide +kernel⟩
theorem wZ0_28 : u_lay RZ0 TZ0 28 ∈ wsA := List.mem_filter.mpr ⟨List.mem_of_getElem? (i := 1208) (by decide +kernel), by decide +kernel⟩
theorem wZ0_29 : u_lay RZ0 TZ0 29 ∈ wsA := List.mem_filter.mpr ⟨List.mem_of_getElem? (i := 1210) (by decide +kernel), by decide +kernel⟩
theorem wZ0_30 : u_lay RZ0 TZ0 30 ∈ wsA := List.mem_filter.mpr ⟨List.mem_of_getElem? (i := 1212) (by decide +kernel), by decide +kernel⟩
theorem wsA_Z0 : ∀ w ∈ u_ws RZ0 TZ0 31, w ∈ wsA := wsA_app (fun k hk => match k, hk with
  | 0, _ => wZ0_0
  | 1, _ => wZ0_1
  | 2, _ => wZ0_2
  | 3, _ => wZ0_3
  | 4, _ => wZ0_4
  | 5, _ => wZ0_5
  | 6, _ => wZ0_6
  | 7, _ => wZ0_7
  | 8, _ => wZ0_8
  | 9, _ => wZ0_9
  | 10, _ => wZ0_10
  | 11, _ => wZ0_11
  | 12, _ => wZ0_12
  | 13, _ => wZ0_13
  | 14, _ => wZ0_14
  | 15, _ => wZ0_15
  | 16, _ => wZ0_16
  | 17, _ => wZ0_17
  | 18, _ => wZ0_18
  | 19, _ => wZ0_19
  | 20, _ => wZ0_20
  | 21, _ => wZ0_21
  | 22, _ => wZ0_22
  | 23, _ => wZ0_23
  | 24, _ => wZ0_24
  | 25, _ => wZ0_25
  | 26, _ => wZ0_26
  | 27, _ => wZ0_27
  | 28, _ => wZ0_28
  | 29, _ => wZ0_29
  | 30, _ => wZ0_30
  | k + 31, hk => absurd hk (by omega))
def RZ1 : String := "TableText"
def TZ1 : u_T := fun k => match k with
  | 0 => ("TableText", "text", "[C", true)
  | 1 => ("TableText", "page", "LTableText$Page;", true)
  | 2 => ("TableText", "length", "I", false)
  | 3 => ("TableText", "document", "LTableText$Node;", false)
  | _ => ("TableText", "cursor", "LTableText$Node;", false)
def tyZ1 : Nat → FieldType := fun k => match k with
  | 0 => .array .char
  | 1 => .object "TableText$Page"
  | 2 => .int
  | 3 => .object "TableText$Node"
  | _ => .object "TableText$Node"
theorem nmZ1 : ∀ a, a < 5 → ∀ b, b < 5 → a ≠ b → (TZ1 a).2.1 ≠ (TZ1 b).2.1 := by decide +kernel
theorem tyZ1_ok : ∀ k, k < 5 → parseFieldDescriptor (TZ1 k).2.2.1 = some (tyZ1 k) := by decide +kernel
theorem wZ1_0 : u_lay RZ1 TZ1 0 ∈ wsA := List.mem_filter.mpr ⟨List.mem_of_getElem? (i := 200) (by decide +kernel), by decide +kernel⟩
theorem wZ1_1 : u_lay RZ1 TZ1 1 ∈ wsA := List.mem_filter.mpr ⟨List.mem_of_getElem? (i := 202) (by decide +kernel), by decide +kernel⟩
theorem wZ1_2 : u_lay RZ1 TZ1 2 ∈ wsA := List.mem_filter.mpr ⟨List.mem_of_getElem? (i := 204) (by decide +kernel), by decide +kernel⟩
theorem wZ1_3 : u_lay RZ1 TZ1 3 ∈ wsA := List.mem_filter.mpr ⟨List.mem_of_getElem? (i := 206) (by decide +kernel), by decide +kernel⟩
theorem wZ1_4 : u_lay RZ1 TZ1 4 ∈ wsA := List.mem_filter.mpr ⟨List.mem_of_getElem? (i := 208) (by decide +kernel), by decide +kernel⟩
theorem wsA_Z1 : ∀ w ∈ u_ws RZ1 TZ1 5, w ∈ wsA := wsA_app (fun k hk => match k, hk with
  | 0, _ => wZ1_0
  | 1, _ => wZ1_1
  | 2, _ => wZ1_2
  | 3, _ => wZ1_3
  | 4, _ => wZ1_4
  | k + 5, hk => absurd hk (by omega))
def RZ2 : String := "TableText$Node"
def TZ2 : u_T := fun k => match k with
  | 0 => ("TableText$Node", "sort", "I", false)
  | 1 => ("TableText$Node", "amount", "I", false)
  | 2 => ("TableText$Node", "letters", "Ljava/lang/String;", false)
  | 3 => ("TableText$Node", "name", "Ljava/lang/String;", false)
  | 4 => ("TableText$Node", "outer", "LTableText$Node;", false)
  | 5 => ("TableText$Node", "first", "LTableText$Node;", false)
  | 6 => ("TableText$Node", "last", "LTableText$Node;", false)
  | _ => ("TableText$Node", "next", "LTableText$Node;", false)
def tyZ2 : Nat → FieldType := fun k => match k with
  | 0 => .int
  | 1 => .int
  | 2 => .object "java/lang/String"
  | 3 => .object "java/lang/String"
  | 4 => .object "TableText$Node"
  | 5 => .object "TableText$Node"
  | 6 => .object "TableText$Node"
  | _ => .object "TableText$Node"
theorem nmZ2 : ∀ a, a < 8 → ∀ b, b < 8 → a ≠ b → (TZ2 a).2.1 ≠ (TZ2 b).2.1 := by decide +kernel
theorem tyZ2_ok : ∀ k, k < 8 → parseFieldDescriptor (TZ2 k).2.2.1 = some (tyZ2 k) := by decide +kernel
theorem wZ2_0 : u_lay RZ2 TZ2 0 ∈ wsA := List.mem_filter.mpr ⟨List.mem_of_getElem? (i := 178) (by decide +kernel), by decide +kernel⟩
theorem wZ2_1 : u_lay RZ2 TZ2 1 ∈ wsA := List.mem_filter.mpr ⟨List.mem_of_getElem? (i := 180) (by decide +kernel), by decide +kernel⟩
theorem wZ2_2 : u_lay RZ2 TZ2 2 ∈ wsA := List.mem_filter.mpr ⟨List.mem_of_getElem? (i := 182) (by decide +kernel), by decide +kernel⟩
theorem wZ2_3 : u_lay RZ2 TZ2 3 ∈ wsA := List.mem_filter.mpr ⟨List.mem_of_getElem? (i := 184) (by decide +kernel), by decide +kernel⟩
theorem wZ2_4 : u_lay RZ2 TZ2 4 ∈ wsA := List.mem_filter.mpr ⟨List.mem_of_getElem? (i := 186) (by decide +kernel), by decide +kernel⟩
theorem wZ2_5 : u_lay RZ2 TZ2 5 ∈ wsA := List.mem_filter.mpr ⟨List.mem_of_getElem? (i := 188) (by decide +kernel), by decide +kernel⟩
theorem wZ2_6 : u_lay RZ2 TZ2 6 ∈ wsA := List.mem_filter.mpr ⟨List.mem_of_getElem? (i := 190) (by decide +kernel), by decide +kernel⟩
theorem wZ2_7 : u_lay RZ2 TZ2 7 ∈ wsA := List.mem_filter.mpr ⟨List.mem_of_getElem? (i := 192) (by decide +kernel), by decide +kernel⟩
theorem wsA_Z2 : ∀ w ∈ u_ws RZ2 TZ2 8, w ∈ wsA := wsA_app (fun k hk => match k, hk with
  | 0, _ => wZ2_0
  | 1, _ => wZ2_1
  | 2, _ => wZ2_2
  | 3, _ => wZ2_3
  | 4, _ => wZ2_4
  | 5, _ => wZ2_5
  | 6, _ => wZ2_6
  | 7, _ => wZ2_7
  | k + 8, hk => absurd hk (by omega))
def RZ3 : String := "TableText$Step"
def TZ3 : u_T := fun k => match k with
  | 0 => ("TableText$Step", "name", "Ljava/lang/String;", true)
  | 1 => ("TableText$Step", "place", "I", true)
  | _ => ("TableText$Step", "next", "LTableText$Step;", false)
def tyZ3 : Nat → FieldType := fun k => match k with
  | 0 => .object "java/lang/String"
  | 1 => .int
  | _ => .object "TableText$Step"
theorem nmZ3 : ∀ a, a < 3 → ∀ b, b < 3 → a ≠ b → (TZ3 a).2.1 ≠ (TZ3 b).2.1 := by decide +kernel
theorem tyZ3_ok : ∀ k, k < 3 → parseFieldDescriptor (TZ3 k).2.2.1 = some (tyZ3 k) := by decide +kernel
theorem wZ3_0 : u_lay RZ3 TZ3 0 ∈ wsA := List.mem_filter.mpr ⟨List.mem_of_getElem? (i := 732) (by decide +kernel), by decide +kernel⟩
theorem wZ3_1 : u_lay RZ3 TZ3 1 ∈ wsA := List.mem_filter.mpr ⟨List.mem_of_getElem? (i := 734) (by decide +kernel), by decide +kernel⟩
theorem wZ3_2 : u_lay RZ3 TZ3 2 ∈ wsA := List.mem_filter.mpr ⟨List.mem_of_getElem? (i := 736) (by decide +kernel), by decide +kernel⟩
theorem wsA_Z3 : ∀ w ∈ u_ws RZ3 TZ3 3, w ∈ wsA := wsA_app (fun k hk => match k, hk with
  | 0, _ => wZ3_0
  | 1, _ => wZ3_1
  | 2, _ => wZ3_2
  | k + 3, hk => absurd hk (by omega))
def RZ4 : String := "TableText$Reader"
def TZ4 : u_T := fun k => match k with
  | 0 => ("TableText$Reader", "text", "[C", true)
  | 1 => ("TableText$Reader", "length", "I", true)
  | 2 => ("TableText$Reader", "letters", "Ljava/lang/StringBuilder;", true)
  | 3 => ("TableText$Reader", "dotted", "Ljava/util/ArrayList;", true)
  | 4 => ("TableText$Reader", "document", "LTableText$Node;", true)
  | 5 => ("TableText$Reader", "opened", "LTableText$Node;", false)
  | 6 => ("TableText$Reader", "at", "I", false)
  | _ => ("TableText$Reader", "wrongPlace", "I", false)
def tyZ4 : Nat → FieldType := fun k => match k with
  | 0 => .array .char
  | 1 => .int
  | 2 => .object "java/lang/StringBuilder"
  | 3 => .object "java/util/ArrayList"
  | 4 => .object "TableText$Node"
  | 5 => .object "TableText$Node"
  | 6 => .int
  | _ => .int
theorem nmZ4 : ∀ a, a < 8 → ∀ b, b < 8 → a ≠ b → (TZ4 a).2.1 ≠ (TZ4 b).2.1 := by decide +kernel
theorem tyZ4_ok : ∀ k, k < 8 → parseFieldDescriptor (TZ4 k).2.2.1 = some (tyZ4 k) := by decide +kernel
theorem wZ4_0 : u_lay RZ4 TZ4 0 ∈ wsA := List.mem_filter.mpr ⟨List.mem_of_getElem? (i := 291) (by decide +kernel), by decide +kernel⟩
theorem wZ4_1 : u_lay RZ4 TZ4 1 ∈ wsA := List.mem_filter.mpr ⟨List.mem_of_getElem? (i := 293) (by decide +kernel), by decide +kernel⟩
theorem wZ4_2 : u_lay RZ4 TZ4 2 ∈ wsA := List.mem_filter.mpr ⟨List.mem_of_getElem? (i := 295) (by decide +kernel), by decide +kernel⟩
theorem wZ4_3 : u_lay RZ4 TZ4 3 ∈ wsA := List.mem_filter.mpr ⟨List.mem_of_getElem? (i := 297) (by decide +kernel), by decide +kernel⟩
theorem wZ4_4 : u_lay RZ4 TZ4 4 ∈ wsA := List.mem_filter.mpr ⟨List.mem_of_getElem? (i := 299) (by decide +kernel), by decide +kernel⟩
theorem wZ4_5 : u_lay RZ4 TZ4 5 ∈ wsA := List.mem_filter.mpr ⟨List.mem_of_getElem? (i := 301) (by decide +kernel), by decide +kernel⟩
theorem wZ4_6 : u_lay RZ4 TZ4 6 ∈ wsA := List.mem_filter.mpr ⟨List.mem_of_getElem? (i := 303) (by decide +kernel), by decide +kernel⟩
theorem wZ4_7 : u_lay RZ4 TZ4 7 ∈ wsA := List.mem_filter.mpr ⟨List.mem_of_getElem? (i := 305) (by decide +kernel), by decide +kernel⟩
theorem wsA_Z4 : ∀ w ∈ u_ws RZ4 TZ4 8, w ∈ wsA := wsA_app (fun k hk => match k, hk with
  | 0, _ => wZ4_0
  | 1, _ => wZ4_1
  | 2, _ => wZ4_2
  | 3, _ => wZ4_3
  | 4, _ => wZ4_4
  | 5, _ => wZ4_5
  | 6, _ => wZ4_6
  | 7, _ => wZ4_7
  | k + 8, hk => absurd hk (by omega))
def RZ5 : String := "TableText$Page"
def TZ5 : u_T := fun k => match k with
  | 0 => ("TableText$Page", "kept", "[C", true)
  | _ => ("TableText$Page", "count", "I", false)
def tyZ5 : Nat → FieldType := fun k => match k with
  | 0 => .array .char
  | _ => .int
theorem nmZ5 : ∀ a, a < 2 → ∀ b, b < 2 → a ≠ b → (TZ5 a).2.1 ≠ (TZ5 b).2.1 := by decide +kernel
theorem tyZ5_ok : ∀ k, k < 2 → parseFieldDescriptor (TZ5 k).2.2.1 = some (tyZ5 k) := by decide +kernel
theorem wZ5_0 : u_lay RZ5 TZ5 0 ∈ wsA := List.mem_filter.mpr ⟨List.mem_of_getElem? (i := 143) (by decide +kernel), by decide +kernel⟩
theorem wZ5_1 : u_lay RZ5 TZ5 1 ∈ wsA := List.mem_filter.mpr ⟨List.mem_of_getElem? (i := 145) (by decide +kernel), by decide +kernel⟩
theorem wsA_Z5 : ∀ w ∈ u_ws RZ5 TZ5 2, w ∈ wsA := wsA_app (fun k hk => match k, hk with
  | 0, _ => wZ5_0
  | 1, _ => wZ5_1
  | k + 2, hk => absurd hk (by omega))
def RZ6 : String := "java/lang/String"
def TZ6 : u_T := fun k => match k with
  | 0 => ("java/lang/String", "value", "[B", true)
  | _ => ("java/lang/String", "coder", "B", true)
def tyZ6 : Nat → FieldType := fun k => match k with
  | 0 => .array .byte
  | _ => .byte
theorem nmZ6 : ∀ a, a < 2 → ∀ b, b < 2 → a ≠ b → (TZ6 a).2.1 ≠ (TZ6 b).2.1 := by decide +kernel
theorem tyZ6_ok : ∀ k, k < 2 → parseFieldDescriptor (TZ6 k).2.2.1 = some (tyZ6 k) := by decide +kernel
theorem wZ6_0 : u_lay RZ6 TZ6 0 ∈ wsA := List.mem_filter.mpr ⟨List.mem_of_getElem? (i := 620) (by decide +kernel), by decide +kernel⟩
theorem wZ6_1 : u_lay RZ6 TZ6 1 ∈ wsA := List.mem_filter.mpr ⟨List.mem_of_getElem? (i := 622) (by decide +kernel), by decide +kernel⟩
theorem wsA_Z6 : ∀ w ∈ u_ws RZ6 TZ6 2, w ∈ wsA := wsA_app (fun k hk => match k, hk with
  | 0, _ => wZ6_0
  | 1, _ => wZ6_1
  | k + 2, hk => absurd hk (by omega))
def RZ7 : String := "java/lang/StringBuilder"
def TZ7 : u_T := fun k => match k with
  | 0 => ("java/lang/AbstractStringBuilder", "value", "[B", false)
  | 1 => ("java/lang/AbstractStringBuilder", "coder", "B", false)
  | 2 => ("java/lang/AbstractStringBuilder", "maybeLatin1", "Z", false)
  | _ => ("java/lang/AbstractStringBuilder", "count", "I", false)
def tyZ7 : Nat → FieldType := fun k => match k with
  | 0 => .array .byte
  | 1 => .byte
  | 2 => .boolean
  | _ => .int
theorem nmZ7 : ∀ a, a < 4 → ∀ b, b < 4 → a ≠ b → (TZ7 a).2.1 ≠ (TZ7 b).2.1 := by decide +kernel
theorem tyZ7_ok : ∀ k, k < 4 → parseFieldDescriptor (TZ7 k).2.2.1 = some (tyZ7 k) := by decide +kernel
theorem wZ7_0 : u_lay RZ7 TZ7 0 ∈ wsA := List.mem_filter.mpr ⟨List.mem_of_getElem? (i := 244) (by decide +kernel), by decide +kernel⟩
theorem wZ7_1 : u_lay RZ7 TZ7 1 ∈ wsA := List.mem_filter.mpr ⟨List.mem_of_getElem? (i := 246) (by decide +kernel), by decide +kernel⟩
theorem wZ7_2 : u_lay RZ7 TZ7 2 ∈ wsA := List.mem_filter.mpr ⟨List.mem_of_getElem? (i := 248) (by decide +kernel), by decide +kernel⟩
theorem wZ7_3 : u_lay RZ7 TZ7 3 ∈ wsA := List.mem_filter.mpr ⟨List.mem_of_getElem? (i := 250) (by decide +kernel), by decide +kernel⟩
theorem wsA_Z7 : ∀ w ∈ u_ws RZ7 TZ7 4, w ∈ wsA := wsA_app (fun k hk => match k, hk with
  | 0, _ => wZ7_0
  | 1, _ => wZ7_1
  | 2, _ => wZ7_2
  | 3, _ => wZ7_3
  | k + 4, hk => absurd hk (by omega))
def RZ8 : String := "java/util/ArrayList"
def TZ8 : u_T := fun k => match k with
  | 0 => ("java/util/AbstractList", "modCount", "I", false)
  | 1 => ("java/util/ArrayList", "elementData", "[Ljava/lang/Object;", false)
  | _ => ("java/util/ArrayList", "size", "I", false)
def tyZ8 : Nat → FieldType := fun k => match k with
  | 0 => .int
  | 1 => .array (.object "java/lang/Object")
  | _ => .int
theorem nmZ8 : ∀ a, a < 3 → ∀ b, b < 3 → a ≠ b → (TZ8 a).2.1 ≠ (TZ8 b).2.1 := by decide +kernel
theorem tyZ8_ok : ∀ k, k < 3 → parseFieldDescriptor (TZ8 k).2.2.1 = some (tyZ8 k) := by decide +kernel
theorem wZ8_0 : u_lay RZ8 TZ8 0 ∈ wsA := List.mem_filter.mpr ⟨List.mem_of_getElem? (i := 277) (by decide +kernel), by decide +kernel⟩
theorem wZ8_1 : u_lay RZ8 TZ8 1 ∈ wsA := List.mem_filter.mpr ⟨List.mem_of_getElem? (i := 273) (by decide +kernel), by decide +kernel⟩
theorem wZ8_2 : u_lay RZ8 TZ8 2 ∈ wsA := List.mem_filter.mpr ⟨List.mem_of_getElem? (i := 275) (by decide +kernel), by decide +kernel⟩
theorem wsA_Z8 : ∀ w ∈ u_ws RZ8 TZ8 3, w ∈ wsA := wsA_app (fun k hk => match k, hk with
  | 0, _ => wZ8_0
  | 1, _ => wZ8_1
  | 2, _ => wZ8_2
  | k + 3, hk => absurd hk (by omega))
abbrev vwCl : List vw_C := [(RZ0, TZ0, 31), (RZ1, TZ1, 5), (RZ2, TZ2, 8), (RZ3, TZ3, 3), (RZ4, TZ4, 8), (RZ5, TZ5, 2), (RZ6, TZ6, 2), (RZ7, TZ7, 4), (RZ8, TZ8, 3)]
def tyL (dA : Nat → ClassId) : List (ClassId × FieldType) := [(dA 0, .int), (dA 1, .char), (dA 2, .byte), (dA 3, .object "java/lang/Object"), (dA 4, .long)]
abbrev RREF : String := RZ0
abbrev TREF : u_T := TZ0
abbrev tyREF : Nat → FieldType := tyZ0
abbrev cREF : Nat := 0
theorem tyREF_ok : ∀ k, k < 31 → parseFieldDescriptor (TREF k).2.2.1 = some (tyREF k) := tyZ0_ok
theorem nREF : ∀ a, a < 31 → ∀ b, b < 31 → a ≠ b → (TREF a).2.1 ≠ (TREF b).2.1 := nmZ0
theorem wsA_ref : ∀ w ∈ u_ws RREF TREF 31, w ∈ wsA := wsA_Z0
theorem hcREF : vwCl[cREF]? = some (RREF, TREF, 31) := rfl
end
section
/-! An abstract heap: what lies at an address; the world of a walk over it; contracts that speak of it. -/
abbrev aH : Type := Nat → Option va_E
def AH (D : va_G) (cl : List vw_C) (hp : aH) (H : Heap) : Prop := ∀ (a : Nat) (e : va_E), hp a = some e → va_at D cl (a, e) H
def AI (D : va_G) (cl : List vw_C) (b0 : Nat) (hp : aH) (sz : Nat) (H0 H : Heap) (locs : List Loc) : Prop :=
  AH D cl hp H ∧ H.size = sz ∧ b0 ≤ H0.size ∧ va_S (fun q => b0 ≤ q) H0 H locs
/-- facts of the tables and of cells below b0, which stay -/
def ZC (b0 : Nat) (Z : State → Prop) : Prop := ∀ (s U : State), Z s → s.WarmedH U.vm → (∀ q : Nat, q < b0 → U.heap[q]? = s.heap[q]?) → Z U
abbrev BX (p : Program) (m : MethodId) (c : Code) (cc : ByteArray) (nL : Nat) (s : State) (args : Array Value) (Ts : List Cond) (own : String) (meth : Method) (ret : Option FieldType) (D : va_G) (cl : List vw_C) (tys : List (ClassId × FieldType)) (b0 : Nat) (Z : State → Prop) : Prop :=
  CallFix p m c cc nL s args Ts own ∧ meth.sig.returnType = ret ∧ meth.locks = false ∧ va_K D cl tys s ∧ Z s ∧ ZC b0 Z
def CQ (D : va_G) (cl : List vw_C) (b0 : Nat) (rv : Option Value) (hp : aH) (sz : Nat) : Array Value → State → Outcome → State → Prop :=
  fun _ st oc t => oc = .returned rv ∧ t.heap.size = sz ∧ AH D cl hp t.heap ∧ va_F (fun q => b0 ≤ q) st t
def CP (D : va_G) (cl : List vw_C) (tys : List (ClassId × FieldType)) (b0 : Nat) (Z : State → Prop) (hp : aH) (sz : Nat) (U : State) : Prop :=
  U.heap.size = sz ∧ b0 ≤ sz ∧ AH D cl hp U.heap ∧ va_K D cl tys U ∧ Z U
def Ct (l : Launch) (D : va_G) (cl : List vw_C) (tys : List (ClassId × FieldType)) (b0 : Nat) (Z : State → Prop) (y : MethodName) (ws : List Cond) (fr lo : Nat) (av : List Value) (hp : aH) (sz : Nat) (rv : Option Value) (hp' : aH) (mc ms : Nat) : Prop :=
  Met l y ws { frames := fr, cells := mc, slots := ms, locals := lo } (va_Pc av (CP D cl tys b0 Z hp sz)) (CQ D cl b0 rv hp' (sz + mc)) mc ms (fun q => b0 ≤ q)
theorem AH.up {D : va_G} {cl : List vw_C} {hp : aH} {H H1 : Heap} {a : Nat} {e : va_E} (h : AH D cl hp H) (he : va_at D cl (a, e) H1) (o : ∀ q : Nat, q ≠ a → H1[q]? = H[q]?) : AH D cl (va_up hp a (some e)) H1 := by
  intro q x hq
  by_cases hqa : q = a
  · subst hqa
    rw [va_up_self] at hq
    cases hq
    exact he
  · rw [va_up_ne _ _ hqa] at hq
    exact (h q x hq).kept (o q hqa)
theorem AH.push {D : va_G} {cl : List vw_C} {hp : aH} {H H1 : Heap} {e : va_E} (h : AH D cl hp H) (he : va_at D cl (H.size, e) H1) (o : ∀ q : Nat, q < H.size → H1[q]? = H[q]?) : AH D cl (va_up hp H.size (some e)) H1 := by
  intro q x hq
  by_cases hqa : q = H.size
  · subst hqa
    rw [va_up_self] at hq
    cases hq
    exact he
  · rw [va_up_ne _ _ hqa] at hq
    exact (h q x hq).kept (o q (h q x hq).lt)
theorem AI.b {D : va_G} {cl : List vw_C} {b0 sz : Nat} {hp : aH} {H0 H : Heap} {locs : List Loc} (I : AI D cl b0 hp sz H0 H locs) : b0 ≤ sz := by
  have h1 := I.2.2.1
  have h2 := I.2.2.2.1
  have h3 := I.2.1
  omega
theorem AI.of {D : va_G} {cl : List vw_C} {b0 sz : Nat} {hp hp' : aH} {H0 H : Heap} {locs : List Loc} (I : AI D cl b0 hp sz H0 H locs) (h : hp = hp') : AI D cl b0 hp' sz H0 H locs := h ▸ I
/-! locals by their places -/
def lx (ls : Array Slot) (lo : List (Option Value)) : Prop := ls.size = lo.length ∧ lv_wf ls ∧ ∀ (i : Nat) (v : Value), lo[i]? = some (some v) → ls[i]? = some (.val v)
theorem lx_get {ls : Array Slot} {lo : List (Option Value)} (h : lx ls lo) {i : Nat} {v : Value} (hi : lo[i]? = some (some v)) : ls[i]? = some (.val v) := h.2.2 i v hi
theorem lx_put {ls : Array Slot} {lo : List (Option Value)} (h : lx ls lo) {i : Nat} {v : Value} (hi : i < lo.length) (hc : v.category = 1) (hq : ∀ w, lo[i - 1]? = some (some w) → w.category = 1) :
    ∃ ls', storeLocals ls i v = some ls' ∧ lx ls' (lo.set i (some v)) := by
  obtain ⟨h1, h2, h3⟩ := h
  obtain ⟨ls', e, g1, g2, g3⟩ := lv_store1 (l := []) (i := i) (v := v) (nL := lo.length) ⟨h1, h2, fun q hq => by cases hq⟩ hi hc
  refine ⟨ls', e, by rw [g1, List.length_set], g2, fun j w hj => ?_⟩
  by_cases hji : j = i
  · subst hji
    rw [List.getElem?_set_self hi] at hj
    cases hj
    exact g3 (j, v) List.mem_cons_self
  · rw [List.getElem?_set_ne (fun q => hji q.symm)] at hj
    obtain ⟨ls2, e2, -, -, k3⟩ := lv_store1 (l := [(j, w)]) (i := i) (v := v) (nL := lo.length) ⟨h1, h2, fun q hq => by
      rw [List.mem_singleton] at hq; subst hq; exact h3 j w hj⟩ hi hc
    rw [e] at e2
    cases e2
    refine k3 (j, w) (List.mem_cons_of_mem _ (List.mem_filter.mpr ⟨List.mem_singleton.mpr rfl, ?_⟩))
    by_cases hj1 : j + 1 = i
    · have : w.category = 1 := hq w (by rw [← hj1]; exact hj)
      simp [hji, this]
    · simp [hji, hj1]
theorem lx_ci {lo : List (Option Value)} {i : Nat} {x : Int32} (h : lo[i]? = some (some (.int x))) : ∀ w, lo[i]? = some (some w) → w.category = 1 := fun w hw => by
  rw [h] at hw; cases hw; rfl
theorem lx_cr {lo : List (Option Value)} {i : Nat} {x : Nat} (h : lo[i]? = some (some (.ref x))) : ∀ w, lo[i]? = some (some w) → w.category = 1 := fun w hw => by
  rw [h] at hw; cases hw; rfl
theorem va_rf_cat (r : Option Nat) : (va_rf r).category = 1 := by cases r <;> rfl
theorem lx_cq {lo : List (Option Value)} {i : Nat} {r : Option Nat} (h : lo[i]? = some (some (va_rf r))) : ∀ w, lo[i]? = some (some w) → w.category = 1 := fun w hw => by
  rw [h] at hw; cases hw; exact va_rf_cat r
theorem lx_cn {lo : List (Option Value)} {i : Nat} (h : lo[i]? = some none) : ∀ w, lo[i]? = some (some w) → w.category = 1 := fun w hw => by
  rw [h] at hw; cases hw
def lx_le : List (Option Value) → List (Option Value) → Prop
  | [], [] => True
  | none :: t, _ :: r => lx_le t r
  | some v :: t, some w :: r => v = w ∧ lx_le t r
  | _, _ => False
theorem lx_le_at : ∀ (a b : List (Option Value)), lx_le a b → a.length = b.length ∧ ∀ (i : Nat) (v : Value), a[i]? = some (some v) → b[i]? = some (some v)
  | [], [], _ => ⟨rfl, fun i v h => by simp at h⟩
  | [], _ :: _, h => by cases h
  | none :: _, [], h => by cases h
  | some _ :: _, [], h => by cases h
  | some _ :: _, none :: _, h => by cases h
  | none :: t, x :: r, h => by
    have ih := lx_le_at t r h
    refine ⟨by rw [List.length_cons, List.length_cons, ih.1], fun i v hi => ?_⟩
    cases i with
    | zero => simp at hi
    | succ i => simpa using ih.2 i v (by simpa using hi)
  | some v :: t, some w :: r, h => by
    have ih := lx_le_at t r h.2
    refine ⟨by rw [List.length_cons, List.length_cons, ih.1], fun i u hi => ?_⟩
    cases i with
    | zero => rw [← h.1]; exact hi
    | succ i => simpa using ih.2 i u (by simpa using hi)
theorem lx_sub {ls : Array Slot} {lo lo' : List (Option Value)} (h : lx ls lo) (hs : lx_le lo' lo) : lx ls lo' :=
  ⟨by rw [h.1, (lx_le_at _ _ hs).1], h.2.1, fun i v hi => h.2.2 i v ((lx_le_at _ _ hs).2 i v hi)⟩
def lx_all : Nat → List (Option Value) → List (Nat × Value) → Prop
  | _, [], _ => True
  | k, none :: t, A => lx_all (k + 1) t A
  | k, some v :: t, A => (k, v) ∈ A ∧ lx_all (k + 1) t A
theorem lx_all_at : ∀ (t : List (Option Value)) (k : Nat) (A : List (Nat × Value)), lx_all k t A → ∀ (i : Nat) (v : Value), t[i]? = some (some v) → (k + i, v) ∈ A
  | [], _, _, _, i, v, h => by simp at h
  | none :: t, k, A, h, i, v, hi => by
    cases i with
    | zero => simp at hi
    | succ i => have := lx_all_at t (k + 1) A h i v (by simpa using hi); rwa [show k + (i + 1) = k + 1 + i by omega]
  | some w :: t, k, A, h, i, v, hi => by
    cases i with
    | zero => simp at hi; subst hi; exact h.1
    | succ i => have := lx_all_at t (k + 1) A h.2 i v (by simpa using hi); rwa [show k + (i + 1) = k + 1 + i by omega]
/-! a mirror's steps -/
def b1 {α β : Type} (o : Option α) (f : α → Option β) : Option β := match o with
  | none => none
  | some x => f x
def b2 {α β γ : Type} (o : Option (α × β)) (f : α → β → Option γ) : Option γ := match o with
  | none => none
  | some x => f x.1 x.2
theorem ob1 {α β : Type} {o : Option α} {f : α → Option β} {r : β} {P : Prop} (h : b1 o f = some r) (k : ∀ x, o = some x → f x = some r → P) : P := by
  cases o with
  | none => cases h
  | some x => exact k x rfl h
theorem ob2 {α β γ : Type} {o : Option (α × β)} {f : α → β → Option γ} {r : γ} {P : Prop} (h : b2 o f = some r) (k : ∀ x y, o = some (x, y) → f x y = some r → P) : P := by
  cases o with
  | none => cases h
  | some x => exact k x.1 x.2 rfl h
theorem ift {α : Type} {c : Prop} [Decidable c] {A B r : α} (hc : c) (h : (if c then A else B) = r) : A = r := by rw [if_pos hc] at h; exact h
theorem iff' {α : Type} {c : Prop} [Decidable c] {A B r : α} (hc : ¬ c) (h : (if c then A else B) = r) : B = r := by rw [if_neg hc] at h; exact h
theorem osm {α : Type} {a b : α} (h : some a = some b) : a = b := Option.some.inj h
section QX
variable {p : Program} {l : Launch} {e : Env} {R : Room} {s : State} {m : MethodId} {args : Array Value} {below : List Frame} {meth : Method} {c : Code} {H : Heap} {locs : List Loc} {cells slots : Nat} {Q : State → Prop}
variable {cc : ByteArray} {pc : Nat} {ls : Array Slot} {rest : List Value} {D : va_G} {cl : List vw_C} {tys : List (ClassId × FieldType)} {hp : aH} {sz b0 nL : Nat} {H0 : Heap} {Ts : List Cond} {own : String} {ret : Option FieldType} {Z : State → Prop}
theorem q_istore_n {lo lo' : List (Option Value)} {k : Fin 4} {i : Nat} {x : Int32} (hexec : p.tables.exec = Jvm.exec) (hb : c.code = cc) (hdg : decode cc pc = .ok (.istore_n k, 1)) (hi : (k : Nat) = i) (hl : lx ls lo) (hn : i < lo.length) (hq : ∀ w, lo[i - 1]? = some (some w) → w.category = 1) (hlo : lo.set i (some (.int x)) = lo')
    (kk : ∀ ls' : Array Slot, lx ls' lo' → W p l e R s m args below meth c H locs cells slots Q (F0 m (pc + 1) ls' rest)) : W p l e R s m args below meth c H locs cells slots Q (F0 m pc ls (.int x :: rest)) := by
  subst hi
  obtain ⟨ls', e', h'⟩ := lx_put (v := .int x) hl hn rfl hq
  intro T hT X
  obtain ⟨t, a, b⟩ := kk ls' (hlo ▸ h') T hT X
  refine ⟨t, ?_, b⟩
  jvm_step X.here [X.here.top, ↓top_set X.here.top, hexec, hb, hdg, e']
  exact a
theorem q_istore {lo lo' : List (Option Value)} {i : Nat} {x : Int32} (hexec : p.tables.exec = Jvm.exec) (hb : c.code = cc) (hdg : decode cc pc = .ok (.istore i, 2)) (hl : lx ls lo) (hn : i < lo.length) (hq : ∀ w, lo[i - 1]? = some (some w) → w.category = 1) (hlo : lo.set i (some (.int x)) = lo')
    (kk : ∀ ls' : Array Slot, lx ls' lo' → W p l e R s m args below meth c H locs cells slots Q (F0 m (pc + 2) ls' rest)) : W p l e R s m args below meth c H locs cells slots Q (F0 m pc ls (.int x :: rest)) := by
  obtain ⟨ls', e', h'⟩ := lx_put (v := .int x) hl hn rfl hq
  intro T hT X
  obtain ⟨t, a, b⟩ := kk ls' (hlo ▸ h') T hT X
  refine ⟨t, ?_, b⟩
  jvm_step X.here [X.here.top, ↓top_set X.here.top, hexec, hb, hdg, e']
  exact a
theorem q_iinc {lo lo' : List (Option Value)} {i : Nat} {n : Int} {x v : Int32} (hexec : p.tables.exec = Jvm.exec) (hb : c.code = cc) (hdg : decode cc pc = .ok (.iinc i n, 3)) (hl : lx ls lo) (hk : lo[i]? = some (some (.int x))) (hv : x + Int32.ofInt n = v) (hn : i < lo.length) (hq : ∀ w, lo[i - 1]? = some (some w) → w.category = 1) (hlo : lo.set i (some (.int v)) = lo')
    (kk : ∀ ls' : Array Slot, lx ls' lo' → W p l e R s m args below meth c H locs cells slots Q (F0 m (pc + 3) ls' rest)) : W p l e R s m args below meth c H locs cells slots Q (F0 m pc ls rest) := by
  subst hv
  have hg := lx_get hl hk
  obtain ⟨ls', e', h'⟩ := lx_put (v := .int (x + Int32.ofInt n)) hl hn rfl hq
  intro T hT X
  obtain ⟨t, a, b⟩ := kk ls' (hlo ▸ h') T hT X
  refine ⟨t, ?_, b⟩
  jvm_step X.here [X.here.top, ↓top_set X.here.top, hexec, hb, hdg, hg, e']
  exact a
theorem va_rf_isRef (r : Option Nat) : (va_rf r).isRef = true := by cases r <;> rfl
theorem q_aload_n {k : Fin 4} {i : Nat} {v : Value} (hexec : p.tables.exec = Jvm.exec) (hb : c.code = cc) (hdg : decode cc pc = .ok (.aload_n k, 1)) (hi : (k : Nat) = i) (hv : v.isRef = true) (hl : ls[i]? = some (.val v))
    (kk : W p l e R s m args below meth c H locs cells slots Q (F0 m (pc + 1) ls (v :: rest))) : W p l e R s m args below meth c H locs cells slots Q (F0 m pc ls rest) := by
  subst hi
  intro T hT X
  obtain ⟨t, a, b⟩ := kk T hT X
  refine ⟨t, ?_, b⟩
  jvm_step X.here [X.here.top, hexec, hb, hdg, hl, hv]
  exact a
theorem q_aload {i : Nat} {v : Value} (hexec : p.tables.exec = Jvm.exec) (hb : c.code = cc) (hdg : decode cc pc = .ok (.aload i, 2)) (hv : v.isRef = true) (hl : ls[i]? = some (.val v))
    (kk : W p l e R s m args below meth c H locs cells slots Q (F0 m (pc + 2) ls (v :: rest))) : W p l e R s m args below meth c H locs cells slots Q (F0 m pc ls rest) := by
  intro T hT X
  obtain ⟨t, a, b⟩ := kk T hT X
  refine ⟨t, ?_, b⟩
  jvm_step X.here [X.here.top, hexec, hb, hdg, hl, hv]
  exact a
theorem cat_of_isRef {v : Value} (hv : v.isRef = true) : v.category = 1 := by cases v <;> first | rfl | cases hv
theorem q_astore_n {lo lo' : List (Option Value)} {k : Fin 4} {i : Nat} {v : Value} (hexec : p.tables.exec = Jvm.exec) (hb : c.code = cc) (hdg : decode cc pc = .ok (.astore_n k, 1)) (hi : (k : Nat) = i) (hv : v.isRef = true) (hl : lx ls lo) (hn : i < lo.length) (hq : ∀ w, lo[i - 1]? = some (some w) → w.category = 1) (hlo : lo.set i (some v) = lo')
    (kk : ∀ ls' : Array Slot, lx ls' lo' → W p l e R s m args below meth c H locs cells slots Q (F0 m (pc + 1) ls' rest)) : W p l e R s m args below meth c H locs cells slots Q (F0 m pc ls (v :: rest)) := by
  subst hi
  obtain ⟨ls', e', h'⟩ := lx_put (v := v) hl hn (cat_of_isRef hv) hq
  intro T hT X
  obtain ⟨t, a, b⟩ := kk ls' (hlo ▸ h') T hT X
  refine ⟨t, ?_, b⟩
  jvm_step X.here [X.here.top, ↓top_set X.here.top, hexec, hb, hdg, e', hv]
  exact a
theorem q_astore {lo lo' : List (Option Value)} {i : Nat} {v : Value} (hexec : p.tables.exec = Jvm.exec) (hb : c.code = cc) (hdg : decode cc pc = .ok (.astore i, 2)) (hv : v.isRef = true) (hl : lx ls lo) (hn : i < lo.length) (hq : ∀ w, lo[i - 1]? = some (some w) → w.category = 1) (hlo : lo.set i (some v) = lo')
    (kk : ∀ ls' : Array Slot, lx ls' lo' → W p l e R s m args below meth c H locs cells slots Q (F0 m (pc + 2) ls' rest)) : W p l e R s m args below meth c H locs cells slots Q (F0 m pc ls (v :: rest)) := by
  obtain ⟨ls', e', h'⟩ := lx_put (v := v) hl hn (cat_of_isRef hv) hq
  intro T hT X
  obtain ⟨t, a, b⟩ := kk ls' (hlo ▸ h') T hT X
  refine ⟨t, ?_, b⟩
  jvm_step X.here [X.here.top, ↓top_set X.here.top, hexec, hb, hdg, e', hv]
  exact a
theorem q_call {rv : Option Value} {hp' : aH} {sz' mc ms : Nat} {a : Array Value} {st0 : List Value} (hr : va_Run p l e R s m args below meth c H locs cells slots mc ms (F0 m pc ls st0) rest (CQ D cl b0 rv hp' sz' a) (fun q => b0 ≤ q)) (I : AI D cl b0 hp sz H0 H locs)
    (kk : ∀ (H1 : Heap) (locs1 : List Loc), AI D cl b0 hp' sz' H0 H1 locs1 → W p l e R s m args below meth c H1 locs1 (cells + mc) (slots + ms) Q (F0 m (pc + 3) ls (rv.toList ++ rest))) : W p l e R s m args below meth c H locs cells slots Q (F0 m pc ls st0) := by
  intro T hT X
  obtain ⟨v, st₀, t, T', L, h0, X', hL, e1, e2, ⟨hv, hz, hA, f1, f2⟩, st⟩ := hr T hT X
  cases hv
  rw [h0] at f1 f2
  obtain ⟨iA, iz, ib, iS⟩ := I
  obtain ⟨t2, a1, b1⟩ := kk T'.heap (locs ++ L) ⟨by rw [e1]; exact hA, by rw [e1]; exact hz, ib, ⟨Nat.le_trans iS.1 (by rw [e1]; exact f1), fun q h1 h2 => by rw [e1, f2 q (Nat.lt_of_lt_of_le h1 iS.1) h2]; exact iS.2.1 q h1 h2, fun q hq => by
      rcases List.mem_append.mp hq with h | h
      · exact iS.2.2 q h
      · exact hL q h⟩⟩ T' rfl X'
  exact ⟨t2, st t2 a1, b1⟩
theorem q_pre {av : List Value} (B : BX p m c cc nL s args Ts own meth ret D cl tys b0 Z) (I : AI D cl b0 hp sz s.heap H locs) : PreS s H (va_Pc av (CP D cl tys b0 Z hp sz)) av :=
  ⟨fun a U g mk q => by
    obtain ⟨q0, q1, q2, q3, q4, q5⟩ := q
    exact ⟨q0, q1, q2, q3, va_K.moved (u := U) (U := U.calling g mk a) (Vm.Alike.refl U.vm) q4, B.2.2.2.2.2 U (U.calling g mk a) q5 (State.WarmedH.refl U) (fun _ _ => rfl)⟩,
   fun U hU hW => ⟨rfl, by rw [hU]; exact I.2.1, I.b, by rw [hU]; exact I.1, va_K.moved hW.alike B.2.2.2.1, B.2.2.2.2.2 s U B.2.2.2.2.1 hW (fun q hq => by
      rw [hU]
      exact I.2.2.2.2.1 q (Nat.lt_of_lt_of_le hq I.2.2.1) (Nat.not_le.mpr hq))⟩⟩
theorem q_recv {ci a : Nat} {q : vw_C} {fs : List Value} (hK : va_K D cl tys s) (I : AI D cl b0 hp sz H0 H locs) (hc : cl[ci]? = some q) (he : hp a = some (.inr (ci, fs))) : ∃ cell : Cell, H[a]? = some cell ∧ cell.vm.isStatics = false ∧ s.vm.findClass q.1 = some cell.cls := by
  obtain ⟨q', h1, cell, g1, g2, g3, -⟩ := I.1 a _ he
  exact ⟨cell, g1, by rw [g3]; rfl, by rw [g2]; exact (hK.1 ci q hc).2.1⟩
theorem q_iret {v : Int32} (B : BX p m c cc nL s args Ts own meth ret D cl tys b0 Z) (I : AI D cl b0 hp sz s.heap H locs) (hret : ret = some .int) (hd : decode cc pc = .ok (.ireturn, 1)) :
    W p l e R s m args below meth c H locs cells slots (MQ below (CQ D cl b0 (some (.int v)) hp sz) args s cells slots (fun q => b0 ≤ q)) (F0 m pc ls [.int v]) :=
  W.iret B.1.1 B.1.2.1 (B.2.1.trans hret) (fun t ht _ => ⟨rfl, by rw [ht]; exact I.2.1, by rw [ht]; exact I.1, I.2.2.2.F ht⟩) I.2.2.2.2.2 hd B.2.2.1
theorem q_zret {v : Int32} {ty : FieldType} (B : BX p m c cc nL s args Ts own meth ret D cl tys b0 Z) (I : AI D cl b0 hp sz s.heap H locs) (hret : ret = some ty) (hn : narrow ty (.int v) = .int v) (hd : decode cc pc = .ok (.ireturn, 1)) :
    W p l e R s m args below meth c H locs cells slots (MQ below (CQ D cl b0 (some (.int v)) hp sz) args s cells slots (fun q => b0 ≤ q)) (F0 m pc ls [.int v]) :=
  W.zret B.1.1 B.1.2.1 (B.2.1.trans hret) hn (fun t ht _ => ⟨rfl, by rw [ht]; exact I.2.1, by rw [ht]; exact I.1, I.2.2.2.F ht⟩) I.2.2.2.2.2 hd B.2.2.1
theorem q_vret (B : BX p m c cc nL s args Ts own meth ret D cl tys b0 Z) (I : AI D cl b0 hp sz s.heap H locs) (hret : ret = none) (hd : decode cc pc = .ok (.return_, 1)) :
    W p l e R s m args below meth c H locs cells slots (MQ below (CQ D cl b0 none hp sz) args s cells slots (fun q => b0 ≤ q)) (F0 m pc ls []) :=
  W.vret B.1.1 B.1.2.1 (B.2.1.trans hret) (fun t ht _ => ⟨rfl, by rw [ht]; exact I.2.1, by rw [ht]; exact I.1, I.2.2.2.F ht⟩) I.2.2.2.2.2 hd B.2.2.1
theorem q_aret {r : Option Nat} {rt : FieldType} (B : BX p m c cc nL s args Ts own meth ret D cl tys b0 Z) (I : AI D cl b0 hp sz s.heap H locs) (hret : ret = some rt) (hrt : (∃ n, rt = .object n) ∨ ∃ t, rt = .array t) (hd : decode cc pc = .ok (.areturn, 1)) :
    W p l e R s m args below meth c H locs cells slots (MQ below (CQ D cl b0 (some (va_rf r)) hp sz) args s cells slots (fun q => b0 ≤ q)) (F0 m pc ls [va_rf r]) :=
  W.aret B.1.1 B.1.2.1 (B.2.1.trans hret) hrt (va_rf_or r) (fun t ht _ => ⟨rfl, by rw [ht]; exact I.2.1, by rw [ht]; exact I.1, I.2.2.2.F ht⟩) I.2.2.2.2.2 hd B.2.2.1
theorem q_get {ref C : String} {T : u_T} {N ci index a : Nat} (B : BX p m c cc nL s args Ts own meth ret D cl tys b0 Z) (I : AI D cl b0 hp sz H0 H locs) (hin : ∀ w ∈ u_ws C T N, w ∈ Ts) {fs : List Value} (he : hp a = some (.inr (ci, fs))) (hc : cl[ci]? = some (C, T, N)) (k : Nat) (hk : k < N)
    (hlink : (Cond.fieldLink own index ref (T k).2.1 (T k).2.2.1) ∈ Ts) (hsame : (T k).1 = ref) {v : Value} (hv : fs[k]? = some v) (hdg : decode cc pc = .ok (.getfield index, 3))
    (kk : W p l e R s m args below meth c H locs cells slots Q (F0 m (pc + 3) ls (v :: rest))) : W p l e R s m args below meth c H locs cells slots Q (F0 m pc ls (.ref a :: rest)) :=
  va_get (D := D) (ws := [(a, .inr (ci, fs))]) B.1.1 B.1.2.1 B.1.2.2.2.2 hin B.1.2.2.2.1 B.2.2.2.1 (fun k q hq => by
    have hz : k < 1 := (List.getElem?_eq_some_iff.mp hq).1
    rw [show k = 0 by omega] at hq
    cases hq
    exact I.1 a _ he) 0 rfl hc k hk (B.1.2.2.2.2 _ hlink) (fun x h => by rw [← hsame]; exact h) hv hdg kk
theorem q_put {ref C : String} {T : u_T} {N ci index a : Nat} (B : BX p m c cc nL s args Ts own meth ret D cl tys b0 Z) (I : AI D cl b0 hp sz H0 H locs) (hin : ∀ w ∈ u_ws C T N, w ∈ Ts) (ty0 : Nat → FieldType) (hty : ∀ k, k < N → parseFieldDescriptor (T k).2.2.1 = some (ty0 k)) (hnm : ∀ a, a < N → ∀ b, b < N → a ≠ b → (T a).2.1 ≠ (T b).2.1)
    {fs : List Value} (he : hp a = some (.inr (ci, fs))) (hba : b0 ≤ a) (hc : cl[ci]? = some (C, T, N)) (k : Nat) (hk : k < N)
    (hlink : (Cond.fieldLink own index ref (T k).2.1 (T k).2.2.1) ∈ Ts) (hsame : (T k).1 = ref) (hfin : (T k).2.2.2 = false) {ty : FieldType} {v : Value} (hd : ty0 k = ty) (hn : narrow ty v = v) (hfit : fits ty v = true) (hl : k < fs.length) (hdg : decode cc pc = .ok (.putfield index, 3))
    (kk : ∀ (H1 : Heap) (locs1 : List Loc), AI D cl b0 (va_up hp a (some (.inr (ci, fs.set k v)))) sz H0 H1 locs1 → W p l e R s m args below meth c H1 locs1 cells slots Q (F0 m (pc + 3) ls rest)) : W p l e R s m args below meth c H locs cells slots Q (F0 m pc ls (v :: .ref a :: rest)) := by
  obtain ⟨⟨hx, hb, -, hown, hts⟩, -, -, hK, -⟩ := B
  have hap := va_apart (own := own) hts hin ty0 hty hnm hK hc
  obtain ⟨r, h1, cell, q1, q2, q3, q4⟩ := I.1 a _ he
  have hr : r = (C, T, N) := Option.some.inj (h1.symm.trans hc)
  subst hr
  obtain ⟨hS, hfc, kC, hkC, hkind⟩ := hK.1 ci _ hc
  obtain ⟨cf, kf, fi, f, hi, hsl⟩ := hS k hk
  have hlay := hts _ (hin _ (u_in_lay hk))
  unfold u_lay at hlay
  rw [if_neg (by rw [hfin]; decide)] at hlay
  have hst := (u_facts hfc hkC (u_lays hts hin hk) hi).1
  have h6 := u_store hfc hkC hkind hlay hi (hty k hk) (by rw [hd]; exact hn) (by rw [hd]; exact hfit)
  refine W.putK hx hb (f := f) ⟨hown, hts _ hlink, ⟨_, _, _, by rw [← hsame]; exact hi⟩, hst⟩ (by rw [q2]; exact h6) q1 q3 (by rw [hsl]; exact k2_hasslot (q4 k hk)) rfl rfl hdg fun H' e1 e2 e3 => ?_
  rw [hsl] at e1 ⊢
  exact kk H' _ ⟨I.1.up ⟨_, hc, t_OB.to (V := updV (vp_V fs) k v) ⟨_, e1, q2, q3, t_set q4 hap hk v⟩ (fun j _ => vp_updV_set hl v j)⟩ e3, by rw [e2]; exact I.2.1, I.2.2.1, I.2.2.2.put e2 e3 hba⟩
theorem q_iald {a t0 : Nat} {cA : ClassId} {n : Nat} {f : Nat → Int32} {i : Int32} (B : BX p m c cc nL s args Ts own meth ret D cl tys b0 Z) (I : AI D cl b0 hp sz H0 H locs) (he : hp a = some (.inl (cA, n, .inl f))) (ht : tys[t0]? = some (cA, .int)) (hin : vp_in i n) (hdg : decode cc pc = .ok (.iaload, 1))
    (kk : W p l e R s m args below meth c H locs cells slots Q (F0 m (pc + 1) ls (.int (f i.toNatClampNeg) :: rest))) : W p l e R s m args below meth c H locs cells slots Q (F0 m pc ls (.int i :: .ref a :: rest)) :=
  va_iald (D := D) (ws := [(a, .inl (cA, n, .inl f))]) B.1.1 B.1.2.1 B.2.2.2.1 (fun k q hq => by
    have hz : k < 1 := (List.getElem?_eq_some_iff.mp hq).1
    rw [show k = 0 by omega] at hq
    cases hq
    exact I.1 a _ he) 0 t0 rfl ht hin hdg kk
theorem q_iast {a t0 : Nat} {cA : ClassId} {n : Nat} {f : Nat → Int32} {i x : Int32} (B : BX p m c cc nL s args Ts own meth ret D cl tys b0 Z) (I : AI D cl b0 hp sz H0 H locs) (he : hp a = some (.inl (cA, n, .inl f))) (hba : b0 ≤ a) (ht : tys[t0]? = some (cA, .int)) (hin : vp_in i n) (hdg : decode cc pc = .ok (.iastore, 1))
    (kk : ∀ (H1 : Heap) (locs1 : List Loc), AI D cl b0 (va_up hp a (some (.inl (cA, n, .inl (upd f i.toNatClampNeg x))))) sz H0 H1 locs1 → W p l e R s m args below meth c H1 locs1 cells slots Q (F0 m (pc + 1) ls rest)) : W p l e R s m args below meth c H locs cells slots Q (F0 m pc ls (.int x :: .int i :: .ref a :: rest)) := by
  obtain ⟨⟨hx, hb, -, -, -⟩, -, -, hK, -⟩ := B
  refine W.iast hx hb (I.1 a _ he) ((hK.2 t0 _ ht).1 n (fun j => .int (f j))) (fun q => by cases q) (by show ¬ (i < 0 ∨ (arrV _ _ _).slots.size ≤ _); rw [arrV_size]; exact hin) rfl rfl hdg fun H1 e z oq => ?_
  refine kk H1 _ ⟨I.1.up ?_ oq, by rw [z]; exact I.2.1, I.2.2.1, I.2.2.2.put z oq hba⟩
  show H1[a]? = some (vp_cell _ _)
  rw [e, vp_cell_i, vp_cell_i, arrV_store]
  congr 2
  funext q
  by_cases hq : q = i.toNatClampNeg
  · subst hq; simp [updV, upd]
  · simp [updV, upd, hq]
end QX
/-- a contract out of a walk -/
theorem ct_of {l : Launch} {D : va_G} {cl : List vw_C} {tys : List (ClassId × FieldType)} {b0 : Nat} {Z : State → Prop} {y : MethodName} {ws ws' : List Cond} {fr lo : Nat} {av : List Value} {hp : aH} {sz : Nat} {rv : Option Value} {hp' : aH} {mc ms : Nat} {cc : ByteArray} {maxL : Nat} {ret : Option FieldType} {lo0 : List (Option Value)}
    (hZ : ZC b0 Z) (hy : plainName y.cls = true) (hw : ws = Cond.code y cc maxL ret :: ws') (hlen : (lg_sl av).length ≤ maxL) (hlo : lo0.length = maxL) (hla : lx_all 0 lo0 (lv_args 0 av))
    (body : ∀ (p : Program) (e : Env) (s : State) (m : MethodId) (args : Array Value) (below : List Frame) (meth : Method) (c : Code) (ls : Array Slot), BX p m c cc maxL s args ws y.cls meth ret D cl tys b0 Z → meth.name = y.name → lx ls lo0 → AI D cl b0 hp sz s.heap s.heap [] →
      W p l e { frames := fr, cells := mc, slots := ms, locals := lo } s m args below meth c s.heap [] 0 0 (MQ below (CQ D cl b0 rv hp' (sz + mc)) args s mc ms (fun q => b0 ≤ q)) (F0 m 0 ls [])) :
    Ct l D cl tys b0 Z y ws fr lo av hp sz rv hp' mc ms := by
  refine Met.ofW (cc := cc) (maxL := maxL) (ret := ret) hy hw ?_
  intro p e s m args below meth c s₁ B hml hv
  obtain ⟨rfl, hsz, hb0, hA, hK, hZs⟩ := hv
  have hts := atoms_spec (ws := ws) B.pre
  have hown : s.vm.findClass y.cls = some m.cls := findClass_of_methodNamed B.named
  have hl := lv_entry av (n := maxL) hlen
  rw [lg_entry_eq]
  generalize (lg_sl av ++ List.replicate (maxL - (lg_sl av).length) Slot.unset).toArray = ls at hl ⊢
  exact body p e s m _ below meth c ls ⟨⟨B.exec, B.bytes, hml, hown, hts⟩, B.returns, B.notSynchronized, hK, hZs, hZ⟩ (name_of_methodNamed B.named B.method).1 ⟨by rw [hl.1, hlo], hl.2.1, fun i v h => hl.2.2 (i, v) (by have := lx_all_at _ _ _ hla i v h; rwa [Nat.zero_add] at this)⟩ ⟨hA, hsz, by rw [hsz]; exact hb0, va_S.rf⟩
end
section
/-! The reference's world: its object at h, its arrays of ints at h + 1 .. h + 19. -/
abbrev rS : Type := (Nat → Int32) × (Nat → Nat → Int32)
def rF (h : Nat) (f : Nat → Int32) : List Value := [.int (f 0), .int (f 1), .ref (h + 1), .int (f 3), .int (f 4), .int (f 5), .ref (h + 2), .ref (h + 3), .ref (h + 4), .ref (h + 5), .ref (h + 6), .ref (h + 7), .ref (h + 8), .ref (h + 9), .ref (h + 10), .ref (h + 11), .ref (h + 12), .ref (h + 13), .int (f 18), .int (f 19), .int (f 20), .ref (h + 14), .ref (h + 15), .ref (h + 16), .int (f 24), .int (f 25), .int (f 26), .ref (h + 17), .ref (h + 18), .int (f 29), .ref (h + 19)]
def rN (j : Nat) : Nat := match j with
  | 1 => 240 | 2 => 2 | 12 => 2 | 13 => 600 | 14 => 130 | 15 => 130 | 16 => 130 | 17 => 6 | 18 => 6 | 19 => 600 | _ => 520
def rH (dA : Nat → ClassId) (h : Nat) (S : rS) (hp0 : aH) : aH := fun a =>
  if a = h then some (.inr (cREF, rF h S.1)) else if h < a ∧ a ≤ h + 19 then some (.inl (dA 0, rN (a - h), .inl (S.2 (a - h)))) else hp0 a
def rP (S : rS) (k : Nat) (v : Int32) : Option rS := some (va_up S.1 k v, S.2)
def rL (S : rS) (j : Nat) (i : Int32) : Option Int32 := if 0 ≤ i.toInt ∧ i.toInt < rN j then some (S.2 j i.toNatClampNeg) else none
def rT (S : rS) (j : Nat) (i x : Int32) : Option rS := if 0 ≤ i.toInt ∧ i.toInt < rN j then some (S.1, va_up S.2 j (upd (S.2 j) i.toNatClampNeg x)) else none
theorem rH_h {dA : Nat → ClassId} {h : Nat} {S : rS} {hp0 : aH} : rH dA h S hp0 h = some (.inr (cREF, rF h S.1)) := by simp [rH]
theorem rH_a {dA : Nat → ClassId} {h : Nat} {S : rS} {hp0 : aH} {j : Nat} (h1 : 1 ≤ j) (h2 : j ≤ 19) : rH dA h S hp0 (h + j) = some (.inl (dA 0, rN j, .inl (S.2 j))) := by
  have e1 : ¬ h + j = h := by omega
  have e2 : h < h + j ∧ h + j ≤ h + 19 := by omega
  have e3 : h + j - h = j := by omega
  simp only [rH, if_neg e1, if_pos e2, e3]
theorem rH_put {dA : Nat → ClassId} {h : Nat} {S : rS} {hp0 : aH} {f : Nat → Int32} : va_up (rH dA h S hp0) h (some (.inr (cREF, rF h f))) = rH dA h (f, S.2) hp0 := by
  funext a
  by_cases e : a = h
  · subst e; rw [va_up_self]; simp [rH]
  · rw [va_up_ne _ _ e]; simp [rH, e]
theorem rH_ast {dA : Nat → ClassId} {h : Nat} {S : rS} {hp0 : aH} {j : Nat} {g : Nat → Int32} (h1 : 1 ≤ j) (h2 : j ≤ 19) : va_up (rH dA h S hp0) (h + j) (some (.inl (dA 0, rN j, .inl g))) = rH dA h (S.1, va_up S.2 j g) hp0 := by
  funext a
  by_cases e : a = h + j
  · subst e; rw [va_up_self, rH_a h1 h2]; simp [va_up]
  · rw [va_up_ne _ _ e]
    by_cases e0 : a = h
    · simp [rH, e0]
    · by_cases e1 : h < a ∧ a ≤ h + 19
      · have e2 : ¬ a - h = j := by omega
        simp only [rH, if_neg e0, if_pos e1, va_up_ne _ _ e2]
      · simp only [rH, if_neg e0, if_neg e1]
theorem zn {v : Int32} (hq : v = 0 ∨ v = 1) : narrow .boolean (.int v) = .int v := by rcases hq with rfl | rfl <;> rfl
def RR (b0 h : Nat) (Z : State → Prop) : Prop := b0 ≤ h ∧ ZC b0 Z
section RX
variable {p : Program} {l : Launch} {e : Env} {R : Room} {s : State} {m : MethodId} {args : Array Value} {below : List Frame} {meth : Method} {c : Code} {H : Heap} {locs : List Loc} {cells slots : Nat} {Q : State → Prop}
variable {cc : ByteArray} {pc : Nat} {ls : Array Slot} {rest : List Value} {D : va_G} {dA : Nat → ClassId} {hp0 : aH} {sz b0 nL h : Nat} {H0 : Heap} {cd : Cond} {ret : Option FieldType} {S S1 : rS} {Z : State → Prop}
theorem r_get {k index : Nat} {v : Value} (B : BX p m c cc nL s args (cd :: wsA) RREF meth ret D vwCl (tyL dA) b0 Z) (I : AI D vwCl b0 (rH dA h S hp0) sz H0 H locs) (hk : k < 31) (hlink : Cond.fieldLink RREF index RREF (TREF k).2.1 (TREF k).2.2.1 ∈ wsA) (hsame : (TREF k).1 = RREF) (hv : (rF h S.1)[k]? = some v) (hdg : decode cc pc = .ok (.getfield index, 3))
    (kk : W p l e R s m args below meth c H locs cells slots Q (F0 m (pc + 3) ls (v :: rest))) : W p l e R s m args below meth c H locs cells slots Q (F0 m pc ls (.ref h :: rest)) :=
  q_get B I (fun w hw => List.mem_cons_of_mem _ (wsA_ref w hw)) rH_h hcREF k hk (List.mem_cons_of_mem _ hlink) hsame hv hdg kk
theorem r_put {k index : Nat} {v : Int32} (B : BX p m c cc nL s args (cd :: wsA) RREF meth ret D vwCl (tyL dA) b0 Z) (hR : RR b0 h Z) (I : AI D vwCl b0 (rH dA h S hp0) sz H0 H locs) (hk : k < 31) (hlink : Cond.fieldLink RREF index RREF (TREF k).2.1 (TREF k).2.2.1 ∈ wsA) (hsame : (TREF k).1 = RREF) (hfin : (TREF k).2.2.2 = false) (hty : tyREF k = .int) (hset : ∀ (h : Nat) (f : Nat → Int32), (rF h f).set k (.int v) = rF h (va_up f k v)) (e1 : rP S k v = some S1) (hdg : decode cc pc = .ok (.putfield index, 3))
    (kk : ∀ (H1 : Heap) (locs1 : List Loc), AI D vwCl b0 (rH dA h S1 hp0) sz H0 H1 locs1 → W p l e R s m args below meth c H1 locs1 cells slots Q (F0 m (pc + 3) ls rest)) : W p l e R s m args below meth c H locs cells slots Q (F0 m pc ls (.int v :: .ref h :: rest)) := by
  cases e1
  refine q_put B I (fun w hw => List.mem_cons_of_mem _ (wsA_ref w hw)) tyREF tyREF_ok nREF rH_h hR.1 hcREF k hk (List.mem_cons_of_mem _ hlink) hsame hfin hty rfl rfl hk hdg fun H1 locs1 J => ?_
  rw [hset, rH_put] at J
  exact kk H1 locs1 J
theorem rin {i : Int32} {n : Nat} (h : 0 ≤ i.toInt ∧ i.toInt < n) : vp_in i n := vp_in_iff.mpr h
theorem r_ald {j : Nat} {i x : Int32} (B : BX p m c cc nL s args (cd :: wsA) RREF meth ret D vwCl (tyL dA) b0 Z) (I : AI D vwCl b0 (rH dA h S hp0) sz H0 H locs) (h1 : 1 ≤ j) (h2 : j ≤ 19) (e1 : rL S j i = some x) (hdg : decode cc pc = .ok (.iaload, 1))
    (kk : W p l e R s m args below meth c H locs cells slots Q (F0 m (pc + 1) ls (.int x :: rest))) : W p l e R s m args below meth c H locs cells slots Q (F0 m pc ls (.int i :: .ref (h + j) :: rest)) := by
  unfold rL at e1
  by_cases hi : 0 ≤ i.toInt ∧ i.toInt < rN j
  · rw [if_pos hi] at e1
    cases e1
    exact q_iald (t0 := 0) B I (rH_a h1 h2) rfl (rin hi) hdg kk
  · rw [if_neg hi] at e1
    cases e1
theorem r_ast {j : Nat} {i x : Int32} (B : BX p m c cc nL s args (cd :: wsA) RREF meth ret D vwCl (tyL dA) b0 Z) (hR : RR b0 h Z) (I : AI D vwCl b0 (rH dA h S hp0) sz H0 H locs) (h1 : 1 ≤ j) (h2 : j ≤ 19) (e1 : rT S j i x = some S1) (hdg : decode cc pc = .ok (.iastore, 1))
    (kk : ∀ (H1 : Heap) (locs1 : List Loc), AI D vwCl b0 (rH dA h S1 hp0) sz H0 H1 locs1 → W p l e R s m args below meth c H1 locs1 cells slots Q (F0 m (pc + 1) ls rest)) : W p l e R s m args below meth c H locs cells slots Q (F0 m pc ls (.int x :: .int i :: .ref (h + j) :: rest)) := by
  unfold rT at e1
  by_cases hi : 0 ≤ i.toInt ∧ i.toInt < rN j
  · rw [if_pos hi] at e1
    cases e1
    refine q_iast (t0 := 0) B I (rH_a h1 h2) (Nat.le_trans hR.1 (Nat.le_add_right _ _)) rfl (rin hi) hdg fun H1 locs1 J => ?_
    rw [rH_ast h1 h2] at J
    exact kk H1 locs1 J
  · rw [if_neg hi] at e1
    cases e1
theorem r_call {rv : Option Value} {index n maxL fr lo FR LO : Nat} {y : MethodName} {bytes : ByteArray} {retc : Option FieldType} {As st0 : List Value} {lo0 : List (Option Value)}
    (B : BX p m c cc nL s args (cd :: wsA) RREF meth ret D vwCl (tyL dA) b0 Z) (hl : lx ls lo0) (hlo : lo0.length = nL) (I : AI D vwCl b0 (rH dA h S hp0) sz s.heap H locs)
    (hM : Ct l D vwCl (tyL dA) b0 Z y (.code y bytes maxL retc :: wsA) fr lo (.ref h :: As) (rH dA h S hp0) sz rv (rH dA h S1 hp0) 0 0)
    (kw : GoodIn wsA (wsV RREF index RREF y (.code y bytes maxL retc :: wsA)) ∧ y.cls = RREF ∧ y.cls ≠ "java/lang/invoke/MethodHandle" ∧ y.cls ≠ "java/lang/invoke/VarHandle" ∧ (parseMethodDescriptor y.desc).map (fun d => d.parameters.length) = some n) (hn : As.length = n)
    (hfr : fr + 1 ≤ FR) (hlc : 8 + (maxL + 11) + lo ≤ LO) (hst : st0 = As.reverse ++ .ref h :: rest) (hW : (rest.map fun v => v.category).sum ≤ 8) (hdg : decode cc pc = .ok (.invokevirtual index, 3))
    (kk : ∀ (H1 : Heap) (locs1 : List Loc), AI D vwCl b0 (rH dA h S1 hp0) sz s.heap H1 locs1 → W p l e { frames := FR, cells := 0, slots := 0, locals := LO } s m args below meth c H1 locs1 0 0 Q (F0 m (pc + 3) ls (rv.toList ++ rest))) :
    W p l e { frames := FR, cells := 0, slots := 0, locals := LO } s m args below meth c H locs 0 0 Q (F0 m pc ls st0) := by
  have hts : ∀ w ∈ wsA, w.before args s = true := fun w hw => B.1.2.2.2.2 w (List.mem_cons_of_mem _ hw)
  refine q_call (va_runV (As := As) (rest := rest) (b := h) (C := RREF) ⟨B.1.1, B.1.2.1, B.1.2.2.1, B.1.2.2.2.1, hts⟩ hM (cwV n hts kw.1 rfl rfl rfl kw.2 ⟨hfr, hlc⟩) ⟨(q_pre (av := .ref h :: As) B I).1, q_recv B.2.2.2.1 I hcREF rH_h, (q_pre (av := .ref h :: As) B I).2⟩ rfl hn (by rw [← hlo]; exact hl.1) hst (lv_room hW) hdg ⟨Nat.le_refl _, Nat.le_refl _⟩) I kk
end RX
end
section
/-! The reference: names, words. -/
abbrev cb_thrown : ByteArray := prog_7_method_2_code
def y_thrown : MethodName := ⟨RZ0, "thrown", "()I"⟩
abbrev cb_type : ByteArray := prog_7_method_3_code
def y_type : MethodName := ⟨RZ0, "type", "(JI)I"⟩
abbrev cb_here : ByteArray := prog_7_method_4_code
def y_here : MethodName := ⟨RZ0, "here", "()I"⟩
abbrev cb_fail : ByteArray := prog_7_method_5_code
def y_fail : MethodName := ⟨RZ0, "fail", "(I)Z"⟩
abbrev cb_blanks : ByteArray := prog_7_method_6_code
def y_blanks : MethodName := ⟨RZ0, "blanks", "()V"⟩
abbrev cb_comment : ByteArray := prog_7_method_7_code
def y_comment : MethodName := ⟨RZ0, "comment", "()V"⟩
abbrev cb_room : ByteArray := prog_7_method_8_code
def y_room : MethodName := ⟨RZ0, "room", "()V"⟩
abbrev cb_isDigit : ByteArray := prog_7_method_9_code
def y_isDigit : MethodName := ⟨RZ0, "isDigit", "(I)Z"⟩
abbrev cb_isBare : ByteArray := prog_7_method_10_code
def y_isBare : MethodName := ⟨RZ0, "isBare", "(I)Z"⟩
abbrev cb_begin : ByteArray := prog_7_method_11_code
def y_begin : MethodName := ⟨RZ0, "begin", "()V"⟩
abbrev cb_add : ByteArray := prog_7_method_12_code
def y_add : MethodName := ⟨RZ0, "add", "(II)Z"⟩
abbrev cb_behindBar : ByteArray := prog_7_method_13_code
def y_behindBar : MethodName := ⟨RZ0, "behindBar", "(I)I"⟩
abbrev cb_string : ByteArray := prog_7_method_14_code
def y_string : MethodName := ⟨RZ0, "string", "()Z"⟩
abbrev cb_bare : ByteArray := prog_7_method_15_code
def y_bare : MethodName := ⟨RZ0, "bare", "()Z"⟩
abbrev cb_path : ByteArray := prog_7_method_16_code
def y_path : MethodName := ⟨RZ0, "path", "()Z"⟩
abbrev cb_isTable : ByteArray := prog_7_method_17_code
def y_isTable : MethodName := ⟨RZ0, "isTable", "(I)Z"⟩
abbrev cb_make : ByteArray := prog_7_method_18_code
def y_make : MethodName := ⟨RZ0, "make", "(II)I"⟩
abbrev cb_named : ByteArray := prog_7_method_19_code
def y_named : MethodName := ⟨RZ0, "named", "(II)I"⟩
abbrev cb_entryOf : ByteArray := prog_7_method_20_code
def y_entryOf : MethodName := ⟨RZ0, "entryOf", "(II)I"⟩
abbrev cb_leadEntry : ByteArray := prog_7_method_21_code
def y_leadEntry : MethodName := ⟨RZ0, "leadEntry", "(I)I"⟩
abbrev cb_leadHeader : ByteArray := prog_7_method_22_code
def y_leadHeader : MethodName := ⟨RZ0, "leadHeader", "()I"⟩
abbrev cb_opened : ByteArray := prog_7_method_23_code
def y_opened : MethodName := ⟨RZ0, "opened", "(Z)I"⟩
abbrev cb_digitOf : ByteArray := prog_7_method_24_code
def y_digitOf : MethodName := ⟨RZ0, "digitOf", "(I)I"⟩
abbrev cb_digits : ByteArray := prog_7_method_25_code
def y_digits : MethodName := ⟨RZ0, "digits", "(II)I"⟩
abbrev cb_number : ByteArray := prog_7_method_26_code
def y_number : MethodName := ⟨RZ0, "number", "(I)Z"⟩
abbrev cb_isDate : ByteArray := prog_7_method_27_code
def y_isDate : MethodName := ⟨RZ0, "isDate", "()Z"⟩
abbrev cb_two : ByteArray := prog_7_method_28_code
def y_two : MethodName := ⟨RZ0, "two", "()I"⟩
abbrev cb_daysOf : ByteArray := prog_7_method_29_code
def y_daysOf : MethodName := ⟨RZ0, "daysOf", "(II)I"⟩
abbrev cb_date : ByteArray := prog_7_method_30_code
def y_date : MethodName := ⟨RZ0, "date", "(I)Z"⟩
abbrev cb_letterOf : ByteArray := prog_7_method_31_code
def y_letterOf : MethodName := ⟨RZ0, "letterOf", "(ZI)I"⟩
abbrev cb_truth : ByteArray := prog_7_method_32_code
def y_truth : MethodName := ⟨RZ0, "truth", "(I)Z"⟩
abbrev cb_beginValue : ByteArray := prog_7_method_33_code
def y_beginValue : MethodName := ⟨RZ0, "beginValue", "(II)Z"⟩
abbrev cb_stepList : ByteArray := prog_7_method_34_code
def y_stepList : MethodName := ⟨RZ0, "stepList", "(I)Z"⟩
abbrev cb_entry : ByteArray := prog_7_method_35_code
def y_entry : MethodName := ⟨RZ0, "entry", "(I)Z"⟩
abbrev cb_stepTable : ByteArray := prog_7_method_36_code
def y_stepTable : MethodName := ⟨RZ0, "stepTable", "(I)Z"⟩
abbrev cb_finishValue : ByteArray := prog_7_method_37_code
def y_finishValue : MethodName := ⟨RZ0, "finishValue", "()Z"⟩
abbrev cb_header : ByteArray := prog_7_method_38_code
def y_header : MethodName := ⟨RZ0, "header", "()I"⟩
abbrev cb_line : ByteArray := prog_7_method_39_code
def y_line : MethodName := ⟨RZ0, "line", "(I)I"⟩
abbrev cb_read : ByteArray := prog_7_method_40_code
def y_read : MethodName := ⟨RZ0, "read", "()I"⟩
abbrev cb_put : ByteArray := prog_7_method_41_code
def y_put : MethodName := ⟨RZ0, "put", "(I)V"⟩
abbrev cb_putNumber : ByteArray := prog_7_method_42_code
def y_putNumber : MethodName := ⟨RZ0, "putNumber", "(II)V"⟩
abbrev cb_putQuoted : ByteArray := prog_7_method_43_code
def y_putQuoted : MethodName := ⟨RZ0, "putQuoted", "(II)V"⟩
abbrev cb_putKey : ByteArray := prog_7_method_44_code
def y_putKey : MethodName := ⟨RZ0, "putKey", "(I)V"⟩
abbrev cb_putHead : ByteArray := prog_7_method_45_code
def y_putHead : MethodName := ⟨RZ0, "putHead", "(I)V"⟩
abbrev cb_holds : ByteArray := prog_7_method_46_code
def y_holds : MethodName := ⟨RZ0, "holds", "(I)Z"⟩
abbrev cb_putValue : ByteArray := prog_7_method_47_code
def y_putValue : MethodName := ⟨RZ0, "putValue", "(I)V"⟩
abbrev cb_putEntry : ByteArray := prog_7_method_48_code
def y_putEntry : MethodName := ⟨RZ0, "putEntry", "(I)V"⟩
abbrev cb_write : ByteArray := prog_7_method_49_code
def y_write : MethodName := ⟨RZ0, "write", "()I"⟩
abbrev cb_written : ByteArray := prog_7_method_50_code
def y_written : MethodName := ⟨RZ0, "written", "(I)I"⟩
abbrev cb_top : ByteArray := prog_7_method_51_code
def y_top : MethodName := ⟨RZ0, "top", "()I"⟩
abbrev cb_down : ByteArray := prog_7_method_52_code
def y_down : MethodName := ⟨RZ0, "down", "(I)I"⟩
abbrev cb_up : ByteArray := prog_7_method_53_code
def y_up : MethodName := ⟨RZ0, "up", "()I"⟩
abbrev cb_kind : ByteArray := prog_7_method_54_code
def y_kind : MethodName := ⟨RZ0, "kind", "()I"⟩
abbrev cb_value : ByteArray := prog_7_method_55_code
def y_value : MethodName := ⟨RZ0, "value", "()I"⟩
abbrev cb_letter : ByteArray := prog_7_method_56_code
def y_letter : MethodName := ⟨RZ0, "letter", "(I)I"⟩
abbrev cb_key : ByteArray := prog_7_method_57_code
def y_key : MethodName := ⟨RZ0, "key", "(I)I"⟩
theorem mF_7 : Cond.fieldLink RREF 7 RREF (TREF 2).2.1 (TREF 2).2.2.1 ∈ wsA := List.mem_filter.mpr ⟨List.mem_of_getElem? (i := 1123) (by decide +kernel), by decide +kernel⟩
theorem mF_13 : Cond.fieldLink RREF 13 RREF (TREF 6).2.1 (TREF 6).2.2.1 ∈ wsA := List.mem_filter.mpr ⟨List.mem_of_getElem? (i := 1127) (by decide +kernel), by decide +kernel⟩
theorem mF_16 : Cond.fieldLink RREF 16 RREF (TREF 7).2.1 (TREF 7).2.2.1 ∈ wsA := List.mem_filter.mpr ⟨List.mem_of_getElem? (i := 1128) (by decide +kernel), by decide +kernel⟩
theorem mF_19 : Cond.fieldLink RREF 19 RREF (TREF 8).2.1 (TREF 8).2.2.1 ∈ wsA := List.mem_filter.mpr ⟨List.mem_of_getElem? (i := 1129) (by decide +kernel), by decide +kernel⟩
theorem mF_22 : Cond.fieldLink RREF 22 RREF (TREF 9).2.1 (TREF 9).2.2.1 ∈ wsA := List.mem_filter.mpr ⟨List.mem_of_getElem? (i := 1130) (by decide +kernel), by decide +kernel⟩
theorem mF_25 : Cond.fieldLink RREF 25 RREF (TREF 10).2.1 (TREF 10).2.2.1 ∈ wsA := List.mem_filter.mpr ⟨List.mem_of_getElem? (i := 1131) (by decide +kernel), by decide +kernel⟩
theorem mF_28 : Cond.fieldLink RREF 28 RREF (TREF 11).2.1 (TREF 11).2.2.1 ∈ wsA := List.mem_filter.mpr ⟨List.mem_of_getElem? (i := 1132) (by decide +kernel), by decide +kernel⟩
theorem mF_31 : Cond.fieldLink RREF 31 RREF (TREF 12).2.1 (TREF 12).2.2.1 ∈ wsA := List.mem_filter.mpr ⟨List.mem_of_getElem? (i := 1133) (by decide +kernel), by decide +kernel⟩
theorem mF_34 : Cond.fieldLink RREF 34 RREF (TREF 13).2.1 (TREF 13).2.2.1 ∈ wsA := List.mem_filter.mpr ⟨List.mem_of_getElem? (i := 1134) (by decide +kernel), by decide +kernel⟩
theorem mF_37 : Cond.fieldLink RREF 37 RREF (TREF 14).2.1 (TREF 14).2.2.1 ∈ wsA := List.mem_filter.mpr ⟨List.mem_of_getElem? (i := 1135) (by decide +kernel), by decide +kernel⟩
theorem mF_40 : Cond.fieldLink RREF 40 RREF (TREF 15).2.1 (TREF 15).2.2.1 ∈ wsA := List.mem_filter.mpr ⟨List.mem_of_getElem? (i := 1136) (by decide +kernel), by decide +kernel⟩
theorem mF_43 : Cond.fieldLink RREF 43 RREF (TREF 16).2.1 (TREF 16).2.2.1 ∈ wsA := List.mem_filter.mpr ⟨List.mem_of_getElem? (i := 1137) (by decide +kernel), by decide +kernel⟩
theorem mF_46 : Cond.fieldLink RREF 46 RREF (TREF 17).2.1 (TREF 17).2.2.1 ∈ wsA := List.mem_filter.mpr ⟨List.mem_of_getElem? (i := 1138) (by decide +kernel), by decide +kernel⟩
theorem mF_49 : Cond.fieldLink RREF 49 RREF (TREF 21).2.1 (TREF 21).2.2.1 ∈ wsA := List.mem_filter.mpr ⟨List.mem_of_getElem? (i := 1142) (by decide +kernel), by decide +kernel⟩
theorem mF_52 : Cond.fieldLink RREF 52 RREF (TREF 22).2.1 (TREF 22).2.2.1 ∈ wsA := List.mem_filter.mpr ⟨List.mem_of_getElem? (i := 1143) (by decide +kernel), by decide +kernel⟩
theorem mF_55 : Cond.fieldLink RREF 55 RREF (TREF 23).2.1 (TREF 23).2.2.1 ∈ wsA := List.mem_filter.mpr ⟨List.mem_of_getElem? (i := 1144) (by decide +kernel), by decide +kernel⟩
theorem mF_58 : Cond.fieldLink RREF 58 RREF (TREF 27).2.1 (TREF 27).2.2.1 ∈ wsA := List.mem_filter.mpr ⟨List.mem_of_getElem? (i := 1148) (by decide +kernel), by decide +kernel⟩
theorem mF_61 : Cond.fieldLink RREF 61 RREF (TREF 28).2.1 (TREF 28).2.2.1 ∈ wsA := List.mem_filter.mpr ⟨List.mem_of_getElem? (i := 1149) (by decide +kernel), by decide +kernel⟩
theorem mF_64 : Cond.fieldLink RREF 64 RREF (TREF 30).2.1 (TREF 30).2.2.1 ∈ wsA := List.mem_filter.mpr ⟨List.mem_of_getElem? (i := 1151) (by decide +kernel), by decide +kernel⟩
theorem mF_67 : Cond.fieldLink RREF 67 RREF (TREF 0).2.1 (TREF 0).2.2.1 ∈ wsA := List.mem_filter.mpr ⟨List.mem_of_getElem? (i := 1121) (by decide +kernel), by decide +kernel⟩
theorem mF_73 : Cond.fieldLink RREF 73 RREF (TREF 1).2.1 (TREF 1).2.2.1 ∈ wsA := List.mem_filter.mpr ⟨List.mem_of_getElem? (i := 1122) (by decide +kernel), by decide +kernel⟩
theorem mF_76 : Cond.fieldLink RREF 76 RREF (TREF 3).2.1 (TREF 3).2.2.1 ∈ wsA := List.mem_filter.mpr ⟨List.mem_of_getElem? (i := 1124) (by decide +kernel), by decide +kernel⟩
theorem mF_79 : Cond.fieldLink RREF 79 RREF (TREF 4).2.1 (TREF 4).2.2.1 ∈ wsA := List.mem_filter.mpr ⟨List.mem_of_getElem? (i := 1125) (by decide +kernel), by decide +kernel⟩
theorem mF_93 : Cond.fieldLink RREF 93 RREF (TREF 19).2.1 (TREF 19).2.2.1 ∈ wsA := List.mem_filter.mpr ⟨List.mem_of_getElem? (i := 1140) (by decide +kernel), by decide +kernel⟩
theorem mF_96 : Cond.fieldLink RREF 96 RREF (TREF 24).2.1 (TREF 24).2.2.1 ∈ wsA := List.mem_filter.mpr ⟨List.mem_of_getElem? (i := 1145) (by decide +kernel), by decide +kernel⟩
theorem mF_99 : Cond.fieldLink RREF 99 RREF (TREF 25).2.1 (TREF 25).2.2.1 ∈ wsA := List.mem_filter.mpr ⟨List.mem_of_getElem? (i := 1146) (by decide +kernel), by decide +kernel⟩
theorem mF_119 : Cond.fieldLink RREF 119 RREF (TREF 20).2.1 (TREF 20).2.2.1 ∈ wsA := List.mem_filter.mpr ⟨List.mem_of_getElem? (i := 1141) (by decide +kernel), by decide +kernel⟩
theorem mF_164 : Cond.fieldLink RREF 164 RREF (TREF 26).2.1 (TREF 26).2.2.1 ∈ wsA := List.mem_filter.mpr ⟨List.mem_of_getElem? (i := 1147) (by decide +kernel), by decide +kernel⟩
theorem mF_210 : Cond.fieldLink RREF 210 RREF (TREF 5).2.1 (TREF 5).2.2.1 ∈ wsA := List.mem_filter.mpr ⟨List.mem_of_getElem? (i := 1126) (by decide +kernel), by decide +kernel⟩
theorem mF_216 : Cond.fieldLink RREF 216 RREF (TREF 18).2.1 (TREF 18).2.2.1 ∈ wsA := List.mem_filter.mpr ⟨List.mem_of_getElem? (i := 1139) (by decide +kernel), by decide +kernel⟩
theorem mF_219 : Cond.fieldLink RREF 219 RREF (TREF 29).2.1 (TREF 29).2.2.1 ∈ wsA := List.mem_filter.mpr ⟨List.mem_of_getElem? (i := 1150) (by decide +kernel), by decide +kernel⟩
theorem mL_71 : Cond.constantLong RREF 71 255 ∈ wsA := List.mem_filter.mpr ⟨List.mem_of_getElem? (i := 1224) (by decide +kernel), by decide +kernel⟩
theorem kw_here : GoodIn wsA (wsV RREF 82 RREF y_here (.code y_here cb_here 1 (some .int) :: wsA)) ∧ y_here.cls = RREF ∧ y_here.cls ≠ "java/lang/invoke/MethodHandle" ∧ y_here.cls ≠ "java/lang/invoke/VarHandle" ∧ (parseMethodDescriptor y_here.desc).map (fun d => d.parameters.length) = some 0 := ⟨gV (List.mem_filter.mpr ⟨List.mem_of_getElem? (i := 1241) (by decide +kernel), by decide +kernel⟩) (List.mem_filter.mpr ⟨List.mem_of_getElem? (i := 1243) (by decide +kernel), by decide +kernel⟩) (List.mem_filter.mpr ⟨List.mem_of_getElem? (i := 54) (by decide +kernel), by decide +kernel⟩) (List.mem_filter.mpr ⟨List.mem_of_getElem? (i := 99) (by decide +kernel), by decide +kernel⟩) (List.mem_filter.mpr ⟨List.mem_of_getElem? (i := 1244) (by decide +kernel), by decide +kernel⟩), rfl, by decide, by decide, by decide +kernel⟩
theorem kw_fail : GoodIn wsA (wsV RREF 102 RREF y_fail (.code y_fail cb_fail 2 (some .boolean) :: wsA)) ∧ y_fail.cls = RREF ∧ y_fail.cls ≠ "java/lang/invoke/MethodHandle" ∧ y_fail.cls ≠ "java/lang/invoke/VarHandle" ∧ (parseMethodDescriptor y_fail.desc).map (fun d => d.parameters.length) = some 1 := ⟨gV (List.mem_filter.mpr ⟨List.mem_of_getElem? (i := 1261) (by decide +kernel), by decide +kernel⟩) (List.mem_filter.mpr ⟨List.mem_of_getElem? (i := 1263) (by decide +kernel), by decide +kernel⟩) (List.mem_filter.mpr ⟨List.mem_of_getElem? (i := 59) (by decide +kernel), by decide +kernel⟩) (List.mem_filter.mpr ⟨List.mem_of_getElem? (i := 99) (by decide +kernel), by decide +kernel⟩) (List.mem_filter.mpr ⟨List.mem_of_getElem? (i := 1264) (by decide +kernel), by decide +kernel⟩), rfl, by decide, by decide, by decide +kernel⟩
theorem kw_blanks : GoodIn wsA (wsV RREF 129 RREF y_blanks (.code y_blanks cb_blanks 1 none :: wsA)) ∧ y_blanks.cls = RREF ∧ y_blanks.cls ≠ "java/lang/invoke/MethodHandle" ∧ y_blanks.cls ≠ "java/lang/invoke/VarHandle" ∧ (parseMethodDescriptor y_blanks.desc).map (fun d => d.parameters.length) = some 0 := ⟨gV (List.mem_filter.mpr ⟨List.mem_of_getElem? (i := 1237) (by decide +kernel), by decide +kernel⟩) (List.mem_filter.mpr ⟨List.mem_of_getElem? (i := 1239) (by decide +kernel), by decide +kernel⟩) (List.mem_filter.mpr ⟨List.mem_of_getElem? (i := 53) (by decide +kernel), by decide +kernel⟩) (List.mem_filter.mpr ⟨List.mem_of_getElem? (i := 99) (by decide +kernel), by decide +kernel⟩) (List.mem_filter.mpr ⟨List.mem_of_getElem? (i := 1240) (by decide +kernel), by decide +kernel⟩), rfl, by decide, by decide, by decide +kernel⟩
theorem kw_comment : GoodIn wsA (wsV RREF 86 RREF y_comment (.code y_comment cb_comment 1 none :: wsA)) ∧ y_comment.cls = RREF ∧ y_comment.cls ≠ "java/lang/invoke/MethodHandle" ∧ y_comment.cls ≠ "java/lang/invoke/VarHandle" ∧ (parseMethodDescriptor y_comment.desc).map (fun d => d.parameters.length) = some 0 := ⟨gV (List.mem_filter.mpr ⟨List.mem_of_getElem? (i := 1365) (by decide +kernel), by decide +kernel⟩) (List.mem_filter.mpr ⟨List.mem_of_getElem? (i := 1367) (by decide +kernel), by decide +kernel⟩) (List.mem_filter.mpr ⟨List.mem_of_getElem? (i := 85) (by decide +kernel), by decide +kernel⟩) (List.mem_filter.mpr ⟨List.mem_of_getElem? (i := 99) (by decide +kernel), by decide +kernel⟩) (List.mem_filter.mpr ⟨List.mem_of_getElem? (i := 1368) (by decide +kernel), by decide +kernel⟩), rfl, by decide, by decide, by decide +kernel⟩
theorem kw_room : GoodIn wsA (wsV RREF 179 RREF y_room (.code y_room cb_room 1 none :: wsA)) ∧ y_room.cls = RREF ∧ y_room.cls ≠ "java/lang/invoke/MethodHandle" ∧ y_room.cls ≠ "java/lang/invoke/VarHandle" ∧ (parseMethodDescriptor y_room.desc).map (fun d => d.parameters.length) = some 0 := ⟨gV (List.mem_filter.mpr ⟨List.mem_of_getElem? (i := 1361) (by decide +kernel), by decide +kernel⟩) (List.mem_filter.mpr ⟨List.mem_of_getElem? (i := 1363) (by decide +kernel), by decide +kernel⟩) (List.mem_filter.mpr ⟨List.mem_of_getElem? (i := 84) (by decide +kernel), by decide +kernel⟩) (List.mem_filter.mpr ⟨List.mem_of_getElem? (i := 99) (by decide +kernel), by decide +kernel⟩) (List.mem_filter.mpr ⟨List.mem_of_getElem? (i := 1364) (by decide +kernel), by decide +kernel⟩), rfl, by decide, by decide, by decide +kernel⟩
theorem kw_isDigit : GoodIn wsA (wsV RREF 89 RREF y_isDigit (.code y_isDigit cb_isDigit 2 (some .boolean) :: wsA)) ∧ y_isDigit.cls = RREF ∧ y_isDigit.cls ≠ "java/lang/invoke/MethodHandle" ∧ y_isDigit.cls ≠ "java/lang/invoke/VarHandle" ∧ (parseMethodDescriptor y_isDigit.desc).map (fun d => d.parameters.length) = some 1 := ⟨gV (List.mem_filter.mpr ⟨List.mem_of_getElem? (i := 1281) (by decide +kernel), by decide +kernel⟩) (List.mem_filter.mpr ⟨List.mem_of_getElem? (i := 1283) (by decide +kernel), by decide +kernel⟩) (List.mem_filter.mpr ⟨List.mem_of_getElem? (i := 64) (by decide +kernel), by decide +kernel⟩) (List.mem_filter.mpr ⟨List.mem_of_getElem? (i := 99) (by decide +kernel), by decide +kernel⟩) (List.mem_filter.mpr ⟨List.mem_of_getElem? (i := 1284) (by decide +kernel), by decide +kernel⟩), rfl, by decide, by decide, by decide +kernel⟩
theorem kw_isBare : GoodIn wsA (wsV RREF 116 RREF y_isBare (.code y_isBare cb_isBare 2 (some .boolean) :: wsA)) ∧ y_isBare.cls = RREF ∧ y_isBare.cls ≠ "java/lang/invoke/MethodHandle" ∧ y_isBare.cls ≠ "java/lang/invoke/VarHandle" ∧ (parseMethodDescriptor y_isBare.desc).map (fun d => d.parameters.length) = some 1 := ⟨gV (List.mem_filter.mpr ⟨List.mem_of_getElem? (i := 1277) (by decide +kernel), by decide +kernel⟩) (List.mem_filter.mpr ⟨List.mem_of_getElem? (i := 1279) (by decide +kernel), by decide +kernel⟩) (List.mem_filter.mpr ⟨List.mem_of_getElem? (i := 63) (by decide +kernel), by decide +kernel⟩) (List.mem_filter.mpr ⟨List.mem_of_getElem? (i := 99) (by decide +kernel), by decide +kernel⟩) (List.mem_filter.mpr ⟨List.mem_of_getElem? (i := 1280) (by decide +kernel), by decide +kernel⟩), rfl, by decide, by decide, by decide +kernel⟩
theorem kw_begin : GoodIn wsA (wsV RREF 105 RREF y_begin (.code y_begin cb_begin 1 none :: wsA)) ∧ y_begin.cls = RREF ∧ y_begin.cls ≠ "java/lang/invoke/MethodHandle" ∧ y_begin.cls ≠ "java/lang/invoke/VarHandle" ∧ (parseMethodDescriptor y_begin.desc).map (fun d => d.parameters.length) = some 0 := ⟨gV (List.mem_filter.mpr ⟨List.mem_of_getElem? (i := 1257) (by decide +kernel), by decide +kernel⟩) (List.mem_filter.mpr ⟨List.mem_of_getElem? (i := 1259) (by decide +kernel), by decide +kernel⟩) (List.mem_filter.mpr ⟨List.mem_of_getElem? (i := 58) (by decide +kernel), by decide +kernel⟩) (List.mem_filter.mpr ⟨List.mem_of_getElem? (i := 99) (by decide +kernel), by decide +kernel⟩) (List.mem_filter.mpr ⟨List.mem_of_getElem? (i := 1260) (by decide +kernel), by decide +kernel⟩), rfl, by decide, by decide, by decide +kernel⟩
theorem kw_add : GoodIn wsA (wsV RREF 112 RREF y_add (.code y_add cb_add 3 (some .boolean) :: wsA)) ∧ y_add.cls = RREF ∧ y_add.cls ≠ "java/lang/invoke/MethodHandle" ∧ y_add.cls ≠ "java/lang/invoke/VarHandle" ∧ (parseMethodDescriptor y_add.desc).map (fun d => d.parameters.length) = some 2 := ⟨gV (List.mem_filter.mpr ⟨List.mem_of_getElem? (i := 1269) (by decide +kernel), by decide +kernel⟩) (List.mem_filter.mpr ⟨List.mem_of_getElem? (i := 1271) (by decide +kernel), by decide +kernel⟩) (List.mem_filter.mpr ⟨List.mem_of_getElem? (i := 61) (by decide +kernel), by decide +kernel⟩) (List.mem_filter.mpr ⟨List.mem_of_getElem? (i := 99) (by decide +kernel), by decide +kernel⟩) (List.mem_filter.mpr ⟨List.mem_of_getElem? (i := 1272) (by decide +kernel), by decide +kernel⟩), rfl, by decide, by decide, by decide +kernel⟩
theorem kw_behindBar : GoodIn wsA (wsV RREF 108 RREF y_behindBar (.code y_behindBar cb_behindBar 2 (some .int) :: wsA)) ∧ y_behindBar.cls = RREF ∧ y_behindBar.cls ≠ "java/lang/invoke/MethodHandle" ∧ y_behindBar.cls ≠ "java/lang/invoke/VarHandle" ∧ (parseMethodDescriptor y_behindBar.desc).map (fun d => d.parameters.length) = some 1 := ⟨gV (List.mem_filter.mpr ⟨List.mem_of_getElem? (i := 1265) (by decide +kernel), by decide +kernel⟩) (List.mem_filter.mpr ⟨List.mem_of_getElem? (i := 1267) (by decide +kernel), by decide +kernel⟩) (List.mem_filter.mpr ⟨List.mem_of_getElem? (i := 60) (by decide +kernel), by decide +kernel⟩) (List.mem_filter.mpr ⟨List.mem_of_getElem? (i := 99) (by decide +kernel), by decide +kernel⟩) (List.mem_filter.mpr ⟨List.mem_of_getElem? (i := 1268) (by decide +kernel), by decide +kernel⟩), rfl, by decide, by decide, by decide +kernel⟩
theorem kw_string : GoodIn wsA (wsV RREF 122 RREF y_string (.code y_string cb_string 4 (some .boolean) :: wsA)) ∧ y_string.cls = RREF ∧ y_string.cls ≠ "java/lang/invoke/MethodHandle" ∧ y_string.cls ≠ "java/lang/invoke/VarHandle" ∧ (parseMethodDescriptor y_string.desc).map (fun d => d.parameters.length) = some 0 := ⟨gV (List.mem_filter.mpr ⟨List.mem_of_getElem? (i := 1253) (by decide +kernel), by decide +kernel⟩) (List.mem_filter.mpr ⟨List.mem_of_getElem? (i := 1255) (by decide +kernel), by decide +kernel⟩) (List.mem_filter.mpr ⟨List.mem_of_getElem? (i := 57) (by decide +kernel), by decide +kernel⟩) (List.mem_filter.mpr ⟨List.mem_of_getElem? (i := 99) (by decide +kernel), by decide +kernel⟩) (List.mem_filter.mpr ⟨List.mem_of_getElem? (i := 1256) (by decide +kernel), by decide +kernel⟩), rfl, by decide, by decide, by decide +kernel⟩
theorem kw_bare : GoodIn wsA (wsV RREF 126 RREF y_bare (.code y_bare cb_bare 1 (some .boolean) :: wsA)) ∧ y_bare.cls = RREF ∧ y_bare.cls ≠ "java/lang/invoke/MethodHandle" ∧ y_bare.cls ≠ "java/lang/invoke/VarHandle" ∧ (parseMethodDescriptor y_bare.desc).map (fun d => d.parameters.length) = some 0 := ⟨gV (List.mem_filter.mpr ⟨List.mem_of_getElem? (i := 1273) (by decide +kernel), by decide +kernel⟩) (List.mem_filter.mpr ⟨List.mem_of_getElem? (i := 1275) (by decide +kernel), by decide +kernel⟩) (List.mem_filter.mpr ⟨List.mem_of_getElem? (i := 62) (by decide +kernel), by decide +kernel⟩) (List.mem_filter.mpr ⟨List.mem_of_getElem? (i := 99) (by decide +kernel), by decide +kernel⟩) (List.mem_filter.mpr ⟨List.mem_of_getElem? (i := 1276) (by decide +kernel), by decide +kernel⟩), rfl, by decide, by decide, by decide +kernel⟩
theorem kw_path : GoodIn wsA (wsV RREF 185 RREF y_path (.code y_path cb_path 2 (some .boolean) :: wsA)) ∧ y_path.cls = RREF ∧ y_path.cls ≠ "java/lang/invoke/MethodHandle" ∧ y_path.cls ≠ "java/lang/invoke/VarHandle" ∧ (parseMethodDescriptor y_path.desc).map (fun d => d.parameters.length) = some 0 := ⟨gV (List.mem_filter.mpr ⟨List.mem_of_getElem? (i := 1249) (by decide +kernel), by decide +kernel⟩) (List.mem_filter.mpr ⟨List.mem_of_getElem? (i := 1251) (by decide +kernel), by decide +kernel⟩) (List.mem_filter.mpr ⟨List.mem_of_getElem? (i := 56) (by decide +kernel), by decide +kernel⟩) (List.mem_filter.mpr ⟨List.mem_of_getElem? (i := 99) (by decide +kernel), by decide +kernel⟩) (List.mem_filter.mpr ⟨List.mem_of_getElem? (i := 1252) (by decide +kernel), by decide +kernel⟩), rfl, by decide, by decide, by decide +kernel⟩
theorem kw_isTable : GoodIn wsA (wsV RREF 142 RREF y_isTable (.code y_isTable cb_isTable 2 (some .boolean) :: wsA)) ∧ y_isTable.cls = RREF ∧ y_isTable.cls ≠ "java/lang/invoke/MethodHandle" ∧ y_isTable.cls ≠ "java/lang/invoke/VarHandle" ∧ (parseMethodDescriptor y_isTable.desc).map (fun d => d.parameters.length) = some 1 := ⟨gV (List.mem_filter.mpr ⟨List.mem_of_getElem? (i := 1301) (by decide +kernel), by decide +kernel⟩) (List.mem_filter.mpr ⟨List.mem_of_getElem? (i := 1303) (by decide +kernel), by decide +kernel⟩) (List.mem_filter.mpr ⟨List.mem_of_getElem? (i := 69) (by decide +kernel), by decide +kernel⟩) (List.mem_filter.mpr ⟨List.mem_of_getElem? (i := 99) (by decide +kernel), by decide +kernel⟩) (List.mem_filter.mpr ⟨List.mem_of_getElem? (i := 1304) (by decide +kernel), by decide +kernel⟩), rfl, by decide, by decide, by decide +kernel⟩
theorem kw_make : GoodIn wsA (wsV RREF 136 RREF y_make (.code y_make cb_make 4 (some .int) :: wsA)) ∧ y_make.cls = RREF ∧ y_make.cls ≠ "java/lang/invoke/MethodHandle" ∧ y_make.cls ≠ "java/lang/invoke/VarHandle" ∧ (parseMethodDescriptor y_make.desc).map (fun d => d.parameters.length) = some 2 := ⟨gV (List.mem_filter.mpr ⟨List.mem_of_getElem? (i := 1229) (by decide +kernel), by decide +kernel⟩) (List.mem_filter.mpr ⟨List.mem_of_getElem? (i := 1231) (by decide +kernel), by decide +kernel⟩) (List.mem_filter.mpr ⟨List.mem_of_getElem? (i := 51) (by decide +kernel), by decide +kernel⟩) (List.mem_filter.mpr ⟨List.mem_of_getElem? (i := 99) (by decide +kernel), by decide +kernel⟩) (List.mem_filter.mpr ⟨List.mem_of_getElem? (i := 1232) (by decide +kernel), by decide +kernel⟩), rfl, by decide, by decide, by decide +kernel⟩
theorem kw_named : GoodIn wsA (wsV RREF 139 RREF y_named (.code y_named cb_named 3 (some .int) :: wsA)) ∧ y_named.cls = RREF ∧ y_named.cls ≠ "java/lang/invoke/MethodHandle" ∧ y_named.cls ≠ "java/lang/invoke/VarHandle" ∧ (parseMethodDescriptor y_named.desc).map (fun d => d.parameters.length) = some 2 := ⟨gV (List.mem_filter.mpr ⟨List.mem_of_getElem? (i := 1297) (by decide +kernel), by decide +kernel⟩) (List.mem_filter.mpr ⟨List.mem_of_getElem? (i := 1299) (by decide +kernel), by decide +kernel⟩) (List.mem_filter.mpr ⟨List.mem_of_getElem? (i := 68) (by decide +kernel), by decide +kernel⟩) (List.mem_filter.mpr ⟨List.mem_of_getElem? (i := 99) (by decide +kernel), by decide +kernel⟩) (List.mem_filter.mpr ⟨List.mem_of_getElem? (i := 1300) (by decide +kernel), by decide +kernel⟩), rfl, by decide, by decide, by decide +kernel⟩
theorem kw_entryOf : GoodIn wsA (wsV RREF 132 RREF y_entryOf (.code y_entryOf cb_entryOf 6 (some .int) :: wsA)) ∧ y_entryOf.cls = RREF ∧ y_entryOf.cls ≠ "java/lang/invoke/MethodHandle" ∧ y_entryOf.cls ≠ "java/lang/invoke/VarHandle" ∧ (parseMethodDescriptor y_entryOf.desc).map (fun d => d.parameters.length) = some 2 := ⟨gV (List.mem_filter.mpr ⟨List.mem_of_getElem? (i := 1293) (by decide +kernel), by decide +kernel⟩) (List.mem_filter.mpr ⟨List.mem_of_getElem? (i := 1295) (by decide +kernel), by decide +kernel⟩) (List.mem_filter.mpr ⟨List.mem_of_getElem? (i := 67) (by decide +kernel), by decide +kernel⟩) (List.mem_filter.mpr ⟨List.mem_of_getElem? (i := 99) (by decide +kernel), by decide +kernel⟩) (List.mem_filter.mpr ⟨List.mem_of_getElem? (i := 1296) (by decide +kernel), by decide +kernel⟩), rfl, by decide, by decide, by decide +kernel⟩
theorem kw_leadEntry : GoodIn wsA (wsV RREF 188 RREF y_leadEntry (.code y_leadEntry cb_leadEntry 5 (some .int) :: wsA)) ∧ y_leadEntry.cls = RREF ∧ y_leadEntry.cls ≠ "java/lang/invoke/MethodHandle" ∧ y_leadEntry.cls ≠ "java/lang/invoke/VarHandle" ∧ (parseMethodDescriptor y_leadEntry.desc).map (fun d => d.parameters.length) = some 1 := ⟨gV (List.mem_filter.mpr ⟨List.mem_of_getElem? (i := 1309) (by decide +kernel), by decide +kernel⟩) (List.mem_filter.mpr ⟨List.mem_of_getElem? (i := 1311) (by decide +kernel), by decide +kernel⟩) (List.mem_filter.mpr ⟨List.mem_of_getElem? (i := 71) (by decide +kernel), by decide +kernel⟩) (List.mem_filter.mpr ⟨List.mem_of_getElem? (i := 99) (by decide +kernel), by decide +kernel⟩) (List.mem_filter.mpr ⟨List.mem_of_getElem? (i := 1312) (by decide +kernel), by decide +kernel⟩), rfl, by decide, by decide, by decide +kernel⟩
theorem kw_leadHeader : GoodIn wsA (wsV RREF 145 RREF y_leadHeader (.code y_leadHeader cb_leadHeader 4 (some .int) :: wsA)) ∧ y_leadHeader.cls = RREF ∧ y_leadHeader.cls ≠ "java/lang/invoke/MethodHandle" ∧ y_leadHeader.cls ≠ "java/lang/invoke/VarHandle" ∧ (parseMethodDescriptor y_leadHeader.desc).map (fun d => d.parameters.length) = some 0 := ⟨gV (List.mem_filter.mpr ⟨List.mem_of_getElem? (i := 1289) (by decide +kernel), by decide +kernel⟩) (List.mem_filter.mpr ⟨List.mem_of_getElem? (i := 1291) (by decide +kernel), by decide +kernel⟩) (List.mem_filter.mpr ⟨List.mem_of_getElem? (i := 66) (by decide +kernel), by decide +kernel⟩) (List.mem_filter.mpr ⟨List.mem_of_getElem? (i := 99) (by decide +kernel), by decide +kernel⟩) (List.mem_filter.mpr ⟨List.mem_of_getElem? (i := 1292) (by decide +kernel), by decide +kernel⟩), rfl, by decide, by decide, by decide +kernel⟩
theorem kw_opened : GoodIn wsA (wsV RREF 200 RREF y_opened (.code y_opened cb_opened 5 (some .int) :: wsA)) ∧ y_opened.cls = RREF ∧ y_opened.cls ≠ "java/lang/invoke/MethodHandle" ∧ y_opened.cls ≠ "java/lang/invoke/VarHandle" ∧ (parseMethodDescriptor y_opened.desc).map (fun d => d.parameters.length) = some 1 := ⟨gV (List.mem_filter.mpr ⟨List.mem_of_getElem? (i := 1285) (by decide +kernel), by decide +kernel⟩) (List.mem_filter.mpr ⟨List.mem_of_getElem? (i := 1287) (by decide +kernel), by decide +kernel⟩) (List.mem_filter.mpr ⟨List.mem_of_getElem? (i := 65) (by decide +kernel), by decide +kernel⟩) (List.mem_filter.mpr ⟨List.mem_of_getElem? (i := 99) (by decide +kernel), by decide +kernel⟩) (List.mem_filter.mpr ⟨List.mem_of_getElem? (i := 1288) (by decide +kernel), by decide +kernel⟩), rfl, by decide, by decide, by decide +kernel⟩
theorem kw_digitOf : GoodIn wsA (wsV RREF 148 RREF y_digitOf (.code y_digitOf cb_digitOf 2 (some .int) :: wsA)) ∧ y_digitOf.cls = RREF ∧ y_digitOf.cls ≠ "java/lang/invoke/MethodHandle" ∧ y_digitOf.cls ≠ "java/lang/invoke/VarHandle" ∧ (parseMethodDescriptor y_digitOf.desc).map (fun d => d.parameters.length) = some 1 := ⟨gV (List.mem_filter.mpr ⟨List.mem_of_getElem? (i := 1341) (by decide +kernel), by decide +kernel⟩) (List.mem_filter.mpr ⟨List.mem_of_getElem? (i := 1343) (by decide +kernel), by decide +kernel⟩) (List.mem_filter.mpr ⟨List.mem_of_getElem? (i := 79) (by decide +kernel), by decide +kernel⟩) (List.mem_filter.mpr ⟨List.mem_of_getElem? (i := 99) (by decide +kernel), by decide +kernel⟩) (List.mem_filter.mpr ⟨List.mem_of_getElem? (i := 1344) (by decide +kernel), by decide +kernel⟩), rfl, by decide, by decide, by decide +kernel⟩
theorem kw_digits : GoodIn wsA (wsV RREF 151 RREF y_digits (.code y_digits cb_digits 9 (some .int) :: wsA)) ∧ y_digits.cls = RREF ∧ y_digits.cls ≠ "java/lang/invoke/MethodHandle" ∧ y_digits.cls ≠ "java/lang/invoke/VarHandle" ∧ (parseMethodDescriptor y_digits.desc).map (fun d => d.parameters.length) = some 2 := ⟨gV (List.mem_filter.mpr ⟨List.mem_of_getElem? (i := 1337) (by decide +kernel), by decide +kernel⟩) (List.mem_filter.mpr ⟨List.mem_of_getElem? (i := 1339) (by decide +kernel), by decide +kernel⟩) (List.mem_filter.mpr ⟨List.mem_of_getElem? (i := 78) (by decide +kernel), by decide +kernel⟩) (List.mem_filter.mpr ⟨List.mem_of_getElem? (i := 99) (by decide +kernel), by decide +kernel⟩) (List.mem_filter.mpr ⟨List.mem_of_getElem? (i := 1340) (by decide +kernel), by decide +kernel⟩), rfl, by decide, by decide, by decide +kernel⟩
theorem kw_number : GoodIn wsA (wsV RREF 173 RREF y_number (.code y_number cb_number 6 (some .boolean) :: wsA)) ∧ y_number.cls = RREF ∧ y_number.cls ≠ "java/lang/invoke/MethodHandle" ∧ y_number.cls ≠ "java/lang/invoke/VarHandle" ∧ (parseMethodDescriptor y_number.desc).map (fun d => d.parameters.length) = some 1 := ⟨gV (List.mem_filter.mpr ⟨List.mem_of_getElem? (i := 1333) (by decide +kernel), by decide +kernel⟩) (List.mem_filter.mpr ⟨List.mem_of_getElem? (i := 1335) (by decide +kernel), by decide +kernel⟩) (List.mem_filter.mpr ⟨List.mem_of_getElem? (i := 77) (by decide +kernel), by decide +kernel⟩) (List.mem_filter.mpr ⟨List.mem_of_getElem? (i := 99) (by decide +kernel), by decide +kernel⟩) (List.mem_filter.mpr ⟨List.mem_of_getElem? (i := 1336) (by decide +kernel), by decide +kernel⟩), rfl, by decide, by decide, by decide +kernel⟩
theorem kw_isDate : GoodIn wsA (wsV RREF 167 RREF y_isDate (.code y_isDate cb_isDate 3 (some .boolean) :: wsA)) ∧ y_isDate.cls = RREF ∧ y_isDate.cls ≠ "java/lang/invoke/MethodHandle" ∧ y_isDate.cls ≠ "java/lang/invoke/VarHandle" ∧ (parseMethodDescriptor y_isDate.desc).map (fun d => d.parameters.length) = some 0 := ⟨gV (List.mem_filter.mpr ⟨List.mem_of_getElem? (i := 1317) (by decide +kernel), by decide +kernel⟩) (List.mem_filter.mpr ⟨List.mem_of_getElem? (i := 1319) (by decide +kernel), by decide +kernel⟩) (List.mem_filter.mpr ⟨List.mem_of_getElem? (i := 73) (by decide +kernel), by decide +kernel⟩) (List.mem_filter.mpr ⟨List.mem_of_getElem? (i := 99) (by decide +kernel), by decide +kernel⟩) (List.mem_filter.mpr ⟨List.mem_of_getElem? (i := 1320) (by decide +kernel), by decide +kernel⟩), rfl, by decide, by decide, by decide +kernel⟩
theorem kw_two : GoodIn wsA (wsV RREF 154 RREF y_two (.code y_two cb_two 3 (some .int) :: wsA)) ∧ y_two.cls = RREF ∧ y_two.cls ≠ "java/lang/invoke/MethodHandle" ∧ y_two.cls ≠ "java/lang/invoke/VarHandle" ∧ (parseMethodDescriptor y_two.desc).map (fun d => d.parameters.length) = some 0 := ⟨gV (List.mem_filter.mpr ⟨List.mem_of_getElem? (i := 1325) (by decide +kernel), by decide +kernel⟩) (List.mem_filter.mpr ⟨List.mem_of_getElem? (i := 1327) (by decide +kernel), by decide +kernel⟩) (List.mem_filter.mpr ⟨List.mem_of_getElem? (i := 75) (by decide +kernel), by decide +kernel⟩) (List.mem_filter.mpr ⟨List.mem_of_getElem? (i := 99) (by decide +kernel), by decide +kernel⟩) (List.mem_filter.mpr ⟨List.mem_of_getElem? (i := 1328) (by decide +kernel), by decide +kernel⟩), rfl, by decide, by decide, by decide +kernel⟩
theorem kw_daysOf : GoodIn wsA (wsV RREF 157 RREF y_daysOf (.code y_daysOf cb_daysOf 3 (some .int) :: wsA)) ∧ y_daysOf.cls = RREF ∧ y_daysOf.cls ≠ "java/lang/invoke/MethodHandle" ∧ y_daysOf.cls ≠ "java/lang/invoke/VarHandle" ∧ (parseMethodDescriptor y_daysOf.desc).map (fun d => d.parameters.length) = some 2 := ⟨gV (List.mem_filter.mpr ⟨List.mem_of_getElem? (i := 1329) (by decide +kernel), by decide +kernel⟩) (List.mem_filter.mpr ⟨List.mem_of_getElem? (i := 1331) (by decide +kernel), by decide +kernel⟩) (List.mem_filter.mpr ⟨List.mem_of_getElem? (i := 76) (by decide +kernel), by decide +kernel⟩) (List.mem_filter.mpr ⟨List.mem_of_getElem? (i := 99) (by decide +kernel), by decide +kernel⟩) (List.mem_filter.mpr ⟨List.mem_of_getElem? (i := 1332) (by decide +kernel), by decide +kernel⟩), rfl, by decide, by decide, by decide +kernel⟩
theorem kw_date : GoodIn wsA (wsV RREF 170 RREF y_date (.code y_date cb_date 5 (some .boolean) :: wsA)) ∧ y_date.cls = RREF ∧ y_date.cls ≠ "java/lang/invoke/MethodHandle" ∧ y_date.cls ≠ "java/lang/invoke/VarHandle" ∧ (parseMethodDescriptor y_date.desc).map (fun d => d.parameters.length) = some 1 := ⟨gV (List.mem_filter.mpr ⟨List.mem_of_getElem? (i := 1321) (by decide +kernel), by decide +kernel⟩) (List.mem_filter.mpr ⟨List.mem_of_getElem? (i := 1323) (by decide +kernel), by decide +kernel⟩) (List.mem_filter.mpr ⟨List.mem_of_getElem? (i := 74) (by decide +kernel), by decide +kernel⟩) (List.mem_filter.mpr ⟨List.mem_of_getElem? (i := 99) (by decide +kernel), by decide +kernel⟩) (List.mem_filter.mpr ⟨List.mem_of_getElem? (i := 1324) (by decide +kernel), by decide +kernel⟩), rfl, by decide, by decide, by decide +kernel⟩
theorem kw_letterOf : GoodIn wsA (wsV RREF 160 RREF y_letterOf (.code y_letterOf cb_letterOf 3 (some .int) :: wsA)) ∧ y_letterOf.cls = RREF ∧ y_letterOf.cls ≠ "java/lang/invoke/MethodHandle" ∧ y_letterOf.cls ≠ "java/lang/invoke/VarHandle" ∧ (parseMethodDescriptor y_letterOf.desc).map (fun d => d.parameters.length) = some 2 := ⟨gV (List.mem_filter.mpr ⟨List.mem_of_getElem? (i := 1349) (by decide +kernel), by decide +kernel⟩) (List.mem_filter.mpr ⟨List.mem_of_getElem? (i := 1351) (by decide +kernel), by decide +kernel⟩) (List.mem_filter.mpr ⟨List.mem_of_getElem? (i := 81) (by decide +kernel), by decide +kernel⟩) (List.mem_filter.mpr ⟨List.mem_of_getElem? (i := 99) (by decide +kernel), by decide +kernel⟩) (List.mem_filter.mpr ⟨List.mem_of_getElem? (i := 1352) (by decide +kernel), by decide +kernel⟩), rfl, by decide, by decide, by decide +kernel⟩
theorem kw_truth : GoodIn wsA (wsV RREF 176 RREF y_truth (.code y_truth cb_truth 4 (some .boolean) :: wsA)) ∧ y_truth.cls = RREF ∧ y_truth.cls ≠ "java/lang/invoke/MethodHandle" ∧ y_truth.cls ≠ "java/lang/invoke/VarHandle" ∧ (parseMethodDescriptor y_truth.desc).map (fun d => d.parameters.length) = some 1 := ⟨gV (List.mem_filter.mpr ⟨List.mem_of_getElem? (i := 1345) (by decide +kernel), by decide +kernel⟩) (List.mem_filter.mpr ⟨List.mem_of_getElem? (i := 1347) (by decide +kernel), by decide +kernel⟩) (List.mem_filter.mpr ⟨List.mem_of_getElem? (i := 80) (by decide +kernel), by decide +kernel⟩) (List.mem_filter.mpr ⟨List.mem_of_getElem? (i := 99) (by decide +kernel), by decide +kernel⟩) (List.mem_filter.mpr ⟨List.mem_of_getElem? (i := 1348) (by decide +kernel), by decide +kernel⟩), rfl, by decide, by decide, by decide +kernel⟩
theorem kw_beginValue : GoodIn wsA (wsV RREF 182 RREF y_beginValue (.code y_beginValue cb_beginValue 8 (some .boolean) :: wsA)) ∧ y_beginValue.cls = RREF ∧ y_beginValue.cls ≠ "java/lang/invoke/MethodHandle" ∧ y_beginValue.cls ≠ "java/lang/invoke/VarHandle" ∧ (parseMethodDescriptor y_beginValue.desc).map (fun d => d.parameters.length) = some 2 := ⟨gV (List.mem_filter.mpr ⟨List.mem_of_getElem? (i := 1313) (by decide +kernel), by decide +kernel⟩) (List.mem_filter.mpr ⟨List.mem_of_getElem? (i := 1315) (by decide +kernel), by decide +kernel⟩) (List.mem_filter.mpr ⟨List.mem_of_getElem? (i := 72) (by decide +kernel), by decide +kernel⟩) (List.mem_filter.mpr ⟨List.mem_of_getElem? (i := 99) (by decide +kernel), by decide +kernel⟩) (List.mem_filter.mpr ⟨List.mem_of_getElem? (i := 1316) (by decide +kernel), by decide +kernel⟩), rfl, by decide, by decide, by decide +kernel⟩
theorem kw_stepList : GoodIn wsA (wsV RREF 194 RREF y_stepList (.code y_stepList cb_stepList 3 (some .boolean) :: wsA)) ∧ y_stepList.cls = RREF ∧ y_stepList.cls ≠ "java/lang/invoke/MethodHandle" ∧ y_stepList.cls ≠ "java/lang/invoke/VarHandle" ∧ (parseMethodDescriptor y_stepList.desc).map (fun d => d.parameters.length) = some 1 := ⟨gV (List.mem_filter.mpr ⟨List.mem_of_getElem? (i := 1357) (by decide +kernel), by decide +kernel⟩) (List.mem_filter.mpr ⟨List.mem_of_getElem? (i := 1359) (by decide +kernel), by decide +kernel⟩) (List.mem_filter.mpr ⟨List.mem_of_getElem? (i := 83) (by decide +kernel), by decide +kernel⟩) (List.mem_filter.mpr ⟨List.mem_of_getElem? (i := 99) (by decide +kernel), by decide +kernel⟩) (List.mem_filter.mpr ⟨List.mem_of_getElem? (i := 1360) (by decide +kernel), by decide +kernel⟩), rfl, by decide, by decide, by decide +kernel⟩
theorem kw_entry : GoodIn wsA (wsV RREF 191 RREF y_entry (.code y_entry cb_entry 3 (some .boolean) :: wsA)) ∧ y_entry.cls = RREF ∧ y_entry.cls ≠ "java/lang/invoke/MethodHandle" ∧ y_entry.cls ≠ "java/lang/invoke/VarHandle" ∧ (parseMethodDescriptor y_entry.desc).map (fun d => d.parameters.length) = some 1 := ⟨gV (List.mem_filter.mpr ⟨List.mem_of_getElem? (i := 1305) (by decide +kernel), by decide +kernel⟩) (List.mem_filter.mpr ⟨List.mem_of_getElem? (i := 1307) (by decide +kernel), by decide +kernel⟩) (List.mem_filter.mpr ⟨List.mem_of_getElem? (i := 70) (by decide +kernel), by decide +kernel⟩) (List.mem_filter.mpr ⟨List.mem_of_getElem? (i := 99) (by decide +kernel), by decide +kernel⟩) (List.mem_filter.mpr ⟨List.mem_of_getElem? (i := 1308) (by decide +kernel), by decide +kernel⟩), rfl, by decide, by decide, by decide +kernel⟩
theorem kw_stepTable : GoodIn wsA (wsV RREF 197 RREF y_stepTable (.code y_stepTable cb_stepTable 4 (some .boolean) :: wsA)) ∧ y_stepTable.cls = RREF ∧ y_stepTable.cls ≠ "java/lang/invoke/MethodHandle" ∧ y_stepTable.cls ≠ "java/lang/invoke/VarHandle" ∧ (parseMethodDescriptor y_stepTable.desc).map (fun d => d.parameters.length) = some 1 := ⟨gV (List.mem_filter.mpr ⟨List.mem_of_getElem? (i := 1369) (by decide +kernel), by decide +kernel⟩) (List.mem_filter.mpr ⟨List.mem_of_getElem? (i := 1371) (by decide +kernel), by decide +kernel⟩) (List.mem_filter.mpr ⟨List.mem_of_getElem? (i := 86) (by decide +kernel), by decide +kernel⟩) (List.mem_filter.mpr ⟨List.mem_of_getElem? (i := 99) (by decide +kernel), by decide +kernel⟩) (List.mem_filter.mpr ⟨List.mem_of_getElem? (i := 1372) (by decide +kernel), by decide +kernel⟩), rfl, by decide, by decide, by decide +kernel⟩
theorem kw_finishValue : GoodIn wsA (wsV RREF 207 RREF y_finishValue (.code y_finishValue cb_finishValue 2 (some .boolean) :: wsA)) ∧ y_finishValue.cls = RREF ∧ y_finishValue.cls ≠ "java/lang/invoke/MethodHandle" ∧ y_finishValue.cls ≠ "java/lang/invoke/VarHandle" ∧ (parseMethodDescriptor y_finishValue.desc).map (fun d => d.parameters.length) = some 0 := ⟨gV (List.mem_filter.mpr ⟨List.mem_of_getElem? (i := 1353) (by decide +kernel), by decide +kernel⟩) (List.mem_filter.mpr ⟨List.mem_of_getElem? (i := 1355) (by decide +kernel), by decide +kernel⟩) (List.mem_filter.mpr ⟨List.mem_of_getElem? (i := 82) (by decide +kernel), by decide +kernel⟩) (List.mem_filter.mpr ⟨List.mem_of_getElem? (i := 99) (by decide +kernel), by decide +kernel⟩) (List.mem_filter.mpr ⟨List.mem_of_getElem? (i := 1356) (by decide +kernel), by decide +kernel⟩), rfl, by decide, by decide, by decide +kernel⟩
theorem kw_header : GoodIn wsA (wsV RREF 204 RREF y_header (.code y_header cb_header 4 (some .int) :: wsA)) ∧ y_header.cls = RREF ∧ y_header.cls ≠ "java/lang/invoke/MethodHandle" ∧ y_header.cls ≠ "java/lang/invoke/VarHandle" ∧ (parseMethodDescriptor y_header.desc).map (fun d => d.parameters.length) = some 0 := ⟨gV (List.mem_filter.mpr ⟨List.mem_of_getElem? (i := 1245) (by decide +kernel), by decide +kernel⟩) (List.mem_filter.mpr ⟨List.mem_of_getElem? (i := 1247) (by decide +kernel), by decide +kernel⟩) (List.mem_filter.mpr ⟨List.mem_of_getElem? (i := 55) (by decide +kernel), by decide +kernel⟩) (List.mem_filter.mpr ⟨List.mem_of_getElem? (i := 99) (by decide +kernel), by decide +kernel⟩) (List.mem_filter.mpr ⟨List.mem_of_getElem? (i := 1248) (by decide +kernel), by decide +kernel⟩), rfl, by decide, by decide, by decide +kernel⟩
theorem kw_line : GoodIn wsA (wsV RREF 213 RREF y_line (.code y_line cb_line 4 (some .int) :: wsA)) ∧ y_line.cls = RREF ∧ y_line.cls ≠ "java/lang/invoke/MethodHandle" ∧ y_line.cls ≠ "java/lang/invoke/VarHandle" ∧ (parseMethodDescriptor y_line.desc).map (fun d => d.parameters.length) = some 1 := ⟨gV (List.mem_filter.mpr ⟨List.mem_of_getElem? (i := 1233) (by decide +kernel), by decide +kernel⟩) (List.mem_filter.mpr ⟨List.mem_of_getElem? (i := 1235) (by decide +kernel), by decide +kernel⟩) (List.mem_filter.mpr ⟨List.mem_of_getElem? (i := 52) (by decide +kernel), by decide +kernel⟩) (List.mem_filter.mpr ⟨List.mem_of_getElem? (i := 99) (by decide +kernel), by decide +kernel⟩) (List.mem_filter.mpr ⟨List.mem_of_getElem? (i := 1236) (by decide +kernel), by decide +kernel⟩), rfl, by decide, by decide, by decide +kernel⟩
theorem kw_put : GoodIn wsA (wsV RREF 222 RREF y_put (.code y_put cb_put 2 none :: wsA)) ∧ y_put.cls = RREF ∧ y_put.cls ≠ "java/lang/invoke/MethodHandle" ∧ y_put.cls ≠ "java/lang/invoke/VarHandle" ∧ (parseMethodDescriptor y_put.desc).map (fun d => d.parameters.length) = some 1 := ⟨gV (List.mem_filter.mpr ⟨List.mem_of_getElem? (i := 1385) (by decide +kernel), by decide +kernel⟩) (List.mem_filter.mpr ⟨List.mem_of_getElem? (i := 1387) (by decide +kernel), by decide +kernel⟩) (List.mem_filter.mpr ⟨List.mem_of_getElem? (i := 89) (by decide +kernel), by decide +kernel⟩) (List.mem_filter.mpr ⟨List.mem_of_getElem? (i := 99) (by decide +kernel), by decide +kernel⟩) (List.mem_filter.mpr ⟨List.mem_of_getElem? (i := 1388) (by decide +kernel), by decide +kernel⟩), rfl, by decide, by decide, by decide +kernel⟩
theorem kw_putNumber : GoodIn wsA (wsV RREF 230 RREF y_putNumber (.code y_putNumber cb_putNumber 5 none :: wsA)) ∧ y_putNumber.cls = RREF ∧ y_putNumber.cls ≠ "java/lang/invoke/MethodHandle" ∧ y_putNumber.cls ≠ "java/lang/invoke/VarHandle" ∧ (parseMethodDescriptor y_putNumber.desc).map (fun d => d.parameters.length) = some 2 := ⟨gV (List.mem_filter.mpr ⟨List.mem_of_getElem? (i := 1397) (by decide +kernel), by decide +kernel⟩) (List.mem_filter.mpr ⟨List.mem_of_getElem? (i := 1399) (by decide +kernel), by decide +kernel⟩) (List.mem_filter.mpr ⟨List.mem_of_getElem? (i := 92) (by decide +kernel), by decide +kernel⟩) (List.mem_filter.mpr ⟨List.mem_of_getElem? (i := 99) (by decide +kernel), by decide +kernel⟩) (List.mem_filter.mpr ⟨List.mem_of_getElem? (i := 1400) (by decide +kernel), by decide +kernel⟩), rfl, by decide, by decide, by decide +kernel⟩
theorem kw_putQuoted : GoodIn wsA (wsV RREF 226 RREF y_putQuoted (.code y_putQuoted cb_putQuoted 5 none :: wsA)) ∧ y_putQuoted.cls = RREF ∧ y_putQuoted.cls ≠ "java/lang/invoke/MethodHandle" ∧ y_putQuoted.cls ≠ "java/lang/invoke/VarHandle" ∧ (parseMethodDescriptor y_putQuoted.desc).map (fun d => d.parameters.length) = some 2 := ⟨gV (List.mem_filter.mpr ⟨List.mem_of_getElem? (i := 1381) (by decide +kernel), by decide +kernel⟩) (List.mem_filter.mpr ⟨List.mem_of_getElem? (i := 1383) (by decide +kernel), by decide +kernel⟩) (List.mem_filter.mpr ⟨List.mem_of_getElem? (i := 88) (by decide +kernel), by decide +kernel⟩) (List.mem_filter.mpr ⟨List.mem_of_getElem? (i := 99) (by decide +kernel), by decide +kernel⟩) (List.mem_filter.mpr ⟨List.mem_of_getElem? (i := 1384) (by decide +kernel), by decide +kernel⟩), rfl, by decide, by decide, by decide +kernel⟩
theorem kw_putKey : GoodIn wsA (wsV RREF 242 RREF y_putKey (.code y_putKey cb_putKey 4 none :: wsA)) ∧ y_putKey.cls = RREF ∧ y_putKey.cls ≠ "java/lang/invoke/MethodHandle" ∧ y_putKey.cls ≠ "java/lang/invoke/VarHandle" ∧ (parseMethodDescriptor y_putKey.desc).map (fun d => d.parameters.length) = some 1 := ⟨gV (List.mem_filter.mpr ⟨List.mem_of_getElem? (i := 1377) (by decide +kernel), by decide +kernel⟩) (List.mem_filter.mpr ⟨List.mem_of_getElem? (i := 1379) (by decide +kernel), by decide +kernel⟩) (List.mem_filter.mpr ⟨List.mem_of_getElem? (i := 87) (by decide +kernel), by decide +kernel⟩) (List.mem_filter.mpr ⟨List.mem_of_getElem? (i := 99) (by decide +kernel), by decide +kernel⟩) (List.mem_filter.mpr ⟨List.mem_of_getElem? (i := 1380) (by decide +kernel), by decide +kernel⟩), rfl, by decide, by decide, by decide +kernel⟩
theorem kw_putHead : GoodIn wsA (wsV RREF 233 RREF y_putHead (.code y_putHead cb_putHead 4 none :: wsA)) ∧ y_putHead.cls = RREF ∧ y_putHead.cls ≠ "java/lang/invoke/MethodHandle" ∧ y_putHead.cls ≠ "java/lang/invoke/VarHandle" ∧ (parseMethodDescriptor y_putHead.desc).map (fun d => d.parameters.length) = some 1 := ⟨gV (List.mem_filter.mpr ⟨List.mem_of_getElem? (i := 1393) (by decide +kernel), by decide +kernel⟩) (List.mem_filter.mpr ⟨List.mem_of_getElem? (i := 1395) (by decide +kernel), by decide +kernel⟩) (List.mem_filter.mpr ⟨List.mem_of_getElem? (i := 91) (by decide +kernel), by decide +kernel⟩) (List.mem_filter.mpr ⟨List.mem_of_getElem? (i := 99) (by decide +kernel), by decide +kernel⟩) (List.mem_filter.mpr ⟨List.mem_of_getElem? (i := 1396) (by decide +kernel), by decide +kernel⟩), rfl, by decide, by decide, by decide +kernel⟩
theorem kw_holds : GoodIn wsA (wsV RREF 236 RREF y_holds (.code y_holds cb_holds 2 (some .boolean) :: wsA)) ∧ y_holds.cls = RREF ∧ y_holds.cls ≠ "java/lang/invoke/MethodHandle" ∧ y_holds.cls ≠ "java/lang/invoke/VarHandle" ∧ (parseMethodDescriptor y_holds.desc).map (fun d => d.parameters.length) = some 1 := ⟨gV (List.mem_filter.mpr ⟨List.mem_of_getElem? (i := 1401) (by decide +kernel), by decide +kernel⟩) (List.mem_filter.mpr ⟨List.mem_of_getElem? (i := 1403) (by decide +kernel), by decide +kernel⟩) (List.mem_filter.mpr ⟨List.mem_of_getElem? (i := 93) (by decide +kernel), by decide +kernel⟩) (List.mem_filter.mpr ⟨List.mem_of_getElem? (i := 99) (by decide +kernel), by decide +kernel⟩) (List.mem_filter.mpr ⟨List.mem_of_getElem? (i := 1404) (by decide +kernel), by decide +kernel⟩), rfl, by decide, by decide, by decide +kernel⟩
theorem kw_putValue : GoodIn wsA (wsV RREF 245 RREF y_putValue (.code y_putValue cb_putValue 5 none :: wsA)) ∧ y_putValue.cls = RREF ∧ y_putValue.cls ≠ "java/lang/invoke/MethodHandle" ∧ y_putValue.cls ≠ "java/lang/invoke/VarHandle" ∧ (parseMethodDescriptor y_putValue.desc).map (fun d => d.parameters.length) = some 1 := ⟨gV (List.mem_filter.mpr ⟨List.mem_of_getElem? (i := 1389) (by decide +kernel), by decide +kernel⟩) (List.mem_filter.mpr ⟨List.mem_of_getElem? (i := 1391) (by decide +kernel), by decide +kernel⟩) (List.mem_filter.mpr ⟨List.mem_of_getElem? (i := 90) (by decide +kernel), by decide +kernel⟩) (List.mem_filter.mpr ⟨List.mem_of_getElem? (i := 99) (by decide +kernel), by decide +kernel⟩) (List.mem_filter.mpr ⟨List.mem_of_getElem? (i := 1392) (by decide +kernel), by decide +kernel⟩), rfl, by decide, by decide, by decide +kernel⟩
theorem kw_putEntry : GoodIn wsA (wsV RREF 239 RREF y_putEntry (.code y_putEntry cb_putEntry 2 none :: wsA)) ∧ y_putEntry.cls = RREF ∧ y_putEntry.cls ≠ "java/lang/invoke/MethodHandle" ∧ y_putEntry.cls ≠ "java/lang/invoke/VarHandle" ∧ (parseMethodDescriptor y_putEntry.desc).map (fun d => d.parameters.length) = some 1 := ⟨gV (List.mem_filter.mpr ⟨List.mem_of_getElem? (i := 1405) (by decide +kernel), by decide +kernel⟩) (List.mem_filter.mpr ⟨List.mem_of_getElem? (i := 1407) (by decide +kernel), by decide +kernel⟩) (List.mem_filter.mpr ⟨List.mem_of_getElem? (i := 94) (by decide +kernel), by decide +kernel⟩) (List.mem_filter.mpr ⟨List.mem_of_getElem? (i := 99) (by decide +kernel), by decide +kernel⟩) (List.mem_filter.mpr ⟨List.mem_of_getElem? (i := 1408) (by decide +kernel), by decide +kernel⟩), rfl, by decide, by decide, by decide +kernel⟩
end
section
theorem d_thrown_0 : decode cb_thrown 0 = .ok (.aload_n 0, 1) := by decide +kernel
theorem d_thrown_1 : decode cb_thrown 1 = .ok (.getfield 67, 3) := by decide +kernel
theorem d_thrown_4 : decode cb_thrown 4 = .ok (.ireturn, 1) := by decide +kernel
theorem d_type_0 : decode cb_type 0 = .ok (.iload_n 3, 1) := by decide +kernel
theorem d_type_1 : decode cb_type 1 = .ok (.iconst 1, 1) := by decide +kernel
theorem d_type_2 : decode cb_type 2 = .ok (.if_icmp .lt 9, 3) := by decide +kernel
theorem d_type_5 : decode cb_type 5 = .ok (.iload_n 3, 1) := by decide +kernel
theorem d_type_6 : decode cb_type 6 = .ok (.bipush 8, 2) := by decide +kernel
theorem d_type_8 : decode cb_type 8 = .ok (.if_icmp .le 7, 3) := by decide +kernel
theorem d_type_11 : decode cb_type 11 = .ok (.iconst 1, 1) := by decide +kernel
theorem d_type_12 : decode cb_type 12 = .ok (.goto 4, 3) := by decide +kernel
theorem d_type_15 : decode cb_type 15 = .ok (.iconst 0, 1) := by decide +kernel
theorem d_type_16 : decode cb_type 16 = .ok (.istore 4, 2) := by decide +kernel
theorem d_type_18 : decode cb_type 18 = .ok (.iconst 0, 1) := by decide +kernel
theorem d_type_19 : decode cb_type 19 = .ok (.istore 5, 2) := by decide +kernel
theorem d_type_21 : decode cb_type 21 = .ok (.iload 5, 2) := by decide +kernel
theorem d_type_23 : decode cb_type 23 = .ok (.iload_n 3, 1) := by decide +kernel
theorem d_type_24 : decode cb_type 24 = .ok (.if_icmp .ge 56, 3) := by decide +kernel
theorem d_type_27 : decode cb_type 27 = .ok (.iload 4, 2) := by decide +kernel
theorem d_type_29 : decode cb_type 29 = .ok (.ifCond .ne 51, 3) := by decide +kernel
theorem d_type_32 : decode cb_type 32 = .ok (.lload_n 1, 1) := by decide +kernel
theorem d_type_33 : decode cb_type 33 = .ok (.bipush 8, 2) := by decide +kernel
theorem d_type_35 : decode cb_type 35 = .ok (.iload 5, 2) := by decide +kernel
theorem d_type_37 : decode cb_type 37 = .ok (.imul, 1) := by decide +kernel
theorem d_type_38 : decode cb_type 38 = .ok (.lshr, 1) := by decide +kernel
theorem d_type_39 : decode cb_type 39 = .ok (.ldc2_w 71, 3) := by decide +kernel
theorem d_type_42 : decode cb_type 42 = .ok (.land, 1) := by decide +kernel
theorem d_type_43 : decode cb_type 43 = .ok (.l2i, 1) := by decide +kernel
theorem d_type_44 : decode cb_type 44 = .ok (.istore 6, 2) := by decide +kernel
theorem d_type_46 : decode cb_type 46 = .ok (.iload 6, 2) := by decide +kernel
theorem d_type_48 : decode cb_type 48 = .ok (.bipush 10, 2) := by decide +kernel
theorem d_type_50 : decode cb_type 50 = .ok (.if_icmp .eq 21, 3) := by decide +kernel
theorem d_type_53 : decode cb_type 53 = .ok (.iload 6, 2) := by decide +kernel
theorem d_type_55 : decode cb_type 55 = .ok (.bipush 32, 2) := by decide +kernel
theorem d_type_57 : decode cb_type 57 = .ok (.if_icmp .lt 10, 3) := by decide +kernel
theorem d_type_60 : decode cb_type 60 = .ok (.iload 6, 2) := by decide +kernel
theorem d_type_62 : decode cb_type 62 = .ok (.bipush 126, 2) := by decide +kernel
theorem d_type_64 : decode cb_type 64 = .ok (.if_icmp .le 7, 3) := by decide +kernel
theorem d_type_67 : decode cb_type 67 = .ok (.iconst 1, 1) := by decide +kernel
theorem d_type_68 : decode cb_type 68 = .ok (.goto 4, 3) := by decide +kernel
theorem d_type_71 : decode cb_type 71 = .ok (.iconst 0, 1) := by decide +kernel
theorem d_type_72 : decode cb_type 72 = .ok (.istore 4, 2) := by decide +kernel
theorem d_type_74 : decode cb_type 74 = .ok (.iinc 5 1, 3) := by decide +kernel
theorem d_type_77 : decode cb_type 77 = .ok (.goto (-56), 3) := by decide +kernel
theorem d_type_80 : decode cb_type 80 = .ok (.aload_n 0, 1) := by decide +kernel
theorem d_type_81 : decode cb_type 81 = .ok (.iload 4, 2) := by decide +kernel
theorem d_type_83 : decode cb_type 83 = .ok (.ifCond .eq 7, 3) := by decide +kernel
theorem d_type_86 : decode cb_type 86 = .ok (.iconst 1, 1) := by decide +kernel
theorem d_type_87 : decode cb_type 87 = .ok (.goto 20, 3) := by decide +kernel
theorem d_type_90 : decode cb_type 90 = .ok (.aload_n 0, 1) := by decide +kernel
theorem d_type_91 : decode cb_type 91 = .ok (.getfield 73, 3) := by decide +kernel
theorem d_type_94 : decode cb_type 94 = .ok (.iload_n 3, 1) := by decide +kernel
theorem d_type_95 : decode cb_type 95 = .ok (.iadd, 1) := by decide +kernel
theorem d_type_96 : decode cb_type 96 = .ok (.sipush 240, 3) := by decide +kernel
theorem d_type_99 : decode cb_type 99 = .ok (.if_icmp .le 7, 3) := by decide +kernel
theorem d_type_102 : decode cb_type 102 = .ok (.iconst 2, 1) := by decide +kernel
theorem d_type_103 : decode cb_type 103 = .ok (.goto 4, 3) := by decide +kernel
theorem d_type_106 : decode cb_type 106 = .ok (.iconst 0, 1) := by decide +kernel
theorem d_type_107 : decode cb_type 107 = .ok (.putfield 67, 3) := by decide +kernel
theorem d_type_110 : decode cb_type 110 = .ok (.aload_n 0, 1) := by decide +kernel
theorem d_type_111 : decode cb_type 111 = .ok (.getfield 67, 3) := by decide +kernel
theorem d_type_114 : decode cb_type 114 = .ok (.ifCond .eq 5, 3) := by decide +kernel
theorem d_type_117 : decode cb_type 117 = .ok (.iconst 0, 1) := by decide +kernel
theorem d_type_118 : decode cb_type 118 = .ok (.ireturn, 1) := by decide +kernel
theorem d_type_119 : decode cb_type 119 = .ok (.iload_n 3, 1) := by decide +kernel
theorem d_type_120 : decode cb_type 120 = .ok (.iconst 1, 1) := by decide +kernel
theorem d_type_121 : decode cb_type 121 = .ok (.isub, 1) := by decide +kernel
theorem d_type_122 : decode cb_type 122 = .ok (.istore 5, 2) := by decide +kernel
theorem d_type_124 : decode cb_type 124 = .ok (.iload 5, 2) := by decide +kernel
theorem d_type_126 : decode cb_type 126 = .ok (.ifCond .lt 40, 3) := by decide +kernel
theorem d_type_129 : decode cb_type 129 = .ok (.aload_n 0, 1) := by decide +kernel
theorem d_type_130 : decode cb_type 130 = .ok (.getfield 7, 3) := by decide +kernel
theorem d_type_133 : decode cb_type 133 = .ok (.aload_n 0, 1) := by decide +kernel
theorem d_type_134 : decode cb_type 134 = .ok (.getfield 73, 3) := by decide +kernel
theorem d_type_137 : decode cb_type 137 = .ok (.lload_n 1, 1) := by decide +kernel
theorem d_type_138 : decode cb_type 138 = .ok (.bipush 8, 2) := by decide +kernel
theorem d_type_140 : decode cb_type 140 = .ok (.iload 5, 2) := by decide +kernel
theorem d_type_142 : decode cb_type 142 = .ok (.imul, 1) := by decide +kernel
theorem d_type_143 : decode cb_type 143 = .ok (.lshr, 1) := by decide +kernel
theorem d_type_144 : decode cb_type 144 = .ok (.ldc2_w 71, 3) := by decide +kernel
theorem d_type_147 : decode cb_type 147 = .ok (.land, 1) := by decide +kernel
theorem d_type_148 : decode cb_type 148 = .ok (.l2i, 1) := by decide +kernel
theorem d_type_149 : decode cb_type 149 = .ok (.iastore, 1) := by decide +kernel
theorem d_type_150 : decode cb_type 150 = .ok (.aload_n 0, 1) := by decide +kernel
theorem d_type_151 : decode cb_type 151 = .ok (.dup, 1) := by decide +kernel
theorem d_type_152 : decode cb_type 152 = .ok (.getfield 73, 3) := by decide +kernel
theorem d_type_155 : decode cb_type 155 = .ok (.iconst 1, 1) := by decide +kernel
theorem d_type_156 : decode cb_type 156 = .ok (.iadd, 1) := by decide +kernel
theorem d_type_157 : decode cb_type 157 = .ok (.putfield 73, 3) := by decide +kernel
theorem d_type_160 : decode cb_type 160 = .ok (.iinc 5 (-1), 3) := by decide +kernel
theorem d_type_163 : decode cb_type 163 = .ok (.goto (-39), 3) := by decide +kernel
theorem d_type_166 : decode cb_type 166 = .ok (.aload_n 0, 1) := by decide +kernel
theorem d_type_167 : decode cb_type 167 = .ok (.getfield 73, 3) := by decide +kernel
theorem d_type_170 : decode cb_type 170 = .ok (.ireturn, 1) := by decide +kernel
theorem d_here_0 : decode cb_here 0 = .ok (.aload_n 0, 1) := by decide +kernel
theorem d_here_1 : decode cb_here 1 = .ok (.getfield 76, 3) := by decide +kernel
theorem d_here_4 : decode cb_here 4 = .ok (.aload_n 0, 1) := by decide +kernel
theorem d_here_5 : decode cb_here 5 = .ok (.getfield 73, 3) := by decide +kernel
theorem d_here_8 : decode cb_here 8 = .ok (.if_icmp .ge 15, 3) := by decide +kernel
theorem d_here_11 : decode cb_here 11 = .ok (.aload_n 0, 1) := by decide +kernel
theorem d_here_12 : decode cb_here 12 = .ok (.getfield 7, 3) := by decide +kernel
theorem d_here_15 : decode cb_here 15 = .ok (.aload_n 0, 1) := by decide +kernel
theorem d_here_16 : decode cb_here 16 = .ok (.getfield 76, 3) := by decide +kernel
theorem d_here_19 : decode cb_here 19 = .ok (.iaload, 1) := by decide +kernel
theorem d_here_20 : decode cb_here 20 = .ok (.goto 4, 3) := by decide +kernel
theorem d_here_23 : decode cb_here 23 = .ok (.iconst 0, 1) := by decide +kernel
theorem d_here_24 : decode cb_here 24 = .ok (.ireturn, 1) := by decide +kernel
theorem d_fail_0 : decode cb_fail 0 = .ok (.aload_n 0, 1) := by decide +kernel
theorem d_fail_1 : decode cb_fail 1 = .ok (.iload_n 1, 1) := by decide +kernel
theorem d_fail_2 : decode cb_fail 2 = .ok (.putfield 79, 3) := by decide +kernel
theorem d_fail_5 : decode cb_fail 5 = .ok (.iconst 0, 1) := by decide +kernel
theorem d_fail_6 : decode cb_fail 6 = .ok (.ireturn, 1) := by decide +kernel
theorem d_blanks_0 : decode cb_blanks 0 = .ok (.aload_n 0, 1) := by decide +kernel
theorem d_blanks_1 : decode cb_blanks 1 = .ok (.invokevirtual 82, 3) := by decide +kernel
theorem d_blanks_4 : decode cb_blanks 4 = .ok (.bipush 32, 2) := by decide +kernel
theorem d_blanks_6 : decode cb_blanks 6 = .ok (.if_icmp .ne 16, 3) := by decide +kernel
theorem d_blanks_9 : decode cb_blanks 9 = .ok (.aload_n 0, 1) := by decide +kernel
theorem d_blanks_10 : decode cb_blanks 10 = .ok (.dup, 1) := by decide +kernel
theorem d_blanks_11 : decode cb_blanks 11 = .ok (.getfield 76, 3) := by decide +kernel
theorem d_blanks_14 : decode cb_blanks 14 = .ok (.iconst 1, 1) := by decide +kernel
theorem d_blanks_15 : decode cb_blanks 15 = .ok (.iadd, 1) := by decide +kernel
theorem d_blanks_16 : decode cb_blanks 16 = .ok (.putfield 76, 3) := by decide +kernel
theorem d_blanks_19 : decode cb_blanks 19 = .ok (.goto (-19), 3) := by decide +kernel
theorem d_blanks_22 : decode cb_blanks 22 = .ok (.return_, 1) := by decide +kernel
theorem d_comment_0 : decode cb_comment 0 = .ok (.aload_n 0, 1) := by decide +kernel
theorem d_comment_1 : decode cb_comment 1 = .ok (.invokevirtual 82, 3) := by decide +kernel
theorem d_comment_4 : decode cb_comment 4 = .ok (.bipush 10, 2) := by decide +kernel
theorem d_comment_6 : decode cb_comment 6 = .ok (.if_icmp .eq 27, 3) := by decide +kernel
theorem d_comment_9 : decode cb_comment 9 = .ok (.aload_n 0, 1) := by decide +kernel
theorem d_comment_10 : decode cb_comment 10 = .ok (.getfield 76, 3) := by decide +kernel
theorem d_comment_13 : decode cb_comment 13 = .ok (.aload_n 0, 1) := by decide +kernel
theorem d_comment_14 : decode cb_comment 14 = .ok (.getfield 73, 3) := by decide +kernel
theorem d_comment_17 : decode cb_comment 17 = .ok (.if_icmp .ge 16, 3) := by decide +kernel
theorem d_comment_20 : decode cb_comment 20 = .ok (.aload_n 0, 1) := by decide +kernel
theorem d_comment_21 : decode cb_comment 21 = .ok (.dup, 1) := by decide +kernel
theorem d_comment_22 : decode cb_comment 22 = .ok (.getfield 76, 3) := by decide +kernel
theorem d_comment_25 : decode cb_comment 25 = .ok (.iconst 1, 1) := by decide +kernel
theorem d_comment_26 : decode cb_comment 26 = .ok (.iadd, 1) := by decide +kernel
theorem d_comment_27 : decode cb_comment 27 = .ok (.putfield 76, 3) := by decide +kernel
theorem d_comment_30 : decode cb_comment 30 = .ok (.goto (-30), 3) := by decide +kernel
theorem d_comment_33 : decode cb_comment 33 = .ok (.return_, 1) := by decide +kernel
theorem d_room_0 : decode cb_room 0 = .ok (.aload_n 0, 1) := by decide +kernel
theorem d_room_1 : decode cb_room 1 = .ok (.invokevirtual 82, 3) := by decide +kernel
theorem d_room_4 : decode cb_room 4 = .ok (.bipush 32, 2) := by decide +kernel
theorem d_room_6 : decode cb_room 6 = .ok (.if_icmp .eq 21, 3) := by decide +kernel
theorem d_room_9 : decode cb_room 9 = .ok (.aload_n 0, 1) := by decide +kernel
theorem d_room_10 : decode cb_room 10 = .ok (.invokevirtual 82, 3) := by decide +kernel
theorem d_room_13 : decode cb_room 13 = .ok (.bipush 10, 2) := by decide +kernel
theorem d_room_15 : decode cb_room 15 = .ok (.if_icmp .eq 12, 3) := by decide +kernel
theorem d_room_18 : decode cb_room 18 = .ok (.aload_n 0, 1) := by decide +kernel
theorem d_room_19 : decode cb_room 19 = .ok (.invokevirtual 82, 3) := by decide +kernel
theorem d_room_22 : decode cb_room 22 = .ok (.bipush 35, 2) := by decide +kernel
theorem d_room_24 : decode cb_room 24 = .ok (.if_icmp .ne 32, 3) := by decide +kernel
theorem d_room_27 : decode cb_room 27 = .ok (.aload_n 0, 1) := by decide +kernel
theorem d_room_28 : decode cb_room 28 = .ok (.invokevirtual 82, 3) := by decide +kernel
theorem d_room_31 : decode cb_room 31 = .ok (.bipush 35, 2) := by decide +kernel
theorem d_room_33 : decode cb_room 33 = .ok (.if_icmp .ne 10, 3) := by decide +kernel
theorem d_room_36 : decode cb_room 36 = .ok (.aload_n 0, 1) := by decide +kernel
theorem d_room_37 : decode cb_room 37 = .ok (.invokevirtual 86, 3) := by decide +kernel
theorem d_room_40 : decode cb_room 40 = .ok (.goto (-40), 3) := by decide +kernel
theorem d_room_43 : decode cb_room 43 = .ok (.aload_n 0, 1) := by decide +kernel
theorem d_room_44 : decode cb_room 44 = .ok (.dup, 1) := by decide +kernel
theorem d_room_45 : decode cb_room 45 = .ok (.getfield 76, 3) := by decide +kernel
theorem d_room_48 : decode cb_room 48 = .ok (.iconst 1, 1) := by decide +kernel
theorem d_room_49 : decode cb_room 49 = .ok (.iadd, 1) := by decide +kernel
theorem d_room_50 : decode cb_room 50 = .ok (.putfield 76, 3) := by decide +kernel
theorem d_room_53 : decode cb_room 53 = .ok (.goto (-53), 3) := by decide +kernel
theorem d_room_56 : decode cb_room 56 = .ok (.return_, 1) := by decide +kernel
theorem d_isDigit_0 : decode cb_isDigit 0 = .ok (.iload_n 1, 1) := by decide +kernel
theorem d_isDigit_1 : decode cb_isDigit 1 = .ok (.bipush 48, 2) := by decide +kernel
theorem d_isDigit_3 : decode cb_isDigit 3 = .ok (.if_icmp .lt 13, 3) := by decide +kernel
theorem d_isDigit_6 : decode cb_isDigit 6 = .ok (.iload_n 1, 1) := by decide +kernel
theorem d_isDigit_7 : decode cb_isDigit 7 = .ok (.bipush 57, 2) := by decide +kernel
theorem d_isDigit_9 : decode cb_isDigit 9 = .ok (.if_icmp .gt 7, 3) := by decide +kernel
theorem d_isDigit_12 : decode cb_isDigit 12 = .ok (.iconst 1, 1) := by decide +kernel
theorem d_isDigit_13 : decode cb_isDigit 13 = .ok (.goto 4, 3) := by decide +kernel
theorem d_isDigit_16 : decode cb_isDigit 16 = .ok (.iconst 0, 1) := by decide +kernel
theorem d_isDigit_17 : decode cb_isDigit 17 = .ok (.ireturn, 1) := by decide +kernel
theorem d_isBare_0 : decode cb_isBare 0 = .ok (.iload_n 1, 1) := by decide +kernel
theorem d_isBare_1 : decode cb_isBare 1 = .ok (.bipush 97, 2) := by decide +kernel
theorem d_isBare_3 : decode cb_isBare 3 = .ok (.if_icmp .lt 9, 3) := by decide +kernel
theorem d_isBare_6 : decode cb_isBare 6 = .ok (.iload_n 1, 1) := by decide +kernel
theorem d_isBare_7 : decode cb_isBare 7 = .ok (.bipush 122, 2) := by decide +kernel
theorem d_isBare_9 : decode cb_isBare 9 = .ok (.if_icmp .le 35, 3) := by decide +kernel
theorem d_isBare_12 : decode cb_isBare 12 = .ok (.iload_n 1, 1) := by decide +kernel
theorem d_isBare_13 : decode cb_isBare 13 = .ok (.bipush 65, 2) := by decide +kernel
theorem d_isBare_15 : decode cb_isBare 15 = .ok (.if_icmp .lt 9, 3) := by decide +kernel
theorem d_isBare_18 : decode cb_isBare 18 = .ok (.iload_n 1, 1) := by decide +kernel
theorem d_isBare_19 : decode cb_isBare 19 = .ok (.bipush 90, 2) := by decide +kernel
theorem d_isBare_21 : decode cb_isBare 21 = .ok (.if_icmp .le 23, 3) := by decide +kernel
theorem d_isBare_24 : decode cb_isBare 24 = .ok (.aload_n 0, 1) := by decide +kernel
theorem d_isBare_25 : decode cb_isBare 25 = .ok (.iload_n 1, 1) := by decide +kernel
theorem d_isBare_26 : decode cb_isBare 26 = .ok (.invokevirtual 89, 3) := by decide +kernel
theorem d_isBare_29 : decode cb_isBare 29 = .ok (.ifCond .ne 15, 3) := by decide +kernel
theorem d_isBare_32 : decode cb_isBare 32 = .ok (.iload_n 1, 1) := by decide +kernel
theorem d_isBare_33 : decode cb_isBare 33 = .ok (.bipush 95, 2) := by decide +kernel
theorem d_isBare_35 : decode cb_isBare 35 = .ok (.if_icmp .eq 9, 3) := by decide +kernel
theorem d_isBare_38 : decode cb_isBare 38 = .ok (.iload_n 1, 1) := by decide +kernel
theorem d_isBare_39 : decode cb_isBare 39 = .ok (.bipush 45, 2) := by decide +kernel
theorem d_isBare_41 : decode cb_isBare 41 = .ok (.if_icmp .ne 7, 3) := by decide +kernel
theorem d_isBare_44 : decode cb_isBare 44 = .ok (.iconst 1, 1) := by decide +kernel
theorem d_isBare_45 : decode cb_isBare 45 = .ok (.goto 4, 3) := by decide +kernel
theorem d_isBare_48 : decode cb_isBare 48 = .ok (.iconst 0, 1) := by decide +kernel
theorem d_isBare_49 : decode cb_isBare 49 = .ok (.ireturn, 1) := by decide +kernel
theorem d_begin_0 : decode cb_begin 0 = .ok (.aload_n 0, 1) := by decide +kernel
theorem d_begin_1 : decode cb_begin 1 = .ok (.sipush 300, 3) := by decide +kernel
theorem d_begin_4 : decode cb_begin 4 = .ok (.aload_n 0, 1) := by decide +kernel
theorem d_begin_5 : decode cb_begin 5 = .ok (.getfield 93, 3) := by decide +kernel
theorem d_begin_8 : decode cb_begin 8 = .ok (.imul, 1) := by decide +kernel
theorem d_begin_9 : decode cb_begin 9 = .ok (.aload_n 0, 1) := by decide +kernel
theorem d_begin_10 : decode cb_begin 10 = .ok (.getfield 43, 3) := by decide +kernel
theorem d_begin_13 : decode cb_begin 13 = .ok (.aload_n 0, 1) := by decide +kernel
theorem d_begin_14 : decode cb_begin 14 = .ok (.getfield 93, 3) := by decide +kernel
theorem d_begin_17 : decode cb_begin 17 = .ok (.iaload, 1) := by decide +kernel
theorem d_begin_18 : decode cb_begin 18 = .ok (.iadd, 1) := by decide +kernel
theorem d_begin_19 : decode cb_begin 19 = .ok (.putfield 96, 3) := by decide +kernel
theorem d_begin_22 : decode cb_begin 22 = .ok (.aload_n 0, 1) := by decide +kernel
theorem d_begin_23 : decode cb_begin 23 = .ok (.iconst 0, 1) := by decide +kernel
theorem d_begin_24 : decode cb_begin 24 = .ok (.putfield 99, 3) := by decide +kernel
theorem d_begin_27 : decode cb_begin 27 = .ok (.return_, 1) := by decide +kernel
theorem d_add_0 : decode cb_add 0 = .ok (.aload_n 0, 1) := by decide +kernel
theorem d_add_1 : decode cb_add 1 = .ok (.getfield 99, 3) := by decide +kernel
theorem d_add_4 : decode cb_add 4 = .ok (.bipush 30, 2) := by decide +kernel
theorem d_add_6 : decode cb_add 6 = .ok (.if_icmp .ne 9, 3) := by decide +kernel
theorem d_add_9 : decode cb_add 9 = .ok (.aload_n 0, 1) := by decide +kernel
theorem d_add_10 : decode cb_add 10 = .ok (.iload_n 2, 1) := by decide +kernel
theorem d_add_11 : decode cb_add 11 = .ok (.invokevirtual 102, 3) := by decide +kernel
theorem d_add_14 : decode cb_add 14 = .ok (.ireturn, 1) := by decide +kernel
theorem d_add_15 : decode cb_add 15 = .ok (.aload_n 0, 1) := by decide +kernel
theorem d_add_16 : decode cb_add 16 = .ok (.getfield 46, 3) := by decide +kernel
theorem d_add_19 : decode cb_add 19 = .ok (.aload_n 0, 1) := by decide +kernel
theorem d_add_20 : decode cb_add 20 = .ok (.getfield 96, 3) := by decide +kernel
theorem d_add_23 : decode cb_add 23 = .ok (.aload_n 0, 1) := by decide +kernel
theorem d_add_24 : decode cb_add 24 = .ok (.getfield 99, 3) := by decide +kernel
theorem d_add_27 : decode cb_add 27 = .ok (.iadd, 1) := by decide +kernel
theorem d_add_28 : decode cb_add 28 = .ok (.iload_n 1, 1) := by decide +kernel
theorem d_add_29 : decode cb_add 29 = .ok (.iastore, 1) := by decide +kernel
theorem d_add_30 : decode cb_add 30 = .ok (.aload_n 0, 1) := by decide +kernel
theorem d_add_31 : decode cb_add 31 = .ok (.dup, 1) := by decide +kernel
theorem d_add_32 : decode cb_add 32 = .ok (.getfield 99, 3) := by decide +kernel
theorem d_add_35 : decode cb_add 35 = .ok (.iconst 1, 1) := by decide +kernel
theorem d_add_36 : decode cb_add 36 = .ok (.iadd, 1) := by decide +kernel
theorem d_add_37 : decode cb_add 37 = .ok (.putfield 99, 3) := by decide +kernel
theorem d_add_40 : decode cb_add 40 = .ok (.aload_n 0, 1) := by decide +kernel
theorem d_add_41 : decode cb_add 41 = .ok (.getfield 43, 3) := by decide +kernel
theorem d_add_44 : decode cb_add 44 = .ok (.aload_n 0, 1) := by decide +kernel
theorem d_add_45 : decode cb_add 45 = .ok (.getfield 93, 3) := by decide +kernel
theorem d_add_48 : decode cb_add 48 = .ok (.dup2, 1) := by decide +kernel
theorem d_add_49 : decode cb_add 49 = .ok (.iaload, 1) := by decide +kernel
theorem d_add_50 : decode cb_add 50 = .ok (.iconst 1, 1) := by decide +kernel
theorem d_add_51 : decode cb_add 51 = .ok (.iadd, 1) := by decide +kernel
theorem d_add_52 : decode cb_add 52 = .ok (.iastore, 1) := by decide +kernel
theorem d_add_53 : decode cb_add 53 = .ok (.iconst 1, 1) := by decide +kernel
theorem d_add_54 : decode cb_add 54 = .ok (.ireturn, 1) := by decide +kernel
theorem d_behindBar_0 : decode cb_behindBar 0 = .ok (.iload_n 1, 1) := by decide +kernel
theorem d_behindBar_1 : decode cb_behindBar 1 = .ok (.bipush 34, 2) := by decide +kernel
theorem d_behindBar_3 : decode cb_behindBar 3 = .ok (.if_icmp .eq 9, 3) := by decide +kernel
theorem d_behindBar_6 : decode cb_behindBar 6 = .ok (.iload_n 1, 1) := by decide +kernel
theorem d_behindBar_7 : decode cb_behindBar 7 = .ok (.bipush 92, 2) := by decide +kernel
theorem d_behindBar_9 : decode cb_behindBar 9 = .ok (.if_icmp .ne 7, 3) := by decide +kernel
theorem d_behindBar_12 : decode cb_behindBar 12 = .ok (.iload_n 1, 1) := by decide +kernel
theorem d_behindBar_13 : decode cb_behindBar 13 = .ok (.goto 26, 3) := by decide +kernel
theorem d_behindBar_16 : decode cb_behindBar 16 = .ok (.iload_n 1, 1) := by decide +kernel
theorem d_behindBar_17 : decode cb_behindBar 17 = .ok (.bipush 110, 2) := by decide +kernel
theorem d_behindBar_19 : decode cb_behindBar 19 = .ok (.if_icmp .ne 8, 3) := by decide +kernel
theorem d_behindBar_22 : decode cb_behindBar 22 = .ok (.bipush 10, 2) := by decide +kernel
theorem d_behindBar_24 : decode cb_behindBar 24 = .ok (.goto 15, 3) := by decide +kernel
theorem d_behindBar_27 : decode cb_behindBar 27 = .ok (.iload_n 1, 1) := by decide +kernel
theorem d_behindBar_28 : decode cb_behindBar 28 = .ok (.bipush 116, 2) := by decide +kernel
theorem d_behindBar_30 : decode cb_behindBar 30 = .ok (.if_icmp .ne 8, 3) := by decide +kernel
theorem d_behindBar_33 : decode cb_behindBar 33 = .ok (.bipush 9, 2) := by decide +kernel
theorem d_behindBar_35 : decode cb_behindBar 35 = .ok (.goto 4, 3) := by decide +kernel
theorem d_behindBar_38 : decode cb_behindBar 38 = .ok (.iconst 0, 1) := by decide +kernel
theorem d_behindBar_39 : decode cb_behindBar 39 = .ok (.ireturn, 1) := by decide +kernel
theorem d_string_0 : decode cb_string 0 = .ok (.aload_n 0, 1) := by decide +kernel
theorem d_string_1 : decode cb_string 1 = .ok (.invokevirtual 82, 3) := by decide +kernel
theorem d_string_4 : decode cb_string 4 = .ok (.istore_n 1, 1) := by decide +kernel
theorem d_string_5 : decode cb_string 5 = .ok (.aload_n 0, 1) := by decide +kernel
theorem d_string_6 : decode cb_string 6 = .ok (.invokevirtual 105, 3) := by decide +kernel
theorem d_string_9 : decode cb_string 9 = .ok (.aload_n 0, 1) := by decide +kernel
theorem d_string_10 : decode cb_string 10 = .ok (.dup, 1) := by decide +kernel
theorem d_string_11 : decode cb_string 11 = .ok (.getfield 76, 3) := by decide +kernel
theorem d_string_14 : decode cb_string 14 = .ok (.iconst 1, 1) := by decide +kernel
theorem d_string_15 : decode cb_string 15 = .ok (.iadd, 1) := by decide +kernel
theorem d_string_16 : decode cb_string 16 = .ok (.putfield 76, 3) := by decide +kernel
theorem d_string_19 : decode cb_string 19 = .ok (.aload_n 0, 1) := by decide +kernel
theorem d_string_20 : decode cb_string 20 = .ok (.invokevirtual 82, 3) := by decide +kernel
theorem d_string_23 : decode cb_string 23 = .ok (.iload_n 1, 1) := by decide +kernel
theorem d_string_24 : decode cb_string 24 = .ok (.if_icmp .eq 125, 3) := by decide +kernel
theorem d_string_27 : decode cb_string 27 = .ok (.aload_n 0, 1) := by decide +kernel
theorem d_string_28 : decode cb_string 28 = .ok (.invokevirtual 82, 3) := by decide +kernel
theorem d_string_31 : decode cb_string 31 = .ok (.istore_n 2, 1) := by decide +kernel
theorem d_string_32 : decode cb_string 32 = .ok (.aload_n 0, 1) := by decide +kernel
theorem d_string_33 : decode cb_string 33 = .ok (.getfield 76, 3) := by decide +kernel
theorem d_string_36 : decode cb_string 36 = .ok (.istore_n 3, 1) := by decide +kernel
theorem d_string_37 : decode cb_string 37 = .ok (.aload_n 0, 1) := by decide +kernel
theorem d_string_38 : decode cb_string 38 = .ok (.getfield 76, 3) := by decide +kernel
theorem d_string_41 : decode cb_string 41 = .ok (.aload_n 0, 1) := by decide +kernel
theorem d_string_42 : decode cb_string 42 = .ok (.getfield 73, 3) := by decide +kernel
theorem d_string_45 : decode cb_string 45 = .ok (.if_icmp .ge 9, 3) := by decide +kernel
theorem d_string_48 : decode cb_string 48 = .ok (.iload_n 2, 1) := by decide +kernel
theorem d_string_49 : decode cb_string 49 = .ok (.bipush 10, 2) := by decide +kernel
theorem d_string_51 : decode cb_string 51 = .ok (.if_icmp .ne 12, 3) := by decide +kernel
theorem d_string_54 : decode cb_string 54 = .ok (.aload_n 0, 1) := by decide +kernel
theorem d_string_55 : decode cb_string 55 = .ok (.aload_n 0, 1) := by decide +kernel
theorem d_string_56 : decode cb_string 56 = .ok (.getfield 76, 3) := by decide +kernel
theorem d_string_59 : decode cb_string 59 = .ok (.invokevirtual 102, 3) := by decide +kernel
theorem d_string_62 : decode cb_string 62 = .ok (.ireturn, 1) := by decide +kernel
theorem d_string_63 : decode cb_string 63 = .ok (.aload_n 0, 1) := by decide +kernel
theorem d_string_64 : decode cb_string 64 = .ok (.getfield 99, 3) := by decide +kernel
theorem d_string_67 : decode cb_string 67 = .ok (.bipush 30, 2) := by decide +kernel
theorem d_string_69 : decode cb_string 69 = .ok (.if_icmp .ne 12, 3) := by decide +kernel
theorem d_string_72 : decode cb_string 72 = .ok (.aload_n 0, 1) := by decide +kernel
theorem d_string_73 : decode cb_string 73 = .ok (.aload_n 0, 1) := by decide +kernel
theorem d_string_74 : decode cb_string 74 = .ok (.getfield 76, 3) := by decide +kernel
theorem d_string_77 : decode cb_string 77 = .ok (.invokevirtual 102, 3) := by decide +kernel
theorem d_string_80 : decode cb_string 80 = .ok (.ireturn, 1) := by decide +kernel
theorem d_string_81 : decode cb_string 81 = .ok (.iload_n 1, 1) := by decide +kernel
theorem d_string_82 : decode cb_string 82 = .ok (.bipush 34, 2) := by decide +kernel
theorem d_string_84 : decode cb_string 84 = .ok (.if_icmp .ne 41, 3) := by decide +kernel
theorem d_string_87 : decode cb_string 87 = .ok (.iload_n 2, 1) := by decide +kernel
theorem d_string_88 : decode cb_string 88 = .ok (.bipush 92, 2) := by decide +kernel
theorem d_string_90 : decode cb_string 90 = .ok (.if_icmp .ne 35, 3) := by decide +kernel
theorem d_string_93 : decode cb_string 93 = .ok (.aload_n 0, 1) := by decide +kernel
theorem d_string_94 : decode cb_string 94 = .ok (.dup, 1) := by decide +kernel
theorem d_string_95 : decode cb_string 95 = .ok (.getfield 76, 3) := by decide +kernel
theorem d_string_98 : decode cb_string 98 = .ok (.iconst 1, 1) := by decide +kernel
theorem d_string_99 : decode cb_string 99 = .ok (.iadd, 1) := by decide +kernel
theorem d_string_100 : decode cb_string 100 = .ok (.putfield 76, 3) := by decide +kernel
theorem d_string_103 : decode cb_string 103 = .ok (.aload_n 0, 1) := by decide +kernel
theorem d_string_104 : decode cb_string 104 = .ok (.aload_n 0, 1) := by decide +kernel
theorem d_string_105 : decode cb_string 105 = .ok (.invokevirtual 82, 3) := by decide +kernel
theorem d_string_108 : decode cb_string 108 = .ok (.invokevirtual 108, 3) := by decide +kernel
theorem d_string_111 : decode cb_string 111 = .ok (.istore_n 2, 1) := by decide +kernel
theorem d_string_112 : decode cb_string 112 = .ok (.iload_n 2, 1) := by decide +kernel
theorem d_string_113 : decode cb_string 113 = .ok (.ifCond .ne 12, 3) := by decide +kernel
theorem d_string_116 : decode cb_string 116 = .ok (.aload_n 0, 1) := by decide +kernel
theorem d_string_117 : decode cb_string 117 = .ok (.aload_n 0, 1) := by decide +kernel
theorem d_string_118 : decode cb_string 118 = .ok (.getfield 76, 3) := by decide +kernel
theorem d_string_121 : decode cb_string 121 = .ok (.invokevirtual 102, 3) := by decide +kernel
theorem d_string_124 : decode cb_string 124 = .ok (.ireturn, 1) := by decide +kernel
theorem d_string_125 : decode cb_string 125 = .ok (.aload_n 0, 1) := by decide +kernel
theorem d_string_126 : decode cb_string 126 = .ok (.iload_n 2, 1) := by decide +kernel
theorem d_string_127 : decode cb_string 127 = .ok (.iload_n 3, 1) := by decide +kernel
theorem d_string_128 : decode cb_string 128 = .ok (.invokevirtual 112, 3) := by decide +kernel
theorem d_string_131 : decode cb_string 131 = .ok (.ifCond .ne 5, 3) := by decide +kernel
theorem d_string_134 : decode cb_string 134 = .ok (.iconst 0, 1) := by decide +kernel
theorem d_string_135 : decode cb_string 135 = .ok (.ireturn, 1) := by decide +kernel
theorem d_string_136 : decode cb_string 136 = .ok (.aload_n 0, 1) := by decide +kernel
theorem d_string_137 : decode cb_string 137 = .ok (.dup, 1) := by decide +kernel
theorem d_string_138 : decode cb_string 138 = .ok (.getfield 76, 3) := by decide +kernel
theorem d_string_141 : decode cb_string 141 = .ok (.iconst 1, 1) := by decide +kernel
theorem d_string_142 : decode cb_string 142 = .ok (.iadd, 1) := by decide +kernel
theorem d_string_143 : decode cb_string 143 = .ok (.putfield 76, 3) := by decide +kernel
theorem d_string_146 : decode cb_string 146 = .ok (.goto (-127), 3) := by decide +kernel
theorem d_string_149 : decode cb_string 149 = .ok (.aload_n 0, 1) := by decide +kernel
theorem d_string_150 : decode cb_string 150 = .ok (.dup, 1) := by decide +kernel
theorem d_string_151 : decode cb_string 151 = .ok (.getfield 76, 3) := by decide +kernel
theorem d_string_154 : decode cb_string 154 = .ok (.iconst 1, 1) := by decide +kernel
theorem d_string_155 : decode cb_string 155 = .ok (.iadd, 1) := by decide +kernel
theorem d_string_156 : decode cb_string 156 = .ok (.putfield 76, 3) := by decide +kernel
theorem d_string_159 : decode cb_string 159 = .ok (.iconst 1, 1) := by decide +kernel
theorem d_string_160 : decode cb_string 160 = .ok (.ireturn, 1) := by decide +kernel
theorem d_bare_0 : decode cb_bare 0 = .ok (.aload_n 0, 1) := by decide +kernel
theorem d_bare_1 : decode cb_bare 1 = .ok (.invokevirtual 105, 3) := by decide +kernel
theorem d_bare_4 : decode cb_bare 4 = .ok (.aload_n 0, 1) := by decide +kernel
theorem d_bare_5 : decode cb_bare 5 = .ok (.aload_n 0, 1) := by decide +kernel
theorem d_bare_6 : decode cb_bare 6 = .ok (.invokevirtual 82, 3) := by decide +kernel
theorem d_bare_9 : decode cb_bare 9 = .ok (.invokevirtual 116, 3) := by decide +kernel
theorem d_bare_12 : decode cb_bare 12 = .ok (.ifCond .eq 33, 3) := by decide +kernel
theorem d_bare_15 : decode cb_bare 15 = .ok (.aload_n 0, 1) := by decide +kernel
theorem d_bare_16 : decode cb_bare 16 = .ok (.aload_n 0, 1) := by decide +kernel
theorem d_bare_17 : decode cb_bare 17 = .ok (.invokevirtual 82, 3) := by decide +kernel
theorem d_bare_20 : decode cb_bare 20 = .ok (.aload_n 0, 1) := by decide +kernel
theorem d_bare_21 : decode cb_bare 21 = .ok (.getfield 76, 3) := by decide +kernel
theorem d_bare_24 : decode cb_bare 24 = .ok (.invokevirtual 112, 3) := by decide +kernel
theorem d_bare_27 : decode cb_bare 27 = .ok (.ifCond .ne 5, 3) := by decide +kernel
theorem d_bare_30 : decode cb_bare 30 = .ok (.iconst 0, 1) := by decide +kernel
theorem d_bare_31 : decode cb_bare 31 = .ok (.ireturn, 1) := by decide +kernel
theorem d_bare_32 : decode cb_bare 32 = .ok (.aload_n 0, 1) := by decide +kernel
theorem d_bare_33 : decode cb_bare 33 = .ok (.dup, 1) := by decide +kernel
theorem d_bare_34 : decode cb_bare 34 = .ok (.getfield 76, 3) := by decide +kernel
theorem d_bare_37 : decode cb_bare 37 = .ok (.iconst 1, 1) := by decide +kernel
theorem d_bare_38 : decode cb_bare 38 = .ok (.iadd, 1) := by decide +kernel
theorem d_bare_39 : decode cb_bare 39 = .ok (.putfield 76, 3) := by decide +kernel
theorem d_bare_42 : decode cb_bare 42 = .ok (.goto (-38), 3) := by decide +kernel
theorem d_bare_45 : decode cb_bare 45 = .ok (.aload_n 0, 1) := by decide +kernel
theorem d_bare_46 : decode cb_bare 46 = .ok (.getfield 99, 3) := by decide +kernel
theorem d_bare_49 : decode cb_bare 49 = .ok (.ifCond .gt 14, 3) := by decide +kernel
theorem d_bare_52 : decode cb_bare 52 = .ok (.aload_n 0, 1) := by decide +kernel
theorem d_bare_53 : decode cb_bare 53 = .ok (.aload_n 0, 1) := by decide +kernel
theorem d_bare_54 : decode cb_bare 54 = .ok (.getfield 76, 3) := by decide +kernel
theorem d_bare_57 : decode cb_bare 57 = .ok (.invokevirtual 102, 3) := by decide +kernel
theorem d_bare_60 : decode cb_bare 60 = .ok (.ifCond .eq 7, 3) := by decide +kernel
theorem d_bare_63 : decode cb_bare 63 = .ok (.iconst 1, 1) := by decide +kernel
theorem d_bare_64 : decode cb_bare 64 = .ok (.goto 4, 3) := by decide +kernel
theorem d_bare_67 : decode cb_bare 67 = .ok (.iconst 0, 1) := by decide +kernel
theorem d_bare_68 : decode cb_bare 68 = .ok (.ireturn, 1) := by decide +kernel
theorem d_path_0 : decode cb_path 0 = .ok (.aload_n 0, 1) := by decide +kernel
theorem d_path_1 : decode cb_path 1 = .ok (.iconst 0, 1) := by decide +kernel
theorem d_path_2 : decode cb_path 2 = .ok (.putfield 119, 3) := by decide +kernel
theorem d_path_5 : decode cb_path 5 = .ok (.iconst 1, 1) := by decide +kernel
theorem d_path_6 : decode cb_path 6 = .ok (.istore_n 1, 1) := by decide +kernel
theorem d_path_7 : decode cb_path 7 = .ok (.iload_n 1, 1) := by decide +kernel
theorem d_path_8 : decode cb_path 8 = .ok (.ifCond .eq 120, 3) := by decide +kernel
theorem d_path_11 : decode cb_path 11 = .ok (.aload_n 0, 1) := by decide +kernel
theorem d_path_12 : decode cb_path 12 = .ok (.getfield 49, 3) := by decide +kernel
theorem d_path_15 : decode cb_path 15 = .ok (.aload_n 0, 1) := by decide +kernel
theorem d_path_16 : decode cb_path 16 = .ok (.getfield 119, 3) := by decide +kernel
theorem d_path_19 : decode cb_path 19 = .ok (.aload_n 0, 1) := by decide +kernel
theorem d_path_20 : decode cb_path 20 = .ok (.getfield 76, 3) := by decide +kernel
theorem d_path_23 : decode cb_path 23 = .ok (.iastore, 1) := by decide +kernel
theorem d_path_24 : decode cb_path 24 = .ok (.aload_n 0, 1) := by decide +kernel
theorem d_path_25 : decode cb_path 25 = .ok (.invokevirtual 82, 3) := by decide +kernel
theorem d_path_28 : decode cb_path 28 = .ok (.bipush 34, 2) := by decide +kernel
theorem d_path_30 : decode cb_path 30 = .ok (.if_icmp .ne 13, 3) := by decide +kernel
theorem d_path_33 : decode cb_path 33 = .ok (.aload_n 0, 1) := by decide +kernel
theorem d_path_34 : decode cb_path 34 = .ok (.invokevirtual 122, 3) := by decide +kernel
theorem d_path_37 : decode cb_path 37 = .ok (.ifCond .eq 13, 3) := by decide +kernel
theorem d_path_40 : decode cb_path 40 = .ok (.goto 12, 3) := by decide +kernel
theorem d_path_43 : decode cb_path 43 = .ok (.aload_n 0, 1) := by decide +kernel
theorem d_path_44 : decode cb_path 44 = .ok (.invokevirtual 126, 3) := by decide +kernel
theorem d_path_47 : decode cb_path 47 = .ok (.ifCond .ne 5, 3) := by decide +kernel
theorem d_path_50 : decode cb_path 50 = .ok (.iconst 0, 1) := by decide +kernel
theorem d_path_51 : decode cb_path 51 = .ok (.ireturn, 1) := by decide +kernel
theorem d_path_52 : decode cb_path 52 = .ok (.aload_n 0, 1) := by decide +kernel
theorem d_path_53 : decode cb_path 53 = .ok (.getfield 52, 3) := by decide +kernel
theorem d_path_56 : decode cb_path 56 = .ok (.aload_n 0, 1) := by decide +kernel
theorem d_path_57 : decode cb_path 57 = .ok (.getfield 119, 3) := by decide +kernel
theorem d_path_60 : decode cb_path 60 = .ok (.aload_n 0, 1) := by decide +kernel
theorem d_path_61 : decode cb_path 61 = .ok (.getfield 96, 3) := by decide +kernel
theorem d_path_64 : decode cb_path 64 = .ok (.iastore, 1) := by decide +kernel
theorem d_path_65 : decode cb_path 65 = .ok (.aload_n 0, 1) := by decide +kernel
theorem d_path_66 : decode cb_path 66 = .ok (.getfield 55, 3) := by decide +kernel
theorem d_path_69 : decode cb_path 69 = .ok (.aload_n 0, 1) := by decide +kernel
theorem d_path_70 : decode cb_path 70 = .ok (.getfield 119, 3) := by decide +kernel
theorem d_path_73 : decode cb_path 73 = .ok (.aload_n 0, 1) := by decide +kernel
theorem d_path_74 : decode cb_path 74 = .ok (.getfield 99, 3) := by decide +kernel
theorem d_path_77 : decode cb_path 77 = .ok (.iastore, 1) := by decide +kernel
theorem d_path_78 : decode cb_path 78 = .ok (.aload_n 0, 1) := by decide +kernel
theorem d_path_79 : decode cb_path 79 = .ok (.dup, 1) := by decide +kernel
theorem d_path_80 : decode cb_path 80 = .ok (.getfield 119, 3) := by decide +kernel
theorem d_path_83 : decode cb_path 83 = .ok (.iconst 1, 1) := by decide +kernel
theorem d_path_84 : decode cb_path 84 = .ok (.iadd, 1) := by decide +kernel
theorem d_path_85 : decode cb_path 85 = .ok (.putfield 119, 3) := by decide +kernel
theorem d_path_88 : decode cb_path 88 = .ok (.aload_n 0, 1) := by decide +kernel
theorem d_path_89 : decode cb_path 89 = .ok (.invokevirtual 129, 3) := by decide +kernel
theorem d_path_92 : decode cb_path 92 = .ok (.aload_n 0, 1) := by decide +kernel
theorem d_path_93 : decode cb_path 93 = .ok (.invokevirtual 82, 3) := by decide +kernel
theorem d_path_96 : decode cb_path 96 = .ok (.bipush 46, 2) := by decide +kernel
theorem d_path_98 : decode cb_path 98 = .ok (.if_icmp .ne 7, 3) := by decide +kernel
theorem d_path_101 : decode cb_path 101 = .ok (.iconst 1, 1) := by decide +kernel
theorem d_path_102 : decode cb_path 102 = .ok (.goto 4, 3) := by decide +kernel
theorem d_path_105 : decode cb_path 105 = .ok (.iconst 0, 1) := by decide +kernel
theorem d_path_106 : decode cb_path 106 = .ok (.istore_n 1, 1) := by decide +kernel
theorem d_path_107 : decode cb_path 107 = .ok (.iload_n 1, 1) := by decide +kernel
theorem d_path_108 : decode cb_path 108 = .ok (.ifCond .eq (-101), 3) := by decide +kernel
theorem d_path_111 : decode cb_path 111 = .ok (.aload_n 0, 1) := by decide +kernel
theorem d_path_112 : decode cb_path 112 = .ok (.dup, 1) := by decide +kernel
theorem d_path_113 : decode cb_path 113 = .ok (.getfield 76, 3) := by decide +kernel
theorem d_path_116 : decode cb_path 116 = .ok (.iconst 1, 1) := by decide +kernel
theorem d_path_117 : decode cb_path 117 = .ok (.iadd, 1) := by decide +kernel
theorem d_path_118 : decode cb_path 118 = .ok (.putfield 76, 3) := by decide +kernel
theorem d_path_121 : decode cb_path 121 = .ok (.aload_n 0, 1) := by decide +kernel
theorem d_path_122 : decode cb_path 122 = .ok (.invokevirtual 129, 3) := by decide +kernel
theorem d_path_125 : decode cb_path 125 = .ok (.goto (-118), 3) := by decide +kernel
theorem d_path_128 : decode cb_path 128 = .ok (.iconst 1, 1) := by decide +kernel
theorem d_path_129 : decode cb_path 129 = .ok (.ireturn, 1) := by decide +kernel
theorem d_isTable_0 : decode cb_isTable 0 = .ok (.aload_n 0, 1) := by decide +kernel
theorem d_isTable_1 : decode cb_isTable 1 = .ok (.getfield 16, 3) := by decide +kernel
theorem d_isTable_4 : decode cb_isTable 4 = .ok (.iload_n 1, 1) := by decide +kernel
theorem d_isTable_5 : decode cb_isTable 5 = .ok (.iaload, 1) := by decide +kernel
theorem d_isTable_6 : decode cb_isTable 6 = .ok (.bipush 6, 2) := by decide +kernel
theorem d_isTable_8 : decode cb_isTable 8 = .ok (.if_icmp .le 7, 3) := by decide +kernel
theorem d_isTable_11 : decode cb_isTable 11 = .ok (.iconst 1, 1) := by decide +kernel
theorem d_isTable_12 : decode cb_isTable 12 = .ok (.goto 4, 3) := by decide +kernel
theorem d_isTable_15 : decode cb_isTable 15 = .ok (.iconst 0, 1) := by decide +kernel
theorem d_isTable_16 : decode cb_isTable 16 = .ok (.ireturn, 1) := by decide +kernel
theorem d_make_0 : decode cb_make 0 = .ok (.sipush 260, 3) := by decide +kernel
theorem d_make_3 : decode cb_make 3 = .ok (.aload_n 0, 1) := by decide +kernel
theorem d_make_4 : decode cb_make 4 = .ok (.getfield 93, 3) := by decide +kernel
theorem d_make_7 : decode cb_make 7 = .ok (.imul, 1) := by decide +kernel
theorem d_make_8 : decode cb_make 8 = .ok (.aload_n 0, 1) := by decide +kernel
theorem d_make_9 : decode cb_make 9 = .ok (.getfield 13, 3) := by decide +kernel
theorem d_make_12 : decode cb_make 12 = .ok (.aload_n 0, 1) := by decide +kernel
theorem d_make_13 : decode cb_make 13 = .ok (.getfield 93, 3) := by decide +kernel
theorem d_make_16 : decode cb_make 16 = .ok (.iaload, 1) := by decide +kernel
theorem d_make_17 : decode cb_make 17 = .ok (.iadd, 1) := by decide +kernel
theorem d_make_18 : decode cb_make 18 = .ok (.istore_n 3, 1) := by decide +kernel
theorem d_make_19 : decode cb_make 19 = .ok (.aload_n 0, 1) := by decide +kernel
theorem d_make_20 : decode cb_make 20 = .ok (.getfield 13, 3) := by decide +kernel
theorem d_make_23 : decode cb_make 23 = .ok (.aload_n 0, 1) := by decide +kernel
theorem d_make_24 : decode cb_make 24 = .ok (.getfield 93, 3) := by decide +kernel
theorem d_make_27 : decode cb_make 27 = .ok (.dup2, 1) := by decide +kernel
theorem d_make_28 : decode cb_make 28 = .ok (.iaload, 1) := by decide +kernel
theorem d_make_29 : decode cb_make 29 = .ok (.iconst 1, 1) := by decide +kernel
theorem d_make_30 : decode cb_make 30 = .ok (.iadd, 1) := by decide +kernel
theorem d_make_31 : decode cb_make 31 = .ok (.iastore, 1) := by decide +kernel
theorem d_make_32 : decode cb_make 32 = .ok (.aload_n 0, 1) := by decide +kernel
theorem d_make_33 : decode cb_make 33 = .ok (.getfield 16, 3) := by decide +kernel
theorem d_make_36 : decode cb_make 36 = .ok (.iload_n 3, 1) := by decide +kernel
theorem d_make_37 : decode cb_make 37 = .ok (.iload_n 1, 1) := by decide +kernel
theorem d_make_38 : decode cb_make 38 = .ok (.iastore, 1) := by decide +kernel
theorem d_make_39 : decode cb_make 39 = .ok (.aload_n 0, 1) := by decide +kernel
theorem d_make_40 : decode cb_make 40 = .ok (.getfield 22, 3) := by decide +kernel
theorem d_make_43 : decode cb_make 43 = .ok (.iload_n 3, 1) := by decide +kernel
theorem d_make_44 : decode cb_make 44 = .ok (.iload_n 2, 1) := by decide +kernel
theorem d_make_45 : decode cb_make 45 = .ok (.iastore, 1) := by decide +kernel
theorem d_make_46 : decode cb_make 46 = .ok (.aload_n 0, 1) := by decide +kernel
theorem d_make_47 : decode cb_make 47 = .ok (.getfield 25, 3) := by decide +kernel
theorem d_make_50 : decode cb_make 50 = .ok (.iload_n 3, 1) := by decide +kernel
theorem d_make_51 : decode cb_make 51 = .ok (.iconst (-1), 1) := by decide +kernel
theorem d_make_52 : decode cb_make 52 = .ok (.iastore, 1) := by decide +kernel
theorem d_make_53 : decode cb_make 53 = .ok (.aload_n 0, 1) := by decide +kernel
theorem d_make_54 : decode cb_make 54 = .ok (.getfield 31, 3) := by decide +kernel
theorem d_make_57 : decode cb_make 57 = .ok (.iload_n 3, 1) := by decide +kernel
theorem d_make_58 : decode cb_make 58 = .ok (.iconst (-1), 1) := by decide +kernel
theorem d_make_59 : decode cb_make 59 = .ok (.iastore, 1) := by decide +kernel
theorem d_make_60 : decode cb_make 60 = .ok (.aload_n 0, 1) := by decide +kernel
theorem d_make_61 : decode cb_make 61 = .ok (.getfield 34, 3) := by decide +kernel
theorem d_make_64 : decode cb_make 64 = .ok (.iload_n 3, 1) := by decide +kernel
theorem d_make_65 : decode cb_make 65 = .ok (.iconst 0, 1) := by decide +kernel
theorem d_make_66 : decode cb_make 66 = .ok (.iastore, 1) := by decide +kernel
theorem d_make_67 : decode cb_make 67 = .ok (.aload_n 0, 1) := by decide +kernel
theorem d_make_68 : decode cb_make 68 = .ok (.getfield 19, 3) := by decide +kernel
theorem d_make_71 : decode cb_make 71 = .ok (.iload_n 3, 1) := by decide +kernel
theorem d_make_72 : decode cb_make 72 = .ok (.iconst 0, 1) := by decide +kernel
theorem d_make_73 : decode cb_make 73 = .ok (.iastore, 1) := by decide +kernel
theorem d_make_74 : decode cb_make 74 = .ok (.iload_n 2, 1) := by decide +kernel
theorem d_make_75 : decode cb_make 75 = .ok (.iconst (-1), 1) := by decide +kernel
theorem d_make_76 : decode cb_make 76 = .ok (.if_icmp .eq 52, 3) := by decide +kernel
theorem d_make_79 : decode cb_make 79 = .ok (.aload_n 0, 1) := by decide +kernel
theorem d_make_80 : decode cb_make 80 = .ok (.getfield 25, 3) := by decide +kernel
theorem d_make_83 : decode cb_make 83 = .ok (.iload_n 2, 1) := by decide +kernel
theorem d_make_84 : decode cb_make 84 = .ok (.iaload, 1) := by decide +kernel
theorem d_make_85 : decode cb_make 85 = .ok (.iconst (-1), 1) := by decide +kernel
theorem d_make_86 : decode cb_make 86 = .ok (.if_icmp .ne 13, 3) := by decide +kernel
theorem d_make_89 : decode cb_make 89 = .ok (.aload_n 0, 1) := by decide +kernel
theorem d_make_90 : decode cb_make 90 = .ok (.getfield 25, 3) := by decide +kernel
theorem d_make_93 : decode cb_make 93 = .ok (.iload_n 2, 1) := by decide +kernel
theorem d_make_94 : decode cb_make 94 = .ok (.iload_n 3, 1) := by decide +kernel
theorem d_make_95 : decode cb_make 95 = .ok (.iastore, 1) := by decide +kernel
theorem d_make_96 : decode cb_make 96 = .ok (.goto 15, 3) := by decide +kernel
theorem d_make_99 : decode cb_make 99 = .ok (.aload_n 0, 1) := by decide +kernel
theorem d_make_100 : decode cb_make 100 = .ok (.getfield 31, 3) := by decide +kernel
theorem d_make_103 : decode cb_make 103 = .ok (.aload_n 0, 1) := by decide +kernel
theorem d_make_104 : decode cb_make 104 = .ok (.getfield 28, 3) := by decide +kernel
theorem d_make_107 : decode cb_make 107 = .ok (.iload_n 2, 1) := by decide +kernel
theorem d_make_108 : decode cb_make 108 = .ok (.iaload, 1) := by decide +kernel
theorem d_make_109 : decode cb_make 109 = .ok (.iload_n 3, 1) := by decide +kernel
end
section
theorem d_make_110 : decode cb_make 110 = .ok (.iastore, 1) := by decide +kernel
theorem d_make_111 : decode cb_make 111 = .ok (.aload_n 0, 1) := by decide +kernel
theorem d_make_112 : decode cb_make 112 = .ok (.getfield 28, 3) := by decide +kernel
theorem d_make_115 : decode cb_make 115 = .ok (.iload_n 2, 1) := by decide +kernel
theorem d_make_116 : decode cb_make 116 = .ok (.iload_n 3, 1) := by decide +kernel
theorem d_make_117 : decode cb_make 117 = .ok (.iastore, 1) := by decide +kernel
theorem d_make_118 : decode cb_make 118 = .ok (.aload_n 0, 1) := by decide +kernel
theorem d_make_119 : decode cb_make 119 = .ok (.getfield 34, 3) := by decide +kernel
theorem d_make_122 : decode cb_make 122 = .ok (.iload_n 2, 1) := by decide +kernel
theorem d_make_123 : decode cb_make 123 = .ok (.dup2, 1) := by decide +kernel
theorem d_make_124 : decode cb_make 124 = .ok (.iaload, 1) := by decide +kernel
theorem d_make_125 : decode cb_make 125 = .ok (.iconst 1, 1) := by decide +kernel
theorem d_make_126 : decode cb_make 126 = .ok (.iadd, 1) := by decide +kernel
theorem d_make_127 : decode cb_make 127 = .ok (.iastore, 1) := by decide +kernel
theorem d_make_128 : decode cb_make 128 = .ok (.iload_n 3, 1) := by decide +kernel
theorem d_make_129 : decode cb_make 129 = .ok (.ireturn, 1) := by decide +kernel
theorem d_named_0 : decode cb_named 0 = .ok (.aload_n 0, 1) := by decide +kernel
theorem d_named_1 : decode cb_named 1 = .ok (.getfield 37, 3) := by decide +kernel
theorem d_named_4 : decode cb_named 4 = .ok (.iload_n 1, 1) := by decide +kernel
theorem d_named_5 : decode cb_named 5 = .ok (.aload_n 0, 1) := by decide +kernel
theorem d_named_6 : decode cb_named 6 = .ok (.getfield 52, 3) := by decide +kernel
theorem d_named_9 : decode cb_named 9 = .ok (.iload_n 2, 1) := by decide +kernel
theorem d_named_10 : decode cb_named 10 = .ok (.iaload, 1) := by decide +kernel
theorem d_named_11 : decode cb_named 11 = .ok (.iastore, 1) := by decide +kernel
theorem d_named_12 : decode cb_named 12 = .ok (.aload_n 0, 1) := by decide +kernel
theorem d_named_13 : decode cb_named 13 = .ok (.getfield 40, 3) := by decide +kernel
theorem d_named_16 : decode cb_named 16 = .ok (.iload_n 1, 1) := by decide +kernel
theorem d_named_17 : decode cb_named 17 = .ok (.aload_n 0, 1) := by decide +kernel
theorem d_named_18 : decode cb_named 18 = .ok (.getfield 55, 3) := by decide +kernel
theorem d_named_21 : decode cb_named 21 = .ok (.iload_n 2, 1) := by decide +kernel
theorem d_named_22 : decode cb_named 22 = .ok (.iaload, 1) := by decide +kernel
theorem d_named_23 : decode cb_named 23 = .ok (.iastore, 1) := by decide +kernel
theorem d_named_24 : decode cb_named 24 = .ok (.iload_n 1, 1) := by decide +kernel
theorem d_named_25 : decode cb_named 25 = .ok (.ireturn, 1) := by decide +kernel
theorem d_entryOf_0 : decode cb_entryOf 0 = .ok (.aload_n 0, 1) := by decide +kernel
theorem d_entryOf_1 : decode cb_entryOf 1 = .ok (.getfield 25, 3) := by decide +kernel
theorem d_entryOf_4 : decode cb_entryOf 4 = .ok (.iload_n 1, 1) := by decide +kernel
theorem d_entryOf_5 : decode cb_entryOf 5 = .ok (.iaload, 1) := by decide +kernel
theorem d_entryOf_6 : decode cb_entryOf 6 = .ok (.istore_n 3, 1) := by decide +kernel
theorem d_entryOf_7 : decode cb_entryOf 7 = .ok (.iload_n 3, 1) := by decide +kernel
theorem d_entryOf_8 : decode cb_entryOf 8 = .ok (.iconst (-1), 1) := by decide +kernel
theorem d_entryOf_9 : decode cb_entryOf 9 = .ok (.if_icmp .eq 105, 3) := by decide +kernel
theorem d_entryOf_12 : decode cb_entryOf 12 = .ok (.aload_n 0, 1) := by decide +kernel
theorem d_entryOf_13 : decode cb_entryOf 13 = .ok (.getfield 40, 3) := by decide +kernel
theorem d_entryOf_16 : decode cb_entryOf 16 = .ok (.iload_n 3, 1) := by decide +kernel
theorem d_entryOf_17 : decode cb_entryOf 17 = .ok (.iaload, 1) := by decide +kernel
theorem d_entryOf_18 : decode cb_entryOf 18 = .ok (.aload_n 0, 1) := by decide +kernel
theorem d_entryOf_19 : decode cb_entryOf 19 = .ok (.getfield 55, 3) := by decide +kernel
theorem d_entryOf_22 : decode cb_entryOf 22 = .ok (.iload_n 2, 1) := by decide +kernel
theorem d_entryOf_23 : decode cb_entryOf 23 = .ok (.iaload, 1) := by decide +kernel
theorem d_entryOf_24 : decode cb_entryOf 24 = .ok (.if_icmp .ne 7, 3) := by decide +kernel
theorem d_entryOf_27 : decode cb_entryOf 27 = .ok (.iconst 1, 1) := by decide +kernel
theorem d_entryOf_28 : decode cb_entryOf 28 = .ok (.goto 4, 3) := by decide +kernel
theorem d_entryOf_31 : decode cb_entryOf 31 = .ok (.iconst 0, 1) := by decide +kernel
theorem d_entryOf_32 : decode cb_entryOf 32 = .ok (.istore 4, 2) := by decide +kernel
theorem d_entryOf_34 : decode cb_entryOf 34 = .ok (.iconst 0, 1) := by decide +kernel
theorem d_entryOf_35 : decode cb_entryOf 35 = .ok (.istore 5, 2) := by decide +kernel
theorem d_entryOf_37 : decode cb_entryOf 37 = .ok (.iload 5, 2) := by decide +kernel
theorem d_entryOf_39 : decode cb_entryOf 39 = .ok (.aload_n 0, 1) := by decide +kernel
theorem d_entryOf_40 : decode cb_entryOf 40 = .ok (.getfield 55, 3) := by decide +kernel
theorem d_entryOf_43 : decode cb_entryOf 43 = .ok (.iload_n 2, 1) := by decide +kernel
theorem d_entryOf_44 : decode cb_entryOf 44 = .ok (.iaload, 1) := by decide +kernel
theorem d_entryOf_45 : decode cb_entryOf 45 = .ok (.if_icmp .ge 52, 3) := by decide +kernel
theorem d_entryOf_48 : decode cb_entryOf 48 = .ok (.iload 4, 2) := by decide +kernel
theorem d_entryOf_50 : decode cb_entryOf 50 = .ok (.ifCond .eq 47, 3) := by decide +kernel
theorem d_entryOf_53 : decode cb_entryOf 53 = .ok (.aload_n 0, 1) := by decide +kernel
theorem d_entryOf_54 : decode cb_entryOf 54 = .ok (.getfield 46, 3) := by decide +kernel
theorem d_entryOf_57 : decode cb_entryOf 57 = .ok (.aload_n 0, 1) := by decide +kernel
theorem d_entryOf_58 : decode cb_entryOf 58 = .ok (.getfield 37, 3) := by decide +kernel
theorem d_entryOf_61 : decode cb_entryOf 61 = .ok (.iload_n 3, 1) := by decide +kernel
theorem d_entryOf_62 : decode cb_entryOf 62 = .ok (.iaload, 1) := by decide +kernel
theorem d_entryOf_63 : decode cb_entryOf 63 = .ok (.iload 5, 2) := by decide +kernel
theorem d_entryOf_65 : decode cb_entryOf 65 = .ok (.iadd, 1) := by decide +kernel
theorem d_entryOf_66 : decode cb_entryOf 66 = .ok (.iaload, 1) := by decide +kernel
theorem d_entryOf_67 : decode cb_entryOf 67 = .ok (.aload_n 0, 1) := by decide +kernel
theorem d_entryOf_68 : decode cb_entryOf 68 = .ok (.getfield 46, 3) := by decide +kernel
theorem d_entryOf_71 : decode cb_entryOf 71 = .ok (.aload_n 0, 1) := by decide +kernel
theorem d_entryOf_72 : decode cb_entryOf 72 = .ok (.getfield 52, 3) := by decide +kernel
theorem d_entryOf_75 : decode cb_entryOf 75 = .ok (.iload_n 2, 1) := by decide +kernel
theorem d_entryOf_76 : decode cb_entryOf 76 = .ok (.iaload, 1) := by decide +kernel
theorem d_entryOf_77 : decode cb_entryOf 77 = .ok (.iload 5, 2) := by decide +kernel
theorem d_entryOf_79 : decode cb_entryOf 79 = .ok (.iadd, 1) := by decide +kernel
theorem d_entryOf_80 : decode cb_entryOf 80 = .ok (.iaload, 1) := by decide +kernel
theorem d_entryOf_81 : decode cb_entryOf 81 = .ok (.if_icmp .ne 7, 3) := by decide +kernel
theorem d_entryOf_84 : decode cb_entryOf 84 = .ok (.iconst 1, 1) := by decide +kernel
theorem d_entryOf_85 : decode cb_entryOf 85 = .ok (.goto 4, 3) := by decide +kernel
theorem d_entryOf_88 : decode cb_entryOf 88 = .ok (.iconst 0, 1) := by decide +kernel
theorem d_entryOf_89 : decode cb_entryOf 89 = .ok (.istore 4, 2) := by decide +kernel
theorem d_entryOf_91 : decode cb_entryOf 91 = .ok (.iinc 5 1, 3) := by decide +kernel
theorem d_entryOf_94 : decode cb_entryOf 94 = .ok (.goto (-57), 3) := by decide +kernel
theorem d_entryOf_97 : decode cb_entryOf 97 = .ok (.iload 4, 2) := by decide +kernel
theorem d_entryOf_99 : decode cb_entryOf 99 = .ok (.ifCond .eq 5, 3) := by decide +kernel
theorem d_entryOf_102 : decode cb_entryOf 102 = .ok (.iload_n 3, 1) := by decide +kernel
theorem d_entryOf_103 : decode cb_entryOf 103 = .ok (.ireturn, 1) := by decide +kernel
theorem d_entryOf_104 : decode cb_entryOf 104 = .ok (.aload_n 0, 1) := by decide +kernel
theorem d_entryOf_105 : decode cb_entryOf 105 = .ok (.getfield 31, 3) := by decide +kernel
theorem d_entryOf_108 : decode cb_entryOf 108 = .ok (.iload_n 3, 1) := by decide +kernel
theorem d_entryOf_109 : decode cb_entryOf 109 = .ok (.iaload, 1) := by decide +kernel
theorem d_entryOf_110 : decode cb_entryOf 110 = .ok (.istore_n 3, 1) := by decide +kernel
theorem d_entryOf_111 : decode cb_entryOf 111 = .ok (.goto (-104), 3) := by decide +kernel
theorem d_entryOf_114 : decode cb_entryOf 114 = .ok (.iconst (-1), 1) := by decide +kernel
theorem d_entryOf_115 : decode cb_entryOf 115 = .ok (.ireturn, 1) := by decide +kernel
theorem d_leadEntry_0 : decode cb_leadEntry 0 = .ok (.iload_n 1, 1) := by decide +kernel
theorem d_leadEntry_1 : decode cb_leadEntry 1 = .ok (.istore_n 2, 1) := by decide +kernel
theorem d_leadEntry_2 : decode cb_leadEntry 2 = .ok (.iconst 0, 1) := by decide +kernel
theorem d_leadEntry_3 : decode cb_leadEntry 3 = .ok (.istore_n 3, 1) := by decide +kernel
theorem d_leadEntry_4 : decode cb_leadEntry 4 = .ok (.iload_n 3, 1) := by decide +kernel
theorem d_leadEntry_5 : decode cb_leadEntry 5 = .ok (.aload_n 0, 1) := by decide +kernel
theorem d_leadEntry_6 : decode cb_leadEntry 6 = .ok (.getfield 119, 3) := by decide +kernel
theorem d_leadEntry_9 : decode cb_leadEntry 9 = .ok (.iconst 1, 1) := by decide +kernel
theorem d_leadEntry_10 : decode cb_leadEntry 10 = .ok (.isub, 1) := by decide +kernel
theorem d_leadEntry_11 : decode cb_leadEntry 11 = .ok (.if_icmp .ge 71, 3) := by decide +kernel
theorem d_leadEntry_14 : decode cb_leadEntry 14 = .ok (.aload_n 0, 1) := by decide +kernel
theorem d_leadEntry_15 : decode cb_leadEntry 15 = .ok (.iload_n 2, 1) := by decide +kernel
theorem d_leadEntry_16 : decode cb_leadEntry 16 = .ok (.iload_n 3, 1) := by decide +kernel
theorem d_leadEntry_17 : decode cb_leadEntry 17 = .ok (.invokevirtual 132, 3) := by decide +kernel
theorem d_leadEntry_20 : decode cb_leadEntry 20 = .ok (.istore 4, 2) := by decide +kernel
theorem d_leadEntry_22 : decode cb_leadEntry 22 = .ok (.iload 4, 2) := by decide +kernel
theorem d_leadEntry_24 : decode cb_leadEntry 24 = .ok (.iconst (-1), 1) := by decide +kernel
theorem d_leadEntry_25 : decode cb_leadEntry 25 = .ok (.if_icmp .eq 27, 3) := by decide +kernel
theorem d_leadEntry_28 : decode cb_leadEntry 28 = .ok (.aload_n 0, 1) := by decide +kernel
theorem d_leadEntry_29 : decode cb_leadEntry 29 = .ok (.getfield 16, 3) := by decide +kernel
theorem d_leadEntry_32 : decode cb_leadEntry 32 = .ok (.iload 4, 2) := by decide +kernel
theorem d_leadEntry_34 : decode cb_leadEntry 34 = .ok (.iaload, 1) := by decide +kernel
theorem d_leadEntry_35 : decode cb_leadEntry 35 = .ok (.bipush 9, 2) := by decide +kernel
theorem d_leadEntry_37 : decode cb_leadEntry 37 = .ok (.if_icmp .eq 15, 3) := by decide +kernel
theorem d_leadEntry_40 : decode cb_leadEntry 40 = .ok (.aload_n 0, 1) := by decide +kernel
theorem d_leadEntry_41 : decode cb_leadEntry 41 = .ok (.aload_n 0, 1) := by decide +kernel
theorem d_leadEntry_42 : decode cb_leadEntry 42 = .ok (.getfield 49, 3) := by decide +kernel
theorem d_leadEntry_45 : decode cb_leadEntry 45 = .ok (.iload_n 3, 1) := by decide +kernel
theorem d_leadEntry_46 : decode cb_leadEntry 46 = .ok (.iaload, 1) := by decide +kernel
theorem d_leadEntry_47 : decode cb_leadEntry 47 = .ok (.putfield 79, 3) := by decide +kernel
theorem d_leadEntry_50 : decode cb_leadEntry 50 = .ok (.iconst (-1), 1) := by decide +kernel
theorem d_leadEntry_51 : decode cb_leadEntry 51 = .ok (.ireturn, 1) := by decide +kernel
theorem d_leadEntry_52 : decode cb_leadEntry 52 = .ok (.iload 4, 2) := by decide +kernel
theorem d_leadEntry_54 : decode cb_leadEntry 54 = .ok (.iconst (-1), 1) := by decide +kernel
theorem d_leadEntry_55 : decode cb_leadEntry 55 = .ok (.if_icmp .ne 18, 3) := by decide +kernel
theorem d_leadEntry_58 : decode cb_leadEntry 58 = .ok (.aload_n 0, 1) := by decide +kernel
theorem d_leadEntry_59 : decode cb_leadEntry 59 = .ok (.aload_n 0, 1) := by decide +kernel
theorem d_leadEntry_60 : decode cb_leadEntry 60 = .ok (.bipush 9, 2) := by decide +kernel
theorem d_leadEntry_62 : decode cb_leadEntry 62 = .ok (.iload_n 2, 1) := by decide +kernel
theorem d_leadEntry_63 : decode cb_leadEntry 63 = .ok (.invokevirtual 136, 3) := by decide +kernel
theorem d_leadEntry_66 : decode cb_leadEntry 66 = .ok (.iload_n 3, 1) := by decide +kernel
theorem d_leadEntry_67 : decode cb_leadEntry 67 = .ok (.invokevirtual 139, 3) := by decide +kernel
theorem d_leadEntry_70 : decode cb_leadEntry 70 = .ok (.goto 5, 3) := by decide +kernel
theorem d_leadEntry_73 : decode cb_leadEntry 73 = .ok (.iload 4, 2) := by decide +kernel
theorem d_leadEntry_75 : decode cb_leadEntry 75 = .ok (.istore_n 2, 1) := by decide +kernel
theorem d_leadEntry_76 : decode cb_leadEntry 76 = .ok (.iinc 3 1, 3) := by decide +kernel
theorem d_leadEntry_79 : decode cb_leadEntry 79 = .ok (.goto (-75), 3) := by decide +kernel
theorem d_leadEntry_82 : decode cb_leadEntry 82 = .ok (.aload_n 0, 1) := by decide +kernel
theorem d_leadEntry_83 : decode cb_leadEntry 83 = .ok (.iload_n 2, 1) := by decide +kernel
theorem d_leadEntry_84 : decode cb_leadEntry 84 = .ok (.aload_n 0, 1) := by decide +kernel
theorem d_leadEntry_85 : decode cb_leadEntry 85 = .ok (.getfield 119, 3) := by decide +kernel
theorem d_leadEntry_88 : decode cb_leadEntry 88 = .ok (.iconst 1, 1) := by decide +kernel
theorem d_leadEntry_89 : decode cb_leadEntry 89 = .ok (.isub, 1) := by decide +kernel
theorem d_leadEntry_90 : decode cb_leadEntry 90 = .ok (.invokevirtual 132, 3) := by decide +kernel
theorem d_leadEntry_93 : decode cb_leadEntry 93 = .ok (.iconst (-1), 1) := by decide +kernel
theorem d_leadEntry_94 : decode cb_leadEntry 94 = .ok (.if_icmp .eq 20, 3) := by decide +kernel
theorem d_leadEntry_97 : decode cb_leadEntry 97 = .ok (.aload_n 0, 1) := by decide +kernel
theorem d_leadEntry_98 : decode cb_leadEntry 98 = .ok (.aload_n 0, 1) := by decide +kernel
theorem d_leadEntry_99 : decode cb_leadEntry 99 = .ok (.getfield 49, 3) := by decide +kernel
theorem d_leadEntry_102 : decode cb_leadEntry 102 = .ok (.aload_n 0, 1) := by decide +kernel
theorem d_leadEntry_103 : decode cb_leadEntry 103 = .ok (.getfield 119, 3) := by decide +kernel
theorem d_leadEntry_106 : decode cb_leadEntry 106 = .ok (.iconst 1, 1) := by decide +kernel
theorem d_leadEntry_107 : decode cb_leadEntry 107 = .ok (.isub, 1) := by decide +kernel
theorem d_leadEntry_108 : decode cb_leadEntry 108 = .ok (.iaload, 1) := by decide +kernel
theorem d_leadEntry_109 : decode cb_leadEntry 109 = .ok (.putfield 79, 3) := by decide +kernel
theorem d_leadEntry_112 : decode cb_leadEntry 112 = .ok (.iconst (-1), 1) := by decide +kernel
theorem d_leadEntry_113 : decode cb_leadEntry 113 = .ok (.ireturn, 1) := by decide +kernel
theorem d_leadEntry_114 : decode cb_leadEntry 114 = .ok (.iload_n 2, 1) := by decide +kernel
theorem d_leadEntry_115 : decode cb_leadEntry 115 = .ok (.ireturn, 1) := by decide +kernel
theorem d_leadHeader_0 : decode cb_leadHeader 0 = .ok (.sipush 260, 3) := by decide +kernel
theorem d_leadHeader_3 : decode cb_leadHeader 3 = .ok (.aload_n 0, 1) := by decide +kernel
theorem d_leadHeader_4 : decode cb_leadHeader 4 = .ok (.getfield 93, 3) := by decide +kernel
theorem d_leadHeader_7 : decode cb_leadHeader 7 = .ok (.imul, 1) := by decide +kernel
theorem d_leadHeader_8 : decode cb_leadHeader 8 = .ok (.istore_n 1, 1) := by decide +kernel
theorem d_leadHeader_9 : decode cb_leadHeader 9 = .ok (.iconst 0, 1) := by decide +kernel
theorem d_leadHeader_10 : decode cb_leadHeader 10 = .ok (.istore_n 2, 1) := by decide +kernel
theorem d_leadHeader_11 : decode cb_leadHeader 11 = .ok (.iload_n 2, 1) := by decide +kernel
theorem d_leadHeader_12 : decode cb_leadHeader 12 = .ok (.aload_n 0, 1) := by decide +kernel
theorem d_leadHeader_13 : decode cb_leadHeader 13 = .ok (.getfield 119, 3) := by decide +kernel
theorem d_leadHeader_16 : decode cb_leadHeader 16 = .ok (.iconst 1, 1) := by decide +kernel
theorem d_leadHeader_17 : decode cb_leadHeader 17 = .ok (.isub, 1) := by decide +kernel
theorem d_leadHeader_18 : decode cb_leadHeader 18 = .ok (.if_icmp .ge 94, 3) := by decide +kernel
theorem d_leadHeader_21 : decode cb_leadHeader 21 = .ok (.aload_n 0, 1) := by decide +kernel
theorem d_leadHeader_22 : decode cb_leadHeader 22 = .ok (.iload_n 1, 1) := by decide +kernel
theorem d_leadHeader_23 : decode cb_leadHeader 23 = .ok (.iload_n 2, 1) := by decide +kernel
theorem d_leadHeader_24 : decode cb_leadHeader 24 = .ok (.invokevirtual 132, 3) := by decide +kernel
theorem d_leadHeader_27 : decode cb_leadHeader 27 = .ok (.istore_n 3, 1) := by decide +kernel
theorem d_leadHeader_28 : decode cb_leadHeader 28 = .ok (.iload_n 3, 1) := by decide +kernel
theorem d_leadHeader_29 : decode cb_leadHeader 29 = .ok (.iconst (-1), 1) := by decide +kernel
theorem d_leadHeader_30 : decode cb_leadHeader 30 = .ok (.if_icmp .ne 19, 3) := by decide +kernel
theorem d_leadHeader_33 : decode cb_leadHeader 33 = .ok (.aload_n 0, 1) := by decide +kernel
theorem d_leadHeader_34 : decode cb_leadHeader 34 = .ok (.aload_n 0, 1) := by decide +kernel
theorem d_leadHeader_35 : decode cb_leadHeader 35 = .ok (.bipush 8, 2) := by decide +kernel
theorem d_leadHeader_37 : decode cb_leadHeader 37 = .ok (.iload_n 1, 1) := by decide +kernel
theorem d_leadHeader_38 : decode cb_leadHeader 38 = .ok (.invokevirtual 136, 3) := by decide +kernel
theorem d_leadHeader_41 : decode cb_leadHeader 41 = .ok (.iload_n 2, 1) := by decide +kernel
theorem d_leadHeader_42 : decode cb_leadHeader 42 = .ok (.invokevirtual 139, 3) := by decide +kernel
theorem d_leadHeader_45 : decode cb_leadHeader 45 = .ok (.istore_n 1, 1) := by decide +kernel
theorem d_leadHeader_46 : decode cb_leadHeader 46 = .ok (.goto 60, 3) := by decide +kernel
theorem d_leadHeader_49 : decode cb_leadHeader 49 = .ok (.aload_n 0, 1) := by decide +kernel
theorem d_leadHeader_50 : decode cb_leadHeader 50 = .ok (.getfield 16, 3) := by decide +kernel
theorem d_leadHeader_53 : decode cb_leadHeader 53 = .ok (.iload_n 3, 1) := by decide +kernel
theorem d_leadHeader_54 : decode cb_leadHeader 54 = .ok (.iaload, 1) := by decide +kernel
theorem d_leadHeader_55 : decode cb_leadHeader 55 = .ok (.bipush 6, 2) := by decide +kernel
theorem d_leadHeader_57 : decode cb_leadHeader 57 = .ok (.if_icmp .ne 13, 3) := by decide +kernel
theorem d_leadHeader_60 : decode cb_leadHeader 60 = .ok (.aload_n 0, 1) := by decide +kernel
theorem d_leadHeader_61 : decode cb_leadHeader 61 = .ok (.getfield 28, 3) := by decide +kernel
theorem d_leadHeader_64 : decode cb_leadHeader 64 = .ok (.iload_n 3, 1) := by decide +kernel
theorem d_leadHeader_65 : decode cb_leadHeader 65 = .ok (.iaload, 1) := by decide +kernel
theorem d_leadHeader_66 : decode cb_leadHeader 66 = .ok (.istore_n 1, 1) := by decide +kernel
theorem d_leadHeader_67 : decode cb_leadHeader 67 = .ok (.goto 39, 3) := by decide +kernel
theorem d_leadHeader_70 : decode cb_leadHeader 70 = .ok (.aload_n 0, 1) := by decide +kernel
theorem d_leadHeader_71 : decode cb_leadHeader 71 = .ok (.iload_n 3, 1) := by decide +kernel
theorem d_leadHeader_72 : decode cb_leadHeader 72 = .ok (.invokevirtual 142, 3) := by decide +kernel
theorem d_leadHeader_75 : decode cb_leadHeader 75 = .ok (.ifCond .eq 19, 3) := by decide +kernel
theorem d_leadHeader_78 : decode cb_leadHeader 78 = .ok (.aload_n 0, 1) := by decide +kernel
theorem d_leadHeader_79 : decode cb_leadHeader 79 = .ok (.getfield 16, 3) := by decide +kernel
theorem d_leadHeader_82 : decode cb_leadHeader 82 = .ok (.iload_n 3, 1) := by decide +kernel
theorem d_leadHeader_83 : decode cb_leadHeader 83 = .ok (.iaload, 1) := by decide +kernel
theorem d_leadHeader_84 : decode cb_leadHeader 84 = .ok (.bipush 10, 2) := by decide +kernel
theorem d_leadHeader_86 : decode cb_leadHeader 86 = .ok (.if_icmp .eq 8, 3) := by decide +kernel
theorem d_leadHeader_89 : decode cb_leadHeader 89 = .ok (.iload_n 3, 1) := by decide +kernel
theorem d_leadHeader_90 : decode cb_leadHeader 90 = .ok (.istore_n 1, 1) := by decide +kernel
theorem d_leadHeader_91 : decode cb_leadHeader 91 = .ok (.goto 15, 3) := by decide +kernel
theorem d_leadHeader_94 : decode cb_leadHeader 94 = .ok (.aload_n 0, 1) := by decide +kernel
theorem d_leadHeader_95 : decode cb_leadHeader 95 = .ok (.aload_n 0, 1) := by decide +kernel
theorem d_leadHeader_96 : decode cb_leadHeader 96 = .ok (.getfield 49, 3) := by decide +kernel
theorem d_leadHeader_99 : decode cb_leadHeader 99 = .ok (.iload_n 2, 1) := by decide +kernel
theorem d_leadHeader_100 : decode cb_leadHeader 100 = .ok (.iaload, 1) := by decide +kernel
theorem d_leadHeader_101 : decode cb_leadHeader 101 = .ok (.putfield 79, 3) := by decide +kernel
theorem d_leadHeader_104 : decode cb_leadHeader 104 = .ok (.iconst (-1), 1) := by decide +kernel
theorem d_leadHeader_105 : decode cb_leadHeader 105 = .ok (.ireturn, 1) := by decide +kernel
theorem d_leadHeader_106 : decode cb_leadHeader 106 = .ok (.iinc 2 1, 3) := by decide +kernel
theorem d_leadHeader_109 : decode cb_leadHeader 109 = .ok (.goto (-98), 3) := by decide +kernel
theorem d_leadHeader_112 : decode cb_leadHeader 112 = .ok (.iload_n 1, 1) := by decide +kernel
theorem d_leadHeader_113 : decode cb_leadHeader 113 = .ok (.ireturn, 1) := by decide +kernel
theorem d_opened_0 : decode cb_opened 0 = .ok (.aload_n 0, 1) := by decide +kernel
theorem d_opened_1 : decode cb_opened 1 = .ok (.invokevirtual 145, 3) := by decide +kernel
theorem d_opened_4 : decode cb_opened 4 = .ok (.istore_n 2, 1) := by decide +kernel
theorem d_opened_5 : decode cb_opened 5 = .ok (.iload_n 2, 1) := by decide +kernel
theorem d_opened_6 : decode cb_opened 6 = .ok (.iconst (-1), 1) := by decide +kernel
theorem d_opened_7 : decode cb_opened 7 = .ok (.if_icmp .ne 5, 3) := by decide +kernel
theorem d_opened_10 : decode cb_opened 10 = .ok (.iconst (-1), 1) := by decide +kernel
theorem d_opened_11 : decode cb_opened 11 = .ok (.ireturn, 1) := by decide +kernel
theorem d_opened_12 : decode cb_opened 12 = .ok (.aload_n 0, 1) := by decide +kernel
theorem d_opened_13 : decode cb_opened 13 = .ok (.getfield 119, 3) := by decide +kernel
theorem d_opened_16 : decode cb_opened 16 = .ok (.iconst 1, 1) := by decide +kernel
theorem d_opened_17 : decode cb_opened 17 = .ok (.isub, 1) := by decide +kernel
theorem d_opened_18 : decode cb_opened 18 = .ok (.istore_n 3, 1) := by decide +kernel
theorem d_opened_19 : decode cb_opened 19 = .ok (.aload_n 0, 1) := by decide +kernel
theorem d_opened_20 : decode cb_opened 20 = .ok (.iload_n 2, 1) := by decide +kernel
theorem d_opened_21 : decode cb_opened 21 = .ok (.iload_n 3, 1) := by decide +kernel
theorem d_opened_22 : decode cb_opened 22 = .ok (.invokevirtual 132, 3) := by decide +kernel
theorem d_opened_25 : decode cb_opened 25 = .ok (.istore 4, 2) := by decide +kernel
theorem d_opened_27 : decode cb_opened 27 = .ok (.iload_n 1, 1) := by decide +kernel
theorem d_opened_28 : decode cb_opened 28 = .ok (.ifCond .eq 63, 3) := by decide +kernel
theorem d_opened_31 : decode cb_opened 31 = .ok (.iload 4, 2) := by decide +kernel
theorem d_opened_33 : decode cb_opened 33 = .ok (.iconst (-1), 1) := by decide +kernel
theorem d_opened_34 : decode cb_opened 34 = .ok (.if_icmp .eq 27, 3) := by decide +kernel
theorem d_opened_37 : decode cb_opened 37 = .ok (.aload_n 0, 1) := by decide +kernel
theorem d_opened_38 : decode cb_opened 38 = .ok (.getfield 16, 3) := by decide +kernel
theorem d_opened_41 : decode cb_opened 41 = .ok (.iload 4, 2) := by decide +kernel
theorem d_opened_43 : decode cb_opened 43 = .ok (.iaload, 1) := by decide +kernel
theorem d_opened_44 : decode cb_opened 44 = .ok (.bipush 6, 2) := by decide +kernel
theorem d_opened_46 : decode cb_opened 46 = .ok (.if_icmp .eq 15, 3) := by decide +kernel
theorem d_opened_49 : decode cb_opened 49 = .ok (.aload_n 0, 1) := by decide +kernel
theorem d_opened_50 : decode cb_opened 50 = .ok (.aload_n 0, 1) := by decide +kernel
theorem d_opened_51 : decode cb_opened 51 = .ok (.getfield 49, 3) := by decide +kernel
theorem d_opened_54 : decode cb_opened 54 = .ok (.iload_n 3, 1) := by decide +kernel
theorem d_opened_55 : decode cb_opened 55 = .ok (.iaload, 1) := by decide +kernel
theorem d_opened_56 : decode cb_opened 56 = .ok (.putfield 79, 3) := by decide +kernel
theorem d_opened_59 : decode cb_opened 59 = .ok (.iconst (-1), 1) := by decide +kernel
theorem d_opened_60 : decode cb_opened 60 = .ok (.ireturn, 1) := by decide +kernel
theorem d_opened_61 : decode cb_opened 61 = .ok (.aload_n 0, 1) := by decide +kernel
theorem d_opened_62 : decode cb_opened 62 = .ok (.bipush 7, 2) := by decide +kernel
theorem d_opened_64 : decode cb_opened 64 = .ok (.iload 4, 2) := by decide +kernel
theorem d_opened_66 : decode cb_opened 66 = .ok (.iconst (-1), 1) := by decide +kernel
theorem d_opened_67 : decode cb_opened 67 = .ok (.if_icmp .ne 18, 3) := by decide +kernel
theorem d_opened_70 : decode cb_opened 70 = .ok (.aload_n 0, 1) := by decide +kernel
theorem d_opened_71 : decode cb_opened 71 = .ok (.aload_n 0, 1) := by decide +kernel
theorem d_opened_72 : decode cb_opened 72 = .ok (.bipush 6, 2) := by decide +kernel
theorem d_opened_74 : decode cb_opened 74 = .ok (.iload_n 2, 1) := by decide +kernel
theorem d_opened_75 : decode cb_opened 75 = .ok (.invokevirtual 136, 3) := by decide +kernel
theorem d_opened_78 : decode cb_opened 78 = .ok (.iload_n 3, 1) := by decide +kernel
theorem d_opened_79 : decode cb_opened 79 = .ok (.invokevirtual 139, 3) := by decide +kernel
theorem d_opened_82 : decode cb_opened 82 = .ok (.goto 5, 3) := by decide +kernel
theorem d_opened_85 : decode cb_opened 85 = .ok (.iload 4, 2) := by decide +kernel
theorem d_opened_87 : decode cb_opened 87 = .ok (.invokevirtual 136, 3) := by decide +kernel
theorem d_opened_90 : decode cb_opened 90 = .ok (.ireturn, 1) := by decide +kernel
theorem d_opened_91 : decode cb_opened 91 = .ok (.iload 4, 2) := by decide +kernel
theorem d_opened_93 : decode cb_opened 93 = .ok (.iconst (-1), 1) := by decide +kernel
theorem d_opened_94 : decode cb_opened 94 = .ok (.if_icmp .ne 16, 3) := by decide +kernel
theorem d_opened_97 : decode cb_opened 97 = .ok (.aload_n 0, 1) := by decide +kernel
theorem d_opened_98 : decode cb_opened 98 = .ok (.aload_n 0, 1) := by decide +kernel
theorem d_opened_99 : decode cb_opened 99 = .ok (.bipush 7, 2) := by decide +kernel
theorem d_opened_101 : decode cb_opened 101 = .ok (.iload_n 2, 1) := by decide +kernel
theorem d_opened_102 : decode cb_opened 102 = .ok (.invokevirtual 136, 3) := by decide +kernel
theorem d_opened_105 : decode cb_opened 105 = .ok (.iload_n 3, 1) := by decide +kernel
theorem d_opened_106 : decode cb_opened 106 = .ok (.invokevirtual 139, 3) := by decide +kernel
theorem d_opened_109 : decode cb_opened 109 = .ok (.ireturn, 1) := by decide +kernel
theorem d_opened_110 : decode cb_opened 110 = .ok (.aload_n 0, 1) := by decide +kernel
theorem d_opened_111 : decode cb_opened 111 = .ok (.getfield 16, 3) := by decide +kernel
theorem d_opened_114 : decode cb_opened 114 = .ok (.iload 4, 2) := by decide +kernel
theorem d_opened_116 : decode cb_opened 116 = .ok (.iaload, 1) := by decide +kernel
theorem d_opened_117 : decode cb_opened 117 = .ok (.bipush 8, 2) := by decide +kernel
theorem d_opened_119 : decode cb_opened 119 = .ok (.if_icmp .eq 15, 3) := by decide +kernel
theorem d_opened_122 : decode cb_opened 122 = .ok (.aload_n 0, 1) := by decide +kernel
theorem d_opened_123 : decode cb_opened 123 = .ok (.aload_n 0, 1) := by decide +kernel
theorem d_opened_124 : decode cb_opened 124 = .ok (.getfield 49, 3) := by decide +kernel
theorem d_opened_127 : decode cb_opened 127 = .ok (.iload_n 3, 1) := by decide +kernel
theorem d_opened_128 : decode cb_opened 128 = .ok (.iaload, 1) := by decide +kernel
theorem d_opened_129 : decode cb_opened 129 = .ok (.putfield 79, 3) := by decide +kernel
theorem d_opened_132 : decode cb_opened 132 = .ok (.iconst (-1), 1) := by decide +kernel
theorem d_opened_133 : decode cb_opened 133 = .ok (.ireturn, 1) := by decide +kernel
theorem d_opened_134 : decode cb_opened 134 = .ok (.aload_n 0, 1) := by decide +kernel
theorem d_opened_135 : decode cb_opened 135 = .ok (.getfield 16, 3) := by decide +kernel
theorem d_opened_138 : decode cb_opened 138 = .ok (.iload 4, 2) := by decide +kernel
theorem d_opened_140 : decode cb_opened 140 = .ok (.bipush 7, 2) := by decide +kernel
theorem d_opened_142 : decode cb_opened 142 = .ok (.iastore, 1) := by decide +kernel
theorem d_opened_143 : decode cb_opened 143 = .ok (.iload 4, 2) := by decide +kernel
theorem d_opened_145 : decode cb_opened 145 = .ok (.ireturn, 1) := by decide +kernel
theorem d_digitOf_0 : decode cb_digitOf 0 = .ok (.aload_n 0, 1) := by decide +kernel
theorem d_digitOf_1 : decode cb_digitOf 1 = .ok (.iload_n 1, 1) := by decide +kernel
theorem d_digitOf_2 : decode cb_digitOf 2 = .ok (.invokevirtual 89, 3) := by decide +kernel
theorem d_digitOf_5 : decode cb_digitOf 5 = .ok (.ifCond .eq 10, 3) := by decide +kernel
theorem d_digitOf_8 : decode cb_digitOf 8 = .ok (.iload_n 1, 1) := by decide +kernel
theorem d_digitOf_9 : decode cb_digitOf 9 = .ok (.bipush 48, 2) := by decide +kernel
theorem d_digitOf_11 : decode cb_digitOf 11 = .ok (.isub, 1) := by decide +kernel
theorem d_digitOf_12 : decode cb_digitOf 12 = .ok (.goto 23, 3) := by decide +kernel
theorem d_digitOf_15 : decode cb_digitOf 15 = .ok (.iload_n 1, 1) := by decide +kernel
theorem d_digitOf_16 : decode cb_digitOf 16 = .ok (.bipush 97, 2) := by decide +kernel
theorem d_digitOf_18 : decode cb_digitOf 18 = .ok (.if_icmp .lt 16, 3) := by decide +kernel
theorem d_digitOf_21 : decode cb_digitOf 21 = .ok (.iload_n 1, 1) := by decide +kernel
theorem d_digitOf_22 : decode cb_digitOf 22 = .ok (.bipush 102, 2) := by decide +kernel
theorem d_digitOf_24 : decode cb_digitOf 24 = .ok (.if_icmp .gt 10, 3) := by decide +kernel
theorem d_digitOf_27 : decode cb_digitOf 27 = .ok (.iload_n 1, 1) := by decide +kernel
theorem d_digitOf_28 : decode cb_digitOf 28 = .ok (.bipush 87, 2) := by decide +kernel
theorem d_digitOf_30 : decode cb_digitOf 30 = .ok (.isub, 1) := by decide +kernel
theorem d_digitOf_31 : decode cb_digitOf 31 = .ok (.goto 4, 3) := by decide +kernel
theorem d_digitOf_34 : decode cb_digitOf 34 = .ok (.iconst (-1), 1) := by decide +kernel
theorem d_digitOf_35 : decode cb_digitOf 35 = .ok (.ireturn, 1) := by decide +kernel
theorem d_digits_0 : decode cb_digits 0 = .ok (.iconst 0, 1) := by decide +kernel
theorem d_digits_1 : decode cb_digits 1 = .ok (.istore_n 3, 1) := by decide +kernel
theorem d_digits_2 : decode cb_digits 2 = .ok (.iconst 0, 1) := by decide +kernel
theorem d_digits_3 : decode cb_digits 3 = .ok (.istore 4, 2) := by decide +kernel
theorem d_digits_5 : decode cb_digits 5 = .ok (.iconst 1, 1) := by decide +kernel
theorem d_digits_6 : decode cb_digits 6 = .ok (.istore 5, 2) := by decide +kernel
theorem d_digits_8 : decode cb_digits 8 = .ok (.iload 5, 2) := by decide +kernel
theorem d_digits_10 : decode cb_digits 10 = .ok (.ifCond .eq 130, 3) := by decide +kernel
theorem d_digits_13 : decode cb_digits 13 = .ok (.aload_n 0, 1) := by decide +kernel
theorem d_digits_14 : decode cb_digits 14 = .ok (.aload_n 0, 1) := by decide +kernel
theorem d_digits_15 : decode cb_digits 15 = .ok (.invokevirtual 82, 3) := by decide +kernel
theorem d_digits_18 : decode cb_digits 18 = .ok (.invokevirtual 148, 3) := by decide +kernel
theorem d_digits_21 : decode cb_digits 21 = .ok (.istore 6, 2) := by decide +kernel
theorem d_digits_23 : decode cb_digits 23 = .ok (.iload 6, 2) := by decide +kernel
theorem d_digits_25 : decode cb_digits 25 = .ok (.iconst (-1), 1) := by decide +kernel
theorem d_digits_26 : decode cb_digits 26 = .ok (.if_icmp .eq 14, 3) := by decide +kernel
theorem d_digits_29 : decode cb_digits 29 = .ok (.iload 6, 2) := by decide +kernel
theorem d_digits_31 : decode cb_digits 31 = .ok (.iload_n 1, 1) := by decide +kernel
theorem d_digits_32 : decode cb_digits 32 = .ok (.if_icmp .ge 8, 3) := by decide +kernel
theorem d_digits_35 : decode cb_digits 35 = .ok (.iload_n 3, 1) := by decide +kernel
theorem d_digits_36 : decode cb_digits 36 = .ok (.iload_n 2, 1) := by decide +kernel
theorem d_digits_37 : decode cb_digits 37 = .ok (.if_icmp .ne 13, 3) := by decide +kernel
theorem d_digits_40 : decode cb_digits 40 = .ok (.aload_n 0, 1) := by decide +kernel
theorem d_digits_41 : decode cb_digits 41 = .ok (.aload_n 0, 1) := by decide +kernel
theorem d_digits_42 : decode cb_digits 42 = .ok (.getfield 76, 3) := by decide +kernel
theorem d_digits_45 : decode cb_digits 45 = .ok (.putfield 79, 3) := by decide +kernel
theorem d_digits_48 : decode cb_digits 48 = .ok (.iconst (-1), 1) := by decide +kernel
theorem d_digits_49 : decode cb_digits 49 = .ok (.ireturn, 1) := by decide +kernel
theorem d_digits_50 : decode cb_digits 50 = .ok (.iload_n 1, 1) := by decide +kernel
theorem d_digits_51 : decode cb_digits 51 = .ok (.iload 4, 2) := by decide +kernel
theorem d_digits_53 : decode cb_digits 53 = .ok (.imul, 1) := by decide +kernel
theorem d_digits_54 : decode cb_digits 54 = .ok (.iload 6, 2) := by decide +kernel
theorem d_digits_56 : decode cb_digits 56 = .ok (.iadd, 1) := by decide +kernel
theorem d_digits_57 : decode cb_digits 57 = .ok (.istore 4, 2) := by decide +kernel
theorem d_digits_59 : decode cb_digits 59 = .ok (.iinc 3 1, 3) := by decide +kernel
theorem d_digits_62 : decode cb_digits 62 = .ok (.aload_n 0, 1) := by decide +kernel
theorem d_digits_63 : decode cb_digits 63 = .ok (.dup, 1) := by decide +kernel
theorem d_digits_64 : decode cb_digits 64 = .ok (.getfield 76, 3) := by decide +kernel
theorem d_digits_67 : decode cb_digits 67 = .ok (.iconst 1, 1) := by decide +kernel
theorem d_digits_68 : decode cb_digits 68 = .ok (.iadd, 1) := by decide +kernel
theorem d_digits_69 : decode cb_digits 69 = .ok (.putfield 76, 3) := by decide +kernel
theorem d_digits_72 : decode cb_digits 72 = .ok (.aload_n 0, 1) := by decide +kernel
theorem d_digits_73 : decode cb_digits 73 = .ok (.invokevirtual 82, 3) := by decide +kernel
theorem d_digits_76 : decode cb_digits 76 = .ok (.bipush 95, 2) := by decide +kernel
theorem d_digits_78 : decode cb_digits 78 = .ok (.if_icmp .ne 7, 3) := by decide +kernel
theorem d_digits_81 : decode cb_digits 81 = .ok (.iconst 1, 1) := by decide +kernel
theorem d_digits_82 : decode cb_digits 82 = .ok (.goto 4, 3) := by decide +kernel
theorem d_digits_85 : decode cb_digits 85 = .ok (.iconst 0, 1) := by decide +kernel
theorem d_digits_86 : decode cb_digits 86 = .ok (.istore 7, 2) := by decide +kernel
theorem d_digits_88 : decode cb_digits 88 = .ok (.iload 7, 2) := by decide +kernel
theorem d_digits_90 : decode cb_digits 90 = .ok (.ifCond .eq 13, 3) := by decide +kernel
theorem d_digits_93 : decode cb_digits 93 = .ok (.aload_n 0, 1) := by decide +kernel
theorem d_digits_94 : decode cb_digits 94 = .ok (.dup, 1) := by decide +kernel
theorem d_digits_95 : decode cb_digits 95 = .ok (.getfield 76, 3) := by decide +kernel
theorem d_digits_98 : decode cb_digits 98 = .ok (.iconst 1, 1) := by decide +kernel
theorem d_digits_99 : decode cb_digits 99 = .ok (.iadd, 1) := by decide +kernel
theorem d_digits_100 : decode cb_digits 100 = .ok (.putfield 76, 3) := by decide +kernel
theorem d_digits_103 : decode cb_digits 103 = .ok (.aload_n 0, 1) := by decide +kernel
theorem d_digits_104 : decode cb_digits 104 = .ok (.aload_n 0, 1) := by decide +kernel
theorem d_digits_105 : decode cb_digits 105 = .ok (.invokevirtual 82, 3) := by decide +kernel
theorem d_digits_108 : decode cb_digits 108 = .ok (.invokevirtual 148, 3) := by decide +kernel
theorem d_digits_111 : decode cb_digits 111 = .ok (.istore 8, 2) := by decide +kernel
theorem d_digits_113 : decode cb_digits 113 = .ok (.iload 7, 2) := by decide +kernel
theorem d_digits_115 : decode cb_digits 115 = .ok (.ifCond .ne 15, 3) := by decide +kernel
theorem d_digits_118 : decode cb_digits 118 = .ok (.iload 8, 2) := by decide +kernel
theorem d_digits_120 : decode cb_digits 120 = .ok (.iconst (-1), 1) := by decide +kernel
theorem d_digits_121 : decode cb_digits 121 = .ok (.if_icmp .eq 13, 3) := by decide +kernel
theorem d_digits_124 : decode cb_digits 124 = .ok (.iload 8, 2) := by decide +kernel
theorem d_digits_126 : decode cb_digits 126 = .ok (.iload_n 1, 1) := by decide +kernel
theorem d_digits_127 : decode cb_digits 127 = .ok (.if_icmp .ge 7, 3) := by decide +kernel
theorem d_digits_130 : decode cb_digits 130 = .ok (.iconst 1, 1) := by decide +kernel
theorem d_digits_131 : decode cb_digits 131 = .ok (.goto 4, 3) := by decide +kernel
theorem d_digits_134 : decode cb_digits 134 = .ok (.iconst 0, 1) := by decide +kernel
theorem d_digits_135 : decode cb_digits 135 = .ok (.istore 5, 2) := by decide +kernel
theorem d_digits_137 : decode cb_digits 137 = .ok (.goto (-129), 3) := by decide +kernel
theorem d_digits_140 : decode cb_digits 140 = .ok (.iload 4, 2) := by decide +kernel
theorem d_digits_142 : decode cb_digits 142 = .ok (.ireturn, 1) := by decide +kernel
theorem d_number_0 : decode cb_number 0 = .ok (.aload_n 0, 1) := by decide +kernel
theorem d_number_1 : decode cb_number 1 = .ok (.invokevirtual 82, 3) := by decide +kernel
theorem d_number_4 : decode cb_number 4 = .ok (.istore_n 2, 1) := by decide +kernel
theorem d_number_5 : decode cb_number 5 = .ok (.iload_n 2, 1) := by decide +kernel
theorem d_number_6 : decode cb_number 6 = .ok (.bipush 43, 2) := by decide +kernel
theorem d_number_8 : decode cb_number 8 = .ok (.if_icmp .eq 9, 3) := by decide +kernel
theorem d_number_11 : decode cb_number 11 = .ok (.iload_n 2, 1) := by decide +kernel
theorem d_number_12 : decode cb_number 12 = .ok (.bipush 45, 2) := by decide +kernel
theorem d_number_14 : decode cb_number 14 = .ok (.if_icmp .ne 7, 3) := by decide +kernel
theorem d_number_17 : decode cb_number 17 = .ok (.iconst 1, 1) := by decide +kernel
theorem d_number_18 : decode cb_number 18 = .ok (.goto 4, 3) := by decide +kernel
theorem d_number_21 : decode cb_number 21 = .ok (.iconst 0, 1) := by decide +kernel
theorem d_number_22 : decode cb_number 22 = .ok (.istore_n 3, 1) := by decide +kernel
theorem d_number_23 : decode cb_number 23 = .ok (.iload_n 3, 1) := by decide +kernel
theorem d_number_24 : decode cb_number 24 = .ok (.ifCond .eq 13, 3) := by decide +kernel
theorem d_number_27 : decode cb_number 27 = .ok (.aload_n 0, 1) := by decide +kernel
theorem d_number_28 : decode cb_number 28 = .ok (.dup, 1) := by decide +kernel
theorem d_number_29 : decode cb_number 29 = .ok (.getfield 76, 3) := by decide +kernel
theorem d_number_32 : decode cb_number 32 = .ok (.iconst 1, 1) := by decide +kernel
theorem d_number_33 : decode cb_number 33 = .ok (.iadd, 1) := by decide +kernel
theorem d_number_34 : decode cb_number 34 = .ok (.putfield 76, 3) := by decide +kernel
theorem d_number_37 : decode cb_number 37 = .ok (.iconst 0, 1) := by decide +kernel
theorem d_number_38 : decode cb_number 38 = .ok (.istore 4, 2) := by decide +kernel
theorem d_number_40 : decode cb_number 40 = .ok (.aload_n 0, 1) := by decide +kernel
theorem d_number_41 : decode cb_number 41 = .ok (.invokevirtual 82, 3) := by decide +kernel
theorem d_number_44 : decode cb_number 44 = .ok (.bipush 48, 2) := by decide +kernel
theorem d_number_46 : decode cb_number 46 = .ok (.if_icmp .ne 93, 3) := by decide +kernel
theorem d_number_49 : decode cb_number 49 = .ok (.aload_n 0, 1) := by decide +kernel
theorem d_number_50 : decode cb_number 50 = .ok (.dup, 1) := by decide +kernel
theorem d_number_51 : decode cb_number 51 = .ok (.getfield 76, 3) := by decide +kernel
theorem d_number_54 : decode cb_number 54 = .ok (.iconst 1, 1) := by decide +kernel
theorem d_number_55 : decode cb_number 55 = .ok (.iadd, 1) := by decide +kernel
theorem d_number_56 : decode cb_number 56 = .ok (.putfield 76, 3) := by decide +kernel
theorem d_number_59 : decode cb_number 59 = .ok (.iload_n 3, 1) := by decide +kernel
theorem d_number_60 : decode cb_number 60 = .ok (.ifCond .ne 16, 3) := by decide +kernel
theorem d_number_63 : decode cb_number 63 = .ok (.aload_n 0, 1) := by decide +kernel
theorem d_number_64 : decode cb_number 64 = .ok (.invokevirtual 82, 3) := by decide +kernel
theorem d_number_67 : decode cb_number 67 = .ok (.bipush 120, 2) := by decide +kernel
theorem d_number_69 : decode cb_number 69 = .ok (.if_icmp .ne 7, 3) := by decide +kernel
theorem d_number_72 : decode cb_number 72 = .ok (.iconst 1, 1) := by decide +kernel
theorem d_number_73 : decode cb_number 73 = .ok (.goto 4, 3) := by decide +kernel
theorem d_number_76 : decode cb_number 76 = .ok (.iconst 0, 1) := by decide +kernel
theorem d_number_77 : decode cb_number 77 = .ok (.istore 5, 2) := by decide +kernel
theorem d_number_79 : decode cb_number 79 = .ok (.iload 5, 2) := by decide +kernel
theorem d_number_81 : decode cb_number 81 = .ok (.ifCond .eq 26, 3) := by decide +kernel
theorem d_number_84 : decode cb_number 84 = .ok (.aload_n 0, 1) := by decide +kernel
theorem d_number_85 : decode cb_number 85 = .ok (.dup, 1) := by decide +kernel
theorem d_number_86 : decode cb_number 86 = .ok (.getfield 76, 3) := by decide +kernel
theorem d_number_89 : decode cb_number 89 = .ok (.iconst 1, 1) := by decide +kernel
theorem d_number_90 : decode cb_number 90 = .ok (.iadd, 1) := by decide +kernel
theorem d_number_91 : decode cb_number 91 = .ok (.putfield 76, 3) := by decide +kernel
theorem d_number_94 : decode cb_number 94 = .ok (.aload_n 0, 1) := by decide +kernel
theorem d_number_95 : decode cb_number 95 = .ok (.bipush 16, 2) := by decide +kernel
theorem d_number_97 : decode cb_number 97 = .ok (.bipush 7, 2) := by decide +kernel
theorem d_number_99 : decode cb_number 99 = .ok (.invokevirtual 151, 3) := by decide +kernel
theorem d_number_102 : decode cb_number 102 = .ok (.istore 4, 2) := by decide +kernel
theorem d_number_104 : decode cb_number 104 = .ok (.goto 32, 3) := by decide +kernel
theorem d_number_107 : decode cb_number 107 = .ok (.aload_n 0, 1) := by decide +kernel
theorem d_number_108 : decode cb_number 108 = .ok (.aload_n 0, 1) := by decide +kernel
theorem d_number_109 : decode cb_number 109 = .ok (.invokevirtual 82, 3) := by decide +kernel
theorem d_number_112 : decode cb_number 112 = .ok (.invokevirtual 89, 3) := by decide +kernel
theorem d_number_115 : decode cb_number 115 = .ok (.ifCond .ne 12, 3) := by decide +kernel
theorem d_number_118 : decode cb_number 118 = .ok (.aload_n 0, 1) := by decide +kernel
theorem d_number_119 : decode cb_number 119 = .ok (.invokevirtual 82, 3) := by decide +kernel
theorem d_number_122 : decode cb_number 122 = .ok (.bipush 95, 2) := by decide +kernel
theorem d_number_124 : decode cb_number 124 = .ok (.if_icmp .ne 12, 3) := by decide +kernel
theorem d_number_127 : decode cb_number 127 = .ok (.aload_n 0, 1) := by decide +kernel
theorem d_number_128 : decode cb_number 128 = .ok (.aload_n 0, 1) := by decide +kernel
theorem d_number_129 : decode cb_number 129 = .ok (.getfield 76, 3) := by decide +kernel
theorem d_number_132 : decode cb_number 132 = .ok (.invokevirtual 102, 3) := by decide +kernel
theorem d_number_135 : decode cb_number 135 = .ok (.ireturn, 1) := by decide +kernel
theorem d_number_136 : decode cb_number 136 = .ok (.goto 13, 3) := by decide +kernel
theorem d_number_139 : decode cb_number 139 = .ok (.aload_n 0, 1) := by decide +kernel
theorem d_number_140 : decode cb_number 140 = .ok (.bipush 10, 2) := by decide +kernel
theorem d_number_142 : decode cb_number 142 = .ok (.bipush 9, 2) := by decide +kernel
theorem d_number_144 : decode cb_number 144 = .ok (.invokevirtual 151, 3) := by decide +kernel
theorem d_number_147 : decode cb_number 147 = .ok (.istore 4, 2) := by decide +kernel
theorem d_number_149 : decode cb_number 149 = .ok (.aload_n 0, 1) := by decide +kernel
theorem d_number_150 : decode cb_number 150 = .ok (.getfield 16, 3) := by decide +kernel
theorem d_number_153 : decode cb_number 153 = .ok (.iload_n 1, 1) := by decide +kernel
theorem d_number_154 : decode cb_number 154 = .ok (.iconst 1, 1) := by decide +kernel
theorem d_number_155 : decode cb_number 155 = .ok (.iastore, 1) := by decide +kernel
theorem d_number_156 : decode cb_number 156 = .ok (.aload_n 0, 1) := by decide +kernel
theorem d_number_157 : decode cb_number 157 = .ok (.getfield 19, 3) := by decide +kernel
theorem d_number_160 : decode cb_number 160 = .ok (.iload_n 1, 1) := by decide +kernel
theorem d_number_161 : decode cb_number 161 = .ok (.iload_n 2, 1) := by decide +kernel
theorem d_number_162 : decode cb_number 162 = .ok (.bipush 45, 2) := by decide +kernel
theorem d_number_164 : decode cb_number 164 = .ok (.if_icmp .ne 9, 3) := by decide +kernel
theorem d_number_167 : decode cb_number 167 = .ok (.iload 4, 2) := by decide +kernel
theorem d_number_169 : decode cb_number 169 = .ok (.ineg, 1) := by decide +kernel
theorem d_number_170 : decode cb_number 170 = .ok (.goto 5, 3) := by decide +kernel
theorem d_number_173 : decode cb_number 173 = .ok (.iload 4, 2) := by decide +kernel
theorem d_number_175 : decode cb_number 175 = .ok (.iastore, 1) := by decide +kernel
theorem d_number_176 : decode cb_number 176 = .ok (.aload_n 0, 1) := by decide +kernel
theorem d_number_177 : decode cb_number 177 = .ok (.getfield 79, 3) := by decide +kernel
theorem d_number_180 : decode cb_number 180 = .ok (.iconst (-1), 1) := by decide +kernel
theorem d_number_181 : decode cb_number 181 = .ok (.if_icmp .ne 7, 3) := by decide +kernel
theorem d_number_184 : decode cb_number 184 = .ok (.iconst 1, 1) := by decide +kernel
theorem d_number_185 : decode cb_number 185 = .ok (.goto 4, 3) := by decide +kernel
theorem d_number_188 : decode cb_number 188 = .ok (.iconst 0, 1) := by decide +kernel
theorem d_number_189 : decode cb_number 189 = .ok (.ireturn, 1) := by decide +kernel
theorem d_isDate_0 : decode cb_isDate 0 = .ok (.aload_n 0, 1) := by decide +kernel
theorem d_isDate_1 : decode cb_isDate 1 = .ok (.getfield 76, 3) := by decide +kernel
theorem d_isDate_4 : decode cb_isDate 4 = .ok (.iconst 4, 1) := by decide +kernel
theorem d_isDate_5 : decode cb_isDate 5 = .ok (.iadd, 1) := by decide +kernel
theorem d_isDate_6 : decode cb_isDate 6 = .ok (.aload_n 0, 1) := by decide +kernel
theorem d_isDate_7 : decode cb_isDate 7 = .ok (.getfield 73, 3) := by decide +kernel
theorem d_isDate_10 : decode cb_isDate 10 = .ok (.if_icmp .ge 7, 3) := by decide +kernel
theorem d_isDate_13 : decode cb_isDate 13 = .ok (.iconst 1, 1) := by decide +kernel
theorem d_isDate_14 : decode cb_isDate 14 = .ok (.goto 4, 3) := by decide +kernel
theorem d_isDate_17 : decode cb_isDate 17 = .ok (.iconst 0, 1) := by decide +kernel
theorem d_isDate_18 : decode cb_isDate 18 = .ok (.istore_n 1, 1) := by decide +kernel
theorem d_isDate_19 : decode cb_isDate 19 = .ok (.iconst 0, 1) := by decide +kernel
theorem d_isDate_20 : decode cb_isDate 20 = .ok (.istore_n 2, 1) := by decide +kernel
theorem d_isDate_21 : decode cb_isDate 21 = .ok (.iload_n 2, 1) := by decide +kernel
theorem d_isDate_22 : decode cb_isDate 22 = .ok (.iconst 4, 1) := by decide +kernel
theorem d_isDate_23 : decode cb_isDate 23 = .ok (.if_icmp .ge 29, 3) := by decide +kernel
theorem d_isDate_26 : decode cb_isDate 26 = .ok (.iload_n 1, 1) := by decide +kernel
theorem d_isDate_27 : decode cb_isDate 27 = .ok (.ifCond .eq 25, 3) := by decide +kernel
theorem d_isDate_30 : decode cb_isDate 30 = .ok (.aload_n 0, 1) := by decide +kernel
theorem d_isDate_31 : decode cb_isDate 31 = .ok (.aload_n 0, 1) := by decide +kernel
theorem d_isDate_32 : decode cb_isDate 32 = .ok (.getfield 7, 3) := by decide +kernel
theorem d_isDate_35 : decode cb_isDate 35 = .ok (.aload_n 0, 1) := by decide +kernel
theorem d_isDate_36 : decode cb_isDate 36 = .ok (.getfield 76, 3) := by decide +kernel
theorem d_isDate_39 : decode cb_isDate 39 = .ok (.iload_n 2, 1) := by decide +kernel
theorem d_isDate_40 : decode cb_isDate 40 = .ok (.iadd, 1) := by decide +kernel
theorem d_isDate_41 : decode cb_isDate 41 = .ok (.iaload, 1) := by decide +kernel
theorem d_isDate_42 : decode cb_isDate 42 = .ok (.invokevirtual 89, 3) := by decide +kernel
theorem d_isDate_45 : decode cb_isDate 45 = .ok (.istore_n 1, 1) := by decide +kernel
theorem d_isDate_46 : decode cb_isDate 46 = .ok (.iinc 2 1, 3) := by decide +kernel
end
section
theorem d_isDate_49 : decode cb_isDate 49 = .ok (.goto (-28), 3) := by decide +kernel
theorem d_isDate_52 : decode cb_isDate 52 = .ok (.iload_n 1, 1) := by decide +kernel
theorem d_isDate_53 : decode cb_isDate 53 = .ok (.ifCond .eq 23, 3) := by decide +kernel
theorem d_isDate_56 : decode cb_isDate 56 = .ok (.aload_n 0, 1) := by decide +kernel
theorem d_isDate_57 : decode cb_isDate 57 = .ok (.getfield 7, 3) := by decide +kernel
theorem d_isDate_60 : decode cb_isDate 60 = .ok (.aload_n 0, 1) := by decide +kernel
theorem d_isDate_61 : decode cb_isDate 61 = .ok (.getfield 76, 3) := by decide +kernel
theorem d_isDate_64 : decode cb_isDate 64 = .ok (.iconst 4, 1) := by decide +kernel
theorem d_isDate_65 : decode cb_isDate 65 = .ok (.iadd, 1) := by decide +kernel
theorem d_isDate_66 : decode cb_isDate 66 = .ok (.iaload, 1) := by decide +kernel
theorem d_isDate_67 : decode cb_isDate 67 = .ok (.bipush 45, 2) := by decide +kernel
theorem d_isDate_69 : decode cb_isDate 69 = .ok (.if_icmp .ne 7, 3) := by decide +kernel
theorem d_isDate_72 : decode cb_isDate 72 = .ok (.iconst 1, 1) := by decide +kernel
theorem d_isDate_73 : decode cb_isDate 73 = .ok (.goto 4, 3) := by decide +kernel
theorem d_isDate_76 : decode cb_isDate 76 = .ok (.iconst 0, 1) := by decide +kernel
theorem d_isDate_77 : decode cb_isDate 77 = .ok (.ireturn, 1) := by decide +kernel
theorem d_two_0 : decode cb_two 0 = .ok (.iconst 0, 1) := by decide +kernel
theorem d_two_1 : decode cb_two 1 = .ok (.istore_n 1, 1) := by decide +kernel
theorem d_two_2 : decode cb_two 2 = .ok (.iconst 0, 1) := by decide +kernel
theorem d_two_3 : decode cb_two 3 = .ok (.istore_n 2, 1) := by decide +kernel
theorem d_two_4 : decode cb_two 4 = .ok (.iload_n 2, 1) := by decide +kernel
theorem d_two_5 : decode cb_two 5 = .ok (.iconst 2, 1) := by decide +kernel
theorem d_two_6 : decode cb_two 6 = .ok (.if_icmp .ge 53, 3) := by decide +kernel
theorem d_two_9 : decode cb_two 9 = .ok (.aload_n 0, 1) := by decide +kernel
theorem d_two_10 : decode cb_two 10 = .ok (.aload_n 0, 1) := by decide +kernel
theorem d_two_11 : decode cb_two 11 = .ok (.invokevirtual 82, 3) := by decide +kernel
theorem d_two_14 : decode cb_two 14 = .ok (.invokevirtual 89, 3) := by decide +kernel
theorem d_two_17 : decode cb_two 17 = .ok (.ifCond .ne 13, 3) := by decide +kernel
theorem d_two_20 : decode cb_two 20 = .ok (.aload_n 0, 1) := by decide +kernel
theorem d_two_21 : decode cb_two 21 = .ok (.aload_n 0, 1) := by decide +kernel
theorem d_two_22 : decode cb_two 22 = .ok (.getfield 76, 3) := by decide +kernel
theorem d_two_25 : decode cb_two 25 = .ok (.putfield 79, 3) := by decide +kernel
theorem d_two_28 : decode cb_two 28 = .ok (.iconst (-1), 1) := by decide +kernel
theorem d_two_29 : decode cb_two 29 = .ok (.ireturn, 1) := by decide +kernel
theorem d_two_30 : decode cb_two 30 = .ok (.bipush 10, 2) := by decide +kernel
theorem d_two_32 : decode cb_two 32 = .ok (.iload_n 1, 1) := by decide +kernel
theorem d_two_33 : decode cb_two 33 = .ok (.imul, 1) := by decide +kernel
theorem d_two_34 : decode cb_two 34 = .ok (.aload_n 0, 1) := by decide +kernel
theorem d_two_35 : decode cb_two 35 = .ok (.invokevirtual 82, 3) := by decide +kernel
theorem d_two_38 : decode cb_two 38 = .ok (.iadd, 1) := by decide +kernel
theorem d_two_39 : decode cb_two 39 = .ok (.bipush 48, 2) := by decide +kernel
theorem d_two_41 : decode cb_two 41 = .ok (.isub, 1) := by decide +kernel
theorem d_two_42 : decode cb_two 42 = .ok (.istore_n 1, 1) := by decide +kernel
theorem d_two_43 : decode cb_two 43 = .ok (.aload_n 0, 1) := by decide +kernel
theorem d_two_44 : decode cb_two 44 = .ok (.dup, 1) := by decide +kernel
theorem d_two_45 : decode cb_two 45 = .ok (.getfield 76, 3) := by decide +kernel
theorem d_two_48 : decode cb_two 48 = .ok (.iconst 1, 1) := by decide +kernel
theorem d_two_49 : decode cb_two 49 = .ok (.iadd, 1) := by decide +kernel
theorem d_two_50 : decode cb_two 50 = .ok (.putfield 76, 3) := by decide +kernel
theorem d_two_53 : decode cb_two 53 = .ok (.iinc 2 1, 3) := by decide +kernel
theorem d_two_56 : decode cb_two 56 = .ok (.goto (-52), 3) := by decide +kernel
theorem d_two_59 : decode cb_two 59 = .ok (.iload_n 1, 1) := by decide +kernel
theorem d_two_60 : decode cb_two 60 = .ok (.ireturn, 1) := by decide +kernel
theorem d_daysOf_0 : decode cb_daysOf 0 = .ok (.iload_n 2, 1) := by decide +kernel
theorem d_daysOf_1 : decode cb_daysOf 1 = .ok (.iconst 2, 1) := by decide +kernel
theorem d_daysOf_2 : decode cb_daysOf 2 = .ok (.if_icmp .ne 32, 3) := by decide +kernel
theorem d_daysOf_5 : decode cb_daysOf 5 = .ok (.iload_n 1, 1) := by decide +kernel
theorem d_daysOf_6 : decode cb_daysOf 6 = .ok (.sipush 400, 3) := by decide +kernel
theorem d_daysOf_9 : decode cb_daysOf 9 = .ok (.irem, 1) := by decide +kernel
theorem d_daysOf_10 : decode cb_daysOf 10 = .ok (.ifCond .eq 16, 3) := by decide +kernel
theorem d_daysOf_13 : decode cb_daysOf 13 = .ok (.iload_n 1, 1) := by decide +kernel
theorem d_daysOf_14 : decode cb_daysOf 14 = .ok (.iconst 4, 1) := by decide +kernel
theorem d_daysOf_15 : decode cb_daysOf 15 = .ok (.irem, 1) := by decide +kernel
theorem d_daysOf_16 : decode cb_daysOf 16 = .ok (.ifCond .ne 15, 3) := by decide +kernel
theorem d_daysOf_19 : decode cb_daysOf 19 = .ok (.iload_n 1, 1) := by decide +kernel
theorem d_daysOf_20 : decode cb_daysOf 20 = .ok (.bipush 100, 2) := by decide +kernel
theorem d_daysOf_22 : decode cb_daysOf 22 = .ok (.irem, 1) := by decide +kernel
theorem d_daysOf_23 : decode cb_daysOf 23 = .ok (.ifCond .eq 8, 3) := by decide +kernel
theorem d_daysOf_26 : decode cb_daysOf 26 = .ok (.bipush 29, 2) := by decide +kernel
theorem d_daysOf_28 : decode cb_daysOf 28 = .ok (.goto 5, 3) := by decide +kernel
theorem d_daysOf_31 : decode cb_daysOf 31 = .ok (.bipush 28, 2) := by decide +kernel
theorem d_daysOf_33 : decode cb_daysOf 33 = .ok (.ireturn, 1) := by decide +kernel
theorem d_daysOf_34 : decode cb_daysOf 34 = .ok (.iload_n 2, 1) := by decide +kernel
theorem d_daysOf_35 : decode cb_daysOf 35 = .ok (.iconst 4, 1) := by decide +kernel
theorem d_daysOf_36 : decode cb_daysOf 36 = .ok (.if_icmp .eq 21, 3) := by decide +kernel
theorem d_daysOf_39 : decode cb_daysOf 39 = .ok (.iload_n 2, 1) := by decide +kernel
theorem d_daysOf_40 : decode cb_daysOf 40 = .ok (.bipush 6, 2) := by decide +kernel
theorem d_daysOf_42 : decode cb_daysOf 42 = .ok (.if_icmp .eq 15, 3) := by decide +kernel
theorem d_daysOf_45 : decode cb_daysOf 45 = .ok (.iload_n 2, 1) := by decide +kernel
theorem d_daysOf_46 : decode cb_daysOf 46 = .ok (.bipush 9, 2) := by decide +kernel
theorem d_daysOf_48 : decode cb_daysOf 48 = .ok (.if_icmp .eq 9, 3) := by decide +kernel
theorem d_daysOf_51 : decode cb_daysOf 51 = .ok (.iload_n 2, 1) := by decide +kernel
theorem d_daysOf_52 : decode cb_daysOf 52 = .ok (.bipush 11, 2) := by decide +kernel
theorem d_daysOf_54 : decode cb_daysOf 54 = .ok (.if_icmp .ne 8, 3) := by decide +kernel
theorem d_daysOf_57 : decode cb_daysOf 57 = .ok (.bipush 30, 2) := by decide +kernel
theorem d_daysOf_59 : decode cb_daysOf 59 = .ok (.goto 5, 3) := by decide +kernel
theorem d_daysOf_62 : decode cb_daysOf 62 = .ok (.bipush 31, 2) := by decide +kernel
theorem d_daysOf_64 : decode cb_daysOf 64 = .ok (.ireturn, 1) := by decide +kernel
theorem d_date_0 : decode cb_date 0 = .ok (.iconst 0, 1) := by decide +kernel
theorem d_date_1 : decode cb_date 1 = .ok (.istore_n 2, 1) := by decide +kernel
theorem d_date_2 : decode cb_date 2 = .ok (.iconst 0, 1) := by decide +kernel
theorem d_date_3 : decode cb_date 3 = .ok (.istore_n 3, 1) := by decide +kernel
theorem d_date_4 : decode cb_date 4 = .ok (.iload_n 3, 1) := by decide +kernel
theorem d_date_5 : decode cb_date 5 = .ok (.iconst 4, 1) := by decide +kernel
theorem d_date_6 : decode cb_date 6 = .ok (.if_icmp .ge 32, 3) := by decide +kernel
theorem d_date_9 : decode cb_date 9 = .ok (.bipush 10, 2) := by decide +kernel
theorem d_date_11 : decode cb_date 11 = .ok (.iload_n 2, 1) := by decide +kernel
theorem d_date_12 : decode cb_date 12 = .ok (.imul, 1) := by decide +kernel
theorem d_date_13 : decode cb_date 13 = .ok (.aload_n 0, 1) := by decide +kernel
theorem d_date_14 : decode cb_date 14 = .ok (.invokevirtual 82, 3) := by decide +kernel
theorem d_date_17 : decode cb_date 17 = .ok (.iadd, 1) := by decide +kernel
theorem d_date_18 : decode cb_date 18 = .ok (.bipush 48, 2) := by decide +kernel
theorem d_date_20 : decode cb_date 20 = .ok (.isub, 1) := by decide +kernel
theorem d_date_21 : decode cb_date 21 = .ok (.istore_n 2, 1) := by decide +kernel
theorem d_date_22 : decode cb_date 22 = .ok (.aload_n 0, 1) := by decide +kernel
theorem d_date_23 : decode cb_date 23 = .ok (.dup, 1) := by decide +kernel
theorem d_date_24 : decode cb_date 24 = .ok (.getfield 76, 3) := by decide +kernel
theorem d_date_27 : decode cb_date 27 = .ok (.iconst 1, 1) := by decide +kernel
theorem d_date_28 : decode cb_date 28 = .ok (.iadd, 1) := by decide +kernel
theorem d_date_29 : decode cb_date 29 = .ok (.putfield 76, 3) := by decide +kernel
theorem d_date_32 : decode cb_date 32 = .ok (.iinc 3 1, 3) := by decide +kernel
theorem d_date_35 : decode cb_date 35 = .ok (.goto (-31), 3) := by decide +kernel
theorem d_date_38 : decode cb_date 38 = .ok (.aload_n 0, 1) := by decide +kernel
theorem d_date_39 : decode cb_date 39 = .ok (.dup, 1) := by decide +kernel
theorem d_date_40 : decode cb_date 40 = .ok (.getfield 76, 3) := by decide +kernel
theorem d_date_43 : decode cb_date 43 = .ok (.iconst 1, 1) := by decide +kernel
theorem d_date_44 : decode cb_date 44 = .ok (.iadd, 1) := by decide +kernel
theorem d_date_45 : decode cb_date 45 = .ok (.putfield 76, 3) := by decide +kernel
theorem d_date_48 : decode cb_date 48 = .ok (.aload_n 0, 1) := by decide +kernel
theorem d_date_49 : decode cb_date 49 = .ok (.invokevirtual 154, 3) := by decide +kernel
theorem d_date_52 : decode cb_date 52 = .ok (.istore_n 3, 1) := by decide +kernel
theorem d_date_53 : decode cb_date 53 = .ok (.iload_n 3, 1) := by decide +kernel
theorem d_date_54 : decode cb_date 54 = .ok (.iconst (-1), 1) := by decide +kernel
theorem d_date_55 : decode cb_date 55 = .ok (.if_icmp .ne 5, 3) := by decide +kernel
theorem d_date_58 : decode cb_date 58 = .ok (.iconst 0, 1) := by decide +kernel
theorem d_date_59 : decode cb_date 59 = .ok (.ireturn, 1) := by decide +kernel
theorem d_date_60 : decode cb_date 60 = .ok (.iload_n 3, 1) := by decide +kernel
theorem d_date_61 : decode cb_date 61 = .ok (.iconst 1, 1) := by decide +kernel
theorem d_date_62 : decode cb_date 62 = .ok (.if_icmp .lt 9, 3) := by decide +kernel
theorem d_date_65 : decode cb_date 65 = .ok (.iload_n 3, 1) := by decide +kernel
theorem d_date_66 : decode cb_date 66 = .ok (.bipush 12, 2) := by decide +kernel
theorem d_date_68 : decode cb_date 68 = .ok (.if_icmp .le 14, 3) := by decide +kernel
theorem d_date_71 : decode cb_date 71 = .ok (.aload_n 0, 1) := by decide +kernel
theorem d_date_72 : decode cb_date 72 = .ok (.aload_n 0, 1) := by decide +kernel
theorem d_date_73 : decode cb_date 73 = .ok (.getfield 76, 3) := by decide +kernel
theorem d_date_76 : decode cb_date 76 = .ok (.iconst 2, 1) := by decide +kernel
theorem d_date_77 : decode cb_date 77 = .ok (.isub, 1) := by decide +kernel
theorem d_date_78 : decode cb_date 78 = .ok (.invokevirtual 102, 3) := by decide +kernel
theorem d_date_81 : decode cb_date 81 = .ok (.ireturn, 1) := by decide +kernel
theorem d_date_82 : decode cb_date 82 = .ok (.aload_n 0, 1) := by decide +kernel
theorem d_date_83 : decode cb_date 83 = .ok (.invokevirtual 82, 3) := by decide +kernel
theorem d_date_86 : decode cb_date 86 = .ok (.bipush 45, 2) := by decide +kernel
theorem d_date_88 : decode cb_date 88 = .ok (.if_icmp .eq 12, 3) := by decide +kernel
theorem d_date_91 : decode cb_date 91 = .ok (.aload_n 0, 1) := by decide +kernel
theorem d_date_92 : decode cb_date 92 = .ok (.aload_n 0, 1) := by decide +kernel
theorem d_date_93 : decode cb_date 93 = .ok (.getfield 76, 3) := by decide +kernel
theorem d_date_96 : decode cb_date 96 = .ok (.invokevirtual 102, 3) := by decide +kernel
theorem d_date_99 : decode cb_date 99 = .ok (.ireturn, 1) := by decide +kernel
theorem d_date_100 : decode cb_date 100 = .ok (.aload_n 0, 1) := by decide +kernel
theorem d_date_101 : decode cb_date 101 = .ok (.dup, 1) := by decide +kernel
theorem d_date_102 : decode cb_date 102 = .ok (.getfield 76, 3) := by decide +kernel
theorem d_date_105 : decode cb_date 105 = .ok (.iconst 1, 1) := by decide +kernel
theorem d_date_106 : decode cb_date 106 = .ok (.iadd, 1) := by decide +kernel
theorem d_date_107 : decode cb_date 107 = .ok (.putfield 76, 3) := by decide +kernel
theorem d_date_110 : decode cb_date 110 = .ok (.aload_n 0, 1) := by decide +kernel
theorem d_date_111 : decode cb_date 111 = .ok (.invokevirtual 154, 3) := by decide +kernel
theorem d_date_114 : decode cb_date 114 = .ok (.istore 4, 2) := by decide +kernel
theorem d_date_116 : decode cb_date 116 = .ok (.iload 4, 2) := by decide +kernel
theorem d_date_118 : decode cb_date 118 = .ok (.iconst (-1), 1) := by decide +kernel
theorem d_date_119 : decode cb_date 119 = .ok (.if_icmp .ne 5, 3) := by decide +kernel
theorem d_date_122 : decode cb_date 122 = .ok (.iconst 0, 1) := by decide +kernel
theorem d_date_123 : decode cb_date 123 = .ok (.ireturn, 1) := by decide +kernel
theorem d_date_124 : decode cb_date 124 = .ok (.iload 4, 2) := by decide +kernel
theorem d_date_126 : decode cb_date 126 = .ok (.iconst 1, 1) := by decide +kernel
theorem d_date_127 : decode cb_date 127 = .ok (.if_icmp .lt 14, 3) := by decide +kernel
theorem d_date_130 : decode cb_date 130 = .ok (.iload 4, 2) := by decide +kernel
theorem d_date_132 : decode cb_date 132 = .ok (.aload_n 0, 1) := by decide +kernel
theorem d_date_133 : decode cb_date 133 = .ok (.iload_n 2, 1) := by decide +kernel
theorem d_date_134 : decode cb_date 134 = .ok (.iload_n 3, 1) := by decide +kernel
theorem d_date_135 : decode cb_date 135 = .ok (.invokevirtual 157, 3) := by decide +kernel
theorem d_date_138 : decode cb_date 138 = .ok (.if_icmp .le 14, 3) := by decide +kernel
theorem d_date_141 : decode cb_date 141 = .ok (.aload_n 0, 1) := by decide +kernel
theorem d_date_142 : decode cb_date 142 = .ok (.aload_n 0, 1) := by decide +kernel
theorem d_date_143 : decode cb_date 143 = .ok (.getfield 76, 3) := by decide +kernel
theorem d_date_146 : decode cb_date 146 = .ok (.iconst 2, 1) := by decide +kernel
theorem d_date_147 : decode cb_date 147 = .ok (.isub, 1) := by decide +kernel
theorem d_date_148 : decode cb_date 148 = .ok (.invokevirtual 102, 3) := by decide +kernel
theorem d_date_151 : decode cb_date 151 = .ok (.ireturn, 1) := by decide +kernel
theorem d_date_152 : decode cb_date 152 = .ok (.aload_n 0, 1) := by decide +kernel
theorem d_date_153 : decode cb_date 153 = .ok (.getfield 16, 3) := by decide +kernel
theorem d_date_156 : decode cb_date 156 = .ok (.iload_n 1, 1) := by decide +kernel
theorem d_date_157 : decode cb_date 157 = .ok (.iconst 4, 1) := by decide +kernel
theorem d_date_158 : decode cb_date 158 = .ok (.iastore, 1) := by decide +kernel
theorem d_date_159 : decode cb_date 159 = .ok (.aload_n 0, 1) := by decide +kernel
theorem d_date_160 : decode cb_date 160 = .ok (.getfield 19, 3) := by decide +kernel
theorem d_date_163 : decode cb_date 163 = .ok (.iload_n 1, 1) := by decide +kernel
theorem d_date_164 : decode cb_date 164 = .ok (.sipush 10000, 3) := by decide +kernel
theorem d_date_167 : decode cb_date 167 = .ok (.iload_n 2, 1) := by decide +kernel
theorem d_date_168 : decode cb_date 168 = .ok (.imul, 1) := by decide +kernel
theorem d_date_169 : decode cb_date 169 = .ok (.bipush 100, 2) := by decide +kernel
theorem d_date_171 : decode cb_date 171 = .ok (.iload_n 3, 1) := by decide +kernel
theorem d_date_172 : decode cb_date 172 = .ok (.imul, 1) := by decide +kernel
theorem d_date_173 : decode cb_date 173 = .ok (.iadd, 1) := by decide +kernel
theorem d_date_174 : decode cb_date 174 = .ok (.iload 4, 2) := by decide +kernel
theorem d_date_176 : decode cb_date 176 = .ok (.iadd, 1) := by decide +kernel
theorem d_date_177 : decode cb_date 177 = .ok (.iastore, 1) := by decide +kernel
theorem d_date_178 : decode cb_date 178 = .ok (.iconst 1, 1) := by decide +kernel
theorem d_date_179 : decode cb_date 179 = .ok (.ireturn, 1) := by decide +kernel
theorem d_letterOf_0 : decode cb_letterOf 0 = .ok (.iload_n 2, 1) := by decide +kernel
theorem d_letterOf_1 : decode cb_letterOf 1 = .ok (.tableswitch 79 0 3 #[31, 43, 55, 67], 31) := by decide +kernel
theorem d_letterOf_32 : decode cb_letterOf 32 = .ok (.iload_n 1, 1) := by decide +kernel
theorem d_letterOf_33 : decode cb_letterOf 33 = .ok (.ifCond .eq 8, 3) := by decide +kernel
theorem d_letterOf_36 : decode cb_letterOf 36 = .ok (.bipush 116, 2) := by decide +kernel
theorem d_letterOf_38 : decode cb_letterOf 38 = .ok (.goto 5, 3) := by decide +kernel
theorem d_letterOf_41 : decode cb_letterOf 41 = .ok (.bipush 102, 2) := by decide +kernel
theorem d_letterOf_43 : decode cb_letterOf 43 = .ok (.ireturn, 1) := by decide +kernel
theorem d_letterOf_44 : decode cb_letterOf 44 = .ok (.iload_n 1, 1) := by decide +kernel
theorem d_letterOf_45 : decode cb_letterOf 45 = .ok (.ifCond .eq 8, 3) := by decide +kernel
theorem d_letterOf_48 : decode cb_letterOf 48 = .ok (.bipush 114, 2) := by decide +kernel
theorem d_letterOf_50 : decode cb_letterOf 50 = .ok (.goto 5, 3) := by decide +kernel
theorem d_letterOf_53 : decode cb_letterOf 53 = .ok (.bipush 97, 2) := by decide +kernel
theorem d_letterOf_55 : decode cb_letterOf 55 = .ok (.ireturn, 1) := by decide +kernel
theorem d_letterOf_56 : decode cb_letterOf 56 = .ok (.iload_n 1, 1) := by decide +kernel
theorem d_letterOf_57 : decode cb_letterOf 57 = .ok (.ifCond .eq 8, 3) := by decide +kernel
theorem d_letterOf_60 : decode cb_letterOf 60 = .ok (.bipush 117, 2) := by decide +kernel
theorem d_letterOf_62 : decode cb_letterOf 62 = .ok (.goto 5, 3) := by decide +kernel
theorem d_letterOf_65 : decode cb_letterOf 65 = .ok (.bipush 108, 2) := by decide +kernel
theorem d_letterOf_67 : decode cb_letterOf 67 = .ok (.ireturn, 1) := by decide +kernel
theorem d_letterOf_68 : decode cb_letterOf 68 = .ok (.iload_n 1, 1) := by decide +kernel
theorem d_letterOf_69 : decode cb_letterOf 69 = .ok (.ifCond .eq 8, 3) := by decide +kernel
theorem d_letterOf_72 : decode cb_letterOf 72 = .ok (.bipush 101, 2) := by decide +kernel
theorem d_letterOf_74 : decode cb_letterOf 74 = .ok (.goto 5, 3) := by decide +kernel
theorem d_letterOf_77 : decode cb_letterOf 77 = .ok (.bipush 115, 2) := by decide +kernel
theorem d_letterOf_79 : decode cb_letterOf 79 = .ok (.ireturn, 1) := by decide +kernel
theorem d_letterOf_80 : decode cb_letterOf 80 = .ok (.bipush 101, 2) := by decide +kernel
theorem d_letterOf_82 : decode cb_letterOf 82 = .ok (.ireturn, 1) := by decide +kernel
theorem d_truth_0 : decode cb_truth 0 = .ok (.aload_n 0, 1) := by decide +kernel
theorem d_truth_1 : decode cb_truth 1 = .ok (.invokevirtual 82, 3) := by decide +kernel
theorem d_truth_4 : decode cb_truth 4 = .ok (.bipush 116, 2) := by decide +kernel
theorem d_truth_6 : decode cb_truth 6 = .ok (.if_icmp .ne 7, 3) := by decide +kernel
theorem d_truth_9 : decode cb_truth 9 = .ok (.iconst 1, 1) := by decide +kernel
theorem d_truth_10 : decode cb_truth 10 = .ok (.goto 4, 3) := by decide +kernel
theorem d_truth_13 : decode cb_truth 13 = .ok (.iconst 0, 1) := by decide +kernel
theorem d_truth_14 : decode cb_truth 14 = .ok (.istore_n 2, 1) := by decide +kernel
theorem d_truth_15 : decode cb_truth 15 = .ok (.iconst 0, 1) := by decide +kernel
theorem d_truth_16 : decode cb_truth 16 = .ok (.istore_n 3, 1) := by decide +kernel
theorem d_truth_17 : decode cb_truth 17 = .ok (.iload_n 3, 1) := by decide +kernel
theorem d_truth_18 : decode cb_truth 18 = .ok (.iload_n 2, 1) := by decide +kernel
theorem d_truth_19 : decode cb_truth 19 = .ok (.ifCond .eq 7, 3) := by decide +kernel
theorem d_truth_22 : decode cb_truth 22 = .ok (.iconst 4, 1) := by decide +kernel
theorem d_truth_23 : decode cb_truth 23 = .ok (.goto 4, 3) := by decide +kernel
theorem d_truth_26 : decode cb_truth 26 = .ok (.iconst 5, 1) := by decide +kernel
theorem d_truth_27 : decode cb_truth 27 = .ok (.if_icmp .ge 41, 3) := by decide +kernel
theorem d_truth_30 : decode cb_truth 30 = .ok (.aload_n 0, 1) := by decide +kernel
theorem d_truth_31 : decode cb_truth 31 = .ok (.invokevirtual 82, 3) := by decide +kernel
theorem d_truth_34 : decode cb_truth 34 = .ok (.aload_n 0, 1) := by decide +kernel
theorem d_truth_35 : decode cb_truth 35 = .ok (.iload_n 2, 1) := by decide +kernel
theorem d_truth_36 : decode cb_truth 36 = .ok (.iload_n 3, 1) := by decide +kernel
theorem d_truth_37 : decode cb_truth 37 = .ok (.invokevirtual 160, 3) := by decide +kernel
theorem d_truth_40 : decode cb_truth 40 = .ok (.if_icmp .eq 12, 3) := by decide +kernel
theorem d_truth_43 : decode cb_truth 43 = .ok (.aload_n 0, 1) := by decide +kernel
theorem d_truth_44 : decode cb_truth 44 = .ok (.aload_n 0, 1) := by decide +kernel
theorem d_truth_45 : decode cb_truth 45 = .ok (.getfield 76, 3) := by decide +kernel
theorem d_truth_48 : decode cb_truth 48 = .ok (.invokevirtual 102, 3) := by decide +kernel
theorem d_truth_51 : decode cb_truth 51 = .ok (.ireturn, 1) := by decide +kernel
theorem d_truth_52 : decode cb_truth 52 = .ok (.aload_n 0, 1) := by decide +kernel
theorem d_truth_53 : decode cb_truth 53 = .ok (.dup, 1) := by decide +kernel
theorem d_truth_54 : decode cb_truth 54 = .ok (.getfield 76, 3) := by decide +kernel
theorem d_truth_57 : decode cb_truth 57 = .ok (.iconst 1, 1) := by decide +kernel
theorem d_truth_58 : decode cb_truth 58 = .ok (.iadd, 1) := by decide +kernel
theorem d_truth_59 : decode cb_truth 59 = .ok (.putfield 76, 3) := by decide +kernel
theorem d_truth_62 : decode cb_truth 62 = .ok (.iinc 3 1, 3) := by decide +kernel
theorem d_truth_65 : decode cb_truth 65 = .ok (.goto (-48), 3) := by decide +kernel
theorem d_truth_68 : decode cb_truth 68 = .ok (.aload_n 0, 1) := by decide +kernel
theorem d_truth_69 : decode cb_truth 69 = .ok (.getfield 16, 3) := by decide +kernel
theorem d_truth_72 : decode cb_truth 72 = .ok (.iload_n 1, 1) := by decide +kernel
theorem d_truth_73 : decode cb_truth 73 = .ok (.iconst 2, 1) := by decide +kernel
theorem d_truth_74 : decode cb_truth 74 = .ok (.iastore, 1) := by decide +kernel
theorem d_truth_75 : decode cb_truth 75 = .ok (.aload_n 0, 1) := by decide +kernel
theorem d_truth_76 : decode cb_truth 76 = .ok (.getfield 19, 3) := by decide +kernel
theorem d_truth_79 : decode cb_truth 79 = .ok (.iload_n 1, 1) := by decide +kernel
theorem d_truth_80 : decode cb_truth 80 = .ok (.iload_n 2, 1) := by decide +kernel
theorem d_truth_81 : decode cb_truth 81 = .ok (.ifCond .eq 7, 3) := by decide +kernel
theorem d_truth_84 : decode cb_truth 84 = .ok (.iconst 1, 1) := by decide +kernel
theorem d_truth_85 : decode cb_truth 85 = .ok (.goto 4, 3) := by decide +kernel
theorem d_truth_88 : decode cb_truth 88 = .ok (.iconst 0, 1) := by decide +kernel
theorem d_truth_89 : decode cb_truth 89 = .ok (.iastore, 1) := by decide +kernel
theorem d_truth_90 : decode cb_truth 90 = .ok (.iconst 1, 1) := by decide +kernel
theorem d_truth_91 : decode cb_truth 91 = .ok (.ireturn, 1) := by decide +kernel
theorem d_beginValue_0 : decode cb_beginValue 0 = .ok (.aload_n 0, 1) := by decide +kernel
theorem d_beginValue_1 : decode cb_beginValue 1 = .ok (.invokevirtual 82, 3) := by decide +kernel
theorem d_beginValue_4 : decode cb_beginValue 4 = .ok (.istore_n 3, 1) := by decide +kernel
theorem d_beginValue_5 : decode cb_beginValue 5 = .ok (.aload_n 0, 1) := by decide +kernel
theorem d_beginValue_6 : decode cb_beginValue 6 = .ok (.iload_n 3, 1) := by decide +kernel
theorem d_beginValue_7 : decode cb_beginValue 7 = .ok (.invokevirtual 89, 3) := by decide +kernel
theorem d_beginValue_10 : decode cb_beginValue 10 = .ok (.ifCond .ne 15, 3) := by decide +kernel
theorem d_beginValue_13 : decode cb_beginValue 13 = .ok (.iload_n 3, 1) := by decide +kernel
theorem d_beginValue_14 : decode cb_beginValue 14 = .ok (.bipush 43, 2) := by decide +kernel
theorem d_beginValue_16 : decode cb_beginValue 16 = .ok (.if_icmp .eq 9, 3) := by decide +kernel
theorem d_beginValue_19 : decode cb_beginValue 19 = .ok (.iload_n 3, 1) := by decide +kernel
theorem d_beginValue_20 : decode cb_beginValue 20 = .ok (.bipush 45, 2) := by decide +kernel
theorem d_beginValue_22 : decode cb_beginValue 22 = .ok (.if_icmp .ne 7, 3) := by decide +kernel
theorem d_beginValue_25 : decode cb_beginValue 25 = .ok (.iconst 1, 1) := by decide +kernel
theorem d_beginValue_26 : decode cb_beginValue 26 = .ok (.goto 4, 3) := by decide +kernel
theorem d_beginValue_29 : decode cb_beginValue 29 = .ok (.iconst 0, 1) := by decide +kernel
theorem d_beginValue_30 : decode cb_beginValue 30 = .ok (.istore 4, 2) := by decide +kernel
theorem d_beginValue_32 : decode cb_beginValue 32 = .ok (.iload_n 3, 1) := by decide +kernel
theorem d_beginValue_33 : decode cb_beginValue 33 = .ok (.bipush 91, 2) := by decide +kernel
theorem d_beginValue_35 : decode cb_beginValue 35 = .ok (.if_icmp .eq 9, 3) := by decide +kernel
theorem d_beginValue_38 : decode cb_beginValue 38 = .ok (.iload_n 3, 1) := by decide +kernel
theorem d_beginValue_39 : decode cb_beginValue 39 = .ok (.bipush 123, 2) := by decide +kernel
theorem d_beginValue_41 : decode cb_beginValue 41 = .ok (.if_icmp .ne 7, 3) := by decide +kernel
theorem d_beginValue_44 : decode cb_beginValue 44 = .ok (.iconst 1, 1) := by decide +kernel
theorem d_beginValue_45 : decode cb_beginValue 45 = .ok (.goto 4, 3) := by decide +kernel
theorem d_beginValue_48 : decode cb_beginValue 48 = .ok (.iconst 0, 1) := by decide +kernel
theorem d_beginValue_49 : decode cb_beginValue 49 = .ok (.istore 5, 2) := by decide +kernel
theorem d_beginValue_51 : decode cb_beginValue 51 = .ok (.iload 4, 2) := by decide +kernel
theorem d_beginValue_53 : decode cb_beginValue 53 = .ok (.ifCond .ne 32, 3) := by decide +kernel
theorem d_beginValue_56 : decode cb_beginValue 56 = .ok (.iload 5, 2) := by decide +kernel
theorem d_beginValue_58 : decode cb_beginValue 58 = .ok (.ifCond .ne 27, 3) := by decide +kernel
theorem d_beginValue_61 : decode cb_beginValue 61 = .ok (.iload_n 3, 1) := by decide +kernel
theorem d_beginValue_62 : decode cb_beginValue 62 = .ok (.bipush 116, 2) := by decide +kernel
theorem d_beginValue_64 : decode cb_beginValue 64 = .ok (.if_icmp .eq 21, 3) := by decide +kernel
theorem d_beginValue_67 : decode cb_beginValue 67 = .ok (.iload_n 3, 1) := by decide +kernel
theorem d_beginValue_68 : decode cb_beginValue 68 = .ok (.bipush 102, 2) := by decide +kernel
theorem d_beginValue_70 : decode cb_beginValue 70 = .ok (.if_icmp .eq 15, 3) := by decide +kernel
theorem d_beginValue_73 : decode cb_beginValue 73 = .ok (.iload_n 3, 1) := by decide +kernel
theorem d_beginValue_74 : decode cb_beginValue 74 = .ok (.bipush 34, 2) := by decide +kernel
theorem d_beginValue_76 : decode cb_beginValue 76 = .ok (.if_icmp .eq 9, 3) := by decide +kernel
theorem d_beginValue_79 : decode cb_beginValue 79 = .ok (.iload_n 3, 1) := by decide +kernel
theorem d_beginValue_80 : decode cb_beginValue 80 = .ok (.bipush 39, 2) := by decide +kernel
theorem d_beginValue_82 : decode cb_beginValue 82 = .ok (.if_icmp .ne 17, 3) := by decide +kernel
theorem d_beginValue_85 : decode cb_beginValue 85 = .ok (.iload 5, 2) := by decide +kernel
theorem d_beginValue_87 : decode cb_beginValue 87 = .ok (.ifCond .eq 21, 3) := by decide +kernel
theorem d_beginValue_90 : decode cb_beginValue 90 = .ok (.aload_n 0, 1) := by decide +kernel
theorem d_beginValue_91 : decode cb_beginValue 91 = .ok (.getfield 164, 3) := by decide +kernel
theorem d_beginValue_94 : decode cb_beginValue 94 = .ok (.bipush 6, 2) := by decide +kernel
theorem d_beginValue_96 : decode cb_beginValue 96 = .ok (.if_icmp .ne 12, 3) := by decide +kernel
theorem d_beginValue_99 : decode cb_beginValue 99 = .ok (.aload_n 0, 1) := by decide +kernel
theorem d_beginValue_100 : decode cb_beginValue 100 = .ok (.aload_n 0, 1) := by decide +kernel
theorem d_beginValue_101 : decode cb_beginValue 101 = .ok (.getfield 76, 3) := by decide +kernel
theorem d_beginValue_104 : decode cb_beginValue 104 = .ok (.invokevirtual 102, 3) := by decide +kernel
theorem d_beginValue_107 : decode cb_beginValue 107 = .ok (.ireturn, 1) := by decide +kernel
theorem d_beginValue_108 : decode cb_beginValue 108 = .ok (.aload_n 0, 1) := by decide +kernel
theorem d_beginValue_109 : decode cb_beginValue 109 = .ok (.iconst 0, 1) := by decide +kernel
theorem d_beginValue_110 : decode cb_beginValue 110 = .ok (.iload_n 1, 1) := by decide +kernel
theorem d_beginValue_111 : decode cb_beginValue 111 = .ok (.invokevirtual 136, 3) := by decide +kernel
theorem d_beginValue_114 : decode cb_beginValue 114 = .ok (.istore 6, 2) := by decide +kernel
theorem d_beginValue_116 : decode cb_beginValue 116 = .ok (.iload_n 2, 1) := by decide +kernel
theorem d_beginValue_117 : decode cb_beginValue 117 = .ok (.iconst (-1), 1) := by decide +kernel
theorem d_beginValue_118 : decode cb_beginValue 118 = .ok (.if_icmp .eq 11, 3) := by decide +kernel
theorem d_beginValue_121 : decode cb_beginValue 121 = .ok (.aload_n 0, 1) := by decide +kernel
theorem d_beginValue_122 : decode cb_beginValue 122 = .ok (.iload 6, 2) := by decide +kernel
theorem d_beginValue_124 : decode cb_beginValue 124 = .ok (.iload_n 2, 1) := by decide +kernel
theorem d_beginValue_125 : decode cb_beginValue 125 = .ok (.invokevirtual 139, 3) := by decide +kernel
theorem d_beginValue_128 : decode cb_beginValue 128 = .ok (.pop, 1) := by decide +kernel
theorem d_beginValue_129 : decode cb_beginValue 129 = .ok (.iload 5, 2) := by decide +kernel
theorem d_beginValue_131 : decode cb_beginValue 131 = .ok (.ifCond .eq 65, 3) := by decide +kernel
theorem d_beginValue_134 : decode cb_beginValue 134 = .ok (.aload_n 0, 1) := by decide +kernel
theorem d_beginValue_135 : decode cb_beginValue 135 = .ok (.getfield 16, 3) := by decide +kernel
theorem d_beginValue_138 : decode cb_beginValue 138 = .ok (.iload 6, 2) := by decide +kernel
theorem d_beginValue_140 : decode cb_beginValue 140 = .ok (.iload_n 3, 1) := by decide +kernel
theorem d_beginValue_141 : decode cb_beginValue 141 = .ok (.bipush 91, 2) := by decide +kernel
theorem d_beginValue_143 : decode cb_beginValue 143 = .ok (.if_icmp .ne 7, 3) := by decide +kernel
theorem d_beginValue_146 : decode cb_beginValue 146 = .ok (.iconst 5, 1) := by decide +kernel
theorem d_beginValue_147 : decode cb_beginValue 147 = .ok (.goto 5, 3) := by decide +kernel
theorem d_beginValue_150 : decode cb_beginValue 150 = .ok (.bipush 10, 2) := by decide +kernel
theorem d_beginValue_152 : decode cb_beginValue 152 = .ok (.iastore, 1) := by decide +kernel
theorem d_beginValue_153 : decode cb_beginValue 153 = .ok (.aload_n 0, 1) := by decide +kernel
theorem d_beginValue_154 : decode cb_beginValue 154 = .ok (.getfield 58, 3) := by decide +kernel
theorem d_beginValue_157 : decode cb_beginValue 157 = .ok (.aload_n 0, 1) := by decide +kernel
theorem d_beginValue_158 : decode cb_beginValue 158 = .ok (.getfield 164, 3) := by decide +kernel
theorem d_beginValue_161 : decode cb_beginValue 161 = .ok (.iload 6, 2) := by decide +kernel
theorem d_beginValue_163 : decode cb_beginValue 163 = .ok (.iastore, 1) := by decide +kernel
theorem d_beginValue_164 : decode cb_beginValue 164 = .ok (.aload_n 0, 1) := by decide +kernel
theorem d_beginValue_165 : decode cb_beginValue 165 = .ok (.getfield 61, 3) := by decide +kernel
theorem d_beginValue_168 : decode cb_beginValue 168 = .ok (.aload_n 0, 1) := by decide +kernel
theorem d_beginValue_169 : decode cb_beginValue 169 = .ok (.getfield 164, 3) := by decide +kernel
theorem d_beginValue_172 : decode cb_beginValue 172 = .ok (.iconst 0, 1) := by decide +kernel
theorem d_beginValue_173 : decode cb_beginValue 173 = .ok (.iastore, 1) := by decide +kernel
theorem d_beginValue_174 : decode cb_beginValue 174 = .ok (.aload_n 0, 1) := by decide +kernel
theorem d_beginValue_175 : decode cb_beginValue 175 = .ok (.dup, 1) := by decide +kernel
theorem d_beginValue_176 : decode cb_beginValue 176 = .ok (.getfield 164, 3) := by decide +kernel
theorem d_beginValue_179 : decode cb_beginValue 179 = .ok (.iconst 1, 1) := by decide +kernel
theorem d_beginValue_180 : decode cb_beginValue 180 = .ok (.iadd, 1) := by decide +kernel
theorem d_beginValue_181 : decode cb_beginValue 181 = .ok (.putfield 164, 3) := by decide +kernel
theorem d_beginValue_184 : decode cb_beginValue 184 = .ok (.aload_n 0, 1) := by decide +kernel
theorem d_beginValue_185 : decode cb_beginValue 185 = .ok (.dup, 1) := by decide +kernel
theorem d_beginValue_186 : decode cb_beginValue 186 = .ok (.getfield 76, 3) := by decide +kernel
theorem d_beginValue_189 : decode cb_beginValue 189 = .ok (.iconst 1, 1) := by decide +kernel
theorem d_beginValue_190 : decode cb_beginValue 190 = .ok (.iadd, 1) := by decide +kernel
theorem d_beginValue_191 : decode cb_beginValue 191 = .ok (.putfield 76, 3) := by decide +kernel
theorem d_beginValue_194 : decode cb_beginValue 194 = .ok (.iconst 1, 1) := by decide +kernel
theorem d_beginValue_195 : decode cb_beginValue 195 = .ok (.ireturn, 1) := by decide +kernel
theorem d_beginValue_196 : decode cb_beginValue 196 = .ok (.iload 4, 2) := by decide +kernel
theorem d_beginValue_198 : decode cb_beginValue 198 = .ok (.ifCond .eq 26, 3) := by decide +kernel
theorem d_beginValue_201 : decode cb_beginValue 201 = .ok (.aload_n 0, 1) := by decide +kernel
theorem d_beginValue_202 : decode cb_beginValue 202 = .ok (.invokevirtual 167, 3) := by decide +kernel
theorem d_beginValue_205 : decode cb_beginValue 205 = .ok (.ifCond .eq 12, 3) := by decide +kernel
theorem d_beginValue_208 : decode cb_beginValue 208 = .ok (.aload_n 0, 1) := by decide +kernel
theorem d_beginValue_209 : decode cb_beginValue 209 = .ok (.iload 6, 2) := by decide +kernel
theorem d_beginValue_211 : decode cb_beginValue 211 = .ok (.invokevirtual 170, 3) := by decide +kernel
theorem d_beginValue_214 : decode cb_beginValue 214 = .ok (.goto 9, 3) := by decide +kernel
theorem d_beginValue_217 : decode cb_beginValue 217 = .ok (.aload_n 0, 1) := by decide +kernel
theorem d_beginValue_218 : decode cb_beginValue 218 = .ok (.iload 6, 2) := by decide +kernel
theorem d_beginValue_220 : decode cb_beginValue 220 = .ok (.invokevirtual 173, 3) := by decide +kernel
theorem d_beginValue_223 : decode cb_beginValue 223 = .ok (.ireturn, 1) := by decide +kernel
theorem d_beginValue_224 : decode cb_beginValue 224 = .ok (.iload_n 3, 1) := by decide +kernel
theorem d_beginValue_225 : decode cb_beginValue 225 = .ok (.bipush 34, 2) := by decide +kernel
theorem d_beginValue_227 : decode cb_beginValue 227 = .ok (.if_icmp .eq 9, 3) := by decide +kernel
theorem d_beginValue_230 : decode cb_beginValue 230 = .ok (.iload_n 3, 1) := by decide +kernel
theorem d_beginValue_231 : decode cb_beginValue 231 = .ok (.bipush 39, 2) := by decide +kernel
theorem d_beginValue_233 : decode cb_beginValue 233 = .ok (.if_icmp .ne 42, 3) := by decide +kernel
theorem d_beginValue_236 : decode cb_beginValue 236 = .ok (.aload_n 0, 1) := by decide +kernel
theorem d_beginValue_237 : decode cb_beginValue 237 = .ok (.invokevirtual 122, 3) := by decide +kernel
theorem d_beginValue_240 : decode cb_beginValue 240 = .ok (.istore 7, 2) := by decide +kernel
theorem d_beginValue_242 : decode cb_beginValue 242 = .ok (.aload_n 0, 1) := by decide +kernel
theorem d_beginValue_243 : decode cb_beginValue 243 = .ok (.getfield 16, 3) := by decide +kernel
theorem d_beginValue_246 : decode cb_beginValue 246 = .ok (.iload 6, 2) := by decide +kernel
theorem d_beginValue_248 : decode cb_beginValue 248 = .ok (.iconst 3, 1) := by decide +kernel
theorem d_beginValue_249 : decode cb_beginValue 249 = .ok (.iastore, 1) := by decide +kernel
theorem d_beginValue_250 : decode cb_beginValue 250 = .ok (.aload_n 0, 1) := by decide +kernel
theorem d_beginValue_251 : decode cb_beginValue 251 = .ok (.getfield 19, 3) := by decide +kernel
theorem d_beginValue_254 : decode cb_beginValue 254 = .ok (.iload 6, 2) := by decide +kernel
theorem d_beginValue_256 : decode cb_beginValue 256 = .ok (.aload_n 0, 1) := by decide +kernel
theorem d_beginValue_257 : decode cb_beginValue 257 = .ok (.getfield 96, 3) := by decide +kernel
theorem d_beginValue_260 : decode cb_beginValue 260 = .ok (.iastore, 1) := by decide +kernel
theorem d_beginValue_261 : decode cb_beginValue 261 = .ok (.aload_n 0, 1) := by decide +kernel
theorem d_beginValue_262 : decode cb_beginValue 262 = .ok (.getfield 34, 3) := by decide +kernel
theorem d_beginValue_265 : decode cb_beginValue 265 = .ok (.iload 6, 2) := by decide +kernel
theorem d_beginValue_267 : decode cb_beginValue 267 = .ok (.aload_n 0, 1) := by decide +kernel
theorem d_beginValue_268 : decode cb_beginValue 268 = .ok (.getfield 99, 3) := by decide +kernel
theorem d_beginValue_271 : decode cb_beginValue 271 = .ok (.iastore, 1) := by decide +kernel
theorem d_beginValue_272 : decode cb_beginValue 272 = .ok (.iload 7, 2) := by decide +kernel
theorem d_beginValue_274 : decode cb_beginValue 274 = .ok (.ireturn, 1) := by decide +kernel
theorem d_beginValue_275 : decode cb_beginValue 275 = .ok (.aload_n 0, 1) := by decide +kernel
theorem d_beginValue_276 : decode cb_beginValue 276 = .ok (.iload 6, 2) := by decide +kernel
theorem d_beginValue_278 : decode cb_beginValue 278 = .ok (.invokevirtual 176, 3) := by decide +kernel
theorem d_beginValue_281 : decode cb_beginValue 281 = .ok (.ireturn, 1) := by decide +kernel
theorem d_stepList_0 : decode cb_stepList 0 = .ok (.aload_n 0, 1) := by decide +kernel
theorem d_stepList_1 : decode cb_stepList 1 = .ok (.getfield 58, 3) := by decide +kernel
theorem d_stepList_4 : decode cb_stepList 4 = .ok (.iload_n 1, 1) := by decide +kernel
theorem d_stepList_5 : decode cb_stepList 5 = .ok (.iaload, 1) := by decide +kernel
theorem d_stepList_6 : decode cb_stepList 6 = .ok (.istore_n 2, 1) := by decide +kernel
theorem d_stepList_7 : decode cb_stepList 7 = .ok (.aload_n 0, 1) := by decide +kernel
theorem d_stepList_8 : decode cb_stepList 8 = .ok (.invokevirtual 179, 3) := by decide +kernel
theorem d_stepList_11 : decode cb_stepList 11 = .ok (.aload_n 0, 1) := by decide +kernel
theorem d_stepList_12 : decode cb_stepList 12 = .ok (.invokevirtual 82, 3) := by decide +kernel
theorem d_stepList_15 : decode cb_stepList 15 = .ok (.bipush 93, 2) := by decide +kernel
theorem d_stepList_17 : decode cb_stepList 17 = .ok (.if_icmp .ne 25, 3) := by decide +kernel
theorem d_stepList_20 : decode cb_stepList 20 = .ok (.aload_n 0, 1) := by decide +kernel
theorem d_stepList_21 : decode cb_stepList 21 = .ok (.dup, 1) := by decide +kernel
theorem d_stepList_22 : decode cb_stepList 22 = .ok (.getfield 76, 3) := by decide +kernel
theorem d_stepList_25 : decode cb_stepList 25 = .ok (.iconst 1, 1) := by decide +kernel
theorem d_stepList_26 : decode cb_stepList 26 = .ok (.iadd, 1) := by decide +kernel
theorem d_stepList_27 : decode cb_stepList 27 = .ok (.putfield 76, 3) := by decide +kernel
theorem d_stepList_30 : decode cb_stepList 30 = .ok (.aload_n 0, 1) := by decide +kernel
theorem d_stepList_31 : decode cb_stepList 31 = .ok (.dup, 1) := by decide +kernel
theorem d_stepList_32 : decode cb_stepList 32 = .ok (.getfield 164, 3) := by decide +kernel
theorem d_stepList_35 : decode cb_stepList 35 = .ok (.iconst 1, 1) := by decide +kernel
theorem d_stepList_36 : decode cb_stepList 36 = .ok (.isub, 1) := by decide +kernel
theorem d_stepList_37 : decode cb_stepList 37 = .ok (.putfield 164, 3) := by decide +kernel
theorem d_stepList_40 : decode cb_stepList 40 = .ok (.iconst 1, 1) := by decide +kernel
theorem d_stepList_41 : decode cb_stepList 41 = .ok (.ireturn, 1) := by decide +kernel
theorem d_stepList_42 : decode cb_stepList 42 = .ok (.aload_n 0, 1) := by decide +kernel
theorem d_stepList_43 : decode cb_stepList 43 = .ok (.getfield 61, 3) := by decide +kernel
theorem d_stepList_46 : decode cb_stepList 46 = .ok (.iload_n 1, 1) := by decide +kernel
theorem d_stepList_47 : decode cb_stepList 47 = .ok (.iaload, 1) := by decide +kernel
theorem d_stepList_48 : decode cb_stepList 48 = .ok (.iconst 1, 1) := by decide +kernel
theorem d_stepList_49 : decode cb_stepList 49 = .ok (.if_icmp .ne 40, 3) := by decide +kernel
theorem d_stepList_52 : decode cb_stepList 52 = .ok (.aload_n 0, 1) := by decide +kernel
theorem d_stepList_53 : decode cb_stepList 53 = .ok (.invokevirtual 82, 3) := by decide +kernel
theorem d_stepList_56 : decode cb_stepList 56 = .ok (.bipush 44, 2) := by decide +kernel
theorem d_stepList_58 : decode cb_stepList 58 = .ok (.if_icmp .eq 12, 3) := by decide +kernel
theorem d_stepList_61 : decode cb_stepList 61 = .ok (.aload_n 0, 1) := by decide +kernel
theorem d_stepList_62 : decode cb_stepList 62 = .ok (.aload_n 0, 1) := by decide +kernel
theorem d_stepList_63 : decode cb_stepList 63 = .ok (.getfield 76, 3) := by decide +kernel
theorem d_stepList_66 : decode cb_stepList 66 = .ok (.invokevirtual 102, 3) := by decide +kernel
theorem d_stepList_69 : decode cb_stepList 69 = .ok (.ireturn, 1) := by decide +kernel
theorem d_stepList_70 : decode cb_stepList 70 = .ok (.aload_n 0, 1) := by decide +kernel
theorem d_stepList_71 : decode cb_stepList 71 = .ok (.dup, 1) := by decide +kernel
theorem d_stepList_72 : decode cb_stepList 72 = .ok (.getfield 76, 3) := by decide +kernel
theorem d_stepList_75 : decode cb_stepList 75 = .ok (.iconst 1, 1) := by decide +kernel
theorem d_stepList_76 : decode cb_stepList 76 = .ok (.iadd, 1) := by decide +kernel
theorem d_stepList_77 : decode cb_stepList 77 = .ok (.putfield 76, 3) := by decide +kernel
theorem d_stepList_80 : decode cb_stepList 80 = .ok (.aload_n 0, 1) := by decide +kernel
theorem d_stepList_81 : decode cb_stepList 81 = .ok (.getfield 61, 3) := by decide +kernel
theorem d_stepList_84 : decode cb_stepList 84 = .ok (.iload_n 1, 1) := by decide +kernel
theorem d_stepList_85 : decode cb_stepList 85 = .ok (.iconst 0, 1) := by decide +kernel
theorem d_stepList_86 : decode cb_stepList 86 = .ok (.iastore, 1) := by decide +kernel
theorem d_stepList_87 : decode cb_stepList 87 = .ok (.iconst 1, 1) := by decide +kernel
theorem d_stepList_88 : decode cb_stepList 88 = .ok (.ireturn, 1) := by decide +kernel
theorem d_stepList_89 : decode cb_stepList 89 = .ok (.aload_n 0, 1) := by decide +kernel
theorem d_stepList_90 : decode cb_stepList 90 = .ok (.getfield 61, 3) := by decide +kernel
theorem d_stepList_93 : decode cb_stepList 93 = .ok (.iload_n 1, 1) := by decide +kernel
theorem d_stepList_94 : decode cb_stepList 94 = .ok (.iconst 1, 1) := by decide +kernel
theorem d_stepList_95 : decode cb_stepList 95 = .ok (.iastore, 1) := by decide +kernel
theorem d_stepList_96 : decode cb_stepList 96 = .ok (.aload_n 0, 1) := by decide +kernel
theorem d_stepList_97 : decode cb_stepList 97 = .ok (.iload_n 2, 1) := by decide +kernel
theorem d_stepList_98 : decode cb_stepList 98 = .ok (.iconst (-1), 1) := by decide +kernel
theorem d_stepList_99 : decode cb_stepList 99 = .ok (.invokevirtual 182, 3) := by decide +kernel
theorem d_stepList_102 : decode cb_stepList 102 = .ok (.ireturn, 1) := by decide +kernel
theorem d_entry_0 : decode cb_entry 0 = .ok (.aload_n 0, 1) := by decide +kernel
theorem d_entry_1 : decode cb_entry 1 = .ok (.invokevirtual 185, 3) := by decide +kernel
theorem d_entry_4 : decode cb_entry 4 = .ok (.ifCond .ne 5, 3) := by decide +kernel
theorem d_entry_7 : decode cb_entry 7 = .ok (.iconst 0, 1) := by decide +kernel
theorem d_entry_8 : decode cb_entry 8 = .ok (.ireturn, 1) := by decide +kernel
theorem d_entry_9 : decode cb_entry 9 = .ok (.aload_n 0, 1) := by decide +kernel
theorem d_entry_10 : decode cb_entry 10 = .ok (.iload_n 1, 1) := by decide +kernel
theorem d_entry_11 : decode cb_entry 11 = .ok (.invokevirtual 188, 3) := by decide +kernel
theorem d_entry_14 : decode cb_entry 14 = .ok (.istore_n 2, 1) := by decide +kernel
theorem d_entry_15 : decode cb_entry 15 = .ok (.iload_n 2, 1) := by decide +kernel
theorem d_entry_16 : decode cb_entry 16 = .ok (.iconst (-1), 1) := by decide +kernel
theorem d_entry_17 : decode cb_entry 17 = .ok (.if_icmp .ne 5, 3) := by decide +kernel
theorem d_entry_20 : decode cb_entry 20 = .ok (.iconst 0, 1) := by decide +kernel
theorem d_entry_21 : decode cb_entry 21 = .ok (.ireturn, 1) := by decide +kernel
theorem d_entry_22 : decode cb_entry 22 = .ok (.aload_n 0, 1) := by decide +kernel
theorem d_entry_23 : decode cb_entry 23 = .ok (.invokevirtual 82, 3) := by decide +kernel
theorem d_entry_26 : decode cb_entry 26 = .ok (.bipush 61, 2) := by decide +kernel
theorem d_entry_28 : decode cb_entry 28 = .ok (.if_icmp .eq 12, 3) := by decide +kernel
theorem d_entry_31 : decode cb_entry 31 = .ok (.aload_n 0, 1) := by decide +kernel
theorem d_entry_32 : decode cb_entry 32 = .ok (.aload_n 0, 1) := by decide +kernel
theorem d_entry_33 : decode cb_entry 33 = .ok (.getfield 76, 3) := by decide +kernel
theorem d_entry_36 : decode cb_entry 36 = .ok (.invokevirtual 102, 3) := by decide +kernel
theorem d_entry_39 : decode cb_entry 39 = .ok (.ireturn, 1) := by decide +kernel
theorem d_entry_40 : decode cb_entry 40 = .ok (.aload_n 0, 1) := by decide +kernel
theorem d_entry_41 : decode cb_entry 41 = .ok (.dup, 1) := by decide +kernel
theorem d_entry_42 : decode cb_entry 42 = .ok (.getfield 76, 3) := by decide +kernel
theorem d_entry_45 : decode cb_entry 45 = .ok (.iconst 1, 1) := by decide +kernel
theorem d_entry_46 : decode cb_entry 46 = .ok (.iadd, 1) := by decide +kernel
theorem d_entry_47 : decode cb_entry 47 = .ok (.putfield 76, 3) := by decide +kernel
theorem d_entry_50 : decode cb_entry 50 = .ok (.aload_n 0, 1) := by decide +kernel
theorem d_entry_51 : decode cb_entry 51 = .ok (.invokevirtual 129, 3) := by decide +kernel
theorem d_entry_54 : decode cb_entry 54 = .ok (.aload_n 0, 1) := by decide +kernel
theorem d_entry_55 : decode cb_entry 55 = .ok (.iload_n 2, 1) := by decide +kernel
theorem d_entry_56 : decode cb_entry 56 = .ok (.aload_n 0, 1) := by decide +kernel
theorem d_entry_57 : decode cb_entry 57 = .ok (.getfield 119, 3) := by decide +kernel
theorem d_entry_60 : decode cb_entry 60 = .ok (.iconst 1, 1) := by decide +kernel
theorem d_entry_61 : decode cb_entry 61 = .ok (.isub, 1) := by decide +kernel
theorem d_entry_62 : decode cb_entry 62 = .ok (.invokevirtual 182, 3) := by decide +kernel
theorem d_entry_65 : decode cb_entry 65 = .ok (.ireturn, 1) := by decide +kernel
theorem d_stepTable_0 : decode cb_stepTable 0 = .ok (.aload_n 0, 1) := by decide +kernel
theorem d_stepTable_1 : decode cb_stepTable 1 = .ok (.getfield 58, 3) := by decide +kernel
theorem d_stepTable_4 : decode cb_stepTable 4 = .ok (.iload_n 1, 1) := by decide +kernel
theorem d_stepTable_5 : decode cb_stepTable 5 = .ok (.iaload, 1) := by decide +kernel
theorem d_stepTable_6 : decode cb_stepTable 6 = .ok (.istore_n 2, 1) := by decide +kernel
theorem d_stepTable_7 : decode cb_stepTable 7 = .ok (.aload_n 0, 1) := by decide +kernel
theorem d_stepTable_8 : decode cb_stepTable 8 = .ok (.invokevirtual 129, 3) := by decide +kernel
theorem d_stepTable_11 : decode cb_stepTable 11 = .ok (.aload_n 0, 1) := by decide +kernel
theorem d_stepTable_12 : decode cb_stepTable 12 = .ok (.invokevirtual 82, 3) := by decide +kernel
theorem d_stepTable_15 : decode cb_stepTable 15 = .ok (.bipush 125, 2) := by decide +kernel
theorem d_stepTable_17 : decode cb_stepTable 17 = .ok (.if_icmp .ne 95, 3) := by decide +kernel
theorem d_stepTable_20 : decode cb_stepTable 20 = .ok (.aload_n 0, 1) := by decide +kernel
theorem d_stepTable_21 : decode cb_stepTable 21 = .ok (.getfield 61, 3) := by decide +kernel
theorem d_stepTable_24 : decode cb_stepTable 24 = .ok (.iload_n 1, 1) := by decide +kernel
theorem d_stepTable_25 : decode cb_stepTable 25 = .ok (.iaload, 1) := by decide +kernel
theorem d_stepTable_26 : decode cb_stepTable 26 = .ok (.iconst 2, 1) := by decide +kernel
theorem d_stepTable_27 : decode cb_stepTable 27 = .ok (.if_icmp .ge 85, 3) := by decide +kernel
theorem d_stepTable_30 : decode cb_stepTable 30 = .ok (.aload_n 0, 1) := by decide +kernel
theorem d_stepTable_31 : decode cb_stepTable 31 = .ok (.dup, 1) := by decide +kernel
end
section
theorem d_stepTable_32 : decode cb_stepTable 32 = .ok (.getfield 76, 3) := by decide +kernel
theorem d_stepTable_35 : decode cb_stepTable 35 = .ok (.iconst 1, 1) := by decide +kernel
theorem d_stepTable_36 : decode cb_stepTable 36 = .ok (.iadd, 1) := by decide +kernel
theorem d_stepTable_37 : decode cb_stepTable 37 = .ok (.putfield 76, 3) := by decide +kernel
theorem d_stepTable_40 : decode cb_stepTable 40 = .ok (.aload_n 0, 1) := by decide +kernel
theorem d_stepTable_41 : decode cb_stepTable 41 = .ok (.dup, 1) := by decide +kernel
theorem d_stepTable_42 : decode cb_stepTable 42 = .ok (.getfield 164, 3) := by decide +kernel
theorem d_stepTable_45 : decode cb_stepTable 45 = .ok (.iconst 1, 1) := by decide +kernel
theorem d_stepTable_46 : decode cb_stepTable 46 = .ok (.isub, 1) := by decide +kernel
theorem d_stepTable_47 : decode cb_stepTable 47 = .ok (.putfield 164, 3) := by decide +kernel
theorem d_stepTable_50 : decode cb_stepTable 50 = .ok (.iload_n 2, 1) := by decide +kernel
theorem d_stepTable_51 : decode cb_stepTable 51 = .ok (.iconst 1, 1) := by decide +kernel
theorem d_stepTable_52 : decode cb_stepTable 52 = .ok (.iadd, 1) := by decide +kernel
theorem d_stepTable_53 : decode cb_stepTable 53 = .ok (.istore_n 3, 1) := by decide +kernel
theorem d_stepTable_54 : decode cb_stepTable 54 = .ok (.iload_n 3, 1) := by decide +kernel
theorem d_stepTable_55 : decode cb_stepTable 55 = .ok (.sipush 260, 3) := by decide +kernel
theorem d_stepTable_58 : decode cb_stepTable 58 = .ok (.aload_n 0, 1) := by decide +kernel
theorem d_stepTable_59 : decode cb_stepTable 59 = .ok (.getfield 93, 3) := by decide +kernel
theorem d_stepTable_62 : decode cb_stepTable 62 = .ok (.imul, 1) := by decide +kernel
theorem d_stepTable_63 : decode cb_stepTable 63 = .ok (.aload_n 0, 1) := by decide +kernel
theorem d_stepTable_64 : decode cb_stepTable 64 = .ok (.getfield 13, 3) := by decide +kernel
theorem d_stepTable_67 : decode cb_stepTable 67 = .ok (.aload_n 0, 1) := by decide +kernel
theorem d_stepTable_68 : decode cb_stepTable 68 = .ok (.getfield 93, 3) := by decide +kernel
theorem d_stepTable_71 : decode cb_stepTable 71 = .ok (.iaload, 1) := by decide +kernel
theorem d_stepTable_72 : decode cb_stepTable 72 = .ok (.iadd, 1) := by decide +kernel
theorem d_stepTable_73 : decode cb_stepTable 73 = .ok (.if_icmp .ge 37, 3) := by decide +kernel
theorem d_stepTable_76 : decode cb_stepTable 76 = .ok (.aload_n 0, 1) := by decide +kernel
theorem d_stepTable_77 : decode cb_stepTable 77 = .ok (.getfield 16, 3) := by decide +kernel
theorem d_stepTable_80 : decode cb_stepTable 80 = .ok (.iload_n 3, 1) := by decide +kernel
theorem d_stepTable_81 : decode cb_stepTable 81 = .ok (.aload_n 0, 1) := by decide +kernel
theorem d_stepTable_82 : decode cb_stepTable 82 = .ok (.getfield 16, 3) := by decide +kernel
theorem d_stepTable_85 : decode cb_stepTable 85 = .ok (.iload_n 3, 1) := by decide +kernel
theorem d_stepTable_86 : decode cb_stepTable 86 = .ok (.iaload, 1) := by decide +kernel
theorem d_stepTable_87 : decode cb_stepTable 87 = .ok (.bipush 9, 2) := by decide +kernel
theorem d_stepTable_89 : decode cb_stepTable 89 = .ok (.if_icmp .ne 8, 3) := by decide +kernel
theorem d_stepTable_92 : decode cb_stepTable 92 = .ok (.bipush 10, 2) := by decide +kernel
theorem d_stepTable_94 : decode cb_stepTable 94 = .ok (.goto 9, 3) := by decide +kernel
theorem d_stepTable_97 : decode cb_stepTable 97 = .ok (.aload_n 0, 1) := by decide +kernel
theorem d_stepTable_98 : decode cb_stepTable 98 = .ok (.getfield 16, 3) := by decide +kernel
theorem d_stepTable_101 : decode cb_stepTable 101 = .ok (.iload_n 3, 1) := by decide +kernel
theorem d_stepTable_102 : decode cb_stepTable 102 = .ok (.iaload, 1) := by decide +kernel
theorem d_stepTable_103 : decode cb_stepTable 103 = .ok (.iastore, 1) := by decide +kernel
theorem d_stepTable_104 : decode cb_stepTable 104 = .ok (.iinc 3 1, 3) := by decide +kernel
theorem d_stepTable_107 : decode cb_stepTable 107 = .ok (.goto (-53), 3) := by decide +kernel
theorem d_stepTable_110 : decode cb_stepTable 110 = .ok (.iconst 1, 1) := by decide +kernel
theorem d_stepTable_111 : decode cb_stepTable 111 = .ok (.ireturn, 1) := by decide +kernel
theorem d_stepTable_112 : decode cb_stepTable 112 = .ok (.aload_n 0, 1) := by decide +kernel
theorem d_stepTable_113 : decode cb_stepTable 113 = .ok (.getfield 61, 3) := by decide +kernel
theorem d_stepTable_116 : decode cb_stepTable 116 = .ok (.iload_n 1, 1) := by decide +kernel
theorem d_stepTable_117 : decode cb_stepTable 117 = .ok (.iaload, 1) := by decide +kernel
theorem d_stepTable_118 : decode cb_stepTable 118 = .ok (.iconst 1, 1) := by decide +kernel
theorem d_stepTable_119 : decode cb_stepTable 119 = .ok (.if_icmp .ne 40, 3) := by decide +kernel
theorem d_stepTable_122 : decode cb_stepTable 122 = .ok (.aload_n 0, 1) := by decide +kernel
theorem d_stepTable_123 : decode cb_stepTable 123 = .ok (.invokevirtual 82, 3) := by decide +kernel
theorem d_stepTable_126 : decode cb_stepTable 126 = .ok (.bipush 44, 2) := by decide +kernel
theorem d_stepTable_128 : decode cb_stepTable 128 = .ok (.if_icmp .eq 12, 3) := by decide +kernel
theorem d_stepTable_131 : decode cb_stepTable 131 = .ok (.aload_n 0, 1) := by decide +kernel
theorem d_stepTable_132 : decode cb_stepTable 132 = .ok (.aload_n 0, 1) := by decide +kernel
theorem d_stepTable_133 : decode cb_stepTable 133 = .ok (.getfield 76, 3) := by decide +kernel
theorem d_stepTable_136 : decode cb_stepTable 136 = .ok (.invokevirtual 102, 3) := by decide +kernel
theorem d_stepTable_139 : decode cb_stepTable 139 = .ok (.ireturn, 1) := by decide +kernel
theorem d_stepTable_140 : decode cb_stepTable 140 = .ok (.aload_n 0, 1) := by decide +kernel
theorem d_stepTable_141 : decode cb_stepTable 141 = .ok (.dup, 1) := by decide +kernel
theorem d_stepTable_142 : decode cb_stepTable 142 = .ok (.getfield 76, 3) := by decide +kernel
theorem d_stepTable_145 : decode cb_stepTable 145 = .ok (.iconst 1, 1) := by decide +kernel
theorem d_stepTable_146 : decode cb_stepTable 146 = .ok (.iadd, 1) := by decide +kernel
theorem d_stepTable_147 : decode cb_stepTable 147 = .ok (.putfield 76, 3) := by decide +kernel
theorem d_stepTable_150 : decode cb_stepTable 150 = .ok (.aload_n 0, 1) := by decide +kernel
theorem d_stepTable_151 : decode cb_stepTable 151 = .ok (.getfield 61, 3) := by decide +kernel
theorem d_stepTable_154 : decode cb_stepTable 154 = .ok (.iload_n 1, 1) := by decide +kernel
theorem d_stepTable_155 : decode cb_stepTable 155 = .ok (.iconst 2, 1) := by decide +kernel
theorem d_stepTable_156 : decode cb_stepTable 156 = .ok (.iastore, 1) := by decide +kernel
theorem d_stepTable_157 : decode cb_stepTable 157 = .ok (.iconst 1, 1) := by decide +kernel
theorem d_stepTable_158 : decode cb_stepTable 158 = .ok (.ireturn, 1) := by decide +kernel
theorem d_stepTable_159 : decode cb_stepTable 159 = .ok (.aload_n 0, 1) := by decide +kernel
theorem d_stepTable_160 : decode cb_stepTable 160 = .ok (.getfield 61, 3) := by decide +kernel
theorem d_stepTable_163 : decode cb_stepTable 163 = .ok (.iload_n 1, 1) := by decide +kernel
theorem d_stepTable_164 : decode cb_stepTable 164 = .ok (.iconst 1, 1) := by decide +kernel
theorem d_stepTable_165 : decode cb_stepTable 165 = .ok (.iastore, 1) := by decide +kernel
theorem d_stepTable_166 : decode cb_stepTable 166 = .ok (.aload_n 0, 1) := by decide +kernel
theorem d_stepTable_167 : decode cb_stepTable 167 = .ok (.iload_n 2, 1) := by decide +kernel
theorem d_stepTable_168 : decode cb_stepTable 168 = .ok (.invokevirtual 191, 3) := by decide +kernel
theorem d_stepTable_171 : decode cb_stepTable 171 = .ok (.ireturn, 1) := by decide +kernel
theorem d_finishValue_0 : decode cb_finishValue 0 = .ok (.iconst 1, 1) := by decide +kernel
theorem d_finishValue_1 : decode cb_finishValue 1 = .ok (.istore_n 1, 1) := by decide +kernel
theorem d_finishValue_2 : decode cb_finishValue 2 = .ok (.aload_n 0, 1) := by decide +kernel
theorem d_finishValue_3 : decode cb_finishValue 3 = .ok (.getfield 164, 3) := by decide +kernel
theorem d_finishValue_6 : decode cb_finishValue 6 = .ok (.ifCond .le 54, 3) := by decide +kernel
theorem d_finishValue_9 : decode cb_finishValue 9 = .ok (.iload_n 1, 1) := by decide +kernel
theorem d_finishValue_10 : decode cb_finishValue 10 = .ok (.ifCond .eq 50, 3) := by decide +kernel
theorem d_finishValue_13 : decode cb_finishValue 13 = .ok (.aload_n 0, 1) := by decide +kernel
theorem d_finishValue_14 : decode cb_finishValue 14 = .ok (.getfield 16, 3) := by decide +kernel
theorem d_finishValue_17 : decode cb_finishValue 17 = .ok (.aload_n 0, 1) := by decide +kernel
theorem d_finishValue_18 : decode cb_finishValue 18 = .ok (.getfield 58, 3) := by decide +kernel
theorem d_finishValue_21 : decode cb_finishValue 21 = .ok (.aload_n 0, 1) := by decide +kernel
theorem d_finishValue_22 : decode cb_finishValue 22 = .ok (.getfield 164, 3) := by decide +kernel
theorem d_finishValue_25 : decode cb_finishValue 25 = .ok (.iconst 1, 1) := by decide +kernel
theorem d_finishValue_26 : decode cb_finishValue 26 = .ok (.isub, 1) := by decide +kernel
theorem d_finishValue_27 : decode cb_finishValue 27 = .ok (.iaload, 1) := by decide +kernel
theorem d_finishValue_28 : decode cb_finishValue 28 = .ok (.iaload, 1) := by decide +kernel
theorem d_finishValue_29 : decode cb_finishValue 29 = .ok (.iconst 5, 1) := by decide +kernel
theorem d_finishValue_30 : decode cb_finishValue 30 = .ok (.if_icmp .ne 16, 3) := by decide +kernel
theorem d_finishValue_33 : decode cb_finishValue 33 = .ok (.aload_n 0, 1) := by decide +kernel
theorem d_finishValue_34 : decode cb_finishValue 34 = .ok (.aload_n 0, 1) := by decide +kernel
theorem d_finishValue_35 : decode cb_finishValue 35 = .ok (.getfield 164, 3) := by decide +kernel
theorem d_finishValue_38 : decode cb_finishValue 38 = .ok (.iconst 1, 1) := by decide +kernel
theorem d_finishValue_39 : decode cb_finishValue 39 = .ok (.isub, 1) := by decide +kernel
theorem d_finishValue_40 : decode cb_finishValue 40 = .ok (.invokevirtual 194, 3) := by decide +kernel
theorem d_finishValue_43 : decode cb_finishValue 43 = .ok (.goto 13, 3) := by decide +kernel
theorem d_finishValue_46 : decode cb_finishValue 46 = .ok (.aload_n 0, 1) := by decide +kernel
theorem d_finishValue_47 : decode cb_finishValue 47 = .ok (.aload_n 0, 1) := by decide +kernel
theorem d_finishValue_48 : decode cb_finishValue 48 = .ok (.getfield 164, 3) := by decide +kernel
theorem d_finishValue_51 : decode cb_finishValue 51 = .ok (.iconst 1, 1) := by decide +kernel
theorem d_finishValue_52 : decode cb_finishValue 52 = .ok (.isub, 1) := by decide +kernel
theorem d_finishValue_53 : decode cb_finishValue 53 = .ok (.invokevirtual 197, 3) := by decide +kernel
theorem d_finishValue_56 : decode cb_finishValue 56 = .ok (.istore_n 1, 1) := by decide +kernel
theorem d_finishValue_57 : decode cb_finishValue 57 = .ok (.goto (-55), 3) := by decide +kernel
theorem d_finishValue_60 : decode cb_finishValue 60 = .ok (.iload_n 1, 1) := by decide +kernel
theorem d_finishValue_61 : decode cb_finishValue 61 = .ok (.ireturn, 1) := by decide +kernel
theorem d_header_0 : decode cb_header 0 = .ok (.aload_n 0, 1) := by decide +kernel
theorem d_header_1 : decode cb_header 1 = .ok (.dup, 1) := by decide +kernel
theorem d_header_2 : decode cb_header 2 = .ok (.getfield 76, 3) := by decide +kernel
theorem d_header_5 : decode cb_header 5 = .ok (.iconst 1, 1) := by decide +kernel
theorem d_header_6 : decode cb_header 6 = .ok (.iadd, 1) := by decide +kernel
theorem d_header_7 : decode cb_header 7 = .ok (.putfield 76, 3) := by decide +kernel
theorem d_header_10 : decode cb_header 10 = .ok (.aload_n 0, 1) := by decide +kernel
theorem d_header_11 : decode cb_header 11 = .ok (.invokevirtual 82, 3) := by decide +kernel
theorem d_header_14 : decode cb_header 14 = .ok (.bipush 91, 2) := by decide +kernel
theorem d_header_16 : decode cb_header 16 = .ok (.if_icmp .ne 7, 3) := by decide +kernel
theorem d_header_19 : decode cb_header 19 = .ok (.iconst 1, 1) := by decide +kernel
theorem d_header_20 : decode cb_header 20 = .ok (.goto 4, 3) := by decide +kernel
theorem d_header_23 : decode cb_header 23 = .ok (.iconst 0, 1) := by decide +kernel
theorem d_header_24 : decode cb_header 24 = .ok (.istore_n 1, 1) := by decide +kernel
theorem d_header_25 : decode cb_header 25 = .ok (.aload_n 0, 1) := by decide +kernel
theorem d_header_26 : decode cb_header 26 = .ok (.dup, 1) := by decide +kernel
theorem d_header_27 : decode cb_header 27 = .ok (.getfield 76, 3) := by decide +kernel
theorem d_header_30 : decode cb_header 30 = .ok (.iload_n 1, 1) := by decide +kernel
theorem d_header_31 : decode cb_header 31 = .ok (.ifCond .eq 7, 3) := by decide +kernel
theorem d_header_34 : decode cb_header 34 = .ok (.iconst 1, 1) := by decide +kernel
theorem d_header_35 : decode cb_header 35 = .ok (.goto 4, 3) := by decide +kernel
theorem d_header_38 : decode cb_header 38 = .ok (.iconst 0, 1) := by decide +kernel
theorem d_header_39 : decode cb_header 39 = .ok (.iadd, 1) := by decide +kernel
theorem d_header_40 : decode cb_header 40 = .ok (.putfield 76, 3) := by decide +kernel
theorem d_header_43 : decode cb_header 43 = .ok (.aload_n 0, 1) := by decide +kernel
theorem d_header_44 : decode cb_header 44 = .ok (.invokevirtual 129, 3) := by decide +kernel
theorem d_header_47 : decode cb_header 47 = .ok (.aload_n 0, 1) := by decide +kernel
theorem d_header_48 : decode cb_header 48 = .ok (.invokevirtual 185, 3) := by decide +kernel
theorem d_header_51 : decode cb_header 51 = .ok (.ifCond .ne 5, 3) := by decide +kernel
theorem d_header_54 : decode cb_header 54 = .ok (.iconst (-1), 1) := by decide +kernel
theorem d_header_55 : decode cb_header 55 = .ok (.ireturn, 1) := by decide +kernel
theorem d_header_56 : decode cb_header 56 = .ok (.aload_n 0, 1) := by decide +kernel
theorem d_header_57 : decode cb_header 57 = .ok (.iload_n 1, 1) := by decide +kernel
theorem d_header_58 : decode cb_header 58 = .ok (.invokevirtual 200, 3) := by decide +kernel
theorem d_header_61 : decode cb_header 61 = .ok (.istore_n 2, 1) := by decide +kernel
theorem d_header_62 : decode cb_header 62 = .ok (.iconst 0, 1) := by decide +kernel
theorem d_header_63 : decode cb_header 63 = .ok (.istore_n 3, 1) := by decide +kernel
theorem d_header_64 : decode cb_header 64 = .ok (.iload_n 3, 1) := by decide +kernel
theorem d_header_65 : decode cb_header 65 = .ok (.iload_n 1, 1) := by decide +kernel
theorem d_header_66 : decode cb_header 66 = .ok (.ifCond .eq 7, 3) := by decide +kernel
theorem d_header_69 : decode cb_header 69 = .ok (.iconst 2, 1) := by decide +kernel
theorem d_header_70 : decode cb_header 70 = .ok (.goto 4, 3) := by decide +kernel
theorem d_header_73 : decode cb_header 73 = .ok (.iconst 1, 1) := by decide +kernel
theorem d_header_74 : decode cb_header 74 = .ok (.if_icmp .ge 43, 3) := by decide +kernel
theorem d_header_77 : decode cb_header 77 = .ok (.iload_n 2, 1) := by decide +kernel
theorem d_header_78 : decode cb_header 78 = .ok (.iconst (-1), 1) := by decide +kernel
theorem d_header_79 : decode cb_header 79 = .ok (.if_icmp .eq 38, 3) := by decide +kernel
theorem d_header_82 : decode cb_header 82 = .ok (.aload_n 0, 1) := by decide +kernel
theorem d_header_83 : decode cb_header 83 = .ok (.invokevirtual 82, 3) := by decide +kernel
theorem d_header_86 : decode cb_header 86 = .ok (.bipush 93, 2) := by decide +kernel
theorem d_header_88 : decode cb_header 88 = .ok (.if_icmp .eq 13, 3) := by decide +kernel
theorem d_header_91 : decode cb_header 91 = .ok (.aload_n 0, 1) := by decide +kernel
theorem d_header_92 : decode cb_header 92 = .ok (.aload_n 0, 1) := by decide +kernel
theorem d_header_93 : decode cb_header 93 = .ok (.getfield 76, 3) := by decide +kernel
theorem d_header_96 : decode cb_header 96 = .ok (.putfield 79, 3) := by decide +kernel
theorem d_header_99 : decode cb_header 99 = .ok (.iconst (-1), 1) := by decide +kernel
theorem d_header_100 : decode cb_header 100 = .ok (.ireturn, 1) := by decide +kernel
theorem d_header_101 : decode cb_header 101 = .ok (.aload_n 0, 1) := by decide +kernel
theorem d_header_102 : decode cb_header 102 = .ok (.dup, 1) := by decide +kernel
theorem d_header_103 : decode cb_header 103 = .ok (.getfield 76, 3) := by decide +kernel
theorem d_header_106 : decode cb_header 106 = .ok (.iconst 1, 1) := by decide +kernel
theorem d_header_107 : decode cb_header 107 = .ok (.iadd, 1) := by decide +kernel
theorem d_header_108 : decode cb_header 108 = .ok (.putfield 76, 3) := by decide +kernel
theorem d_header_111 : decode cb_header 111 = .ok (.iinc 3 1, 3) := by decide +kernel
theorem d_header_114 : decode cb_header 114 = .ok (.goto (-50), 3) := by decide +kernel
theorem d_header_117 : decode cb_header 117 = .ok (.iload_n 2, 1) := by decide +kernel
theorem d_header_118 : decode cb_header 118 = .ok (.ireturn, 1) := by decide +kernel
theorem d_line_0 : decode cb_line 0 = .ok (.iload_n 1, 1) := by decide +kernel
theorem d_line_1 : decode cb_line 1 = .ok (.istore_n 2, 1) := by decide +kernel
theorem d_line_2 : decode cb_line 2 = .ok (.aload_n 0, 1) := by decide +kernel
theorem d_line_3 : decode cb_line 3 = .ok (.invokevirtual 129, 3) := by decide +kernel
theorem d_line_6 : decode cb_line 6 = .ok (.aload_n 0, 1) := by decide +kernel
theorem d_line_7 : decode cb_line 7 = .ok (.invokevirtual 82, 3) := by decide +kernel
theorem d_line_10 : decode cb_line 10 = .ok (.istore_n 3, 1) := by decide +kernel
theorem d_line_11 : decode cb_line 11 = .ok (.iload_n 3, 1) := by decide +kernel
theorem d_line_12 : decode cb_line 12 = .ok (.bipush 91, 2) := by decide +kernel
theorem d_line_14 : decode cb_line 14 = .ok (.if_icmp .ne 15, 3) := by decide +kernel
theorem d_line_17 : decode cb_line 17 = .ok (.aload_n 0, 1) := by decide +kernel
theorem d_line_18 : decode cb_line 18 = .ok (.invokevirtual 204, 3) := by decide +kernel
theorem d_line_21 : decode cb_line 21 = .ok (.istore_n 2, 1) := by decide +kernel
theorem d_line_22 : decode cb_line 22 = .ok (.iload_n 2, 1) := by decide +kernel
theorem d_line_23 : decode cb_line 23 = .ok (.iconst (-1), 1) := by decide +kernel
theorem d_line_24 : decode cb_line 24 = .ok (.if_icmp .ne 50, 3) := by decide +kernel
theorem d_line_27 : decode cb_line 27 = .ok (.iconst (-1), 1) := by decide +kernel
theorem d_line_28 : decode cb_line 28 = .ok (.ireturn, 1) := by decide +kernel
theorem d_line_29 : decode cb_line 29 = .ok (.aload_n 0, 1) := by decide +kernel
theorem d_line_30 : decode cb_line 30 = .ok (.getfield 76, 3) := by decide +kernel
theorem d_line_33 : decode cb_line 33 = .ok (.aload_n 0, 1) := by decide +kernel
theorem d_line_34 : decode cb_line 34 = .ok (.getfield 73, 3) := by decide +kernel
theorem d_line_37 : decode cb_line 37 = .ok (.if_icmp .ge 37, 3) := by decide +kernel
theorem d_line_40 : decode cb_line 40 = .ok (.iload_n 3, 1) := by decide +kernel
theorem d_line_41 : decode cb_line 41 = .ok (.bipush 10, 2) := by decide +kernel
theorem d_line_43 : decode cb_line 43 = .ok (.if_icmp .eq 31, 3) := by decide +kernel
theorem d_line_46 : decode cb_line 46 = .ok (.iload_n 3, 1) := by decide +kernel
theorem d_line_47 : decode cb_line 47 = .ok (.bipush 35, 2) := by decide +kernel
theorem d_line_49 : decode cb_line 49 = .ok (.if_icmp .eq 25, 3) := by decide +kernel
theorem d_line_52 : decode cb_line 52 = .ok (.aload_n 0, 1) := by decide +kernel
theorem d_line_53 : decode cb_line 53 = .ok (.iconst 0, 1) := by decide +kernel
theorem d_line_54 : decode cb_line 54 = .ok (.putfield 164, 3) := by decide +kernel
theorem d_line_57 : decode cb_line 57 = .ok (.aload_n 0, 1) := by decide +kernel
theorem d_line_58 : decode cb_line 58 = .ok (.iload_n 2, 1) := by decide +kernel
theorem d_line_59 : decode cb_line 59 = .ok (.invokevirtual 191, 3) := by decide +kernel
theorem d_line_62 : decode cb_line 62 = .ok (.ifCond .eq 10, 3) := by decide +kernel
theorem d_line_65 : decode cb_line 65 = .ok (.aload_n 0, 1) := by decide +kernel
theorem d_line_66 : decode cb_line 66 = .ok (.invokevirtual 207, 3) := by decide +kernel
theorem d_line_69 : decode cb_line 69 = .ok (.ifCond .ne 5, 3) := by decide +kernel
theorem d_line_72 : decode cb_line 72 = .ok (.iconst (-1), 1) := by decide +kernel
theorem d_line_73 : decode cb_line 73 = .ok (.ireturn, 1) := by decide +kernel
theorem d_line_74 : decode cb_line 74 = .ok (.aload_n 0, 1) := by decide +kernel
theorem d_line_75 : decode cb_line 75 = .ok (.invokevirtual 129, 3) := by decide +kernel
theorem d_line_78 : decode cb_line 78 = .ok (.aload_n 0, 1) := by decide +kernel
theorem d_line_79 : decode cb_line 79 = .ok (.invokevirtual 82, 3) := by decide +kernel
theorem d_line_82 : decode cb_line 82 = .ok (.bipush 35, 2) := by decide +kernel
theorem d_line_84 : decode cb_line 84 = .ok (.if_icmp .ne 7, 3) := by decide +kernel
theorem d_line_87 : decode cb_line 87 = .ok (.aload_n 0, 1) := by decide +kernel
theorem d_line_88 : decode cb_line 88 = .ok (.invokevirtual 86, 3) := by decide +kernel
theorem d_line_91 : decode cb_line 91 = .ok (.aload_n 0, 1) := by decide +kernel
theorem d_line_92 : decode cb_line 92 = .ok (.getfield 76, 3) := by decide +kernel
theorem d_line_95 : decode cb_line 95 = .ok (.aload_n 0, 1) := by decide +kernel
theorem d_line_96 : decode cb_line 96 = .ok (.getfield 73, 3) := by decide +kernel
theorem d_line_99 : decode cb_line 99 = .ok (.if_icmp .ge 22, 3) := by decide +kernel
theorem d_line_102 : decode cb_line 102 = .ok (.aload_n 0, 1) := by decide +kernel
theorem d_line_103 : decode cb_line 103 = .ok (.invokevirtual 82, 3) := by decide +kernel
theorem d_line_106 : decode cb_line 106 = .ok (.bipush 10, 2) := by decide +kernel
theorem d_line_108 : decode cb_line 108 = .ok (.if_icmp .eq 13, 3) := by decide +kernel
theorem d_line_111 : decode cb_line 111 = .ok (.aload_n 0, 1) := by decide +kernel
theorem d_line_112 : decode cb_line 112 = .ok (.aload_n 0, 1) := by decide +kernel
theorem d_line_113 : decode cb_line 113 = .ok (.getfield 76, 3) := by decide +kernel
theorem d_line_116 : decode cb_line 116 = .ok (.putfield 79, 3) := by decide +kernel
theorem d_line_119 : decode cb_line 119 = .ok (.iconst (-1), 1) := by decide +kernel
theorem d_line_120 : decode cb_line 120 = .ok (.ireturn, 1) := by decide +kernel
theorem d_line_121 : decode cb_line 121 = .ok (.aload_n 0, 1) := by decide +kernel
theorem d_line_122 : decode cb_line 122 = .ok (.dup, 1) := by decide +kernel
theorem d_line_123 : decode cb_line 123 = .ok (.getfield 76, 3) := by decide +kernel
theorem d_line_126 : decode cb_line 126 = .ok (.iconst 1, 1) := by decide +kernel
theorem d_line_127 : decode cb_line 127 = .ok (.iadd, 1) := by decide +kernel
theorem d_line_128 : decode cb_line 128 = .ok (.putfield 76, 3) := by decide +kernel
theorem d_line_131 : decode cb_line 131 = .ok (.iload_n 2, 1) := by decide +kernel
theorem d_line_132 : decode cb_line 132 = .ok (.ireturn, 1) := by decide +kernel
theorem d_read_0 : decode cb_read 0 = .ok (.aload_n 0, 1) := by decide +kernel
theorem d_read_1 : decode cb_read 1 = .ok (.iconst 0, 1) := by decide +kernel
theorem d_read_2 : decode cb_read 2 = .ok (.putfield 67, 3) := by decide +kernel
theorem d_read_5 : decode cb_read 5 = .ok (.aload_n 0, 1) := by decide +kernel
theorem d_read_6 : decode cb_read 6 = .ok (.iconst 1, 1) := by decide +kernel
theorem d_read_7 : decode cb_read 7 = .ok (.aload_n 0, 1) := by decide +kernel
theorem d_read_8 : decode cb_read 8 = .ok (.getfield 210, 3) := by decide +kernel
theorem d_read_11 : decode cb_read 11 = .ok (.isub, 1) := by decide +kernel
theorem d_read_12 : decode cb_read 12 = .ok (.putfield 93, 3) := by decide +kernel
theorem d_read_15 : decode cb_read 15 = .ok (.aload_n 0, 1) := by decide +kernel
theorem d_read_16 : decode cb_read 16 = .ok (.getfield 13, 3) := by decide +kernel
theorem d_read_19 : decode cb_read 19 = .ok (.aload_n 0, 1) := by decide +kernel
theorem d_read_20 : decode cb_read 20 = .ok (.getfield 93, 3) := by decide +kernel
theorem d_read_23 : decode cb_read 23 = .ok (.iconst 0, 1) := by decide +kernel
theorem d_read_24 : decode cb_read 24 = .ok (.iastore, 1) := by decide +kernel
theorem d_read_25 : decode cb_read 25 = .ok (.aload_n 0, 1) := by decide +kernel
theorem d_read_26 : decode cb_read 26 = .ok (.getfield 43, 3) := by decide +kernel
theorem d_read_29 : decode cb_read 29 = .ok (.aload_n 0, 1) := by decide +kernel
theorem d_read_30 : decode cb_read 30 = .ok (.getfield 93, 3) := by decide +kernel
theorem d_read_33 : decode cb_read 33 = .ok (.iconst 0, 1) := by decide +kernel
theorem d_read_34 : decode cb_read 34 = .ok (.iastore, 1) := by decide +kernel
theorem d_read_35 : decode cb_read 35 = .ok (.aload_n 0, 1) := by decide +kernel
theorem d_read_36 : decode cb_read 36 = .ok (.iconst 0, 1) := by decide +kernel
theorem d_read_37 : decode cb_read 37 = .ok (.putfield 76, 3) := by decide +kernel
theorem d_read_40 : decode cb_read 40 = .ok (.aload_n 0, 1) := by decide +kernel
theorem d_read_41 : decode cb_read 41 = .ok (.iconst (-1), 1) := by decide +kernel
theorem d_read_42 : decode cb_read 42 = .ok (.putfield 79, 3) := by decide +kernel
theorem d_read_45 : decode cb_read 45 = .ok (.aload_n 0, 1) := by decide +kernel
theorem d_read_46 : decode cb_read 46 = .ok (.bipush 7, 2) := by decide +kernel
theorem d_read_48 : decode cb_read 48 = .ok (.iconst (-1), 1) := by decide +kernel
theorem d_read_49 : decode cb_read 49 = .ok (.invokevirtual 136, 3) := by decide +kernel
theorem d_read_52 : decode cb_read 52 = .ok (.istore_n 1, 1) := by decide +kernel
theorem d_read_53 : decode cb_read 53 = .ok (.aload_n 0, 1) := by decide +kernel
theorem d_read_54 : decode cb_read 54 = .ok (.getfield 76, 3) := by decide +kernel
theorem d_read_57 : decode cb_read 57 = .ok (.aload_n 0, 1) := by decide +kernel
theorem d_read_58 : decode cb_read 58 = .ok (.getfield 73, 3) := by decide +kernel
theorem d_read_61 : decode cb_read 61 = .ok (.if_icmp .ge 17, 3) := by decide +kernel
theorem d_read_64 : decode cb_read 64 = .ok (.iload_n 1, 1) := by decide +kernel
theorem d_read_65 : decode cb_read 65 = .ok (.iconst (-1), 1) := by decide +kernel
theorem d_read_66 : decode cb_read 66 = .ok (.if_icmp .eq 12, 3) := by decide +kernel
theorem d_read_69 : decode cb_read 69 = .ok (.aload_n 0, 1) := by decide +kernel
theorem d_read_70 : decode cb_read 70 = .ok (.iload_n 1, 1) := by decide +kernel
theorem d_read_71 : decode cb_read 71 = .ok (.invokevirtual 213, 3) := by decide +kernel
theorem d_read_74 : decode cb_read 74 = .ok (.istore_n 1, 1) := by decide +kernel
theorem d_read_75 : decode cb_read 75 = .ok (.goto (-22), 3) := by decide +kernel
theorem d_read_78 : decode cb_read 78 = .ok (.aload_n 0, 1) := by decide +kernel
theorem d_read_79 : decode cb_read 79 = .ok (.iconst 0, 1) := by decide +kernel
theorem d_read_80 : decode cb_read 80 = .ok (.putfield 73, 3) := by decide +kernel
theorem d_read_83 : decode cb_read 83 = .ok (.iload_n 1, 1) := by decide +kernel
theorem d_read_84 : decode cb_read 84 = .ok (.iconst (-1), 1) := by decide +kernel
theorem d_read_85 : decode cb_read 85 = .ok (.if_icmp .ne 8, 3) := by decide +kernel
theorem d_read_88 : decode cb_read 88 = .ok (.aload_n 0, 1) := by decide +kernel
theorem d_read_89 : decode cb_read 89 = .ok (.getfield 79, 3) := by decide +kernel
theorem d_read_92 : decode cb_read 92 = .ok (.ireturn, 1) := by decide +kernel
theorem d_read_93 : decode cb_read 93 = .ok (.aload_n 0, 1) := by decide +kernel
theorem d_read_94 : decode cb_read 94 = .ok (.aload_n 0, 1) := by decide +kernel
theorem d_read_95 : decode cb_read 95 = .ok (.getfield 93, 3) := by decide +kernel
theorem d_read_98 : decode cb_read 98 = .ok (.putfield 210, 3) := by decide +kernel
theorem d_read_101 : decode cb_read 101 = .ok (.aload_n 0, 1) := by decide +kernel
theorem d_read_102 : decode cb_read 102 = .ok (.sipush 260, 3) := by decide +kernel
theorem d_read_105 : decode cb_read 105 = .ok (.aload_n 0, 1) := by decide +kernel
theorem d_read_106 : decode cb_read 106 = .ok (.getfield 210, 3) := by decide +kernel
theorem d_read_109 : decode cb_read 109 = .ok (.imul, 1) := by decide +kernel
theorem d_read_110 : decode cb_read 110 = .ok (.putfield 216, 3) := by decide +kernel
theorem d_read_113 : decode cb_read 113 = .ok (.iconst (-1), 1) := by decide +kernel
theorem d_read_114 : decode cb_read 114 = .ok (.ireturn, 1) := by decide +kernel
theorem d_put_0 : decode cb_put 0 = .ok (.aload_n 0, 1) := by decide +kernel
theorem d_put_1 : decode cb_put 1 = .ok (.getfield 219, 3) := by decide +kernel
theorem d_put_4 : decode cb_put 4 = .ok (.sipush 600, 3) := by decide +kernel
theorem d_put_7 : decode cb_put 7 = .ok (.if_icmp .ge 13, 3) := by decide +kernel
theorem d_put_10 : decode cb_put 10 = .ok (.aload_n 0, 1) := by decide +kernel
theorem d_put_11 : decode cb_put 11 = .ok (.getfield 64, 3) := by decide +kernel
theorem d_put_14 : decode cb_put 14 = .ok (.aload_n 0, 1) := by decide +kernel
theorem d_put_15 : decode cb_put 15 = .ok (.getfield 219, 3) := by decide +kernel
theorem d_put_18 : decode cb_put 18 = .ok (.iload_n 1, 1) := by decide +kernel
theorem d_put_19 : decode cb_put 19 = .ok (.iastore, 1) := by decide +kernel
theorem d_put_20 : decode cb_put 20 = .ok (.aload_n 0, 1) := by decide +kernel
theorem d_put_21 : decode cb_put 21 = .ok (.dup, 1) := by decide +kernel
theorem d_put_22 : decode cb_put 22 = .ok (.getfield 219, 3) := by decide +kernel
theorem d_put_25 : decode cb_put 25 = .ok (.iconst 1, 1) := by decide +kernel
theorem d_put_26 : decode cb_put 26 = .ok (.iadd, 1) := by decide +kernel
theorem d_put_27 : decode cb_put 27 = .ok (.putfield 219, 3) := by decide +kernel
theorem d_put_30 : decode cb_put 30 = .ok (.return_, 1) := by decide +kernel
theorem d_putNumber_0 : decode cb_putNumber 0 = .ok (.iconst 1, 1) := by decide +kernel
theorem d_putNumber_1 : decode cb_putNumber 1 = .ok (.istore_n 3, 1) := by decide +kernel
theorem d_putNumber_2 : decode cb_putNumber 2 = .ok (.iconst 1, 1) := by decide +kernel
theorem d_putNumber_3 : decode cb_putNumber 3 = .ok (.istore 4, 2) := by decide +kernel
theorem d_putNumber_5 : decode cb_putNumber 5 = .ok (.iload 4, 2) := by decide +kernel
theorem d_putNumber_7 : decode cb_putNumber 7 = .ok (.iload_n 2, 1) := by decide +kernel
theorem d_putNumber_8 : decode cb_putNumber 8 = .ok (.if_icmp .ge 14, 3) := by decide +kernel
theorem d_putNumber_11 : decode cb_putNumber 11 = .ok (.iload_n 3, 1) := by decide +kernel
theorem d_putNumber_12 : decode cb_putNumber 12 = .ok (.bipush 10, 2) := by decide +kernel
theorem d_putNumber_14 : decode cb_putNumber 14 = .ok (.imul, 1) := by decide +kernel
theorem d_putNumber_15 : decode cb_putNumber 15 = .ok (.istore_n 3, 1) := by decide +kernel
theorem d_putNumber_16 : decode cb_putNumber 16 = .ok (.iinc 4 1, 3) := by decide +kernel
theorem d_putNumber_19 : decode cb_putNumber 19 = .ok (.goto (-14), 3) := by decide +kernel
theorem d_putNumber_22 : decode cb_putNumber 22 = .ok (.iload_n 1, 1) := by decide +kernel
theorem d_putNumber_23 : decode cb_putNumber 23 = .ok (.iload_n 3, 1) := by decide +kernel
theorem d_putNumber_24 : decode cb_putNumber 24 = .ok (.idiv, 1) := by decide +kernel
theorem d_putNumber_25 : decode cb_putNumber 25 = .ok (.bipush 9, 2) := by decide +kernel
theorem d_putNumber_27 : decode cb_putNumber 27 = .ok (.if_icmp .le 11, 3) := by decide +kernel
theorem d_putNumber_30 : decode cb_putNumber 30 = .ok (.iload_n 3, 1) := by decide +kernel
theorem d_putNumber_31 : decode cb_putNumber 31 = .ok (.bipush 10, 2) := by decide +kernel
theorem d_putNumber_33 : decode cb_putNumber 33 = .ok (.imul, 1) := by decide +kernel
theorem d_putNumber_34 : decode cb_putNumber 34 = .ok (.istore_n 3, 1) := by decide +kernel
theorem d_putNumber_35 : decode cb_putNumber 35 = .ok (.goto (-13), 3) := by decide +kernel
theorem d_putNumber_38 : decode cb_putNumber 38 = .ok (.iload_n 3, 1) := by decide +kernel
theorem d_putNumber_39 : decode cb_putNumber 39 = .ok (.istore 4, 2) := by decide +kernel
theorem d_putNumber_41 : decode cb_putNumber 41 = .ok (.iload 4, 2) := by decide +kernel
theorem d_putNumber_43 : decode cb_putNumber 43 = .ok (.ifCond .le 27, 3) := by decide +kernel
theorem d_putNumber_46 : decode cb_putNumber 46 = .ok (.aload_n 0, 1) := by decide +kernel
theorem d_putNumber_47 : decode cb_putNumber 47 = .ok (.bipush 48, 2) := by decide +kernel
theorem d_putNumber_49 : decode cb_putNumber 49 = .ok (.iload_n 1, 1) := by decide +kernel
theorem d_putNumber_50 : decode cb_putNumber 50 = .ok (.iload 4, 2) := by decide +kernel
theorem d_putNumber_52 : decode cb_putNumber 52 = .ok (.idiv, 1) := by decide +kernel
theorem d_putNumber_53 : decode cb_putNumber 53 = .ok (.bipush 10, 2) := by decide +kernel
theorem d_putNumber_55 : decode cb_putNumber 55 = .ok (.irem, 1) := by decide +kernel
theorem d_putNumber_56 : decode cb_putNumber 56 = .ok (.iadd, 1) := by decide +kernel
theorem d_putNumber_57 : decode cb_putNumber 57 = .ok (.invokevirtual 222, 3) := by decide +kernel
theorem d_putNumber_60 : decode cb_putNumber 60 = .ok (.iload 4, 2) := by decide +kernel
theorem d_putNumber_62 : decode cb_putNumber 62 = .ok (.bipush 10, 2) := by decide +kernel
theorem d_putNumber_64 : decode cb_putNumber 64 = .ok (.idiv, 1) := by decide +kernel
theorem d_putNumber_65 : decode cb_putNumber 65 = .ok (.istore 4, 2) := by decide +kernel
theorem d_putNumber_67 : decode cb_putNumber 67 = .ok (.goto (-26), 3) := by decide +kernel
theorem d_putNumber_70 : decode cb_putNumber 70 = .ok (.return_, 1) := by decide +kernel
theorem d_putQuoted_0 : decode cb_putQuoted 0 = .ok (.aload_n 0, 1) := by decide +kernel
theorem d_putQuoted_1 : decode cb_putQuoted 1 = .ok (.bipush 34, 2) := by decide +kernel
theorem d_putQuoted_3 : decode cb_putQuoted 3 = .ok (.invokevirtual 222, 3) := by decide +kernel
theorem d_putQuoted_6 : decode cb_putQuoted 6 = .ok (.iconst 0, 1) := by decide +kernel
theorem d_putQuoted_7 : decode cb_putQuoted 7 = .ok (.istore_n 3, 1) := by decide +kernel
theorem d_putQuoted_8 : decode cb_putQuoted 8 = .ok (.iload_n 3, 1) := by decide +kernel
theorem d_putQuoted_9 : decode cb_putQuoted 9 = .ok (.iload_n 2, 1) := by decide +kernel
theorem d_putQuoted_10 : decode cb_putQuoted 10 = .ok (.if_icmp .ge 83, 3) := by decide +kernel
theorem d_putQuoted_13 : decode cb_putQuoted 13 = .ok (.aload_n 0, 1) := by decide +kernel
theorem d_putQuoted_14 : decode cb_putQuoted 14 = .ok (.getfield 46, 3) := by decide +kernel
theorem d_putQuoted_17 : decode cb_putQuoted 17 = .ok (.iload_n 1, 1) := by decide +kernel
theorem d_putQuoted_18 : decode cb_putQuoted 18 = .ok (.iload_n 3, 1) := by decide +kernel
theorem d_putQuoted_19 : decode cb_putQuoted 19 = .ok (.iadd, 1) := by decide +kernel
theorem d_putQuoted_20 : decode cb_putQuoted 20 = .ok (.iaload, 1) := by decide +kernel
theorem d_putQuoted_21 : decode cb_putQuoted 21 = .ok (.istore 4, 2) := by decide +kernel
theorem d_putQuoted_23 : decode cb_putQuoted 23 = .ok (.iload 4, 2) := by decide +kernel
theorem d_putQuoted_25 : decode cb_putQuoted 25 = .ok (.bipush 34, 2) := by decide +kernel
theorem d_putQuoted_27 : decode cb_putQuoted 27 = .ok (.if_icmp .eq 24, 3) := by decide +kernel
theorem d_putQuoted_30 : decode cb_putQuoted 30 = .ok (.iload 4, 2) := by decide +kernel
theorem d_putQuoted_32 : decode cb_putQuoted 32 = .ok (.bipush 92, 2) := by decide +kernel
theorem d_putQuoted_34 : decode cb_putQuoted 34 = .ok (.if_icmp .eq 17, 3) := by decide +kernel
theorem d_putQuoted_37 : decode cb_putQuoted 37 = .ok (.iload 4, 2) := by decide +kernel
theorem d_putQuoted_39 : decode cb_putQuoted 39 = .ok (.bipush 10, 2) := by decide +kernel
theorem d_putQuoted_41 : decode cb_putQuoted 41 = .ok (.if_icmp .eq 10, 3) := by decide +kernel
theorem d_putQuoted_44 : decode cb_putQuoted 44 = .ok (.iload 4, 2) := by decide +kernel
theorem d_putQuoted_46 : decode cb_putQuoted 46 = .ok (.bipush 9, 2) := by decide +kernel
theorem d_putQuoted_48 : decode cb_putQuoted 48 = .ok (.if_icmp .ne 9, 3) := by decide +kernel
theorem d_putQuoted_51 : decode cb_putQuoted 51 = .ok (.aload_n 0, 1) := by decide +kernel
theorem d_putQuoted_52 : decode cb_putQuoted 52 = .ok (.bipush 92, 2) := by decide +kernel
theorem d_putQuoted_54 : decode cb_putQuoted 54 = .ok (.invokevirtual 222, 3) := by decide +kernel
theorem d_putQuoted_57 : decode cb_putQuoted 57 = .ok (.aload_n 0, 1) := by decide +kernel
theorem d_putQuoted_58 : decode cb_putQuoted 58 = .ok (.iload 4, 2) := by decide +kernel
theorem d_putQuoted_60 : decode cb_putQuoted 60 = .ok (.bipush 10, 2) := by decide +kernel
theorem d_putQuoted_62 : decode cb_putQuoted 62 = .ok (.if_icmp .ne 8, 3) := by decide +kernel
theorem d_putQuoted_65 : decode cb_putQuoted 65 = .ok (.bipush 110, 2) := by decide +kernel
theorem d_putQuoted_67 : decode cb_putQuoted 67 = .ok (.goto 17, 3) := by decide +kernel
theorem d_putQuoted_70 : decode cb_putQuoted 70 = .ok (.iload 4, 2) := by decide +kernel
theorem d_putQuoted_72 : decode cb_putQuoted 72 = .ok (.bipush 9, 2) := by decide +kernel
theorem d_putQuoted_74 : decode cb_putQuoted 74 = .ok (.if_icmp .ne 8, 3) := by decide +kernel
theorem d_putQuoted_77 : decode cb_putQuoted 77 = .ok (.bipush 116, 2) := by decide +kernel
theorem d_putQuoted_79 : decode cb_putQuoted 79 = .ok (.goto 5, 3) := by decide +kernel
theorem d_putQuoted_82 : decode cb_putQuoted 82 = .ok (.iload 4, 2) := by decide +kernel
theorem d_putQuoted_84 : decode cb_putQuoted 84 = .ok (.invokevirtual 222, 3) := by decide +kernel
theorem d_putQuoted_87 : decode cb_putQuoted 87 = .ok (.iinc 3 1, 3) := by decide +kernel
theorem d_putQuoted_90 : decode cb_putQuoted 90 = .ok (.goto (-82), 3) := by decide +kernel
theorem d_putQuoted_93 : decode cb_putQuoted 93 = .ok (.aload_n 0, 1) := by decide +kernel
theorem d_putQuoted_94 : decode cb_putQuoted 94 = .ok (.bipush 34, 2) := by decide +kernel
theorem d_putQuoted_96 : decode cb_putQuoted 96 = .ok (.invokevirtual 222, 3) := by decide +kernel
theorem d_putQuoted_99 : decode cb_putQuoted 99 = .ok (.return_, 1) := by decide +kernel
theorem d_putKey_0 : decode cb_putKey 0 = .ok (.aload_n 0, 1) := by decide +kernel
theorem d_putKey_1 : decode cb_putKey 1 = .ok (.getfield 40, 3) := by decide +kernel
theorem d_putKey_4 : decode cb_putKey 4 = .ok (.iload_n 1, 1) := by decide +kernel
theorem d_putKey_5 : decode cb_putKey 5 = .ok (.iaload, 1) := by decide +kernel
theorem d_putKey_6 : decode cb_putKey 6 = .ok (.ifCond .le 7, 3) := by decide +kernel
theorem d_putKey_9 : decode cb_putKey 9 = .ok (.iconst 1, 1) := by decide +kernel
theorem d_putKey_10 : decode cb_putKey 10 = .ok (.goto 4, 3) := by decide +kernel
theorem d_putKey_13 : decode cb_putKey 13 = .ok (.iconst 0, 1) := by decide +kernel
theorem d_putKey_14 : decode cb_putKey 14 = .ok (.istore_n 2, 1) := by decide +kernel
theorem d_putKey_15 : decode cb_putKey 15 = .ok (.iconst 0, 1) := by decide +kernel
theorem d_putKey_16 : decode cb_putKey 16 = .ok (.istore_n 3, 1) := by decide +kernel
theorem d_putKey_17 : decode cb_putKey 17 = .ok (.iload_n 3, 1) := by decide +kernel
theorem d_putKey_18 : decode cb_putKey 18 = .ok (.aload_n 0, 1) := by decide +kernel
theorem d_putKey_19 : decode cb_putKey 19 = .ok (.getfield 40, 3) := by decide +kernel
theorem d_putKey_22 : decode cb_putKey 22 = .ok (.iload_n 1, 1) := by decide +kernel
theorem d_putKey_23 : decode cb_putKey 23 = .ok (.iaload, 1) := by decide +kernel
theorem d_putKey_24 : decode cb_putKey 24 = .ok (.if_icmp .ge 39, 3) := by decide +kernel
theorem d_putKey_27 : decode cb_putKey 27 = .ok (.iload_n 2, 1) := by decide +kernel
theorem d_putKey_28 : decode cb_putKey 28 = .ok (.ifCond .eq 27, 3) := by decide +kernel
theorem d_putKey_31 : decode cb_putKey 31 = .ok (.aload_n 0, 1) := by decide +kernel
theorem d_putKey_32 : decode cb_putKey 32 = .ok (.aload_n 0, 1) := by decide +kernel
theorem d_putKey_33 : decode cb_putKey 33 = .ok (.getfield 46, 3) := by decide +kernel
theorem d_putKey_36 : decode cb_putKey 36 = .ok (.aload_n 0, 1) := by decide +kernel
theorem d_putKey_37 : decode cb_putKey 37 = .ok (.getfield 37, 3) := by decide +kernel
theorem d_putKey_40 : decode cb_putKey 40 = .ok (.iload_n 1, 1) := by decide +kernel
theorem d_putKey_41 : decode cb_putKey 41 = .ok (.iaload, 1) := by decide +kernel
theorem d_putKey_42 : decode cb_putKey 42 = .ok (.iload_n 3, 1) := by decide +kernel
theorem d_putKey_43 : decode cb_putKey 43 = .ok (.iadd, 1) := by decide +kernel
theorem d_putKey_44 : decode cb_putKey 44 = .ok (.iaload, 1) := by decide +kernel
theorem d_putKey_45 : decode cb_putKey 45 = .ok (.invokevirtual 116, 3) := by decide +kernel
theorem d_putKey_48 : decode cb_putKey 48 = .ok (.ifCond .eq 7, 3) := by decide +kernel
theorem d_putKey_51 : decode cb_putKey 51 = .ok (.iconst 1, 1) := by decide +kernel
theorem d_putKey_52 : decode cb_putKey 52 = .ok (.goto 4, 3) := by decide +kernel
theorem d_putKey_55 : decode cb_putKey 55 = .ok (.iconst 0, 1) := by decide +kernel
theorem d_putKey_56 : decode cb_putKey 56 = .ok (.istore_n 2, 1) := by decide +kernel
theorem d_putKey_57 : decode cb_putKey 57 = .ok (.iinc 3 1, 3) := by decide +kernel
theorem d_putKey_60 : decode cb_putKey 60 = .ok (.goto (-43), 3) := by decide +kernel
theorem d_putKey_63 : decode cb_putKey 63 = .ok (.iload_n 2, 1) := by decide +kernel
theorem d_putKey_64 : decode cb_putKey 64 = .ok (.ifCond .ne 19, 3) := by decide +kernel
theorem d_putKey_67 : decode cb_putKey 67 = .ok (.aload_n 0, 1) := by decide +kernel
theorem d_putKey_68 : decode cb_putKey 68 = .ok (.aload_n 0, 1) := by decide +kernel
theorem d_putKey_69 : decode cb_putKey 69 = .ok (.getfield 37, 3) := by decide +kernel
theorem d_putKey_72 : decode cb_putKey 72 = .ok (.iload_n 1, 1) := by decide +kernel
theorem d_putKey_73 : decode cb_putKey 73 = .ok (.iaload, 1) := by decide +kernel
theorem d_putKey_74 : decode cb_putKey 74 = .ok (.aload_n 0, 1) := by decide +kernel
theorem d_putKey_75 : decode cb_putKey 75 = .ok (.getfield 40, 3) := by decide +kernel
theorem d_putKey_78 : decode cb_putKey 78 = .ok (.iload_n 1, 1) := by decide +kernel
theorem d_putKey_79 : decode cb_putKey 79 = .ok (.iaload, 1) := by decide +kernel
theorem d_putKey_80 : decode cb_putKey 80 = .ok (.invokevirtual 226, 3) := by decide +kernel
theorem d_putKey_83 : decode cb_putKey 83 = .ok (.iconst 0, 1) := by decide +kernel
theorem d_putKey_84 : decode cb_putKey 84 = .ok (.istore_n 3, 1) := by decide +kernel
theorem d_putKey_85 : decode cb_putKey 85 = .ok (.iload_n 3, 1) := by decide +kernel
theorem d_putKey_86 : decode cb_putKey 86 = .ok (.aload_n 0, 1) := by decide +kernel
theorem d_putKey_87 : decode cb_putKey 87 = .ok (.getfield 40, 3) := by decide +kernel
theorem d_putKey_90 : decode cb_putKey 90 = .ok (.iload_n 1, 1) := by decide +kernel
theorem d_putKey_91 : decode cb_putKey 91 = .ok (.iaload, 1) := by decide +kernel
theorem d_putKey_92 : decode cb_putKey 92 = .ok (.if_icmp .ge 30, 3) := by decide +kernel
theorem d_putKey_95 : decode cb_putKey 95 = .ok (.iload_n 2, 1) := by decide +kernel
theorem d_putKey_96 : decode cb_putKey 96 = .ok (.ifCond .eq 26, 3) := by decide +kernel
theorem d_putKey_99 : decode cb_putKey 99 = .ok (.aload_n 0, 1) := by decide +kernel
theorem d_putKey_100 : decode cb_putKey 100 = .ok (.aload_n 0, 1) := by decide +kernel
theorem d_putKey_101 : decode cb_putKey 101 = .ok (.getfield 46, 3) := by decide +kernel
theorem d_putKey_104 : decode cb_putKey 104 = .ok (.aload_n 0, 1) := by decide +kernel
theorem d_putKey_105 : decode cb_putKey 105 = .ok (.getfield 37, 3) := by decide +kernel
theorem d_putKey_108 : decode cb_putKey 108 = .ok (.iload_n 1, 1) := by decide +kernel
theorem d_putKey_109 : decode cb_putKey 109 = .ok (.iaload, 1) := by decide +kernel
theorem d_putKey_110 : decode cb_putKey 110 = .ok (.iload_n 3, 1) := by decide +kernel
theorem d_putKey_111 : decode cb_putKey 111 = .ok (.iadd, 1) := by decide +kernel
theorem d_putKey_112 : decode cb_putKey 112 = .ok (.iaload, 1) := by decide +kernel
theorem d_putKey_113 : decode cb_putKey 113 = .ok (.invokevirtual 222, 3) := by decide +kernel
theorem d_putKey_116 : decode cb_putKey 116 = .ok (.iinc 3 1, 3) := by decide +kernel
theorem d_putKey_119 : decode cb_putKey 119 = .ok (.goto (-34), 3) := by decide +kernel
theorem d_putKey_122 : decode cb_putKey 122 = .ok (.aload_n 0, 1) := by decide +kernel
theorem d_putKey_123 : decode cb_putKey 123 = .ok (.bipush 32, 2) := by decide +kernel
theorem d_putKey_125 : decode cb_putKey 125 = .ok (.invokevirtual 222, 3) := by decide +kernel
theorem d_putKey_128 : decode cb_putKey 128 = .ok (.aload_n 0, 1) := by decide +kernel
theorem d_putKey_129 : decode cb_putKey 129 = .ok (.bipush 61, 2) := by decide +kernel
theorem d_putKey_131 : decode cb_putKey 131 = .ok (.invokevirtual 222, 3) := by decide +kernel
theorem d_putKey_134 : decode cb_putKey 134 = .ok (.aload_n 0, 1) := by decide +kernel
theorem d_putKey_135 : decode cb_putKey 135 = .ok (.bipush 32, 2) := by decide +kernel
theorem d_putKey_137 : decode cb_putKey 137 = .ok (.invokevirtual 222, 3) := by decide +kernel
theorem d_putKey_140 : decode cb_putKey 140 = .ok (.return_, 1) := by decide +kernel
theorem d_putHead_0 : decode cb_putHead 0 = .ok (.aload_n 0, 1) := by decide +kernel
theorem d_putHead_1 : decode cb_putHead 1 = .ok (.getfield 16, 3) := by decide +kernel
theorem d_putHead_4 : decode cb_putHead 4 = .ok (.iload_n 1, 1) := by decide +kernel
theorem d_putHead_5 : decode cb_putHead 5 = .ok (.iaload, 1) := by decide +kernel
theorem d_putHead_6 : decode cb_putHead 6 = .ok (.istore_n 2, 1) := by decide +kernel
theorem d_putHead_7 : decode cb_putHead 7 = .ok (.iload_n 2, 1) := by decide +kernel
theorem d_putHead_8 : decode cb_putHead 8 = .ok (.iconst 1, 1) := by decide +kernel
theorem d_putHead_9 : decode cb_putHead 9 = .ok (.if_icmp .ne 51, 3) := by decide +kernel
theorem d_putHead_12 : decode cb_putHead 12 = .ok (.aload_n 0, 1) := by decide +kernel
theorem d_putHead_13 : decode cb_putHead 13 = .ok (.getfield 19, 3) := by decide +kernel
theorem d_putHead_16 : decode cb_putHead 16 = .ok (.iload_n 1, 1) := by decide +kernel
theorem d_putHead_17 : decode cb_putHead 17 = .ok (.iaload, 1) := by decide +kernel
theorem d_putHead_18 : decode cb_putHead 18 = .ok (.ifCond .ge 9, 3) := by decide +kernel
theorem d_putHead_21 : decode cb_putHead 21 = .ok (.aload_n 0, 1) := by decide +kernel
theorem d_putHead_22 : decode cb_putHead 22 = .ok (.bipush 45, 2) := by decide +kernel
theorem d_putHead_24 : decode cb_putHead 24 = .ok (.invokevirtual 222, 3) := by decide +kernel
theorem d_putHead_27 : decode cb_putHead 27 = .ok (.aload_n 0, 1) := by decide +kernel
theorem d_putHead_28 : decode cb_putHead 28 = .ok (.aload_n 0, 1) := by decide +kernel
theorem d_putHead_29 : decode cb_putHead 29 = .ok (.getfield 19, 3) := by decide +kernel
theorem d_putHead_32 : decode cb_putHead 32 = .ok (.iload_n 1, 1) := by decide +kernel
theorem d_putHead_33 : decode cb_putHead 33 = .ok (.iaload, 1) := by decide +kernel
theorem d_putHead_34 : decode cb_putHead 34 = .ok (.ifCond .ge 13, 3) := by decide +kernel
theorem d_putHead_37 : decode cb_putHead 37 = .ok (.aload_n 0, 1) := by decide +kernel
theorem d_putHead_38 : decode cb_putHead 38 = .ok (.getfield 19, 3) := by decide +kernel
theorem d_putHead_41 : decode cb_putHead 41 = .ok (.iload_n 1, 1) := by decide +kernel
theorem d_putHead_42 : decode cb_putHead 42 = .ok (.iaload, 1) := by decide +kernel
theorem d_putHead_43 : decode cb_putHead 43 = .ok (.ineg, 1) := by decide +kernel
theorem d_putHead_44 : decode cb_putHead 44 = .ok (.goto 9, 3) := by decide +kernel
theorem d_putHead_47 : decode cb_putHead 47 = .ok (.aload_n 0, 1) := by decide +kernel
theorem d_putHead_48 : decode cb_putHead 48 = .ok (.getfield 19, 3) := by decide +kernel
theorem d_putHead_51 : decode cb_putHead 51 = .ok (.iload_n 1, 1) := by decide +kernel
theorem d_putHead_52 : decode cb_putHead 52 = .ok (.iaload, 1) := by decide +kernel
theorem d_putHead_53 : decode cb_putHead 53 = .ok (.iconst 1, 1) := by decide +kernel
theorem d_putHead_54 : decode cb_putHead 54 = .ok (.invokevirtual 230, 3) := by decide +kernel
theorem d_putHead_57 : decode cb_putHead 57 = .ok (.goto 162, 3) := by decide +kernel
theorem d_putHead_60 : decode cb_putHead 60 = .ok (.iload_n 2, 1) := by decide +kernel
end
section
theorem d_putHead_61 : decode cb_putHead 61 = .ok (.iconst 2, 1) := by decide +kernel
theorem d_putHead_62 : decode cb_putHead 62 = .ok (.if_icmp .ne 50, 3) := by decide +kernel
theorem d_putHead_65 : decode cb_putHead 65 = .ok (.iconst 0, 1) := by decide +kernel
theorem d_putHead_66 : decode cb_putHead 66 = .ok (.istore_n 3, 1) := by decide +kernel
theorem d_putHead_67 : decode cb_putHead 67 = .ok (.iload_n 3, 1) := by decide +kernel
theorem d_putHead_68 : decode cb_putHead 68 = .ok (.iconst 5, 1) := by decide +kernel
theorem d_putHead_69 : decode cb_putHead 69 = .ok (.aload_n 0, 1) := by decide +kernel
theorem d_putHead_70 : decode cb_putHead 70 = .ok (.getfield 19, 3) := by decide +kernel
theorem d_putHead_73 : decode cb_putHead 73 = .ok (.iload_n 1, 1) := by decide +kernel
theorem d_putHead_74 : decode cb_putHead 74 = .ok (.iaload, 1) := by decide +kernel
theorem d_putHead_75 : decode cb_putHead 75 = .ok (.isub, 1) := by decide +kernel
theorem d_putHead_76 : decode cb_putHead 76 = .ok (.if_icmp .ge 33, 3) := by decide +kernel
theorem d_putHead_79 : decode cb_putHead 79 = .ok (.aload_n 0, 1) := by decide +kernel
theorem d_putHead_80 : decode cb_putHead 80 = .ok (.aload_n 0, 1) := by decide +kernel
theorem d_putHead_81 : decode cb_putHead 81 = .ok (.aload_n 0, 1) := by decide +kernel
theorem d_putHead_82 : decode cb_putHead 82 = .ok (.getfield 19, 3) := by decide +kernel
theorem d_putHead_85 : decode cb_putHead 85 = .ok (.iload_n 1, 1) := by decide +kernel
theorem d_putHead_86 : decode cb_putHead 86 = .ok (.iaload, 1) := by decide +kernel
theorem d_putHead_87 : decode cb_putHead 87 = .ok (.iconst 1, 1) := by decide +kernel
theorem d_putHead_88 : decode cb_putHead 88 = .ok (.if_icmp .ne 7, 3) := by decide +kernel
theorem d_putHead_91 : decode cb_putHead 91 = .ok (.iconst 1, 1) := by decide +kernel
theorem d_putHead_92 : decode cb_putHead 92 = .ok (.goto 4, 3) := by decide +kernel
theorem d_putHead_95 : decode cb_putHead 95 = .ok (.iconst 0, 1) := by decide +kernel
theorem d_putHead_96 : decode cb_putHead 96 = .ok (.iload_n 3, 1) := by decide +kernel
theorem d_putHead_97 : decode cb_putHead 97 = .ok (.invokevirtual 160, 3) := by decide +kernel
theorem d_putHead_100 : decode cb_putHead 100 = .ok (.invokevirtual 222, 3) := by decide +kernel
theorem d_putHead_103 : decode cb_putHead 103 = .ok (.iinc 3 1, 3) := by decide +kernel
theorem d_putHead_106 : decode cb_putHead 106 = .ok (.goto (-39), 3) := by decide +kernel
theorem d_putHead_109 : decode cb_putHead 109 = .ok (.goto 110, 3) := by decide +kernel
theorem d_putHead_112 : decode cb_putHead 112 = .ok (.iload_n 2, 1) := by decide +kernel
theorem d_putHead_113 : decode cb_putHead 113 = .ok (.iconst 3, 1) := by decide +kernel
theorem d_putHead_114 : decode cb_putHead 114 = .ok (.if_icmp .ne 22, 3) := by decide +kernel
theorem d_putHead_117 : decode cb_putHead 117 = .ok (.aload_n 0, 1) := by decide +kernel
theorem d_putHead_118 : decode cb_putHead 118 = .ok (.aload_n 0, 1) := by decide +kernel
theorem d_putHead_119 : decode cb_putHead 119 = .ok (.getfield 19, 3) := by decide +kernel
theorem d_putHead_122 : decode cb_putHead 122 = .ok (.iload_n 1, 1) := by decide +kernel
theorem d_putHead_123 : decode cb_putHead 123 = .ok (.iaload, 1) := by decide +kernel
theorem d_putHead_124 : decode cb_putHead 124 = .ok (.aload_n 0, 1) := by decide +kernel
theorem d_putHead_125 : decode cb_putHead 125 = .ok (.getfield 34, 3) := by decide +kernel
theorem d_putHead_128 : decode cb_putHead 128 = .ok (.iload_n 1, 1) := by decide +kernel
theorem d_putHead_129 : decode cb_putHead 129 = .ok (.iaload, 1) := by decide +kernel
theorem d_putHead_130 : decode cb_putHead 130 = .ok (.invokevirtual 226, 3) := by decide +kernel
theorem d_putHead_133 : decode cb_putHead 133 = .ok (.goto 86, 3) := by decide +kernel
theorem d_putHead_136 : decode cb_putHead 136 = .ok (.iload_n 2, 1) := by decide +kernel
theorem d_putHead_137 : decode cb_putHead 137 = .ok (.iconst 4, 1) := by decide +kernel
theorem d_putHead_138 : decode cb_putHead 138 = .ok (.if_icmp .ne 64, 3) := by decide +kernel
theorem d_putHead_141 : decode cb_putHead 141 = .ok (.aload_n 0, 1) := by decide +kernel
theorem d_putHead_142 : decode cb_putHead 142 = .ok (.aload_n 0, 1) := by decide +kernel
theorem d_putHead_143 : decode cb_putHead 143 = .ok (.getfield 19, 3) := by decide +kernel
theorem d_putHead_146 : decode cb_putHead 146 = .ok (.iload_n 1, 1) := by decide +kernel
theorem d_putHead_147 : decode cb_putHead 147 = .ok (.iaload, 1) := by decide +kernel
theorem d_putHead_148 : decode cb_putHead 148 = .ok (.sipush 10000, 3) := by decide +kernel
theorem d_putHead_151 : decode cb_putHead 151 = .ok (.idiv, 1) := by decide +kernel
theorem d_putHead_152 : decode cb_putHead 152 = .ok (.iconst 4, 1) := by decide +kernel
theorem d_putHead_153 : decode cb_putHead 153 = .ok (.invokevirtual 230, 3) := by decide +kernel
theorem d_putHead_156 : decode cb_putHead 156 = .ok (.aload_n 0, 1) := by decide +kernel
theorem d_putHead_157 : decode cb_putHead 157 = .ok (.bipush 45, 2) := by decide +kernel
theorem d_putHead_159 : decode cb_putHead 159 = .ok (.invokevirtual 222, 3) := by decide +kernel
theorem d_putHead_162 : decode cb_putHead 162 = .ok (.aload_n 0, 1) := by decide +kernel
theorem d_putHead_163 : decode cb_putHead 163 = .ok (.aload_n 0, 1) := by decide +kernel
theorem d_putHead_164 : decode cb_putHead 164 = .ok (.getfield 19, 3) := by decide +kernel
theorem d_putHead_167 : decode cb_putHead 167 = .ok (.iload_n 1, 1) := by decide +kernel
theorem d_putHead_168 : decode cb_putHead 168 = .ok (.iaload, 1) := by decide +kernel
theorem d_putHead_169 : decode cb_putHead 169 = .ok (.bipush 100, 2) := by decide +kernel
theorem d_putHead_171 : decode cb_putHead 171 = .ok (.idiv, 1) := by decide +kernel
theorem d_putHead_172 : decode cb_putHead 172 = .ok (.bipush 100, 2) := by decide +kernel
theorem d_putHead_174 : decode cb_putHead 174 = .ok (.irem, 1) := by decide +kernel
theorem d_putHead_175 : decode cb_putHead 175 = .ok (.iconst 2, 1) := by decide +kernel
theorem d_putHead_176 : decode cb_putHead 176 = .ok (.invokevirtual 230, 3) := by decide +kernel
theorem d_putHead_179 : decode cb_putHead 179 = .ok (.aload_n 0, 1) := by decide +kernel
theorem d_putHead_180 : decode cb_putHead 180 = .ok (.bipush 45, 2) := by decide +kernel
theorem d_putHead_182 : decode cb_putHead 182 = .ok (.invokevirtual 222, 3) := by decide +kernel
theorem d_putHead_185 : decode cb_putHead 185 = .ok (.aload_n 0, 1) := by decide +kernel
theorem d_putHead_186 : decode cb_putHead 186 = .ok (.aload_n 0, 1) := by decide +kernel
theorem d_putHead_187 : decode cb_putHead 187 = .ok (.getfield 19, 3) := by decide +kernel
theorem d_putHead_190 : decode cb_putHead 190 = .ok (.iload_n 1, 1) := by decide +kernel
theorem d_putHead_191 : decode cb_putHead 191 = .ok (.iaload, 1) := by decide +kernel
theorem d_putHead_192 : decode cb_putHead 192 = .ok (.bipush 100, 2) := by decide +kernel
theorem d_putHead_194 : decode cb_putHead 194 = .ok (.irem, 1) := by decide +kernel
theorem d_putHead_195 : decode cb_putHead 195 = .ok (.iconst 2, 1) := by decide +kernel
theorem d_putHead_196 : decode cb_putHead 196 = .ok (.invokevirtual 230, 3) := by decide +kernel
theorem d_putHead_199 : decode cb_putHead 199 = .ok (.goto 20, 3) := by decide +kernel
theorem d_putHead_202 : decode cb_putHead 202 = .ok (.aload_n 0, 1) := by decide +kernel
theorem d_putHead_203 : decode cb_putHead 203 = .ok (.iload_n 2, 1) := by decide +kernel
theorem d_putHead_204 : decode cb_putHead 204 = .ok (.bipush 6, 2) := by decide +kernel
theorem d_putHead_206 : decode cb_putHead 206 = .ok (.if_icmp .le 8, 3) := by decide +kernel
theorem d_putHead_209 : decode cb_putHead 209 = .ok (.bipush 123, 2) := by decide +kernel
theorem d_putHead_211 : decode cb_putHead 211 = .ok (.goto 5, 3) := by decide +kernel
theorem d_putHead_214 : decode cb_putHead 214 = .ok (.bipush 91, 2) := by decide +kernel
theorem d_putHead_216 : decode cb_putHead 216 = .ok (.invokevirtual 222, 3) := by decide +kernel
theorem d_putHead_219 : decode cb_putHead 219 = .ok (.return_, 1) := by decide +kernel
theorem d_holds_0 : decode cb_holds 0 = .ok (.aload_n 0, 1) := by decide +kernel
theorem d_holds_1 : decode cb_holds 1 = .ok (.getfield 16, 3) := by decide +kernel
theorem d_holds_4 : decode cb_holds 4 = .ok (.iload_n 1, 1) := by decide +kernel
theorem d_holds_5 : decode cb_holds 5 = .ok (.iaload, 1) := by decide +kernel
theorem d_holds_6 : decode cb_holds 6 = .ok (.iconst 4, 1) := by decide +kernel
theorem d_holds_7 : decode cb_holds 7 = .ok (.if_icmp .le 7, 3) := by decide +kernel
theorem d_holds_10 : decode cb_holds 10 = .ok (.iconst 1, 1) := by decide +kernel
theorem d_holds_11 : decode cb_holds 11 = .ok (.goto 4, 3) := by decide +kernel
theorem d_holds_14 : decode cb_holds 14 = .ok (.iconst 0, 1) := by decide +kernel
theorem d_holds_15 : decode cb_holds 15 = .ok (.ireturn, 1) := by decide +kernel
theorem d_putValue_0 : decode cb_putValue 0 = .ok (.iload_n 1, 1) := by decide +kernel
theorem d_putValue_1 : decode cb_putValue 1 = .ok (.istore_n 2, 1) := by decide +kernel
theorem d_putValue_2 : decode cb_putValue 2 = .ok (.aload_n 0, 1) := by decide +kernel
theorem d_putValue_3 : decode cb_putValue 3 = .ok (.iload_n 2, 1) := by decide +kernel
theorem d_putValue_4 : decode cb_putValue 4 = .ok (.invokevirtual 233, 3) := by decide +kernel
theorem d_putValue_7 : decode cb_putValue 7 = .ok (.iconst 1, 1) := by decide +kernel
theorem d_putValue_8 : decode cb_putValue 8 = .ok (.istore_n 3, 1) := by decide +kernel
theorem d_putValue_9 : decode cb_putValue 9 = .ok (.iconst 1, 1) := by decide +kernel
theorem d_putValue_10 : decode cb_putValue 10 = .ok (.istore 4, 2) := by decide +kernel
theorem d_putValue_12 : decode cb_putValue 12 = .ok (.iload 4, 2) := by decide +kernel
theorem d_putValue_14 : decode cb_putValue 14 = .ok (.ifCond .eq 149, 3) := by decide +kernel
theorem d_putValue_17 : decode cb_putValue 17 = .ok (.iload_n 3, 1) := by decide +kernel
theorem d_putValue_18 : decode cb_putValue 18 = .ok (.ifCond .eq 36, 3) := by decide +kernel
theorem d_putValue_21 : decode cb_putValue 21 = .ok (.aload_n 0, 1) := by decide +kernel
theorem d_putValue_22 : decode cb_putValue 22 = .ok (.iload_n 2, 1) := by decide +kernel
theorem d_putValue_23 : decode cb_putValue 23 = .ok (.invokevirtual 236, 3) := by decide +kernel
theorem d_putValue_26 : decode cb_putValue 26 = .ok (.ifCond .eq 28, 3) := by decide +kernel
theorem d_putValue_29 : decode cb_putValue 29 = .ok (.aload_n 0, 1) := by decide +kernel
theorem d_putValue_30 : decode cb_putValue 30 = .ok (.getfield 25, 3) := by decide +kernel
theorem d_putValue_33 : decode cb_putValue 33 = .ok (.iload_n 2, 1) := by decide +kernel
theorem d_putValue_34 : decode cb_putValue 34 = .ok (.iaload, 1) := by decide +kernel
theorem d_putValue_35 : decode cb_putValue 35 = .ok (.iconst (-1), 1) := by decide +kernel
theorem d_putValue_36 : decode cb_putValue 36 = .ok (.if_icmp .eq 18, 3) := by decide +kernel
theorem d_putValue_39 : decode cb_putValue 39 = .ok (.aload_n 0, 1) := by decide +kernel
theorem d_putValue_40 : decode cb_putValue 40 = .ok (.getfield 25, 3) := by decide +kernel
theorem d_putValue_43 : decode cb_putValue 43 = .ok (.iload_n 2, 1) := by decide +kernel
theorem d_putValue_44 : decode cb_putValue 44 = .ok (.iaload, 1) := by decide +kernel
theorem d_putValue_45 : decode cb_putValue 45 = .ok (.istore_n 2, 1) := by decide +kernel
theorem d_putValue_46 : decode cb_putValue 46 = .ok (.aload_n 0, 1) := by decide +kernel
theorem d_putValue_47 : decode cb_putValue 47 = .ok (.iload_n 2, 1) := by decide +kernel
theorem d_putValue_48 : decode cb_putValue 48 = .ok (.invokevirtual 239, 3) := by decide +kernel
theorem d_putValue_51 : decode cb_putValue 51 = .ok (.goto (-39), 3) := by decide +kernel
theorem d_putValue_54 : decode cb_putValue 54 = .ok (.aload_n 0, 1) := by decide +kernel
theorem d_putValue_55 : decode cb_putValue 55 = .ok (.iload_n 2, 1) := by decide +kernel
theorem d_putValue_56 : decode cb_putValue 56 = .ok (.invokevirtual 236, 3) := by decide +kernel
theorem d_putValue_59 : decode cb_putValue 59 = .ok (.ifCond .eq 25, 3) := by decide +kernel
theorem d_putValue_62 : decode cb_putValue 62 = .ok (.aload_n 0, 1) := by decide +kernel
theorem d_putValue_63 : decode cb_putValue 63 = .ok (.aload_n 0, 1) := by decide +kernel
theorem d_putValue_64 : decode cb_putValue 64 = .ok (.getfield 16, 3) := by decide +kernel
theorem d_putValue_67 : decode cb_putValue 67 = .ok (.iload_n 2, 1) := by decide +kernel
theorem d_putValue_68 : decode cb_putValue 68 = .ok (.iaload, 1) := by decide +kernel
theorem d_putValue_69 : decode cb_putValue 69 = .ok (.bipush 6, 2) := by decide +kernel
theorem d_putValue_71 : decode cb_putValue 71 = .ok (.if_icmp .le 8, 3) := by decide +kernel
theorem d_putValue_74 : decode cb_putValue 74 = .ok (.bipush 125, 2) := by decide +kernel
theorem d_putValue_76 : decode cb_putValue 76 = .ok (.goto 5, 3) := by decide +kernel
theorem d_putValue_79 : decode cb_putValue 79 = .ok (.bipush 93, 2) := by decide +kernel
theorem d_putValue_81 : decode cb_putValue 81 = .ok (.invokevirtual 222, 3) := by decide +kernel
theorem d_putValue_84 : decode cb_putValue 84 = .ok (.iload_n 2, 1) := by decide +kernel
theorem d_putValue_85 : decode cb_putValue 85 = .ok (.iload_n 1, 1) := by decide +kernel
theorem d_putValue_86 : decode cb_putValue 86 = .ok (.if_icmp .eq 7, 3) := by decide +kernel
theorem d_putValue_89 : decode cb_putValue 89 = .ok (.iconst 1, 1) := by decide +kernel
theorem d_putValue_90 : decode cb_putValue 90 = .ok (.goto 4, 3) := by decide +kernel
theorem d_putValue_93 : decode cb_putValue 93 = .ok (.iconst 0, 1) := by decide +kernel
theorem d_putValue_94 : decode cb_putValue 94 = .ok (.istore 4, 2) := by decide +kernel
theorem d_putValue_96 : decode cb_putValue 96 = .ok (.iload 4, 2) := by decide +kernel
theorem d_putValue_98 : decode cb_putValue 98 = .ok (.ifCond .eq 17, 3) := by decide +kernel
theorem d_putValue_101 : decode cb_putValue 101 = .ok (.aload_n 0, 1) := by decide +kernel
theorem d_putValue_102 : decode cb_putValue 102 = .ok (.getfield 31, 3) := by decide +kernel
theorem d_putValue_105 : decode cb_putValue 105 = .ok (.iload_n 2, 1) := by decide +kernel
theorem d_putValue_106 : decode cb_putValue 106 = .ok (.iaload, 1) := by decide +kernel
theorem d_putValue_107 : decode cb_putValue 107 = .ok (.iconst (-1), 1) := by decide +kernel
theorem d_putValue_108 : decode cb_putValue 108 = .ok (.if_icmp .eq 7, 3) := by decide +kernel
theorem d_putValue_111 : decode cb_putValue 111 = .ok (.iconst 1, 1) := by decide +kernel
theorem d_putValue_112 : decode cb_putValue 112 = .ok (.goto 4, 3) := by decide +kernel
theorem d_putValue_115 : decode cb_putValue 115 = .ok (.iconst 0, 1) := by decide +kernel
theorem d_putValue_116 : decode cb_putValue 116 = .ok (.istore_n 3, 1) := by decide +kernel
theorem d_putValue_117 : decode cb_putValue 117 = .ok (.iload_n 3, 1) := by decide +kernel
theorem d_putValue_118 : decode cb_putValue 118 = .ok (.ifCond .eq 30, 3) := by decide +kernel
theorem d_putValue_121 : decode cb_putValue 121 = .ok (.aload_n 0, 1) := by decide +kernel
theorem d_putValue_122 : decode cb_putValue 122 = .ok (.bipush 44, 2) := by decide +kernel
theorem d_putValue_124 : decode cb_putValue 124 = .ok (.invokevirtual 222, 3) := by decide +kernel
theorem d_putValue_127 : decode cb_putValue 127 = .ok (.aload_n 0, 1) := by decide +kernel
theorem d_putValue_128 : decode cb_putValue 128 = .ok (.bipush 32, 2) := by decide +kernel
theorem d_putValue_130 : decode cb_putValue 130 = .ok (.invokevirtual 222, 3) := by decide +kernel
theorem d_putValue_133 : decode cb_putValue 133 = .ok (.aload_n 0, 1) := by decide +kernel
theorem d_putValue_134 : decode cb_putValue 134 = .ok (.getfield 31, 3) := by decide +kernel
theorem d_putValue_137 : decode cb_putValue 137 = .ok (.iload_n 2, 1) := by decide +kernel
theorem d_putValue_138 : decode cb_putValue 138 = .ok (.iaload, 1) := by decide +kernel
theorem d_putValue_139 : decode cb_putValue 139 = .ok (.istore_n 2, 1) := by decide +kernel
theorem d_putValue_140 : decode cb_putValue 140 = .ok (.aload_n 0, 1) := by decide +kernel
theorem d_putValue_141 : decode cb_putValue 141 = .ok (.iload_n 2, 1) := by decide +kernel
theorem d_putValue_142 : decode cb_putValue 142 = .ok (.invokevirtual 239, 3) := by decide +kernel
theorem d_putValue_145 : decode cb_putValue 145 = .ok (.goto (-133), 3) := by decide +kernel
theorem d_putValue_148 : decode cb_putValue 148 = .ok (.iload 4, 2) := by decide +kernel
theorem d_putValue_150 : decode cb_putValue 150 = .ok (.ifCond .eq (-138), 3) := by decide +kernel
theorem d_putValue_153 : decode cb_putValue 153 = .ok (.aload_n 0, 1) := by decide +kernel
theorem d_putValue_154 : decode cb_putValue 154 = .ok (.getfield 22, 3) := by decide +kernel
theorem d_putValue_157 : decode cb_putValue 157 = .ok (.iload_n 2, 1) := by decide +kernel
theorem d_putValue_158 : decode cb_putValue 158 = .ok (.iaload, 1) := by decide +kernel
theorem d_putValue_159 : decode cb_putValue 159 = .ok (.istore_n 2, 1) := by decide +kernel
theorem d_putValue_160 : decode cb_putValue 160 = .ok (.goto (-148), 3) := by decide +kernel
theorem d_putValue_163 : decode cb_putValue 163 = .ok (.return_, 1) := by decide +kernel
theorem d_putEntry_0 : decode cb_putEntry 0 = .ok (.aload_n 0, 1) := by decide +kernel
theorem d_putEntry_1 : decode cb_putEntry 1 = .ok (.aload_n 0, 1) := by decide +kernel
theorem d_putEntry_2 : decode cb_putEntry 2 = .ok (.getfield 22, 3) := by decide +kernel
theorem d_putEntry_5 : decode cb_putEntry 5 = .ok (.iload_n 1, 1) := by decide +kernel
theorem d_putEntry_6 : decode cb_putEntry 6 = .ok (.iaload, 1) := by decide +kernel
theorem d_putEntry_7 : decode cb_putEntry 7 = .ok (.invokevirtual 142, 3) := by decide +kernel
theorem d_putEntry_10 : decode cb_putEntry 10 = .ok (.ifCond .eq 8, 3) := by decide +kernel
theorem d_putEntry_13 : decode cb_putEntry 13 = .ok (.aload_n 0, 1) := by decide +kernel
theorem d_putEntry_14 : decode cb_putEntry 14 = .ok (.iload_n 1, 1) := by decide +kernel
theorem d_putEntry_15 : decode cb_putEntry 15 = .ok (.invokevirtual 242, 3) := by decide +kernel
theorem d_putEntry_18 : decode cb_putEntry 18 = .ok (.aload_n 0, 1) := by decide +kernel
theorem d_putEntry_19 : decode cb_putEntry 19 = .ok (.iload_n 1, 1) := by decide +kernel
theorem d_putEntry_20 : decode cb_putEntry 20 = .ok (.invokevirtual 233, 3) := by decide +kernel
theorem d_putEntry_23 : decode cb_putEntry 23 = .ok (.return_, 1) := by decide +kernel
theorem d_write_0 : decode cb_write 0 = .ok (.aload_n 0, 1) := by decide +kernel
theorem d_write_1 : decode cb_write 1 = .ok (.iconst 0, 1) := by decide +kernel
theorem d_write_2 : decode cb_write 2 = .ok (.putfield 67, 3) := by decide +kernel
theorem d_write_5 : decode cb_write 5 = .ok (.aload_n 0, 1) := by decide +kernel
theorem d_write_6 : decode cb_write 6 = .ok (.iconst 0, 1) := by decide +kernel
theorem d_write_7 : decode cb_write 7 = .ok (.putfield 219, 3) := by decide +kernel
theorem d_write_10 : decode cb_write 10 = .ok (.aload_n 0, 1) := by decide +kernel
theorem d_write_11 : decode cb_write 11 = .ok (.getfield 25, 3) := by decide +kernel
theorem d_write_14 : decode cb_write 14 = .ok (.sipush 260, 3) := by decide +kernel
theorem d_write_17 : decode cb_write 17 = .ok (.aload_n 0, 1) := by decide +kernel
theorem d_write_18 : decode cb_write 18 = .ok (.getfield 210, 3) := by decide +kernel
theorem d_write_21 : decode cb_write 21 = .ok (.imul, 1) := by decide +kernel
theorem d_write_22 : decode cb_write 22 = .ok (.iaload, 1) := by decide +kernel
theorem d_write_23 : decode cb_write 23 = .ok (.istore_n 1, 1) := by decide +kernel
theorem d_write_24 : decode cb_write 24 = .ok (.iload_n 1, 1) := by decide +kernel
theorem d_write_25 : decode cb_write 25 = .ok (.iconst (-1), 1) := by decide +kernel
theorem d_write_26 : decode cb_write 26 = .ok (.if_icmp .eq 29, 3) := by decide +kernel
theorem d_write_29 : decode cb_write 29 = .ok (.aload_n 0, 1) := by decide +kernel
theorem d_write_30 : decode cb_write 30 = .ok (.iload_n 1, 1) := by decide +kernel
theorem d_write_31 : decode cb_write 31 = .ok (.invokevirtual 242, 3) := by decide +kernel
theorem d_write_34 : decode cb_write 34 = .ok (.aload_n 0, 1) := by decide +kernel
theorem d_write_35 : decode cb_write 35 = .ok (.iload_n 1, 1) := by decide +kernel
theorem d_write_36 : decode cb_write 36 = .ok (.invokevirtual 245, 3) := by decide +kernel
theorem d_write_39 : decode cb_write 39 = .ok (.aload_n 0, 1) := by decide +kernel
theorem d_write_40 : decode cb_write 40 = .ok (.bipush 10, 2) := by decide +kernel
theorem d_write_42 : decode cb_write 42 = .ok (.invokevirtual 222, 3) := by decide +kernel
theorem d_write_45 : decode cb_write 45 = .ok (.aload_n 0, 1) := by decide +kernel
theorem d_write_46 : decode cb_write 46 = .ok (.getfield 31, 3) := by decide +kernel
theorem d_write_49 : decode cb_write 49 = .ok (.iload_n 1, 1) := by decide +kernel
theorem d_write_50 : decode cb_write 50 = .ok (.iaload, 1) := by decide +kernel
theorem d_write_51 : decode cb_write 51 = .ok (.istore_n 1, 1) := by decide +kernel
theorem d_write_52 : decode cb_write 52 = .ok (.goto (-28), 3) := by decide +kernel
theorem d_write_55 : decode cb_write 55 = .ok (.aload_n 0, 1) := by decide +kernel
theorem d_write_56 : decode cb_write 56 = .ok (.getfield 219, 3) := by decide +kernel
theorem d_write_59 : decode cb_write 59 = .ok (.ireturn, 1) := by decide +kernel
theorem d_written_0 : decode cb_written 0 = .ok (.aload_n 0, 1) := by decide +kernel
theorem d_written_1 : decode cb_written 1 = .ok (.iload_n 1, 1) := by decide +kernel
theorem d_written_2 : decode cb_written 2 = .ok (.ifCond .lt 18, 3) := by decide +kernel
theorem d_written_5 : decode cb_written 5 = .ok (.iload_n 1, 1) := by decide +kernel
theorem d_written_6 : decode cb_written 6 = .ok (.aload_n 0, 1) := by decide +kernel
theorem d_written_7 : decode cb_written 7 = .ok (.getfield 219, 3) := by decide +kernel
theorem d_written_10 : decode cb_written 10 = .ok (.if_icmp .ge 10, 3) := by decide +kernel
theorem d_written_13 : decode cb_written 13 = .ok (.iload_n 1, 1) := by decide +kernel
theorem d_written_14 : decode cb_written 14 = .ok (.sipush 600, 3) := by decide +kernel
theorem d_written_17 : decode cb_written 17 = .ok (.if_icmp .lt 7, 3) := by decide +kernel
theorem d_written_20 : decode cb_written 20 = .ok (.iconst 1, 1) := by decide +kernel
theorem d_written_21 : decode cb_written 21 = .ok (.goto 4, 3) := by decide +kernel
theorem d_written_24 : decode cb_written 24 = .ok (.iconst 0, 1) := by decide +kernel
theorem d_written_25 : decode cb_written 25 = .ok (.putfield 67, 3) := by decide +kernel
theorem d_written_28 : decode cb_written 28 = .ok (.aload_n 0, 1) := by decide +kernel
theorem d_written_29 : decode cb_written 29 = .ok (.getfield 67, 3) := by decide +kernel
theorem d_written_32 : decode cb_written 32 = .ok (.ifCond .ne 12, 3) := by decide +kernel
theorem d_written_35 : decode cb_written 35 = .ok (.aload_n 0, 1) := by decide +kernel
theorem d_written_36 : decode cb_written 36 = .ok (.getfield 64, 3) := by decide +kernel
theorem d_written_39 : decode cb_written 39 = .ok (.iload_n 1, 1) := by decide +kernel
theorem d_written_40 : decode cb_written 40 = .ok (.iaload, 1) := by decide +kernel
theorem d_written_41 : decode cb_written 41 = .ok (.goto 4, 3) := by decide +kernel
theorem d_written_44 : decode cb_written 44 = .ok (.iconst 0, 1) := by decide +kernel
theorem d_written_45 : decode cb_written 45 = .ok (.ireturn, 1) := by decide +kernel
theorem d_top_0 : decode cb_top 0 = .ok (.aload_n 0, 1) := by decide +kernel
theorem d_top_1 : decode cb_top 1 = .ok (.iconst 0, 1) := by decide +kernel
theorem d_top_2 : decode cb_top 2 = .ok (.putfield 67, 3) := by decide +kernel
theorem d_top_5 : decode cb_top 5 = .ok (.aload_n 0, 1) := by decide +kernel
theorem d_top_6 : decode cb_top 6 = .ok (.sipush 260, 3) := by decide +kernel
theorem d_top_9 : decode cb_top 9 = .ok (.aload_n 0, 1) := by decide +kernel
theorem d_top_10 : decode cb_top 10 = .ok (.getfield 210, 3) := by decide +kernel
theorem d_top_13 : decode cb_top 13 = .ok (.imul, 1) := by decide +kernel
theorem d_top_14 : decode cb_top 14 = .ok (.putfield 216, 3) := by decide +kernel
theorem d_top_17 : decode cb_top 17 = .ok (.aload_n 0, 1) := by decide +kernel
theorem d_top_18 : decode cb_top 18 = .ok (.getfield 34, 3) := by decide +kernel
theorem d_top_21 : decode cb_top 21 = .ok (.aload_n 0, 1) := by decide +kernel
theorem d_top_22 : decode cb_top 22 = .ok (.getfield 216, 3) := by decide +kernel
theorem d_top_25 : decode cb_top 25 = .ok (.iaload, 1) := by decide +kernel
theorem d_top_26 : decode cb_top 26 = .ok (.ireturn, 1) := by decide +kernel
theorem d_down_0 : decode cb_down 0 = .ok (.aload_n 0, 1) := by decide +kernel
theorem d_down_1 : decode cb_down 1 = .ok (.aload_n 0, 1) := by decide +kernel
theorem d_down_2 : decode cb_down 2 = .ok (.aload_n 0, 1) := by decide +kernel
theorem d_down_3 : decode cb_down 3 = .ok (.getfield 216, 3) := by decide +kernel
theorem d_down_6 : decode cb_down 6 = .ok (.invokevirtual 236, 3) := by decide +kernel
theorem d_down_9 : decode cb_down 9 = .ok (.ifCond .eq 20, 3) := by decide +kernel
theorem d_down_12 : decode cb_down 12 = .ok (.iload_n 1, 1) := by decide +kernel
theorem d_down_13 : decode cb_down 13 = .ok (.ifCond .lt 16, 3) := by decide +kernel
theorem d_down_16 : decode cb_down 16 = .ok (.iload_n 1, 1) := by decide +kernel
theorem d_down_17 : decode cb_down 17 = .ok (.aload_n 0, 1) := by decide +kernel
theorem d_down_18 : decode cb_down 18 = .ok (.getfield 34, 3) := by decide +kernel
theorem d_down_21 : decode cb_down 21 = .ok (.aload_n 0, 1) := by decide +kernel
theorem d_down_22 : decode cb_down 22 = .ok (.getfield 216, 3) := by decide +kernel
theorem d_down_25 : decode cb_down 25 = .ok (.iaload, 1) := by decide +kernel
theorem d_down_26 : decode cb_down 26 = .ok (.if_icmp .lt 7, 3) := by decide +kernel
theorem d_down_29 : decode cb_down 29 = .ok (.iconst 1, 1) := by decide +kernel
theorem d_down_30 : decode cb_down 30 = .ok (.goto 4, 3) := by decide +kernel
theorem d_down_33 : decode cb_down 33 = .ok (.iconst 0, 1) := by decide +kernel
theorem d_down_34 : decode cb_down 34 = .ok (.putfield 67, 3) := by decide +kernel
theorem d_down_37 : decode cb_down 37 = .ok (.aload_n 0, 1) := by decide +kernel
theorem d_down_38 : decode cb_down 38 = .ok (.getfield 67, 3) := by decide +kernel
theorem d_down_41 : decode cb_down 41 = .ok (.ifCond .eq 5, 3) := by decide +kernel
theorem d_down_44 : decode cb_down 44 = .ok (.iconst 0, 1) := by decide +kernel
theorem d_down_45 : decode cb_down 45 = .ok (.ireturn, 1) := by decide +kernel
theorem d_down_46 : decode cb_down 46 = .ok (.aload_n 0, 1) := by decide +kernel
theorem d_down_47 : decode cb_down 47 = .ok (.getfield 25, 3) := by decide +kernel
theorem d_down_50 : decode cb_down 50 = .ok (.aload_n 0, 1) := by decide +kernel
theorem d_down_51 : decode cb_down 51 = .ok (.getfield 216, 3) := by decide +kernel
theorem d_down_54 : decode cb_down 54 = .ok (.iaload, 1) := by decide +kernel
theorem d_down_55 : decode cb_down 55 = .ok (.istore_n 2, 1) := by decide +kernel
theorem d_down_56 : decode cb_down 56 = .ok (.iconst 0, 1) := by decide +kernel
theorem d_down_57 : decode cb_down 57 = .ok (.istore_n 3, 1) := by decide +kernel
theorem d_down_58 : decode cb_down 58 = .ok (.iload_n 3, 1) := by decide +kernel
theorem d_down_59 : decode cb_down 59 = .ok (.iload_n 1, 1) := by decide +kernel
theorem d_down_60 : decode cb_down 60 = .ok (.if_icmp .ge 16, 3) := by decide +kernel
theorem d_down_63 : decode cb_down 63 = .ok (.aload_n 0, 1) := by decide +kernel
theorem d_down_64 : decode cb_down 64 = .ok (.getfield 31, 3) := by decide +kernel
theorem d_down_67 : decode cb_down 67 = .ok (.iload_n 2, 1) := by decide +kernel
theorem d_down_68 : decode cb_down 68 = .ok (.iaload, 1) := by decide +kernel
theorem d_down_69 : decode cb_down 69 = .ok (.istore_n 2, 1) := by decide +kernel
theorem d_down_70 : decode cb_down 70 = .ok (.iinc 3 1, 3) := by decide +kernel
theorem d_down_73 : decode cb_down 73 = .ok (.goto (-15), 3) := by decide +kernel
theorem d_down_76 : decode cb_down 76 = .ok (.aload_n 0, 1) := by decide +kernel
theorem d_down_77 : decode cb_down 77 = .ok (.iload_n 2, 1) := by decide +kernel
theorem d_down_78 : decode cb_down 78 = .ok (.putfield 216, 3) := by decide +kernel
theorem d_down_81 : decode cb_down 81 = .ok (.aload_n 0, 1) := by decide +kernel
theorem d_down_82 : decode cb_down 82 = .ok (.getfield 16, 3) := by decide +kernel
theorem d_down_85 : decode cb_down 85 = .ok (.iload_n 2, 1) := by decide +kernel
theorem d_down_86 : decode cb_down 86 = .ok (.iaload, 1) := by decide +kernel
theorem d_down_87 : decode cb_down 87 = .ok (.ireturn, 1) := by decide +kernel
theorem d_up_0 : decode cb_up 0 = .ok (.aload_n 0, 1) := by decide +kernel
theorem d_up_1 : decode cb_up 1 = .ok (.aload_n 0, 1) := by decide +kernel
theorem d_up_2 : decode cb_up 2 = .ok (.getfield 22, 3) := by decide +kernel
theorem d_up_5 : decode cb_up 5 = .ok (.aload_n 0, 1) := by decide +kernel
theorem d_up_6 : decode cb_up 6 = .ok (.getfield 216, 3) := by decide +kernel
theorem d_up_9 : decode cb_up 9 = .ok (.iaload, 1) := by decide +kernel
theorem d_up_10 : decode cb_up 10 = .ok (.iconst (-1), 1) := by decide +kernel
theorem d_up_11 : decode cb_up 11 = .ok (.if_icmp .ne 7, 3) := by decide +kernel
theorem d_up_14 : decode cb_up 14 = .ok (.iconst 1, 1) := by decide +kernel
theorem d_up_15 : decode cb_up 15 = .ok (.goto 4, 3) := by decide +kernel
theorem d_up_18 : decode cb_up 18 = .ok (.iconst 0, 1) := by decide +kernel
theorem d_up_19 : decode cb_up 19 = .ok (.putfield 67, 3) := by decide +kernel
theorem d_up_22 : decode cb_up 22 = .ok (.aload_n 0, 1) := by decide +kernel
theorem d_up_23 : decode cb_up 23 = .ok (.getfield 67, 3) := by decide +kernel
theorem d_up_26 : decode cb_up 26 = .ok (.ifCond .eq 5, 3) := by decide +kernel
theorem d_up_29 : decode cb_up 29 = .ok (.iconst 0, 1) := by decide +kernel
theorem d_up_30 : decode cb_up 30 = .ok (.ireturn, 1) := by decide +kernel
theorem d_up_31 : decode cb_up 31 = .ok (.aload_n 0, 1) := by decide +kernel
theorem d_up_32 : decode cb_up 32 = .ok (.aload_n 0, 1) := by decide +kernel
theorem d_up_33 : decode cb_up 33 = .ok (.getfield 22, 3) := by decide +kernel
theorem d_up_36 : decode cb_up 36 = .ok (.aload_n 0, 1) := by decide +kernel
theorem d_up_37 : decode cb_up 37 = .ok (.getfield 216, 3) := by decide +kernel
theorem d_up_40 : decode cb_up 40 = .ok (.iaload, 1) := by decide +kernel
theorem d_up_41 : decode cb_up 41 = .ok (.putfield 216, 3) := by decide +kernel
theorem d_up_44 : decode cb_up 44 = .ok (.aload_n 0, 1) := by decide +kernel
theorem d_up_45 : decode cb_up 45 = .ok (.getfield 16, 3) := by decide +kernel
theorem d_up_48 : decode cb_up 48 = .ok (.aload_n 0, 1) := by decide +kernel
theorem d_up_49 : decode cb_up 49 = .ok (.getfield 216, 3) := by decide +kernel
theorem d_up_52 : decode cb_up 52 = .ok (.iaload, 1) := by decide +kernel
theorem d_up_53 : decode cb_up 53 = .ok (.ireturn, 1) := by decide +kernel
theorem d_kind_0 : decode cb_kind 0 = .ok (.aload_n 0, 1) := by decide +kernel
theorem d_kind_1 : decode cb_kind 1 = .ok (.iconst 0, 1) := by decide +kernel
theorem d_kind_2 : decode cb_kind 2 = .ok (.putfield 67, 3) := by decide +kernel
theorem d_kind_5 : decode cb_kind 5 = .ok (.aload_n 0, 1) := by decide +kernel
theorem d_kind_6 : decode cb_kind 6 = .ok (.getfield 16, 3) := by decide +kernel
theorem d_kind_9 : decode cb_kind 9 = .ok (.aload_n 0, 1) := by decide +kernel
theorem d_kind_10 : decode cb_kind 10 = .ok (.getfield 216, 3) := by decide +kernel
theorem d_kind_13 : decode cb_kind 13 = .ok (.iaload, 1) := by decide +kernel
theorem d_kind_14 : decode cb_kind 14 = .ok (.ireturn, 1) := by decide +kernel
theorem d_value_0 : decode cb_value 0 = .ok (.aload_n 0, 1) := by decide +kernel
theorem d_value_1 : decode cb_value 1 = .ok (.iconst 0, 1) := by decide +kernel
theorem d_value_2 : decode cb_value 2 = .ok (.putfield 67, 3) := by decide +kernel
theorem d_value_5 : decode cb_value 5 = .ok (.aload_n 0, 1) := by decide +kernel
theorem d_value_6 : decode cb_value 6 = .ok (.getfield 16, 3) := by decide +kernel
theorem d_value_9 : decode cb_value 9 = .ok (.aload_n 0, 1) := by decide +kernel
theorem d_value_10 : decode cb_value 10 = .ok (.getfield 216, 3) := by decide +kernel
theorem d_value_13 : decode cb_value 13 = .ok (.iaload, 1) := by decide +kernel
theorem d_value_14 : decode cb_value 14 = .ok (.iconst 3, 1) := by decide +kernel
theorem d_value_15 : decode cb_value 15 = .ok (.if_icmp .eq 14, 3) := by decide +kernel
theorem d_value_18 : decode cb_value 18 = .ok (.aload_n 0, 1) := by decide +kernel
theorem d_value_19 : decode cb_value 19 = .ok (.aload_n 0, 1) := by decide +kernel
theorem d_value_20 : decode cb_value 20 = .ok (.getfield 216, 3) := by decide +kernel
theorem d_value_23 : decode cb_value 23 = .ok (.invokevirtual 236, 3) := by decide +kernel
theorem d_value_26 : decode cb_value 26 = .ok (.ifCond .eq 15, 3) := by decide +kernel
theorem d_value_29 : decode cb_value 29 = .ok (.aload_n 0, 1) := by decide +kernel
theorem d_value_30 : decode cb_value 30 = .ok (.getfield 34, 3) := by decide +kernel
theorem d_value_33 : decode cb_value 33 = .ok (.aload_n 0, 1) := by decide +kernel
theorem d_value_34 : decode cb_value 34 = .ok (.getfield 216, 3) := by decide +kernel
theorem d_value_37 : decode cb_value 37 = .ok (.iaload, 1) := by decide +kernel
theorem d_value_38 : decode cb_value 38 = .ok (.goto 12, 3) := by decide +kernel
theorem d_value_41 : decode cb_value 41 = .ok (.aload_n 0, 1) := by decide +kernel
theorem d_value_42 : decode cb_value 42 = .ok (.getfield 19, 3) := by decide +kernel
theorem d_value_45 : decode cb_value 45 = .ok (.aload_n 0, 1) := by decide +kernel
theorem d_value_46 : decode cb_value 46 = .ok (.getfield 216, 3) := by decide +kernel
theorem d_value_49 : decode cb_value 49 = .ok (.iaload, 1) := by decide +kernel
theorem d_value_50 : decode cb_value 50 = .ok (.ireturn, 1) := by decide +kernel
theorem d_letter_0 : decode cb_letter 0 = .ok (.aload_n 0, 1) := by decide +kernel
theorem d_letter_1 : decode cb_letter 1 = .ok (.aload_n 0, 1) := by decide +kernel
theorem d_letter_2 : decode cb_letter 2 = .ok (.getfield 16, 3) := by decide +kernel
theorem d_letter_5 : decode cb_letter 5 = .ok (.aload_n 0, 1) := by decide +kernel
theorem d_letter_6 : decode cb_letter 6 = .ok (.getfield 216, 3) := by decide +kernel
theorem d_letter_9 : decode cb_letter 9 = .ok (.iaload, 1) := by decide +kernel
theorem d_letter_10 : decode cb_letter 10 = .ok (.iconst 3, 1) := by decide +kernel
theorem d_letter_11 : decode cb_letter 11 = .ok (.if_icmp .eq 7, 3) := by decide +kernel
theorem d_letter_14 : decode cb_letter 14 = .ok (.iconst 1, 1) := by decide +kernel
theorem d_letter_15 : decode cb_letter 15 = .ok (.goto 25, 3) := by decide +kernel
theorem d_letter_18 : decode cb_letter 18 = .ok (.iload_n 1, 1) := by decide +kernel
theorem d_letter_19 : decode cb_letter 19 = .ok (.ifCond .lt 16, 3) := by decide +kernel
theorem d_letter_22 : decode cb_letter 22 = .ok (.iload_n 1, 1) := by decide +kernel
theorem d_letter_23 : decode cb_letter 23 = .ok (.aload_n 0, 1) := by decide +kernel
theorem d_letter_24 : decode cb_letter 24 = .ok (.getfield 34, 3) := by decide +kernel
theorem d_letter_27 : decode cb_letter 27 = .ok (.aload_n 0, 1) := by decide +kernel
theorem d_letter_28 : decode cb_letter 28 = .ok (.getfield 216, 3) := by decide +kernel
theorem d_letter_31 : decode cb_letter 31 = .ok (.iaload, 1) := by decide +kernel
theorem d_letter_32 : decode cb_letter 32 = .ok (.if_icmp .lt 7, 3) := by decide +kernel
theorem d_letter_35 : decode cb_letter 35 = .ok (.iconst 2, 1) := by decide +kernel
theorem d_letter_36 : decode cb_letter 36 = .ok (.goto 4, 3) := by decide +kernel
theorem d_letter_39 : decode cb_letter 39 = .ok (.iconst 0, 1) := by decide +kernel
theorem d_letter_40 : decode cb_letter 40 = .ok (.putfield 67, 3) := by decide +kernel
theorem d_letter_43 : decode cb_letter 43 = .ok (.aload_n 0, 1) := by decide +kernel
theorem d_letter_44 : decode cb_letter 44 = .ok (.getfield 67, 3) := by decide +kernel
theorem d_letter_47 : decode cb_letter 47 = .ok (.ifCond .ne 22, 3) := by decide +kernel
theorem d_letter_50 : decode cb_letter 50 = .ok (.aload_n 0, 1) := by decide +kernel
theorem d_letter_51 : decode cb_letter 51 = .ok (.getfield 46, 3) := by decide +kernel
theorem d_letter_54 : decode cb_letter 54 = .ok (.aload_n 0, 1) := by decide +kernel
theorem d_letter_55 : decode cb_letter 55 = .ok (.getfield 19, 3) := by decide +kernel
theorem d_letter_58 : decode cb_letter 58 = .ok (.aload_n 0, 1) := by decide +kernel
theorem d_letter_59 : decode cb_letter 59 = .ok (.getfield 216, 3) := by decide +kernel
theorem d_letter_62 : decode cb_letter 62 = .ok (.iaload, 1) := by decide +kernel
theorem d_letter_63 : decode cb_letter 63 = .ok (.iload_n 1, 1) := by decide +kernel
theorem d_letter_64 : decode cb_letter 64 = .ok (.iadd, 1) := by decide +kernel
theorem d_letter_65 : decode cb_letter 65 = .ok (.iaload, 1) := by decide +kernel
theorem d_letter_66 : decode cb_letter 66 = .ok (.goto 4, 3) := by decide +kernel
theorem d_letter_69 : decode cb_letter 69 = .ok (.iconst 0, 1) := by decide +kernel
theorem d_letter_70 : decode cb_letter 70 = .ok (.ireturn, 1) := by decide +kernel
theorem d_key_0 : decode cb_key 0 = .ok (.aload_n 0, 1) := by decide +kernel
theorem d_key_1 : decode cb_key 1 = .ok (.getfield 22, 3) := by decide +kernel
theorem d_key_4 : decode cb_key 4 = .ok (.aload_n 0, 1) := by decide +kernel
theorem d_key_5 : decode cb_key 5 = .ok (.getfield 216, 3) := by decide +kernel
theorem d_key_8 : decode cb_key 8 = .ok (.iaload, 1) := by decide +kernel
theorem d_key_9 : decode cb_key 9 = .ok (.istore_n 2, 1) := by decide +kernel
theorem d_key_10 : decode cb_key 10 = .ok (.aload_n 0, 1) := by decide +kernel
theorem d_key_11 : decode cb_key 11 = .ok (.iload_n 2, 1) := by decide +kernel
theorem d_key_12 : decode cb_key 12 = .ok (.iconst (-1), 1) := by decide +kernel
theorem d_key_13 : decode cb_key 13 = .ok (.if_icmp .ne 7, 3) := by decide +kernel
theorem d_key_16 : decode cb_key 16 = .ok (.iconst 1, 1) := by decide +kernel
theorem d_key_17 : decode cb_key 17 = .ok (.goto 16, 3) := by decide +kernel
theorem d_key_20 : decode cb_key 20 = .ok (.aload_n 0, 1) := by decide +kernel
theorem d_key_21 : decode cb_key 21 = .ok (.iload_n 2, 1) := by decide +kernel
theorem d_key_22 : decode cb_key 22 = .ok (.invokevirtual 142, 3) := by decide +kernel
theorem d_key_25 : decode cb_key 25 = .ok (.ifCond .eq 7, 3) := by decide +kernel
theorem d_key_28 : decode cb_key 28 = .ok (.iconst 0, 1) := by decide +kernel
theorem d_key_29 : decode cb_key 29 = .ok (.goto 4, 3) := by decide +kernel
theorem d_key_32 : decode cb_key 32 = .ok (.iconst 1, 1) := by decide +kernel
theorem d_key_33 : decode cb_key 33 = .ok (.putfield 67, 3) := by decide +kernel
theorem d_key_36 : decode cb_key 36 = .ok (.aload_n 0, 1) := by decide +kernel
theorem d_key_37 : decode cb_key 37 = .ok (.getfield 67, 3) := by decide +kernel
theorem d_key_40 : decode cb_key 40 = .ok (.ifCond .eq 5, 3) := by decide +kernel
theorem d_key_43 : decode cb_key 43 = .ok (.iconst 0, 1) := by decide +kernel
theorem d_key_44 : decode cb_key 44 = .ok (.ireturn, 1) := by decide +kernel
theorem d_key_45 : decode cb_key 45 = .ok (.iload_n 1, 1) := by decide +kernel
theorem d_key_46 : decode cb_key 46 = .ok (.ifCond .lt 16, 3) := by decide +kernel
theorem d_key_49 : decode cb_key 49 = .ok (.iload_n 1, 1) := by decide +kernel
theorem d_key_50 : decode cb_key 50 = .ok (.aload_n 0, 1) := by decide +kernel
theorem d_key_51 : decode cb_key 51 = .ok (.getfield 40, 3) := by decide +kernel
theorem d_key_54 : decode cb_key 54 = .ok (.aload_n 0, 1) := by decide +kernel
theorem d_key_55 : decode cb_key 55 = .ok (.getfield 216, 3) := by decide +kernel
theorem d_key_58 : decode cb_key 58 = .ok (.iaload, 1) := by decide +kernel
theorem d_key_59 : decode cb_key 59 = .ok (.if_icmp .lt 7, 3) := by decide +kernel
theorem d_key_62 : decode cb_key 62 = .ok (.iconst (-1), 1) := by decide +kernel
theorem d_key_63 : decode cb_key 63 = .ok (.goto 19, 3) := by decide +kernel
theorem d_key_66 : decode cb_key 66 = .ok (.aload_n 0, 1) := by decide +kernel
theorem d_key_67 : decode cb_key 67 = .ok (.getfield 46, 3) := by decide +kernel
theorem d_key_70 : decode cb_key 70 = .ok (.aload_n 0, 1) := by decide +kernel
theorem d_key_71 : decode cb_key 71 = .ok (.getfield 37, 3) := by decide +kernel
theorem d_key_74 : decode cb_key 74 = .ok (.aload_n 0, 1) := by decide +kernel
theorem d_key_75 : decode cb_key 75 = .ok (.getfield 216, 3) := by decide +kernel
theorem d_key_78 : decode cb_key 78 = .ok (.iaload, 1) := by decide +kernel
theorem d_key_79 : decode cb_key 79 = .ok (.iload_n 1, 1) := by decide +kernel
theorem d_key_80 : decode cb_key 80 = .ok (.iadd, 1) := by decide +kernel
theorem d_key_81 : decode cb_key 81 = .ok (.iaload, 1) := by decide +kernel
theorem d_key_82 : decode cb_key 82 = .ok (.ireturn, 1) := by decide +kernel
end
section
section RW
variable {p : Program} {l : Launch} {e : Env} {s : State} {m : MethodId} {args : Array Value} {below : List Frame} {meth : Method} {c : Code} {H : Heap} {locs : List Loc}
variable {ls : Array Slot} {D : va_G} {dA : Nat → ClassId} {hp0 : aH} {sz b0 h N : Nat} {S' : rS} {r : Int32} {Z : State → Prop}
def m_thrown (N : Nat) (S : rS) : Option Int32 :=
  some (S.1 0)
set_option maxRecDepth 100000 in
set_option maxHeartbeats 4000000 in
theorem c_thrown {S : rS} {r : Int32} (hR : RR b0 h Z) (hm : m_thrown N  S = some r) : Ct l D vwCl (tyL dA) b0 Z y_thrown (.code y_thrown cb_thrown 1 (some .int) :: wsA) 0 0 [.ref h] (rH dA h S hp0) sz (some (.int r)) (rH dA h S hp0) 0 0 := by
  refine ct_of (cc := cb_thrown) (maxL := 1) (ret := (some .int)) (lo0 := [some (.ref h)]) hR.2 (by decide) rfl (by simp [lg_sl, Value.category]) rfl (by simp [lx_all, lv_args, Value.category]) ?_
  intro p e s m args below meth c ls B hnm hl I
  obtain ⟨hx, hb, -⟩ := B.1
  unfold m_thrown at hm
  refine lv_aload_n (pc := 0) (i := 0) hx hb d_thrown_0 rfl (lx_get hl rfl) ?_
  refine r_get (pc := 1) (k := 0) (index := 67) B I (by decide) mF_67 rfl rfl d_thrown_1 ?_
  cases hm
  exact q_iret (pc := 4) B I rfl d_thrown_4
def m_type_72 (N : Nat) (K21 : Int64 → Int32 → Int32 → Int32 → rS → Option (Int32 × rS)) (y1 : Int64) (y3 : Int32) (y5 : Int32) (z0 : Int32) (S : rS) : Option (Int32 × rS) :=
  K21 y1 y3 z0 (y5 + 1) S
set_option maxRecDepth 100000 in
set_option maxHeartbeats 4000000 in
theorem w_type_72 {K21 : Int64 → Int32 → Int32 → Int32 → rS → Option (Int32 × rS)} {y1 : Int64} {y3 : Int32} {y5 : Int32} {z0 : Int32} {S : rS} (hK21 : ∀ (y1 : Int64) (y3 : Int32) (y4 : Int32) (y5 : Int32) (S : rS) (ls : Array Slot) (H : Heap) (locs : List Loc), lx ls [some (.ref h), some (.long y1), none, some (.int y3), some (.int y4), some (.int y5), none] → AI D vwCl b0 (rH dA h S hp0) sz s.heap H locs → K21 y1 y3 y4 y5 S = some (r, S') → W p l e { frames := 0, cells := 0, slots := 0, locals := 0 } s m args below meth c H locs 0 0 (MQ below (CQ D vwCl b0 (some (.int r)) (rH dA h S' hp0) sz) args s 0 0 (fun q => b0 ≤ q)) (F0 m 21 ls [])) (B : BX p m c cb_type 7 s args (.code y_type cb_type 7 (some .int) :: wsA) RREF meth (some .int) D vwCl (tyL dA) b0 Z) (hR : RR b0 h Z) (hl : lx ls [some (.ref h), some (.long y1), none, some (.int y3), none, some (.int y5), none]) (I : AI D vwCl b0 (rH dA h S hp0) sz s.heap H locs)  (hm : m_type_72 N K21 y1 y3 y5 z0 S = some (r, S')) : W p l e { frames := 0, cells := 0, slots := 0, locals := 0 } s m args below meth c H locs 0 0 (MQ below (CQ D vwCl b0 (some (.int r)) (rH dA h S' hp0) sz) args s 0 0 (fun q => b0 ≤ q)) (F0 m 72 ls [.int z0]) := by
  obtain ⟨hx, hb, -⟩ := B.1
  unfold m_type_72 at hm
  refine q_istore (pc := 72) (i := 4) (lo' := [some (.ref h), some (.long y1), none, some (.int y3), some (.int z0), some (.int y5), none]) hx hb d_type_72 hl (Nat.le_of_ble_eq_true rfl) (lx_ci rfl) rfl (fun ls hl => ?_)
  refine q_iinc (pc := 74) (i := 5) (v := y5 + 1) (lo' := [some (.ref h), some (.long y1), none, some (.int y3), some (.int z0), some (.int (y5 + 1)), none]) hx hb d_type_74 hl rfl rfl (Nat.le_of_ble_eq_true rfl) (lx_ci rfl) rfl (fun ls hl => ?_)
  refine lv_goto (pc := 77) (tgt := 21) hx hb d_type_77 (by decide) ?_
  exact hK21 _ _ _ _ _ _ _ _ hl I hm
def m_type_67 (N : Nat) (K21 : Int64 → Int32 → Int32 → Int32 → rS → Option (Int32 × rS)) (y1 : Int64) (y3 : Int32) (y5 : Int32) (S : rS) : Option (Int32 × rS) :=
  m_type_72 N K21 y1 y3 y5 1 S
set_option maxRecDepth 100000 in
set_option maxHeartbeats 4000000 in
theorem w_type_67 {K21 : Int64 → Int32 → Int32 → Int32 → rS → Option (Int32 × rS)} {y1 : Int64} {y3 : Int32} {y5 : Int32} {S : rS} (hK21 : ∀ (y1 : Int64) (y3 : Int32) (y4 : Int32) (y5 : Int32) (S : rS) (ls : Array Slot) (H : Heap) (locs : List Loc), lx ls [some (.ref h), some (.long y1), none, some (.int y3), some (.int y4), some (.int y5), none] → AI D vwCl b0 (rH dA h S hp0) sz s.heap H locs → K21 y1 y3 y4 y5 S = some (r, S') → W p l e { frames := 0, cells := 0, slots := 0, locals := 0 } s m args below meth c H locs 0 0 (MQ below (CQ D vwCl b0 (some (.int r)) (rH dA h S' hp0) sz) args s 0 0 (fun q => b0 ≤ q)) (F0 m 21 ls [])) (B : BX p m c cb_type 7 s args (.code y_type cb_type 7 (some .int) :: wsA) RREF meth (some .int) D vwCl (tyL dA) b0 Z) (hR : RR b0 h Z) (hl : lx ls [some (.ref h), some (.long y1), none, some (.int y3), none, some (.int y5), none]) (I : AI D vwCl b0 (rH dA h S hp0) sz s.heap H locs)  (hm : m_type_67 N K21 y1 y3 y5 S = some (r, S')) : W p l e { frames := 0, cells := 0, slots := 0, locals := 0 } s m args below meth c H locs 0 0 (MQ below (CQ D vwCl b0 (some (.int r)) (rH dA h S' hp0) sz) args s 0 0 (fun q => b0 ≤ q)) (F0 m 67 ls []) := by
  obtain ⟨hx, hb, -⟩ := B.1
  unfold m_type_67 at hm
  refine lv_iconst (pc := 67) (v := 1) hx hb d_type_67 (by decide) ?_
  refine lv_goto (pc := 68) (tgt := 72) hx hb d_type_68 (by decide) ?_
  exact w_type_72 hK21 B hR hl I hm
def m_type_71 (N : Nat) (K21 : Int64 → Int32 → Int32 → Int32 → rS → Option (Int32 × rS)) (y1 : Int64) (y3 : Int32) (y5 : Int32) (S : rS) : Option (Int32 × rS) :=
  m_type_72 N K21 y1 y3 y5 0 S
set_option maxRecDepth 100000 in
set_option maxHeartbeats 4000000 in
theorem w_type_71 {K21 : Int64 → Int32 → Int32 → Int32 → rS → Option (Int32 × rS)} {y1 : Int64} {y3 : Int32} {y5 : Int32} {S : rS} (hK21 : ∀ (y1 : Int64) (y3 : Int32) (y4 : Int32) (y5 : Int32) (S : rS) (ls : Array Slot) (H : Heap) (locs : List Loc), lx ls [some (.ref h), some (.long y1), none, some (.int y3), some (.int y4), some (.int y5), none] → AI D vwCl b0 (rH dA h S hp0) sz s.heap H locs → K21 y1 y3 y4 y5 S = some (r, S') → W p l e { frames := 0, cells := 0, slots := 0, locals := 0 } s m args below meth c H locs 0 0 (MQ below (CQ D vwCl b0 (some (.int r)) (rH dA h S' hp0) sz) args s 0 0 (fun q => b0 ≤ q)) (F0 m 21 ls [])) (B : BX p m c cb_type 7 s args (.code y_type cb_type 7 (some .int) :: wsA) RREF meth (some .int) D vwCl (tyL dA) b0 Z) (hR : RR b0 h Z) (hl : lx ls [some (.ref h), some (.long y1), none, some (.int y3), none, some (.int y5), none]) (I : AI D vwCl b0 (rH dA h S hp0) sz s.heap H locs)  (hm : m_type_71 N K21 y1 y3 y5 S = some (r, S')) : W p l e { frames := 0, cells := 0, slots := 0, locals := 0 } s m args below meth c H locs 0 0 (MQ below (CQ D vwCl b0 (some (.int r)) (rH dA h S' hp0) sz) args s 0 0 (fun q => b0 ≤ q)) (F0 m 71 ls []) := by
  obtain ⟨hx, hb, -⟩ := B.1
  unfold m_type_71 at hm
  refine lv_iconst (pc := 71) (v := 0) hx hb d_type_71 (by decide) ?_
  exact w_type_72 hK21 B hR hl I hm
def m_type_124F (N : Nat) (K124 : Int64 → Int32 → rS → Option (Int32 × rS)) (y1 : Int64) (y5 : Int32) (S : rS) : Option (Int32 × rS) :=
  if y5 < 0 then (some (S.1 1, S)) else (b1 (rT S 1 (S.1 1) (((y1 >>> ((8 * y5).toInt64 &&& 63)) &&& 255).toInt32)) (fun S1 => b1 (rP S1 1 ((S1.1 1) + 1)) (fun S3 => K124 y1 (y5 + (-1)) S3)))
def m_type_124 (N : Nat) : Nat → Int64 → Int32 → rS → Option (Int32 × rS)
  | 0, _, _, _ => none
  | k + 1, y1, y5, S => m_type_124F N  (m_type_124 N  k) y1 y5 S
set_option maxRecDepth 100000 in
set_option maxHeartbeats 4000000 in
theorem w_type_124F {K124 : Int64 → Int32 → rS → Option (Int32 × rS)} {y1 : Int64} {y5 : Int32} {S : rS} (hK124 : ∀ (y1 : Int64) (y5 : Int32) (S : rS) (ls : Array Slot) (H : Heap) (locs : List Loc), lx ls [some (.ref h), some (.long y1), none, none, none, some (.int y5), none] → AI D vwCl b0 (rH dA h S hp0) sz s.heap H locs → K124 y1 y5 S = some (r, S') → W p l e { frames := 0, cells := 0, slots := 0, locals := 0 } s m args below meth c H locs 0 0 (MQ below (CQ D vwCl b0 (some (.int r)) (rH dA h S' hp0) sz) args s 0 0 (fun q => b0 ≤ q)) (F0 m 124 ls [])) (B : BX p m c cb_type 7 s args (.code y_type cb_type 7 (some .int) :: wsA) RREF meth (some .int) D vwCl (tyL dA) b0 Z) (hR : RR b0 h Z) (hl : lx ls [some (.ref h), some (.long y1), none, none, none, some (.int y5), none]) (I : AI D vwCl b0 (rH dA h S hp0) sz s.heap H locs)  (hm : m_type_124F N  K124 y1 y5 S = some (r, S')) : W p l e { frames := 0, cells := 0, slots := 0, locals := 0 } s m args below meth c H locs 0 0 (MQ below (CQ D vwCl b0 (some (.int r)) (rH dA h S' hp0) sz) args s 0 0 (fun q => b0 ≤ q)) (F0 m 124 ls []) := by
  obtain ⟨hx, hb, -⟩ := B.1
  unfold m_type_124F at hm
  refine lv_iload (pc := 124) (i := 5) hx hb d_type_124 (lx_get hl rfl) ?_
  refine lv_if_lt (pc := 126) (tgt := 166) hx hb d_type_126 (by decide) (fun hc => ?_) (fun hc => ?_)
  · have hm := ift hc hm
    refine lv_aload_n (pc := 166) (i := 0) hx hb d_type_166 rfl (lx_get hl rfl) ?_
    refine r_get (pc := 167) (k := 1) (index := 73) B I (by decide) mF_73 rfl rfl d_type_167 ?_
    cases hm
    exact q_iret (pc := 170) B I rfl d_type_170
  · have hm := iff' hc hm
    refine lv_aload_n (pc := 129) (i := 0) hx hb d_type_129 rfl (lx_get hl rfl) ?_
    refine r_get (pc := 130) (k := 2) (index := 7) B I (by decide) mF_7 rfl rfl d_type_130 ?_
    refine lv_aload_n (pc := 133) (i := 0) hx hb d_type_133 rfl (lx_get hl rfl) ?_
    refine r_get (pc := 134) (k := 1) (index := 73) B I (by decide) mF_73 rfl rfl d_type_134 ?_
    refine lv_lload_n (pc := 137) (i := 1) hx hb d_type_137 rfl (lx_get hl rfl) ?_
    refine lv_bipush (pc := 138) (v := 8) hx hb d_type_138 (by decide) ?_
    refine lv_iload (pc := 140) (i := 5) hx hb d_type_140 (lx_get hl rfl) ?_
    refine lv_imul (pc := 142) hx hb d_type_142 ?_
    refine lv_lshr (pc := 143) hx hb d_type_143 rfl ?_
    refine lv_ldc2 (pc := 144) (v := 255) hx hb B.1.2.2.2.1 (B.1.2.2.2.2 _ (List.mem_cons_of_mem _ mL_71)) d_type_144 ?_
    refine lv_land (pc := 147) hx hb d_type_147 ?_
    refine lv_l2i (pc := 148) hx hb d_type_148 rfl ?_
    refine ob1 hm (fun S1 e2 hm => ?_)
    refine r_ast (pc := 149) (j := 1) B hR I (by decide) (by decide) e2 d_type_149 (fun H locs I => ?_)
    refine lv_aload_n (pc := 150) (i := 0) hx hb d_type_150 rfl (lx_get hl rfl) ?_
    refine lv_dup (pc := 151) hx hb d_type_151 rfl ?_
    refine r_get (pc := 152) (k := 1) (index := 73) B I (by decide) mF_73 rfl rfl d_type_152 ?_
    refine lv_iconst (pc := 155) (v := 1) hx hb d_type_155 (by decide) ?_
    refine lv_iadd (pc := 156) hx hb d_type_156 ?_
    refine ob1 hm (fun S3 e4 hm => ?_)
    refine r_put (pc := 157) (k := 1) (index := 73) B hR I (by decide) mF_73 rfl rfl rfl (fun _ _ => rfl) e4 d_type_157 (fun H locs I => ?_)
    refine q_iinc (pc := 160) (i := 5) (v := y5 + (-1)) (lo' := [some (.ref h), some (.long y1), none, none, none, some (.int (y5 + (-1))), none]) hx hb d_type_160 hl rfl rfl (Nat.le_of_ble_eq_true rfl) (lx_cn rfl) rfl (fun ls hl => ?_)
    refine lv_goto (pc := 163) (tgt := 124) hx hb d_type_163 (by decide) ?_
    exact hK124 _ _ _ _ _ _ hl I hm
set_option maxRecDepth 100000 in
set_option maxHeartbeats 4000000 in
theorem w_type_124i (B : BX p m c cb_type 7 s args (.code y_type cb_type 7 (some .int) :: wsA) RREF meth (some .int) D vwCl (tyL dA) b0 Z) (hR : RR b0 h Z) (k : Nat) (y1 : Int64) (y5 : Int32) (S : rS) (ls : Array Slot) (H : Heap) (locs : List Loc) (hl : lx ls [some (.ref h), some (.long y1), none, none, none, some (.int y5), none]) (I : AI D vwCl b0 (rH dA h S hp0) sz s.heap H locs)  (hm : m_type_124 N  k y1 y5 S = some (r, S')) : W p l e { frames := 0, cells := 0, slots := 0, locals := 0 } s m args below meth c H locs 0 0 (MQ below (CQ D vwCl b0 (some (.int r)) (rH dA h S' hp0) sz) args s 0 0 (fun q => b0 ≤ q)) (F0 m 124 ls []) := by
  induction k generalizing y1 y5 S ls H locs with
  | zero => cases hm
  | succ k ih => exact w_type_124F  (fun y1 y5 S ls H locs hl I hm => ih y1 y5 S ls H locs hl I hm) B hR hl I hm
theorem w_type_124 {y1 : Int64} {y5 : Int32} {S : rS} (B : BX p m c cb_type 7 s args (.code y_type cb_type 7 (some .int) :: wsA) RREF meth (some .int) D vwCl (tyL dA) b0 Z) (hR : RR b0 h Z) (hl : lx ls [some (.ref h), some (.long y1), none, none, none, some (.int y5), none]) (I : AI D vwCl b0 (rH dA h S hp0) sz s.heap H locs)  {k : Nat} (hm : m_type_124 N  k y1 y5 S = some (r, S')) : W p l e { frames := 0, cells := 0, slots := 0, locals := 0 } s m args below meth c H locs 0 0 (MQ below (CQ D vwCl b0 (some (.int r)) (rH dA h S' hp0) sz) args s 0 0 (fun q => b0 ≤ q)) (F0 m 124 ls []) := w_type_124i  B hR k _ _ S ls H locs hl I hm
def m_type_107 (N : Nat) (y1 : Int64) (y3 : Int32) (z1 : Int32) (S : rS) : Option (Int32 × rS) :=
  b1 (rP S 0 z1) (fun S1 => if S1.1 0 = 0 then (m_type_124 N  N y1 (y3 - 1) S1) else (some (0, S1)))
set_option maxRecDepth 100000 in
set_option maxHeartbeats 4000000 in
theorem w_type_107 {y1 : Int64} {y3 : Int32} {z1 : Int32} {S : rS} (B : BX p m c cb_type 7 s args (.code y_type cb_type 7 (some .int) :: wsA) RREF meth (some .int) D vwCl (tyL dA) b0 Z) (hR : RR b0 h Z) (hl : lx ls [some (.ref h), some (.long y1), none, some (.int y3), none, none, none]) (I : AI D vwCl b0 (rH dA h S hp0) sz s.heap H locs)  (hm : m_type_107 N  y1 y3 z1 S = some (r, S')) : W p l e { frames := 0, cells := 0, slots := 0, locals := 0 } s m args below meth c H locs 0 0 (MQ below (CQ D vwCl b0 (some (.int r)) (rH dA h S' hp0) sz) args s 0 0 (fun q => b0 ≤ q)) (F0 m 107 ls [.int z1, .ref h]) := by
  obtain ⟨hx, hb, -⟩ := B.1
  unfold m_type_107 at hm
  refine ob1 hm (fun S1 e2 hm => ?_)
  refine r_put (pc := 107) (k := 0) (index := 67) B hR I (by decide) mF_67 rfl rfl rfl (fun _ _ => rfl) e2 d_type_107 (fun H locs I => ?_)
  refine lv_aload_n (pc := 110) (i := 0) hx hb d_type_110 rfl (lx_get hl rfl) ?_
  refine r_get (pc := 111) (k := 0) (index := 67) B I (by decide) mF_67 rfl rfl d_type_111 ?_
  refine lv_if_eq (pc := 114) (tgt := 119) hx hb d_type_114 (by decide) (fun hc => ?_) (fun hc => ?_)
  · have hm := ift hc hm
    refine lv_iload_n (pc := 119) (i := 3) hx hb d_type_119 rfl (lx_get hl rfl) ?_
    refine lv_iconst (pc := 120) (v := 1) hx hb d_type_120 (by decide) ?_
    refine lv_isub (pc := 121) hx hb d_type_121 ?_
    refine q_istore (pc := 122) (i := 5) (lo' := [some (.ref h), some (.long y1), none, some (.int y3), none, some (.int (y3 - 1)), none]) hx hb d_type_122 hl (Nat.le_of_ble_eq_true rfl) (lx_cn rfl) rfl (fun ls hl => ?_)
    exact w_type_124  B hR (lx_sub (lo' := [some (.ref h), some (.long y1), none, none, none, some (.int (y3 - 1)), none]) hl (by simp [lx_le])) I hm
  · have hm := iff' hc hm
    refine lv_iconst (pc := 117) (v := 0) hx hb d_type_117 (by decide) ?_
    cases hm
    exact q_iret (pc := 118) B I rfl d_type_118
def m_type_80 (N : Nat) (y1 : Int64) (y3 : Int32) (y4 : Int32) (S : rS) : Option (Int32 × rS) :=
  if y4 = 0 then (if (S.1 1) + y3 ≤ 240 then (m_type_107 N  y1 y3 0 S) else (m_type_107 N  y1 y3 2 S)) else (m_type_107 N  y1 y3 1 S)
set_option maxRecDepth 100000 in
set_option maxHeartbeats 4000000 in
theorem w_type_80 {y1 : Int64} {y3 : Int32} {y4 : Int32} {S : rS} (B : BX p m c cb_type 7 s args (.code y_type cb_type 7 (some .int) :: wsA) RREF meth (some .int) D vwCl (tyL dA) b0 Z) (hR : RR b0 h Z) (hl : lx ls [some (.ref h), some (.long y1), none, some (.int y3), some (.int y4), none, none]) (I : AI D vwCl b0 (rH dA h S hp0) sz s.heap H locs)  (hm : m_type_80 N  y1 y3 y4 S = some (r, S')) : W p l e { frames := 0, cells := 0, slots := 0, locals := 0 } s m args below meth c H locs 0 0 (MQ below (CQ D vwCl b0 (some (.int r)) (rH dA h S' hp0) sz) args s 0 0 (fun q => b0 ≤ q)) (F0 m 80 ls []) := by
  obtain ⟨hx, hb, -⟩ := B.1
  unfold m_type_80 at hm
  refine lv_aload_n (pc := 80) (i := 0) hx hb d_type_80 rfl (lx_get hl rfl) ?_
  refine lv_iload (pc := 81) (i := 4) hx hb d_type_81 (lx_get hl rfl) ?_
  refine lv_if_eq (pc := 83) (tgt := 90) hx hb d_type_83 (by decide) (fun hc => ?_) (fun hc => ?_)
  · have hm := ift hc hm
    refine lv_aload_n (pc := 90) (i := 0) hx hb d_type_90 rfl (lx_get hl rfl) ?_
    refine r_get (pc := 91) (k := 1) (index := 73) B I (by decide) mF_73 rfl rfl d_type_91 ?_
    refine lv_iload_n (pc := 94) (i := 3) hx hb d_type_94 rfl (lx_get hl rfl) ?_
    refine lv_iadd (pc := 95) hx hb d_type_95 ?_
    refine lv_sipush (pc := 96) (v := 240) hx hb d_type_96 (by decide) ?_
    refine lv_icmp_le (pc := 99) (tgt := 106) hx hb d_type_99 (by decide) (fun hc => ?_) (fun hc => ?_)
    · have hm := ift hc hm
      refine lv_iconst (pc := 106) (v := 0) hx hb d_type_106 (by decide) ?_
      exact w_type_107  B hR (lx_sub (lo' := [some (.ref h), some (.long y1), none, some (.int y3), none, none, none]) hl (by simp [lx_le])) I hm
    · have hm := iff' hc hm
      refine lv_iconst (pc := 102) (v := 2) hx hb d_type_102 (by decide) ?_
      refine lv_goto (pc := 103) (tgt := 107) hx hb d_type_103 (by decide) ?_
      exact w_type_107  B hR (lx_sub (lo' := [some (.ref h), some (.long y1), none, some (.int y3), none, none, none]) hl (by simp [lx_le])) I hm
  · have hm := iff' hc hm
    refine lv_iconst (pc := 86) (v := 1) hx hb d_type_86 (by decide) ?_
    refine lv_goto (pc := 87) (tgt := 107) hx hb d_type_87 (by decide) ?_
    exact w_type_107  B hR (lx_sub (lo' := [some (.ref h), some (.long y1), none, some (.int y3), none, none, none]) hl (by simp [lx_le])) I hm
def m_type_21F (N : Nat) (K21 : Int64 → Int32 → Int32 → Int32 → rS → Option (Int32 × rS)) (y1 : Int64) (y3 : Int32) (y4 : Int32) (y5 : Int32) (S : rS) : Option (Int32 × rS) :=
  if y3 ≤ y5 then (m_type_80 N  y1 y3 y4 S) else (if y4 = 0 then (if ((y1 >>> ((8 * y5).toInt64 &&& 63)) &&& 255).toInt32 = 10 then (m_type_71 N K21 y1 y3 y5 S) else (if ((y1 >>> ((8 * y5).toInt64 &&& 63)) &&& 255).toInt32 < 32 then (m_type_67 N K21 y1 y3 y5 S) else (if ((y1 >>> ((8 * y5).toInt64 &&& 63)) &&& 255).toInt32 ≤ 126 then (m_type_71 N K21 y1 y3 y5 S) else (m_type_67 N K21 y1 y3 y5 S)))) else (m_type_80 N  y1 y3 y4 S))
def m_type_21 (N : Nat) : Nat → Int64 → Int32 → Int32 → Int32 → rS → Option (Int32 × rS)
  | 0, _, _, _, _, _ => none
  | k + 1, y1, y3, y4, y5, S => m_type_21F N  (m_type_21 N  k) y1 y3 y4 y5 S
set_option maxRecDepth 100000 in
set_option maxHeartbeats 4000000 in
theorem w_type_21F {K21 : Int64 → Int32 → Int32 → Int32 → rS → Option (Int32 × rS)} {y1 : Int64} {y3 : Int32} {y4 : Int32} {y5 : Int32} {S : rS} (hK21 : ∀ (y1 : Int64) (y3 : Int32) (y4 : Int32) (y5 : Int32) (S : rS) (ls : Array Slot) (H : Heap) (locs : List Loc), lx ls [some (.ref h), some (.long y1), none, some (.int y3), some (.int y4), some (.int y5), none] → AI D vwCl b0 (rH dA h S hp0) sz s.heap H locs → K21 y1 y3 y4 y5 S = some (r, S') → W p l e { frames := 0, cells := 0, slots := 0, locals := 0 } s m args below meth c H locs 0 0 (MQ below (CQ D vwCl b0 (some (.int r)) (rH dA h S' hp0) sz) args s 0 0 (fun q => b0 ≤ q)) (F0 m 21 ls [])) (B : BX p m c cb_type 7 s args (.code y_type cb_type 7 (some .int) :: wsA) RREF meth (some .int) D vwCl (tyL dA) b0 Z) (hR : RR b0 h Z) (hl : lx ls [some (.ref h), some (.long y1), none, some (.int y3), some (.int y4), some (.int y5), none]) (I : AI D vwCl b0 (rH dA h S hp0) sz s.heap H locs)  (hm : m_type_21F N  K21 y1 y3 y4 y5 S = some (r, S')) : W p l e { frames := 0, cells := 0, slots := 0, locals := 0 } s m args below meth c H locs 0 0 (MQ below (CQ D vwCl b0 (some (.int r)) (rH dA h S' hp0) sz) args s 0 0 (fun q => b0 ≤ q)) (F0 m 21 ls []) := by
  obtain ⟨hx, hb, -⟩ := B.1
  unfold m_type_21F at hm
  refine lv_iload (pc := 21) (i := 5) hx hb d_type_21 (lx_get hl rfl) ?_
  refine lv_iload_n (pc := 23) (i := 3) hx hb d_type_23 rfl (lx_get hl rfl) ?_
  refine lv_icmp_ge (pc := 24) (tgt := 80) hx hb d_type_24 (by decide) (fun hc => ?_) (fun hc => ?_)
  · have hm := ift hc hm
    exact w_type_80  B hR (lx_sub (lo' := [some (.ref h), some (.long y1), none, some (.int y3), some (.int y4), none, none]) hl (by simp [lx_le])) I hm
  · have hm := iff' hc hm
    refine lv_iload (pc := 27) (i := 4) hx hb d_type_27 (lx_get hl rfl) ?_
    refine lv_if_ne (pc := 29) (tgt := 80) hx hb d_type_29 (by decide) (fun hc => ?_) (fun hc => ?_)
    · have hm := iff' hc hm
      exact w_type_80  B hR (lx_sub (lo' := [some (.ref h), some (.long y1), none, some (.int y3), some (.int y4), none, none]) hl (by simp [lx_le])) I hm
    · have hm := ift hc hm
      refine lv_lload_n (pc := 32) (i := 1) hx hb d_type_32 rfl (lx_get hl rfl) ?_
      refine lv_bipush (pc := 33) (v := 8) hx hb d_type_33 (by decide) ?_
      refine lv_iload (pc := 35) (i := 5) hx hb d_type_35 (lx_get hl rfl) ?_
      refine lv_imul (pc := 37) hx hb d_type_37 ?_
      refine lv_lshr (pc := 38) hx hb d_type_38 rfl ?_
      refine lv_ldc2 (pc := 39) (v := 255) hx hb B.1.2.2.2.1 (B.1.2.2.2.2 _ (List.mem_cons_of_mem _ mL_71)) d_type_39 ?_
      refine lv_land (pc := 42) hx hb d_type_42 ?_
      refine lv_l2i (pc := 43) hx hb d_type_43 rfl ?_
      refine q_istore (pc := 44) (i := 6) (lo' := [some (.ref h), some (.long y1), none, some (.int y3), some (.int y4), some (.int y5), some (.int (((y1 >>> ((8 * y5).toInt64 &&& 63)) &&& 255).toInt32))]) hx hb d_type_44 hl (Nat.le_of_ble_eq_true rfl) (lx_ci rfl) rfl (fun ls hl => ?_)
      refine lv_iload (pc := 46) (i := 6) hx hb d_type_46 (lx_get hl rfl) ?_
      refine lv_bipush (pc := 48) (v := 10) hx hb d_type_48 (by decide) ?_
      refine lv_icmp_eq (pc := 50) (tgt := 71) hx hb d_type_50 (by decide) (fun hc => ?_) (fun hc => ?_)
      · have hm := ift hc hm
        exact w_type_71 hK21 B hR (lx_sub (lo' := [some (.ref h), some (.long y1), none, some (.int y3), none, some (.int y5), none]) hl (by simp [lx_le])) I hm
      · have hm := iff' hc hm
        refine lv_iload (pc := 53) (i := 6) hx hb d_type_53 (lx_get hl rfl) ?_
        refine lv_bipush (pc := 55) (v := 32) hx hb d_type_55 (by decide) ?_
        refine lv_icmp_lt (pc := 57) (tgt := 67) hx hb d_type_57 (by decide) (fun hc => ?_) (fun hc => ?_)
        · have hm := ift hc hm
          exact w_type_67 hK21 B hR (lx_sub (lo' := [some (.ref h), some (.long y1), none, some (.int y3), none, some (.int y5), none]) hl (by simp [lx_le])) I hm
        · have hm := iff' hc hm
          refine lv_iload (pc := 60) (i := 6) hx hb d_type_60 (lx_get hl rfl) ?_
          refine lv_bipush (pc := 62) (v := 126) hx hb d_type_62 (by decide) ?_
          refine lv_icmp_le (pc := 64) (tgt := 71) hx hb d_type_64 (by decide) (fun hc => ?_) (fun hc => ?_)
          · have hm := ift hc hm
            exact w_type_71 hK21 B hR (lx_sub (lo' := [some (.ref h), some (.long y1), none, some (.int y3), none, some (.int y5), none]) hl (by simp [lx_le])) I hm
          · have hm := iff' hc hm
            exact w_type_67 hK21 B hR (lx_sub (lo' := [some (.ref h), some (.long y1), none, some (.int y3), none, some (.int y5), none]) hl (by simp [lx_le])) I hm
set_option maxRecDepth 100000 in
set_option maxHeartbeats 4000000 in
theorem w_type_21i (B : BX p m c cb_type 7 s args (.code y_type cb_type 7 (some .int) :: wsA) RREF meth (some .int) D vwCl (tyL dA) b0 Z) (hR : RR b0 h Z) (k : Nat) (y1 : Int64) (y3 : Int32) (y4 : Int32) (y5 : Int32) (S : rS) (ls : Array Slot) (H : Heap) (locs : List Loc) (hl : lx ls [some (.ref h), some (.long y1), none, some (.int y3), some (.int y4), some (.int y5), none]) (I : AI D vwCl b0 (rH dA h S hp0) sz s.heap H locs)  (hm : m_type_21 N  k y1 y3 y4 y5 S = some (r, S')) : W p l e { frames := 0, cells := 0, slots := 0, locals := 0 } s m args below meth c H locs 0 0 (MQ below (CQ D vwCl b0 (some (.int r)) (rH dA h S' hp0) sz) args s 0 0 (fun q => b0 ≤ q)) (F0 m 21 ls []) := by
  induction k generalizing y1 y3 y4 y5 S ls H locs with
  | zero => cases hm
  | succ k ih => exact w_type_21F  (fun y1 y3 y4 y5 S ls H locs hl I hm => ih y1 y3 y4 y5 S ls H locs hl I hm) B hR hl I hm
theorem w_type_21 {y1 : Int64} {y3 : Int32} {y4 : Int32} {y5 : Int32} {S : rS} (B : BX p m c cb_type 7 s args (.code y_type cb_type 7 (some .int) :: wsA) RREF meth (some .int) D vwCl (tyL dA) b0 Z) (hR : RR b0 h Z) (hl : lx ls [some (.ref h), some (.long y1), none, some (.int y3), some (.int y4), some (.int y5), none]) (I : AI D vwCl b0 (rH dA h S hp0) sz s.heap H locs)  {k : Nat} (hm : m_type_21 N  k y1 y3 y4 y5 S = some (r, S')) : W p l e { frames := 0, cells := 0, slots := 0, locals := 0 } s m args below meth c H locs 0 0 (MQ below (CQ D vwCl b0 (some (.int r)) (rH dA h S' hp0) sz) args s 0 0 (fun q => b0 ≤ q)) (F0 m 21 ls []) := w_type_21i  B hR k _ _ _ _ S ls H locs hl I hm
def m_type_16 (N : Nat) (y1 : Int64) (y3 : Int32) (z0 : Int32) (S : rS) : Option (Int32 × rS) :=
  m_type_21 N  N y1 y3 z0 0 S
set_option maxRecDepth 100000 in
set_option maxHeartbeats 4000000 in
theorem w_type_16 {y1 : Int64} {y3 : Int32} {z0 : Int32} {S : rS} (B : BX p m c cb_type 7 s args (.code y_type cb_type 7 (some .int) :: wsA) RREF meth (some .int) D vwCl (tyL dA) b0 Z) (hR : RR b0 h Z) (hl : lx ls [some (.ref h), some (.long y1), none, some (.int y3), none, none, none]) (I : AI D vwCl b0 (rH dA h S hp0) sz s.heap H locs)  (hm : m_type_16 N  y1 y3 z0 S = some (r, S')) : W p l e { frames := 0, cells := 0, slots := 0, locals := 0 } s m args below meth c H locs 0 0 (MQ below (CQ D vwCl b0 (some (.int r)) (rH dA h S' hp0) sz) args s 0 0 (fun q => b0 ≤ q)) (F0 m 16 ls [.int z0]) := by
  obtain ⟨hx, hb, -⟩ := B.1
  unfold m_type_16 at hm
  refine q_istore (pc := 16) (i := 4) (lo' := [some (.ref h), some (.long y1), none, some (.int y3), some (.int z0), none, none]) hx hb d_type_16 hl (Nat.le_of_ble_eq_true rfl) (lx_ci rfl) rfl (fun ls hl => ?_)
  refine lv_iconst (pc := 18) (v := 0) hx hb d_type_18 (by decide) ?_
  refine q_istore (pc := 19) (i := 5) (lo' := [some (.ref h), some (.long y1), none, some (.int y3), some (.int z0), some (.int 0), none]) hx hb d_type_19 hl (Nat.le_of_ble_eq_true rfl) (lx_ci rfl) rfl (fun ls hl => ?_)
  exact w_type_21  B hR hl I hm
def m_type_11 (N : Nat) (y1 : Int64) (y3 : Int32) (S : rS) : Option (Int32 × rS) :=
  m_type_16 N  y1 y3 1 S
set_option maxRecDepth 100000 in
set_option maxHeartbeats 4000000 in
theorem w_type_11 {y1 : Int64} {y3 : Int32} {S : rS} (B : BX p m c cb_type 7 s args (.code y_type cb_type 7 (some .int) :: wsA) RREF meth (some .int) D vwCl (tyL dA) b0 Z) (hR : RR b0 h Z) (hl : lx ls [some (.ref h), some (.long y1), none, some (.int y3), none, none, none]) (I : AI D vwCl b0 (rH dA h S hp0) sz s.heap H locs)  (hm : m_type_11 N  y1 y3 S = some (r, S')) : W p l e { frames := 0, cells := 0, slots := 0, locals := 0 } s m args below meth c H locs 0 0 (MQ below (CQ D vwCl b0 (some (.int r)) (rH dA h S' hp0) sz) args s 0 0 (fun q => b0 ≤ q)) (F0 m 11 ls []) := by
  obtain ⟨hx, hb, -⟩ := B.1
  unfold m_type_11 at hm
  refine lv_iconst (pc := 11) (v := 1) hx hb d_type_11 (by decide) ?_
  refine lv_goto (pc := 12) (tgt := 16) hx hb d_type_12 (by decide) ?_
  exact w_type_16  B hR hl I hm
def m_type (N : Nat) (p1 : Int64) (p2 : Int32) (S : rS) : Option (Int32 × rS) :=
  if p2 < 1 then (m_type_11 N  p1 p2 S) else (if p2 ≤ 8 then (m_type_16 N  p1 p2 0 S) else (m_type_11 N  p1 p2 S))
set_option maxRecDepth 100000 in
set_option maxHeartbeats 4000000 in
theorem c_type {p1 : Int64} {p2 : Int32} {S S' : rS} {r : Int32} (hR : RR b0 h Z) (hm : m_type N p1 p2 S = some (r, S')) : Ct l D vwCl (tyL dA) b0 Z y_type (.code y_type cb_type 7 (some .int) :: wsA) 0 0 [.ref h, .long p1, .int p2] (rH dA h S hp0) sz (some (.int r)) (rH dA h S' hp0) 0 0 := by
  refine ct_of (cc := cb_type) (maxL := 7) (ret := (some .int)) (lo0 := [some (.ref h), some (.long p1), none, some (.int p2), none, none, none]) hR.2 (by decide) rfl (by simp [lg_sl, Value.category]) rfl (by simp [lx_all, lv_args, Value.category]) ?_
  intro p e s m args below meth c ls B hnm hl I
  obtain ⟨hx, hb, -⟩ := B.1
  unfold m_type at hm
  refine lv_iload_n (pc := 0) (i := 3) hx hb d_type_0 rfl (lx_get hl rfl) ?_
  refine lv_iconst (pc := 1) (v := 1) hx hb d_type_1 (by decide) ?_
  refine lv_icmp_lt (pc := 2) (tgt := 11) hx hb d_type_2 (by decide) (fun hc => ?_) (fun hc => ?_)
  · have hm := ift hc hm
    exact w_type_11  B hR hl I hm
  · have hm := iff' hc hm
    refine lv_iload_n (pc := 5) (i := 3) hx hb d_type_5 rfl (lx_get hl rfl) ?_
    refine lv_bipush (pc := 6) (v := 8) hx hb d_type_6 (by decide) ?_
    refine lv_icmp_le (pc := 8) (tgt := 15) hx hb d_type_8 (by decide) (fun hc => ?_) (fun hc => ?_)
    · have hm := ift hc hm
      refine lv_iconst (pc := 15) (v := 0) hx hb d_type_15 (by decide) ?_
      exact w_type_16  B hR hl I hm
    · have hm := iff' hc hm
      exact w_type_11  B hR hl I hm
def m_here (N : Nat) (S : rS) : Option Int32 :=
  if S.1 1 ≤ S.1 3 then (some 0) else (b1 (rL S 1 (S.1 3)) (fun x1 => some x1))
set_option maxRecDepth 100000 in
set_option maxHeartbeats 4000000 in
theorem c_here {S : rS} {r : Int32} (hR : RR b0 h Z) (hm : m_here N  S = some r) : Ct l D vwCl (tyL dA) b0 Z y_here (.code y_here cb_here 1 (some .int) :: wsA) 0 0 [.ref h] (rH dA h S hp0) sz (some (.int r)) (rH dA h S hp0) 0 0 := by
  refine ct_of (cc := cb_here) (maxL := 1) (ret := (some .int)) (lo0 := [some (.ref h)]) hR.2 (by decide) rfl (by simp [lg_sl, Value.category]) rfl (by simp [lx_all, lv_args, Value.category]) ?_
  intro p e s m args below meth c ls B hnm hl I
  obtain ⟨hx, hb, -⟩ := B.1
  unfold m_here at hm
  refine lv_aload_n (pc := 0) (i := 0) hx hb d_here_0 rfl (lx_get hl rfl) ?_
  refine r_get (pc := 1) (k := 3) (index := 76) B I (by decide) mF_76 rfl rfl d_here_1 ?_
  refine lv_aload_n (pc := 4) (i := 0) hx hb d_here_4 rfl (lx_get hl rfl) ?_
  refine r_get (pc := 5) (k := 1) (index := 73) B I (by decide) mF_73 rfl rfl d_here_5 ?_
  refine lv_icmp_ge (pc := 8) (tgt := 23) hx hb d_here_8 (by decide) (fun hc => ?_) (fun hc => ?_)
  · have hm := ift hc hm
    refine lv_iconst (pc := 23) (v := 0) hx hb d_here_23 (by decide) ?_
    cases hm
    exact q_iret (pc := 24) B I rfl d_here_24
  · have hm := iff' hc hm
    refine lv_aload_n (pc := 11) (i := 0) hx hb d_here_11 rfl (lx_get hl rfl) ?_
    refine r_get (pc := 12) (k := 2) (index := 7) B I (by decide) mF_7 rfl rfl d_here_12 ?_
    refine lv_aload_n (pc := 15) (i := 0) hx hb d_here_15 rfl (lx_get hl rfl) ?_
    refine r_get (pc := 16) (k := 3) (index := 76) B I (by decide) mF_76 rfl rfl d_here_16 ?_
    refine ob1 hm (fun x1 e2 hm => ?_)
    refine r_ald (pc := 19) (j := 1) B I (by decide) (by decide) e2 d_here_19 ?_
    refine lv_goto (pc := 20) (tgt := 24) hx hb d_here_20 (by decide) ?_
    cases hm
    exact q_iret (pc := 24) B I rfl d_here_24
def m_fail (N : Nat) (p1 : Int32) (S : rS) : Option (Int32 × rS) :=
  b1 (rP S 4 p1) (fun S1 => some (0, S1))
set_option maxRecDepth 100000 in
set_option maxHeartbeats 4000000 in
theorem c_fail {p1 : Int32} {S S' : rS} {r : Int32} (hR : RR b0 h Z) (hm : m_fail N p1 S = some (r, S')) : Ct l D vwCl (tyL dA) b0 Z y_fail (.code y_fail cb_fail 2 (some .boolean) :: wsA) 0 0 [.ref h, .int p1] (rH dA h S hp0) sz (some (.int r)) (rH dA h S' hp0) 0 0 := by
  refine ct_of (cc := cb_fail) (maxL := 2) (ret := (some .boolean)) (lo0 := [some (.ref h), some (.int p1)]) hR.2 (by decide) rfl (by simp [lg_sl, Value.category]) rfl (by simp [lx_all, lv_args, Value.category]) ?_
  intro p e s m args below meth c ls B hnm hl I
  obtain ⟨hx, hb, -⟩ := B.1
  unfold m_fail at hm
  refine lv_aload_n (pc := 0) (i := 0) hx hb d_fail_0 rfl (lx_get hl rfl) ?_
  refine lv_iload_n (pc := 1) (i := 1) hx hb d_fail_1 rfl (lx_get hl rfl) ?_
  refine ob1 hm (fun S1 e2 hm => ?_)
  refine r_put (pc := 2) (k := 4) (index := 79) B hR I (by decide) mF_79 rfl rfl rfl (fun _ _ => rfl) e2 d_fail_2 (fun H locs I => ?_)
  refine lv_iconst (pc := 5) (v := 0) hx hb d_fail_5 (by decide) ?_
  cases hm
  exact q_zret (pc := 6) B I rfl (by decide) d_fail_6
def m_blanks_0F (N : Nat) (K0 : rS → Option rS) (S : rS) : Option rS :=
  b1 (m_here N S) (fun x2 => if x2 = 32 then (b1 (rP S 3 ((S.1 3) + 1)) (fun S3 => K0 S3)) else (some S))
def m_blanks_0 (N : Nat) : Nat → rS → Option rS
  | 0, _ => none
  | k + 1, S => m_blanks_0F N  (m_blanks_0 N  k)  S
set_option maxRecDepth 100000 in
set_option maxHeartbeats 4000000 in
theorem w_blanks_0F {K0 : rS → Option rS} {S : rS} (hK0 : ∀ (S : rS) (ls : Array Slot) (H : Heap) (locs : List Loc), lx ls [some (.ref h)] → AI D vwCl b0 (rH dA h S hp0) sz s.heap H locs → K0 S = some S' → W p l e { frames := 1, cells := 0, slots := 0, locals := 20 } s m args below meth c H locs 0 0 (MQ below (CQ D vwCl b0 none (rH dA h S' hp0) sz) args s 0 0 (fun q => b0 ≤ q)) (F0 m 0 ls [])) (B : BX p m c cb_blanks 1 s args (.code y_blanks cb_blanks 1 none :: wsA) RREF meth none D vwCl (tyL dA) b0 Z) (hR : RR b0 h Z) (hl : lx ls [some (.ref h)]) (I : AI D vwCl b0 (rH dA h S hp0) sz s.heap H locs)  (hm : m_blanks_0F N  K0  S = some S') : W p l e { frames := 1, cells := 0, slots := 0, locals := 20 } s m args below meth c H locs 0 0 (MQ below (CQ D vwCl b0 none (rH dA h S' hp0) sz) args s 0 0 (fun q => b0 ≤ q)) (F0 m 0 ls []) := by
  obtain ⟨hx, hb, -⟩ := B.1
  unfold m_blanks_0F at hm
  refine lv_aload_n (pc := 0) (i := 0) hx hb d_blanks_0 rfl (lx_get hl rfl) ?_
  refine ob1 hm (fun x2 e1 hm => ?_)
  refine r_call (pc := 1) (As := []) (rest := []) B hl rfl I (c_here hR e1) kw_here rfl (by decide) (by decide) rfl (by simp [Value.category]) d_blanks_1 (fun H locs I => ?_)
  refine lv_bipush (pc := 4) (v := 32) hx hb d_blanks_4 (by decide) ?_
  refine lv_icmp_ne (pc := 6) (tgt := 22) hx hb d_blanks_6 (by decide) (fun hc => ?_) (fun hc => ?_)
  · have hm := iff' hc hm
    cases hm
    exact q_vret (pc := 22) B I rfl d_blanks_22
  · have hm := ift hc hm
    refine lv_aload_n (pc := 9) (i := 0) hx hb d_blanks_9 rfl (lx_get hl rfl) ?_
    refine lv_dup (pc := 10) hx hb d_blanks_10 rfl ?_
    refine r_get (pc := 11) (k := 3) (index := 76) B I (by decide) mF_76 rfl rfl d_blanks_11 ?_
    refine lv_iconst (pc := 14) (v := 1) hx hb d_blanks_14 (by decide) ?_
    refine lv_iadd (pc := 15) hx hb d_blanks_15 ?_
    refine ob1 hm (fun S3 e4 hm => ?_)
    refine r_put (pc := 16) (k := 3) (index := 76) B hR I (by decide) mF_76 rfl rfl rfl (fun _ _ => rfl) e4 d_blanks_16 (fun H locs I => ?_)
    refine lv_goto (pc := 19) (tgt := 0) hx hb d_blanks_19 (by decide) ?_
    exact hK0  _ _ _ _ hl I hm
set_option maxRecDepth 100000 in
set_option maxHeartbeats 4000000 in
theorem w_blanks_0i (B : BX p m c cb_blanks 1 s args (.code y_blanks cb_blanks 1 none :: wsA) RREF meth none D vwCl (tyL dA) b0 Z) (hR : RR b0 h Z) (k : Nat) (S : rS) (ls : Array Slot) (H : Heap) (locs : List Loc) (hl : lx ls [some (.ref h)]) (I : AI D vwCl b0 (rH dA h S hp0) sz s.heap H locs)  (hm : m_blanks_0 N  k  S = some S') : W p l e { frames := 1, cells := 0, slots := 0, locals := 20 } s m args below meth c H locs 0 0 (MQ below (CQ D vwCl b0 none (rH dA h S' hp0) sz) args s 0 0 (fun q => b0 ≤ q)) (F0 m 0 ls []) := by
  induction k generalizing  S ls H locs with
  | zero => cases hm
  | succ k ih => exact w_blanks_0F  (fun  S ls H locs hl I hm => ih  S ls H locs hl I hm) B hR hl I hm
theorem w_blanks_0 {S : rS} (B : BX p m c cb_blanks 1 s args (.code y_blanks cb_blanks 1 none :: wsA) RREF meth none D vwCl (tyL dA) b0 Z) (hR : RR b0 h Z) (hl : lx ls [some (.ref h)]) (I : AI D vwCl b0 (rH dA h S hp0) sz s.heap H locs)  {k : Nat} (hm : m_blanks_0 N  k  S = some S') : W p l e { frames := 1, cells := 0, slots := 0, locals := 20 } s m args below meth c H locs 0 0 (MQ below (CQ D vwCl b0 none (rH dA h S' hp0) sz) args s 0 0 (fun q => b0 ≤ q)) (F0 m 0 ls []) := w_blanks_0i  B hR k  S ls H locs hl I hm
def m_blanks (N : Nat) (S : rS) : Option rS :=
  m_blanks_0 N  N S
set_option maxRecDepth 100000 in
set_option maxHeartbeats 4000000 in
theorem c_blanks {S S' : rS} (hR : RR b0 h Z) (hm : m_blanks N  S = some S') : Ct l D vwCl (tyL dA) b0 Z y_blanks (.code y_blanks cb_blanks 1 none :: wsA) 1 20 [.ref h] (rH dA h S hp0) sz none (rH dA h S' hp0) 0 0 := by
  refine ct_of (cc := cb_blanks) (maxL := 1) (ret := none) (lo0 := [some (.ref h)]) hR.2 (by decide) rfl (by simp [lg_sl, Value.category]) rfl (by simp [lx_all, lv_args, Value.category]) ?_
  intro p e s m args below meth c ls B hnm hl I
  obtain ⟨hx, hb, -⟩ := B.1
  unfold m_blanks at hm
  exact w_blanks_0  B hR hl I hm
def m_comment_0F (N : Nat) (K0 : rS → Option rS) (S : rS) : Option rS :=
  b1 (m_here N S) (fun x2 => if x2 = 10 then (some S) else (if S.1 1 ≤ S.1 3 then (some S) else (b1 (rP S 3 ((S.1 3) + 1)) (fun S3 => K0 S3))))
def m_comment_0 (N : Nat) : Nat → rS → Option rS
  | 0, _ => none
  | k + 1, S => m_comment_0F N  (m_comment_0 N  k)  S
set_option maxRecDepth 100000 in
set_option maxHeartbeats 4000000 in
theorem w_comment_0F {K0 : rS → Option rS} {S : rS} (hK0 : ∀ (S : rS) (ls : Array Slot) (H : Heap) (locs : List Loc), lx ls [some (.ref h)] → AI D vwCl b0 (rH dA h S hp0) sz s.heap H locs → K0 S = some S' → W p l e { frames := 1, cells := 0, slots := 0, locals := 20 } s m args below meth c H locs 0 0 (MQ below (CQ D vwCl b0 none (rH dA h S' hp0) sz) args s 0 0 (fun q => b0 ≤ q)) (F0 m 0 ls [])) (B : BX p m c cb_comment 1 s args (.code y_comment cb_comment 1 none :: wsA) RREF meth none D vwCl (tyL dA) b0 Z) (hR : RR b0 h Z) (hl : lx ls [some (.ref h)]) (I : AI D vwCl b0 (rH dA h S hp0) sz s.heap H locs)  (hm : m_comment_0F N  K0  S = some S') : W p l e { frames := 1, cells := 0, slots := 0, locals := 20 } s m args below meth c H locs 0 0 (MQ below (CQ D vwCl b0 none (rH dA h S' hp0) sz) args s 0 0 (fun q => b0 ≤ q)) (F0 m 0 ls []) := by
  obtain ⟨hx, hb, -⟩ := B.1
  unfold m_comment_0F at hm
  refine lv_aload_n (pc := 0) (i := 0) hx hb d_comment_0 rfl (lx_get hl rfl) ?_
  refine ob1 hm (fun x2 e1 hm => ?_)
  refine r_call (pc := 1) (As := []) (rest := []) B hl rfl I (c_here hR e1) kw_here rfl (by decide) (by decide) rfl (by simp [Value.category]) d_comment_1 (fun H locs I => ?_)
  refine lv_bipush (pc := 4) (v := 10) hx hb d_comment_4 (by decide) ?_
  refine lv_icmp_eq (pc := 6) (tgt := 33) hx hb d_comment_6 (by decide) (fun hc => ?_) (fun hc => ?_)
  · have hm := ift hc hm
    cases hm
    exact q_vret (pc := 33) B I rfl d_comment_33
  · have hm := iff' hc hm
    refine lv_aload_n (pc := 9) (i := 0) hx hb d_comment_9 rfl (lx_get hl rfl) ?_
    refine r_get (pc := 10) (k := 3) (index := 76) B I (by decide) mF_76 rfl rfl d_comment_10 ?_
    refine lv_aload_n (pc := 13) (i := 0) hx hb d_comment_13 rfl (lx_get hl rfl) ?_
    refine r_get (pc := 14) (k := 1) (index := 73) B I (by decide) mF_73 rfl rfl d_comment_14 ?_
    refine lv_icmp_ge (pc := 17) (tgt := 33) hx hb d_comment_17 (by decide) (fun hc => ?_) (fun hc => ?_)
    · have hm := ift hc hm
      cases hm
      exact q_vret (pc := 33) B I rfl d_comment_33
    · have hm := iff' hc hm
      refine lv_aload_n (pc := 20) (i := 0) hx hb d_comment_20 rfl (lx_get hl rfl) ?_
      refine lv_dup (pc := 21) hx hb d_comment_21 rfl ?_
      refine r_get (pc := 22) (k := 3) (index := 76) B I (by decide) mF_76 rfl rfl d_comment_22 ?_
      refine lv_iconst (pc := 25) (v := 1) hx hb d_comment_25 (by decide) ?_
      refine lv_iadd (pc := 26) hx hb d_comment_26 ?_
      refine ob1 hm (fun S3 e4 hm => ?_)
      refine r_put (pc := 27) (k := 3) (index := 76) B hR I (by decide) mF_76 rfl rfl rfl (fun _ _ => rfl) e4 d_comment_27 (fun H locs I => ?_)
      refine lv_goto (pc := 30) (tgt := 0) hx hb d_comment_30 (by decide) ?_
      exact hK0  _ _ _ _ hl I hm
set_option maxRecDepth 100000 in
set_option maxHeartbeats 4000000 in
theorem w_comment_0i (B : BX p m c cb_comment 1 s args (.code y_comment cb_comment 1 none :: wsA) RREF meth none D vwCl (tyL dA) b0 Z) (hR : RR b0 h Z) (k : Nat) (S : rS) (ls : Array Slot) (H : Heap) (locs : List Loc) (hl : lx ls [some (.ref h)]) (I : AI D vwCl b0 (rH dA h S hp0) sz s.heap H locs)  (hm : m_comment_0 N  k  S = some S') : W p l e { frames := 1, cells := 0, slots := 0, locals := 20 } s m args below meth c H locs 0 0 (MQ below (CQ D vwCl b0 none (rH dA h S' hp0) sz) args s 0 0 (fun q => b0 ≤ q)) (F0 m 0 ls []) := by
  induction k generalizing  S ls H locs with
  | zero => cases hm
  | succ k ih => exact w_comment_0F  (fun  S ls H locs hl I hm => ih  S ls H locs hl I hm) B hR hl I hm
theorem w_comment_0 {S : rS} (B : BX p m c cb_comment 1 s args (.code y_comment cb_comment 1 none :: wsA) RREF meth none D vwCl (tyL dA) b0 Z) (hR : RR b0 h Z) (hl : lx ls [some (.ref h)]) (I : AI D vwCl b0 (rH dA h S hp0) sz s.heap H locs)  {k : Nat} (hm : m_comment_0 N  k  S = some S') : W p l e { frames := 1, cells := 0, slots := 0, locals := 20 } s m args below meth c H locs 0 0 (MQ below (CQ D vwCl b0 none (rH dA h S' hp0) sz) args s 0 0 (fun q => b0 ≤ q)) (F0 m 0 ls []) := w_comment_0i  B hR k  S ls H locs hl I hm
def m_comment (N : Nat) (S : rS) : Option rS :=
  m_comment_0 N  N S
set_option maxRecDepth 100000 in
set_option maxHeartbeats 4000000 in
theorem c_comment {S S' : rS} (hR : RR b0 h Z) (hm : m_comment N  S = some S') : Ct l D vwCl (tyL dA) b0 Z y_comment (.code y_comment cb_comment 1 none :: wsA) 1 20 [.ref h] (rH dA h S hp0) sz none (rH dA h S' hp0) 0 0 := by
  refine ct_of (cc := cb_comment) (maxL := 1) (ret := none) (lo0 := [some (.ref h)]) hR.2 (by decide) rfl (by simp [lg_sl, Value.category]) rfl (by simp [lx_all, lv_args, Value.category]) ?_
  intro p e s m args below meth c ls B hnm hl I
  obtain ⟨hx, hb, -⟩ := B.1
  unfold m_comment at hm
  exact w_comment_0  B hR hl I hm
def m_room_27 (N : Nat) (K0 : rS → Option rS) (S : rS) : Option rS :=
  b1 (m_here N S) (fun x2 => if x2 = 35 then (b1 (m_comment N S) (fun S6 => K0 S6)) else (b1 (rP S 3 ((S.1 3) + 1)) (fun S3 => K0 S3)))
set_option maxRecDepth 100000 in
set_option maxHeartbeats 4000000 in
theorem w_room_27 {K0 : rS → Option rS} {S : rS} (hK0 : ∀ (S : rS) (ls : Array Slot) (H : Heap) (locs : List Loc), lx ls [some (.ref h)] → AI D vwCl b0 (rH dA h S hp0) sz s.heap H locs → K0 S = some S' → W p l e { frames := 2, cells := 0, slots := 0, locals := 40 } s m args below meth c H locs 0 0 (MQ below (CQ D vwCl b0 none (rH dA h S' hp0) sz) args s 0 0 (fun q => b0 ≤ q)) (F0 m 0 ls [])) (B : BX p m c cb_room 1 s args (.code y_room cb_room 1 none :: wsA) RREF meth none D vwCl (tyL dA) b0 Z) (hR : RR b0 h Z) (hl : lx ls [some (.ref h)]) (I : AI D vwCl b0 (rH dA h S hp0) sz s.heap H locs)  (hm : m_room_27 N K0  S = some S') : W p l e { frames := 2, cells := 0, slots := 0, locals := 40 } s m args below meth c H locs 0 0 (MQ below (CQ D vwCl b0 none (rH dA h S' hp0) sz) args s 0 0 (fun q => b0 ≤ q)) (F0 m 27 ls []) := by
  obtain ⟨hx, hb, -⟩ := B.1
  unfold m_room_27 at hm
  refine lv_aload_n (pc := 27) (i := 0) hx hb d_room_27 rfl (lx_get hl rfl) ?_
  refine ob1 hm (fun x2 e1 hm => ?_)
  refine r_call (pc := 28) (As := []) (rest := []) B hl rfl I (c_here hR e1) kw_here rfl (by decide) (by decide) rfl (by simp [Value.category]) d_room_28 (fun H locs I => ?_)
  refine lv_bipush (pc := 31) (v := 35) hx hb d_room_31 (by decide) ?_
  refine lv_icmp_ne (pc := 33) (tgt := 43) hx hb d_room_33 (by decide) (fun hc => ?_) (fun hc => ?_)
  · have hm := iff' hc hm
    refine lv_aload_n (pc := 43) (i := 0) hx hb d_room_43 rfl (lx_get hl rfl) ?_
    refine lv_dup (pc := 44) hx hb d_room_44 rfl ?_
    refine r_get (pc := 45) (k := 3) (index := 76) B I (by decide) mF_76 rfl rfl d_room_45 ?_
    refine lv_iconst (pc := 48) (v := 1) hx hb d_room_48 (by decide) ?_
    refine lv_iadd (pc := 49) hx hb d_room_49 ?_
    refine ob1 hm (fun S3 e4 hm => ?_)
    refine r_put (pc := 50) (k := 3) (index := 76) B hR I (by decide) mF_76 rfl rfl rfl (fun _ _ => rfl) e4 d_room_50 (fun H locs I => ?_)
    refine lv_goto (pc := 53) (tgt := 0) hx hb d_room_53 (by decide) ?_
    exact hK0  _ _ _ _ hl I hm
  · have hm := ift hc hm
    refine lv_aload_n (pc := 36) (i := 0) hx hb d_room_36 rfl (lx_get hl rfl) ?_
    refine ob1 hm (fun S6 e5 hm => ?_)
    refine r_call (pc := 37) (As := []) (rest := []) B hl rfl I (c_comment hR e5) kw_comment rfl (by decide) (by decide) rfl (by simp [Value.category]) d_room_37 (fun H locs I => ?_)
    refine lv_goto (pc := 40) (tgt := 0) hx hb d_room_40 (by decide) ?_
    exact hK0  _ _ _ _ hl I hm
def m_room_0F (N : Nat) (K0 : rS → Option rS) (S : rS) : Option rS :=
  b1 (m_here N S) (fun x2 => if x2 = 32 then (m_room_27 N K0 S) else (b1 (m_here N S) (fun x4 => if x4 = 10 then (m_room_27 N K0 S) else (b1 (m_here N S) (fun x6 => if x6 = 35 then (m_room_27 N K0 S) else (some S))))))
def m_room_0 (N : Nat) : Nat → rS → Option rS
  | 0, _ => none
  | k + 1, S => m_room_0F N  (m_room_0 N  k)  S
set_option maxRecDepth 100000 in
set_option maxHeartbeats 4000000 in
theorem w_room_0F {K0 : rS → Option rS} {S : rS} (hK0 : ∀ (S : rS) (ls : Array Slot) (H : Heap) (locs : List Loc), lx ls [some (.ref h)] → AI D vwCl b0 (rH dA h S hp0) sz s.heap H locs → K0 S = some S' → W p l e { frames := 2, cells := 0, slots := 0, locals := 40 } s m args below meth c H locs 0 0 (MQ below (CQ D vwCl b0 none (rH dA h S' hp0) sz) args s 0 0 (fun q => b0 ≤ q)) (F0 m 0 ls [])) (B : BX p m c cb_room 1 s args (.code y_room cb_room 1 none :: wsA) RREF meth none D vwCl (tyL dA) b0 Z) (hR : RR b0 h Z) (hl : lx ls [some (.ref h)]) (I : AI D vwCl b0 (rH dA h S hp0) sz s.heap H locs)  (hm : m_room_0F N  K0  S = some S') : W p l e { frames := 2, cells := 0, slots := 0, locals := 40 } s m args below meth c H locs 0 0 (MQ below (CQ D vwCl b0 none (rH dA h S' hp0) sz) args s 0 0 (fun q => b0 ≤ q)) (F0 m 0 ls []) := by
  obtain ⟨hx, hb, -⟩ := B.1
  unfold m_room_0F at hm
  refine lv_aload_n (pc := 0) (i := 0) hx hb d_room_0 rfl (lx_get hl rfl) ?_
  refine ob1 hm (fun x2 e1 hm => ?_)
  refine r_call (pc := 1) (As := []) (rest := []) B hl rfl I (c_here hR e1) kw_here rfl (by decide) (by decide) rfl (by simp [Value.category]) d_room_1 (fun H locs I => ?_)
  refine lv_bipush (pc := 4) (v := 32) hx hb d_room_4 (by decide) ?_
  refine lv_icmp_eq (pc := 6) (tgt := 27) hx hb d_room_6 (by decide) (fun hc => ?_) (fun hc => ?_)
  · have hm := ift hc hm
    exact w_room_27 hK0 B hR hl I hm
  · have hm := iff' hc hm
    refine lv_aload_n (pc := 9) (i := 0) hx hb d_room_9 rfl (lx_get hl rfl) ?_
    refine ob1 hm (fun x4 e3 hm => ?_)
    refine r_call (pc := 10) (As := []) (rest := []) B hl rfl I (c_here hR e3) kw_here rfl (by decide) (by decide) rfl (by simp [Value.category]) d_room_10 (fun H locs I => ?_)
    refine lv_bipush (pc := 13) (v := 10) hx hb d_room_13 (by decide) ?_
    refine lv_icmp_eq (pc := 15) (tgt := 27) hx hb d_room_15 (by decide) (fun hc => ?_) (fun hc => ?_)
    · have hm := ift hc hm
      exact w_room_27 hK0 B hR hl I hm
    · have hm := iff' hc hm
      refine lv_aload_n (pc := 18) (i := 0) hx hb d_room_18 rfl (lx_get hl rfl) ?_
      refine ob1 hm (fun x6 e5 hm => ?_)
      refine r_call (pc := 19) (As := []) (rest := []) B hl rfl I (c_here hR e5) kw_here rfl (by decide) (by decide) rfl (by simp [Value.category]) d_room_19 (fun H locs I => ?_)
      refine lv_bipush (pc := 22) (v := 35) hx hb d_room_22 (by decide) ?_
      refine lv_icmp_ne (pc := 24) (tgt := 56) hx hb d_room_24 (by decide) (fun hc => ?_) (fun hc => ?_)
      · have hm := iff' hc hm
        cases hm
        exact q_vret (pc := 56) B I rfl d_room_56
      · have hm := ift hc hm
        exact w_room_27 hK0 B hR hl I hm
set_option maxRecDepth 100000 in
set_option maxHeartbeats 4000000 in
theorem w_room_0i (B : BX p m c cb_room 1 s args (.code y_room cb_room 1 none :: wsA) RREF meth none D vwCl (tyL dA) b0 Z) (hR : RR b0 h Z) (k : Nat) (S : rS) (ls : Array Slot) (H : Heap) (locs : List Loc) (hl : lx ls [some (.ref h)]) (I : AI D vwCl b0 (rH dA h S hp0) sz s.heap H locs)  (hm : m_room_0 N  k  S = some S') : W p l e { frames := 2, cells := 0, slots := 0, locals := 40 } s m args below meth c H locs 0 0 (MQ below (CQ D vwCl b0 none (rH dA h S' hp0) sz) args s 0 0 (fun q => b0 ≤ q)) (F0 m 0 ls []) := by
  induction k generalizing  S ls H locs with
  | zero => cases hm
  | succ k ih => exact w_room_0F  (fun  S ls H locs hl I hm => ih  S ls H locs hl I hm) B hR hl I hm
theorem w_room_0 {S : rS} (B : BX p m c cb_room 1 s args (.code y_room cb_room 1 none :: wsA) RREF meth none D vwCl (tyL dA) b0 Z) (hR : RR b0 h Z) (hl : lx ls [some (.ref h)]) (I : AI D vwCl b0 (rH dA h S hp0) sz s.heap H locs)  {k : Nat} (hm : m_room_0 N  k  S = some S') : W p l e { frames := 2, cells := 0, slots := 0, locals := 40 } s m args below meth c H locs 0 0 (MQ below (CQ D vwCl b0 none (rH dA h S' hp0) sz) args s 0 0 (fun q => b0 ≤ q)) (F0 m 0 ls []) := w_room_0i  B hR k  S ls H locs hl I hm
def m_room (N : Nat) (S : rS) : Option rS :=
  m_room_0 N  N S
set_option maxRecDepth 100000 in
set_option maxHeartbeats 4000000 in
theorem c_room {S S' : rS} (hR : RR b0 h Z) (hm : m_room N  S = some S') : Ct l D vwCl (tyL dA) b0 Z y_room (.code y_room cb_room 1 none :: wsA) 2 40 [.ref h] (rH dA h S hp0) sz none (rH dA h S' hp0) 0 0 := by
  refine ct_of (cc := cb_room) (maxL := 1) (ret := none) (lo0 := [some (.ref h)]) hR.2 (by decide) rfl (by simp [lg_sl, Value.category]) rfl (by simp [lx_all, lv_args, Value.category]) ?_
  intro p e s m args below meth c ls B hnm hl I
  obtain ⟨hx, hb, -⟩ := B.1
  unfold m_room at hm
  exact w_room_0  B hR hl I hm
def m_isDigit (N : Nat) (p1 : Int32) (S : rS) : Option Int32 :=
  if p1 < 48 then (some 0) else (if 57 < p1 then (some 0) else (some 1))
set_option maxRecDepth 100000 in
set_option maxHeartbeats 4000000 in
theorem c_isDigit {p1 : Int32} {S : rS} {r : Int32} (hR : RR b0 h Z) (hm : m_isDigit N p1 S = some r) : Ct l D vwCl (tyL dA) b0 Z y_isDigit (.code y_isDigit cb_isDigit 2 (some .boolean) :: wsA) 0 0 [.ref h, .int p1] (rH dA h S hp0) sz (some (.int r)) (rH dA h S hp0) 0 0 := by
  refine ct_of (cc := cb_isDigit) (maxL := 2) (ret := (some .boolean)) (lo0 := [some (.ref h), some (.int p1)]) hR.2 (by decide) rfl (by simp [lg_sl, Value.category]) rfl (by simp [lx_all, lv_args, Value.category]) ?_
  intro p e s m args below meth c ls B hnm hl I
  obtain ⟨hx, hb, -⟩ := B.1
  unfold m_isDigit at hm
  refine lv_iload_n (pc := 0) (i := 1) hx hb d_isDigit_0 rfl (lx_get hl rfl) ?_
  refine lv_bipush (pc := 1) (v := 48) hx hb d_isDigit_1 (by decide) ?_
  refine lv_icmp_lt (pc := 3) (tgt := 16) hx hb d_isDigit_3 (by decide) (fun hc => ?_) (fun hc => ?_)
  · have hm := ift hc hm
    refine lv_iconst (pc := 16) (v := 0) hx hb d_isDigit_16 (by decide) ?_
    cases hm
    exact q_zret (pc := 17) B I rfl (by decide) d_isDigit_17
  · have hm := iff' hc hm
    refine lv_iload_n (pc := 6) (i := 1) hx hb d_isDigit_6 rfl (lx_get hl rfl) ?_
    refine lv_bipush (pc := 7) (v := 57) hx hb d_isDigit_7 (by decide) ?_
    refine lv_icmp_gt (pc := 9) (tgt := 16) hx hb d_isDigit_9 (by decide) (fun hc => ?_) (fun hc => ?_)
    · have hm := ift hc hm
      refine lv_iconst (pc := 16) (v := 0) hx hb d_isDigit_16 (by decide) ?_
      cases hm
      exact q_zret (pc := 17) B I rfl (by decide) d_isDigit_17
    · have hm := iff' hc hm
      refine lv_iconst (pc := 12) (v := 1) hx hb d_isDigit_12 (by decide) ?_
      refine lv_goto (pc := 13) (tgt := 17) hx hb d_isDigit_13 (by decide) ?_
      cases hm
      exact q_zret (pc := 17) B I rfl (by decide) d_isDigit_17
def m_isBare_24 (N : Nat) (y1 : Int32) (S : rS) : Option Int32 :=
  b1 (m_isDigit N y1 S) (fun x2 => if x2 = 0 then (if y1 = 95 then (some 1) else (if y1 = 45 then (some 1) else (some 0))) else (some 1))
set_option maxRecDepth 100000 in
set_option maxHeartbeats 4000000 in
theorem w_isBare_24 {y1 : Int32} {S : rS} (B : BX p m c cb_isBare 2 s args (.code y_isBare cb_isBare 2 (some .boolean) :: wsA) RREF meth (some .boolean) D vwCl (tyL dA) b0 Z) (hR : RR b0 h Z) (hl : lx ls [some (.ref h), some (.int y1)]) (I : AI D vwCl b0 (rH dA h S hp0) sz s.heap H locs)  (hm : m_isBare_24 N  y1 S = some r) : W p l e { frames := 1, cells := 0, slots := 0, locals := 21 } s m args below meth c H locs 0 0 (MQ below (CQ D vwCl b0 (some (.int r)) (rH dA h S hp0) sz) args s 0 0 (fun q => b0 ≤ q)) (F0 m 24 ls []) := by
  obtain ⟨hx, hb, -⟩ := B.1
  unfold m_isBare_24 at hm
  refine lv_aload_n (pc := 24) (i := 0) hx hb d_isBare_24 rfl (lx_get hl rfl) ?_
  refine lv_iload_n (pc := 25) (i := 1) hx hb d_isBare_25 rfl (lx_get hl rfl) ?_
  refine ob1 hm (fun x2 e1 hm => ?_)
  refine r_call (pc := 26) (As := [.int y1]) (rest := []) B hl rfl I (c_isDigit hR e1) kw_isDigit rfl (by decide) (by decide) rfl (by simp [Value.category]) d_isBare_26 (fun H locs I => ?_)
  refine lv_if_ne (pc := 29) (tgt := 44) hx hb d_isBare_29 (by decide) (fun hc => ?_) (fun hc => ?_)
  · have hm := iff' hc hm
    refine lv_iconst (pc := 44) (v := 1) hx hb d_isBare_44 (by decide) ?_
    refine lv_goto (pc := 45) (tgt := 49) hx hb d_isBare_45 (by decide) ?_
    cases hm
    exact q_zret (pc := 49) B I rfl (by decide) d_isBare_49
  · have hm := ift hc hm
    refine lv_iload_n (pc := 32) (i := 1) hx hb d_isBare_32 rfl (lx_get hl rfl) ?_
    refine lv_bipush (pc := 33) (v := 95) hx hb d_isBare_33 (by decide) ?_
    refine lv_icmp_eq (pc := 35) (tgt := 44) hx hb d_isBare_35 (by decide) (fun hc => ?_) (fun hc => ?_)
    · have hm := ift hc hm
      refine lv_iconst (pc := 44) (v := 1) hx hb d_isBare_44 (by decide) ?_
      refine lv_goto (pc := 45) (tgt := 49) hx hb d_isBare_45 (by decide) ?_
      cases hm
      exact q_zret (pc := 49) B I rfl (by decide) d_isBare_49
    · have hm := iff' hc hm
      refine lv_iload_n (pc := 38) (i := 1) hx hb d_isBare_38 rfl (lx_get hl rfl) ?_
      refine lv_bipush (pc := 39) (v := 45) hx hb d_isBare_39 (by decide) ?_
      refine lv_icmp_ne (pc := 41) (tgt := 48) hx hb d_isBare_41 (by decide) (fun hc => ?_) (fun hc => ?_)
      · have hm := iff' hc hm
        refine lv_iconst (pc := 48) (v := 0) hx hb d_isBare_48 (by decide) ?_
        cases hm
        exact q_zret (pc := 49) B I rfl (by decide) d_isBare_49
      · have hm := ift hc hm
        refine lv_iconst (pc := 44) (v := 1) hx hb d_isBare_44 (by decide) ?_
        refine lv_goto (pc := 45) (tgt := 49) hx hb d_isBare_45 (by decide) ?_
        cases hm
        exact q_zret (pc := 49) B I rfl (by decide) d_isBare_49
def m_isBare_12 (N : Nat) (y1 : Int32) (S : rS) : Option Int32 :=
  if y1 < 65 then (m_isBare_24 N  y1 S) else (if y1 ≤ 90 then (some 1) else (m_isBare_24 N  y1 S))
set_option maxRecDepth 100000 in
set_option maxHeartbeats 4000000 in
theorem w_isBare_12 {y1 : Int32} {S : rS} (B : BX p m c cb_isBare 2 s args (.code y_isBare cb_isBare 2 (some .boolean) :: wsA) RREF meth (some .boolean) D vwCl (tyL dA) b0 Z) (hR : RR b0 h Z) (hl : lx ls [some (.ref h), some (.int y1)]) (I : AI D vwCl b0 (rH dA h S hp0) sz s.heap H locs)  (hm : m_isBare_12 N  y1 S = some r) : W p l e { frames := 1, cells := 0, slots := 0, locals := 21 } s m args below meth c H locs 0 0 (MQ below (CQ D vwCl b0 (some (.int r)) (rH dA h S hp0) sz) args s 0 0 (fun q => b0 ≤ q)) (F0 m 12 ls []) := by
  obtain ⟨hx, hb, -⟩ := B.1
  unfold m_isBare_12 at hm
  refine lv_iload_n (pc := 12) (i := 1) hx hb d_isBare_12 rfl (lx_get hl rfl) ?_
  refine lv_bipush (pc := 13) (v := 65) hx hb d_isBare_13 (by decide) ?_
  refine lv_icmp_lt (pc := 15) (tgt := 24) hx hb d_isBare_15 (by decide) (fun hc => ?_) (fun hc => ?_)
  · have hm := ift hc hm
    exact w_isBare_24  B hR hl I hm
  · have hm := iff' hc hm
    refine lv_iload_n (pc := 18) (i := 1) hx hb d_isBare_18 rfl (lx_get hl rfl) ?_
    refine lv_bipush (pc := 19) (v := 90) hx hb d_isBare_19 (by decide) ?_
    refine lv_icmp_le (pc := 21) (tgt := 44) hx hb d_isBare_21 (by decide) (fun hc => ?_) (fun hc => ?_)
    · have hm := ift hc hm
      refine lv_iconst (pc := 44) (v := 1) hx hb d_isBare_44 (by decide) ?_
      refine lv_goto (pc := 45) (tgt := 49) hx hb d_isBare_45 (by decide) ?_
      cases hm
      exact q_zret (pc := 49) B I rfl (by decide) d_isBare_49
    · have hm := iff' hc hm
      exact w_isBare_24  B hR hl I hm
def m_isBare (N : Nat) (p1 : Int32) (S : rS) : Option Int32 :=
  if p1 < 97 then (m_isBare_12 N  p1 S) else (if p1 ≤ 122 then (some 1) else (m_isBare_12 N  p1 S))
set_option maxRecDepth 100000 in
set_option maxHeartbeats 4000000 in
theorem c_isBare {p1 : Int32} {S : rS} {r : Int32} (hR : RR b0 h Z) (hm : m_isBare N p1 S = some r) : Ct l D vwCl (tyL dA) b0 Z y_isBare (.code y_isBare cb_isBare 2 (some .boolean) :: wsA) 1 21 [.ref h, .int p1] (rH dA h S hp0) sz (some (.int r)) (rH dA h S hp0) 0 0 := by
  refine ct_of (cc := cb_isBare) (maxL := 2) (ret := (some .boolean)) (lo0 := [some (.ref h), some (.int p1)]) hR.2 (by decide) rfl (by simp [lg_sl, Value.category]) rfl (by simp [lx_all, lv_args, Value.category]) ?_
  intro p e s m args below meth c ls B hnm hl I
  obtain ⟨hx, hb, -⟩ := B.1
  unfold m_isBare at hm
  refine lv_iload_n (pc := 0) (i := 1) hx hb d_isBare_0 rfl (lx_get hl rfl) ?_
  refine lv_bipush (pc := 1) (v := 97) hx hb d_isBare_1 (by decide) ?_
  refine lv_icmp_lt (pc := 3) (tgt := 12) hx hb d_isBare_3 (by decide) (fun hc => ?_) (fun hc => ?_)
  · have hm := ift hc hm
    exact w_isBare_12  B hR hl I hm
  · have hm := iff' hc hm
    refine lv_iload_n (pc := 6) (i := 1) hx hb d_isBare_6 rfl (lx_get hl rfl) ?_
    refine lv_bipush (pc := 7) (v := 122) hx hb d_isBare_7 (by decide) ?_
    refine lv_icmp_le (pc := 9) (tgt := 44) hx hb d_isBare_9 (by decide) (fun hc => ?_) (fun hc => ?_)
    · have hm := ift hc hm
      refine lv_iconst (pc := 44) (v := 1) hx hb d_isBare_44 (by decide) ?_
      refine lv_goto (pc := 45) (tgt := 49) hx hb d_isBare_45 (by decide) ?_
      cases hm
      exact q_zret (pc := 49) B I rfl (by decide) d_isBare_49
    · have hm := iff' hc hm
      exact w_isBare_12  B hR hl I hm
def m_begin (N : Nat) (S : rS) : Option rS :=
  b1 (rL S 12 (S.1 19)) (fun x1 => b1 (rP S 24 ((300 * (S.1 19)) + x1)) (fun S3 => b1 (rP S3 25 0) (fun S5 => some S5)))
set_option maxRecDepth 100000 in
set_option maxHeartbeats 4000000 in
theorem c_begin {S S' : rS} (hR : RR b0 h Z) (hm : m_begin N  S = some S') : Ct l D vwCl (tyL dA) b0 Z y_begin (.code y_begin cb_begin 1 none :: wsA) 0 0 [.ref h] (rH dA h S hp0) sz none (rH dA h S' hp0) 0 0 := by
  refine ct_of (cc := cb_begin) (maxL := 1) (ret := none) (lo0 := [some (.ref h)]) hR.2 (by decide) rfl (by simp [lg_sl, Value.category]) rfl (by simp [lx_all, lv_args, Value.category]) ?_
  intro p e s m args below meth c ls B hnm hl I
  obtain ⟨hx, hb, -⟩ := B.1
  unfold m_begin at hm
  refine lv_aload_n (pc := 0) (i := 0) hx hb d_begin_0 rfl (lx_get hl rfl) ?_
  refine lv_sipush (pc := 1) (v := 300) hx hb d_begin_1 (by decide) ?_
  refine lv_aload_n (pc := 4) (i := 0) hx hb d_begin_4 rfl (lx_get hl rfl) ?_
  refine r_get (pc := 5) (k := 19) (index := 93) B I (by decide) mF_93 rfl rfl d_begin_5 ?_
  refine lv_imul (pc := 8) hx hb d_begin_8 ?_
  refine lv_aload_n (pc := 9) (i := 0) hx hb d_begin_9 rfl (lx_get hl rfl) ?_
  refine r_get (pc := 10) (k := 16) (index := 43) B I (by decide) mF_43 rfl rfl d_begin_10 ?_
  refine lv_aload_n (pc := 13) (i := 0) hx hb d_begin_13 rfl (lx_get hl rfl) ?_
  refine r_get (pc := 14) (k := 19) (index := 93) B I (by decide) mF_93 rfl rfl d_begin_14 ?_
  refine ob1 hm (fun x1 e2 hm => ?_)
  refine r_ald (pc := 17) (j := 12) B I (by decide) (by decide) e2 d_begin_17 ?_
  refine lv_iadd (pc := 18) hx hb d_begin_18 ?_
  refine ob1 hm (fun S3 e4 hm => ?_)
  refine r_put (pc := 19) (k := 24) (index := 96) B hR I (by decide) mF_96 rfl rfl rfl (fun _ _ => rfl) e4 d_begin_19 (fun H locs I => ?_)
  refine lv_aload_n (pc := 22) (i := 0) hx hb d_begin_22 rfl (lx_get hl rfl) ?_
  refine lv_iconst (pc := 23) (v := 0) hx hb d_begin_23 (by decide) ?_
  refine ob1 hm (fun S5 e6 hm => ?_)
  refine r_put (pc := 24) (k := 25) (index := 99) B hR I (by decide) mF_99 rfl rfl rfl (fun _ _ => rfl) e6 d_begin_24 (fun H locs I => ?_)
  cases hm
  exact q_vret (pc := 27) B I rfl d_begin_27
def m_add (N : Nat) (p1 : Int32) (p2 : Int32) (S : rS) : Option (Int32 × rS) :=
  if S.1 25 = 30 then (b2 (m_fail N p2 S) (fun x10 S11 => if x10 = 0 ∨ x10 = 1 then (some (x10, S11)) else none)) else (b1 (rT S 13 ((S.1 24) + (S.1 25)) p1) (fun S1 => b1 (rP S1 25 ((S1.1 25) + 1)) (fun S3 => b1 (rL S3 12 (S3.1 19)) (fun x5 => b1 (rT S3 12 (S3.1 19) (x5 + 1)) (fun S7 => some (1, S7))))))
set_option maxRecDepth 100000 in
set_option maxHeartbeats 4000000 in
theorem c_add {p1 : Int32} {p2 : Int32} {S S' : rS} {r : Int32} (hR : RR b0 h Z) (hm : m_add N p1 p2 S = some (r, S')) : Ct l D vwCl (tyL dA) b0 Z y_add (.code y_add cb_add 3 (some .boolean) :: wsA) 1 21 [.ref h, .int p1, .int p2] (rH dA h S hp0) sz (some (.int r)) (rH dA h S' hp0) 0 0 := by
  refine ct_of (cc := cb_add) (maxL := 3) (ret := (some .boolean)) (lo0 := [some (.ref h), some (.int p1), some (.int p2)]) hR.2 (by decide) rfl (by simp [lg_sl, Value.category]) rfl (by simp [lx_all, lv_args, Value.category]) ?_
  intro p e s m args below meth c ls B hnm hl I
  obtain ⟨hx, hb, -⟩ := B.1
  unfold m_add at hm
  refine lv_aload_n (pc := 0) (i := 0) hx hb d_add_0 rfl (lx_get hl rfl) ?_
  refine r_get (pc := 1) (k := 25) (index := 99) B I (by decide) mF_99 rfl rfl d_add_1 ?_
  refine lv_bipush (pc := 4) (v := 30) hx hb d_add_4 (by decide) ?_
  refine lv_icmp_ne (pc := 6) (tgt := 15) hx hb d_add_6 (by decide) (fun hc => ?_) (fun hc => ?_)
  · have hm := iff' hc hm
    refine lv_aload_n (pc := 15) (i := 0) hx hb d_add_15 rfl (lx_get hl rfl) ?_
    refine r_get (pc := 16) (k := 17) (index := 46) B I (by decide) mF_46 rfl rfl d_add_16 ?_
    refine lv_aload_n (pc := 19) (i := 0) hx hb d_add_19 rfl (lx_get hl rfl) ?_
    refine r_get (pc := 20) (k := 24) (index := 96) B I (by decide) mF_96 rfl rfl d_add_20 ?_
    refine lv_aload_n (pc := 23) (i := 0) hx hb d_add_23 rfl (lx_get hl rfl) ?_
    refine r_get (pc := 24) (k := 25) (index := 99) B I (by decide) mF_99 rfl rfl d_add_24 ?_
    refine lv_iadd (pc := 27) hx hb d_add_27 ?_
    refine lv_iload_n (pc := 28) (i := 1) hx hb d_add_28 rfl (lx_get hl rfl) ?_
    refine ob1 hm (fun S1 e2 hm => ?_)
    refine r_ast (pc := 29) (j := 13) B hR I (by decide) (by decide) e2 d_add_29 (fun H locs I => ?_)
    refine lv_aload_n (pc := 30) (i := 0) hx hb d_add_30 rfl (lx_get hl rfl) ?_
    refine lv_dup (pc := 31) hx hb d_add_31 rfl ?_
    refine r_get (pc := 32) (k := 25) (index := 99) B I (by decide) mF_99 rfl rfl d_add_32 ?_
    refine lv_iconst (pc := 35) (v := 1) hx hb d_add_35 (by decide) ?_
    refine lv_iadd (pc := 36) hx hb d_add_36 ?_
    refine ob1 hm (fun S3 e4 hm => ?_)
    refine r_put (pc := 37) (k := 25) (index := 99) B hR I (by decide) mF_99 rfl rfl rfl (fun _ _ => rfl) e4 d_add_37 (fun H locs I => ?_)
    refine lv_aload_n (pc := 40) (i := 0) hx hb d_add_40 rfl (lx_get hl rfl) ?_
    refine r_get (pc := 41) (k := 16) (index := 43) B I (by decide) mF_43 rfl rfl d_add_41 ?_
    refine lv_aload_n (pc := 44) (i := 0) hx hb d_add_44 rfl (lx_get hl rfl) ?_
    refine r_get (pc := 45) (k := 19) (index := 93) B I (by decide) mF_93 rfl rfl d_add_45 ?_
    refine lv_dup2_11 (pc := 48) hx hb d_add_48 rfl rfl ?_
    refine ob1 hm (fun x5 e6 hm => ?_)
    refine r_ald (pc := 49) (j := 12) B I (by decide) (by decide) e6 d_add_49 ?_
    refine lv_iconst (pc := 50) (v := 1) hx hb d_add_50 (by decide) ?_
    refine lv_iadd (pc := 51) hx hb d_add_51 ?_
    refine ob1 hm (fun S7 e8 hm => ?_)
    refine r_ast (pc := 52) (j := 12) B hR I (by decide) (by decide) e8 d_add_52 (fun H locs I => ?_)
    refine lv_iconst (pc := 53) (v := 1) hx hb d_add_53 (by decide) ?_
    cases hm
    exact q_zret (pc := 54) B I rfl (by decide) d_add_54
  · have hm := ift hc hm
    refine lv_aload_n (pc := 9) (i := 0) hx hb d_add_9 rfl (lx_get hl rfl) ?_
    refine lv_iload_n (pc := 10) (i := 2) hx hb d_add_10 rfl (lx_get hl rfl) ?_
    refine ob2 hm (fun x10 S11 e9 hm => ?_)
    refine r_call (pc := 11) (As := [.int p2]) (rest := []) B hl rfl I (c_fail hR e9) kw_fail rfl (by decide) (by decide) rfl (by simp [Value.category]) d_add_11 (fun H locs I => ?_)
    by_cases hq : x10 = 0 ∨ x10 = 1
    · have hm := ift hq hm
      cases hm
      exact q_zret (pc := 14) B I rfl (zn hq) d_add_14
    · have hm := iff' hq hm
      cases hm
def m_behindBar (N : Nat) (p1 : Int32) (S : rS) : Option Int32 :=
  if p1 = 34 then (some p1) else (if p1 = 92 then (some p1) else (if p1 = 110 then (some 10) else (if p1 = 116 then (some 9) else (some 0))))
set_option maxRecDepth 100000 in
set_option maxHeartbeats 4000000 in
theorem c_behindBar {p1 : Int32} {S : rS} {r : Int32} (hR : RR b0 h Z) (hm : m_behindBar N p1 S = some r) : Ct l D vwCl (tyL dA) b0 Z y_behindBar (.code y_behindBar cb_behindBar 2 (some .int) :: wsA) 0 0 [.ref h, .int p1] (rH dA h S hp0) sz (some (.int r)) (rH dA h S hp0) 0 0 := by
  refine ct_of (cc := cb_behindBar) (maxL := 2) (ret := (some .int)) (lo0 := [some (.ref h), some (.int p1)]) hR.2 (by decide) rfl (by simp [lg_sl, Value.category]) rfl (by simp [lx_all, lv_args, Value.category]) ?_
  intro p e s m args below meth c ls B hnm hl I
  obtain ⟨hx, hb, -⟩ := B.1
  unfold m_behindBar at hm
  refine lv_iload_n (pc := 0) (i := 1) hx hb d_behindBar_0 rfl (lx_get hl rfl) ?_
  refine lv_bipush (pc := 1) (v := 34) hx hb d_behindBar_1 (by decide) ?_
  refine lv_icmp_eq (pc := 3) (tgt := 12) hx hb d_behindBar_3 (by decide) (fun hc => ?_) (fun hc => ?_)
  · have hm := ift hc hm
    refine lv_iload_n (pc := 12) (i := 1) hx hb d_behindBar_12 rfl (lx_get hl rfl) ?_
    refine lv_goto (pc := 13) (tgt := 39) hx hb d_behindBar_13 (by decide) ?_
    cases hm
    exact q_iret (pc := 39) B I rfl d_behindBar_39
  · have hm := iff' hc hm
    refine lv_iload_n (pc := 6) (i := 1) hx hb d_behindBar_6 rfl (lx_get hl rfl) ?_
    refine lv_bipush (pc := 7) (v := 92) hx hb d_behindBar_7 (by decide) ?_
    refine lv_icmp_ne (pc := 9) (tgt := 16) hx hb d_behindBar_9 (by decide) (fun hc => ?_) (fun hc => ?_)
    · have hm := iff' hc hm
      refine lv_iload_n (pc := 16) (i := 1) hx hb d_behindBar_16 rfl (lx_get hl rfl) ?_
      refine lv_bipush (pc := 17) (v := 110) hx hb d_behindBar_17 (by decide) ?_
      refine lv_icmp_ne (pc := 19) (tgt := 27) hx hb d_behindBar_19 (by decide) (fun hc => ?_) (fun hc => ?_)
      · have hm := iff' hc hm
        refine lv_iload_n (pc := 27) (i := 1) hx hb d_behindBar_27 rfl (lx_get hl rfl) ?_
        refine lv_bipush (pc := 28) (v := 116) hx hb d_behindBar_28 (by decide) ?_
        refine lv_icmp_ne (pc := 30) (tgt := 38) hx hb d_behindBar_30 (by decide) (fun hc => ?_) (fun hc => ?_)
        · have hm := iff' hc hm
          refine lv_iconst (pc := 38) (v := 0) hx hb d_behindBar_38 (by decide) ?_
          cases hm
          exact q_iret (pc := 39) B I rfl d_behindBar_39
        · have hm := ift hc hm
          refine lv_bipush (pc := 33) (v := 9) hx hb d_behindBar_33 (by decide) ?_
          refine lv_goto (pc := 35) (tgt := 39) hx hb d_behindBar_35 (by decide) ?_
          cases hm
          exact q_iret (pc := 39) B I rfl d_behindBar_39
      · have hm := ift hc hm
        refine lv_bipush (pc := 22) (v := 10) hx hb d_behindBar_22 (by decide) ?_
        refine lv_goto (pc := 24) (tgt := 39) hx hb d_behindBar_24 (by decide) ?_
        cases hm
        exact q_iret (pc := 39) B I rfl d_behindBar_39
    · have hm := ift hc hm
      refine lv_iload_n (pc := 12) (i := 1) hx hb d_behindBar_12 rfl (lx_get hl rfl) ?_
      refine lv_goto (pc := 13) (tgt := 39) hx hb d_behindBar_13 (by decide) ?_
      cases hm
      exact q_iret (pc := 39) B I rfl d_behindBar_39
def m_string_54 (N : Nat) (S : rS) : Option (Int32 × rS) :=
  b2 (m_fail N (S.1 3) S) (fun x2 S3 => if x2 = 0 ∨ x2 = 1 then (some (x2, S3)) else none)
set_option maxRecDepth 100000 in
set_option maxHeartbeats 4000000 in
theorem w_string_54 {S : rS} (B : BX p m c cb_string 4 s args (.code y_string cb_string 4 (some .boolean) :: wsA) RREF meth (some .boolean) D vwCl (tyL dA) b0 Z) (hR : RR b0 h Z) (hl : lx ls [some (.ref h), none, none, none]) (I : AI D vwCl b0 (rH dA h S hp0) sz s.heap H locs)  (hm : m_string_54 N   S = some (r, S')) : W p l e { frames := 2, cells := 0, slots := 0, locals := 43 } s m args below meth c H locs 0 0 (MQ below (CQ D vwCl b0 (some (.int r)) (rH dA h S' hp0) sz) args s 0 0 (fun q => b0 ≤ q)) (F0 m 54 ls []) := by
  obtain ⟨hx, hb, -⟩ := B.1
  unfold m_string_54 at hm
  refine lv_aload_n (pc := 54) (i := 0) hx hb d_string_54 rfl (lx_get hl rfl) ?_
  refine lv_aload_n (pc := 55) (i := 0) hx hb d_string_55 rfl (lx_get hl rfl) ?_
  refine r_get (pc := 56) (k := 3) (index := 76) B I (by decide) mF_76 rfl rfl d_string_56 ?_
  refine ob2 hm (fun x2 S3 e1 hm => ?_)
  refine r_call (pc := 59) (As := [.int (S.1 3)]) (rest := []) B hl rfl I (c_fail hR e1) kw_fail rfl (by decide) (by decide) rfl (by simp [Value.category]) d_string_59 (fun H locs I => ?_)
  by_cases hq : x2 = 0 ∨ x2 = 1
  · have hm := ift hq hm
    cases hm
    exact q_zret (pc := 62) B I rfl (zn hq) d_string_62
  · have hm := iff' hq hm
    cases hm
def m_string_125 (N : Nat) (K19 : Int32 → rS → Option (Int32 × rS)) (y1 : Int32) (y2 : Int32) (y3 : Int32) (S : rS) : Option (Int32 × rS) :=
  b2 (m_add N y2 y3 S) (fun x2 S3 => if x2 = 0 then (some (0, S3)) else (b1 (rP S3 3 ((S3.1 3) + 1)) (fun S4 => K19 y1 S4)))
set_option maxRecDepth 100000 in
set_option maxHeartbeats 4000000 in
theorem w_string_125 {K19 : Int32 → rS → Option (Int32 × rS)} {y1 : Int32} {y2 : Int32} {y3 : Int32} {S : rS} (hK19 : ∀ (y1 : Int32) (S : rS) (ls : Array Slot) (H : Heap) (locs : List Loc), lx ls [some (.ref h), some (.int y1), none, none] → AI D vwCl b0 (rH dA h S hp0) sz s.heap H locs → K19 y1 S = some (r, S') → W p l e { frames := 2, cells := 0, slots := 0, locals := 43 } s m args below meth c H locs 0 0 (MQ below (CQ D vwCl b0 (some (.int r)) (rH dA h S' hp0) sz) args s 0 0 (fun q => b0 ≤ q)) (F0 m 19 ls [])) (B : BX p m c cb_string 4 s args (.code y_string cb_string 4 (some .boolean) :: wsA) RREF meth (some .boolean) D vwCl (tyL dA) b0 Z) (hR : RR b0 h Z) (hl : lx ls [some (.ref h), some (.int y1), some (.int y2), some (.int y3)]) (I : AI D vwCl b0 (rH dA h S hp0) sz s.heap H locs)  (hm : m_string_125 N K19 y1 y2 y3 S = some (r, S')) : W p l e { frames := 2, cells := 0, slots := 0, locals := 43 } s m args below meth c H locs 0 0 (MQ below (CQ D vwCl b0 (some (.int r)) (rH dA h S' hp0) sz) args s 0 0 (fun q => b0 ≤ q)) (F0 m 125 ls []) := by
  obtain ⟨hx, hb, -⟩ := B.1
  unfold m_string_125 at hm
  refine lv_aload_n (pc := 125) (i := 0) hx hb d_string_125 rfl (lx_get hl rfl) ?_
  refine lv_iload_n (pc := 126) (i := 2) hx hb d_string_126 rfl (lx_get hl rfl) ?_
  refine lv_iload_n (pc := 127) (i := 3) hx hb d_string_127 rfl (lx_get hl rfl) ?_
  refine ob2 hm (fun x2 S3 e1 hm => ?_)
  refine r_call (pc := 128) (As := [.int y2, .int y3]) (rest := []) B hl rfl I (c_add hR e1) kw_add rfl (by decide) (by decide) rfl (by simp [Value.category]) d_string_128 (fun H locs I => ?_)
  refine lv_if_ne (pc := 131) (tgt := 136) hx hb d_string_131 (by decide) (fun hc => ?_) (fun hc => ?_)
  · have hm := iff' hc hm
    refine lv_aload_n (pc := 136) (i := 0) hx hb d_string_136 rfl (lx_get hl rfl) ?_
    refine lv_dup (pc := 137) hx hb d_string_137 rfl ?_
    refine r_get (pc := 138) (k := 3) (index := 76) B I (by decide) mF_76 rfl rfl d_string_138 ?_
    refine lv_iconst (pc := 141) (v := 1) hx hb d_string_141 (by decide) ?_
    refine lv_iadd (pc := 142) hx hb d_string_142 ?_
    refine ob1 hm (fun S4 e5 hm => ?_)
    refine r_put (pc := 143) (k := 3) (index := 76) B hR I (by decide) mF_76 rfl rfl rfl (fun _ _ => rfl) e5 d_string_143 (fun H locs I => ?_)
    refine lv_goto (pc := 146) (tgt := 19) hx hb d_string_146 (by decide) ?_
    exact hK19 _ _ _ _ _ (lx_sub (lo' := [some (.ref h), some (.int y1), none, none]) hl (by simp [lx_le])) I hm
  · have hm := ift hc hm
    refine lv_iconst (pc := 134) (v := 0) hx hb d_string_134 (by decide) ?_
    cases hm
    exact q_zret (pc := 135) B I rfl (by decide) d_string_135
def m_string_19F (N : Nat) (K19 : Int32 → rS → Option (Int32 × rS)) (y1 : Int32) (S : rS) : Option (Int32 × rS) :=
  b1 (m_here N S) (fun x2 => if x2 = y1 then (b1 (rP S 3 ((S.1 3) + 1)) (fun S3 => some (1, S3))) else (b1 (m_here N S) (fun x6 => if S.1 1 ≤ S.1 3 then (m_string_54 N  S) else (if x6 = 10 then (m_string_54 N  S) else (if S.1 25 = 30 then (b2 (m_fail N (S.1 3) S) (fun x17 S18 => if x17 = 0 ∨ x17 = 1 then (some (x17, S18)) else none)) else (if y1 = 34 then (if x6 = 92 then (b1 (rP S 3 ((S.1 3) + 1)) (fun S7 => b1 (m_here N S7) (fun x10 => b1 (m_behindBar N x10 S7) (fun x12 => if x12 = 0 then (b2 (m_fail N (S7.1 3) S7) (fun x14 S15 => if x14 = 0 ∨ x14 = 1 then (some (x14, S15)) else none)) else (m_string_125 N K19 y1 x12 (S.1 3) S7))))) else (m_string_125 N K19 y1 x6 (S.1 3) S)) else (m_string_125 N K19 y1 x6 (S.1 3) S)))))))
def m_string_19 (N : Nat) : Nat → Int32 → rS → Option (Int32 × rS)
  | 0, _, _ => none
  | k + 1, y1, S => m_string_19F N  (m_string_19 N  k) y1 S
set_option maxRecDepth 100000 in
set_option maxHeartbeats 4000000 in
theorem w_string_19F {K19 : Int32 → rS → Option (Int32 × rS)} {y1 : Int32} {S : rS} (hK19 : ∀ (y1 : Int32) (S : rS) (ls : Array Slot) (H : Heap) (locs : List Loc), lx ls [some (.ref h), some (.int y1), none, none] → AI D vwCl b0 (rH dA h S hp0) sz s.heap H locs → K19 y1 S = some (r, S') → W p l e { frames := 2, cells := 0, slots := 0, locals := 43 } s m args below meth c H locs 0 0 (MQ below (CQ D vwCl b0 (some (.int r)) (rH dA h S' hp0) sz) args s 0 0 (fun q => b0 ≤ q)) (F0 m 19 ls [])) (B : BX p m c cb_string 4 s args (.code y_string cb_string 4 (some .boolean) :: wsA) RREF meth (some .boolean) D vwCl (tyL dA) b0 Z) (hR : RR b0 h Z) (hl : lx ls [some (.ref h), some (.int y1), none, none]) (I : AI D vwCl b0 (rH dA h S hp0) sz s.heap H locs)  (hm : m_string_19F N  K19 y1 S = some (r, S')) : W p l e { frames := 2, cells := 0, slots := 0, locals := 43 } s m args below meth c H locs 0 0 (MQ below (CQ D vwCl b0 (some (.int r)) (rH dA h S' hp0) sz) args s 0 0 (fun q => b0 ≤ q)) (F0 m 19 ls []) := by
  obtain ⟨hx, hb, -⟩ := B.1
  unfold m_string_19F at hm
  refine lv_aload_n (pc := 19) (i := 0) hx hb d_string_19 rfl (lx_get hl rfl) ?_
  refine ob1 hm (fun x2 e1 hm => ?_)
  refine r_call (pc := 20) (As := []) (rest := []) B hl rfl I (c_here hR e1) kw_here rfl (by decide) (by decide) rfl (by simp [Value.category]) d_string_20 (fun H locs I => ?_)
  refine lv_iload_n (pc := 23) (i := 1) hx hb d_string_23 rfl (lx_get hl rfl) ?_
  refine lv_icmp_eq (pc := 24) (tgt := 149) hx hb d_string_24 (by decide) (fun hc => ?_) (fun hc => ?_)
  · have hm := ift hc hm
    refine lv_aload_n (pc := 149) (i := 0) hx hb d_string_149 rfl (lx_get hl rfl) ?_
    refine lv_dup (pc := 150) hx hb d_string_150 rfl ?_
    refine r_get (pc := 151) (k := 3) (index := 76) B I (by decide) mF_76 rfl rfl d_string_151 ?_
    refine lv_iconst (pc := 154) (v := 1) hx hb d_string_154 (by decide) ?_
    refine lv_iadd (pc := 155) hx hb d_string_155 ?_
    refine ob1 hm (fun S3 e4 hm => ?_)
    refine r_put (pc := 156) (k := 3) (index := 76) B hR I (by decide) mF_76 rfl rfl rfl (fun _ _ => rfl) e4 d_string_156 (fun H locs I => ?_)
    refine lv_iconst (pc := 159) (v := 1) hx hb d_string_159 (by decide) ?_
    cases hm
    exact q_zret (pc := 160) B I rfl (by decide) d_string_160
  · have hm := iff' hc hm
    refine lv_aload_n (pc := 27) (i := 0) hx hb d_string_27 rfl (lx_get hl rfl) ?_
    refine ob1 hm (fun x6 e5 hm => ?_)
    refine r_call (pc := 28) (As := []) (rest := []) B hl rfl I (c_here hR e5) kw_here rfl (by decide) (by decide) rfl (by simp [Value.category]) d_string_28 (fun H locs I => ?_)
    refine q_istore_n (pc := 31) (i := 2) (lo' := [some (.ref h), some (.int y1), some (.int x6), none]) hx hb d_string_31 rfl hl (Nat.le_of_ble_eq_true rfl) (lx_ci rfl) rfl (fun ls hl => ?_)
    refine lv_aload_n (pc := 32) (i := 0) hx hb d_string_32 rfl (lx_get hl rfl) ?_
    refine r_get (pc := 33) (k := 3) (index := 76) B I (by decide) mF_76 rfl rfl d_string_33 ?_
    refine q_istore_n (pc := 36) (i := 3) (lo' := [some (.ref h), some (.int y1), some (.int x6), some (.int (S.1 3))]) hx hb d_string_36 rfl hl (Nat.le_of_ble_eq_true rfl) (lx_ci rfl) rfl (fun ls hl => ?_)
    refine lv_aload_n (pc := 37) (i := 0) hx hb d_string_37 rfl (lx_get hl rfl) ?_
    refine r_get (pc := 38) (k := 3) (index := 76) B I (by decide) mF_76 rfl rfl d_string_38 ?_
    refine lv_aload_n (pc := 41) (i := 0) hx hb d_string_41 rfl (lx_get hl rfl) ?_
    refine r_get (pc := 42) (k := 1) (index := 73) B I (by decide) mF_73 rfl rfl d_string_42 ?_
    refine lv_icmp_ge (pc := 45) (tgt := 54) hx hb d_string_45 (by decide) (fun hc => ?_) (fun hc => ?_)
    · have hm := ift hc hm
      exact w_string_54  B hR (lx_sub (lo' := [some (.ref h), none, none, none]) hl (by simp [lx_le])) I hm
    · have hm := iff' hc hm
      refine lv_iload_n (pc := 48) (i := 2) hx hb d_string_48 rfl (lx_get hl rfl) ?_
      refine lv_bipush (pc := 49) (v := 10) hx hb d_string_49 (by decide) ?_
      refine lv_icmp_ne (pc := 51) (tgt := 63) hx hb d_string_51 (by decide) (fun hc => ?_) (fun hc => ?_)
      · have hm := iff' hc hm
        refine lv_aload_n (pc := 63) (i := 0) hx hb d_string_63 rfl (lx_get hl rfl) ?_
        refine r_get (pc := 64) (k := 25) (index := 99) B I (by decide) mF_99 rfl rfl d_string_64 ?_
        refine lv_bipush (pc := 67) (v := 30) hx hb d_string_67 (by decide) ?_
        refine lv_icmp_ne (pc := 69) (tgt := 81) hx hb d_string_69 (by decide) (fun hc => ?_) (fun hc => ?_)
        · have hm := iff' hc hm
          refine lv_iload_n (pc := 81) (i := 1) hx hb d_string_81 rfl (lx_get hl rfl) ?_
          refine lv_bipush (pc := 82) (v := 34) hx hb d_string_82 (by decide) ?_
          refine lv_icmp_ne (pc := 84) (tgt := 125) hx hb d_string_84 (by decide) (fun hc => ?_) (fun hc => ?_)
          · have hm := iff' hc hm
            exact w_string_125 hK19 B hR hl I hm
          · have hm := ift hc hm
            refine lv_iload_n (pc := 87) (i := 2) hx hb d_string_87 rfl (lx_get hl rfl) ?_
            refine lv_bipush (pc := 88) (v := 92) hx hb d_string_88 (by decide) ?_
            refine lv_icmp_ne (pc := 90) (tgt := 125) hx hb d_string_90 (by decide) (fun hc => ?_) (fun hc => ?_)
            · have hm := iff' hc hm
              exact w_string_125 hK19 B hR hl I hm
            · have hm := ift hc hm
              refine lv_aload_n (pc := 93) (i := 0) hx hb d_string_93 rfl (lx_get hl rfl) ?_
              refine lv_dup (pc := 94) hx hb d_string_94 rfl ?_
              refine r_get (pc := 95) (k := 3) (index := 76) B I (by decide) mF_76 rfl rfl d_string_95 ?_
              refine lv_iconst (pc := 98) (v := 1) hx hb d_string_98 (by decide) ?_
              refine lv_iadd (pc := 99) hx hb d_string_99 ?_
              refine ob1 hm (fun S7 e8 hm => ?_)
              refine r_put (pc := 100) (k := 3) (index := 76) B hR I (by decide) mF_76 rfl rfl rfl (fun _ _ => rfl) e8 d_string_100 (fun H locs I => ?_)
              refine lv_aload_n (pc := 103) (i := 0) hx hb d_string_103 rfl (lx_get hl rfl) ?_
              refine lv_aload_n (pc := 104) (i := 0) hx hb d_string_104 rfl (lx_get hl rfl) ?_
              refine ob1 hm (fun x10 e9 hm => ?_)
              refine r_call (pc := 105) (As := []) (rest := [.ref h]) B hl rfl I (c_here hR e9) kw_here rfl (by decide) (by decide) rfl (by simp [Value.category]) d_string_105 (fun H locs I => ?_)
              refine ob1 hm (fun x12 e11 hm => ?_)
              refine r_call (pc := 108) (As := [.int x10]) (rest := []) B hl rfl I (c_behindBar hR e11) kw_behindBar rfl (by decide) (by decide) rfl (by simp [Value.category]) d_string_108 (fun H locs I => ?_)
              refine q_istore_n (pc := 111) (i := 2) (lo' := [some (.ref h), some (.int y1), some (.int x12), some (.int (S.1 3))]) hx hb d_string_111 rfl hl (Nat.le_of_ble_eq_true rfl) (lx_ci rfl) rfl (fun ls hl => ?_)
              refine lv_iload_n (pc := 112) (i := 2) hx hb d_string_112 rfl (lx_get hl rfl) ?_
              refine lv_if_ne (pc := 113) (tgt := 125) hx hb d_string_113 (by decide) (fun hc => ?_) (fun hc => ?_)
              · have hm := iff' hc hm
                exact w_string_125 hK19 B hR hl I hm
              · have hm := ift hc hm
                refine lv_aload_n (pc := 116) (i := 0) hx hb d_string_116 rfl (lx_get hl rfl) ?_
                refine lv_aload_n (pc := 117) (i := 0) hx hb d_string_117 rfl (lx_get hl rfl) ?_
                refine r_get (pc := 118) (k := 3) (index := 76) B I (by decide) mF_76 rfl rfl d_string_118 ?_
                refine ob2 hm (fun x14 S15 e13 hm => ?_)
                refine r_call (pc := 121) (As := [.int (S7.1 3)]) (rest := []) B hl rfl I (c_fail hR e13) kw_fail rfl (by decide) (by decide) rfl (by simp [Value.category]) d_string_121 (fun H locs I => ?_)
                by_cases hq : x14 = 0 ∨ x14 = 1
                · have hm := ift hq hm
                  cases hm
                  exact q_zret (pc := 124) B I rfl (zn hq) d_string_124
                · have hm := iff' hq hm
                  cases hm
        · have hm := ift hc hm
          refine lv_aload_n (pc := 72) (i := 0) hx hb d_string_72 rfl (lx_get hl rfl) ?_
          refine lv_aload_n (pc := 73) (i := 0) hx hb d_string_73 rfl (lx_get hl rfl) ?_
          refine r_get (pc := 74) (k := 3) (index := 76) B I (by decide) mF_76 rfl rfl d_string_74 ?_
          refine ob2 hm (fun x17 S18 e16 hm => ?_)
          refine r_call (pc := 77) (As := [.int (S.1 3)]) (rest := []) B hl rfl I (c_fail hR e16) kw_fail rfl (by decide) (by decide) rfl (by simp [Value.category]) d_string_77 (fun H locs I => ?_)
          by_cases hq : x17 = 0 ∨ x17 = 1
          · have hm := ift hq hm
            cases hm
            exact q_zret (pc := 80) B I rfl (zn hq) d_string_80
          · have hm := iff' hq hm
            cases hm
      · have hm := ift hc hm
        exact w_string_54  B hR (lx_sub (lo' := [some (.ref h), none, none, none]) hl (by simp [lx_le])) I hm
set_option maxRecDepth 100000 in
set_option maxHeartbeats 4000000 in
theorem w_string_19i (B : BX p m c cb_string 4 s args (.code y_string cb_string 4 (some .boolean) :: wsA) RREF meth (some .boolean) D vwCl (tyL dA) b0 Z) (hR : RR b0 h Z) (k : Nat) (y1 : Int32) (S : rS) (ls : Array Slot) (H : Heap) (locs : List Loc) (hl : lx ls [some (.ref h), some (.int y1), none, none]) (I : AI D vwCl b0 (rH dA h S hp0) sz s.heap H locs)  (hm : m_string_19 N  k y1 S = some (r, S')) : W p l e { frames := 2, cells := 0, slots := 0, locals := 43 } s m args below meth c H locs 0 0 (MQ below (CQ D vwCl b0 (some (.int r)) (rH dA h S' hp0) sz) args s 0 0 (fun q => b0 ≤ q)) (F0 m 19 ls []) := by
  induction k generalizing y1 S ls H locs with
  | zero => cases hm
  | succ k ih => exact w_string_19F  (fun y1 S ls H locs hl I hm => ih y1 S ls H locs hl I hm) B hR hl I hm
theorem w_string_19 {y1 : Int32} {S : rS} (B : BX p m c cb_string 4 s args (.code y_string cb_string 4 (some .boolean) :: wsA) RREF meth (some .boolean) D vwCl (tyL dA) b0 Z) (hR : RR b0 h Z) (hl : lx ls [some (.ref h), some (.int y1), none, none]) (I : AI D vwCl b0 (rH dA h S hp0) sz s.heap H locs)  {k : Nat} (hm : m_string_19 N  k y1 S = some (r, S')) : W p l e { frames := 2, cells := 0, slots := 0, locals := 43 } s m args below meth c H locs 0 0 (MQ below (CQ D vwCl b0 (some (.int r)) (rH dA h S' hp0) sz) args s 0 0 (fun q => b0 ≤ q)) (F0 m 19 ls []) := w_string_19i  B hR k _ S ls H locs hl I hm
def m_string (N : Nat) (S : rS) : Option (Int32 × rS) :=
  b1 (m_here N S) (fun x2 => b1 (m_begin N S) (fun S4 => b1 (rP S4 3 ((S4.1 3) + 1)) (fun S5 => m_string_19 N  N x2 S5)))
set_option maxRecDepth 100000 in
set_option maxHeartbeats 4000000 in
theorem c_string {S S' : rS} {r : Int32} (hR : RR b0 h Z) (hm : m_string N  S = some (r, S')) : Ct l D vwCl (tyL dA) b0 Z y_string (.code y_string cb_string 4 (some .boolean) :: wsA) 2 43 [.ref h] (rH dA h S hp0) sz (some (.int r)) (rH dA h S' hp0) 0 0 := by
  refine ct_of (cc := cb_string) (maxL := 4) (ret := (some .boolean)) (lo0 := [some (.ref h), none, none, none]) hR.2 (by decide) rfl (by simp [lg_sl, Value.category]) rfl (by simp [lx_all, lv_args, Value.category]) ?_
  intro p e s m args below meth c ls B hnm hl I
  obtain ⟨hx, hb, -⟩ := B.1
  unfold m_string at hm
  refine lv_aload_n (pc := 0) (i := 0) hx hb d_string_0 rfl (lx_get hl rfl) ?_
  refine ob1 hm (fun x2 e1 hm => ?_)
  refine r_call (pc := 1) (As := []) (rest := []) B hl rfl I (c_here hR e1) kw_here rfl (by decide) (by decide) rfl (by simp [Value.category]) d_string_1 (fun H locs I => ?_)
  refine q_istore_n (pc := 4) (i := 1) (lo' := [some (.ref h), some (.int x2), none, none]) hx hb d_string_4 rfl hl (Nat.le_of_ble_eq_true rfl) (lx_cr rfl) rfl (fun ls hl => ?_)
  refine lv_aload_n (pc := 5) (i := 0) hx hb d_string_5 rfl (lx_get hl rfl) ?_
  refine ob1 hm (fun S4 e3 hm => ?_)
  refine r_call (pc := 6) (As := []) (rest := []) B hl rfl I (c_begin hR e3) kw_begin rfl (by decide) (by decide) rfl (by simp [Value.category]) d_string_6 (fun H locs I => ?_)
  refine lv_aload_n (pc := 9) (i := 0) hx hb d_string_9 rfl (lx_get hl rfl) ?_
  refine lv_dup (pc := 10) hx hb d_string_10 rfl ?_
  refine r_get (pc := 11) (k := 3) (index := 76) B I (by decide) mF_76 rfl rfl d_string_11 ?_
  refine lv_iconst (pc := 14) (v := 1) hx hb d_string_14 (by decide) ?_
  refine lv_iadd (pc := 15) hx hb d_string_15 ?_
  refine ob1 hm (fun S5 e6 hm => ?_)
  refine r_put (pc := 16) (k := 3) (index := 76) B hR I (by decide) mF_76 rfl rfl rfl (fun _ _ => rfl) e6 d_string_16 (fun H locs I => ?_)
  exact w_string_19  B hR hl I hm
def m_bare_4F (N : Nat) (K4 : rS → Option (Int32 × rS)) (S : rS) : Option (Int32 × rS) :=
  b1 (m_here N S) (fun x2 => b1 (m_isBare N x2 S) (fun x4 => if x4 = 0 then (if 0 < S.1 25 then (some (1, S)) else (b2 (m_fail N (S.1 3) S) (fun x6 S7 => if x6 = 0 then (some (0, S7)) else (some (1, S7))))) else (b1 (m_here N S) (fun x9 => b2 (m_add N x9 (S.1 3) S) (fun x11 S12 => if x11 = 0 then (some (0, S12)) else (b1 (rP S12 3 ((S12.1 3) + 1)) (fun S13 => K4 S13)))))))
def m_bare_4 (N : Nat) : Nat → rS → Option (Int32 × rS)
  | 0, _ => none
  | k + 1, S => m_bare_4F N  (m_bare_4 N  k)  S
set_option maxRecDepth 100000 in
set_option maxHeartbeats 4000000 in
theorem w_bare_4F {K4 : rS → Option (Int32 × rS)} {S : rS} (hK4 : ∀ (S : rS) (ls : Array Slot) (H : Heap) (locs : List Loc), lx ls [some (.ref h)] → AI D vwCl b0 (rH dA h S hp0) sz s.heap H locs → K4 S = some (r, S') → W p l e { frames := 2, cells := 0, slots := 0, locals := 43 } s m args below meth c H locs 0 0 (MQ below (CQ D vwCl b0 (some (.int r)) (rH dA h S' hp0) sz) args s 0 0 (fun q => b0 ≤ q)) (F0 m 4 ls [])) (B : BX p m c cb_bare 1 s args (.code y_bare cb_bare 1 (some .boolean) :: wsA) RREF meth (some .boolean) D vwCl (tyL dA) b0 Z) (hR : RR b0 h Z) (hl : lx ls [some (.ref h)]) (I : AI D vwCl b0 (rH dA h S hp0) sz s.heap H locs)  (hm : m_bare_4F N  K4  S = some (r, S')) : W p l e { frames := 2, cells := 0, slots := 0, locals := 43 } s m args below meth c H locs 0 0 (MQ below (CQ D vwCl b0 (some (.int r)) (rH dA h S' hp0) sz) args s 0 0 (fun q => b0 ≤ q)) (F0 m 4 ls []) := by
  obtain ⟨hx, hb, -⟩ := B.1
  unfold m_bare_4F at hm
  refine lv_aload_n (pc := 4) (i := 0) hx hb d_bare_4 rfl (lx_get hl rfl) ?_
  refine lv_aload_n (pc := 5) (i := 0) hx hb d_bare_5 rfl (lx_get hl rfl) ?_
  refine ob1 hm (fun x2 e1 hm => ?_)
  refine r_call (pc := 6) (As := []) (rest := [.ref h]) B hl rfl I (c_here hR e1) kw_here rfl (by decide) (by decide) rfl (by simp [Value.category]) d_bare_6 (fun H locs I => ?_)
  refine ob1 hm (fun x4 e3 hm => ?_)
  refine r_call (pc := 9) (As := [.int x2]) (rest := []) B hl rfl I (c_isBare hR e3) kw_isBare rfl (by decide) (by decide) rfl (by simp [Value.category]) d_bare_9 (fun H locs I => ?_)
  refine lv_if_eq (pc := 12) (tgt := 45) hx hb d_bare_12 (by decide) (fun hc => ?_) (fun hc => ?_)
  · have hm := ift hc hm
    refine lv_aload_n (pc := 45) (i := 0) hx hb d_bare_45 rfl (lx_get hl rfl) ?_
    refine r_get (pc := 46) (k := 25) (index := 99) B I (by decide) mF_99 rfl rfl d_bare_46 ?_
    refine lv_if_gt (pc := 49) (tgt := 63) hx hb d_bare_49 (by decide) (fun hc => ?_) (fun hc => ?_)
    · have hm := ift hc hm
      refine lv_iconst (pc := 63) (v := 1) hx hb d_bare_63 (by decide) ?_
      refine lv_goto (pc := 64) (tgt := 68) hx hb d_bare_64 (by decide) ?_
      cases hm
      exact q_zret (pc := 68) B I rfl (by decide) d_bare_68
    · have hm := iff' hc hm
      refine lv_aload_n (pc := 52) (i := 0) hx hb d_bare_52 rfl (lx_get hl rfl) ?_
      refine lv_aload_n (pc := 53) (i := 0) hx hb d_bare_53 rfl (lx_get hl rfl) ?_
      refine r_get (pc := 54) (k := 3) (index := 76) B I (by decide) mF_76 rfl rfl d_bare_54 ?_
      refine ob2 hm (fun x6 S7 e5 hm => ?_)
      refine r_call (pc := 57) (As := [.int (S.1 3)]) (rest := []) B hl rfl I (c_fail hR e5) kw_fail rfl (by decide) (by decide) rfl (by simp [Value.category]) d_bare_57 (fun H locs I => ?_)
      refine lv_if_eq (pc := 60) (tgt := 67) hx hb d_bare_60 (by decide) (fun hc => ?_) (fun hc => ?_)
      · have hm := ift hc hm
        refine lv_iconst (pc := 67) (v := 0) hx hb d_bare_67 (by decide) ?_
        cases hm
        exact q_zret (pc := 68) B I rfl (by decide) d_bare_68
      · have hm := iff' hc hm
        refine lv_iconst (pc := 63) (v := 1) hx hb d_bare_63 (by decide) ?_
        refine lv_goto (pc := 64) (tgt := 68) hx hb d_bare_64 (by decide) ?_
        cases hm
        exact q_zret (pc := 68) B I rfl (by decide) d_bare_68
  · have hm := iff' hc hm
    refine lv_aload_n (pc := 15) (i := 0) hx hb d_bare_15 rfl (lx_get hl rfl) ?_
    refine lv_aload_n (pc := 16) (i := 0) hx hb d_bare_16 rfl (lx_get hl rfl) ?_
    refine ob1 hm (fun x9 e8 hm => ?_)
    refine r_call (pc := 17) (As := []) (rest := [.ref h]) B hl rfl I (c_here hR e8) kw_here rfl (by decide) (by decide) rfl (by simp [Value.category]) d_bare_17 (fun H locs I => ?_)
    refine lv_aload_n (pc := 20) (i := 0) hx hb d_bare_20 rfl (lx_get hl rfl) ?_
    refine r_get (pc := 21) (k := 3) (index := 76) B I (by decide) mF_76 rfl rfl d_bare_21 ?_
    refine ob2 hm (fun x11 S12 e10 hm => ?_)
    refine r_call (pc := 24) (As := [.int x9, .int (S.1 3)]) (rest := []) B hl rfl I (c_add hR e10) kw_add rfl (by decide) (by decide) rfl (by simp [Value.category]) d_bare_24 (fun H locs I => ?_)
    refine lv_if_ne (pc := 27) (tgt := 32) hx hb d_bare_27 (by decide) (fun hc => ?_) (fun hc => ?_)
    · have hm := iff' hc hm
      refine lv_aload_n (pc := 32) (i := 0) hx hb d_bare_32 rfl (lx_get hl rfl) ?_
      refine lv_dup (pc := 33) hx hb d_bare_33 rfl ?_
      refine r_get (pc := 34) (k := 3) (index := 76) B I (by decide) mF_76 rfl rfl d_bare_34 ?_
      refine lv_iconst (pc := 37) (v := 1) hx hb d_bare_37 (by decide) ?_
      refine lv_iadd (pc := 38) hx hb d_bare_38 ?_
      refine ob1 hm (fun S13 e14 hm => ?_)
      refine r_put (pc := 39) (k := 3) (index := 76) B hR I (by decide) mF_76 rfl rfl rfl (fun _ _ => rfl) e14 d_bare_39 (fun H locs I => ?_)
      refine lv_goto (pc := 42) (tgt := 4) hx hb d_bare_42 (by decide) ?_
      exact hK4  _ _ _ _ hl I hm
    · have hm := ift hc hm
      refine lv_iconst (pc := 30) (v := 0) hx hb d_bare_30 (by decide) ?_
      cases hm
      exact q_zret (pc := 31) B I rfl (by decide) d_bare_31
set_option maxRecDepth 100000 in
set_option maxHeartbeats 4000000 in
theorem w_bare_4i (B : BX p m c cb_bare 1 s args (.code y_bare cb_bare 1 (some .boolean) :: wsA) RREF meth (some .boolean) D vwCl (tyL dA) b0 Z) (hR : RR b0 h Z) (k : Nat) (S : rS) (ls : Array Slot) (H : Heap) (locs : List Loc) (hl : lx ls [some (.ref h)]) (I : AI D vwCl b0 (rH dA h S hp0) sz s.heap H locs)  (hm : m_bare_4 N  k  S = some (r, S')) : W p l e { frames := 2, cells := 0, slots := 0, locals := 43 } s m args below meth c H locs 0 0 (MQ below (CQ D vwCl b0 (some (.int r)) (rH dA h S' hp0) sz) args s 0 0 (fun q => b0 ≤ q)) (F0 m 4 ls []) := by
  induction k generalizing  S ls H locs with
  | zero => cases hm
  | succ k ih => exact w_bare_4F  (fun  S ls H locs hl I hm => ih  S ls H locs hl I hm) B hR hl I hm
theorem w_bare_4 {S : rS} (B : BX p m c cb_bare 1 s args (.code y_bare cb_bare 1 (some .boolean) :: wsA) RREF meth (some .boolean) D vwCl (tyL dA) b0 Z) (hR : RR b0 h Z) (hl : lx ls [some (.ref h)]) (I : AI D vwCl b0 (rH dA h S hp0) sz s.heap H locs)  {k : Nat} (hm : m_bare_4 N  k  S = some (r, S')) : W p l e { frames := 2, cells := 0, slots := 0, locals := 43 } s m args below meth c H locs 0 0 (MQ below (CQ D vwCl b0 (some (.int r)) (rH dA h S' hp0) sz) args s 0 0 (fun q => b0 ≤ q)) (F0 m 4 ls []) := w_bare_4i  B hR k  S ls H locs hl I hm
def m_bare (N : Nat) (S : rS) : Option (Int32 × rS) :=
  b1 (m_begin N S) (fun S2 => m_bare_4 N  N S2)
set_option maxRecDepth 100000 in
set_option maxHeartbeats 4000000 in
theorem c_bare {S S' : rS} {r : Int32} (hR : RR b0 h Z) (hm : m_bare N  S = some (r, S')) : Ct l D vwCl (tyL dA) b0 Z y_bare (.code y_bare cb_bare 1 (some .boolean) :: wsA) 2 43 [.ref h] (rH dA h S hp0) sz (some (.int r)) (rH dA h S' hp0) 0 0 := by
  refine ct_of (cc := cb_bare) (maxL := 1) (ret := (some .boolean)) (lo0 := [some (.ref h)]) hR.2 (by decide) rfl (by simp [lg_sl, Value.category]) rfl (by simp [lx_all, lv_args, Value.category]) ?_
  intro p e s m args below meth c ls B hnm hl I
  obtain ⟨hx, hb, -⟩ := B.1
  unfold m_bare at hm
  refine lv_aload_n (pc := 0) (i := 0) hx hb d_bare_0 rfl (lx_get hl rfl) ?_
  refine ob1 hm (fun S2 e1 hm => ?_)
  refine r_call (pc := 1) (As := []) (rest := []) B hl rfl I (c_begin hR e1) kw_begin rfl (by decide) (by decide) rfl (by simp [Value.category]) d_bare_1 (fun H locs I => ?_)
  exact w_bare_4  B hR hl I hm
end RW
end
section
section RW
variable {p : Program} {l : Launch} {e : Env} {s : State} {m : MethodId} {args : Array Value} {below : List Frame} {meth : Method} {c : Code} {H : Heap} {locs : List Loc}
variable {ls : Array Slot} {D : va_G} {dA : Nat → ClassId} {hp0 : aH} {sz b0 h N : Nat} {S' : rS} {r : Int32} {Z : State → Prop}
def m_path_106 (N : Nat) (K7 : Int32 → rS → Option (Int32 × rS)) (z0 : Int32) (S : rS) : Option (Int32 × rS) :=
  if z0 = 0 then (K7 z0 S) else (b1 (rP S 3 ((S.1 3) + 1)) (fun S1 => b1 (m_blanks N S1) (fun S4 => K7 z0 S4)))
set_option maxRecDepth 100000 in
set_option maxHeartbeats 4000000 in
theorem w_path_106 {K7 : Int32 → rS → Option (Int32 × rS)} {z0 : Int32} {S : rS} (hK7 : ∀ (y1 : Int32) (S : rS) (ls : Array Slot) (H : Heap) (locs : List Loc), lx ls [some (.ref h), some (.int y1)] → AI D vwCl b0 (rH dA h S hp0) sz s.heap H locs → K7 y1 S = some (r, S') → W p l e { frames := 3, cells := 0, slots := 0, locals := 66 } s m args below meth c H locs 0 0 (MQ below (CQ D vwCl b0 (some (.int r)) (rH dA h S' hp0) sz) args s 0 0 (fun q => b0 ≤ q)) (F0 m 7 ls [])) (B : BX p m c cb_path 2 s args (.code y_path cb_path 2 (some .boolean) :: wsA) RREF meth (some .boolean) D vwCl (tyL dA) b0 Z) (hR : RR b0 h Z) (hl : lx ls [some (.ref h), none]) (I : AI D vwCl b0 (rH dA h S hp0) sz s.heap H locs)  (hm : m_path_106 N K7 z0 S = some (r, S')) : W p l e { frames := 3, cells := 0, slots := 0, locals := 66 } s m args below meth c H locs 0 0 (MQ below (CQ D vwCl b0 (some (.int r)) (rH dA h S' hp0) sz) args s 0 0 (fun q => b0 ≤ q)) (F0 m 106 ls [.int z0]) := by
  obtain ⟨hx, hb, -⟩ := B.1
  unfold m_path_106 at hm
  refine q_istore_n (pc := 106) (i := 1) (lo' := [some (.ref h), some (.int z0)]) hx hb d_path_106 rfl hl (Nat.le_of_ble_eq_true rfl) (lx_cr rfl) rfl (fun ls hl => ?_)
  refine lv_iload_n (pc := 107) (i := 1) hx hb d_path_107 rfl (lx_get hl rfl) ?_
  refine lv_if_eq (pc := 108) (tgt := 7) hx hb d_path_108 (by decide) (fun hc => ?_) (fun hc => ?_)
  · have hm := ift hc hm
    exact hK7 _ _ _ _ _ hl I hm
  · have hm := iff' hc hm
    refine lv_aload_n (pc := 111) (i := 0) hx hb d_path_111 rfl (lx_get hl rfl) ?_
    refine lv_dup (pc := 112) hx hb d_path_112 rfl ?_
    refine r_get (pc := 113) (k := 3) (index := 76) B I (by decide) mF_76 rfl rfl d_path_113 ?_
    refine lv_iconst (pc := 116) (v := 1) hx hb d_path_116 (by decide) ?_
    refine lv_iadd (pc := 117) hx hb d_path_117 ?_
    refine ob1 hm (fun S1 e2 hm => ?_)
    refine r_put (pc := 118) (k := 3) (index := 76) B hR I (by decide) mF_76 rfl rfl rfl (fun _ _ => rfl) e2 d_path_118 (fun H locs I => ?_)
    refine lv_aload_n (pc := 121) (i := 0) hx hb d_path_121 rfl (lx_get hl rfl) ?_
    refine ob1 hm (fun S4 e3 hm => ?_)
    refine r_call (pc := 122) (As := []) (rest := []) B hl rfl I (c_blanks hR e3) kw_blanks rfl (by decide) (by decide) rfl (by simp [Value.category]) d_path_122 (fun H locs I => ?_)
    refine lv_goto (pc := 125) (tgt := 7) hx hb d_path_125 (by decide) ?_
    exact hK7 _ _ _ _ _ hl I hm
def m_path_52 (N : Nat) (K7 : Int32 → rS → Option (Int32 × rS)) (S : rS) : Option (Int32 × rS) :=
  b1 (rT S 15 (S.1 20) (S.1 24)) (fun S1 => b1 (rT S1 16 (S1.1 20) (S1.1 25)) (fun S3 => b1 (rP S3 20 ((S3.1 20) + 1)) (fun S5 => b1 (m_blanks N S5) (fun S8 => b1 (m_here N S8) (fun x10 => if x10 = 46 then (m_path_106 N K7 1 S8) else (m_path_106 N K7 0 S8))))))
set_option maxRecDepth 100000 in
set_option maxHeartbeats 4000000 in
theorem w_path_52 {K7 : Int32 → rS → Option (Int32 × rS)} {S : rS} (hK7 : ∀ (y1 : Int32) (S : rS) (ls : Array Slot) (H : Heap) (locs : List Loc), lx ls [some (.ref h), some (.int y1)] → AI D vwCl b0 (rH dA h S hp0) sz s.heap H locs → K7 y1 S = some (r, S') → W p l e { frames := 3, cells := 0, slots := 0, locals := 66 } s m args below meth c H locs 0 0 (MQ below (CQ D vwCl b0 (some (.int r)) (rH dA h S' hp0) sz) args s 0 0 (fun q => b0 ≤ q)) (F0 m 7 ls [])) (B : BX p m c cb_path 2 s args (.code y_path cb_path 2 (some .boolean) :: wsA) RREF meth (some .boolean) D vwCl (tyL dA) b0 Z) (hR : RR b0 h Z) (hl : lx ls [some (.ref h), none]) (I : AI D vwCl b0 (rH dA h S hp0) sz s.heap H locs)  (hm : m_path_52 N K7  S = some (r, S')) : W p l e { frames := 3, cells := 0, slots := 0, locals := 66 } s m args below meth c H locs 0 0 (MQ below (CQ D vwCl b0 (some (.int r)) (rH dA h S' hp0) sz) args s 0 0 (fun q => b0 ≤ q)) (F0 m 52 ls []) := by
  obtain ⟨hx, hb, -⟩ := B.1
  unfold m_path_52 at hm
  refine lv_aload_n (pc := 52) (i := 0) hx hb d_path_52 rfl (lx_get hl rfl) ?_
  refine r_get (pc := 53) (k := 22) (index := 52) B I (by decide) mF_52 rfl rfl d_path_53 ?_
  refine lv_aload_n (pc := 56) (i := 0) hx hb d_path_56 rfl (lx_get hl rfl) ?_
  refine r_get (pc := 57) (k := 20) (index := 119) B I (by decide) mF_119 rfl rfl d_path_57 ?_
  refine lv_aload_n (pc := 60) (i := 0) hx hb d_path_60 rfl (lx_get hl rfl) ?_
  refine r_get (pc := 61) (k := 24) (index := 96) B I (by decide) mF_96 rfl rfl d_path_61 ?_
  refine ob1 hm (fun S1 e2 hm => ?_)
  refine r_ast (pc := 64) (j := 15) B hR I (by decide) (by decide) e2 d_path_64 (fun H locs I => ?_)
  refine lv_aload_n (pc := 65) (i := 0) hx hb d_path_65 rfl (lx_get hl rfl) ?_
  refine r_get (pc := 66) (k := 23) (index := 55) B I (by decide) mF_55 rfl rfl d_path_66 ?_
  refine lv_aload_n (pc := 69) (i := 0) hx hb d_path_69 rfl (lx_get hl rfl) ?_
  refine r_get (pc := 70) (k := 20) (index := 119) B I (by decide) mF_119 rfl rfl d_path_70 ?_
  refine lv_aload_n (pc := 73) (i := 0) hx hb d_path_73 rfl (lx_get hl rfl) ?_
  refine r_get (pc := 74) (k := 25) (index := 99) B I (by decide) mF_99 rfl rfl d_path_74 ?_
  refine ob1 hm (fun S3 e4 hm => ?_)
  refine r_ast (pc := 77) (j := 16) B hR I (by decide) (by decide) e4 d_path_77 (fun H locs I => ?_)
  refine lv_aload_n (pc := 78) (i := 0) hx hb d_path_78 rfl (lx_get hl rfl) ?_
  refine lv_dup (pc := 79) hx hb d_path_79 rfl ?_
  refine r_get (pc := 80) (k := 20) (index := 119) B I (by decide) mF_119 rfl rfl d_path_80 ?_
  refine lv_iconst (pc := 83) (v := 1) hx hb d_path_83 (by decide) ?_
  refine lv_iadd (pc := 84) hx hb d_path_84 ?_
  refine ob1 hm (fun S5 e6 hm => ?_)
  refine r_put (pc := 85) (k := 20) (index := 119) B hR I (by decide) mF_119 rfl rfl rfl (fun _ _ => rfl) e6 d_path_85 (fun H locs I => ?_)
  refine lv_aload_n (pc := 88) (i := 0) hx hb d_path_88 rfl (lx_get hl rfl) ?_
  refine ob1 hm (fun S8 e7 hm => ?_)
  refine r_call (pc := 89) (As := []) (rest := []) B hl rfl I (c_blanks hR e7) kw_blanks rfl (by decide) (by decide) rfl (by simp [Value.category]) d_path_89 (fun H locs I => ?_)
  refine lv_aload_n (pc := 92) (i := 0) hx hb d_path_92 rfl (lx_get hl rfl) ?_
  refine ob1 hm (fun x10 e9 hm => ?_)
  refine r_call (pc := 93) (As := []) (rest := []) B hl rfl I (c_here hR e9) kw_here rfl (by decide) (by decide) rfl (by simp [Value.category]) d_path_93 (fun H locs I => ?_)
  refine lv_bipush (pc := 96) (v := 46) hx hb d_path_96 (by decide) ?_
  refine lv_icmp_ne (pc := 98) (tgt := 105) hx hb d_path_98 (by decide) (fun hc => ?_) (fun hc => ?_)
  · have hm := iff' hc hm
    refine lv_iconst (pc := 105) (v := 0) hx hb d_path_105 (by decide) ?_
    exact w_path_106 hK7 B hR hl I hm
  · have hm := ift hc hm
    refine lv_iconst (pc := 101) (v := 1) hx hb d_path_101 (by decide) ?_
    refine lv_goto (pc := 102) (tgt := 106) hx hb d_path_102 (by decide) ?_
    exact w_path_106 hK7 B hR hl I hm
def m_path_7F (N : Nat) (K7 : Int32 → rS → Option (Int32 × rS)) (y1 : Int32) (S : rS) : Option (Int32 × rS) :=
  if y1 = 0 then (some (1, S)) else (b1 (rT S 14 (S.1 20) (S.1 3)) (fun S1 => b1 (m_here N S1) (fun x4 => if x4 = 34 then (b2 (m_string N S1) (fun x9 S10 => if x9 = 0 then (some (0, S10)) else (m_path_52 N K7 S10))) else (b2 (m_bare N S1) (fun x6 S7 => if x6 = 0 then (some (0, S7)) else (m_path_52 N K7 S7))))))
def m_path_7 (N : Nat) : Nat → Int32 → rS → Option (Int32 × rS)
  | 0, _, _ => none
  | k + 1, y1, S => m_path_7F N  (m_path_7 N  k) y1 S
set_option maxRecDepth 100000 in
set_option maxHeartbeats 4000000 in
theorem w_path_7F {K7 : Int32 → rS → Option (Int32 × rS)} {y1 : Int32} {S : rS} (hK7 : ∀ (y1 : Int32) (S : rS) (ls : Array Slot) (H : Heap) (locs : List Loc), lx ls [some (.ref h), some (.int y1)] → AI D vwCl b0 (rH dA h S hp0) sz s.heap H locs → K7 y1 S = some (r, S') → W p l e { frames := 3, cells := 0, slots := 0, locals := 66 } s m args below meth c H locs 0 0 (MQ below (CQ D vwCl b0 (some (.int r)) (rH dA h S' hp0) sz) args s 0 0 (fun q => b0 ≤ q)) (F0 m 7 ls [])) (B : BX p m c cb_path 2 s args (.code y_path cb_path 2 (some .boolean) :: wsA) RREF meth (some .boolean) D vwCl (tyL dA) b0 Z) (hR : RR b0 h Z) (hl : lx ls [some (.ref h), some (.int y1)]) (I : AI D vwCl b0 (rH dA h S hp0) sz s.heap H locs)  (hm : m_path_7F N  K7 y1 S = some (r, S')) : W p l e { frames := 3, cells := 0, slots := 0, locals := 66 } s m args below meth c H locs 0 0 (MQ below (CQ D vwCl b0 (some (.int r)) (rH dA h S' hp0) sz) args s 0 0 (fun q => b0 ≤ q)) (F0 m 7 ls []) := by
  obtain ⟨hx, hb, -⟩ := B.1
  unfold m_path_7F at hm
  refine lv_iload_n (pc := 7) (i := 1) hx hb d_path_7 rfl (lx_get hl rfl) ?_
  refine lv_if_eq (pc := 8) (tgt := 128) hx hb d_path_8 (by decide) (fun hc => ?_) (fun hc => ?_)
  · have hm := ift hc hm
    refine lv_iconst (pc := 128) (v := 1) hx hb d_path_128 (by decide) ?_
    cases hm
    exact q_zret (pc := 129) B I rfl (by decide) d_path_129
  · have hm := iff' hc hm
    refine lv_aload_n (pc := 11) (i := 0) hx hb d_path_11 rfl (lx_get hl rfl) ?_
    refine r_get (pc := 12) (k := 21) (index := 49) B I (by decide) mF_49 rfl rfl d_path_12 ?_
    refine lv_aload_n (pc := 15) (i := 0) hx hb d_path_15 rfl (lx_get hl rfl) ?_
    refine r_get (pc := 16) (k := 20) (index := 119) B I (by decide) mF_119 rfl rfl d_path_16 ?_
    refine lv_aload_n (pc := 19) (i := 0) hx hb d_path_19 rfl (lx_get hl rfl) ?_
    refine r_get (pc := 20) (k := 3) (index := 76) B I (by decide) mF_76 rfl rfl d_path_20 ?_
    refine ob1 hm (fun S1 e2 hm => ?_)
    refine r_ast (pc := 23) (j := 14) B hR I (by decide) (by decide) e2 d_path_23 (fun H locs I => ?_)
    refine lv_aload_n (pc := 24) (i := 0) hx hb d_path_24 rfl (lx_get hl rfl) ?_
    refine ob1 hm (fun x4 e3 hm => ?_)
    refine r_call (pc := 25) (As := []) (rest := []) B hl rfl I (c_here hR e3) kw_here rfl (by decide) (by decide) rfl (by simp [Value.category]) d_path_25 (fun H locs I => ?_)
    refine lv_bipush (pc := 28) (v := 34) hx hb d_path_28 (by decide) ?_
    refine lv_icmp_ne (pc := 30) (tgt := 43) hx hb d_path_30 (by decide) (fun hc => ?_) (fun hc => ?_)
    · have hm := iff' hc hm
      refine lv_aload_n (pc := 43) (i := 0) hx hb d_path_43 rfl (lx_get hl rfl) ?_
      refine ob2 hm (fun x6 S7 e5 hm => ?_)
      refine r_call (pc := 44) (As := []) (rest := []) B hl rfl I (c_bare hR e5) kw_bare rfl (by decide) (by decide) rfl (by simp [Value.category]) d_path_44 (fun H locs I => ?_)
      refine lv_if_ne (pc := 47) (tgt := 52) hx hb d_path_47 (by decide) (fun hc => ?_) (fun hc => ?_)
      · have hm := iff' hc hm
        exact w_path_52 hK7 B hR (lx_sub (lo' := [some (.ref h), none]) hl (by simp [lx_le])) I hm
      · have hm := ift hc hm
        refine lv_iconst (pc := 50) (v := 0) hx hb d_path_50 (by decide) ?_
        cases hm
        exact q_zret (pc := 51) B I rfl (by decide) d_path_51
    · have hm := ift hc hm
      refine lv_aload_n (pc := 33) (i := 0) hx hb d_path_33 rfl (lx_get hl rfl) ?_
      refine ob2 hm (fun x9 S10 e8 hm => ?_)
      refine r_call (pc := 34) (As := []) (rest := []) B hl rfl I (c_string hR e8) kw_string rfl (by decide) (by decide) rfl (by simp [Value.category]) d_path_34 (fun H locs I => ?_)
      refine lv_if_eq (pc := 37) (tgt := 50) hx hb d_path_37 (by decide) (fun hc => ?_) (fun hc => ?_)
      · have hm := ift hc hm
        refine lv_iconst (pc := 50) (v := 0) hx hb d_path_50 (by decide) ?_
        cases hm
        exact q_zret (pc := 51) B I rfl (by decide) d_path_51
      · have hm := iff' hc hm
        refine lv_goto (pc := 40) (tgt := 52) hx hb d_path_40 (by decide) ?_
        exact w_path_52 hK7 B hR (lx_sub (lo' := [some (.ref h), none]) hl (by simp [lx_le])) I hm
set_option maxRecDepth 100000 in
set_option maxHeartbeats 4000000 in
theorem w_path_7i (B : BX p m c cb_path 2 s args (.code y_path cb_path 2 (some .boolean) :: wsA) RREF meth (some .boolean) D vwCl (tyL dA) b0 Z) (hR : RR b0 h Z) (k : Nat) (y1 : Int32) (S : rS) (ls : Array Slot) (H : Heap) (locs : List Loc) (hl : lx ls [some (.ref h), some (.int y1)]) (I : AI D vwCl b0 (rH dA h S hp0) sz s.heap H locs)  (hm : m_path_7 N  k y1 S = some (r, S')) : W p l e { frames := 3, cells := 0, slots := 0, locals := 66 } s m args below meth c H locs 0 0 (MQ below (CQ D vwCl b0 (some (.int r)) (rH dA h S' hp0) sz) args s 0 0 (fun q => b0 ≤ q)) (F0 m 7 ls []) := by
  induction k generalizing y1 S ls H locs with
  | zero => cases hm
  | succ k ih => exact w_path_7F  (fun y1 S ls H locs hl I hm => ih y1 S ls H locs hl I hm) B hR hl I hm
theorem w_path_7 {y1 : Int32} {S : rS} (B : BX p m c cb_path 2 s args (.code y_path cb_path 2 (some .boolean) :: wsA) RREF meth (some .boolean) D vwCl (tyL dA) b0 Z) (hR : RR b0 h Z) (hl : lx ls [some (.ref h), some (.int y1)]) (I : AI D vwCl b0 (rH dA h S hp0) sz s.heap H locs)  {k : Nat} (hm : m_path_7 N  k y1 S = some (r, S')) : W p l e { frames := 3, cells := 0, slots := 0, locals := 66 } s m args below meth c H locs 0 0 (MQ below (CQ D vwCl b0 (some (.int r)) (rH dA h S' hp0) sz) args s 0 0 (fun q => b0 ≤ q)) (F0 m 7 ls []) := w_path_7i  B hR k _ S ls H locs hl I hm
def m_path (N : Nat) (S : rS) : Option (Int32 × rS) :=
  b1 (rP S 20 0) (fun S1 => m_path_7 N  N 1 S1)
set_option maxRecDepth 100000 in
set_option maxHeartbeats 4000000 in
theorem c_path {S S' : rS} {r : Int32} (hR : RR b0 h Z) (hm : m_path N  S = some (r, S')) : Ct l D vwCl (tyL dA) b0 Z y_path (.code y_path cb_path 2 (some .boolean) :: wsA) 3 66 [.ref h] (rH dA h S hp0) sz (some (.int r)) (rH dA h S' hp0) 0 0 := by
  refine ct_of (cc := cb_path) (maxL := 2) (ret := (some .boolean)) (lo0 := [some (.ref h), none]) hR.2 (by decide) rfl (by simp [lg_sl, Value.category]) rfl (by simp [lx_all, lv_args, Value.category]) ?_
  intro p e s m args below meth c ls B hnm hl I
  obtain ⟨hx, hb, -⟩ := B.1
  unfold m_path at hm
  refine lv_aload_n (pc := 0) (i := 0) hx hb d_path_0 rfl (lx_get hl rfl) ?_
  refine lv_iconst (pc := 1) (v := 0) hx hb d_path_1 (by decide) ?_
  refine ob1 hm (fun S1 e2 hm => ?_)
  refine r_put (pc := 2) (k := 20) (index := 119) B hR I (by decide) mF_119 rfl rfl rfl (fun _ _ => rfl) e2 d_path_2 (fun H locs I => ?_)
  refine lv_iconst (pc := 5) (v := 1) hx hb d_path_5 (by decide) ?_
  refine q_istore_n (pc := 6) (i := 1) (lo' := [some (.ref h), some (.int 1)]) hx hb d_path_6 rfl hl (Nat.le_of_ble_eq_true rfl) (lx_cr rfl) rfl (fun ls hl => ?_)
  exact w_path_7  B hR hl I hm
def m_isTable (N : Nat) (p1 : Int32) (S : rS) : Option Int32 :=
  b1 (rL S 3 p1) (fun x1 => if x1 ≤ 6 then (some 0) else (some 1))
set_option maxRecDepth 100000 in
set_option maxHeartbeats 4000000 in
theorem c_isTable {p1 : Int32} {S : rS} {r : Int32} (hR : RR b0 h Z) (hm : m_isTable N p1 S = some r) : Ct l D vwCl (tyL dA) b0 Z y_isTable (.code y_isTable cb_isTable 2 (some .boolean) :: wsA) 0 0 [.ref h, .int p1] (rH dA h S hp0) sz (some (.int r)) (rH dA h S hp0) 0 0 := by
  refine ct_of (cc := cb_isTable) (maxL := 2) (ret := (some .boolean)) (lo0 := [some (.ref h), some (.int p1)]) hR.2 (by decide) rfl (by simp [lg_sl, Value.category]) rfl (by simp [lx_all, lv_args, Value.category]) ?_
  intro p e s m args below meth c ls B hnm hl I
  obtain ⟨hx, hb, -⟩ := B.1
  unfold m_isTable at hm
  refine lv_aload_n (pc := 0) (i := 0) hx hb d_isTable_0 rfl (lx_get hl rfl) ?_
  refine r_get (pc := 1) (k := 7) (index := 16) B I (by decide) mF_16 rfl rfl d_isTable_1 ?_
  refine lv_iload_n (pc := 4) (i := 1) hx hb d_isTable_4 rfl (lx_get hl rfl) ?_
  refine ob1 hm (fun x1 e2 hm => ?_)
  refine r_ald (pc := 5) (j := 3) B I (by decide) (by decide) e2 d_isTable_5 ?_
  refine lv_bipush (pc := 6) (v := 6) hx hb d_isTable_6 (by decide) ?_
  refine lv_icmp_le (pc := 8) (tgt := 15) hx hb d_isTable_8 (by decide) (fun hc => ?_) (fun hc => ?_)
  · have hm := ift hc hm
    refine lv_iconst (pc := 15) (v := 0) hx hb d_isTable_15 (by decide) ?_
    cases hm
    exact q_zret (pc := 16) B I rfl (by decide) d_isTable_16
  · have hm := iff' hc hm
    refine lv_iconst (pc := 11) (v := 1) hx hb d_isTable_11 (by decide) ?_
    refine lv_goto (pc := 12) (tgt := 16) hx hb d_isTable_12 (by decide) ?_
    cases hm
    exact q_zret (pc := 16) B I rfl (by decide) d_isTable_16
def m_make_111 (N : Nat) (y2 : Int32) (y3 : Int32) (S : rS) : Option (Int32 × rS) :=
  b1 (rT S 7 y2 y3) (fun S1 => b1 (rL S1 9 y2) (fun x3 => b1 (rT S1 9 y2 (x3 + 1)) (fun S5 => some (y3, S5))))
set_option maxRecDepth 100000 in
set_option maxHeartbeats 4000000 in
theorem w_make_111 {y2 : Int32} {y3 : Int32} {S : rS} (B : BX p m c cb_make 4 s args (.code y_make cb_make 4 (some .int) :: wsA) RREF meth (some .int) D vwCl (tyL dA) b0 Z) (hR : RR b0 h Z) (hl : lx ls [some (.ref h), none, some (.int y2), some (.int y3)]) (I : AI D vwCl b0 (rH dA h S hp0) sz s.heap H locs)  (hm : m_make_111 N  y2 y3 S = some (r, S')) : W p l e { frames := 0, cells := 0, slots := 0, locals := 0 } s m args below meth c H locs 0 0 (MQ below (CQ D vwCl b0 (some (.int r)) (rH dA h S' hp0) sz) args s 0 0 (fun q => b0 ≤ q)) (F0 m 111 ls []) := by
  obtain ⟨hx, hb, -⟩ := B.1
  unfold m_make_111 at hm
  refine lv_aload_n (pc := 111) (i := 0) hx hb d_make_111 rfl (lx_get hl rfl) ?_
  refine r_get (pc := 112) (k := 11) (index := 28) B I (by decide) mF_28 rfl rfl d_make_112 ?_
  refine lv_iload_n (pc := 115) (i := 2) hx hb d_make_115 rfl (lx_get hl rfl) ?_
  refine lv_iload_n (pc := 116) (i := 3) hx hb d_make_116 rfl (lx_get hl rfl) ?_
  refine ob1 hm (fun S1 e2 hm => ?_)
  refine r_ast (pc := 117) (j := 7) B hR I (by decide) (by decide) e2 d_make_117 (fun H locs I => ?_)
  refine lv_aload_n (pc := 118) (i := 0) hx hb d_make_118 rfl (lx_get hl rfl) ?_
  refine r_get (pc := 119) (k := 13) (index := 34) B I (by decide) mF_34 rfl rfl d_make_119 ?_
  refine lv_iload_n (pc := 122) (i := 2) hx hb d_make_122 rfl (lx_get hl rfl) ?_
  refine lv_dup2_11 (pc := 123) hx hb d_make_123 rfl rfl ?_
  refine ob1 hm (fun x3 e4 hm => ?_)
  refine r_ald (pc := 124) (j := 9) B I (by decide) (by decide) e4 d_make_124 ?_
  refine lv_iconst (pc := 125) (v := 1) hx hb d_make_125 (by decide) ?_
  refine lv_iadd (pc := 126) hx hb d_make_126 ?_
  refine ob1 hm (fun S5 e6 hm => ?_)
  refine r_ast (pc := 127) (j := 9) B hR I (by decide) (by decide) e6 d_make_127 (fun H locs I => ?_)
  refine lv_iload_n (pc := 128) (i := 3) hx hb d_make_128 rfl (lx_get hl rfl) ?_
  cases hm
  exact q_iret (pc := 129) B I rfl d_make_129
def m_make (N : Nat) (p1 : Int32) (p2 : Int32) (S : rS) : Option (Int32 × rS) :=
  b1 (rL S 2 (S.1 19)) (fun x1 => b1 (rL S 2 (S.1 19)) (fun x3 => b1 (rT S 2 (S.1 19) (x3 + 1)) (fun S5 => b1 (rT S5 3 ((260 * (S.1 19)) + x1) p1) (fun S7 => b1 (rT S7 5 ((260 * (S.1 19)) + x1) p2) (fun S9 => b1 (rT S9 6 ((260 * (S.1 19)) + x1) (-1)) (fun S11 => b1 (rT S11 8 ((260 * (S.1 19)) + x1) (-1)) (fun S13 => b1 (rT S13 9 ((260 * (S.1 19)) + x1) 0) (fun S15 => b1 (rT S15 4 ((260 * (S.1 19)) + x1) 0) (fun S17 => if p2 = (-1) then (some ((260 * (S.1 19)) + x1, S17)) else (b1 (rL S17 6 p2) (fun x19 => if x19 = (-1) then (b1 (rT S17 6 p2 ((260 * (S.1 19)) + x1)) (fun S25 => m_make_111 N  p2 ((260 * (S.1 19)) + x1) S25)) else (b1 (rL S17 7 p2) (fun x21 => b1 (rT S17 8 x21 ((260 * (S.1 19)) + x1)) (fun S23 => m_make_111 N  p2 ((260 * (S.1 19)) + x1) S23))))))))))))))
set_option maxRecDepth 100000 in
set_option maxHeartbeats 4000000 in
theorem c_make {p1 : Int32} {p2 : Int32} {S S' : rS} {r : Int32} (hR : RR b0 h Z) (hm : m_make N p1 p2 S = some (r, S')) : Ct l D vwCl (tyL dA) b0 Z y_make (.code y_make cb_make 4 (some .int) :: wsA) 0 0 [.ref h, .int p1, .int p2] (rH dA h S hp0) sz (some (.int r)) (rH dA h S' hp0) 0 0 := by
  refine ct_of (cc := cb_make) (maxL := 4) (ret := (some .int)) (lo0 := [some (.ref h), some (.int p1), some (.int p2), none]) hR.2 (by decide) rfl (by simp [lg_sl, Value.category]) rfl (by simp [lx_all, lv_args, Value.category]) ?_
  intro p e s m args below meth c ls B hnm hl I
  obtain ⟨hx, hb, -⟩ := B.1
  unfold m_make at hm
  refine lv_sipush (pc := 0) (v := 260) hx hb d_make_0 (by decide) ?_
  refine lv_aload_n (pc := 3) (i := 0) hx hb d_make_3 rfl (lx_get hl rfl) ?_
  refine r_get (pc := 4) (k := 19) (index := 93) B I (by decide) mF_93 rfl rfl d_make_4 ?_
  refine lv_imul (pc := 7) hx hb d_make_7 ?_
  refine lv_aload_n (pc := 8) (i := 0) hx hb d_make_8 rfl (lx_get hl rfl) ?_
  refine r_get (pc := 9) (k := 6) (index := 13) B I (by decide) mF_13 rfl rfl d_make_9 ?_
  refine lv_aload_n (pc := 12) (i := 0) hx hb d_make_12 rfl (lx_get hl rfl) ?_
  refine r_get (pc := 13) (k := 19) (index := 93) B I (by decide) mF_93 rfl rfl d_make_13 ?_
  refine ob1 hm (fun x1 e2 hm => ?_)
  refine r_ald (pc := 16) (j := 2) B I (by decide) (by decide) e2 d_make_16 ?_
  refine lv_iadd (pc := 17) hx hb d_make_17 ?_
  refine q_istore_n (pc := 18) (i := 3) (lo' := [some (.ref h), some (.int p1), some (.int p2), some (.int ((260 * (S.1 19)) + x1))]) hx hb d_make_18 rfl hl (Nat.le_of_ble_eq_true rfl) (lx_ci rfl) rfl (fun ls hl => ?_)
  refine lv_aload_n (pc := 19) (i := 0) hx hb d_make_19 rfl (lx_get hl rfl) ?_
  refine r_get (pc := 20) (k := 6) (index := 13) B I (by decide) mF_13 rfl rfl d_make_20 ?_
  refine lv_aload_n (pc := 23) (i := 0) hx hb d_make_23 rfl (lx_get hl rfl) ?_
  refine r_get (pc := 24) (k := 19) (index := 93) B I (by decide) mF_93 rfl rfl d_make_24 ?_
  refine lv_dup2_11 (pc := 27) hx hb d_make_27 rfl rfl ?_
  refine ob1 hm (fun x3 e4 hm => ?_)
  refine r_ald (pc := 28) (j := 2) B I (by decide) (by decide) e4 d_make_28 ?_
  refine lv_iconst (pc := 29) (v := 1) hx hb d_make_29 (by decide) ?_
  refine lv_iadd (pc := 30) hx hb d_make_30 ?_
  refine ob1 hm (fun S5 e6 hm => ?_)
  refine r_ast (pc := 31) (j := 2) B hR I (by decide) (by decide) e6 d_make_31 (fun H locs I => ?_)
  refine lv_aload_n (pc := 32) (i := 0) hx hb d_make_32 rfl (lx_get hl rfl) ?_
  refine r_get (pc := 33) (k := 7) (index := 16) B I (by decide) mF_16 rfl rfl d_make_33 ?_
  refine lv_iload_n (pc := 36) (i := 3) hx hb d_make_36 rfl (lx_get hl rfl) ?_
  refine lv_iload_n (pc := 37) (i := 1) hx hb d_make_37 rfl (lx_get hl rfl) ?_
  refine ob1 hm (fun S7 e8 hm => ?_)
  refine r_ast (pc := 38) (j := 3) B hR I (by decide) (by decide) e8 d_make_38 (fun H locs I => ?_)
  refine lv_aload_n (pc := 39) (i := 0) hx hb d_make_39 rfl (lx_get hl rfl) ?_
  refine r_get (pc := 40) (k := 9) (index := 22) B I (by decide) mF_22 rfl rfl d_make_40 ?_
  refine lv_iload_n (pc := 43) (i := 3) hx hb d_make_43 rfl (lx_get hl rfl) ?_
  refine lv_iload_n (pc := 44) (i := 2) hx hb d_make_44 rfl (lx_get hl rfl) ?_
  refine ob1 hm (fun S9 e10 hm => ?_)
  refine r_ast (pc := 45) (j := 5) B hR I (by decide) (by decide) e10 d_make_45 (fun H locs I => ?_)
  refine lv_aload_n (pc := 46) (i := 0) hx hb d_make_46 rfl (lx_get hl rfl) ?_
  refine r_get (pc := 47) (k := 10) (index := 25) B I (by decide) mF_25 rfl rfl d_make_47 ?_
  refine lv_iload_n (pc := 50) (i := 3) hx hb d_make_50 rfl (lx_get hl rfl) ?_
  refine lv_iconst (pc := 51) (v := (-1)) hx hb d_make_51 (by decide) ?_
  refine ob1 hm (fun S11 e12 hm => ?_)
  refine r_ast (pc := 52) (j := 6) B hR I (by decide) (by decide) e12 d_make_52 (fun H locs I => ?_)
  refine lv_aload_n (pc := 53) (i := 0) hx hb d_make_53 rfl (lx_get hl rfl) ?_
  refine r_get (pc := 54) (k := 12) (index := 31) B I (by decide) mF_31 rfl rfl d_make_54 ?_
  refine lv_iload_n (pc := 57) (i := 3) hx hb d_make_57 rfl (lx_get hl rfl) ?_
  refine lv_iconst (pc := 58) (v := (-1)) hx hb d_make_58 (by decide) ?_
  refine ob1 hm (fun S13 e14 hm => ?_)
  refine r_ast (pc := 59) (j := 8) B hR I (by decide) (by decide) e14 d_make_59 (fun H locs I => ?_)
  refine lv_aload_n (pc := 60) (i := 0) hx hb d_make_60 rfl (lx_get hl rfl) ?_
  refine r_get (pc := 61) (k := 13) (index := 34) B I (by decide) mF_34 rfl rfl d_make_61 ?_
  refine lv_iload_n (pc := 64) (i := 3) hx hb d_make_64 rfl (lx_get hl rfl) ?_
  refine lv_iconst (pc := 65) (v := 0) hx hb d_make_65 (by decide) ?_
  refine ob1 hm (fun S15 e16 hm => ?_)
  refine r_ast (pc := 66) (j := 9) B hR I (by decide) (by decide) e16 d_make_66 (fun H locs I => ?_)
  refine lv_aload_n (pc := 67) (i := 0) hx hb d_make_67 rfl (lx_get hl rfl) ?_
  refine r_get (pc := 68) (k := 8) (index := 19) B I (by decide) mF_19 rfl rfl d_make_68 ?_
  refine lv_iload_n (pc := 71) (i := 3) hx hb d_make_71 rfl (lx_get hl rfl) ?_
  refine lv_iconst (pc := 72) (v := 0) hx hb d_make_72 (by decide) ?_
  refine ob1 hm (fun S17 e18 hm => ?_)
  refine r_ast (pc := 73) (j := 4) B hR I (by decide) (by decide) e18 d_make_73 (fun H locs I => ?_)
  refine lv_iload_n (pc := 74) (i := 2) hx hb d_make_74 rfl (lx_get hl rfl) ?_
  refine lv_iconst (pc := 75) (v := (-1)) hx hb d_make_75 (by decide) ?_
  refine lv_icmp_eq (pc := 76) (tgt := 128) hx hb d_make_76 (by decide) (fun hc => ?_) (fun hc => ?_)
  · have hm := ift hc hm
    refine lv_iload_n (pc := 128) (i := 3) hx hb d_make_128 rfl (lx_get hl rfl) ?_
    cases hm
    exact q_iret (pc := 129) B I rfl d_make_129
  · have hm := iff' hc hm
    refine lv_aload_n (pc := 79) (i := 0) hx hb d_make_79 rfl (lx_get hl rfl) ?_
    refine r_get (pc := 80) (k := 10) (index := 25) B I (by decide) mF_25 rfl rfl d_make_80 ?_
    refine lv_iload_n (pc := 83) (i := 2) hx hb d_make_83 rfl (lx_get hl rfl) ?_
    refine ob1 hm (fun x19 e20 hm => ?_)
    refine r_ald (pc := 84) (j := 6) B I (by decide) (by decide) e20 d_make_84 ?_
    refine lv_iconst (pc := 85) (v := (-1)) hx hb d_make_85 (by decide) ?_
    refine lv_icmp_ne (pc := 86) (tgt := 99) hx hb d_make_86 (by decide) (fun hc => ?_) (fun hc => ?_)
    · have hm := iff' hc hm
      refine lv_aload_n (pc := 99) (i := 0) hx hb d_make_99 rfl (lx_get hl rfl) ?_
      refine r_get (pc := 100) (k := 12) (index := 31) B I (by decide) mF_31 rfl rfl d_make_100 ?_
      refine lv_aload_n (pc := 103) (i := 0) hx hb d_make_103 rfl (lx_get hl rfl) ?_
      refine r_get (pc := 104) (k := 11) (index := 28) B I (by decide) mF_28 rfl rfl d_make_104 ?_
      refine lv_iload_n (pc := 107) (i := 2) hx hb d_make_107 rfl (lx_get hl rfl) ?_
      refine ob1 hm (fun x21 e22 hm => ?_)
      refine r_ald (pc := 108) (j := 7) B I (by decide) (by decide) e22 d_make_108 ?_
      refine lv_iload_n (pc := 109) (i := 3) hx hb d_make_109 rfl (lx_get hl rfl) ?_
      refine ob1 hm (fun S23 e24 hm => ?_)
      refine r_ast (pc := 110) (j := 8) B hR I (by decide) (by decide) e24 d_make_110 (fun H locs I => ?_)
      exact w_make_111  B hR (lx_sub (lo' := [some (.ref h), none, some (.int p2), some (.int ((260 * (S.1 19)) + x1))]) hl (by simp [lx_le])) I hm
    · have hm := ift hc hm
      refine lv_aload_n (pc := 89) (i := 0) hx hb d_make_89 rfl (lx_get hl rfl) ?_
      refine r_get (pc := 90) (k := 10) (index := 25) B I (by decide) mF_25 rfl rfl d_make_90 ?_
      refine lv_iload_n (pc := 93) (i := 2) hx hb d_make_93 rfl (lx_get hl rfl) ?_
      refine lv_iload_n (pc := 94) (i := 3) hx hb d_make_94 rfl (lx_get hl rfl) ?_
      refine ob1 hm (fun S25 e26 hm => ?_)
      refine r_ast (pc := 95) (j := 6) B hR I (by decide) (by decide) e26 d_make_95 (fun H locs I => ?_)
      refine lv_goto (pc := 96) (tgt := 111) hx hb d_make_96 (by decide) ?_
      exact w_make_111  B hR (lx_sub (lo' := [some (.ref h), none, some (.int p2), some (.int ((260 * (S.1 19)) + x1))]) hl (by simp [lx_le])) I hm
def m_named (N : Nat) (p1 : Int32) (p2 : Int32) (S : rS) : Option (Int32 × rS) :=
  b1 (rL S 15 p2) (fun x1 => b1 (rT S 10 p1 x1) (fun S3 => b1 (rL S3 16 p2) (fun x5 => b1 (rT S3 11 p1 x5) (fun S7 => some (p1, S7)))))
set_option maxRecDepth 100000 in
set_option maxHeartbeats 4000000 in
theorem c_named {p1 : Int32} {p2 : Int32} {S S' : rS} {r : Int32} (hR : RR b0 h Z) (hm : m_named N p1 p2 S = some (r, S')) : Ct l D vwCl (tyL dA) b0 Z y_named (.code y_named cb_named 3 (some .int) :: wsA) 0 0 [.ref h, .int p1, .int p2] (rH dA h S hp0) sz (some (.int r)) (rH dA h S' hp0) 0 0 := by
  refine ct_of (cc := cb_named) (maxL := 3) (ret := (some .int)) (lo0 := [some (.ref h), some (.int p1), some (.int p2)]) hR.2 (by decide) rfl (by simp [lg_sl, Value.category]) rfl (by simp [lx_all, lv_args, Value.category]) ?_
  intro p e s m args below meth c ls B hnm hl I
  obtain ⟨hx, hb, -⟩ := B.1
  unfold m_named at hm
  refine lv_aload_n (pc := 0) (i := 0) hx hb d_named_0 rfl (lx_get hl rfl) ?_
  refine r_get (pc := 1) (k := 14) (index := 37) B I (by decide) mF_37 rfl rfl d_named_1 ?_
  refine lv_iload_n (pc := 4) (i := 1) hx hb d_named_4 rfl (lx_get hl rfl) ?_
  refine lv_aload_n (pc := 5) (i := 0) hx hb d_named_5 rfl (lx_get hl rfl) ?_
  refine r_get (pc := 6) (k := 22) (index := 52) B I (by decide) mF_52 rfl rfl d_named_6 ?_
  refine lv_iload_n (pc := 9) (i := 2) hx hb d_named_9 rfl (lx_get hl rfl) ?_
  refine ob1 hm (fun x1 e2 hm => ?_)
  refine r_ald (pc := 10) (j := 15) B I (by decide) (by decide) e2 d_named_10 ?_
  refine ob1 hm (fun S3 e4 hm => ?_)
  refine r_ast (pc := 11) (j := 10) B hR I (by decide) (by decide) e4 d_named_11 (fun H locs I => ?_)
  refine lv_aload_n (pc := 12) (i := 0) hx hb d_named_12 rfl (lx_get hl rfl) ?_
  refine r_get (pc := 13) (k := 15) (index := 40) B I (by decide) mF_40 rfl rfl d_named_13 ?_
  refine lv_iload_n (pc := 16) (i := 1) hx hb d_named_16 rfl (lx_get hl rfl) ?_
  refine lv_aload_n (pc := 17) (i := 0) hx hb d_named_17 rfl (lx_get hl rfl) ?_
  refine r_get (pc := 18) (k := 23) (index := 55) B I (by decide) mF_55 rfl rfl d_named_18 ?_
  refine lv_iload_n (pc := 21) (i := 2) hx hb d_named_21 rfl (lx_get hl rfl) ?_
  refine ob1 hm (fun x5 e6 hm => ?_)
  refine r_ald (pc := 22) (j := 16) B I (by decide) (by decide) e6 d_named_22 ?_
  refine ob1 hm (fun S7 e8 hm => ?_)
  refine r_ast (pc := 23) (j := 11) B hR I (by decide) (by decide) e8 d_named_23 (fun H locs I => ?_)
  refine lv_iload_n (pc := 24) (i := 1) hx hb d_named_24 rfl (lx_get hl rfl) ?_
  cases hm
  exact q_iret (pc := 25) B I rfl d_named_25
def m_entryOf_89 (N : Nat) (K7 : Int32 → Int32 → rS → Option Int32) (K37 : Int32 → Int32 → Int32 → Int32 → rS → Option Int32) (y2 : Int32) (y3 : Int32) (y5 : Int32) (z0 : Int32) (S : rS) : Option Int32 :=
  K37 y2 y3 z0 (y5 + 1) S
set_option maxRecDepth 100000 in
set_option maxHeartbeats 4000000 in
theorem w_entryOf_89 {K7 : Int32 → Int32 → rS → Option Int32} {K37 : Int32 → Int32 → Int32 → Int32 → rS → Option Int32} {y2 : Int32} {y3 : Int32} {y5 : Int32} {z0 : Int32} {S : rS} (hK7 : ∀ (y2 : Int32) (y3 : Int32) (S : rS) (ls : Array Slot) (H : Heap) (locs : List Loc), lx ls [some (.ref h), none, some (.int y2), some (.int y3), none, none] → AI D vwCl b0 (rH dA h S hp0) sz s.heap H locs → K7 y2 y3 S = some r → W p l e { frames := 0, cells := 0, slots := 0, locals := 0 } s m args below meth c H locs 0 0 (MQ below (CQ D vwCl b0 (some (.int r)) (rH dA h S hp0) sz) args s 0 0 (fun q => b0 ≤ q)) (F0 m 7 ls [])) (hK37 : ∀ (y2 : Int32) (y3 : Int32) (y4 : Int32) (y5 : Int32) (S : rS) (ls : Array Slot) (H : Heap) (locs : List Loc), lx ls [some (.ref h), none, some (.int y2), some (.int y3), some (.int y4), some (.int y5)] → AI D vwCl b0 (rH dA h S hp0) sz s.heap H locs → K37 y2 y3 y4 y5 S = some r → W p l e { frames := 0, cells := 0, slots := 0, locals := 0 } s m args below meth c H locs 0 0 (MQ below (CQ D vwCl b0 (some (.int r)) (rH dA h S hp0) sz) args s 0 0 (fun q => b0 ≤ q)) (F0 m 37 ls [])) (B : BX p m c cb_entryOf 6 s args (.code y_entryOf cb_entryOf 6 (some .int) :: wsA) RREF meth (some .int) D vwCl (tyL dA) b0 Z) (hR : RR b0 h Z) (hl : lx ls [some (.ref h), none, some (.int y2), some (.int y3), none, some (.int y5)]) (I : AI D vwCl b0 (rH dA h S hp0) sz s.heap H locs)  (hm : m_entryOf_89 N K7 K37 y2 y3 y5 z0 S = some r) : W p l e { frames := 0, cells := 0, slots := 0, locals := 0 } s m args below meth c H locs 0 0 (MQ below (CQ D vwCl b0 (some (.int r)) (rH dA h S hp0) sz) args s 0 0 (fun q => b0 ≤ q)) (F0 m 89 ls [.int z0]) := by
  obtain ⟨hx, hb, -⟩ := B.1
  unfold m_entryOf_89 at hm
  refine q_istore (pc := 89) (i := 4) (lo' := [some (.ref h), none, some (.int y2), some (.int y3), some (.int z0), some (.int y5)]) hx hb d_entryOf_89 hl (Nat.le_of_ble_eq_true rfl) (lx_ci rfl) rfl (fun ls hl => ?_)
  refine q_iinc (pc := 91) (i := 5) (v := y5 + 1) (lo' := [some (.ref h), none, some (.int y2), some (.int y3), some (.int z0), some (.int (y5 + 1))]) hx hb d_entryOf_91 hl rfl rfl (Nat.le_of_ble_eq_true rfl) (lx_ci rfl) rfl (fun ls hl => ?_)
  refine lv_goto (pc := 94) (tgt := 37) hx hb d_entryOf_94 (by decide) ?_
  exact hK37 _ _ _ _ _ _ _ _ hl I hm
def m_entryOf_97 (N : Nat) (K7 : Int32 → Int32 → rS → Option Int32) (y2 : Int32) (y3 : Int32) (y4 : Int32) (S : rS) : Option Int32 :=
  if y4 = 0 then (b1 (rL S 8 y3) (fun x1 => K7 y2 x1 S)) else (some y3)
set_option maxRecDepth 100000 in
set_option maxHeartbeats 4000000 in
theorem w_entryOf_97 {K7 : Int32 → Int32 → rS → Option Int32} {y2 : Int32} {y3 : Int32} {y4 : Int32} {S : rS} (hK7 : ∀ (y2 : Int32) (y3 : Int32) (S : rS) (ls : Array Slot) (H : Heap) (locs : List Loc), lx ls [some (.ref h), none, some (.int y2), some (.int y3), none, none] → AI D vwCl b0 (rH dA h S hp0) sz s.heap H locs → K7 y2 y3 S = some r → W p l e { frames := 0, cells := 0, slots := 0, locals := 0 } s m args below meth c H locs 0 0 (MQ below (CQ D vwCl b0 (some (.int r)) (rH dA h S hp0) sz) args s 0 0 (fun q => b0 ≤ q)) (F0 m 7 ls [])) (B : BX p m c cb_entryOf 6 s args (.code y_entryOf cb_entryOf 6 (some .int) :: wsA) RREF meth (some .int) D vwCl (tyL dA) b0 Z) (hR : RR b0 h Z) (hl : lx ls [some (.ref h), none, some (.int y2), some (.int y3), some (.int y4), none]) (I : AI D vwCl b0 (rH dA h S hp0) sz s.heap H locs)  (hm : m_entryOf_97 N K7 y2 y3 y4 S = some r) : W p l e { frames := 0, cells := 0, slots := 0, locals := 0 } s m args below meth c H locs 0 0 (MQ below (CQ D vwCl b0 (some (.int r)) (rH dA h S hp0) sz) args s 0 0 (fun q => b0 ≤ q)) (F0 m 97 ls []) := by
  obtain ⟨hx, hb, -⟩ := B.1
  unfold m_entryOf_97 at hm
  refine lv_iload (pc := 97) (i := 4) hx hb d_entryOf_97 (lx_get hl rfl) ?_
  refine lv_if_eq (pc := 99) (tgt := 104) hx hb d_entryOf_99 (by decide) (fun hc => ?_) (fun hc => ?_)
  · have hm := ift hc hm
    refine lv_aload_n (pc := 104) (i := 0) hx hb d_entryOf_104 rfl (lx_get hl rfl) ?_
    refine r_get (pc := 105) (k := 12) (index := 31) B I (by decide) mF_31 rfl rfl d_entryOf_105 ?_
    refine lv_iload_n (pc := 108) (i := 3) hx hb d_entryOf_108 rfl (lx_get hl rfl) ?_
    refine ob1 hm (fun x1 e2 hm => ?_)
    refine r_ald (pc := 109) (j := 8) B I (by decide) (by decide) e2 d_entryOf_109 ?_
    refine q_istore_n (pc := 110) (i := 3) (lo' := [some (.ref h), none, some (.int y2), some (.int x1), some (.int y4), none]) hx hb d_entryOf_110 rfl hl (Nat.le_of_ble_eq_true rfl) (lx_ci rfl) rfl (fun ls hl => ?_)
    refine lv_goto (pc := 111) (tgt := 7) hx hb d_entryOf_111 (by decide) ?_
    exact hK7 _ _ _ _ _ _ (lx_sub (lo' := [some (.ref h), none, some (.int y2), some (.int x1), none, none]) hl (by simp [lx_le])) I hm
  · have hm := iff' hc hm
    refine lv_iload_n (pc := 102) (i := 3) hx hb d_entryOf_102 rfl (lx_get hl rfl) ?_
    cases hm
    exact q_iret (pc := 103) B I rfl d_entryOf_103
def m_entryOf_37F (N : Nat) (K7 : Int32 → Int32 → rS → Option Int32) (K37 : Int32 → Int32 → Int32 → Int32 → rS → Option Int32) (y2 : Int32) (y3 : Int32) (y4 : Int32) (y5 : Int32) (S : rS) : Option Int32 :=
  b1 (rL S 16 y2) (fun x1 => if x1 ≤ y5 then (m_entryOf_97 N K7 y2 y3 y4 S) else (if y4 = 0 then (m_entryOf_97 N K7 y2 y3 y4 S) else (b1 (rL S 10 y3) (fun x3 => b1 (rL S 13 (x3 + y5)) (fun x5 => b1 (rL S 15 y2) (fun x7 => b1 (rL S 13 (x7 + y5)) (fun x9 => if x5 = x9 then (m_entryOf_89 N K7 K37 y2 y3 y5 1 S) else (m_entryOf_89 N K7 K37 y2 y3 y5 0 S))))))))
def m_entryOf_37 (N : Nat) (K7 : Int32 → Int32 → rS → Option Int32) : Nat → Int32 → Int32 → Int32 → Int32 → rS → Option Int32
  | 0, _, _, _, _, _ => none
  | k + 1, y2, y3, y4, y5, S => m_entryOf_37F N K7 (m_entryOf_37 N K7 k) y2 y3 y4 y5 S
set_option maxRecDepth 100000 in
set_option maxHeartbeats 4000000 in
theorem w_entryOf_37F {K7 : Int32 → Int32 → rS → Option Int32} {K37 : Int32 → Int32 → Int32 → Int32 → rS → Option Int32} {y2 : Int32} {y3 : Int32} {y4 : Int32} {y5 : Int32} {S : rS} (hK7 : ∀ (y2 : Int32) (y3 : Int32) (S : rS) (ls : Array Slot) (H : Heap) (locs : List Loc), lx ls [some (.ref h), none, some (.int y2), some (.int y3), none, none] → AI D vwCl b0 (rH dA h S hp0) sz s.heap H locs → K7 y2 y3 S = some r → W p l e { frames := 0, cells := 0, slots := 0, locals := 0 } s m args below meth c H locs 0 0 (MQ below (CQ D vwCl b0 (some (.int r)) (rH dA h S hp0) sz) args s 0 0 (fun q => b0 ≤ q)) (F0 m 7 ls [])) (hK37 : ∀ (y2 : Int32) (y3 : Int32) (y4 : Int32) (y5 : Int32) (S : rS) (ls : Array Slot) (H : Heap) (locs : List Loc), lx ls [some (.ref h), none, some (.int y2), some (.int y3), some (.int y4), some (.int y5)] → AI D vwCl b0 (rH dA h S hp0) sz s.heap H locs → K37 y2 y3 y4 y5 S = some r → W p l e { frames := 0, cells := 0, slots := 0, locals := 0 } s m args below meth c H locs 0 0 (MQ below (CQ D vwCl b0 (some (.int r)) (rH dA h S hp0) sz) args s 0 0 (fun q => b0 ≤ q)) (F0 m 37 ls [])) (B : BX p m c cb_entryOf 6 s args (.code y_entryOf cb_entryOf 6 (some .int) :: wsA) RREF meth (some .int) D vwCl (tyL dA) b0 Z) (hR : RR b0 h Z) (hl : lx ls [some (.ref h), none, some (.int y2), some (.int y3), some (.int y4), some (.int y5)]) (I : AI D vwCl b0 (rH dA h S hp0) sz s.heap H locs)  (hm : m_entryOf_37F N K7 K37 y2 y3 y4 y5 S = some r) : W p l e { frames := 0, cells := 0, slots := 0, locals := 0 } s m args below meth c H locs 0 0 (MQ below (CQ D vwCl b0 (some (.int r)) (rH dA h S hp0) sz) args s 0 0 (fun q => b0 ≤ q)) (F0 m 37 ls []) := by
  obtain ⟨hx, hb, -⟩ := B.1
  unfold m_entryOf_37F at hm
  refine lv_iload (pc := 37) (i := 5) hx hb d_entryOf_37 (lx_get hl rfl) ?_
  refine lv_aload_n (pc := 39) (i := 0) hx hb d_entryOf_39 rfl (lx_get hl rfl) ?_
  refine r_get (pc := 40) (k := 23) (index := 55) B I (by decide) mF_55 rfl rfl d_entryOf_40 ?_
  refine lv_iload_n (pc := 43) (i := 2) hx hb d_entryOf_43 rfl (lx_get hl rfl) ?_
  refine ob1 hm (fun x1 e2 hm => ?_)
  refine r_ald (pc := 44) (j := 16) B I (by decide) (by decide) e2 d_entryOf_44 ?_
  refine lv_icmp_ge (pc := 45) (tgt := 97) hx hb d_entryOf_45 (by decide) (fun hc => ?_) (fun hc => ?_)
  · have hm := ift hc hm
    exact w_entryOf_97 hK7 B hR (lx_sub (lo' := [some (.ref h), none, some (.int y2), some (.int y3), some (.int y4), none]) hl (by simp [lx_le])) I hm
  · have hm := iff' hc hm
    refine lv_iload (pc := 48) (i := 4) hx hb d_entryOf_48 (lx_get hl rfl) ?_
    refine lv_if_eq (pc := 50) (tgt := 97) hx hb d_entryOf_50 (by decide) (fun hc => ?_) (fun hc => ?_)
    · have hm := ift hc hm
      exact w_entryOf_97 hK7 B hR (lx_sub (lo' := [some (.ref h), none, some (.int y2), some (.int y3), some (.int y4), none]) hl (by simp [lx_le])) I hm
    · have hm := iff' hc hm
      refine lv_aload_n (pc := 53) (i := 0) hx hb d_entryOf_53 rfl (lx_get hl rfl) ?_
      refine r_get (pc := 54) (k := 17) (index := 46) B I (by decide) mF_46 rfl rfl d_entryOf_54 ?_
      refine lv_aload_n (pc := 57) (i := 0) hx hb d_entryOf_57 rfl (lx_get hl rfl) ?_
      refine r_get (pc := 58) (k := 14) (index := 37) B I (by decide) mF_37 rfl rfl d_entryOf_58 ?_
      refine lv_iload_n (pc := 61) (i := 3) hx hb d_entryOf_61 rfl (lx_get hl rfl) ?_
      refine ob1 hm (fun x3 e4 hm => ?_)
      refine r_ald (pc := 62) (j := 10) B I (by decide) (by decide) e4 d_entryOf_62 ?_
      refine lv_iload (pc := 63) (i := 5) hx hb d_entryOf_63 (lx_get hl rfl) ?_
      refine lv_iadd (pc := 65) hx hb d_entryOf_65 ?_
      refine ob1 hm (fun x5 e6 hm => ?_)
      refine r_ald (pc := 66) (j := 13) B I (by decide) (by decide) e6 d_entryOf_66 ?_
      refine lv_aload_n (pc := 67) (i := 0) hx hb d_entryOf_67 rfl (lx_get hl rfl) ?_
      refine r_get (pc := 68) (k := 17) (index := 46) B I (by decide) mF_46 rfl rfl d_entryOf_68 ?_
      refine lv_aload_n (pc := 71) (i := 0) hx hb d_entryOf_71 rfl (lx_get hl rfl) ?_
      refine r_get (pc := 72) (k := 22) (index := 52) B I (by decide) mF_52 rfl rfl d_entryOf_72 ?_
      refine lv_iload_n (pc := 75) (i := 2) hx hb d_entryOf_75 rfl (lx_get hl rfl) ?_
      refine ob1 hm (fun x7 e8 hm => ?_)
      refine r_ald (pc := 76) (j := 15) B I (by decide) (by decide) e8 d_entryOf_76 ?_
      refine lv_iload (pc := 77) (i := 5) hx hb d_entryOf_77 (lx_get hl rfl) ?_
      refine lv_iadd (pc := 79) hx hb d_entryOf_79 ?_
      refine ob1 hm (fun x9 e10 hm => ?_)
      refine r_ald (pc := 80) (j := 13) B I (by decide) (by decide) e10 d_entryOf_80 ?_
      refine lv_icmp_ne (pc := 81) (tgt := 88) hx hb d_entryOf_81 (by decide) (fun hc => ?_) (fun hc => ?_)
      · have hm := iff' hc hm
        refine lv_iconst (pc := 88) (v := 0) hx hb d_entryOf_88 (by decide) ?_
        exact w_entryOf_89 hK7 hK37 B hR (lx_sub (lo' := [some (.ref h), none, some (.int y2), some (.int y3), none, some (.int y5)]) hl (by simp [lx_le])) I hm
      · have hm := ift hc hm
        refine lv_iconst (pc := 84) (v := 1) hx hb d_entryOf_84 (by decide) ?_
        refine lv_goto (pc := 85) (tgt := 89) hx hb d_entryOf_85 (by decide) ?_
        exact w_entryOf_89 hK7 hK37 B hR (lx_sub (lo' := [some (.ref h), none, some (.int y2), some (.int y3), none, some (.int y5)]) hl (by simp [lx_le])) I hm
set_option maxRecDepth 100000 in
set_option maxHeartbeats 4000000 in
theorem w_entryOf_37i {K7 : Int32 → Int32 → rS → Option Int32} (hK7 : ∀ (y2 : Int32) (y3 : Int32) (S : rS) (ls : Array Slot) (H : Heap) (locs : List Loc), lx ls [some (.ref h), none, some (.int y2), some (.int y3), none, none] → AI D vwCl b0 (rH dA h S hp0) sz s.heap H locs → K7 y2 y3 S = some r → W p l e { frames := 0, cells := 0, slots := 0, locals := 0 } s m args below meth c H locs 0 0 (MQ below (CQ D vwCl b0 (some (.int r)) (rH dA h S hp0) sz) args s 0 0 (fun q => b0 ≤ q)) (F0 m 7 ls [])) (B : BX p m c cb_entryOf 6 s args (.code y_entryOf cb_entryOf 6 (some .int) :: wsA) RREF meth (some .int) D vwCl (tyL dA) b0 Z) (hR : RR b0 h Z) (k : Nat) (y2 : Int32) (y3 : Int32) (y4 : Int32) (y5 : Int32) (S : rS) (ls : Array Slot) (H : Heap) (locs : List Loc) (hl : lx ls [some (.ref h), none, some (.int y2), some (.int y3), some (.int y4), some (.int y5)]) (I : AI D vwCl b0 (rH dA h S hp0) sz s.heap H locs)  (hm : m_entryOf_37 N K7 k y2 y3 y4 y5 S = some r) : W p l e { frames := 0, cells := 0, slots := 0, locals := 0 } s m args below meth c H locs 0 0 (MQ below (CQ D vwCl b0 (some (.int r)) (rH dA h S hp0) sz) args s 0 0 (fun q => b0 ≤ q)) (F0 m 37 ls []) := by
  induction k generalizing y2 y3 y4 y5 S ls H locs with
  | zero => cases hm
  | succ k ih => exact w_entryOf_37F hK7 (fun y2 y3 y4 y5 S ls H locs hl I hm => ih y2 y3 y4 y5 S ls H locs hl I hm) B hR hl I hm
theorem w_entryOf_37 {K7 : Int32 → Int32 → rS → Option Int32} {y2 : Int32} {y3 : Int32} {y4 : Int32} {y5 : Int32} {S : rS} (hK7 : ∀ (y2 : Int32) (y3 : Int32) (S : rS) (ls : Array Slot) (H : Heap) (locs : List Loc), lx ls [some (.ref h), none, some (.int y2), some (.int y3), none, none] → AI D vwCl b0 (rH dA h S hp0) sz s.heap H locs → K7 y2 y3 S = some r → W p l e { frames := 0, cells := 0, slots := 0, locals := 0 } s m args below meth c H locs 0 0 (MQ below (CQ D vwCl b0 (some (.int r)) (rH dA h S hp0) sz) args s 0 0 (fun q => b0 ≤ q)) (F0 m 7 ls [])) (B : BX p m c cb_entryOf 6 s args (.code y_entryOf cb_entryOf 6 (some .int) :: wsA) RREF meth (some .int) D vwCl (tyL dA) b0 Z) (hR : RR b0 h Z) (hl : lx ls [some (.ref h), none, some (.int y2), some (.int y3), some (.int y4), some (.int y5)]) (I : AI D vwCl b0 (rH dA h S hp0) sz s.heap H locs)  {k : Nat} (hm : m_entryOf_37 N K7 k y2 y3 y4 y5 S = some r) : W p l e { frames := 0, cells := 0, slots := 0, locals := 0 } s m args below meth c H locs 0 0 (MQ below (CQ D vwCl b0 (some (.int r)) (rH dA h S hp0) sz) args s 0 0 (fun q => b0 ≤ q)) (F0 m 37 ls []) := w_entryOf_37i hK7 B hR k _ _ _ _ S ls H locs hl I hm
def m_entryOf_32 (N : Nat) (K7 : Int32 → Int32 → rS → Option Int32) (y2 : Int32) (y3 : Int32) (z0 : Int32) (S : rS) : Option Int32 :=
  m_entryOf_37 N K7 N y2 y3 z0 0 S
set_option maxRecDepth 100000 in
set_option maxHeartbeats 4000000 in
theorem w_entryOf_32 {K7 : Int32 → Int32 → rS → Option Int32} {y2 : Int32} {y3 : Int32} {z0 : Int32} {S : rS} (hK7 : ∀ (y2 : Int32) (y3 : Int32) (S : rS) (ls : Array Slot) (H : Heap) (locs : List Loc), lx ls [some (.ref h), none, some (.int y2), some (.int y3), none, none] → AI D vwCl b0 (rH dA h S hp0) sz s.heap H locs → K7 y2 y3 S = some r → W p l e { frames := 0, cells := 0, slots := 0, locals := 0 } s m args below meth c H locs 0 0 (MQ below (CQ D vwCl b0 (some (.int r)) (rH dA h S hp0) sz) args s 0 0 (fun q => b0 ≤ q)) (F0 m 7 ls [])) (B : BX p m c cb_entryOf 6 s args (.code y_entryOf cb_entryOf 6 (some .int) :: wsA) RREF meth (some .int) D vwCl (tyL dA) b0 Z) (hR : RR b0 h Z) (hl : lx ls [some (.ref h), none, some (.int y2), some (.int y3), none, none]) (I : AI D vwCl b0 (rH dA h S hp0) sz s.heap H locs)  (hm : m_entryOf_32 N K7 y2 y3 z0 S = some r) : W p l e { frames := 0, cells := 0, slots := 0, locals := 0 } s m args below meth c H locs 0 0 (MQ below (CQ D vwCl b0 (some (.int r)) (rH dA h S hp0) sz) args s 0 0 (fun q => b0 ≤ q)) (F0 m 32 ls [.int z0]) := by
  obtain ⟨hx, hb, -⟩ := B.1
  unfold m_entryOf_32 at hm
  refine q_istore (pc := 32) (i := 4) (lo' := [some (.ref h), none, some (.int y2), some (.int y3), some (.int z0), none]) hx hb d_entryOf_32 hl (Nat.le_of_ble_eq_true rfl) (lx_ci rfl) rfl (fun ls hl => ?_)
  refine lv_iconst (pc := 34) (v := 0) hx hb d_entryOf_34 (by decide) ?_
  refine q_istore (pc := 35) (i := 5) (lo' := [some (.ref h), none, some (.int y2), some (.int y3), some (.int z0), some (.int 0)]) hx hb d_entryOf_35 hl (Nat.le_of_ble_eq_true rfl) (lx_ci rfl) rfl (fun ls hl => ?_)
  exact w_entryOf_37 hK7 B hR hl I hm
def m_entryOf_7F (N : Nat) (K7 : Int32 → Int32 → rS → Option Int32) (y2 : Int32) (y3 : Int32) (S : rS) : Option Int32 :=
  if y3 = (-1) then (some (-1)) else (b1 (rL S 11 y3) (fun x1 => b1 (rL S 16 y2) (fun x3 => if x1 = x3 then (m_entryOf_32 N K7 y2 y3 1 S) else (m_entryOf_32 N K7 y2 y3 0 S))))
def m_entryOf_7 (N : Nat) : Nat → Int32 → Int32 → rS → Option Int32
  | 0, _, _, _ => none
  | k + 1, y2, y3, S => m_entryOf_7F N  (m_entryOf_7 N  k) y2 y3 S
set_option maxRecDepth 100000 in
set_option maxHeartbeats 4000000 in
theorem w_entryOf_7F {K7 : Int32 → Int32 → rS → Option Int32} {y2 : Int32} {y3 : Int32} {S : rS} (hK7 : ∀ (y2 : Int32) (y3 : Int32) (S : rS) (ls : Array Slot) (H : Heap) (locs : List Loc), lx ls [some (.ref h), none, some (.int y2), some (.int y3), none, none] → AI D vwCl b0 (rH dA h S hp0) sz s.heap H locs → K7 y2 y3 S = some r → W p l e { frames := 0, cells := 0, slots := 0, locals := 0 } s m args below meth c H locs 0 0 (MQ below (CQ D vwCl b0 (some (.int r)) (rH dA h S hp0) sz) args s 0 0 (fun q => b0 ≤ q)) (F0 m 7 ls [])) (B : BX p m c cb_entryOf 6 s args (.code y_entryOf cb_entryOf 6 (some .int) :: wsA) RREF meth (some .int) D vwCl (tyL dA) b0 Z) (hR : RR b0 h Z) (hl : lx ls [some (.ref h), none, some (.int y2), some (.int y3), none, none]) (I : AI D vwCl b0 (rH dA h S hp0) sz s.heap H locs)  (hm : m_entryOf_7F N  K7 y2 y3 S = some r) : W p l e { frames := 0, cells := 0, slots := 0, locals := 0 } s m args below meth c H locs 0 0 (MQ below (CQ D vwCl b0 (some (.int r)) (rH dA h S hp0) sz) args s 0 0 (fun q => b0 ≤ q)) (F0 m 7 ls []) := by
  obtain ⟨hx, hb, -⟩ := B.1
  unfold m_entryOf_7F at hm
  refine lv_iload_n (pc := 7) (i := 3) hx hb d_entryOf_7 rfl (lx_get hl rfl) ?_
  refine lv_iconst (pc := 8) (v := (-1)) hx hb d_entryOf_8 (by decide) ?_
  refine lv_icmp_eq (pc := 9) (tgt := 114) hx hb d_entryOf_9 (by decide) (fun hc => ?_) (fun hc => ?_)
  · have hm := ift hc hm
    refine lv_iconst (pc := 114) (v := (-1)) hx hb d_entryOf_114 (by decide) ?_
    cases hm
    exact q_iret (pc := 115) B I rfl d_entryOf_115
  · have hm := iff' hc hm
    refine lv_aload_n (pc := 12) (i := 0) hx hb d_entryOf_12 rfl (lx_get hl rfl) ?_
    refine r_get (pc := 13) (k := 15) (index := 40) B I (by decide) mF_40 rfl rfl d_entryOf_13 ?_
    refine lv_iload_n (pc := 16) (i := 3) hx hb d_entryOf_16 rfl (lx_get hl rfl) ?_
    refine ob1 hm (fun x1 e2 hm => ?_)
    refine r_ald (pc := 17) (j := 11) B I (by decide) (by decide) e2 d_entryOf_17 ?_
    refine lv_aload_n (pc := 18) (i := 0) hx hb d_entryOf_18 rfl (lx_get hl rfl) ?_
    refine r_get (pc := 19) (k := 23) (index := 55) B I (by decide) mF_55 rfl rfl d_entryOf_19 ?_
    refine lv_iload_n (pc := 22) (i := 2) hx hb d_entryOf_22 rfl (lx_get hl rfl) ?_
    refine ob1 hm (fun x3 e4 hm => ?_)
    refine r_ald (pc := 23) (j := 16) B I (by decide) (by decide) e4 d_entryOf_23 ?_
    refine lv_icmp_ne (pc := 24) (tgt := 31) hx hb d_entryOf_24 (by decide) (fun hc => ?_) (fun hc => ?_)
    · have hm := iff' hc hm
      refine lv_iconst (pc := 31) (v := 0) hx hb d_entryOf_31 (by decide) ?_
      exact w_entryOf_32 hK7 B hR hl I hm
    · have hm := ift hc hm
      refine lv_iconst (pc := 27) (v := 1) hx hb d_entryOf_27 (by decide) ?_
      refine lv_goto (pc := 28) (tgt := 32) hx hb d_entryOf_28 (by decide) ?_
      exact w_entryOf_32 hK7 B hR hl I hm
set_option maxRecDepth 100000 in
set_option maxHeartbeats 4000000 in
theorem w_entryOf_7i (B : BX p m c cb_entryOf 6 s args (.code y_entryOf cb_entryOf 6 (some .int) :: wsA) RREF meth (some .int) D vwCl (tyL dA) b0 Z) (hR : RR b0 h Z) (k : Nat) (y2 : Int32) (y3 : Int32) (S : rS) (ls : Array Slot) (H : Heap) (locs : List Loc) (hl : lx ls [some (.ref h), none, some (.int y2), some (.int y3), none, none]) (I : AI D vwCl b0 (rH dA h S hp0) sz s.heap H locs)  (hm : m_entryOf_7 N  k y2 y3 S = some r) : W p l e { frames := 0, cells := 0, slots := 0, locals := 0 } s m args below meth c H locs 0 0 (MQ below (CQ D vwCl b0 (some (.int r)) (rH dA h S hp0) sz) args s 0 0 (fun q => b0 ≤ q)) (F0 m 7 ls []) := by
  induction k generalizing y2 y3 S ls H locs with
  | zero => cases hm
  | succ k ih => exact w_entryOf_7F  (fun y2 y3 S ls H locs hl I hm => ih y2 y3 S ls H locs hl I hm) B hR hl I hm
theorem w_entryOf_7 {y2 : Int32} {y3 : Int32} {S : rS} (B : BX p m c cb_entryOf 6 s args (.code y_entryOf cb_entryOf 6 (some .int) :: wsA) RREF meth (some .int) D vwCl (tyL dA) b0 Z) (hR : RR b0 h Z) (hl : lx ls [some (.ref h), none, some (.int y2), some (.int y3), none, none]) (I : AI D vwCl b0 (rH dA h S hp0) sz s.heap H locs)  {k : Nat} (hm : m_entryOf_7 N  k y2 y3 S = some r) : W p l e { frames := 0, cells := 0, slots := 0, locals := 0 } s m args below meth c H locs 0 0 (MQ below (CQ D vwCl b0 (some (.int r)) (rH dA h S hp0) sz) args s 0 0 (fun q => b0 ≤ q)) (F0 m 7 ls []) := w_entryOf_7i  B hR k _ _ S ls H locs hl I hm
def m_entryOf (N : Nat) (p1 : Int32) (p2 : Int32) (S : rS) : Option Int32 :=
  b1 (rL S 6 p1) (fun x1 => m_entryOf_7 N  N p2 x1 S)
set_option maxRecDepth 100000 in
set_option maxHeartbeats 4000000 in
theorem c_entryOf {p1 : Int32} {p2 : Int32} {S : rS} {r : Int32} (hR : RR b0 h Z) (hm : m_entryOf N p1 p2 S = some r) : Ct l D vwCl (tyL dA) b0 Z y_entryOf (.code y_entryOf cb_entryOf 6 (some .int) :: wsA) 0 0 [.ref h, .int p1, .int p2] (rH dA h S hp0) sz (some (.int r)) (rH dA h S hp0) 0 0 := by
  refine ct_of (cc := cb_entryOf) (maxL := 6) (ret := (some .int)) (lo0 := [some (.ref h), some (.int p1), some (.int p2), none, none, none]) hR.2 (by decide) rfl (by simp [lg_sl, Value.category]) rfl (by simp [lx_all, lv_args, Value.category]) ?_
  intro p e s m args below meth c ls B hnm hl I
  obtain ⟨hx, hb, -⟩ := B.1
  unfold m_entryOf at hm
  refine lv_aload_n (pc := 0) (i := 0) hx hb d_entryOf_0 rfl (lx_get hl rfl) ?_
  refine r_get (pc := 1) (k := 10) (index := 25) B I (by decide) mF_25 rfl rfl d_entryOf_1 ?_
  refine lv_iload_n (pc := 4) (i := 1) hx hb d_entryOf_4 rfl (lx_get hl rfl) ?_
  refine ob1 hm (fun x1 e2 hm => ?_)
  refine r_ald (pc := 5) (j := 6) B I (by decide) (by decide) e2 d_entryOf_5 ?_
  refine q_istore_n (pc := 6) (i := 3) (lo' := [some (.ref h), some (.int p1), some (.int p2), some (.int x1), none, none]) hx hb d_entryOf_6 rfl hl (Nat.le_of_ble_eq_true rfl) (lx_ci rfl) rfl (fun ls hl => ?_)
  exact w_entryOf_7  B hR (lx_sub (lo' := [some (.ref h), none, some (.int p2), some (.int x1), none, none]) hl (by simp [lx_le])) I hm
def m_leadEntry_75 (N : Nat) (K4 : Int32 → Int32 → rS → Option (Int32 × rS)) (y3 : Int32) (z0 : Int32) (S : rS) : Option (Int32 × rS) :=
  K4 z0 (y3 + 1) S
set_option maxRecDepth 100000 in
set_option maxHeartbeats 4000000 in
theorem w_leadEntry_75 {K4 : Int32 → Int32 → rS → Option (Int32 × rS)} {y3 : Int32} {z0 : Int32} {S : rS} (hK4 : ∀ (y2 : Int32) (y3 : Int32) (S : rS) (ls : Array Slot) (H : Heap) (locs : List Loc), lx ls [some (.ref h), none, some (.int y2), some (.int y3), none] → AI D vwCl b0 (rH dA h S hp0) sz s.heap H locs → K4 y2 y3 S = some (r, S') → W p l e { frames := 1, cells := 0, slots := 0, locals := 25 } s m args below meth c H locs 0 0 (MQ below (CQ D vwCl b0 (some (.int r)) (rH dA h S' hp0) sz) args s 0 0 (fun q => b0 ≤ q)) (F0 m 4 ls [])) (B : BX p m c cb_leadEntry 5 s args (.code y_leadEntry cb_leadEntry 5 (some .int) :: wsA) RREF meth (some .int) D vwCl (tyL dA) b0 Z) (hR : RR b0 h Z) (hl : lx ls [some (.ref h), none, none, some (.int y3), none]) (I : AI D vwCl b0 (rH dA h S hp0) sz s.heap H locs)  (hm : m_leadEntry_75 N K4 y3 z0 S = some (r, S')) : W p l e { frames := 1, cells := 0, slots := 0, locals := 25 } s m args below meth c H locs 0 0 (MQ below (CQ D vwCl b0 (some (.int r)) (rH dA h S' hp0) sz) args s 0 0 (fun q => b0 ≤ q)) (F0 m 75 ls [.int z0]) := by
  obtain ⟨hx, hb, -⟩ := B.1
  unfold m_leadEntry_75 at hm
  refine q_istore_n (pc := 75) (i := 2) (lo' := [some (.ref h), none, some (.int z0), some (.int y3), none]) hx hb d_leadEntry_75 rfl hl (Nat.le_of_ble_eq_true rfl) (lx_cn rfl) rfl (fun ls hl => ?_)
  refine q_iinc (pc := 76) (i := 3) (v := y3 + 1) (lo' := [some (.ref h), none, some (.int z0), some (.int (y3 + 1)), none]) hx hb d_leadEntry_76 hl rfl rfl (Nat.le_of_ble_eq_true rfl) (lx_ci rfl) rfl (fun ls hl => ?_)
  refine lv_goto (pc := 79) (tgt := 4) hx hb d_leadEntry_79 (by decide) ?_
  exact hK4 _ _ _ _ _ _ hl I hm
def m_leadEntry_52 (N : Nat) (K4 : Int32 → Int32 → rS → Option (Int32 × rS)) (y2 : Int32) (y3 : Int32) (y4 : Int32) (S : rS) : Option (Int32 × rS) :=
  if y4 = (-1) then (b2 (m_make N 9 y2 S) (fun x2 S3 => b2 (m_named N x2 y3 S3) (fun x5 S6 => m_leadEntry_75 N K4 y3 x5 S6))) else (m_leadEntry_75 N K4 y3 y4 S)
set_option maxRecDepth 100000 in
set_option maxHeartbeats 4000000 in
theorem w_leadEntry_52 {K4 : Int32 → Int32 → rS → Option (Int32 × rS)} {y2 : Int32} {y3 : Int32} {y4 : Int32} {S : rS} (hK4 : ∀ (y2 : Int32) (y3 : Int32) (S : rS) (ls : Array Slot) (H : Heap) (locs : List Loc), lx ls [some (.ref h), none, some (.int y2), some (.int y3), none] → AI D vwCl b0 (rH dA h S hp0) sz s.heap H locs → K4 y2 y3 S = some (r, S') → W p l e { frames := 1, cells := 0, slots := 0, locals := 25 } s m args below meth c H locs 0 0 (MQ below (CQ D vwCl b0 (some (.int r)) (rH dA h S' hp0) sz) args s 0 0 (fun q => b0 ≤ q)) (F0 m 4 ls [])) (B : BX p m c cb_leadEntry 5 s args (.code y_leadEntry cb_leadEntry 5 (some .int) :: wsA) RREF meth (some .int) D vwCl (tyL dA) b0 Z) (hR : RR b0 h Z) (hl : lx ls [some (.ref h), none, some (.int y2), some (.int y3), some (.int y4)]) (I : AI D vwCl b0 (rH dA h S hp0) sz s.heap H locs)  (hm : m_leadEntry_52 N K4 y2 y3 y4 S = some (r, S')) : W p l e { frames := 1, cells := 0, slots := 0, locals := 25 } s m args below meth c H locs 0 0 (MQ below (CQ D vwCl b0 (some (.int r)) (rH dA h S' hp0) sz) args s 0 0 (fun q => b0 ≤ q)) (F0 m 52 ls []) := by
  obtain ⟨hx, hb, -⟩ := B.1
  unfold m_leadEntry_52 at hm
  refine lv_iload (pc := 52) (i := 4) hx hb d_leadEntry_52 (lx_get hl rfl) ?_
  refine lv_iconst (pc := 54) (v := (-1)) hx hb d_leadEntry_54 (by decide) ?_
  refine lv_icmp_ne (pc := 55) (tgt := 73) hx hb d_leadEntry_55 (by decide) (fun hc => ?_) (fun hc => ?_)
  · have hm := iff' hc hm
    refine lv_iload (pc := 73) (i := 4) hx hb d_leadEntry_73 (lx_get hl rfl) ?_
    exact w_leadEntry_75 hK4 B hR (lx_sub (lo' := [some (.ref h), none, none, some (.int y3), none]) hl (by simp [lx_le])) I hm
  · have hm := ift hc hm
    refine lv_aload_n (pc := 58) (i := 0) hx hb d_leadEntry_58 rfl (lx_get hl rfl) ?_
    refine lv_aload_n (pc := 59) (i := 0) hx hb d_leadEntry_59 rfl (lx_get hl rfl) ?_
    refine lv_bipush (pc := 60) (v := 9) hx hb d_leadEntry_60 (by decide) ?_
    refine lv_iload_n (pc := 62) (i := 2) hx hb d_leadEntry_62 rfl (lx_get hl rfl) ?_
    refine ob2 hm (fun x2 S3 e1 hm => ?_)
    refine r_call (pc := 63) (As := [.int 9, .int y2]) (rest := [.ref h]) B hl rfl I (c_make hR e1) kw_make rfl (by decide) (by decide) rfl (by simp [Value.category]) d_leadEntry_63 (fun H locs I => ?_)
    refine lv_iload_n (pc := 66) (i := 3) hx hb d_leadEntry_66 rfl (lx_get hl rfl) ?_
    refine ob2 hm (fun x5 S6 e4 hm => ?_)
    refine r_call (pc := 67) (As := [.int x2, .int y3]) (rest := []) B hl rfl I (c_named hR e4) kw_named rfl (by decide) (by decide) rfl (by simp [Value.category]) d_leadEntry_67 (fun H locs I => ?_)
    refine lv_goto (pc := 70) (tgt := 75) hx hb d_leadEntry_70 (by decide) ?_
    exact w_leadEntry_75 hK4 B hR (lx_sub (lo' := [some (.ref h), none, none, some (.int y3), none]) hl (by simp [lx_le])) I hm
def m_leadEntry_4F (N : Nat) (K4 : Int32 → Int32 → rS → Option (Int32 × rS)) (y2 : Int32) (y3 : Int32) (S : rS) : Option (Int32 × rS) :=
  if (S.1 20) - 1 ≤ y3 then (b1 (m_entryOf N y2 ((S.1 20) - 1) S) (fun x2 => if x2 = (-1) then (some (y2, S)) else (b1 (rL S 14 ((S.1 20) - 1)) (fun x3 => b1 (rP S 4 x3) (fun S5 => some ((-1), S5)))))) else (b1 (m_entryOf N y2 y3 S) (fun x8 => if x8 = (-1) then (m_leadEntry_52 N K4 y2 y3 x8 S) else (b1 (rL S 3 x8) (fun x9 => if x9 = 9 then (m_leadEntry_52 N K4 y2 y3 x8 S) else (b1 (rL S 14 y3) (fun x11 => b1 (rP S 4 x11) (fun S13 => some ((-1), S13))))))))
def m_leadEntry_4 (N : Nat) : Nat → Int32 → Int32 → rS → Option (Int32 × rS)
  | 0, _, _, _ => none
  | k + 1, y2, y3, S => m_leadEntry_4F N  (m_leadEntry_4 N  k) y2 y3 S
set_option maxRecDepth 100000 in
set_option maxHeartbeats 4000000 in
theorem w_leadEntry_4F {K4 : Int32 → Int32 → rS → Option (Int32 × rS)} {y2 : Int32} {y3 : Int32} {S : rS} (hK4 : ∀ (y2 : Int32) (y3 : Int32) (S : rS) (ls : Array Slot) (H : Heap) (locs : List Loc), lx ls [some (.ref h), none, some (.int y2), some (.int y3), none] → AI D vwCl b0 (rH dA h S hp0) sz s.heap H locs → K4 y2 y3 S = some (r, S') → W p l e { frames := 1, cells := 0, slots := 0, locals := 25 } s m args below meth c H locs 0 0 (MQ below (CQ D vwCl b0 (some (.int r)) (rH dA h S' hp0) sz) args s 0 0 (fun q => b0 ≤ q)) (F0 m 4 ls [])) (B : BX p m c cb_leadEntry 5 s args (.code y_leadEntry cb_leadEntry 5 (some .int) :: wsA) RREF meth (some .int) D vwCl (tyL dA) b0 Z) (hR : RR b0 h Z) (hl : lx ls [some (.ref h), none, some (.int y2), some (.int y3), none]) (I : AI D vwCl b0 (rH dA h S hp0) sz s.heap H locs)  (hm : m_leadEntry_4F N  K4 y2 y3 S = some (r, S')) : W p l e { frames := 1, cells := 0, slots := 0, locals := 25 } s m args below meth c H locs 0 0 (MQ below (CQ D vwCl b0 (some (.int r)) (rH dA h S' hp0) sz) args s 0 0 (fun q => b0 ≤ q)) (F0 m 4 ls []) := by
  obtain ⟨hx, hb, -⟩ := B.1
  unfold m_leadEntry_4F at hm
  refine lv_iload_n (pc := 4) (i := 3) hx hb d_leadEntry_4 rfl (lx_get hl rfl) ?_
  refine lv_aload_n (pc := 5) (i := 0) hx hb d_leadEntry_5 rfl (lx_get hl rfl) ?_
  refine r_get (pc := 6) (k := 20) (index := 119) B I (by decide) mF_119 rfl rfl d_leadEntry_6 ?_
  refine lv_iconst (pc := 9) (v := 1) hx hb d_leadEntry_9 (by decide) ?_
  refine lv_isub (pc := 10) hx hb d_leadEntry_10 ?_
  refine lv_icmp_ge (pc := 11) (tgt := 82) hx hb d_leadEntry_11 (by decide) (fun hc => ?_) (fun hc => ?_)
  · have hm := ift hc hm
    refine lv_aload_n (pc := 82) (i := 0) hx hb d_leadEntry_82 rfl (lx_get hl rfl) ?_
    refine lv_iload_n (pc := 83) (i := 2) hx hb d_leadEntry_83 rfl (lx_get hl rfl) ?_
    refine lv_aload_n (pc := 84) (i := 0) hx hb d_leadEntry_84 rfl (lx_get hl rfl) ?_
    refine r_get (pc := 85) (k := 20) (index := 119) B I (by decide) mF_119 rfl rfl d_leadEntry_85 ?_
    refine lv_iconst (pc := 88) (v := 1) hx hb d_leadEntry_88 (by decide) ?_
    refine lv_isub (pc := 89) hx hb d_leadEntry_89 ?_
    refine ob1 hm (fun x2 e1 hm => ?_)
    refine r_call (pc := 90) (As := [.int y2, .int ((S.1 20) - 1)]) (rest := []) B hl rfl I (c_entryOf hR e1) kw_entryOf rfl (by decide) (by decide) rfl (by simp [Value.category]) d_leadEntry_90 (fun H locs I => ?_)
    refine lv_iconst (pc := 93) (v := (-1)) hx hb d_leadEntry_93 (by decide) ?_
    refine lv_icmp_eq (pc := 94) (tgt := 114) hx hb d_leadEntry_94 (by decide) (fun hc => ?_) (fun hc => ?_)
    · have hm := ift hc hm
      refine lv_iload_n (pc := 114) (i := 2) hx hb d_leadEntry_114 rfl (lx_get hl rfl) ?_
      cases hm
      exact q_iret (pc := 115) B I rfl d_leadEntry_115
    · have hm := iff' hc hm
      refine lv_aload_n (pc := 97) (i := 0) hx hb d_leadEntry_97 rfl (lx_get hl rfl) ?_
      refine lv_aload_n (pc := 98) (i := 0) hx hb d_leadEntry_98 rfl (lx_get hl rfl) ?_
      refine r_get (pc := 99) (k := 21) (index := 49) B I (by decide) mF_49 rfl rfl d_leadEntry_99 ?_
      refine lv_aload_n (pc := 102) (i := 0) hx hb d_leadEntry_102 rfl (lx_get hl rfl) ?_
      refine r_get (pc := 103) (k := 20) (index := 119) B I (by decide) mF_119 rfl rfl d_leadEntry_103 ?_
      refine lv_iconst (pc := 106) (v := 1) hx hb d_leadEntry_106 (by decide) ?_
      refine lv_isub (pc := 107) hx hb d_leadEntry_107 ?_
      refine ob1 hm (fun x3 e4 hm => ?_)
      refine r_ald (pc := 108) (j := 14) B I (by decide) (by decide) e4 d_leadEntry_108 ?_
      refine ob1 hm (fun S5 e6 hm => ?_)
      refine r_put (pc := 109) (k := 4) (index := 79) B hR I (by decide) mF_79 rfl rfl rfl (fun _ _ => rfl) e6 d_leadEntry_109 (fun H locs I => ?_)
      refine lv_iconst (pc := 112) (v := (-1)) hx hb d_leadEntry_112 (by decide) ?_
      cases hm
      exact q_iret (pc := 113) B I rfl d_leadEntry_113
  · have hm := iff' hc hm
    refine lv_aload_n (pc := 14) (i := 0) hx hb d_leadEntry_14 rfl (lx_get hl rfl) ?_
    refine lv_iload_n (pc := 15) (i := 2) hx hb d_leadEntry_15 rfl (lx_get hl rfl) ?_
    refine lv_iload_n (pc := 16) (i := 3) hx hb d_leadEntry_16 rfl (lx_get hl rfl) ?_
    refine ob1 hm (fun x8 e7 hm => ?_)
    refine r_call (pc := 17) (As := [.int y2, .int y3]) (rest := []) B hl rfl I (c_entryOf hR e7) kw_entryOf rfl (by decide) (by decide) rfl (by simp [Value.category]) d_leadEntry_17 (fun H locs I => ?_)
    refine q_istore (pc := 20) (i := 4) (lo' := [some (.ref h), none, some (.int y2), some (.int y3), some (.int x8)]) hx hb d_leadEntry_20 hl (Nat.le_of_ble_eq_true rfl) (lx_ci rfl) rfl (fun ls hl => ?_)
    refine lv_iload (pc := 22) (i := 4) hx hb d_leadEntry_22 (lx_get hl rfl) ?_
    refine lv_iconst (pc := 24) (v := (-1)) hx hb d_leadEntry_24 (by decide) ?_
    refine lv_icmp_eq (pc := 25) (tgt := 52) hx hb d_leadEntry_25 (by decide) (fun hc => ?_) (fun hc => ?_)
    · have hm := ift hc hm
      exact w_leadEntry_52 hK4 B hR hl I hm
    · have hm := iff' hc hm
      refine lv_aload_n (pc := 28) (i := 0) hx hb d_leadEntry_28 rfl (lx_get hl rfl) ?_
      refine r_get (pc := 29) (k := 7) (index := 16) B I (by decide) mF_16 rfl rfl d_leadEntry_29 ?_
      refine lv_iload (pc := 32) (i := 4) hx hb d_leadEntry_32 (lx_get hl rfl) ?_
      refine ob1 hm (fun x9 e10 hm => ?_)
      refine r_ald (pc := 34) (j := 3) B I (by decide) (by decide) e10 d_leadEntry_34 ?_
      refine lv_bipush (pc := 35) (v := 9) hx hb d_leadEntry_35 (by decide) ?_
      refine lv_icmp_eq (pc := 37) (tgt := 52) hx hb d_leadEntry_37 (by decide) (fun hc => ?_) (fun hc => ?_)
      · have hm := ift hc hm
        exact w_leadEntry_52 hK4 B hR hl I hm
      · have hm := iff' hc hm
        refine lv_aload_n (pc := 40) (i := 0) hx hb d_leadEntry_40 rfl (lx_get hl rfl) ?_
        refine lv_aload_n (pc := 41) (i := 0) hx hb d_leadEntry_41 rfl (lx_get hl rfl) ?_
        refine r_get (pc := 42) (k := 21) (index := 49) B I (by decide) mF_49 rfl rfl d_leadEntry_42 ?_
        refine lv_iload_n (pc := 45) (i := 3) hx hb d_leadEntry_45 rfl (lx_get hl rfl) ?_
        refine ob1 hm (fun x11 e12 hm => ?_)
        refine r_ald (pc := 46) (j := 14) B I (by decide) (by decide) e12 d_leadEntry_46 ?_
        refine ob1 hm (fun S13 e14 hm => ?_)
        refine r_put (pc := 47) (k := 4) (index := 79) B hR I (by decide) mF_79 rfl rfl rfl (fun _ _ => rfl) e14 d_leadEntry_47 (fun H locs I => ?_)
        refine lv_iconst (pc := 50) (v := (-1)) hx hb d_leadEntry_50 (by decide) ?_
        cases hm
        exact q_iret (pc := 51) B I rfl d_leadEntry_51
set_option maxRecDepth 100000 in
set_option maxHeartbeats 4000000 in
theorem w_leadEntry_4i (B : BX p m c cb_leadEntry 5 s args (.code y_leadEntry cb_leadEntry 5 (some .int) :: wsA) RREF meth (some .int) D vwCl (tyL dA) b0 Z) (hR : RR b0 h Z) (k : Nat) (y2 : Int32) (y3 : Int32) (S : rS) (ls : Array Slot) (H : Heap) (locs : List Loc) (hl : lx ls [some (.ref h), none, some (.int y2), some (.int y3), none]) (I : AI D vwCl b0 (rH dA h S hp0) sz s.heap H locs)  (hm : m_leadEntry_4 N  k y2 y3 S = some (r, S')) : W p l e { frames := 1, cells := 0, slots := 0, locals := 25 } s m args below meth c H locs 0 0 (MQ below (CQ D vwCl b0 (some (.int r)) (rH dA h S' hp0) sz) args s 0 0 (fun q => b0 ≤ q)) (F0 m 4 ls []) := by
  induction k generalizing y2 y3 S ls H locs with
  | zero => cases hm
  | succ k ih => exact w_leadEntry_4F  (fun y2 y3 S ls H locs hl I hm => ih y2 y3 S ls H locs hl I hm) B hR hl I hm
theorem w_leadEntry_4 {y2 : Int32} {y3 : Int32} {S : rS} (B : BX p m c cb_leadEntry 5 s args (.code y_leadEntry cb_leadEntry 5 (some .int) :: wsA) RREF meth (some .int) D vwCl (tyL dA) b0 Z) (hR : RR b0 h Z) (hl : lx ls [some (.ref h), none, some (.int y2), some (.int y3), none]) (I : AI D vwCl b0 (rH dA h S hp0) sz s.heap H locs)  {k : Nat} (hm : m_leadEntry_4 N  k y2 y3 S = some (r, S')) : W p l e { frames := 1, cells := 0, slots := 0, locals := 25 } s m args below meth c H locs 0 0 (MQ below (CQ D vwCl b0 (some (.int r)) (rH dA h S' hp0) sz) args s 0 0 (fun q => b0 ≤ q)) (F0 m 4 ls []) := w_leadEntry_4i  B hR k _ _ S ls H locs hl I hm
def m_leadEntry (N : Nat) (p1 : Int32) (S : rS) : Option (Int32 × rS) :=
  m_leadEntry_4 N  N p1 0 S
set_option maxRecDepth 100000 in
set_option maxHeartbeats 4000000 in
theorem c_leadEntry {p1 : Int32} {S S' : rS} {r : Int32} (hR : RR b0 h Z) (hm : m_leadEntry N p1 S = some (r, S')) : Ct l D vwCl (tyL dA) b0 Z y_leadEntry (.code y_leadEntry cb_leadEntry 5 (some .int) :: wsA) 1 25 [.ref h, .int p1] (rH dA h S hp0) sz (some (.int r)) (rH dA h S' hp0) 0 0 := by
  refine ct_of (cc := cb_leadEntry) (maxL := 5) (ret := (some .int)) (lo0 := [some (.ref h), some (.int p1), none, none, none]) hR.2 (by decide) rfl (by simp [lg_sl, Value.category]) rfl (by simp [lx_all, lv_args, Value.category]) ?_
  intro p e s m args below meth c ls B hnm hl I
  obtain ⟨hx, hb, -⟩ := B.1
  unfold m_leadEntry at hm
  refine lv_iload_n (pc := 0) (i := 1) hx hb d_leadEntry_0 rfl (lx_get hl rfl) ?_
  refine q_istore_n (pc := 1) (i := 2) (lo' := [some (.ref h), some (.int p1), some (.int p1), none, none]) hx hb d_leadEntry_1 rfl hl (Nat.le_of_ble_eq_true rfl) (lx_ci rfl) rfl (fun ls hl => ?_)
  refine lv_iconst (pc := 2) (v := 0) hx hb d_leadEntry_2 (by decide) ?_
  refine q_istore_n (pc := 3) (i := 3) (lo' := [some (.ref h), some (.int p1), some (.int p1), some (.int 0), none]) hx hb d_leadEntry_3 rfl hl (Nat.le_of_ble_eq_true rfl) (lx_ci rfl) rfl (fun ls hl => ?_)
  exact w_leadEntry_4  B hR (lx_sub (lo' := [some (.ref h), none, some (.int p1), some (.int 0), none]) hl (by simp [lx_le])) I hm
def m_leadHeader_94 (N : Nat) (y2 : Int32) (S : rS) : Option (Int32 × rS) :=
  b1 (rL S 14 y2) (fun x1 => b1 (rP S 4 x1) (fun S3 => some ((-1), S3)))
set_option maxRecDepth 100000 in
set_option maxHeartbeats 4000000 in
theorem w_leadHeader_94 {y2 : Int32} {S : rS} (B : BX p m c cb_leadHeader 4 s args (.code y_leadHeader cb_leadHeader 4 (some .int) :: wsA) RREF meth (some .int) D vwCl (tyL dA) b0 Z) (hR : RR b0 h Z) (hl : lx ls [some (.ref h), none, some (.int y2), none]) (I : AI D vwCl b0 (rH dA h S hp0) sz s.heap H locs)  (hm : m_leadHeader_94 N  y2 S = some (r, S')) : W p l e { frames := 1, cells := 0, slots := 0, locals := 25 } s m args below meth c H locs 0 0 (MQ below (CQ D vwCl b0 (some (.int r)) (rH dA h S' hp0) sz) args s 0 0 (fun q => b0 ≤ q)) (F0 m 94 ls []) := by
  obtain ⟨hx, hb, -⟩ := B.1
  unfold m_leadHeader_94 at hm
  refine lv_aload_n (pc := 94) (i := 0) hx hb d_leadHeader_94 rfl (lx_get hl rfl) ?_
  refine lv_aload_n (pc := 95) (i := 0) hx hb d_leadHeader_95 rfl (lx_get hl rfl) ?_
  refine r_get (pc := 96) (k := 21) (index := 49) B I (by decide) mF_49 rfl rfl d_leadHeader_96 ?_
  refine lv_iload_n (pc := 99) (i := 2) hx hb d_leadHeader_99 rfl (lx_get hl rfl) ?_
  refine ob1 hm (fun x1 e2 hm => ?_)
  refine r_ald (pc := 100) (j := 14) B I (by decide) (by decide) e2 d_leadHeader_100 ?_
  refine ob1 hm (fun S3 e4 hm => ?_)
  refine r_put (pc := 101) (k := 4) (index := 79) B hR I (by decide) mF_79 rfl rfl rfl (fun _ _ => rfl) e4 d_leadHeader_101 (fun H locs I => ?_)
  refine lv_iconst (pc := 104) (v := (-1)) hx hb d_leadHeader_104 (by decide) ?_
  cases hm
  exact q_iret (pc := 105) B I rfl d_leadHeader_105
def m_leadHeader_106 (N : Nat) (K11 : Int32 → Int32 → rS → Option (Int32 × rS)) (y1 : Int32) (y2 : Int32) (S : rS) : Option (Int32 × rS) :=
  K11 y1 (y2 + 1) S
set_option maxRecDepth 100000 in
set_option maxHeartbeats 4000000 in
theorem w_leadHeader_106 {K11 : Int32 → Int32 → rS → Option (Int32 × rS)} {y1 : Int32} {y2 : Int32} {S : rS} (hK11 : ∀ (y1 : Int32) (y2 : Int32) (S : rS) (ls : Array Slot) (H : Heap) (locs : List Loc), lx ls [some (.ref h), some (.int y1), some (.int y2), none] → AI D vwCl b0 (rH dA h S hp0) sz s.heap H locs → K11 y1 y2 S = some (r, S') → W p l e { frames := 1, cells := 0, slots := 0, locals := 25 } s m args below meth c H locs 0 0 (MQ below (CQ D vwCl b0 (some (.int r)) (rH dA h S' hp0) sz) args s 0 0 (fun q => b0 ≤ q)) (F0 m 11 ls [])) (B : BX p m c cb_leadHeader 4 s args (.code y_leadHeader cb_leadHeader 4 (some .int) :: wsA) RREF meth (some .int) D vwCl (tyL dA) b0 Z) (hR : RR b0 h Z) (hl : lx ls [some (.ref h), some (.int y1), some (.int y2), none]) (I : AI D vwCl b0 (rH dA h S hp0) sz s.heap H locs)  (hm : m_leadHeader_106 N K11 y1 y2 S = some (r, S')) : W p l e { frames := 1, cells := 0, slots := 0, locals := 25 } s m args below meth c H locs 0 0 (MQ below (CQ D vwCl b0 (some (.int r)) (rH dA h S' hp0) sz) args s 0 0 (fun q => b0 ≤ q)) (F0 m 106 ls []) := by
  obtain ⟨hx, hb, -⟩ := B.1
  unfold m_leadHeader_106 at hm
  refine q_iinc (pc := 106) (i := 2) (v := y2 + 1) (lo' := [some (.ref h), some (.int y1), some (.int (y2 + 1)), none]) hx hb d_leadHeader_106 hl rfl rfl (Nat.le_of_ble_eq_true rfl) (lx_ci rfl) rfl (fun ls hl => ?_)
  refine lv_goto (pc := 109) (tgt := 11) hx hb d_leadHeader_109 (by decide) ?_
  exact hK11 _ _ _ _ _ _ hl I hm
def m_leadHeader_11F (N : Nat) (K11 : Int32 → Int32 → rS → Option (Int32 × rS)) (y1 : Int32) (y2 : Int32) (S : rS) : Option (Int32 × rS) :=
  if (S.1 20) - 1 ≤ y2 then (some (y1, S)) else (b1 (m_entryOf N y1 y2 S) (fun x2 => if x2 = (-1) then (b2 (m_make N 8 y1 S) (fun x12 S13 => b2 (m_named N x12 y2 S13) (fun x15 S16 => m_leadHeader_106 N K11 x15 y2 S16))) else (b1 (rL S 3 x2) (fun x3 => if x3 = 6 then (b1 (rL S 7 x2) (fun x9 => m_leadHeader_106 N K11 x9 y2 S)) else (b1 (m_isTable N x2 S) (fun x6 => if x6 = 0 then (m_leadHeader_94 N  y2 S) else (b1 (rL S 3 x2) (fun x7 => if x7 = 10 then (m_leadHeader_94 N  y2 S) else (m_leadHeader_106 N K11 x2 y2 S)))))))))
def m_leadHeader_11 (N : Nat) : Nat → Int32 → Int32 → rS → Option (Int32 × rS)
  | 0, _, _, _ => none
  | k + 1, y1, y2, S => m_leadHeader_11F N  (m_leadHeader_11 N  k) y1 y2 S
set_option maxRecDepth 100000 in
set_option maxHeartbeats 4000000 in
theorem w_leadHeader_11F {K11 : Int32 → Int32 → rS → Option (Int32 × rS)} {y1 : Int32} {y2 : Int32} {S : rS} (hK11 : ∀ (y1 : Int32) (y2 : Int32) (S : rS) (ls : Array Slot) (H : Heap) (locs : List Loc), lx ls [some (.ref h), some (.int y1), some (.int y2), none] → AI D vwCl b0 (rH dA h S hp0) sz s.heap H locs → K11 y1 y2 S = some (r, S') → W p l e { frames := 1, cells := 0, slots := 0, locals := 25 } s m args below meth c H locs 0 0 (MQ below (CQ D vwCl b0 (some (.int r)) (rH dA h S' hp0) sz) args s 0 0 (fun q => b0 ≤ q)) (F0 m 11 ls [])) (B : BX p m c cb_leadHeader 4 s args (.code y_leadHeader cb_leadHeader 4 (some .int) :: wsA) RREF meth (some .int) D vwCl (tyL dA) b0 Z) (hR : RR b0 h Z) (hl : lx ls [some (.ref h), some (.int y1), some (.int y2), none]) (I : AI D vwCl b0 (rH dA h S hp0) sz s.heap H locs)  (hm : m_leadHeader_11F N  K11 y1 y2 S = some (r, S')) : W p l e { frames := 1, cells := 0, slots := 0, locals := 25 } s m args below meth c H locs 0 0 (MQ below (CQ D vwCl b0 (some (.int r)) (rH dA h S' hp0) sz) args s 0 0 (fun q => b0 ≤ q)) (F0 m 11 ls []) := by
  obtain ⟨hx, hb, -⟩ := B.1
  unfold m_leadHeader_11F at hm
  refine lv_iload_n (pc := 11) (i := 2) hx hb d_leadHeader_11 rfl (lx_get hl rfl) ?_
  refine lv_aload_n (pc := 12) (i := 0) hx hb d_leadHeader_12 rfl (lx_get hl rfl) ?_
  refine r_get (pc := 13) (k := 20) (index := 119) B I (by decide) mF_119 rfl rfl d_leadHeader_13 ?_
  refine lv_iconst (pc := 16) (v := 1) hx hb d_leadHeader_16 (by decide) ?_
  refine lv_isub (pc := 17) hx hb d_leadHeader_17 ?_
  refine lv_icmp_ge (pc := 18) (tgt := 112) hx hb d_leadHeader_18 (by decide) (fun hc => ?_) (fun hc => ?_)
  · have hm := ift hc hm
    refine lv_iload_n (pc := 112) (i := 1) hx hb d_leadHeader_112 rfl (lx_get hl rfl) ?_
    cases hm
    exact q_iret (pc := 113) B I rfl d_leadHeader_113
  · have hm := iff' hc hm
    refine lv_aload_n (pc := 21) (i := 0) hx hb d_leadHeader_21 rfl (lx_get hl rfl) ?_
    refine lv_iload_n (pc := 22) (i := 1) hx hb d_leadHeader_22 rfl (lx_get hl rfl) ?_
    refine lv_iload_n (pc := 23) (i := 2) hx hb d_leadHeader_23 rfl (lx_get hl rfl) ?_
    refine ob1 hm (fun x2 e1 hm => ?_)
    refine r_call (pc := 24) (As := [.int y1, .int y2]) (rest := []) B hl rfl I (c_entryOf hR e1) kw_entryOf rfl (by decide) (by decide) rfl (by simp [Value.category]) d_leadHeader_24 (fun H locs I => ?_)
    refine q_istore_n (pc := 27) (i := 3) (lo' := [some (.ref h), some (.int y1), some (.int y2), some (.int x2)]) hx hb d_leadHeader_27 rfl hl (Nat.le_of_ble_eq_true rfl) (lx_ci rfl) rfl (fun ls hl => ?_)
    refine lv_iload_n (pc := 28) (i := 3) hx hb d_leadHeader_28 rfl (lx_get hl rfl) ?_
    refine lv_iconst (pc := 29) (v := (-1)) hx hb d_leadHeader_29 (by decide) ?_
    refine lv_icmp_ne (pc := 30) (tgt := 49) hx hb d_leadHeader_30 (by decide) (fun hc => ?_) (fun hc => ?_)
    · have hm := iff' hc hm
      refine lv_aload_n (pc := 49) (i := 0) hx hb d_leadHeader_49 rfl (lx_get hl rfl) ?_
      refine r_get (pc := 50) (k := 7) (index := 16) B I (by decide) mF_16 rfl rfl d_leadHeader_50 ?_
      refine lv_iload_n (pc := 53) (i := 3) hx hb d_leadHeader_53 rfl (lx_get hl rfl) ?_
      refine ob1 hm (fun x3 e4 hm => ?_)
      refine r_ald (pc := 54) (j := 3) B I (by decide) (by decide) e4 d_leadHeader_54 ?_
      refine lv_bipush (pc := 55) (v := 6) hx hb d_leadHeader_55 (by decide) ?_
      refine lv_icmp_ne (pc := 57) (tgt := 70) hx hb d_leadHeader_57 (by decide) (fun hc => ?_) (fun hc => ?_)
      · have hm := iff' hc hm
        refine lv_aload_n (pc := 70) (i := 0) hx hb d_leadHeader_70 rfl (lx_get hl rfl) ?_
        refine lv_iload_n (pc := 71) (i := 3) hx hb d_leadHeader_71 rfl (lx_get hl rfl) ?_
        refine ob1 hm (fun x6 e5 hm => ?_)
        refine r_call (pc := 72) (As := [.int x2]) (rest := []) B hl rfl I (c_isTable hR e5) kw_isTable rfl (by decide) (by decide) rfl (by simp [Value.category]) d_leadHeader_72 (fun H locs I => ?_)
        refine lv_if_eq (pc := 75) (tgt := 94) hx hb d_leadHeader_75 (by decide) (fun hc => ?_) (fun hc => ?_)
        · have hm := ift hc hm
          exact w_leadHeader_94  B hR (lx_sub (lo' := [some (.ref h), none, some (.int y2), none]) hl (by simp [lx_le])) I hm
        · have hm := iff' hc hm
          refine lv_aload_n (pc := 78) (i := 0) hx hb d_leadHeader_78 rfl (lx_get hl rfl) ?_
          refine r_get (pc := 79) (k := 7) (index := 16) B I (by decide) mF_16 rfl rfl d_leadHeader_79 ?_
          refine lv_iload_n (pc := 82) (i := 3) hx hb d_leadHeader_82 rfl (lx_get hl rfl) ?_
          refine ob1 hm (fun x7 e8 hm => ?_)
          refine r_ald (pc := 83) (j := 3) B I (by decide) (by decide) e8 d_leadHeader_83 ?_
          refine lv_bipush (pc := 84) (v := 10) hx hb d_leadHeader_84 (by decide) ?_
          refine lv_icmp_eq (pc := 86) (tgt := 94) hx hb d_leadHeader_86 (by decide) (fun hc => ?_) (fun hc => ?_)
          · have hm := ift hc hm
            exact w_leadHeader_94  B hR (lx_sub (lo' := [some (.ref h), none, some (.int y2), none]) hl (by simp [lx_le])) I hm
          · have hm := iff' hc hm
            refine lv_iload_n (pc := 89) (i := 3) hx hb d_leadHeader_89 rfl (lx_get hl rfl) ?_
            refine q_istore_n (pc := 90) (i := 1) (lo' := [some (.ref h), some (.int x2), some (.int y2), some (.int x2)]) hx hb d_leadHeader_90 rfl hl (Nat.le_of_ble_eq_true rfl) (lx_cr rfl) rfl (fun ls hl => ?_)
            refine lv_goto (pc := 91) (tgt := 106) hx hb d_leadHeader_91 (by decide) ?_
            exact w_leadHeader_106 hK11 B hR (lx_sub (lo' := [some (.ref h), some (.int x2), some (.int y2), none]) hl (by simp [lx_le])) I hm
      · have hm := ift hc hm
        refine lv_aload_n (pc := 60) (i := 0) hx hb d_leadHeader_60 rfl (lx_get hl rfl) ?_
        refine r_get (pc := 61) (k := 11) (index := 28) B I (by decide) mF_28 rfl rfl d_leadHeader_61 ?_
        refine lv_iload_n (pc := 64) (i := 3) hx hb d_leadHeader_64 rfl (lx_get hl rfl) ?_
        refine ob1 hm (fun x9 e10 hm => ?_)
        refine r_ald (pc := 65) (j := 7) B I (by decide) (by decide) e10 d_leadHeader_65 ?_
        refine q_istore_n (pc := 66) (i := 1) (lo' := [some (.ref h), some (.int x9), some (.int y2), some (.int x2)]) hx hb d_leadHeader_66 rfl hl (Nat.le_of_ble_eq_true rfl) (lx_cr rfl) rfl (fun ls hl => ?_)
        refine lv_goto (pc := 67) (tgt := 106) hx hb d_leadHeader_67 (by decide) ?_
        exact w_leadHeader_106 hK11 B hR (lx_sub (lo' := [some (.ref h), some (.int x9), some (.int y2), none]) hl (by simp [lx_le])) I hm
    · have hm := ift hc hm
      refine lv_aload_n (pc := 33) (i := 0) hx hb d_leadHeader_33 rfl (lx_get hl rfl) ?_
      refine lv_aload_n (pc := 34) (i := 0) hx hb d_leadHeader_34 rfl (lx_get hl rfl) ?_
      refine lv_bipush (pc := 35) (v := 8) hx hb d_leadHeader_35 (by decide) ?_
      refine lv_iload_n (pc := 37) (i := 1) hx hb d_leadHeader_37 rfl (lx_get hl rfl) ?_
      refine ob2 hm (fun x12 S13 e11 hm => ?_)
      refine r_call (pc := 38) (As := [.int 8, .int y1]) (rest := [.ref h]) B hl rfl I (c_make hR e11) kw_make rfl (by decide) (by decide) rfl (by simp [Value.category]) d_leadHeader_38 (fun H locs I => ?_)
      refine lv_iload_n (pc := 41) (i := 2) hx hb d_leadHeader_41 rfl (lx_get hl rfl) ?_
      refine ob2 hm (fun x15 S16 e14 hm => ?_)
      refine r_call (pc := 42) (As := [.int x12, .int y2]) (rest := []) B hl rfl I (c_named hR e14) kw_named rfl (by decide) (by decide) rfl (by simp [Value.category]) d_leadHeader_42 (fun H locs I => ?_)
      refine q_istore_n (pc := 45) (i := 1) (lo' := [some (.ref h), some (.int x15), some (.int y2), some (.int x2)]) hx hb d_leadHeader_45 rfl hl (Nat.le_of_ble_eq_true rfl) (lx_cr rfl) rfl (fun ls hl => ?_)
      refine lv_goto (pc := 46) (tgt := 106) hx hb d_leadHeader_46 (by decide) ?_
      exact w_leadHeader_106 hK11 B hR (lx_sub (lo' := [some (.ref h), some (.int x15), some (.int y2), none]) hl (by simp [lx_le])) I hm
set_option maxRecDepth 100000 in
set_option maxHeartbeats 4000000 in
theorem w_leadHeader_11i (B : BX p m c cb_leadHeader 4 s args (.code y_leadHeader cb_leadHeader 4 (some .int) :: wsA) RREF meth (some .int) D vwCl (tyL dA) b0 Z) (hR : RR b0 h Z) (k : Nat) (y1 : Int32) (y2 : Int32) (S : rS) (ls : Array Slot) (H : Heap) (locs : List Loc) (hl : lx ls [some (.ref h), some (.int y1), some (.int y2), none]) (I : AI D vwCl b0 (rH dA h S hp0) sz s.heap H locs)  (hm : m_leadHeader_11 N  k y1 y2 S = some (r, S')) : W p l e { frames := 1, cells := 0, slots := 0, locals := 25 } s m args below meth c H locs 0 0 (MQ below (CQ D vwCl b0 (some (.int r)) (rH dA h S' hp0) sz) args s 0 0 (fun q => b0 ≤ q)) (F0 m 11 ls []) := by
  induction k generalizing y1 y2 S ls H locs with
  | zero => cases hm
  | succ k ih => exact w_leadHeader_11F  (fun y1 y2 S ls H locs hl I hm => ih y1 y2 S ls H locs hl I hm) B hR hl I hm
theorem w_leadHeader_11 {y1 : Int32} {y2 : Int32} {S : rS} (B : BX p m c cb_leadHeader 4 s args (.code y_leadHeader cb_leadHeader 4 (some .int) :: wsA) RREF meth (some .int) D vwCl (tyL dA) b0 Z) (hR : RR b0 h Z) (hl : lx ls [some (.ref h), some (.int y1), some (.int y2), none]) (I : AI D vwCl b0 (rH dA h S hp0) sz s.heap H locs)  {k : Nat} (hm : m_leadHeader_11 N  k y1 y2 S = some (r, S')) : W p l e { frames := 1, cells := 0, slots := 0, locals := 25 } s m args below meth c H locs 0 0 (MQ below (CQ D vwCl b0 (some (.int r)) (rH dA h S' hp0) sz) args s 0 0 (fun q => b0 ≤ q)) (F0 m 11 ls []) := w_leadHeader_11i  B hR k _ _ S ls H locs hl I hm
def m_leadHeader (N : Nat) (S : rS) : Option (Int32 × rS) :=
  m_leadHeader_11 N  N (260 * (S.1 19)) 0 S
set_option maxRecDepth 100000 in
set_option maxHeartbeats 4000000 in
theorem c_leadHeader {S S' : rS} {r : Int32} (hR : RR b0 h Z) (hm : m_leadHeader N  S = some (r, S')) : Ct l D vwCl (tyL dA) b0 Z y_leadHeader (.code y_leadHeader cb_leadHeader 4 (some .int) :: wsA) 1 25 [.ref h] (rH dA h S hp0) sz (some (.int r)) (rH dA h S' hp0) 0 0 := by
  refine ct_of (cc := cb_leadHeader) (maxL := 4) (ret := (some .int)) (lo0 := [some (.ref h), none, none, none]) hR.2 (by decide) rfl (by simp [lg_sl, Value.category]) rfl (by simp [lx_all, lv_args, Value.category]) ?_
  intro p e s m args below meth c ls B hnm hl I
  obtain ⟨hx, hb, -⟩ := B.1
  unfold m_leadHeader at hm
  refine lv_sipush (pc := 0) (v := 260) hx hb d_leadHeader_0 (by decide) ?_
  refine lv_aload_n (pc := 3) (i := 0) hx hb d_leadHeader_3 rfl (lx_get hl rfl) ?_
  refine r_get (pc := 4) (k := 19) (index := 93) B I (by decide) mF_93 rfl rfl d_leadHeader_4 ?_
  refine lv_imul (pc := 7) hx hb d_leadHeader_7 ?_
  refine q_istore_n (pc := 8) (i := 1) (lo' := [some (.ref h), some (.int (260 * (S.1 19))), none, none]) hx hb d_leadHeader_8 rfl hl (Nat.le_of_ble_eq_true rfl) (lx_cr rfl) rfl (fun ls hl => ?_)
  refine lv_iconst (pc := 9) (v := 0) hx hb d_leadHeader_9 (by decide) ?_
  refine q_istore_n (pc := 10) (i := 2) (lo' := [some (.ref h), some (.int (260 * (S.1 19))), some (.int 0), none]) hx hb d_leadHeader_10 rfl hl (Nat.le_of_ble_eq_true rfl) (lx_ci rfl) rfl (fun ls hl => ?_)
  exact w_leadHeader_11  B hR hl I hm
def m_opened_87 (N : Nat) (z1 : Int32) (z2 : Int32) (S : rS) : Option (Int32 × rS) :=
  b2 (m_make N z1 z2 S) (fun x2 S3 => some (x2, S3))
set_option maxRecDepth 100000 in
set_option maxHeartbeats 4000000 in
theorem w_opened_87 {z1 : Int32} {z2 : Int32} {S : rS} (B : BX p m c cb_opened 5 s args (.code y_opened cb_opened 5 (some .int) :: wsA) RREF meth (some .int) D vwCl (tyL dA) b0 Z) (hR : RR b0 h Z) (hl : lx ls [some (.ref h), none, none, none, none]) (I : AI D vwCl b0 (rH dA h S hp0) sz s.heap H locs)  (hm : m_opened_87 N  z1 z2 S = some (r, S')) : W p l e { frames := 2, cells := 0, slots := 0, locals := 48 } s m args below meth c H locs 0 0 (MQ below (CQ D vwCl b0 (some (.int r)) (rH dA h S' hp0) sz) args s 0 0 (fun q => b0 ≤ q)) (F0 m 87 ls [.int z2, .int z1, .ref h]) := by
  obtain ⟨hx, hb, -⟩ := B.1
  unfold m_opened_87 at hm
  refine ob2 hm (fun x2 S3 e1 hm => ?_)
  refine r_call (pc := 87) (As := [.int z1, .int z2]) (rest := []) B hl rfl I (c_make hR e1) kw_make rfl (by decide) (by decide) rfl (by simp [Value.category]) d_opened_87 (fun H locs I => ?_)
  cases hm
  exact q_iret (pc := 90) B I rfl d_opened_90
def m_opened_61 (N : Nat) (y2 : Int32) (y3 : Int32) (y4 : Int32) (S : rS) : Option (Int32 × rS) :=
  if y4 = (-1) then (b2 (m_make N 6 y2 S) (fun x2 S3 => b2 (m_named N x2 y3 S3) (fun x5 S6 => m_opened_87 N  7 x5 S6))) else (m_opened_87 N  7 y4 S)
set_option maxRecDepth 100000 in
set_option maxHeartbeats 4000000 in
theorem w_opened_61 {y2 : Int32} {y3 : Int32} {y4 : Int32} {S : rS} (B : BX p m c cb_opened 5 s args (.code y_opened cb_opened 5 (some .int) :: wsA) RREF meth (some .int) D vwCl (tyL dA) b0 Z) (hR : RR b0 h Z) (hl : lx ls [some (.ref h), none, some (.int y2), some (.int y3), some (.int y4)]) (I : AI D vwCl b0 (rH dA h S hp0) sz s.heap H locs)  (hm : m_opened_61 N  y2 y3 y4 S = some (r, S')) : W p l e { frames := 2, cells := 0, slots := 0, locals := 48 } s m args below meth c H locs 0 0 (MQ below (CQ D vwCl b0 (some (.int r)) (rH dA h S' hp0) sz) args s 0 0 (fun q => b0 ≤ q)) (F0 m 61 ls []) := by
  obtain ⟨hx, hb, -⟩ := B.1
  unfold m_opened_61 at hm
  refine lv_aload_n (pc := 61) (i := 0) hx hb d_opened_61 rfl (lx_get hl rfl) ?_
  refine lv_bipush (pc := 62) (v := 7) hx hb d_opened_62 (by decide) ?_
  refine lv_iload (pc := 64) (i := 4) hx hb d_opened_64 (lx_get hl rfl) ?_
  refine lv_iconst (pc := 66) (v := (-1)) hx hb d_opened_66 (by decide) ?_
  refine lv_icmp_ne (pc := 67) (tgt := 85) hx hb d_opened_67 (by decide) (fun hc => ?_) (fun hc => ?_)
  · have hm := iff' hc hm
    refine lv_iload (pc := 85) (i := 4) hx hb d_opened_85 (lx_get hl rfl) ?_
    exact w_opened_87  B hR (lx_sub (lo' := [some (.ref h), none, none, none, none]) hl (by simp [lx_le])) I hm
  · have hm := ift hc hm
    refine lv_aload_n (pc := 70) (i := 0) hx hb d_opened_70 rfl (lx_get hl rfl) ?_
    refine lv_aload_n (pc := 71) (i := 0) hx hb d_opened_71 rfl (lx_get hl rfl) ?_
    refine lv_bipush (pc := 72) (v := 6) hx hb d_opened_72 (by decide) ?_
    refine lv_iload_n (pc := 74) (i := 2) hx hb d_opened_74 rfl (lx_get hl rfl) ?_
    refine ob2 hm (fun x2 S3 e1 hm => ?_)
    refine r_call (pc := 75) (As := [.int 6, .int y2]) (rest := [.ref h, .int 7, .ref h]) B hl rfl I (c_make hR e1) kw_make rfl (by decide) (by decide) rfl (by simp [Value.category]) d_opened_75 (fun H locs I => ?_)
    refine lv_iload_n (pc := 78) (i := 3) hx hb d_opened_78 rfl (lx_get hl rfl) ?_
    refine ob2 hm (fun x5 S6 e4 hm => ?_)
    refine r_call (pc := 79) (As := [.int x2, .int y3]) (rest := [.int 7, .ref h]) B hl rfl I (c_named hR e4) kw_named rfl (by decide) (by decide) rfl (by simp [Value.category]) d_opened_79 (fun H locs I => ?_)
    refine lv_goto (pc := 82) (tgt := 87) hx hb d_opened_82 (by decide) ?_
    exact w_opened_87  B hR (lx_sub (lo' := [some (.ref h), none, none, none, none]) hl (by simp [lx_le])) I hm
def m_opened (N : Nat) (p1 : Int32) (S : rS) : Option (Int32 × rS) :=
  b2 (m_leadHeader N S) (fun x2 S3 => if x2 = (-1) then (some ((-1), S3)) else (b1 (m_entryOf N x2 ((S3.1 20) - 1) S3) (fun x5 => if p1 = 0 then (if x5 = (-1) then (b2 (m_make N 7 x2 S3) (fun x15 S16 => b2 (m_named N x15 ((S3.1 20) - 1) S16) (fun x18 S19 => some (x18, S19)))) else (b1 (rL S3 3 x5) (fun x6 => if x6 = 8 then (b1 (rT S3 3 x5 7) (fun S8 => some (x5, S8))) else (b1 (rL S3 14 ((S3.1 20) - 1)) (fun x10 => b1 (rP S3 4 x10) (fun S12 => some ((-1), S12))))))) else (if x5 = (-1) then (m_opened_61 N  x2 ((S3.1 20) - 1) x5 S3) else (b1 (rL S3 3 x5) (fun x20 => if x20 = 6 then (m_opened_61 N  x2 ((S3.1 20) - 1) x5 S3) else (b1 (rL S3 14 ((S3.1 20) - 1)) (fun x22 => b1 (rP S3 4 x22) (fun S24 => some ((-1), S24))))))))))
set_option maxRecDepth 100000 in
set_option maxHeartbeats 4000000 in
theorem c_opened {p1 : Int32} {S S' : rS} {r : Int32} (hR : RR b0 h Z) (hm : m_opened N p1 S = some (r, S')) : Ct l D vwCl (tyL dA) b0 Z y_opened (.code y_opened cb_opened 5 (some .int) :: wsA) 2 48 [.ref h, .int p1] (rH dA h S hp0) sz (some (.int r)) (rH dA h S' hp0) 0 0 := by
  refine ct_of (cc := cb_opened) (maxL := 5) (ret := (some .int)) (lo0 := [some (.ref h), some (.int p1), none, none, none]) hR.2 (by decide) rfl (by simp [lg_sl, Value.category]) rfl (by simp [lx_all, lv_args, Value.category]) ?_
  intro p e s m args below meth c ls B hnm hl I
  obtain ⟨hx, hb, -⟩ := B.1
  unfold m_opened at hm
  refine lv_aload_n (pc := 0) (i := 0) hx hb d_opened_0 rfl (lx_get hl rfl) ?_
  refine ob2 hm (fun x2 S3 e1 hm => ?_)
  refine r_call (pc := 1) (As := []) (rest := []) B hl rfl I (c_leadHeader hR e1) kw_leadHeader rfl (by decide) (by decide) rfl (by simp [Value.category]) d_opened_1 (fun H locs I => ?_)
  refine q_istore_n (pc := 4) (i := 2) (lo' := [some (.ref h), some (.int p1), some (.int x2), none, none]) hx hb d_opened_4 rfl hl (Nat.le_of_ble_eq_true rfl) (lx_ci rfl) rfl (fun ls hl => ?_)
  refine lv_iload_n (pc := 5) (i := 2) hx hb d_opened_5 rfl (lx_get hl rfl) ?_
  refine lv_iconst (pc := 6) (v := (-1)) hx hb d_opened_6 (by decide) ?_
  refine lv_icmp_ne (pc := 7) (tgt := 12) hx hb d_opened_7 (by decide) (fun hc => ?_) (fun hc => ?_)
  · have hm := iff' hc hm
    refine lv_aload_n (pc := 12) (i := 0) hx hb d_opened_12 rfl (lx_get hl rfl) ?_
    refine r_get (pc := 13) (k := 20) (index := 119) B I (by decide) mF_119 rfl rfl d_opened_13 ?_
    refine lv_iconst (pc := 16) (v := 1) hx hb d_opened_16 (by decide) ?_
    refine lv_isub (pc := 17) hx hb d_opened_17 ?_
    refine q_istore_n (pc := 18) (i := 3) (lo' := [some (.ref h), some (.int p1), some (.int x2), some (.int ((S3.1 20) - 1)), none]) hx hb d_opened_18 rfl hl (Nat.le_of_ble_eq_true rfl) (lx_ci rfl) rfl (fun ls hl => ?_)
    refine lv_aload_n (pc := 19) (i := 0) hx hb d_opened_19 rfl (lx_get hl rfl) ?_
    refine lv_iload_n (pc := 20) (i := 2) hx hb d_opened_20 rfl (lx_get hl rfl) ?_
    refine lv_iload_n (pc := 21) (i := 3) hx hb d_opened_21 rfl (lx_get hl rfl) ?_
    refine ob1 hm (fun x5 e4 hm => ?_)
    refine r_call (pc := 22) (As := [.int x2, .int ((S3.1 20) - 1)]) (rest := []) B hl rfl I (c_entryOf hR e4) kw_entryOf rfl (by decide) (by decide) rfl (by simp [Value.category]) d_opened_22 (fun H locs I => ?_)
    refine q_istore (pc := 25) (i := 4) (lo' := [some (.ref h), some (.int p1), some (.int x2), some (.int ((S3.1 20) - 1)), some (.int x5)]) hx hb d_opened_25 hl (Nat.le_of_ble_eq_true rfl) (lx_ci rfl) rfl (fun ls hl => ?_)
    refine lv_iload_n (pc := 27) (i := 1) hx hb d_opened_27 rfl (lx_get hl rfl) ?_
    refine lv_if_eq (pc := 28) (tgt := 91) hx hb d_opened_28 (by decide) (fun hc => ?_) (fun hc => ?_)
    · have hm := ift hc hm
      refine lv_iload (pc := 91) (i := 4) hx hb d_opened_91 (lx_get hl rfl) ?_
      refine lv_iconst (pc := 93) (v := (-1)) hx hb d_opened_93 (by decide) ?_
      refine lv_icmp_ne (pc := 94) (tgt := 110) hx hb d_opened_94 (by decide) (fun hc => ?_) (fun hc => ?_)
      · have hm := iff' hc hm
        refine lv_aload_n (pc := 110) (i := 0) hx hb d_opened_110 rfl (lx_get hl rfl) ?_
        refine r_get (pc := 111) (k := 7) (index := 16) B I (by decide) mF_16 rfl rfl d_opened_111 ?_
        refine lv_iload (pc := 114) (i := 4) hx hb d_opened_114 (lx_get hl rfl) ?_
        refine ob1 hm (fun x6 e7 hm => ?_)
        refine r_ald (pc := 116) (j := 3) B I (by decide) (by decide) e7 d_opened_116 ?_
        refine lv_bipush (pc := 117) (v := 8) hx hb d_opened_117 (by decide) ?_
        refine lv_icmp_eq (pc := 119) (tgt := 134) hx hb d_opened_119 (by decide) (fun hc => ?_) (fun hc => ?_)
        · have hm := ift hc hm
          refine lv_aload_n (pc := 134) (i := 0) hx hb d_opened_134 rfl (lx_get hl rfl) ?_
          refine r_get (pc := 135) (k := 7) (index := 16) B I (by decide) mF_16 rfl rfl d_opened_135 ?_
          refine lv_iload (pc := 138) (i := 4) hx hb d_opened_138 (lx_get hl rfl) ?_
          refine lv_bipush (pc := 140) (v := 7) hx hb d_opened_140 (by decide) ?_
          refine ob1 hm (fun S8 e9 hm => ?_)
          refine r_ast (pc := 142) (j := 3) B hR I (by decide) (by decide) e9 d_opened_142 (fun H locs I => ?_)
          refine lv_iload (pc := 143) (i := 4) hx hb d_opened_143 (lx_get hl rfl) ?_
          cases hm
          exact q_iret (pc := 145) B I rfl d_opened_145
        · have hm := iff' hc hm
          refine lv_aload_n (pc := 122) (i := 0) hx hb d_opened_122 rfl (lx_get hl rfl) ?_
          refine lv_aload_n (pc := 123) (i := 0) hx hb d_opened_123 rfl (lx_get hl rfl) ?_
          refine r_get (pc := 124) (k := 21) (index := 49) B I (by decide) mF_49 rfl rfl d_opened_124 ?_
          refine lv_iload_n (pc := 127) (i := 3) hx hb d_opened_127 rfl (lx_get hl rfl) ?_
          refine ob1 hm (fun x10 e11 hm => ?_)
          refine r_ald (pc := 128) (j := 14) B I (by decide) (by decide) e11 d_opened_128 ?_
          refine ob1 hm (fun S12 e13 hm => ?_)
          refine r_put (pc := 129) (k := 4) (index := 79) B hR I (by decide) mF_79 rfl rfl rfl (fun _ _ => rfl) e13 d_opened_129 (fun H locs I => ?_)
          refine lv_iconst (pc := 132) (v := (-1)) hx hb d_opened_132 (by decide) ?_
          cases hm
          exact q_iret (pc := 133) B I rfl d_opened_133
      · have hm := ift hc hm
        refine lv_aload_n (pc := 97) (i := 0) hx hb d_opened_97 rfl (lx_get hl rfl) ?_
        refine lv_aload_n (pc := 98) (i := 0) hx hb d_opened_98 rfl (lx_get hl rfl) ?_
        refine lv_bipush (pc := 99) (v := 7) hx hb d_opened_99 (by decide) ?_
        refine lv_iload_n (pc := 101) (i := 2) hx hb d_opened_101 rfl (lx_get hl rfl) ?_
        refine ob2 hm (fun x15 S16 e14 hm => ?_)
        refine r_call (pc := 102) (As := [.int 7, .int x2]) (rest := [.ref h]) B hl rfl I (c_make hR e14) kw_make rfl (by decide) (by decide) rfl (by simp [Value.category]) d_opened_102 (fun H locs I => ?_)
        refine lv_iload_n (pc := 105) (i := 3) hx hb d_opened_105 rfl (lx_get hl rfl) ?_
        refine ob2 hm (fun x18 S19 e17 hm => ?_)
        refine r_call (pc := 106) (As := [.int x15, .int ((S3.1 20) - 1)]) (rest := []) B hl rfl I (c_named hR e17) kw_named rfl (by decide) (by decide) rfl (by simp [Value.category]) d_opened_106 (fun H locs I => ?_)
        cases hm
        exact q_iret (pc := 109) B I rfl d_opened_109
    · have hm := iff' hc hm
      refine lv_iload (pc := 31) (i := 4) hx hb d_opened_31 (lx_get hl rfl) ?_
      refine lv_iconst (pc := 33) (v := (-1)) hx hb d_opened_33 (by decide) ?_
      refine lv_icmp_eq (pc := 34) (tgt := 61) hx hb d_opened_34 (by decide) (fun hc => ?_) (fun hc => ?_)
      · have hm := ift hc hm
        exact w_opened_61  B hR (lx_sub (lo' := [some (.ref h), none, some (.int x2), some (.int ((S3.1 20) - 1)), some (.int x5)]) hl (by simp [lx_le])) I hm
      · have hm := iff' hc hm
        refine lv_aload_n (pc := 37) (i := 0) hx hb d_opened_37 rfl (lx_get hl rfl) ?_
        refine r_get (pc := 38) (k := 7) (index := 16) B I (by decide) mF_16 rfl rfl d_opened_38 ?_
        refine lv_iload (pc := 41) (i := 4) hx hb d_opened_41 (lx_get hl rfl) ?_
        refine ob1 hm (fun x20 e21 hm => ?_)
        refine r_ald (pc := 43) (j := 3) B I (by decide) (by decide) e21 d_opened_43 ?_
        refine lv_bipush (pc := 44) (v := 6) hx hb d_opened_44 (by decide) ?_
        refine lv_icmp_eq (pc := 46) (tgt := 61) hx hb d_opened_46 (by decide) (fun hc => ?_) (fun hc => ?_)
        · have hm := ift hc hm
          exact w_opened_61  B hR (lx_sub (lo' := [some (.ref h), none, some (.int x2), some (.int ((S3.1 20) - 1)), some (.int x5)]) hl (by simp [lx_le])) I hm
        · have hm := iff' hc hm
          refine lv_aload_n (pc := 49) (i := 0) hx hb d_opened_49 rfl (lx_get hl rfl) ?_
          refine lv_aload_n (pc := 50) (i := 0) hx hb d_opened_50 rfl (lx_get hl rfl) ?_
          refine r_get (pc := 51) (k := 21) (index := 49) B I (by decide) mF_49 rfl rfl d_opened_51 ?_
          refine lv_iload_n (pc := 54) (i := 3) hx hb d_opened_54 rfl (lx_get hl rfl) ?_
          refine ob1 hm (fun x22 e23 hm => ?_)
          refine r_ald (pc := 55) (j := 14) B I (by decide) (by decide) e23 d_opened_55 ?_
          refine ob1 hm (fun S24 e25 hm => ?_)
          refine r_put (pc := 56) (k := 4) (index := 79) B hR I (by decide) mF_79 rfl rfl rfl (fun _ _ => rfl) e25 d_opened_56 (fun H locs I => ?_)
          refine lv_iconst (pc := 59) (v := (-1)) hx hb d_opened_59 (by decide) ?_
          cases hm
          exact q_iret (pc := 60) B I rfl d_opened_60
  · have hm := ift hc hm
    refine lv_iconst (pc := 10) (v := (-1)) hx hb d_opened_10 (by decide) ?_
    cases hm
    exact q_iret (pc := 11) B I rfl d_opened_11
end RW
end
section
section RW
variable {p : Program} {l : Launch} {e : Env} {s : State} {m : MethodId} {args : Array Value} {below : List Frame} {meth : Method} {c : Code} {H : Heap} {locs : List Loc}
variable {ls : Array Slot} {D : va_G} {dA : Nat → ClassId} {hp0 : aH} {sz b0 h N : Nat} {S' : rS} {r : Int32} {Z : State → Prop}
def m_digitOf (N : Nat) (p1 : Int32) (S : rS) : Option Int32 :=
  b1 (m_isDigit N p1 S) (fun x2 => if x2 = 0 then (if p1 < 97 then (some (-1)) else (if 102 < p1 then (some (-1)) else (some (p1 - 87)))) else (some (p1 - 48)))
set_option maxRecDepth 100000 in
set_option maxHeartbeats 4000000 in
theorem c_digitOf {p1 : Int32} {S : rS} {r : Int32} (hR : RR b0 h Z) (hm : m_digitOf N p1 S = some r) : Ct l D vwCl (tyL dA) b0 Z y_digitOf (.code y_digitOf cb_digitOf 2 (some .int) :: wsA) 1 21 [.ref h, .int p1] (rH dA h S hp0) sz (some (.int r)) (rH dA h S hp0) 0 0 := by
  refine ct_of (cc := cb_digitOf) (maxL := 2) (ret := (some .int)) (lo0 := [some (.ref h), some (.int p1)]) hR.2 (by decide) rfl (by simp [lg_sl, Value.category]) rfl (by simp [lx_all, lv_args, Value.category]) ?_
  intro p e s m args below meth c ls B hnm hl I
  obtain ⟨hx, hb, -⟩ := B.1
  unfold m_digitOf at hm
  refine lv_aload_n (pc := 0) (i := 0) hx hb d_digitOf_0 rfl (lx_get hl rfl) ?_
  refine lv_iload_n (pc := 1) (i := 1) hx hb d_digitOf_1 rfl (lx_get hl rfl) ?_
  refine ob1 hm (fun x2 e1 hm => ?_)
  refine r_call (pc := 2) (As := [.int p1]) (rest := []) B hl rfl I (c_isDigit hR e1) kw_isDigit rfl (by decide) (by decide) rfl (by simp [Value.category]) d_digitOf_2 (fun H locs I => ?_)
  refine lv_if_eq (pc := 5) (tgt := 15) hx hb d_digitOf_5 (by decide) (fun hc => ?_) (fun hc => ?_)
  · have hm := ift hc hm
    refine lv_iload_n (pc := 15) (i := 1) hx hb d_digitOf_15 rfl (lx_get hl rfl) ?_
    refine lv_bipush (pc := 16) (v := 97) hx hb d_digitOf_16 (by decide) ?_
    refine lv_icmp_lt (pc := 18) (tgt := 34) hx hb d_digitOf_18 (by decide) (fun hc => ?_) (fun hc => ?_)
    · have hm := ift hc hm
      refine lv_iconst (pc := 34) (v := (-1)) hx hb d_digitOf_34 (by decide) ?_
      cases hm
      exact q_iret (pc := 35) B I rfl d_digitOf_35
    · have hm := iff' hc hm
      refine lv_iload_n (pc := 21) (i := 1) hx hb d_digitOf_21 rfl (lx_get hl rfl) ?_
      refine lv_bipush (pc := 22) (v := 102) hx hb d_digitOf_22 (by decide) ?_
      refine lv_icmp_gt (pc := 24) (tgt := 34) hx hb d_digitOf_24 (by decide) (fun hc => ?_) (fun hc => ?_)
      · have hm := ift hc hm
        refine lv_iconst (pc := 34) (v := (-1)) hx hb d_digitOf_34 (by decide) ?_
        cases hm
        exact q_iret (pc := 35) B I rfl d_digitOf_35
      · have hm := iff' hc hm
        refine lv_iload_n (pc := 27) (i := 1) hx hb d_digitOf_27 rfl (lx_get hl rfl) ?_
        refine lv_bipush (pc := 28) (v := 87) hx hb d_digitOf_28 (by decide) ?_
        refine lv_isub (pc := 30) hx hb d_digitOf_30 ?_
        refine lv_goto (pc := 31) (tgt := 35) hx hb d_digitOf_31 (by decide) ?_
        cases hm
        exact q_iret (pc := 35) B I rfl d_digitOf_35
  · have hm := iff' hc hm
    refine lv_iload_n (pc := 8) (i := 1) hx hb d_digitOf_8 rfl (lx_get hl rfl) ?_
    refine lv_bipush (pc := 9) (v := 48) hx hb d_digitOf_9 (by decide) ?_
    refine lv_isub (pc := 11) hx hb d_digitOf_11 ?_
    refine lv_goto (pc := 12) (tgt := 35) hx hb d_digitOf_12 (by decide) ?_
    cases hm
    exact q_iret (pc := 35) B I rfl d_digitOf_35
def m_digits_40 (N : Nat) (S : rS) : Option (Int32 × rS) :=
  b1 (rP S 4 (S.1 3)) (fun S1 => some ((-1), S1))
set_option maxRecDepth 100000 in
set_option maxHeartbeats 4000000 in
theorem w_digits_40 {S : rS} (B : BX p m c cb_digits 9 s args (.code y_digits cb_digits 9 (some .int) :: wsA) RREF meth (some .int) D vwCl (tyL dA) b0 Z) (hR : RR b0 h Z) (hl : lx ls [some (.ref h), none, none, none, none, none, none, none, none]) (I : AI D vwCl b0 (rH dA h S hp0) sz s.heap H locs)  (hm : m_digits_40 N   S = some (r, S')) : W p l e { frames := 2, cells := 0, slots := 0, locals := 42 } s m args below meth c H locs 0 0 (MQ below (CQ D vwCl b0 (some (.int r)) (rH dA h S' hp0) sz) args s 0 0 (fun q => b0 ≤ q)) (F0 m 40 ls []) := by
  obtain ⟨hx, hb, -⟩ := B.1
  unfold m_digits_40 at hm
  refine lv_aload_n (pc := 40) (i := 0) hx hb d_digits_40 rfl (lx_get hl rfl) ?_
  refine lv_aload_n (pc := 41) (i := 0) hx hb d_digits_41 rfl (lx_get hl rfl) ?_
  refine r_get (pc := 42) (k := 3) (index := 76) B I (by decide) mF_76 rfl rfl d_digits_42 ?_
  refine ob1 hm (fun S1 e2 hm => ?_)
  refine r_put (pc := 45) (k := 4) (index := 79) B hR I (by decide) mF_79 rfl rfl rfl (fun _ _ => rfl) e2 d_digits_45 (fun H locs I => ?_)
  refine lv_iconst (pc := 48) (v := (-1)) hx hb d_digits_48 (by decide) ?_
  cases hm
  exact q_iret (pc := 49) B I rfl d_digits_49
def m_digits_135 (N : Nat) (K8 : Int32 → Int32 → Int32 → Int32 → Int32 → rS → Option (Int32 × rS)) (y1 : Int32) (y2 : Int32) (y3 : Int32) (y4 : Int32) (z0 : Int32) (S : rS) : Option (Int32 × rS) :=
  K8 y1 y2 y3 y4 z0 S
set_option maxRecDepth 100000 in
set_option maxHeartbeats 4000000 in
theorem w_digits_135 {K8 : Int32 → Int32 → Int32 → Int32 → Int32 → rS → Option (Int32 × rS)} {y1 : Int32} {y2 : Int32} {y3 : Int32} {y4 : Int32} {z0 : Int32} {S : rS} (hK8 : ∀ (y1 : Int32) (y2 : Int32) (y3 : Int32) (y4 : Int32) (y5 : Int32) (S : rS) (ls : Array Slot) (H : Heap) (locs : List Loc), lx ls [some (.ref h), some (.int y1), some (.int y2), some (.int y3), some (.int y4), some (.int y5), none, none, none] → AI D vwCl b0 (rH dA h S hp0) sz s.heap H locs → K8 y1 y2 y3 y4 y5 S = some (r, S') → W p l e { frames := 2, cells := 0, slots := 0, locals := 42 } s m args below meth c H locs 0 0 (MQ below (CQ D vwCl b0 (some (.int r)) (rH dA h S' hp0) sz) args s 0 0 (fun q => b0 ≤ q)) (F0 m 8 ls [])) (B : BX p m c cb_digits 9 s args (.code y_digits cb_digits 9 (some .int) :: wsA) RREF meth (some .int) D vwCl (tyL dA) b0 Z) (hR : RR b0 h Z) (hl : lx ls [some (.ref h), some (.int y1), some (.int y2), some (.int y3), some (.int y4), none, none, none, none]) (I : AI D vwCl b0 (rH dA h S hp0) sz s.heap H locs)  (hm : m_digits_135 N K8 y1 y2 y3 y4 z0 S = some (r, S')) : W p l e { frames := 2, cells := 0, slots := 0, locals := 42 } s m args below meth c H locs 0 0 (MQ below (CQ D vwCl b0 (some (.int r)) (rH dA h S' hp0) sz) args s 0 0 (fun q => b0 ≤ q)) (F0 m 135 ls [.int z0]) := by
  obtain ⟨hx, hb, -⟩ := B.1
  unfold m_digits_135 at hm
  refine q_istore (pc := 135) (i := 5) (lo' := [some (.ref h), some (.int y1), some (.int y2), some (.int y3), some (.int y4), some (.int z0), none, none, none]) hx hb d_digits_135 hl (Nat.le_of_ble_eq_true rfl) (lx_ci rfl) rfl (fun ls hl => ?_)
  refine lv_goto (pc := 137) (tgt := 8) hx hb d_digits_137 (by decide) ?_
  exact hK8 _ _ _ _ _ _ _ _ _ hl I hm
def m_digits_130 (N : Nat) (K8 : Int32 → Int32 → Int32 → Int32 → Int32 → rS → Option (Int32 × rS)) (y1 : Int32) (y2 : Int32) (y3 : Int32) (y4 : Int32) (S : rS) : Option (Int32 × rS) :=
  m_digits_135 N K8 y1 y2 y3 y4 1 S
set_option maxRecDepth 100000 in
set_option maxHeartbeats 4000000 in
theorem w_digits_130 {K8 : Int32 → Int32 → Int32 → Int32 → Int32 → rS → Option (Int32 × rS)} {y1 : Int32} {y2 : Int32} {y3 : Int32} {y4 : Int32} {S : rS} (hK8 : ∀ (y1 : Int32) (y2 : Int32) (y3 : Int32) (y4 : Int32) (y5 : Int32) (S : rS) (ls : Array Slot) (H : Heap) (locs : List Loc), lx ls [some (.ref h), some (.int y1), some (.int y2), some (.int y3), some (.int y4), some (.int y5), none, none, none] → AI D vwCl b0 (rH dA h S hp0) sz s.heap H locs → K8 y1 y2 y3 y4 y5 S = some (r, S') → W p l e { frames := 2, cells := 0, slots := 0, locals := 42 } s m args below meth c H locs 0 0 (MQ below (CQ D vwCl b0 (some (.int r)) (rH dA h S' hp0) sz) args s 0 0 (fun q => b0 ≤ q)) (F0 m 8 ls [])) (B : BX p m c cb_digits 9 s args (.code y_digits cb_digits 9 (some .int) :: wsA) RREF meth (some .int) D vwCl (tyL dA) b0 Z) (hR : RR b0 h Z) (hl : lx ls [some (.ref h), some (.int y1), some (.int y2), some (.int y3), some (.int y4), none, none, none, none]) (I : AI D vwCl b0 (rH dA h S hp0) sz s.heap H locs)  (hm : m_digits_130 N K8 y1 y2 y3 y4 S = some (r, S')) : W p l e { frames := 2, cells := 0, slots := 0, locals := 42 } s m args below meth c H locs 0 0 (MQ below (CQ D vwCl b0 (some (.int r)) (rH dA h S' hp0) sz) args s 0 0 (fun q => b0 ≤ q)) (F0 m 130 ls []) := by
  obtain ⟨hx, hb, -⟩ := B.1
  unfold m_digits_130 at hm
  refine lv_iconst (pc := 130) (v := 1) hx hb d_digits_130 (by decide) ?_
  refine lv_goto (pc := 131) (tgt := 135) hx hb d_digits_131 (by decide) ?_
  exact w_digits_135 hK8 B hR hl I hm
def m_digits_134 (N : Nat) (K8 : Int32 → Int32 → Int32 → Int32 → Int32 → rS → Option (Int32 × rS)) (y1 : Int32) (y2 : Int32) (y3 : Int32) (y4 : Int32) (S : rS) : Option (Int32 × rS) :=
  m_digits_135 N K8 y1 y2 y3 y4 0 S
set_option maxRecDepth 100000 in
set_option maxHeartbeats 4000000 in
theorem w_digits_134 {K8 : Int32 → Int32 → Int32 → Int32 → Int32 → rS → Option (Int32 × rS)} {y1 : Int32} {y2 : Int32} {y3 : Int32} {y4 : Int32} {S : rS} (hK8 : ∀ (y1 : Int32) (y2 : Int32) (y3 : Int32) (y4 : Int32) (y5 : Int32) (S : rS) (ls : Array Slot) (H : Heap) (locs : List Loc), lx ls [some (.ref h), some (.int y1), some (.int y2), some (.int y3), some (.int y4), some (.int y5), none, none, none] → AI D vwCl b0 (rH dA h S hp0) sz s.heap H locs → K8 y1 y2 y3 y4 y5 S = some (r, S') → W p l e { frames := 2, cells := 0, slots := 0, locals := 42 } s m args below meth c H locs 0 0 (MQ below (CQ D vwCl b0 (some (.int r)) (rH dA h S' hp0) sz) args s 0 0 (fun q => b0 ≤ q)) (F0 m 8 ls [])) (B : BX p m c cb_digits 9 s args (.code y_digits cb_digits 9 (some .int) :: wsA) RREF meth (some .int) D vwCl (tyL dA) b0 Z) (hR : RR b0 h Z) (hl : lx ls [some (.ref h), some (.int y1), some (.int y2), some (.int y3), some (.int y4), none, none, none, none]) (I : AI D vwCl b0 (rH dA h S hp0) sz s.heap H locs)  (hm : m_digits_134 N K8 y1 y2 y3 y4 S = some (r, S')) : W p l e { frames := 2, cells := 0, slots := 0, locals := 42 } s m args below meth c H locs 0 0 (MQ below (CQ D vwCl b0 (some (.int r)) (rH dA h S' hp0) sz) args s 0 0 (fun q => b0 ≤ q)) (F0 m 134 ls []) := by
  obtain ⟨hx, hb, -⟩ := B.1
  unfold m_digits_134 at hm
  refine lv_iconst (pc := 134) (v := 0) hx hb d_digits_134 (by decide) ?_
  exact w_digits_135 hK8 B hR hl I hm
def m_digits_103 (N : Nat) (K8 : Int32 → Int32 → Int32 → Int32 → Int32 → rS → Option (Int32 × rS)) (y1 : Int32) (y2 : Int32) (y3 : Int32) (y4 : Int32) (y7 : Int32) (S : rS) : Option (Int32 × rS) :=
  b1 (m_here N S) (fun x2 => b1 (m_digitOf N x2 S) (fun x4 => if y7 = 0 then (if x4 = (-1) then (m_digits_134 N K8 y1 y2 y3 y4 S) else (if y1 ≤ x4 then (m_digits_134 N K8 y1 y2 y3 y4 S) else (m_digits_130 N K8 y1 y2 y3 y4 S))) else (m_digits_130 N K8 y1 y2 y3 y4 S)))
set_option maxRecDepth 100000 in
set_option maxHeartbeats 4000000 in
theorem w_digits_103 {K8 : Int32 → Int32 → Int32 → Int32 → Int32 → rS → Option (Int32 × rS)} {y1 : Int32} {y2 : Int32} {y3 : Int32} {y4 : Int32} {y7 : Int32} {S : rS} (hK8 : ∀ (y1 : Int32) (y2 : Int32) (y3 : Int32) (y4 : Int32) (y5 : Int32) (S : rS) (ls : Array Slot) (H : Heap) (locs : List Loc), lx ls [some (.ref h), some (.int y1), some (.int y2), some (.int y3), some (.int y4), some (.int y5), none, none, none] → AI D vwCl b0 (rH dA h S hp0) sz s.heap H locs → K8 y1 y2 y3 y4 y5 S = some (r, S') → W p l e { frames := 2, cells := 0, slots := 0, locals := 42 } s m args below meth c H locs 0 0 (MQ below (CQ D vwCl b0 (some (.int r)) (rH dA h S' hp0) sz) args s 0 0 (fun q => b0 ≤ q)) (F0 m 8 ls [])) (B : BX p m c cb_digits 9 s args (.code y_digits cb_digits 9 (some .int) :: wsA) RREF meth (some .int) D vwCl (tyL dA) b0 Z) (hR : RR b0 h Z) (hl : lx ls [some (.ref h), some (.int y1), some (.int y2), some (.int y3), some (.int y4), none, none, some (.int y7), none]) (I : AI D vwCl b0 (rH dA h S hp0) sz s.heap H locs)  (hm : m_digits_103 N K8 y1 y2 y3 y4 y7 S = some (r, S')) : W p l e { frames := 2, cells := 0, slots := 0, locals := 42 } s m args below meth c H locs 0 0 (MQ below (CQ D vwCl b0 (some (.int r)) (rH dA h S' hp0) sz) args s 0 0 (fun q => b0 ≤ q)) (F0 m 103 ls []) := by
  obtain ⟨hx, hb, -⟩ := B.1
  unfold m_digits_103 at hm
  refine lv_aload_n (pc := 103) (i := 0) hx hb d_digits_103 rfl (lx_get hl rfl) ?_
  refine lv_aload_n (pc := 104) (i := 0) hx hb d_digits_104 rfl (lx_get hl rfl) ?_
  refine ob1 hm (fun x2 e1 hm => ?_)
  refine r_call (pc := 105) (As := []) (rest := [.ref h]) B hl rfl I (c_here hR e1) kw_here rfl (by decide) (by decide) rfl (by simp [Value.category]) d_digits_105 (fun H locs I => ?_)
  refine ob1 hm (fun x4 e3 hm => ?_)
  refine r_call (pc := 108) (As := [.int x2]) (rest := []) B hl rfl I (c_digitOf hR e3) kw_digitOf rfl (by decide) (by decide) rfl (by simp [Value.category]) d_digits_108 (fun H locs I => ?_)
  refine q_istore (pc := 111) (i := 8) (lo' := [some (.ref h), some (.int y1), some (.int y2), some (.int y3), some (.int y4), none, none, some (.int y7), some (.int x4)]) hx hb d_digits_111 hl (Nat.le_of_ble_eq_true rfl) (lx_ci rfl) rfl (fun ls hl => ?_)
  refine lv_iload (pc := 113) (i := 7) hx hb d_digits_113 (lx_get hl rfl) ?_
  refine lv_if_ne (pc := 115) (tgt := 130) hx hb d_digits_115 (by decide) (fun hc => ?_) (fun hc => ?_)
  · have hm := iff' hc hm
    exact w_digits_130 hK8 B hR (lx_sub (lo' := [some (.ref h), some (.int y1), some (.int y2), some (.int y3), some (.int y4), none, none, none, none]) hl (by simp [lx_le])) I hm
  · have hm := ift hc hm
    refine lv_iload (pc := 118) (i := 8) hx hb d_digits_118 (lx_get hl rfl) ?_
    refine lv_iconst (pc := 120) (v := (-1)) hx hb d_digits_120 (by decide) ?_
    refine lv_icmp_eq (pc := 121) (tgt := 134) hx hb d_digits_121 (by decide) (fun hc => ?_) (fun hc => ?_)
    · have hm := ift hc hm
      exact w_digits_134 hK8 B hR (lx_sub (lo' := [some (.ref h), some (.int y1), some (.int y2), some (.int y3), some (.int y4), none, none, none, none]) hl (by simp [lx_le])) I hm
    · have hm := iff' hc hm
      refine lv_iload (pc := 124) (i := 8) hx hb d_digits_124 (lx_get hl rfl) ?_
      refine lv_iload_n (pc := 126) (i := 1) hx hb d_digits_126 rfl (lx_get hl rfl) ?_
      refine lv_icmp_ge (pc := 127) (tgt := 134) hx hb d_digits_127 (by decide) (fun hc => ?_) (fun hc => ?_)
      · have hm := ift hc hm
        exact w_digits_134 hK8 B hR (lx_sub (lo' := [some (.ref h), some (.int y1), some (.int y2), some (.int y3), some (.int y4), none, none, none, none]) hl (by simp [lx_le])) I hm
      · have hm := iff' hc hm
        exact w_digits_130 hK8 B hR (lx_sub (lo' := [some (.ref h), some (.int y1), some (.int y2), some (.int y3), some (.int y4), none, none, none, none]) hl (by simp [lx_le])) I hm
def m_digits_86 (N : Nat) (K8 : Int32 → Int32 → Int32 → Int32 → Int32 → rS → Option (Int32 × rS)) (y1 : Int32) (y2 : Int32) (y3 : Int32) (y4 : Int32) (z0 : Int32) (S : rS) : Option (Int32 × rS) :=
  if z0 = 0 then (m_digits_103 N K8 y1 y2 y3 y4 z0 S) else (b1 (rP S 3 ((S.1 3) + 1)) (fun S1 => m_digits_103 N K8 y1 y2 y3 y4 z0 S1))
set_option maxRecDepth 100000 in
set_option maxHeartbeats 4000000 in
theorem w_digits_86 {K8 : Int32 → Int32 → Int32 → Int32 → Int32 → rS → Option (Int32 × rS)} {y1 : Int32} {y2 : Int32} {y3 : Int32} {y4 : Int32} {z0 : Int32} {S : rS} (hK8 : ∀ (y1 : Int32) (y2 : Int32) (y3 : Int32) (y4 : Int32) (y5 : Int32) (S : rS) (ls : Array Slot) (H : Heap) (locs : List Loc), lx ls [some (.ref h), some (.int y1), some (.int y2), some (.int y3), some (.int y4), some (.int y5), none, none, none] → AI D vwCl b0 (rH dA h S hp0) sz s.heap H locs → K8 y1 y2 y3 y4 y5 S = some (r, S') → W p l e { frames := 2, cells := 0, slots := 0, locals := 42 } s m args below meth c H locs 0 0 (MQ below (CQ D vwCl b0 (some (.int r)) (rH dA h S' hp0) sz) args s 0 0 (fun q => b0 ≤ q)) (F0 m 8 ls [])) (B : BX p m c cb_digits 9 s args (.code y_digits cb_digits 9 (some .int) :: wsA) RREF meth (some .int) D vwCl (tyL dA) b0 Z) (hR : RR b0 h Z) (hl : lx ls [some (.ref h), some (.int y1), some (.int y2), some (.int y3), some (.int y4), none, none, none, none]) (I : AI D vwCl b0 (rH dA h S hp0) sz s.heap H locs)  (hm : m_digits_86 N K8 y1 y2 y3 y4 z0 S = some (r, S')) : W p l e { frames := 2, cells := 0, slots := 0, locals := 42 } s m args below meth c H locs 0 0 (MQ below (CQ D vwCl b0 (some (.int r)) (rH dA h S' hp0) sz) args s 0 0 (fun q => b0 ≤ q)) (F0 m 86 ls [.int z0]) := by
  obtain ⟨hx, hb, -⟩ := B.1
  unfold m_digits_86 at hm
  refine q_istore (pc := 86) (i := 7) (lo' := [some (.ref h), some (.int y1), some (.int y2), some (.int y3), some (.int y4), none, none, some (.int z0), none]) hx hb d_digits_86 hl (Nat.le_of_ble_eq_true rfl) (lx_cn rfl) rfl (fun ls hl => ?_)
  refine lv_iload (pc := 88) (i := 7) hx hb d_digits_88 (lx_get hl rfl) ?_
  refine lv_if_eq (pc := 90) (tgt := 103) hx hb d_digits_90 (by decide) (fun hc => ?_) (fun hc => ?_)
  · have hm := ift hc hm
    exact w_digits_103 hK8 B hR hl I hm
  · have hm := iff' hc hm
    refine lv_aload_n (pc := 93) (i := 0) hx hb d_digits_93 rfl (lx_get hl rfl) ?_
    refine lv_dup (pc := 94) hx hb d_digits_94 rfl ?_
    refine r_get (pc := 95) (k := 3) (index := 76) B I (by decide) mF_76 rfl rfl d_digits_95 ?_
    refine lv_iconst (pc := 98) (v := 1) hx hb d_digits_98 (by decide) ?_
    refine lv_iadd (pc := 99) hx hb d_digits_99 ?_
    refine ob1 hm (fun S1 e2 hm => ?_)
    refine r_put (pc := 100) (k := 3) (index := 76) B hR I (by decide) mF_76 rfl rfl rfl (fun _ _ => rfl) e2 d_digits_100 (fun H locs I => ?_)
    exact w_digits_103 hK8 B hR hl I hm
def m_digits_8F (N : Nat) (K8 : Int32 → Int32 → Int32 → Int32 → Int32 → rS → Option (Int32 × rS)) (y1 : Int32) (y2 : Int32) (y3 : Int32) (y4 : Int32) (y5 : Int32) (S : rS) : Option (Int32 × rS) :=
  if y5 = 0 then (some (y4, S)) else (b1 (m_here N S) (fun x2 => b1 (m_digitOf N x2 S) (fun x4 => if x4 = (-1) then (m_digits_40 N  S) else (if y1 ≤ x4 then (m_digits_40 N  S) else (if y3 = y2 then (m_digits_40 N  S) else (b1 (rP S 3 ((S.1 3) + 1)) (fun S5 => b1 (m_here N S5) (fun x8 => if x8 = 95 then (m_digits_86 N K8 y1 y2 (y3 + 1) ((y1 * y4) + x4) 1 S5) else (m_digits_86 N K8 y1 y2 (y3 + 1) ((y1 * y4) + x4) 0 S5)))))))))
def m_digits_8 (N : Nat) : Nat → Int32 → Int32 → Int32 → Int32 → Int32 → rS → Option (Int32 × rS)
  | 0, _, _, _, _, _, _ => none
  | k + 1, y1, y2, y3, y4, y5, S => m_digits_8F N  (m_digits_8 N  k) y1 y2 y3 y4 y5 S
set_option maxRecDepth 100000 in
set_option maxHeartbeats 4000000 in
theorem w_digits_8F {K8 : Int32 → Int32 → Int32 → Int32 → Int32 → rS → Option (Int32 × rS)} {y1 : Int32} {y2 : Int32} {y3 : Int32} {y4 : Int32} {y5 : Int32} {S : rS} (hK8 : ∀ (y1 : Int32) (y2 : Int32) (y3 : Int32) (y4 : Int32) (y5 : Int32) (S : rS) (ls : Array Slot) (H : Heap) (locs : List Loc), lx ls [some (.ref h), some (.int y1), some (.int y2), some (.int y3), some (.int y4), some (.int y5), none, none, none] → AI D vwCl b0 (rH dA h S hp0) sz s.heap H locs → K8 y1 y2 y3 y4 y5 S = some (r, S') → W p l e { frames := 2, cells := 0, slots := 0, locals := 42 } s m args below meth c H locs 0 0 (MQ below (CQ D vwCl b0 (some (.int r)) (rH dA h S' hp0) sz) args s 0 0 (fun q => b0 ≤ q)) (F0 m 8 ls [])) (B : BX p m c cb_digits 9 s args (.code y_digits cb_digits 9 (some .int) :: wsA) RREF meth (some .int) D vwCl (tyL dA) b0 Z) (hR : RR b0 h Z) (hl : lx ls [some (.ref h), some (.int y1), some (.int y2), some (.int y3), some (.int y4), some (.int y5), none, none, none]) (I : AI D vwCl b0 (rH dA h S hp0) sz s.heap H locs)  (hm : m_digits_8F N  K8 y1 y2 y3 y4 y5 S = some (r, S')) : W p l e { frames := 2, cells := 0, slots := 0, locals := 42 } s m args below meth c H locs 0 0 (MQ below (CQ D vwCl b0 (some (.int r)) (rH dA h S' hp0) sz) args s 0 0 (fun q => b0 ≤ q)) (F0 m 8 ls []) := by
  obtain ⟨hx, hb, -⟩ := B.1
  unfold m_digits_8F at hm
  refine lv_iload (pc := 8) (i := 5) hx hb d_digits_8 (lx_get hl rfl) ?_
  refine lv_if_eq (pc := 10) (tgt := 140) hx hb d_digits_10 (by decide) (fun hc => ?_) (fun hc => ?_)
  · have hm := ift hc hm
    refine lv_iload (pc := 140) (i := 4) hx hb d_digits_140 (lx_get hl rfl) ?_
    cases hm
    exact q_iret (pc := 142) B I rfl d_digits_142
  · have hm := iff' hc hm
    refine lv_aload_n (pc := 13) (i := 0) hx hb d_digits_13 rfl (lx_get hl rfl) ?_
    refine lv_aload_n (pc := 14) (i := 0) hx hb d_digits_14 rfl (lx_get hl rfl) ?_
    refine ob1 hm (fun x2 e1 hm => ?_)
    refine r_call (pc := 15) (As := []) (rest := [.ref h]) B hl rfl I (c_here hR e1) kw_here rfl (by decide) (by decide) rfl (by simp [Value.category]) d_digits_15 (fun H locs I => ?_)
    refine ob1 hm (fun x4 e3 hm => ?_)
    refine r_call (pc := 18) (As := [.int x2]) (rest := []) B hl rfl I (c_digitOf hR e3) kw_digitOf rfl (by decide) (by decide) rfl (by simp [Value.category]) d_digits_18 (fun H locs I => ?_)
    refine q_istore (pc := 21) (i := 6) (lo' := [some (.ref h), some (.int y1), some (.int y2), some (.int y3), some (.int y4), some (.int y5), some (.int x4), none, none]) hx hb d_digits_21 hl (Nat.le_of_ble_eq_true rfl) (lx_ci rfl) rfl (fun ls hl => ?_)
    refine lv_iload (pc := 23) (i := 6) hx hb d_digits_23 (lx_get hl rfl) ?_
    refine lv_iconst (pc := 25) (v := (-1)) hx hb d_digits_25 (by decide) ?_
    refine lv_icmp_eq (pc := 26) (tgt := 40) hx hb d_digits_26 (by decide) (fun hc => ?_) (fun hc => ?_)
    · have hm := ift hc hm
      exact w_digits_40  B hR (lx_sub (lo' := [some (.ref h), none, none, none, none, none, none, none, none]) hl (by simp [lx_le])) I hm
    · have hm := iff' hc hm
      refine lv_iload (pc := 29) (i := 6) hx hb d_digits_29 (lx_get hl rfl) ?_
      refine lv_iload_n (pc := 31) (i := 1) hx hb d_digits_31 rfl (lx_get hl rfl) ?_
      refine lv_icmp_ge (pc := 32) (tgt := 40) hx hb d_digits_32 (by decide) (fun hc => ?_) (fun hc => ?_)
      · have hm := ift hc hm
        exact w_digits_40  B hR (lx_sub (lo' := [some (.ref h), none, none, none, none, none, none, none, none]) hl (by simp [lx_le])) I hm
      · have hm := iff' hc hm
        refine lv_iload_n (pc := 35) (i := 3) hx hb d_digits_35 rfl (lx_get hl rfl) ?_
        refine lv_iload_n (pc := 36) (i := 2) hx hb d_digits_36 rfl (lx_get hl rfl) ?_
        refine lv_icmp_ne (pc := 37) (tgt := 50) hx hb d_digits_37 (by decide) (fun hc => ?_) (fun hc => ?_)
        · have hm := iff' hc hm
          refine lv_iload_n (pc := 50) (i := 1) hx hb d_digits_50 rfl (lx_get hl rfl) ?_
          refine lv_iload (pc := 51) (i := 4) hx hb d_digits_51 (lx_get hl rfl) ?_
          refine lv_imul (pc := 53) hx hb d_digits_53 ?_
          refine lv_iload (pc := 54) (i := 6) hx hb d_digits_54 (lx_get hl rfl) ?_
          refine lv_iadd (pc := 56) hx hb d_digits_56 ?_
          refine q_istore (pc := 57) (i := 4) (lo' := [some (.ref h), some (.int y1), some (.int y2), some (.int y3), some (.int ((y1 * y4) + x4)), some (.int y5), some (.int x4), none, none]) hx hb d_digits_57 hl (Nat.le_of_ble_eq_true rfl) (lx_ci rfl) rfl (fun ls hl => ?_)
          refine q_iinc (pc := 59) (i := 3) (v := y3 + 1) (lo' := [some (.ref h), some (.int y1), some (.int y2), some (.int (y3 + 1)), some (.int ((y1 * y4) + x4)), some (.int y5), some (.int x4), none, none]) hx hb d_digits_59 hl rfl rfl (Nat.le_of_ble_eq_true rfl) (lx_ci rfl) rfl (fun ls hl => ?_)
          refine lv_aload_n (pc := 62) (i := 0) hx hb d_digits_62 rfl (lx_get hl rfl) ?_
          refine lv_dup (pc := 63) hx hb d_digits_63 rfl ?_
          refine r_get (pc := 64) (k := 3) (index := 76) B I (by decide) mF_76 rfl rfl d_digits_64 ?_
          refine lv_iconst (pc := 67) (v := 1) hx hb d_digits_67 (by decide) ?_
          refine lv_iadd (pc := 68) hx hb d_digits_68 ?_
          refine ob1 hm (fun S5 e6 hm => ?_)
          refine r_put (pc := 69) (k := 3) (index := 76) B hR I (by decide) mF_76 rfl rfl rfl (fun _ _ => rfl) e6 d_digits_69 (fun H locs I => ?_)
          refine lv_aload_n (pc := 72) (i := 0) hx hb d_digits_72 rfl (lx_get hl rfl) ?_
          refine ob1 hm (fun x8 e7 hm => ?_)
          refine r_call (pc := 73) (As := []) (rest := []) B hl rfl I (c_here hR e7) kw_here rfl (by decide) (by decide) rfl (by simp [Value.category]) d_digits_73 (fun H locs I => ?_)
          refine lv_bipush (pc := 76) (v := 95) hx hb d_digits_76 (by decide) ?_
          refine lv_icmp_ne (pc := 78) (tgt := 85) hx hb d_digits_78 (by decide) (fun hc => ?_) (fun hc => ?_)
          · have hm := iff' hc hm
            refine lv_iconst (pc := 85) (v := 0) hx hb d_digits_85 (by decide) ?_
            exact w_digits_86 hK8 B hR (lx_sub (lo' := [some (.ref h), some (.int y1), some (.int y2), some (.int (y3 + 1)), some (.int ((y1 * y4) + x4)), none, none, none, none]) hl (by simp [lx_le])) I hm
          · have hm := ift hc hm
            refine lv_iconst (pc := 81) (v := 1) hx hb d_digits_81 (by decide) ?_
            refine lv_goto (pc := 82) (tgt := 86) hx hb d_digits_82 (by decide) ?_
            exact w_digits_86 hK8 B hR (lx_sub (lo' := [some (.ref h), some (.int y1), some (.int y2), some (.int (y3 + 1)), some (.int ((y1 * y4) + x4)), none, none, none, none]) hl (by simp [lx_le])) I hm
        · have hm := ift hc hm
          exact w_digits_40  B hR (lx_sub (lo' := [some (.ref h), none, none, none, none, none, none, none, none]) hl (by simp [lx_le])) I hm
set_option maxRecDepth 100000 in
set_option maxHeartbeats 4000000 in
theorem w_digits_8i (B : BX p m c cb_digits 9 s args (.code y_digits cb_digits 9 (some .int) :: wsA) RREF meth (some .int) D vwCl (tyL dA) b0 Z) (hR : RR b0 h Z) (k : Nat) (y1 : Int32) (y2 : Int32) (y3 : Int32) (y4 : Int32) (y5 : Int32) (S : rS) (ls : Array Slot) (H : Heap) (locs : List Loc) (hl : lx ls [some (.ref h), some (.int y1), some (.int y2), some (.int y3), some (.int y4), some (.int y5), none, none, none]) (I : AI D vwCl b0 (rH dA h S hp0) sz s.heap H locs)  (hm : m_digits_8 N  k y1 y2 y3 y4 y5 S = some (r, S')) : W p l e { frames := 2, cells := 0, slots := 0, locals := 42 } s m args below meth c H locs 0 0 (MQ below (CQ D vwCl b0 (some (.int r)) (rH dA h S' hp0) sz) args s 0 0 (fun q => b0 ≤ q)) (F0 m 8 ls []) := by
  induction k generalizing y1 y2 y3 y4 y5 S ls H locs with
  | zero => cases hm
  | succ k ih => exact w_digits_8F  (fun y1 y2 y3 y4 y5 S ls H locs hl I hm => ih y1 y2 y3 y4 y5 S ls H locs hl I hm) B hR hl I hm
theorem w_digits_8 {y1 : Int32} {y2 : Int32} {y3 : Int32} {y4 : Int32} {y5 : Int32} {S : rS} (B : BX p m c cb_digits 9 s args (.code y_digits cb_digits 9 (some .int) :: wsA) RREF meth (some .int) D vwCl (tyL dA) b0 Z) (hR : RR b0 h Z) (hl : lx ls [some (.ref h), some (.int y1), some (.int y2), some (.int y3), some (.int y4), some (.int y5), none, none, none]) (I : AI D vwCl b0 (rH dA h S hp0) sz s.heap H locs)  {k : Nat} (hm : m_digits_8 N  k y1 y2 y3 y4 y5 S = some (r, S')) : W p l e { frames := 2, cells := 0, slots := 0, locals := 42 } s m args below meth c H locs 0 0 (MQ below (CQ D vwCl b0 (some (.int r)) (rH dA h S' hp0) sz) args s 0 0 (fun q => b0 ≤ q)) (F0 m 8 ls []) := w_digits_8i  B hR k _ _ _ _ _ S ls H locs hl I hm
def m_digits (N : Nat) (p1 : Int32) (p2 : Int32) (S : rS) : Option (Int32 × rS) :=
  m_digits_8 N  N p1 p2 0 0 1 S
set_option maxRecDepth 100000 in
set_option maxHeartbeats 4000000 in
theorem c_digits {p1 : Int32} {p2 : Int32} {S S' : rS} {r : Int32} (hR : RR b0 h Z) (hm : m_digits N p1 p2 S = some (r, S')) : Ct l D vwCl (tyL dA) b0 Z y_digits (.code y_digits cb_digits 9 (some .int) :: wsA) 2 42 [.ref h, .int p1, .int p2] (rH dA h S hp0) sz (some (.int r)) (rH dA h S' hp0) 0 0 := by
  refine ct_of (cc := cb_digits) (maxL := 9) (ret := (some .int)) (lo0 := [some (.ref h), some (.int p1), some (.int p2), none, none, none, none, none, none]) hR.2 (by decide) rfl (by simp [lg_sl, Value.category]) rfl (by simp [lx_all, lv_args, Value.category]) ?_
  intro p e s m args below meth c ls B hnm hl I
  obtain ⟨hx, hb, -⟩ := B.1
  unfold m_digits at hm
  refine lv_iconst (pc := 0) (v := 0) hx hb d_digits_0 (by decide) ?_
  refine q_istore_n (pc := 1) (i := 3) (lo' := [some (.ref h), some (.int p1), some (.int p2), some (.int 0), none, none, none, none, none]) hx hb d_digits_1 rfl hl (Nat.le_of_ble_eq_true rfl) (lx_ci rfl) rfl (fun ls hl => ?_)
  refine lv_iconst (pc := 2) (v := 0) hx hb d_digits_2 (by decide) ?_
  refine q_istore (pc := 3) (i := 4) (lo' := [some (.ref h), some (.int p1), some (.int p2), some (.int 0), some (.int 0), none, none, none, none]) hx hb d_digits_3 hl (Nat.le_of_ble_eq_true rfl) (lx_ci rfl) rfl (fun ls hl => ?_)
  refine lv_iconst (pc := 5) (v := 1) hx hb d_digits_5 (by decide) ?_
  refine q_istore (pc := 6) (i := 5) (lo' := [some (.ref h), some (.int p1), some (.int p2), some (.int 0), some (.int 0), some (.int 1), none, none, none]) hx hb d_digits_6 hl (Nat.le_of_ble_eq_true rfl) (lx_ci rfl) rfl (fun ls hl => ?_)
  exact w_digits_8  B hR hl I hm
def m_number_127 (N : Nat) (S : rS) : Option (Int32 × rS) :=
  b2 (m_fail N (S.1 3) S) (fun x2 S3 => if x2 = 0 ∨ x2 = 1 then (some (x2, S3)) else none)
set_option maxRecDepth 100000 in
set_option maxHeartbeats 4000000 in
theorem w_number_127 {S : rS} (B : BX p m c cb_number 6 s args (.code y_number cb_number 6 (some .boolean) :: wsA) RREF meth (some .boolean) D vwCl (tyL dA) b0 Z) (hR : RR b0 h Z) (hl : lx ls [some (.ref h), none, none, none, none, none]) (I : AI D vwCl b0 (rH dA h S hp0) sz s.heap H locs)  (hm : m_number_127 N   S = some (r, S')) : W p l e { frames := 3, cells := 0, slots := 0, locals := 70 } s m args below meth c H locs 0 0 (MQ below (CQ D vwCl b0 (some (.int r)) (rH dA h S' hp0) sz) args s 0 0 (fun q => b0 ≤ q)) (F0 m 127 ls []) := by
  obtain ⟨hx, hb, -⟩ := B.1
  unfold m_number_127 at hm
  refine lv_aload_n (pc := 127) (i := 0) hx hb d_number_127 rfl (lx_get hl rfl) ?_
  refine lv_aload_n (pc := 128) (i := 0) hx hb d_number_128 rfl (lx_get hl rfl) ?_
  refine r_get (pc := 129) (k := 3) (index := 76) B I (by decide) mF_76 rfl rfl d_number_129 ?_
  refine ob2 hm (fun x2 S3 e1 hm => ?_)
  refine r_call (pc := 132) (As := [.int (S.1 3)]) (rest := []) B hl rfl I (c_fail hR e1) kw_fail rfl (by decide) (by decide) rfl (by simp [Value.category]) d_number_132 (fun H locs I => ?_)
  by_cases hq : x2 = 0 ∨ x2 = 1
  · have hm := ift hq hm
    cases hm
    exact q_zret (pc := 135) B I rfl (zn hq) d_number_135
  · have hm := iff' hq hm
    cases hm
def m_number_175 (N : Nat) (z1 : Int32) (z2 : Int32) (S : rS) : Option (Int32 × rS) :=
  b1 (rT S 4 z1 z2) (fun S1 => if S1.1 4 = (-1) then (some (1, S1)) else (some (0, S1)))
set_option maxRecDepth 100000 in
set_option maxHeartbeats 4000000 in
theorem w_number_175 {z1 : Int32} {z2 : Int32} {S : rS} (B : BX p m c cb_number 6 s args (.code y_number cb_number 6 (some .boolean) :: wsA) RREF meth (some .boolean) D vwCl (tyL dA) b0 Z) (hR : RR b0 h Z) (hl : lx ls [some (.ref h), none, none, none, none, none]) (I : AI D vwCl b0 (rH dA h S hp0) sz s.heap H locs)  (hm : m_number_175 N  z1 z2 S = some (r, S')) : W p l e { frames := 3, cells := 0, slots := 0, locals := 70 } s m args below meth c H locs 0 0 (MQ below (CQ D vwCl b0 (some (.int r)) (rH dA h S' hp0) sz) args s 0 0 (fun q => b0 ≤ q)) (F0 m 175 ls [.int z2, .int z1, .ref (h + 4)]) := by
  obtain ⟨hx, hb, -⟩ := B.1
  unfold m_number_175 at hm
  refine ob1 hm (fun S1 e2 hm => ?_)
  refine r_ast (pc := 175) (j := 4) B hR I (by decide) (by decide) e2 d_number_175 (fun H locs I => ?_)
  refine lv_aload_n (pc := 176) (i := 0) hx hb d_number_176 rfl (lx_get hl rfl) ?_
  refine r_get (pc := 177) (k := 4) (index := 79) B I (by decide) mF_79 rfl rfl d_number_177 ?_
  refine lv_iconst (pc := 180) (v := (-1)) hx hb d_number_180 (by decide) ?_
  refine lv_icmp_ne (pc := 181) (tgt := 188) hx hb d_number_181 (by decide) (fun hc => ?_) (fun hc => ?_)
  · have hm := iff' hc hm
    refine lv_iconst (pc := 188) (v := 0) hx hb d_number_188 (by decide) ?_
    cases hm
    exact q_zret (pc := 189) B I rfl (by decide) d_number_189
  · have hm := ift hc hm
    refine lv_iconst (pc := 184) (v := 1) hx hb d_number_184 (by decide) ?_
    refine lv_goto (pc := 185) (tgt := 189) hx hb d_number_185 (by decide) ?_
    cases hm
    exact q_zret (pc := 189) B I rfl (by decide) d_number_189
def m_number_149 (N : Nat) (y1 : Int32) (y2 : Int32) (y4 : Int32) (S : rS) : Option (Int32 × rS) :=
  b1 (rT S 3 y1 1) (fun S1 => if y2 = 45 then (m_number_175 N  y1 (-y4) S1) else (m_number_175 N  y1 y4 S1))
set_option maxRecDepth 100000 in
set_option maxHeartbeats 4000000 in
theorem w_number_149 {y1 : Int32} {y2 : Int32} {y4 : Int32} {S : rS} (B : BX p m c cb_number 6 s args (.code y_number cb_number 6 (some .boolean) :: wsA) RREF meth (some .boolean) D vwCl (tyL dA) b0 Z) (hR : RR b0 h Z) (hl : lx ls [some (.ref h), some (.int y1), some (.int y2), none, some (.int y4), none]) (I : AI D vwCl b0 (rH dA h S hp0) sz s.heap H locs)  (hm : m_number_149 N  y1 y2 y4 S = some (r, S')) : W p l e { frames := 3, cells := 0, slots := 0, locals := 70 } s m args below meth c H locs 0 0 (MQ below (CQ D vwCl b0 (some (.int r)) (rH dA h S' hp0) sz) args s 0 0 (fun q => b0 ≤ q)) (F0 m 149 ls []) := by
  obtain ⟨hx, hb, -⟩ := B.1
  unfold m_number_149 at hm
  refine lv_aload_n (pc := 149) (i := 0) hx hb d_number_149 rfl (lx_get hl rfl) ?_
  refine r_get (pc := 150) (k := 7) (index := 16) B I (by decide) mF_16 rfl rfl d_number_150 ?_
  refine lv_iload_n (pc := 153) (i := 1) hx hb d_number_153 rfl (lx_get hl rfl) ?_
  refine lv_iconst (pc := 154) (v := 1) hx hb d_number_154 (by decide) ?_
  refine ob1 hm (fun S1 e2 hm => ?_)
  refine r_ast (pc := 155) (j := 3) B hR I (by decide) (by decide) e2 d_number_155 (fun H locs I => ?_)
  refine lv_aload_n (pc := 156) (i := 0) hx hb d_number_156 rfl (lx_get hl rfl) ?_
  refine r_get (pc := 157) (k := 8) (index := 19) B I (by decide) mF_19 rfl rfl d_number_157 ?_
  refine lv_iload_n (pc := 160) (i := 1) hx hb d_number_160 rfl (lx_get hl rfl) ?_
  refine lv_iload_n (pc := 161) (i := 2) hx hb d_number_161 rfl (lx_get hl rfl) ?_
  refine lv_bipush (pc := 162) (v := 45) hx hb d_number_162 (by decide) ?_
  refine lv_icmp_ne (pc := 164) (tgt := 173) hx hb d_number_164 (by decide) (fun hc => ?_) (fun hc => ?_)
  · have hm := iff' hc hm
    refine lv_iload (pc := 173) (i := 4) hx hb d_number_173 (lx_get hl rfl) ?_
    exact w_number_175  B hR (lx_sub (lo' := [some (.ref h), none, none, none, none, none]) hl (by simp [lx_le])) I hm
  · have hm := ift hc hm
    refine lv_iload (pc := 167) (i := 4) hx hb d_number_167 (lx_get hl rfl) ?_
    refine lv_ineg (pc := 169) hx hb d_number_169 ?_
    refine lv_goto (pc := 170) (tgt := 175) hx hb d_number_170 (by decide) ?_
    exact w_number_175  B hR (lx_sub (lo' := [some (.ref h), none, none, none, none, none]) hl (by simp [lx_le])) I hm
def m_number_136 (N : Nat) (y1 : Int32) (y2 : Int32) (y4 : Int32) (S : rS) : Option (Int32 × rS) :=
  m_number_149 N  y1 y2 y4 S
set_option maxRecDepth 100000 in
set_option maxHeartbeats 4000000 in
theorem w_number_136 {y1 : Int32} {y2 : Int32} {y4 : Int32} {S : rS} (B : BX p m c cb_number 6 s args (.code y_number cb_number 6 (some .boolean) :: wsA) RREF meth (some .boolean) D vwCl (tyL dA) b0 Z) (hR : RR b0 h Z) (hl : lx ls [some (.ref h), some (.int y1), some (.int y2), none, some (.int y4), none]) (I : AI D vwCl b0 (rH dA h S hp0) sz s.heap H locs)  (hm : m_number_136 N  y1 y2 y4 S = some (r, S')) : W p l e { frames := 3, cells := 0, slots := 0, locals := 70 } s m args below meth c H locs 0 0 (MQ below (CQ D vwCl b0 (some (.int r)) (rH dA h S' hp0) sz) args s 0 0 (fun q => b0 ≤ q)) (F0 m 136 ls []) := by
  obtain ⟨hx, hb, -⟩ := B.1
  unfold m_number_136 at hm
  refine lv_goto (pc := 136) (tgt := 149) hx hb d_number_136 (by decide) ?_
  exact w_number_149  B hR hl I hm
def m_number_77 (N : Nat) (y1 : Int32) (y2 : Int32) (y4 : Int32) (z0 : Int32) (S : rS) : Option (Int32 × rS) :=
  if z0 = 0 then (b1 (m_here N S) (fun x2 => b1 (m_isDigit N x2 S) (fun x4 => if x4 = 0 then (b1 (m_here N S) (fun x6 => if x6 = 95 then (m_number_127 N  S) else (m_number_136 N  y1 y2 y4 S))) else (m_number_127 N  S)))) else (b1 (rP S 3 ((S.1 3) + 1)) (fun S7 => b2 (m_digits N 16 7 S7) (fun x10 S11 => m_number_136 N  y1 y2 x10 S11)))
set_option maxRecDepth 100000 in
set_option maxHeartbeats 4000000 in
theorem w_number_77 {y1 : Int32} {y2 : Int32} {y4 : Int32} {z0 : Int32} {S : rS} (B : BX p m c cb_number 6 s args (.code y_number cb_number 6 (some .boolean) :: wsA) RREF meth (some .boolean) D vwCl (tyL dA) b0 Z) (hR : RR b0 h Z) (hl : lx ls [some (.ref h), some (.int y1), some (.int y2), none, some (.int y4), none]) (I : AI D vwCl b0 (rH dA h S hp0) sz s.heap H locs)  (hm : m_number_77 N  y1 y2 y4 z0 S = some (r, S')) : W p l e { frames := 3, cells := 0, slots := 0, locals := 70 } s m args below meth c H locs 0 0 (MQ below (CQ D vwCl b0 (some (.int r)) (rH dA h S' hp0) sz) args s 0 0 (fun q => b0 ≤ q)) (F0 m 77 ls [.int z0]) := by
  obtain ⟨hx, hb, -⟩ := B.1
  unfold m_number_77 at hm
  refine q_istore (pc := 77) (i := 5) (lo' := [some (.ref h), some (.int y1), some (.int y2), none, some (.int y4), some (.int z0)]) hx hb d_number_77 hl (Nat.le_of_ble_eq_true rfl) (lx_ci rfl) rfl (fun ls hl => ?_)
  refine lv_iload (pc := 79) (i := 5) hx hb d_number_79 (lx_get hl rfl) ?_
  refine lv_if_eq (pc := 81) (tgt := 107) hx hb d_number_81 (by decide) (fun hc => ?_) (fun hc => ?_)
  · have hm := ift hc hm
    refine lv_aload_n (pc := 107) (i := 0) hx hb d_number_107 rfl (lx_get hl rfl) ?_
    refine lv_aload_n (pc := 108) (i := 0) hx hb d_number_108 rfl (lx_get hl rfl) ?_
    refine ob1 hm (fun x2 e1 hm => ?_)
    refine r_call (pc := 109) (As := []) (rest := [.ref h]) B hl rfl I (c_here hR e1) kw_here rfl (by decide) (by decide) rfl (by simp [Value.category]) d_number_109 (fun H locs I => ?_)
    refine ob1 hm (fun x4 e3 hm => ?_)
    refine r_call (pc := 112) (As := [.int x2]) (rest := []) B hl rfl I (c_isDigit hR e3) kw_isDigit rfl (by decide) (by decide) rfl (by simp [Value.category]) d_number_112 (fun H locs I => ?_)
    refine lv_if_ne (pc := 115) (tgt := 127) hx hb d_number_115 (by decide) (fun hc => ?_) (fun hc => ?_)
    · have hm := iff' hc hm
      exact w_number_127  B hR (lx_sub (lo' := [some (.ref h), none, none, none, none, none]) hl (by simp [lx_le])) I hm
    · have hm := ift hc hm
      refine lv_aload_n (pc := 118) (i := 0) hx hb d_number_118 rfl (lx_get hl rfl) ?_
      refine ob1 hm (fun x6 e5 hm => ?_)
      refine r_call (pc := 119) (As := []) (rest := []) B hl rfl I (c_here hR e5) kw_here rfl (by decide) (by decide) rfl (by simp [Value.category]) d_number_119 (fun H locs I => ?_)
      refine lv_bipush (pc := 122) (v := 95) hx hb d_number_122 (by decide) ?_
      refine lv_icmp_ne (pc := 124) (tgt := 136) hx hb d_number_124 (by decide) (fun hc => ?_) (fun hc => ?_)
      · have hm := iff' hc hm
        exact w_number_136  B hR (lx_sub (lo' := [some (.ref h), some (.int y1), some (.int y2), none, some (.int y4), none]) hl (by simp [lx_le])) I hm
      · have hm := ift hc hm
        exact w_number_127  B hR (lx_sub (lo' := [some (.ref h), none, none, none, none, none]) hl (by simp [lx_le])) I hm
  · have hm := iff' hc hm
    refine lv_aload_n (pc := 84) (i := 0) hx hb d_number_84 rfl (lx_get hl rfl) ?_
    refine lv_dup (pc := 85) hx hb d_number_85 rfl ?_
    refine r_get (pc := 86) (k := 3) (index := 76) B I (by decide) mF_76 rfl rfl d_number_86 ?_
    refine lv_iconst (pc := 89) (v := 1) hx hb d_number_89 (by decide) ?_
    refine lv_iadd (pc := 90) hx hb d_number_90 ?_
    refine ob1 hm (fun S7 e8 hm => ?_)
    refine r_put (pc := 91) (k := 3) (index := 76) B hR I (by decide) mF_76 rfl rfl rfl (fun _ _ => rfl) e8 d_number_91 (fun H locs I => ?_)
    refine lv_aload_n (pc := 94) (i := 0) hx hb d_number_94 rfl (lx_get hl rfl) ?_
    refine lv_bipush (pc := 95) (v := 16) hx hb d_number_95 (by decide) ?_
    refine lv_bipush (pc := 97) (v := 7) hx hb d_number_97 (by decide) ?_
    refine ob2 hm (fun x10 S11 e9 hm => ?_)
    refine r_call (pc := 99) (As := [.int 16, .int 7]) (rest := []) B hl rfl I (c_digits hR e9) kw_digits rfl (by decide) (by decide) rfl (by simp [Value.category]) d_number_99 (fun H locs I => ?_)
    refine q_istore (pc := 102) (i := 4) (lo' := [some (.ref h), some (.int y1), some (.int y2), none, some (.int x10), some (.int z0)]) hx hb d_number_102 hl (Nat.le_of_ble_eq_true rfl) (lx_cn rfl) rfl (fun ls hl => ?_)
    refine lv_goto (pc := 104) (tgt := 136) hx hb d_number_104 (by decide) ?_
    exact w_number_136  B hR (lx_sub (lo' := [some (.ref h), some (.int y1), some (.int y2), none, some (.int x10), none]) hl (by simp [lx_le])) I hm
def m_number_76 (N : Nat) (y1 : Int32) (y2 : Int32) (y4 : Int32) (S : rS) : Option (Int32 × rS) :=
  m_number_77 N  y1 y2 y4 0 S
set_option maxRecDepth 100000 in
set_option maxHeartbeats 4000000 in
theorem w_number_76 {y1 : Int32} {y2 : Int32} {y4 : Int32} {S : rS} (B : BX p m c cb_number 6 s args (.code y_number cb_number 6 (some .boolean) :: wsA) RREF meth (some .boolean) D vwCl (tyL dA) b0 Z) (hR : RR b0 h Z) (hl : lx ls [some (.ref h), some (.int y1), some (.int y2), none, some (.int y4), none]) (I : AI D vwCl b0 (rH dA h S hp0) sz s.heap H locs)  (hm : m_number_76 N  y1 y2 y4 S = some (r, S')) : W p l e { frames := 3, cells := 0, slots := 0, locals := 70 } s m args below meth c H locs 0 0 (MQ below (CQ D vwCl b0 (some (.int r)) (rH dA h S' hp0) sz) args s 0 0 (fun q => b0 ≤ q)) (F0 m 76 ls []) := by
  obtain ⟨hx, hb, -⟩ := B.1
  unfold m_number_76 at hm
  refine lv_iconst (pc := 76) (v := 0) hx hb d_number_76 (by decide) ?_
  exact w_number_77  B hR hl I hm
def m_number_37 (N : Nat) (y1 : Int32) (y2 : Int32) (y3 : Int32) (S : rS) : Option (Int32 × rS) :=
  b1 (m_here N S) (fun x2 => if x2 = 48 then (b1 (rP S 3 ((S.1 3) + 1)) (fun S6 => if y3 = 0 then (b1 (m_here N S6) (fun x9 => if x9 = 120 then (m_number_77 N  y1 y2 0 1 S6) else (m_number_76 N  y1 y2 0 S6))) else (m_number_76 N  y1 y2 0 S6))) else (b2 (m_digits N 10 9 S) (fun x4 S5 => m_number_149 N  y1 y2 x4 S5)))
set_option maxRecDepth 100000 in
set_option maxHeartbeats 4000000 in
theorem w_number_37 {y1 : Int32} {y2 : Int32} {y3 : Int32} {S : rS} (B : BX p m c cb_number 6 s args (.code y_number cb_number 6 (some .boolean) :: wsA) RREF meth (some .boolean) D vwCl (tyL dA) b0 Z) (hR : RR b0 h Z) (hl : lx ls [some (.ref h), some (.int y1), some (.int y2), some (.int y3), none, none]) (I : AI D vwCl b0 (rH dA h S hp0) sz s.heap H locs)  (hm : m_number_37 N  y1 y2 y3 S = some (r, S')) : W p l e { frames := 3, cells := 0, slots := 0, locals := 70 } s m args below meth c H locs 0 0 (MQ below (CQ D vwCl b0 (some (.int r)) (rH dA h S' hp0) sz) args s 0 0 (fun q => b0 ≤ q)) (F0 m 37 ls []) := by
  obtain ⟨hx, hb, -⟩ := B.1
  unfold m_number_37 at hm
  refine lv_iconst (pc := 37) (v := 0) hx hb d_number_37 (by decide) ?_
  refine q_istore (pc := 38) (i := 4) (lo' := [some (.ref h), some (.int y1), some (.int y2), some (.int y3), some (.int 0), none]) hx hb d_number_38 hl (Nat.le_of_ble_eq_true rfl) (lx_ci rfl) rfl (fun ls hl => ?_)
  refine lv_aload_n (pc := 40) (i := 0) hx hb d_number_40 rfl (lx_get hl rfl) ?_
  refine ob1 hm (fun x2 e1 hm => ?_)
  refine r_call (pc := 41) (As := []) (rest := []) B hl rfl I (c_here hR e1) kw_here rfl (by decide) (by decide) rfl (by simp [Value.category]) d_number_41 (fun H locs I => ?_)
  refine lv_bipush (pc := 44) (v := 48) hx hb d_number_44 (by decide) ?_
  refine lv_icmp_ne (pc := 46) (tgt := 139) hx hb d_number_46 (by decide) (fun hc => ?_) (fun hc => ?_)
  · have hm := iff' hc hm
    refine lv_aload_n (pc := 139) (i := 0) hx hb d_number_139 rfl (lx_get hl rfl) ?_
    refine lv_bipush (pc := 140) (v := 10) hx hb d_number_140 (by decide) ?_
    refine lv_bipush (pc := 142) (v := 9) hx hb d_number_142 (by decide) ?_
    refine ob2 hm (fun x4 S5 e3 hm => ?_)
    refine r_call (pc := 144) (As := [.int 10, .int 9]) (rest := []) B hl rfl I (c_digits hR e3) kw_digits rfl (by decide) (by decide) rfl (by simp [Value.category]) d_number_144 (fun H locs I => ?_)
    refine q_istore (pc := 147) (i := 4) (lo' := [some (.ref h), some (.int y1), some (.int y2), some (.int y3), some (.int x4), none]) hx hb d_number_147 hl (Nat.le_of_ble_eq_true rfl) (lx_ci rfl) rfl (fun ls hl => ?_)
    exact w_number_149  B hR (lx_sub (lo' := [some (.ref h), some (.int y1), some (.int y2), none, some (.int x4), none]) hl (by simp [lx_le])) I hm
  · have hm := ift hc hm
    refine lv_aload_n (pc := 49) (i := 0) hx hb d_number_49 rfl (lx_get hl rfl) ?_
    refine lv_dup (pc := 50) hx hb d_number_50 rfl ?_
    refine r_get (pc := 51) (k := 3) (index := 76) B I (by decide) mF_76 rfl rfl d_number_51 ?_
    refine lv_iconst (pc := 54) (v := 1) hx hb d_number_54 (by decide) ?_
    refine lv_iadd (pc := 55) hx hb d_number_55 ?_
    refine ob1 hm (fun S6 e7 hm => ?_)
    refine r_put (pc := 56) (k := 3) (index := 76) B hR I (by decide) mF_76 rfl rfl rfl (fun _ _ => rfl) e7 d_number_56 (fun H locs I => ?_)
    refine lv_iload_n (pc := 59) (i := 3) hx hb d_number_59 rfl (lx_get hl rfl) ?_
    refine lv_if_ne (pc := 60) (tgt := 76) hx hb d_number_60 (by decide) (fun hc => ?_) (fun hc => ?_)
    · have hm := iff' hc hm
      exact w_number_76  B hR (lx_sub (lo' := [some (.ref h), some (.int y1), some (.int y2), none, some (.int 0), none]) hl (by simp [lx_le])) I hm
    · have hm := ift hc hm
      refine lv_aload_n (pc := 63) (i := 0) hx hb d_number_63 rfl (lx_get hl rfl) ?_
      refine ob1 hm (fun x9 e8 hm => ?_)
      refine r_call (pc := 64) (As := []) (rest := []) B hl rfl I (c_here hR e8) kw_here rfl (by decide) (by decide) rfl (by simp [Value.category]) d_number_64 (fun H locs I => ?_)
      refine lv_bipush (pc := 67) (v := 120) hx hb d_number_67 (by decide) ?_
      refine lv_icmp_ne (pc := 69) (tgt := 76) hx hb d_number_69 (by decide) (fun hc => ?_) (fun hc => ?_)
      · have hm := iff' hc hm
        exact w_number_76  B hR (lx_sub (lo' := [some (.ref h), some (.int y1), some (.int y2), none, some (.int 0), none]) hl (by simp [lx_le])) I hm
      · have hm := ift hc hm
        refine lv_iconst (pc := 72) (v := 1) hx hb d_number_72 (by decide) ?_
        refine lv_goto (pc := 73) (tgt := 77) hx hb d_number_73 (by decide) ?_
        exact w_number_77  B hR (lx_sub (lo' := [some (.ref h), some (.int y1), some (.int y2), none, some (.int 0), none]) hl (by simp [lx_le])) I hm
def m_number_22 (N : Nat) (y1 : Int32) (y2 : Int32) (z0 : Int32) (S : rS) : Option (Int32 × rS) :=
  if z0 = 0 then (m_number_37 N  y1 y2 z0 S) else (b1 (rP S 3 ((S.1 3) + 1)) (fun S1 => m_number_37 N  y1 y2 z0 S1))
set_option maxRecDepth 100000 in
set_option maxHeartbeats 4000000 in
theorem w_number_22 {y1 : Int32} {y2 : Int32} {z0 : Int32} {S : rS} (B : BX p m c cb_number 6 s args (.code y_number cb_number 6 (some .boolean) :: wsA) RREF meth (some .boolean) D vwCl (tyL dA) b0 Z) (hR : RR b0 h Z) (hl : lx ls [some (.ref h), some (.int y1), some (.int y2), none, none, none]) (I : AI D vwCl b0 (rH dA h S hp0) sz s.heap H locs)  (hm : m_number_22 N  y1 y2 z0 S = some (r, S')) : W p l e { frames := 3, cells := 0, slots := 0, locals := 70 } s m args below meth c H locs 0 0 (MQ below (CQ D vwCl b0 (some (.int r)) (rH dA h S' hp0) sz) args s 0 0 (fun q => b0 ≤ q)) (F0 m 22 ls [.int z0]) := by
  obtain ⟨hx, hb, -⟩ := B.1
  unfold m_number_22 at hm
  refine q_istore_n (pc := 22) (i := 3) (lo' := [some (.ref h), some (.int y1), some (.int y2), some (.int z0), none, none]) hx hb d_number_22 rfl hl (Nat.le_of_ble_eq_true rfl) (lx_ci rfl) rfl (fun ls hl => ?_)
  refine lv_iload_n (pc := 23) (i := 3) hx hb d_number_23 rfl (lx_get hl rfl) ?_
  refine lv_if_eq (pc := 24) (tgt := 37) hx hb d_number_24 (by decide) (fun hc => ?_) (fun hc => ?_)
  · have hm := ift hc hm
    exact w_number_37  B hR hl I hm
  · have hm := iff' hc hm
    refine lv_aload_n (pc := 27) (i := 0) hx hb d_number_27 rfl (lx_get hl rfl) ?_
    refine lv_dup (pc := 28) hx hb d_number_28 rfl ?_
    refine r_get (pc := 29) (k := 3) (index := 76) B I (by decide) mF_76 rfl rfl d_number_29 ?_
    refine lv_iconst (pc := 32) (v := 1) hx hb d_number_32 (by decide) ?_
    refine lv_iadd (pc := 33) hx hb d_number_33 ?_
    refine ob1 hm (fun S1 e2 hm => ?_)
    refine r_put (pc := 34) (k := 3) (index := 76) B hR I (by decide) mF_76 rfl rfl rfl (fun _ _ => rfl) e2 d_number_34 (fun H locs I => ?_)
    exact w_number_37  B hR hl I hm
def m_number_17 (N : Nat) (y1 : Int32) (y2 : Int32) (S : rS) : Option (Int32 × rS) :=
  m_number_22 N  y1 y2 1 S
set_option maxRecDepth 100000 in
set_option maxHeartbeats 4000000 in
theorem w_number_17 {y1 : Int32} {y2 : Int32} {S : rS} (B : BX p m c cb_number 6 s args (.code y_number cb_number 6 (some .boolean) :: wsA) RREF meth (some .boolean) D vwCl (tyL dA) b0 Z) (hR : RR b0 h Z) (hl : lx ls [some (.ref h), some (.int y1), some (.int y2), none, none, none]) (I : AI D vwCl b0 (rH dA h S hp0) sz s.heap H locs)  (hm : m_number_17 N  y1 y2 S = some (r, S')) : W p l e { frames := 3, cells := 0, slots := 0, locals := 70 } s m args below meth c H locs 0 0 (MQ below (CQ D vwCl b0 (some (.int r)) (rH dA h S' hp0) sz) args s 0 0 (fun q => b0 ≤ q)) (F0 m 17 ls []) := by
  obtain ⟨hx, hb, -⟩ := B.1
  unfold m_number_17 at hm
  refine lv_iconst (pc := 17) (v := 1) hx hb d_number_17 (by decide) ?_
  refine lv_goto (pc := 18) (tgt := 22) hx hb d_number_18 (by decide) ?_
  exact w_number_22  B hR hl I hm
def m_number (N : Nat) (p1 : Int32) (S : rS) : Option (Int32 × rS) :=
  b1 (m_here N S) (fun x2 => if x2 = 43 then (m_number_17 N  p1 x2 S) else (if x2 = 45 then (m_number_17 N  p1 x2 S) else (m_number_22 N  p1 x2 0 S)))
set_option maxRecDepth 100000 in
set_option maxHeartbeats 4000000 in
theorem c_number {p1 : Int32} {S S' : rS} {r : Int32} (hR : RR b0 h Z) (hm : m_number N p1 S = some (r, S')) : Ct l D vwCl (tyL dA) b0 Z y_number (.code y_number cb_number 6 (some .boolean) :: wsA) 3 70 [.ref h, .int p1] (rH dA h S hp0) sz (some (.int r)) (rH dA h S' hp0) 0 0 := by
  refine ct_of (cc := cb_number) (maxL := 6) (ret := (some .boolean)) (lo0 := [some (.ref h), some (.int p1), none, none, none, none]) hR.2 (by decide) rfl (by simp [lg_sl, Value.category]) rfl (by simp [lx_all, lv_args, Value.category]) ?_
  intro p e s m args below meth c ls B hnm hl I
  obtain ⟨hx, hb, -⟩ := B.1
  unfold m_number at hm
  refine lv_aload_n (pc := 0) (i := 0) hx hb d_number_0 rfl (lx_get hl rfl) ?_
  refine ob1 hm (fun x2 e1 hm => ?_)
  refine r_call (pc := 1) (As := []) (rest := []) B hl rfl I (c_here hR e1) kw_here rfl (by decide) (by decide) rfl (by simp [Value.category]) d_number_1 (fun H locs I => ?_)
  refine q_istore_n (pc := 4) (i := 2) (lo' := [some (.ref h), some (.int p1), some (.int x2), none, none, none]) hx hb d_number_4 rfl hl (Nat.le_of_ble_eq_true rfl) (lx_ci rfl) rfl (fun ls hl => ?_)
  refine lv_iload_n (pc := 5) (i := 2) hx hb d_number_5 rfl (lx_get hl rfl) ?_
  refine lv_bipush (pc := 6) (v := 43) hx hb d_number_6 (by decide) ?_
  refine lv_icmp_eq (pc := 8) (tgt := 17) hx hb d_number_8 (by decide) (fun hc => ?_) (fun hc => ?_)
  · have hm := ift hc hm
    exact w_number_17  B hR hl I hm
  · have hm := iff' hc hm
    refine lv_iload_n (pc := 11) (i := 2) hx hb d_number_11 rfl (lx_get hl rfl) ?_
    refine lv_bipush (pc := 12) (v := 45) hx hb d_number_12 (by decide) ?_
    refine lv_icmp_ne (pc := 14) (tgt := 21) hx hb d_number_14 (by decide) (fun hc => ?_) (fun hc => ?_)
    · have hm := iff' hc hm
      refine lv_iconst (pc := 21) (v := 0) hx hb d_number_21 (by decide) ?_
      exact w_number_22  B hR hl I hm
    · have hm := ift hc hm
      exact w_number_17  B hR hl I hm
def m_isDate_52 (N : Nat) (y1 : Int32) (S : rS) : Option Int32 :=
  if y1 = 0 then (some 0) else (b1 (rL S 1 ((S.1 3) + 4)) (fun x1 => if x1 = 45 then (some 1) else (some 0)))
set_option maxRecDepth 100000 in
set_option maxHeartbeats 4000000 in
theorem w_isDate_52 {y1 : Int32} {S : rS} (B : BX p m c cb_isDate 3 s args (.code y_isDate cb_isDate 3 (some .boolean) :: wsA) RREF meth (some .boolean) D vwCl (tyL dA) b0 Z) (hR : RR b0 h Z) (hl : lx ls [some (.ref h), some (.int y1), none]) (I : AI D vwCl b0 (rH dA h S hp0) sz s.heap H locs)  (hm : m_isDate_52 N  y1 S = some r) : W p l e { frames := 1, cells := 0, slots := 0, locals := 21 } s m args below meth c H locs 0 0 (MQ below (CQ D vwCl b0 (some (.int r)) (rH dA h S hp0) sz) args s 0 0 (fun q => b0 ≤ q)) (F0 m 52 ls []) := by
  obtain ⟨hx, hb, -⟩ := B.1
  unfold m_isDate_52 at hm
  refine lv_iload_n (pc := 52) (i := 1) hx hb d_isDate_52 rfl (lx_get hl rfl) ?_
  refine lv_if_eq (pc := 53) (tgt := 76) hx hb d_isDate_53 (by decide) (fun hc => ?_) (fun hc => ?_)
  · have hm := ift hc hm
    refine lv_iconst (pc := 76) (v := 0) hx hb d_isDate_76 (by decide) ?_
    cases hm
    exact q_zret (pc := 77) B I rfl (by decide) d_isDate_77
  · have hm := iff' hc hm
    refine lv_aload_n (pc := 56) (i := 0) hx hb d_isDate_56 rfl (lx_get hl rfl) ?_
    refine r_get (pc := 57) (k := 2) (index := 7) B I (by decide) mF_7 rfl rfl d_isDate_57 ?_
    refine lv_aload_n (pc := 60) (i := 0) hx hb d_isDate_60 rfl (lx_get hl rfl) ?_
    refine r_get (pc := 61) (k := 3) (index := 76) B I (by decide) mF_76 rfl rfl d_isDate_61 ?_
    refine lv_iconst (pc := 64) (v := 4) hx hb d_isDate_64 (by decide) ?_
    refine lv_iadd (pc := 65) hx hb d_isDate_65 ?_
    refine ob1 hm (fun x1 e2 hm => ?_)
    refine r_ald (pc := 66) (j := 1) B I (by decide) (by decide) e2 d_isDate_66 ?_
    refine lv_bipush (pc := 67) (v := 45) hx hb d_isDate_67 (by decide) ?_
    refine lv_icmp_ne (pc := 69) (tgt := 76) hx hb d_isDate_69 (by decide) (fun hc => ?_) (fun hc => ?_)
    · have hm := iff' hc hm
      refine lv_iconst (pc := 76) (v := 0) hx hb d_isDate_76 (by decide) ?_
      cases hm
      exact q_zret (pc := 77) B I rfl (by decide) d_isDate_77
    · have hm := ift hc hm
      refine lv_iconst (pc := 72) (v := 1) hx hb d_isDate_72 (by decide) ?_
      refine lv_goto (pc := 73) (tgt := 77) hx hb d_isDate_73 (by decide) ?_
      cases hm
      exact q_zret (pc := 77) B I rfl (by decide) d_isDate_77
def m_isDate_21F (N : Nat) (K21 : Int32 → Int32 → rS → Option Int32) (y1 : Int32) (y2 : Int32) (S : rS) : Option Int32 :=
  if 4 ≤ y2 then (m_isDate_52 N  y1 S) else (if y1 = 0 then (m_isDate_52 N  y1 S) else (b1 (rL S 1 ((S.1 3) + y2)) (fun x1 => b1 (m_isDigit N x1 S) (fun x4 => K21 x4 (y2 + 1) S))))
def m_isDate_21 (N : Nat) : Nat → Int32 → Int32 → rS → Option Int32
  | 0, _, _, _ => none
  | k + 1, y1, y2, S => m_isDate_21F N  (m_isDate_21 N  k) y1 y2 S
set_option maxRecDepth 100000 in
set_option maxHeartbeats 4000000 in
theorem w_isDate_21F {K21 : Int32 → Int32 → rS → Option Int32} {y1 : Int32} {y2 : Int32} {S : rS} (hK21 : ∀ (y1 : Int32) (y2 : Int32) (S : rS) (ls : Array Slot) (H : Heap) (locs : List Loc), lx ls [some (.ref h), some (.int y1), some (.int y2)] → AI D vwCl b0 (rH dA h S hp0) sz s.heap H locs → K21 y1 y2 S = some r → W p l e { frames := 1, cells := 0, slots := 0, locals := 21 } s m args below meth c H locs 0 0 (MQ below (CQ D vwCl b0 (some (.int r)) (rH dA h S hp0) sz) args s 0 0 (fun q => b0 ≤ q)) (F0 m 21 ls [])) (B : BX p m c cb_isDate 3 s args (.code y_isDate cb_isDate 3 (some .boolean) :: wsA) RREF meth (some .boolean) D vwCl (tyL dA) b0 Z) (hR : RR b0 h Z) (hl : lx ls [some (.ref h), some (.int y1), some (.int y2)]) (I : AI D vwCl b0 (rH dA h S hp0) sz s.heap H locs)  (hm : m_isDate_21F N  K21 y1 y2 S = some r) : W p l e { frames := 1, cells := 0, slots := 0, locals := 21 } s m args below meth c H locs 0 0 (MQ below (CQ D vwCl b0 (some (.int r)) (rH dA h S hp0) sz) args s 0 0 (fun q => b0 ≤ q)) (F0 m 21 ls []) := by
  obtain ⟨hx, hb, -⟩ := B.1
  unfold m_isDate_21F at hm
  refine lv_iload_n (pc := 21) (i := 2) hx hb d_isDate_21 rfl (lx_get hl rfl) ?_
  refine lv_iconst (pc := 22) (v := 4) hx hb d_isDate_22 (by decide) ?_
  refine lv_icmp_ge (pc := 23) (tgt := 52) hx hb d_isDate_23 (by decide) (fun hc => ?_) (fun hc => ?_)
  · have hm := ift hc hm
    exact w_isDate_52  B hR (lx_sub (lo' := [some (.ref h), some (.int y1), none]) hl (by simp [lx_le])) I hm
  · have hm := iff' hc hm
    refine lv_iload_n (pc := 26) (i := 1) hx hb d_isDate_26 rfl (lx_get hl rfl) ?_
    refine lv_if_eq (pc := 27) (tgt := 52) hx hb d_isDate_27 (by decide) (fun hc => ?_) (fun hc => ?_)
    · have hm := ift hc hm
      exact w_isDate_52  B hR (lx_sub (lo' := [some (.ref h), some (.int y1), none]) hl (by simp [lx_le])) I hm
    · have hm := iff' hc hm
      refine lv_aload_n (pc := 30) (i := 0) hx hb d_isDate_30 rfl (lx_get hl rfl) ?_
      refine lv_aload_n (pc := 31) (i := 0) hx hb d_isDate_31 rfl (lx_get hl rfl) ?_
      refine r_get (pc := 32) (k := 2) (index := 7) B I (by decide) mF_7 rfl rfl d_isDate_32 ?_
      refine lv_aload_n (pc := 35) (i := 0) hx hb d_isDate_35 rfl (lx_get hl rfl) ?_
      refine r_get (pc := 36) (k := 3) (index := 76) B I (by decide) mF_76 rfl rfl d_isDate_36 ?_
      refine lv_iload_n (pc := 39) (i := 2) hx hb d_isDate_39 rfl (lx_get hl rfl) ?_
      refine lv_iadd (pc := 40) hx hb d_isDate_40 ?_
      refine ob1 hm (fun x1 e2 hm => ?_)
      refine r_ald (pc := 41) (j := 1) B I (by decide) (by decide) e2 d_isDate_41 ?_
      refine ob1 hm (fun x4 e3 hm => ?_)
      refine r_call (pc := 42) (As := [.int x1]) (rest := []) B hl rfl I (c_isDigit hR e3) kw_isDigit rfl (by decide) (by decide) rfl (by simp [Value.category]) d_isDate_42 (fun H locs I => ?_)
      refine q_istore_n (pc := 45) (i := 1) (lo' := [some (.ref h), some (.int x4), some (.int y2)]) hx hb d_isDate_45 rfl hl (Nat.le_of_ble_eq_true rfl) (lx_cr rfl) rfl (fun ls hl => ?_)
      refine q_iinc (pc := 46) (i := 2) (v := y2 + 1) (lo' := [some (.ref h), some (.int x4), some (.int (y2 + 1))]) hx hb d_isDate_46 hl rfl rfl (Nat.le_of_ble_eq_true rfl) (lx_ci rfl) rfl (fun ls hl => ?_)
      refine lv_goto (pc := 49) (tgt := 21) hx hb d_isDate_49 (by decide) ?_
      exact hK21 _ _ _ _ _ _ hl I hm
set_option maxRecDepth 100000 in
set_option maxHeartbeats 4000000 in
theorem w_isDate_21i (B : BX p m c cb_isDate 3 s args (.code y_isDate cb_isDate 3 (some .boolean) :: wsA) RREF meth (some .boolean) D vwCl (tyL dA) b0 Z) (hR : RR b0 h Z) (k : Nat) (y1 : Int32) (y2 : Int32) (S : rS) (ls : Array Slot) (H : Heap) (locs : List Loc) (hl : lx ls [some (.ref h), some (.int y1), some (.int y2)]) (I : AI D vwCl b0 (rH dA h S hp0) sz s.heap H locs)  (hm : m_isDate_21 N  k y1 y2 S = some r) : W p l e { frames := 1, cells := 0, slots := 0, locals := 21 } s m args below meth c H locs 0 0 (MQ below (CQ D vwCl b0 (some (.int r)) (rH dA h S hp0) sz) args s 0 0 (fun q => b0 ≤ q)) (F0 m 21 ls []) := by
  induction k generalizing y1 y2 S ls H locs with
  | zero => cases hm
  | succ k ih => exact w_isDate_21F  (fun y1 y2 S ls H locs hl I hm => ih y1 y2 S ls H locs hl I hm) B hR hl I hm
theorem w_isDate_21 {y1 : Int32} {y2 : Int32} {S : rS} (B : BX p m c cb_isDate 3 s args (.code y_isDate cb_isDate 3 (some .boolean) :: wsA) RREF meth (some .boolean) D vwCl (tyL dA) b0 Z) (hR : RR b0 h Z) (hl : lx ls [some (.ref h), some (.int y1), some (.int y2)]) (I : AI D vwCl b0 (rH dA h S hp0) sz s.heap H locs)  {k : Nat} (hm : m_isDate_21 N  k y1 y2 S = some r) : W p l e { frames := 1, cells := 0, slots := 0, locals := 21 } s m args below meth c H locs 0 0 (MQ below (CQ D vwCl b0 (some (.int r)) (rH dA h S hp0) sz) args s 0 0 (fun q => b0 ≤ q)) (F0 m 21 ls []) := w_isDate_21i  B hR k _ _ S ls H locs hl I hm
def m_isDate_18 (N : Nat) (z0 : Int32) (S : rS) : Option Int32 :=
  m_isDate_21 N  N z0 0 S
set_option maxRecDepth 100000 in
set_option maxHeartbeats 4000000 in
theorem w_isDate_18 {z0 : Int32} {S : rS} (B : BX p m c cb_isDate 3 s args (.code y_isDate cb_isDate 3 (some .boolean) :: wsA) RREF meth (some .boolean) D vwCl (tyL dA) b0 Z) (hR : RR b0 h Z) (hl : lx ls [some (.ref h), none, none]) (I : AI D vwCl b0 (rH dA h S hp0) sz s.heap H locs)  (hm : m_isDate_18 N  z0 S = some r) : W p l e { frames := 1, cells := 0, slots := 0, locals := 21 } s m args below meth c H locs 0 0 (MQ below (CQ D vwCl b0 (some (.int r)) (rH dA h S hp0) sz) args s 0 0 (fun q => b0 ≤ q)) (F0 m 18 ls [.int z0]) := by
  obtain ⟨hx, hb, -⟩ := B.1
  unfold m_isDate_18 at hm
  refine q_istore_n (pc := 18) (i := 1) (lo' := [some (.ref h), some (.int z0), none]) hx hb d_isDate_18 rfl hl (Nat.le_of_ble_eq_true rfl) (lx_cr rfl) rfl (fun ls hl => ?_)
  refine lv_iconst (pc := 19) (v := 0) hx hb d_isDate_19 (by decide) ?_
  refine q_istore_n (pc := 20) (i := 2) (lo' := [some (.ref h), some (.int z0), some (.int 0)]) hx hb d_isDate_20 rfl hl (Nat.le_of_ble_eq_true rfl) (lx_ci rfl) rfl (fun ls hl => ?_)
  exact w_isDate_21  B hR hl I hm
def m_isDate (N : Nat) (S : rS) : Option Int32 :=
  if S.1 1 ≤ (S.1 3) + 4 then (m_isDate_18 N  0 S) else (m_isDate_18 N  1 S)
set_option maxRecDepth 100000 in
set_option maxHeartbeats 4000000 in
theorem c_isDate {S : rS} {r : Int32} (hR : RR b0 h Z) (hm : m_isDate N  S = some r) : Ct l D vwCl (tyL dA) b0 Z y_isDate (.code y_isDate cb_isDate 3 (some .boolean) :: wsA) 1 21 [.ref h] (rH dA h S hp0) sz (some (.int r)) (rH dA h S hp0) 0 0 := by
  refine ct_of (cc := cb_isDate) (maxL := 3) (ret := (some .boolean)) (lo0 := [some (.ref h), none, none]) hR.2 (by decide) rfl (by simp [lg_sl, Value.category]) rfl (by simp [lx_all, lv_args, Value.category]) ?_
  intro p e s m args below meth c ls B hnm hl I
  obtain ⟨hx, hb, -⟩ := B.1
  unfold m_isDate at hm
  refine lv_aload_n (pc := 0) (i := 0) hx hb d_isDate_0 rfl (lx_get hl rfl) ?_
  refine r_get (pc := 1) (k := 3) (index := 76) B I (by decide) mF_76 rfl rfl d_isDate_1 ?_
  refine lv_iconst (pc := 4) (v := 4) hx hb d_isDate_4 (by decide) ?_
  refine lv_iadd (pc := 5) hx hb d_isDate_5 ?_
  refine lv_aload_n (pc := 6) (i := 0) hx hb d_isDate_6 rfl (lx_get hl rfl) ?_
  refine r_get (pc := 7) (k := 1) (index := 73) B I (by decide) mF_73 rfl rfl d_isDate_7 ?_
  refine lv_icmp_ge (pc := 10) (tgt := 17) hx hb d_isDate_10 (by decide) (fun hc => ?_) (fun hc => ?_)
  · have hm := ift hc hm
    refine lv_iconst (pc := 17) (v := 0) hx hb d_isDate_17 (by decide) ?_
    exact w_isDate_18  B hR hl I hm
  · have hm := iff' hc hm
    refine lv_iconst (pc := 13) (v := 1) hx hb d_isDate_13 (by decide) ?_
    refine lv_goto (pc := 14) (tgt := 18) hx hb d_isDate_14 (by decide) ?_
    exact w_isDate_18  B hR hl I hm
def m_two_4F (N : Nat) (K4 : Int32 → Int32 → rS → Option (Int32 × rS)) (y1 : Int32) (y2 : Int32) (S : rS) : Option (Int32 × rS) :=
  if 2 ≤ y2 then (some (y1, S)) else (b1 (m_here N S) (fun x2 => b1 (m_isDigit N x2 S) (fun x4 => if x4 = 0 then (b1 (rP S 4 (S.1 3)) (fun S9 => some ((-1), S9))) else (b1 (m_here N S) (fun x6 => b1 (rP S 3 ((S.1 3) + 1)) (fun S7 => K4 (((10 * y1) + x6) - 48) (y2 + 1) S7))))))
def m_two_4 (N : Nat) : Nat → Int32 → Int32 → rS → Option (Int32 × rS)
  | 0, _, _, _ => none
  | k + 1, y1, y2, S => m_two_4F N  (m_two_4 N  k) y1 y2 S
set_option maxRecDepth 100000 in
set_option maxHeartbeats 4000000 in
theorem w_two_4F {K4 : Int32 → Int32 → rS → Option (Int32 × rS)} {y1 : Int32} {y2 : Int32} {S : rS} (hK4 : ∀ (y1 : Int32) (y2 : Int32) (S : rS) (ls : Array Slot) (H : Heap) (locs : List Loc), lx ls [some (.ref h), some (.int y1), some (.int y2)] → AI D vwCl b0 (rH dA h S hp0) sz s.heap H locs → K4 y1 y2 S = some (r, S') → W p l e { frames := 1, cells := 0, slots := 0, locals := 21 } s m args below meth c H locs 0 0 (MQ below (CQ D vwCl b0 (some (.int r)) (rH dA h S' hp0) sz) args s 0 0 (fun q => b0 ≤ q)) (F0 m 4 ls [])) (B : BX p m c cb_two 3 s args (.code y_two cb_two 3 (some .int) :: wsA) RREF meth (some .int) D vwCl (tyL dA) b0 Z) (hR : RR b0 h Z) (hl : lx ls [some (.ref h), some (.int y1), some (.int y2)]) (I : AI D vwCl b0 (rH dA h S hp0) sz s.heap H locs)  (hm : m_two_4F N  K4 y1 y2 S = some (r, S')) : W p l e { frames := 1, cells := 0, slots := 0, locals := 21 } s m args below meth c H locs 0 0 (MQ below (CQ D vwCl b0 (some (.int r)) (rH dA h S' hp0) sz) args s 0 0 (fun q => b0 ≤ q)) (F0 m 4 ls []) := by
  obtain ⟨hx, hb, -⟩ := B.1
  unfold m_two_4F at hm
  refine lv_iload_n (pc := 4) (i := 2) hx hb d_two_4 rfl (lx_get hl rfl) ?_
  refine lv_iconst (pc := 5) (v := 2) hx hb d_two_5 (by decide) ?_
  refine lv_icmp_ge (pc := 6) (tgt := 59) hx hb d_two_6 (by decide) (fun hc => ?_) (fun hc => ?_)
  · have hm := ift hc hm
    refine lv_iload_n (pc := 59) (i := 1) hx hb d_two_59 rfl (lx_get hl rfl) ?_
    cases hm
    exact q_iret (pc := 60) B I rfl d_two_60
  · have hm := iff' hc hm
    refine lv_aload_n (pc := 9) (i := 0) hx hb d_two_9 rfl (lx_get hl rfl) ?_
    refine lv_aload_n (pc := 10) (i := 0) hx hb d_two_10 rfl (lx_get hl rfl) ?_
    refine ob1 hm (fun x2 e1 hm => ?_)
    refine r_call (pc := 11) (As := []) (rest := [.ref h]) B hl rfl I (c_here hR e1) kw_here rfl (by decide) (by decide) rfl (by simp [Value.category]) d_two_11 (fun H locs I => ?_)
    refine ob1 hm (fun x4 e3 hm => ?_)
    refine r_call (pc := 14) (As := [.int x2]) (rest := []) B hl rfl I (c_isDigit hR e3) kw_isDigit rfl (by decide) (by decide) rfl (by simp [Value.category]) d_two_14 (fun H locs I => ?_)
    refine lv_if_ne (pc := 17) (tgt := 30) hx hb d_two_17 (by decide) (fun hc => ?_) (fun hc => ?_)
    · have hm := iff' hc hm
      refine lv_bipush (pc := 30) (v := 10) hx hb d_two_30 (by decide) ?_
      refine lv_iload_n (pc := 32) (i := 1) hx hb d_two_32 rfl (lx_get hl rfl) ?_
      refine lv_imul (pc := 33) hx hb d_two_33 ?_
      refine lv_aload_n (pc := 34) (i := 0) hx hb d_two_34 rfl (lx_get hl rfl) ?_
      refine ob1 hm (fun x6 e5 hm => ?_)
      refine r_call (pc := 35) (As := []) (rest := [.int (10 * y1)]) B hl rfl I (c_here hR e5) kw_here rfl (by decide) (by decide) rfl (by simp [Value.category]) d_two_35 (fun H locs I => ?_)
      refine lv_iadd (pc := 38) hx hb d_two_38 ?_
      refine lv_bipush (pc := 39) (v := 48) hx hb d_two_39 (by decide) ?_
      refine lv_isub (pc := 41) hx hb d_two_41 ?_
      refine q_istore_n (pc := 42) (i := 1) (lo' := [some (.ref h), some (.int (((10 * y1) + x6) - 48)), some (.int y2)]) hx hb d_two_42 rfl hl (Nat.le_of_ble_eq_true rfl) (lx_cr rfl) rfl (fun ls hl => ?_)
      refine lv_aload_n (pc := 43) (i := 0) hx hb d_two_43 rfl (lx_get hl rfl) ?_
      refine lv_dup (pc := 44) hx hb d_two_44 rfl ?_
      refine r_get (pc := 45) (k := 3) (index := 76) B I (by decide) mF_76 rfl rfl d_two_45 ?_
      refine lv_iconst (pc := 48) (v := 1) hx hb d_two_48 (by decide) ?_
      refine lv_iadd (pc := 49) hx hb d_two_49 ?_
      refine ob1 hm (fun S7 e8 hm => ?_)
      refine r_put (pc := 50) (k := 3) (index := 76) B hR I (by decide) mF_76 rfl rfl rfl (fun _ _ => rfl) e8 d_two_50 (fun H locs I => ?_)
      refine q_iinc (pc := 53) (i := 2) (v := y2 + 1) (lo' := [some (.ref h), some (.int (((10 * y1) + x6) - 48)), some (.int (y2 + 1))]) hx hb d_two_53 hl rfl rfl (Nat.le_of_ble_eq_true rfl) (lx_ci rfl) rfl (fun ls hl => ?_)
      refine lv_goto (pc := 56) (tgt := 4) hx hb d_two_56 (by decide) ?_
      exact hK4 _ _ _ _ _ _ hl I hm
    · have hm := ift hc hm
      refine lv_aload_n (pc := 20) (i := 0) hx hb d_two_20 rfl (lx_get hl rfl) ?_
      refine lv_aload_n (pc := 21) (i := 0) hx hb d_two_21 rfl (lx_get hl rfl) ?_
      refine r_get (pc := 22) (k := 3) (index := 76) B I (by decide) mF_76 rfl rfl d_two_22 ?_
      refine ob1 hm (fun S9 e10 hm => ?_)
      refine r_put (pc := 25) (k := 4) (index := 79) B hR I (by decide) mF_79 rfl rfl rfl (fun _ _ => rfl) e10 d_two_25 (fun H locs I => ?_)
      refine lv_iconst (pc := 28) (v := (-1)) hx hb d_two_28 (by decide) ?_
      cases hm
      exact q_iret (pc := 29) B I rfl d_two_29
set_option maxRecDepth 100000 in
set_option maxHeartbeats 4000000 in
theorem w_two_4i (B : BX p m c cb_two 3 s args (.code y_two cb_two 3 (some .int) :: wsA) RREF meth (some .int) D vwCl (tyL dA) b0 Z) (hR : RR b0 h Z) (k : Nat) (y1 : Int32) (y2 : Int32) (S : rS) (ls : Array Slot) (H : Heap) (locs : List Loc) (hl : lx ls [some (.ref h), some (.int y1), some (.int y2)]) (I : AI D vwCl b0 (rH dA h S hp0) sz s.heap H locs)  (hm : m_two_4 N  k y1 y2 S = some (r, S')) : W p l e { frames := 1, cells := 0, slots := 0, locals := 21 } s m args below meth c H locs 0 0 (MQ below (CQ D vwCl b0 (some (.int r)) (rH dA h S' hp0) sz) args s 0 0 (fun q => b0 ≤ q)) (F0 m 4 ls []) := by
  induction k generalizing y1 y2 S ls H locs with
  | zero => cases hm
  | succ k ih => exact w_two_4F  (fun y1 y2 S ls H locs hl I hm => ih y1 y2 S ls H locs hl I hm) B hR hl I hm
theorem w_two_4 {y1 : Int32} {y2 : Int32} {S : rS} (B : BX p m c cb_two 3 s args (.code y_two cb_two 3 (some .int) :: wsA) RREF meth (some .int) D vwCl (tyL dA) b0 Z) (hR : RR b0 h Z) (hl : lx ls [some (.ref h), some (.int y1), some (.int y2)]) (I : AI D vwCl b0 (rH dA h S hp0) sz s.heap H locs)  {k : Nat} (hm : m_two_4 N  k y1 y2 S = some (r, S')) : W p l e { frames := 1, cells := 0, slots := 0, locals := 21 } s m args below meth c H locs 0 0 (MQ below (CQ D vwCl b0 (some (.int r)) (rH dA h S' hp0) sz) args s 0 0 (fun q => b0 ≤ q)) (F0 m 4 ls []) := w_two_4i  B hR k _ _ S ls H locs hl I hm
def m_two (N : Nat) (S : rS) : Option (Int32 × rS) :=
  m_two_4 N  N 0 0 S
set_option maxRecDepth 100000 in
set_option maxHeartbeats 4000000 in
theorem c_two {S S' : rS} {r : Int32} (hR : RR b0 h Z) (hm : m_two N  S = some (r, S')) : Ct l D vwCl (tyL dA) b0 Z y_two (.code y_two cb_two 3 (some .int) :: wsA) 1 21 [.ref h] (rH dA h S hp0) sz (some (.int r)) (rH dA h S' hp0) 0 0 := by
  refine ct_of (cc := cb_two) (maxL := 3) (ret := (some .int)) (lo0 := [some (.ref h), none, none]) hR.2 (by decide) rfl (by simp [lg_sl, Value.category]) rfl (by simp [lx_all, lv_args, Value.category]) ?_
  intro p e s m args below meth c ls B hnm hl I
  obtain ⟨hx, hb, -⟩ := B.1
  unfold m_two at hm
  refine lv_iconst (pc := 0) (v := 0) hx hb d_two_0 (by decide) ?_
  refine q_istore_n (pc := 1) (i := 1) (lo' := [some (.ref h), some (.int 0), none]) hx hb d_two_1 rfl hl (Nat.le_of_ble_eq_true rfl) (lx_cr rfl) rfl (fun ls hl => ?_)
  refine lv_iconst (pc := 2) (v := 0) hx hb d_two_2 (by decide) ?_
  refine q_istore_n (pc := 3) (i := 2) (lo' := [some (.ref h), some (.int 0), some (.int 0)]) hx hb d_two_3 rfl hl (Nat.le_of_ble_eq_true rfl) (lx_ci rfl) rfl (fun ls hl => ?_)
  exact w_two_4  B hR hl I hm
def m_daysOf (N : Nat) (p1 : Int32) (p2 : Int32) (S : rS) : Option Int32 :=
  if p2 = 2 then (if p1 - p1 / 400 * 400 = 0 then (some 29) else (if p1 - p1 / 4 * 4 = 0 then (if p1 - p1 / 100 * 100 = 0 then (some 28) else (some 29)) else (some 28))) else (if p2 = 4 then (some 30) else (if p2 = 6 then (some 30) else (if p2 = 9 then (some 30) else (if p2 = 11 then (some 30) else (some 31)))))
set_option maxRecDepth 100000 in
set_option maxHeartbeats 4000000 in
theorem c_daysOf {p1 : Int32} {p2 : Int32} {S : rS} {r : Int32} (hR : RR b0 h Z) (hm : m_daysOf N p1 p2 S = some r) : Ct l D vwCl (tyL dA) b0 Z y_daysOf (.code y_daysOf cb_daysOf 3 (some .int) :: wsA) 0 0 [.ref h, .int p1, .int p2] (rH dA h S hp0) sz (some (.int r)) (rH dA h S hp0) 0 0 := by
  refine ct_of (cc := cb_daysOf) (maxL := 3) (ret := (some .int)) (lo0 := [some (.ref h), some (.int p1), some (.int p2)]) hR.2 (by decide) rfl (by simp [lg_sl, Value.category]) rfl (by simp [lx_all, lv_args, Value.category]) ?_
  intro p e s m args below meth c ls B hnm hl I
  obtain ⟨hx, hb, -⟩ := B.1
  unfold m_daysOf at hm
  refine lv_iload_n (pc := 0) (i := 2) hx hb d_daysOf_0 rfl (lx_get hl rfl) ?_
  refine lv_iconst (pc := 1) (v := 2) hx hb d_daysOf_1 (by decide) ?_
  refine lv_icmp_ne (pc := 2) (tgt := 34) hx hb d_daysOf_2 (by decide) (fun hc => ?_) (fun hc => ?_)
  · have hm := iff' hc hm
    refine lv_iload_n (pc := 34) (i := 2) hx hb d_daysOf_34 rfl (lx_get hl rfl) ?_
    refine lv_iconst (pc := 35) (v := 4) hx hb d_daysOf_35 (by decide) ?_
    refine lv_icmp_eq (pc := 36) (tgt := 57) hx hb d_daysOf_36 (by decide) (fun hc => ?_) (fun hc => ?_)
    · have hm := ift hc hm
      refine lv_bipush (pc := 57) (v := 30) hx hb d_daysOf_57 (by decide) ?_
      refine lv_goto (pc := 59) (tgt := 64) hx hb d_daysOf_59 (by decide) ?_
      cases hm
      exact q_iret (pc := 64) B I rfl d_daysOf_64
    · have hm := iff' hc hm
      refine lv_iload_n (pc := 39) (i := 2) hx hb d_daysOf_39 rfl (lx_get hl rfl) ?_
      refine lv_bipush (pc := 40) (v := 6) hx hb d_daysOf_40 (by decide) ?_
      refine lv_icmp_eq (pc := 42) (tgt := 57) hx hb d_daysOf_42 (by decide) (fun hc => ?_) (fun hc => ?_)
      · have hm := ift hc hm
        refine lv_bipush (pc := 57) (v := 30) hx hb d_daysOf_57 (by decide) ?_
        refine lv_goto (pc := 59) (tgt := 64) hx hb d_daysOf_59 (by decide) ?_
        cases hm
        exact q_iret (pc := 64) B I rfl d_daysOf_64
      · have hm := iff' hc hm
        refine lv_iload_n (pc := 45) (i := 2) hx hb d_daysOf_45 rfl (lx_get hl rfl) ?_
        refine lv_bipush (pc := 46) (v := 9) hx hb d_daysOf_46 (by decide) ?_
        refine lv_icmp_eq (pc := 48) (tgt := 57) hx hb d_daysOf_48 (by decide) (fun hc => ?_) (fun hc => ?_)
        · have hm := ift hc hm
          refine lv_bipush (pc := 57) (v := 30) hx hb d_daysOf_57 (by decide) ?_
          refine lv_goto (pc := 59) (tgt := 64) hx hb d_daysOf_59 (by decide) ?_
          cases hm
          exact q_iret (pc := 64) B I rfl d_daysOf_64
        · have hm := iff' hc hm
          refine lv_iload_n (pc := 51) (i := 2) hx hb d_daysOf_51 rfl (lx_get hl rfl) ?_
          refine lv_bipush (pc := 52) (v := 11) hx hb d_daysOf_52 (by decide) ?_
          refine lv_icmp_ne (pc := 54) (tgt := 62) hx hb d_daysOf_54 (by decide) (fun hc => ?_) (fun hc => ?_)
          · have hm := iff' hc hm
            refine lv_bipush (pc := 62) (v := 31) hx hb d_daysOf_62 (by decide) ?_
            cases hm
            exact q_iret (pc := 64) B I rfl d_daysOf_64
          · have hm := ift hc hm
            refine lv_bipush (pc := 57) (v := 30) hx hb d_daysOf_57 (by decide) ?_
            refine lv_goto (pc := 59) (tgt := 64) hx hb d_daysOf_59 (by decide) ?_
            cases hm
            exact q_iret (pc := 64) B I rfl d_daysOf_64
  · have hm := ift hc hm
    refine lv_iload_n (pc := 5) (i := 1) hx hb d_daysOf_5 rfl (lx_get hl rfl) ?_
    refine lv_sipush (pc := 6) (v := 400) hx hb d_daysOf_6 (by decide) ?_
    refine lv_irem (pc := 9) hx hb d_daysOf_9 (by decide) ?_
    refine lv_if_eq (pc := 10) (tgt := 26) hx hb d_daysOf_10 (by decide) (fun hc => ?_) (fun hc => ?_)
    · have hm := ift hc hm
      refine lv_bipush (pc := 26) (v := 29) hx hb d_daysOf_26 (by decide) ?_
      refine lv_goto (pc := 28) (tgt := 33) hx hb d_daysOf_28 (by decide) ?_
      cases hm
      exact q_iret (pc := 33) B I rfl d_daysOf_33
    · have hm := iff' hc hm
      refine lv_iload_n (pc := 13) (i := 1) hx hb d_daysOf_13 rfl (lx_get hl rfl) ?_
      refine lv_iconst (pc := 14) (v := 4) hx hb d_daysOf_14 (by decide) ?_
      refine lv_irem (pc := 15) hx hb d_daysOf_15 (by decide) ?_
      refine lv_if_ne (pc := 16) (tgt := 31) hx hb d_daysOf_16 (by decide) (fun hc => ?_) (fun hc => ?_)
      · have hm := iff' hc hm
        refine lv_bipush (pc := 31) (v := 28) hx hb d_daysOf_31 (by decide) ?_
        cases hm
        exact q_iret (pc := 33) B I rfl d_daysOf_33
      · have hm := ift hc hm
        refine lv_iload_n (pc := 19) (i := 1) hx hb d_daysOf_19 rfl (lx_get hl rfl) ?_
        refine lv_bipush (pc := 20) (v := 100) hx hb d_daysOf_20 (by decide) ?_
        refine lv_irem (pc := 22) hx hb d_daysOf_22 (by decide) ?_
        refine lv_if_eq (pc := 23) (tgt := 31) hx hb d_daysOf_23 (by decide) (fun hc => ?_) (fun hc => ?_)
        · have hm := ift hc hm
          refine lv_bipush (pc := 31) (v := 28) hx hb d_daysOf_31 (by decide) ?_
          cases hm
          exact q_iret (pc := 33) B I rfl d_daysOf_33
        · have hm := iff' hc hm
          refine lv_bipush (pc := 26) (v := 29) hx hb d_daysOf_26 (by decide) ?_
          refine lv_goto (pc := 28) (tgt := 33) hx hb d_daysOf_28 (by decide) ?_
          cases hm
          exact q_iret (pc := 33) B I rfl d_daysOf_33
def m_date_71 (N : Nat) (S : rS) : Option (Int32 × rS) :=
  b2 (m_fail N ((S.1 3) - 2) S) (fun x2 S3 => if x2 = 0 ∨ x2 = 1 then (some (x2, S3)) else none)
set_option maxRecDepth 100000 in
set_option maxHeartbeats 4000000 in
theorem w_date_71 {S : rS} (B : BX p m c cb_date 5 s args (.code y_date cb_date 5 (some .boolean) :: wsA) RREF meth (some .boolean) D vwCl (tyL dA) b0 Z) (hR : RR b0 h Z) (hl : lx ls [some (.ref h), none, none, none, none]) (I : AI D vwCl b0 (rH dA h S hp0) sz s.heap H locs)  (hm : m_date_71 N   S = some (r, S')) : W p l e { frames := 2, cells := 0, slots := 0, locals := 43 } s m args below meth c H locs 0 0 (MQ below (CQ D vwCl b0 (some (.int r)) (rH dA h S' hp0) sz) args s 0 0 (fun q => b0 ≤ q)) (F0 m 71 ls []) := by
  obtain ⟨hx, hb, -⟩ := B.1
  unfold m_date_71 at hm
  refine lv_aload_n (pc := 71) (i := 0) hx hb d_date_71 rfl (lx_get hl rfl) ?_
  refine lv_aload_n (pc := 72) (i := 0) hx hb d_date_72 rfl (lx_get hl rfl) ?_
  refine r_get (pc := 73) (k := 3) (index := 76) B I (by decide) mF_76 rfl rfl d_date_73 ?_
  refine lv_iconst (pc := 76) (v := 2) hx hb d_date_76 (by decide) ?_
  refine lv_isub (pc := 77) hx hb d_date_77 ?_
  refine ob2 hm (fun x2 S3 e1 hm => ?_)
  refine r_call (pc := 78) (As := [.int ((S.1 3) - 2)]) (rest := []) B hl rfl I (c_fail hR e1) kw_fail rfl (by decide) (by decide) rfl (by simp [Value.category]) d_date_78 (fun H locs I => ?_)
  by_cases hq : x2 = 0 ∨ x2 = 1
  · have hm := ift hq hm
    cases hm
    exact q_zret (pc := 81) B I rfl (zn hq) d_date_81
  · have hm := iff' hq hm
    cases hm
def m_date_141 (N : Nat) (S : rS) : Option (Int32 × rS) :=
  b2 (m_fail N ((S.1 3) - 2) S) (fun x2 S3 => if x2 = 0 ∨ x2 = 1 then (some (x2, S3)) else none)
set_option maxRecDepth 100000 in
set_option maxHeartbeats 4000000 in
theorem w_date_141 {S : rS} (B : BX p m c cb_date 5 s args (.code y_date cb_date 5 (some .boolean) :: wsA) RREF meth (some .boolean) D vwCl (tyL dA) b0 Z) (hR : RR b0 h Z) (hl : lx ls [some (.ref h), none, none, none, none]) (I : AI D vwCl b0 (rH dA h S hp0) sz s.heap H locs)  (hm : m_date_141 N   S = some (r, S')) : W p l e { frames := 2, cells := 0, slots := 0, locals := 43 } s m args below meth c H locs 0 0 (MQ below (CQ D vwCl b0 (some (.int r)) (rH dA h S' hp0) sz) args s 0 0 (fun q => b0 ≤ q)) (F0 m 141 ls []) := by
  obtain ⟨hx, hb, -⟩ := B.1
  unfold m_date_141 at hm
  refine lv_aload_n (pc := 141) (i := 0) hx hb d_date_141 rfl (lx_get hl rfl) ?_
  refine lv_aload_n (pc := 142) (i := 0) hx hb d_date_142 rfl (lx_get hl rfl) ?_
  refine r_get (pc := 143) (k := 3) (index := 76) B I (by decide) mF_76 rfl rfl d_date_143 ?_
  refine lv_iconst (pc := 146) (v := 2) hx hb d_date_146 (by decide) ?_
  refine lv_isub (pc := 147) hx hb d_date_147 ?_
  refine ob2 hm (fun x2 S3 e1 hm => ?_)
  refine r_call (pc := 148) (As := [.int ((S.1 3) - 2)]) (rest := []) B hl rfl I (c_fail hR e1) kw_fail rfl (by decide) (by decide) rfl (by simp [Value.category]) d_date_148 (fun H locs I => ?_)
  by_cases hq : x2 = 0 ∨ x2 = 1
  · have hm := ift hq hm
    cases hm
    exact q_zret (pc := 151) B I rfl (zn hq) d_date_151
  · have hm := iff' hq hm
    cases hm
def m_date_4F (N : Nat) (K4 : Int32 → Int32 → Int32 → rS → Option (Int32 × rS)) (y1 : Int32) (y2 : Int32) (y3 : Int32) (S : rS) : Option (Int32 × rS) :=
  if 4 ≤ y3 then (b1 (rP S 3 ((S.1 3) + 1)) (fun S1 => b2 (m_two N S1) (fun x4 S5 => if x4 = (-1) then (some (0, S5)) else (if x4 < 1 then (m_date_71 N  S5) else (if x4 ≤ 12 then (b1 (m_here N S5) (fun x7 => if x7 = 45 then (b1 (rP S5 3 ((S5.1 3) + 1)) (fun S8 => b2 (m_two N S8) (fun x11 S12 => if x11 = (-1) then (some (0, S12)) else (if x11 < 1 then (m_date_141 N  S12) else (b1 (m_daysOf N y2 x4 S12) (fun x14 => if x11 ≤ x14 then (b1 (rT S12 3 y1 4) (fun S15 => b1 (rT S15 4 y1 (((10000 * y2) + (100 * x4)) + x11)) (fun S17 => some (1, S17)))) else (m_date_141 N  S12))))))) else (b2 (m_fail N (S5.1 3) S5) (fun x20 S21 => if x20 = 0 ∨ x20 = 1 then (some (x20, S21)) else none)))) else (m_date_71 N  S5)))))) else (b1 (m_here N S) (fun x23 => b1 (rP S 3 ((S.1 3) + 1)) (fun S24 => K4 y1 (((10 * y2) + x23) - 48) (y3 + 1) S24)))
def m_date_4 (N : Nat) : Nat → Int32 → Int32 → Int32 → rS → Option (Int32 × rS)
  | 0, _, _, _, _ => none
  | k + 1, y1, y2, y3, S => m_date_4F N  (m_date_4 N  k) y1 y2 y3 S
set_option maxRecDepth 100000 in
set_option maxHeartbeats 4000000 in
theorem w_date_4F {K4 : Int32 → Int32 → Int32 → rS → Option (Int32 × rS)} {y1 : Int32} {y2 : Int32} {y3 : Int32} {S : rS} (hK4 : ∀ (y1 : Int32) (y2 : Int32) (y3 : Int32) (S : rS) (ls : Array Slot) (H : Heap) (locs : List Loc), lx ls [some (.ref h), some (.int y1), some (.int y2), some (.int y3), none] → AI D vwCl b0 (rH dA h S hp0) sz s.heap H locs → K4 y1 y2 y3 S = some (r, S') → W p l e { frames := 2, cells := 0, slots := 0, locals := 43 } s m args below meth c H locs 0 0 (MQ below (CQ D vwCl b0 (some (.int r)) (rH dA h S' hp0) sz) args s 0 0 (fun q => b0 ≤ q)) (F0 m 4 ls [])) (B : BX p m c cb_date 5 s args (.code y_date cb_date 5 (some .boolean) :: wsA) RREF meth (some .boolean) D vwCl (tyL dA) b0 Z) (hR : RR b0 h Z) (hl : lx ls [some (.ref h), some (.int y1), some (.int y2), some (.int y3), none]) (I : AI D vwCl b0 (rH dA h S hp0) sz s.heap H locs)  (hm : m_date_4F N  K4 y1 y2 y3 S = some (r, S')) : W p l e { frames := 2, cells := 0, slots := 0, locals := 43 } s m args below meth c H locs 0 0 (MQ below (CQ D vwCl b0 (some (.int r)) (rH dA h S' hp0) sz) args s 0 0 (fun q => b0 ≤ q)) (F0 m 4 ls []) := by
  obtain ⟨hx, hb, -⟩ := B.1
  unfold m_date_4F at hm
  refine lv_iload_n (pc := 4) (i := 3) hx hb d_date_4 rfl (lx_get hl rfl) ?_
  refine lv_iconst (pc := 5) (v := 4) hx hb d_date_5 (by decide) ?_
  refine lv_icmp_ge (pc := 6) (tgt := 38) hx hb d_date_6 (by decide) (fun hc => ?_) (fun hc => ?_)
  · have hm := ift hc hm
    refine lv_aload_n (pc := 38) (i := 0) hx hb d_date_38 rfl (lx_get hl rfl) ?_
    refine lv_dup (pc := 39) hx hb d_date_39 rfl ?_
    refine r_get (pc := 40) (k := 3) (index := 76) B I (by decide) mF_76 rfl rfl d_date_40 ?_
    refine lv_iconst (pc := 43) (v := 1) hx hb d_date_43 (by decide) ?_
    refine lv_iadd (pc := 44) hx hb d_date_44 ?_
    refine ob1 hm (fun S1 e2 hm => ?_)
    refine r_put (pc := 45) (k := 3) (index := 76) B hR I (by decide) mF_76 rfl rfl rfl (fun _ _ => rfl) e2 d_date_45 (fun H locs I => ?_)
    refine lv_aload_n (pc := 48) (i := 0) hx hb d_date_48 rfl (lx_get hl rfl) ?_
    refine ob2 hm (fun x4 S5 e3 hm => ?_)
    refine r_call (pc := 49) (As := []) (rest := []) B hl rfl I (c_two hR e3) kw_two rfl (by decide) (by decide) rfl (by simp [Value.category]) d_date_49 (fun H locs I => ?_)
    refine q_istore_n (pc := 52) (i := 3) (lo' := [some (.ref h), some (.int y1), some (.int y2), some (.int x4), none]) hx hb d_date_52 rfl hl (Nat.le_of_ble_eq_true rfl) (lx_ci rfl) rfl (fun ls hl => ?_)
    refine lv_iload_n (pc := 53) (i := 3) hx hb d_date_53 rfl (lx_get hl rfl) ?_
    refine lv_iconst (pc := 54) (v := (-1)) hx hb d_date_54 (by decide) ?_
    refine lv_icmp_ne (pc := 55) (tgt := 60) hx hb d_date_55 (by decide) (fun hc => ?_) (fun hc => ?_)
    · have hm := iff' hc hm
      refine lv_iload_n (pc := 60) (i := 3) hx hb d_date_60 rfl (lx_get hl rfl) ?_
      refine lv_iconst (pc := 61) (v := 1) hx hb d_date_61 (by decide) ?_
      refine lv_icmp_lt (pc := 62) (tgt := 71) hx hb d_date_62 (by decide) (fun hc => ?_) (fun hc => ?_)
      · have hm := ift hc hm
        exact w_date_71  B hR (lx_sub (lo' := [some (.ref h), none, none, none, none]) hl (by simp [lx_le])) I hm
      · have hm := iff' hc hm
        refine lv_iload_n (pc := 65) (i := 3) hx hb d_date_65 rfl (lx_get hl rfl) ?_
        refine lv_bipush (pc := 66) (v := 12) hx hb d_date_66 (by decide) ?_
        refine lv_icmp_le (pc := 68) (tgt := 82) hx hb d_date_68 (by decide) (fun hc => ?_) (fun hc => ?_)
        · have hm := ift hc hm
          refine lv_aload_n (pc := 82) (i := 0) hx hb d_date_82 rfl (lx_get hl rfl) ?_
          refine ob1 hm (fun x7 e6 hm => ?_)
          refine r_call (pc := 83) (As := []) (rest := []) B hl rfl I (c_here hR e6) kw_here rfl (by decide) (by decide) rfl (by simp [Value.category]) d_date_83 (fun H locs I => ?_)
          refine lv_bipush (pc := 86) (v := 45) hx hb d_date_86 (by decide) ?_
          refine lv_icmp_eq (pc := 88) (tgt := 100) hx hb d_date_88 (by decide) (fun hc => ?_) (fun hc => ?_)
          · have hm := ift hc hm
            refine lv_aload_n (pc := 100) (i := 0) hx hb d_date_100 rfl (lx_get hl rfl) ?_
            refine lv_dup (pc := 101) hx hb d_date_101 rfl ?_
            refine r_get (pc := 102) (k := 3) (index := 76) B I (by decide) mF_76 rfl rfl d_date_102 ?_
            refine lv_iconst (pc := 105) (v := 1) hx hb d_date_105 (by decide) ?_
            refine lv_iadd (pc := 106) hx hb d_date_106 ?_
            refine ob1 hm (fun S8 e9 hm => ?_)
            refine r_put (pc := 107) (k := 3) (index := 76) B hR I (by decide) mF_76 rfl rfl rfl (fun _ _ => rfl) e9 d_date_107 (fun H locs I => ?_)
            refine lv_aload_n (pc := 110) (i := 0) hx hb d_date_110 rfl (lx_get hl rfl) ?_
            refine ob2 hm (fun x11 S12 e10 hm => ?_)
            refine r_call (pc := 111) (As := []) (rest := []) B hl rfl I (c_two hR e10) kw_two rfl (by decide) (by decide) rfl (by simp [Value.category]) d_date_111 (fun H locs I => ?_)
            refine q_istore (pc := 114) (i := 4) (lo' := [some (.ref h), some (.int y1), some (.int y2), some (.int x4), some (.int x11)]) hx hb d_date_114 hl (Nat.le_of_ble_eq_true rfl) (lx_ci rfl) rfl (fun ls hl => ?_)
            refine lv_iload (pc := 116) (i := 4) hx hb d_date_116 (lx_get hl rfl) ?_
            refine lv_iconst (pc := 118) (v := (-1)) hx hb d_date_118 (by decide) ?_
            refine lv_icmp_ne (pc := 119) (tgt := 124) hx hb d_date_119 (by decide) (fun hc => ?_) (fun hc => ?_)
            · have hm := iff' hc hm
              refine lv_iload (pc := 124) (i := 4) hx hb d_date_124 (lx_get hl rfl) ?_
              refine lv_iconst (pc := 126) (v := 1) hx hb d_date_126 (by decide) ?_
              refine lv_icmp_lt (pc := 127) (tgt := 141) hx hb d_date_127 (by decide) (fun hc => ?_) (fun hc => ?_)
              · have hm := ift hc hm
                exact w_date_141  B hR (lx_sub (lo' := [some (.ref h), none, none, none, none]) hl (by simp [lx_le])) I hm
              · have hm := iff' hc hm
                refine lv_iload (pc := 130) (i := 4) hx hb d_date_130 (lx_get hl rfl) ?_
                refine lv_aload_n (pc := 132) (i := 0) hx hb d_date_132 rfl (lx_get hl rfl) ?_
                refine lv_iload_n (pc := 133) (i := 2) hx hb d_date_133 rfl (lx_get hl rfl) ?_
                refine lv_iload_n (pc := 134) (i := 3) hx hb d_date_134 rfl (lx_get hl rfl) ?_
                refine ob1 hm (fun x14 e13 hm => ?_)
                refine r_call (pc := 135) (As := [.int y2, .int x4]) (rest := [.int x11]) B hl rfl I (c_daysOf hR e13) kw_daysOf rfl (by decide) (by decide) rfl (by simp [Value.category]) d_date_135 (fun H locs I => ?_)
                refine lv_icmp_le (pc := 138) (tgt := 152) hx hb d_date_138 (by decide) (fun hc => ?_) (fun hc => ?_)
                · have hm := ift hc hm
                  refine lv_aload_n (pc := 152) (i := 0) hx hb d_date_152 rfl (lx_get hl rfl) ?_
                  refine r_get (pc := 153) (k := 7) (index := 16) B I (by decide) mF_16 rfl rfl d_date_153 ?_
                  refine lv_iload_n (pc := 156) (i := 1) hx hb d_date_156 rfl (lx_get hl rfl) ?_
                  refine lv_iconst (pc := 157) (v := 4) hx hb d_date_157 (by decide) ?_
                  refine ob1 hm (fun S15 e16 hm => ?_)
                  refine r_ast (pc := 158) (j := 3) B hR I (by decide) (by decide) e16 d_date_158 (fun H locs I => ?_)
                  refine lv_aload_n (pc := 159) (i := 0) hx hb d_date_159 rfl (lx_get hl rfl) ?_
                  refine r_get (pc := 160) (k := 8) (index := 19) B I (by decide) mF_19 rfl rfl d_date_160 ?_
                  refine lv_iload_n (pc := 163) (i := 1) hx hb d_date_163 rfl (lx_get hl rfl) ?_
                  refine lv_sipush (pc := 164) (v := 10000) hx hb d_date_164 (by decide) ?_
                  refine lv_iload_n (pc := 167) (i := 2) hx hb d_date_167 rfl (lx_get hl rfl) ?_
                  refine lv_imul (pc := 168) hx hb d_date_168 ?_
                  refine lv_bipush (pc := 169) (v := 100) hx hb d_date_169 (by decide) ?_
                  refine lv_iload_n (pc := 171) (i := 3) hx hb d_date_171 rfl (lx_get hl rfl) ?_
                  refine lv_imul (pc := 172) hx hb d_date_172 ?_
                  refine lv_iadd (pc := 173) hx hb d_date_173 ?_
                  refine lv_iload (pc := 174) (i := 4) hx hb d_date_174 (lx_get hl rfl) ?_
                  refine lv_iadd (pc := 176) hx hb d_date_176 ?_
                  refine ob1 hm (fun S17 e18 hm => ?_)
                  refine r_ast (pc := 177) (j := 4) B hR I (by decide) (by decide) e18 d_date_177 (fun H locs I => ?_)
                  refine lv_iconst (pc := 178) (v := 1) hx hb d_date_178 (by decide) ?_
                  cases hm
                  exact q_zret (pc := 179) B I rfl (by decide) d_date_179
                · have hm := iff' hc hm
                  exact w_date_141  B hR (lx_sub (lo' := [some (.ref h), none, none, none, none]) hl (by simp [lx_le])) I hm
            · have hm := ift hc hm
              refine lv_iconst (pc := 122) (v := 0) hx hb d_date_122 (by decide) ?_
              cases hm
              exact q_zret (pc := 123) B I rfl (by decide) d_date_123
          · have hm := iff' hc hm
            refine lv_aload_n (pc := 91) (i := 0) hx hb d_date_91 rfl (lx_get hl rfl) ?_
            refine lv_aload_n (pc := 92) (i := 0) hx hb d_date_92 rfl (lx_get hl rfl) ?_
            refine r_get (pc := 93) (k := 3) (index := 76) B I (by decide) mF_76 rfl rfl d_date_93 ?_
            refine ob2 hm (fun x20 S21 e19 hm => ?_)
            refine r_call (pc := 96) (As := [.int (S5.1 3)]) (rest := []) B hl rfl I (c_fail hR e19) kw_fail rfl (by decide) (by decide) rfl (by simp [Value.category]) d_date_96 (fun H locs I => ?_)
            by_cases hq : x20 = 0 ∨ x20 = 1
            · have hm := ift hq hm
              cases hm
              exact q_zret (pc := 99) B I rfl (zn hq) d_date_99
            · have hm := iff' hq hm
              cases hm
        · have hm := iff' hc hm
          exact w_date_71  B hR (lx_sub (lo' := [some (.ref h), none, none, none, none]) hl (by simp [lx_le])) I hm
    · have hm := ift hc hm
      refine lv_iconst (pc := 58) (v := 0) hx hb d_date_58 (by decide) ?_
      cases hm
      exact q_zret (pc := 59) B I rfl (by decide) d_date_59
  · have hm := iff' hc hm
    refine lv_bipush (pc := 9) (v := 10) hx hb d_date_9 (by decide) ?_
    refine lv_iload_n (pc := 11) (i := 2) hx hb d_date_11 rfl (lx_get hl rfl) ?_
    refine lv_imul (pc := 12) hx hb d_date_12 ?_
    refine lv_aload_n (pc := 13) (i := 0) hx hb d_date_13 rfl (lx_get hl rfl) ?_
    refine ob1 hm (fun x23 e22 hm => ?_)
    refine r_call (pc := 14) (As := []) (rest := [.int (10 * y2)]) B hl rfl I (c_here hR e22) kw_here rfl (by decide) (by decide) rfl (by simp [Value.category]) d_date_14 (fun H locs I => ?_)
    refine lv_iadd (pc := 17) hx hb d_date_17 ?_
    refine lv_bipush (pc := 18) (v := 48) hx hb d_date_18 (by decide) ?_
    refine lv_isub (pc := 20) hx hb d_date_20 ?_
    refine q_istore_n (pc := 21) (i := 2) (lo' := [some (.ref h), some (.int y1), some (.int (((10 * y2) + x23) - 48)), some (.int y3), none]) hx hb d_date_21 rfl hl (Nat.le_of_ble_eq_true rfl) (lx_ci rfl) rfl (fun ls hl => ?_)
    refine lv_aload_n (pc := 22) (i := 0) hx hb d_date_22 rfl (lx_get hl rfl) ?_
    refine lv_dup (pc := 23) hx hb d_date_23 rfl ?_
    refine r_get (pc := 24) (k := 3) (index := 76) B I (by decide) mF_76 rfl rfl d_date_24 ?_
    refine lv_iconst (pc := 27) (v := 1) hx hb d_date_27 (by decide) ?_
    refine lv_iadd (pc := 28) hx hb d_date_28 ?_
    refine ob1 hm (fun S24 e25 hm => ?_)
    refine r_put (pc := 29) (k := 3) (index := 76) B hR I (by decide) mF_76 rfl rfl rfl (fun _ _ => rfl) e25 d_date_29 (fun H locs I => ?_)
    refine q_iinc (pc := 32) (i := 3) (v := y3 + 1) (lo' := [some (.ref h), some (.int y1), some (.int (((10 * y2) + x23) - 48)), some (.int (y3 + 1)), none]) hx hb d_date_32 hl rfl rfl (Nat.le_of_ble_eq_true rfl) (lx_ci rfl) rfl (fun ls hl => ?_)
    refine lv_goto (pc := 35) (tgt := 4) hx hb d_date_35 (by decide) ?_
    exact hK4 _ _ _ _ _ _ _ hl I hm
set_option maxRecDepth 100000 in
set_option maxHeartbeats 4000000 in
theorem w_date_4i (B : BX p m c cb_date 5 s args (.code y_date cb_date 5 (some .boolean) :: wsA) RREF meth (some .boolean) D vwCl (tyL dA) b0 Z) (hR : RR b0 h Z) (k : Nat) (y1 : Int32) (y2 : Int32) (y3 : Int32) (S : rS) (ls : Array Slot) (H : Heap) (locs : List Loc) (hl : lx ls [some (.ref h), some (.int y1), some (.int y2), some (.int y3), none]) (I : AI D vwCl b0 (rH dA h S hp0) sz s.heap H locs)  (hm : m_date_4 N  k y1 y2 y3 S = some (r, S')) : W p l e { frames := 2, cells := 0, slots := 0, locals := 43 } s m args below meth c H locs 0 0 (MQ below (CQ D vwCl b0 (some (.int r)) (rH dA h S' hp0) sz) args s 0 0 (fun q => b0 ≤ q)) (F0 m 4 ls []) := by
  induction k generalizing y1 y2 y3 S ls H locs with
  | zero => cases hm
  | succ k ih => exact w_date_4F  (fun y1 y2 y3 S ls H locs hl I hm => ih y1 y2 y3 S ls H locs hl I hm) B hR hl I hm
theorem w_date_4 {y1 : Int32} {y2 : Int32} {y3 : Int32} {S : rS} (B : BX p m c cb_date 5 s args (.code y_date cb_date 5 (some .boolean) :: wsA) RREF meth (some .boolean) D vwCl (tyL dA) b0 Z) (hR : RR b0 h Z) (hl : lx ls [some (.ref h), some (.int y1), some (.int y2), some (.int y3), none]) (I : AI D vwCl b0 (rH dA h S hp0) sz s.heap H locs)  {k : Nat} (hm : m_date_4 N  k y1 y2 y3 S = some (r, S')) : W p l e { frames := 2, cells := 0, slots := 0, locals := 43 } s m args below meth c H locs 0 0 (MQ below (CQ D vwCl b0 (some (.int r)) (rH dA h S' hp0) sz) args s 0 0 (fun q => b0 ≤ q)) (F0 m 4 ls []) := w_date_4i  B hR k _ _ _ S ls H locs hl I hm
def m_date (N : Nat) (p1 : Int32) (S : rS) : Option (Int32 × rS) :=
  m_date_4 N  N p1 0 0 S
set_option maxRecDepth 100000 in
set_option maxHeartbeats 4000000 in
theorem c_date {p1 : Int32} {S S' : rS} {r : Int32} (hR : RR b0 h Z) (hm : m_date N p1 S = some (r, S')) : Ct l D vwCl (tyL dA) b0 Z y_date (.code y_date cb_date 5 (some .boolean) :: wsA) 2 43 [.ref h, .int p1] (rH dA h S hp0) sz (some (.int r)) (rH dA h S' hp0) 0 0 := by
  refine ct_of (cc := cb_date) (maxL := 5) (ret := (some .boolean)) (lo0 := [some (.ref h), some (.int p1), none, none, none]) hR.2 (by decide) rfl (by simp [lg_sl, Value.category]) rfl (by simp [lx_all, lv_args, Value.category]) ?_
  intro p e s m args below meth c ls B hnm hl I
  obtain ⟨hx, hb, -⟩ := B.1
  unfold m_date at hm
  refine lv_iconst (pc := 0) (v := 0) hx hb d_date_0 (by decide) ?_
  refine q_istore_n (pc := 1) (i := 2) (lo' := [some (.ref h), some (.int p1), some (.int 0), none, none]) hx hb d_date_1 rfl hl (Nat.le_of_ble_eq_true rfl) (lx_ci rfl) rfl (fun ls hl => ?_)
  refine lv_iconst (pc := 2) (v := 0) hx hb d_date_2 (by decide) ?_
  refine q_istore_n (pc := 3) (i := 3) (lo' := [some (.ref h), some (.int p1), some (.int 0), some (.int 0), none]) hx hb d_date_3 rfl hl (Nat.le_of_ble_eq_true rfl) (lx_ci rfl) rfl (fun ls hl => ?_)
  exact w_date_4  B hR hl I hm
def m_letterOf (N : Nat) (p1 : Int32) (p2 : Int32) (S : rS) : Option Int32 :=
  if p2 = 0 then (if p1 = 0 then (some 102) else (some 116)) else (if p2 = 1 then (if p1 = 0 then (some 97) else (some 114)) else (if p2 = 2 then (if p1 = 0 then (some 108) else (some 117)) else (if p2 = 3 then (if p1 = 0 then (some 115) else (some 101)) else (some 101))))
set_option maxRecDepth 100000 in
set_option maxHeartbeats 4000000 in
theorem c_letterOf {p1 : Int32} {p2 : Int32} {S : rS} {r : Int32} (hR : RR b0 h Z) (hm : m_letterOf N p1 p2 S = some r) : Ct l D vwCl (tyL dA) b0 Z y_letterOf (.code y_letterOf cb_letterOf 3 (some .int) :: wsA) 0 0 [.ref h, .int p1, .int p2] (rH dA h S hp0) sz (some (.int r)) (rH dA h S hp0) 0 0 := by
  refine ct_of (cc := cb_letterOf) (maxL := 3) (ret := (some .int)) (lo0 := [some (.ref h), some (.int p1), some (.int p2)]) hR.2 (by decide) rfl (by simp [lg_sl, Value.category]) rfl (by simp [lx_all, lv_args, Value.category]) ?_
  intro p e s m args below meth c ls B hnm hl I
  obtain ⟨hx, hb, -⟩ := B.1
  unfold m_letterOf at hm
  refine lv_iload_n (pc := 0) (i := 2) hx hb d_letterOf_0 rfl (lx_get hl rfl) ?_
  by_cases hs1 : p2 = 0
  · have hm := ift hs1 hm
    refine lv_tableIn (pc := 1) (tgt := 32) hx hb d_letterOf_1 (by rw [hs1]; decide) (by rw [hs1]; decide) (by rw [hs1]; rfl) (by decide) ?_
    refine lv_iload_n (pc := 32) (i := 1) hx hb d_letterOf_32 rfl (lx_get hl rfl) ?_
    refine lv_if_eq (pc := 33) (tgt := 41) hx hb d_letterOf_33 (by decide) (fun hc => ?_) (fun hc => ?_)
    · have hm := ift hc hm
      refine lv_bipush (pc := 41) (v := 102) hx hb d_letterOf_41 (by decide) ?_
      cases hm
      exact q_iret (pc := 43) B I rfl d_letterOf_43
    · have hm := iff' hc hm
      refine lv_bipush (pc := 36) (v := 116) hx hb d_letterOf_36 (by decide) ?_
      refine lv_goto (pc := 38) (tgt := 43) hx hb d_letterOf_38 (by decide) ?_
      cases hm
      exact q_iret (pc := 43) B I rfl d_letterOf_43
  · have hm := iff' hs1 hm
    by_cases hs2 : p2 = 1
    · have hm := ift hs2 hm
      refine lv_tableIn (pc := 1) (tgt := 44) hx hb d_letterOf_1 (by rw [hs2]; decide) (by rw [hs2]; decide) (by rw [hs2]; rfl) (by decide) ?_
      refine lv_iload_n (pc := 44) (i := 1) hx hb d_letterOf_44 rfl (lx_get hl rfl) ?_
      refine lv_if_eq (pc := 45) (tgt := 53) hx hb d_letterOf_45 (by decide) (fun hc => ?_) (fun hc => ?_)
      · have hm := ift hc hm
        refine lv_bipush (pc := 53) (v := 97) hx hb d_letterOf_53 (by decide) ?_
        cases hm
        exact q_iret (pc := 55) B I rfl d_letterOf_55
      · have hm := iff' hc hm
        refine lv_bipush (pc := 48) (v := 114) hx hb d_letterOf_48 (by decide) ?_
        refine lv_goto (pc := 50) (tgt := 55) hx hb d_letterOf_50 (by decide) ?_
        cases hm
        exact q_iret (pc := 55) B I rfl d_letterOf_55
    · have hm := iff' hs2 hm
      by_cases hs3 : p2 = 2
      · have hm := ift hs3 hm
        refine lv_tableIn (pc := 1) (tgt := 56) hx hb d_letterOf_1 (by rw [hs3]; decide) (by rw [hs3]; decide) (by rw [hs3]; rfl) (by decide) ?_
        refine lv_iload_n (pc := 56) (i := 1) hx hb d_letterOf_56 rfl (lx_get hl rfl) ?_
        refine lv_if_eq (pc := 57) (tgt := 65) hx hb d_letterOf_57 (by decide) (fun hc => ?_) (fun hc => ?_)
        · have hm := ift hc hm
          refine lv_bipush (pc := 65) (v := 108) hx hb d_letterOf_65 (by decide) ?_
          cases hm
          exact q_iret (pc := 67) B I rfl d_letterOf_67
        · have hm := iff' hc hm
          refine lv_bipush (pc := 60) (v := 117) hx hb d_letterOf_60 (by decide) ?_
          refine lv_goto (pc := 62) (tgt := 67) hx hb d_letterOf_62 (by decide) ?_
          cases hm
          exact q_iret (pc := 67) B I rfl d_letterOf_67
      · have hm := iff' hs3 hm
        by_cases hs4 : p2 = 3
        · have hm := ift hs4 hm
          refine lv_tableIn (pc := 1) (tgt := 68) hx hb d_letterOf_1 (by rw [hs4]; decide) (by rw [hs4]; decide) (by rw [hs4]; rfl) (by decide) ?_
          refine lv_iload_n (pc := 68) (i := 1) hx hb d_letterOf_68 rfl (lx_get hl rfl) ?_
          refine lv_if_eq (pc := 69) (tgt := 77) hx hb d_letterOf_69 (by decide) (fun hc => ?_) (fun hc => ?_)
          · have hm := ift hc hm
            refine lv_bipush (pc := 77) (v := 115) hx hb d_letterOf_77 (by decide) ?_
            cases hm
            exact q_iret (pc := 79) B I rfl d_letterOf_79
          · have hm := iff' hc hm
            refine lv_bipush (pc := 72) (v := 101) hx hb d_letterOf_72 (by decide) ?_
            refine lv_goto (pc := 74) (tgt := 79) hx hb d_letterOf_74 (by decide) ?_
            cases hm
            exact q_iret (pc := 79) B I rfl d_letterOf_79
        · have hm := iff' hs4 hm
          refine lv_tableOut (pc := 1) (tgt := 80) hx hb d_letterOf_1 (by have := lv_neT hs1 (a := 0) (by decide); have := lv_neT hs2 (a := 1) (by decide); have := lv_neT hs3 (a := 2) (by decide); have := lv_neT hs4 (a := 3) (by decide); omega) (by decide) ?_
          refine lv_bipush (pc := 80) (v := 101) hx hb d_letterOf_80 (by decide) ?_
          cases hm
          exact q_iret (pc := 82) B I rfl d_letterOf_82
def m_truth_89 (N : Nat) (z1 : Int32) (z2 : Int32) (S : rS) : Option (Int32 × rS) :=
  b1 (rT S 4 z1 z2) (fun S1 => some (1, S1))
set_option maxRecDepth 100000 in
set_option maxHeartbeats 4000000 in
theorem w_truth_89 {z1 : Int32} {z2 : Int32} {S : rS} (B : BX p m c cb_truth 4 s args (.code y_truth cb_truth 4 (some .boolean) :: wsA) RREF meth (some .boolean) D vwCl (tyL dA) b0 Z) (hR : RR b0 h Z) (hl : lx ls [some (.ref h), none, none, none]) (I : AI D vwCl b0 (rH dA h S hp0) sz s.heap H locs)  (hm : m_truth_89 N  z1 z2 S = some (r, S')) : W p l e { frames := 1, cells := 0, slots := 0, locals := 22 } s m args below meth c H locs 0 0 (MQ below (CQ D vwCl b0 (some (.int r)) (rH dA h S' hp0) sz) args s 0 0 (fun q => b0 ≤ q)) (F0 m 89 ls [.int z2, .int z1, .ref (h + 4)]) := by
  obtain ⟨hx, hb, -⟩ := B.1
  unfold m_truth_89 at hm
  refine ob1 hm (fun S1 e2 hm => ?_)
  refine r_ast (pc := 89) (j := 4) B hR I (by decide) (by decide) e2 d_truth_89 (fun H locs I => ?_)
  refine lv_iconst (pc := 90) (v := 1) hx hb d_truth_90 (by decide) ?_
  cases hm
  exact q_zret (pc := 91) B I rfl (by decide) d_truth_91
def m_truth_27 (N : Nat) (K17 : Int32 → Int32 → Int32 → rS → Option (Int32 × rS)) (y1 : Int32) (y2 : Int32) (y3 : Int32) (z0 : Int32) (z1 : Int32) (S : rS) : Option (Int32 × rS) :=
  if z1 ≤ z0 then (b1 (rT S 3 y1 2) (fun S1 => if y2 = 0 then (m_truth_89 N  y1 0 S1) else (m_truth_89 N  y1 1 S1))) else (b1 (m_here N S) (fun x4 => b1 (m_letterOf N y2 y3 S) (fun x6 => if x4 = x6 then (b1 (rP S 3 ((S.1 3) + 1)) (fun S7 => K17 y1 y2 (y3 + 1) S7)) else (b2 (m_fail N (S.1 3) S) (fun x10 S11 => if x10 = 0 ∨ x10 = 1 then (some (x10, S11)) else none)))))
set_option maxRecDepth 100000 in
set_option maxHeartbeats 4000000 in
theorem w_truth_27 {K17 : Int32 → Int32 → Int32 → rS → Option (Int32 × rS)} {y1 : Int32} {y2 : Int32} {y3 : Int32} {z0 : Int32} {z1 : Int32} {S : rS} (hK17 : ∀ (y1 : Int32) (y2 : Int32) (y3 : Int32) (S : rS) (ls : Array Slot) (H : Heap) (locs : List Loc), lx ls [some (.ref h), some (.int y1), some (.int y2), some (.int y3)] → AI D vwCl b0 (rH dA h S hp0) sz s.heap H locs → K17 y1 y2 y3 S = some (r, S') → W p l e { frames := 1, cells := 0, slots := 0, locals := 22 } s m args below meth c H locs 0 0 (MQ below (CQ D vwCl b0 (some (.int r)) (rH dA h S' hp0) sz) args s 0 0 (fun q => b0 ≤ q)) (F0 m 17 ls [])) (B : BX p m c cb_truth 4 s args (.code y_truth cb_truth 4 (some .boolean) :: wsA) RREF meth (some .boolean) D vwCl (tyL dA) b0 Z) (hR : RR b0 h Z) (hl : lx ls [some (.ref h), some (.int y1), some (.int y2), some (.int y3)]) (I : AI D vwCl b0 (rH dA h S hp0) sz s.heap H locs)  (hm : m_truth_27 N K17 y1 y2 y3 z0 z1 S = some (r, S')) : W p l e { frames := 1, cells := 0, slots := 0, locals := 22 } s m args below meth c H locs 0 0 (MQ below (CQ D vwCl b0 (some (.int r)) (rH dA h S' hp0) sz) args s 0 0 (fun q => b0 ≤ q)) (F0 m 27 ls [.int z1, .int z0]) := by
  obtain ⟨hx, hb, -⟩ := B.1
  unfold m_truth_27 at hm
  refine lv_icmp_ge (pc := 27) (tgt := 68) hx hb d_truth_27 (by decide) (fun hc => ?_) (fun hc => ?_)
  · have hm := ift hc hm
    refine lv_aload_n (pc := 68) (i := 0) hx hb d_truth_68 rfl (lx_get hl rfl) ?_
    refine r_get (pc := 69) (k := 7) (index := 16) B I (by decide) mF_16 rfl rfl d_truth_69 ?_
    refine lv_iload_n (pc := 72) (i := 1) hx hb d_truth_72 rfl (lx_get hl rfl) ?_
    refine lv_iconst (pc := 73) (v := 2) hx hb d_truth_73 (by decide) ?_
    refine ob1 hm (fun S1 e2 hm => ?_)
    refine r_ast (pc := 74) (j := 3) B hR I (by decide) (by decide) e2 d_truth_74 (fun H locs I => ?_)
    refine lv_aload_n (pc := 75) (i := 0) hx hb d_truth_75 rfl (lx_get hl rfl) ?_
    refine r_get (pc := 76) (k := 8) (index := 19) B I (by decide) mF_19 rfl rfl d_truth_76 ?_
    refine lv_iload_n (pc := 79) (i := 1) hx hb d_truth_79 rfl (lx_get hl rfl) ?_
    refine lv_iload_n (pc := 80) (i := 2) hx hb d_truth_80 rfl (lx_get hl rfl) ?_
    refine lv_if_eq (pc := 81) (tgt := 88) hx hb d_truth_81 (by decide) (fun hc => ?_) (fun hc => ?_)
    · have hm := ift hc hm
      refine lv_iconst (pc := 88) (v := 0) hx hb d_truth_88 (by decide) ?_
      exact w_truth_89  B hR (lx_sub (lo' := [some (.ref h), none, none, none]) hl (by simp [lx_le])) I hm
    · have hm := iff' hc hm
      refine lv_iconst (pc := 84) (v := 1) hx hb d_truth_84 (by decide) ?_
      refine lv_goto (pc := 85) (tgt := 89) hx hb d_truth_85 (by decide) ?_
      exact w_truth_89  B hR (lx_sub (lo' := [some (.ref h), none, none, none]) hl (by simp [lx_le])) I hm
  · have hm := iff' hc hm
    refine lv_aload_n (pc := 30) (i := 0) hx hb d_truth_30 rfl (lx_get hl rfl) ?_
    refine ob1 hm (fun x4 e3 hm => ?_)
    refine r_call (pc := 31) (As := []) (rest := []) B hl rfl I (c_here hR e3) kw_here rfl (by decide) (by decide) rfl (by simp [Value.category]) d_truth_31 (fun H locs I => ?_)
    refine lv_aload_n (pc := 34) (i := 0) hx hb d_truth_34 rfl (lx_get hl rfl) ?_
    refine lv_iload_n (pc := 35) (i := 2) hx hb d_truth_35 rfl (lx_get hl rfl) ?_
    refine lv_iload_n (pc := 36) (i := 3) hx hb d_truth_36 rfl (lx_get hl rfl) ?_
    refine ob1 hm (fun x6 e5 hm => ?_)
    refine r_call (pc := 37) (As := [.int y2, .int y3]) (rest := [.int x4]) B hl rfl I (c_letterOf hR e5) kw_letterOf rfl (by decide) (by decide) rfl (by simp [Value.category]) d_truth_37 (fun H locs I => ?_)
    refine lv_icmp_eq (pc := 40) (tgt := 52) hx hb d_truth_40 (by decide) (fun hc => ?_) (fun hc => ?_)
    · have hm := ift hc hm
      refine lv_aload_n (pc := 52) (i := 0) hx hb d_truth_52 rfl (lx_get hl rfl) ?_
      refine lv_dup (pc := 53) hx hb d_truth_53 rfl ?_
      refine r_get (pc := 54) (k := 3) (index := 76) B I (by decide) mF_76 rfl rfl d_truth_54 ?_
      refine lv_iconst (pc := 57) (v := 1) hx hb d_truth_57 (by decide) ?_
      refine lv_iadd (pc := 58) hx hb d_truth_58 ?_
      refine ob1 hm (fun S7 e8 hm => ?_)
      refine r_put (pc := 59) (k := 3) (index := 76) B hR I (by decide) mF_76 rfl rfl rfl (fun _ _ => rfl) e8 d_truth_59 (fun H locs I => ?_)
      refine q_iinc (pc := 62) (i := 3) (v := y3 + 1) (lo' := [some (.ref h), some (.int y1), some (.int y2), some (.int (y3 + 1))]) hx hb d_truth_62 hl rfl rfl (Nat.le_of_ble_eq_true rfl) (lx_ci rfl) rfl (fun ls hl => ?_)
      refine lv_goto (pc := 65) (tgt := 17) hx hb d_truth_65 (by decide) ?_
      exact hK17 _ _ _ _ _ _ _ hl I hm
    · have hm := iff' hc hm
      refine lv_aload_n (pc := 43) (i := 0) hx hb d_truth_43 rfl (lx_get hl rfl) ?_
      refine lv_aload_n (pc := 44) (i := 0) hx hb d_truth_44 rfl (lx_get hl rfl) ?_
      refine r_get (pc := 45) (k := 3) (index := 76) B I (by decide) mF_76 rfl rfl d_truth_45 ?_
      refine ob2 hm (fun x10 S11 e9 hm => ?_)
      refine r_call (pc := 48) (As := [.int (S.1 3)]) (rest := []) B hl rfl I (c_fail hR e9) kw_fail rfl (by decide) (by decide) rfl (by simp [Value.category]) d_truth_48 (fun H locs I => ?_)
      by_cases hq : x10 = 0 ∨ x10 = 1
      · have hm := ift hq hm
        cases hm
        exact q_zret (pc := 51) B I rfl (zn hq) d_truth_51
      · have hm := iff' hq hm
        cases hm
def m_truth_17F (N : Nat) (K17 : Int32 → Int32 → Int32 → rS → Option (Int32 × rS)) (y1 : Int32) (y2 : Int32) (y3 : Int32) (S : rS) : Option (Int32 × rS) :=
  if y2 = 0 then (m_truth_27 N K17 y1 y2 y3 y3 5 S) else (m_truth_27 N K17 y1 y2 y3 y3 4 S)
def m_truth_17 (N : Nat) : Nat → Int32 → Int32 → Int32 → rS → Option (Int32 × rS)
  | 0, _, _, _, _ => none
  | k + 1, y1, y2, y3, S => m_truth_17F N  (m_truth_17 N  k) y1 y2 y3 S
set_option maxRecDepth 100000 in
set_option maxHeartbeats 4000000 in
theorem w_truth_17F {K17 : Int32 → Int32 → Int32 → rS → Option (Int32 × rS)} {y1 : Int32} {y2 : Int32} {y3 : Int32} {S : rS} (hK17 : ∀ (y1 : Int32) (y2 : Int32) (y3 : Int32) (S : rS) (ls : Array Slot) (H : Heap) (locs : List Loc), lx ls [some (.ref h), some (.int y1), some (.int y2), some (.int y3)] → AI D vwCl b0 (rH dA h S hp0) sz s.heap H locs → K17 y1 y2 y3 S = some (r, S') → W p l e { frames := 1, cells := 0, slots := 0, locals := 22 } s m args below meth c H locs 0 0 (MQ below (CQ D vwCl b0 (some (.int r)) (rH dA h S' hp0) sz) args s 0 0 (fun q => b0 ≤ q)) (F0 m 17 ls [])) (B : BX p m c cb_truth 4 s args (.code y_truth cb_truth 4 (some .boolean) :: wsA) RREF meth (some .boolean) D vwCl (tyL dA) b0 Z) (hR : RR b0 h Z) (hl : lx ls [some (.ref h), some (.int y1), some (.int y2), some (.int y3)]) (I : AI D vwCl b0 (rH dA h S hp0) sz s.heap H locs)  (hm : m_truth_17F N  K17 y1 y2 y3 S = some (r, S')) : W p l e { frames := 1, cells := 0, slots := 0, locals := 22 } s m args below meth c H locs 0 0 (MQ below (CQ D vwCl b0 (some (.int r)) (rH dA h S' hp0) sz) args s 0 0 (fun q => b0 ≤ q)) (F0 m 17 ls []) := by
  obtain ⟨hx, hb, -⟩ := B.1
  unfold m_truth_17F at hm
  refine lv_iload_n (pc := 17) (i := 3) hx hb d_truth_17 rfl (lx_get hl rfl) ?_
  refine lv_iload_n (pc := 18) (i := 2) hx hb d_truth_18 rfl (lx_get hl rfl) ?_
  refine lv_if_eq (pc := 19) (tgt := 26) hx hb d_truth_19 (by decide) (fun hc => ?_) (fun hc => ?_)
  · have hm := ift hc hm
    refine lv_iconst (pc := 26) (v := 5) hx hb d_truth_26 (by decide) ?_
    exact w_truth_27 hK17 B hR hl I hm
  · have hm := iff' hc hm
    refine lv_iconst (pc := 22) (v := 4) hx hb d_truth_22 (by decide) ?_
    refine lv_goto (pc := 23) (tgt := 27) hx hb d_truth_23 (by decide) ?_
    exact w_truth_27 hK17 B hR hl I hm
set_option maxRecDepth 100000 in
set_option maxHeartbeats 4000000 in
theorem w_truth_17i (B : BX p m c cb_truth 4 s args (.code y_truth cb_truth 4 (some .boolean) :: wsA) RREF meth (some .boolean) D vwCl (tyL dA) b0 Z) (hR : RR b0 h Z) (k : Nat) (y1 : Int32) (y2 : Int32) (y3 : Int32) (S : rS) (ls : Array Slot) (H : Heap) (locs : List Loc) (hl : lx ls [some (.ref h), some (.int y1), some (.int y2), some (.int y3)]) (I : AI D vwCl b0 (rH dA h S hp0) sz s.heap H locs)  (hm : m_truth_17 N  k y1 y2 y3 S = some (r, S')) : W p l e { frames := 1, cells := 0, slots := 0, locals := 22 } s m args below meth c H locs 0 0 (MQ below (CQ D vwCl b0 (some (.int r)) (rH dA h S' hp0) sz) args s 0 0 (fun q => b0 ≤ q)) (F0 m 17 ls []) := by
  induction k generalizing y1 y2 y3 S ls H locs with
  | zero => cases hm
  | succ k ih => exact w_truth_17F  (fun y1 y2 y3 S ls H locs hl I hm => ih y1 y2 y3 S ls H locs hl I hm) B hR hl I hm
theorem w_truth_17 {y1 : Int32} {y2 : Int32} {y3 : Int32} {S : rS} (B : BX p m c cb_truth 4 s args (.code y_truth cb_truth 4 (some .boolean) :: wsA) RREF meth (some .boolean) D vwCl (tyL dA) b0 Z) (hR : RR b0 h Z) (hl : lx ls [some (.ref h), some (.int y1), some (.int y2), some (.int y3)]) (I : AI D vwCl b0 (rH dA h S hp0) sz s.heap H locs)  {k : Nat} (hm : m_truth_17 N  k y1 y2 y3 S = some (r, S')) : W p l e { frames := 1, cells := 0, slots := 0, locals := 22 } s m args below meth c H locs 0 0 (MQ below (CQ D vwCl b0 (some (.int r)) (rH dA h S' hp0) sz) args s 0 0 (fun q => b0 ≤ q)) (F0 m 17 ls []) := w_truth_17i  B hR k _ _ _ S ls H locs hl I hm
def m_truth_14 (N : Nat) (y1 : Int32) (z0 : Int32) (S : rS) : Option (Int32 × rS) :=
  m_truth_17 N  N y1 z0 0 S
set_option maxRecDepth 100000 in
set_option maxHeartbeats 4000000 in
theorem w_truth_14 {y1 : Int32} {z0 : Int32} {S : rS} (B : BX p m c cb_truth 4 s args (.code y_truth cb_truth 4 (some .boolean) :: wsA) RREF meth (some .boolean) D vwCl (tyL dA) b0 Z) (hR : RR b0 h Z) (hl : lx ls [some (.ref h), some (.int y1), none, none]) (I : AI D vwCl b0 (rH dA h S hp0) sz s.heap H locs)  (hm : m_truth_14 N  y1 z0 S = some (r, S')) : W p l e { frames := 1, cells := 0, slots := 0, locals := 22 } s m args below meth c H locs 0 0 (MQ below (CQ D vwCl b0 (some (.int r)) (rH dA h S' hp0) sz) args s 0 0 (fun q => b0 ≤ q)) (F0 m 14 ls [.int z0]) := by
  obtain ⟨hx, hb, -⟩ := B.1
  unfold m_truth_14 at hm
  refine q_istore_n (pc := 14) (i := 2) (lo' := [some (.ref h), some (.int y1), some (.int z0), none]) hx hb d_truth_14 rfl hl (Nat.le_of_ble_eq_true rfl) (lx_ci rfl) rfl (fun ls hl => ?_)
  refine lv_iconst (pc := 15) (v := 0) hx hb d_truth_15 (by decide) ?_
  refine q_istore_n (pc := 16) (i := 3) (lo' := [some (.ref h), some (.int y1), some (.int z0), some (.int 0)]) hx hb d_truth_16 rfl hl (Nat.le_of_ble_eq_true rfl) (lx_ci rfl) rfl (fun ls hl => ?_)
  exact w_truth_17  B hR hl I hm
def m_truth (N : Nat) (p1 : Int32) (S : rS) : Option (Int32 × rS) :=
  b1 (m_here N S) (fun x2 => if x2 = 116 then (m_truth_14 N  p1 1 S) else (m_truth_14 N  p1 0 S))
set_option maxRecDepth 100000 in
set_option maxHeartbeats 4000000 in
theorem c_truth {p1 : Int32} {S S' : rS} {r : Int32} (hR : RR b0 h Z) (hm : m_truth N p1 S = some (r, S')) : Ct l D vwCl (tyL dA) b0 Z y_truth (.code y_truth cb_truth 4 (some .boolean) :: wsA) 1 22 [.ref h, .int p1] (rH dA h S hp0) sz (some (.int r)) (rH dA h S' hp0) 0 0 := by
  refine ct_of (cc := cb_truth) (maxL := 4) (ret := (some .boolean)) (lo0 := [some (.ref h), some (.int p1), none, none]) hR.2 (by decide) rfl (by simp [lg_sl, Value.category]) rfl (by simp [lx_all, lv_args, Value.category]) ?_
  intro p e s m args below meth c ls B hnm hl I
  obtain ⟨hx, hb, -⟩ := B.1
  unfold m_truth at hm
  refine lv_aload_n (pc := 0) (i := 0) hx hb d_truth_0 rfl (lx_get hl rfl) ?_
  refine ob1 hm (fun x2 e1 hm => ?_)
  refine r_call (pc := 1) (As := []) (rest := []) B hl rfl I (c_here hR e1) kw_here rfl (by decide) (by decide) rfl (by simp [Value.category]) d_truth_1 (fun H locs I => ?_)
  refine lv_bipush (pc := 4) (v := 116) hx hb d_truth_4 (by decide) ?_
  refine lv_icmp_ne (pc := 6) (tgt := 13) hx hb d_truth_6 (by decide) (fun hc => ?_) (fun hc => ?_)
  · have hm := iff' hc hm
    refine lv_iconst (pc := 13) (v := 0) hx hb d_truth_13 (by decide) ?_
    exact w_truth_14  B hR hl I hm
  · have hm := ift hc hm
    refine lv_iconst (pc := 9) (v := 1) hx hb d_truth_9 (by decide) ?_
    refine lv_goto (pc := 10) (tgt := 14) hx hb d_truth_10 (by decide) ?_
    exact w_truth_14  B hR hl I hm
end RW
end
section
section RW
variable {p : Program} {l : Launch} {e : Env} {s : State} {m : MethodId} {args : Array Value} {below : List Frame} {meth : Method} {c : Code} {H : Heap} {locs : List Loc}
variable {ls : Array Slot} {D : va_G} {dA : Nat → ClassId} {hp0 : aH} {sz b0 h N : Nat} {S' : rS} {r : Int32} {Z : State → Prop}
def m_beginValue_99 (N : Nat) (S : rS) : Option (Int32 × rS) :=
  b2 (m_fail N (S.1 3) S) (fun x2 S3 => if x2 = 0 ∨ x2 = 1 then (some (x2, S3)) else none)
set_option maxRecDepth 100000 in
set_option maxHeartbeats 4000000 in
theorem w_beginValue_99 {S : rS} (B : BX p m c cb_beginValue 8 s args (.code y_beginValue cb_beginValue 8 (some .boolean) :: wsA) RREF meth (some .boolean) D vwCl (tyL dA) b0 Z) (hR : RR b0 h Z) (hl : lx ls [some (.ref h), none, none, none, none, none, none, none]) (I : AI D vwCl b0 (rH dA h S hp0) sz s.heap H locs)  (hm : m_beginValue_99 N   S = some (r, S')) : W p l e { frames := 4, cells := 0, slots := 0, locals := 95 } s m args below meth c H locs 0 0 (MQ below (CQ D vwCl b0 (some (.int r)) (rH dA h S' hp0) sz) args s 0 0 (fun q => b0 ≤ q)) (F0 m 99 ls []) := by
  obtain ⟨hx, hb, -⟩ := B.1
  unfold m_beginValue_99 at hm
  refine lv_aload_n (pc := 99) (i := 0) hx hb d_beginValue_99 rfl (lx_get hl rfl) ?_
  refine lv_aload_n (pc := 100) (i := 0) hx hb d_beginValue_100 rfl (lx_get hl rfl) ?_
  refine r_get (pc := 101) (k := 3) (index := 76) B I (by decide) mF_76 rfl rfl d_beginValue_101 ?_
  refine ob2 hm (fun x2 S3 e1 hm => ?_)
  refine r_call (pc := 104) (As := [.int (S.1 3)]) (rest := []) B hl rfl I (c_fail hR e1) kw_fail rfl (by decide) (by decide) rfl (by simp [Value.category]) d_beginValue_104 (fun H locs I => ?_)
  by_cases hq : x2 = 0 ∨ x2 = 1
  · have hm := ift hq hm
    cases hm
    exact q_zret (pc := 107) B I rfl (zn hq) d_beginValue_107
  · have hm := iff' hq hm
    cases hm
def m_beginValue_152 (N : Nat) (y6 : Int32) (z1 : Int32) (z2 : Int32) (S : rS) : Option (Int32 × rS) :=
  b1 (rT S 3 z1 z2) (fun S1 => b1 (rT S1 17 (S1.1 26) y6) (fun S3 => b1 (rT S3 18 (S3.1 26) 0) (fun S5 => b1 (rP S5 26 ((S5.1 26) + 1)) (fun S7 => b1 (rP S7 3 ((S7.1 3) + 1)) (fun S9 => some (1, S9))))))
set_option maxRecDepth 100000 in
set_option maxHeartbeats 4000000 in
theorem w_beginValue_152 {y6 : Int32} {z1 : Int32} {z2 : Int32} {S : rS} (B : BX p m c cb_beginValue 8 s args (.code y_beginValue cb_beginValue 8 (some .boolean) :: wsA) RREF meth (some .boolean) D vwCl (tyL dA) b0 Z) (hR : RR b0 h Z) (hl : lx ls [some (.ref h), none, none, none, none, none, some (.int y6), none]) (I : AI D vwCl b0 (rH dA h S hp0) sz s.heap H locs)  (hm : m_beginValue_152 N  y6 z1 z2 S = some (r, S')) : W p l e { frames := 4, cells := 0, slots := 0, locals := 95 } s m args below meth c H locs 0 0 (MQ below (CQ D vwCl b0 (some (.int r)) (rH dA h S' hp0) sz) args s 0 0 (fun q => b0 ≤ q)) (F0 m 152 ls [.int z2, .int z1, .ref (h + 3)]) := by
  obtain ⟨hx, hb, -⟩ := B.1
  unfold m_beginValue_152 at hm
  refine ob1 hm (fun S1 e2 hm => ?_)
  refine r_ast (pc := 152) (j := 3) B hR I (by decide) (by decide) e2 d_beginValue_152 (fun H locs I => ?_)
  refine lv_aload_n (pc := 153) (i := 0) hx hb d_beginValue_153 rfl (lx_get hl rfl) ?_
  refine r_get (pc := 154) (k := 27) (index := 58) B I (by decide) mF_58 rfl rfl d_beginValue_154 ?_
  refine lv_aload_n (pc := 157) (i := 0) hx hb d_beginValue_157 rfl (lx_get hl rfl) ?_
  refine r_get (pc := 158) (k := 26) (index := 164) B I (by decide) mF_164 rfl rfl d_beginValue_158 ?_
  refine lv_iload (pc := 161) (i := 6) hx hb d_beginValue_161 (lx_get hl rfl) ?_
  refine ob1 hm (fun S3 e4 hm => ?_)
  refine r_ast (pc := 163) (j := 17) B hR I (by decide) (by decide) e4 d_beginValue_163 (fun H locs I => ?_)
  refine lv_aload_n (pc := 164) (i := 0) hx hb d_beginValue_164 rfl (lx_get hl rfl) ?_
  refine r_get (pc := 165) (k := 28) (index := 61) B I (by decide) mF_61 rfl rfl d_beginValue_165 ?_
  refine lv_aload_n (pc := 168) (i := 0) hx hb d_beginValue_168 rfl (lx_get hl rfl) ?_
  refine r_get (pc := 169) (k := 26) (index := 164) B I (by decide) mF_164 rfl rfl d_beginValue_169 ?_
  refine lv_iconst (pc := 172) (v := 0) hx hb d_beginValue_172 (by decide) ?_
  refine ob1 hm (fun S5 e6 hm => ?_)
  refine r_ast (pc := 173) (j := 18) B hR I (by decide) (by decide) e6 d_beginValue_173 (fun H locs I => ?_)
  refine lv_aload_n (pc := 174) (i := 0) hx hb d_beginValue_174 rfl (lx_get hl rfl) ?_
  refine lv_dup (pc := 175) hx hb d_beginValue_175 rfl ?_
  refine r_get (pc := 176) (k := 26) (index := 164) B I (by decide) mF_164 rfl rfl d_beginValue_176 ?_
  refine lv_iconst (pc := 179) (v := 1) hx hb d_beginValue_179 (by decide) ?_
  refine lv_iadd (pc := 180) hx hb d_beginValue_180 ?_
  refine ob1 hm (fun S7 e8 hm => ?_)
  refine r_put (pc := 181) (k := 26) (index := 164) B hR I (by decide) mF_164 rfl rfl rfl (fun _ _ => rfl) e8 d_beginValue_181 (fun H locs I => ?_)
  refine lv_aload_n (pc := 184) (i := 0) hx hb d_beginValue_184 rfl (lx_get hl rfl) ?_
  refine lv_dup (pc := 185) hx hb d_beginValue_185 rfl ?_
  refine r_get (pc := 186) (k := 3) (index := 76) B I (by decide) mF_76 rfl rfl d_beginValue_186 ?_
  refine lv_iconst (pc := 189) (v := 1) hx hb d_beginValue_189 (by decide) ?_
  refine lv_iadd (pc := 190) hx hb d_beginValue_190 ?_
  refine ob1 hm (fun S9 e10 hm => ?_)
  refine r_put (pc := 191) (k := 3) (index := 76) B hR I (by decide) mF_76 rfl rfl rfl (fun _ _ => rfl) e10 d_beginValue_191 (fun H locs I => ?_)
  refine lv_iconst (pc := 194) (v := 1) hx hb d_beginValue_194 (by decide) ?_
  cases hm
  exact q_zret (pc := 195) B I rfl (by decide) d_beginValue_195
def m_beginValue_236 (N : Nat) (y6 : Int32) (S : rS) : Option (Int32 × rS) :=
  b2 (m_string N S) (fun x2 S3 => b1 (rT S3 3 y6 3) (fun S4 => b1 (rT S4 4 y6 (S4.1 24)) (fun S6 => b1 (rT S6 9 y6 (S6.1 25)) (fun S8 => if x2 = 0 ∨ x2 = 1 then (some (x2, S8)) else none))))
set_option maxRecDepth 100000 in
set_option maxHeartbeats 4000000 in
theorem w_beginValue_236 {y6 : Int32} {S : rS} (B : BX p m c cb_beginValue 8 s args (.code y_beginValue cb_beginValue 8 (some .boolean) :: wsA) RREF meth (some .boolean) D vwCl (tyL dA) b0 Z) (hR : RR b0 h Z) (hl : lx ls [some (.ref h), none, none, none, none, none, some (.int y6), none]) (I : AI D vwCl b0 (rH dA h S hp0) sz s.heap H locs)  (hm : m_beginValue_236 N  y6 S = some (r, S')) : W p l e { frames := 4, cells := 0, slots := 0, locals := 95 } s m args below meth c H locs 0 0 (MQ below (CQ D vwCl b0 (some (.int r)) (rH dA h S' hp0) sz) args s 0 0 (fun q => b0 ≤ q)) (F0 m 236 ls []) := by
  obtain ⟨hx, hb, -⟩ := B.1
  unfold m_beginValue_236 at hm
  refine lv_aload_n (pc := 236) (i := 0) hx hb d_beginValue_236 rfl (lx_get hl rfl) ?_
  refine ob2 hm (fun x2 S3 e1 hm => ?_)
  refine r_call (pc := 237) (As := []) (rest := []) B hl rfl I (c_string hR e1) kw_string rfl (by decide) (by decide) rfl (by simp [Value.category]) d_beginValue_237 (fun H locs I => ?_)
  refine q_istore (pc := 240) (i := 7) (lo' := [some (.ref h), none, none, none, none, none, some (.int y6), some (.int x2)]) hx hb d_beginValue_240 hl (Nat.le_of_ble_eq_true rfl) (lx_ci rfl) rfl (fun ls hl => ?_)
  refine lv_aload_n (pc := 242) (i := 0) hx hb d_beginValue_242 rfl (lx_get hl rfl) ?_
  refine r_get (pc := 243) (k := 7) (index := 16) B I (by decide) mF_16 rfl rfl d_beginValue_243 ?_
  refine lv_iload (pc := 246) (i := 6) hx hb d_beginValue_246 (lx_get hl rfl) ?_
  refine lv_iconst (pc := 248) (v := 3) hx hb d_beginValue_248 (by decide) ?_
  refine ob1 hm (fun S4 e5 hm => ?_)
  refine r_ast (pc := 249) (j := 3) B hR I (by decide) (by decide) e5 d_beginValue_249 (fun H locs I => ?_)
  refine lv_aload_n (pc := 250) (i := 0) hx hb d_beginValue_250 rfl (lx_get hl rfl) ?_
  refine r_get (pc := 251) (k := 8) (index := 19) B I (by decide) mF_19 rfl rfl d_beginValue_251 ?_
  refine lv_iload (pc := 254) (i := 6) hx hb d_beginValue_254 (lx_get hl rfl) ?_
  refine lv_aload_n (pc := 256) (i := 0) hx hb d_beginValue_256 rfl (lx_get hl rfl) ?_
  refine r_get (pc := 257) (k := 24) (index := 96) B I (by decide) mF_96 rfl rfl d_beginValue_257 ?_
  refine ob1 hm (fun S6 e7 hm => ?_)
  refine r_ast (pc := 260) (j := 4) B hR I (by decide) (by decide) e7 d_beginValue_260 (fun H locs I => ?_)
  refine lv_aload_n (pc := 261) (i := 0) hx hb d_beginValue_261 rfl (lx_get hl rfl) ?_
  refine r_get (pc := 262) (k := 13) (index := 34) B I (by decide) mF_34 rfl rfl d_beginValue_262 ?_
  refine lv_iload (pc := 265) (i := 6) hx hb d_beginValue_265 (lx_get hl rfl) ?_
  refine lv_aload_n (pc := 267) (i := 0) hx hb d_beginValue_267 rfl (lx_get hl rfl) ?_
  refine r_get (pc := 268) (k := 25) (index := 99) B I (by decide) mF_99 rfl rfl d_beginValue_268 ?_
  refine ob1 hm (fun S8 e9 hm => ?_)
  refine r_ast (pc := 271) (j := 9) B hR I (by decide) (by decide) e9 d_beginValue_271 (fun H locs I => ?_)
  refine lv_iload (pc := 272) (i := 7) hx hb d_beginValue_272 (lx_get hl rfl) ?_
  by_cases hq : x2 = 0 ∨ x2 = 1
  · have hm := ift hq hm
    cases hm
    exact q_zret (pc := 274) B I rfl (zn hq) d_beginValue_274
  · have hm := iff' hq hm
    cases hm
def m_beginValue_129 (N : Nat) (y3 : Int32) (y4 : Int32) (y5 : Int32) (y6 : Int32) (S : rS) : Option (Int32 × rS) :=
  if y5 = 0 then (if y4 = 0 then (if y3 = 34 then (m_beginValue_236 N  y6 S) else (if y3 = 39 then (m_beginValue_236 N  y6 S) else (b2 (m_truth N y6 S) (fun x2 S3 => if x2 = 0 ∨ x2 = 1 then (some (x2, S3)) else none)))) else (b1 (m_isDate N S) (fun x5 => if x5 = 0 then (b2 (m_number N y6 S) (fun x7 S8 => if x7 = 0 ∨ x7 = 1 then (some (x7, S8)) else none)) else (b2 (m_date N y6 S) (fun x10 S11 => if x10 = 0 ∨ x10 = 1 then (some (x10, S11)) else none))))) else (if y3 = 91 then (m_beginValue_152 N  y6 y6 5 S) else (m_beginValue_152 N  y6 y6 10 S))
set_option maxRecDepth 100000 in
set_option maxHeartbeats 4000000 in
theorem w_beginValue_129 {y3 : Int32} {y4 : Int32} {y5 : Int32} {y6 : Int32} {S : rS} (B : BX p m c cb_beginValue 8 s args (.code y_beginValue cb_beginValue 8 (some .boolean) :: wsA) RREF meth (some .boolean) D vwCl (tyL dA) b0 Z) (hR : RR b0 h Z) (hl : lx ls [some (.ref h), none, none, some (.int y3), some (.int y4), some (.int y5), some (.int y6), none]) (I : AI D vwCl b0 (rH dA h S hp0) sz s.heap H locs)  (hm : m_beginValue_129 N  y3 y4 y5 y6 S = some (r, S')) : W p l e { frames := 4, cells := 0, slots := 0, locals := 95 } s m args below meth c H locs 0 0 (MQ below (CQ D vwCl b0 (some (.int r)) (rH dA h S' hp0) sz) args s 0 0 (fun q => b0 ≤ q)) (F0 m 129 ls []) := by
  obtain ⟨hx, hb, -⟩ := B.1
  unfold m_beginValue_129 at hm
  refine lv_iload (pc := 129) (i := 5) hx hb d_beginValue_129 (lx_get hl rfl) ?_
  refine lv_if_eq (pc := 131) (tgt := 196) hx hb d_beginValue_131 (by decide) (fun hc => ?_) (fun hc => ?_)
  · have hm := ift hc hm
    refine lv_iload (pc := 196) (i := 4) hx hb d_beginValue_196 (lx_get hl rfl) ?_
    refine lv_if_eq (pc := 198) (tgt := 224) hx hb d_beginValue_198 (by decide) (fun hc => ?_) (fun hc => ?_)
    · have hm := ift hc hm
      refine lv_iload_n (pc := 224) (i := 3) hx hb d_beginValue_224 rfl (lx_get hl rfl) ?_
      refine lv_bipush (pc := 225) (v := 34) hx hb d_beginValue_225 (by decide) ?_
      refine lv_icmp_eq (pc := 227) (tgt := 236) hx hb d_beginValue_227 (by decide) (fun hc => ?_) (fun hc => ?_)
      · have hm := ift hc hm
        exact w_beginValue_236  B hR (lx_sub (lo' := [some (.ref h), none, none, none, none, none, some (.int y6), none]) hl (by simp [lx_le])) I hm
      · have hm := iff' hc hm
        refine lv_iload_n (pc := 230) (i := 3) hx hb d_beginValue_230 rfl (lx_get hl rfl) ?_
        refine lv_bipush (pc := 231) (v := 39) hx hb d_beginValue_231 (by decide) ?_
        refine lv_icmp_ne (pc := 233) (tgt := 275) hx hb d_beginValue_233 (by decide) (fun hc => ?_) (fun hc => ?_)
        · have hm := iff' hc hm
          refine lv_aload_n (pc := 275) (i := 0) hx hb d_beginValue_275 rfl (lx_get hl rfl) ?_
          refine lv_iload (pc := 276) (i := 6) hx hb d_beginValue_276 (lx_get hl rfl) ?_
          refine ob2 hm (fun x2 S3 e1 hm => ?_)
          refine r_call (pc := 278) (As := [.int y6]) (rest := []) B hl rfl I (c_truth hR e1) kw_truth rfl (by decide) (by decide) rfl (by simp [Value.category]) d_beginValue_278 (fun H locs I => ?_)
          by_cases hq : x2 = 0 ∨ x2 = 1
          · have hm := ift hq hm
            cases hm
            exact q_zret (pc := 281) B I rfl (zn hq) d_beginValue_281
          · have hm := iff' hq hm
            cases hm
        · have hm := ift hc hm
          exact w_beginValue_236  B hR (lx_sub (lo' := [some (.ref h), none, none, none, none, none, some (.int y6), none]) hl (by simp [lx_le])) I hm
    · have hm := iff' hc hm
      refine lv_aload_n (pc := 201) (i := 0) hx hb d_beginValue_201 rfl (lx_get hl rfl) ?_
      refine ob1 hm (fun x5 e4 hm => ?_)
      refine r_call (pc := 202) (As := []) (rest := []) B hl rfl I (c_isDate hR e4) kw_isDate rfl (by decide) (by decide) rfl (by simp [Value.category]) d_beginValue_202 (fun H locs I => ?_)
      refine lv_if_eq (pc := 205) (tgt := 217) hx hb d_beginValue_205 (by decide) (fun hc => ?_) (fun hc => ?_)
      · have hm := ift hc hm
        refine lv_aload_n (pc := 217) (i := 0) hx hb d_beginValue_217 rfl (lx_get hl rfl) ?_
        refine lv_iload (pc := 218) (i := 6) hx hb d_beginValue_218 (lx_get hl rfl) ?_
        refine ob2 hm (fun x7 S8 e6 hm => ?_)
        refine r_call (pc := 220) (As := [.int y6]) (rest := []) B hl rfl I (c_number hR e6) kw_number rfl (by decide) (by decide) rfl (by simp [Value.category]) d_beginValue_220 (fun H locs I => ?_)
        by_cases hq : x7 = 0 ∨ x7 = 1
        · have hm := ift hq hm
          cases hm
          exact q_zret (pc := 223) B I rfl (zn hq) d_beginValue_223
        · have hm := iff' hq hm
          cases hm
      · have hm := iff' hc hm
        refine lv_aload_n (pc := 208) (i := 0) hx hb d_beginValue_208 rfl (lx_get hl rfl) ?_
        refine lv_iload (pc := 209) (i := 6) hx hb d_beginValue_209 (lx_get hl rfl) ?_
        refine ob2 hm (fun x10 S11 e9 hm => ?_)
        refine r_call (pc := 211) (As := [.int y6]) (rest := []) B hl rfl I (c_date hR e9) kw_date rfl (by decide) (by decide) rfl (by simp [Value.category]) d_beginValue_211 (fun H locs I => ?_)
        refine lv_goto (pc := 214) (tgt := 223) hx hb d_beginValue_214 (by decide) ?_
        by_cases hq : x10 = 0 ∨ x10 = 1
        · have hm := ift hq hm
          cases hm
          exact q_zret (pc := 223) B I rfl (zn hq) d_beginValue_223
        · have hm := iff' hq hm
          cases hm
  · have hm := iff' hc hm
    refine lv_aload_n (pc := 134) (i := 0) hx hb d_beginValue_134 rfl (lx_get hl rfl) ?_
    refine r_get (pc := 135) (k := 7) (index := 16) B I (by decide) mF_16 rfl rfl d_beginValue_135 ?_
    refine lv_iload (pc := 138) (i := 6) hx hb d_beginValue_138 (lx_get hl rfl) ?_
    refine lv_iload_n (pc := 140) (i := 3) hx hb d_beginValue_140 rfl (lx_get hl rfl) ?_
    refine lv_bipush (pc := 141) (v := 91) hx hb d_beginValue_141 (by decide) ?_
    refine lv_icmp_ne (pc := 143) (tgt := 150) hx hb d_beginValue_143 (by decide) (fun hc => ?_) (fun hc => ?_)
    · have hm := iff' hc hm
      refine lv_bipush (pc := 150) (v := 10) hx hb d_beginValue_150 (by decide) ?_
      exact w_beginValue_152  B hR (lx_sub (lo' := [some (.ref h), none, none, none, none, none, some (.int y6), none]) hl (by simp [lx_le])) I hm
    · have hm := ift hc hm
      refine lv_iconst (pc := 146) (v := 5) hx hb d_beginValue_146 (by decide) ?_
      refine lv_goto (pc := 147) (tgt := 152) hx hb d_beginValue_147 (by decide) ?_
      exact w_beginValue_152  B hR (lx_sub (lo' := [some (.ref h), none, none, none, none, none, some (.int y6), none]) hl (by simp [lx_le])) I hm
def m_beginValue_108 (N : Nat) (y1 : Int32) (y2 : Int32) (y3 : Int32) (y4 : Int32) (y5 : Int32) (S : rS) : Option (Int32 × rS) :=
  b2 (m_make N 0 y1 S) (fun x2 S3 => if y2 = (-1) then (m_beginValue_129 N  y3 y4 y5 x2 S3) else (b2 (m_named N x2 y2 S3) (fun x5 S6 => m_beginValue_129 N  y3 y4 y5 x2 S6)))
set_option maxRecDepth 100000 in
set_option maxHeartbeats 4000000 in
theorem w_beginValue_108 {y1 : Int32} {y2 : Int32} {y3 : Int32} {y4 : Int32} {y5 : Int32} {S : rS} (B : BX p m c cb_beginValue 8 s args (.code y_beginValue cb_beginValue 8 (some .boolean) :: wsA) RREF meth (some .boolean) D vwCl (tyL dA) b0 Z) (hR : RR b0 h Z) (hl : lx ls [some (.ref h), some (.int y1), some (.int y2), some (.int y3), some (.int y4), some (.int y5), none, none]) (I : AI D vwCl b0 (rH dA h S hp0) sz s.heap H locs)  (hm : m_beginValue_108 N  y1 y2 y3 y4 y5 S = some (r, S')) : W p l e { frames := 4, cells := 0, slots := 0, locals := 95 } s m args below meth c H locs 0 0 (MQ below (CQ D vwCl b0 (some (.int r)) (rH dA h S' hp0) sz) args s 0 0 (fun q => b0 ≤ q)) (F0 m 108 ls []) := by
  obtain ⟨hx, hb, -⟩ := B.1
  unfold m_beginValue_108 at hm
  refine lv_aload_n (pc := 108) (i := 0) hx hb d_beginValue_108 rfl (lx_get hl rfl) ?_
  refine lv_iconst (pc := 109) (v := 0) hx hb d_beginValue_109 (by decide) ?_
  refine lv_iload_n (pc := 110) (i := 1) hx hb d_beginValue_110 rfl (lx_get hl rfl) ?_
  refine ob2 hm (fun x2 S3 e1 hm => ?_)
  refine r_call (pc := 111) (As := [.int 0, .int y1]) (rest := []) B hl rfl I (c_make hR e1) kw_make rfl (by decide) (by decide) rfl (by simp [Value.category]) d_beginValue_111 (fun H locs I => ?_)
  refine q_istore (pc := 114) (i := 6) (lo' := [some (.ref h), some (.int y1), some (.int y2), some (.int y3), some (.int y4), some (.int y5), some (.int x2), none]) hx hb d_beginValue_114 hl (Nat.le_of_ble_eq_true rfl) (lx_ci rfl) rfl (fun ls hl => ?_)
  refine lv_iload_n (pc := 116) (i := 2) hx hb d_beginValue_116 rfl (lx_get hl rfl) ?_
  refine lv_iconst (pc := 117) (v := (-1)) hx hb d_beginValue_117 (by decide) ?_
  refine lv_icmp_eq (pc := 118) (tgt := 129) hx hb d_beginValue_118 (by decide) (fun hc => ?_) (fun hc => ?_)
  · have hm := ift hc hm
    exact w_beginValue_129  B hR (lx_sub (lo' := [some (.ref h), none, none, some (.int y3), some (.int y4), some (.int y5), some (.int x2), none]) hl (by simp [lx_le])) I hm
  · have hm := iff' hc hm
    refine lv_aload_n (pc := 121) (i := 0) hx hb d_beginValue_121 rfl (lx_get hl rfl) ?_
    refine lv_iload (pc := 122) (i := 6) hx hb d_beginValue_122 (lx_get hl rfl) ?_
    refine lv_iload_n (pc := 124) (i := 2) hx hb d_beginValue_124 rfl (lx_get hl rfl) ?_
    refine ob2 hm (fun x5 S6 e4 hm => ?_)
    refine r_call (pc := 125) (As := [.int x2, .int y2]) (rest := []) B hl rfl I (c_named hR e4) kw_named rfl (by decide) (by decide) rfl (by simp [Value.category]) d_beginValue_125 (fun H locs I => ?_)
    refine lv_pop (pc := 128) hx hb d_beginValue_128 rfl ?_
    exact w_beginValue_129  B hR (lx_sub (lo' := [some (.ref h), none, none, some (.int y3), some (.int y4), some (.int y5), some (.int x2), none]) hl (by simp [lx_le])) I hm
def m_beginValue_85 (N : Nat) (y1 : Int32) (y2 : Int32) (y3 : Int32) (y4 : Int32) (y5 : Int32) (S : rS) : Option (Int32 × rS) :=
  if y5 = 0 then (m_beginValue_108 N  y1 y2 y3 y4 y5 S) else (if S.1 26 = 6 then (m_beginValue_99 N  S) else (m_beginValue_108 N  y1 y2 y3 y4 y5 S))
set_option maxRecDepth 100000 in
set_option maxHeartbeats 4000000 in
theorem w_beginValue_85 {y1 : Int32} {y2 : Int32} {y3 : Int32} {y4 : Int32} {y5 : Int32} {S : rS} (B : BX p m c cb_beginValue 8 s args (.code y_beginValue cb_beginValue 8 (some .boolean) :: wsA) RREF meth (some .boolean) D vwCl (tyL dA) b0 Z) (hR : RR b0 h Z) (hl : lx ls [some (.ref h), some (.int y1), some (.int y2), some (.int y3), some (.int y4), some (.int y5), none, none]) (I : AI D vwCl b0 (rH dA h S hp0) sz s.heap H locs)  (hm : m_beginValue_85 N  y1 y2 y3 y4 y5 S = some (r, S')) : W p l e { frames := 4, cells := 0, slots := 0, locals := 95 } s m args below meth c H locs 0 0 (MQ below (CQ D vwCl b0 (some (.int r)) (rH dA h S' hp0) sz) args s 0 0 (fun q => b0 ≤ q)) (F0 m 85 ls []) := by
  obtain ⟨hx, hb, -⟩ := B.1
  unfold m_beginValue_85 at hm
  refine lv_iload (pc := 85) (i := 5) hx hb d_beginValue_85 (lx_get hl rfl) ?_
  refine lv_if_eq (pc := 87) (tgt := 108) hx hb d_beginValue_87 (by decide) (fun hc => ?_) (fun hc => ?_)
  · have hm := ift hc hm
    exact w_beginValue_108  B hR hl I hm
  · have hm := iff' hc hm
    refine lv_aload_n (pc := 90) (i := 0) hx hb d_beginValue_90 rfl (lx_get hl rfl) ?_
    refine r_get (pc := 91) (k := 26) (index := 164) B I (by decide) mF_164 rfl rfl d_beginValue_91 ?_
    refine lv_bipush (pc := 94) (v := 6) hx hb d_beginValue_94 (by decide) ?_
    refine lv_icmp_ne (pc := 96) (tgt := 108) hx hb d_beginValue_96 (by decide) (fun hc => ?_) (fun hc => ?_)
    · have hm := iff' hc hm
      exact w_beginValue_108  B hR hl I hm
    · have hm := ift hc hm
      exact w_beginValue_99  B hR (lx_sub (lo' := [some (.ref h), none, none, none, none, none, none, none]) hl (by simp [lx_le])) I hm
def m_beginValue_49 (N : Nat) (y1 : Int32) (y2 : Int32) (y3 : Int32) (y4 : Int32) (z0 : Int32) (S : rS) : Option (Int32 × rS) :=
  if y4 = 0 then (if z0 = 0 then (if y3 = 116 then (m_beginValue_85 N  y1 y2 y3 y4 z0 S) else (if y3 = 102 then (m_beginValue_85 N  y1 y2 y3 y4 z0 S) else (if y3 = 34 then (m_beginValue_85 N  y1 y2 y3 y4 z0 S) else (if y3 = 39 then (m_beginValue_85 N  y1 y2 y3 y4 z0 S) else (m_beginValue_99 N  S))))) else (m_beginValue_85 N  y1 y2 y3 y4 z0 S)) else (m_beginValue_85 N  y1 y2 y3 y4 z0 S)
set_option maxRecDepth 100000 in
set_option maxHeartbeats 4000000 in
theorem w_beginValue_49 {y1 : Int32} {y2 : Int32} {y3 : Int32} {y4 : Int32} {z0 : Int32} {S : rS} (B : BX p m c cb_beginValue 8 s args (.code y_beginValue cb_beginValue 8 (some .boolean) :: wsA) RREF meth (some .boolean) D vwCl (tyL dA) b0 Z) (hR : RR b0 h Z) (hl : lx ls [some (.ref h), some (.int y1), some (.int y2), some (.int y3), some (.int y4), none, none, none]) (I : AI D vwCl b0 (rH dA h S hp0) sz s.heap H locs)  (hm : m_beginValue_49 N  y1 y2 y3 y4 z0 S = some (r, S')) : W p l e { frames := 4, cells := 0, slots := 0, locals := 95 } s m args below meth c H locs 0 0 (MQ below (CQ D vwCl b0 (some (.int r)) (rH dA h S' hp0) sz) args s 0 0 (fun q => b0 ≤ q)) (F0 m 49 ls [.int z0]) := by
  obtain ⟨hx, hb, -⟩ := B.1
  unfold m_beginValue_49 at hm
  refine q_istore (pc := 49) (i := 5) (lo' := [some (.ref h), some (.int y1), some (.int y2), some (.int y3), some (.int y4), some (.int z0), none, none]) hx hb d_beginValue_49 hl (Nat.le_of_ble_eq_true rfl) (lx_ci rfl) rfl (fun ls hl => ?_)
  refine lv_iload (pc := 51) (i := 4) hx hb d_beginValue_51 (lx_get hl rfl) ?_
  refine lv_if_ne (pc := 53) (tgt := 85) hx hb d_beginValue_53 (by decide) (fun hc => ?_) (fun hc => ?_)
  · have hm := iff' hc hm
    exact w_beginValue_85  B hR hl I hm
  · have hm := ift hc hm
    refine lv_iload (pc := 56) (i := 5) hx hb d_beginValue_56 (lx_get hl rfl) ?_
    refine lv_if_ne (pc := 58) (tgt := 85) hx hb d_beginValue_58 (by decide) (fun hc => ?_) (fun hc => ?_)
    · have hm := iff' hc hm
      exact w_beginValue_85  B hR hl I hm
    · have hm := ift hc hm
      refine lv_iload_n (pc := 61) (i := 3) hx hb d_beginValue_61 rfl (lx_get hl rfl) ?_
      refine lv_bipush (pc := 62) (v := 116) hx hb d_beginValue_62 (by decide) ?_
      refine lv_icmp_eq (pc := 64) (tgt := 85) hx hb d_beginValue_64 (by decide) (fun hc => ?_) (fun hc => ?_)
      · have hm := ift hc hm
        exact w_beginValue_85  B hR hl I hm
      · have hm := iff' hc hm
        refine lv_iload_n (pc := 67) (i := 3) hx hb d_beginValue_67 rfl (lx_get hl rfl) ?_
        refine lv_bipush (pc := 68) (v := 102) hx hb d_beginValue_68 (by decide) ?_
        refine lv_icmp_eq (pc := 70) (tgt := 85) hx hb d_beginValue_70 (by decide) (fun hc => ?_) (fun hc => ?_)
        · have hm := ift hc hm
          exact w_beginValue_85  B hR hl I hm
        · have hm := iff' hc hm
          refine lv_iload_n (pc := 73) (i := 3) hx hb d_beginValue_73 rfl (lx_get hl rfl) ?_
          refine lv_bipush (pc := 74) (v := 34) hx hb d_beginValue_74 (by decide) ?_
          refine lv_icmp_eq (pc := 76) (tgt := 85) hx hb d_beginValue_76 (by decide) (fun hc => ?_) (fun hc => ?_)
          · have hm := ift hc hm
            exact w_beginValue_85  B hR hl I hm
          · have hm := iff' hc hm
            refine lv_iload_n (pc := 79) (i := 3) hx hb d_beginValue_79 rfl (lx_get hl rfl) ?_
            refine lv_bipush (pc := 80) (v := 39) hx hb d_beginValue_80 (by decide) ?_
            refine lv_icmp_ne (pc := 82) (tgt := 99) hx hb d_beginValue_82 (by decide) (fun hc => ?_) (fun hc => ?_)
            · have hm := iff' hc hm
              exact w_beginValue_99  B hR (lx_sub (lo' := [some (.ref h), none, none, none, none, none, none, none]) hl (by simp [lx_le])) I hm
            · have hm := ift hc hm
              exact w_beginValue_85  B hR hl I hm
def m_beginValue_44 (N : Nat) (y1 : Int32) (y2 : Int32) (y3 : Int32) (y4 : Int32) (S : rS) : Option (Int32 × rS) :=
  m_beginValue_49 N  y1 y2 y3 y4 1 S
set_option maxRecDepth 100000 in
set_option maxHeartbeats 4000000 in
theorem w_beginValue_44 {y1 : Int32} {y2 : Int32} {y3 : Int32} {y4 : Int32} {S : rS} (B : BX p m c cb_beginValue 8 s args (.code y_beginValue cb_beginValue 8 (some .boolean) :: wsA) RREF meth (some .boolean) D vwCl (tyL dA) b0 Z) (hR : RR b0 h Z) (hl : lx ls [some (.ref h), some (.int y1), some (.int y2), some (.int y3), some (.int y4), none, none, none]) (I : AI D vwCl b0 (rH dA h S hp0) sz s.heap H locs)  (hm : m_beginValue_44 N  y1 y2 y3 y4 S = some (r, S')) : W p l e { frames := 4, cells := 0, slots := 0, locals := 95 } s m args below meth c H locs 0 0 (MQ below (CQ D vwCl b0 (some (.int r)) (rH dA h S' hp0) sz) args s 0 0 (fun q => b0 ≤ q)) (F0 m 44 ls []) := by
  obtain ⟨hx, hb, -⟩ := B.1
  unfold m_beginValue_44 at hm
  refine lv_iconst (pc := 44) (v := 1) hx hb d_beginValue_44 (by decide) ?_
  refine lv_goto (pc := 45) (tgt := 49) hx hb d_beginValue_45 (by decide) ?_
  exact w_beginValue_49  B hR hl I hm
def m_beginValue_30 (N : Nat) (y1 : Int32) (y2 : Int32) (y3 : Int32) (z0 : Int32) (S : rS) : Option (Int32 × rS) :=
  if y3 = 91 then (m_beginValue_44 N  y1 y2 y3 z0 S) else (if y3 = 123 then (m_beginValue_44 N  y1 y2 y3 z0 S) else (m_beginValue_49 N  y1 y2 y3 z0 0 S))
set_option maxRecDepth 100000 in
set_option maxHeartbeats 4000000 in
theorem w_beginValue_30 {y1 : Int32} {y2 : Int32} {y3 : Int32} {z0 : Int32} {S : rS} (B : BX p m c cb_beginValue 8 s args (.code y_beginValue cb_beginValue 8 (some .boolean) :: wsA) RREF meth (some .boolean) D vwCl (tyL dA) b0 Z) (hR : RR b0 h Z) (hl : lx ls [some (.ref h), some (.int y1), some (.int y2), some (.int y3), none, none, none, none]) (I : AI D vwCl b0 (rH dA h S hp0) sz s.heap H locs)  (hm : m_beginValue_30 N  y1 y2 y3 z0 S = some (r, S')) : W p l e { frames := 4, cells := 0, slots := 0, locals := 95 } s m args below meth c H locs 0 0 (MQ below (CQ D vwCl b0 (some (.int r)) (rH dA h S' hp0) sz) args s 0 0 (fun q => b0 ≤ q)) (F0 m 30 ls [.int z0]) := by
  obtain ⟨hx, hb, -⟩ := B.1
  unfold m_beginValue_30 at hm
  refine q_istore (pc := 30) (i := 4) (lo' := [some (.ref h), some (.int y1), some (.int y2), some (.int y3), some (.int z0), none, none, none]) hx hb d_beginValue_30 hl (Nat.le_of_ble_eq_true rfl) (lx_ci rfl) rfl (fun ls hl => ?_)
  refine lv_iload_n (pc := 32) (i := 3) hx hb d_beginValue_32 rfl (lx_get hl rfl) ?_
  refine lv_bipush (pc := 33) (v := 91) hx hb d_beginValue_33 (by decide) ?_
  refine lv_icmp_eq (pc := 35) (tgt := 44) hx hb d_beginValue_35 (by decide) (fun hc => ?_) (fun hc => ?_)
  · have hm := ift hc hm
    exact w_beginValue_44  B hR hl I hm
  · have hm := iff' hc hm
    refine lv_iload_n (pc := 38) (i := 3) hx hb d_beginValue_38 rfl (lx_get hl rfl) ?_
    refine lv_bipush (pc := 39) (v := 123) hx hb d_beginValue_39 (by decide) ?_
    refine lv_icmp_ne (pc := 41) (tgt := 48) hx hb d_beginValue_41 (by decide) (fun hc => ?_) (fun hc => ?_)
    · have hm := iff' hc hm
      refine lv_iconst (pc := 48) (v := 0) hx hb d_beginValue_48 (by decide) ?_
      exact w_beginValue_49  B hR hl I hm
    · have hm := ift hc hm
      exact w_beginValue_44  B hR hl I hm
def m_beginValue_25 (N : Nat) (y1 : Int32) (y2 : Int32) (y3 : Int32) (S : rS) : Option (Int32 × rS) :=
  m_beginValue_30 N  y1 y2 y3 1 S
set_option maxRecDepth 100000 in
set_option maxHeartbeats 4000000 in
theorem w_beginValue_25 {y1 : Int32} {y2 : Int32} {y3 : Int32} {S : rS} (B : BX p m c cb_beginValue 8 s args (.code y_beginValue cb_beginValue 8 (some .boolean) :: wsA) RREF meth (some .boolean) D vwCl (tyL dA) b0 Z) (hR : RR b0 h Z) (hl : lx ls [some (.ref h), some (.int y1), some (.int y2), some (.int y3), none, none, none, none]) (I : AI D vwCl b0 (rH dA h S hp0) sz s.heap H locs)  (hm : m_beginValue_25 N  y1 y2 y3 S = some (r, S')) : W p l e { frames := 4, cells := 0, slots := 0, locals := 95 } s m args below meth c H locs 0 0 (MQ below (CQ D vwCl b0 (some (.int r)) (rH dA h S' hp0) sz) args s 0 0 (fun q => b0 ≤ q)) (F0 m 25 ls []) := by
  obtain ⟨hx, hb, -⟩ := B.1
  unfold m_beginValue_25 at hm
  refine lv_iconst (pc := 25) (v := 1) hx hb d_beginValue_25 (by decide) ?_
  refine lv_goto (pc := 26) (tgt := 30) hx hb d_beginValue_26 (by decide) ?_
  exact w_beginValue_30  B hR hl I hm
def m_beginValue (N : Nat) (p1 : Int32) (p2 : Int32) (S : rS) : Option (Int32 × rS) :=
  b1 (m_here N S) (fun x2 => b1 (m_isDigit N x2 S) (fun x4 => if x4 = 0 then (if x2 = 43 then (m_beginValue_25 N  p1 p2 x2 S) else (if x2 = 45 then (m_beginValue_25 N  p1 p2 x2 S) else (m_beginValue_30 N  p1 p2 x2 0 S))) else (m_beginValue_25 N  p1 p2 x2 S)))
set_option maxRecDepth 100000 in
set_option maxHeartbeats 4000000 in
theorem c_beginValue {p1 : Int32} {p2 : Int32} {S S' : rS} {r : Int32} (hR : RR b0 h Z) (hm : m_beginValue N p1 p2 S = some (r, S')) : Ct l D vwCl (tyL dA) b0 Z y_beginValue (.code y_beginValue cb_beginValue 8 (some .boolean) :: wsA) 4 95 [.ref h, .int p1, .int p2] (rH dA h S hp0) sz (some (.int r)) (rH dA h S' hp0) 0 0 := by
  refine ct_of (cc := cb_beginValue) (maxL := 8) (ret := (some .boolean)) (lo0 := [some (.ref h), some (.int p1), some (.int p2), none, none, none, none, none]) hR.2 (by decide) rfl (by simp [lg_sl, Value.category]) rfl (by simp [lx_all, lv_args, Value.category]) ?_
  intro p e s m args below meth c ls B hnm hl I
  obtain ⟨hx, hb, -⟩ := B.1
  unfold m_beginValue at hm
  refine lv_aload_n (pc := 0) (i := 0) hx hb d_beginValue_0 rfl (lx_get hl rfl) ?_
  refine ob1 hm (fun x2 e1 hm => ?_)
  refine r_call (pc := 1) (As := []) (rest := []) B hl rfl I (c_here hR e1) kw_here rfl (by decide) (by decide) rfl (by simp [Value.category]) d_beginValue_1 (fun H locs I => ?_)
  refine q_istore_n (pc := 4) (i := 3) (lo' := [some (.ref h), some (.int p1), some (.int p2), some (.int x2), none, none, none, none]) hx hb d_beginValue_4 rfl hl (Nat.le_of_ble_eq_true rfl) (lx_ci rfl) rfl (fun ls hl => ?_)
  refine lv_aload_n (pc := 5) (i := 0) hx hb d_beginValue_5 rfl (lx_get hl rfl) ?_
  refine lv_iload_n (pc := 6) (i := 3) hx hb d_beginValue_6 rfl (lx_get hl rfl) ?_
  refine ob1 hm (fun x4 e3 hm => ?_)
  refine r_call (pc := 7) (As := [.int x2]) (rest := []) B hl rfl I (c_isDigit hR e3) kw_isDigit rfl (by decide) (by decide) rfl (by simp [Value.category]) d_beginValue_7 (fun H locs I => ?_)
  refine lv_if_ne (pc := 10) (tgt := 25) hx hb d_beginValue_10 (by decide) (fun hc => ?_) (fun hc => ?_)
  · have hm := iff' hc hm
    exact w_beginValue_25  B hR hl I hm
  · have hm := ift hc hm
    refine lv_iload_n (pc := 13) (i := 3) hx hb d_beginValue_13 rfl (lx_get hl rfl) ?_
    refine lv_bipush (pc := 14) (v := 43) hx hb d_beginValue_14 (by decide) ?_
    refine lv_icmp_eq (pc := 16) (tgt := 25) hx hb d_beginValue_16 (by decide) (fun hc => ?_) (fun hc => ?_)
    · have hm := ift hc hm
      exact w_beginValue_25  B hR hl I hm
    · have hm := iff' hc hm
      refine lv_iload_n (pc := 19) (i := 3) hx hb d_beginValue_19 rfl (lx_get hl rfl) ?_
      refine lv_bipush (pc := 20) (v := 45) hx hb d_beginValue_20 (by decide) ?_
      refine lv_icmp_ne (pc := 22) (tgt := 29) hx hb d_beginValue_22 (by decide) (fun hc => ?_) (fun hc => ?_)
      · have hm := iff' hc hm
        refine lv_iconst (pc := 29) (v := 0) hx hb d_beginValue_29 (by decide) ?_
        exact w_beginValue_30  B hR hl I hm
      · have hm := ift hc hm
        exact w_beginValue_25  B hR hl I hm
def m_stepList (N : Nat) (p1 : Int32) (S : rS) : Option (Int32 × rS) :=
  b1 (rL S 17 p1) (fun x1 => b1 (m_room N S) (fun S4 => b1 (m_here N S4) (fun x6 => if x6 = 93 then (b1 (rP S4 3 ((S4.1 3) + 1)) (fun S23 => b1 (rP S23 26 ((S23.1 26) - 1)) (fun S25 => some (1, S25)))) else (b1 (rL S4 18 p1) (fun x7 => if x7 = 1 then (b1 (m_here N S4) (fun x15 => if x15 = 44 then (b1 (rP S4 3 ((S4.1 3) + 1)) (fun S16 => b1 (rT S16 18 p1 0) (fun S18 => some (1, S18)))) else (b2 (m_fail N (S4.1 3) S4) (fun x21 S22 => if x21 = 0 ∨ x21 = 1 then (some (x21, S22)) else none)))) else (b1 (rT S4 18 p1 1) (fun S9 => b2 (m_beginValue N x1 (-1) S9) (fun x12 S13 => if x12 = 0 ∨ x12 = 1 then (some (x12, S13)) else none))))))))
set_option maxRecDepth 100000 in
set_option maxHeartbeats 4000000 in
theorem c_stepList {p1 : Int32} {S S' : rS} {r : Int32} (hR : RR b0 h Z) (hm : m_stepList N p1 S = some (r, S')) : Ct l D vwCl (tyL dA) b0 Z y_stepList (.code y_stepList cb_stepList 3 (some .boolean) :: wsA) 5 122 [.ref h, .int p1] (rH dA h S hp0) sz (some (.int r)) (rH dA h S' hp0) 0 0 := by
  refine ct_of (cc := cb_stepList) (maxL := 3) (ret := (some .boolean)) (lo0 := [some (.ref h), some (.int p1), none]) hR.2 (by decide) rfl (by simp [lg_sl, Value.category]) rfl (by simp [lx_all, lv_args, Value.category]) ?_
  intro p e s m args below meth c ls B hnm hl I
  obtain ⟨hx, hb, -⟩ := B.1
  unfold m_stepList at hm
  refine lv_aload_n (pc := 0) (i := 0) hx hb d_stepList_0 rfl (lx_get hl rfl) ?_
  refine r_get (pc := 1) (k := 27) (index := 58) B I (by decide) mF_58 rfl rfl d_stepList_1 ?_
  refine lv_iload_n (pc := 4) (i := 1) hx hb d_stepList_4 rfl (lx_get hl rfl) ?_
  refine ob1 hm (fun x1 e2 hm => ?_)
  refine r_ald (pc := 5) (j := 17) B I (by decide) (by decide) e2 d_stepList_5 ?_
  refine q_istore_n (pc := 6) (i := 2) (lo' := [some (.ref h), some (.int p1), some (.int x1)]) hx hb d_stepList_6 rfl hl (Nat.le_of_ble_eq_true rfl) (lx_ci rfl) rfl (fun ls hl => ?_)
  refine lv_aload_n (pc := 7) (i := 0) hx hb d_stepList_7 rfl (lx_get hl rfl) ?_
  refine ob1 hm (fun S4 e3 hm => ?_)
  refine r_call (pc := 8) (As := []) (rest := []) B hl rfl I (c_room hR e3) kw_room rfl (by decide) (by decide) rfl (by simp [Value.category]) d_stepList_8 (fun H locs I => ?_)
  refine lv_aload_n (pc := 11) (i := 0) hx hb d_stepList_11 rfl (lx_get hl rfl) ?_
  refine ob1 hm (fun x6 e5 hm => ?_)
  refine r_call (pc := 12) (As := []) (rest := []) B hl rfl I (c_here hR e5) kw_here rfl (by decide) (by decide) rfl (by simp [Value.category]) d_stepList_12 (fun H locs I => ?_)
  refine lv_bipush (pc := 15) (v := 93) hx hb d_stepList_15 (by decide) ?_
  refine lv_icmp_ne (pc := 17) (tgt := 42) hx hb d_stepList_17 (by decide) (fun hc => ?_) (fun hc => ?_)
  · have hm := iff' hc hm
    refine lv_aload_n (pc := 42) (i := 0) hx hb d_stepList_42 rfl (lx_get hl rfl) ?_
    refine r_get (pc := 43) (k := 28) (index := 61) B I (by decide) mF_61 rfl rfl d_stepList_43 ?_
    refine lv_iload_n (pc := 46) (i := 1) hx hb d_stepList_46 rfl (lx_get hl rfl) ?_
    refine ob1 hm (fun x7 e8 hm => ?_)
    refine r_ald (pc := 47) (j := 18) B I (by decide) (by decide) e8 d_stepList_47 ?_
    refine lv_iconst (pc := 48) (v := 1) hx hb d_stepList_48 (by decide) ?_
    refine lv_icmp_ne (pc := 49) (tgt := 89) hx hb d_stepList_49 (by decide) (fun hc => ?_) (fun hc => ?_)
    · have hm := iff' hc hm
      refine lv_aload_n (pc := 89) (i := 0) hx hb d_stepList_89 rfl (lx_get hl rfl) ?_
      refine r_get (pc := 90) (k := 28) (index := 61) B I (by decide) mF_61 rfl rfl d_stepList_90 ?_
      refine lv_iload_n (pc := 93) (i := 1) hx hb d_stepList_93 rfl (lx_get hl rfl) ?_
      refine lv_iconst (pc := 94) (v := 1) hx hb d_stepList_94 (by decide) ?_
      refine ob1 hm (fun S9 e10 hm => ?_)
      refine r_ast (pc := 95) (j := 18) B hR I (by decide) (by decide) e10 d_stepList_95 (fun H locs I => ?_)
      refine lv_aload_n (pc := 96) (i := 0) hx hb d_stepList_96 rfl (lx_get hl rfl) ?_
      refine lv_iload_n (pc := 97) (i := 2) hx hb d_stepList_97 rfl (lx_get hl rfl) ?_
      refine lv_iconst (pc := 98) (v := (-1)) hx hb d_stepList_98 (by decide) ?_
      refine ob2 hm (fun x12 S13 e11 hm => ?_)
      refine r_call (pc := 99) (As := [.int x1, .int (-1)]) (rest := []) B hl rfl I (c_beginValue hR e11) kw_beginValue rfl (by decide) (by decide) rfl (by simp [Value.category]) d_stepList_99 (fun H locs I => ?_)
      by_cases hq : x12 = 0 ∨ x12 = 1
      · have hm := ift hq hm
        cases hm
        exact q_zret (pc := 102) B I rfl (zn hq) d_stepList_102
      · have hm := iff' hq hm
        cases hm
    · have hm := ift hc hm
      refine lv_aload_n (pc := 52) (i := 0) hx hb d_stepList_52 rfl (lx_get hl rfl) ?_
      refine ob1 hm (fun x15 e14 hm => ?_)
      refine r_call (pc := 53) (As := []) (rest := []) B hl rfl I (c_here hR e14) kw_here rfl (by decide) (by decide) rfl (by simp [Value.category]) d_stepList_53 (fun H locs I => ?_)
      refine lv_bipush (pc := 56) (v := 44) hx hb d_stepList_56 (by decide) ?_
      refine lv_icmp_eq (pc := 58) (tgt := 70) hx hb d_stepList_58 (by decide) (fun hc => ?_) (fun hc => ?_)
      · have hm := ift hc hm
        refine lv_aload_n (pc := 70) (i := 0) hx hb d_stepList_70 rfl (lx_get hl rfl) ?_
        refine lv_dup (pc := 71) hx hb d_stepList_71 rfl ?_
        refine r_get (pc := 72) (k := 3) (index := 76) B I (by decide) mF_76 rfl rfl d_stepList_72 ?_
        refine lv_iconst (pc := 75) (v := 1) hx hb d_stepList_75 (by decide) ?_
        refine lv_iadd (pc := 76) hx hb d_stepList_76 ?_
        refine ob1 hm (fun S16 e17 hm => ?_)
        refine r_put (pc := 77) (k := 3) (index := 76) B hR I (by decide) mF_76 rfl rfl rfl (fun _ _ => rfl) e17 d_stepList_77 (fun H locs I => ?_)
        refine lv_aload_n (pc := 80) (i := 0) hx hb d_stepList_80 rfl (lx_get hl rfl) ?_
        refine r_get (pc := 81) (k := 28) (index := 61) B I (by decide) mF_61 rfl rfl d_stepList_81 ?_
        refine lv_iload_n (pc := 84) (i := 1) hx hb d_stepList_84 rfl (lx_get hl rfl) ?_
        refine lv_iconst (pc := 85) (v := 0) hx hb d_stepList_85 (by decide) ?_
        refine ob1 hm (fun S18 e19 hm => ?_)
        refine r_ast (pc := 86) (j := 18) B hR I (by decide) (by decide) e19 d_stepList_86 (fun H locs I => ?_)
        refine lv_iconst (pc := 87) (v := 1) hx hb d_stepList_87 (by decide) ?_
        cases hm
        exact q_zret (pc := 88) B I rfl (by decide) d_stepList_88
      · have hm := iff' hc hm
        refine lv_aload_n (pc := 61) (i := 0) hx hb d_stepList_61 rfl (lx_get hl rfl) ?_
        refine lv_aload_n (pc := 62) (i := 0) hx hb d_stepList_62 rfl (lx_get hl rfl) ?_
        refine r_get (pc := 63) (k := 3) (index := 76) B I (by decide) mF_76 rfl rfl d_stepList_63 ?_
        refine ob2 hm (fun x21 S22 e20 hm => ?_)
        refine r_call (pc := 66) (As := [.int (S4.1 3)]) (rest := []) B hl rfl I (c_fail hR e20) kw_fail rfl (by decide) (by decide) rfl (by simp [Value.category]) d_stepList_66 (fun H locs I => ?_)
        by_cases hq : x21 = 0 ∨ x21 = 1
        · have hm := ift hq hm
          cases hm
          exact q_zret (pc := 69) B I rfl (zn hq) d_stepList_69
        · have hm := iff' hq hm
          cases hm
  · have hm := ift hc hm
    refine lv_aload_n (pc := 20) (i := 0) hx hb d_stepList_20 rfl (lx_get hl rfl) ?_
    refine lv_dup (pc := 21) hx hb d_stepList_21 rfl ?_
    refine r_get (pc := 22) (k := 3) (index := 76) B I (by decide) mF_76 rfl rfl d_stepList_22 ?_
    refine lv_iconst (pc := 25) (v := 1) hx hb d_stepList_25 (by decide) ?_
    refine lv_iadd (pc := 26) hx hb d_stepList_26 ?_
    refine ob1 hm (fun S23 e24 hm => ?_)
    refine r_put (pc := 27) (k := 3) (index := 76) B hR I (by decide) mF_76 rfl rfl rfl (fun _ _ => rfl) e24 d_stepList_27 (fun H locs I => ?_)
    refine lv_aload_n (pc := 30) (i := 0) hx hb d_stepList_30 rfl (lx_get hl rfl) ?_
    refine lv_dup (pc := 31) hx hb d_stepList_31 rfl ?_
    refine r_get (pc := 32) (k := 26) (index := 164) B I (by decide) mF_164 rfl rfl d_stepList_32 ?_
    refine lv_iconst (pc := 35) (v := 1) hx hb d_stepList_35 (by decide) ?_
    refine lv_isub (pc := 36) hx hb d_stepList_36 ?_
    refine ob1 hm (fun S25 e26 hm => ?_)
    refine r_put (pc := 37) (k := 26) (index := 164) B hR I (by decide) mF_164 rfl rfl rfl (fun _ _ => rfl) e26 d_stepList_37 (fun H locs I => ?_)
    refine lv_iconst (pc := 40) (v := 1) hx hb d_stepList_40 (by decide) ?_
    cases hm
    exact q_zret (pc := 41) B I rfl (by decide) d_stepList_41
def m_entry (N : Nat) (p1 : Int32) (S : rS) : Option (Int32 × rS) :=
  b2 (m_path N S) (fun x2 S3 => if x2 = 0 then (some (0, S3)) else (b2 (m_leadEntry N p1 S3) (fun x5 S6 => if x5 = (-1) then (some (0, S6)) else (b1 (m_here N S6) (fun x8 => if x8 = 61 then (b1 (rP S6 3 ((S6.1 3) + 1)) (fun S9 => b1 (m_blanks N S9) (fun S12 => b2 (m_beginValue N x5 ((S12.1 20) - 1) S12) (fun x14 S15 => if x14 = 0 ∨ x14 = 1 then (some (x14, S15)) else none)))) else (b2 (m_fail N (S6.1 3) S6) (fun x17 S18 => if x17 = 0 ∨ x17 = 1 then (some (x17, S18)) else none)))))))
set_option maxRecDepth 100000 in
set_option maxHeartbeats 4000000 in
theorem c_entry {p1 : Int32} {S S' : rS} {r : Int32} (hR : RR b0 h Z) (hm : m_entry N p1 S = some (r, S')) : Ct l D vwCl (tyL dA) b0 Z y_entry (.code y_entry cb_entry 3 (some .boolean) :: wsA) 5 122 [.ref h, .int p1] (rH dA h S hp0) sz (some (.int r)) (rH dA h S' hp0) 0 0 := by
  refine ct_of (cc := cb_entry) (maxL := 3) (ret := (some .boolean)) (lo0 := [some (.ref h), some (.int p1), none]) hR.2 (by decide) rfl (by simp [lg_sl, Value.category]) rfl (by simp [lx_all, lv_args, Value.category]) ?_
  intro p e s m args below meth c ls B hnm hl I
  obtain ⟨hx, hb, -⟩ := B.1
  unfold m_entry at hm
  refine lv_aload_n (pc := 0) (i := 0) hx hb d_entry_0 rfl (lx_get hl rfl) ?_
  refine ob2 hm (fun x2 S3 e1 hm => ?_)
  refine r_call (pc := 1) (As := []) (rest := []) B hl rfl I (c_path hR e1) kw_path rfl (by decide) (by decide) rfl (by simp [Value.category]) d_entry_1 (fun H locs I => ?_)
  refine lv_if_ne (pc := 4) (tgt := 9) hx hb d_entry_4 (by decide) (fun hc => ?_) (fun hc => ?_)
  · have hm := iff' hc hm
    refine lv_aload_n (pc := 9) (i := 0) hx hb d_entry_9 rfl (lx_get hl rfl) ?_
    refine lv_iload_n (pc := 10) (i := 1) hx hb d_entry_10 rfl (lx_get hl rfl) ?_
    refine ob2 hm (fun x5 S6 e4 hm => ?_)
    refine r_call (pc := 11) (As := [.int p1]) (rest := []) B hl rfl I (c_leadEntry hR e4) kw_leadEntry rfl (by decide) (by decide) rfl (by simp [Value.category]) d_entry_11 (fun H locs I => ?_)
    refine q_istore_n (pc := 14) (i := 2) (lo' := [some (.ref h), some (.int p1), some (.int x5)]) hx hb d_entry_14 rfl hl (Nat.le_of_ble_eq_true rfl) (lx_ci rfl) rfl (fun ls hl => ?_)
    refine lv_iload_n (pc := 15) (i := 2) hx hb d_entry_15 rfl (lx_get hl rfl) ?_
    refine lv_iconst (pc := 16) (v := (-1)) hx hb d_entry_16 (by decide) ?_
    refine lv_icmp_ne (pc := 17) (tgt := 22) hx hb d_entry_17 (by decide) (fun hc => ?_) (fun hc => ?_)
    · have hm := iff' hc hm
      refine lv_aload_n (pc := 22) (i := 0) hx hb d_entry_22 rfl (lx_get hl rfl) ?_
      refine ob1 hm (fun x8 e7 hm => ?_)
      refine r_call (pc := 23) (As := []) (rest := []) B hl rfl I (c_here hR e7) kw_here rfl (by decide) (by decide) rfl (by simp [Value.category]) d_entry_23 (fun H locs I => ?_)
      refine lv_bipush (pc := 26) (v := 61) hx hb d_entry_26 (by decide) ?_
      refine lv_icmp_eq (pc := 28) (tgt := 40) hx hb d_entry_28 (by decide) (fun hc => ?_) (fun hc => ?_)
      · have hm := ift hc hm
        refine lv_aload_n (pc := 40) (i := 0) hx hb d_entry_40 rfl (lx_get hl rfl) ?_
        refine lv_dup (pc := 41) hx hb d_entry_41 rfl ?_
        refine r_get (pc := 42) (k := 3) (index := 76) B I (by decide) mF_76 rfl rfl d_entry_42 ?_
        refine lv_iconst (pc := 45) (v := 1) hx hb d_entry_45 (by decide) ?_
        refine lv_iadd (pc := 46) hx hb d_entry_46 ?_
        refine ob1 hm (fun S9 e10 hm => ?_)
        refine r_put (pc := 47) (k := 3) (index := 76) B hR I (by decide) mF_76 rfl rfl rfl (fun _ _ => rfl) e10 d_entry_47 (fun H locs I => ?_)
        refine lv_aload_n (pc := 50) (i := 0) hx hb d_entry_50 rfl (lx_get hl rfl) ?_
        refine ob1 hm (fun S12 e11 hm => ?_)
        refine r_call (pc := 51) (As := []) (rest := []) B hl rfl I (c_blanks hR e11) kw_blanks rfl (by decide) (by decide) rfl (by simp [Value.category]) d_entry_51 (fun H locs I => ?_)
        refine lv_aload_n (pc := 54) (i := 0) hx hb d_entry_54 rfl (lx_get hl rfl) ?_
        refine lv_iload_n (pc := 55) (i := 2) hx hb d_entry_55 rfl (lx_get hl rfl) ?_
        refine lv_aload_n (pc := 56) (i := 0) hx hb d_entry_56 rfl (lx_get hl rfl) ?_
        refine r_get (pc := 57) (k := 20) (index := 119) B I (by decide) mF_119 rfl rfl d_entry_57 ?_
        refine lv_iconst (pc := 60) (v := 1) hx hb d_entry_60 (by decide) ?_
        refine lv_isub (pc := 61) hx hb d_entry_61 ?_
        refine ob2 hm (fun x14 S15 e13 hm => ?_)
        refine r_call (pc := 62) (As := [.int x5, .int ((S12.1 20) - 1)]) (rest := []) B hl rfl I (c_beginValue hR e13) kw_beginValue rfl (by decide) (by decide) rfl (by simp [Value.category]) d_entry_62 (fun H locs I => ?_)
        by_cases hq : x14 = 0 ∨ x14 = 1
        · have hm := ift hq hm
          cases hm
          exact q_zret (pc := 65) B I rfl (zn hq) d_entry_65
        · have hm := iff' hq hm
          cases hm
      · have hm := iff' hc hm
        refine lv_aload_n (pc := 31) (i := 0) hx hb d_entry_31 rfl (lx_get hl rfl) ?_
        refine lv_aload_n (pc := 32) (i := 0) hx hb d_entry_32 rfl (lx_get hl rfl) ?_
        refine r_get (pc := 33) (k := 3) (index := 76) B I (by decide) mF_76 rfl rfl d_entry_33 ?_
        refine ob2 hm (fun x17 S18 e16 hm => ?_)
        refine r_call (pc := 36) (As := [.int (S6.1 3)]) (rest := []) B hl rfl I (c_fail hR e16) kw_fail rfl (by decide) (by decide) rfl (by simp [Value.category]) d_entry_36 (fun H locs I => ?_)
        by_cases hq : x17 = 0 ∨ x17 = 1
        · have hm := ift hq hm
          cases hm
          exact q_zret (pc := 39) B I rfl (zn hq) d_entry_39
        · have hm := iff' hq hm
          cases hm
    · have hm := ift hc hm
      refine lv_iconst (pc := 20) (v := 0) hx hb d_entry_20 (by decide) ?_
      cases hm
      exact q_zret (pc := 21) B I rfl (by decide) d_entry_21
  · have hm := ift hc hm
    refine lv_iconst (pc := 7) (v := 0) hx hb d_entry_7 (by decide) ?_
    cases hm
    exact q_zret (pc := 8) B I rfl (by decide) d_entry_8
def m_stepTable_103 (N : Nat) (K54 : Int32 → rS → Option (Int32 × rS)) (y3 : Int32) (z1 : Int32) (z2 : Int32) (S : rS) : Option (Int32 × rS) :=
  b1 (rT S 3 z1 z2) (fun S1 => K54 (y3 + 1) S1)
set_option maxRecDepth 100000 in
set_option maxHeartbeats 4000000 in
theorem w_stepTable_103 {K54 : Int32 → rS → Option (Int32 × rS)} {y3 : Int32} {z1 : Int32} {z2 : Int32} {S : rS} (hK54 : ∀ (y3 : Int32) (S : rS) (ls : Array Slot) (H : Heap) (locs : List Loc), lx ls [some (.ref h), none, none, some (.int y3)] → AI D vwCl b0 (rH dA h S hp0) sz s.heap H locs → K54 y3 S = some (r, S') → W p l e { frames := 6, cells := 0, slots := 0, locals := 144 } s m args below meth c H locs 0 0 (MQ below (CQ D vwCl b0 (some (.int r)) (rH dA h S' hp0) sz) args s 0 0 (fun q => b0 ≤ q)) (F0 m 54 ls [])) (B : BX p m c cb_stepTable 4 s args (.code y_stepTable cb_stepTable 4 (some .boolean) :: wsA) RREF meth (some .boolean) D vwCl (tyL dA) b0 Z) (hR : RR b0 h Z) (hl : lx ls [some (.ref h), none, none, some (.int y3)]) (I : AI D vwCl b0 (rH dA h S hp0) sz s.heap H locs)  (hm : m_stepTable_103 N K54 y3 z1 z2 S = some (r, S')) : W p l e { frames := 6, cells := 0, slots := 0, locals := 144 } s m args below meth c H locs 0 0 (MQ below (CQ D vwCl b0 (some (.int r)) (rH dA h S' hp0) sz) args s 0 0 (fun q => b0 ≤ q)) (F0 m 103 ls [.int z2, .int z1, .ref (h + 3)]) := by
  obtain ⟨hx, hb, -⟩ := B.1
  unfold m_stepTable_103 at hm
  refine ob1 hm (fun S1 e2 hm => ?_)
  refine r_ast (pc := 103) (j := 3) B hR I (by decide) (by decide) e2 d_stepTable_103 (fun H locs I => ?_)
  refine q_iinc (pc := 104) (i := 3) (v := y3 + 1) (lo' := [some (.ref h), none, none, some (.int (y3 + 1))]) hx hb d_stepTable_104 hl rfl rfl (Nat.le_of_ble_eq_true rfl) (lx_cn rfl) rfl (fun ls hl => ?_)
  refine lv_goto (pc := 107) (tgt := 54) hx hb d_stepTable_107 (by decide) ?_
  exact hK54 _ _ _ _ _ hl I hm
def m_stepTable_54F (N : Nat) (K54 : Int32 → rS → Option (Int32 × rS)) (y3 : Int32) (S : rS) : Option (Int32 × rS) :=
  b1 (rL S 2 (S.1 19)) (fun x1 => if (260 * (S.1 19)) + x1 ≤ y3 then (some (1, S)) else (b1 (rL S 3 y3) (fun x3 => if x3 = 9 then (m_stepTable_103 N K54 y3 y3 10 S) else (b1 (rL S 3 y3) (fun x5 => m_stepTable_103 N K54 y3 y3 x5 S)))))
def m_stepTable_54 (N : Nat) : Nat → Int32 → rS → Option (Int32 × rS)
  | 0, _, _ => none
  | k + 1, y3, S => m_stepTable_54F N  (m_stepTable_54 N  k) y3 S
set_option maxRecDepth 100000 in
set_option maxHeartbeats 4000000 in
theorem w_stepTable_54F {K54 : Int32 → rS → Option (Int32 × rS)} {y3 : Int32} {S : rS} (hK54 : ∀ (y3 : Int32) (S : rS) (ls : Array Slot) (H : Heap) (locs : List Loc), lx ls [some (.ref h), none, none, some (.int y3)] → AI D vwCl b0 (rH dA h S hp0) sz s.heap H locs → K54 y3 S = some (r, S') → W p l e { frames := 6, cells := 0, slots := 0, locals := 144 } s m args below meth c H locs 0 0 (MQ below (CQ D vwCl b0 (some (.int r)) (rH dA h S' hp0) sz) args s 0 0 (fun q => b0 ≤ q)) (F0 m 54 ls [])) (B : BX p m c cb_stepTable 4 s args (.code y_stepTable cb_stepTable 4 (some .boolean) :: wsA) RREF meth (some .boolean) D vwCl (tyL dA) b0 Z) (hR : RR b0 h Z) (hl : lx ls [some (.ref h), none, none, some (.int y3)]) (I : AI D vwCl b0 (rH dA h S hp0) sz s.heap H locs)  (hm : m_stepTable_54F N  K54 y3 S = some (r, S')) : W p l e { frames := 6, cells := 0, slots := 0, locals := 144 } s m args below meth c H locs 0 0 (MQ below (CQ D vwCl b0 (some (.int r)) (rH dA h S' hp0) sz) args s 0 0 (fun q => b0 ≤ q)) (F0 m 54 ls []) := by
  obtain ⟨hx, hb, -⟩ := B.1
  unfold m_stepTable_54F at hm
  refine lv_iload_n (pc := 54) (i := 3) hx hb d_stepTable_54 rfl (lx_get hl rfl) ?_
  refine lv_sipush (pc := 55) (v := 260) hx hb d_stepTable_55 (by decide) ?_
  refine lv_aload_n (pc := 58) (i := 0) hx hb d_stepTable_58 rfl (lx_get hl rfl) ?_
  refine r_get (pc := 59) (k := 19) (index := 93) B I (by decide) mF_93 rfl rfl d_stepTable_59 ?_
  refine lv_imul (pc := 62) hx hb d_stepTable_62 ?_
  refine lv_aload_n (pc := 63) (i := 0) hx hb d_stepTable_63 rfl (lx_get hl rfl) ?_
  refine r_get (pc := 64) (k := 6) (index := 13) B I (by decide) mF_13 rfl rfl d_stepTable_64 ?_
  refine lv_aload_n (pc := 67) (i := 0) hx hb d_stepTable_67 rfl (lx_get hl rfl) ?_
  refine r_get (pc := 68) (k := 19) (index := 93) B I (by decide) mF_93 rfl rfl d_stepTable_68 ?_
  refine ob1 hm (fun x1 e2 hm => ?_)
  refine r_ald (pc := 71) (j := 2) B I (by decide) (by decide) e2 d_stepTable_71 ?_
  refine lv_iadd (pc := 72) hx hb d_stepTable_72 ?_
  refine lv_icmp_ge (pc := 73) (tgt := 110) hx hb d_stepTable_73 (by decide) (fun hc => ?_) (fun hc => ?_)
  · have hm := ift hc hm
    refine lv_iconst (pc := 110) (v := 1) hx hb d_stepTable_110 (by decide) ?_
    cases hm
    exact q_zret (pc := 111) B I rfl (by decide) d_stepTable_111
  · have hm := iff' hc hm
    refine lv_aload_n (pc := 76) (i := 0) hx hb d_stepTable_76 rfl (lx_get hl rfl) ?_
    refine r_get (pc := 77) (k := 7) (index := 16) B I (by decide) mF_16 rfl rfl d_stepTable_77 ?_
    refine lv_iload_n (pc := 80) (i := 3) hx hb d_stepTable_80 rfl (lx_get hl rfl) ?_
    refine lv_aload_n (pc := 81) (i := 0) hx hb d_stepTable_81 rfl (lx_get hl rfl) ?_
    refine r_get (pc := 82) (k := 7) (index := 16) B I (by decide) mF_16 rfl rfl d_stepTable_82 ?_
    refine lv_iload_n (pc := 85) (i := 3) hx hb d_stepTable_85 rfl (lx_get hl rfl) ?_
    refine ob1 hm (fun x3 e4 hm => ?_)
    refine r_ald (pc := 86) (j := 3) B I (by decide) (by decide) e4 d_stepTable_86 ?_
    refine lv_bipush (pc := 87) (v := 9) hx hb d_stepTable_87 (by decide) ?_
    refine lv_icmp_ne (pc := 89) (tgt := 97) hx hb d_stepTable_89 (by decide) (fun hc => ?_) (fun hc => ?_)
    · have hm := iff' hc hm
      refine lv_aload_n (pc := 97) (i := 0) hx hb d_stepTable_97 rfl (lx_get hl rfl) ?_
      refine r_get (pc := 98) (k := 7) (index := 16) B I (by decide) mF_16 rfl rfl d_stepTable_98 ?_
      refine lv_iload_n (pc := 101) (i := 3) hx hb d_stepTable_101 rfl (lx_get hl rfl) ?_
      refine ob1 hm (fun x5 e6 hm => ?_)
      refine r_ald (pc := 102) (j := 3) B I (by decide) (by decide) e6 d_stepTable_102 ?_
      exact w_stepTable_103 hK54 B hR hl I hm
    · have hm := ift hc hm
      refine lv_bipush (pc := 92) (v := 10) hx hb d_stepTable_92 (by decide) ?_
      refine lv_goto (pc := 94) (tgt := 103) hx hb d_stepTable_94 (by decide) ?_
      exact w_stepTable_103 hK54 B hR hl I hm
set_option maxRecDepth 100000 in
set_option maxHeartbeats 4000000 in
theorem w_stepTable_54i (B : BX p m c cb_stepTable 4 s args (.code y_stepTable cb_stepTable 4 (some .boolean) :: wsA) RREF meth (some .boolean) D vwCl (tyL dA) b0 Z) (hR : RR b0 h Z) (k : Nat) (y3 : Int32) (S : rS) (ls : Array Slot) (H : Heap) (locs : List Loc) (hl : lx ls [some (.ref h), none, none, some (.int y3)]) (I : AI D vwCl b0 (rH dA h S hp0) sz s.heap H locs)  (hm : m_stepTable_54 N  k y3 S = some (r, S')) : W p l e { frames := 6, cells := 0, slots := 0, locals := 144 } s m args below meth c H locs 0 0 (MQ below (CQ D vwCl b0 (some (.int r)) (rH dA h S' hp0) sz) args s 0 0 (fun q => b0 ≤ q)) (F0 m 54 ls []) := by
  induction k generalizing y3 S ls H locs with
  | zero => cases hm
  | succ k ih => exact w_stepTable_54F  (fun y3 S ls H locs hl I hm => ih y3 S ls H locs hl I hm) B hR hl I hm
theorem w_stepTable_54 {y3 : Int32} {S : rS} (B : BX p m c cb_stepTable 4 s args (.code y_stepTable cb_stepTable 4 (some .boolean) :: wsA) RREF meth (some .boolean) D vwCl (tyL dA) b0 Z) (hR : RR b0 h Z) (hl : lx ls [some (.ref h), none, none, some (.int y3)]) (I : AI D vwCl b0 (rH dA h S hp0) sz s.heap H locs)  {k : Nat} (hm : m_stepTable_54 N  k y3 S = some (r, S')) : W p l e { frames := 6, cells := 0, slots := 0, locals := 144 } s m args below meth c H locs 0 0 (MQ below (CQ D vwCl b0 (some (.int r)) (rH dA h S' hp0) sz) args s 0 0 (fun q => b0 ≤ q)) (F0 m 54 ls []) := w_stepTable_54i  B hR k _ S ls H locs hl I hm
def m_stepTable_112 (N : Nat) (y1 : Int32) (y2 : Int32) (S : rS) : Option (Int32 × rS) :=
  b1 (rL S 18 y1) (fun x1 => if x1 = 1 then (b1 (m_here N S) (fun x9 => if x9 = 44 then (b1 (rP S 3 ((S.1 3) + 1)) (fun S10 => b1 (rT S10 18 y1 2) (fun S12 => some (1, S12)))) else (b2 (m_fail N (S.1 3) S) (fun x15 S16 => if x15 = 0 ∨ x15 = 1 then (some (x15, S16)) else none)))) else (b1 (rT S 18 y1 1) (fun S3 => b2 (m_entry N y2 S3) (fun x6 S7 => if x6 = 0 ∨ x6 = 1 then (some (x6, S7)) else none))))
set_option maxRecDepth 100000 in
set_option maxHeartbeats 4000000 in
theorem w_stepTable_112 {y1 : Int32} {y2 : Int32} {S : rS} (B : BX p m c cb_stepTable 4 s args (.code y_stepTable cb_stepTable 4 (some .boolean) :: wsA) RREF meth (some .boolean) D vwCl (tyL dA) b0 Z) (hR : RR b0 h Z) (hl : lx ls [some (.ref h), some (.int y1), some (.int y2), none]) (I : AI D vwCl b0 (rH dA h S hp0) sz s.heap H locs)  (hm : m_stepTable_112 N  y1 y2 S = some (r, S')) : W p l e { frames := 6, cells := 0, slots := 0, locals := 144 } s m args below meth c H locs 0 0 (MQ below (CQ D vwCl b0 (some (.int r)) (rH dA h S' hp0) sz) args s 0 0 (fun q => b0 ≤ q)) (F0 m 112 ls []) := by
  obtain ⟨hx, hb, -⟩ := B.1
  unfold m_stepTable_112 at hm
  refine lv_aload_n (pc := 112) (i := 0) hx hb d_stepTable_112 rfl (lx_get hl rfl) ?_
  refine r_get (pc := 113) (k := 28) (index := 61) B I (by decide) mF_61 rfl rfl d_stepTable_113 ?_
  refine lv_iload_n (pc := 116) (i := 1) hx hb d_stepTable_116 rfl (lx_get hl rfl) ?_
  refine ob1 hm (fun x1 e2 hm => ?_)
  refine r_ald (pc := 117) (j := 18) B I (by decide) (by decide) e2 d_stepTable_117 ?_
  refine lv_iconst (pc := 118) (v := 1) hx hb d_stepTable_118 (by decide) ?_
  refine lv_icmp_ne (pc := 119) (tgt := 159) hx hb d_stepTable_119 (by decide) (fun hc => ?_) (fun hc => ?_)
  · have hm := iff' hc hm
    refine lv_aload_n (pc := 159) (i := 0) hx hb d_stepTable_159 rfl (lx_get hl rfl) ?_
    refine r_get (pc := 160) (k := 28) (index := 61) B I (by decide) mF_61 rfl rfl d_stepTable_160 ?_
    refine lv_iload_n (pc := 163) (i := 1) hx hb d_stepTable_163 rfl (lx_get hl rfl) ?_
    refine lv_iconst (pc := 164) (v := 1) hx hb d_stepTable_164 (by decide) ?_
    refine ob1 hm (fun S3 e4 hm => ?_)
    refine r_ast (pc := 165) (j := 18) B hR I (by decide) (by decide) e4 d_stepTable_165 (fun H locs I => ?_)
    refine lv_aload_n (pc := 166) (i := 0) hx hb d_stepTable_166 rfl (lx_get hl rfl) ?_
    refine lv_iload_n (pc := 167) (i := 2) hx hb d_stepTable_167 rfl (lx_get hl rfl) ?_
    refine ob2 hm (fun x6 S7 e5 hm => ?_)
    refine r_call (pc := 168) (As := [.int y2]) (rest := []) B hl rfl I (c_entry hR e5) kw_entry rfl (by decide) (by decide) rfl (by simp [Value.category]) d_stepTable_168 (fun H locs I => ?_)
    by_cases hq : x6 = 0 ∨ x6 = 1
    · have hm := ift hq hm
      cases hm
      exact q_zret (pc := 171) B I rfl (zn hq) d_stepTable_171
    · have hm := iff' hq hm
      cases hm
  · have hm := ift hc hm
    refine lv_aload_n (pc := 122) (i := 0) hx hb d_stepTable_122 rfl (lx_get hl rfl) ?_
    refine ob1 hm (fun x9 e8 hm => ?_)
    refine r_call (pc := 123) (As := []) (rest := []) B hl rfl I (c_here hR e8) kw_here rfl (by decide) (by decide) rfl (by simp [Value.category]) d_stepTable_123 (fun H locs I => ?_)
    refine lv_bipush (pc := 126) (v := 44) hx hb d_stepTable_126 (by decide) ?_
    refine lv_icmp_eq (pc := 128) (tgt := 140) hx hb d_stepTable_128 (by decide) (fun hc => ?_) (fun hc => ?_)
    · have hm := ift hc hm
      refine lv_aload_n (pc := 140) (i := 0) hx hb d_stepTable_140 rfl (lx_get hl rfl) ?_
      refine lv_dup (pc := 141) hx hb d_stepTable_141 rfl ?_
      refine r_get (pc := 142) (k := 3) (index := 76) B I (by decide) mF_76 rfl rfl d_stepTable_142 ?_
      refine lv_iconst (pc := 145) (v := 1) hx hb d_stepTable_145 (by decide) ?_
      refine lv_iadd (pc := 146) hx hb d_stepTable_146 ?_
      refine ob1 hm (fun S10 e11 hm => ?_)
      refine r_put (pc := 147) (k := 3) (index := 76) B hR I (by decide) mF_76 rfl rfl rfl (fun _ _ => rfl) e11 d_stepTable_147 (fun H locs I => ?_)
      refine lv_aload_n (pc := 150) (i := 0) hx hb d_stepTable_150 rfl (lx_get hl rfl) ?_
      refine r_get (pc := 151) (k := 28) (index := 61) B I (by decide) mF_61 rfl rfl d_stepTable_151 ?_
      refine lv_iload_n (pc := 154) (i := 1) hx hb d_stepTable_154 rfl (lx_get hl rfl) ?_
      refine lv_iconst (pc := 155) (v := 2) hx hb d_stepTable_155 (by decide) ?_
      refine ob1 hm (fun S12 e13 hm => ?_)
      refine r_ast (pc := 156) (j := 18) B hR I (by decide) (by decide) e13 d_stepTable_156 (fun H locs I => ?_)
      refine lv_iconst (pc := 157) (v := 1) hx hb d_stepTable_157 (by decide) ?_
      cases hm
      exact q_zret (pc := 158) B I rfl (by decide) d_stepTable_158
    · have hm := iff' hc hm
      refine lv_aload_n (pc := 131) (i := 0) hx hb d_stepTable_131 rfl (lx_get hl rfl) ?_
      refine lv_aload_n (pc := 132) (i := 0) hx hb d_stepTable_132 rfl (lx_get hl rfl) ?_
      refine r_get (pc := 133) (k := 3) (index := 76) B I (by decide) mF_76 rfl rfl d_stepTable_133 ?_
      refine ob2 hm (fun x15 S16 e14 hm => ?_)
      refine r_call (pc := 136) (As := [.int (S.1 3)]) (rest := []) B hl rfl I (c_fail hR e14) kw_fail rfl (by decide) (by decide) rfl (by simp [Value.category]) d_stepTable_136 (fun H locs I => ?_)
      by_cases hq : x15 = 0 ∨ x15 = 1
      · have hm := ift hq hm
        cases hm
        exact q_zret (pc := 139) B I rfl (zn hq) d_stepTable_139
      · have hm := iff' hq hm
        cases hm
def m_stepTable (N : Nat) (p1 : Int32) (S : rS) : Option (Int32 × rS) :=
  b1 (rL S 17 p1) (fun x1 => b1 (m_blanks N S) (fun S4 => b1 (m_here N S4) (fun x6 => if x6 = 125 then (b1 (rL S4 18 p1) (fun x7 => if 2 ≤ x7 then (m_stepTable_112 N  p1 x1 S4) else (b1 (rP S4 3 ((S4.1 3) + 1)) (fun S9 => b1 (rP S9 26 ((S9.1 26) - 1)) (fun S11 => m_stepTable_54 N  N (x1 + 1) S11))))) else (m_stepTable_112 N  p1 x1 S4))))
set_option maxRecDepth 100000 in
set_option maxHeartbeats 4000000 in
theorem c_stepTable {p1 : Int32} {S S' : rS} {r : Int32} (hR : RR b0 h Z) (hm : m_stepTable N p1 S = some (r, S')) : Ct l D vwCl (tyL dA) b0 Z y_stepTable (.code y_stepTable cb_stepTable 4 (some .boolean) :: wsA) 6 144 [.ref h, .int p1] (rH dA h S hp0) sz (some (.int r)) (rH dA h S' hp0) 0 0 := by
  refine ct_of (cc := cb_stepTable) (maxL := 4) (ret := (some .boolean)) (lo0 := [some (.ref h), some (.int p1), none, none]) hR.2 (by decide) rfl (by simp [lg_sl, Value.category]) rfl (by simp [lx_all, lv_args, Value.category]) ?_
  intro p e s m args below meth c ls B hnm hl I
  obtain ⟨hx, hb, -⟩ := B.1
  unfold m_stepTable at hm
  refine lv_aload_n (pc := 0) (i := 0) hx hb d_stepTable_0 rfl (lx_get hl rfl) ?_
  refine r_get (pc := 1) (k := 27) (index := 58) B I (by decide) mF_58 rfl rfl d_stepTable_1 ?_
  refine lv_iload_n (pc := 4) (i := 1) hx hb d_stepTable_4 rfl (lx_get hl rfl) ?_
  refine ob1 hm (fun x1 e2 hm => ?_)
  refine r_ald (pc := 5) (j := 17) B I (by decide) (by decide) e2 d_stepTable_5 ?_
  refine q_istore_n (pc := 6) (i := 2) (lo' := [some (.ref h), some (.int p1), some (.int x1), none]) hx hb d_stepTable_6 rfl hl (Nat.le_of_ble_eq_true rfl) (lx_ci rfl) rfl (fun ls hl => ?_)
  refine lv_aload_n (pc := 7) (i := 0) hx hb d_stepTable_7 rfl (lx_get hl rfl) ?_
  refine ob1 hm (fun S4 e3 hm => ?_)
  refine r_call (pc := 8) (As := []) (rest := []) B hl rfl I (c_blanks hR e3) kw_blanks rfl (by decide) (by decide) rfl (by simp [Value.category]) d_stepTable_8 (fun H locs I => ?_)
  refine lv_aload_n (pc := 11) (i := 0) hx hb d_stepTable_11 rfl (lx_get hl rfl) ?_
  refine ob1 hm (fun x6 e5 hm => ?_)
  refine r_call (pc := 12) (As := []) (rest := []) B hl rfl I (c_here hR e5) kw_here rfl (by decide) (by decide) rfl (by simp [Value.category]) d_stepTable_12 (fun H locs I => ?_)
  refine lv_bipush (pc := 15) (v := 125) hx hb d_stepTable_15 (by decide) ?_
  refine lv_icmp_ne (pc := 17) (tgt := 112) hx hb d_stepTable_17 (by decide) (fun hc => ?_) (fun hc => ?_)
  · have hm := iff' hc hm
    exact w_stepTable_112  B hR hl I hm
  · have hm := ift hc hm
    refine lv_aload_n (pc := 20) (i := 0) hx hb d_stepTable_20 rfl (lx_get hl rfl) ?_
    refine r_get (pc := 21) (k := 28) (index := 61) B I (by decide) mF_61 rfl rfl d_stepTable_21 ?_
    refine lv_iload_n (pc := 24) (i := 1) hx hb d_stepTable_24 rfl (lx_get hl rfl) ?_
    refine ob1 hm (fun x7 e8 hm => ?_)
    refine r_ald (pc := 25) (j := 18) B I (by decide) (by decide) e8 d_stepTable_25 ?_
    refine lv_iconst (pc := 26) (v := 2) hx hb d_stepTable_26 (by decide) ?_
    refine lv_icmp_ge (pc := 27) (tgt := 112) hx hb d_stepTable_27 (by decide) (fun hc => ?_) (fun hc => ?_)
    · have hm := ift hc hm
      exact w_stepTable_112  B hR hl I hm
    · have hm := iff' hc hm
      refine lv_aload_n (pc := 30) (i := 0) hx hb d_stepTable_30 rfl (lx_get hl rfl) ?_
      refine lv_dup (pc := 31) hx hb d_stepTable_31 rfl ?_
      refine r_get (pc := 32) (k := 3) (index := 76) B I (by decide) mF_76 rfl rfl d_stepTable_32 ?_
      refine lv_iconst (pc := 35) (v := 1) hx hb d_stepTable_35 (by decide) ?_
      refine lv_iadd (pc := 36) hx hb d_stepTable_36 ?_
      refine ob1 hm (fun S9 e10 hm => ?_)
      refine r_put (pc := 37) (k := 3) (index := 76) B hR I (by decide) mF_76 rfl rfl rfl (fun _ _ => rfl) e10 d_stepTable_37 (fun H locs I => ?_)
      refine lv_aload_n (pc := 40) (i := 0) hx hb d_stepTable_40 rfl (lx_get hl rfl) ?_
      refine lv_dup (pc := 41) hx hb d_stepTable_41 rfl ?_
      refine r_get (pc := 42) (k := 26) (index := 164) B I (by decide) mF_164 rfl rfl d_stepTable_42 ?_
      refine lv_iconst (pc := 45) (v := 1) hx hb d_stepTable_45 (by decide) ?_
      refine lv_isub (pc := 46) hx hb d_stepTable_46 ?_
      refine ob1 hm (fun S11 e12 hm => ?_)
      refine r_put (pc := 47) (k := 26) (index := 164) B hR I (by decide) mF_164 rfl rfl rfl (fun _ _ => rfl) e12 d_stepTable_47 (fun H locs I => ?_)
      refine lv_iload_n (pc := 50) (i := 2) hx hb d_stepTable_50 rfl (lx_get hl rfl) ?_
      refine lv_iconst (pc := 51) (v := 1) hx hb d_stepTable_51 (by decide) ?_
      refine lv_iadd (pc := 52) hx hb d_stepTable_52 ?_
      refine q_istore_n (pc := 53) (i := 3) (lo' := [some (.ref h), some (.int p1), some (.int x1), some (.int (x1 + 1))]) hx hb d_stepTable_53 rfl hl (Nat.le_of_ble_eq_true rfl) (lx_ci rfl) rfl (fun ls hl => ?_)
      exact w_stepTable_54  B hR (lx_sub (lo' := [some (.ref h), none, none, some (.int (x1 + 1))]) hl (by simp [lx_le])) I hm
def m_finishValue_56 (N : Nat) (K2 : Int32 → rS → Option (Int32 × rS)) (z0 : Int32) (S : rS) : Option (Int32 × rS) :=
  K2 z0 S
set_option maxRecDepth 100000 in
set_option maxHeartbeats 4000000 in
theorem w_finishValue_56 {K2 : Int32 → rS → Option (Int32 × rS)} {z0 : Int32} {S : rS} (hK2 : ∀ (y1 : Int32) (S : rS) (ls : Array Slot) (H : Heap) (locs : List Loc), lx ls [some (.ref h), some (.int y1)] → AI D vwCl b0 (rH dA h S hp0) sz s.heap H locs → K2 y1 S = some (r, S') → W p l e { frames := 7, cells := 0, slots := 0, locals := 167 } s m args below meth c H locs 0 0 (MQ below (CQ D vwCl b0 (some (.int r)) (rH dA h S' hp0) sz) args s 0 0 (fun q => b0 ≤ q)) (F0 m 2 ls [])) (B : BX p m c cb_finishValue 2 s args (.code y_finishValue cb_finishValue 2 (some .boolean) :: wsA) RREF meth (some .boolean) D vwCl (tyL dA) b0 Z) (hR : RR b0 h Z) (hl : lx ls [some (.ref h), none]) (I : AI D vwCl b0 (rH dA h S hp0) sz s.heap H locs)  (hm : m_finishValue_56 N K2 z0 S = some (r, S')) : W p l e { frames := 7, cells := 0, slots := 0, locals := 167 } s m args below meth c H locs 0 0 (MQ below (CQ D vwCl b0 (some (.int r)) (rH dA h S' hp0) sz) args s 0 0 (fun q => b0 ≤ q)) (F0 m 56 ls [.int z0]) := by
  obtain ⟨hx, hb, -⟩ := B.1
  unfold m_finishValue_56 at hm
  refine q_istore_n (pc := 56) (i := 1) (lo' := [some (.ref h), some (.int z0)]) hx hb d_finishValue_56 rfl hl (Nat.le_of_ble_eq_true rfl) (lx_cr rfl) rfl (fun ls hl => ?_)
  refine lv_goto (pc := 57) (tgt := 2) hx hb d_finishValue_57 (by decide) ?_
  exact hK2 _ _ _ _ _ hl I hm
def m_finishValue_2F (N : Nat) (K2 : Int32 → rS → Option (Int32 × rS)) (y1 : Int32) (S : rS) : Option (Int32 × rS) :=
  if S.1 26 ≤ 0 then (if y1 = 0 ∨ y1 = 1 then (some (y1, S)) else none) else (if y1 = 0 then (if y1 = 0 ∨ y1 = 1 then (some (y1, S)) else none) else (b1 (rL S 17 ((S.1 26) - 1)) (fun x1 => b1 (rL S 3 x1) (fun x3 => if x3 = 5 then (b2 (m_stepList N ((S.1 26) - 1) S) (fun x9 S10 => m_finishValue_56 N K2 x9 S10)) else (b2 (m_stepTable N ((S.1 26) - 1) S) (fun x6 S7 => m_finishValue_56 N K2 x6 S7))))))
def m_finishValue_2 (N : Nat) : Nat → Int32 → rS → Option (Int32 × rS)
  | 0, _, _ => none
  | k + 1, y1, S => m_finishValue_2F N  (m_finishValue_2 N  k) y1 S
set_option maxRecDepth 100000 in
set_option maxHeartbeats 4000000 in
theorem w_finishValue_2F {K2 : Int32 → rS → Option (Int32 × rS)} {y1 : Int32} {S : rS} (hK2 : ∀ (y1 : Int32) (S : rS) (ls : Array Slot) (H : Heap) (locs : List Loc), lx ls [some (.ref h), some (.int y1)] → AI D vwCl b0 (rH dA h S hp0) sz s.heap H locs → K2 y1 S = some (r, S') → W p l e { frames := 7, cells := 0, slots := 0, locals := 167 } s m args below meth c H locs 0 0 (MQ below (CQ D vwCl b0 (some (.int r)) (rH dA h S' hp0) sz) args s 0 0 (fun q => b0 ≤ q)) (F0 m 2 ls [])) (B : BX p m c cb_finishValue 2 s args (.code y_finishValue cb_finishValue 2 (some .boolean) :: wsA) RREF meth (some .boolean) D vwCl (tyL dA) b0 Z) (hR : RR b0 h Z) (hl : lx ls [some (.ref h), some (.int y1)]) (I : AI D vwCl b0 (rH dA h S hp0) sz s.heap H locs)  (hm : m_finishValue_2F N  K2 y1 S = some (r, S')) : W p l e { frames := 7, cells := 0, slots := 0, locals := 167 } s m args below meth c H locs 0 0 (MQ below (CQ D vwCl b0 (some (.int r)) (rH dA h S' hp0) sz) args s 0 0 (fun q => b0 ≤ q)) (F0 m 2 ls []) := by
  obtain ⟨hx, hb, -⟩ := B.1
  unfold m_finishValue_2F at hm
  refine lv_aload_n (pc := 2) (i := 0) hx hb d_finishValue_2 rfl (lx_get hl rfl) ?_
  refine r_get (pc := 3) (k := 26) (index := 164) B I (by decide) mF_164 rfl rfl d_finishValue_3 ?_
  refine lv_if_le (pc := 6) (tgt := 60) hx hb d_finishValue_6 (by decide) (fun hc => ?_) (fun hc => ?_)
  · have hm := ift hc hm
    refine lv_iload_n (pc := 60) (i := 1) hx hb d_finishValue_60 rfl (lx_get hl rfl) ?_
    by_cases hq : y1 = 0 ∨ y1 = 1
    · have hm := ift hq hm
      cases hm
      exact q_zret (pc := 61) B I rfl (zn hq) d_finishValue_61
    · have hm := iff' hq hm
      cases hm
  · have hm := iff' hc hm
    refine lv_iload_n (pc := 9) (i := 1) hx hb d_finishValue_9 rfl (lx_get hl rfl) ?_
    refine lv_if_eq (pc := 10) (tgt := 60) hx hb d_finishValue_10 (by decide) (fun hc => ?_) (fun hc => ?_)
    · have hm := ift hc hm
      refine lv_iload_n (pc := 60) (i := 1) hx hb d_finishValue_60 rfl (lx_get hl rfl) ?_
      by_cases hq : y1 = 0 ∨ y1 = 1
      · have hm := ift hq hm
        cases hm
        exact q_zret (pc := 61) B I rfl (zn hq) d_finishValue_61
      · have hm := iff' hq hm
        cases hm
    · have hm := iff' hc hm
      refine lv_aload_n (pc := 13) (i := 0) hx hb d_finishValue_13 rfl (lx_get hl rfl) ?_
      refine r_get (pc := 14) (k := 7) (index := 16) B I (by decide) mF_16 rfl rfl d_finishValue_14 ?_
      refine lv_aload_n (pc := 17) (i := 0) hx hb d_finishValue_17 rfl (lx_get hl rfl) ?_
      refine r_get (pc := 18) (k := 27) (index := 58) B I (by decide) mF_58 rfl rfl d_finishValue_18 ?_
      refine lv_aload_n (pc := 21) (i := 0) hx hb d_finishValue_21 rfl (lx_get hl rfl) ?_
      refine r_get (pc := 22) (k := 26) (index := 164) B I (by decide) mF_164 rfl rfl d_finishValue_22 ?_
      refine lv_iconst (pc := 25) (v := 1) hx hb d_finishValue_25 (by decide) ?_
      refine lv_isub (pc := 26) hx hb d_finishValue_26 ?_
      refine ob1 hm (fun x1 e2 hm => ?_)
      refine r_ald (pc := 27) (j := 17) B I (by decide) (by decide) e2 d_finishValue_27 ?_
      refine ob1 hm (fun x3 e4 hm => ?_)
      refine r_ald (pc := 28) (j := 3) B I (by decide) (by decide) e4 d_finishValue_28 ?_
      refine lv_iconst (pc := 29) (v := 5) hx hb d_finishValue_29 (by decide) ?_
      refine lv_icmp_ne (pc := 30) (tgt := 46) hx hb d_finishValue_30 (by decide) (fun hc => ?_) (fun hc => ?_)
      · have hm := iff' hc hm
        refine lv_aload_n (pc := 46) (i := 0) hx hb d_finishValue_46 rfl (lx_get hl rfl) ?_
        refine lv_aload_n (pc := 47) (i := 0) hx hb d_finishValue_47 rfl (lx_get hl rfl) ?_
        refine r_get (pc := 48) (k := 26) (index := 164) B I (by decide) mF_164 rfl rfl d_finishValue_48 ?_
        refine lv_iconst (pc := 51) (v := 1) hx hb d_finishValue_51 (by decide) ?_
        refine lv_isub (pc := 52) hx hb d_finishValue_52 ?_
        refine ob2 hm (fun x6 S7 e5 hm => ?_)
        refine r_call (pc := 53) (As := [.int ((S.1 26) - 1)]) (rest := []) B hl rfl I (c_stepTable hR e5) kw_stepTable rfl (by decide) (by decide) rfl (by simp [Value.category]) d_finishValue_53 (fun H locs I => ?_)
        exact w_finishValue_56 hK2 B hR (lx_sub (lo' := [some (.ref h), none]) hl (by simp [lx_le])) I hm
      · have hm := ift hc hm
        refine lv_aload_n (pc := 33) (i := 0) hx hb d_finishValue_33 rfl (lx_get hl rfl) ?_
        refine lv_aload_n (pc := 34) (i := 0) hx hb d_finishValue_34 rfl (lx_get hl rfl) ?_
        refine r_get (pc := 35) (k := 26) (index := 164) B I (by decide) mF_164 rfl rfl d_finishValue_35 ?_
        refine lv_iconst (pc := 38) (v := 1) hx hb d_finishValue_38 (by decide) ?_
        refine lv_isub (pc := 39) hx hb d_finishValue_39 ?_
        refine ob2 hm (fun x9 S10 e8 hm => ?_)
        refine r_call (pc := 40) (As := [.int ((S.1 26) - 1)]) (rest := []) B hl rfl I (c_stepList hR e8) kw_stepList rfl (by decide) (by decide) rfl (by simp [Value.category]) d_finishValue_40 (fun H locs I => ?_)
        refine lv_goto (pc := 43) (tgt := 56) hx hb d_finishValue_43 (by decide) ?_
        exact w_finishValue_56 hK2 B hR (lx_sub (lo' := [some (.ref h), none]) hl (by simp [lx_le])) I hm
set_option maxRecDepth 100000 in
set_option maxHeartbeats 4000000 in
theorem w_finishValue_2i (B : BX p m c cb_finishValue 2 s args (.code y_finishValue cb_finishValue 2 (some .boolean) :: wsA) RREF meth (some .boolean) D vwCl (tyL dA) b0 Z) (hR : RR b0 h Z) (k : Nat) (y1 : Int32) (S : rS) (ls : Array Slot) (H : Heap) (locs : List Loc) (hl : lx ls [some (.ref h), some (.int y1)]) (I : AI D vwCl b0 (rH dA h S hp0) sz s.heap H locs)  (hm : m_finishValue_2 N  k y1 S = some (r, S')) : W p l e { frames := 7, cells := 0, slots := 0, locals := 167 } s m args below meth c H locs 0 0 (MQ below (CQ D vwCl b0 (some (.int r)) (rH dA h S' hp0) sz) args s 0 0 (fun q => b0 ≤ q)) (F0 m 2 ls []) := by
  induction k generalizing y1 S ls H locs with
  | zero => cases hm
  | succ k ih => exact w_finishValue_2F  (fun y1 S ls H locs hl I hm => ih y1 S ls H locs hl I hm) B hR hl I hm
theorem w_finishValue_2 {y1 : Int32} {S : rS} (B : BX p m c cb_finishValue 2 s args (.code y_finishValue cb_finishValue 2 (some .boolean) :: wsA) RREF meth (some .boolean) D vwCl (tyL dA) b0 Z) (hR : RR b0 h Z) (hl : lx ls [some (.ref h), some (.int y1)]) (I : AI D vwCl b0 (rH dA h S hp0) sz s.heap H locs)  {k : Nat} (hm : m_finishValue_2 N  k y1 S = some (r, S')) : W p l e { frames := 7, cells := 0, slots := 0, locals := 167 } s m args below meth c H locs 0 0 (MQ below (CQ D vwCl b0 (some (.int r)) (rH dA h S' hp0) sz) args s 0 0 (fun q => b0 ≤ q)) (F0 m 2 ls []) := w_finishValue_2i  B hR k _ S ls H locs hl I hm
def m_finishValue (N : Nat) (S : rS) : Option (Int32 × rS) :=
  m_finishValue_2 N  N 1 S
set_option maxRecDepth 100000 in
set_option maxHeartbeats 4000000 in
theorem c_finishValue {S S' : rS} {r : Int32} (hR : RR b0 h Z) (hm : m_finishValue N  S = some (r, S')) : Ct l D vwCl (tyL dA) b0 Z y_finishValue (.code y_finishValue cb_finishValue 2 (some .boolean) :: wsA) 7 167 [.ref h] (rH dA h S hp0) sz (some (.int r)) (rH dA h S' hp0) 0 0 := by
  refine ct_of (cc := cb_finishValue) (maxL := 2) (ret := (some .boolean)) (lo0 := [some (.ref h), none]) hR.2 (by decide) rfl (by simp [lg_sl, Value.category]) rfl (by simp [lx_all, lv_args, Value.category]) ?_
  intro p e s m args below meth c ls B hnm hl I
  obtain ⟨hx, hb, -⟩ := B.1
  unfold m_finishValue at hm
  refine lv_iconst (pc := 0) (v := 1) hx hb d_finishValue_0 (by decide) ?_
  refine q_istore_n (pc := 1) (i := 1) (lo' := [some (.ref h), some (.int 1)]) hx hb d_finishValue_1 rfl hl (Nat.le_of_ble_eq_true rfl) (lx_cr rfl) rfl (fun ls hl => ?_)
  exact w_finishValue_2  B hR hl I hm
def m_header_74 (N : Nat) (K64 : Int32 → Int32 → Int32 → rS → Option (Int32 × rS)) (y1 : Int32) (y2 : Int32) (y3 : Int32) (z0 : Int32) (z1 : Int32) (S : rS) : Option (Int32 × rS) :=
  if z1 ≤ z0 then (some (y2, S)) else (if y2 = (-1) then (some (y2, S)) else (b1 (m_here N S) (fun x2 => if x2 = 93 then (b1 (rP S 3 ((S.1 3) + 1)) (fun S3 => K64 y1 y2 (y3 + 1) S3)) else (b1 (rP S 4 (S.1 3)) (fun S5 => some ((-1), S5))))))
set_option maxRecDepth 100000 in
set_option maxHeartbeats 4000000 in
theorem w_header_74 {K64 : Int32 → Int32 → Int32 → rS → Option (Int32 × rS)} {y1 : Int32} {y2 : Int32} {y3 : Int32} {z0 : Int32} {z1 : Int32} {S : rS} (hK64 : ∀ (y1 : Int32) (y2 : Int32) (y3 : Int32) (S : rS) (ls : Array Slot) (H : Heap) (locs : List Loc), lx ls [some (.ref h), some (.int y1), some (.int y2), some (.int y3)] → AI D vwCl b0 (rH dA h S hp0) sz s.heap H locs → K64 y1 y2 y3 S = some (r, S') → W p l e { frames := 4, cells := 0, slots := 0, locals := 87 } s m args below meth c H locs 0 0 (MQ below (CQ D vwCl b0 (some (.int r)) (rH dA h S' hp0) sz) args s 0 0 (fun q => b0 ≤ q)) (F0 m 64 ls [])) (B : BX p m c cb_header 4 s args (.code y_header cb_header 4 (some .int) :: wsA) RREF meth (some .int) D vwCl (tyL dA) b0 Z) (hR : RR b0 h Z) (hl : lx ls [some (.ref h), some (.int y1), some (.int y2), some (.int y3)]) (I : AI D vwCl b0 (rH dA h S hp0) sz s.heap H locs)  (hm : m_header_74 N K64 y1 y2 y3 z0 z1 S = some (r, S')) : W p l e { frames := 4, cells := 0, slots := 0, locals := 87 } s m args below meth c H locs 0 0 (MQ below (CQ D vwCl b0 (some (.int r)) (rH dA h S' hp0) sz) args s 0 0 (fun q => b0 ≤ q)) (F0 m 74 ls [.int z1, .int z0]) := by
  obtain ⟨hx, hb, -⟩ := B.1
  unfold m_header_74 at hm
  refine lv_icmp_ge (pc := 74) (tgt := 117) hx hb d_header_74 (by decide) (fun hc => ?_) (fun hc => ?_)
  · have hm := ift hc hm
    refine lv_iload_n (pc := 117) (i := 2) hx hb d_header_117 rfl (lx_get hl rfl) ?_
    cases hm
    exact q_iret (pc := 118) B I rfl d_header_118
  · have hm := iff' hc hm
    refine lv_iload_n (pc := 77) (i := 2) hx hb d_header_77 rfl (lx_get hl rfl) ?_
    refine lv_iconst (pc := 78) (v := (-1)) hx hb d_header_78 (by decide) ?_
    refine lv_icmp_eq (pc := 79) (tgt := 117) hx hb d_header_79 (by decide) (fun hc => ?_) (fun hc => ?_)
    · have hm := ift hc hm
      refine lv_iload_n (pc := 117) (i := 2) hx hb d_header_117 rfl (lx_get hl rfl) ?_
      cases hm
      exact q_iret (pc := 118) B I rfl d_header_118
    · have hm := iff' hc hm
      refine lv_aload_n (pc := 82) (i := 0) hx hb d_header_82 rfl (lx_get hl rfl) ?_
      refine ob1 hm (fun x2 e1 hm => ?_)
      refine r_call (pc := 83) (As := []) (rest := []) B hl rfl I (c_here hR e1) kw_here rfl (by decide) (by decide) rfl (by simp [Value.category]) d_header_83 (fun H locs I => ?_)
      refine lv_bipush (pc := 86) (v := 93) hx hb d_header_86 (by decide) ?_
      refine lv_icmp_eq (pc := 88) (tgt := 101) hx hb d_header_88 (by decide) (fun hc => ?_) (fun hc => ?_)
      · have hm := ift hc hm
        refine lv_aload_n (pc := 101) (i := 0) hx hb d_header_101 rfl (lx_get hl rfl) ?_
        refine lv_dup (pc := 102) hx hb d_header_102 rfl ?_
        refine r_get (pc := 103) (k := 3) (index := 76) B I (by decide) mF_76 rfl rfl d_header_103 ?_
        refine lv_iconst (pc := 106) (v := 1) hx hb d_header_106 (by decide) ?_
        refine lv_iadd (pc := 107) hx hb d_header_107 ?_
        refine ob1 hm (fun S3 e4 hm => ?_)
        refine r_put (pc := 108) (k := 3) (index := 76) B hR I (by decide) mF_76 rfl rfl rfl (fun _ _ => rfl) e4 d_header_108 (fun H locs I => ?_)
        refine q_iinc (pc := 111) (i := 3) (v := y3 + 1) (lo' := [some (.ref h), some (.int y1), some (.int y2), some (.int (y3 + 1))]) hx hb d_header_111 hl rfl rfl (Nat.le_of_ble_eq_true rfl) (lx_ci rfl) rfl (fun ls hl => ?_)
        refine lv_goto (pc := 114) (tgt := 64) hx hb d_header_114 (by decide) ?_
        exact hK64 _ _ _ _ _ _ _ hl I hm
      · have hm := iff' hc hm
        refine lv_aload_n (pc := 91) (i := 0) hx hb d_header_91 rfl (lx_get hl rfl) ?_
        refine lv_aload_n (pc := 92) (i := 0) hx hb d_header_92 rfl (lx_get hl rfl) ?_
        refine r_get (pc := 93) (k := 3) (index := 76) B I (by decide) mF_76 rfl rfl d_header_93 ?_
        refine ob1 hm (fun S5 e6 hm => ?_)
        refine r_put (pc := 96) (k := 4) (index := 79) B hR I (by decide) mF_79 rfl rfl rfl (fun _ _ => rfl) e6 d_header_96 (fun H locs I => ?_)
        refine lv_iconst (pc := 99) (v := (-1)) hx hb d_header_99 (by decide) ?_
        cases hm
        exact q_iret (pc := 100) B I rfl d_header_100
def m_header_64F (N : Nat) (K64 : Int32 → Int32 → Int32 → rS → Option (Int32 × rS)) (y1 : Int32) (y2 : Int32) (y3 : Int32) (S : rS) : Option (Int32 × rS) :=
  if y1 = 0 then (m_header_74 N K64 y1 y2 y3 y3 1 S) else (m_header_74 N K64 y1 y2 y3 y3 2 S)
def m_header_64 (N : Nat) : Nat → Int32 → Int32 → Int32 → rS → Option (Int32 × rS)
  | 0, _, _, _, _ => none
  | k + 1, y1, y2, y3, S => m_header_64F N  (m_header_64 N  k) y1 y2 y3 S
set_option maxRecDepth 100000 in
set_option maxHeartbeats 4000000 in
theorem w_header_64F {K64 : Int32 → Int32 → Int32 → rS → Option (Int32 × rS)} {y1 : Int32} {y2 : Int32} {y3 : Int32} {S : rS} (hK64 : ∀ (y1 : Int32) (y2 : Int32) (y3 : Int32) (S : rS) (ls : Array Slot) (H : Heap) (locs : List Loc), lx ls [some (.ref h), some (.int y1), some (.int y2), some (.int y3)] → AI D vwCl b0 (rH dA h S hp0) sz s.heap H locs → K64 y1 y2 y3 S = some (r, S') → W p l e { frames := 4, cells := 0, slots := 0, locals := 87 } s m args below meth c H locs 0 0 (MQ below (CQ D vwCl b0 (some (.int r)) (rH dA h S' hp0) sz) args s 0 0 (fun q => b0 ≤ q)) (F0 m 64 ls [])) (B : BX p m c cb_header 4 s args (.code y_header cb_header 4 (some .int) :: wsA) RREF meth (some .int) D vwCl (tyL dA) b0 Z) (hR : RR b0 h Z) (hl : lx ls [some (.ref h), some (.int y1), some (.int y2), some (.int y3)]) (I : AI D vwCl b0 (rH dA h S hp0) sz s.heap H locs)  (hm : m_header_64F N  K64 y1 y2 y3 S = some (r, S')) : W p l e { frames := 4, cells := 0, slots := 0, locals := 87 } s m args below meth c H locs 0 0 (MQ below (CQ D vwCl b0 (some (.int r)) (rH dA h S' hp0) sz) args s 0 0 (fun q => b0 ≤ q)) (F0 m 64 ls []) := by
  obtain ⟨hx, hb, -⟩ := B.1
  unfold m_header_64F at hm
  refine lv_iload_n (pc := 64) (i := 3) hx hb d_header_64 rfl (lx_get hl rfl) ?_
  refine lv_iload_n (pc := 65) (i := 1) hx hb d_header_65 rfl (lx_get hl rfl) ?_
  refine lv_if_eq (pc := 66) (tgt := 73) hx hb d_header_66 (by decide) (fun hc => ?_) (fun hc => ?_)
  · have hm := ift hc hm
    refine lv_iconst (pc := 73) (v := 1) hx hb d_header_73 (by decide) ?_
    exact w_header_74 hK64 B hR hl I hm
  · have hm := iff' hc hm
    refine lv_iconst (pc := 69) (v := 2) hx hb d_header_69 (by decide) ?_
    refine lv_goto (pc := 70) (tgt := 74) hx hb d_header_70 (by decide) ?_
    exact w_header_74 hK64 B hR hl I hm
set_option maxRecDepth 100000 in
set_option maxHeartbeats 4000000 in
theorem w_header_64i (B : BX p m c cb_header 4 s args (.code y_header cb_header 4 (some .int) :: wsA) RREF meth (some .int) D vwCl (tyL dA) b0 Z) (hR : RR b0 h Z) (k : Nat) (y1 : Int32) (y2 : Int32) (y3 : Int32) (S : rS) (ls : Array Slot) (H : Heap) (locs : List Loc) (hl : lx ls [some (.ref h), some (.int y1), some (.int y2), some (.int y3)]) (I : AI D vwCl b0 (rH dA h S hp0) sz s.heap H locs)  (hm : m_header_64 N  k y1 y2 y3 S = some (r, S')) : W p l e { frames := 4, cells := 0, slots := 0, locals := 87 } s m args below meth c H locs 0 0 (MQ below (CQ D vwCl b0 (some (.int r)) (rH dA h S' hp0) sz) args s 0 0 (fun q => b0 ≤ q)) (F0 m 64 ls []) := by
  induction k generalizing y1 y2 y3 S ls H locs with
  | zero => cases hm
  | succ k ih => exact w_header_64F  (fun y1 y2 y3 S ls H locs hl I hm => ih y1 y2 y3 S ls H locs hl I hm) B hR hl I hm
theorem w_header_64 {y1 : Int32} {y2 : Int32} {y3 : Int32} {S : rS} (B : BX p m c cb_header 4 s args (.code y_header cb_header 4 (some .int) :: wsA) RREF meth (some .int) D vwCl (tyL dA) b0 Z) (hR : RR b0 h Z) (hl : lx ls [some (.ref h), some (.int y1), some (.int y2), some (.int y3)]) (I : AI D vwCl b0 (rH dA h S hp0) sz s.heap H locs)  {k : Nat} (hm : m_header_64 N  k y1 y2 y3 S = some (r, S')) : W p l e { frames := 4, cells := 0, slots := 0, locals := 87 } s m args below meth c H locs 0 0 (MQ below (CQ D vwCl b0 (some (.int r)) (rH dA h S' hp0) sz) args s 0 0 (fun q => b0 ≤ q)) (F0 m 64 ls []) := w_header_64i  B hR k _ _ _ S ls H locs hl I hm
def m_header_39 (N : Nat) (y1 : Int32) (z1 : Int32) (z2 : Int32) (S : rS) : Option (Int32 × rS) :=
  b1 (rP S 3 (z1 + z2)) (fun S1 => b1 (m_blanks N S1) (fun S4 => b2 (m_path N S4) (fun x6 S7 => if x6 = 0 then (some ((-1), S7)) else (b2 (m_opened N y1 S7) (fun x9 S10 => m_header_64 N  N y1 x9 0 S10)))))
set_option maxRecDepth 100000 in
set_option maxHeartbeats 4000000 in
theorem w_header_39 {y1 : Int32} {z1 : Int32} {z2 : Int32} {S : rS} (B : BX p m c cb_header 4 s args (.code y_header cb_header 4 (some .int) :: wsA) RREF meth (some .int) D vwCl (tyL dA) b0 Z) (hR : RR b0 h Z) (hl : lx ls [some (.ref h), some (.int y1), none, none]) (I : AI D vwCl b0 (rH dA h S hp0) sz s.heap H locs)  (hm : m_header_39 N  y1 z1 z2 S = some (r, S')) : W p l e { frames := 4, cells := 0, slots := 0, locals := 87 } s m args below meth c H locs 0 0 (MQ below (CQ D vwCl b0 (some (.int r)) (rH dA h S' hp0) sz) args s 0 0 (fun q => b0 ≤ q)) (F0 m 39 ls [.int z2, .int z1, .ref h]) := by
  obtain ⟨hx, hb, -⟩ := B.1
  unfold m_header_39 at hm
  refine lv_iadd (pc := 39) hx hb d_header_39 ?_
  refine ob1 hm (fun S1 e2 hm => ?_)
  refine r_put (pc := 40) (k := 3) (index := 76) B hR I (by decide) mF_76 rfl rfl rfl (fun _ _ => rfl) e2 d_header_40 (fun H locs I => ?_)
  refine lv_aload_n (pc := 43) (i := 0) hx hb d_header_43 rfl (lx_get hl rfl) ?_
  refine ob1 hm (fun S4 e3 hm => ?_)
  refine r_call (pc := 44) (As := []) (rest := []) B hl rfl I (c_blanks hR e3) kw_blanks rfl (by decide) (by decide) rfl (by simp [Value.category]) d_header_44 (fun H locs I => ?_)
  refine lv_aload_n (pc := 47) (i := 0) hx hb d_header_47 rfl (lx_get hl rfl) ?_
  refine ob2 hm (fun x6 S7 e5 hm => ?_)
  refine r_call (pc := 48) (As := []) (rest := []) B hl rfl I (c_path hR e5) kw_path rfl (by decide) (by decide) rfl (by simp [Value.category]) d_header_48 (fun H locs I => ?_)
  refine lv_if_ne (pc := 51) (tgt := 56) hx hb d_header_51 (by decide) (fun hc => ?_) (fun hc => ?_)
  · have hm := iff' hc hm
    refine lv_aload_n (pc := 56) (i := 0) hx hb d_header_56 rfl (lx_get hl rfl) ?_
    refine lv_iload_n (pc := 57) (i := 1) hx hb d_header_57 rfl (lx_get hl rfl) ?_
    refine ob2 hm (fun x9 S10 e8 hm => ?_)
    refine r_call (pc := 58) (As := [.int y1]) (rest := []) B hl rfl I (c_opened hR e8) kw_opened rfl (by decide) (by decide) rfl (by simp [Value.category]) d_header_58 (fun H locs I => ?_)
    refine q_istore_n (pc := 61) (i := 2) (lo' := [some (.ref h), some (.int y1), some (.int x9), none]) hx hb d_header_61 rfl hl (Nat.le_of_ble_eq_true rfl) (lx_ci rfl) rfl (fun ls hl => ?_)
    refine lv_iconst (pc := 62) (v := 0) hx hb d_header_62 (by decide) ?_
    refine q_istore_n (pc := 63) (i := 3) (lo' := [some (.ref h), some (.int y1), some (.int x9), some (.int 0)]) hx hb d_header_63 rfl hl (Nat.le_of_ble_eq_true rfl) (lx_ci rfl) rfl (fun ls hl => ?_)
    exact w_header_64  B hR hl I hm
  · have hm := ift hc hm
    refine lv_iconst (pc := 54) (v := (-1)) hx hb d_header_54 (by decide) ?_
    cases hm
    exact q_iret (pc := 55) B I rfl d_header_55
def m_header_24 (N : Nat) (z0 : Int32) (S : rS) : Option (Int32 × rS) :=
  if z0 = 0 then (m_header_39 N  z0 (S.1 3) 0 S) else (m_header_39 N  z0 (S.1 3) 1 S)
set_option maxRecDepth 100000 in
set_option maxHeartbeats 4000000 in
theorem w_header_24 {z0 : Int32} {S : rS} (B : BX p m c cb_header 4 s args (.code y_header cb_header 4 (some .int) :: wsA) RREF meth (some .int) D vwCl (tyL dA) b0 Z) (hR : RR b0 h Z) (hl : lx ls [some (.ref h), none, none, none]) (I : AI D vwCl b0 (rH dA h S hp0) sz s.heap H locs)  (hm : m_header_24 N  z0 S = some (r, S')) : W p l e { frames := 4, cells := 0, slots := 0, locals := 87 } s m args below meth c H locs 0 0 (MQ below (CQ D vwCl b0 (some (.int r)) (rH dA h S' hp0) sz) args s 0 0 (fun q => b0 ≤ q)) (F0 m 24 ls [.int z0]) := by
  obtain ⟨hx, hb, -⟩ := B.1
  unfold m_header_24 at hm
  refine q_istore_n (pc := 24) (i := 1) (lo' := [some (.ref h), some (.int z0), none, none]) hx hb d_header_24 rfl hl (Nat.le_of_ble_eq_true rfl) (lx_cr rfl) rfl (fun ls hl => ?_)
  refine lv_aload_n (pc := 25) (i := 0) hx hb d_header_25 rfl (lx_get hl rfl) ?_
  refine lv_dup (pc := 26) hx hb d_header_26 rfl ?_
  refine r_get (pc := 27) (k := 3) (index := 76) B I (by decide) mF_76 rfl rfl d_header_27 ?_
  refine lv_iload_n (pc := 30) (i := 1) hx hb d_header_30 rfl (lx_get hl rfl) ?_
  refine lv_if_eq (pc := 31) (tgt := 38) hx hb d_header_31 (by decide) (fun hc => ?_) (fun hc => ?_)
  · have hm := ift hc hm
    refine lv_iconst (pc := 38) (v := 0) hx hb d_header_38 (by decide) ?_
    exact w_header_39  B hR hl I hm
  · have hm := iff' hc hm
    refine lv_iconst (pc := 34) (v := 1) hx hb d_header_34 (by decide) ?_
    refine lv_goto (pc := 35) (tgt := 39) hx hb d_header_35 (by decide) ?_
    exact w_header_39  B hR hl I hm
def m_header (N : Nat) (S : rS) : Option (Int32 × rS) :=
  b1 (rP S 3 ((S.1 3) + 1)) (fun S1 => b1 (m_here N S1) (fun x4 => if x4 = 91 then (m_header_24 N  1 S1) else (m_header_24 N  0 S1)))
set_option maxRecDepth 100000 in
set_option maxHeartbeats 4000000 in
theorem c_header {S S' : rS} {r : Int32} (hR : RR b0 h Z) (hm : m_header N  S = some (r, S')) : Ct l D vwCl (tyL dA) b0 Z y_header (.code y_header cb_header 4 (some .int) :: wsA) 4 87 [.ref h] (rH dA h S hp0) sz (some (.int r)) (rH dA h S' hp0) 0 0 := by
  refine ct_of (cc := cb_header) (maxL := 4) (ret := (some .int)) (lo0 := [some (.ref h), none, none, none]) hR.2 (by decide) rfl (by simp [lg_sl, Value.category]) rfl (by simp [lx_all, lv_args, Value.category]) ?_
  intro p e s m args below meth c ls B hnm hl I
  obtain ⟨hx, hb, -⟩ := B.1
  unfold m_header at hm
  refine lv_aload_n (pc := 0) (i := 0) hx hb d_header_0 rfl (lx_get hl rfl) ?_
  refine lv_dup (pc := 1) hx hb d_header_1 rfl ?_
  refine r_get (pc := 2) (k := 3) (index := 76) B I (by decide) mF_76 rfl rfl d_header_2 ?_
  refine lv_iconst (pc := 5) (v := 1) hx hb d_header_5 (by decide) ?_
  refine lv_iadd (pc := 6) hx hb d_header_6 ?_
  refine ob1 hm (fun S1 e2 hm => ?_)
  refine r_put (pc := 7) (k := 3) (index := 76) B hR I (by decide) mF_76 rfl rfl rfl (fun _ _ => rfl) e2 d_header_7 (fun H locs I => ?_)
  refine lv_aload_n (pc := 10) (i := 0) hx hb d_header_10 rfl (lx_get hl rfl) ?_
  refine ob1 hm (fun x4 e3 hm => ?_)
  refine r_call (pc := 11) (As := []) (rest := []) B hl rfl I (c_here hR e3) kw_here rfl (by decide) (by decide) rfl (by simp [Value.category]) d_header_11 (fun H locs I => ?_)
  refine lv_bipush (pc := 14) (v := 91) hx hb d_header_14 (by decide) ?_
  refine lv_icmp_ne (pc := 16) (tgt := 23) hx hb d_header_16 (by decide) (fun hc => ?_) (fun hc => ?_)
  · have hm := iff' hc hm
    refine lv_iconst (pc := 23) (v := 0) hx hb d_header_23 (by decide) ?_
    exact w_header_24  B hR hl I hm
  · have hm := ift hc hm
    refine lv_iconst (pc := 19) (v := 1) hx hb d_header_19 (by decide) ?_
    refine lv_goto (pc := 20) (tgt := 24) hx hb d_header_20 (by decide) ?_
    exact w_header_24  B hR hl I hm
def m_line_121 (N : Nat) (y2 : Int32) (S : rS) : Option (Int32 × rS) :=
  b1 (rP S 3 ((S.1 3) + 1)) (fun S1 => some (y2, S1))
set_option maxRecDepth 100000 in
set_option maxHeartbeats 4000000 in
theorem w_line_121 {y2 : Int32} {S : rS} (B : BX p m c cb_line 4 s args (.code y_line cb_line 4 (some .int) :: wsA) RREF meth (some .int) D vwCl (tyL dA) b0 Z) (hR : RR b0 h Z) (hl : lx ls [some (.ref h), none, some (.int y2), none]) (I : AI D vwCl b0 (rH dA h S hp0) sz s.heap H locs)  (hm : m_line_121 N  y2 S = some (r, S')) : W p l e { frames := 8, cells := 0, slots := 0, locals := 188 } s m args below meth c H locs 0 0 (MQ below (CQ D vwCl b0 (some (.int r)) (rH dA h S' hp0) sz) args s 0 0 (fun q => b0 ≤ q)) (F0 m 121 ls []) := by
  obtain ⟨hx, hb, -⟩ := B.1
  unfold m_line_121 at hm
  refine lv_aload_n (pc := 121) (i := 0) hx hb d_line_121 rfl (lx_get hl rfl) ?_
  refine lv_dup (pc := 122) hx hb d_line_122 rfl ?_
  refine r_get (pc := 123) (k := 3) (index := 76) B I (by decide) mF_76 rfl rfl d_line_123 ?_
  refine lv_iconst (pc := 126) (v := 1) hx hb d_line_126 (by decide) ?_
  refine lv_iadd (pc := 127) hx hb d_line_127 ?_
  refine ob1 hm (fun S1 e2 hm => ?_)
  refine r_put (pc := 128) (k := 3) (index := 76) B hR I (by decide) mF_76 rfl rfl rfl (fun _ _ => rfl) e2 d_line_128 (fun H locs I => ?_)
  refine lv_iload_n (pc := 131) (i := 2) hx hb d_line_131 rfl (lx_get hl rfl) ?_
  cases hm
  exact q_iret (pc := 132) B I rfl d_line_132
def m_line_91 (N : Nat) (y2 : Int32) (S : rS) : Option (Int32 × rS) :=
  if S.1 1 ≤ S.1 3 then (m_line_121 N  y2 S) else (b1 (m_here N S) (fun x2 => if x2 = 10 then (m_line_121 N  y2 S) else (b1 (rP S 4 (S.1 3)) (fun S3 => some ((-1), S3)))))
set_option maxRecDepth 100000 in
set_option maxHeartbeats 4000000 in
theorem w_line_91 {y2 : Int32} {S : rS} (B : BX p m c cb_line 4 s args (.code y_line cb_line 4 (some .int) :: wsA) RREF meth (some .int) D vwCl (tyL dA) b0 Z) (hR : RR b0 h Z) (hl : lx ls [some (.ref h), none, some (.int y2), none]) (I : AI D vwCl b0 (rH dA h S hp0) sz s.heap H locs)  (hm : m_line_91 N  y2 S = some (r, S')) : W p l e { frames := 8, cells := 0, slots := 0, locals := 188 } s m args below meth c H locs 0 0 (MQ below (CQ D vwCl b0 (some (.int r)) (rH dA h S' hp0) sz) args s 0 0 (fun q => b0 ≤ q)) (F0 m 91 ls []) := by
  obtain ⟨hx, hb, -⟩ := B.1
  unfold m_line_91 at hm
  refine lv_aload_n (pc := 91) (i := 0) hx hb d_line_91 rfl (lx_get hl rfl) ?_
  refine r_get (pc := 92) (k := 3) (index := 76) B I (by decide) mF_76 rfl rfl d_line_92 ?_
  refine lv_aload_n (pc := 95) (i := 0) hx hb d_line_95 rfl (lx_get hl rfl) ?_
  refine r_get (pc := 96) (k := 1) (index := 73) B I (by decide) mF_73 rfl rfl d_line_96 ?_
  refine lv_icmp_ge (pc := 99) (tgt := 121) hx hb d_line_99 (by decide) (fun hc => ?_) (fun hc => ?_)
  · have hm := ift hc hm
    exact w_line_121  B hR hl I hm
  · have hm := iff' hc hm
    refine lv_aload_n (pc := 102) (i := 0) hx hb d_line_102 rfl (lx_get hl rfl) ?_
    refine ob1 hm (fun x2 e1 hm => ?_)
    refine r_call (pc := 103) (As := []) (rest := []) B hl rfl I (c_here hR e1) kw_here rfl (by decide) (by decide) rfl (by simp [Value.category]) d_line_103 (fun H locs I => ?_)
    refine lv_bipush (pc := 106) (v := 10) hx hb d_line_106 (by decide) ?_
    refine lv_icmp_eq (pc := 108) (tgt := 121) hx hb d_line_108 (by decide) (fun hc => ?_) (fun hc => ?_)
    · have hm := ift hc hm
      exact w_line_121  B hR hl I hm
    · have hm := iff' hc hm
      refine lv_aload_n (pc := 111) (i := 0) hx hb d_line_111 rfl (lx_get hl rfl) ?_
      refine lv_aload_n (pc := 112) (i := 0) hx hb d_line_112 rfl (lx_get hl rfl) ?_
      refine r_get (pc := 113) (k := 3) (index := 76) B I (by decide) mF_76 rfl rfl d_line_113 ?_
      refine ob1 hm (fun S3 e4 hm => ?_)
      refine r_put (pc := 116) (k := 4) (index := 79) B hR I (by decide) mF_79 rfl rfl rfl (fun _ _ => rfl) e4 d_line_116 (fun H locs I => ?_)
      refine lv_iconst (pc := 119) (v := (-1)) hx hb d_line_119 (by decide) ?_
      cases hm
      exact q_iret (pc := 120) B I rfl d_line_120
def m_line_74 (N : Nat) (y2 : Int32) (S : rS) : Option (Int32 × rS) :=
  b1 (m_blanks N S) (fun S2 => b1 (m_here N S2) (fun x4 => if x4 = 35 then (b1 (m_comment N S2) (fun S6 => m_line_91 N  y2 S6)) else (m_line_91 N  y2 S2)))
set_option maxRecDepth 100000 in
set_option maxHeartbeats 4000000 in
theorem w_line_74 {y2 : Int32} {S : rS} (B : BX p m c cb_line 4 s args (.code y_line cb_line 4 (some .int) :: wsA) RREF meth (some .int) D vwCl (tyL dA) b0 Z) (hR : RR b0 h Z) (hl : lx ls [some (.ref h), none, some (.int y2), none]) (I : AI D vwCl b0 (rH dA h S hp0) sz s.heap H locs)  (hm : m_line_74 N  y2 S = some (r, S')) : W p l e { frames := 8, cells := 0, slots := 0, locals := 188 } s m args below meth c H locs 0 0 (MQ below (CQ D vwCl b0 (some (.int r)) (rH dA h S' hp0) sz) args s 0 0 (fun q => b0 ≤ q)) (F0 m 74 ls []) := by
  obtain ⟨hx, hb, -⟩ := B.1
  unfold m_line_74 at hm
  refine lv_aload_n (pc := 74) (i := 0) hx hb d_line_74 rfl (lx_get hl rfl) ?_
  refine ob1 hm (fun S2 e1 hm => ?_)
  refine r_call (pc := 75) (As := []) (rest := []) B hl rfl I (c_blanks hR e1) kw_blanks rfl (by decide) (by decide) rfl (by simp [Value.category]) d_line_75 (fun H locs I => ?_)
  refine lv_aload_n (pc := 78) (i := 0) hx hb d_line_78 rfl (lx_get hl rfl) ?_
  refine ob1 hm (fun x4 e3 hm => ?_)
  refine r_call (pc := 79) (As := []) (rest := []) B hl rfl I (c_here hR e3) kw_here rfl (by decide) (by decide) rfl (by simp [Value.category]) d_line_79 (fun H locs I => ?_)
  refine lv_bipush (pc := 82) (v := 35) hx hb d_line_82 (by decide) ?_
  refine lv_icmp_ne (pc := 84) (tgt := 91) hx hb d_line_84 (by decide) (fun hc => ?_) (fun hc => ?_)
  · have hm := iff' hc hm
    exact w_line_91  B hR hl I hm
  · have hm := ift hc hm
    refine lv_aload_n (pc := 87) (i := 0) hx hb d_line_87 rfl (lx_get hl rfl) ?_
    refine ob1 hm (fun S6 e5 hm => ?_)
    refine r_call (pc := 88) (As := []) (rest := []) B hl rfl I (c_comment hR e5) kw_comment rfl (by decide) (by decide) rfl (by simp [Value.category]) d_line_88 (fun H locs I => ?_)
    exact w_line_91  B hR hl I hm
def m_line (N : Nat) (p1 : Int32) (S : rS) : Option (Int32 × rS) :=
  b1 (m_blanks N S) (fun S2 => b1 (m_here N S2) (fun x4 => if x4 = 91 then (b2 (m_header N S2) (fun x14 S15 => if x14 = (-1) then (some ((-1), S15)) else (m_line_74 N  x14 S15))) else (if S2.1 1 ≤ S2.1 3 then (m_line_74 N  p1 S2) else (if x4 = 10 then (m_line_74 N  p1 S2) else (if x4 = 35 then (m_line_74 N  p1 S2) else (b1 (rP S2 26 0) (fun S5 => b2 (m_entry N p1 S5) (fun x8 S9 => if x8 = 0 then (some ((-1), S9)) else (b2 (m_finishValue N S9) (fun x11 S12 => if x11 = 0 then (some ((-1), S12)) else (m_line_74 N  p1 S12)))))))))))
set_option maxRecDepth 100000 in
set_option maxHeartbeats 4000000 in
theorem c_line {p1 : Int32} {S S' : rS} {r : Int32} (hR : RR b0 h Z) (hm : m_line N p1 S = some (r, S')) : Ct l D vwCl (tyL dA) b0 Z y_line (.code y_line cb_line 4 (some .int) :: wsA) 8 188 [.ref h, .int p1] (rH dA h S hp0) sz (some (.int r)) (rH dA h S' hp0) 0 0 := by
  refine ct_of (cc := cb_line) (maxL := 4) (ret := (some .int)) (lo0 := [some (.ref h), some (.int p1), none, none]) hR.2 (by decide) rfl (by simp [lg_sl, Value.category]) rfl (by simp [lx_all, lv_args, Value.category]) ?_
  intro p e s m args below meth c ls B hnm hl I
  obtain ⟨hx, hb, -⟩ := B.1
  unfold m_line at hm
  refine lv_iload_n (pc := 0) (i := 1) hx hb d_line_0 rfl (lx_get hl rfl) ?_
  refine q_istore_n (pc := 1) (i := 2) (lo' := [some (.ref h), some (.int p1), some (.int p1), none]) hx hb d_line_1 rfl hl (Nat.le_of_ble_eq_true rfl) (lx_ci rfl) rfl (fun ls hl => ?_)
  refine lv_aload_n (pc := 2) (i := 0) hx hb d_line_2 rfl (lx_get hl rfl) ?_
  refine ob1 hm (fun S2 e1 hm => ?_)
  refine r_call (pc := 3) (As := []) (rest := []) B hl rfl I (c_blanks hR e1) kw_blanks rfl (by decide) (by decide) rfl (by simp [Value.category]) d_line_3 (fun H locs I => ?_)
  refine lv_aload_n (pc := 6) (i := 0) hx hb d_line_6 rfl (lx_get hl rfl) ?_
  refine ob1 hm (fun x4 e3 hm => ?_)
  refine r_call (pc := 7) (As := []) (rest := []) B hl rfl I (c_here hR e3) kw_here rfl (by decide) (by decide) rfl (by simp [Value.category]) d_line_7 (fun H locs I => ?_)
  refine q_istore_n (pc := 10) (i := 3) (lo' := [some (.ref h), some (.int p1), some (.int p1), some (.int x4)]) hx hb d_line_10 rfl hl (Nat.le_of_ble_eq_true rfl) (lx_ci rfl) rfl (fun ls hl => ?_)
  refine lv_iload_n (pc := 11) (i := 3) hx hb d_line_11 rfl (lx_get hl rfl) ?_
  refine lv_bipush (pc := 12) (v := 91) hx hb d_line_12 (by decide) ?_
  refine lv_icmp_ne (pc := 14) (tgt := 29) hx hb d_line_14 (by decide) (fun hc => ?_) (fun hc => ?_)
  · have hm := iff' hc hm
    refine lv_aload_n (pc := 29) (i := 0) hx hb d_line_29 rfl (lx_get hl rfl) ?_
    refine r_get (pc := 30) (k := 3) (index := 76) B I (by decide) mF_76 rfl rfl d_line_30 ?_
    refine lv_aload_n (pc := 33) (i := 0) hx hb d_line_33 rfl (lx_get hl rfl) ?_
    refine r_get (pc := 34) (k := 1) (index := 73) B I (by decide) mF_73 rfl rfl d_line_34 ?_
    refine lv_icmp_ge (pc := 37) (tgt := 74) hx hb d_line_37 (by decide) (fun hc => ?_) (fun hc => ?_)
    · have hm := ift hc hm
      exact w_line_74  B hR (lx_sub (lo' := [some (.ref h), none, some (.int p1), none]) hl (by simp [lx_le])) I hm
    · have hm := iff' hc hm
      refine lv_iload_n (pc := 40) (i := 3) hx hb d_line_40 rfl (lx_get hl rfl) ?_
      refine lv_bipush (pc := 41) (v := 10) hx hb d_line_41 (by decide) ?_
      refine lv_icmp_eq (pc := 43) (tgt := 74) hx hb d_line_43 (by decide) (fun hc => ?_) (fun hc => ?_)
      · have hm := ift hc hm
        exact w_line_74  B hR (lx_sub (lo' := [some (.ref h), none, some (.int p1), none]) hl (by simp [lx_le])) I hm
      · have hm := iff' hc hm
        refine lv_iload_n (pc := 46) (i := 3) hx hb d_line_46 rfl (lx_get hl rfl) ?_
        refine lv_bipush (pc := 47) (v := 35) hx hb d_line_47 (by decide) ?_
        refine lv_icmp_eq (pc := 49) (tgt := 74) hx hb d_line_49 (by decide) (fun hc => ?_) (fun hc => ?_)
        · have hm := ift hc hm
          exact w_line_74  B hR (lx_sub (lo' := [some (.ref h), none, some (.int p1), none]) hl (by simp [lx_le])) I hm
        · have hm := iff' hc hm
          refine lv_aload_n (pc := 52) (i := 0) hx hb d_line_52 rfl (lx_get hl rfl) ?_
          refine lv_iconst (pc := 53) (v := 0) hx hb d_line_53 (by decide) ?_
          refine ob1 hm (fun S5 e6 hm => ?_)
          refine r_put (pc := 54) (k := 26) (index := 164) B hR I (by decide) mF_164 rfl rfl rfl (fun _ _ => rfl) e6 d_line_54 (fun H locs I => ?_)
          refine lv_aload_n (pc := 57) (i := 0) hx hb d_line_57 rfl (lx_get hl rfl) ?_
          refine lv_iload_n (pc := 58) (i := 2) hx hb d_line_58 rfl (lx_get hl rfl) ?_
          refine ob2 hm (fun x8 S9 e7 hm => ?_)
          refine r_call (pc := 59) (As := [.int p1]) (rest := []) B hl rfl I (c_entry hR e7) kw_entry rfl (by decide) (by decide) rfl (by simp [Value.category]) d_line_59 (fun H locs I => ?_)
          refine lv_if_eq (pc := 62) (tgt := 72) hx hb d_line_62 (by decide) (fun hc => ?_) (fun hc => ?_)
          · have hm := ift hc hm
            refine lv_iconst (pc := 72) (v := (-1)) hx hb d_line_72 (by decide) ?_
            cases hm
            exact q_iret (pc := 73) B I rfl d_line_73
          · have hm := iff' hc hm
            refine lv_aload_n (pc := 65) (i := 0) hx hb d_line_65 rfl (lx_get hl rfl) ?_
            refine ob2 hm (fun x11 S12 e10 hm => ?_)
            refine r_call (pc := 66) (As := []) (rest := []) B hl rfl I (c_finishValue hR e10) kw_finishValue rfl (by decide) (by decide) rfl (by simp [Value.category]) d_line_66 (fun H locs I => ?_)
            refine lv_if_ne (pc := 69) (tgt := 74) hx hb d_line_69 (by decide) (fun hc => ?_) (fun hc => ?_)
            · have hm := iff' hc hm
              exact w_line_74  B hR (lx_sub (lo' := [some (.ref h), none, some (.int p1), none]) hl (by simp [lx_le])) I hm
            · have hm := ift hc hm
              refine lv_iconst (pc := 72) (v := (-1)) hx hb d_line_72 (by decide) ?_
              cases hm
              exact q_iret (pc := 73) B I rfl d_line_73
  · have hm := ift hc hm
    refine lv_aload_n (pc := 17) (i := 0) hx hb d_line_17 rfl (lx_get hl rfl) ?_
    refine ob2 hm (fun x14 S15 e13 hm => ?_)
    refine r_call (pc := 18) (As := []) (rest := []) B hl rfl I (c_header hR e13) kw_header rfl (by decide) (by decide) rfl (by simp [Value.category]) d_line_18 (fun H locs I => ?_)
    refine q_istore_n (pc := 21) (i := 2) (lo' := [some (.ref h), some (.int p1), some (.int x14), some (.int x4)]) hx hb d_line_21 rfl hl (Nat.le_of_ble_eq_true rfl) (lx_ci rfl) rfl (fun ls hl => ?_)
    refine lv_iload_n (pc := 22) (i := 2) hx hb d_line_22 rfl (lx_get hl rfl) ?_
    refine lv_iconst (pc := 23) (v := (-1)) hx hb d_line_23 (by decide) ?_
    refine lv_icmp_ne (pc := 24) (tgt := 74) hx hb d_line_24 (by decide) (fun hc => ?_) (fun hc => ?_)
    · have hm := iff' hc hm
      exact w_line_74  B hR (lx_sub (lo' := [some (.ref h), none, some (.int x14), none]) hl (by simp [lx_le])) I hm
    · have hm := ift hc hm
      refine lv_iconst (pc := 27) (v := (-1)) hx hb d_line_27 (by decide) ?_
      cases hm
      exact q_iret (pc := 28) B I rfl d_line_28
def m_read_78 (N : Nat) (y1 : Int32) (S : rS) : Option (Int32 × rS) :=
  b1 (rP S 1 0) (fun S1 => if y1 = (-1) then (some (S1.1 4, S1)) else (b1 (rP S1 5 (S1.1 19)) (fun S3 => b1 (rP S3 18 (260 * (S3.1 5))) (fun S5 => some ((-1), S5)))))
set_option maxRecDepth 100000 in
set_option maxHeartbeats 4000000 in
theorem w_read_78 {y1 : Int32} {S : rS} (B : BX p m c cb_read 2 s args (.code y_read cb_read 2 (some .int) :: wsA) RREF meth (some .int) D vwCl (tyL dA) b0 Z) (hR : RR b0 h Z) (hl : lx ls [some (.ref h), some (.int y1)]) (I : AI D vwCl b0 (rH dA h S hp0) sz s.heap H locs)  (hm : m_read_78 N  y1 S = some (r, S')) : W p l e { frames := 9, cells := 0, slots := 0, locals := 211 } s m args below meth c H locs 0 0 (MQ below (CQ D vwCl b0 (some (.int r)) (rH dA h S' hp0) sz) args s 0 0 (fun q => b0 ≤ q)) (F0 m 78 ls []) := by
  obtain ⟨hx, hb, -⟩ := B.1
  unfold m_read_78 at hm
  refine lv_aload_n (pc := 78) (i := 0) hx hb d_read_78 rfl (lx_get hl rfl) ?_
  refine lv_iconst (pc := 79) (v := 0) hx hb d_read_79 (by decide) ?_
  refine ob1 hm (fun S1 e2 hm => ?_)
  refine r_put (pc := 80) (k := 1) (index := 73) B hR I (by decide) mF_73 rfl rfl rfl (fun _ _ => rfl) e2 d_read_80 (fun H locs I => ?_)
  refine lv_iload_n (pc := 83) (i := 1) hx hb d_read_83 rfl (lx_get hl rfl) ?_
  refine lv_iconst (pc := 84) (v := (-1)) hx hb d_read_84 (by decide) ?_
  refine lv_icmp_ne (pc := 85) (tgt := 93) hx hb d_read_85 (by decide) (fun hc => ?_) (fun hc => ?_)
  · have hm := iff' hc hm
    refine lv_aload_n (pc := 93) (i := 0) hx hb d_read_93 rfl (lx_get hl rfl) ?_
    refine lv_aload_n (pc := 94) (i := 0) hx hb d_read_94 rfl (lx_get hl rfl) ?_
    refine r_get (pc := 95) (k := 19) (index := 93) B I (by decide) mF_93 rfl rfl d_read_95 ?_
    refine ob1 hm (fun S3 e4 hm => ?_)
    refine r_put (pc := 98) (k := 5) (index := 210) B hR I (by decide) mF_210 rfl rfl rfl (fun _ _ => rfl) e4 d_read_98 (fun H locs I => ?_)
    refine lv_aload_n (pc := 101) (i := 0) hx hb d_read_101 rfl (lx_get hl rfl) ?_
    refine lv_sipush (pc := 102) (v := 260) hx hb d_read_102 (by decide) ?_
    refine lv_aload_n (pc := 105) (i := 0) hx hb d_read_105 rfl (lx_get hl rfl) ?_
    refine r_get (pc := 106) (k := 5) (index := 210) B I (by decide) mF_210 rfl rfl d_read_106 ?_
    refine lv_imul (pc := 109) hx hb d_read_109 ?_
    refine ob1 hm (fun S5 e6 hm => ?_)
    refine r_put (pc := 110) (k := 18) (index := 216) B hR I (by decide) mF_216 rfl rfl rfl (fun _ _ => rfl) e6 d_read_110 (fun H locs I => ?_)
    refine lv_iconst (pc := 113) (v := (-1)) hx hb d_read_113 (by decide) ?_
    cases hm
    exact q_iret (pc := 114) B I rfl d_read_114
  · have hm := ift hc hm
    refine lv_aload_n (pc := 88) (i := 0) hx hb d_read_88 rfl (lx_get hl rfl) ?_
    refine r_get (pc := 89) (k := 4) (index := 79) B I (by decide) mF_79 rfl rfl d_read_89 ?_
    cases hm
    exact q_iret (pc := 92) B I rfl d_read_92
def m_read_53F (N : Nat) (K53 : Int32 → rS → Option (Int32 × rS)) (y1 : Int32) (S : rS) : Option (Int32 × rS) :=
  if S.1 1 ≤ S.1 3 then (m_read_78 N  y1 S) else (if y1 = (-1) then (m_read_78 N  y1 S) else (b2 (m_line N y1 S) (fun x2 S3 => K53 x2 S3)))
def m_read_53 (N : Nat) : Nat → Int32 → rS → Option (Int32 × rS)
  | 0, _, _ => none
  | k + 1, y1, S => m_read_53F N  (m_read_53 N  k) y1 S
set_option maxRecDepth 100000 in
set_option maxHeartbeats 4000000 in
theorem w_read_53F {K53 : Int32 → rS → Option (Int32 × rS)} {y1 : Int32} {S : rS} (hK53 : ∀ (y1 : Int32) (S : rS) (ls : Array Slot) (H : Heap) (locs : List Loc), lx ls [some (.ref h), some (.int y1)] → AI D vwCl b0 (rH dA h S hp0) sz s.heap H locs → K53 y1 S = some (r, S') → W p l e { frames := 9, cells := 0, slots := 0, locals := 211 } s m args below meth c H locs 0 0 (MQ below (CQ D vwCl b0 (some (.int r)) (rH dA h S' hp0) sz) args s 0 0 (fun q => b0 ≤ q)) (F0 m 53 ls [])) (B : BX p m c cb_read 2 s args (.code y_read cb_read 2 (some .int) :: wsA) RREF meth (some .int) D vwCl (tyL dA) b0 Z) (hR : RR b0 h Z) (hl : lx ls [some (.ref h), some (.int y1)]) (I : AI D vwCl b0 (rH dA h S hp0) sz s.heap H locs)  (hm : m_read_53F N  K53 y1 S = some (r, S')) : W p l e { frames := 9, cells := 0, slots := 0, locals := 211 } s m args below meth c H locs 0 0 (MQ below (CQ D vwCl b0 (some (.int r)) (rH dA h S' hp0) sz) args s 0 0 (fun q => b0 ≤ q)) (F0 m 53 ls []) := by
  obtain ⟨hx, hb, -⟩ := B.1
  unfold m_read_53F at hm
  refine lv_aload_n (pc := 53) (i := 0) hx hb d_read_53 rfl (lx_get hl rfl) ?_
  refine r_get (pc := 54) (k := 3) (index := 76) B I (by decide) mF_76 rfl rfl d_read_54 ?_
  refine lv_aload_n (pc := 57) (i := 0) hx hb d_read_57 rfl (lx_get hl rfl) ?_
  refine r_get (pc := 58) (k := 1) (index := 73) B I (by decide) mF_73 rfl rfl d_read_58 ?_
  refine lv_icmp_ge (pc := 61) (tgt := 78) hx hb d_read_61 (by decide) (fun hc => ?_) (fun hc => ?_)
  · have hm := ift hc hm
    exact w_read_78  B hR hl I hm
  · have hm := iff' hc hm
    refine lv_iload_n (pc := 64) (i := 1) hx hb d_read_64 rfl (lx_get hl rfl) ?_
    refine lv_iconst (pc := 65) (v := (-1)) hx hb d_read_65 (by decide) ?_
    refine lv_icmp_eq (pc := 66) (tgt := 78) hx hb d_read_66 (by decide) (fun hc => ?_) (fun hc => ?_)
    · have hm := ift hc hm
      exact w_read_78  B hR hl I hm
    · have hm := iff' hc hm
      refine lv_aload_n (pc := 69) (i := 0) hx hb d_read_69 rfl (lx_get hl rfl) ?_
      refine lv_iload_n (pc := 70) (i := 1) hx hb d_read_70 rfl (lx_get hl rfl) ?_
      refine ob2 hm (fun x2 S3 e1 hm => ?_)
      refine r_call (pc := 71) (As := [.int y1]) (rest := []) B hl rfl I (c_line hR e1) kw_line rfl (by decide) (by decide) rfl (by simp [Value.category]) d_read_71 (fun H locs I => ?_)
      refine q_istore_n (pc := 74) (i := 1) (lo' := [some (.ref h), some (.int x2)]) hx hb d_read_74 rfl hl (Nat.le_of_ble_eq_true rfl) (lx_cr rfl) rfl (fun ls hl => ?_)
      refine lv_goto (pc := 75) (tgt := 53) hx hb d_read_75 (by decide) ?_
      exact hK53 _ _ _ _ _ hl I hm
set_option maxRecDepth 100000 in
set_option maxHeartbeats 4000000 in
theorem w_read_53i (B : BX p m c cb_read 2 s args (.code y_read cb_read 2 (some .int) :: wsA) RREF meth (some .int) D vwCl (tyL dA) b0 Z) (hR : RR b0 h Z) (k : Nat) (y1 : Int32) (S : rS) (ls : Array Slot) (H : Heap) (locs : List Loc) (hl : lx ls [some (.ref h), some (.int y1)]) (I : AI D vwCl b0 (rH dA h S hp0) sz s.heap H locs)  (hm : m_read_53 N  k y1 S = some (r, S')) : W p l e { frames := 9, cells := 0, slots := 0, locals := 211 } s m args below meth c H locs 0 0 (MQ below (CQ D vwCl b0 (some (.int r)) (rH dA h S' hp0) sz) args s 0 0 (fun q => b0 ≤ q)) (F0 m 53 ls []) := by
  induction k generalizing y1 S ls H locs with
  | zero => cases hm
  | succ k ih => exact w_read_53F  (fun y1 S ls H locs hl I hm => ih y1 S ls H locs hl I hm) B hR hl I hm
theorem w_read_53 {y1 : Int32} {S : rS} (B : BX p m c cb_read 2 s args (.code y_read cb_read 2 (some .int) :: wsA) RREF meth (some .int) D vwCl (tyL dA) b0 Z) (hR : RR b0 h Z) (hl : lx ls [some (.ref h), some (.int y1)]) (I : AI D vwCl b0 (rH dA h S hp0) sz s.heap H locs)  {k : Nat} (hm : m_read_53 N  k y1 S = some (r, S')) : W p l e { frames := 9, cells := 0, slots := 0, locals := 211 } s m args below meth c H locs 0 0 (MQ below (CQ D vwCl b0 (some (.int r)) (rH dA h S' hp0) sz) args s 0 0 (fun q => b0 ≤ q)) (F0 m 53 ls []) := w_read_53i  B hR k _ S ls H locs hl I hm
def m_read (N : Nat) (S : rS) : Option (Int32 × rS) :=
  b1 (rP S 0 0) (fun S1 => b1 (rP S1 19 (1 - (S1.1 5))) (fun S3 => b1 (rT S3 2 (S3.1 19) 0) (fun S5 => b1 (rT S5 12 (S5.1 19) 0) (fun S7 => b1 (rP S7 3 0) (fun S9 => b1 (rP S9 4 (-1)) (fun S11 => b2 (m_make N 7 (-1) S11) (fun x14 S15 => m_read_53 N  N x14 S15)))))))
set_option maxRecDepth 100000 in
set_option maxHeartbeats 4000000 in
theorem c_read {S S' : rS} {r : Int32} (hR : RR b0 h Z) (hm : m_read N  S = some (r, S')) : Ct l D vwCl (tyL dA) b0 Z y_read (.code y_read cb_read 2 (some .int) :: wsA) 9 211 [.ref h] (rH dA h S hp0) sz (some (.int r)) (rH dA h S' hp0) 0 0 := by
  refine ct_of (cc := cb_read) (maxL := 2) (ret := (some .int)) (lo0 := [some (.ref h), none]) hR.2 (by decide) rfl (by simp [lg_sl, Value.category]) rfl (by simp [lx_all, lv_args, Value.category]) ?_
  intro p e s m args below meth c ls B hnm hl I
  obtain ⟨hx, hb, -⟩ := B.1
  unfold m_read at hm
  refine lv_aload_n (pc := 0) (i := 0) hx hb d_read_0 rfl (lx_get hl rfl) ?_
  refine lv_iconst (pc := 1) (v := 0) hx hb d_read_1 (by decide) ?_
  refine ob1 hm (fun S1 e2 hm => ?_)
  refine r_put (pc := 2) (k := 0) (index := 67) B hR I (by decide) mF_67 rfl rfl rfl (fun _ _ => rfl) e2 d_read_2 (fun H locs I => ?_)
  refine lv_aload_n (pc := 5) (i := 0) hx hb d_read_5 rfl (lx_get hl rfl) ?_
  refine lv_iconst (pc := 6) (v := 1) hx hb d_read_6 (by decide) ?_
  refine lv_aload_n (pc := 7) (i := 0) hx hb d_read_7 rfl (lx_get hl rfl) ?_
  refine r_get (pc := 8) (k := 5) (index := 210) B I (by decide) mF_210 rfl rfl d_read_8 ?_
  refine lv_isub (pc := 11) hx hb d_read_11 ?_
  refine ob1 hm (fun S3 e4 hm => ?_)
  refine r_put (pc := 12) (k := 19) (index := 93) B hR I (by decide) mF_93 rfl rfl rfl (fun _ _ => rfl) e4 d_read_12 (fun H locs I => ?_)
  refine lv_aload_n (pc := 15) (i := 0) hx hb d_read_15 rfl (lx_get hl rfl) ?_
  refine r_get (pc := 16) (k := 6) (index := 13) B I (by decide) mF_13 rfl rfl d_read_16 ?_
  refine lv_aload_n (pc := 19) (i := 0) hx hb d_read_19 rfl (lx_get hl rfl) ?_
  refine r_get (pc := 20) (k := 19) (index := 93) B I (by decide) mF_93 rfl rfl d_read_20 ?_
  refine lv_iconst (pc := 23) (v := 0) hx hb d_read_23 (by decide) ?_
  refine ob1 hm (fun S5 e6 hm => ?_)
  refine r_ast (pc := 24) (j := 2) B hR I (by decide) (by decide) e6 d_read_24 (fun H locs I => ?_)
  refine lv_aload_n (pc := 25) (i := 0) hx hb d_read_25 rfl (lx_get hl rfl) ?_
  refine r_get (pc := 26) (k := 16) (index := 43) B I (by decide) mF_43 rfl rfl d_read_26 ?_
  refine lv_aload_n (pc := 29) (i := 0) hx hb d_read_29 rfl (lx_get hl rfl) ?_
  refine r_get (pc := 30) (k := 19) (index := 93) B I (by decide) mF_93 rfl rfl d_read_30 ?_
  refine lv_iconst (pc := 33) (v := 0) hx hb d_read_33 (by decide) ?_
  refine ob1 hm (fun S7 e8 hm => ?_)
  refine r_ast (pc := 34) (j := 12) B hR I (by decide) (by decide) e8 d_read_34 (fun H locs I => ?_)
  refine lv_aload_n (pc := 35) (i := 0) hx hb d_read_35 rfl (lx_get hl rfl) ?_
  refine lv_iconst (pc := 36) (v := 0) hx hb d_read_36 (by decide) ?_
  refine ob1 hm (fun S9 e10 hm => ?_)
  refine r_put (pc := 37) (k := 3) (index := 76) B hR I (by decide) mF_76 rfl rfl rfl (fun _ _ => rfl) e10 d_read_37 (fun H locs I => ?_)
  refine lv_aload_n (pc := 40) (i := 0) hx hb d_read_40 rfl (lx_get hl rfl) ?_
  refine lv_iconst (pc := 41) (v := (-1)) hx hb d_read_41 (by decide) ?_
  refine ob1 hm (fun S11 e12 hm => ?_)
  refine r_put (pc := 42) (k := 4) (index := 79) B hR I (by decide) mF_79 rfl rfl rfl (fun _ _ => rfl) e12 d_read_42 (fun H locs I => ?_)
  refine lv_aload_n (pc := 45) (i := 0) hx hb d_read_45 rfl (lx_get hl rfl) ?_
  refine lv_bipush (pc := 46) (v := 7) hx hb d_read_46 (by decide) ?_
  refine lv_iconst (pc := 48) (v := (-1)) hx hb d_read_48 (by decide) ?_
  refine ob2 hm (fun x14 S15 e13 hm => ?_)
  refine r_call (pc := 49) (As := [.int 7, .int (-1)]) (rest := []) B hl rfl I (c_make hR e13) kw_make rfl (by decide) (by decide) rfl (by simp [Value.category]) d_read_49 (fun H locs I => ?_)
  refine q_istore_n (pc := 52) (i := 1) (lo' := [some (.ref h), some (.int x14)]) hx hb d_read_52 rfl hl (Nat.le_of_ble_eq_true rfl) (lx_cr rfl) rfl (fun ls hl => ?_)
  exact w_read_53  B hR hl I hm
end RW
end
section
section RW
variable {p : Program} {l : Launch} {e : Env} {s : State} {m : MethodId} {args : Array Value} {below : List Frame} {meth : Method} {c : Code} {H : Heap} {locs : List Loc}
variable {ls : Array Slot} {D : va_G} {dA : Nat → ClassId} {hp0 : aH} {sz b0 h N : Nat} {S' : rS} {r : Int32} {Z : State → Prop}
def m_put_20 (N : Nat) (S : rS) : Option rS :=
  b1 (rP S 29 ((S.1 29) + 1)) (fun S1 => some S1)
set_option maxRecDepth 100000 in
set_option maxHeartbeats 4000000 in
theorem w_put_20 {S : rS} (B : BX p m c cb_put 2 s args (.code y_put cb_put 2 none :: wsA) RREF meth none D vwCl (tyL dA) b0 Z) (hR : RR b0 h Z) (hl : lx ls [some (.ref h), none]) (I : AI D vwCl b0 (rH dA h S hp0) sz s.heap H locs)  (hm : m_put_20 N   S = some S') : W p l e { frames := 0, cells := 0, slots := 0, locals := 0 } s m args below meth c H locs 0 0 (MQ below (CQ D vwCl b0 none (rH dA h S' hp0) sz) args s 0 0 (fun q => b0 ≤ q)) (F0 m 20 ls []) := by
  obtain ⟨hx, hb, -⟩ := B.1
  unfold m_put_20 at hm
  refine lv_aload_n (pc := 20) (i := 0) hx hb d_put_20 rfl (lx_get hl rfl) ?_
  refine lv_dup (pc := 21) hx hb d_put_21 rfl ?_
  refine r_get (pc := 22) (k := 29) (index := 219) B I (by decide) mF_219 rfl rfl d_put_22 ?_
  refine lv_iconst (pc := 25) (v := 1) hx hb d_put_25 (by decide) ?_
  refine lv_iadd (pc := 26) hx hb d_put_26 ?_
  refine ob1 hm (fun S1 e2 hm => ?_)
  refine r_put (pc := 27) (k := 29) (index := 219) B hR I (by decide) mF_219 rfl rfl rfl (fun _ _ => rfl) e2 d_put_27 (fun H locs I => ?_)
  cases hm
  exact q_vret (pc := 30) B I rfl d_put_30
def m_put (N : Nat) (p1 : Int32) (S : rS) : Option rS :=
  if 600 ≤ S.1 29 then (m_put_20 N  S) else (b1 (rT S 19 (S.1 29) p1) (fun S1 => m_put_20 N  S1))
set_option maxRecDepth 100000 in
set_option maxHeartbeats 4000000 in
theorem c_put {p1 : Int32} {S S' : rS} (hR : RR b0 h Z) (hm : m_put N p1 S = some S') : Ct l D vwCl (tyL dA) b0 Z y_put (.code y_put cb_put 2 none :: wsA) 0 0 [.ref h, .int p1] (rH dA h S hp0) sz none (rH dA h S' hp0) 0 0 := by
  refine ct_of (cc := cb_put) (maxL := 2) (ret := none) (lo0 := [some (.ref h), some (.int p1)]) hR.2 (by decide) rfl (by simp [lg_sl, Value.category]) rfl (by simp [lx_all, lv_args, Value.category]) ?_
  intro p e s m args below meth c ls B hnm hl I
  obtain ⟨hx, hb, -⟩ := B.1
  unfold m_put at hm
  refine lv_aload_n (pc := 0) (i := 0) hx hb d_put_0 rfl (lx_get hl rfl) ?_
  refine r_get (pc := 1) (k := 29) (index := 219) B I (by decide) mF_219 rfl rfl d_put_1 ?_
  refine lv_sipush (pc := 4) (v := 600) hx hb d_put_4 (by decide) ?_
  refine lv_icmp_ge (pc := 7) (tgt := 20) hx hb d_put_7 (by decide) (fun hc => ?_) (fun hc => ?_)
  · have hm := ift hc hm
    exact w_put_20  B hR (lx_sub (lo' := [some (.ref h), none]) hl (by simp [lx_le])) I hm
  · have hm := iff' hc hm
    refine lv_aload_n (pc := 10) (i := 0) hx hb d_put_10 rfl (lx_get hl rfl) ?_
    refine r_get (pc := 11) (k := 30) (index := 64) B I (by decide) mF_64 rfl rfl d_put_11 ?_
    refine lv_aload_n (pc := 14) (i := 0) hx hb d_put_14 rfl (lx_get hl rfl) ?_
    refine r_get (pc := 15) (k := 29) (index := 219) B I (by decide) mF_219 rfl rfl d_put_15 ?_
    refine lv_iload_n (pc := 18) (i := 1) hx hb d_put_18 rfl (lx_get hl rfl) ?_
    refine ob1 hm (fun S1 e2 hm => ?_)
    refine r_ast (pc := 19) (j := 19) B hR I (by decide) (by decide) e2 d_put_19 (fun H locs I => ?_)
    exact w_put_20  B hR (lx_sub (lo' := [some (.ref h), none]) hl (by simp [lx_le])) I hm
def m_putNumber_41F (N : Nat) (K41 : Int32 → Int32 → rS → Option rS) (y1 : Int32) (y4 : Int32) (S : rS) : Option rS :=
  if y4 ≤ 0 then (some S) else (if y4 = 0 then none else (b1 (m_put N (48 + ((y1 / y4) - (y1 / y4) / 10 * 10)) S) (fun S3 => K41 y1 (y4 / 10) S3)))
def m_putNumber_41 (N : Nat) : Nat → Int32 → Int32 → rS → Option rS
  | 0, _, _, _ => none
  | k + 1, y1, y4, S => m_putNumber_41F N  (m_putNumber_41 N  k) y1 y4 S
set_option maxRecDepth 100000 in
set_option maxHeartbeats 4000000 in
theorem w_putNumber_41F {K41 : Int32 → Int32 → rS → Option rS} {y1 : Int32} {y4 : Int32} {S : rS} (hK41 : ∀ (y1 : Int32) (y4 : Int32) (S : rS) (ls : Array Slot) (H : Heap) (locs : List Loc), lx ls [some (.ref h), some (.int y1), none, none, some (.int y4)] → AI D vwCl b0 (rH dA h S hp0) sz s.heap H locs → K41 y1 y4 S = some S' → W p l e { frames := 1, cells := 0, slots := 0, locals := 21 } s m args below meth c H locs 0 0 (MQ below (CQ D vwCl b0 none (rH dA h S' hp0) sz) args s 0 0 (fun q => b0 ≤ q)) (F0 m 41 ls [])) (B : BX p m c cb_putNumber 5 s args (.code y_putNumber cb_putNumber 5 none :: wsA) RREF meth none D vwCl (tyL dA) b0 Z) (hR : RR b0 h Z) (hl : lx ls [some (.ref h), some (.int y1), none, none, some (.int y4)]) (I : AI D vwCl b0 (rH dA h S hp0) sz s.heap H locs)  (hm : m_putNumber_41F N  K41 y1 y4 S = some S') : W p l e { frames := 1, cells := 0, slots := 0, locals := 21 } s m args below meth c H locs 0 0 (MQ below (CQ D vwCl b0 none (rH dA h S' hp0) sz) args s 0 0 (fun q => b0 ≤ q)) (F0 m 41 ls []) := by
  obtain ⟨hx, hb, -⟩ := B.1
  unfold m_putNumber_41F at hm
  refine lv_iload (pc := 41) (i := 4) hx hb d_putNumber_41 (lx_get hl rfl) ?_
  refine lv_if_le (pc := 43) (tgt := 70) hx hb d_putNumber_43 (by decide) (fun hc => ?_) (fun hc => ?_)
  · have hm := ift hc hm
    cases hm
    exact q_vret (pc := 70) B I rfl d_putNumber_70
  · have hm := iff' hc hm
    refine lv_aload_n (pc := 46) (i := 0) hx hb d_putNumber_46 rfl (lx_get hl rfl) ?_
    refine lv_bipush (pc := 47) (v := 48) hx hb d_putNumber_47 (by decide) ?_
    refine lv_iload_n (pc := 49) (i := 1) hx hb d_putNumber_49 rfl (lx_get hl rfl) ?_
    refine lv_iload (pc := 50) (i := 4) hx hb d_putNumber_50 (lx_get hl rfl) ?_
    have hz1 : ¬ y4 = 0 := fun hc => by have hm := ift hc hm; cases hm
    have hm := iff' hz1 hm
    refine lv_idiv (pc := 52) hx hb d_putNumber_52 hz1 ?_
    refine lv_bipush (pc := 53) (v := 10) hx hb d_putNumber_53 (by decide) ?_
    refine lv_irem (pc := 55) hx hb d_putNumber_55 (by decide) ?_
    refine lv_iadd (pc := 56) hx hb d_putNumber_56 ?_
    refine ob1 hm (fun S3 e2 hm => ?_)
    refine r_call (pc := 57) (As := [.int (48 + ((y1 / y4) - (y1 / y4) / 10 * 10))]) (rest := []) B hl rfl I (c_put hR e2) kw_put rfl (by decide) (by decide) rfl (by simp [Value.category]) d_putNumber_57 (fun H locs I => ?_)
    refine lv_iload (pc := 60) (i := 4) hx hb d_putNumber_60 (lx_get hl rfl) ?_
    refine lv_bipush (pc := 62) (v := 10) hx hb d_putNumber_62 (by decide) ?_
    refine lv_idiv (pc := 64) hx hb d_putNumber_64 (by decide) ?_
    refine q_istore (pc := 65) (i := 4) (lo' := [some (.ref h), some (.int y1), none, none, some (.int (y4 / 10))]) hx hb d_putNumber_65 hl (Nat.le_of_ble_eq_true rfl) (lx_cn rfl) rfl (fun ls hl => ?_)
    refine lv_goto (pc := 67) (tgt := 41) hx hb d_putNumber_67 (by decide) ?_
    exact hK41 _ _ _ _ _ _ hl I hm
set_option maxRecDepth 100000 in
set_option maxHeartbeats 4000000 in
theorem w_putNumber_41i (B : BX p m c cb_putNumber 5 s args (.code y_putNumber cb_putNumber 5 none :: wsA) RREF meth none D vwCl (tyL dA) b0 Z) (hR : RR b0 h Z) (k : Nat) (y1 : Int32) (y4 : Int32) (S : rS) (ls : Array Slot) (H : Heap) (locs : List Loc) (hl : lx ls [some (.ref h), some (.int y1), none, none, some (.int y4)]) (I : AI D vwCl b0 (rH dA h S hp0) sz s.heap H locs)  (hm : m_putNumber_41 N  k y1 y4 S = some S') : W p l e { frames := 1, cells := 0, slots := 0, locals := 21 } s m args below meth c H locs 0 0 (MQ below (CQ D vwCl b0 none (rH dA h S' hp0) sz) args s 0 0 (fun q => b0 ≤ q)) (F0 m 41 ls []) := by
  induction k generalizing y1 y4 S ls H locs with
  | zero => cases hm
  | succ k ih => exact w_putNumber_41F  (fun y1 y4 S ls H locs hl I hm => ih y1 y4 S ls H locs hl I hm) B hR hl I hm
theorem w_putNumber_41 {y1 : Int32} {y4 : Int32} {S : rS} (B : BX p m c cb_putNumber 5 s args (.code y_putNumber cb_putNumber 5 none :: wsA) RREF meth none D vwCl (tyL dA) b0 Z) (hR : RR b0 h Z) (hl : lx ls [some (.ref h), some (.int y1), none, none, some (.int y4)]) (I : AI D vwCl b0 (rH dA h S hp0) sz s.heap H locs)  {k : Nat} (hm : m_putNumber_41 N  k y1 y4 S = some S') : W p l e { frames := 1, cells := 0, slots := 0, locals := 21 } s m args below meth c H locs 0 0 (MQ below (CQ D vwCl b0 none (rH dA h S' hp0) sz) args s 0 0 (fun q => b0 ≤ q)) (F0 m 41 ls []) := w_putNumber_41i  B hR k _ _ S ls H locs hl I hm
def m_putNumber_22F (N : Nat) (K22 : Int32 → Int32 → rS → Option rS) (y1 : Int32) (y3 : Int32) (S : rS) : Option rS :=
  if y3 = 0 then none else (if y1 / y3 ≤ 9 then (m_putNumber_41 N  N y1 y3 S) else (K22 y1 (y3 * 10) S))
def m_putNumber_22 (N : Nat) : Nat → Int32 → Int32 → rS → Option rS
  | 0, _, _, _ => none
  | k + 1, y1, y3, S => m_putNumber_22F N  (m_putNumber_22 N  k) y1 y3 S
set_option maxRecDepth 100000 in
set_option maxHeartbeats 4000000 in
theorem w_putNumber_22F {K22 : Int32 → Int32 → rS → Option rS} {y1 : Int32} {y3 : Int32} {S : rS} (hK22 : ∀ (y1 : Int32) (y3 : Int32) (S : rS) (ls : Array Slot) (H : Heap) (locs : List Loc), lx ls [some (.ref h), some (.int y1), none, some (.int y3), none] → AI D vwCl b0 (rH dA h S hp0) sz s.heap H locs → K22 y1 y3 S = some S' → W p l e { frames := 1, cells := 0, slots := 0, locals := 21 } s m args below meth c H locs 0 0 (MQ below (CQ D vwCl b0 none (rH dA h S' hp0) sz) args s 0 0 (fun q => b0 ≤ q)) (F0 m 22 ls [])) (B : BX p m c cb_putNumber 5 s args (.code y_putNumber cb_putNumber 5 none :: wsA) RREF meth none D vwCl (tyL dA) b0 Z) (hR : RR b0 h Z) (hl : lx ls [some (.ref h), some (.int y1), none, some (.int y3), none]) (I : AI D vwCl b0 (rH dA h S hp0) sz s.heap H locs)  (hm : m_putNumber_22F N  K22 y1 y3 S = some S') : W p l e { frames := 1, cells := 0, slots := 0, locals := 21 } s m args below meth c H locs 0 0 (MQ below (CQ D vwCl b0 none (rH dA h S' hp0) sz) args s 0 0 (fun q => b0 ≤ q)) (F0 m 22 ls []) := by
  obtain ⟨hx, hb, -⟩ := B.1
  unfold m_putNumber_22F at hm
  refine lv_iload_n (pc := 22) (i := 1) hx hb d_putNumber_22 rfl (lx_get hl rfl) ?_
  refine lv_iload_n (pc := 23) (i := 3) hx hb d_putNumber_23 rfl (lx_get hl rfl) ?_
  have hz1 : ¬ y3 = 0 := fun hc => by have hm := ift hc hm; cases hm
  have hm := iff' hz1 hm
  refine lv_idiv (pc := 24) hx hb d_putNumber_24 hz1 ?_
  refine lv_bipush (pc := 25) (v := 9) hx hb d_putNumber_25 (by decide) ?_
  refine lv_icmp_le (pc := 27) (tgt := 38) hx hb d_putNumber_27 (by decide) (fun hc => ?_) (fun hc => ?_)
  · have hm := ift hc hm
    refine lv_iload_n (pc := 38) (i := 3) hx hb d_putNumber_38 rfl (lx_get hl rfl) ?_
    refine q_istore (pc := 39) (i := 4) (lo' := [some (.ref h), some (.int y1), none, some (.int y3), some (.int y3)]) hx hb d_putNumber_39 hl (Nat.le_of_ble_eq_true rfl) (lx_ci rfl) rfl (fun ls hl => ?_)
    exact w_putNumber_41  B hR (lx_sub (lo' := [some (.ref h), some (.int y1), none, none, some (.int y3)]) hl (by simp [lx_le])) I hm
  · have hm := iff' hc hm
    refine lv_iload_n (pc := 30) (i := 3) hx hb d_putNumber_30 rfl (lx_get hl rfl) ?_
    refine lv_bipush (pc := 31) (v := 10) hx hb d_putNumber_31 (by decide) ?_
    refine lv_imul (pc := 33) hx hb d_putNumber_33 ?_
    refine q_istore_n (pc := 34) (i := 3) (lo' := [some (.ref h), some (.int y1), none, some (.int (y3 * 10)), none]) hx hb d_putNumber_34 rfl hl (Nat.le_of_ble_eq_true rfl) (lx_cn rfl) rfl (fun ls hl => ?_)
    refine lv_goto (pc := 35) (tgt := 22) hx hb d_putNumber_35 (by decide) ?_
    exact hK22 _ _ _ _ _ _ hl I hm
set_option maxRecDepth 100000 in
set_option maxHeartbeats 4000000 in
theorem w_putNumber_22i (B : BX p m c cb_putNumber 5 s args (.code y_putNumber cb_putNumber 5 none :: wsA) RREF meth none D vwCl (tyL dA) b0 Z) (hR : RR b0 h Z) (k : Nat) (y1 : Int32) (y3 : Int32) (S : rS) (ls : Array Slot) (H : Heap) (locs : List Loc) (hl : lx ls [some (.ref h), some (.int y1), none, some (.int y3), none]) (I : AI D vwCl b0 (rH dA h S hp0) sz s.heap H locs)  (hm : m_putNumber_22 N  k y1 y3 S = some S') : W p l e { frames := 1, cells := 0, slots := 0, locals := 21 } s m args below meth c H locs 0 0 (MQ below (CQ D vwCl b0 none (rH dA h S' hp0) sz) args s 0 0 (fun q => b0 ≤ q)) (F0 m 22 ls []) := by
  induction k generalizing y1 y3 S ls H locs with
  | zero => cases hm
  | succ k ih => exact w_putNumber_22F  (fun y1 y3 S ls H locs hl I hm => ih y1 y3 S ls H locs hl I hm) B hR hl I hm
theorem w_putNumber_22 {y1 : Int32} {y3 : Int32} {S : rS} (B : BX p m c cb_putNumber 5 s args (.code y_putNumber cb_putNumber 5 none :: wsA) RREF meth none D vwCl (tyL dA) b0 Z) (hR : RR b0 h Z) (hl : lx ls [some (.ref h), some (.int y1), none, some (.int y3), none]) (I : AI D vwCl b0 (rH dA h S hp0) sz s.heap H locs)  {k : Nat} (hm : m_putNumber_22 N  k y1 y3 S = some S') : W p l e { frames := 1, cells := 0, slots := 0, locals := 21 } s m args below meth c H locs 0 0 (MQ below (CQ D vwCl b0 none (rH dA h S' hp0) sz) args s 0 0 (fun q => b0 ≤ q)) (F0 m 22 ls []) := w_putNumber_22i  B hR k _ _ S ls H locs hl I hm
def m_putNumber_5F (N : Nat) (K5 : Int32 → Int32 → Int32 → Int32 → rS → Option rS) (y1 : Int32) (y2 : Int32) (y3 : Int32) (y4 : Int32) (S : rS) : Option rS :=
  if y2 ≤ y4 then (m_putNumber_22 N  N y1 y3 S) else (K5 y1 y2 (y3 * 10) (y4 + 1) S)
def m_putNumber_5 (N : Nat) : Nat → Int32 → Int32 → Int32 → Int32 → rS → Option rS
  | 0, _, _, _, _, _ => none
  | k + 1, y1, y2, y3, y4, S => m_putNumber_5F N  (m_putNumber_5 N  k) y1 y2 y3 y4 S
set_option maxRecDepth 100000 in
set_option maxHeartbeats 4000000 in
theorem w_putNumber_5F {K5 : Int32 → Int32 → Int32 → Int32 → rS → Option rS} {y1 : Int32} {y2 : Int32} {y3 : Int32} {y4 : Int32} {S : rS} (hK5 : ∀ (y1 : Int32) (y2 : Int32) (y3 : Int32) (y4 : Int32) (S : rS) (ls : Array Slot) (H : Heap) (locs : List Loc), lx ls [some (.ref h), some (.int y1), some (.int y2), some (.int y3), some (.int y4)] → AI D vwCl b0 (rH dA h S hp0) sz s.heap H locs → K5 y1 y2 y3 y4 S = some S' → W p l e { frames := 1, cells := 0, slots := 0, locals := 21 } s m args below meth c H locs 0 0 (MQ below (CQ D vwCl b0 none (rH dA h S' hp0) sz) args s 0 0 (fun q => b0 ≤ q)) (F0 m 5 ls [])) (B : BX p m c cb_putNumber 5 s args (.code y_putNumber cb_putNumber 5 none :: wsA) RREF meth none D vwCl (tyL dA) b0 Z) (hR : RR b0 h Z) (hl : lx ls [some (.ref h), some (.int y1), some (.int y2), some (.int y3), some (.int y4)]) (I : AI D vwCl b0 (rH dA h S hp0) sz s.heap H locs)  (hm : m_putNumber_5F N  K5 y1 y2 y3 y4 S = some S') : W p l e { frames := 1, cells := 0, slots := 0, locals := 21 } s m args below meth c H locs 0 0 (MQ below (CQ D vwCl b0 none (rH dA h S' hp0) sz) args s 0 0 (fun q => b0 ≤ q)) (F0 m 5 ls []) := by
  obtain ⟨hx, hb, -⟩ := B.1
  unfold m_putNumber_5F at hm
  refine lv_iload (pc := 5) (i := 4) hx hb d_putNumber_5 (lx_get hl rfl) ?_
  refine lv_iload_n (pc := 7) (i := 2) hx hb d_putNumber_7 rfl (lx_get hl rfl) ?_
  refine lv_icmp_ge (pc := 8) (tgt := 22) hx hb d_putNumber_8 (by decide) (fun hc => ?_) (fun hc => ?_)
  · have hm := ift hc hm
    exact w_putNumber_22  B hR (lx_sub (lo' := [some (.ref h), some (.int y1), none, some (.int y3), none]) hl (by simp [lx_le])) I hm
  · have hm := iff' hc hm
    refine lv_iload_n (pc := 11) (i := 3) hx hb d_putNumber_11 rfl (lx_get hl rfl) ?_
    refine lv_bipush (pc := 12) (v := 10) hx hb d_putNumber_12 (by decide) ?_
    refine lv_imul (pc := 14) hx hb d_putNumber_14 ?_
    refine q_istore_n (pc := 15) (i := 3) (lo' := [some (.ref h), some (.int y1), some (.int y2), some (.int (y3 * 10)), some (.int y4)]) hx hb d_putNumber_15 rfl hl (Nat.le_of_ble_eq_true rfl) (lx_ci rfl) rfl (fun ls hl => ?_)
    refine q_iinc (pc := 16) (i := 4) (v := y4 + 1) (lo' := [some (.ref h), some (.int y1), some (.int y2), some (.int (y3 * 10)), some (.int (y4 + 1))]) hx hb d_putNumber_16 hl rfl rfl (Nat.le_of_ble_eq_true rfl) (lx_ci rfl) rfl (fun ls hl => ?_)
    refine lv_goto (pc := 19) (tgt := 5) hx hb d_putNumber_19 (by decide) ?_
    exact hK5 _ _ _ _ _ _ _ _ hl I hm
set_option maxRecDepth 100000 in
set_option maxHeartbeats 4000000 in
theorem w_putNumber_5i (B : BX p m c cb_putNumber 5 s args (.code y_putNumber cb_putNumber 5 none :: wsA) RREF meth none D vwCl (tyL dA) b0 Z) (hR : RR b0 h Z) (k : Nat) (y1 : Int32) (y2 : Int32) (y3 : Int32) (y4 : Int32) (S : rS) (ls : Array Slot) (H : Heap) (locs : List Loc) (hl : lx ls [some (.ref h), some (.int y1), some (.int y2), some (.int y3), some (.int y4)]) (I : AI D vwCl b0 (rH dA h S hp0) sz s.heap H locs)  (hm : m_putNumber_5 N  k y1 y2 y3 y4 S = some S') : W p l e { frames := 1, cells := 0, slots := 0, locals := 21 } s m args below meth c H locs 0 0 (MQ below (CQ D vwCl b0 none (rH dA h S' hp0) sz) args s 0 0 (fun q => b0 ≤ q)) (F0 m 5 ls []) := by
  induction k generalizing y1 y2 y3 y4 S ls H locs with
  | zero => cases hm
  | succ k ih => exact w_putNumber_5F  (fun y1 y2 y3 y4 S ls H locs hl I hm => ih y1 y2 y3 y4 S ls H locs hl I hm) B hR hl I hm
theorem w_putNumber_5 {y1 : Int32} {y2 : Int32} {y3 : Int32} {y4 : Int32} {S : rS} (B : BX p m c cb_putNumber 5 s args (.code y_putNumber cb_putNumber 5 none :: wsA) RREF meth none D vwCl (tyL dA) b0 Z) (hR : RR b0 h Z) (hl : lx ls [some (.ref h), some (.int y1), some (.int y2), some (.int y3), some (.int y4)]) (I : AI D vwCl b0 (rH dA h S hp0) sz s.heap H locs)  {k : Nat} (hm : m_putNumber_5 N  k y1 y2 y3 y4 S = some S') : W p l e { frames := 1, cells := 0, slots := 0, locals := 21 } s m args below meth c H locs 0 0 (MQ below (CQ D vwCl b0 none (rH dA h S' hp0) sz) args s 0 0 (fun q => b0 ≤ q)) (F0 m 5 ls []) := w_putNumber_5i  B hR k _ _ _ _ S ls H locs hl I hm
def m_putNumber (N : Nat) (p1 : Int32) (p2 : Int32) (S : rS) : Option rS :=
  m_putNumber_5 N  N p1 p2 1 1 S
set_option maxRecDepth 100000 in
set_option maxHeartbeats 4000000 in
theorem c_putNumber {p1 : Int32} {p2 : Int32} {S S' : rS} (hR : RR b0 h Z) (hm : m_putNumber N p1 p2 S = some S') : Ct l D vwCl (tyL dA) b0 Z y_putNumber (.code y_putNumber cb_putNumber 5 none :: wsA) 1 21 [.ref h, .int p1, .int p2] (rH dA h S hp0) sz none (rH dA h S' hp0) 0 0 := by
  refine ct_of (cc := cb_putNumber) (maxL := 5) (ret := none) (lo0 := [some (.ref h), some (.int p1), some (.int p2), none, none]) hR.2 (by decide) rfl (by simp [lg_sl, Value.category]) rfl (by simp [lx_all, lv_args, Value.category]) ?_
  intro p e s m args below meth c ls B hnm hl I
  obtain ⟨hx, hb, -⟩ := B.1
  unfold m_putNumber at hm
  refine lv_iconst (pc := 0) (v := 1) hx hb d_putNumber_0 (by decide) ?_
  refine q_istore_n (pc := 1) (i := 3) (lo' := [some (.ref h), some (.int p1), some (.int p2), some (.int 1), none]) hx hb d_putNumber_1 rfl hl (Nat.le_of_ble_eq_true rfl) (lx_ci rfl) rfl (fun ls hl => ?_)
  refine lv_iconst (pc := 2) (v := 1) hx hb d_putNumber_2 (by decide) ?_
  refine q_istore (pc := 3) (i := 4) (lo' := [some (.ref h), some (.int p1), some (.int p2), some (.int 1), some (.int 1)]) hx hb d_putNumber_3 hl (Nat.le_of_ble_eq_true rfl) (lx_ci rfl) rfl (fun ls hl => ?_)
  exact w_putNumber_5  B hR hl I hm
def m_putQuoted_84 (N : Nat) (K8 : Int32 → Int32 → Int32 → rS → Option rS) (y1 : Int32) (y2 : Int32) (y3 : Int32) (z1 : Int32) (S : rS) : Option rS :=
  b1 (m_put N z1 S) (fun S2 => K8 y1 y2 (y3 + 1) S2)
set_option maxRecDepth 100000 in
set_option maxHeartbeats 4000000 in
theorem w_putQuoted_84 {K8 : Int32 → Int32 → Int32 → rS → Option rS} {y1 : Int32} {y2 : Int32} {y3 : Int32} {z1 : Int32} {S : rS} (hK8 : ∀ (y1 : Int32) (y2 : Int32) (y3 : Int32) (S : rS) (ls : Array Slot) (H : Heap) (locs : List Loc), lx ls [some (.ref h), some (.int y1), some (.int y2), some (.int y3), none] → AI D vwCl b0 (rH dA h S hp0) sz s.heap H locs → K8 y1 y2 y3 S = some S' → W p l e { frames := 1, cells := 0, slots := 0, locals := 21 } s m args below meth c H locs 0 0 (MQ below (CQ D vwCl b0 none (rH dA h S' hp0) sz) args s 0 0 (fun q => b0 ≤ q)) (F0 m 8 ls [])) (B : BX p m c cb_putQuoted 5 s args (.code y_putQuoted cb_putQuoted 5 none :: wsA) RREF meth none D vwCl (tyL dA) b0 Z) (hR : RR b0 h Z) (hl : lx ls [some (.ref h), some (.int y1), some (.int y2), some (.int y3), none]) (I : AI D vwCl b0 (rH dA h S hp0) sz s.heap H locs)  (hm : m_putQuoted_84 N K8 y1 y2 y3 z1 S = some S') : W p l e { frames := 1, cells := 0, slots := 0, locals := 21 } s m args below meth c H locs 0 0 (MQ below (CQ D vwCl b0 none (rH dA h S' hp0) sz) args s 0 0 (fun q => b0 ≤ q)) (F0 m 84 ls [.int z1, .ref h]) := by
  obtain ⟨hx, hb, -⟩ := B.1
  unfold m_putQuoted_84 at hm
  refine ob1 hm (fun S2 e1 hm => ?_)
  refine r_call (pc := 84) (As := [.int z1]) (rest := []) B hl rfl I (c_put hR e1) kw_put rfl (by decide) (by decide) rfl (by simp [Value.category]) d_putQuoted_84 (fun H locs I => ?_)
  refine q_iinc (pc := 87) (i := 3) (v := y3 + 1) (lo' := [some (.ref h), some (.int y1), some (.int y2), some (.int (y3 + 1)), none]) hx hb d_putQuoted_87 hl rfl rfl (Nat.le_of_ble_eq_true rfl) (lx_ci rfl) rfl (fun ls hl => ?_)
  refine lv_goto (pc := 90) (tgt := 8) hx hb d_putQuoted_90 (by decide) ?_
  exact hK8 _ _ _ _ _ _ _ hl I hm
def m_putQuoted_57 (N : Nat) (K8 : Int32 → Int32 → Int32 → rS → Option rS) (y1 : Int32) (y2 : Int32) (y3 : Int32) (y4 : Int32) (S : rS) : Option rS :=
  if y4 = 10 then (m_putQuoted_84 N K8 y1 y2 y3 110 S) else (if y4 = 9 then (m_putQuoted_84 N K8 y1 y2 y3 116 S) else (m_putQuoted_84 N K8 y1 y2 y3 y4 S))
set_option maxRecDepth 100000 in
set_option maxHeartbeats 4000000 in
theorem w_putQuoted_57 {K8 : Int32 → Int32 → Int32 → rS → Option rS} {y1 : Int32} {y2 : Int32} {y3 : Int32} {y4 : Int32} {S : rS} (hK8 : ∀ (y1 : Int32) (y2 : Int32) (y3 : Int32) (S : rS) (ls : Array Slot) (H : Heap) (locs : List Loc), lx ls [some (.ref h), some (.int y1), some (.int y2), some (.int y3), none] → AI D vwCl b0 (rH dA h S hp0) sz s.heap H locs → K8 y1 y2 y3 S = some S' → W p l e { frames := 1, cells := 0, slots := 0, locals := 21 } s m args below meth c H locs 0 0 (MQ below (CQ D vwCl b0 none (rH dA h S' hp0) sz) args s 0 0 (fun q => b0 ≤ q)) (F0 m 8 ls [])) (B : BX p m c cb_putQuoted 5 s args (.code y_putQuoted cb_putQuoted 5 none :: wsA) RREF meth none D vwCl (tyL dA) b0 Z) (hR : RR b0 h Z) (hl : lx ls [some (.ref h), some (.int y1), some (.int y2), some (.int y3), some (.int y4)]) (I : AI D vwCl b0 (rH dA h S hp0) sz s.heap H locs)  (hm : m_putQuoted_57 N K8 y1 y2 y3 y4 S = some S') : W p l e { frames := 1, cells := 0, slots := 0, locals := 21 } s m args below meth c H locs 0 0 (MQ below (CQ D vwCl b0 none (rH dA h S' hp0) sz) args s 0 0 (fun q => b0 ≤ q)) (F0 m 57 ls []) := by
  obtain ⟨hx, hb, -⟩ := B.1
  unfold m_putQuoted_57 at hm
  refine lv_aload_n (pc := 57) (i := 0) hx hb d_putQuoted_57 rfl (lx_get hl rfl) ?_
  refine lv_iload (pc := 58) (i := 4) hx hb d_putQuoted_58 (lx_get hl rfl) ?_
  refine lv_bipush (pc := 60) (v := 10) hx hb d_putQuoted_60 (by decide) ?_
  refine lv_icmp_ne (pc := 62) (tgt := 70) hx hb d_putQuoted_62 (by decide) (fun hc => ?_) (fun hc => ?_)
  · have hm := iff' hc hm
    refine lv_iload (pc := 70) (i := 4) hx hb d_putQuoted_70 (lx_get hl rfl) ?_
    refine lv_bipush (pc := 72) (v := 9) hx hb d_putQuoted_72 (by decide) ?_
    refine lv_icmp_ne (pc := 74) (tgt := 82) hx hb d_putQuoted_74 (by decide) (fun hc => ?_) (fun hc => ?_)
    · have hm := iff' hc hm
      refine lv_iload (pc := 82) (i := 4) hx hb d_putQuoted_82 (lx_get hl rfl) ?_
      exact w_putQuoted_84 hK8 B hR (lx_sub (lo' := [some (.ref h), some (.int y1), some (.int y2), some (.int y3), none]) hl (by simp [lx_le])) I hm
    · have hm := ift hc hm
      refine lv_bipush (pc := 77) (v := 116) hx hb d_putQuoted_77 (by decide) ?_
      refine lv_goto (pc := 79) (tgt := 84) hx hb d_putQuoted_79 (by decide) ?_
      exact w_putQuoted_84 hK8 B hR (lx_sub (lo' := [some (.ref h), some (.int y1), some (.int y2), some (.int y3), none]) hl (by simp [lx_le])) I hm
  · have hm := ift hc hm
    refine lv_bipush (pc := 65) (v := 110) hx hb d_putQuoted_65 (by decide) ?_
    refine lv_goto (pc := 67) (tgt := 84) hx hb d_putQuoted_67 (by decide) ?_
    exact w_putQuoted_84 hK8 B hR (lx_sub (lo' := [some (.ref h), some (.int y1), some (.int y2), some (.int y3), none]) hl (by simp [lx_le])) I hm
def m_putQuoted_51 (N : Nat) (K8 : Int32 → Int32 → Int32 → rS → Option rS) (y1 : Int32) (y2 : Int32) (y3 : Int32) (y4 : Int32) (S : rS) : Option rS :=
  b1 (m_put N 92 S) (fun S2 => m_putQuoted_57 N K8 y1 y2 y3 y4 S2)
set_option maxRecDepth 100000 in
set_option maxHeartbeats 4000000 in
theorem w_putQuoted_51 {K8 : Int32 → Int32 → Int32 → rS → Option rS} {y1 : Int32} {y2 : Int32} {y3 : Int32} {y4 : Int32} {S : rS} (hK8 : ∀ (y1 : Int32) (y2 : Int32) (y3 : Int32) (S : rS) (ls : Array Slot) (H : Heap) (locs : List Loc), lx ls [some (.ref h), some (.int y1), some (.int y2), some (.int y3), none] → AI D vwCl b0 (rH dA h S hp0) sz s.heap H locs → K8 y1 y2 y3 S = some S' → W p l e { frames := 1, cells := 0, slots := 0, locals := 21 } s m args below meth c H locs 0 0 (MQ below (CQ D vwCl b0 none (rH dA h S' hp0) sz) args s 0 0 (fun q => b0 ≤ q)) (F0 m 8 ls [])) (B : BX p m c cb_putQuoted 5 s args (.code y_putQuoted cb_putQuoted 5 none :: wsA) RREF meth none D vwCl (tyL dA) b0 Z) (hR : RR b0 h Z) (hl : lx ls [some (.ref h), some (.int y1), some (.int y2), some (.int y3), some (.int y4)]) (I : AI D vwCl b0 (rH dA h S hp0) sz s.heap H locs)  (hm : m_putQuoted_51 N K8 y1 y2 y3 y4 S = some S') : W p l e { frames := 1, cells := 0, slots := 0, locals := 21 } s m args below meth c H locs 0 0 (MQ below (CQ D vwCl b0 none (rH dA h S' hp0) sz) args s 0 0 (fun q => b0 ≤ q)) (F0 m 51 ls []) := by
  obtain ⟨hx, hb, -⟩ := B.1
  unfold m_putQuoted_51 at hm
  refine lv_aload_n (pc := 51) (i := 0) hx hb d_putQuoted_51 rfl (lx_get hl rfl) ?_
  refine lv_bipush (pc := 52) (v := 92) hx hb d_putQuoted_52 (by decide) ?_
  refine ob1 hm (fun S2 e1 hm => ?_)
  refine r_call (pc := 54) (As := [.int 92]) (rest := []) B hl rfl I (c_put hR e1) kw_put rfl (by decide) (by decide) rfl (by simp [Value.category]) d_putQuoted_54 (fun H locs I => ?_)
  exact w_putQuoted_57 hK8 B hR hl I hm
def m_putQuoted_8F (N : Nat) (K8 : Int32 → Int32 → Int32 → rS → Option rS) (y1 : Int32) (y2 : Int32) (y3 : Int32) (S : rS) : Option rS :=
  if y2 ≤ y3 then (b1 (m_put N 34 S) (fun S2 => some S2)) else (b1 (rL S 13 (y1 + y3)) (fun x3 => if x3 = 34 then (m_putQuoted_51 N K8 y1 y2 y3 x3 S) else (if x3 = 92 then (m_putQuoted_51 N K8 y1 y2 y3 x3 S) else (if x3 = 10 then (m_putQuoted_51 N K8 y1 y2 y3 x3 S) else (if x3 = 9 then (m_putQuoted_51 N K8 y1 y2 y3 x3 S) else (m_putQuoted_57 N K8 y1 y2 y3 x3 S))))))
def m_putQuoted_8 (N : Nat) : Nat → Int32 → Int32 → Int32 → rS → Option rS
  | 0, _, _, _, _ => none
  | k + 1, y1, y2, y3, S => m_putQuoted_8F N  (m_putQuoted_8 N  k) y1 y2 y3 S
set_option maxRecDepth 100000 in
set_option maxHeartbeats 4000000 in
theorem w_putQuoted_8F {K8 : Int32 → Int32 → Int32 → rS → Option rS} {y1 : Int32} {y2 : Int32} {y3 : Int32} {S : rS} (hK8 : ∀ (y1 : Int32) (y2 : Int32) (y3 : Int32) (S : rS) (ls : Array Slot) (H : Heap) (locs : List Loc), lx ls [some (.ref h), some (.int y1), some (.int y2), some (.int y3), none] → AI D vwCl b0 (rH dA h S hp0) sz s.heap H locs → K8 y1 y2 y3 S = some S' → W p l e { frames := 1, cells := 0, slots := 0, locals := 21 } s m args below meth c H locs 0 0 (MQ below (CQ D vwCl b0 none (rH dA h S' hp0) sz) args s 0 0 (fun q => b0 ≤ q)) (F0 m 8 ls [])) (B : BX p m c cb_putQuoted 5 s args (.code y_putQuoted cb_putQuoted 5 none :: wsA) RREF meth none D vwCl (tyL dA) b0 Z) (hR : RR b0 h Z) (hl : lx ls [some (.ref h), some (.int y1), some (.int y2), some (.int y3), none]) (I : AI D vwCl b0 (rH dA h S hp0) sz s.heap H locs)  (hm : m_putQuoted_8F N  K8 y1 y2 y3 S = some S') : W p l e { frames := 1, cells := 0, slots := 0, locals := 21 } s m args below meth c H locs 0 0 (MQ below (CQ D vwCl b0 none (rH dA h S' hp0) sz) args s 0 0 (fun q => b0 ≤ q)) (F0 m 8 ls []) := by
  obtain ⟨hx, hb, -⟩ := B.1
  unfold m_putQuoted_8F at hm
  refine lv_iload_n (pc := 8) (i := 3) hx hb d_putQuoted_8 rfl (lx_get hl rfl) ?_
  refine lv_iload_n (pc := 9) (i := 2) hx hb d_putQuoted_9 rfl (lx_get hl rfl) ?_
  refine lv_icmp_ge (pc := 10) (tgt := 93) hx hb d_putQuoted_10 (by decide) (fun hc => ?_) (fun hc => ?_)
  · have hm := ift hc hm
    refine lv_aload_n (pc := 93) (i := 0) hx hb d_putQuoted_93 rfl (lx_get hl rfl) ?_
    refine lv_bipush (pc := 94) (v := 34) hx hb d_putQuoted_94 (by decide) ?_
    refine ob1 hm (fun S2 e1 hm => ?_)
    refine r_call (pc := 96) (As := [.int 34]) (rest := []) B hl rfl I (c_put hR e1) kw_put rfl (by decide) (by decide) rfl (by simp [Value.category]) d_putQuoted_96 (fun H locs I => ?_)
    cases hm
    exact q_vret (pc := 99) B I rfl d_putQuoted_99
  · have hm := iff' hc hm
    refine lv_aload_n (pc := 13) (i := 0) hx hb d_putQuoted_13 rfl (lx_get hl rfl) ?_
    refine r_get (pc := 14) (k := 17) (index := 46) B I (by decide) mF_46 rfl rfl d_putQuoted_14 ?_
    refine lv_iload_n (pc := 17) (i := 1) hx hb d_putQuoted_17 rfl (lx_get hl rfl) ?_
    refine lv_iload_n (pc := 18) (i := 3) hx hb d_putQuoted_18 rfl (lx_get hl rfl) ?_
    refine lv_iadd (pc := 19) hx hb d_putQuoted_19 ?_
    refine ob1 hm (fun x3 e4 hm => ?_)
    refine r_ald (pc := 20) (j := 13) B I (by decide) (by decide) e4 d_putQuoted_20 ?_
    refine q_istore (pc := 21) (i := 4) (lo' := [some (.ref h), some (.int y1), some (.int y2), some (.int y3), some (.int x3)]) hx hb d_putQuoted_21 hl (Nat.le_of_ble_eq_true rfl) (lx_ci rfl) rfl (fun ls hl => ?_)
    refine lv_iload (pc := 23) (i := 4) hx hb d_putQuoted_23 (lx_get hl rfl) ?_
    refine lv_bipush (pc := 25) (v := 34) hx hb d_putQuoted_25 (by decide) ?_
    refine lv_icmp_eq (pc := 27) (tgt := 51) hx hb d_putQuoted_27 (by decide) (fun hc => ?_) (fun hc => ?_)
    · have hm := ift hc hm
      exact w_putQuoted_51 hK8 B hR hl I hm
    · have hm := iff' hc hm
      refine lv_iload (pc := 30) (i := 4) hx hb d_putQuoted_30 (lx_get hl rfl) ?_
      refine lv_bipush (pc := 32) (v := 92) hx hb d_putQuoted_32 (by decide) ?_
      refine lv_icmp_eq (pc := 34) (tgt := 51) hx hb d_putQuoted_34 (by decide) (fun hc => ?_) (fun hc => ?_)
      · have hm := ift hc hm
        exact w_putQuoted_51 hK8 B hR hl I hm
      · have hm := iff' hc hm
        refine lv_iload (pc := 37) (i := 4) hx hb d_putQuoted_37 (lx_get hl rfl) ?_
        refine lv_bipush (pc := 39) (v := 10) hx hb d_putQuoted_39 (by decide) ?_
        refine lv_icmp_eq (pc := 41) (tgt := 51) hx hb d_putQuoted_41 (by decide) (fun hc => ?_) (fun hc => ?_)
        · have hm := ift hc hm
          exact w_putQuoted_51 hK8 B hR hl I hm
        · have hm := iff' hc hm
          refine lv_iload (pc := 44) (i := 4) hx hb d_putQuoted_44 (lx_get hl rfl) ?_
          refine lv_bipush (pc := 46) (v := 9) hx hb d_putQuoted_46 (by decide) ?_
          refine lv_icmp_ne (pc := 48) (tgt := 57) hx hb d_putQuoted_48 (by decide) (fun hc => ?_) (fun hc => ?_)
          · have hm := iff' hc hm
            exact w_putQuoted_57 hK8 B hR hl I hm
          · have hm := ift hc hm
            exact w_putQuoted_51 hK8 B hR hl I hm
set_option maxRecDepth 100000 in
set_option maxHeartbeats 4000000 in
theorem w_putQuoted_8i (B : BX p m c cb_putQuoted 5 s args (.code y_putQuoted cb_putQuoted 5 none :: wsA) RREF meth none D vwCl (tyL dA) b0 Z) (hR : RR b0 h Z) (k : Nat) (y1 : Int32) (y2 : Int32) (y3 : Int32) (S : rS) (ls : Array Slot) (H : Heap) (locs : List Loc) (hl : lx ls [some (.ref h), some (.int y1), some (.int y2), some (.int y3), none]) (I : AI D vwCl b0 (rH dA h S hp0) sz s.heap H locs)  (hm : m_putQuoted_8 N  k y1 y2 y3 S = some S') : W p l e { frames := 1, cells := 0, slots := 0, locals := 21 } s m args below meth c H locs 0 0 (MQ below (CQ D vwCl b0 none (rH dA h S' hp0) sz) args s 0 0 (fun q => b0 ≤ q)) (F0 m 8 ls []) := by
  induction k generalizing y1 y2 y3 S ls H locs with
  | zero => cases hm
  | succ k ih => exact w_putQuoted_8F  (fun y1 y2 y3 S ls H locs hl I hm => ih y1 y2 y3 S ls H locs hl I hm) B hR hl I hm
theorem w_putQuoted_8 {y1 : Int32} {y2 : Int32} {y3 : Int32} {S : rS} (B : BX p m c cb_putQuoted 5 s args (.code y_putQuoted cb_putQuoted 5 none :: wsA) RREF meth none D vwCl (tyL dA) b0 Z) (hR : RR b0 h Z) (hl : lx ls [some (.ref h), some (.int y1), some (.int y2), some (.int y3), none]) (I : AI D vwCl b0 (rH dA h S hp0) sz s.heap H locs)  {k : Nat} (hm : m_putQuoted_8 N  k y1 y2 y3 S = some S') : W p l e { frames := 1, cells := 0, slots := 0, locals := 21 } s m args below meth c H locs 0 0 (MQ below (CQ D vwCl b0 none (rH dA h S' hp0) sz) args s 0 0 (fun q => b0 ≤ q)) (F0 m 8 ls []) := w_putQuoted_8i  B hR k _ _ _ S ls H locs hl I hm
def m_putQuoted (N : Nat) (p1 : Int32) (p2 : Int32) (S : rS) : Option rS :=
  b1 (m_put N 34 S) (fun S2 => m_putQuoted_8 N  N p1 p2 0 S2)
set_option maxRecDepth 100000 in
set_option maxHeartbeats 4000000 in
theorem c_putQuoted {p1 : Int32} {p2 : Int32} {S S' : rS} (hR : RR b0 h Z) (hm : m_putQuoted N p1 p2 S = some S') : Ct l D vwCl (tyL dA) b0 Z y_putQuoted (.code y_putQuoted cb_putQuoted 5 none :: wsA) 1 21 [.ref h, .int p1, .int p2] (rH dA h S hp0) sz none (rH dA h S' hp0) 0 0 := by
  refine ct_of (cc := cb_putQuoted) (maxL := 5) (ret := none) (lo0 := [some (.ref h), some (.int p1), some (.int p2), none, none]) hR.2 (by decide) rfl (by simp [lg_sl, Value.category]) rfl (by simp [lx_all, lv_args, Value.category]) ?_
  intro p e s m args below meth c ls B hnm hl I
  obtain ⟨hx, hb, -⟩ := B.1
  unfold m_putQuoted at hm
  refine lv_aload_n (pc := 0) (i := 0) hx hb d_putQuoted_0 rfl (lx_get hl rfl) ?_
  refine lv_bipush (pc := 1) (v := 34) hx hb d_putQuoted_1 (by decide) ?_
  refine ob1 hm (fun S2 e1 hm => ?_)
  refine r_call (pc := 3) (As := [.int 34]) (rest := []) B hl rfl I (c_put hR e1) kw_put rfl (by decide) (by decide) rfl (by simp [Value.category]) d_putQuoted_3 (fun H locs I => ?_)
  refine lv_iconst (pc := 6) (v := 0) hx hb d_putQuoted_6 (by decide) ?_
  refine q_istore_n (pc := 7) (i := 3) (lo' := [some (.ref h), some (.int p1), some (.int p2), some (.int 0), none]) hx hb d_putQuoted_7 rfl hl (Nat.le_of_ble_eq_true rfl) (lx_ci rfl) rfl (fun ls hl => ?_)
  exact w_putQuoted_8  B hR hl I hm
def m_putKey_56 (N : Nat) (K17 : Int32 → Int32 → Int32 → rS → Option rS) (y1 : Int32) (y3 : Int32) (z0 : Int32) (S : rS) : Option rS :=
  K17 y1 z0 (y3 + 1) S
set_option maxRecDepth 100000 in
set_option maxHeartbeats 4000000 in
theorem w_putKey_56 {K17 : Int32 → Int32 → Int32 → rS → Option rS} {y1 : Int32} {y3 : Int32} {z0 : Int32} {S : rS} (hK17 : ∀ (y1 : Int32) (y2 : Int32) (y3 : Int32) (S : rS) (ls : Array Slot) (H : Heap) (locs : List Loc), lx ls [some (.ref h), some (.int y1), some (.int y2), some (.int y3)] → AI D vwCl b0 (rH dA h S hp0) sz s.heap H locs → K17 y1 y2 y3 S = some S' → W p l e { frames := 2, cells := 0, slots := 0, locals := 45 } s m args below meth c H locs 0 0 (MQ below (CQ D vwCl b0 none (rH dA h S' hp0) sz) args s 0 0 (fun q => b0 ≤ q)) (F0 m 17 ls [])) (B : BX p m c cb_putKey 4 s args (.code y_putKey cb_putKey 4 none :: wsA) RREF meth none D vwCl (tyL dA) b0 Z) (hR : RR b0 h Z) (hl : lx ls [some (.ref h), some (.int y1), none, some (.int y3)]) (I : AI D vwCl b0 (rH dA h S hp0) sz s.heap H locs)  (hm : m_putKey_56 N K17 y1 y3 z0 S = some S') : W p l e { frames := 2, cells := 0, slots := 0, locals := 45 } s m args below meth c H locs 0 0 (MQ below (CQ D vwCl b0 none (rH dA h S' hp0) sz) args s 0 0 (fun q => b0 ≤ q)) (F0 m 56 ls [.int z0]) := by
  obtain ⟨hx, hb, -⟩ := B.1
  unfold m_putKey_56 at hm
  refine q_istore_n (pc := 56) (i := 2) (lo' := [some (.ref h), some (.int y1), some (.int z0), some (.int y3)]) hx hb d_putKey_56 rfl hl (Nat.le_of_ble_eq_true rfl) (lx_ci rfl) rfl (fun ls hl => ?_)
  refine q_iinc (pc := 57) (i := 3) (v := y3 + 1) (lo' := [some (.ref h), some (.int y1), some (.int z0), some (.int (y3 + 1))]) hx hb d_putKey_57 hl rfl rfl (Nat.le_of_ble_eq_true rfl) (lx_ci rfl) rfl (fun ls hl => ?_)
  refine lv_goto (pc := 60) (tgt := 17) hx hb d_putKey_60 (by decide) ?_
  exact hK17 _ _ _ _ _ _ _ hl I hm
def m_putKey_55 (N : Nat) (K17 : Int32 → Int32 → Int32 → rS → Option rS) (y1 : Int32) (y3 : Int32) (S : rS) : Option rS :=
  m_putKey_56 N K17 y1 y3 0 S
set_option maxRecDepth 100000 in
set_option maxHeartbeats 4000000 in
theorem w_putKey_55 {K17 : Int32 → Int32 → Int32 → rS → Option rS} {y1 : Int32} {y3 : Int32} {S : rS} (hK17 : ∀ (y1 : Int32) (y2 : Int32) (y3 : Int32) (S : rS) (ls : Array Slot) (H : Heap) (locs : List Loc), lx ls [some (.ref h), some (.int y1), some (.int y2), some (.int y3)] → AI D vwCl b0 (rH dA h S hp0) sz s.heap H locs → K17 y1 y2 y3 S = some S' → W p l e { frames := 2, cells := 0, slots := 0, locals := 45 } s m args below meth c H locs 0 0 (MQ below (CQ D vwCl b0 none (rH dA h S' hp0) sz) args s 0 0 (fun q => b0 ≤ q)) (F0 m 17 ls [])) (B : BX p m c cb_putKey 4 s args (.code y_putKey cb_putKey 4 none :: wsA) RREF meth none D vwCl (tyL dA) b0 Z) (hR : RR b0 h Z) (hl : lx ls [some (.ref h), some (.int y1), none, some (.int y3)]) (I : AI D vwCl b0 (rH dA h S hp0) sz s.heap H locs)  (hm : m_putKey_55 N K17 y1 y3 S = some S') : W p l e { frames := 2, cells := 0, slots := 0, locals := 45 } s m args below meth c H locs 0 0 (MQ below (CQ D vwCl b0 none (rH dA h S' hp0) sz) args s 0 0 (fun q => b0 ≤ q)) (F0 m 55 ls []) := by
  obtain ⟨hx, hb, -⟩ := B.1
  unfold m_putKey_55 at hm
  refine lv_iconst (pc := 55) (v := 0) hx hb d_putKey_55 (by decide) ?_
  exact w_putKey_56 hK17 B hR hl I hm
def m_putKey_122 (N : Nat) (S : rS) : Option rS :=
  b1 (m_put N 32 S) (fun S2 => b1 (m_put N 61 S2) (fun S4 => b1 (m_put N 32 S4) (fun S6 => some S6)))
set_option maxRecDepth 100000 in
set_option maxHeartbeats 4000000 in
theorem w_putKey_122 {S : rS} (B : BX p m c cb_putKey 4 s args (.code y_putKey cb_putKey 4 none :: wsA) RREF meth none D vwCl (tyL dA) b0 Z) (hR : RR b0 h Z) (hl : lx ls [some (.ref h), none, none, none]) (I : AI D vwCl b0 (rH dA h S hp0) sz s.heap H locs)  (hm : m_putKey_122 N   S = some S') : W p l e { frames := 2, cells := 0, slots := 0, locals := 45 } s m args below meth c H locs 0 0 (MQ below (CQ D vwCl b0 none (rH dA h S' hp0) sz) args s 0 0 (fun q => b0 ≤ q)) (F0 m 122 ls []) := by
  obtain ⟨hx, hb, -⟩ := B.1
  unfold m_putKey_122 at hm
  refine lv_aload_n (pc := 122) (i := 0) hx hb d_putKey_122 rfl (lx_get hl rfl) ?_
  refine lv_bipush (pc := 123) (v := 32) hx hb d_putKey_123 (by decide) ?_
  refine ob1 hm (fun S2 e1 hm => ?_)
  refine r_call (pc := 125) (As := [.int 32]) (rest := []) B hl rfl I (c_put hR e1) kw_put rfl (by decide) (by decide) rfl (by simp [Value.category]) d_putKey_125 (fun H locs I => ?_)
  refine lv_aload_n (pc := 128) (i := 0) hx hb d_putKey_128 rfl (lx_get hl rfl) ?_
  refine lv_bipush (pc := 129) (v := 61) hx hb d_putKey_129 (by decide) ?_
  refine ob1 hm (fun S4 e3 hm => ?_)
  refine r_call (pc := 131) (As := [.int 61]) (rest := []) B hl rfl I (c_put hR e3) kw_put rfl (by decide) (by decide) rfl (by simp [Value.category]) d_putKey_131 (fun H locs I => ?_)
  refine lv_aload_n (pc := 134) (i := 0) hx hb d_putKey_134 rfl (lx_get hl rfl) ?_
  refine lv_bipush (pc := 135) (v := 32) hx hb d_putKey_135 (by decide) ?_
  refine ob1 hm (fun S6 e5 hm => ?_)
  refine r_call (pc := 137) (As := [.int 32]) (rest := []) B hl rfl I (c_put hR e5) kw_put rfl (by decide) (by decide) rfl (by simp [Value.category]) d_putKey_137 (fun H locs I => ?_)
  cases hm
  exact q_vret (pc := 140) B I rfl d_putKey_140
def m_putKey_85F (N : Nat) (K85 : Int32 → Int32 → Int32 → rS → Option rS) (y1 : Int32) (y2 : Int32) (y3 : Int32) (S : rS) : Option rS :=
  b1 (rL S 11 y1) (fun x1 => if x1 ≤ y3 then (m_putKey_122 N  S) else (if y2 = 0 then (m_putKey_122 N  S) else (b1 (rL S 10 y1) (fun x3 => b1 (rL S 13 (x3 + y3)) (fun x5 => b1 (m_put N x5 S) (fun S8 => K85 y1 y2 (y3 + 1) S8))))))
def m_putKey_85 (N : Nat) : Nat → Int32 → Int32 → Int32 → rS → Option rS
  | 0, _, _, _, _ => none
  | k + 1, y1, y2, y3, S => m_putKey_85F N  (m_putKey_85 N  k) y1 y2 y3 S
set_option maxRecDepth 100000 in
set_option maxHeartbeats 4000000 in
theorem w_putKey_85F {K85 : Int32 → Int32 → Int32 → rS → Option rS} {y1 : Int32} {y2 : Int32} {y3 : Int32} {S : rS} (hK85 : ∀ (y1 : Int32) (y2 : Int32) (y3 : Int32) (S : rS) (ls : Array Slot) (H : Heap) (locs : List Loc), lx ls [some (.ref h), some (.int y1), some (.int y2), some (.int y3)] → AI D vwCl b0 (rH dA h S hp0) sz s.heap H locs → K85 y1 y2 y3 S = some S' → W p l e { frames := 2, cells := 0, slots := 0, locals := 45 } s m args below meth c H locs 0 0 (MQ below (CQ D vwCl b0 none (rH dA h S' hp0) sz) args s 0 0 (fun q => b0 ≤ q)) (F0 m 85 ls [])) (B : BX p m c cb_putKey 4 s args (.code y_putKey cb_putKey 4 none :: wsA) RREF meth none D vwCl (tyL dA) b0 Z) (hR : RR b0 h Z) (hl : lx ls [some (.ref h), some (.int y1), some (.int y2), some (.int y3)]) (I : AI D vwCl b0 (rH dA h S hp0) sz s.heap H locs)  (hm : m_putKey_85F N  K85 y1 y2 y3 S = some S') : W p l e { frames := 2, cells := 0, slots := 0, locals := 45 } s m args below meth c H locs 0 0 (MQ below (CQ D vwCl b0 none (rH dA h S' hp0) sz) args s 0 0 (fun q => b0 ≤ q)) (F0 m 85 ls []) := by
  obtain ⟨hx, hb, -⟩ := B.1
  unfold m_putKey_85F at hm
  refine lv_iload_n (pc := 85) (i := 3) hx hb d_putKey_85 rfl (lx_get hl rfl) ?_
  refine lv_aload_n (pc := 86) (i := 0) hx hb d_putKey_86 rfl (lx_get hl rfl) ?_
  refine r_get (pc := 87) (k := 15) (index := 40) B I (by decide) mF_40 rfl rfl d_putKey_87 ?_
  refine lv_iload_n (pc := 90) (i := 1) hx hb d_putKey_90 rfl (lx_get hl rfl) ?_
  refine ob1 hm (fun x1 e2 hm => ?_)
  refine r_ald (pc := 91) (j := 11) B I (by decide) (by decide) e2 d_putKey_91 ?_
  refine lv_icmp_ge (pc := 92) (tgt := 122) hx hb d_putKey_92 (by decide) (fun hc => ?_) (fun hc => ?_)
  · have hm := ift hc hm
    exact w_putKey_122  B hR (lx_sub (lo' := [some (.ref h), none, none, none]) hl (by simp [lx_le])) I hm
  · have hm := iff' hc hm
    refine lv_iload_n (pc := 95) (i := 2) hx hb d_putKey_95 rfl (lx_get hl rfl) ?_
    refine lv_if_eq (pc := 96) (tgt := 122) hx hb d_putKey_96 (by decide) (fun hc => ?_) (fun hc => ?_)
    · have hm := ift hc hm
      exact w_putKey_122  B hR (lx_sub (lo' := [some (.ref h), none, none, none]) hl (by simp [lx_le])) I hm
    · have hm := iff' hc hm
      refine lv_aload_n (pc := 99) (i := 0) hx hb d_putKey_99 rfl (lx_get hl rfl) ?_
      refine lv_aload_n (pc := 100) (i := 0) hx hb d_putKey_100 rfl (lx_get hl rfl) ?_
      refine r_get (pc := 101) (k := 17) (index := 46) B I (by decide) mF_46 rfl rfl d_putKey_101 ?_
      refine lv_aload_n (pc := 104) (i := 0) hx hb d_putKey_104 rfl (lx_get hl rfl) ?_
      refine r_get (pc := 105) (k := 14) (index := 37) B I (by decide) mF_37 rfl rfl d_putKey_105 ?_
      refine lv_iload_n (pc := 108) (i := 1) hx hb d_putKey_108 rfl (lx_get hl rfl) ?_
      refine ob1 hm (fun x3 e4 hm => ?_)
      refine r_ald (pc := 109) (j := 10) B I (by decide) (by decide) e4 d_putKey_109 ?_
      refine lv_iload_n (pc := 110) (i := 3) hx hb d_putKey_110 rfl (lx_get hl rfl) ?_
      refine lv_iadd (pc := 111) hx hb d_putKey_111 ?_
      refine ob1 hm (fun x5 e6 hm => ?_)
      refine r_ald (pc := 112) (j := 13) B I (by decide) (by decide) e6 d_putKey_112 ?_
      refine ob1 hm (fun S8 e7 hm => ?_)
      refine r_call (pc := 113) (As := [.int x5]) (rest := []) B hl rfl I (c_put hR e7) kw_put rfl (by decide) (by decide) rfl (by simp [Value.category]) d_putKey_113 (fun H locs I => ?_)
      refine q_iinc (pc := 116) (i := 3) (v := y3 + 1) (lo' := [some (.ref h), some (.int y1), some (.int y2), some (.int (y3 + 1))]) hx hb d_putKey_116 hl rfl rfl (Nat.le_of_ble_eq_true rfl) (lx_ci rfl) rfl (fun ls hl => ?_)
      refine lv_goto (pc := 119) (tgt := 85) hx hb d_putKey_119 (by decide) ?_
      exact hK85 _ _ _ _ _ _ _ hl I hm
set_option maxRecDepth 100000 in
set_option maxHeartbeats 4000000 in
theorem w_putKey_85i (B : BX p m c cb_putKey 4 s args (.code y_putKey cb_putKey 4 none :: wsA) RREF meth none D vwCl (tyL dA) b0 Z) (hR : RR b0 h Z) (k : Nat) (y1 : Int32) (y2 : Int32) (y3 : Int32) (S : rS) (ls : Array Slot) (H : Heap) (locs : List Loc) (hl : lx ls [some (.ref h), some (.int y1), some (.int y2), some (.int y3)]) (I : AI D vwCl b0 (rH dA h S hp0) sz s.heap H locs)  (hm : m_putKey_85 N  k y1 y2 y3 S = some S') : W p l e { frames := 2, cells := 0, slots := 0, locals := 45 } s m args below meth c H locs 0 0 (MQ below (CQ D vwCl b0 none (rH dA h S' hp0) sz) args s 0 0 (fun q => b0 ≤ q)) (F0 m 85 ls []) := by
  induction k generalizing y1 y2 y3 S ls H locs with
  | zero => cases hm
  | succ k ih => exact w_putKey_85F  (fun y1 y2 y3 S ls H locs hl I hm => ih y1 y2 y3 S ls H locs hl I hm) B hR hl I hm
theorem w_putKey_85 {y1 : Int32} {y2 : Int32} {y3 : Int32} {S : rS} (B : BX p m c cb_putKey 4 s args (.code y_putKey cb_putKey 4 none :: wsA) RREF meth none D vwCl (tyL dA) b0 Z) (hR : RR b0 h Z) (hl : lx ls [some (.ref h), some (.int y1), some (.int y2), some (.int y3)]) (I : AI D vwCl b0 (rH dA h S hp0) sz s.heap H locs)  {k : Nat} (hm : m_putKey_85 N  k y1 y2 y3 S = some S') : W p l e { frames := 2, cells := 0, slots := 0, locals := 45 } s m args below meth c H locs 0 0 (MQ below (CQ D vwCl b0 none (rH dA h S' hp0) sz) args s 0 0 (fun q => b0 ≤ q)) (F0 m 85 ls []) := w_putKey_85i  B hR k _ _ _ S ls H locs hl I hm
def m_putKey_83 (N : Nat) (y1 : Int32) (y2 : Int32) (S : rS) : Option rS :=
  m_putKey_85 N  N y1 y2 0 S
set_option maxRecDepth 100000 in
set_option maxHeartbeats 4000000 in
theorem w_putKey_83 {y1 : Int32} {y2 : Int32} {S : rS} (B : BX p m c cb_putKey 4 s args (.code y_putKey cb_putKey 4 none :: wsA) RREF meth none D vwCl (tyL dA) b0 Z) (hR : RR b0 h Z) (hl : lx ls [some (.ref h), some (.int y1), some (.int y2), none]) (I : AI D vwCl b0 (rH dA h S hp0) sz s.heap H locs)  (hm : m_putKey_83 N  y1 y2 S = some S') : W p l e { frames := 2, cells := 0, slots := 0, locals := 45 } s m args below meth c H locs 0 0 (MQ below (CQ D vwCl b0 none (rH dA h S' hp0) sz) args s 0 0 (fun q => b0 ≤ q)) (F0 m 83 ls []) := by
  obtain ⟨hx, hb, -⟩ := B.1
  unfold m_putKey_83 at hm
  refine lv_iconst (pc := 83) (v := 0) hx hb d_putKey_83 (by decide) ?_
  refine q_istore_n (pc := 84) (i := 3) (lo' := [some (.ref h), some (.int y1), some (.int y2), some (.int 0)]) hx hb d_putKey_84 rfl hl (Nat.le_of_ble_eq_true rfl) (lx_ci rfl) rfl (fun ls hl => ?_)
  exact w_putKey_85  B hR hl I hm
def m_putKey_17F (N : Nat) (K17 : Int32 → Int32 → Int32 → rS → Option rS) (y1 : Int32) (y2 : Int32) (y3 : Int32) (S : rS) : Option rS :=
  b1 (rL S 11 y1) (fun x1 => if x1 ≤ y3 then (if y2 = 0 then (b1 (rL S 10 y1) (fun x3 => b1 (rL S 11 y1) (fun x5 => b1 (m_putQuoted N x3 x5 S) (fun S8 => m_putKey_83 N  y1 y2 S8)))) else (m_putKey_83 N  y1 y2 S)) else (if y2 = 0 then (m_putKey_55 N K17 y1 y3 S) else (b1 (rL S 10 y1) (fun x9 => b1 (rL S 13 (x9 + y3)) (fun x11 => b1 (m_isBare N x11 S) (fun x14 => if x14 = 0 then (m_putKey_55 N K17 y1 y3 S) else (m_putKey_56 N K17 y1 y3 1 S)))))))
def m_putKey_17 (N : Nat) : Nat → Int32 → Int32 → Int32 → rS → Option rS
  | 0, _, _, _, _ => none
  | k + 1, y1, y2, y3, S => m_putKey_17F N  (m_putKey_17 N  k) y1 y2 y3 S
set_option maxRecDepth 100000 in
set_option maxHeartbeats 4000000 in
theorem w_putKey_17F {K17 : Int32 → Int32 → Int32 → rS → Option rS} {y1 : Int32} {y2 : Int32} {y3 : Int32} {S : rS} (hK17 : ∀ (y1 : Int32) (y2 : Int32) (y3 : Int32) (S : rS) (ls : Array Slot) (H : Heap) (locs : List Loc), lx ls [some (.ref h), some (.int y1), some (.int y2), some (.int y3)] → AI D vwCl b0 (rH dA h S hp0) sz s.heap H locs → K17 y1 y2 y3 S = some S' → W p l e { frames := 2, cells := 0, slots := 0, locals := 45 } s m args below meth c H locs 0 0 (MQ below (CQ D vwCl b0 none (rH dA h S' hp0) sz) args s 0 0 (fun q => b0 ≤ q)) (F0 m 17 ls [])) (B : BX p m c cb_putKey 4 s args (.code y_putKey cb_putKey 4 none :: wsA) RREF meth none D vwCl (tyL dA) b0 Z) (hR : RR b0 h Z) (hl : lx ls [some (.ref h), some (.int y1), some (.int y2), some (.int y3)]) (I : AI D vwCl b0 (rH dA h S hp0) sz s.heap H locs)  (hm : m_putKey_17F N  K17 y1 y2 y3 S = some S') : W p l e { frames := 2, cells := 0, slots := 0, locals := 45 } s m args below meth c H locs 0 0 (MQ below (CQ D vwCl b0 none (rH dA h S' hp0) sz) args s 0 0 (fun q => b0 ≤ q)) (F0 m 17 ls []) := by
  obtain ⟨hx, hb, -⟩ := B.1
  unfold m_putKey_17F at hm
  refine lv_iload_n (pc := 17) (i := 3) hx hb d_putKey_17 rfl (lx_get hl rfl) ?_
  refine lv_aload_n (pc := 18) (i := 0) hx hb d_putKey_18 rfl (lx_get hl rfl) ?_
  refine r_get (pc := 19) (k := 15) (index := 40) B I (by decide) mF_40 rfl rfl d_putKey_19 ?_
  refine lv_iload_n (pc := 22) (i := 1) hx hb d_putKey_22 rfl (lx_get hl rfl) ?_
  refine ob1 hm (fun x1 e2 hm => ?_)
  refine r_ald (pc := 23) (j := 11) B I (by decide) (by decide) e2 d_putKey_23 ?_
  refine lv_icmp_ge (pc := 24) (tgt := 63) hx hb d_putKey_24 (by decide) (fun hc => ?_) (fun hc => ?_)
  · have hm := ift hc hm
    refine lv_iload_n (pc := 63) (i := 2) hx hb d_putKey_63 rfl (lx_get hl rfl) ?_
    refine lv_if_ne (pc := 64) (tgt := 83) hx hb d_putKey_64 (by decide) (fun hc => ?_) (fun hc => ?_)
    · have hm := iff' hc hm
      exact w_putKey_83  B hR (lx_sub (lo' := [some (.ref h), some (.int y1), some (.int y2), none]) hl (by simp [lx_le])) I hm
    · have hm := ift hc hm
      refine lv_aload_n (pc := 67) (i := 0) hx hb d_putKey_67 rfl (lx_get hl rfl) ?_
      refine lv_aload_n (pc := 68) (i := 0) hx hb d_putKey_68 rfl (lx_get hl rfl) ?_
      refine r_get (pc := 69) (k := 14) (index := 37) B I (by decide) mF_37 rfl rfl d_putKey_69 ?_
      refine lv_iload_n (pc := 72) (i := 1) hx hb d_putKey_72 rfl (lx_get hl rfl) ?_
      refine ob1 hm (fun x3 e4 hm => ?_)
      refine r_ald (pc := 73) (j := 10) B I (by decide) (by decide) e4 d_putKey_73 ?_
      refine lv_aload_n (pc := 74) (i := 0) hx hb d_putKey_74 rfl (lx_get hl rfl) ?_
      refine r_get (pc := 75) (k := 15) (index := 40) B I (by decide) mF_40 rfl rfl d_putKey_75 ?_
      refine lv_iload_n (pc := 78) (i := 1) hx hb d_putKey_78 rfl (lx_get hl rfl) ?_
      refine ob1 hm (fun x5 e6 hm => ?_)
      refine r_ald (pc := 79) (j := 11) B I (by decide) (by decide) e6 d_putKey_79 ?_
      refine ob1 hm (fun S8 e7 hm => ?_)
      refine r_call (pc := 80) (As := [.int x3, .int x5]) (rest := []) B hl rfl I (c_putQuoted hR e7) kw_putQuoted rfl (by decide) (by decide) rfl (by simp [Value.category]) d_putKey_80 (fun H locs I => ?_)
      exact w_putKey_83  B hR (lx_sub (lo' := [some (.ref h), some (.int y1), some (.int y2), none]) hl (by simp [lx_le])) I hm
  · have hm := iff' hc hm
    refine lv_iload_n (pc := 27) (i := 2) hx hb d_putKey_27 rfl (lx_get hl rfl) ?_
    refine lv_if_eq (pc := 28) (tgt := 55) hx hb d_putKey_28 (by decide) (fun hc => ?_) (fun hc => ?_)
    · have hm := ift hc hm
      exact w_putKey_55 hK17 B hR (lx_sub (lo' := [some (.ref h), some (.int y1), none, some (.int y3)]) hl (by simp [lx_le])) I hm
    · have hm := iff' hc hm
      refine lv_aload_n (pc := 31) (i := 0) hx hb d_putKey_31 rfl (lx_get hl rfl) ?_
      refine lv_aload_n (pc := 32) (i := 0) hx hb d_putKey_32 rfl (lx_get hl rfl) ?_
      refine r_get (pc := 33) (k := 17) (index := 46) B I (by decide) mF_46 rfl rfl d_putKey_33 ?_
      refine lv_aload_n (pc := 36) (i := 0) hx hb d_putKey_36 rfl (lx_get hl rfl) ?_
      refine r_get (pc := 37) (k := 14) (index := 37) B I (by decide) mF_37 rfl rfl d_putKey_37 ?_
      refine lv_iload_n (pc := 40) (i := 1) hx hb d_putKey_40 rfl (lx_get hl rfl) ?_
      refine ob1 hm (fun x9 e10 hm => ?_)
      refine r_ald (pc := 41) (j := 10) B I (by decide) (by decide) e10 d_putKey_41 ?_
      refine lv_iload_n (pc := 42) (i := 3) hx hb d_putKey_42 rfl (lx_get hl rfl) ?_
      refine lv_iadd (pc := 43) hx hb d_putKey_43 ?_
      refine ob1 hm (fun x11 e12 hm => ?_)
      refine r_ald (pc := 44) (j := 13) B I (by decide) (by decide) e12 d_putKey_44 ?_
      refine ob1 hm (fun x14 e13 hm => ?_)
      refine r_call (pc := 45) (As := [.int x11]) (rest := []) B hl rfl I (c_isBare hR e13) kw_isBare rfl (by decide) (by decide) rfl (by simp [Value.category]) d_putKey_45 (fun H locs I => ?_)
      refine lv_if_eq (pc := 48) (tgt := 55) hx hb d_putKey_48 (by decide) (fun hc => ?_) (fun hc => ?_)
      · have hm := ift hc hm
        exact w_putKey_55 hK17 B hR (lx_sub (lo' := [some (.ref h), some (.int y1), none, some (.int y3)]) hl (by simp [lx_le])) I hm
      · have hm := iff' hc hm
        refine lv_iconst (pc := 51) (v := 1) hx hb d_putKey_51 (by decide) ?_
        refine lv_goto (pc := 52) (tgt := 56) hx hb d_putKey_52 (by decide) ?_
        exact w_putKey_56 hK17 B hR (lx_sub (lo' := [some (.ref h), some (.int y1), none, some (.int y3)]) hl (by simp [lx_le])) I hm
set_option maxRecDepth 100000 in
set_option maxHeartbeats 4000000 in
theorem w_putKey_17i (B : BX p m c cb_putKey 4 s args (.code y_putKey cb_putKey 4 none :: wsA) RREF meth none D vwCl (tyL dA) b0 Z) (hR : RR b0 h Z) (k : Nat) (y1 : Int32) (y2 : Int32) (y3 : Int32) (S : rS) (ls : Array Slot) (H : Heap) (locs : List Loc) (hl : lx ls [some (.ref h), some (.int y1), some (.int y2), some (.int y3)]) (I : AI D vwCl b0 (rH dA h S hp0) sz s.heap H locs)  (hm : m_putKey_17 N  k y1 y2 y3 S = some S') : W p l e { frames := 2, cells := 0, slots := 0, locals := 45 } s m args below meth c H locs 0 0 (MQ below (CQ D vwCl b0 none (rH dA h S' hp0) sz) args s 0 0 (fun q => b0 ≤ q)) (F0 m 17 ls []) := by
  induction k generalizing y1 y2 y3 S ls H locs with
  | zero => cases hm
  | succ k ih => exact w_putKey_17F  (fun y1 y2 y3 S ls H locs hl I hm => ih y1 y2 y3 S ls H locs hl I hm) B hR hl I hm
theorem w_putKey_17 {y1 : Int32} {y2 : Int32} {y3 : Int32} {S : rS} (B : BX p m c cb_putKey 4 s args (.code y_putKey cb_putKey 4 none :: wsA) RREF meth none D vwCl (tyL dA) b0 Z) (hR : RR b0 h Z) (hl : lx ls [some (.ref h), some (.int y1), some (.int y2), some (.int y3)]) (I : AI D vwCl b0 (rH dA h S hp0) sz s.heap H locs)  {k : Nat} (hm : m_putKey_17 N  k y1 y2 y3 S = some S') : W p l e { frames := 2, cells := 0, slots := 0, locals := 45 } s m args below meth c H locs 0 0 (MQ below (CQ D vwCl b0 none (rH dA h S' hp0) sz) args s 0 0 (fun q => b0 ≤ q)) (F0 m 17 ls []) := w_putKey_17i  B hR k _ _ _ S ls H locs hl I hm
def m_putKey_14 (N : Nat) (y1 : Int32) (z0 : Int32) (S : rS) : Option rS :=
  m_putKey_17 N  N y1 z0 0 S
set_option maxRecDepth 100000 in
set_option maxHeartbeats 4000000 in
theorem w_putKey_14 {y1 : Int32} {z0 : Int32} {S : rS} (B : BX p m c cb_putKey 4 s args (.code y_putKey cb_putKey 4 none :: wsA) RREF meth none D vwCl (tyL dA) b0 Z) (hR : RR b0 h Z) (hl : lx ls [some (.ref h), some (.int y1), none, none]) (I : AI D vwCl b0 (rH dA h S hp0) sz s.heap H locs)  (hm : m_putKey_14 N  y1 z0 S = some S') : W p l e { frames := 2, cells := 0, slots := 0, locals := 45 } s m args below meth c H locs 0 0 (MQ below (CQ D vwCl b0 none (rH dA h S' hp0) sz) args s 0 0 (fun q => b0 ≤ q)) (F0 m 14 ls [.int z0]) := by
  obtain ⟨hx, hb, -⟩ := B.1
  unfold m_putKey_14 at hm
  refine q_istore_n (pc := 14) (i := 2) (lo' := [some (.ref h), some (.int y1), some (.int z0), none]) hx hb d_putKey_14 rfl hl (Nat.le_of_ble_eq_true rfl) (lx_ci rfl) rfl (fun ls hl => ?_)
  refine lv_iconst (pc := 15) (v := 0) hx hb d_putKey_15 (by decide) ?_
  refine q_istore_n (pc := 16) (i := 3) (lo' := [some (.ref h), some (.int y1), some (.int z0), some (.int 0)]) hx hb d_putKey_16 rfl hl (Nat.le_of_ble_eq_true rfl) (lx_ci rfl) rfl (fun ls hl => ?_)
  exact w_putKey_17  B hR hl I hm
def m_putKey (N : Nat) (p1 : Int32) (S : rS) : Option rS :=
  b1 (rL S 11 p1) (fun x1 => if x1 ≤ 0 then (m_putKey_14 N  p1 0 S) else (m_putKey_14 N  p1 1 S))
set_option maxRecDepth 100000 in
set_option maxHeartbeats 4000000 in
theorem c_putKey {p1 : Int32} {S S' : rS} (hR : RR b0 h Z) (hm : m_putKey N p1 S = some S') : Ct l D vwCl (tyL dA) b0 Z y_putKey (.code y_putKey cb_putKey 4 none :: wsA) 2 45 [.ref h, .int p1] (rH dA h S hp0) sz none (rH dA h S' hp0) 0 0 := by
  refine ct_of (cc := cb_putKey) (maxL := 4) (ret := none) (lo0 := [some (.ref h), some (.int p1), none, none]) hR.2 (by decide) rfl (by simp [lg_sl, Value.category]) rfl (by simp [lx_all, lv_args, Value.category]) ?_
  intro p e s m args below meth c ls B hnm hl I
  obtain ⟨hx, hb, -⟩ := B.1
  unfold m_putKey at hm
  refine lv_aload_n (pc := 0) (i := 0) hx hb d_putKey_0 rfl (lx_get hl rfl) ?_
  refine r_get (pc := 1) (k := 15) (index := 40) B I (by decide) mF_40 rfl rfl d_putKey_1 ?_
  refine lv_iload_n (pc := 4) (i := 1) hx hb d_putKey_4 rfl (lx_get hl rfl) ?_
  refine ob1 hm (fun x1 e2 hm => ?_)
  refine r_ald (pc := 5) (j := 11) B I (by decide) (by decide) e2 d_putKey_5 ?_
  refine lv_if_le (pc := 6) (tgt := 13) hx hb d_putKey_6 (by decide) (fun hc => ?_) (fun hc => ?_)
  · have hm := ift hc hm
    refine lv_iconst (pc := 13) (v := 0) hx hb d_putKey_13 (by decide) ?_
    exact w_putKey_14  B hR hl I hm
  · have hm := iff' hc hm
    refine lv_iconst (pc := 9) (v := 1) hx hb d_putKey_9 (by decide) ?_
    refine lv_goto (pc := 10) (tgt := 14) hx hb d_putKey_10 (by decide) ?_
    exact w_putKey_14  B hR hl I hm
def m_putHead_53 (N : Nat) (z1 : Int32) (S : rS) : Option rS :=
  b1 (m_putNumber N z1 1 S) (fun S2 => some S2)
set_option maxRecDepth 100000 in
set_option maxHeartbeats 4000000 in
theorem w_putHead_53 {z1 : Int32} {S : rS} (B : BX p m c cb_putHead 4 s args (.code y_putHead cb_putHead 4 none :: wsA) RREF meth none D vwCl (tyL dA) b0 Z) (hR : RR b0 h Z) (hl : lx ls [some (.ref h), none, none, none]) (I : AI D vwCl b0 (rH dA h S hp0) sz s.heap H locs)  (hm : m_putHead_53 N  z1 S = some S') : W p l e { frames := 2, cells := 0, slots := 0, locals := 45 } s m args below meth c H locs 0 0 (MQ below (CQ D vwCl b0 none (rH dA h S' hp0) sz) args s 0 0 (fun q => b0 ≤ q)) (F0 m 53 ls [.int z1, .ref h]) := by
  obtain ⟨hx, hb, -⟩ := B.1
  unfold m_putHead_53 at hm
  refine lv_iconst (pc := 53) (v := 1) hx hb d_putHead_53 (by decide) ?_
  refine ob1 hm (fun S2 e1 hm => ?_)
  refine r_call (pc := 54) (As := [.int z1, .int 1]) (rest := []) B hl rfl I (c_putNumber hR e1) kw_putNumber rfl (by decide) (by decide) rfl (by simp [Value.category]) d_putHead_54 (fun H locs I => ?_)
  refine lv_goto (pc := 57) (tgt := 219) hx hb d_putHead_57 (by decide) ?_
  cases hm
  exact q_vret (pc := 219) B I rfl d_putHead_219
def m_putHead_27 (N : Nat) (y1 : Int32) (S : rS) : Option rS :=
  b1 (rL S 4 y1) (fun x1 => if 0 ≤ x1 then (b1 (rL S 4 y1) (fun x3 => m_putHead_53 N  x3 S)) else (b1 (rL S 4 y1) (fun x5 => m_putHead_53 N  (-x5) S)))
set_option maxRecDepth 100000 in
set_option maxHeartbeats 4000000 in
theorem w_putHead_27 {y1 : Int32} {S : rS} (B : BX p m c cb_putHead 4 s args (.code y_putHead cb_putHead 4 none :: wsA) RREF meth none D vwCl (tyL dA) b0 Z) (hR : RR b0 h Z) (hl : lx ls [some (.ref h), some (.int y1), none, none]) (I : AI D vwCl b0 (rH dA h S hp0) sz s.heap H locs)  (hm : m_putHead_27 N  y1 S = some S') : W p l e { frames := 2, cells := 0, slots := 0, locals := 45 } s m args below meth c H locs 0 0 (MQ below (CQ D vwCl b0 none (rH dA h S' hp0) sz) args s 0 0 (fun q => b0 ≤ q)) (F0 m 27 ls []) := by
  obtain ⟨hx, hb, -⟩ := B.1
  unfold m_putHead_27 at hm
  refine lv_aload_n (pc := 27) (i := 0) hx hb d_putHead_27 rfl (lx_get hl rfl) ?_
  refine lv_aload_n (pc := 28) (i := 0) hx hb d_putHead_28 rfl (lx_get hl rfl) ?_
  refine r_get (pc := 29) (k := 8) (index := 19) B I (by decide) mF_19 rfl rfl d_putHead_29 ?_
  refine lv_iload_n (pc := 32) (i := 1) hx hb d_putHead_32 rfl (lx_get hl rfl) ?_
  refine ob1 hm (fun x1 e2 hm => ?_)
  refine r_ald (pc := 33) (j := 4) B I (by decide) (by decide) e2 d_putHead_33 ?_
  refine lv_if_ge (pc := 34) (tgt := 47) hx hb d_putHead_34 (by decide) (fun hc => ?_) (fun hc => ?_)
  · have hm := ift hc hm
    refine lv_aload_n (pc := 47) (i := 0) hx hb d_putHead_47 rfl (lx_get hl rfl) ?_
    refine r_get (pc := 48) (k := 8) (index := 19) B I (by decide) mF_19 rfl rfl d_putHead_48 ?_
    refine lv_iload_n (pc := 51) (i := 1) hx hb d_putHead_51 rfl (lx_get hl rfl) ?_
    refine ob1 hm (fun x3 e4 hm => ?_)
    refine r_ald (pc := 52) (j := 4) B I (by decide) (by decide) e4 d_putHead_52 ?_
    exact w_putHead_53  B hR (lx_sub (lo' := [some (.ref h), none, none, none]) hl (by simp [lx_le])) I hm
  · have hm := iff' hc hm
    refine lv_aload_n (pc := 37) (i := 0) hx hb d_putHead_37 rfl (lx_get hl rfl) ?_
    refine r_get (pc := 38) (k := 8) (index := 19) B I (by decide) mF_19 rfl rfl d_putHead_38 ?_
    refine lv_iload_n (pc := 41) (i := 1) hx hb d_putHead_41 rfl (lx_get hl rfl) ?_
    refine ob1 hm (fun x5 e6 hm => ?_)
    refine r_ald (pc := 42) (j := 4) B I (by decide) (by decide) e6 d_putHead_42 ?_
    refine lv_ineg (pc := 43) hx hb d_putHead_43 ?_
    refine lv_goto (pc := 44) (tgt := 53) hx hb d_putHead_44 (by decide) ?_
    exact w_putHead_53  B hR (lx_sub (lo' := [some (.ref h), none, none, none]) hl (by simp [lx_le])) I hm
def m_putHead_96 (N : Nat) (K67 : Int32 → Int32 → rS → Option rS) (y1 : Int32) (y3 : Int32) (z2 : Int32) (S : rS) : Option rS :=
  b1 (m_letterOf N z2 y3 S) (fun x2 => b1 (m_put N x2 S) (fun S4 => K67 y1 (y3 + 1) S4))
set_option maxRecDepth 100000 in
set_option maxHeartbeats 4000000 in
theorem w_putHead_96 {K67 : Int32 → Int32 → rS → Option rS} {y1 : Int32} {y3 : Int32} {z2 : Int32} {S : rS} (hK67 : ∀ (y1 : Int32) (y3 : Int32) (S : rS) (ls : Array Slot) (H : Heap) (locs : List Loc), lx ls [some (.ref h), some (.int y1), none, some (.int y3)] → AI D vwCl b0 (rH dA h S hp0) sz s.heap H locs → K67 y1 y3 S = some S' → W p l e { frames := 2, cells := 0, slots := 0, locals := 45 } s m args below meth c H locs 0 0 (MQ below (CQ D vwCl b0 none (rH dA h S' hp0) sz) args s 0 0 (fun q => b0 ≤ q)) (F0 m 67 ls [])) (B : BX p m c cb_putHead 4 s args (.code y_putHead cb_putHead 4 none :: wsA) RREF meth none D vwCl (tyL dA) b0 Z) (hR : RR b0 h Z) (hl : lx ls [some (.ref h), some (.int y1), none, some (.int y3)]) (I : AI D vwCl b0 (rH dA h S hp0) sz s.heap H locs)  (hm : m_putHead_96 N K67 y1 y3 z2 S = some S') : W p l e { frames := 2, cells := 0, slots := 0, locals := 45 } s m args below meth c H locs 0 0 (MQ below (CQ D vwCl b0 none (rH dA h S' hp0) sz) args s 0 0 (fun q => b0 ≤ q)) (F0 m 96 ls [.int z2, .ref h, .ref h]) := by
  obtain ⟨hx, hb, -⟩ := B.1
  unfold m_putHead_96 at hm
  refine lv_iload_n (pc := 96) (i := 3) hx hb d_putHead_96 rfl (lx_get hl rfl) ?_
  refine ob1 hm (fun x2 e1 hm => ?_)
  refine r_call (pc := 97) (As := [.int z2, .int y3]) (rest := [.ref h]) B hl rfl I (c_letterOf hR e1) kw_letterOf rfl (by decide) (by decide) rfl (by simp [Value.category]) d_putHead_97 (fun H locs I => ?_)
  refine ob1 hm (fun S4 e3 hm => ?_)
  refine r_call (pc := 100) (As := [.int x2]) (rest := []) B hl rfl I (c_put hR e3) kw_put rfl (by decide) (by decide) rfl (by simp [Value.category]) d_putHead_100 (fun H locs I => ?_)
  refine q_iinc (pc := 103) (i := 3) (v := y3 + 1) (lo' := [some (.ref h), some (.int y1), none, some (.int (y3 + 1))]) hx hb d_putHead_103 hl rfl rfl (Nat.le_of_ble_eq_true rfl) (lx_cn rfl) rfl (fun ls hl => ?_)
  refine lv_goto (pc := 106) (tgt := 67) hx hb d_putHead_106 (by decide) ?_
  exact hK67 _ _ _ _ _ _ hl I hm
def m_putHead_67F (N : Nat) (K67 : Int32 → Int32 → rS → Option rS) (y1 : Int32) (y3 : Int32) (S : rS) : Option rS :=
  b1 (rL S 4 y1) (fun x1 => if 5 - x1 ≤ y3 then (some S) else (b1 (rL S 4 y1) (fun x3 => if x3 = 1 then (m_putHead_96 N K67 y1 y3 1 S) else (m_putHead_96 N K67 y1 y3 0 S))))
def m_putHead_67 (N : Nat) : Nat → Int32 → Int32 → rS → Option rS
  | 0, _, _, _ => none
  | k + 1, y1, y3, S => m_putHead_67F N  (m_putHead_67 N  k) y1 y3 S
set_option maxRecDepth 100000 in
set_option maxHeartbeats 4000000 in
theorem w_putHead_67F {K67 : Int32 → Int32 → rS → Option rS} {y1 : Int32} {y3 : Int32} {S : rS} (hK67 : ∀ (y1 : Int32) (y3 : Int32) (S : rS) (ls : Array Slot) (H : Heap) (locs : List Loc), lx ls [some (.ref h), some (.int y1), none, some (.int y3)] → AI D vwCl b0 (rH dA h S hp0) sz s.heap H locs → K67 y1 y3 S = some S' → W p l e { frames := 2, cells := 0, slots := 0, locals := 45 } s m args below meth c H locs 0 0 (MQ below (CQ D vwCl b0 none (rH dA h S' hp0) sz) args s 0 0 (fun q => b0 ≤ q)) (F0 m 67 ls [])) (B : BX p m c cb_putHead 4 s args (.code y_putHead cb_putHead 4 none :: wsA) RREF meth none D vwCl (tyL dA) b0 Z) (hR : RR b0 h Z) (hl : lx ls [some (.ref h), some (.int y1), none, some (.int y3)]) (I : AI D vwCl b0 (rH dA h S hp0) sz s.heap H locs)  (hm : m_putHead_67F N  K67 y1 y3 S = some S') : W p l e { frames := 2, cells := 0, slots := 0, locals := 45 } s m args below meth c H locs 0 0 (MQ below (CQ D vwCl b0 none (rH dA h S' hp0) sz) args s 0 0 (fun q => b0 ≤ q)) (F0 m 67 ls []) := by
  obtain ⟨hx, hb, -⟩ := B.1
  unfold m_putHead_67F at hm
  refine lv_iload_n (pc := 67) (i := 3) hx hb d_putHead_67 rfl (lx_get hl rfl) ?_
  refine lv_iconst (pc := 68) (v := 5) hx hb d_putHead_68 (by decide) ?_
  refine lv_aload_n (pc := 69) (i := 0) hx hb d_putHead_69 rfl (lx_get hl rfl) ?_
  refine r_get (pc := 70) (k := 8) (index := 19) B I (by decide) mF_19 rfl rfl d_putHead_70 ?_
  refine lv_iload_n (pc := 73) (i := 1) hx hb d_putHead_73 rfl (lx_get hl rfl) ?_
  refine ob1 hm (fun x1 e2 hm => ?_)
  refine r_ald (pc := 74) (j := 4) B I (by decide) (by decide) e2 d_putHead_74 ?_
  refine lv_isub (pc := 75) hx hb d_putHead_75 ?_
  refine lv_icmp_ge (pc := 76) (tgt := 109) hx hb d_putHead_76 (by decide) (fun hc => ?_) (fun hc => ?_)
  · have hm := ift hc hm
    refine lv_goto (pc := 109) (tgt := 219) hx hb d_putHead_109 (by decide) ?_
    cases hm
    exact q_vret (pc := 219) B I rfl d_putHead_219
  · have hm := iff' hc hm
    refine lv_aload_n (pc := 79) (i := 0) hx hb d_putHead_79 rfl (lx_get hl rfl) ?_
    refine lv_aload_n (pc := 80) (i := 0) hx hb d_putHead_80 rfl (lx_get hl rfl) ?_
    refine lv_aload_n (pc := 81) (i := 0) hx hb d_putHead_81 rfl (lx_get hl rfl) ?_
    refine r_get (pc := 82) (k := 8) (index := 19) B I (by decide) mF_19 rfl rfl d_putHead_82 ?_
    refine lv_iload_n (pc := 85) (i := 1) hx hb d_putHead_85 rfl (lx_get hl rfl) ?_
    refine ob1 hm (fun x3 e4 hm => ?_)
    refine r_ald (pc := 86) (j := 4) B I (by decide) (by decide) e4 d_putHead_86 ?_
    refine lv_iconst (pc := 87) (v := 1) hx hb d_putHead_87 (by decide) ?_
    refine lv_icmp_ne (pc := 88) (tgt := 95) hx hb d_putHead_88 (by decide) (fun hc => ?_) (fun hc => ?_)
    · have hm := iff' hc hm
      refine lv_iconst (pc := 95) (v := 0) hx hb d_putHead_95 (by decide) ?_
      exact w_putHead_96 hK67 B hR hl I hm
    · have hm := ift hc hm
      refine lv_iconst (pc := 91) (v := 1) hx hb d_putHead_91 (by decide) ?_
      refine lv_goto (pc := 92) (tgt := 96) hx hb d_putHead_92 (by decide) ?_
      exact w_putHead_96 hK67 B hR hl I hm
set_option maxRecDepth 100000 in
set_option maxHeartbeats 4000000 in
theorem w_putHead_67i (B : BX p m c cb_putHead 4 s args (.code y_putHead cb_putHead 4 none :: wsA) RREF meth none D vwCl (tyL dA) b0 Z) (hR : RR b0 h Z) (k : Nat) (y1 : Int32) (y3 : Int32) (S : rS) (ls : Array Slot) (H : Heap) (locs : List Loc) (hl : lx ls [some (.ref h), some (.int y1), none, some (.int y3)]) (I : AI D vwCl b0 (rH dA h S hp0) sz s.heap H locs)  (hm : m_putHead_67 N  k y1 y3 S = some S') : W p l e { frames := 2, cells := 0, slots := 0, locals := 45 } s m args below meth c H locs 0 0 (MQ below (CQ D vwCl b0 none (rH dA h S' hp0) sz) args s 0 0 (fun q => b0 ≤ q)) (F0 m 67 ls []) := by
  induction k generalizing y1 y3 S ls H locs with
  | zero => cases hm
  | succ k ih => exact w_putHead_67F  (fun y1 y3 S ls H locs hl I hm => ih y1 y3 S ls H locs hl I hm) B hR hl I hm
theorem w_putHead_67 {y1 : Int32} {y3 : Int32} {S : rS} (B : BX p m c cb_putHead 4 s args (.code y_putHead cb_putHead 4 none :: wsA) RREF meth none D vwCl (tyL dA) b0 Z) (hR : RR b0 h Z) (hl : lx ls [some (.ref h), some (.int y1), none, some (.int y3)]) (I : AI D vwCl b0 (rH dA h S hp0) sz s.heap H locs)  {k : Nat} (hm : m_putHead_67 N  k y1 y3 S = some S') : W p l e { frames := 2, cells := 0, slots := 0, locals := 45 } s m args below meth c H locs 0 0 (MQ below (CQ D vwCl b0 none (rH dA h S' hp0) sz) args s 0 0 (fun q => b0 ≤ q)) (F0 m 67 ls []) := w_putHead_67i  B hR k _ _ S ls H locs hl I hm
def m_putHead_216 (N : Nat) (z1 : Int32) (S : rS) : Option rS :=
  b1 (m_put N z1 S) (fun S2 => some S2)
set_option maxRecDepth 100000 in
set_option maxHeartbeats 4000000 in
theorem w_putHead_216 {z1 : Int32} {S : rS} (B : BX p m c cb_putHead 4 s args (.code y_putHead cb_putHead 4 none :: wsA) RREF meth none D vwCl (tyL dA) b0 Z) (hR : RR b0 h Z) (hl : lx ls [some (.ref h), none, none, none]) (I : AI D vwCl b0 (rH dA h S hp0) sz s.heap H locs)  (hm : m_putHead_216 N  z1 S = some S') : W p l e { frames := 2, cells := 0, slots := 0, locals := 45 } s m args below meth c H locs 0 0 (MQ below (CQ D vwCl b0 none (rH dA h S' hp0) sz) args s 0 0 (fun q => b0 ≤ q)) (F0 m 216 ls [.int z1, .ref h]) := by
  obtain ⟨hx, hb, -⟩ := B.1
  unfold m_putHead_216 at hm
  refine ob1 hm (fun S2 e1 hm => ?_)
  refine r_call (pc := 216) (As := [.int z1]) (rest := []) B hl rfl I (c_put hR e1) kw_put rfl (by decide) (by decide) rfl (by simp [Value.category]) d_putHead_216 (fun H locs I => ?_)
  cases hm
  exact q_vret (pc := 219) B I rfl d_putHead_219
def m_putHead (N : Nat) (p1 : Int32) (S : rS) : Option rS :=
  b1 (rL S 3 p1) (fun x1 => if x1 = 1 then (b1 (rL S 4 p1) (fun x25 => if 0 ≤ x25 then (m_putHead_27 N  p1 S) else (b1 (m_put N 45 S) (fun S28 => m_putHead_27 N  p1 S28)))) else (if x1 = 2 then (m_putHead_67 N  N p1 0 S) else (if x1 = 3 then (b1 (rL S 4 p1) (fun x19 => b1 (rL S 9 p1) (fun x21 => b1 (m_putQuoted N x19 x21 S) (fun S24 => some S24)))) else (if x1 = 4 then (b1 (rL S 4 p1) (fun x3 => b1 (m_putNumber N (x3 / 10000) 4 S) (fun S6 => b1 (m_put N 45 S6) (fun S8 => b1 (rL S8 4 p1) (fun x9 => b1 (m_putNumber N ((x9 / 100) - (x9 / 100) / 100 * 100) 2 S8) (fun S12 => b1 (m_put N 45 S12) (fun S14 => b1 (rL S14 4 p1) (fun x15 => b1 (m_putNumber N (x15 - x15 / 100 * 100) 2 S14) (fun S18 => some S18))))))))) else (if x1 ≤ 6 then (m_putHead_216 N  91 S) else (m_putHead_216 N  123 S))))))
set_option maxRecDepth 100000 in
set_option maxHeartbeats 4000000 in
theorem c_putHead {p1 : Int32} {S S' : rS} (hR : RR b0 h Z) (hm : m_putHead N p1 S = some S') : Ct l D vwCl (tyL dA) b0 Z y_putHead (.code y_putHead cb_putHead 4 none :: wsA) 2 45 [.ref h, .int p1] (rH dA h S hp0) sz none (rH dA h S' hp0) 0 0 := by
  refine ct_of (cc := cb_putHead) (maxL := 4) (ret := none) (lo0 := [some (.ref h), some (.int p1), none, none]) hR.2 (by decide) rfl (by simp [lg_sl, Value.category]) rfl (by simp [lx_all, lv_args, Value.category]) ?_
  intro p e s m args below meth c ls B hnm hl I
  obtain ⟨hx, hb, -⟩ := B.1
  unfold m_putHead at hm
  refine lv_aload_n (pc := 0) (i := 0) hx hb d_putHead_0 rfl (lx_get hl rfl) ?_
  refine r_get (pc := 1) (k := 7) (index := 16) B I (by decide) mF_16 rfl rfl d_putHead_1 ?_
  refine lv_iload_n (pc := 4) (i := 1) hx hb d_putHead_4 rfl (lx_get hl rfl) ?_
  refine ob1 hm (fun x1 e2 hm => ?_)
  refine r_ald (pc := 5) (j := 3) B I (by decide) (by decide) e2 d_putHead_5 ?_
  refine q_istore_n (pc := 6) (i := 2) (lo' := [some (.ref h), some (.int p1), some (.int x1), none]) hx hb d_putHead_6 rfl hl (Nat.le_of_ble_eq_true rfl) (lx_ci rfl) rfl (fun ls hl => ?_)
  refine lv_iload_n (pc := 7) (i := 2) hx hb d_putHead_7 rfl (lx_get hl rfl) ?_
  refine lv_iconst (pc := 8) (v := 1) hx hb d_putHead_8 (by decide) ?_
  refine lv_icmp_ne (pc := 9) (tgt := 60) hx hb d_putHead_9 (by decide) (fun hc => ?_) (fun hc => ?_)
  · have hm := iff' hc hm
    refine lv_iload_n (pc := 60) (i := 2) hx hb d_putHead_60 rfl (lx_get hl rfl) ?_
    refine lv_iconst (pc := 61) (v := 2) hx hb d_putHead_61 (by decide) ?_
    refine lv_icmp_ne (pc := 62) (tgt := 112) hx hb d_putHead_62 (by decide) (fun hc => ?_) (fun hc => ?_)
    · have hm := iff' hc hm
      refine lv_iload_n (pc := 112) (i := 2) hx hb d_putHead_112 rfl (lx_get hl rfl) ?_
      refine lv_iconst (pc := 113) (v := 3) hx hb d_putHead_113 (by decide) ?_
      refine lv_icmp_ne (pc := 114) (tgt := 136) hx hb d_putHead_114 (by decide) (fun hc => ?_) (fun hc => ?_)
      · have hm := iff' hc hm
        refine lv_iload_n (pc := 136) (i := 2) hx hb d_putHead_136 rfl (lx_get hl rfl) ?_
        refine lv_iconst (pc := 137) (v := 4) hx hb d_putHead_137 (by decide) ?_
        refine lv_icmp_ne (pc := 138) (tgt := 202) hx hb d_putHead_138 (by decide) (fun hc => ?_) (fun hc => ?_)
        · have hm := iff' hc hm
          refine lv_aload_n (pc := 202) (i := 0) hx hb d_putHead_202 rfl (lx_get hl rfl) ?_
          refine lv_iload_n (pc := 203) (i := 2) hx hb d_putHead_203 rfl (lx_get hl rfl) ?_
          refine lv_bipush (pc := 204) (v := 6) hx hb d_putHead_204 (by decide) ?_
          refine lv_icmp_le (pc := 206) (tgt := 214) hx hb d_putHead_206 (by decide) (fun hc => ?_) (fun hc => ?_)
          · have hm := ift hc hm
            refine lv_bipush (pc := 214) (v := 91) hx hb d_putHead_214 (by decide) ?_
            exact w_putHead_216  B hR (lx_sub (lo' := [some (.ref h), none, none, none]) hl (by simp [lx_le])) I hm
          · have hm := iff' hc hm
            refine lv_bipush (pc := 209) (v := 123) hx hb d_putHead_209 (by decide) ?_
            refine lv_goto (pc := 211) (tgt := 216) hx hb d_putHead_211 (by decide) ?_
            exact w_putHead_216  B hR (lx_sub (lo' := [some (.ref h), none, none, none]) hl (by simp [lx_le])) I hm
        · have hm := ift hc hm
          refine lv_aload_n (pc := 141) (i := 0) hx hb d_putHead_141 rfl (lx_get hl rfl) ?_
          refine lv_aload_n (pc := 142) (i := 0) hx hb d_putHead_142 rfl (lx_get hl rfl) ?_
          refine r_get (pc := 143) (k := 8) (index := 19) B I (by decide) mF_19 rfl rfl d_putHead_143 ?_
          refine lv_iload_n (pc := 146) (i := 1) hx hb d_putHead_146 rfl (lx_get hl rfl) ?_
          refine ob1 hm (fun x3 e4 hm => ?_)
          refine r_ald (pc := 147) (j := 4) B I (by decide) (by decide) e4 d_putHead_147 ?_
          refine lv_sipush (pc := 148) (v := 10000) hx hb d_putHead_148 (by decide) ?_
          refine lv_idiv (pc := 151) hx hb d_putHead_151 (by decide) ?_
          refine lv_iconst (pc := 152) (v := 4) hx hb d_putHead_152 (by decide) ?_
          refine ob1 hm (fun S6 e5 hm => ?_)
          refine r_call (pc := 153) (As := [.int (x3 / 10000), .int 4]) (rest := []) B hl rfl I (c_putNumber hR e5) kw_putNumber rfl (by decide) (by decide) rfl (by simp [Value.category]) d_putHead_153 (fun H locs I => ?_)
          refine lv_aload_n (pc := 156) (i := 0) hx hb d_putHead_156 rfl (lx_get hl rfl) ?_
          refine lv_bipush (pc := 157) (v := 45) hx hb d_putHead_157 (by decide) ?_
          refine ob1 hm (fun S8 e7 hm => ?_)
          refine r_call (pc := 159) (As := [.int 45]) (rest := []) B hl rfl I (c_put hR e7) kw_put rfl (by decide) (by decide) rfl (by simp [Value.category]) d_putHead_159 (fun H locs I => ?_)
          refine lv_aload_n (pc := 162) (i := 0) hx hb d_putHead_162 rfl (lx_get hl rfl) ?_
          refine lv_aload_n (pc := 163) (i := 0) hx hb d_putHead_163 rfl (lx_get hl rfl) ?_
          refine r_get (pc := 164) (k := 8) (index := 19) B I (by decide) mF_19 rfl rfl d_putHead_164 ?_
          refine lv_iload_n (pc := 167) (i := 1) hx hb d_putHead_167 rfl (lx_get hl rfl) ?_
          refine ob1 hm (fun x9 e10 hm => ?_)
          refine r_ald (pc := 168) (j := 4) B I (by decide) (by decide) e10 d_putHead_168 ?_
          refine lv_bipush (pc := 169) (v := 100) hx hb d_putHead_169 (by decide) ?_
          refine lv_idiv (pc := 171) hx hb d_putHead_171 (by decide) ?_
          refine lv_bipush (pc := 172) (v := 100) hx hb d_putHead_172 (by decide) ?_
          refine lv_irem (pc := 174) hx hb d_putHead_174 (by decide) ?_
          refine lv_iconst (pc := 175) (v := 2) hx hb d_putHead_175 (by decide) ?_
          refine ob1 hm (fun S12 e11 hm => ?_)
          refine r_call (pc := 176) (As := [.int ((x9 / 100) - (x9 / 100) / 100 * 100), .int 2]) (rest := []) B hl rfl I (c_putNumber hR e11) kw_putNumber rfl (by decide) (by decide) rfl (by simp [Value.category]) d_putHead_176 (fun H locs I => ?_)
          refine lv_aload_n (pc := 179) (i := 0) hx hb d_putHead_179 rfl (lx_get hl rfl) ?_
          refine lv_bipush (pc := 180) (v := 45) hx hb d_putHead_180 (by decide) ?_
          refine ob1 hm (fun S14 e13 hm => ?_)
          refine r_call (pc := 182) (As := [.int 45]) (rest := []) B hl rfl I (c_put hR e13) kw_put rfl (by decide) (by decide) rfl (by simp [Value.category]) d_putHead_182 (fun H locs I => ?_)
          refine lv_aload_n (pc := 185) (i := 0) hx hb d_putHead_185 rfl (lx_get hl rfl) ?_
          refine lv_aload_n (pc := 186) (i := 0) hx hb d_putHead_186 rfl (lx_get hl rfl) ?_
          refine r_get (pc := 187) (k := 8) (index := 19) B I (by decide) mF_19 rfl rfl d_putHead_187 ?_
          refine lv_iload_n (pc := 190) (i := 1) hx hb d_putHead_190 rfl (lx_get hl rfl) ?_
          refine ob1 hm (fun x15 e16 hm => ?_)
          refine r_ald (pc := 191) (j := 4) B I (by decide) (by decide) e16 d_putHead_191 ?_
          refine lv_bipush (pc := 192) (v := 100) hx hb d_putHead_192 (by decide) ?_
          refine lv_irem (pc := 194) hx hb d_putHead_194 (by decide) ?_
          refine lv_iconst (pc := 195) (v := 2) hx hb d_putHead_195 (by decide) ?_
          refine ob1 hm (fun S18 e17 hm => ?_)
          refine r_call (pc := 196) (As := [.int (x15 - x15 / 100 * 100), .int 2]) (rest := []) B hl rfl I (c_putNumber hR e17) kw_putNumber rfl (by decide) (by decide) rfl (by simp [Value.category]) d_putHead_196 (fun H locs I => ?_)
          refine lv_goto (pc := 199) (tgt := 219) hx hb d_putHead_199 (by decide) ?_
          cases hm
          exact q_vret (pc := 219) B I rfl d_putHead_219
      · have hm := ift hc hm
        refine lv_aload_n (pc := 117) (i := 0) hx hb d_putHead_117 rfl (lx_get hl rfl) ?_
        refine lv_aload_n (pc := 118) (i := 0) hx hb d_putHead_118 rfl (lx_get hl rfl) ?_
        refine r_get (pc := 119) (k := 8) (index := 19) B I (by decide) mF_19 rfl rfl d_putHead_119 ?_
        refine lv_iload_n (pc := 122) (i := 1) hx hb d_putHead_122 rfl (lx_get hl rfl) ?_
        refine ob1 hm (fun x19 e20 hm => ?_)
        refine r_ald (pc := 123) (j := 4) B I (by decide) (by decide) e20 d_putHead_123 ?_
        refine lv_aload_n (pc := 124) (i := 0) hx hb d_putHead_124 rfl (lx_get hl rfl) ?_
        refine r_get (pc := 125) (k := 13) (index := 34) B I (by decide) mF_34 rfl rfl d_putHead_125 ?_
        refine lv_iload_n (pc := 128) (i := 1) hx hb d_putHead_128 rfl (lx_get hl rfl) ?_
        refine ob1 hm (fun x21 e22 hm => ?_)
        refine r_ald (pc := 129) (j := 9) B I (by decide) (by decide) e22 d_putHead_129 ?_
        refine ob1 hm (fun S24 e23 hm => ?_)
        refine r_call (pc := 130) (As := [.int x19, .int x21]) (rest := []) B hl rfl I (c_putQuoted hR e23) kw_putQuoted rfl (by decide) (by decide) rfl (by simp [Value.category]) d_putHead_130 (fun H locs I => ?_)
        refine lv_goto (pc := 133) (tgt := 219) hx hb d_putHead_133 (by decide) ?_
        cases hm
        exact q_vret (pc := 219) B I rfl d_putHead_219
    · have hm := ift hc hm
      refine lv_iconst (pc := 65) (v := 0) hx hb d_putHead_65 (by decide) ?_
      refine q_istore_n (pc := 66) (i := 3) (lo' := [some (.ref h), some (.int p1), some (.int x1), some (.int 0)]) hx hb d_putHead_66 rfl hl (Nat.le_of_ble_eq_true rfl) (lx_ci rfl) rfl (fun ls hl => ?_)
      exact w_putHead_67  B hR (lx_sub (lo' := [some (.ref h), some (.int p1), none, some (.int 0)]) hl (by simp [lx_le])) I hm
  · have hm := ift hc hm
    refine lv_aload_n (pc := 12) (i := 0) hx hb d_putHead_12 rfl (lx_get hl rfl) ?_
    refine r_get (pc := 13) (k := 8) (index := 19) B I (by decide) mF_19 rfl rfl d_putHead_13 ?_
    refine lv_iload_n (pc := 16) (i := 1) hx hb d_putHead_16 rfl (lx_get hl rfl) ?_
    refine ob1 hm (fun x25 e26 hm => ?_)
    refine r_ald (pc := 17) (j := 4) B I (by decide) (by decide) e26 d_putHead_17 ?_
    refine lv_if_ge (pc := 18) (tgt := 27) hx hb d_putHead_18 (by decide) (fun hc => ?_) (fun hc => ?_)
    · have hm := ift hc hm
      exact w_putHead_27  B hR (lx_sub (lo' := [some (.ref h), some (.int p1), none, none]) hl (by simp [lx_le])) I hm
    · have hm := iff' hc hm
      refine lv_aload_n (pc := 21) (i := 0) hx hb d_putHead_21 rfl (lx_get hl rfl) ?_
      refine lv_bipush (pc := 22) (v := 45) hx hb d_putHead_22 (by decide) ?_
      refine ob1 hm (fun S28 e27 hm => ?_)
      refine r_call (pc := 24) (As := [.int 45]) (rest := []) B hl rfl I (c_put hR e27) kw_put rfl (by decide) (by decide) rfl (by simp [Value.category]) d_putHead_24 (fun H locs I => ?_)
      exact w_putHead_27  B hR (lx_sub (lo' := [some (.ref h), some (.int p1), none, none]) hl (by simp [lx_le])) I hm
def m_holds (N : Nat) (p1 : Int32) (S : rS) : Option Int32 :=
  b1 (rL S 3 p1) (fun x1 => if x1 ≤ 4 then (some 0) else (some 1))
set_option maxRecDepth 100000 in
set_option maxHeartbeats 4000000 in
theorem c_holds {p1 : Int32} {S : rS} {r : Int32} (hR : RR b0 h Z) (hm : m_holds N p1 S = some r) : Ct l D vwCl (tyL dA) b0 Z y_holds (.code y_holds cb_holds 2 (some .boolean) :: wsA) 0 0 [.ref h, .int p1] (rH dA h S hp0) sz (some (.int r)) (rH dA h S hp0) 0 0 := by
  refine ct_of (cc := cb_holds) (maxL := 2) (ret := (some .boolean)) (lo0 := [some (.ref h), some (.int p1)]) hR.2 (by decide) rfl (by simp [lg_sl, Value.category]) rfl (by simp [lx_all, lv_args, Value.category]) ?_
  intro p e s m args below meth c ls B hnm hl I
  obtain ⟨hx, hb, -⟩ := B.1
  unfold m_holds at hm
  refine lv_aload_n (pc := 0) (i := 0) hx hb d_holds_0 rfl (lx_get hl rfl) ?_
  refine r_get (pc := 1) (k := 7) (index := 16) B I (by decide) mF_16 rfl rfl d_holds_1 ?_
  refine lv_iload_n (pc := 4) (i := 1) hx hb d_holds_4 rfl (lx_get hl rfl) ?_
  refine ob1 hm (fun x1 e2 hm => ?_)
  refine r_ald (pc := 5) (j := 3) B I (by decide) (by decide) e2 d_holds_5 ?_
  refine lv_iconst (pc := 6) (v := 4) hx hb d_holds_6 (by decide) ?_
  refine lv_icmp_le (pc := 7) (tgt := 14) hx hb d_holds_7 (by decide) (fun hc => ?_) (fun hc => ?_)
  · have hm := ift hc hm
    refine lv_iconst (pc := 14) (v := 0) hx hb d_holds_14 (by decide) ?_
    cases hm
    exact q_zret (pc := 15) B I rfl (by decide) d_holds_15
  · have hm := iff' hc hm
    refine lv_iconst (pc := 10) (v := 1) hx hb d_holds_10 (by decide) ?_
    refine lv_goto (pc := 11) (tgt := 15) hx hb d_holds_11 (by decide) ?_
    cases hm
    exact q_zret (pc := 15) B I rfl (by decide) d_holds_15
def m_putEntry_18 (N : Nat) (y1 : Int32) (S : rS) : Option rS :=
  b1 (m_putHead N y1 S) (fun S2 => some S2)
set_option maxRecDepth 100000 in
set_option maxHeartbeats 4000000 in
theorem w_putEntry_18 {y1 : Int32} {S : rS} (B : BX p m c cb_putEntry 2 s args (.code y_putEntry cb_putEntry 2 none :: wsA) RREF meth none D vwCl (tyL dA) b0 Z) (hR : RR b0 h Z) (hl : lx ls [some (.ref h), some (.int y1)]) (I : AI D vwCl b0 (rH dA h S hp0) sz s.heap H locs)  (hm : m_putEntry_18 N  y1 S = some S') : W p l e { frames := 3, cells := 0, slots := 0, locals := 68 } s m args below meth c H locs 0 0 (MQ below (CQ D vwCl b0 none (rH dA h S' hp0) sz) args s 0 0 (fun q => b0 ≤ q)) (F0 m 18 ls []) := by
  obtain ⟨hx, hb, -⟩ := B.1
  unfold m_putEntry_18 at hm
  refine lv_aload_n (pc := 18) (i := 0) hx hb d_putEntry_18 rfl (lx_get hl rfl) ?_
  refine lv_iload_n (pc := 19) (i := 1) hx hb d_putEntry_19 rfl (lx_get hl rfl) ?_
  refine ob1 hm (fun S2 e1 hm => ?_)
  refine r_call (pc := 20) (As := [.int y1]) (rest := []) B hl rfl I (c_putHead hR e1) kw_putHead rfl (by decide) (by decide) rfl (by simp [Value.category]) d_putEntry_20 (fun H locs I => ?_)
  cases hm
  exact q_vret (pc := 23) B I rfl d_putEntry_23
def m_putEntry (N : Nat) (p1 : Int32) (S : rS) : Option rS :=
  b1 (rL S 5 p1) (fun x1 => b1 (m_isTable N x1 S) (fun x4 => if x4 = 0 then (m_putEntry_18 N  p1 S) else (b1 (m_putKey N p1 S) (fun S6 => m_putEntry_18 N  p1 S6))))
set_option maxRecDepth 100000 in
set_option maxHeartbeats 4000000 in
theorem c_putEntry {p1 : Int32} {S S' : rS} (hR : RR b0 h Z) (hm : m_putEntry N p1 S = some S') : Ct l D vwCl (tyL dA) b0 Z y_putEntry (.code y_putEntry cb_putEntry 2 none :: wsA) 3 68 [.ref h, .int p1] (rH dA h S hp0) sz none (rH dA h S' hp0) 0 0 := by
  refine ct_of (cc := cb_putEntry) (maxL := 2) (ret := none) (lo0 := [some (.ref h), some (.int p1)]) hR.2 (by decide) rfl (by simp [lg_sl, Value.category]) rfl (by simp [lx_all, lv_args, Value.category]) ?_
  intro p e s m args below meth c ls B hnm hl I
  obtain ⟨hx, hb, -⟩ := B.1
  unfold m_putEntry at hm
  refine lv_aload_n (pc := 0) (i := 0) hx hb d_putEntry_0 rfl (lx_get hl rfl) ?_
  refine lv_aload_n (pc := 1) (i := 0) hx hb d_putEntry_1 rfl (lx_get hl rfl) ?_
  refine r_get (pc := 2) (k := 9) (index := 22) B I (by decide) mF_22 rfl rfl d_putEntry_2 ?_
  refine lv_iload_n (pc := 5) (i := 1) hx hb d_putEntry_5 rfl (lx_get hl rfl) ?_
  refine ob1 hm (fun x1 e2 hm => ?_)
  refine r_ald (pc := 6) (j := 5) B I (by decide) (by decide) e2 d_putEntry_6 ?_
  refine ob1 hm (fun x4 e3 hm => ?_)
  refine r_call (pc := 7) (As := [.int x1]) (rest := []) B hl rfl I (c_isTable hR e3) kw_isTable rfl (by decide) (by decide) rfl (by simp [Value.category]) d_putEntry_7 (fun H locs I => ?_)
  refine lv_if_eq (pc := 10) (tgt := 18) hx hb d_putEntry_10 (by decide) (fun hc => ?_) (fun hc => ?_)
  · have hm := ift hc hm
    exact w_putEntry_18  B hR hl I hm
  · have hm := iff' hc hm
    refine lv_aload_n (pc := 13) (i := 0) hx hb d_putEntry_13 rfl (lx_get hl rfl) ?_
    refine lv_iload_n (pc := 14) (i := 1) hx hb d_putEntry_14 rfl (lx_get hl rfl) ?_
    refine ob1 hm (fun S6 e5 hm => ?_)
    refine r_call (pc := 15) (As := [.int p1]) (rest := []) B hl rfl I (c_putKey hR e5) kw_putKey rfl (by decide) (by decide) rfl (by simp [Value.category]) d_putEntry_15 (fun H locs I => ?_)
    exact w_putEntry_18  B hR hl I hm
def m_putValue_116 (N : Nat) (K12 : Int32 → Int32 → Int32 → Int32 → rS → Option rS) (y1 : Int32) (y2 : Int32) (y4 : Int32) (z0 : Int32) (S : rS) : Option rS :=
  if z0 = 0 then (if y4 = 0 then (K12 y1 y2 z0 y4 S) else (b1 (rL S 5 y2) (fun x1 => K12 y1 x1 z0 y4 S))) else (b1 (m_put N 44 S) (fun S4 => b1 (m_put N 32 S4) (fun S6 => b1 (rL S6 8 y2) (fun x7 => b1 (m_putEntry N x7 S6) (fun S10 => K12 y1 x7 z0 y4 S10)))))
set_option maxRecDepth 100000 in
set_option maxHeartbeats 4000000 in
theorem w_putValue_116 {K12 : Int32 → Int32 → Int32 → Int32 → rS → Option rS} {y1 : Int32} {y2 : Int32} {y4 : Int32} {z0 : Int32} {S : rS} (hK12 : ∀ (y1 : Int32) (y2 : Int32) (y3 : Int32) (y4 : Int32) (S : rS) (ls : Array Slot) (H : Heap) (locs : List Loc), lx ls [some (.ref h), some (.int y1), some (.int y2), some (.int y3), some (.int y4)] → AI D vwCl b0 (rH dA h S hp0) sz s.heap H locs → K12 y1 y2 y3 y4 S = some S' → W p l e { frames := 4, cells := 0, slots := 0, locals := 89 } s m args below meth c H locs 0 0 (MQ below (CQ D vwCl b0 none (rH dA h S' hp0) sz) args s 0 0 (fun q => b0 ≤ q)) (F0 m 12 ls [])) (B : BX p m c cb_putValue 5 s args (.code y_putValue cb_putValue 5 none :: wsA) RREF meth none D vwCl (tyL dA) b0 Z) (hR : RR b0 h Z) (hl : lx ls [some (.ref h), some (.int y1), some (.int y2), none, some (.int y4)]) (I : AI D vwCl b0 (rH dA h S hp0) sz s.heap H locs)  (hm : m_putValue_116 N K12 y1 y2 y4 z0 S = some S') : W p l e { frames := 4, cells := 0, slots := 0, locals := 89 } s m args below meth c H locs 0 0 (MQ below (CQ D vwCl b0 none (rH dA h S' hp0) sz) args s 0 0 (fun q => b0 ≤ q)) (F0 m 116 ls [.int z0]) := by
  obtain ⟨hx, hb, -⟩ := B.1
  unfold m_putValue_116 at hm
  refine q_istore_n (pc := 116) (i := 3) (lo' := [some (.ref h), some (.int y1), some (.int y2), some (.int z0), some (.int y4)]) hx hb d_putValue_116 rfl hl (Nat.le_of_ble_eq_true rfl) (lx_ci rfl) rfl (fun ls hl => ?_)
  refine lv_iload_n (pc := 117) (i := 3) hx hb d_putValue_117 rfl (lx_get hl rfl) ?_
  refine lv_if_eq (pc := 118) (tgt := 148) hx hb d_putValue_118 (by decide) (fun hc => ?_) (fun hc => ?_)
  · have hm := ift hc hm
    refine lv_iload (pc := 148) (i := 4) hx hb d_putValue_148 (lx_get hl rfl) ?_
    refine lv_if_eq (pc := 150) (tgt := 12) hx hb d_putValue_150 (by decide) (fun hc => ?_) (fun hc => ?_)
    · have hm := ift hc hm
      exact hK12 _ _ _ _ _ _ _ _ hl I hm
    · have hm := iff' hc hm
      refine lv_aload_n (pc := 153) (i := 0) hx hb d_putValue_153 rfl (lx_get hl rfl) ?_
      refine r_get (pc := 154) (k := 9) (index := 22) B I (by decide) mF_22 rfl rfl d_putValue_154 ?_
      refine lv_iload_n (pc := 157) (i := 2) hx hb d_putValue_157 rfl (lx_get hl rfl) ?_
      refine ob1 hm (fun x1 e2 hm => ?_)
      refine r_ald (pc := 158) (j := 5) B I (by decide) (by decide) e2 d_putValue_158 ?_
      refine q_istore_n (pc := 159) (i := 2) (lo' := [some (.ref h), some (.int y1), some (.int x1), some (.int z0), some (.int y4)]) hx hb d_putValue_159 rfl hl (Nat.le_of_ble_eq_true rfl) (lx_ci rfl) rfl (fun ls hl => ?_)
      refine lv_goto (pc := 160) (tgt := 12) hx hb d_putValue_160 (by decide) ?_
      exact hK12 _ _ _ _ _ _ _ _ hl I hm
  · have hm := iff' hc hm
    refine lv_aload_n (pc := 121) (i := 0) hx hb d_putValue_121 rfl (lx_get hl rfl) ?_
    refine lv_bipush (pc := 122) (v := 44) hx hb d_putValue_122 (by decide) ?_
    refine ob1 hm (fun S4 e3 hm => ?_)
    refine r_call (pc := 124) (As := [.int 44]) (rest := []) B hl rfl I (c_put hR e3) kw_put rfl (by decide) (by decide) rfl (by simp [Value.category]) d_putValue_124 (fun H locs I => ?_)
    refine lv_aload_n (pc := 127) (i := 0) hx hb d_putValue_127 rfl (lx_get hl rfl) ?_
    refine lv_bipush (pc := 128) (v := 32) hx hb d_putValue_128 (by decide) ?_
    refine ob1 hm (fun S6 e5 hm => ?_)
    refine r_call (pc := 130) (As := [.int 32]) (rest := []) B hl rfl I (c_put hR e5) kw_put rfl (by decide) (by decide) rfl (by simp [Value.category]) d_putValue_130 (fun H locs I => ?_)
    refine lv_aload_n (pc := 133) (i := 0) hx hb d_putValue_133 rfl (lx_get hl rfl) ?_
    refine r_get (pc := 134) (k := 12) (index := 31) B I (by decide) mF_31 rfl rfl d_putValue_134 ?_
    refine lv_iload_n (pc := 137) (i := 2) hx hb d_putValue_137 rfl (lx_get hl rfl) ?_
    refine ob1 hm (fun x7 e8 hm => ?_)
    refine r_ald (pc := 138) (j := 8) B I (by decide) (by decide) e8 d_putValue_138 ?_
    refine q_istore_n (pc := 139) (i := 2) (lo' := [some (.ref h), some (.int y1), some (.int x7), some (.int z0), some (.int y4)]) hx hb d_putValue_139 rfl hl (Nat.le_of_ble_eq_true rfl) (lx_ci rfl) rfl (fun ls hl => ?_)
    refine lv_aload_n (pc := 140) (i := 0) hx hb d_putValue_140 rfl (lx_get hl rfl) ?_
    refine lv_iload_n (pc := 141) (i := 2) hx hb d_putValue_141 rfl (lx_get hl rfl) ?_
    refine ob1 hm (fun S10 e9 hm => ?_)
    refine r_call (pc := 142) (As := [.int x7]) (rest := []) B hl rfl I (c_putEntry hR e9) kw_putEntry rfl (by decide) (by decide) rfl (by simp [Value.category]) d_putValue_142 (fun H locs I => ?_)
    refine lv_goto (pc := 145) (tgt := 12) hx hb d_putValue_145 (by decide) ?_
    exact hK12 _ _ _ _ _ _ _ _ hl I hm
def m_putValue_115 (N : Nat) (K12 : Int32 → Int32 → Int32 → Int32 → rS → Option rS) (y1 : Int32) (y2 : Int32) (y4 : Int32) (S : rS) : Option rS :=
  m_putValue_116 N K12 y1 y2 y4 0 S
set_option maxRecDepth 100000 in
set_option maxHeartbeats 4000000 in
theorem w_putValue_115 {K12 : Int32 → Int32 → Int32 → Int32 → rS → Option rS} {y1 : Int32} {y2 : Int32} {y4 : Int32} {S : rS} (hK12 : ∀ (y1 : Int32) (y2 : Int32) (y3 : Int32) (y4 : Int32) (S : rS) (ls : Array Slot) (H : Heap) (locs : List Loc), lx ls [some (.ref h), some (.int y1), some (.int y2), some (.int y3), some (.int y4)] → AI D vwCl b0 (rH dA h S hp0) sz s.heap H locs → K12 y1 y2 y3 y4 S = some S' → W p l e { frames := 4, cells := 0, slots := 0, locals := 89 } s m args below meth c H locs 0 0 (MQ below (CQ D vwCl b0 none (rH dA h S' hp0) sz) args s 0 0 (fun q => b0 ≤ q)) (F0 m 12 ls [])) (B : BX p m c cb_putValue 5 s args (.code y_putValue cb_putValue 5 none :: wsA) RREF meth none D vwCl (tyL dA) b0 Z) (hR : RR b0 h Z) (hl : lx ls [some (.ref h), some (.int y1), some (.int y2), none, some (.int y4)]) (I : AI D vwCl b0 (rH dA h S hp0) sz s.heap H locs)  (hm : m_putValue_115 N K12 y1 y2 y4 S = some S') : W p l e { frames := 4, cells := 0, slots := 0, locals := 89 } s m args below meth c H locs 0 0 (MQ below (CQ D vwCl b0 none (rH dA h S' hp0) sz) args s 0 0 (fun q => b0 ≤ q)) (F0 m 115 ls []) := by
  obtain ⟨hx, hb, -⟩ := B.1
  unfold m_putValue_115 at hm
  refine lv_iconst (pc := 115) (v := 0) hx hb d_putValue_115 (by decide) ?_
  exact w_putValue_116 hK12 B hR hl I hm
def m_putValue_94 (N : Nat) (K12 : Int32 → Int32 → Int32 → Int32 → rS → Option rS) (y1 : Int32) (y2 : Int32) (z0 : Int32) (S : rS) : Option rS :=
  if z0 = 0 then (m_putValue_115 N K12 y1 y2 z0 S) else (b1 (rL S 8 y2) (fun x1 => if x1 = (-1) then (m_putValue_115 N K12 y1 y2 z0 S) else (m_putValue_116 N K12 y1 y2 z0 1 S)))
set_option maxRecDepth 100000 in
set_option maxHeartbeats 4000000 in
theorem w_putValue_94 {K12 : Int32 → Int32 → Int32 → Int32 → rS → Option rS} {y1 : Int32} {y2 : Int32} {z0 : Int32} {S : rS} (hK12 : ∀ (y1 : Int32) (y2 : Int32) (y3 : Int32) (y4 : Int32) (S : rS) (ls : Array Slot) (H : Heap) (locs : List Loc), lx ls [some (.ref h), some (.int y1), some (.int y2), some (.int y3), some (.int y4)] → AI D vwCl b0 (rH dA h S hp0) sz s.heap H locs → K12 y1 y2 y3 y4 S = some S' → W p l e { frames := 4, cells := 0, slots := 0, locals := 89 } s m args below meth c H locs 0 0 (MQ below (CQ D vwCl b0 none (rH dA h S' hp0) sz) args s 0 0 (fun q => b0 ≤ q)) (F0 m 12 ls [])) (B : BX p m c cb_putValue 5 s args (.code y_putValue cb_putValue 5 none :: wsA) RREF meth none D vwCl (tyL dA) b0 Z) (hR : RR b0 h Z) (hl : lx ls [some (.ref h), some (.int y1), some (.int y2), none, none]) (I : AI D vwCl b0 (rH dA h S hp0) sz s.heap H locs)  (hm : m_putValue_94 N K12 y1 y2 z0 S = some S') : W p l e { frames := 4, cells := 0, slots := 0, locals := 89 } s m args below meth c H locs 0 0 (MQ below (CQ D vwCl b0 none (rH dA h S' hp0) sz) args s 0 0 (fun q => b0 ≤ q)) (F0 m 94 ls [.int z0]) := by
  obtain ⟨hx, hb, -⟩ := B.1
  unfold m_putValue_94 at hm
  refine q_istore (pc := 94) (i := 4) (lo' := [some (.ref h), some (.int y1), some (.int y2), none, some (.int z0)]) hx hb d_putValue_94 hl (Nat.le_of_ble_eq_true rfl) (lx_cn rfl) rfl (fun ls hl => ?_)
  refine lv_iload (pc := 96) (i := 4) hx hb d_putValue_96 (lx_get hl rfl) ?_
  refine lv_if_eq (pc := 98) (tgt := 115) hx hb d_putValue_98 (by decide) (fun hc => ?_) (fun hc => ?_)
  · have hm := ift hc hm
    exact w_putValue_115 hK12 B hR hl I hm
  · have hm := iff' hc hm
    refine lv_aload_n (pc := 101) (i := 0) hx hb d_putValue_101 rfl (lx_get hl rfl) ?_
    refine r_get (pc := 102) (k := 12) (index := 31) B I (by decide) mF_31 rfl rfl d_putValue_102 ?_
    refine lv_iload_n (pc := 105) (i := 2) hx hb d_putValue_105 rfl (lx_get hl rfl) ?_
    refine ob1 hm (fun x1 e2 hm => ?_)
    refine r_ald (pc := 106) (j := 8) B I (by decide) (by decide) e2 d_putValue_106 ?_
    refine lv_iconst (pc := 107) (v := (-1)) hx hb d_putValue_107 (by decide) ?_
    refine lv_icmp_eq (pc := 108) (tgt := 115) hx hb d_putValue_108 (by decide) (fun hc => ?_) (fun hc => ?_)
    · have hm := ift hc hm
      exact w_putValue_115 hK12 B hR hl I hm
    · have hm := iff' hc hm
      refine lv_iconst (pc := 111) (v := 1) hx hb d_putValue_111 (by decide) ?_
      refine lv_goto (pc := 112) (tgt := 116) hx hb d_putValue_112 (by decide) ?_
      exact w_putValue_116 hK12 B hR hl I hm
def m_putValue_84 (N : Nat) (K12 : Int32 → Int32 → Int32 → Int32 → rS → Option rS) (y1 : Int32) (y2 : Int32) (S : rS) : Option rS :=
  if y2 = y1 then (m_putValue_94 N K12 y1 y2 0 S) else (m_putValue_94 N K12 y1 y2 1 S)
set_option maxRecDepth 100000 in
set_option maxHeartbeats 4000000 in
theorem w_putValue_84 {K12 : Int32 → Int32 → Int32 → Int32 → rS → Option rS} {y1 : Int32} {y2 : Int32} {S : rS} (hK12 : ∀ (y1 : Int32) (y2 : Int32) (y3 : Int32) (y4 : Int32) (S : rS) (ls : Array Slot) (H : Heap) (locs : List Loc), lx ls [some (.ref h), some (.int y1), some (.int y2), some (.int y3), some (.int y4)] → AI D vwCl b0 (rH dA h S hp0) sz s.heap H locs → K12 y1 y2 y3 y4 S = some S' → W p l e { frames := 4, cells := 0, slots := 0, locals := 89 } s m args below meth c H locs 0 0 (MQ below (CQ D vwCl b0 none (rH dA h S' hp0) sz) args s 0 0 (fun q => b0 ≤ q)) (F0 m 12 ls [])) (B : BX p m c cb_putValue 5 s args (.code y_putValue cb_putValue 5 none :: wsA) RREF meth none D vwCl (tyL dA) b0 Z) (hR : RR b0 h Z) (hl : lx ls [some (.ref h), some (.int y1), some (.int y2), none, none]) (I : AI D vwCl b0 (rH dA h S hp0) sz s.heap H locs)  (hm : m_putValue_84 N K12 y1 y2 S = some S') : W p l e { frames := 4, cells := 0, slots := 0, locals := 89 } s m args below meth c H locs 0 0 (MQ below (CQ D vwCl b0 none (rH dA h S' hp0) sz) args s 0 0 (fun q => b0 ≤ q)) (F0 m 84 ls []) := by
  obtain ⟨hx, hb, -⟩ := B.1
  unfold m_putValue_84 at hm
  refine lv_iload_n (pc := 84) (i := 2) hx hb d_putValue_84 rfl (lx_get hl rfl) ?_
  refine lv_iload_n (pc := 85) (i := 1) hx hb d_putValue_85 rfl (lx_get hl rfl) ?_
  refine lv_icmp_eq (pc := 86) (tgt := 93) hx hb d_putValue_86 (by decide) (fun hc => ?_) (fun hc => ?_)
  · have hm := ift hc hm
    refine lv_iconst (pc := 93) (v := 0) hx hb d_putValue_93 (by decide) ?_
    exact w_putValue_94 hK12 B hR hl I hm
  · have hm := iff' hc hm
    refine lv_iconst (pc := 89) (v := 1) hx hb d_putValue_89 (by decide) ?_
    refine lv_goto (pc := 90) (tgt := 94) hx hb d_putValue_90 (by decide) ?_
    exact w_putValue_94 hK12 B hR hl I hm
def m_putValue_81 (N : Nat) (K12 : Int32 → Int32 → Int32 → Int32 → rS → Option rS) (y1 : Int32) (y2 : Int32) (z1 : Int32) (S : rS) : Option rS :=
  b1 (m_put N z1 S) (fun S2 => m_putValue_84 N K12 y1 y2 S2)
set_option maxRecDepth 100000 in
set_option maxHeartbeats 4000000 in
theorem w_putValue_81 {K12 : Int32 → Int32 → Int32 → Int32 → rS → Option rS} {y1 : Int32} {y2 : Int32} {z1 : Int32} {S : rS} (hK12 : ∀ (y1 : Int32) (y2 : Int32) (y3 : Int32) (y4 : Int32) (S : rS) (ls : Array Slot) (H : Heap) (locs : List Loc), lx ls [some (.ref h), some (.int y1), some (.int y2), some (.int y3), some (.int y4)] → AI D vwCl b0 (rH dA h S hp0) sz s.heap H locs → K12 y1 y2 y3 y4 S = some S' → W p l e { frames := 4, cells := 0, slots := 0, locals := 89 } s m args below meth c H locs 0 0 (MQ below (CQ D vwCl b0 none (rH dA h S' hp0) sz) args s 0 0 (fun q => b0 ≤ q)) (F0 m 12 ls [])) (B : BX p m c cb_putValue 5 s args (.code y_putValue cb_putValue 5 none :: wsA) RREF meth none D vwCl (tyL dA) b0 Z) (hR : RR b0 h Z) (hl : lx ls [some (.ref h), some (.int y1), some (.int y2), none, none]) (I : AI D vwCl b0 (rH dA h S hp0) sz s.heap H locs)  (hm : m_putValue_81 N K12 y1 y2 z1 S = some S') : W p l e { frames := 4, cells := 0, slots := 0, locals := 89 } s m args below meth c H locs 0 0 (MQ below (CQ D vwCl b0 none (rH dA h S' hp0) sz) args s 0 0 (fun q => b0 ≤ q)) (F0 m 81 ls [.int z1, .ref h]) := by
  obtain ⟨hx, hb, -⟩ := B.1
  unfold m_putValue_81 at hm
  refine ob1 hm (fun S2 e1 hm => ?_)
  refine r_call (pc := 81) (As := [.int z1]) (rest := []) B hl rfl I (c_put hR e1) kw_put rfl (by decide) (by decide) rfl (by simp [Value.category]) d_putValue_81 (fun H locs I => ?_)
  exact w_putValue_84 hK12 B hR hl I hm
def m_putValue_54 (N : Nat) (K12 : Int32 → Int32 → Int32 → Int32 → rS → Option rS) (y1 : Int32) (y2 : Int32) (S : rS) : Option rS :=
  b1 (m_holds N y2 S) (fun x2 => if x2 = 0 then (m_putValue_84 N K12 y1 y2 S) else (b1 (rL S 3 y2) (fun x3 => if x3 ≤ 6 then (m_putValue_81 N K12 y1 y2 93 S) else (m_putValue_81 N K12 y1 y2 125 S))))
set_option maxRecDepth 100000 in
set_option maxHeartbeats 4000000 in
theorem w_putValue_54 {K12 : Int32 → Int32 → Int32 → Int32 → rS → Option rS} {y1 : Int32} {y2 : Int32} {S : rS} (hK12 : ∀ (y1 : Int32) (y2 : Int32) (y3 : Int32) (y4 : Int32) (S : rS) (ls : Array Slot) (H : Heap) (locs : List Loc), lx ls [some (.ref h), some (.int y1), some (.int y2), some (.int y3), some (.int y4)] → AI D vwCl b0 (rH dA h S hp0) sz s.heap H locs → K12 y1 y2 y3 y4 S = some S' → W p l e { frames := 4, cells := 0, slots := 0, locals := 89 } s m args below meth c H locs 0 0 (MQ below (CQ D vwCl b0 none (rH dA h S' hp0) sz) args s 0 0 (fun q => b0 ≤ q)) (F0 m 12 ls [])) (B : BX p m c cb_putValue 5 s args (.code y_putValue cb_putValue 5 none :: wsA) RREF meth none D vwCl (tyL dA) b0 Z) (hR : RR b0 h Z) (hl : lx ls [some (.ref h), some (.int y1), some (.int y2), none, none]) (I : AI D vwCl b0 (rH dA h S hp0) sz s.heap H locs)  (hm : m_putValue_54 N K12 y1 y2 S = some S') : W p l e { frames := 4, cells := 0, slots := 0, locals := 89 } s m args below meth c H locs 0 0 (MQ below (CQ D vwCl b0 none (rH dA h S' hp0) sz) args s 0 0 (fun q => b0 ≤ q)) (F0 m 54 ls []) := by
  obtain ⟨hx, hb, -⟩ := B.1
  unfold m_putValue_54 at hm
  refine lv_aload_n (pc := 54) (i := 0) hx hb d_putValue_54 rfl (lx_get hl rfl) ?_
  refine lv_iload_n (pc := 55) (i := 2) hx hb d_putValue_55 rfl (lx_get hl rfl) ?_
  refine ob1 hm (fun x2 e1 hm => ?_)
  refine r_call (pc := 56) (As := [.int y2]) (rest := []) B hl rfl I (c_holds hR e1) kw_holds rfl (by decide) (by decide) rfl (by simp [Value.category]) d_putValue_56 (fun H locs I => ?_)
  refine lv_if_eq (pc := 59) (tgt := 84) hx hb d_putValue_59 (by decide) (fun hc => ?_) (fun hc => ?_)
  · have hm := ift hc hm
    exact w_putValue_84 hK12 B hR hl I hm
  · have hm := iff' hc hm
    refine lv_aload_n (pc := 62) (i := 0) hx hb d_putValue_62 rfl (lx_get hl rfl) ?_
    refine lv_aload_n (pc := 63) (i := 0) hx hb d_putValue_63 rfl (lx_get hl rfl) ?_
    refine r_get (pc := 64) (k := 7) (index := 16) B I (by decide) mF_16 rfl rfl d_putValue_64 ?_
    refine lv_iload_n (pc := 67) (i := 2) hx hb d_putValue_67 rfl (lx_get hl rfl) ?_
    refine ob1 hm (fun x3 e4 hm => ?_)
    refine r_ald (pc := 68) (j := 3) B I (by decide) (by decide) e4 d_putValue_68 ?_
    refine lv_bipush (pc := 69) (v := 6) hx hb d_putValue_69 (by decide) ?_
    refine lv_icmp_le (pc := 71) (tgt := 79) hx hb d_putValue_71 (by decide) (fun hc => ?_) (fun hc => ?_)
    · have hm := ift hc hm
      refine lv_bipush (pc := 79) (v := 93) hx hb d_putValue_79 (by decide) ?_
      exact w_putValue_81 hK12 B hR hl I hm
    · have hm := iff' hc hm
      refine lv_bipush (pc := 74) (v := 125) hx hb d_putValue_74 (by decide) ?_
      refine lv_goto (pc := 76) (tgt := 81) hx hb d_putValue_76 (by decide) ?_
      exact w_putValue_81 hK12 B hR hl I hm
def m_putValue_12F (N : Nat) (K12 : Int32 → Int32 → Int32 → Int32 → rS → Option rS) (y1 : Int32) (y2 : Int32) (y3 : Int32) (y4 : Int32) (S : rS) : Option rS :=
  if y4 = 0 then (some S) else (if y3 = 0 then (m_putValue_54 N K12 y1 y2 S) else (b1 (m_holds N y2 S) (fun x2 => if x2 = 0 then (m_putValue_54 N K12 y1 y2 S) else (b1 (rL S 6 y2) (fun x3 => if x3 = (-1) then (m_putValue_54 N K12 y1 y2 S) else (b1 (rL S 6 y2) (fun x5 => b1 (m_putEntry N x5 S) (fun S8 => K12 y1 x5 y3 y4 S8))))))))
def m_putValue_12 (N : Nat) : Nat → Int32 → Int32 → Int32 → Int32 → rS → Option rS
  | 0, _, _, _, _, _ => none
  | k + 1, y1, y2, y3, y4, S => m_putValue_12F N  (m_putValue_12 N  k) y1 y2 y3 y4 S
set_option maxRecDepth 100000 in
set_option maxHeartbeats 4000000 in
theorem w_putValue_12F {K12 : Int32 → Int32 → Int32 → Int32 → rS → Option rS} {y1 : Int32} {y2 : Int32} {y3 : Int32} {y4 : Int32} {S : rS} (hK12 : ∀ (y1 : Int32) (y2 : Int32) (y3 : Int32) (y4 : Int32) (S : rS) (ls : Array Slot) (H : Heap) (locs : List Loc), lx ls [some (.ref h), some (.int y1), some (.int y2), some (.int y3), some (.int y4)] → AI D vwCl b0 (rH dA h S hp0) sz s.heap H locs → K12 y1 y2 y3 y4 S = some S' → W p l e { frames := 4, cells := 0, slots := 0, locals := 89 } s m args below meth c H locs 0 0 (MQ below (CQ D vwCl b0 none (rH dA h S' hp0) sz) args s 0 0 (fun q => b0 ≤ q)) (F0 m 12 ls [])) (B : BX p m c cb_putValue 5 s args (.code y_putValue cb_putValue 5 none :: wsA) RREF meth none D vwCl (tyL dA) b0 Z) (hR : RR b0 h Z) (hl : lx ls [some (.ref h), some (.int y1), some (.int y2), some (.int y3), some (.int y4)]) (I : AI D vwCl b0 (rH dA h S hp0) sz s.heap H locs)  (hm : m_putValue_12F N  K12 y1 y2 y3 y4 S = some S') : W p l e { frames := 4, cells := 0, slots := 0, locals := 89 } s m args below meth c H locs 0 0 (MQ below (CQ D vwCl b0 none (rH dA h S' hp0) sz) args s 0 0 (fun q => b0 ≤ q)) (F0 m 12 ls []) := by
  obtain ⟨hx, hb, -⟩ := B.1
  unfold m_putValue_12F at hm
  refine lv_iload (pc := 12) (i := 4) hx hb d_putValue_12 (lx_get hl rfl) ?_
  refine lv_if_eq (pc := 14) (tgt := 163) hx hb d_putValue_14 (by decide) (fun hc => ?_) (fun hc => ?_)
  · have hm := ift hc hm
    cases hm
    exact q_vret (pc := 163) B I rfl d_putValue_163
  · have hm := iff' hc hm
    refine lv_iload_n (pc := 17) (i := 3) hx hb d_putValue_17 rfl (lx_get hl rfl) ?_
    refine lv_if_eq (pc := 18) (tgt := 54) hx hb d_putValue_18 (by decide) (fun hc => ?_) (fun hc => ?_)
    · have hm := ift hc hm
      exact w_putValue_54 hK12 B hR (lx_sub (lo' := [some (.ref h), some (.int y1), some (.int y2), none, none]) hl (by simp [lx_le])) I hm
    · have hm := iff' hc hm
      refine lv_aload_n (pc := 21) (i := 0) hx hb d_putValue_21 rfl (lx_get hl rfl) ?_
      refine lv_iload_n (pc := 22) (i := 2) hx hb d_putValue_22 rfl (lx_get hl rfl) ?_
      refine ob1 hm (fun x2 e1 hm => ?_)
      refine r_call (pc := 23) (As := [.int y2]) (rest := []) B hl rfl I (c_holds hR e1) kw_holds rfl (by decide) (by decide) rfl (by simp [Value.category]) d_putValue_23 (fun H locs I => ?_)
      refine lv_if_eq (pc := 26) (tgt := 54) hx hb d_putValue_26 (by decide) (fun hc => ?_) (fun hc => ?_)
      · have hm := ift hc hm
        exact w_putValue_54 hK12 B hR (lx_sub (lo' := [some (.ref h), some (.int y1), some (.int y2), none, none]) hl (by simp [lx_le])) I hm
      · have hm := iff' hc hm
        refine lv_aload_n (pc := 29) (i := 0) hx hb d_putValue_29 rfl (lx_get hl rfl) ?_
        refine r_get (pc := 30) (k := 10) (index := 25) B I (by decide) mF_25 rfl rfl d_putValue_30 ?_
        refine lv_iload_n (pc := 33) (i := 2) hx hb d_putValue_33 rfl (lx_get hl rfl) ?_
        refine ob1 hm (fun x3 e4 hm => ?_)
        refine r_ald (pc := 34) (j := 6) B I (by decide) (by decide) e4 d_putValue_34 ?_
        refine lv_iconst (pc := 35) (v := (-1)) hx hb d_putValue_35 (by decide) ?_
        refine lv_icmp_eq (pc := 36) (tgt := 54) hx hb d_putValue_36 (by decide) (fun hc => ?_) (fun hc => ?_)
        · have hm := ift hc hm
          exact w_putValue_54 hK12 B hR (lx_sub (lo' := [some (.ref h), some (.int y1), some (.int y2), none, none]) hl (by simp [lx_le])) I hm
        · have hm := iff' hc hm
          refine lv_aload_n (pc := 39) (i := 0) hx hb d_putValue_39 rfl (lx_get hl rfl) ?_
          refine r_get (pc := 40) (k := 10) (index := 25) B I (by decide) mF_25 rfl rfl d_putValue_40 ?_
          refine lv_iload_n (pc := 43) (i := 2) hx hb d_putValue_43 rfl (lx_get hl rfl) ?_
          refine ob1 hm (fun x5 e6 hm => ?_)
          refine r_ald (pc := 44) (j := 6) B I (by decide) (by decide) e6 d_putValue_44 ?_
          refine q_istore_n (pc := 45) (i := 2) (lo' := [some (.ref h), some (.int y1), some (.int x5), some (.int y3), some (.int y4)]) hx hb d_putValue_45 rfl hl (Nat.le_of_ble_eq_true rfl) (lx_ci rfl) rfl (fun ls hl => ?_)
          refine lv_aload_n (pc := 46) (i := 0) hx hb d_putValue_46 rfl (lx_get hl rfl) ?_
          refine lv_iload_n (pc := 47) (i := 2) hx hb d_putValue_47 rfl (lx_get hl rfl) ?_
          refine ob1 hm (fun S8 e7 hm => ?_)
          refine r_call (pc := 48) (As := [.int x5]) (rest := []) B hl rfl I (c_putEntry hR e7) kw_putEntry rfl (by decide) (by decide) rfl (by simp [Value.category]) d_putValue_48 (fun H locs I => ?_)
          refine lv_goto (pc := 51) (tgt := 12) hx hb d_putValue_51 (by decide) ?_
          exact hK12 _ _ _ _ _ _ _ _ hl I hm
set_option maxRecDepth 100000 in
set_option maxHeartbeats 4000000 in
theorem w_putValue_12i (B : BX p m c cb_putValue 5 s args (.code y_putValue cb_putValue 5 none :: wsA) RREF meth none D vwCl (tyL dA) b0 Z) (hR : RR b0 h Z) (k : Nat) (y1 : Int32) (y2 : Int32) (y3 : Int32) (y4 : Int32) (S : rS) (ls : Array Slot) (H : Heap) (locs : List Loc) (hl : lx ls [some (.ref h), some (.int y1), some (.int y2), some (.int y3), some (.int y4)]) (I : AI D vwCl b0 (rH dA h S hp0) sz s.heap H locs)  (hm : m_putValue_12 N  k y1 y2 y3 y4 S = some S') : W p l e { frames := 4, cells := 0, slots := 0, locals := 89 } s m args below meth c H locs 0 0 (MQ below (CQ D vwCl b0 none (rH dA h S' hp0) sz) args s 0 0 (fun q => b0 ≤ q)) (F0 m 12 ls []) := by
  induction k generalizing y1 y2 y3 y4 S ls H locs with
  | zero => cases hm
  | succ k ih => exact w_putValue_12F  (fun y1 y2 y3 y4 S ls H locs hl I hm => ih y1 y2 y3 y4 S ls H locs hl I hm) B hR hl I hm
theorem w_putValue_12 {y1 : Int32} {y2 : Int32} {y3 : Int32} {y4 : Int32} {S : rS} (B : BX p m c cb_putValue 5 s args (.code y_putValue cb_putValue 5 none :: wsA) RREF meth none D vwCl (tyL dA) b0 Z) (hR : RR b0 h Z) (hl : lx ls [some (.ref h), some (.int y1), some (.int y2), some (.int y3), some (.int y4)]) (I : AI D vwCl b0 (rH dA h S hp0) sz s.heap H locs)  {k : Nat} (hm : m_putValue_12 N  k y1 y2 y3 y4 S = some S') : W p l e { frames := 4, cells := 0, slots := 0, locals := 89 } s m args below meth c H locs 0 0 (MQ below (CQ D vwCl b0 none (rH dA h S' hp0) sz) args s 0 0 (fun q => b0 ≤ q)) (F0 m 12 ls []) := w_putValue_12i  B hR k _ _ _ _ S ls H locs hl I hm
def m_putValue (N : Nat) (p1 : Int32) (S : rS) : Option rS :=
  b1 (m_putHead N p1 S) (fun S2 => m_putValue_12 N  N p1 p1 1 1 S2)
set_option maxRecDepth 100000 in
set_option maxHeartbeats 4000000 in
theorem c_putValue {p1 : Int32} {S S' : rS} (hR : RR b0 h Z) (hm : m_putValue N p1 S = some S') : Ct l D vwCl (tyL dA) b0 Z y_putValue (.code y_putValue cb_putValue 5 none :: wsA) 4 89 [.ref h, .int p1] (rH dA h S hp0) sz none (rH dA h S' hp0) 0 0 := by
  refine ct_of (cc := cb_putValue) (maxL := 5) (ret := none) (lo0 := [some (.ref h), some (.int p1), none, none, none]) hR.2 (by decide) rfl (by simp [lg_sl, Value.category]) rfl (by simp [lx_all, lv_args, Value.category]) ?_
  intro p e s m args below meth c ls B hnm hl I
  obtain ⟨hx, hb, -⟩ := B.1
  unfold m_putValue at hm
  refine lv_iload_n (pc := 0) (i := 1) hx hb d_putValue_0 rfl (lx_get hl rfl) ?_
  refine q_istore_n (pc := 1) (i := 2) (lo' := [some (.ref h), some (.int p1), some (.int p1), none, none]) hx hb d_putValue_1 rfl hl (Nat.le_of_ble_eq_true rfl) (lx_ci rfl) rfl (fun ls hl => ?_)
  refine lv_aload_n (pc := 2) (i := 0) hx hb d_putValue_2 rfl (lx_get hl rfl) ?_
  refine lv_iload_n (pc := 3) (i := 2) hx hb d_putValue_3 rfl (lx_get hl rfl) ?_
  refine ob1 hm (fun S2 e1 hm => ?_)
  refine r_call (pc := 4) (As := [.int p1]) (rest := []) B hl rfl I (c_putHead hR e1) kw_putHead rfl (by decide) (by decide) rfl (by simp [Value.category]) d_putValue_4 (fun H locs I => ?_)
  refine lv_iconst (pc := 7) (v := 1) hx hb d_putValue_7 (by decide) ?_
  refine q_istore_n (pc := 8) (i := 3) (lo' := [some (.ref h), some (.int p1), some (.int p1), some (.int 1), none]) hx hb d_putValue_8 rfl hl (Nat.le_of_ble_eq_true rfl) (lx_ci rfl) rfl (fun ls hl => ?_)
  refine lv_iconst (pc := 9) (v := 1) hx hb d_putValue_9 (by decide) ?_
  refine q_istore (pc := 10) (i := 4) (lo' := [some (.ref h), some (.int p1), some (.int p1), some (.int 1), some (.int 1)]) hx hb d_putValue_10 hl (Nat.le_of_ble_eq_true rfl) (lx_ci rfl) rfl (fun ls hl => ?_)
  exact w_putValue_12  B hR hl I hm
def m_write_24F (N : Nat) (K24 : Int32 → rS → Option (Int32 × rS)) (y1 : Int32) (S : rS) : Option (Int32 × rS) :=
  if y1 = (-1) then (some (S.1 29, S)) else (b1 (m_putKey N y1 S) (fun S2 => b1 (m_putValue N y1 S2) (fun S4 => b1 (m_put N 10 S4) (fun S6 => b1 (rL S6 8 y1) (fun x7 => K24 x7 S6)))))
def m_write_24 (N : Nat) : Nat → Int32 → rS → Option (Int32 × rS)
  | 0, _, _ => none
  | k + 1, y1, S => m_write_24F N  (m_write_24 N  k) y1 S
set_option maxRecDepth 100000 in
set_option maxHeartbeats 4000000 in
theorem w_write_24F {K24 : Int32 → rS → Option (Int32 × rS)} {y1 : Int32} {S : rS} (hK24 : ∀ (y1 : Int32) (S : rS) (ls : Array Slot) (H : Heap) (locs : List Loc), lx ls [some (.ref h), some (.int y1)] → AI D vwCl b0 (rH dA h S hp0) sz s.heap H locs → K24 y1 S = some (r, S') → W p l e { frames := 5, cells := 0, slots := 0, locals := 113 } s m args below meth c H locs 0 0 (MQ below (CQ D vwCl b0 (some (.int r)) (rH dA h S' hp0) sz) args s 0 0 (fun q => b0 ≤ q)) (F0 m 24 ls [])) (B : BX p m c cb_write 2 s args (.code y_write cb_write 2 (some .int) :: wsA) RREF meth (some .int) D vwCl (tyL dA) b0 Z) (hR : RR b0 h Z) (hl : lx ls [some (.ref h), some (.int y1)]) (I : AI D vwCl b0 (rH dA h S hp0) sz s.heap H locs)  (hm : m_write_24F N  K24 y1 S = some (r, S')) : W p l e { frames := 5, cells := 0, slots := 0, locals := 113 } s m args below meth c H locs 0 0 (MQ below (CQ D vwCl b0 (some (.int r)) (rH dA h S' hp0) sz) args s 0 0 (fun q => b0 ≤ q)) (F0 m 24 ls []) := by
  obtain ⟨hx, hb, -⟩ := B.1
  unfold m_write_24F at hm
  refine lv_iload_n (pc := 24) (i := 1) hx hb d_write_24 rfl (lx_get hl rfl) ?_
  refine lv_iconst (pc := 25) (v := (-1)) hx hb d_write_25 (by decide) ?_
  refine lv_icmp_eq (pc := 26) (tgt := 55) hx hb d_write_26 (by decide) (fun hc => ?_) (fun hc => ?_)
  · have hm := ift hc hm
    refine lv_aload_n (pc := 55) (i := 0) hx hb d_write_55 rfl (lx_get hl rfl) ?_
    refine r_get (pc := 56) (k := 29) (index := 219) B I (by decide) mF_219 rfl rfl d_write_56 ?_
    cases hm
    exact q_iret (pc := 59) B I rfl d_write_59
  · have hm := iff' hc hm
    refine lv_aload_n (pc := 29) (i := 0) hx hb d_write_29 rfl (lx_get hl rfl) ?_
    refine lv_iload_n (pc := 30) (i := 1) hx hb d_write_30 rfl (lx_get hl rfl) ?_
    refine ob1 hm (fun S2 e1 hm => ?_)
    refine r_call (pc := 31) (As := [.int y1]) (rest := []) B hl rfl I (c_putKey hR e1) kw_putKey rfl (by decide) (by decide) rfl (by simp [Value.category]) d_write_31 (fun H locs I => ?_)
    refine lv_aload_n (pc := 34) (i := 0) hx hb d_write_34 rfl (lx_get hl rfl) ?_
    refine lv_iload_n (pc := 35) (i := 1) hx hb d_write_35 rfl (lx_get hl rfl) ?_
    refine ob1 hm (fun S4 e3 hm => ?_)
    refine r_call (pc := 36) (As := [.int y1]) (rest := []) B hl rfl I (c_putValue hR e3) kw_putValue rfl (by decide) (by decide) rfl (by simp [Value.category]) d_write_36 (fun H locs I => ?_)
    refine lv_aload_n (pc := 39) (i := 0) hx hb d_write_39 rfl (lx_get hl rfl) ?_
    refine lv_bipush (pc := 40) (v := 10) hx hb d_write_40 (by decide) ?_
    refine ob1 hm (fun S6 e5 hm => ?_)
    refine r_call (pc := 42) (As := [.int 10]) (rest := []) B hl rfl I (c_put hR e5) kw_put rfl (by decide) (by decide) rfl (by simp [Value.category]) d_write_42 (fun H locs I => ?_)
    refine lv_aload_n (pc := 45) (i := 0) hx hb d_write_45 rfl (lx_get hl rfl) ?_
    refine r_get (pc := 46) (k := 12) (index := 31) B I (by decide) mF_31 rfl rfl d_write_46 ?_
    refine lv_iload_n (pc := 49) (i := 1) hx hb d_write_49 rfl (lx_get hl rfl) ?_
    refine ob1 hm (fun x7 e8 hm => ?_)
    refine r_ald (pc := 50) (j := 8) B I (by decide) (by decide) e8 d_write_50 ?_
    refine q_istore_n (pc := 51) (i := 1) (lo' := [some (.ref h), some (.int x7)]) hx hb d_write_51 rfl hl (Nat.le_of_ble_eq_true rfl) (lx_cr rfl) rfl (fun ls hl => ?_)
    refine lv_goto (pc := 52) (tgt := 24) hx hb d_write_52 (by decide) ?_
    exact hK24 _ _ _ _ _ hl I hm
set_option maxRecDepth 100000 in
set_option maxHeartbeats 4000000 in
theorem w_write_24i (B : BX p m c cb_write 2 s args (.code y_write cb_write 2 (some .int) :: wsA) RREF meth (some .int) D vwCl (tyL dA) b0 Z) (hR : RR b0 h Z) (k : Nat) (y1 : Int32) (S : rS) (ls : Array Slot) (H : Heap) (locs : List Loc) (hl : lx ls [some (.ref h), some (.int y1)]) (I : AI D vwCl b0 (rH dA h S hp0) sz s.heap H locs)  (hm : m_write_24 N  k y1 S = some (r, S')) : W p l e { frames := 5, cells := 0, slots := 0, locals := 113 } s m args below meth c H locs 0 0 (MQ below (CQ D vwCl b0 (some (.int r)) (rH dA h S' hp0) sz) args s 0 0 (fun q => b0 ≤ q)) (F0 m 24 ls []) := by
  induction k generalizing y1 S ls H locs with
  | zero => cases hm
  | succ k ih => exact w_write_24F  (fun y1 S ls H locs hl I hm => ih y1 S ls H locs hl I hm) B hR hl I hm
theorem w_write_24 {y1 : Int32} {S : rS} (B : BX p m c cb_write 2 s args (.code y_write cb_write 2 (some .int) :: wsA) RREF meth (some .int) D vwCl (tyL dA) b0 Z) (hR : RR b0 h Z) (hl : lx ls [some (.ref h), some (.int y1)]) (I : AI D vwCl b0 (rH dA h S hp0) sz s.heap H locs)  {k : Nat} (hm : m_write_24 N  k y1 S = some (r, S')) : W p l e { frames := 5, cells := 0, slots := 0, locals := 113 } s m args below meth c H locs 0 0 (MQ below (CQ D vwCl b0 (some (.int r)) (rH dA h S' hp0) sz) args s 0 0 (fun q => b0 ≤ q)) (F0 m 24 ls []) := w_write_24i  B hR k _ S ls H locs hl I hm
def m_write (N : Nat) (S : rS) : Option (Int32 × rS) :=
  b1 (rP S 0 0) (fun S1 => b1 (rP S1 29 0) (fun S3 => b1 (rL S3 6 (260 * (S3.1 5))) (fun x5 => m_write_24 N  N x5 S3)))
set_option maxRecDepth 100000 in
set_option maxHeartbeats 4000000 in
theorem c_write {S S' : rS} {r : Int32} (hR : RR b0 h Z) (hm : m_write N  S = some (r, S')) : Ct l D vwCl (tyL dA) b0 Z y_write (.code y_write cb_write 2 (some .int) :: wsA) 5 113 [.ref h] (rH dA h S hp0) sz (some (.int r)) (rH dA h S' hp0) 0 0 := by
  refine ct_of (cc := cb_write) (maxL := 2) (ret := (some .int)) (lo0 := [some (.ref h), none]) hR.2 (by decide) rfl (by simp [lg_sl, Value.category]) rfl (by simp [lx_all, lv_args, Value.category]) ?_
  intro p e s m args below meth c ls B hnm hl I
  obtain ⟨hx, hb, -⟩ := B.1
  unfold m_write at hm
  refine lv_aload_n (pc := 0) (i := 0) hx hb d_write_0 rfl (lx_get hl rfl) ?_
  refine lv_iconst (pc := 1) (v := 0) hx hb d_write_1 (by decide) ?_
  refine ob1 hm (fun S1 e2 hm => ?_)
  refine r_put (pc := 2) (k := 0) (index := 67) B hR I (by decide) mF_67 rfl rfl rfl (fun _ _ => rfl) e2 d_write_2 (fun H locs I => ?_)
  refine lv_aload_n (pc := 5) (i := 0) hx hb d_write_5 rfl (lx_get hl rfl) ?_
  refine lv_iconst (pc := 6) (v := 0) hx hb d_write_6 (by decide) ?_
  refine ob1 hm (fun S3 e4 hm => ?_)
  refine r_put (pc := 7) (k := 29) (index := 219) B hR I (by decide) mF_219 rfl rfl rfl (fun _ _ => rfl) e4 d_write_7 (fun H locs I => ?_)
  refine lv_aload_n (pc := 10) (i := 0) hx hb d_write_10 rfl (lx_get hl rfl) ?_
  refine r_get (pc := 11) (k := 10) (index := 25) B I (by decide) mF_25 rfl rfl d_write_11 ?_
  refine lv_sipush (pc := 14) (v := 260) hx hb d_write_14 (by decide) ?_
  refine lv_aload_n (pc := 17) (i := 0) hx hb d_write_17 rfl (lx_get hl rfl) ?_
  refine r_get (pc := 18) (k := 5) (index := 210) B I (by decide) mF_210 rfl rfl d_write_18 ?_
  refine lv_imul (pc := 21) hx hb d_write_21 ?_
  refine ob1 hm (fun x5 e6 hm => ?_)
  refine r_ald (pc := 22) (j := 6) B I (by decide) (by decide) e6 d_write_22 ?_
  refine q_istore_n (pc := 23) (i := 1) (lo' := [some (.ref h), some (.int x5)]) hx hb d_write_23 rfl hl (Nat.le_of_ble_eq_true rfl) (lx_cr rfl) rfl (fun ls hl => ?_)
  exact w_write_24  B hR hl I hm
end RW
end
section
section RW
variable {p : Program} {l : Launch} {e : Env} {s : State} {m : MethodId} {args : Array Value} {below : List Frame} {meth : Method} {c : Code} {H : Heap} {locs : List Loc}
variable {ls : Array Slot} {D : va_G} {dA : Nat → ClassId} {hp0 : aH} {sz b0 h N : Nat} {S' : rS} {r : Int32} {Z : State → Prop}
def m_written_25 (N : Nat) (y1 : Int32) (z1 : Int32) (S : rS) : Option (Int32 × rS) :=
  b1 (rP S 0 z1) (fun S1 => if S1.1 0 = 0 then (b1 (rL S1 19 y1) (fun x3 => some (x3, S1))) else (some (0, S1)))
set_option maxRecDepth 100000 in
set_option maxHeartbeats 4000000 in
theorem w_written_25 {y1 : Int32} {z1 : Int32} {S : rS} (B : BX p m c cb_written 2 s args (.code y_written cb_written 2 (some .int) :: wsA) RREF meth (some .int) D vwCl (tyL dA) b0 Z) (hR : RR b0 h Z) (hl : lx ls [some (.ref h), some (.int y1)]) (I : AI D vwCl b0 (rH dA h S hp0) sz s.heap H locs)  (hm : m_written_25 N  y1 z1 S = some (r, S')) : W p l e { frames := 0, cells := 0, slots := 0, locals := 0 } s m args below meth c H locs 0 0 (MQ below (CQ D vwCl b0 (some (.int r)) (rH dA h S' hp0) sz) args s 0 0 (fun q => b0 ≤ q)) (F0 m 25 ls [.int z1, .ref h]) := by
  obtain ⟨hx, hb, -⟩ := B.1
  unfold m_written_25 at hm
  refine ob1 hm (fun S1 e2 hm => ?_)
  refine r_put (pc := 25) (k := 0) (index := 67) B hR I (by decide) mF_67 rfl rfl rfl (fun _ _ => rfl) e2 d_written_25 (fun H locs I => ?_)
  refine lv_aload_n (pc := 28) (i := 0) hx hb d_written_28 rfl (lx_get hl rfl) ?_
  refine r_get (pc := 29) (k := 0) (index := 67) B I (by decide) mF_67 rfl rfl d_written_29 ?_
  refine lv_if_ne (pc := 32) (tgt := 44) hx hb d_written_32 (by decide) (fun hc => ?_) (fun hc => ?_)
  · have hm := iff' hc hm
    refine lv_iconst (pc := 44) (v := 0) hx hb d_written_44 (by decide) ?_
    cases hm
    exact q_iret (pc := 45) B I rfl d_written_45
  · have hm := ift hc hm
    refine lv_aload_n (pc := 35) (i := 0) hx hb d_written_35 rfl (lx_get hl rfl) ?_
    refine r_get (pc := 36) (k := 30) (index := 64) B I (by decide) mF_64 rfl rfl d_written_36 ?_
    refine lv_iload_n (pc := 39) (i := 1) hx hb d_written_39 rfl (lx_get hl rfl) ?_
    refine ob1 hm (fun x3 e4 hm => ?_)
    refine r_ald (pc := 40) (j := 19) B I (by decide) (by decide) e4 d_written_40 ?_
    refine lv_goto (pc := 41) (tgt := 45) hx hb d_written_41 (by decide) ?_
    cases hm
    exact q_iret (pc := 45) B I rfl d_written_45
def m_written_20 (N : Nat) (y1 : Int32) (S : rS) : Option (Int32 × rS) :=
  m_written_25 N  y1 1 S
set_option maxRecDepth 100000 in
set_option maxHeartbeats 4000000 in
theorem w_written_20 {y1 : Int32} {S : rS} (B : BX p m c cb_written 2 s args (.code y_written cb_written 2 (some .int) :: wsA) RREF meth (some .int) D vwCl (tyL dA) b0 Z) (hR : RR b0 h Z) (hl : lx ls [some (.ref h), some (.int y1)]) (I : AI D vwCl b0 (rH dA h S hp0) sz s.heap H locs)  (hm : m_written_20 N  y1 S = some (r, S')) : W p l e { frames := 0, cells := 0, slots := 0, locals := 0 } s m args below meth c H locs 0 0 (MQ below (CQ D vwCl b0 (some (.int r)) (rH dA h S' hp0) sz) args s 0 0 (fun q => b0 ≤ q)) (F0 m 20 ls [.ref h]) := by
  obtain ⟨hx, hb, -⟩ := B.1
  unfold m_written_20 at hm
  refine lv_iconst (pc := 20) (v := 1) hx hb d_written_20 (by decide) ?_
  refine lv_goto (pc := 21) (tgt := 25) hx hb d_written_21 (by decide) ?_
  exact w_written_25  B hR hl I hm
def m_written (N : Nat) (p1 : Int32) (S : rS) : Option (Int32 × rS) :=
  if p1 < 0 then (m_written_20 N  p1 S) else (if S.1 29 ≤ p1 then (m_written_20 N  p1 S) else (if p1 < 600 then (m_written_25 N  p1 0 S) else (m_written_20 N  p1 S)))
set_option maxRecDepth 100000 in
set_option maxHeartbeats 4000000 in
theorem c_written {p1 : Int32} {S S' : rS} {r : Int32} (hR : RR b0 h Z) (hm : m_written N p1 S = some (r, S')) : Ct l D vwCl (tyL dA) b0 Z y_written (.code y_written cb_written 2 (some .int) :: wsA) 0 0 [.ref h, .int p1] (rH dA h S hp0) sz (some (.int r)) (rH dA h S' hp0) 0 0 := by
  refine ct_of (cc := cb_written) (maxL := 2) (ret := (some .int)) (lo0 := [some (.ref h), some (.int p1)]) hR.2 (by decide) rfl (by simp [lg_sl, Value.category]) rfl (by simp [lx_all, lv_args, Value.category]) ?_
  intro p e s m args below meth c ls B hnm hl I
  obtain ⟨hx, hb, -⟩ := B.1
  unfold m_written at hm
  refine lv_aload_n (pc := 0) (i := 0) hx hb d_written_0 rfl (lx_get hl rfl) ?_
  refine lv_iload_n (pc := 1) (i := 1) hx hb d_written_1 rfl (lx_get hl rfl) ?_
  refine lv_if_lt (pc := 2) (tgt := 20) hx hb d_written_2 (by decide) (fun hc => ?_) (fun hc => ?_)
  · have hm := ift hc hm
    exact w_written_20  B hR hl I hm
  · have hm := iff' hc hm
    refine lv_iload_n (pc := 5) (i := 1) hx hb d_written_5 rfl (lx_get hl rfl) ?_
    refine lv_aload_n (pc := 6) (i := 0) hx hb d_written_6 rfl (lx_get hl rfl) ?_
    refine r_get (pc := 7) (k := 29) (index := 219) B I (by decide) mF_219 rfl rfl d_written_7 ?_
    refine lv_icmp_ge (pc := 10) (tgt := 20) hx hb d_written_10 (by decide) (fun hc => ?_) (fun hc => ?_)
    · have hm := ift hc hm
      exact w_written_20  B hR hl I hm
    · have hm := iff' hc hm
      refine lv_iload_n (pc := 13) (i := 1) hx hb d_written_13 rfl (lx_get hl rfl) ?_
      refine lv_sipush (pc := 14) (v := 600) hx hb d_written_14 (by decide) ?_
      refine lv_icmp_lt (pc := 17) (tgt := 24) hx hb d_written_17 (by decide) (fun hc => ?_) (fun hc => ?_)
      · have hm := ift hc hm
        refine lv_iconst (pc := 24) (v := 0) hx hb d_written_24 (by decide) ?_
        exact w_written_25  B hR hl I hm
      · have hm := iff' hc hm
        exact w_written_20  B hR hl I hm
def m_top (N : Nat) (S : rS) : Option (Int32 × rS) :=
  b1 (rP S 0 0) (fun S1 => b1 (rP S1 18 (260 * (S1.1 5))) (fun S3 => b1 (rL S3 9 (S3.1 18)) (fun x5 => some (x5, S3))))
set_option maxRecDepth 100000 in
set_option maxHeartbeats 4000000 in
theorem c_top {S S' : rS} {r : Int32} (hR : RR b0 h Z) (hm : m_top N  S = some (r, S')) : Ct l D vwCl (tyL dA) b0 Z y_top (.code y_top cb_top 1 (some .int) :: wsA) 0 0 [.ref h] (rH dA h S hp0) sz (some (.int r)) (rH dA h S' hp0) 0 0 := by
  refine ct_of (cc := cb_top) (maxL := 1) (ret := (some .int)) (lo0 := [some (.ref h)]) hR.2 (by decide) rfl (by simp [lg_sl, Value.category]) rfl (by simp [lx_all, lv_args, Value.category]) ?_
  intro p e s m args below meth c ls B hnm hl I
  obtain ⟨hx, hb, -⟩ := B.1
  unfold m_top at hm
  refine lv_aload_n (pc := 0) (i := 0) hx hb d_top_0 rfl (lx_get hl rfl) ?_
  refine lv_iconst (pc := 1) (v := 0) hx hb d_top_1 (by decide) ?_
  refine ob1 hm (fun S1 e2 hm => ?_)
  refine r_put (pc := 2) (k := 0) (index := 67) B hR I (by decide) mF_67 rfl rfl rfl (fun _ _ => rfl) e2 d_top_2 (fun H locs I => ?_)
  refine lv_aload_n (pc := 5) (i := 0) hx hb d_top_5 rfl (lx_get hl rfl) ?_
  refine lv_sipush (pc := 6) (v := 260) hx hb d_top_6 (by decide) ?_
  refine lv_aload_n (pc := 9) (i := 0) hx hb d_top_9 rfl (lx_get hl rfl) ?_
  refine r_get (pc := 10) (k := 5) (index := 210) B I (by decide) mF_210 rfl rfl d_top_10 ?_
  refine lv_imul (pc := 13) hx hb d_top_13 ?_
  refine ob1 hm (fun S3 e4 hm => ?_)
  refine r_put (pc := 14) (k := 18) (index := 216) B hR I (by decide) mF_216 rfl rfl rfl (fun _ _ => rfl) e4 d_top_14 (fun H locs I => ?_)
  refine lv_aload_n (pc := 17) (i := 0) hx hb d_top_17 rfl (lx_get hl rfl) ?_
  refine r_get (pc := 18) (k := 13) (index := 34) B I (by decide) mF_34 rfl rfl d_top_18 ?_
  refine lv_aload_n (pc := 21) (i := 0) hx hb d_top_21 rfl (lx_get hl rfl) ?_
  refine r_get (pc := 22) (k := 18) (index := 216) B I (by decide) mF_216 rfl rfl d_top_22 ?_
  refine ob1 hm (fun x5 e6 hm => ?_)
  refine r_ald (pc := 25) (j := 9) B I (by decide) (by decide) e6 d_top_25 ?_
  cases hm
  exact q_iret (pc := 26) B I rfl d_top_26
def m_down_58F (N : Nat) (K58 : Int32 → Int32 → Int32 → rS → Option (Int32 × rS)) (y1 : Int32) (y2 : Int32) (y3 : Int32) (S : rS) : Option (Int32 × rS) :=
  if y1 ≤ y3 then (b1 (rP S 18 y2) (fun S1 => b1 (rL S1 3 y2) (fun x3 => some (x3, S1)))) else (b1 (rL S 8 y2) (fun x5 => K58 y1 x5 (y3 + 1) S))
def m_down_58 (N : Nat) : Nat → Int32 → Int32 → Int32 → rS → Option (Int32 × rS)
  | 0, _, _, _, _ => none
  | k + 1, y1, y2, y3, S => m_down_58F N  (m_down_58 N  k) y1 y2 y3 S
set_option maxRecDepth 100000 in
set_option maxHeartbeats 4000000 in
theorem w_down_58F {K58 : Int32 → Int32 → Int32 → rS → Option (Int32 × rS)} {y1 : Int32} {y2 : Int32} {y3 : Int32} {S : rS} (hK58 : ∀ (y1 : Int32) (y2 : Int32) (y3 : Int32) (S : rS) (ls : Array Slot) (H : Heap) (locs : List Loc), lx ls [some (.ref h), some (.int y1), some (.int y2), some (.int y3)] → AI D vwCl b0 (rH dA h S hp0) sz s.heap H locs → K58 y1 y2 y3 S = some (r, S') → W p l e { frames := 1, cells := 0, slots := 0, locals := 21 } s m args below meth c H locs 0 0 (MQ below (CQ D vwCl b0 (some (.int r)) (rH dA h S' hp0) sz) args s 0 0 (fun q => b0 ≤ q)) (F0 m 58 ls [])) (B : BX p m c cb_down 4 s args (.code y_down cb_down 4 (some .int) :: wsA) RREF meth (some .int) D vwCl (tyL dA) b0 Z) (hR : RR b0 h Z) (hl : lx ls [some (.ref h), some (.int y1), some (.int y2), some (.int y3)]) (I : AI D vwCl b0 (rH dA h S hp0) sz s.heap H locs)  (hm : m_down_58F N  K58 y1 y2 y3 S = some (r, S')) : W p l e { frames := 1, cells := 0, slots := 0, locals := 21 } s m args below meth c H locs 0 0 (MQ below (CQ D vwCl b0 (some (.int r)) (rH dA h S' hp0) sz) args s 0 0 (fun q => b0 ≤ q)) (F0 m 58 ls []) := by
  obtain ⟨hx, hb, -⟩ := B.1
  unfold m_down_58F at hm
  refine lv_iload_n (pc := 58) (i := 3) hx hb d_down_58 rfl (lx_get hl rfl) ?_
  refine lv_iload_n (pc := 59) (i := 1) hx hb d_down_59 rfl (lx_get hl rfl) ?_
  refine lv_icmp_ge (pc := 60) (tgt := 76) hx hb d_down_60 (by decide) (fun hc => ?_) (fun hc => ?_)
  · have hm := ift hc hm
    refine lv_aload_n (pc := 76) (i := 0) hx hb d_down_76 rfl (lx_get hl rfl) ?_
    refine lv_iload_n (pc := 77) (i := 2) hx hb d_down_77 rfl (lx_get hl rfl) ?_
    refine ob1 hm (fun S1 e2 hm => ?_)
    refine r_put (pc := 78) (k := 18) (index := 216) B hR I (by decide) mF_216 rfl rfl rfl (fun _ _ => rfl) e2 d_down_78 (fun H locs I => ?_)
    refine lv_aload_n (pc := 81) (i := 0) hx hb d_down_81 rfl (lx_get hl rfl) ?_
    refine r_get (pc := 82) (k := 7) (index := 16) B I (by decide) mF_16 rfl rfl d_down_82 ?_
    refine lv_iload_n (pc := 85) (i := 2) hx hb d_down_85 rfl (lx_get hl rfl) ?_
    refine ob1 hm (fun x3 e4 hm => ?_)
    refine r_ald (pc := 86) (j := 3) B I (by decide) (by decide) e4 d_down_86 ?_
    cases hm
    exact q_iret (pc := 87) B I rfl d_down_87
  · have hm := iff' hc hm
    refine lv_aload_n (pc := 63) (i := 0) hx hb d_down_63 rfl (lx_get hl rfl) ?_
    refine r_get (pc := 64) (k := 12) (index := 31) B I (by decide) mF_31 rfl rfl d_down_64 ?_
    refine lv_iload_n (pc := 67) (i := 2) hx hb d_down_67 rfl (lx_get hl rfl) ?_
    refine ob1 hm (fun x5 e6 hm => ?_)
    refine r_ald (pc := 68) (j := 8) B I (by decide) (by decide) e6 d_down_68 ?_
    refine q_istore_n (pc := 69) (i := 2) (lo' := [some (.ref h), some (.int y1), some (.int x5), some (.int y3)]) hx hb d_down_69 rfl hl (Nat.le_of_ble_eq_true rfl) (lx_ci rfl) rfl (fun ls hl => ?_)
    refine q_iinc (pc := 70) (i := 3) (v := y3 + 1) (lo' := [some (.ref h), some (.int y1), some (.int x5), some (.int (y3 + 1))]) hx hb d_down_70 hl rfl rfl (Nat.le_of_ble_eq_true rfl) (lx_ci rfl) rfl (fun ls hl => ?_)
    refine lv_goto (pc := 73) (tgt := 58) hx hb d_down_73 (by decide) ?_
    exact hK58 _ _ _ _ _ _ _ hl I hm
set_option maxRecDepth 100000 in
set_option maxHeartbeats 4000000 in
theorem w_down_58i (B : BX p m c cb_down 4 s args (.code y_down cb_down 4 (some .int) :: wsA) RREF meth (some .int) D vwCl (tyL dA) b0 Z) (hR : RR b0 h Z) (k : Nat) (y1 : Int32) (y2 : Int32) (y3 : Int32) (S : rS) (ls : Array Slot) (H : Heap) (locs : List Loc) (hl : lx ls [some (.ref h), some (.int y1), some (.int y2), some (.int y3)]) (I : AI D vwCl b0 (rH dA h S hp0) sz s.heap H locs)  (hm : m_down_58 N  k y1 y2 y3 S = some (r, S')) : W p l e { frames := 1, cells := 0, slots := 0, locals := 21 } s m args below meth c H locs 0 0 (MQ below (CQ D vwCl b0 (some (.int r)) (rH dA h S' hp0) sz) args s 0 0 (fun q => b0 ≤ q)) (F0 m 58 ls []) := by
  induction k generalizing y1 y2 y3 S ls H locs with
  | zero => cases hm
  | succ k ih => exact w_down_58F  (fun y1 y2 y3 S ls H locs hl I hm => ih y1 y2 y3 S ls H locs hl I hm) B hR hl I hm
theorem w_down_58 {y1 : Int32} {y2 : Int32} {y3 : Int32} {S : rS} (B : BX p m c cb_down 4 s args (.code y_down cb_down 4 (some .int) :: wsA) RREF meth (some .int) D vwCl (tyL dA) b0 Z) (hR : RR b0 h Z) (hl : lx ls [some (.ref h), some (.int y1), some (.int y2), some (.int y3)]) (I : AI D vwCl b0 (rH dA h S hp0) sz s.heap H locs)  {k : Nat} (hm : m_down_58 N  k y1 y2 y3 S = some (r, S')) : W p l e { frames := 1, cells := 0, slots := 0, locals := 21 } s m args below meth c H locs 0 0 (MQ below (CQ D vwCl b0 (some (.int r)) (rH dA h S' hp0) sz) args s 0 0 (fun q => b0 ≤ q)) (F0 m 58 ls []) := w_down_58i  B hR k _ _ _ S ls H locs hl I hm
def m_down_34 (N : Nat) (y1 : Int32) (z1 : Int32) (S : rS) : Option (Int32 × rS) :=
  b1 (rP S 0 z1) (fun S1 => if S1.1 0 = 0 then (b1 (rL S1 6 (S1.1 18)) (fun x3 => m_down_58 N  N y1 x3 0 S1)) else (some (0, S1)))
set_option maxRecDepth 100000 in
set_option maxHeartbeats 4000000 in
theorem w_down_34 {y1 : Int32} {z1 : Int32} {S : rS} (B : BX p m c cb_down 4 s args (.code y_down cb_down 4 (some .int) :: wsA) RREF meth (some .int) D vwCl (tyL dA) b0 Z) (hR : RR b0 h Z) (hl : lx ls [some (.ref h), some (.int y1), none, none]) (I : AI D vwCl b0 (rH dA h S hp0) sz s.heap H locs)  (hm : m_down_34 N  y1 z1 S = some (r, S')) : W p l e { frames := 1, cells := 0, slots := 0, locals := 21 } s m args below meth c H locs 0 0 (MQ below (CQ D vwCl b0 (some (.int r)) (rH dA h S' hp0) sz) args s 0 0 (fun q => b0 ≤ q)) (F0 m 34 ls [.int z1, .ref h]) := by
  obtain ⟨hx, hb, -⟩ := B.1
  unfold m_down_34 at hm
  refine ob1 hm (fun S1 e2 hm => ?_)
  refine r_put (pc := 34) (k := 0) (index := 67) B hR I (by decide) mF_67 rfl rfl rfl (fun _ _ => rfl) e2 d_down_34 (fun H locs I => ?_)
  refine lv_aload_n (pc := 37) (i := 0) hx hb d_down_37 rfl (lx_get hl rfl) ?_
  refine r_get (pc := 38) (k := 0) (index := 67) B I (by decide) mF_67 rfl rfl d_down_38 ?_
  refine lv_if_eq (pc := 41) (tgt := 46) hx hb d_down_41 (by decide) (fun hc => ?_) (fun hc => ?_)
  · have hm := ift hc hm
    refine lv_aload_n (pc := 46) (i := 0) hx hb d_down_46 rfl (lx_get hl rfl) ?_
    refine r_get (pc := 47) (k := 10) (index := 25) B I (by decide) mF_25 rfl rfl d_down_47 ?_
    refine lv_aload_n (pc := 50) (i := 0) hx hb d_down_50 rfl (lx_get hl rfl) ?_
    refine r_get (pc := 51) (k := 18) (index := 216) B I (by decide) mF_216 rfl rfl d_down_51 ?_
    refine ob1 hm (fun x3 e4 hm => ?_)
    refine r_ald (pc := 54) (j := 6) B I (by decide) (by decide) e4 d_down_54 ?_
    refine q_istore_n (pc := 55) (i := 2) (lo' := [some (.ref h), some (.int y1), some (.int x3), none]) hx hb d_down_55 rfl hl (Nat.le_of_ble_eq_true rfl) (lx_ci rfl) rfl (fun ls hl => ?_)
    refine lv_iconst (pc := 56) (v := 0) hx hb d_down_56 (by decide) ?_
    refine q_istore_n (pc := 57) (i := 3) (lo' := [some (.ref h), some (.int y1), some (.int x3), some (.int 0)]) hx hb d_down_57 rfl hl (Nat.le_of_ble_eq_true rfl) (lx_ci rfl) rfl (fun ls hl => ?_)
    exact w_down_58  B hR hl I hm
  · have hm := iff' hc hm
    refine lv_iconst (pc := 44) (v := 0) hx hb d_down_44 (by decide) ?_
    cases hm
    exact q_iret (pc := 45) B I rfl d_down_45
def m_down_29 (N : Nat) (y1 : Int32) (S : rS) : Option (Int32 × rS) :=
  m_down_34 N  y1 1 S
set_option maxRecDepth 100000 in
set_option maxHeartbeats 4000000 in
theorem w_down_29 {y1 : Int32} {S : rS} (B : BX p m c cb_down 4 s args (.code y_down cb_down 4 (some .int) :: wsA) RREF meth (some .int) D vwCl (tyL dA) b0 Z) (hR : RR b0 h Z) (hl : lx ls [some (.ref h), some (.int y1), none, none]) (I : AI D vwCl b0 (rH dA h S hp0) sz s.heap H locs)  (hm : m_down_29 N  y1 S = some (r, S')) : W p l e { frames := 1, cells := 0, slots := 0, locals := 21 } s m args below meth c H locs 0 0 (MQ below (CQ D vwCl b0 (some (.int r)) (rH dA h S' hp0) sz) args s 0 0 (fun q => b0 ≤ q)) (F0 m 29 ls [.ref h]) := by
  obtain ⟨hx, hb, -⟩ := B.1
  unfold m_down_29 at hm
  refine lv_iconst (pc := 29) (v := 1) hx hb d_down_29 (by decide) ?_
  refine lv_goto (pc := 30) (tgt := 34) hx hb d_down_30 (by decide) ?_
  exact w_down_34  B hR hl I hm
def m_down (N : Nat) (p1 : Int32) (S : rS) : Option (Int32 × rS) :=
  b1 (m_holds N (S.1 18) S) (fun x2 => if x2 = 0 then (m_down_29 N  p1 S) else (if p1 < 0 then (m_down_29 N  p1 S) else (b1 (rL S 9 (S.1 18)) (fun x3 => if p1 < x3 then (m_down_34 N  p1 0 S) else (m_down_29 N  p1 S)))))
set_option maxRecDepth 100000 in
set_option maxHeartbeats 4000000 in
theorem c_down {p1 : Int32} {S S' : rS} {r : Int32} (hR : RR b0 h Z) (hm : m_down N p1 S = some (r, S')) : Ct l D vwCl (tyL dA) b0 Z y_down (.code y_down cb_down 4 (some .int) :: wsA) 1 21 [.ref h, .int p1] (rH dA h S hp0) sz (some (.int r)) (rH dA h S' hp0) 0 0 := by
  refine ct_of (cc := cb_down) (maxL := 4) (ret := (some .int)) (lo0 := [some (.ref h), some (.int p1), none, none]) hR.2 (by decide) rfl (by simp [lg_sl, Value.category]) rfl (by simp [lx_all, lv_args, Value.category]) ?_
  intro p e s m args below meth c ls B hnm hl I
  obtain ⟨hx, hb, -⟩ := B.1
  unfold m_down at hm
  refine lv_aload_n (pc := 0) (i := 0) hx hb d_down_0 rfl (lx_get hl rfl) ?_
  refine lv_aload_n (pc := 1) (i := 0) hx hb d_down_1 rfl (lx_get hl rfl) ?_
  refine lv_aload_n (pc := 2) (i := 0) hx hb d_down_2 rfl (lx_get hl rfl) ?_
  refine r_get (pc := 3) (k := 18) (index := 216) B I (by decide) mF_216 rfl rfl d_down_3 ?_
  refine ob1 hm (fun x2 e1 hm => ?_)
  refine r_call (pc := 6) (As := [.int (S.1 18)]) (rest := [.ref h]) B hl rfl I (c_holds hR e1) kw_holds rfl (by decide) (by decide) rfl (by simp [Value.category]) d_down_6 (fun H locs I => ?_)
  refine lv_if_eq (pc := 9) (tgt := 29) hx hb d_down_9 (by decide) (fun hc => ?_) (fun hc => ?_)
  · have hm := ift hc hm
    exact w_down_29  B hR hl I hm
  · have hm := iff' hc hm
    refine lv_iload_n (pc := 12) (i := 1) hx hb d_down_12 rfl (lx_get hl rfl) ?_
    refine lv_if_lt (pc := 13) (tgt := 29) hx hb d_down_13 (by decide) (fun hc => ?_) (fun hc => ?_)
    · have hm := ift hc hm
      exact w_down_29  B hR hl I hm
    · have hm := iff' hc hm
      refine lv_iload_n (pc := 16) (i := 1) hx hb d_down_16 rfl (lx_get hl rfl) ?_
      refine lv_aload_n (pc := 17) (i := 0) hx hb d_down_17 rfl (lx_get hl rfl) ?_
      refine r_get (pc := 18) (k := 13) (index := 34) B I (by decide) mF_34 rfl rfl d_down_18 ?_
      refine lv_aload_n (pc := 21) (i := 0) hx hb d_down_21 rfl (lx_get hl rfl) ?_
      refine r_get (pc := 22) (k := 18) (index := 216) B I (by decide) mF_216 rfl rfl d_down_22 ?_
      refine ob1 hm (fun x3 e4 hm => ?_)
      refine r_ald (pc := 25) (j := 9) B I (by decide) (by decide) e4 d_down_25 ?_
      refine lv_icmp_lt (pc := 26) (tgt := 33) hx hb d_down_26 (by decide) (fun hc => ?_) (fun hc => ?_)
      · have hm := ift hc hm
        refine lv_iconst (pc := 33) (v := 0) hx hb d_down_33 (by decide) ?_
        exact w_down_34  B hR hl I hm
      · have hm := iff' hc hm
        exact w_down_29  B hR hl I hm
def m_up_19 (N : Nat) (z1 : Int32) (S : rS) : Option (Int32 × rS) :=
  b1 (rP S 0 z1) (fun S1 => if S1.1 0 = 0 then (b1 (rL S1 5 (S1.1 18)) (fun x3 => b1 (rP S1 18 x3) (fun S5 => b1 (rL S5 3 (S5.1 18)) (fun x7 => some (x7, S5))))) else (some (0, S1)))
set_option maxRecDepth 100000 in
set_option maxHeartbeats 4000000 in
theorem w_up_19 {z1 : Int32} {S : rS} (B : BX p m c cb_up 1 s args (.code y_up cb_up 1 (some .int) :: wsA) RREF meth (some .int) D vwCl (tyL dA) b0 Z) (hR : RR b0 h Z) (hl : lx ls [some (.ref h)]) (I : AI D vwCl b0 (rH dA h S hp0) sz s.heap H locs)  (hm : m_up_19 N  z1 S = some (r, S')) : W p l e { frames := 0, cells := 0, slots := 0, locals := 0 } s m args below meth c H locs 0 0 (MQ below (CQ D vwCl b0 (some (.int r)) (rH dA h S' hp0) sz) args s 0 0 (fun q => b0 ≤ q)) (F0 m 19 ls [.int z1, .ref h]) := by
  obtain ⟨hx, hb, -⟩ := B.1
  unfold m_up_19 at hm
  refine ob1 hm (fun S1 e2 hm => ?_)
  refine r_put (pc := 19) (k := 0) (index := 67) B hR I (by decide) mF_67 rfl rfl rfl (fun _ _ => rfl) e2 d_up_19 (fun H locs I => ?_)
  refine lv_aload_n (pc := 22) (i := 0) hx hb d_up_22 rfl (lx_get hl rfl) ?_
  refine r_get (pc := 23) (k := 0) (index := 67) B I (by decide) mF_67 rfl rfl d_up_23 ?_
  refine lv_if_eq (pc := 26) (tgt := 31) hx hb d_up_26 (by decide) (fun hc => ?_) (fun hc => ?_)
  · have hm := ift hc hm
    refine lv_aload_n (pc := 31) (i := 0) hx hb d_up_31 rfl (lx_get hl rfl) ?_
    refine lv_aload_n (pc := 32) (i := 0) hx hb d_up_32 rfl (lx_get hl rfl) ?_
    refine r_get (pc := 33) (k := 9) (index := 22) B I (by decide) mF_22 rfl rfl d_up_33 ?_
    refine lv_aload_n (pc := 36) (i := 0) hx hb d_up_36 rfl (lx_get hl rfl) ?_
    refine r_get (pc := 37) (k := 18) (index := 216) B I (by decide) mF_216 rfl rfl d_up_37 ?_
    refine ob1 hm (fun x3 e4 hm => ?_)
    refine r_ald (pc := 40) (j := 5) B I (by decide) (by decide) e4 d_up_40 ?_
    refine ob1 hm (fun S5 e6 hm => ?_)
    refine r_put (pc := 41) (k := 18) (index := 216) B hR I (by decide) mF_216 rfl rfl rfl (fun _ _ => rfl) e6 d_up_41 (fun H locs I => ?_)
    refine lv_aload_n (pc := 44) (i := 0) hx hb d_up_44 rfl (lx_get hl rfl) ?_
    refine r_get (pc := 45) (k := 7) (index := 16) B I (by decide) mF_16 rfl rfl d_up_45 ?_
    refine lv_aload_n (pc := 48) (i := 0) hx hb d_up_48 rfl (lx_get hl rfl) ?_
    refine r_get (pc := 49) (k := 18) (index := 216) B I (by decide) mF_216 rfl rfl d_up_49 ?_
    refine ob1 hm (fun x7 e8 hm => ?_)
    refine r_ald (pc := 52) (j := 3) B I (by decide) (by decide) e8 d_up_52 ?_
    cases hm
    exact q_iret (pc := 53) B I rfl d_up_53
  · have hm := iff' hc hm
    refine lv_iconst (pc := 29) (v := 0) hx hb d_up_29 (by decide) ?_
    cases hm
    exact q_iret (pc := 30) B I rfl d_up_30
def m_up (N : Nat) (S : rS) : Option (Int32 × rS) :=
  b1 (rL S 5 (S.1 18)) (fun x1 => if x1 = (-1) then (m_up_19 N  1 S) else (m_up_19 N  0 S))
set_option maxRecDepth 100000 in
set_option maxHeartbeats 4000000 in
theorem c_up {S S' : rS} {r : Int32} (hR : RR b0 h Z) (hm : m_up N  S = some (r, S')) : Ct l D vwCl (tyL dA) b0 Z y_up (.code y_up cb_up 1 (some .int) :: wsA) 0 0 [.ref h] (rH dA h S hp0) sz (some (.int r)) (rH dA h S' hp0) 0 0 := by
  refine ct_of (cc := cb_up) (maxL := 1) (ret := (some .int)) (lo0 := [some (.ref h)]) hR.2 (by decide) rfl (by simp [lg_sl, Value.category]) rfl (by simp [lx_all, lv_args, Value.category]) ?_
  intro p e s m args below meth c ls B hnm hl I
  obtain ⟨hx, hb, -⟩ := B.1
  unfold m_up at hm
  refine lv_aload_n (pc := 0) (i := 0) hx hb d_up_0 rfl (lx_get hl rfl) ?_
  refine lv_aload_n (pc := 1) (i := 0) hx hb d_up_1 rfl (lx_get hl rfl) ?_
  refine r_get (pc := 2) (k := 9) (index := 22) B I (by decide) mF_22 rfl rfl d_up_2 ?_
  refine lv_aload_n (pc := 5) (i := 0) hx hb d_up_5 rfl (lx_get hl rfl) ?_
  refine r_get (pc := 6) (k := 18) (index := 216) B I (by decide) mF_216 rfl rfl d_up_6 ?_
  refine ob1 hm (fun x1 e2 hm => ?_)
  refine r_ald (pc := 9) (j := 5) B I (by decide) (by decide) e2 d_up_9 ?_
  refine lv_iconst (pc := 10) (v := (-1)) hx hb d_up_10 (by decide) ?_
  refine lv_icmp_ne (pc := 11) (tgt := 18) hx hb d_up_11 (by decide) (fun hc => ?_) (fun hc => ?_)
  · have hm := iff' hc hm
    refine lv_iconst (pc := 18) (v := 0) hx hb d_up_18 (by decide) ?_
    exact w_up_19  B hR hl I hm
  · have hm := ift hc hm
    refine lv_iconst (pc := 14) (v := 1) hx hb d_up_14 (by decide) ?_
    refine lv_goto (pc := 15) (tgt := 19) hx hb d_up_15 (by decide) ?_
    exact w_up_19  B hR hl I hm
def m_kind (N : Nat) (S : rS) : Option (Int32 × rS) :=
  b1 (rP S 0 0) (fun S1 => b1 (rL S1 3 (S1.1 18)) (fun x3 => some (x3, S1)))
set_option maxRecDepth 100000 in
set_option maxHeartbeats 4000000 in
theorem c_kind {S S' : rS} {r : Int32} (hR : RR b0 h Z) (hm : m_kind N  S = some (r, S')) : Ct l D vwCl (tyL dA) b0 Z y_kind (.code y_kind cb_kind 1 (some .int) :: wsA) 0 0 [.ref h] (rH dA h S hp0) sz (some (.int r)) (rH dA h S' hp0) 0 0 := by
  refine ct_of (cc := cb_kind) (maxL := 1) (ret := (some .int)) (lo0 := [some (.ref h)]) hR.2 (by decide) rfl (by simp [lg_sl, Value.category]) rfl (by simp [lx_all, lv_args, Value.category]) ?_
  intro p e s m args below meth c ls B hnm hl I
  obtain ⟨hx, hb, -⟩ := B.1
  unfold m_kind at hm
  refine lv_aload_n (pc := 0) (i := 0) hx hb d_kind_0 rfl (lx_get hl rfl) ?_
  refine lv_iconst (pc := 1) (v := 0) hx hb d_kind_1 (by decide) ?_
  refine ob1 hm (fun S1 e2 hm => ?_)
  refine r_put (pc := 2) (k := 0) (index := 67) B hR I (by decide) mF_67 rfl rfl rfl (fun _ _ => rfl) e2 d_kind_2 (fun H locs I => ?_)
  refine lv_aload_n (pc := 5) (i := 0) hx hb d_kind_5 rfl (lx_get hl rfl) ?_
  refine r_get (pc := 6) (k := 7) (index := 16) B I (by decide) mF_16 rfl rfl d_kind_6 ?_
  refine lv_aload_n (pc := 9) (i := 0) hx hb d_kind_9 rfl (lx_get hl rfl) ?_
  refine r_get (pc := 10) (k := 18) (index := 216) B I (by decide) mF_216 rfl rfl d_kind_10 ?_
  refine ob1 hm (fun x3 e4 hm => ?_)
  refine r_ald (pc := 13) (j := 3) B I (by decide) (by decide) e4 d_kind_13 ?_
  cases hm
  exact q_iret (pc := 14) B I rfl d_kind_14
def m_value_29 (N : Nat) (S : rS) : Option (Int32 × rS) :=
  b1 (rL S 9 (S.1 18)) (fun x1 => some (x1, S))
set_option maxRecDepth 100000 in
set_option maxHeartbeats 4000000 in
theorem w_value_29 {S : rS} (B : BX p m c cb_value 1 s args (.code y_value cb_value 1 (some .int) :: wsA) RREF meth (some .int) D vwCl (tyL dA) b0 Z) (hR : RR b0 h Z) (hl : lx ls [some (.ref h)]) (I : AI D vwCl b0 (rH dA h S hp0) sz s.heap H locs)  (hm : m_value_29 N   S = some (r, S')) : W p l e { frames := 1, cells := 0, slots := 0, locals := 21 } s m args below meth c H locs 0 0 (MQ below (CQ D vwCl b0 (some (.int r)) (rH dA h S' hp0) sz) args s 0 0 (fun q => b0 ≤ q)) (F0 m 29 ls []) := by
  obtain ⟨hx, hb, -⟩ := B.1
  unfold m_value_29 at hm
  refine lv_aload_n (pc := 29) (i := 0) hx hb d_value_29 rfl (lx_get hl rfl) ?_
  refine r_get (pc := 30) (k := 13) (index := 34) B I (by decide) mF_34 rfl rfl d_value_30 ?_
  refine lv_aload_n (pc := 33) (i := 0) hx hb d_value_33 rfl (lx_get hl rfl) ?_
  refine r_get (pc := 34) (k := 18) (index := 216) B I (by decide) mF_216 rfl rfl d_value_34 ?_
  refine ob1 hm (fun x1 e2 hm => ?_)
  refine r_ald (pc := 37) (j := 9) B I (by decide) (by decide) e2 d_value_37 ?_
  refine lv_goto (pc := 38) (tgt := 50) hx hb d_value_38 (by decide) ?_
  cases hm
  exact q_iret (pc := 50) B I rfl d_value_50
def m_value (N : Nat) (S : rS) : Option (Int32 × rS) :=
  b1 (rP S 0 0) (fun S1 => b1 (rL S1 3 (S1.1 18)) (fun x3 => if x3 = 3 then (m_value_29 N  S1) else (b1 (m_holds N (S1.1 18) S1) (fun x6 => if x6 = 0 then (b1 (rL S1 4 (S1.1 18)) (fun x7 => some (x7, S1))) else (m_value_29 N  S1)))))
set_option maxRecDepth 100000 in
set_option maxHeartbeats 4000000 in
theorem c_value {S S' : rS} {r : Int32} (hR : RR b0 h Z) (hm : m_value N  S = some (r, S')) : Ct l D vwCl (tyL dA) b0 Z y_value (.code y_value cb_value 1 (some .int) :: wsA) 1 21 [.ref h] (rH dA h S hp0) sz (some (.int r)) (rH dA h S' hp0) 0 0 := by
  refine ct_of (cc := cb_value) (maxL := 1) (ret := (some .int)) (lo0 := [some (.ref h)]) hR.2 (by decide) rfl (by simp [lg_sl, Value.category]) rfl (by simp [lx_all, lv_args, Value.category]) ?_
  intro p e s m args below meth c ls B hnm hl I
  obtain ⟨hx, hb, -⟩ := B.1
  unfold m_value at hm
  refine lv_aload_n (pc := 0) (i := 0) hx hb d_value_0 rfl (lx_get hl rfl) ?_
  refine lv_iconst (pc := 1) (v := 0) hx hb d_value_1 (by decide) ?_
  refine ob1 hm (fun S1 e2 hm => ?_)
  refine r_put (pc := 2) (k := 0) (index := 67) B hR I (by decide) mF_67 rfl rfl rfl (fun _ _ => rfl) e2 d_value_2 (fun H locs I => ?_)
  refine lv_aload_n (pc := 5) (i := 0) hx hb d_value_5 rfl (lx_get hl rfl) ?_
  refine r_get (pc := 6) (k := 7) (index := 16) B I (by decide) mF_16 rfl rfl d_value_6 ?_
  refine lv_aload_n (pc := 9) (i := 0) hx hb d_value_9 rfl (lx_get hl rfl) ?_
  refine r_get (pc := 10) (k := 18) (index := 216) B I (by decide) mF_216 rfl rfl d_value_10 ?_
  refine ob1 hm (fun x3 e4 hm => ?_)
  refine r_ald (pc := 13) (j := 3) B I (by decide) (by decide) e4 d_value_13 ?_
  refine lv_iconst (pc := 14) (v := 3) hx hb d_value_14 (by decide) ?_
  refine lv_icmp_eq (pc := 15) (tgt := 29) hx hb d_value_15 (by decide) (fun hc => ?_) (fun hc => ?_)
  · have hm := ift hc hm
    exact w_value_29  B hR hl I hm
  · have hm := iff' hc hm
    refine lv_aload_n (pc := 18) (i := 0) hx hb d_value_18 rfl (lx_get hl rfl) ?_
    refine lv_aload_n (pc := 19) (i := 0) hx hb d_value_19 rfl (lx_get hl rfl) ?_
    refine r_get (pc := 20) (k := 18) (index := 216) B I (by decide) mF_216 rfl rfl d_value_20 ?_
    refine ob1 hm (fun x6 e5 hm => ?_)
    refine r_call (pc := 23) (As := [.int (S1.1 18)]) (rest := []) B hl rfl I (c_holds hR e5) kw_holds rfl (by decide) (by decide) rfl (by simp [Value.category]) d_value_23 (fun H locs I => ?_)
    refine lv_if_eq (pc := 26) (tgt := 41) hx hb d_value_26 (by decide) (fun hc => ?_) (fun hc => ?_)
    · have hm := ift hc hm
      refine lv_aload_n (pc := 41) (i := 0) hx hb d_value_41 rfl (lx_get hl rfl) ?_
      refine r_get (pc := 42) (k := 8) (index := 19) B I (by decide) mF_19 rfl rfl d_value_42 ?_
      refine lv_aload_n (pc := 45) (i := 0) hx hb d_value_45 rfl (lx_get hl rfl) ?_
      refine r_get (pc := 46) (k := 18) (index := 216) B I (by decide) mF_216 rfl rfl d_value_46 ?_
      refine ob1 hm (fun x7 e8 hm => ?_)
      refine r_ald (pc := 49) (j := 4) B I (by decide) (by decide) e8 d_value_49 ?_
      cases hm
      exact q_iret (pc := 50) B I rfl d_value_50
    · have hm := iff' hc hm
      exact w_value_29  B hR hl I hm
def m_letter_40 (N : Nat) (y1 : Int32) (z1 : Int32) (S : rS) : Option (Int32 × rS) :=
  b1 (rP S 0 z1) (fun S1 => if S1.1 0 = 0 then (b1 (rL S1 4 (S1.1 18)) (fun x3 => b1 (rL S1 13 (x3 + y1)) (fun x5 => some (x5, S1)))) else (some (0, S1)))
set_option maxRecDepth 100000 in
set_option maxHeartbeats 4000000 in
theorem w_letter_40 {y1 : Int32} {z1 : Int32} {S : rS} (B : BX p m c cb_letter 2 s args (.code y_letter cb_letter 2 (some .int) :: wsA) RREF meth (some .int) D vwCl (tyL dA) b0 Z) (hR : RR b0 h Z) (hl : lx ls [some (.ref h), some (.int y1)]) (I : AI D vwCl b0 (rH dA h S hp0) sz s.heap H locs)  (hm : m_letter_40 N  y1 z1 S = some (r, S')) : W p l e { frames := 0, cells := 0, slots := 0, locals := 0 } s m args below meth c H locs 0 0 (MQ below (CQ D vwCl b0 (some (.int r)) (rH dA h S' hp0) sz) args s 0 0 (fun q => b0 ≤ q)) (F0 m 40 ls [.int z1, .ref h]) := by
  obtain ⟨hx, hb, -⟩ := B.1
  unfold m_letter_40 at hm
  refine ob1 hm (fun S1 e2 hm => ?_)
  refine r_put (pc := 40) (k := 0) (index := 67) B hR I (by decide) mF_67 rfl rfl rfl (fun _ _ => rfl) e2 d_letter_40 (fun H locs I => ?_)
  refine lv_aload_n (pc := 43) (i := 0) hx hb d_letter_43 rfl (lx_get hl rfl) ?_
  refine r_get (pc := 44) (k := 0) (index := 67) B I (by decide) mF_67 rfl rfl d_letter_44 ?_
  refine lv_if_ne (pc := 47) (tgt := 69) hx hb d_letter_47 (by decide) (fun hc => ?_) (fun hc => ?_)
  · have hm := iff' hc hm
    refine lv_iconst (pc := 69) (v := 0) hx hb d_letter_69 (by decide) ?_
    cases hm
    exact q_iret (pc := 70) B I rfl d_letter_70
  · have hm := ift hc hm
    refine lv_aload_n (pc := 50) (i := 0) hx hb d_letter_50 rfl (lx_get hl rfl) ?_
    refine r_get (pc := 51) (k := 17) (index := 46) B I (by decide) mF_46 rfl rfl d_letter_51 ?_
    refine lv_aload_n (pc := 54) (i := 0) hx hb d_letter_54 rfl (lx_get hl rfl) ?_
    refine r_get (pc := 55) (k := 8) (index := 19) B I (by decide) mF_19 rfl rfl d_letter_55 ?_
    refine lv_aload_n (pc := 58) (i := 0) hx hb d_letter_58 rfl (lx_get hl rfl) ?_
    refine r_get (pc := 59) (k := 18) (index := 216) B I (by decide) mF_216 rfl rfl d_letter_59 ?_
    refine ob1 hm (fun x3 e4 hm => ?_)
    refine r_ald (pc := 62) (j := 4) B I (by decide) (by decide) e4 d_letter_62 ?_
    refine lv_iload_n (pc := 63) (i := 1) hx hb d_letter_63 rfl (lx_get hl rfl) ?_
    refine lv_iadd (pc := 64) hx hb d_letter_64 ?_
    refine ob1 hm (fun x5 e6 hm => ?_)
    refine r_ald (pc := 65) (j := 13) B I (by decide) (by decide) e6 d_letter_65 ?_
    refine lv_goto (pc := 66) (tgt := 70) hx hb d_letter_66 (by decide) ?_
    cases hm
    exact q_iret (pc := 70) B I rfl d_letter_70
def m_letter_35 (N : Nat) (y1 : Int32) (S : rS) : Option (Int32 × rS) :=
  m_letter_40 N  y1 2 S
set_option maxRecDepth 100000 in
set_option maxHeartbeats 4000000 in
theorem w_letter_35 {y1 : Int32} {S : rS} (B : BX p m c cb_letter 2 s args (.code y_letter cb_letter 2 (some .int) :: wsA) RREF meth (some .int) D vwCl (tyL dA) b0 Z) (hR : RR b0 h Z) (hl : lx ls [some (.ref h), some (.int y1)]) (I : AI D vwCl b0 (rH dA h S hp0) sz s.heap H locs)  (hm : m_letter_35 N  y1 S = some (r, S')) : W p l e { frames := 0, cells := 0, slots := 0, locals := 0 } s m args below meth c H locs 0 0 (MQ below (CQ D vwCl b0 (some (.int r)) (rH dA h S' hp0) sz) args s 0 0 (fun q => b0 ≤ q)) (F0 m 35 ls [.ref h]) := by
  obtain ⟨hx, hb, -⟩ := B.1
  unfold m_letter_35 at hm
  refine lv_iconst (pc := 35) (v := 2) hx hb d_letter_35 (by decide) ?_
  refine lv_goto (pc := 36) (tgt := 40) hx hb d_letter_36 (by decide) ?_
  exact w_letter_40  B hR hl I hm
def m_letter (N : Nat) (p1 : Int32) (S : rS) : Option (Int32 × rS) :=
  b1 (rL S 3 (S.1 18)) (fun x1 => if x1 = 3 then (if p1 < 0 then (m_letter_35 N  p1 S) else (b1 (rL S 9 (S.1 18)) (fun x3 => if p1 < x3 then (m_letter_40 N  p1 0 S) else (m_letter_35 N  p1 S)))) else (m_letter_40 N  p1 1 S))
set_option maxRecDepth 100000 in
set_option maxHeartbeats 4000000 in
theorem c_letter {p1 : Int32} {S S' : rS} {r : Int32} (hR : RR b0 h Z) (hm : m_letter N p1 S = some (r, S')) : Ct l D vwCl (tyL dA) b0 Z y_letter (.code y_letter cb_letter 2 (some .int) :: wsA) 0 0 [.ref h, .int p1] (rH dA h S hp0) sz (some (.int r)) (rH dA h S' hp0) 0 0 := by
  refine ct_of (cc := cb_letter) (maxL := 2) (ret := (some .int)) (lo0 := [some (.ref h), some (.int p1)]) hR.2 (by decide) rfl (by simp [lg_sl, Value.category]) rfl (by simp [lx_all, lv_args, Value.category]) ?_
  intro p e s m args below meth c ls B hnm hl I
  obtain ⟨hx, hb, -⟩ := B.1
  unfold m_letter at hm
  refine lv_aload_n (pc := 0) (i := 0) hx hb d_letter_0 rfl (lx_get hl rfl) ?_
  refine lv_aload_n (pc := 1) (i := 0) hx hb d_letter_1 rfl (lx_get hl rfl) ?_
  refine r_get (pc := 2) (k := 7) (index := 16) B I (by decide) mF_16 rfl rfl d_letter_2 ?_
  refine lv_aload_n (pc := 5) (i := 0) hx hb d_letter_5 rfl (lx_get hl rfl) ?_
  refine r_get (pc := 6) (k := 18) (index := 216) B I (by decide) mF_216 rfl rfl d_letter_6 ?_
  refine ob1 hm (fun x1 e2 hm => ?_)
  refine r_ald (pc := 9) (j := 3) B I (by decide) (by decide) e2 d_letter_9 ?_
  refine lv_iconst (pc := 10) (v := 3) hx hb d_letter_10 (by decide) ?_
  refine lv_icmp_eq (pc := 11) (tgt := 18) hx hb d_letter_11 (by decide) (fun hc => ?_) (fun hc => ?_)
  · have hm := ift hc hm
    refine lv_iload_n (pc := 18) (i := 1) hx hb d_letter_18 rfl (lx_get hl rfl) ?_
    refine lv_if_lt (pc := 19) (tgt := 35) hx hb d_letter_19 (by decide) (fun hc => ?_) (fun hc => ?_)
    · have hm := ift hc hm
      exact w_letter_35  B hR hl I hm
    · have hm := iff' hc hm
      refine lv_iload_n (pc := 22) (i := 1) hx hb d_letter_22 rfl (lx_get hl rfl) ?_
      refine lv_aload_n (pc := 23) (i := 0) hx hb d_letter_23 rfl (lx_get hl rfl) ?_
      refine r_get (pc := 24) (k := 13) (index := 34) B I (by decide) mF_34 rfl rfl d_letter_24 ?_
      refine lv_aload_n (pc := 27) (i := 0) hx hb d_letter_27 rfl (lx_get hl rfl) ?_
      refine r_get (pc := 28) (k := 18) (index := 216) B I (by decide) mF_216 rfl rfl d_letter_28 ?_
      refine ob1 hm (fun x3 e4 hm => ?_)
      refine r_ald (pc := 31) (j := 9) B I (by decide) (by decide) e4 d_letter_31 ?_
      refine lv_icmp_lt (pc := 32) (tgt := 39) hx hb d_letter_32 (by decide) (fun hc => ?_) (fun hc => ?_)
      · have hm := ift hc hm
        refine lv_iconst (pc := 39) (v := 0) hx hb d_letter_39 (by decide) ?_
        exact w_letter_40  B hR hl I hm
      · have hm := iff' hc hm
        exact w_letter_35  B hR hl I hm
  · have hm := iff' hc hm
    refine lv_iconst (pc := 14) (v := 1) hx hb d_letter_14 (by decide) ?_
    refine lv_goto (pc := 15) (tgt := 40) hx hb d_letter_15 (by decide) ?_
    exact w_letter_40  B hR hl I hm
def m_key_33 (N : Nat) (y1 : Int32) (z1 : Int32) (S : rS) : Option (Int32 × rS) :=
  b1 (rP S 0 z1) (fun S1 => if S1.1 0 = 0 then (if y1 < 0 then (some ((-1), S1)) else (b1 (rL S1 11 (S1.1 18)) (fun x3 => if y1 < x3 then (b1 (rL S1 10 (S1.1 18)) (fun x5 => b1 (rL S1 13 (x5 + y1)) (fun x7 => some (x7, S1)))) else (some ((-1), S1))))) else (some (0, S1)))
set_option maxRecDepth 100000 in
set_option maxHeartbeats 4000000 in
theorem w_key_33 {y1 : Int32} {z1 : Int32} {S : rS} (B : BX p m c cb_key 3 s args (.code y_key cb_key 3 (some .int) :: wsA) RREF meth (some .int) D vwCl (tyL dA) b0 Z) (hR : RR b0 h Z) (hl : lx ls [some (.ref h), some (.int y1), none]) (I : AI D vwCl b0 (rH dA h S hp0) sz s.heap H locs)  (hm : m_key_33 N  y1 z1 S = some (r, S')) : W p l e { frames := 1, cells := 0, slots := 0, locals := 21 } s m args below meth c H locs 0 0 (MQ below (CQ D vwCl b0 (some (.int r)) (rH dA h S' hp0) sz) args s 0 0 (fun q => b0 ≤ q)) (F0 m 33 ls [.int z1, .ref h]) := by
  obtain ⟨hx, hb, -⟩ := B.1
  unfold m_key_33 at hm
  refine ob1 hm (fun S1 e2 hm => ?_)
  refine r_put (pc := 33) (k := 0) (index := 67) B hR I (by decide) mF_67 rfl rfl rfl (fun _ _ => rfl) e2 d_key_33 (fun H locs I => ?_)
  refine lv_aload_n (pc := 36) (i := 0) hx hb d_key_36 rfl (lx_get hl rfl) ?_
  refine r_get (pc := 37) (k := 0) (index := 67) B I (by decide) mF_67 rfl rfl d_key_37 ?_
  refine lv_if_eq (pc := 40) (tgt := 45) hx hb d_key_40 (by decide) (fun hc => ?_) (fun hc => ?_)
  · have hm := ift hc hm
    refine lv_iload_n (pc := 45) (i := 1) hx hb d_key_45 rfl (lx_get hl rfl) ?_
    refine lv_if_lt (pc := 46) (tgt := 62) hx hb d_key_46 (by decide) (fun hc => ?_) (fun hc => ?_)
    · have hm := ift hc hm
      refine lv_iconst (pc := 62) (v := (-1)) hx hb d_key_62 (by decide) ?_
      refine lv_goto (pc := 63) (tgt := 82) hx hb d_key_63 (by decide) ?_
      cases hm
      exact q_iret (pc := 82) B I rfl d_key_82
    · have hm := iff' hc hm
      refine lv_iload_n (pc := 49) (i := 1) hx hb d_key_49 rfl (lx_get hl rfl) ?_
      refine lv_aload_n (pc := 50) (i := 0) hx hb d_key_50 rfl (lx_get hl rfl) ?_
      refine r_get (pc := 51) (k := 15) (index := 40) B I (by decide) mF_40 rfl rfl d_key_51 ?_
      refine lv_aload_n (pc := 54) (i := 0) hx hb d_key_54 rfl (lx_get hl rfl) ?_
      refine r_get (pc := 55) (k := 18) (index := 216) B I (by decide) mF_216 rfl rfl d_key_55 ?_
      refine ob1 hm (fun x3 e4 hm => ?_)
      refine r_ald (pc := 58) (j := 11) B I (by decide) (by decide) e4 d_key_58 ?_
      refine lv_icmp_lt (pc := 59) (tgt := 66) hx hb d_key_59 (by decide) (fun hc => ?_) (fun hc => ?_)
      · have hm := ift hc hm
        refine lv_aload_n (pc := 66) (i := 0) hx hb d_key_66 rfl (lx_get hl rfl) ?_
        refine r_get (pc := 67) (k := 17) (index := 46) B I (by decide) mF_46 rfl rfl d_key_67 ?_
        refine lv_aload_n (pc := 70) (i := 0) hx hb d_key_70 rfl (lx_get hl rfl) ?_
        refine r_get (pc := 71) (k := 14) (index := 37) B I (by decide) mF_37 rfl rfl d_key_71 ?_
        refine lv_aload_n (pc := 74) (i := 0) hx hb d_key_74 rfl (lx_get hl rfl) ?_
        refine r_get (pc := 75) (k := 18) (index := 216) B I (by decide) mF_216 rfl rfl d_key_75 ?_
        refine ob1 hm (fun x5 e6 hm => ?_)
        refine r_ald (pc := 78) (j := 10) B I (by decide) (by decide) e6 d_key_78 ?_
        refine lv_iload_n (pc := 79) (i := 1) hx hb d_key_79 rfl (lx_get hl rfl) ?_
        refine lv_iadd (pc := 80) hx hb d_key_80 ?_
        refine ob1 hm (fun x7 e8 hm => ?_)
        refine r_ald (pc := 81) (j := 13) B I (by decide) (by decide) e8 d_key_81 ?_
        cases hm
        exact q_iret (pc := 82) B I rfl d_key_82
      · have hm := iff' hc hm
        refine lv_iconst (pc := 62) (v := (-1)) hx hb d_key_62 (by decide) ?_
        refine lv_goto (pc := 63) (tgt := 82) hx hb d_key_63 (by decide) ?_
        cases hm
        exact q_iret (pc := 82) B I rfl d_key_82
  · have hm := iff' hc hm
    refine lv_iconst (pc := 43) (v := 0) hx hb d_key_43 (by decide) ?_
    cases hm
    exact q_iret (pc := 44) B I rfl d_key_44
def m_key (N : Nat) (p1 : Int32) (S : rS) : Option (Int32 × rS) :=
  b1 (rL S 5 (S.1 18)) (fun x1 => if x1 = (-1) then (m_key_33 N  p1 1 S) else (b1 (m_isTable N x1 S) (fun x4 => if x4 = 0 then (m_key_33 N  p1 1 S) else (m_key_33 N  p1 0 S))))
set_option maxRecDepth 100000 in
set_option maxHeartbeats 4000000 in
theorem c_key {p1 : Int32} {S S' : rS} {r : Int32} (hR : RR b0 h Z) (hm : m_key N p1 S = some (r, S')) : Ct l D vwCl (tyL dA) b0 Z y_key (.code y_key cb_key 3 (some .int) :: wsA) 1 21 [.ref h, .int p1] (rH dA h S hp0) sz (some (.int r)) (rH dA h S' hp0) 0 0 := by
  refine ct_of (cc := cb_key) (maxL := 3) (ret := (some .int)) (lo0 := [some (.ref h), some (.int p1), none]) hR.2 (by decide) rfl (by simp [lg_sl, Value.category]) rfl (by simp [lx_all, lv_args, Value.category]) ?_
  intro p e s m args below meth c ls B hnm hl I
  obtain ⟨hx, hb, -⟩ := B.1
  unfold m_key at hm
  refine lv_aload_n (pc := 0) (i := 0) hx hb d_key_0 rfl (lx_get hl rfl) ?_
  refine r_get (pc := 1) (k := 9) (index := 22) B I (by decide) mF_22 rfl rfl d_key_1 ?_
  refine lv_aload_n (pc := 4) (i := 0) hx hb d_key_4 rfl (lx_get hl rfl) ?_
  refine r_get (pc := 5) (k := 18) (index := 216) B I (by decide) mF_216 rfl rfl d_key_5 ?_
  refine ob1 hm (fun x1 e2 hm => ?_)
  refine r_ald (pc := 8) (j := 5) B I (by decide) (by decide) e2 d_key_8 ?_
  refine q_istore_n (pc := 9) (i := 2) (lo' := [some (.ref h), some (.int p1), some (.int x1)]) hx hb d_key_9 rfl hl (Nat.le_of_ble_eq_true rfl) (lx_ci rfl) rfl (fun ls hl => ?_)
  refine lv_aload_n (pc := 10) (i := 0) hx hb d_key_10 rfl (lx_get hl rfl) ?_
  refine lv_iload_n (pc := 11) (i := 2) hx hb d_key_11 rfl (lx_get hl rfl) ?_
  refine lv_iconst (pc := 12) (v := (-1)) hx hb d_key_12 (by decide) ?_
  refine lv_icmp_ne (pc := 13) (tgt := 20) hx hb d_key_13 (by decide) (fun hc => ?_) (fun hc => ?_)
  · have hm := iff' hc hm
    refine lv_aload_n (pc := 20) (i := 0) hx hb d_key_20 rfl (lx_get hl rfl) ?_
    refine lv_iload_n (pc := 21) (i := 2) hx hb d_key_21 rfl (lx_get hl rfl) ?_
    refine ob1 hm (fun x4 e3 hm => ?_)
    refine r_call (pc := 22) (As := [.int x1]) (rest := [.ref h]) B hl rfl I (c_isTable hR e3) kw_isTable rfl (by decide) (by decide) rfl (by simp [Value.category]) d_key_22 (fun H locs I => ?_)
    refine lv_if_eq (pc := 25) (tgt := 32) hx hb d_key_25 (by decide) (fun hc => ?_) (fun hc => ?_)
    · have hm := ift hc hm
      refine lv_iconst (pc := 32) (v := 1) hx hb d_key_32 (by decide) ?_
      exact w_key_33  B hR (lx_sub (lo' := [some (.ref h), some (.int p1), none]) hl (by simp [lx_le])) I hm
    · have hm := iff' hc hm
      refine lv_iconst (pc := 28) (v := 0) hx hb d_key_28 (by decide) ?_
      refine lv_goto (pc := 29) (tgt := 33) hx hb d_key_29 (by decide) ?_
      exact w_key_33  B hR (lx_sub (lo' := [some (.ref h), some (.int p1), none]) hl (by simp [lx_le])) I hm
  · have hm := ift hc hm
    refine lv_iconst (pc := 16) (v := 1) hx hb d_key_16 (by decide) ?_
    refine lv_goto (pc := 17) (tgt := 33) hx hb d_key_17 (by decide) ?_
    exact w_key_33  B hR (lx_sub (lo' := [some (.ref h), some (.int p1), none]) hl (by simp [lx_le])) I hm
end RW
end
section
/-! The class's world: every cell has a kind; ints and references by address and place. -/
abbrev cS : Type := (Nat → Nat) × (Nat → Nat) × (Nat → Nat → Int32) × (Nat → Nat → Option Nat)
/-- the kind of a cell: constants lie below b0 (K tells them), the reference's cells are none of the class's -/
def ck (b0 : Nat) (S : cS) (a : Nat) : Nat := if a < b0 ∨ (b0 + 5 ≤ a ∧ a < b0 + 26) then 0 else S.1 a
def kd (b0 : Nat) (K S : cS) (a : Nat) : Nat := if a < b0 then K.1 a else ck b0 S a
def eK (b0 : Nat) (K S : cS) (a : Nat) : cS := if a < b0 then K else S
def up2 {α : Type} (f : Nat → Nat → α) (a k : Nat) (v : α) : Nat → Nat → α := fun b j => if b = a ∧ j = k then v else f b j
def gI (b0 : Nat) (K S : cS) (z k a : Nat) : Option Int32 := if kd b0 K S a = z then some ((eK b0 K S a).2.2.1 a k) else none
def gR (b0 : Nat) (K S : cS) (z k a : Nat) : Option (Option Nat) := if kd b0 K S a = z then some ((eK b0 K S a).2.2.2 a k) else none
def pI (b0 : Nat) (S : cS) (z k a : Nat) (v : Int32) : Option cS := if ck b0 S a = z then some (S.1, S.2.1, up2 S.2.2.1 a k v, S.2.2.2) else none
def pR (b0 : Nat) (S : cS) (z k a : Nat) (v : Option Nat) : Option cS := if ck b0 S a = z then some (S.1, S.2.1, S.2.2.1, up2 S.2.2.2 a k v) else none
def aL (b0 : Nat) (K S : cS) (z a : Nat) (i : Int32) : Option Int32 := if kd b0 K S a = z ∧ 0 ≤ i.toInt ∧ i.toInt < (eK b0 K S a).2.1 a then some ((eK b0 K S a).2.2.1 a i.toNatClampNeg) else none
def aT (b0 : Nat) (S : cS) (z a : Nat) (i x : Int32) : Option cS := if ck b0 S a = z ∧ 0 ≤ i.toInt ∧ i.toInt < S.2.1 a then some (S.1, S.2.1, up2 S.2.2.1 a i.toNatClampNeg x, S.2.2.2) else none
def aLR (b0 : Nat) (K S : cS) (a : Nat) (i : Int32) : Option (Option Nat) := if kd b0 K S a = 13 ∧ 0 ≤ i.toInt ∧ i.toInt < (eK b0 K S a).2.1 a then some ((eK b0 K S a).2.2.2 a i.toNatClampNeg) else none
def aTR (b0 : Nat) (S : cS) (a : Nat) (i : Int32) (x : Option Nat) : Option cS := if ck b0 S a = 13 ∧ 0 ≤ i.toInt ∧ i.toInt < S.2.1 a then some (S.1, S.2.1, S.2.2.1, up2 S.2.2.2 a i.toNatClampNeg x) else none
def aN (b0 : Nat) (K S : cS) (z a : Nat) : Option Int32 := if kd b0 K S a = z then some (Int32.ofNat ((eK b0 K S a).2.1 a)) else none
def nO (S : cS) (z a : Nat) : cS := (va_up S.1 a z, S.2.1, va_up S.2.2.1 a (fun _ => 0), va_up S.2.2.2 a (fun _ => none))
def nA (S : cS) (z a n : Nat) : cS := (va_up S.1 a z, va_up S.2.1 a n, va_up S.2.2.1 a (fun _ => 0), va_up S.2.2.2 a (fun _ => none))
def nAo (S : cS) (z a : Nat) (n : Int32) : Option cS := if 0 ≤ n.toInt ∧ n.toInt < 100000 then some (nA S z a n.toNatClampNeg) else none
def om {α : Type} (o : Option Nat) (A : α) (f : Nat → α) : α := match o with
  | none => A
  | some a => f a
theorem oom {α : Type} {o : Option Nat} {A r : α} {f : Nat → α} {P : Prop} (h : om o A f = r) (k0 : o = none → A = r → P) (k1 : ∀ a, o = some a → f a = r → P) : P := by
  cases o with
  | none => exact k0 rfl h
  | some a => exact k1 a rfl h
def b3 {α β γ δ : Type} (o : Option (α × β × γ)) (f : α → β → γ → Option δ) : Option δ := match o with
  | none => none
  | some x => f x.1 x.2.1 x.2.2
def b4 {α β γ δ ε : Type} (o : Option (α × β × γ × δ)) (f : α → β → γ → δ → Option ε) : Option ε := match o with
  | none => none
  | some x => f x.1 x.2.1 x.2.2.1 x.2.2.2
theorem ob3 {α β γ δ : Type} {o : Option (α × β × γ)} {f : α → β → γ → Option δ} {r : δ} {P : Prop} (h : b3 o f = some r) (k : ∀ x y z, o = some (x, y, z) → f x y z = some r → P) : P := by
  cases o with
  | none => cases h
  | some x => exact k x.1 x.2.1 x.2.2 rfl h
theorem ob4 {α β γ δ ε : Type} {o : Option (α × β × γ × δ)} {f : α → β → γ → δ → Option ε} {r : ε} {P : Prop} (h : b4 o f = some r) (k : ∀ x y z w, o = some (x, y, z, w) → f x y z w = some r → P) : P := by
  cases o with
  | none => cases h
  | some x => exact k x.1 x.2.1 x.2.2.1 x.2.2.2 rfl h
def wr3 (n k : Nat) (o : Option (cS × Nat × Nat)) : Option (cS × Nat × Nat) := match o with
  | none => none
  | some x => some (x.1, n + x.2.1, k + x.2.2)
def wr4 {α : Type} (n k : Nat) (o : Option (α × cS × Nat × Nat)) : Option (α × cS × Nat × Nat) := match o with
  | none => none
  | some x => some (x.1, x.2.1, n + x.2.2.1, k + x.2.2.2)
theorem owr3 {n k cells slots mc ms dc ds : Nat} {S' : cS} {o : Option (cS × Nat × Nat)} {P : Prop} (h : wr3 n k o = some (S', dc, ds)) (hc : cells + dc = mc) (hs : slots + ds = ms)
    (kk : ∀ dc ds, o = some (S', dc, ds) → (cells + n) + dc = mc → (slots + k) + ds = ms → P) : P := by
  cases o with
  | none => cases h
  | some x => cases h; exact kk x.2.1 x.2.2 rfl (by omega) (by omega)
theorem owr4 {α : Type} {n k cells slots mc ms dc ds : Nat} {r : α} {S' : cS} {o : Option (α × cS × Nat × Nat)} {P : Prop} (h : wr4 n k o = some (r, S', dc, ds)) (hc : cells + dc = mc) (hs : slots + ds = ms)
    (kk : ∀ dc ds, o = some (r, S', dc, ds) → (cells + n) + dc = mc → (slots + k) + ds = ms → P) : P := by
  cases o with
  | none => cases h
  | some x => cases h; exact kk x.2.2.1 x.2.2.2 rfl (by omega) (by omega)
theorem hzn {n sz sz0 cells : Nat} (h : sz = sz0 + cells) : sz + n = sz0 + (cells + n) := by omega
theorem hr_ {c d mc : Nat} (h : c + d = mc) : c ≤ mc := by omega
theorem hr0 {c d mc : Nat} (h : c + d = mc) : c + 0 ≤ mc := by omega
def cFl (z : Nat) (S : cS) (a : Nat) : List Value := match z with
  | 1 => [va_rf (S.2.2.2 a 0), va_rf (S.2.2.2 a 1), .int (S.2.2.1 a 2), va_rf (S.2.2.2 a 3), va_rf (S.2.2.2 a 4)]
  | 2 => [.int (S.2.2.1 a 0), .int (S.2.2.1 a 1), va_rf (S.2.2.2 a 2), va_rf (S.2.2.2 a 3), va_rf (S.2.2.2 a 4), va_rf (S.2.2.2 a 5), va_rf (S.2.2.2 a 6), va_rf (S.2.2.2 a 7)]
  | 3 => [va_rf (S.2.2.2 a 0), .int (S.2.2.1 a 1), va_rf (S.2.2.2 a 2)]
  | 4 => [va_rf (S.2.2.2 a 0), .int (S.2.2.1 a 1), va_rf (S.2.2.2 a 2), va_rf (S.2.2.2 a 3), va_rf (S.2.2.2 a 4), va_rf (S.2.2.2 a 5), .int (S.2.2.1 a 6), .int (S.2.2.1 a 7)]
  | 5 => [va_rf (S.2.2.2 a 0), .int (S.2.2.1 a 1)]
  | 6 => [va_rf (S.2.2.2 a 0), .int (S.2.2.1 a 1)]
  | 7 => [va_rf (S.2.2.2 a 0), .int (S.2.2.1 a 1), .int (S.2.2.1 a 2), .int (S.2.2.1 a 3)]
  | _ => [.int (S.2.2.1 a 0), va_rf (S.2.2.2 a 1), .int (S.2.2.1 a 2)]
def cC (z : Nat) : String := match z with
  | 1 => RZ1 | 2 => RZ2 | 3 => RZ3 | 4 => RZ4 | 5 => RZ5 | 6 => RZ6 | 7 => RZ7 | _ => RZ8
def cT (z : Nat) : u_T := match z with
  | 1 => TZ1 | 2 => TZ2 | 3 => TZ3 | 4 => TZ4 | 5 => TZ5 | 6 => TZ6 | 7 => TZ7 | _ => TZ8
def cTy (z : Nat) : Nat → FieldType := match z with
  | 1 => tyZ1 | 2 => tyZ2 | 3 => tyZ3 | 4 => tyZ4 | 5 => tyZ5 | 6 => tyZ6 | 7 => tyZ7 | _ => tyZ8
def cNn (z : Nat) : Nat := match z with
  | 1 => 5 | 2 => 8 | 3 => 3 | 4 => 8 | 5 => 2 | 6 => 2 | 7 => 4 | _ => 3
theorem c18 {P : Nat → Prop} (h1 : P 1) (h2 : P 2) (h3 : P 3) (h4 : P 4) (h5 : P 5) (h6 : P 6) (h7 : P 7) (h8 : P 8) {z : Nat} (hz : 1 ≤ z ∧ z ≤ 8) : P z := by
  obtain ⟨a, b⟩ := hz
  match z, a, b with
  | 1, _, _ => exact h1
  | 2, _, _ => exact h2
  | 3, _, _ => exact h3
  | 4, _, _ => exact h4
  | 5, _, _ => exact h5
  | 6, _, _ => exact h6
  | 7, _, _ => exact h7
  | 8, _, _ => exact h8
  | z + 9, _, b => omega
theorem hcC {z : Nat} (hz : 1 ≤ z ∧ z ≤ 8) : vwCl[z]? = some (cC z, cT z, cNn z) := c18 (P := fun z => vwCl[z]? = some (cC z, cT z, cNn z)) rfl rfl rfl rfl rfl rfl rfl rfl hz
theorem wsA_c {z : Nat} (hz : 1 ≤ z ∧ z ≤ 8) : ∀ w ∈ u_ws (cC z) (cT z) (cNn z), w ∈ wsA := c18 (P := fun z => ∀ w ∈ u_ws (cC z) (cT z) (cNn z), w ∈ wsA) wsA_Z1 wsA_Z2 wsA_Z3 wsA_Z4 wsA_Z5 wsA_Z6 wsA_Z7 wsA_Z8 hz
theorem cTy_ok {z : Nat} (hz : 1 ≤ z ∧ z ≤ 8) : ∀ k, k < cNn z → parseFieldDescriptor (cT z k).2.2.1 = some (cTy z k) := c18 (P := fun z => ∀ k, k < cNn z → parseFieldDescriptor (cT z k).2.2.1 = some (cTy z k)) tyZ1_ok tyZ2_ok tyZ3_ok tyZ4_ok tyZ5_ok tyZ6_ok tyZ7_ok tyZ8_ok hz
theorem cNm {z : Nat} (hz : 1 ≤ z ∧ z ≤ 8) : ∀ a, a < cNn z → ∀ b, b < cNn z → a ≠ b → (cT z a).2.1 ≠ (cT z b).2.1 := c18 (P := fun z => ∀ a, a < cNn z → ∀ b, b < cNn z → a ≠ b → (cT z a).2.1 ≠ (cT z b).2.1) nmZ1 nmZ2 nmZ3 nmZ4 nmZ5 nmZ6 nmZ7 nmZ8 hz
theorem cFl_len {z : Nat} {S : cS} {a : Nat} (hz : 1 ≤ z ∧ z ≤ 8) : (cFl z S a).length = cNn z := c18 (P := fun z => (cFl z S a).length = cNn z) rfl rfl rfl rfl rfl rfl rfl rfl hz
def cCell (dA : Nat → ClassId) (b0 : Nat) (S : cS) (a : Nat) : Option va_E :=
  if ck b0 S a = 0 then none else if ck b0 S a ≤ 8 then some (.inr (ck b0 S a, cFl (ck b0 S a) S a)) else if ck b0 S a = 13 then some (.inl (dA 3, S.2.1 a, .inr (.inr (.inr (.inr (S.2.2.2 a)))))) else if ck b0 S a = 11 then some (.inl (dA 1, S.2.1 a, .inl (S.2.2.1 a))) else some (.inl (dA 2, S.2.1 a, .inl (S.2.2.1 a)))
def cH (dA : Nat → ClassId) (b0 : Nat) (S : cS) (hp0 : aH) : aH := fun a => match cCell dA b0 S a with
  | none => hp0 a
  | some e => some e
theorem cH_o {dA : Nat → ClassId} {b0 z a : Nat} {S : cS} {hp0 : aH} (hz : 1 ≤ z ∧ z ≤ 8) (h : ck b0 S a = z) : cH dA b0 S hp0 a = some (.inr (z, cFl z S a)) := by
  have h0 : ¬ z = 0 := by omega
  simp only [cH, cCell, h, if_neg h0, if_pos hz.2]
theorem cH_c {dA : Nat → ClassId} {b0 a : Nat} {S : cS} {hp0 : aH} (h : ck b0 S a = 11) : cH dA b0 S hp0 a = some (.inl (dA 1, S.2.1 a, .inl (S.2.2.1 a))) := by simp [cH, cCell, h]
theorem cH_b {dA : Nat → ClassId} {b0 a : Nat} {S : cS} {hp0 : aH} (h : ck b0 S a = 12) : cH dA b0 S hp0 a = some (.inl (dA 2, S.2.1 a, .inl (S.2.2.1 a))) := by simp [cH, cCell, h]
theorem cH_q {dA : Nat → ClassId} {b0 a : Nat} {S : cS} {hp0 : aH} (h : ck b0 S a = 13) : cH dA b0 S hp0 a = some (.inl (dA 3, S.2.1 a, .inr (.inr (.inr (.inr (S.2.2.2 a)))))) := by simp [cH, cCell, h]
theorem ck_b {b0 a z : Nat} {S : cS} (hz : 1 ≤ z) (h : ck b0 S a = z) : b0 ≤ a := by
  unfold ck at h
  by_cases hc : a < b0 ∨ (b0 + 5 ≤ a ∧ a < b0 + 26)
  · rw [if_pos hc] at h; omega
  · omega
/-- a change at one address -/
theorem cH_up {dA : Nat → ClassId} {b0 a : Nat} {S S1 : cS} {hp0 : aH} {e : va_E} (he : cH dA b0 S1 hp0 a = some e) (h : ∀ b, b ≠ a → cCell dA b0 S1 b = cCell dA b0 S b) : va_up (cH dA b0 S hp0) a (some e) = cH dA b0 S1 hp0 := by
  funext b
  by_cases hb : b = a
  · subst hb; rw [va_up_self, he]
  · rw [va_up_ne _ _ hb]; simp only [cH, h b hb]
theorem up2_ne {α : Type} {f : Nat → Nat → α} {a k b : Nat} {v : α} (h : b ≠ a) : up2 f a k v b = f b := by funext j; simp [up2, h]
theorem cFl_cong {z b : Nat} {S S1 : cS} (h1 : S1.2.2.1 b = S.2.2.1 b) (h2 : S1.2.2.2 b = S.2.2.2 b) : cFl z S1 b = cFl z S b := by
  unfold cFl; rw [h1, h2]
theorem cCell_cong {dA : Nat → ClassId} {b0 b : Nat} {S S1 : cS} (h0 : S1.1 b = S.1 b) (hn : S1.2.1 b = S.2.1 b) (h1 : S1.2.2.1 b = S.2.2.1 b) (h2 : S1.2.2.2 b = S.2.2.2 b) : cCell dA b0 S1 b = cCell dA b0 S b := by
  have hk : ck b0 S1 b = ck b0 S b := by simp only [ck, h0]
  simp only [cCell, hk, hn, h1, h2, cFl_cong h1 h2]
/-! what stays: links across the nest, statics, constants -/
abbrev bA (b0 : Nat) : Nat → Prop := fun q => b0 ≤ q
def isNest (w : Cond) : Bool := match w with
  | .fieldLinkNest _ _ _ _ _ _ => true
  | .methodLinkNest _ _ _ _ => true
  | _ => false
def nwA : List Cond := tables_1.filter isNest
def daysL : List Int32 := [31, 28, 31, 30, 31, 30, 31, 31, 30, 31, 30, 31]
def daysT (i : Int32) : Option Int32 := if 0 ≤ i.toInt ∧ i.toInt < 12 then some (daysL.getD i.toNatClampNeg 0) else none
def litL : List (String × Nat × String) := [("TableText$Reader", 162, "true"), ("TableText$Reader", 167, "false"), ("TableText$Page", 114, "\\n"), ("TableText$Page", 116, "\\t"), ("TableText$Page", 41, " = "), ("TableText$Page", 69, "true"), ("TableText$Page", 71, "false"), ("TableText$Page", 93, "\n"), ("TableText$Page", 95, ", ")]
def ZX (b0 : Nat) (K : cS) (s : State) : Prop :=
  (∀ w ∈ nwA, va_Nw w s) ∧ va_Z "java/lang/String" "COMPACT_STRINGS" "Z" (.int 1) (bA b0) s s.heap ∧
  (∃ d : Nat, K.2.2.2 0 0 = some d ∧ va_Z "java/util/ArrayList" "DEFAULTCAPACITY_EMPTY_ELEMENTDATA" "[Ljava/lang/Object;" (.ref d) (bA b0) s s.heap) ∧
  va_Zq "jdk/internal/util/Preconditions" "SIOOBE_FORMATTER" "Ljava/util/function/BiFunction;" (bA b0) s s.heap ∧
  (∃ d : Nat, va_Z "TableText" "DAYS" "[I" (.ref d) (bA b0) s s.heap ∧ va_T .int d 12 (fun j => .int (daysL.getD j 0)) (bA b0) s s.heap) ∧
  (∀ a : Nat, a < b0 → K.1 a = 0 ∨ K.1 a = 6 ∨ K.1 a = 12 ∨ K.1 a = 13) ∧
  (∀ a : Nat, a < b0 → K.1 a = 6 → va_O "java/lang/String" a (bA b0) s s.heap ∧ ∀ (k : Nat) (v : Value), (cFl 6 K a)[k]? = some v → va_OF (TZ6 k).1 (TZ6 k).2.1 (TZ6 k).2.2.1 v a (bA b0) s s.heap) ∧
  (∀ a : Nat, a < b0 → K.1 a = 12 → va_T .byte a (K.2.1 a) (fun j => .int (K.2.2.1 a j)) (bA b0) s s.heap) ∧
  (∀ a : Nat, a < b0 → K.1 a = 13 → va_T (.object "java/lang/Object") a (K.2.1 a) (fun j => va_rf (K.2.2.2 a j)) (bA b0) s s.heap) ∧
  (∀ (j : Nat) (q : String × Nat × String), litL[j]? = some q → ∃ a : Nat, K.2.2.2 0 (j + 1) = some a ∧ vk_R q.1 q.2.1 q.2.2 a s)
def CR (b0 : Nat) (K : cS) (Z : State → Prop) : Prop := ZC b0 Z ∧ ∀ s, Z s → ZX b0 K s
section KX
variable {p : Program} {l : Launch} {e : Env} {R : Room} {s : State} {m : MethodId} {args : Array Value} {below : List Frame} {meth : Method} {c : Code} {H : Heap} {locs : List Loc} {cells slots : Nat} {Q : State → Prop}
variable {cc : ByteArray} {pc : Nat} {ls : Array Slot} {rest : List Value} {D : va_G} {dA : Nat → ClassId} {hp0 : aH} {sz b0 nL : Nat} {cd : Cond} {ret : Option FieldType} {K S S1 : cS} {Z : State → Prop} {own ref : String}
theorem k_get {z k index a : Nat} {v : Value} (B : BX p m c cc nL s args (cd :: wsA) own meth ret D vwCl (tyL dA) b0 Z) (hR : CR b0 K Z) (I : AI D vwCl b0 (cH dA b0 S hp0) sz s.heap H locs) (hz : 1 ≤ z ∧ z ≤ 8) (hk : k < cNn z) (hlink : Cond.fieldLink own index ref (cT z k).2.1 (cT z k).2.2.1 ∈ wsA) (hsame : (cT z k).1 = ref) (h : kd b0 K S a = z) (hv : (cFl z (eK b0 K S a) a)[k]? = some v) (hdg : decode cc pc = .ok (.getfield index, 3))
    (kk : W p l e R s m args below meth c H locs cells slots Q (F0 m (pc + 3) ls (v :: rest))) : W p l e R s m args below meth c H locs cells slots Q (F0 m pc ls (.ref a :: rest)) := by
  by_cases ha : a < b0
  · unfold kd at h
    unfold eK at hv
    rw [if_pos ha] at h hv
    have X := hR.2 s B.2.2.2.2.1
    obtain ⟨-, -, -, -, -, x0, x6, -⟩ := X
    have h6 : z = 6 := by rcases x0 a ha with q | q | q | q <;> omega
    subst h6
    exact vk_getf B.1.1 B.1.2.1 ((x6 a ha h).2 k v hv) I.2.2.2 B.1.2.2.2.1 (B.1.2.2.2.2 _ (List.mem_cons_of_mem _ hlink)) (fun x hx => by rw [← hsame]; exact hx) hdg kk
  · unfold kd at h
    unfold eK at hv
    rw [if_neg ha] at h hv
    exact q_get B I (fun w hw => List.mem_cons_of_mem _ (wsA_c hz w hw)) (cH_o hz h) (hcC hz) k hk (List.mem_cons_of_mem _ hlink) hsame hv hdg kk
theorem k_getI {z k index a : Nat} {x : Int32} (B : BX p m c cc nL s args (cd :: wsA) own meth ret D vwCl (tyL dA) b0 Z) (hR : CR b0 K Z) (I : AI D vwCl b0 (cH dA b0 S hp0) sz s.heap H locs) (hz : 1 ≤ z ∧ z ≤ 8) (hk : k < cNn z) (hlink : Cond.fieldLink own index ref (cT z k).2.1 (cT z k).2.2.1 ∈ wsA) (hsame : (cT z k).1 = ref) (hv : ∀ (S : cS) (a : Nat), (cFl z S a)[k]? = some (.int (S.2.2.1 a k))) (e1 : gI b0 K S z k a = some x) (hdg : decode cc pc = .ok (.getfield index, 3))
    (kk : W p l e R s m args below meth c H locs cells slots Q (F0 m (pc + 3) ls (.int x :: rest))) : W p l e R s m args below meth c H locs cells slots Q (F0 m pc ls (.ref a :: rest)) := by
  unfold gI at e1
  by_cases h : kd b0 K S a = z
  · rw [if_pos h] at e1
    cases e1
    exact k_get B hR I hz hk hlink hsame h (hv _ a) hdg kk
  · rw [if_neg h] at e1
    cases e1
theorem k_getR {z k index a : Nat} {x : Option Nat} (B : BX p m c cc nL s args (cd :: wsA) own meth ret D vwCl (tyL dA) b0 Z) (hR : CR b0 K Z) (I : AI D vwCl b0 (cH dA b0 S hp0) sz s.heap H locs) (hz : 1 ≤ z ∧ z ≤ 8) (hk : k < cNn z) (hlink : Cond.fieldLink own index ref (cT z k).2.1 (cT z k).2.2.1 ∈ wsA) (hsame : (cT z k).1 = ref) (hv : ∀ (S : cS) (a : Nat), (cFl z S a)[k]? = some (va_rf (S.2.2.2 a k))) (e1 : gR b0 K S z k a = some x) (hdg : decode cc pc = .ok (.getfield index, 3))
    (kk : W p l e R s m args below meth c H locs cells slots Q (F0 m (pc + 3) ls (va_rf x :: rest))) : W p l e R s m args below meth c H locs cells slots Q (F0 m pc ls (.ref a :: rest)) := by
  unfold gR at e1
  by_cases h : kd b0 K S a = z
  · rw [if_pos h] at e1
    cases e1
    exact k_get B hR I hz hk hlink hsame h (hv _ a) hdg kk
  · rw [if_neg h] at e1
    cases e1
end KX
end
section
/-! The class's world, on: stores, arrays, new cells. -/
section KY
variable {p : Program} {l : Launch} {e : Env} {R : Room} {s : State} {m : MethodId} {args : Array Value} {below : List Frame} {meth : Method} {c : Code} {H : Heap} {locs : List Loc} {cells slots : Nat} {Q : State → Prop}
variable {cc : ByteArray} {pc : Nat} {ls : Array Slot} {rest : List Value} {D : va_G} {dA : Nat → ClassId} {hp0 hp : aH} {sz b0 nL : Nat} {cd : Cond} {ret : Option FieldType} {K S S1 : cS} {Z : State → Prop} {own ref host : String} {cl : List vw_C} {tys : List (ClassId × FieldType)} {Ts : List Cond} {H0 : Heap}
theorem q_getN {C : String} {T : u_T} {N ci index a : Nat} (B : BX p m c cc nL s args Ts own meth ret D cl tys b0 Z) (I : AI D cl b0 hp sz H0 H locs) (hin : ∀ w ∈ u_ws C T N, w ∈ Ts) {fs : List Value} (he : hp a = some (.inr (ci, fs))) (hc : cl[ci]? = some (C, T, N)) (k : Nat) (hk : k < N)
    (hlink : va_Nw (Cond.fieldLinkNest own index ref (T k).2.1 (T k).2.2.1 host) s) (hsame : (T k).1 = ref) {v : Value} (hv : fs[k]? = some v) (hdg : decode cc pc = .ok (.getfield index, 3))
    (kk : W p l e R s m args below meth c H locs cells slots Q (F0 m (pc + 3) ls (v :: rest))) : W p l e R s m args below meth c H locs cells slots Q (F0 m pc ls (.ref a :: rest)) :=
  va_getN (D := D) (ws := [(a, .inr (ci, fs))]) B.1.1 B.1.2.1 B.1.2.2.2.2 hin B.1.2.2.2.1 B.2.2.2.1 (fun k q hq => by
    have hz : k < 1 := (List.getElem?_eq_some_iff.mp hq).1
    rw [show k = 0 by omega] at hq
    cases hq
    exact I.1 a _ he) 0 rfl hc k hk (va_Nw.use rfl hlink) (fun x h => by rw [← hsame]; exact h) hv hdg kk
theorem q_putN {C : String} {T : u_T} {N ci index a : Nat} (B : BX p m c cc nL s args Ts own meth ret D cl tys b0 Z) (I : AI D cl b0 hp sz H0 H locs) (hin : ∀ w ∈ u_ws C T N, w ∈ Ts) (ty0 : Nat → FieldType) (hty : ∀ k, k < N → parseFieldDescriptor (T k).2.2.1 = some (ty0 k)) (hnm : ∀ a, a < N → ∀ b, b < N → a ≠ b → (T a).2.1 ≠ (T b).2.1)
    {fs : List Value} (he : hp a = some (.inr (ci, fs))) (hba : b0 ≤ a) (hc : cl[ci]? = some (C, T, N)) (k : Nat) (hk : k < N)
    (hlink : va_Nw (Cond.fieldLinkNest own index ref (T k).2.1 (T k).2.2.1 host) s) (hsame : (T k).1 = ref) (hfin : (T k).2.2.2 = false) {v : Value} (hn : narrow (ty0 k) v = v) (hfit : fits (ty0 k) v = true) (hl : k < fs.length) (hdg : decode cc pc = .ok (.putfield index, 3))
    (kk : ∀ (H1 : Heap) (locs1 : List Loc), AI D cl b0 (va_up hp a (some (.inr (ci, fs.set k v)))) sz H0 H1 locs1 → W p l e R s m args below meth c H1 locs1 cells slots Q (F0 m (pc + 3) ls rest)) : W p l e R s m args below meth c H locs cells slots Q (F0 m pc ls (v :: .ref a :: rest)) := by
  obtain ⟨⟨hx, hb, -, hown, hts⟩, -, -, hK, -⟩ := B
  have hap := va_apart (own := own) hts hin ty0 hty hnm hK hc
  obtain ⟨r, h1, cell, q1, q2, q3, q4⟩ := I.1 a _ he
  have hr : r = (C, T, N) := Option.some.inj (h1.symm.trans hc)
  subst hr
  obtain ⟨hS, hfc, kC, hkC, hkind⟩ := hK.1 ci _ hc
  obtain ⟨cf, kf, fi, f, hi, hsl⟩ := hS k hk
  have hlay := hts _ (hin _ (u_in_lay hk))
  unfold u_lay at hlay
  rw [if_neg (by rw [hfin]; decide)] at hlay
  have hst := (u_facts hfc hkC (u_lays hts hin hk) hi).1
  have h6 := u_store hfc hkC hkind hlay hi (hty k hk) hn hfit
  refine va_WputK hx hb (f := f) hown (va_Nw.use rfl hlink) (by rw [← hsame]; exact hi) hst (by rw [q2]; exact h6) q1 q3 (by rw [hsl]; exact k2_hasslot (q4 k hk)) rfl rfl hdg fun H' e1 e2 e3 => ?_
  rw [hsl] at e1 ⊢
  exact kk H' _ ⟨I.1.up ⟨_, hc, t_OB.to (V := updV (vp_V fs) k v) ⟨_, e1, q2, q3, t_set q4 hap hk v⟩ (fun j _ => vp_updV_set hl v j)⟩ e3, by rw [e2]; exact I.2.1, I.2.2.1, I.2.2.2.put e2 e3 hba⟩
theorem q_putF {C : String} {T : u_T} {N ci index a : Nat} (B : BX p m c cc nL s args Ts own meth ret D cl tys b0 Z) (I : AI D cl b0 hp sz H0 H locs) (hin : ∀ w ∈ u_ws C T N, w ∈ Ts) (ty0 : Nat → FieldType) (hty : ∀ k, k < N → parseFieldDescriptor (T k).2.2.1 = some (ty0 k)) (hnm : ∀ a, a < N → ∀ b, b < N → a ≠ b → (T a).2.1 ≠ (T b).2.1)
    {fs : List Value} (he : hp a = some (.inr (ci, fs))) (hba : b0 ≤ a) (hc : cl[ci]? = some (C, T, N)) (k : Nat) (hk : k < N)
    (hlink : (Cond.fieldLink own index ref (T k).2.1 (T k).2.2.1) ∈ Ts) (hsame : (T k).1 = ref) (hfin : (T k).2.2.2 = true) (hin2 : meth.name = "<init>") (hdecl : (T k).1 = own) {v : Value} (hn : narrow (ty0 k) v = v) (hfit : fits (ty0 k) v = true) (hl : k < fs.length) (hdg : decode cc pc = .ok (.putfield index, 3))
    (kk : ∀ (H1 : Heap) (locs1 : List Loc), AI D cl b0 (va_up hp a (some (.inr (ci, fs.set k v)))) sz H0 H1 locs1 → W p l e R s m args below meth c H1 locs1 cells slots Q (F0 m (pc + 3) ls rest)) : W p l e R s m args below meth c H locs cells slots Q (F0 m pc ls (v :: .ref a :: rest)) := by
  obtain ⟨⟨hx, hb, -, hown, hts⟩, -, -, hK, -⟩ := B
  have hap := va_apart (own := own) hts hin ty0 hty hnm hK hc
  obtain ⟨r, h1, cell, q1, q2, q3, q4⟩ := I.1 a _ he
  have hr : r = (C, T, N) := Option.some.inj (h1.symm.trans hc)
  subst hr
  obtain ⟨hS, hfc, kC, hkC, hkind⟩ := hK.1 ci _ hc
  obtain ⟨cf, kf, fi, f, hi, hsl⟩ := hS k hk
  have hlay := hts _ (hin _ (u_in_lay hk))
  unfold u_lay at hlay
  rw [if_pos hfin] at hlay
  have hst := (u_facts hfc hkC (u_lays hts hin hk) hi).1
  have hcf : m.cls = cf := by
    obtain ⟨_, _, c', _, _, _, -, -, hf', -, -, -, hown2, -⟩ := Cond.laysFinal_spec hlay
    have e1 : c' = cf := by have := hi.symm.trans hf'; simp at this; exact this.1.symm
    rw [hdecl] at hown2
    rw [← e1]; exact Option.some.inj (hown.symm.trans hown2)
  have h6 := u_fits hfc hkC hkind (Or.inr hlay) hi (hty k hk) hn hfit
  refine W.putFinK hx hb hown (hts _ hlink) (by rw [← hsame]; exact hi) hst hcf hin2 (by rw [q2]; exact h6) q1 q3 (by rw [hsl]; exact k2_hasslot (q4 k hk)) rfl rfl hdg fun H' e1 e2 e3 => ?_
  rw [hsl] at e1 ⊢
  exact kk H' _ ⟨I.1.up ⟨_, hc, t_OB.to (V := updV (vp_V fs) k v) ⟨_, e1, q2, q3, t_set q4 hap hk v⟩ (fun j _ => vp_updV_set hl v j)⟩ e3, by rw [e2]; exact I.2.1, I.2.2.1, I.2.2.2.put e2 e3 hba⟩
theorem nar_rf {ty : FieldType} (h : (∃ n, ty = .object n) ∨ ∃ t, ty = .array t) (r : Option Nat) : narrow ty (va_rf r) = va_rf r ∧ fits ty (va_rf r) = true := by
  rcases h with ⟨n, rfl⟩ | ⟨t, rfl⟩ <;> cases r <;> exact ⟨rfl, rfl⟩
theorem k_getIN {z k index a : Nat} {x : Int32} (B : BX p m c cc nL s args (cd :: wsA) own meth ret D vwCl (tyL dA) b0 Z) (hR : CR b0 K Z) (I : AI D vwCl b0 (cH dA b0 S hp0) sz s.heap H locs) (hz : 1 ≤ z ∧ z ≤ 5) (hk : k < cNn z) (hlink : Cond.fieldLinkNest own index ref (cT z k).2.1 (cT z k).2.2.1 host ∈ nwA) (hsame : (cT z k).1 = ref) (hv : ∀ (S : cS) (a : Nat), (cFl z S a)[k]? = some (.int (S.2.2.1 a k))) (e1 : gI b0 K S z k a = some x) (hdg : decode cc pc = .ok (.getfield index, 3))
    (kk : W p l e R s m args below meth c H locs cells slots Q (F0 m (pc + 3) ls (.int x :: rest))) : W p l e R s m args below meth c H locs cells slots Q (F0 m pc ls (.ref a :: rest)) := by
  have X := hR.2 s B.2.2.2.2.1
  unfold gI at e1
  by_cases h : kd b0 K S a = z
  · rw [if_pos h] at e1
    cases e1
    have ha : ¬ a < b0 := fun ha => by
      unfold kd at h; rw [if_pos ha] at h
      rcases X.2.2.2.2.2.1 a ha with q | q | q | q <;> omega
    unfold kd at h; rw [if_neg ha] at h
    unfold eK at kk; rw [if_neg ha] at kk
    exact q_getN B I (fun w hw => List.mem_cons_of_mem _ (wsA_c ⟨hz.1, by omega⟩ w hw)) (cH_o ⟨hz.1, by omega⟩ h) (hcC ⟨hz.1, by omega⟩) k hk (X.1 _ hlink) hsame (hv S a) hdg kk
  · rw [if_neg h] at e1
    cases e1
theorem k_getRN {z k index a : Nat} {x : Option Nat} (B : BX p m c cc nL s args (cd :: wsA) own meth ret D vwCl (tyL dA) b0 Z) (hR : CR b0 K Z) (I : AI D vwCl b0 (cH dA b0 S hp0) sz s.heap H locs) (hz : 1 ≤ z ∧ z ≤ 5) (hk : k < cNn z) (hlink : Cond.fieldLinkNest own index ref (cT z k).2.1 (cT z k).2.2.1 host ∈ nwA) (hsame : (cT z k).1 = ref) (hv : ∀ (S : cS) (a : Nat), (cFl z S a)[k]? = some (va_rf (S.2.2.2 a k))) (e1 : gR b0 K S z k a = some x) (hdg : decode cc pc = .ok (.getfield index, 3))
    (kk : W p l e R s m args below meth c H locs cells slots Q (F0 m (pc + 3) ls (va_rf x :: rest))) : W p l e R s m args below meth c H locs cells slots Q (F0 m pc ls (.ref a :: rest)) := by
  have X := hR.2 s B.2.2.2.2.1
  unfold gR at e1
  by_cases h : kd b0 K S a = z
  · rw [if_pos h] at e1
    cases e1
    have ha : ¬ a < b0 := fun ha => by
      unfold kd at h; rw [if_pos ha] at h
      rcases X.2.2.2.2.2.1 a ha with q | q | q | q <;> omega
    unfold kd at h; rw [if_neg ha] at h
    unfold eK at kk; rw [if_neg ha] at kk
    exact q_getN B I (fun w hw => List.mem_cons_of_mem _ (wsA_c ⟨hz.1, by omega⟩ w hw)) (cH_o ⟨hz.1, by omega⟩ h) (hcC ⟨hz.1, by omega⟩) k hk (X.1 _ hlink) hsame (hv S a) hdg kk
  · rw [if_neg h] at e1
    cases e1
theorem cH_pI {z k a : Nat} {v : Int32} (hz : 1 ≤ z ∧ z ≤ 8) (h : ck b0 S a = z) (hset : ∀ (S : cS) (a : Nat) (v : Int32), (cFl z S a).set k (.int v) = cFl z (S.1, S.2.1, up2 S.2.2.1 a k v, S.2.2.2) a) : va_up (cH dA b0 S hp0) a (some (.inr (z, (cFl z S a).set k (.int v)))) = cH dA b0 (S.1, S.2.1, up2 S.2.2.1 a k v, S.2.2.2) hp0 := by
  rw [hset]
  exact cH_up (cH_o hz (by exact h)) (fun b hb => cCell_cong rfl rfl (up2_ne hb) rfl)
theorem cH_pR {z k a : Nat} {v : Option Nat} (hz : 1 ≤ z ∧ z ≤ 8) (h : ck b0 S a = z) (hset : ∀ (S : cS) (a : Nat) (v : Option Nat), (cFl z S a).set k (va_rf v) = cFl z (S.1, S.2.1, S.2.2.1, up2 S.2.2.2 a k v) a) : va_up (cH dA b0 S hp0) a (some (.inr (z, (cFl z S a).set k (va_rf v)))) = cH dA b0 (S.1, S.2.1, S.2.2.1, up2 S.2.2.2 a k v) hp0 := by
  rw [hset]
  exact cH_up (cH_o hz (by exact h)) (fun b hb => cCell_cong rfl rfl rfl (up2_ne hb))
theorem k_putI {z k index a : Nat} {v : Int32} (B : BX p m c cc nL s args (cd :: wsA) own meth ret D vwCl (tyL dA) b0 Z) (I : AI D vwCl b0 (cH dA b0 S hp0) sz s.heap H locs) (hz : 1 ≤ z ∧ z ≤ 8) (hk : k < cNn z) (hlink : Cond.fieldLink own index ref (cT z k).2.1 (cT z k).2.2.1 ∈ wsA) (hsame : (cT z k).1 = ref) (hfin : (cT z k).2.2.2 = false) (hn : narrow (cTy z k) (.int v) = .int v) (hfit : fits (cTy z k) (.int v) = true) (hset : ∀ (S : cS) (a : Nat) (v : Int32), (cFl z S a).set k (.int v) = cFl z (S.1, S.2.1, up2 S.2.2.1 a k v, S.2.2.2) a) (e1 : pI b0 S z k a v = some S1) (hdg : decode cc pc = .ok (.putfield index, 3))
    (kk : ∀ (H1 : Heap) (locs1 : List Loc), AI D vwCl b0 (cH dA b0 S1 hp0) sz s.heap H1 locs1 → W p l e R s m args below meth c H1 locs1 cells slots Q (F0 m (pc + 3) ls rest)) : W p l e R s m args below meth c H locs cells slots Q (F0 m pc ls (.int v :: .ref a :: rest)) := by
  unfold pI at e1
  by_cases h : ck b0 S a = z
  · rw [if_pos h] at e1
    cases e1
    refine q_put B I (fun w hw => List.mem_cons_of_mem _ (wsA_c hz w hw)) (cTy z) (cTy_ok hz) (cNm hz) (cH_o hz h) (ck_b hz.1 h) (hcC hz) k hk (List.mem_cons_of_mem _ hlink) hsame hfin rfl hn hfit (by rw [cFl_len hz]; exact hk) hdg fun H1 locs1 J => ?_
    rw [cH_pI hz h hset] at J
    exact kk H1 locs1 J
  · rw [if_neg h] at e1
    cases e1
theorem k_putR {z k index a : Nat} {v : Option Nat} (B : BX p m c cc nL s args (cd :: wsA) own meth ret D vwCl (tyL dA) b0 Z) (I : AI D vwCl b0 (cH dA b0 S hp0) sz s.heap H locs) (hz : 1 ≤ z ∧ z ≤ 8) (hk : k < cNn z) (hlink : Cond.fieldLink own index ref (cT z k).2.1 (cT z k).2.2.1 ∈ wsA) (hsame : (cT z k).1 = ref) (hfin : (cT z k).2.2.2 = false) (hty : (∃ n, cTy z k = .object n) ∨ ∃ t, cTy z k = .array t) (hset : ∀ (S : cS) (a : Nat) (v : Option Nat), (cFl z S a).set k (va_rf v) = cFl z (S.1, S.2.1, S.2.2.1, up2 S.2.2.2 a k v) a) (e1 : pR b0 S z k a v = some S1) (hdg : decode cc pc = .ok (.putfield index, 3))
    (kk : ∀ (H1 : Heap) (locs1 : List Loc), AI D vwCl b0 (cH dA b0 S1 hp0) sz s.heap H1 locs1 → W p l e R s m args below meth c H1 locs1 cells slots Q (F0 m (pc + 3) ls rest)) : W p l e R s m args below meth c H locs cells slots Q (F0 m pc ls (va_rf v :: .ref a :: rest)) := by
  unfold pR at e1
  by_cases h : ck b0 S a = z
  · rw [if_pos h] at e1
    cases e1
    refine q_put B I (fun w hw => List.mem_cons_of_mem _ (wsA_c hz w hw)) (cTy z) (cTy_ok hz) (cNm hz) (cH_o hz h) (ck_b hz.1 h) (hcC hz) k hk (List.mem_cons_of_mem _ hlink) hsame hfin rfl (nar_rf hty v).1 (nar_rf hty v).2 (by rw [cFl_len hz]; exact hk) hdg fun H1 locs1 J => ?_
    rw [cH_pR hz h hset] at J
    exact kk H1 locs1 J
  · rw [if_neg h] at e1
    cases e1
theorem k_putIN {z k index a : Nat} {v : Int32} (B : BX p m c cc nL s args (cd :: wsA) own meth ret D vwCl (tyL dA) b0 Z) (hR : CR b0 K Z) (I : AI D vwCl b0 (cH dA b0 S hp0) sz s.heap H locs) (hz : 1 ≤ z ∧ z ≤ 8) (hk : k < cNn z) (hlink : Cond.fieldLinkNest own index ref (cT z k).2.1 (cT z k).2.2.1 host ∈ nwA) (hsame : (cT z k).1 = ref) (hfin : (cT z k).2.2.2 = false) (hn : narrow (cTy z k) (.int v) = .int v) (hfit : fits (cTy z k) (.int v) = true) (hset : ∀ (S : cS) (a : Nat) (v : Int32), (cFl z S a).set k (.int v) = cFl z (S.1, S.2.1, up2 S.2.2.1 a k v, S.2.2.2) a) (e1 : pI b0 S z k a v = some S1) (hdg : decode cc pc = .ok (.putfield index, 3))
    (kk : ∀ (H1 : Heap) (locs1 : List Loc), AI D vwCl b0 (cH dA b0 S1 hp0) sz s.heap H1 locs1 → W p l e R s m args below meth c H1 locs1 cells slots Q (F0 m (pc + 3) ls rest)) : W p l e R s m args below meth c H locs cells slots Q (F0 m pc ls (.int v :: .ref a :: rest)) := by
  have X := hR.2 s B.2.2.2.2.1
  unfold pI at e1
  by_cases h : ck b0 S a = z
  · rw [if_pos h] at e1
    cases e1
    refine q_putN B I (fun w hw => List.mem_cons_of_mem _ (wsA_c hz w hw)) (cTy z) (cTy_ok hz) (cNm hz) (cH_o hz h) (ck_b hz.1 h) (hcC hz) k hk (X.1 _ hlink) hsame hfin hn hfit (by rw [cFl_len hz]; exact hk) hdg fun H1 locs1 J => ?_
    rw [cH_pI hz h hset] at J
    exact kk H1 locs1 J
  · rw [if_neg h] at e1
    cases e1
theorem k_putRN {z k index a : Nat} {v : Option Nat} (B : BX p m c cc nL s args (cd :: wsA) own meth ret D vwCl (tyL dA) b0 Z) (hR : CR b0 K Z) (I : AI D vwCl b0 (cH dA b0 S hp0) sz s.heap H locs) (hz : 1 ≤ z ∧ z ≤ 8) (hk : k < cNn z) (hlink : Cond.fieldLinkNest own index ref (cT z k).2.1 (cT z k).2.2.1 host ∈ nwA) (hsame : (cT z k).1 = ref) (hfin : (cT z k).2.2.2 = false) (hty : (∃ n, cTy z k = .object n) ∨ ∃ t, cTy z k = .array t) (hset : ∀ (S : cS) (a : Nat) (v : Option Nat), (cFl z S a).set k (va_rf v) = cFl z (S.1, S.2.1, S.2.2.1, up2 S.2.2.2 a k v) a) (e1 : pR b0 S z k a v = some S1) (hdg : decode cc pc = .ok (.putfield index, 3))
    (kk : ∀ (H1 : Heap) (locs1 : List Loc), AI D vwCl b0 (cH dA b0 S1 hp0) sz s.heap H1 locs1 → W p l e R s m args below meth c H1 locs1 cells slots Q (F0 m (pc + 3) ls rest)) : W p l e R s m args below meth c H locs cells slots Q (F0 m pc ls (va_rf v :: .ref a :: rest)) := by
  have X := hR.2 s B.2.2.2.2.1
  unfold pR at e1
  by_cases h : ck b0 S a = z
  · rw [if_pos h] at e1
    cases e1
    refine q_putN B I (fun w hw => List.mem_cons_of_mem _ (wsA_c hz w hw)) (cTy z) (cTy_ok hz) (cNm hz) (cH_o hz h) (ck_b hz.1 h) (hcC hz) k hk (X.1 _ hlink) hsame hfin (nar_rf hty v).1 (nar_rf hty v).2 (by rw [cFl_len hz]; exact hk) hdg fun H1 locs1 J => ?_
    rw [cH_pR hz h hset] at J
    exact kk H1 locs1 J
  · rw [if_neg h] at e1
    cases e1
theorem k_putIF {z k index a : Nat} {v : Int32} (B : BX p m c cc nL s args (cd :: wsA) own meth ret D vwCl (tyL dA) b0 Z) (I : AI D vwCl b0 (cH dA b0 S hp0) sz s.heap H locs) (hz : 1 ≤ z ∧ z ≤ 8) (hk : k < cNn z) (hlink : Cond.fieldLink own index ref (cT z k).2.1 (cT z k).2.2.1 ∈ wsA) (hsame : (cT z k).1 = ref) (hfin : (cT z k).2.2.2 = true) (hin2 : meth.name = "<init>") (hdecl : (cT z k).1 = own) (hn : narrow (cTy z k) (.int v) = .int v) (hfit : fits (cTy z k) (.int v) = true) (hset : ∀ (S : cS) (a : Nat) (v : Int32), (cFl z S a).set k (.int v) = cFl z (S.1, S.2.1, up2 S.2.2.1 a k v, S.2.2.2) a) (e1 : pI b0 S z k a v = some S1) (hdg : decode cc pc = .ok (.putfield index, 3))
    (kk : ∀ (H1 : Heap) (locs1 : List Loc), AI D vwCl b0 (cH dA b0 S1 hp0) sz s.heap H1 locs1 → W p l e R s m args below meth c H1 locs1 cells slots Q (F0 m (pc + 3) ls rest)) : W p l e R s m args below meth c H locs cells slots Q (F0 m pc ls (.int v :: .ref a :: rest)) := by
  unfold pI at e1
  by_cases h : ck b0 S a = z
  · rw [if_pos h] at e1
    cases e1
    refine q_putF B I (fun w hw => List.mem_cons_of_mem _ (wsA_c hz w hw)) (cTy z) (cTy_ok hz) (cNm hz) (cH_o hz h) (ck_b hz.1 h) (hcC hz) k hk (List.mem_cons_of_mem _ hlink) hsame hfin hin2 hdecl hn hfit (by rw [cFl_len hz]; exact hk) hdg fun H1 locs1 J => ?_
    rw [cH_pI hz h hset] at J
    exact kk H1 locs1 J
  · rw [if_neg h] at e1
    cases e1
theorem k_putRF {z k index a : Nat} {v : Option Nat} (B : BX p m c cc nL s args (cd :: wsA) own meth ret D vwCl (tyL dA) b0 Z) (I : AI D vwCl b0 (cH dA b0 S hp0) sz s.heap H locs) (hz : 1 ≤ z ∧ z ≤ 8) (hk : k < cNn z) (hlink : Cond.fieldLink own index ref (cT z k).2.1 (cT z k).2.2.1 ∈ wsA) (hsame : (cT z k).1 = ref) (hfin : (cT z k).2.2.2 = true) (hin2 : meth.name = "<init>") (hdecl : (cT z k).1 = own) (hty : (∃ n, cTy z k = .object n) ∨ ∃ t, cTy z k = .array t) (hset : ∀ (S : cS) (a : Nat) (v : Option Nat), (cFl z S a).set k (va_rf v) = cFl z (S.1, S.2.1, S.2.2.1, up2 S.2.2.2 a k v) a) (e1 : pR b0 S z k a v = some S1) (hdg : decode cc pc = .ok (.putfield index, 3))
    (kk : ∀ (H1 : Heap) (locs1 : List Loc), AI D vwCl b0 (cH dA b0 S1 hp0) sz s.heap H1 locs1 → W p l e R s m args below meth c H1 locs1 cells slots Q (F0 m (pc + 3) ls rest)) : W p l e R s m args below meth c H locs cells slots Q (F0 m pc ls (va_rf v :: .ref a :: rest)) := by
  unfold pR at e1
  by_cases h : ck b0 S a = z
  · rw [if_pos h] at e1
    cases e1
    refine q_putF B I (fun w hw => List.mem_cons_of_mem _ (wsA_c hz w hw)) (cTy z) (cTy_ok hz) (cNm hz) (cH_o hz h) (ck_b hz.1 h) (hcC hz) k hk (List.mem_cons_of_mem _ hlink) hsame hfin hin2 hdecl (nar_rf hty v).1 (nar_rf hty v).2 (by rw [cFl_len hz]; exact hk) hdg fun H1 locs1 J => ?_
    rw [cH_pR hz h hset] at J
    exact kk H1 locs1 J
  · rw [if_neg h] at e1
    cases e1
end KY
theorem cset_1_0 : ∀ (S : cS) (a : Nat) (v : Option Nat), (cFl 1 S a).set 0 (va_rf v) = cFl 1 (S.1, S.2.1, S.2.2.1, up2 S.2.2.2 a 0 v) a := fun S a v => by simp [cFl, up2]
theorem cset_1_1 : ∀ (S : cS) (a : Nat) (v : Option Nat), (cFl 1 S a).set 1 (va_rf v) = cFl 1 (S.1, S.2.1, S.2.2.1, up2 S.2.2.2 a 1 v) a := fun S a v => by simp [cFl, up2]
theorem cset_1_2 : ∀ (S : cS) (a : Nat) (v : Int32), (cFl 1 S a).set 2 (.int v) = cFl 1 (S.1, S.2.1, up2 S.2.2.1 a 2 v, S.2.2.2) a := fun S a v => by simp [cFl, up2]
theorem cset_1_3 : ∀ (S : cS) (a : Nat) (v : Option Nat), (cFl 1 S a).set 3 (va_rf v) = cFl 1 (S.1, S.2.1, S.2.2.1, up2 S.2.2.2 a 3 v) a := fun S a v => by simp [cFl, up2]
theorem cset_1_4 : ∀ (S : cS) (a : Nat) (v : Option Nat), (cFl 1 S a).set 4 (va_rf v) = cFl 1 (S.1, S.2.1, S.2.2.1, up2 S.2.2.2 a 4 v) a := fun S a v => by simp [cFl, up2]
theorem cset_2_0 : ∀ (S : cS) (a : Nat) (v : Int32), (cFl 2 S a).set 0 (.int v) = cFl 2 (S.1, S.2.1, up2 S.2.2.1 a 0 v, S.2.2.2) a := fun S a v => by simp [cFl, up2]
theorem cset_2_1 : ∀ (S : cS) (a : Nat) (v : Int32), (cFl 2 S a).set 1 (.int v) = cFl 2 (S.1, S.2.1, up2 S.2.2.1 a 1 v, S.2.2.2) a := fun S a v => by simp [cFl, up2]
theorem cset_2_2 : ∀ (S : cS) (a : Nat) (v : Option Nat), (cFl 2 S a).set 2 (va_rf v) = cFl 2 (S.1, S.2.1, S.2.2.1, up2 S.2.2.2 a 2 v) a := fun S a v => by simp [cFl, up2]
theorem cset_2_3 : ∀ (S : cS) (a : Nat) (v : Option Nat), (cFl 2 S a).set 3 (va_rf v) = cFl 2 (S.1, S.2.1, S.2.2.1, up2 S.2.2.2 a 3 v) a := fun S a v => by simp [cFl, up2]
theorem cset_2_4 : ∀ (S : cS) (a : Nat) (v : Option Nat), (cFl 2 S a).set 4 (va_rf v) = cFl 2 (S.1, S.2.1, S.2.2.1, up2 S.2.2.2 a 4 v) a := fun S a v => by simp [cFl, up2]
theorem cset_2_5 : ∀ (S : cS) (a : Nat) (v : Option Nat), (cFl 2 S a).set 5 (va_rf v) = cFl 2 (S.1, S.2.1, S.2.2.1, up2 S.2.2.2 a 5 v) a := fun S a v => by simp [cFl, up2]
theorem cset_2_6 : ∀ (S : cS) (a : Nat) (v : Option Nat), (cFl 2 S a).set 6 (va_rf v) = cFl 2 (S.1, S.2.1, S.2.2.1, up2 S.2.2.2 a 6 v) a := fun S a v => by simp [cFl, up2]
theorem cset_2_7 : ∀ (S : cS) (a : Nat) (v : Option Nat), (cFl 2 S a).set 7 (va_rf v) = cFl 2 (S.1, S.2.1, S.2.2.1, up2 S.2.2.2 a 7 v) a := fun S a v => by simp [cFl, up2]
theorem cset_3_0 : ∀ (S : cS) (a : Nat) (v : Option Nat), (cFl 3 S a).set 0 (va_rf v) = cFl 3 (S.1, S.2.1, S.2.2.1, up2 S.2.2.2 a 0 v) a := fun S a v => by simp [cFl, up2]
theorem cset_3_1 : ∀ (S : cS) (a : Nat) (v : Int32), (cFl 3 S a).set 1 (.int v) = cFl 3 (S.1, S.2.1, up2 S.2.2.1 a 1 v, S.2.2.2) a := fun S a v => by simp [cFl, up2]
theorem cset_3_2 : ∀ (S : cS) (a : Nat) (v : Option Nat), (cFl 3 S a).set 2 (va_rf v) = cFl 3 (S.1, S.2.1, S.2.2.1, up2 S.2.2.2 a 2 v) a := fun S a v => by simp [cFl, up2]
theorem cset_4_0 : ∀ (S : cS) (a : Nat) (v : Option Nat), (cFl 4 S a).set 0 (va_rf v) = cFl 4 (S.1, S.2.1, S.2.2.1, up2 S.2.2.2 a 0 v) a := fun S a v => by simp [cFl, up2]
theorem cset_4_1 : ∀ (S : cS) (a : Nat) (v : Int32), (cFl 4 S a).set 1 (.int v) = cFl 4 (S.1, S.2.1, up2 S.2.2.1 a 1 v, S.2.2.2) a := fun S a v => by simp [cFl, up2]
theorem cset_4_2 : ∀ (S : cS) (a : Nat) (v : Option Nat), (cFl 4 S a).set 2 (va_rf v) = cFl 4 (S.1, S.2.1, S.2.2.1, up2 S.2.2.2 a 2 v) a := fun S a v => by simp [cFl, up2]
theorem cset_4_3 : ∀ (S : cS) (a : Nat) (v : Option Nat), (cFl 4 S a).set 3 (va_rf v) = cFl 4 (S.1, S.2.1, S.2.2.1, up2 S.2.2.2 a 3 v) a := fun S a v => by simp [cFl, up2]
theorem cset_4_4 : ∀ (S : cS) (a : Nat) (v : Option Nat), (cFl 4 S a).set 4 (va_rf v) = cFl 4 (S.1, S.2.1, S.2.2.1, up2 S.2.2.2 a 4 v) a := fun S a v => by simp [cFl, up2]
theorem cset_4_5 : ∀ (S : cS) (a : Nat) (v : Option Nat), (cFl 4 S a).set 5 (va_rf v) = cFl 4 (S.1, S.2.1, S.2.2.1, up2 S.2.2.2 a 5 v) a := fun S a v => by simp [cFl, up2]
theorem cset_4_6 : ∀ (S : cS) (a : Nat) (v : Int32), (cFl 4 S a).set 6 (.int v) = cFl 4 (S.1, S.2.1, up2 S.2.2.1 a 6 v, S.2.2.2) a := fun S a v => by simp [cFl, up2]
theorem cset_4_7 : ∀ (S : cS) (a : Nat) (v : Int32), (cFl 4 S a).set 7 (.int v) = cFl 4 (S.1, S.2.1, up2 S.2.2.1 a 7 v, S.2.2.2) a := fun S a v => by simp [cFl, up2]
theorem cset_5_0 : ∀ (S : cS) (a : Nat) (v : Option Nat), (cFl 5 S a).set 0 (va_rf v) = cFl 5 (S.1, S.2.1, S.2.2.1, up2 S.2.2.2 a 0 v) a := fun S a v => by simp [cFl, up2]
theorem cset_5_1 : ∀ (S : cS) (a : Nat) (v : Int32), (cFl 5 S a).set 1 (.int v) = cFl 5 (S.1, S.2.1, up2 S.2.2.1 a 1 v, S.2.2.2) a := fun S a v => by simp [cFl, up2]
theorem cset_6_0 : ∀ (S : cS) (a : Nat) (v : Option Nat), (cFl 6 S a).set 0 (va_rf v) = cFl 6 (S.1, S.2.1, S.2.2.1, up2 S.2.2.2 a 0 v) a := fun S a v => by simp [cFl, up2]
theorem cset_6_1 : ∀ (S : cS) (a : Nat) (v : Int32), (cFl 6 S a).set 1 (.int v) = cFl 6 (S.1, S.2.1, up2 S.2.2.1 a 1 v, S.2.2.2) a := fun S a v => by simp [cFl, up2]
theorem cset_7_0 : ∀ (S : cS) (a : Nat) (v : Option Nat), (cFl 7 S a).set 0 (va_rf v) = cFl 7 (S.1, S.2.1, S.2.2.1, up2 S.2.2.2 a 0 v) a := fun S a v => by simp [cFl, up2]
theorem cset_7_1 : ∀ (S : cS) (a : Nat) (v : Int32), (cFl 7 S a).set 1 (.int v) = cFl 7 (S.1, S.2.1, up2 S.2.2.1 a 1 v, S.2.2.2) a := fun S a v => by simp [cFl, up2]
theorem cset_7_2 : ∀ (S : cS) (a : Nat) (v : Int32), (cFl 7 S a).set 2 (.int v) = cFl 7 (S.1, S.2.1, up2 S.2.2.1 a 2 v, S.2.2.2) a := fun S a v => by simp [cFl, up2]
theorem cset_7_3 : ∀ (S : cS) (a : Nat) (v : Int32), (cFl 7 S a).set 3 (.int v) = cFl 7 (S.1, S.2.1, up2 S.2.2.1 a 3 v, S.2.2.2) a := fun S a v => by simp [cFl, up2]
theorem cset_8_0 : ∀ (S : cS) (a : Nat) (v : Int32), (cFl 8 S a).set 0 (.int v) = cFl 8 (S.1, S.2.1, up2 S.2.2.1 a 0 v, S.2.2.2) a := fun S a v => by simp [cFl, up2]
theorem cset_8_1 : ∀ (S : cS) (a : Nat) (v : Option Nat), (cFl 8 S a).set 1 (va_rf v) = cFl 8 (S.1, S.2.1, S.2.2.1, up2 S.2.2.2 a 1 v) a := fun S a v => by simp [cFl, up2]
theorem cset_8_2 : ∀ (S : cS) (a : Nat) (v : Int32), (cFl 8 S a).set 2 (.int v) = cFl 8 (S.1, S.2.1, up2 S.2.2.1 a 2 v, S.2.2.2) a := fun S a v => by simp [cFl, up2]
end
