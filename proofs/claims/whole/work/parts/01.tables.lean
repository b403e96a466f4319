-- ===== PART A: goes FIRST, ahead of the names: the tables' words, and 'selects' of the private methods out of them =====
/-- a private method of a class that the tables say can be made, by its rows of tables_1 -/
def lw_okq (q : MethodName × Nat) : Prop := (q.1.cls ≠ "java/lang/invoke/MethodHandle" ∧ q.1.cls ≠ "java/lang/invoke/VarHandle") ∧ Cond.instantiable q.1.cls q.2 ∈ tables_1 ∧ Cond.privateMethod q.1 ∈ tables_1 ∧ Cond.instanceMethod q.1 ∈ tables_1
theorem lw_p0 : lw_okq (⟨"SilenceCanal$Text", "step", "()V"⟩, 5) := ⟨⟨by decide +kernel, by decide +kernel⟩, List.mem_of_getElem? (i := 92) (by decide +kernel), List.mem_of_getElem? (i := 242) (by decide +kernel), List.mem_of_getElem? (i := 243) (by decide +kernel)⟩
theorem lw_p1 : lw_okq (⟨"SilenceCanal$Text", "byteAt", "(I)I"⟩, 5) := ⟨⟨by decide +kernel, by decide +kernel⟩, List.mem_of_getElem? (i := 92) (by decide +kernel), List.mem_of_getElem? (i := 246) (by decide +kernel), List.mem_of_getElem? (i := 247) (by decide +kernel)⟩
theorem lw_p2 : lw_okq (⟨"SilenceCanal$Text", "readLine", "(LSilenceCanal$Canal;)Z"⟩, 5) := ⟨⟨by decide +kernel, by decide +kernel⟩, List.mem_of_getElem? (i := 92) (by decide +kernel), List.mem_of_getElem? (i := 256) (by decide +kernel), List.mem_of_getElem? (i := 257) (by decide +kernel)⟩
theorem lw_p3 : lw_okq (⟨"SilenceCanal$Text", "isName", "(Ljava/lang/String;)Z"⟩, 5) := ⟨⟨by decide +kernel, by decide +kernel⟩, List.mem_of_getElem? (i := 92) (by decide +kernel), List.mem_of_getElem? (i := 269) (by decide +kernel), List.mem_of_getElem? (i := 270) (by decide +kernel)⟩
theorem lw_p4 : lw_okq (⟨"SilenceCanal$Text", "readBarge", "(LSilenceCanal$Canal;I)Z"⟩, 5) := ⟨⟨by decide +kernel, by decide +kernel⟩, List.mem_of_getElem? (i := 92) (by decide +kernel), List.mem_of_getElem? (i := 321) (by decide +kernel), List.mem_of_getElem? (i := 322) (by decide +kernel)⟩
theorem lw_p5 : lw_okq (⟨"SilenceCanal$Text", "takeName", "(Ljava/lang/String;)Z"⟩, 5) := ⟨⟨by decide +kernel, by decide +kernel⟩, List.mem_of_getElem? (i := 92) (by decide +kernel), List.mem_of_getElem? (i := 326) (by decide +kernel), List.mem_of_getElem? (i := 327) (by decide +kernel)⟩
theorem lw_p6 : lw_okq (⟨"SilenceCanal$Text", "takeNumber", "(I)I"⟩, 5) := ⟨⟨by decide +kernel, by decide +kernel⟩, List.mem_of_getElem? (i := 92) (by decide +kernel), List.mem_of_getElem? (i := 330) (by decide +kernel), List.mem_of_getElem? (i := 331) (by decide +kernel)⟩
theorem lw_p7 : lw_okq (⟨"SilenceCanal$Text", "takeEndOfLine", "()Z"⟩, 5) := ⟨⟨by decide +kernel, by decide +kernel⟩, List.mem_of_getElem? (i := 92) (by decide +kernel), List.mem_of_getElem? (i := 337) (by decide +kernel), List.mem_of_getElem? (i := 338) (by decide +kernel)⟩
theorem lw_p8 : lw_okq (⟨"SilenceCanal$Text", "readLaw", "(LSilenceCanal$Canal;I)Z"⟩, 5) := ⟨⟨by decide +kernel, by decide +kernel⟩, List.mem_of_getElem? (i := 92) (by decide +kernel), List.mem_of_getElem? (i := 352) (by decide +kernel), List.mem_of_getElem? (i := 353) (by decide +kernel)⟩
theorem lw_p9 : lw_okq (⟨"SilenceCanal$Text", "readNoise", "(LSilenceCanal$Canal;)Z"⟩, 5) := ⟨⟨by decide +kernel, by decide +kernel⟩, List.mem_of_getElem? (i := 92) (by decide +kernel), List.mem_of_getElem? (i := 362) (by decide +kernel), List.mem_of_getElem? (i := 363) (by decide +kernel)⟩
theorem lw_p10 : lw_okq (⟨"SilenceCanal", "isBarge", "(I)Z"⟩, 10) := ⟨⟨by decide +kernel, by decide +kernel⟩, List.mem_of_getElem? (i := 17) (by decide +kernel), List.mem_of_getElem? (i := 396) (by decide +kernel), List.mem_of_getElem? (i := 397) (by decide +kernel)⟩
theorem lw_p11 : lw_okq (⟨"SilenceCanal$Canal", "goOn", "(I)V"⟩, 12) := ⟨⟨by decide +kernel, by decide +kernel⟩, List.mem_of_getElem? (i := 25) (by decide +kernel), List.mem_of_getElem? (i := 470) (by decide +kernel), List.mem_of_getElem? (i := 471) (by decide +kernel)⟩
theorem lw_p12 : lw_okq (⟨"SilenceCanal$Canal", "spill", "(III)V"⟩, 12) := ⟨⟨by decide +kernel, by decide +kernel⟩, List.mem_of_getElem? (i := 25) (by decide +kernel), List.mem_of_getElem? (i := 477) (by decide +kernel), List.mem_of_getElem? (i := 478) (by decide +kernel)⟩
theorem lw_p13 : lw_okq (⟨"SilenceCanal$Canal", "echoWithOthers", "(I)V"⟩, 12) := ⟨⟨by decide +kernel, by decide +kernel⟩, List.mem_of_getElem? (i := 25) (by decide +kernel), List.mem_of_getElem? (i := 487) (by decide +kernel), List.mem_of_getElem? (i := 488) (by decide +kernel)⟩
theorem lw_p14 : lw_okq (⟨"SilenceCanal$Canal", "draw", "()I"⟩, 12) := ⟨⟨by decide +kernel, by decide +kernel⟩, List.mem_of_getElem? (i := 25) (by decide +kernel), List.mem_of_getElem? (i := 507) (by decide +kernel), List.mem_of_getElem? (i := 508) (by decide +kernel)⟩
theorem lw_p15 : lw_okq (⟨"SilenceCanal", "triedCargo", "(III)I"⟩, 10) := ⟨⟨by decide +kernel, by decide +kernel⟩, List.mem_of_getElem? (i := 17) (by decide +kernel), List.mem_of_getElem? (i := 516) (by decide +kernel), List.mem_of_getElem? (i := 517) (by decide +kernel)⟩
def lw_privs_1 : List (MethodName × Nat) := [(⟨"SilenceCanal$Text", "step", "()V"⟩, 5), (⟨"SilenceCanal$Text", "byteAt", "(I)I"⟩, 5), (⟨"SilenceCanal$Text", "readLine", "(LSilenceCanal$Canal;)Z"⟩, 5), (⟨"SilenceCanal$Text", "isName", "(Ljava/lang/String;)Z"⟩, 5), (⟨"SilenceCanal$Text", "readBarge", "(LSilenceCanal$Canal;I)Z"⟩, 5), (⟨"SilenceCanal$Text", "takeName", "(Ljava/lang/String;)Z"⟩, 5), (⟨"SilenceCanal$Text", "takeNumber", "(I)I"⟩, 5), (⟨"SilenceCanal$Text", "takeEndOfLine", "()Z"⟩, 5), (⟨"SilenceCanal$Text", "readLaw", "(LSilenceCanal$Canal;I)Z"⟩, 5), (⟨"SilenceCanal$Text", "readNoise", "(LSilenceCanal$Canal;)Z"⟩, 5), (⟨"SilenceCanal", "isBarge", "(I)Z"⟩, 10), (⟨"SilenceCanal$Canal", "goOn", "(I)V"⟩, 12), (⟨"SilenceCanal$Canal", "spill", "(III)V"⟩, 12), (⟨"SilenceCanal$Canal", "echoWithOthers", "(I)V"⟩, 12), (⟨"SilenceCanal$Canal", "draw", "()I"⟩, 12), (⟨"SilenceCanal", "triedCargo", "(III)I"⟩, 10)]
theorem lw_r1 : ∀ q ∈ lw_privs_1, lw_okq q := List.forall_mem_cons.mpr ⟨lw_p0, List.forall_mem_cons.mpr ⟨lw_p1, List.forall_mem_cons.mpr ⟨lw_p2, List.forall_mem_cons.mpr ⟨lw_p3, List.forall_mem_cons.mpr ⟨lw_p4, List.forall_mem_cons.mpr ⟨lw_p5, List.forall_mem_cons.mpr ⟨lw_p6, List.forall_mem_cons.mpr ⟨lw_p7, List.forall_mem_cons.mpr ⟨lw_p8, List.forall_mem_cons.mpr ⟨lw_p9, List.forall_mem_cons.mpr ⟨lw_p10, List.forall_mem_cons.mpr ⟨lw_p11, List.forall_mem_cons.mpr ⟨lw_p12, List.forall_mem_cons.mpr ⟨lw_p13, List.forall_mem_cons.mpr ⟨lw_p14, List.forall_mem_cons.mpr ⟨lw_p15, fun _ h => absurd h List.not_mem_nil⟩⟩⟩⟩⟩⟩⟩⟩⟩⟩⟩⟩⟩⟩⟩⟩
theorem lw_p16 : lw_okq (⟨"SilenceCanal", "triedFreight", "(II)I"⟩, 10) := ⟨⟨by decide +kernel, by decide +kernel⟩, List.mem_of_getElem? (i := 17) (by decide +kernel), List.mem_of_getElem? (i := 545) (by decide +kernel), List.mem_of_getElem? (i := 546) (by decide +kernel)⟩
theorem lw_p17 : lw_okq (⟨"SilenceCanal", "sheetAt", "(I)LSilenceCanal$Sheet;"⟩, 10) := ⟨⟨by decide +kernel, by decide +kernel⟩, List.mem_of_getElem? (i := 17) (by decide +kernel), List.mem_of_getElem? (i := 604) (by decide +kernel), List.mem_of_getElem? (i := 605) (by decide +kernel)⟩
theorem lw_p18 : lw_okq (⟨"SilenceCanal", "loadFits", "(LSilenceCanal$Sheet;II)Z"⟩, 10) := ⟨⟨by decide +kernel, by decide +kernel⟩, List.mem_of_getElem? (i := 17) (by decide +kernel), List.mem_of_getElem? (i := 608) (by decide +kernel), List.mem_of_getElem? (i := 609) (by decide +kernel)⟩
theorem lw_p19 : lw_okq (⟨"SilenceCanal", "triedRowPart", "(II)I"⟩, 10) := ⟨⟨by decide +kernel, by decide +kernel⟩, List.mem_of_getElem? (i := 17) (by decide +kernel), List.mem_of_getElem? (i := 632) (by decide +kernel), List.mem_of_getElem? (i := 633) (by decide +kernel)⟩
theorem lw_p20 : lw_okq (⟨"SilenceCanal", "isRowPart", "(II)Z"⟩, 10) := ⟨⟨by decide +kernel, by decide +kernel⟩, List.mem_of_getElem? (i := 17) (by decide +kernel), List.mem_of_getElem? (i := 640) (by decide +kernel), List.mem_of_getElem? (i := 641) (by decide +kernel)⟩
theorem lw_p21 : lw_okq (⟨"SilenceCanal", "shelfAt", "(I)LSilenceCanal$Shelf;"⟩, 10) := ⟨⟨by decide +kernel, by decide +kernel⟩, List.mem_of_getElem? (i := 17) (by decide +kernel), List.mem_of_getElem? (i := 686) (by decide +kernel), List.mem_of_getElem? (i := 687) (by decide +kernel)⟩
theorem lw_p22 : lw_okq (⟨"SilenceCanal", "bargeOn", "(LSilenceCanal$Shelf;)I"⟩, 10) := ⟨⟨by decide +kernel, by decide +kernel⟩, List.mem_of_getElem? (i := 17) (by decide +kernel), List.mem_of_getElem? (i := 706) (by decide +kernel), List.mem_of_getElem? (i := 707) (by decide +kernel)⟩
theorem lw_p23 : lw_okq (⟨"SilenceCanal$Acts", "bodyOf", "(I)I"⟩, 6) := ⟨⟨by decide +kernel, by decide +kernel⟩, List.mem_of_getElem? (i := 120) (by decide +kernel), List.mem_of_getElem? (i := 723) (by decide +kernel), List.mem_of_getElem? (i := 724) (by decide +kernel)⟩
theorem lw_p24 : lw_okq (⟨"SilenceCanal$Acts", "run", "(III)I"⟩, 6) := ⟨⟨by decide +kernel, by decide +kernel⟩, List.mem_of_getElem? (i := 120) (by decide +kernel), List.mem_of_getElem? (i := 729) (by decide +kernel), List.mem_of_getElem? (i := 730) (by decide +kernel)⟩
theorem lw_p25 : lw_okq (⟨"SilenceCanal$Acts", "partedBy", "(II)I"⟩, 6) := ⟨⟨by decide +kernel, by decide +kernel⟩, List.mem_of_getElem? (i := 120) (by decide +kernel), List.mem_of_getElem? (i := 733) (by decide +kernel), List.mem_of_getElem? (i := 734) (by decide +kernel)⟩
theorem lw_p26 : lw_okq (⟨"SilenceCanalModel", "first", "()V"⟩, 25) := ⟨⟨by decide +kernel, by decide +kernel⟩, List.mem_of_getElem? (i := 757) (by decide +kernel), List.mem_of_getElem? (i := 763) (by decide +kernel), List.mem_of_getElem? (i := 764) (by decide +kernel)⟩
theorem lw_p27 : lw_okq (⟨"SilenceCanalModel", "becomes", "(II)I"⟩, 25) := ⟨⟨by decide +kernel, by decide +kernel⟩, List.mem_of_getElem? (i := 757) (by decide +kernel), List.mem_of_getElem? (i := 858) (by decide +kernel), List.mem_of_getElem? (i := 859) (by decide +kernel)⟩
theorem lw_p28 : lw_okq (⟨"SilenceCanalModel", "comes", "(IIIII)I"⟩, 25) := ⟨⟨by decide +kernel, by decide +kernel⟩, List.mem_of_getElem? (i := 757) (by decide +kernel), List.mem_of_getElem? (i := 874) (by decide +kernel), List.mem_of_getElem? (i := 875) (by decide +kernel)⟩
theorem lw_p29 : lw_okq (⟨"SilenceCanalModel", "puts", "(III)V"⟩, 25) := ⟨⟨by decide +kernel, by decide +kernel⟩, List.mem_of_getElem? (i := 757) (by decide +kernel), List.mem_of_getElem? (i := 878) (by decide +kernel), List.mem_of_getElem? (i := 879) (by decide +kernel)⟩
theorem lw_p30 : lw_okq (⟨"SilenceCanalModel", "isBarge", "(I)Z"⟩, 25) := ⟨⟨by decide +kernel, by decide +kernel⟩, List.mem_of_getElem? (i := 757) (by decide +kernel), List.mem_of_getElem? (i := 886) (by decide +kernel), List.mem_of_getElem? (i := 887) (by decide +kernel)⟩
theorem lw_p31 : lw_okq (⟨"SilenceCanalModel", "hasLanded", "(I)Z"⟩, 25) := ⟨⟨by decide +kernel, by decide +kernel⟩, List.mem_of_getElem? (i := 757) (by decide +kernel), List.mem_of_getElem? (i := 890) (by decide +kernel), List.mem_of_getElem? (i := 891) (by decide +kernel)⟩
def lw_privs_2 : List (MethodName × Nat) := [(⟨"SilenceCanal", "triedFreight", "(II)I"⟩, 10), (⟨"SilenceCanal", "sheetAt", "(I)LSilenceCanal$Sheet;"⟩, 10), (⟨"SilenceCanal", "loadFits", "(LSilenceCanal$Sheet;II)Z"⟩, 10), (⟨"SilenceCanal", "triedRowPart", "(II)I"⟩, 10), (⟨"SilenceCanal", "isRowPart", "(II)Z"⟩, 10), (⟨"SilenceCanal", "shelfAt", "(I)LSilenceCanal$Shelf;"⟩, 10), (⟨"SilenceCanal", "bargeOn", "(LSilenceCanal$Shelf;)I"⟩, 10), (⟨"SilenceCanal$Acts", "bodyOf", "(I)I"⟩, 6), (⟨"SilenceCanal$Acts", "run", "(III)I"⟩, 6), (⟨"SilenceCanal$Acts", "partedBy", "(II)I"⟩, 6), (⟨"SilenceCanalModel", "first", "()V"⟩, 25), (⟨"SilenceCanalModel", "becomes", "(II)I"⟩, 25), (⟨"SilenceCanalModel", "comes", "(IIIII)I"⟩, 25), (⟨"SilenceCanalModel", "puts", "(III)V"⟩, 25), (⟨"SilenceCanalModel", "isBarge", "(I)Z"⟩, 25), (⟨"SilenceCanalModel", "hasLanded", "(I)Z"⟩, 25)]
theorem lw_r2 : ∀ q ∈ lw_privs_2, lw_okq q := List.forall_mem_cons.mpr ⟨lw_p16, List.forall_mem_cons.mpr ⟨lw_p17, List.forall_mem_cons.mpr ⟨lw_p18, List.forall_mem_cons.mpr ⟨lw_p19, List.forall_mem_cons.mpr ⟨lw_p20, List.forall_mem_cons.mpr ⟨lw_p21, List.forall_mem_cons.mpr ⟨lw_p22, List.forall_mem_cons.mpr ⟨lw_p23, List.forall_mem_cons.mpr ⟨lw_p24, List.forall_mem_cons.mpr ⟨lw_p25, List.forall_mem_cons.mpr ⟨lw_p26, List.forall_mem_cons.mpr ⟨lw_p27, List.forall_mem_cons.mpr ⟨lw_p28, List.forall_mem_cons.mpr ⟨lw_p29, List.forall_mem_cons.mpr ⟨lw_p30, List.forall_mem_cons.mpr ⟨lw_p31, fun _ h => absurd h List.not_mem_nil⟩⟩⟩⟩⟩⟩⟩⟩⟩⟩⟩⟩⟩⟩⟩⟩
theorem lw_p32 : lw_okq (⟨"SilenceCanalModel", "get", "(II)I"⟩, 25) := ⟨⟨by decide +kernel, by decide +kernel⟩, List.mem_of_getElem? (i := 757) (by decide +kernel), List.mem_of_getElem? (i := 894) (by decide +kernel), List.mem_of_getElem? (i := 895) (by decide +kernel)⟩
theorem lw_p33 : lw_okq (⟨"SilenceCanalModel", "pace", "(I)I"⟩, 25) := ⟨⟨by decide +kernel, by decide +kernel⟩, List.mem_of_getElem? (i := 757) (by decide +kernel), List.mem_of_getElem? (i := 902) (by decide +kernel), List.mem_of_getElem? (i := 903) (by decide +kernel)⟩
theorem lw_p34 : lw_okq (⟨"SilenceCanalModel", "spills", "(I)I"⟩, 25) := ⟨⟨by decide +kernel, by decide +kernel⟩, List.mem_of_getElem? (i := 757) (by decide +kernel), List.mem_of_getElem? (i := 906) (by decide +kernel), List.mem_of_getElem? (i := 907) (by decide +kernel)⟩
theorem lw_p35 : lw_okq (⟨"SilenceCanalModel", "hoursGo", "(I)V"⟩, 25) := ⟨⟨by decide +kernel, by decide +kernel⟩, List.mem_of_getElem? (i := 757) (by decide +kernel), List.mem_of_getElem? (i := 940) (by decide +kernel), List.mem_of_getElem? (i := 941) (by decide +kernel)⟩
theorem lw_p36 : lw_okq (⟨"SilenceCanalModel", "hourGoes", "()V"⟩, 25) := ⟨⟨by decide +kernel, by decide +kernel⟩, List.mem_of_getElem? (i := 757) (by decide +kernel), List.mem_of_getElem? (i := 944) (by decide +kernel), List.mem_of_getElem? (i := 945) (by decide +kernel)⟩
theorem lw_p37 : lw_okq (⟨"SilenceCanalModel", "goes", "(I)V"⟩, 25) := ⟨⟨by decide +kernel, by decide +kernel⟩, List.mem_of_getElem? (i := 757) (by decide +kernel), List.mem_of_getElem? (i := 948) (by decide +kernel), List.mem_of_getElem? (i := 949) (by decide +kernel)⟩
theorem lw_p38 : lw_okq (⟨"SilenceCanalModel", "spilt", "(II)V"⟩, 25) := ⟨⟨by decide +kernel, by decide +kernel⟩, List.mem_of_getElem? (i := 757) (by decide +kernel), List.mem_of_getElem? (i := 952) (by decide +kernel), List.mem_of_getElem? (i := 953) (by decide +kernel)⟩
theorem lw_p39 : lw_okq (⟨"SilenceCanalModel", "loads", "()I"⟩, 25) := ⟨⟨by decide +kernel, by decide +kernel⟩, List.mem_of_getElem? (i := 757) (by decide +kernel), List.mem_of_getElem? (i := 959) (by decide +kernel), List.mem_of_getElem? (i := 960) (by decide +kernel)⟩
theorem lw_p40 : lw_okq (⟨"SilenceCanalModel", "drawn", "()I"⟩, 25) := ⟨⟨by decide +kernel, by decide +kernel⟩, List.mem_of_getElem? (i := 757) (by decide +kernel), List.mem_of_getElem? (i := 971) (by decide +kernel), List.mem_of_getElem? (i := 972) (by decide +kernel)⟩
theorem lw_p41 : lw_okq (⟨"SilenceCanalModel", "keepAside", "()V"⟩, 25) := ⟨⟨by decide +kernel, by decide +kernel⟩, List.mem_of_getElem? (i := 757) (by decide +kernel), List.mem_of_getElem? (i := 981) (by decide +kernel), List.mem_of_getElem? (i := 982) (by decide +kernel)⟩
theorem lw_p42 : lw_okq (⟨"SilenceCanalModel", "cargoBehind", "(I)I"⟩, 25) := ⟨⟨by decide +kernel, by decide +kernel⟩, List.mem_of_getElem? (i := 757) (by decide +kernel), List.mem_of_getElem? (i := 985) (by decide +kernel), List.mem_of_getElem? (i := 986) (by decide +kernel)⟩
theorem lw_p43 : lw_okq (⟨"SilenceCanalModel", "putBack", "()V"⟩, 25) := ⟨⟨by decide +kernel, by decide +kernel⟩, List.mem_of_getElem? (i := 757) (by decide +kernel), List.mem_of_getElem? (i := 989) (by decide +kernel), List.mem_of_getElem? (i := 990) (by decide +kernel)⟩
theorem lw_p44 : lw_okq (⟨"SilenceCanalModel", "lostAll", "()I"⟩, 25) := ⟨⟨by decide +kernel, by decide +kernel⟩, List.mem_of_getElem? (i := 757) (by decide +kernel), List.mem_of_getElem? (i := 998) (by decide +kernel), List.mem_of_getElem? (i := 999) (by decide +kernel)⟩
theorem lw_p45 : lw_okq (⟨"SilenceCanalModel", "landed", "()I"⟩, 25) := ⟨⟨by decide +kernel, by decide +kernel⟩, List.mem_of_getElem? (i := 757) (by decide +kernel), List.mem_of_getElem? (i := 1002) (by decide +kernel), List.mem_of_getElem? (i := 1003) (by decide +kernel)⟩
theorem lw_p46 : lw_okq (⟨"SilenceCanalModel", "places", "()I"⟩, 25) := ⟨⟨by decide +kernel, by decide +kernel⟩, List.mem_of_getElem? (i := 757) (by decide +kernel), List.mem_of_getElem? (i := 1006) (by decide +kernel), List.mem_of_getElem? (i := 1007) (by decide +kernel)⟩
theorem lw_p47 : lw_okq (⟨"SilenceCanalModel", "loudest", "()I"⟩, 25) := ⟨⟨by decide +kernel, by decide +kernel⟩, List.mem_of_getElem? (i := 757) (by decide +kernel), List.mem_of_getElem? (i := 1010) (by decide +kernel), List.mem_of_getElem? (i := 1011) (by decide +kernel)⟩
def lw_privs_3 : List (MethodName × Nat) := [(⟨"SilenceCanalModel", "get", "(II)I"⟩, 25), (⟨"SilenceCanalModel", "pace", "(I)I"⟩, 25), (⟨"SilenceCanalModel", "spills", "(I)I"⟩, 25), (⟨"SilenceCanalModel", "hoursGo", "(I)V"⟩, 25), (⟨"SilenceCanalModel", "hourGoes", "()V"⟩, 25), (⟨"SilenceCanalModel", "goes", "(I)V"⟩, 25), (⟨"SilenceCanalModel", "spilt", "(II)V"⟩, 25), (⟨"SilenceCanalModel", "loads", "()I"⟩, 25), (⟨"SilenceCanalModel", "drawn", "()I"⟩, 25), (⟨"SilenceCanalModel", "keepAside", "()V"⟩, 25), (⟨"SilenceCanalModel", "cargoBehind", "(I)I"⟩, 25), (⟨"SilenceCanalModel", "putBack", "()V"⟩, 25), (⟨"SilenceCanalModel", "lostAll", "()I"⟩, 25), (⟨"SilenceCanalModel", "landed", "()I"⟩, 25), (⟨"SilenceCanalModel", "places", "()I"⟩, 25), (⟨"SilenceCanalModel", "loudest", "()I"⟩, 25)]
theorem lw_r3 : ∀ q ∈ lw_privs_3, lw_okq q := List.forall_mem_cons.mpr ⟨lw_p32, List.forall_mem_cons.mpr ⟨lw_p33, List.forall_mem_cons.mpr ⟨lw_p34, List.forall_mem_cons.mpr ⟨lw_p35, List.forall_mem_cons.mpr ⟨lw_p36, List.forall_mem_cons.mpr ⟨lw_p37, List.forall_mem_cons.mpr ⟨lw_p38, List.forall_mem_cons.mpr ⟨lw_p39, List.forall_mem_cons.mpr ⟨lw_p40, List.forall_mem_cons.mpr ⟨lw_p41, List.forall_mem_cons.mpr ⟨lw_p42, List.forall_mem_cons.mpr ⟨lw_p43, List.forall_mem_cons.mpr ⟨lw_p44, List.forall_mem_cons.mpr ⟨lw_p45, List.forall_mem_cons.mpr ⟨lw_p46, List.forall_mem_cons.mpr ⟨lw_p47, fun _ h => absurd h List.not_mem_nil⟩⟩⟩⟩⟩⟩⟩⟩⟩⟩⟩⟩⟩⟩⟩⟩
theorem lw_p48 : lw_okq (⟨"SilenceCanalModel", "behind", "(II)I"⟩, 25) := ⟨⟨by decide +kernel, by decide +kernel⟩, List.mem_of_getElem? (i := 757) (by decide +kernel), List.mem_of_getElem? (i := 1021) (by decide +kernel), List.mem_of_getElem? (i := 1022) (by decide +kernel)⟩
theorem lw_p49 : lw_okq (⟨"SilenceCanalModel", "readsAll", "(Z)Z"⟩, 25) := ⟨⟨by decide +kernel, by decide +kernel⟩, List.mem_of_getElem? (i := 757) (by decide +kernel), List.mem_of_getElem? (i := 1105) (by decide +kernel), List.mem_of_getElem? (i := 1106) (by decide +kernel)⟩
theorem lw_p50 : lw_okq (⟨"SilenceCanalModel", "next", "()V"⟩, 25) := ⟨⟨by decide +kernel, by decide +kernel⟩, List.mem_of_getElem? (i := 757) (by decide +kernel), List.mem_of_getElem? (i := 1109) (by decide +kernel), List.mem_of_getElem? (i := 1110) (by decide +kernel)⟩
theorem lw_p51 : lw_okq (⟨"SilenceCanalModel", "isRow", "(CC)Z"⟩, 25) := ⟨⟨by decide +kernel, by decide +kernel⟩, List.mem_of_getElem? (i := 757) (by decide +kernel), List.mem_of_getElem? (i := 1113) (by decide +kernel), List.mem_of_getElem? (i := 1114) (by decide +kernel)⟩
theorem lw_p52 : lw_okq (⟨"SilenceCanalModel", "wordThere", "()I"⟩, 25) := ⟨⟨by decide +kernel, by decide +kernel⟩, List.mem_of_getElem? (i := 757) (by decide +kernel), List.mem_of_getElem? (i := 1117) (by decide +kernel), List.mem_of_getElem? (i := 1118) (by decide +kernel)⟩
theorem lw_p53 : lw_okq (⟨"SilenceCanalModel", "readsBarge", "(IIZ)Z"⟩, 25) := ⟨⟨by decide +kernel, by decide +kernel⟩, List.mem_of_getElem? (i := 757) (by decide +kernel), List.mem_of_getElem? (i := 1121) (by decide +kernel), List.mem_of_getElem? (i := 1122) (by decide +kernel)⟩
theorem lw_p54 : lw_okq (⟨"SilenceCanalModel", "readsWord", "(I)Z"⟩, 25) := ⟨⟨by decide +kernel, by decide +kernel⟩, List.mem_of_getElem? (i := 757) (by decide +kernel), List.mem_of_getElem? (i := 1125) (by decide +kernel), List.mem_of_getElem? (i := 1126) (by decide +kernel)⟩
theorem lw_p55 : lw_okq (⟨"SilenceCanalModel", "isWord", "(I)Z"⟩, 25) := ⟨⟨by decide +kernel, by decide +kernel⟩, List.mem_of_getElem? (i := 757) (by decide +kernel), List.mem_of_getElem? (i := 1129) (by decide +kernel), List.mem_of_getElem? (i := 1130) (by decide +kernel)⟩
theorem lw_p56 : lw_okq (⟨"SilenceCanalModel", "reads", "(I)Z"⟩, 25) := ⟨⟨by decide +kernel, by decide +kernel⟩, List.mem_of_getElem? (i := 757) (by decide +kernel), List.mem_of_getElem? (i := 1133) (by decide +kernel), List.mem_of_getElem? (i := 1134) (by decide +kernel)⟩
theorem lw_p57 : lw_okq (⟨"SilenceCanalModel", "readsNoise", "(Z)Z"⟩, 25) := ⟨⟨by decide +kernel, by decide +kernel⟩, List.mem_of_getElem? (i := 757) (by decide +kernel), List.mem_of_getElem? (i := 1137) (by decide +kernel), List.mem_of_getElem? (i := 1138) (by decide +kernel)⟩
theorem lw_p58 : lw_okq (⟨"SilenceCanalModel", "readsLaw", "(IZ)Z"⟩, 25) := ⟨⟨by decide +kernel, by decide +kernel⟩, List.mem_of_getElem? (i := 757) (by decide +kernel), List.mem_of_getElem? (i := 1141) (by decide +kernel), List.mem_of_getElem? (i := 1142) (by decide +kernel)⟩
theorem lw_p59 : lw_okq (⟨"SilenceCanalModel", "mustBe", "(II)I"⟩, 25) := ⟨⟨by decide +kernel, by decide +kernel⟩, List.mem_of_getElem? (i := 757) (by decide +kernel), List.mem_of_getElem? (i := 1150) (by decide +kernel), List.mem_of_getElem? (i := 1151) (by decide +kernel)⟩
theorem lw_p60 : lw_okq (⟨"SilenceCanalModel", "holdsNothing", "(I)Z"⟩, 25) := ⟨⟨by decide +kernel, by decide +kernel⟩, List.mem_of_getElem? (i := 757) (by decide +kernel), List.mem_of_getElem? (i := 1191) (by decide +kernel), List.mem_of_getElem? (i := 1192) (by decide +kernel)⟩
theorem lw_p61 : lw_okq (⟨"SilenceCanalModel", "floatsBy", "(II)I"⟩, 25) := ⟨⟨by decide +kernel, by decide +kernel⟩, List.mem_of_getElem? (i := 757) (by decide +kernel), List.mem_of_getElem? (i := 1202) (by decide +kernel), List.mem_of_getElem? (i := 1203) (by decide +kernel)⟩
theorem lw_p62 : lw_okq (⟨"SilenceCanalModel", "ran", "(I)V"⟩, 25) := ⟨⟨by decide +kernel, by decide +kernel⟩, List.mem_of_getElem? (i := 757) (by decide +kernel), List.mem_of_getElem? (i := 1206) (by decide +kernel), List.mem_of_getElem? (i := 1207) (by decide +kernel)⟩
theorem lw_p63 : lw_okq (⟨"SilenceCanalModel", "slopsBy", "(II)I"⟩, 25) := ⟨⟨by decide +kernel, by decide +kernel⟩, List.mem_of_getElem? (i := 757) (by decide +kernel), List.mem_of_getElem? (i := 1210) (by decide +kernel), List.mem_of_getElem? (i := 1211) (by decide +kernel)⟩
def lw_privs_4 : List (MethodName × Nat) := [(⟨"SilenceCanalModel", "behind", "(II)I"⟩, 25), (⟨"SilenceCanalModel", "readsAll", "(Z)Z"⟩, 25), (⟨"SilenceCanalModel", "next", "()V"⟩, 25), (⟨"SilenceCanalModel", "isRow", "(CC)Z"⟩, 25), (⟨"SilenceCanalModel", "wordThere", "()I"⟩, 25), (⟨"SilenceCanalModel", "readsBarge", "(IIZ)Z"⟩, 25), (⟨"SilenceCanalModel", "readsWord", "(I)Z"⟩, 25), (⟨"SilenceCanalModel", "isWord", "(I)Z"⟩, 25), (⟨"SilenceCanalModel", "reads", "(I)Z"⟩, 25), (⟨"SilenceCanalModel", "readsNoise", "(Z)Z"⟩, 25), (⟨"SilenceCanalModel", "readsLaw", "(IZ)Z"⟩, 25), (⟨"SilenceCanalModel", "mustBe", "(II)I"⟩, 25), (⟨"SilenceCanalModel", "holdsNothing", "(I)Z"⟩, 25), (⟨"SilenceCanalModel", "floatsBy", "(II)I"⟩, 25), (⟨"SilenceCanalModel", "ran", "(I)V"⟩, 25), (⟨"SilenceCanalModel", "slopsBy", "(II)I"⟩, 25)]
theorem lw_r4 : ∀ q ∈ lw_privs_4, lw_okq q := List.forall_mem_cons.mpr ⟨lw_p48, List.forall_mem_cons.mpr ⟨lw_p49, List.forall_mem_cons.mpr ⟨lw_p50, List.forall_mem_cons.mpr ⟨lw_p51, List.forall_mem_cons.mpr ⟨lw_p52, List.forall_mem_cons.mpr ⟨lw_p53, List.forall_mem_cons.mpr ⟨lw_p54, List.forall_mem_cons.mpr ⟨lw_p55, List.forall_mem_cons.mpr ⟨lw_p56, List.forall_mem_cons.mpr ⟨lw_p57, List.forall_mem_cons.mpr ⟨lw_p58, List.forall_mem_cons.mpr ⟨lw_p59, List.forall_mem_cons.mpr ⟨lw_p60, List.forall_mem_cons.mpr ⟨lw_p61, List.forall_mem_cons.mpr ⟨lw_p62, List.forall_mem_cons.mpr ⟨lw_p63, fun _ h => absurd h List.not_mem_nil⟩⟩⟩⟩⟩⟩⟩⟩⟩⟩⟩⟩⟩⟩⟩⟩
theorem lw_p64 : lw_okq (⟨"SilenceCanalModel", "partsBy", "(II)I"⟩, 25) := ⟨⟨by decide +kernel, by decide +kernel⟩, List.mem_of_getElem? (i := 757) (by decide +kernel), List.mem_of_getElem? (i := 1214) (by decide +kernel), List.mem_of_getElem? (i := 1215) (by decide +kernel)⟩
theorem lw_p65 : lw_okq (⟨"SilenceCanalModel", "landsBy", "(II)I"⟩, 25) := ⟨⟨by decide +kernel, by decide +kernel⟩, List.mem_of_getElem? (i := 757) (by decide +kernel), List.mem_of_getElem? (i := 1218) (by decide +kernel), List.mem_of_getElem? (i := 1219) (by decide +kernel)⟩
theorem lw_p66 : lw_okq (⟨"SilenceCanalModel", "spoiltLocks", "()I"⟩, 25) := ⟨⟨by decide +kernel, by decide +kernel⟩, List.mem_of_getElem? (i := 757) (by decide +kernel), List.mem_of_getElem? (i := 1230) (by decide +kernel), List.mem_of_getElem? (i := 1231) (by decide +kernel)⟩
def lw_privs_5 : List (MethodName × Nat) := [(⟨"SilenceCanalModel", "partsBy", "(II)I"⟩, 25), (⟨"SilenceCanalModel", "landsBy", "(II)I"⟩, 25), (⟨"SilenceCanalModel", "spoiltLocks", "()I"⟩, 25)]
theorem lw_r5 : ∀ q ∈ lw_privs_5, lw_okq q := List.forall_mem_cons.mpr ⟨lw_p64, List.forall_mem_cons.mpr ⟨lw_p65, List.forall_mem_cons.mpr ⟨lw_p66, fun _ h => absurd h List.not_mem_nil⟩⟩⟩
def lw_privs : List (MethodName × Nat) := lw_privs_1 ++ (lw_privs_2 ++ (lw_privs_3 ++ (lw_privs_4 ++ (lw_privs_5))))
def lw_tbl : List Cond := k2_sels lw_privs ++ tables_1
theorem lw_privs_ok : ∀ q ∈ lw_privs, lw_okq q := by
  show ∀ q ∈ lw_privs_1 ++ (lw_privs_2 ++ (lw_privs_3 ++ (lw_privs_4 ++ (lw_privs_5)))), lw_okq q
  exact List.forall_mem_append.mpr ⟨lw_r1, List.forall_mem_append.mpr ⟨lw_r2, List.forall_mem_append.mpr ⟨lw_r3, List.forall_mem_append.mpr ⟨lw_r4, lw_r5⟩⟩⟩⟩

/-! the words that every contract takes -/
def TB : List Cond := lw_tbl.filter goodWord
theorem tb_w {w : Cond} (i : Nat) (h : tables_1[i]? = some w) (g : goodWord w = true) : w ∈ TB := List.mem_filter.mpr ⟨List.mem_append_right _ (List.mem_of_getElem? h), g⟩
theorem tb_1 {w : Cond} (i : Nat) (h : tables_1_1[i]? = some w) (g : goodWord w = true) : w ∈ TB := List.mem_filter.mpr ⟨List.mem_append_right _ (List.mem_append_left _ (List.mem_of_getElem? h)), g⟩
theorem tb_2 {w : Cond} (i : Nat) (h : tables_1_2[i]? = some w) (g : goodWord w = true) : w ∈ TB := List.mem_filter.mpr ⟨List.mem_append_right _ (List.mem_append_right _ (List.mem_append_left _ (List.mem_of_getElem? h))), g⟩
theorem tb_3 {w : Cond} (i : Nat) (h : tables_1_3[i]? = some w) (g : goodWord w = true) : w ∈ TB := List.mem_filter.mpr ⟨List.mem_append_right _ (List.mem_append_right _ (List.mem_append_right _ (List.mem_append_left _ (List.mem_of_getElem? h)))), g⟩
theorem tb_4 {w : Cond} (i : Nat) (h : tables_1_4[i]? = some w) (g : goodWord w = true) : w ∈ TB := List.mem_filter.mpr ⟨List.mem_append_right _ (List.mem_append_right _ (List.mem_append_right _ (List.mem_append_right _ (List.mem_append_left _ (List.mem_of_getElem? h))))), g⟩
theorem tb_5 {w : Cond} (i : Nat) (h : tables_1_5[i]? = some w) (g : goodWord w = true) : w ∈ TB := List.mem_filter.mpr ⟨List.mem_append_right _ (List.mem_append_right _ (List.mem_append_right _ (List.mem_append_right _ (List.mem_append_right _ (List.mem_append_left _ (List.mem_of_getElem? h)))))), g⟩
theorem tb_6 {w : Cond} (i : Nat) (h : tables_1_6[i]? = some w) (g : goodWord w = true) : w ∈ TB := List.mem_filter.mpr ⟨List.mem_append_right _ (List.mem_append_right _ (List.mem_append_right _ (List.mem_append_right _ (List.mem_append_right _ (List.mem_append_right _ (List.mem_of_getElem? h)))))), g⟩
theorem tb_s {q : MethodName × Nat} (i : Nat) (h : lw_privs[i]? = some q) (g : goodWord (Cond.selects q.1.cls q.1 q.1) = true) : Cond.selects q.1.cls q.1 q.1 ∈ TB := List.mem_filter.mpr ⟨List.mem_append_left _ (List.mem_map.mpr ⟨q, List.mem_of_getElem? h, rfl⟩), g⟩
theorem tb_good : ∀ w ∈ TB, (w.onTables && w.keeps) = true ∨ ∃ ty, w = .arrayClass ty := fun w h => good_of_word (List.mem_filter.mp h).2
theorem tb_lw : ∀ w ∈ TB, w ∈ lw_tbl := fun w h => (List.mem_filter.mp h).1
def R_A : String := "SilenceCanal$Acts"
def F_A : u_T := fun k => match k with
  | 0 => ("SilenceCanal$Acts", "bodies", "[I", true)
  | 1 => ("SilenceCanal$Acts", "traced", "I", false)
  | 2 => ("SilenceCanal$Acts", "kind", "I", false)
  | 3 => ("SilenceCanal$Acts", "n", "I", false)
  | 4 => ("SilenceCanal$Acts", "a", "I", false)
  | _ => ("SilenceCanal$Acts", "isParted", "Z", false)
def ty_A : Nat → FieldType := fun k => match k with
  | 0 => .array .int
  | 1 => .int
  | 2 => .int
  | 3 => .int
  | 4 => .int
  | _ => .boolean
theorem n_A : ∀ a, a < 6 → ∀ b, b < 6 → a ≠ b → (F_A a).2.1 ≠ (F_A b).2.1 := by decide +kernel
theorem ty_A_ok : ∀ k, k < 6 → parseFieldDescriptor (F_A k).2.2.1 = some (ty_A k) := by decide +kernel
theorem f_A_0 : u_lay R_A F_A 0 ∈ TB := tb_w 133 (by decide +kernel) (by decide +kernel)
theorem f_A_1 : u_lay R_A F_A 1 ∈ TB := tb_w 135 (by decide +kernel) (by decide +kernel)
theorem f_A_2 : u_lay R_A F_A 2 ∈ TB := tb_w 137 (by decide +kernel) (by decide +kernel)
theorem f_A_3 : u_lay R_A F_A 3 ∈ TB := tb_w 139 (by decide +kernel) (by decide +kernel)
theorem f_A_4 : u_lay R_A F_A 4 ∈ TB := tb_w 141 (by decide +kernel) (by decide +kernel)
theorem f_A_5 : u_lay R_A F_A 5 ∈ TB := tb_w 143 (by decide +kernel) (by decide +kernel)
theorem i_A : ∀ w ∈ u_ws R_A F_A 6, w ∈ TB := by
  intro w hw
  obtain ⟨k, hk, rfl⟩ := List.mem_map.mp hw
  have hk := List.mem_range.mp hk
  match k, hk with
  | 0, _ => exact f_A_0
  | 1, _ => exact f_A_1
  | 2, _ => exact f_A_2
  | 3, _ => exact f_A_3
  | 4, _ => exact f_A_4
  | 5, _ => exact f_A_5
  | k + 6, h => exact absurd h (by omega)
def R_C : String := "SilenceCanal$Canal"
def F_C : u_T := fun k => match k with
  | 0 => ("SilenceCanal$Canal", "laws", "[I", true)
  | 1 => ("SilenceCanal$Canal", "noise", "[I", true)
  | 2 => ("SilenceCanal$Canal", "lost", "[I", true)
  | 3 => ("SilenceCanal$Canal", "kind", "[I", true)
  | 4 => ("SilenceCanal$Canal", "load", "[I", true)
  | 5 => ("SilenceCanal$Canal", "sort", "[I", true)
  | 6 => ("SilenceCanal$Canal", "at", "[I", true)
  | 7 => ("SilenceCanal$Canal", "bound", "[I", true)
  | 8 => ("SilenceCanal$Canal", "count", "I", false)
  | 9 => ("SilenceCanal$Canal", "hour", "I", false)
  | 10 => ("SilenceCanal$Canal", "z", "I", false)
  | _ => ("SilenceCanal$Canal", "heldBack", "I", false)
def ty_C : Nat → FieldType := fun k => match k with
  | 0 => .array .int
  | 1 => .array .int
  | 2 => .array .int
  | 3 => .array .int
  | 4 => .array .int
  | 5 => .array .int
  | 6 => .array .int
  | 7 => .array .int
  | 8 => .int
  | 9 => .int
  | 10 => .int
  | _ => .int
theorem n_C : ∀ a, a < 12 → ∀ b, b < 12 → a ≠ b → (F_C a).2.1 ≠ (F_C b).2.1 := by decide +kernel
theorem ty_C_ok : ∀ k, k < 12 → parseFieldDescriptor (F_C k).2.2.1 = some (ty_C k) := by decide +kernel
theorem f_C_0 : u_lay R_C F_C 0 ∈ TB := tb_w 65 (by decide +kernel) (by decide +kernel)
theorem f_C_1 : u_lay R_C F_C 1 ∈ TB := tb_w 67 (by decide +kernel) (by decide +kernel)
theorem f_C_2 : u_lay R_C F_C 2 ∈ TB := tb_w 69 (by decide +kernel) (by decide +kernel)
theorem f_C_3 : u_lay R_C F_C 3 ∈ TB := tb_w 71 (by decide +kernel) (by decide +kernel)
theorem f_C_4 : u_lay R_C F_C 4 ∈ TB := tb_w 73 (by decide +kernel) (by decide +kernel)
theorem f_C_5 : u_lay R_C F_C 5 ∈ TB := tb_w 75 (by decide +kernel) (by decide +kernel)
theorem f_C_6 : u_lay R_C F_C 6 ∈ TB := tb_w 77 (by decide +kernel) (by decide +kernel)
theorem f_C_7 : u_lay R_C F_C 7 ∈ TB := tb_w 79 (by decide +kernel) (by decide +kernel)
theorem f_C_8 : u_lay R_C F_C 8 ∈ TB := tb_w 81 (by decide +kernel) (by decide +kernel)
theorem f_C_9 : u_lay R_C F_C 9 ∈ TB := tb_w 83 (by decide +kernel) (by decide +kernel)
theorem f_C_10 : u_lay R_C F_C 10 ∈ TB := tb_w 85 (by decide +kernel) (by decide +kernel)
theorem f_C_11 : u_lay R_C F_C 11 ∈ TB := tb_w 87 (by decide +kernel) (by decide +kernel)
theorem i_C : ∀ w ∈ u_ws R_C F_C 12, w ∈ TB := by
  intro w hw
  obtain ⟨k, hk, rfl⟩ := List.mem_map.mp hw
  have hk := List.mem_range.mp hk
  match k, hk with
  | 0, _ => exact f_C_0
  | 1, _ => exact f_C_1
  | 2, _ => exact f_C_2
  | 3, _ => exact f_C_3
  | 4, _ => exact f_C_4
  | 5, _ => exact f_C_5
  | 6, _ => exact f_C_6
  | 7, _ => exact f_C_7
  | 8, _ => exact f_C_8
  | 9, _ => exact f_C_9
  | 10, _ => exact f_C_10
  | 11, _ => exact f_C_11
  | k + 12, h => exact absurd h (by omega)
def R_S : String := "SilenceCanal$Sheet"
def F_S : u_T := fun k => match k with
  | 0 => ("SilenceCanal$Sheet", "items", "[I", true)
  | 1 => ("SilenceCanal$Sheet", "sort", "I", false)
  | _ => ("SilenceCanal$Sheet", "size", "I", false)
def ty_S : Nat → FieldType := fun k => match k with
  | 0 => .array .int
  | 1 => .int
  | _ => .int
theorem n_S : ∀ a, a < 3 → ∀ b, b < 3 → a ≠ b → (F_S a).2.1 ≠ (F_S b).2.1 := by decide +kernel
theorem ty_S_ok : ∀ k, k < 3 → parseFieldDescriptor (F_S k).2.2.1 = some (ty_S k) := by decide +kernel
theorem f_S_0 : u_lay R_S F_S 0 ∈ TB := tb_w 157 (by decide +kernel) (by decide +kernel)
theorem f_S_1 : u_lay R_S F_S 1 ∈ TB := tb_w 159 (by decide +kernel) (by decide +kernel)
theorem f_S_2 : u_lay R_S F_S 2 ∈ TB := tb_w 161 (by decide +kernel) (by decide +kernel)
theorem i_S : ∀ w ∈ u_ws R_S F_S 3, w ∈ TB := by
  intro w hw
  obtain ⟨k, hk, rfl⟩ := List.mem_map.mp hw
  have hk := List.mem_range.mp hk
  match k, hk with
  | 0, _ => exact f_S_0
  | 1, _ => exact f_S_1
  | 2, _ => exact f_S_2
  | k + 3, h => exact absurd h (by omega)
def R_H : String := "SilenceCanal$Shelf"
def F_H : u_T := fun k => match k with
  | 0 => ("SilenceCanal$Shelf", "what", "I", false)
  | 1 => ("SilenceCanal$Shelf", "barge", "I", false)
  | 2 => ("SilenceCanal$Shelf", "rowSort", "I", false)
  | _ => ("SilenceCanal$Shelf", "rowSize", "I", false)
def ty_H : Nat → FieldType := fun k => match k with
  | 0 => .int
  | 1 => .int
  | 2 => .int
  | _ => .int
theorem n_H : ∀ a, a < 4 → ∀ b, b < 4 → a ≠ b → (F_H a).2.1 ≠ (F_H b).2.1 := by decide +kernel
theorem ty_H_ok : ∀ k, k < 4 → parseFieldDescriptor (F_H k).2.2.1 = some (ty_H k) := by decide +kernel
theorem f_H_0 : u_lay R_H F_H 0 ∈ TB := tb_w 177 (by decide +kernel) (by decide +kernel)
theorem f_H_1 : u_lay R_H F_H 1 ∈ TB := tb_w 179 (by decide +kernel) (by decide +kernel)
theorem f_H_2 : u_lay R_H F_H 2 ∈ TB := tb_w 181 (by decide +kernel) (by decide +kernel)
theorem f_H_3 : u_lay R_H F_H 3 ∈ TB := tb_w 183 (by decide +kernel) (by decide +kernel)
theorem i_H : ∀ w ∈ u_ws R_H F_H 4, w ∈ TB := by
  intro w hw
  obtain ⟨k, hk, rfl⟩ := List.mem_map.mp hw
  have hk := List.mem_range.mp hk
  match k, hk with
  | 0, _ => exact f_H_0
  | 1, _ => exact f_H_1
  | 2, _ => exact f_H_2
  | 3, _ => exact f_H_3
  | k + 4, h => exact absurd h (by omega)
def R_T : String := "SilenceCanal$Text"
def F_T : u_T := fun k => match k with
  | 0 => ("SilenceCanal$Text", "bytes", "[B", true)
  | 1 => ("SilenceCanal$Text", "size", "I", false)
  | 2 => ("SilenceCanal$Text", "sort", "I", false)
  | 3 => ("SilenceCanal$Text", "start", "I", false)
  | _ => ("SilenceCanal$Text", "end", "I", false)
def ty_T : Nat → FieldType := fun k => match k with
  | 0 => .array .byte
  | 1 => .int
  | 2 => .int
  | 3 => .int
  | _ => .int
theorem n_T : ∀ a, a < 5 → ∀ b, b < 5 → a ≠ b → (F_T a).2.1 ≠ (F_T b).2.1 := by decide +kernel
theorem ty_T_ok : ∀ k, k < 5 → parseFieldDescriptor (F_T k).2.2.1 = some (ty_T k) := by decide +kernel
theorem f_T_0 : u_lay R_T F_T 0 ∈ TB := tb_w 103 (by decide +kernel) (by decide +kernel)
theorem f_T_1 : u_lay R_T F_T 1 ∈ TB := tb_w 105 (by decide +kernel) (by decide +kernel)
theorem f_T_2 : u_lay R_T F_T 2 ∈ TB := tb_w 107 (by decide +kernel) (by decide +kernel)
theorem f_T_3 : u_lay R_T F_T 3 ∈ TB := tb_w 109 (by decide +kernel) (by decide +kernel)
theorem f_T_4 : u_lay R_T F_T 4 ∈ TB := tb_w 111 (by decide +kernel) (by decide +kernel)
theorem i_T : ∀ w ∈ u_ws R_T F_T 5, w ∈ TB := by
  intro w hw
  obtain ⟨k, hk, rfl⟩ := List.mem_map.mp hw
  have hk := List.mem_range.mp hk
  match k, hk with
  | 0, _ => exact f_T_0
  | 1, _ => exact f_T_1
  | 2, _ => exact f_T_2
  | 3, _ => exact f_T_3
  | 4, _ => exact f_T_4
  | k + 5, h => exact absurd h (by omega)
def R_X : String := "SilenceCanal"
def F_X : u_T := fun k => match k with
  | 0 => ("SilenceCanal", "now", "LSilenceCanal$Canal;", true)
  | 1 => ("SilenceCanal", "tried", "LSilenceCanal$Canal;", true)
  | 2 => ("SilenceCanal", "kept", "LSilenceCanal$Canal;", true)
  | 3 => ("SilenceCanal", "isKept", "Z", false)
  | 4 => ("SilenceCanal", "tape", "LSilenceCanal$Text;", true)
  | 5 => ("SilenceCanal", "rows", "[I", true)
  | 6 => ("SilenceCanal", "rowCount", "I", false)
  | 7 => ("SilenceCanal", "sheets", "[LSilenceCanal$Sheet;", true)
  | 8 => ("SilenceCanal", "shelves", "[LSilenceCanal$Shelf;", true)
  | _ => ("SilenceCanal", "acts", "LSilenceCanal$Acts;", true)
def ty_X : Nat → FieldType := fun k => match k with
  | 0 => .object "SilenceCanal$Canal"
  | 1 => .object "SilenceCanal$Canal"
  | 2 => .object "SilenceCanal$Canal"
  | 3 => .boolean
  | 4 => .object "SilenceCanal$Text"
  | 5 => .array .int
  | 6 => .int
  | 7 => .array (.object "SilenceCanal$Sheet")
  | 8 => .array (.object "SilenceCanal$Shelf")
  | _ => .object "SilenceCanal$Acts"
theorem n_X : ∀ a, a < 10 → ∀ b, b < 10 → a ≠ b → (F_X a).2.1 ≠ (F_X b).2.1 := by decide +kernel
theorem ty_X_ok : ∀ k, k < 10 → parseFieldDescriptor (F_X k).2.2.1 = some (ty_X k) := by decide +kernel
theorem f_X_0 : u_lay R_X F_X 0 ∈ TB := tb_w 196 (by decide +kernel) (by decide +kernel)
theorem f_X_1 : u_lay R_X F_X 1 ∈ TB := tb_w 198 (by decide +kernel) (by decide +kernel)
theorem f_X_2 : u_lay R_X F_X 2 ∈ TB := tb_w 200 (by decide +kernel) (by decide +kernel)
theorem f_X_3 : u_lay R_X F_X 3 ∈ TB := tb_w 202 (by decide +kernel) (by decide +kernel)
theorem f_X_4 : u_lay R_X F_X 4 ∈ TB := tb_w 204 (by decide +kernel) (by decide +kernel)
theorem f_X_5 : u_lay R_X F_X 5 ∈ TB := tb_w 206 (by decide +kernel) (by decide +kernel)
theorem f_X_6 : u_lay R_X F_X 6 ∈ TB := tb_w 208 (by decide +kernel) (by decide +kernel)
theorem f_X_7 : u_lay R_X F_X 7 ∈ TB := tb_w 210 (by decide +kernel) (by decide +kernel)
theorem f_X_8 : u_lay R_X F_X 8 ∈ TB := tb_w 212 (by decide +kernel) (by decide +kernel)
theorem f_X_9 : u_lay R_X F_X 9 ∈ TB := tb_w 214 (by decide +kernel) (by decide +kernel)
theorem i_X : ∀ w ∈ u_ws R_X F_X 10, w ∈ TB := by
  intro w hw
  obtain ⟨k, hk, rfl⟩ := List.mem_map.mp hw
  have hk := List.mem_range.mp hk
  match k, hk with
  | 0, _ => exact f_X_0
  | 1, _ => exact f_X_1
  | 2, _ => exact f_X_2
  | 3, _ => exact f_X_3
  | 4, _ => exact f_X_4
  | 5, _ => exact f_X_5
  | 6, _ => exact f_X_6
  | 7, _ => exact f_X_7
  | 8, _ => exact f_X_8
  | 9, _ => exact f_X_9
  | k + 10, h => exact absurd h (by omega)
def R_M : String := "SilenceCanalModel"
def F_M : u_T := fun k => match k with
  | 0 => ("SilenceCanalModel", "d", "[I", true)
  | 1 => ("SilenceCanalModel", "aside", "[I", true)
  | 2 => ("SilenceCanalModel", "kept", "[I", true)
  | 3 => ("SilenceCanalModel", "isKept", "Z", false)
  | 4 => ("SilenceCanalModel", "still", "I", false)
  | 5 => ("SilenceCanalModel", "tape", "[I", true)
  | 6 => ("SilenceCanalModel", "taped", "I", false)
  | 7 => ("SilenceCanalModel", "at", "I", false)
  | 8 => ("SilenceCanalModel", "begun", "I", false)
  | 9 => ("SilenceCanalModel", "token", "I", false)
  | 10 => ("SilenceCanalModel", "value", "I", false)
  | 11 => ("SilenceCanalModel", "words", "[C", true)
  | 12 => ("SilenceCanalModel", "told", "I", false)
  | 13 => ("SilenceCanalModel", "row", "[I", true)
  | 14 => ("SilenceCanalModel", "rows", "I", false)
  | 15 => ("SilenceCanalModel", "sortOf", "[I", true)
  | 16 => ("SilenceCanalModel", "sizeOf", "[I", true)
  | 17 => ("SilenceCanalModel", "item", "[J", true)
  | 18 => ("SilenceCanalModel", "shelfHas", "[I", true)
  | 19 => ("SilenceCanalModel", "shelfWhich", "[I", true)
  | 20 => ("SilenceCanalModel", "shelfSize", "[I", true)
  | 21 => ("SilenceCanalModel", "traced", "[I", true)
  | 22 => ("SilenceCanalModel", "traceMany", "I", false)
  | 23 => ("SilenceCanalModel", "who", "I", false)
  | _ => ("SilenceCanalModel", "isParted", "Z", false)
def ty_M : Nat → FieldType := fun k => match k with
  | 0 => .array .int
  | 1 => .array .int
  | 2 => .array .int
  | 3 => .boolean
  | 4 => .int
  | 5 => .array .int
  | 6 => .int
  | 7 => .int
  | 8 => .int
  | 9 => .int
  | 10 => .int
  | 11 => .array .char
  | 12 => .int
  | 13 => .array .int
  | 14 => .int
  | 15 => .array .int
  | 16 => .array .int
  | 17 => .array .long
  | 18 => .array .int
  | 19 => .array .int
  | 20 => .array .int
  | 21 => .array .int
  | 22 => .int
  | 23 => .int
  | _ => .boolean
theorem n_M : ∀ a, a < 25 → ∀ b, b < 25 → a ≠ b → (F_M a).2.1 ≠ (F_M b).2.1 := by decide +kernel
theorem ty_M_ok : ∀ k, k < 25 → parseFieldDescriptor (F_M k).2.2.1 = some (ty_M k) := by decide +kernel
theorem f_M_0 : u_lay R_M F_M 0 ∈ TB := tb_w 791 (by decide +kernel) (by decide +kernel)
theorem f_M_1 : u_lay R_M F_M 1 ∈ TB := tb_w 793 (by decide +kernel) (by decide +kernel)
theorem f_M_2 : u_lay R_M F_M 2 ∈ TB := tb_w 795 (by decide +kernel) (by decide +kernel)
theorem f_M_3 : u_lay R_M F_M 3 ∈ TB := tb_w 797 (by decide +kernel) (by decide +kernel)
theorem f_M_4 : u_lay R_M F_M 4 ∈ TB := tb_w 799 (by decide +kernel) (by decide +kernel)
theorem f_M_5 : u_lay R_M F_M 5 ∈ TB := tb_w 801 (by decide +kernel) (by decide +kernel)
theorem f_M_6 : u_lay R_M F_M 6 ∈ TB := tb_w 803 (by decide +kernel) (by decide +kernel)
theorem f_M_7 : u_lay R_M F_M 7 ∈ TB := tb_w 805 (by decide +kernel) (by decide +kernel)
theorem f_M_8 : u_lay R_M F_M 8 ∈ TB := tb_w 807 (by decide +kernel) (by decide +kernel)
theorem f_M_9 : u_lay R_M F_M 9 ∈ TB := tb_w 809 (by decide +kernel) (by decide +kernel)
theorem f_M_10 : u_lay R_M F_M 10 ∈ TB := tb_w 811 (by decide +kernel) (by decide +kernel)
theorem f_M_11 : u_lay R_M F_M 11 ∈ TB := tb_w 813 (by decide +kernel) (by decide +kernel)
theorem f_M_12 : u_lay R_M F_M 12 ∈ TB := tb_w 815 (by decide +kernel) (by decide +kernel)
theorem f_M_13 : u_lay R_M F_M 13 ∈ TB := tb_w 817 (by decide +kernel) (by decide +kernel)
theorem f_M_14 : u_lay R_M F_M 14 ∈ TB := tb_w 819 (by decide +kernel) (by decide +kernel)
theorem f_M_15 : u_lay R_M F_M 15 ∈ TB := tb_w 821 (by decide +kernel) (by decide +kernel)
theorem f_M_16 : u_lay R_M F_M 16 ∈ TB := tb_w 823 (by decide +kernel) (by decide +kernel)
theorem f_M_17 : u_lay R_M F_M 17 ∈ TB := tb_w 825 (by decide +kernel) (by decide +kernel)
theorem f_M_18 : u_lay R_M F_M 18 ∈ TB := tb_w 827 (by decide +kernel) (by decide +kernel)
theorem f_M_19 : u_lay R_M F_M 19 ∈ TB := tb_w 829 (by decide +kernel) (by decide +kernel)
theorem f_M_20 : u_lay R_M F_M 20 ∈ TB := tb_w 831 (by decide +kernel) (by decide +kernel)
theorem f_M_21 : u_lay R_M F_M 21 ∈ TB := tb_w 833 (by decide +kernel) (by decide +kernel)
theorem f_M_22 : u_lay R_M F_M 22 ∈ TB := tb_w 835 (by decide +kernel) (by decide +kernel)
theorem f_M_23 : u_lay R_M F_M 23 ∈ TB := tb_w 837 (by decide +kernel) (by decide +kernel)
theorem f_M_24 : u_lay R_M F_M 24 ∈ TB := tb_w 839 (by decide +kernel) (by decide +kernel)
theorem i_M : ∀ w ∈ u_ws R_M F_M 25, w ∈ TB := by
  intro w hw
  obtain ⟨k, hk, rfl⟩ := List.mem_map.mp hw
  have hk := List.mem_range.mp hk
  match k, hk with
  | 0, _ => exact f_M_0
  | 1, _ => exact f_M_1
  | 2, _ => exact f_M_2
  | 3, _ => exact f_M_3
  | 4, _ => exact f_M_4
  | 5, _ => exact f_M_5
  | 6, _ => exact f_M_6
  | 7, _ => exact f_M_7
  | 8, _ => exact f_M_8
  | 9, _ => exact f_M_9
  | 10, _ => exact f_M_10
  | 11, _ => exact f_M_11
  | 12, _ => exact f_M_12
  | 13, _ => exact f_M_13
  | 14, _ => exact f_M_14
  | 15, _ => exact f_M_15
  | 16, _ => exact f_M_16
  | 17, _ => exact f_M_17
  | 18, _ => exact f_M_18
  | 19, _ => exact f_M_19
  | 20, _ => exact f_M_20
  | 21, _ => exact f_M_21
  | 22, _ => exact f_M_22
  | 23, _ => exact f_M_23
  | 24, _ => exact f_M_24
  | k + 25, h => exact absurd h (by omega)
def R_JI : String := "java/lang/Integer"
def R_JM : String := "java/lang/Math"
def R_JS : String := "java/lang/String"
def R_JL : String := "java/lang/StringLatin1"
def R_JU : String := "java/lang/StringUTF16"
def R_JA : String := "java/util/Arrays"
def R_JP : String := "jdk/internal/util/Preconditions"
abbrev classes : List vw_C := [(R_A, F_A, 6), (R_C, F_C, 12), (R_S, F_S, 3), (R_H, F_H, 4), (R_T, F_T, 5), (R_X, F_X, 10), (R_M, F_M, 25)]
abbrev b_X_init : ByteArray := prog_1_method_1_code
def y_X_init : MethodName := ⟨R_X, "<init>", "()V"⟩
abbrev b_C_init : ByteArray := prog_3_method_1_code
def y_C_init : MethodName := ⟨R_C, "<init>", "()V"⟩
abbrev b_JA_fill : ByteArray := prog_15_method_103_code
def y_JA_fill : MethodName := ⟨R_JA, "fill", "([II)V"⟩
abbrev b_T_init : ByteArray := prog_6_method_1_code
def y_T_init : MethodName := ⟨R_T, "<init>", "()V"⟩
abbrev b_A_init : ByteArray := prog_2_method_1_code
def y_A_init : MethodName := ⟨R_A, "<init>", "()V"⟩
abbrev b_S_init : ByteArray := prog_4_method_1_code
def y_S_init : MethodName := ⟨R_S, "<init>", "()V"⟩
abbrev b_H_init : ByteArray := prog_5_method_1_code
def y_H_init : MethodName := ⟨R_H, "<init>", "()V"⟩
abbrev b_X_feed : ByteArray := prog_1_method_2_code
def y_X_feed : MethodName := ⟨R_X, "feed", "(JI)I"⟩
abbrev b_T_append : ByteArray := prog_6_method_2_code
def y_T_append : MethodName := ⟨R_T, "append", "(B)V"⟩
abbrev b_X_canal : ByteArray := prog_1_method_3_code
def y_X_canal : MethodName := ⟨R_X, "canal", "()I"⟩
abbrev b_C_copyFrom : ByteArray := prog_3_method_3_code
def y_C_copyFrom : MethodName := ⟨R_C, "copyFrom", "(LSilenceCanal$Canal;)V"⟩
abbrev b_C_clearAllButDraws : ByteArray := prog_3_method_2_code
def y_C_clearAllButDraws : MethodName := ⟨R_C, "clearAllButDraws", "()V"⟩
abbrev b_T_readInto : ByteArray := prog_6_method_3_code
def y_T_readInto : MethodName := ⟨R_T, "readInto", "(LSilenceCanal$Canal;)I"⟩
abbrev b_T_step : ByteArray := prog_6_method_14_code
def y_T_step : MethodName := ⟨R_T, "step", "()V"⟩
abbrev b_T_byteAt : ByteArray := prog_6_method_15_code
def y_T_byteAt : MethodName := ⟨R_T, "byteAt", "(I)I"⟩
abbrev b_T_isLetter : ByteArray := prog_6_method_16_code
def y_T_isLetter : MethodName := ⟨R_T, "isLetter", "(I)Z"⟩
abbrev b_T_isDigit : ByteArray := prog_6_method_17_code
def y_T_isDigit : MethodName := ⟨R_T, "isDigit", "(I)Z"⟩
abbrev b_T_readLine : ByteArray := prog_6_method_4_code
def y_T_readLine : MethodName := ⟨R_T, "readLine", "(LSilenceCanal$Canal;)Z"⟩
abbrev b_T_kindName : ByteArray := prog_6_method_8_code
def y_T_kindName : MethodName := ⟨R_T, "kindName", "(I)Ljava/lang/String;"⟩
abbrev b_T_isName : ByteArray := prog_6_method_10_code
def y_T_isName : MethodName := ⟨R_T, "isName", "(Ljava/lang/String;)Z"⟩
abbrev b_JS_length : ByteArray := prog_11_method_54_code
def y_JS_length : MethodName := ⟨R_JS, "length", "()I"⟩
abbrev b_JS_coder : ByteArray := prog_11_method_152_code
def y_JS_coder : MethodName := ⟨R_JS, "coder", "()B"⟩
abbrev b_JS_charAt : ByteArray := prog_11_method_56_code
def y_JS_charAt : MethodName := ⟨R_JS, "charAt", "(I)C"⟩
abbrev b_JS_isLatin1 : ByteArray := prog_11_method_154_code
def y_JS_isLatin1 : MethodName := ⟨R_JS, "isLatin1", "()Z"⟩
abbrev b_JL_charAt : ByteArray := prog_12_method_2_code
def y_JL_charAt : MethodName := ⟨R_JL, "charAt", "([BI)C"⟩
abbrev b_JS_checkIndex : ByteArray := prog_11_method_155_code
def y_JS_checkIndex : MethodName := ⟨R_JS, "checkIndex", "(II)V"⟩
abbrev b_JP_checkIndex : ByteArray := prog_16_method_11_code
def y_JP_checkIndex : MethodName := ⟨R_JP, "checkIndex", "(IILjava/util/function/BiFunction;)I"⟩
abbrev b_JU_charAt : ByteArray := prog_13_method_83_code
def y_JU_charAt : MethodName := ⟨R_JU, "charAt", "([BI)C"⟩
abbrev b_JU_checkIndex : ByteArray := prog_13_method_91_code
def y_JU_checkIndex : MethodName := ⟨R_JU, "checkIndex", "(I[B)V"⟩
abbrev b_JU_length : ByteArray := prog_13_method_6_code
def y_JU_length : MethodName := ⟨R_JU, "length", "([B)I"⟩
abbrev b_JU_getChar : ByteArray := prog_13_method_5_code
def y_JU_getChar : MethodName := ⟨R_JU, "getChar", "([BI)C"⟩
abbrev b_T_readBarge : ByteArray := prog_6_method_5_code
def y_T_readBarge : MethodName := ⟨R_T, "readBarge", "(LSilenceCanal$Canal;I)Z"⟩
abbrev b_T_takeName : ByteArray := prog_6_method_11_code
def y_T_takeName : MethodName := ⟨R_T, "takeName", "(Ljava/lang/String;)Z"⟩
abbrev b_T_takeNumber : ByteArray := prog_6_method_12_code
def y_T_takeNumber : MethodName := ⟨R_T, "takeNumber", "(I)I"⟩
abbrev b_T_takeEndOfLine : ByteArray := prog_6_method_13_code
def y_T_takeEndOfLine : MethodName := ⟨R_T, "takeEndOfLine", "()Z"⟩
abbrev b_C_add : ByteArray := prog_3_method_4_code
def y_C_add : MethodName := ⟨R_C, "add", "(IIIII)V"⟩
abbrev b_T_lawName : ByteArray := prog_6_method_9_code
def y_T_lawName : MethodName := ⟨R_T, "lawName", "(I)Ljava/lang/String;"⟩
abbrev b_T_readLaw : ByteArray := prog_6_method_6_code
def y_T_readLaw : MethodName := ⟨R_T, "readLaw", "(LSilenceCanal$Canal;I)Z"⟩
abbrev b_X_isLaw : ByteArray := prog_1_method_50_code
def y_X_isLaw : MethodName := ⟨R_X, "isLaw", "(I)Z"⟩
abbrev b_T_readNoise : ByteArray := prog_6_method_7_code
def y_T_readNoise : MethodName := ⟨R_T, "readNoise", "(LSilenceCanal$Canal;)Z"⟩
abbrev b_X_isLock : ByteArray := prog_1_method_51_code
def y_X_isLock : MethodName := ⟨R_X, "isLock", "(I)Z"⟩
abbrev b_X_set : ByteArray := prog_1_method_4_code
def y_X_set : MethodName := ⟨R_X, "set", "(II)I"⟩
abbrev b_X_lawOf : ByteArray := prog_1_method_5_code
def y_X_lawOf : MethodName := ⟨R_X, "lawOf", "(I)I"⟩
abbrev b_X_barge : ByteArray := prog_1_method_6_code
def y_X_barge : MethodName := ⟨R_X, "barge", "(IIII)I"⟩
abbrev b_X_isKind : ByteArray := prog_1_method_49_code
def y_X_isKind : MethodName := ⟨R_X, "isKind", "(I)Z"⟩
abbrev b_X_isLoad : ByteArray := prog_1_method_52_code
def y_X_isLoad : MethodName := ⟨R_X, "isLoad", "(I)Z"⟩
abbrev b_X_of : ByteArray := prog_1_method_7_code
def y_X_of : MethodName := ⟨R_X, "of", "(II)I"⟩
abbrev b_X_isBarge : ByteArray := prog_1_method_48_code
def y_X_isBarge : MethodName := ⟨R_X, "isBarge", "(I)Z"⟩
abbrev b_C_hasLanded : ByteArray := prog_3_method_6_code
def y_C_hasLanded : MethodName := ⟨R_C, "hasLanded", "(I)Z"⟩
abbrev b_X_does : ByteArray := prog_1_method_8_code
def y_X_does : MethodName := ⟨R_X, "does", "(II)I"⟩
abbrev b_C_paceOf : ByteArray := prog_3_method_9_code
def y_C_paceOf : MethodName := ⟨R_C, "paceOf", "(I)I"⟩
abbrev b_C_noiseAt : ByteArray := prog_3_method_8_code
def y_C_noiseAt : MethodName := ⟨R_C, "noiseAt", "(I)I"⟩
abbrev b_C_spillOf : ByteArray := prog_3_method_10_code
def y_C_spillOf : MethodName := ⟨R_C, "spillOf", "(II)I"⟩
abbrev b_X_mind : ByteArray := prog_1_method_9_code
def y_X_mind : MethodName := ⟨R_X, "mind", "(III)I"⟩
abbrev b_X_fill : ByteArray := prog_1_method_10_code
def y_X_fill : MethodName := ⟨R_X, "fill", "(II)I"⟩
abbrev b_X_bring : ByteArray := prog_1_method_11_code
def y_X_bring : MethodName := ⟨R_X, "bring", "(II)I"⟩
abbrev b_X_send : ByteArray := prog_1_method_12_code
def y_X_send : MethodName := ⟨R_X, "send", "(II)I"⟩
abbrev b_X_noise : ByteArray := prog_1_method_13_code
def y_X_noise : MethodName := ⟨R_X, "noise", "(II)I"⟩
abbrev b_X_lock : ByteArray := prog_1_method_14_code
def y_X_lock : MethodName := ⟨R_X, "lock", "(II)I"⟩
abbrev b_C_bargesAt : ByteArray := prog_3_method_22_code
def y_C_bargesAt : MethodName := ⟨R_C, "bargesAt", "(I)I"⟩
abbrev b_X_hours : ByteArray := prog_1_method_15_code
def y_X_hours : MethodName := ⟨R_X, "hours", "(I)I"⟩
abbrev b_C_passHours : ByteArray := prog_3_method_11_code
def y_C_passHours : MethodName := ⟨R_C, "passHours", "(I)V"⟩
abbrev b_C_allLanded : ByteArray := prog_3_method_7_code
def y_C_allLanded : MethodName := ⟨R_C, "allLanded", "()Z"⟩
abbrev b_C_landedSet : ByteArray := prog_3_method_20_code
def y_C_landedSet : MethodName := ⟨R_C, "landedSet", "()I"⟩
abbrev b_C_passHour : ByteArray := prog_3_method_12_code
def y_C_passHour : MethodName := ⟨R_C, "passHour", "()V"⟩
abbrev b_C_goOn : ByteArray := prog_3_method_13_code
def y_C_goOn : MethodName := ⟨R_C, "goOn", "(I)V"⟩
abbrev b_C_spill : ByteArray := prog_3_method_15_code
def y_C_spill : MethodName := ⟨R_C, "spill", "(III)V"⟩
abbrev b_X_heldLoad : ByteArray := prog_1_method_54_code
def y_X_heldLoad : MethodName := ⟨R_X, "heldLoad", "(I)I"⟩
abbrev b_JM_min : ByteArray := prog_10_method_69_code
def y_JM_min : MethodName := ⟨R_JM, "min", "(II)I"⟩
abbrev b_C_echoWithOthers : ByteArray := prog_3_method_14_code
def y_C_echoWithOthers : MethodName := ⟨R_C, "echoWithOthers", "(I)V"⟩
abbrev b_C_allLoads : ByteArray := prog_3_method_18_code
def y_C_allLoads : MethodName := ⟨R_C, "allLoads", "()I"⟩
abbrev b_X_seed : ByteArray := prog_1_method_16_code
def y_X_seed : MethodName := ⟨R_X, "seed", "(I)I"⟩
abbrev b_X_hour : ByteArray := prog_1_method_17_code
def y_X_hour : MethodName := ⟨R_X, "hour", "()I"⟩
abbrev b_C_passHourByDraws : ByteArray := prog_3_method_16_code
def y_C_passHourByDraws : MethodName := ⟨R_C, "passHourByDraws", "()V"⟩
abbrev b_C_draw : ByteArray := prog_3_method_17_code
def y_C_draw : MethodName := ⟨R_C, "draw", "()I"⟩
abbrev b_X_spoilt : ByteArray := prog_1_method_18_code
def y_X_spoilt : MethodName := ⟨R_X, "spoilt", "(I)I"⟩
abbrev b_X_triedCargo : ByteArray := prog_1_method_60_code
def y_X_triedCargo : MethodName := ⟨R_X, "triedCargo", "(III)I"⟩
abbrev b_C_still : ByteArray := prog_3_method_5_code
def y_C_still : MethodName := ⟨R_C, "still", "(I)V"⟩
abbrev b_X_state : ByteArray := prog_1_method_19_code
def y_X_state : MethodName := ⟨R_X, "state", "(I)I"⟩
abbrev b_C_allLost : ByteArray := prog_3_method_19_code
def y_C_allLost : MethodName := ⟨R_C, "allLost", "()I"⟩
abbrev b_C_usedLocks : ByteArray := prog_3_method_21_code
def y_C_usedLocks : MethodName := ⟨R_C, "usedLocks", "()I"⟩
abbrev b_C_loudest : ByteArray := prog_3_method_23_code
def y_C_loudest : MethodName := ⟨R_C, "loudest", "()I"⟩
abbrev b_X_freight : ByteArray := prog_1_method_20_code
def y_X_freight : MethodName := ⟨R_X, "freight", "(II)I"⟩
abbrev b_X_triedFreight : ByteArray := prog_1_method_59_code
def y_X_triedFreight : MethodName := ⟨R_X, "triedFreight", "(II)I"⟩
abbrev b_X_lands : ByteArray := prog_1_method_21_code
def y_X_lands : MethodName := ⟨R_X, "lands", "(I)I"⟩
abbrev b_X_meets : ByteArray := prog_1_method_22_code
def y_X_meets : MethodName := ⟨R_X, "meets", "(II)I"⟩
abbrev b_X_quiet : ByteArray := prog_1_method_23_code
def y_X_quiet : MethodName := ⟨R_X, "quiet", "()I"⟩
abbrev b_X_cargo : ByteArray := prog_1_method_24_code
def y_X_cargo : MethodName := ⟨R_X, "cargo", "(I)I"⟩
abbrev b_X_stillFor : ByteArray := prog_1_method_25_code
def y_X_stillFor : MethodName := ⟨R_X, "stillFor", "(II)I"⟩
abbrev b_X_kindFor : ByteArray := prog_1_method_26_code
def y_X_kindFor : MethodName := ⟨R_X, "kindFor", "(II)I"⟩
abbrev b_X_loadFor : ByteArray := prog_1_method_27_code
def y_X_loadFor : MethodName := ⟨R_X, "loadFor", "(III)I"⟩
abbrev b_X_hushedFor : ByteArray := prog_1_method_28_code
def y_X_hushedFor : MethodName := ⟨R_X, "hushedFor", "(II)I"⟩
abbrev b_C_loudOnTheWay : ByteArray := prog_3_method_25_code
def y_C_loudOnTheWay : MethodName := ⟨R_C, "loudOnTheWay", "()I"⟩
abbrev b_JM_max : ByteArray := prog_10_method_65_code
def y_JM_max : MethodName := ⟨R_JM, "max", "(II)I"⟩
abbrev b_JI_bitCount : ByteArray := prog_9_method_49_code
def y_JI_bitCount : MethodName := ⟨R_JI, "bitCount", "(I)I"⟩
abbrev b_X_holdFor : ByteArray := prog_1_method_29_code
def y_X_holdFor : MethodName := ⟨R_X, "holdFor", "(I)I"⟩
abbrev b_X_fits : ByteArray := prog_1_method_30_code
def y_X_fits : MethodName := ⟨R_X, "fits", "(III)I"⟩
abbrev b_X_sheetAt : ByteArray := prog_1_method_56_code
def y_X_sheetAt : MethodName := ⟨R_X, "sheetAt", "(I)LSilenceCanal$Sheet;"⟩
abbrev b_X_loadFits : ByteArray := prog_1_method_61_code
def y_X_loadFits : MethodName := ⟨R_X, "loadFits", "(LSilenceCanal$Sheet;II)Z"⟩
abbrev b_X_odds : ByteArray := prog_1_method_31_code
def y_X_odds : MethodName := ⟨R_X, "odds", "(III)J"⟩
abbrev b_X_ways : ByteArray := prog_1_method_63_code
def y_X_ways : MethodName := ⟨R_X, "ways", "(II)J"⟩
abbrev b_X_partOf : ByteArray := prog_1_method_64_code
def y_X_partOf : MethodName := ⟨R_X, "partOf", "(JJI)J"⟩
abbrev b_X_hope : ByteArray := prog_1_method_32_code
def y_X_hope : MethodName := ⟨R_X, "hope", "(II)J"⟩
abbrev b_X_prove : ByteArray := prog_1_method_33_code
def y_X_prove : MethodName := ⟨R_X, "prove", "(II)I"⟩
abbrev b_X_triedRowPart : ByteArray := prog_1_method_62_code
def y_X_triedRowPart : MethodName := ⟨R_X, "triedRowPart", "(II)I"⟩
abbrev b_X_row : ByteArray := prog_1_method_34_code
def y_X_row : MethodName := ⟨R_X, "row", "(II)I"⟩
abbrev b_X_isRowPart : ByteArray := prog_1_method_53_code
def y_X_isRowPart : MethodName := ⟨R_X, "isRowPart", "(II)Z"⟩
abbrev b_X_alterRow : ByteArray := prog_1_method_35_code
def y_X_alterRow : MethodName := ⟨R_X, "alterRow", "(III)I"⟩
abbrev b_X_judge : ByteArray := prog_1_method_36_code
def y_X_judge : MethodName := ⟨R_X, "judge", "(I)I"⟩
abbrev b_X_minds : ByteArray := prog_1_method_37_code
def y_X_minds : MethodName := ⟨R_X, "minds", "(IIII)I"⟩
abbrev b_X_sheet : ByteArray := prog_1_method_38_code
def y_X_sheet : MethodName := ⟨R_X, "sheet", "(III)I"⟩
abbrev b_S_clearTo : ByteArray := prog_4_method_2_code
def y_S_clearTo : MethodName := ⟨R_S, "clearTo", "(II)V"⟩
abbrev b_X_put : ByteArray := prog_1_method_39_code
def y_X_put : MethodName := ⟨R_X, "put", "(III)I"⟩
abbrev b_S_hasItem : ByteArray := prog_4_method_3_code
def y_S_hasItem : MethodName := ⟨R_S, "hasItem", "(I)Z"⟩
abbrev b_S_narrowed : ByteArray := prog_4_method_4_code
def y_S_narrowed : MethodName := ⟨R_S, "narrowed", "(I)I"⟩
abbrev b_X_item : ByteArray := prog_1_method_40_code
def y_X_item : MethodName := ⟨R_X, "item", "(III)I"⟩
abbrev b_X_shelf : ByteArray := prog_1_method_41_code
def y_X_shelf : MethodName := ⟨R_X, "shelf", "(III)I"⟩
abbrev b_X_shelfAt : ByteArray := prog_1_method_57_code
def y_X_shelfAt : MethodName := ⟨R_X, "shelfAt", "(I)LSilenceCanal$Shelf;"⟩
abbrev b_H_clear : ByteArray := prog_5_method_2_code
def y_H_clear : MethodName := ⟨R_H, "clear", "()V"⟩
abbrev b_H_holdBarge : ByteArray := prog_5_method_3_code
def y_H_holdBarge : MethodName := ⟨R_H, "holdBarge", "(I)V"⟩
abbrev b_H_holdRow : ByteArray := prog_5_method_4_code
def y_H_holdRow : MethodName := ⟨R_H, "holdRow", "(II)V"⟩
abbrev b_X_taken : ByteArray := prog_1_method_42_code
def y_X_taken : MethodName := ⟨R_X, "taken", "(II)I"⟩
abbrev b_X_bargeOn : ByteArray := prog_1_method_58_code
def y_X_bargeOn : MethodName := ⟨R_X, "bargeOn", "(LSilenceCanal$Shelf;)I"⟩
abbrev b_X_isUnder : ByteArray := prog_1_method_55_code
def y_X_isUnder : MethodName := ⟨R_X, "isUnder", "(II)Z"⟩
abbrev b_X_act : ByteArray := prog_1_method_43_code
def y_X_act : MethodName := ⟨R_X, "act", "(III)I"⟩
abbrev b_A_perform : ByteArray := prog_2_method_2_code
def y_A_perform : MethodName := ⟨R_A, "perform", "(IIIII)I"⟩
abbrev b_A_bodyOf : ByteArray := prog_2_method_3_code
def y_A_bodyOf : MethodName := ⟨R_A, "bodyOf", "(I)I"⟩
abbrev b_A_run : ByteArray := prog_2_method_4_code
def y_A_run : MethodName := ⟨R_A, "run", "(III)I"⟩
abbrev b_A_partedBy : ByteArray := prog_2_method_5_code
def y_A_partedBy : MethodName := ⟨R_A, "partedBy", "(II)I"⟩
abbrev b_X_trace : ByteArray := prog_1_method_44_code
def y_X_trace : MethodName := ⟨R_X, "trace", "(I)I"⟩
abbrev b_X_many : ByteArray := prog_1_method_45_code
def y_X_many : MethodName := ⟨R_X, "many", "(I)I"⟩
abbrev b_C_locksWithLoss : ByteArray := prog_3_method_24_code
def y_C_locksWithLoss : MethodName := ⟨R_C, "locksWithLoss", "()I"⟩
abbrev b_X_keep : ByteArray := prog_1_method_46_code
def y_X_keep : MethodName := ⟨R_X, "keep", "()I"⟩
abbrev b_X_again : ByteArray := prog_1_method_47_code
def y_X_again : MethodName := ⟨R_X, "again", "()I"⟩
abbrev b_M_init : ByteArray := prog_8_method_1_code
def y_M_init : MethodName := ⟨R_M, "<init>", "()V"⟩
abbrev b_M_first : ByteArray := prog_8_method_2_code
def y_M_first : MethodName := ⟨R_M, "first", "()V"⟩
abbrev b_M_set : ByteArray := prog_8_method_26_code
def y_M_set : MethodName := ⟨R_M, "set", "(II)I"⟩
abbrev b_M_isLaw : ByteArray := prog_8_method_25_code
def y_M_isLaw : MethodName := ⟨R_M, "isLaw", "(II)Z"⟩
abbrev b_M_in : ByteArray := prog_8_method_4_code
def y_M_in : MethodName := ⟨R_M, "in", "(JJJ)Z"⟩
abbrev b_M_becomes : ByteArray := prog_8_method_10_code
def y_M_becomes : MethodName := ⟨R_M, "becomes", "(II)I"⟩
abbrev b_M_lawOf : ByteArray := prog_8_method_27_code
def y_M_lawOf : MethodName := ⟨R_M, "lawOf", "(I)I"⟩
abbrev b_M_barge : ByteArray := prog_8_method_29_code
def y_M_barge : MethodName := ⟨R_M, "barge", "(IIII)I"⟩
abbrev b_M_isLock : ByteArray := prog_8_method_7_code
def y_M_isLock : MethodName := ⟨R_M, "isLock", "(I)Z"⟩
abbrev b_M_comes : ByteArray := prog_8_method_28_code
def y_M_comes : MethodName := ⟨R_M, "comes", "(IIIII)I"⟩
abbrev b_M_puts : ByteArray := prog_8_method_9_code
def y_M_puts : MethodName := ⟨R_M, "puts", "(III)V"⟩
abbrev b_M_of : ByteArray := prog_8_method_30_code
def y_M_of : MethodName := ⟨R_M, "of", "(II)I"⟩
abbrev b_M_isBarge : ByteArray := prog_8_method_6_code
def y_M_isBarge : MethodName := ⟨R_M, "isBarge", "(I)Z"⟩
abbrev b_M_hasLanded : ByteArray := prog_8_method_16_code
def y_M_hasLanded : MethodName := ⟨R_M, "hasLanded", "(I)Z"⟩
abbrev b_M_get : ByteArray := prog_8_method_8_code
def y_M_get : MethodName := ⟨R_M, "get", "(II)I"⟩
abbrev b_M_does : ByteArray := prog_8_method_31_code
def y_M_does : MethodName := ⟨R_M, "does", "(II)I"⟩
abbrev b_M_pace : ByteArray := prog_8_method_14_code
def y_M_pace : MethodName := ⟨R_M, "pace", "(I)I"⟩
abbrev b_M_spills : ByteArray := prog_8_method_15_code
def y_M_spills : MethodName := ⟨R_M, "spills", "(I)I"⟩
abbrev b_M_mind : ByteArray := prog_8_method_32_code
def y_M_mind : MethodName := ⟨R_M, "mind", "(III)I"⟩
abbrev b_M_fill : ByteArray := prog_8_method_33_code
def y_M_fill : MethodName := ⟨R_M, "fill", "(II)I"⟩
abbrev b_M_bring : ByteArray := prog_8_method_34_code
def y_M_bring : MethodName := ⟨R_M, "bring", "(II)I"⟩
abbrev b_M_send : ByteArray := prog_8_method_35_code
def y_M_send : MethodName := ⟨R_M, "send", "(II)I"⟩
abbrev b_M_noise : ByteArray := prog_8_method_36_code
def y_M_noise : MethodName := ⟨R_M, "noise", "(II)I"⟩
abbrev b_M_lock : ByteArray := prog_8_method_37_code
def y_M_lock : MethodName := ⟨R_M, "lock", "(II)I"⟩
abbrev b_M_hours : ByteArray := prog_8_method_38_code
def y_M_hours : MethodName := ⟨R_M, "hours", "(I)I"⟩
abbrev b_M_hoursGo : ByteArray := prog_8_method_20_code
def y_M_hoursGo : MethodName := ⟨R_M, "hoursGo", "(I)V"⟩
abbrev b_M_hourGoes : ByteArray := prog_8_method_19_code
def y_M_hourGoes : MethodName := ⟨R_M, "hourGoes", "()V"⟩
abbrev b_M_goes : ByteArray := prog_8_method_18_code
def y_M_goes : MethodName := ⟨R_M, "goes", "(I)V"⟩
abbrev b_M_spilt : ByteArray := prog_8_method_17_code
def y_M_spilt : MethodName := ⟨R_M, "spilt", "(II)V"⟩
abbrev b_M_held : ByteArray := prog_8_method_5_code
def y_M_held : MethodName := ⟨R_M, "held", "(III)I"⟩
abbrev b_M_loads : ByteArray := prog_8_method_21_code
def y_M_loads : MethodName := ⟨R_M, "loads", "()I"⟩
abbrev b_M_seed : ByteArray := prog_8_method_39_code
def y_M_seed : MethodName := ⟨R_M, "seed", "(I)I"⟩
abbrev b_M_hour : ByteArray := prog_8_method_41_code
def y_M_hour : MethodName := ⟨R_M, "hour", "()I"⟩
abbrev b_M_drawn : ByteArray := prog_8_method_40_code
def y_M_drawn : MethodName := ⟨R_M, "drawn", "()I"⟩
abbrev b_M_spoilt : ByteArray := prog_8_method_42_code
def y_M_spoilt : MethodName := ⟨R_M, "spoilt", "(I)I"⟩
abbrev b_M_keepAside : ByteArray := prog_8_method_11_code
def y_M_keepAside : MethodName := ⟨R_M, "keepAside", "()V"⟩
abbrev b_M_cargoBehind : ByteArray := prog_8_method_46_code
def y_M_cargoBehind : MethodName := ⟨R_M, "cargoBehind", "(I)I"⟩
abbrev b_M_putBack : ByteArray := prog_8_method_12_code
def y_M_putBack : MethodName := ⟨R_M, "putBack", "()V"⟩
abbrev b_M_state : ByteArray := prog_8_method_44_code
def y_M_state : MethodName := ⟨R_M, "state", "(I)I"⟩
abbrev b_M_lostAll : ByteArray := prog_8_method_22_code
def y_M_lostAll : MethodName := ⟨R_M, "lostAll", "()I"⟩
abbrev b_M_landed : ByteArray := prog_8_method_23_code
def y_M_landed : MethodName := ⟨R_M, "landed", "()I"⟩
abbrev b_M_places : ByteArray := prog_8_method_24_code
def y_M_places : MethodName := ⟨R_M, "places", "()I"⟩
abbrev b_M_loudest : ByteArray := prog_8_method_43_code
def y_M_loudest : MethodName := ⟨R_M, "loudest", "()I"⟩
abbrev b_M_freight : ByteArray := prog_8_method_48_code
def y_M_freight : MethodName := ⟨R_M, "freight", "(II)I"⟩
abbrev b_M_loadOf : ByteArray := prog_8_method_47_code
def y_M_loadOf : MethodName := ⟨R_M, "loadOf", "(I)I"⟩
abbrev b_M_behind : ByteArray := prog_8_method_45_code
def y_M_behind : MethodName := ⟨R_M, "behind", "(II)I"⟩
abbrev b_M_lands : ByteArray := prog_8_method_49_code
def y_M_lands : MethodName := ⟨R_M, "lands", "(I)I"⟩
abbrev b_M_meets : ByteArray := prog_8_method_50_code
def y_M_meets : MethodName := ⟨R_M, "meets", "(II)I"⟩
abbrev b_M_quiet : ByteArray := prog_8_method_51_code
def y_M_quiet : MethodName := ⟨R_M, "quiet", "()I"⟩
abbrev b_M_cargo : ByteArray := prog_8_method_52_code
def y_M_cargo : MethodName := ⟨R_M, "cargo", "(I)I"⟩
abbrev b_M_stillFor : ByteArray := prog_8_method_54_code
def y_M_stillFor : MethodName := ⟨R_M, "stillFor", "(II)I"⟩
abbrev b_M_isShort : ByteArray := prog_8_method_53_code
def y_M_isShort : MethodName := ⟨R_M, "isShort", "(I)Z"⟩
abbrev b_M_kindFor : ByteArray := prog_8_method_55_code
def y_M_kindFor : MethodName := ⟨R_M, "kindFor", "(II)I"⟩
abbrev b_M_loadFor : ByteArray := prog_8_method_56_code
def y_M_loadFor : MethodName := ⟨R_M, "loadFor", "(III)I"⟩
abbrev b_M_hushedFor : ByteArray := prog_8_method_57_code
def y_M_hushedFor : MethodName := ⟨R_M, "hushedFor", "(II)I"⟩
abbrev b_M_bits : ByteArray := prog_8_method_13_code
def y_M_bits : MethodName := ⟨R_M, "bits", "(I)I"⟩
abbrev b_M_holdFor : ByteArray := prog_8_method_58_code
def y_M_holdFor : MethodName := ⟨R_M, "holdFor", "(I)I"⟩
abbrev b_M_fits : ByteArray := prog_8_method_59_code
def y_M_fits : MethodName := ⟨R_M, "fits", "(III)I"⟩
abbrev b_M_isSheet : ByteArray := prog_8_method_82_code
def y_M_isSheet : MethodName := ⟨R_M, "isSheet", "(I)Z"⟩
abbrev b_M_odds : ByteArray := prog_8_method_62_code
def y_M_odds : MethodName := ⟨R_M, "odds", "(III)J"⟩
abbrev b_M_ways : ByteArray := prog_8_method_63_code
def y_M_ways : MethodName := ⟨R_M, "ways", "(II)J"⟩
abbrev b_M_partOf : ByteArray := prog_8_method_61_code
def y_M_partOf : MethodName := ⟨R_M, "partOf", "(JJI)J"⟩
abbrev b_M_common : ByteArray := prog_8_method_60_code
def y_M_common : MethodName := ⟨R_M, "common", "(JJ)J"⟩
abbrev b_M_hope : ByteArray := prog_8_method_64_code
def y_M_hope : MethodName := ⟨R_M, "hope", "(II)J"⟩
abbrev b_M_feed : ByteArray := prog_8_method_65_code
def y_M_feed : MethodName := ⟨R_M, "feed", "(JI)I"⟩
abbrev b_M_canal : ByteArray := prog_8_method_76_code
def y_M_canal : MethodName := ⟨R_M, "canal", "()I"⟩
abbrev b_M_readsAll : ByteArray := prog_8_method_75_code
def y_M_readsAll : MethodName := ⟨R_M, "readsAll", "(Z)Z"⟩
abbrev b_M_next : ByteArray := prog_8_method_68_code
def y_M_next : MethodName := ⟨R_M, "next", "()V"⟩
abbrev b_M_isRow : ByteArray := prog_8_method_66_code
def y_M_isRow : MethodName := ⟨R_M, "isRow", "(CC)Z"⟩
abbrev b_M_wordThere : ByteArray := prog_8_method_67_code
def y_M_wordThere : MethodName := ⟨R_M, "wordThere", "()I"⟩
abbrev b_M_readsBarge : ByteArray := prog_8_method_72_code
def y_M_readsBarge : MethodName := ⟨R_M, "readsBarge", "(IIZ)Z"⟩
abbrev b_M_readsWord : ByteArray := prog_8_method_71_code
def y_M_readsWord : MethodName := ⟨R_M, "readsWord", "(I)Z"⟩
abbrev b_M_isWord : ByteArray := prog_8_method_69_code
def y_M_isWord : MethodName := ⟨R_M, "isWord", "(I)Z"⟩
abbrev b_M_reads : ByteArray := prog_8_method_70_code
def y_M_reads : MethodName := ⟨R_M, "reads", "(I)Z"⟩
abbrev b_M_readsNoise : ByteArray := prog_8_method_73_code
def y_M_readsNoise : MethodName := ⟨R_M, "readsNoise", "(Z)Z"⟩
abbrev b_M_readsLaw : ByteArray := prog_8_method_74_code
def y_M_readsLaw : MethodName := ⟨R_M, "readsLaw", "(IZ)Z"⟩
abbrev b_M_prove : ByteArray := prog_8_method_78_code
def y_M_prove : MethodName := ⟨R_M, "prove", "(II)I"⟩
abbrev b_M_mustBe : ByteArray := prog_8_method_77_code
def y_M_mustBe : MethodName := ⟨R_M, "mustBe", "(II)I"⟩
abbrev b_M_row : ByteArray := prog_8_method_79_code
def y_M_row : MethodName := ⟨R_M, "row", "(II)I"⟩
abbrev b_M_alterRow : ByteArray := prog_8_method_80_code
def y_M_alterRow : MethodName := ⟨R_M, "alterRow", "(III)I"⟩
abbrev b_M_judge : ByteArray := prog_8_method_81_code
def y_M_judge : MethodName := ⟨R_M, "judge", "(I)I"⟩
abbrev b_M_minds : ByteArray := prog_8_method_83_code
def y_M_minds : MethodName := ⟨R_M, "minds", "(IIII)I"⟩
abbrev b_M_sheet : ByteArray := prog_8_method_84_code
def y_M_sheet : MethodName := ⟨R_M, "sheet", "(III)I"⟩
abbrev b_M_put : ByteArray := prog_8_method_85_code
def y_M_put : MethodName := ⟨R_M, "put", "(III)I"⟩
abbrev b_M_item : ByteArray := prog_8_method_86_code
def y_M_item : MethodName := ⟨R_M, "item", "(III)I"⟩
abbrev b_M_shelf : ByteArray := prog_8_method_87_code
def y_M_shelf : MethodName := ⟨R_M, "shelf", "(III)I"⟩
abbrev b_M_taken : ByteArray := prog_8_method_90_code
def y_M_taken : MethodName := ⟨R_M, "taken", "(II)I"⟩
abbrev b_M_holdsNothing : ByteArray := prog_8_method_88_code
def y_M_holdsNothing : MethodName := ⟨R_M, "holdsNothing", "(I)Z"⟩
abbrev b_M_above : ByteArray := prog_8_method_89_code
def y_M_above : MethodName := ⟨R_M, "above", "(I)I"⟩
abbrev b_M_act : ByteArray := prog_8_method_96_code
def y_M_act : MethodName := ⟨R_M, "act", "(III)I"⟩
abbrev b_M_floatsBy : ByteArray := prog_8_method_92_code
def y_M_floatsBy : MethodName := ⟨R_M, "floatsBy", "(II)I"⟩
abbrev b_M_ran : ByteArray := prog_8_method_91_code
def y_M_ran : MethodName := ⟨R_M, "ran", "(I)V"⟩
abbrev b_M_slopsBy : ByteArray := prog_8_method_93_code
def y_M_slopsBy : MethodName := ⟨R_M, "slopsBy", "(II)I"⟩
abbrev b_M_partsBy : ByteArray := prog_8_method_94_code
def y_M_partsBy : MethodName := ⟨R_M, "partsBy", "(II)I"⟩
abbrev b_M_landsBy : ByteArray := prog_8_method_95_code
def y_M_landsBy : MethodName := ⟨R_M, "landsBy", "(II)I"⟩
abbrev b_M_trace : ByteArray := prog_8_method_97_code
def y_M_trace : MethodName := ⟨R_M, "trace", "(I)I"⟩
abbrev b_M_many : ByteArray := prog_8_method_99_code
def y_M_many : MethodName := ⟨R_M, "many", "(I)I"⟩
abbrev b_M_spoiltLocks : ByteArray := prog_8_method_98_code
def y_M_spoiltLocks : MethodName := ⟨R_M, "spoiltLocks", "()I"⟩
abbrev b_M_keep : ByteArray := prog_8_method_100_code
def y_M_keep : MethodName := ⟨R_M, "keep", "()I"⟩
abbrev b_M_again : ByteArray := prog_8_method_101_code
def y_M_again : MethodName := ⟨R_M, "again", "()I"⟩
