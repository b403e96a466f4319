section
-- ===== PART A: goes FIRST, ahead of the names: the tables' words, and 'selects' of the private methods out of them =====
/-- a private method of a class that the tables say can be made, by its rows of tables_1 -/
def lw_okq (q : MethodName × Nat) : Prop := (q.1.cls ≠ "java/lang/invoke/MethodHandle" ∧ q.1.cls ≠ "java/lang/invoke/VarHandle") ∧ Cond.instantiable q.1.cls q.2 ∈ tables_1 ∧ Cond.privateMethod q.1 ∈ tables_1 ∧ Cond.instanceMethod q.1 ∈ tables_1
theorem lw_p0 : lw_okq (⟨"SilenceCanal$Text", "step", "()V"⟩, 5) := ⟨⟨by decide +kernel, by decide +kernel⟩, List.mem_of_getElem? (i := 92) (by decide +kernel), List.mem_of_getElem? (i := 242) (by decide +kernel), List.mem_of_getElem? (i := 243) (by decide +kernel)⟩
theorem lw_p1 : lw_okq (⟨"SilenceCanal$Text", "byteAt", "(I)I"⟩, 5) := ⟨⟨by decide +kernel, by decide +kernel⟩, List.mem_of_getElem? (i := 92) (by decide +kernel), List.mem_of_getElem? (i := 246) (by decide +kernel), List.mem_of_getElem? (i := 247) (by decide +kernel)⟩
theorem lw_p2 : lw_okq (⟨"SilenceCanal$Text", "readLine", "(LSilenceCanal$Canal;)Z"⟩, 5) := ⟨⟨by decide +kernel, by decide +kernel⟩, List.mem_of_getElem? (i := 92) (by decide +kernel), List.mem_of_getElem? (i := 256) (by decide +kernel), List.mem_of_getElem? (i := 257) (by decide +kernel)⟩
theorem lw_p3 : lw_okq (⟨"SilenceCanal$Text", "isName", "(Ljava/lang/String;)Z"⟩, 5) := ⟨⟨by decide +kernel, by decide +kernel⟩, List.mem_of_getElem? (i := 92) (by decide +kernel), List.mem_of_getElem? (i := 269) (by decide +kernel), List.mem_of_getElem? (i := 270) (by decide +kernel)⟩
theorem lw_p4 : lw_okq (⟨"SilenceCanal$Text", "readBarge", "(LSilenceCanal$Canal;I)Z"⟩, 5) := ⟨⟨by decide +kernel, by decide +kernel⟩, List.mem_of_getElem? (i := 92) (by decide +kernel), List.mem_of_getElem? (i := 321) (by decide +kernel), List.mem_of_getElem? (i := 322) (by decide +kernel)⟩
theorem lw_p5 : lw_okq (⟨"SilenceCanal$Text", "takeName", "(Ljava/lang/String;)Z"⟩, 5) := ⟨⟨by decide +kernel, by decide +kernel⟩, List.mem_of_getElem? (i := 92) (by decide +kernel), List.mem_of_getElem? (i := 326) (by decide +kernel), List.mem_of_getElem? (i := 327) (by decide +kernel)⟩
theorem lw_p6 : lw_okq (⟨"SilenceCanal$Text", "takeNumber", "(I)I"⟩, 5) := ⟨⟨by decide +kernel, by decide +kernel⟩, List.mem_of_getElem? (i := 92) (by decide +kernel), List.mem_of_getElem? (i := 330) (by decide +kernel), List.mem_of_getElem? (i := 331) (by decide +kernel)⟩
theorem lw_p7 : lw_okq (⟨"SilenceCanal$Text", "takeEndOfLine", "()Z"⟩, 5) := ⟨⟨by decide +kernel, by decide +kernel⟩, List.mem_of_getElem? (i := 92) (by decide +kernel), List.mem_of_getElem? (i := 337) (by decide +kernel), List.mem_of_getElem? (i := 338) (by decide +kernel)⟩
theorem lw_p8 : lw_okq (⟨"SilenceCanal$Text", "readLaw", "(LSilenceCanal$Canal;I)Z"⟩, 5) := ⟨⟨by decide +kernel, by decide +kernel⟩, List.mem_of_getElem? (i := 92) (by decide +kernel), List.mem_of_getElem? (i := 352) (by decide +kernel), List.mem_of_getElem? (i := 353) (by decide +kernel)⟩
theorem lw_p9 : lw_okq (⟨"SilenceCanal$Text", "readNoise", "(LSilenceCanal$Canal;)Z"⟩, 5) := ⟨⟨by decide +kernel, by decide +kernel⟩, List.mem_of_getElem? (i := 92) (by decide +kernel), List.mem_of_getElem? (i := 362) (by decide +kernel), List.mem_of_getElem? (i := 363) (by decide +kernel)⟩
theorem lw_p10 : lw_okq (⟨"SilenceCanal", "isBarge", "(I)Z"⟩, 10) := ⟨⟨by decide +kernel, by decide +kernel⟩, List.mem_of_getElem? (i := 17) (by decide +kernel), List.mem_of_getElem? (i := 396) (by decide +kernel), List.mem_of_getElem? (i := 397) (by decide +kernel)⟩
theorem lw_p11 : lw_okq (⟨"SilenceCanal$Canal", "goOn", "(I)V"⟩, 12) := ⟨⟨by decide +kernel, by decide +kernel⟩, List.mem_of_getElem? (i := 25) (by decide +kernel), List.mem_of_getElem? (i := 470) (by decide +kernel), List.mem_of_getElem? (i := 471) (by decide +kernel)⟩
theorem lw_p12 : lw_okq (⟨"SilenceCanal$Canal", "spill", "(III)V"⟩, 12) := ⟨⟨by decide +kernel, by decide +kernel⟩, List.mem_of_getElem? (i := 25) (by decide +kernel), List.mem_of_getElem? (i := 477) (by decide +kernel), List.mem_of_getElem? (i := 478) (by decide +kernel)⟩
theorem lw_p13 : lw_okq (⟨"SilenceCanal$Canal", "echoWithOthers", "(I)V"⟩, 12) := ⟨⟨by decide +kernel, by decide +kernel⟩, List.mem_of_getElem? (i := 25) (by decide +kernel), List.mem_of_getElem? (i := 487) (by decide +kernel), List.mem_of_getElem? (i := 488) (by decide +kernel)⟩
theorem lw_p14 : lw_okq (⟨"SilenceCanal$Canal", "draw", "()I"⟩, 12) := ⟨⟨by decide +kernel, by decide +kernel⟩, List.mem_of_getElem? (i := 25) (by decide +kernel), List.mem_of_getElem? (i := 507) (by decide +kernel), List.mem_of_getElem? (i := 508) (by decide +kernel)⟩
theorem lw_p15 : lw_okq (⟨"SilenceCanal", "triedCargo", "(III)I"⟩, 10) := ⟨⟨by decide +kernel, by decide +kernel⟩, List.mem_of_getElem? (i := 17) (by decide +kernel), List.mem_of_getElem? (i := 516) (by decide +kernel), List.mem_of_getElem? (i := 517) (by decide +kernel)⟩
def lw_privs_1 : List (MethodName × Nat) := [(⟨"SilenceCanal$Text", "step", "()V"⟩, 5), (⟨"SilenceCanal$Text", "byteAt", "(I)I"⟩, 5), (⟨"SilenceCanal$Text", "readLine", "(LSilenceCanal$Canal;)Z"⟩, 5), (⟨"SilenceCanal$Text", "isName", "(Ljava/lang/String;)Z"⟩, 5), (⟨"SilenceCanal$Text", "readBarge", "(LSilenceCanal$Canal;I)Z"⟩, 5), (⟨"SilenceCanal$Text", "takeName", "(Ljava/lang/String;)Z"⟩, 5), (⟨"SilenceCanal$Text", "takeNumber", "(I)I"⟩, 5), (⟨"SilenceCanal$Text", "takeEndOfLine", "()Z"⟩, 5), (⟨"SilenceCanal$Text", "readLaw", "(LSilenceCanal$Canal;I)Z"⟩, 5), (⟨"SilenceCanal$Text", "readNoise", "(LSilenceCanal$Canal;)Z"⟩, 5), (⟨"SilenceCanal", "isBarge", "(I)Z"⟩, 10), (⟨"SilenceCanal$Canal", "goOn", "(I)V"⟩, 12), (⟨"SilenceCanal$Canal", "spill", "(III)V"⟩, 12), (⟨"SilenceCanal$Canal", "echoWithOthers", "(I)V"⟩, 12), (⟨"SilenceCanal$Canal", "draw", "()I"⟩, 12), (⟨"SilenceCanal", "triedCargo", "(III)I"⟩, 10)]
theorem lw_r1 : ∀ q ∈ lw_privs_1, lw_okq q := List.forall_mem_cons.mpr ⟨lw_p0, List.forall_mem_cons.mpr ⟨lw_p1, List.forall_mem_cons.mpr ⟨lw_p2, List.forall_mem_cons.mpr ⟨lw_p3, List.forall_mem_cons.mpr ⟨lw_p4, List.forall_mem_cons.mpr ⟨lw_p5, List.forall_mem_cons.mpr ⟨lw_p6, List.forall_mem_cons.mpr ⟨lw_p7, List.forall_mem_cons.mpr ⟨lw_p8, List.forall_mem_cons.mpr ⟨lw_p9, List.forall_mem_cons.mpr ⟨lw_p10, List.forall_mem_cons.mpr ⟨lw_p11, List.forall_mem_cons.mpr ⟨lw_p12, List.forall_mem_cons.mpr ⟨lw_p13, List.forall_mem_cons.mpr ⟨lw_p14, List.forall_mem_cons.mpr ⟨lw_p15, fun _ h => absurd h List.not_mem_nil⟩⟩⟩⟩⟩⟩⟩⟩⟩⟩⟩⟩⟩⟩⟩⟩
theorem lw_p16 : lw_okq (⟨"SilenceCanal", "triedFreight", "(II)I"⟩, 10) := ⟨⟨by decide +kernel, by decide +kernel⟩, List.mem_of_getElem? (i := 17) (by decide +kernel), List.mem_of_getElem? (i := 545) (by decide +kernel), List.mem_of_getElem? (i := 546) (by decide +kernel)⟩
theorem lw_p17 : lw_okq (⟨"SilenceCanal", "sheetAt", "(I)LSilenceCanal$Sheet;"⟩, 10) := ⟨⟨by decide +kernel, by decide +kernel⟩, List.mem_of_getElem? (i := 17) (by decide +kernel), List.mem_of_getElem? (i := 604) (by decide +kernel), List.mem_of_getElem? (i := 605) (by decide +kernel)⟩
theorem lw_p18 : lw_okq (⟨"SilenceCanal", "loadFits", "(LSilenceCanal$Sheet;II)Z"⟩, 10) := ⟨⟨by decide +kernel, by decide +kernel⟩, List.mem_of_getElem? (i := 17) (by decide +kernel), List.mem_of_getElem? (i := 608) (by decide +kernel), List.mem_of_getElem? (i := 609) (by decide +kernel)⟩
theorem lw_p19 : lw_okq (⟨"SilenceCanal", "triedRowPart", "(II)I"⟩, 10) := ⟨⟨by decide +kernel, by decide +kernel⟩, List.mem_of_getElem? (i := 17) (by decide +kernel), List.mem_of_getElem? (i := 632) (by decide +kernel), List.mem_of_getElem? (i := 633) (by decide +kernel)⟩
theorem lw_p20 : lw_okq (⟨"SilenceCanal", "isRowPart", "(II)Z"⟩, 10) := ⟨⟨by decide +kernel, by decide +kernel⟩, List.mem_of_getElem? (i := 17) (by decide +kernel), List.mem_of_getElem? (i := 640) (by decide +kernel), List.mem_of_getElem? (i := 641) (by decide +kernel)⟩
theorem lw_p21 : lw_okq (⟨"SilenceCanal", "shelfAt", "(I)LSilenceCanal$Shelf;"⟩, 10) := ⟨⟨by decide +kernel, by decide +kernel⟩, List.mem_of_getElem? (i := 17) (by decide +kernel), List.mem_of_getElem? (i := 686) (by decide +kernel), List.mem_of_getElem? (i := 687) (by decide +kernel)⟩
theorem lw_p22 : lw_okq (⟨"SilenceCanal", "bargeOn", "(LSilenceCanal$Shelf;)I"⟩, 10) := ⟨⟨by decide +kernel, by decide +kernel⟩, List.mem_of_getElem? (i := 17) (by decide +kernel), List.mem_of_getElem? (i := 706) (by decide +kernel), List.mem_of_getElem? (i := 707) (by decide +kernel)⟩
theorem lw_p23 : lw_okq (⟨"SilenceCanal$Acts", "bodyOf", "(I)I"⟩, 6) := ⟨⟨by decide +kernel, by decide +kernel⟩, List.mem_of_getElem? (i := 120) (by decide +kernel), List.mem_of_getElem? (i := 723) (by decide +kernel), List.mem_of_getElem? (i := 724) (by decide +kernel)⟩
theorem lw_p24 : lw_okq (⟨"SilenceCanal$Acts", "run", "(III)I"⟩, 6) := ⟨⟨by decide +kernel, by decide +kernel⟩, List.mem_of_getElem? (i := 120) (by decide +kernel), List.mem_of_getElem? (i := 729) (by decide +kernel), List.mem_of_getElem? (i := 730) (by decide +kernel)⟩
theorem lw_p25 : lw_okq (⟨"SilenceCanal$Acts", "partedBy", "(II)I"⟩, 6) := ⟨⟨by decide +kernel, by decide +kernel⟩, List.mem_of_getElem? (i := 120) (by decide +kernel), List.mem_of_getElem? (i := 733) (by decide +kernel), List.mem_of_getElem? (i := 734) (by decide +kernel)⟩
theorem lw_p26 : lw_okq (⟨"SilenceCanalModel", "first", "()V"⟩, 25) := ⟨⟨by decide +kernel, by decide +kernel⟩, List.mem_of_getElem? (i := 757) (by decide +kernel), List.mem_of_getElem? (i := 763) (by decide +kernel), List.mem_of_getElem? (i := 764) (by decide +kernel)⟩
theorem lw_p27 : lw_okq (⟨"SilenceCanalModel", "becomes", "(II)I"⟩, 25) := ⟨⟨by decide +kernel, by decide +kernel⟩, List.mem_of_getElem? (i := 757) (by decide +kernel), List.mem_of_getElem? (i := 858) (by decide +kernel), List.mem_of_getElem? (i := 859) (by decide +kernel)⟩
theorem lw_p28 : lw_okq (⟨"SilenceCanalModel", "comes", "(IIIII)I"⟩, 25) := ⟨⟨by decide +kernel, by decide +kernel⟩, List.mem_of_getElem? (i := 757) (by decide +kernel), List.mem_of_getElem? (i := 874) (by decide +kernel), List.mem_of_getElem? (i := 875) (by decide +kernel)⟩
theorem lw_p29 : lw_okq (⟨"SilenceCanalModel", "puts", "(III)V"⟩, 25) := ⟨⟨by decide +kernel, by decide +kernel⟩, List.mem_of_getElem? (i := 757) (by decide +kernel), List.mem_of_getElem? (i := 878) (by decide +kernel), List.mem_of_getElem? (i := 879) (by decide +kernel)⟩
theorem lw_p30 : lw_okq (⟨"SilenceCanalModel", "isBarge", "(I)Z"⟩, 25) := ⟨⟨by decide +kernel, by decide +kernel⟩, List.mem_of_getElem? (i := 757) (by decide +kernel), List.mem_of_getElem? (i := 886) (by decide +kernel), List.mem_of_getElem? (i := 887) (by decide +kernel)⟩
theorem lw_p31 : lw_okq (⟨"SilenceCanalModel", "hasLanded", "(I)Z"⟩, 25) := ⟨⟨by decide +kernel, by decide +kernel⟩, List.mem_of_getElem? (i := 757) (by decide +kernel), List.mem_of_getElem? (i := 890) (by decide +kernel), List.mem_of_getElem? (i := 891) (by decide +kernel)⟩
def lw_privs_2 : List (MethodName × Nat) := [(⟨"SilenceCanal", "triedFreight", "(II)I"⟩, 10), (⟨"SilenceCanal", "sheetAt", "(I)LSilenceCanal$Sheet;"⟩, 10), (⟨"SilenceCanal", "loadFits", "(LSilenceCanal$Sheet;II)Z"⟩, 10), (⟨"SilenceCanal", "triedRowPart", "(II)I"⟩, 10), (⟨"SilenceCanal", "isRowPart", "(II)Z"⟩, 10), (⟨"SilenceCanal", "shelfAt", "(I)LSilenceCanal$Shelf;"⟩, 10), (⟨"SilenceCanal", "bargeOn", "(LSilenceCanal$Shelf;)I"⟩, 10), (⟨"SilenceCanal$Acts", "bodyOf", "(I)I"⟩, 6), (⟨"SilenceCanal$Acts", "run", "(III)I"⟩, 6), (⟨"SilenceCanal$Acts", "partedBy", "(II)I"⟩, 6), (⟨"SilenceCanalModel", "first", "()V"⟩, 25), (⟨"SilenceCanalModel", "becomes", "(II)I"⟩, 25), (⟨"SilenceCanalModel", "comes", "(IIIII)I"⟩, 25), (⟨"SilenceCanalModel", "puts", "(III)V"⟩, 25), (⟨"SilenceCanalModel", "isBarge", "(I)Z"⟩, 25), (⟨"SilenceCanalModel", "hasLanded", "(I)Z"⟩, 25)]
theorem lw_r2 : ∀ q ∈ lw_privs_2, lw_okq q := List.forall_mem_cons.mpr ⟨lw_p16, List.forall_mem_cons.mpr ⟨lw_p17, List.forall_mem_cons.mpr ⟨lw_p18, List.forall_mem_cons.mpr ⟨lw_p19, List.forall_mem_cons.mpr ⟨lw_p20, List.forall_mem_cons.mpr ⟨lw_p21, List.forall_mem_cons.mpr ⟨lw_p22, List.forall_mem_cons.mpr ⟨lw_p23, List.forall_mem_cons.mpr ⟨lw_p24, List.forall_mem_cons.mpr ⟨lw_p25, List.forall_mem_cons.mpr ⟨lw_p26, List.forall_mem_cons.mpr ⟨lw_p27, List.forall_mem_cons.mpr ⟨lw_p28, List.forall_mem_cons.mpr ⟨lw_p29, List.forall_mem_cons.mpr ⟨lw_p30, List.forall_mem_cons.mpr ⟨lw_p31, fun _ h => absurd h List.not_mem_nil⟩⟩⟩⟩⟩⟩⟩⟩⟩⟩⟩⟩⟩⟩⟩⟩
theorem lw_p32 : lw_okq (⟨"SilenceCanalModel", "get", "(II)I"⟩, 25) := ⟨⟨by decide +kernel, by decide +kernel⟩, List.mem_of_getElem? (i := 757) (by decide +kernel), List.mem_of_getElem? (i := 894) (by decide +kernel), List.mem_of_getElem? (i := 895) (by decide +kernel)⟩
theorem lw_p33 : lw_okq (⟨"SilenceCanalModel", "pace", "(I)I"⟩, 25) := ⟨⟨by decide +kernel, by decide +kernel⟩, List.mem_of_getElem? (i := 757) (by decide +kernel), List.mem_of_getElem? (i := 902) (by decide +kernel), List.mem_of_getElem? (i := 903) (by decide +kernel)⟩
theorem lw_p34 : lw_okq (⟨"SilenceCanalModel", "spills", "(I)I"⟩, 25) := ⟨⟨by decide +kernel, by decide +kernel⟩, List.mem_of_getElem? (i := 757) (by decide +kernel), List.mem_of_getElem? (i := 906) (by decide +kernel), List.mem_of_getElem? (i := 907) (by decide +kernel)⟩
theorem lw_p35 : lw_okq (⟨"SilenceCanalModel", "hoursGo", "(I)V"⟩, 25) := ⟨⟨by decide +kernel, by decide +kernel⟩, List.mem_of_getElem? (i := 757) (by decide +kernel), List.mem_of_getElem? (i := 940) (by decide +kernel), List.mem_of_getElem? (i := 941) (by decide +kernel)⟩
theorem lw_p36 : lw_okq (⟨"SilenceCanalModel", "hourGoes", "()V"⟩, 25) := ⟨⟨by decide +kernel, by decide +kernel⟩, List.mem_of_getElem? (i := 757) (by decide +kernel), List.mem_of_getElem? (i := 944) (by decide +kernel), List.mem_of_getElem? (i := 945) (by decide +kernel)⟩
theorem lw_p37 : lw_okq (⟨"SilenceCanalModel", "goes", "(I)V"⟩, 25) := ⟨⟨by decide +kernel, by decide +kernel⟩, List.mem_of_getElem? (i := 757) (by decide +kernel), List.mem_of_getElem? (i := 948) (by decide +kernel), List.mem_of_getElem? (i := 949) (by decide +kernel)⟩
theorem lw_p38 : lw_okq (⟨"SilenceCanalModel", "spilt", "(II)V"⟩, 25) := ⟨⟨by decide +kernel, by decide +kernel⟩, List.mem_of_getElem? (i := 757) (by decide +kernel), List.mem_of_getElem? (i := 952) (by decide +kernel), List.mem_of_getElem? (i := 953) (by decide +kernel)⟩
theorem lw_p39 : lw_okq (⟨"SilenceCanalModel", "loads", "()I"⟩, 25) := ⟨⟨by decide +kernel, by decide +kernel⟩, List.mem_of_getElem? (i := 757) (by decide +kernel), List.mem_of_getElem? (i := 959) (by decide +kernel), List.mem_of_getElem? (i := 960) (by decide +kernel)⟩
theorem lw_p40 : lw_okq (⟨"SilenceCanalModel", "drawn", "()I"⟩, 25) := ⟨⟨by decide +kernel, by decide +kernel⟩, List.mem_of_getElem? (i := 757) (by decide +kernel), List.mem_of_getElem? (i := 971) (by decide +kernel), List.mem_of_getElem? (i := 972) (by decide +kernel)⟩
theorem lw_p41 : lw_okq (⟨"SilenceCanalModel", "keepAside", "()V"⟩, 25) := ⟨⟨by decide +kernel, by decide +kernel⟩, List.mem_of_getElem? (i := 757) (by decide +kernel), List.mem_of_getElem? (i := 981) (by decide +kernel), List.mem_of_getElem? (i := 982) (by decide +kernel)⟩
theorem lw_p42 : lw_okq (⟨"SilenceCanalModel", "cargoBehind", "(I)I"⟩, 25) := ⟨⟨by decide +kernel, by decide +kernel⟩, List.mem_of_getElem? (i := 757) (by decide +kernel), List.mem_of_getElem? (i := 985) (by decide +kernel), List.mem_of_getElem? (i := 986) (by decide +kernel)⟩
theorem lw_p43 : lw_okq (⟨"SilenceCanalModel", "putBack", "()V"⟩, 25) := ⟨⟨by decide +kernel, by decide +kernel⟩, List.mem_of_getElem? (i := 757) (by decide +kernel), List.mem_of_getElem? (i := 989) (by decide +kernel), List.mem_of_getElem? (i := 990) (by decide +kernel)⟩
theorem lw_p44 : lw_okq (⟨"SilenceCanalModel", "lostAll", "()I"⟩, 25) := ⟨⟨by decide +kernel, by decide +kernel⟩, List.mem_of_getElem? (i := 757) (by decide +kernel), List.mem_of_getElem? (i := 998) (by decide +kernel), List.mem_of_getElem? (i := 999) (by decide +kernel)⟩
theorem lw_p45 : lw_okq (⟨"SilenceCanalModel", "landed", "()I"⟩, 25) := ⟨⟨by decide +kernel, by decide +kernel⟩, List.mem_of_getElem? (i := 757) (by decide +kernel), List.mem_of_getElem? (i := 1002) (by decide +kernel), List.mem_of_getElem? (i := 1003) (by decide +kernel)⟩
theorem lw_p46 : lw_okq (⟨"SilenceCanalModel", "places", "()I"⟩, 25) := ⟨⟨by decide +kernel, by decide +kernel⟩, List.mem_of_getElem? (i := 757) (by decide +kernel), List.mem_of_getElem? (i := 1006) (by decide +kernel), List.mem_of_getElem? (i := 1007) (by decide +kernel)⟩
theorem lw_p47 : lw_okq (⟨"SilenceCanalModel", "loudest", "()I"⟩, 25) := ⟨⟨by decide +kernel, by decide +kernel⟩, List.mem_of_getElem? (i := 757) (by decide +kernel), List.mem_of_getElem? (i := 1010) (by decide +kernel), List.mem_of_getElem? (i := 1011) (by decide +kernel)⟩
def lw_privs_3 : List (MethodName × Nat) := [(⟨"SilenceCanalModel", "get", "(II)I"⟩, 25), (⟨"SilenceCanalModel", "pace", "(I)I"⟩, 25), (⟨"SilenceCanalModel", "spills", "(I)I"⟩, 25), (⟨"SilenceCanalModel", "hoursGo", "(I)V"⟩, 25), (⟨"SilenceCanalModel", "hourGoes", "()V"⟩, 25), (⟨"SilenceCanalModel", "goes", "(I)V"⟩, 25), (⟨"SilenceCanalModel", "spilt", "(II)V"⟩, 25), (⟨"SilenceCanalModel", "loads", "()I"⟩, 25), (⟨"SilenceCanalModel", "drawn", "()I"⟩, 25), (⟨"SilenceCanalModel", "keepAside", "()V"⟩, 25), (⟨"SilenceCanalModel", "cargoBehind", "(I)I"⟩, 25), (⟨"SilenceCanalModel", "putBack", "()V"⟩, 25), (⟨"SilenceCanalModel", "lostAll", "()I"⟩, 25), (⟨"SilenceCanalModel", "landed", "()I"⟩, 25), (⟨"SilenceCanalModel", "places", "()I"⟩, 25), (⟨"SilenceCanalModel", "loudest", "()I"⟩, 25)]
theorem lw_r3 : ∀ q ∈ lw_privs_3, lw_okq q := List.forall_mem_cons.mpr ⟨lw_p32, List.forall_mem_cons.mpr ⟨lw_p33, List.forall_mem_cons.mpr ⟨lw_p34, List.forall_mem_cons.mpr ⟨lw_p35, List.forall_mem_cons.mpr ⟨lw_p36, List.forall_mem_cons.mpr ⟨lw_p37, List.forall_mem_cons.mpr ⟨lw_p38, List.forall_mem_cons.mpr ⟨lw_p39, List.forall_mem_cons.mpr ⟨lw_p40, List.forall_mem_cons.mpr ⟨lw_p41, List.forall_mem_cons.mpr ⟨lw_p42, List.forall_mem_cons.mpr ⟨lw_p43, List.forall_mem_cons.mpr ⟨lw_p44, List.forall_mem_cons.mpr ⟨lw_p45, List.forall_mem_cons.mpr ⟨lw_p46, List.forall_mem_cons.mpr ⟨lw_p47, fun _ h => absurd h List.not_mem_nil⟩⟩⟩⟩⟩⟩⟩⟩⟩⟩⟩⟩⟩⟩⟩⟩
theorem lw_p48 : lw_okq (⟨"SilenceCanalModel", "behind", "(II)I"⟩, 25) := ⟨⟨by decide +kernel, by decide +kernel⟩, List.mem_of_getElem? (i := 757) (by decide +kernel), List.mem_of_getElem? (i := 1021) (by decide +kernel), List.mem_of_getElem? (i := 1022) (by decide +kernel)⟩
theorem lw_p49 : lw_okq (⟨"SilenceCanalModel", "readsAll", "(Z)Z"⟩, 25) := ⟨⟨by decide +kernel, by decide +kernel⟩, List.mem_of_getElem? (i := 757) (by decide +kernel), List.mem_of_getElem? (i := 1105) (by decide +kernel), List.mem_of_getElem? (i := 1106) (by decide +kernel)⟩
theorem lw_p50 : lw_okq (⟨"SilenceCanalModel", "next", "()V"⟩, 25) := ⟨⟨by decide +kernel, by decide +kernel⟩, List.mem_of_getElem? (i := 757) (by decide +kernel), List.mem_of_getElem? (i := 1109) (by decide +kernel), List.mem_of_getElem? (i := 1110) (by decide +kernel)⟩
theorem lw_p51 : lw_okq (⟨"SilenceCanalModel", "isRow", "(CC)Z"⟩, 25) := ⟨⟨by decide +kernel, by decide +kernel⟩, List.mem_of_getElem? (i := 757) (by decide +kernel), List.mem_of_getElem? (i := 1113) (by decide +kernel), List.mem_of_getElem? (i := 1114) (by decide +kernel)⟩
theorem lw_p52 : lw_okq (⟨"SilenceCanalModel", "wordThere", "()I"⟩, 25) := ⟨⟨by decide +kernel, by decide +kernel⟩, List.mem_of_getElem? (i := 757) (by decide +kernel), List.mem_of_getElem? (i := 1117) (by decide +kernel), List.mem_of_getElem? (i := 1118) (by decide +kernel)⟩
theorem lw_p53 : lw_okq (⟨"SilenceCanalModel", "readsBarge", "(IIZ)Z"⟩, 25) := ⟨⟨by decide +kernel, by decide +kernel⟩, List.mem_of_getElem? (i := 757) (by decide +kernel), List.mem_of_getElem? (i := 1121) (by decide +kernel), List.mem_of_getElem? (i := 1122) (by decide +kernel)⟩
theorem lw_p54 : lw_okq (⟨"SilenceCanalModel", "readsWord", "(I)Z"⟩, 25) := ⟨⟨by decide +kernel, by decide +kernel⟩, List.mem_of_getElem? (i := 757) (by decide +kernel), List.mem_of_getElem? (i := 1125) (by decide +kernel), List.mem_of_getElem? (i := 1126) (by decide +kernel)⟩
theorem lw_p55 : lw_okq (⟨"SilenceCanalModel", "isWord", "(I)Z"⟩, 25) := ⟨⟨by decide +kernel, by decide +kernel⟩, List.mem_of_getElem? (i := 757) (by decide +kernel), List.mem_of_getElem? (i := 1129) (by decide +kernel), List.mem_of_getElem? (i := 1130) (by decide +kernel)⟩
theorem lw_p56 : lw_okq (⟨"SilenceCanalModel", "reads", "(I)Z"⟩, 25) := ⟨⟨by decide +kernel, by decide +kernel⟩, List.mem_of_getElem? (i := 757) (by decide +kernel), List.mem_of_getElem? (i := 1133) (by decide +kernel), List.mem_of_getElem? (i := 1134) (by decide +kernel)⟩
theorem lw_p57 : lw_okq (⟨"SilenceCanalModel", "readsNoise", "(Z)Z"⟩, 25) := ⟨⟨by decide +kernel, by decide +kernel⟩, List.mem_of_getElem? (i := 757) (by decide +kernel), List.mem_of_getElem? (i := 1137) (by decide +kernel), List.mem_of_getElem? (i := 1138) (by decide +kernel)⟩
theorem lw_p58 : lw_okq (⟨"SilenceCanalModel", "readsLaw", "(IZ)Z"⟩, 25) := ⟨⟨by decide +kernel, by decide +kernel⟩, List.mem_of_getElem? (i := 757) (by decide +kernel), List.mem_of_getElem? (i := 1141) (by decide +kernel), List.mem_of_getElem? (i := 1142) (by decide +kernel)⟩
theorem lw_p59 : lw_okq (⟨"SilenceCanalModel", "mustBe", "(II)I"⟩, 25) := ⟨⟨by decide +kernel, by decide +kernel⟩, List.mem_of_getElem? (i := 757) (by decide +kernel), List.mem_of_getElem? (i := 1150) (by decide +kernel), List.mem_of_getElem? (i := 1151) (by decide +kernel)⟩
theorem lw_p60 : lw_okq (⟨"SilenceCanalModel", "holdsNothing", "(I)Z"⟩, 25) := ⟨⟨by decide +kernel, by decide +kernel⟩, List.mem_of_getElem? (i := 757) (by decide +kernel), List.mem_of_getElem? (i := 1191) (by decide +kernel), List.mem_of_getElem? (i := 1192) (by decide +kernel)⟩
theorem lw_p61 : lw_okq (⟨"SilenceCanalModel", "floatsBy", "(II)I"⟩, 25) := ⟨⟨by decide +kernel, by decide +kernel⟩, List.mem_of_getElem? (i := 757) (by decide +kernel), List.mem_of_getElem? (i := 1202) (by decide +kernel), List.mem_of_getElem? (i := 1203) (by decide +kernel)⟩
theorem lw_p62 : lw_okq (⟨"SilenceCanalModel", "ran", "(I)V"⟩, 25) := ⟨⟨by decide +kernel, by decide +kernel⟩, List.mem_of_getElem? (i := 757) (by decide +kernel), List.mem_of_getElem? (i := 1206) (by decide +kernel), List.mem_of_getElem? (i := 1207) (by decide +kernel)⟩
theorem lw_p63 : lw_okq (⟨"SilenceCanalModel", "slopsBy", "(II)I"⟩, 25) := ⟨⟨by decide +kernel, by decide +kernel⟩, List.mem_of_getElem? (i := 757) (by decide +kernel), List.mem_of_getElem? (i := 1210) (by decide +kernel), List.mem_of_getElem? (i := 1211) (by decide +kernel)⟩
def lw_privs_4 : List (MethodName × Nat) := [(⟨"SilenceCanalModel", "behind", "(II)I"⟩, 25), (⟨"SilenceCanalModel", "readsAll", "(Z)Z"⟩, 25), (⟨"SilenceCanalModel", "next", "()V"⟩, 25), (⟨"SilenceCanalModel", "isRow", "(CC)Z"⟩, 25), (⟨"SilenceCanalModel", "wordThere", "()I"⟩, 25), (⟨"SilenceCanalModel", "readsBarge", "(IIZ)Z"⟩, 25), (⟨"SilenceCanalModel", "readsWord", "(I)Z"⟩, 25), (⟨"SilenceCanalModel", "isWord", "(I)Z"⟩, 25), (⟨"SilenceCanalModel", "reads", "(I)Z"⟩, 25), (⟨"SilenceCanalModel", "readsNoise", "(Z)Z"⟩, 25), (⟨"SilenceCanalModel", "readsLaw", "(IZ)Z"⟩, 25), (⟨"SilenceCanalModel", "mustBe", "(II)I"⟩, 25), (⟨"SilenceCanalModel", "holdsNothing", "(I)Z"⟩, 25), (⟨"SilenceCanalModel", "floatsBy", "(II)I"⟩, 25), (⟨"SilenceCanalModel", "ran", "(I)V"⟩, 25), (⟨"SilenceCanalModel", "slopsBy", "(II)I"⟩, 25)]
theorem lw_r4 : ∀ q ∈ lw_privs_4, lw_okq q := List.forall_mem_cons.mpr ⟨lw_p48, List.forall_mem_cons.mpr ⟨lw_p49, List.forall_mem_cons.mpr ⟨lw_p50, List.forall_mem_cons.mpr ⟨lw_p51, List.forall_mem_cons.mpr ⟨lw_p52, List.forall_mem_cons.mpr ⟨lw_p53, List.forall_mem_cons.mpr ⟨lw_p54, List.forall_mem_cons.mpr ⟨lw_p55, List.forall_mem_cons.mpr ⟨lw_p56, List.forall_mem_cons.mpr ⟨lw_p57, List.forall_mem_cons.mpr ⟨lw_p58, List.forall_mem_cons.mpr ⟨lw_p59, List.forall_mem_cons.mpr ⟨lw_p60, List.forall_mem_cons.mpr ⟨lw_p61, List.forall_mem_cons.mpr ⟨lw_p62, List.forall_mem_cons.mpr ⟨lw_p63, fun _ h => absurd h List.not_mem_nil⟩⟩⟩⟩⟩⟩⟩⟩⟩⟩⟩⟩⟩⟩⟩⟩
theorem lw_p64 : lw_okq (⟨"SilenceCanalModel", "partsBy", "(II)I"⟩, 25) := ⟨⟨by decide +kernel, by decide +kernel⟩, List.mem_of_getElem? (i := 757) (by decide +kernel), List.mem_of_getElem? (i := 1214) (by decide +kernel), List.mem_of_getElem? (i := 1215) (by decide +kernel)⟩
theorem lw_p65 : lw_okq (⟨"SilenceCanalModel", "landsBy", "(II)I"⟩, 25) := ⟨⟨by decide +kernel, by decide +kernel⟩, List.mem_of_getElem? (i := 757) (by decide +kernel), List.mem_of_getElem? (i := 1218) (by decide +kernel), List.mem_of_getElem? (i := 1219) (by decide +kernel)⟩
theorem lw_p66 : lw_okq (⟨"SilenceCanalModel", "spoiltLocks", "()I"⟩, 25) := ⟨⟨by decide +kernel, by decide +kernel⟩, List.mem_of_getElem? (i := 757) (by decide +kernel), List.mem_of_getElem? (i := 1230) (by decide +kernel), List.mem_of_getElem? (i := 1231) (by decide +kernel)⟩
def lw_privs_5 : List (MethodName × Nat) := [(⟨"SilenceCanalModel", "partsBy", "(II)I"⟩, 25), (⟨"SilenceCanalModel", "landsBy", "(II)I"⟩, 25), (⟨"SilenceCanalModel", "spoiltLocks", "()I"⟩, 25)]
theorem lw_r5 : ∀ q ∈ lw_privs_5, lw_okq q := List.forall_mem_cons.mpr ⟨lw_p64, List.forall_mem_cons.mpr ⟨lw_p65, List.forall_mem_cons.mpr ⟨lw_p66, fun _ h => absurd h List.not_mem_nil⟩⟩⟩
def lw_privs : List (MethodName × Nat) := lw_privs_1 ++ (lw_privs_2 ++ (lw_privs_3 ++ (lw_privs_4 ++ (lw_privs_5))))
def lw_tbl : List Cond := k2_sels lw_privs ++ tables_1
theorem lw_privs_ok : ∀ q ∈ lw_privs, lw_okq q := by
  show ∀ q ∈ lw_privs_1 ++ (lw_privs_2 ++ (lw_privs_3 ++ (lw_privs_4 ++ (lw_privs_5)))), lw_okq q
  exact List.forall_mem_append.mpr ⟨lw_r1, List.forall_mem_append.mpr ⟨lw_r2, List.forall_mem_append.mpr ⟨lw_r3, List.forall_mem_append.mpr ⟨lw_r4, lw_r5⟩⟩⟩⟩

/-! the words that every contract takes -/
def TB : List Cond := lw_tbl.filter goodWord
theorem tb_w {w : Cond} (i : Nat) (h : tables_1[i]? = some w) (g : goodWord w = true) : w ∈ TB := List.mem_filter.mpr ⟨List.mem_append_right _ (List.mem_of_getElem? h), g⟩
theorem tb_1 {w : Cond} (i : Nat) (h : tables_1_1[i]? = some w) (g : goodWord w = true) : w ∈ TB := List.mem_filter.mpr ⟨List.mem_append_right _ (List.mem_append_left _ (List.mem_of_getElem? h)), g⟩
theorem tb_2 {w : Cond} (i : Nat) (h : tables_1_2[i]? = some w) (g : goodWord w = true) : w ∈ TB := List.mem_filter.mpr ⟨List.mem_append_right _ (List.mem_append_right _ (List.mem_append_left _ (List.mem_of_getElem? h))), g⟩
theorem tb_3 {w : Cond} (i : Nat) (h : tables_1_3[i]? = some w) (g : goodWord w = true) : w ∈ TB := List.mem_filter.mpr ⟨List.mem_append_right _ (List.mem_append_right _ (List.mem_append_right _ (List.mem_append_left _ (List.mem_of_getElem? h)))), g⟩
theorem tb_4 {w : Cond} (i : Nat) (h : tables_1_4[i]? = some w) (g : goodWord w = true) : w ∈ TB := List.mem_filter.mpr ⟨List.mem_append_right _ (List.mem_append_right _ (List.mem_append_right _ (List.mem_append_right _ (List.mem_append_left _ (List.mem_of_getElem? h))))), g⟩
theorem tb_5 {w : Cond} (i : Nat) (h : tables_1_5[i]? = some w) (g : goodWord w = true) : w ∈ TB := List.mem_filter.mpr ⟨List.mem_append_right _ (List.mem_append_right _ (List.mem_append_right _ (List.mem_append_right _ (List.mem_append_right _ (List.mem_append_left _ (List.mem_of_getElem? h)))))), g⟩
theorem tb_6 {w : Cond} (i : Nat) (h : tables_1_6[i]? = some w) (g : goodWord w = true) : w ∈ TB := List.mem_filter.mpr ⟨List.mem_append_right _ (List.mem_append_right _ (List.mem_append_right _ (List.mem_append_right _ (List.mem_append_right _ (List.mem_append_right _ (List.mem_of_getElem? h)))))), g⟩
theorem tb_s {q : MethodName × Nat} (i : Nat) (h : lw_privs[i]? = some q) (g : goodWord (Cond.selects q.1.cls q.1 q.1) = true) : Cond.selects q.1.cls q.1 q.1 ∈ TB := List.mem_filter.mpr ⟨List.mem_append_left _ (List.mem_map.mpr ⟨q, List.mem_of_getElem? h, rfl⟩), g⟩
theorem tb_good : ∀ w ∈ TB, (w.onTables && w.keeps) = true ∨ ∃ ty, w = .arrayClass ty := fun w h => good_of_word (List.mem_filter.mp h).2
theorem tb_lw : ∀ w ∈ TB, w ∈ lw_tbl := fun w h => (List.mem_filter.mp h).1
def R_A : String := "SilenceCanal$Acts"
def F_A : u_T := fun k => match k with
  | 0 => ("SilenceCanal$Acts", "bodies", "[I", true)
  | 1 => ("SilenceCanal$Acts", "traced", "I", false)
  | 2 => ("SilenceCanal$Acts", "kind", "I", false)
  | 3 => ("SilenceCanal$Acts", "n", "I", false)
  | 4 => ("SilenceCanal$Acts", "a", "I", false)
  | _ => ("SilenceCanal$Acts", "isParted", "Z", false)
def ty_A : Nat → FieldType := fun k => match k with
  | 0 => .array .int
  | 1 => .int
  | 2 => .int
  | 3 => .int
  | 4 => .int
  | _ => .boolean
theorem n_A : ∀ a, a < 6 → ∀ b, b < 6 → a ≠ b → (F_A a).2.1 ≠ (F_A b).2.1 := by decide +kernel
theorem ty_A_ok : ∀ k, k < 6 → parseFieldDescriptor (F_A k).2.2.1 = some (ty_A k) := by decide +kernel
theorem f_A_0 : u_lay R_A F_A 0 ∈ TB := tb_w 133 (by decide +kernel) (by decide +kernel)
theorem f_A_1 : u_lay R_A F_A 1 ∈ TB := tb_w 135 (by decide +kernel) (by decide +kernel)
theorem f_A_2 : u_lay R_A F_A 2 ∈ TB := tb_w 137 (by decide +kernel) (by decide +kernel)
theorem f_A_3 : u_lay R_A F_A 3 ∈ TB := tb_w 139 (by decide +kernel) (by decide +kernel)
theorem f_A_4 : u_lay R_A F_A 4 ∈ TB := tb_w 141 (by decide +kernel) (by decide +kernel)
theorem f_A_5 : u_lay R_A F_A 5 ∈ TB := tb_w 143 (by decide +kernel) (by decide +kernel)
theorem i_A : ∀ w ∈ u_ws R_A F_A 6, w ∈ TB := by
  intro w hw
  obtain ⟨k, hk, rfl⟩ := List.mem_map.mp hw
  have hk := List.mem_range.mp hk
  match k, hk with
  | 0, _ => exact f_A_0
  | 1, _ => exact f_A_1
  | 2, _ => exact f_A_2
  | 3, _ => exact f_A_3
  | 4, _ => exact f_A_4
  | 5, _ => exact f_A_5
  | k + 6, h => exact absurd h (by omega)
def R_C : String := "SilenceCanal$Canal"
def F_C : u_T := fun k => match k with
  | 0 => ("SilenceCanal$Canal", "laws", "[I", true)
  | 1 => ("SilenceCanal$Canal", "noise", "[I", true)
  | 2 => ("SilenceCanal$Canal", "lost", "[I", true)
  | 3 => ("SilenceCanal$Canal", "kind", "[I", true)
  | 4 => ("SilenceCanal$Canal", "load", "[I", true)
  | 5 => ("SilenceCanal$Canal", "sort", "[I", true)
  | 6 => ("SilenceCanal$Canal", "at", "[I", true)
  | 7 => ("SilenceCanal$Canal", "bound", "[I", true)
  | 8 => ("SilenceCanal$Canal", "count", "I", false)
  | 9 => ("SilenceCanal$Canal", "hour", "I", false)
  | 10 => ("SilenceCanal$Canal", "z", "I", false)
  | _ => ("SilenceCanal$Canal", "heldBack", "I", false)
def ty_C : Nat → FieldType := fun k => match k with
  | 0 => .array .int
  | 1 => .array .int
  | 2 => .array .int
  | 3 => .array .int
  | 4 => .array .int
  | 5 => .array .int
  | 6 => .array .int
  | 7 => .array .int
  | 8 => .int
  | 9 => .int
  | 10 => .int
  | _ => .int
theorem n_C : ∀ a, a < 12 → ∀ b, b < 12 → a ≠ b → (F_C a).2.1 ≠ (F_C b).2.1 := by decide +kernel
theorem ty_C_ok : ∀ k, k < 12 → parseFieldDescriptor (F_C k).2.2.1 = some (ty_C k) := by decide +kernel
theorem f_C_0 : u_lay R_C F_C 0 ∈ TB := tb_w 65 (by decide +kernel) (by decide +kernel)
theorem f_C_1 : u_lay R_C F_C 1 ∈ TB := tb_w 67 (by decide +kernel) (by decide +kernel)
theorem f_C_2 : u_lay R_C F_C 2 ∈ TB := tb_w 69 (by decide +kernel) (by decide +kernel)
theorem f_C_3 : u_lay R_C F_C 3 ∈ TB := tb_w 71 (by decide +kernel) (by decide +kernel)
theorem f_C_4 : u_lay R_C F_C 4 ∈ TB := tb_w 73 (by decide +kernel) (by decide +kernel)
theorem f_C_5 : u_lay R_C F_C 5 ∈ TB := tb_w 75 (by decide +kernel) (by decide +kernel)
theorem f_C_6 : u_lay R_C F_C 6 ∈ TB := tb_w 77 (by decide +kernel) (by decide +kernel)
theorem f_C_7 : u_lay R_C F_C 7 ∈ TB := tb_w 79 (by decide +kernel) (by decide +kernel)
theorem f_C_8 : u_lay R_C F_C 8 ∈ TB := tb_w 81 (by decide +kernel) (by decide +kernel)
theorem f_C_9 : u_lay R_C F_C 9 ∈ TB := tb_w 83 (by decide +kernel) (by decide +kernel)
theorem f_C_10 : u_lay R_C F_C 10 ∈ TB := tb_w 85 (by decide +kernel) (by decide +kernel)
theorem f_C_11 : u_lay R_C F_C 11 ∈ TB := tb_w 87 (by decide +kernel) (by decide +kernel)
theorem i_C : ∀ w ∈ u_ws R_C F_C 12, w ∈ TB := by
  intro w hw
  obtain ⟨k, hk, rfl⟩ := List.mem_map.mp hw
  have hk := List.mem_range.mp hk
  match k, hk with
  | 0, _ => exact f_C_0
  | 1, _ => exact f_C_1
  | 2, _ => exact f_C_2
  | 3, _ => exact f_C_3
  | 4, _ => exact f_C_4
  | 5, _ => exact f_C_5
  | 6, _ => exact f_C_6
  | 7, _ => exact f_C_7
  | 8, _ => exact f_C_8
  | 9, _ => exact f_C_9
  | 10, _ => exact f_C_10
  | 11, _ => exact f_C_11
  | k + 12, h => exact absurd h (by omega)
def R_S : String := "SilenceCanal$Sheet"
def F_S : u_T := fun k => match k with
  | 0 => ("SilenceCanal$Sheet", "items", "[I", true)
  | 1 => ("SilenceCanal$Sheet", "sort", "I", false)
  | _ => ("SilenceCanal$Sheet", "size", "I", false)
def ty_S : Nat → FieldType := fun k => match k with
  | 0 => .array .int
  | 1 => .int
  | _ => .int
theorem n_S : ∀ a, a < 3 → ∀ b, b < 3 → a ≠ b → (F_S a).2.1 ≠ (F_S b).2.1 := by decide +kernel
theorem ty_S_ok : ∀ k, k < 3 → parseFieldDescriptor (F_S k).2.2.1 = some (ty_S k) := by decide +kernel
theorem f_S_0 : u_lay R_S F_S 0 ∈ TB := tb_w 157 (by decide +kernel) (by decide +kernel)
theorem f_S_1 : u_lay R_S F_S 1 ∈ TB := tb_w 159 (by decide +kernel) (by decide +kernel)
theorem f_S_2 : u_lay R_S F_S 2 ∈ TB := tb_w 161 (by decide +kernel) (by decide +kernel)
theorem i_S : ∀ w ∈ u_ws R_S F_S 3, w ∈ TB := by
  intro w hw
  obtain ⟨k, hk, rfl⟩ := List.mem_map.mp hw
  have hk := List.mem_range.mp hk
  match k, hk with
  | 0, _ => exact f_S_0
  | 1, _ => exact f_S_1
  | 2, _ => exact f_S_2
  | k + 3, h => exact absurd h (by omega)
def R_H : String := "SilenceCanal$Shelf"
def F_H : u_T := fun k => match k with
  | 0 => ("SilenceCanal$Shelf", "what", "I", false)
  | 1 => ("SilenceCanal$Shelf", "barge", "I", false)
  | 2 => ("SilenceCanal$Shelf", "rowSort", "I", false)
  | _ => ("SilenceCanal$Shelf", "rowSize", "I", false)
def ty_H : Nat → FieldType := fun k => match k with
  | 0 => .int
  | 1 => .int
  | 2 => .int
  | _ => .int
theorem n_H : ∀ a, a < 4 → ∀ b, b < 4 → a ≠ b → (F_H a).2.1 ≠ (F_H b).2.1 := by decide +kernel
theorem ty_H_ok : ∀ k, k < 4 → parseFieldDescriptor (F_H k).2.2.1 = some (ty_H k) := by decide +kernel
theorem f_H_0 : u_lay R_H F_H 0 ∈ TB := tb_w 177 (by decide +kernel) (by decide +kernel)
theorem f_H_1 : u_lay R_H F_H 1 ∈ TB := tb_w 179 (by decide +kernel) (by decide +kernel)
theorem f_H_2 : u_lay R_H F_H 2 ∈ TB := tb_w 181 (by decide +kernel) (by decide +kernel)
theorem f_H_3 : u_lay R_H F_H 3 ∈ TB := tb_w 183 (by decide +kernel) (by decide +kernel)
theorem i_H : ∀ w ∈ u_ws R_H F_H 4, w ∈ TB := by
  intro w hw
  obtain ⟨k, hk, rfl⟩ := List.mem_map.mp hw
  have hk := List.mem_range.mp hk
  match k, hk with
  | 0, _ => exact f_H_0
  | 1, _ => exact f_H_1
  | 2, _ => exact f_H_2
  | 3, _ => exact f_H_3
  | k + 4, h => exact absurd h (by omega)
def R_T : String := "SilenceCanal$Text"
def F_T : u_T := fun k => match k with
  | 0 => ("SilenceCanal$Text", "bytes", "[B", true)
  | 1 => ("SilenceCanal$Text", "size", "I", false)
  | 2 => ("SilenceCanal$Text", "sort", "I", false)
  | 3 => ("SilenceCanal$Text", "start", "I", false)
  | _ => ("SilenceCanal$Text", "end", "I", false)
def ty_T : Nat → FieldType := fun k => match k with
  | 0 => .array .byte
  | 1 => .int
  | 2 => .int
  | 3 => .int
  | _ => .int
theorem n_T : ∀ a, a < 5 → ∀ b, b < 5 → a ≠ b → (F_T a).2.1 ≠ (F_T b).2.1 := by decide +kernel
theorem ty_T_ok : ∀ k, k < 5 → parseFieldDescriptor (F_T k).2.2.1 = some (ty_T k) := by decide +kernel
theorem f_T_0 : u_lay R_T F_T 0 ∈ TB := tb_w 103 (by decide +kernel) (by decide +kernel)
theorem f_T_1 : u_lay R_T F_T 1 ∈ TB := tb_w 105 (by decide +kernel) (by decide +kernel)
theorem f_T_2 : u_lay R_T F_T 2 ∈ TB := tb_w 107 (by decide +kernel) (by decide +kernel)
theorem f_T_3 : u_lay R_T F_T 3 ∈ TB := tb_w 109 (by decide +kernel) (by decide +kernel)
theorem f_T_4 : u_lay R_T F_T 4 ∈ TB := tb_w 111 (by decide +kernel) (by decide +kernel)
theorem i_T : ∀ w ∈ u_ws R_T F_T 5, w ∈ TB := by
  intro w hw
  obtain ⟨k, hk, rfl⟩ := List.mem_map.mp hw
  have hk := List.mem_range.mp hk
  match k, hk with
  | 0, _ => exact f_T_0
  | 1, _ => exact f_T_1
  | 2, _ => exact f_T_2
  | 3, _ => exact f_T_3
  | 4, _ => exact f_T_4
  | k + 5, h => exact absurd h (by omega)
def R_X : String := "SilenceCanal"
def F_X : u_T := fun k => match k with
  | 0 => ("SilenceCanal", "now", "LSilenceCanal$Canal;", true)
  | 1 => ("SilenceCanal", "tried", "LSilenceCanal$Canal;", true)
  | 2 => ("SilenceCanal", "kept", "LSilenceCanal$Canal;", true)
  | 3 => ("SilenceCanal", "isKept", "Z", false)
  | 4 => ("SilenceCanal", "tape", "LSilenceCanal$Text;", true)
  | 5 => ("SilenceCanal", "rows", "[I", true)
  | 6 => ("SilenceCanal", "rowCount", "I", false)
  | 7 => ("SilenceCanal", "sheets", "[LSilenceCanal$Sheet;", true)
  | 8 => ("SilenceCanal", "shelves", "[LSilenceCanal$Shelf;", true)
  | _ => ("SilenceCanal", "acts", "LSilenceCanal$Acts;", true)
def ty_X : Nat → FieldType := fun k => match k with
  | 0 => .object "SilenceCanal$Canal"
  | 1 => .object "SilenceCanal$Canal"
  | 2 => .object "SilenceCanal$Canal"
  | 3 => .boolean
  | 4 => .object "SilenceCanal$Text"
  | 5 => .array .int
  | 6 => .int
  | 7 => .array (.object "SilenceCanal$Sheet")
  | 8 => .array (.object "SilenceCanal$Shelf")
  | _ => .object "SilenceCanal$Acts"
theorem n_X : ∀ a, a < 10 → ∀ b, b < 10 → a ≠ b → (F_X a).2.1 ≠ (F_X b).2.1 := by decide +kernel
theorem ty_X_ok : ∀ k, k < 10 → parseFieldDescriptor (F_X k).2.2.1 = some (ty_X k) := by decide +kernel
theorem f_X_0 : u_lay R_X F_X 0 ∈ TB := tb_w 196 (by decide +kernel) (by decide +kernel)
theorem f_X_1 : u_lay R_X F_X 1 ∈ TB := tb_w 198 (by decide +kernel) (by decide +kernel)
theorem f_X_2 : u_lay R_X F_X 2 ∈ TB := tb_w 200 (by decide +kernel) (by decide +kernel)
theorem f_X_3 : u_lay R_X F_X 3 ∈ TB := tb_w 202 (by decide +kernel) (by decide +kernel)
theorem f_X_4 : u_lay R_X F_X 4 ∈ TB := tb_w 204 (by decide +kernel) (by decide +kernel)
theorem f_X_5 : u_lay R_X F_X 5 ∈ TB := tb_w 206 (by decide +kernel) (by decide +kernel)
theorem f_X_6 : u_lay R_X F_X 6 ∈ TB := tb_w 208 (by decide +kernel) (by decide +kernel)
theorem f_X_7 : u_lay R_X F_X 7 ∈ TB := tb_w 210 (by decide +kernel) (by decide +kernel)
theorem f_X_8 : u_lay R_X F_X 8 ∈ TB := tb_w 212 (by decide +kernel) (by decide +kernel)
theorem f_X_9 : u_lay R_X F_X 9 ∈ TB := tb_w 214 (by decide +kernel) (by decide +kernel)
theorem i_X : ∀ w ∈ u_ws R_X F_X 10, w ∈ TB := by
  intro w hw
  obtain ⟨k, hk, rfl⟩ := List.mem_map.mp hw
  have hk := List.mem_range.mp hk
  match k, hk with
  | 0, _ => exact f_X_0
  | 1, _ => exact f_X_1
  | 2, _ => exact f_X_2
  | 3, _ => exact f_X_3
  | 4, _ => exact f_X_4
  | 5, _ => exact f_X_5
  | 6, _ => exact f_X_6
  | 7, _ => exact f_X_7
  | 8, _ => exact f_X_8
  | 9, _ => exact f_X_9
  | k + 10, h => exact absurd h (by omega)
def R_M : String := "SilenceCanalModel"
def F_M : u_T := fun k => match k with
  | 0 => ("SilenceCanalModel", "d", "[I", true)
  | 1 => ("SilenceCanalModel", "aside", "[I", true)
  | 2 => ("SilenceCanalModel", "kept", "[I", true)
  | 3 => ("SilenceCanalModel", "isKept", "Z", false)
  | 4 => ("SilenceCanalModel", "still", "I", false)
  | 5 => ("SilenceCanalModel", "tape", "[I", true)
  | 6 => ("SilenceCanalModel", "taped", "I", false)
  | 7 => ("SilenceCanalModel", "at", "I", false)
  | 8 => ("SilenceCanalModel", "begun", "I", false)
  | 9 => ("SilenceCanalModel", "token", "I", false)
  | 10 => ("SilenceCanalModel", "value", "I", false)
  | 11 => ("SilenceCanalModel", "words", "[C", true)
  | 12 => ("SilenceCanalModel", "told", "I", false)
  | 13 => ("SilenceCanalModel", "row", "[I", true)
  | 14 => ("SilenceCanalModel", "rows", "I", false)
  | 15 => ("SilenceCanalModel", "sortOf", "[I", true)
  | 16 => ("SilenceCanalModel", "sizeOf", "[I", true)
  | 17 => ("SilenceCanalModel", "item", "[J", true)
  | 18 => ("SilenceCanalModel", "shelfHas", "[I", true)
  | 19 => ("SilenceCanalModel", "shelfWhich", "[I", true)
  | 20 => ("SilenceCanalModel", "shelfSize", "[I", true)
  | 21 => ("SilenceCanalModel", "traced", "[I", true)
  | 22 => ("SilenceCanalModel", "traceMany", "I", false)
  | 23 => ("SilenceCanalModel", "who", "I", false)
  | _ => ("SilenceCanalModel", "isParted", "Z", false)
def ty_M : Nat → FieldType := fun k => match k with
  | 0 => .array .int
  | 1 => .array .int
  | 2 => .array .int
  | 3 => .boolean
  | 4 => .int
  | 5 => .array .int
  | 6 => .int
  | 7 => .int
  | 8 => .int
  | 9 => .int
  | 10 => .int
  | 11 => .array .char
  | 12 => .int
  | 13 => .array .int
  | 14 => .int
  | 15 => .array .int
  | 16 => .array .int
  | 17 => .array .long
  | 18 => .array .int
  | 19 => .array .int
  | 20 => .array .int
  | 21 => .array .int
  | 22 => .int
  | 23 => .int
  | _ => .boolean
theorem n_M : ∀ a, a < 25 → ∀ b, b < 25 → a ≠ b → (F_M a).2.1 ≠ (F_M b).2.1 := by decide +kernel
theorem ty_M_ok : ∀ k, k < 25 → parseFieldDescriptor (F_M k).2.2.1 = some (ty_M k) := by decide +kernel
theorem f_M_0 : u_lay R_M F_M 0 ∈ TB := tb_w 791 (by decide +kernel) (by decide +kernel)
theorem f_M_1 : u_lay R_M F_M 1 ∈ TB := tb_w 793 (by decide +kernel) (by decide +kernel)
theorem f_M_2 : u_lay R_M F_M 2 ∈ TB := tb_w 795 (by decide +kernel) (by decide +kernel)
theorem f_M_3 : u_lay R_M F_M 3 ∈ TB := tb_w 797 (by decide +kernel) (by decide +kernel)
theorem f_M_4 : u_lay R_M F_M 4 ∈ TB := tb_w 799 (by decide +kernel) (by decide +kernel)
theorem f_M_5 : u_lay R_M F_M 5 ∈ TB := tb_w 801 (by decide +kernel) (by decide +kernel)
theorem f_M_6 : u_lay R_M F_M 6 ∈ TB := tb_w 803 (by decide +kernel) (by decide +kernel)
theorem f_M_7 : u_lay R_M F_M 7 ∈ TB := tb_w 805 (by decide +kernel) (by decide +kernel)
theorem f_M_8 : u_lay R_M F_M 8 ∈ TB := tb_w 807 (by decide +kernel) (by decide +kernel)
theorem f_M_9 : u_lay R_M F_M 9 ∈ TB := tb_w 809 (by decide +kernel) (by decide +kernel)
theorem f_M_10 : u_lay R_M F_M 10 ∈ TB := tb_w 811 (by decide +kernel) (by decide +kernel)
theorem f_M_11 : u_lay R_M F_M 11 ∈ TB := tb_w 813 (by decide +kernel) (by decide +kernel)
theorem f_M_12 : u_lay R_M F_M 12 ∈ TB := tb_w 815 (by decide +kernel) (by decide +kernel)
theorem f_M_13 : u_lay R_M F_M 13 ∈ TB := tb_w 817 (by decide +kernel) (by decide +kernel)
theorem f_M_14 : u_lay R_M F_M 14 ∈ TB := tb_w 819 (by decide +kernel) (by decide +kernel)
theorem f_M_15 : u_lay R_M F_M 15 ∈ TB := tb_w 821 (by decide +kernel) (by decide +kernel)
theorem f_M_16 : u_lay R_M F_M 16 ∈ TB := tb_w 823 (by decide +kernel) (by decide +kernel)
theorem f_M_17 : u_lay R_M F_M 17 ∈ TB := tb_w 825 (by decide +kernel) (by decide +kernel)
theorem f_M_18 : u_lay R_M F_M 18 ∈ TB := tb_w 827 (by decide +kernel) (by decide +kernel)
theorem f_M_19 : u_lay R_M F_M 19 ∈ TB := tb_w 829 (by decide +kernel) (by decide +kernel)
theorem f_M_20 : u_lay R_M F_M 20 ∈ TB := tb_w 831 (by decide +kernel) (by decide +kernel)
theorem f_M_21 : u_lay R_M F_M 21 ∈ TB := tb_w 833 (by decide +kernel) (by decide +kernel)
theorem f_M_22 : u_lay R_M F_M 22 ∈ TB := tb_w 835 (by decide +kernel) (by decide +kernel)
theorem f_M_23 : u_lay R_M F_M 23 ∈ TB := tb_w 837 (by decide +kernel) (by decide +kernel)
theorem f_M_24 : u_lay R_M F_M 24 ∈ TB := tb_w 839 (by decide +kernel) (by decide +kernel)
theorem i_M : ∀ w ∈ u_ws R_M F_M 25, w ∈ TB := by
  intro w hw
  obtain ⟨k, hk, rfl⟩ := List.mem_map.mp hw
  have hk := List.mem_range.mp hk
  match k, hk with
  | 0, _ => exact f_M_0
  | 1, _ => exact f_M_1
  | 2, _ => exact f_M_2
  | 3, _ => exact f_M_3
  | 4, _ => exact f_M_4
  | 5, _ => exact f_M_5
  | 6, _ => exact f_M_6
  | 7, _ => exact f_M_7
  | 8, _ => exact f_M_8
  | 9, _ => exact f_M_9
  | 10, _ => exact f_M_10
  | 11, _ => exact f_M_11
  | 12, _ => exact f_M_12
  | 13, _ => exact f_M_13
  | 14, _ => exact f_M_14
  | 15, _ => exact f_M_15
  | 16, _ => exact f_M_16
  | 17, _ => exact f_M_17
  | 18, _ => exact f_M_18
  | 19, _ => exact f_M_19
  | 20, _ => exact f_M_20
  | 21, _ => exact f_M_21
  | 22, _ => exact f_M_22
  | 23, _ => exact f_M_23
  | 24, _ => exact f_M_24
  | k + 25, h => exact absurd h (by omega)
def R_JI : String := "java/lang/Integer"
def R_JM : String := "java/lang/Math"
def R_JS : String := "java/lang/String"
def R_JL : String := "java/lang/StringLatin1"
def R_JU : String := "java/lang/StringUTF16"
def R_JA : String := "java/util/Arrays"
def R_JP : String := "jdk/internal/util/Preconditions"
abbrev classes : List vw_C := [(R_A, F_A, 6), (R_C, F_C, 12), (R_S, F_S, 3), (R_H, F_H, 4), (R_T, F_T, 5), (R_X, F_X, 10), (R_M, F_M, 25)]
abbrev b_X_init : ByteArray := prog_1_method_1_code
def y_X_init : MethodName := ⟨R_X, "<init>", "()V"⟩
abbrev b_C_init : ByteArray := prog_3_method_1_code
def y_C_init : MethodName := ⟨R_C, "<init>", "()V"⟩
abbrev b_JA_fill : ByteArray := prog_15_method_103_code
def y_JA_fill : MethodName := ⟨R_JA, "fill", "([II)V"⟩
abbrev b_T_init : ByteArray := prog_6_method_1_code
def y_T_init : MethodName := ⟨R_T, "<init>", "()V"⟩
abbrev b_A_init : ByteArray := prog_2_method_1_code
def y_A_init : MethodName := ⟨R_A, "<init>", "()V"⟩
abbrev b_S_init : ByteArray := prog_4_method_1_code
def y_S_init : MethodName := ⟨R_S, "<init>", "()V"⟩
abbrev b_H_init : ByteArray := prog_5_method_1_code
def y_H_init : MethodName := ⟨R_H, "<init>", "()V"⟩
abbrev b_X_feed : ByteArray := prog_1_method_2_code
def y_X_feed : MethodName := ⟨R_X, "feed", "(JI)I"⟩
abbrev b_T_append : ByteArray := prog_6_method_2_code
def y_T_append : MethodName := ⟨R_T, "append", "(B)V"⟩
abbrev b_X_canal : ByteArray := prog_1_method_3_code
def y_X_canal : MethodName := ⟨R_X, "canal", "()I"⟩
abbrev b_C_copyFrom : ByteArray := prog_3_method_3_code
def y_C_copyFrom : MethodName := ⟨R_C, "copyFrom", "(LSilenceCanal$Canal;)V"⟩
abbrev b_C_clearAllButDraws : ByteArray := prog_3_method_2_code
def y_C_clearAllButDraws : MethodName := ⟨R_C, "clearAllButDraws", "()V"⟩
abbrev b_T_readInto : ByteArray := prog_6_method_3_code
def y_T_readInto : MethodName := ⟨R_T, "readInto", "(LSilenceCanal$Canal;)I"⟩
abbrev b_T_step : ByteArray := prog_6_method_14_code
def y_T_step : MethodName := ⟨R_T, "step", "()V"⟩
abbrev b_T_byteAt : ByteArray := prog_6_method_15_code
def y_T_byteAt : MethodName := ⟨R_T, "byteAt", "(I)I"⟩
abbrev b_T_isLetter : ByteArray := prog_6_method_16_code
def y_T_isLetter : MethodName := ⟨R_T, "isLetter", "(I)Z"⟩
abbrev b_T_isDigit : ByteArray := prog_6_method_17_code
def y_T_isDigit : MethodName := ⟨R_T, "isDigit", "(I)Z"⟩
abbrev b_T_readLine : ByteArray := prog_6_method_4_code
def y_T_readLine : MethodName := ⟨R_T, "readLine", "(LSilenceCanal$Canal;)Z"⟩
abbrev b_T_kindName : ByteArray := prog_6_method_8_code
def y_T_kindName : MethodName := ⟨R_T, "kindName", "(I)Ljava/lang/String;"⟩
abbrev b_T_isName : ByteArray := prog_6_method_10_code
def y_T_isName : MethodName := ⟨R_T, "isName", "(Ljava/lang/String;)Z"⟩
abbrev b_JS_length : ByteArray := prog_11_method_54_code
def y_JS_length : MethodName := ⟨R_JS, "length", "()I"⟩
abbrev b_JS_coder : ByteArray := prog_11_method_152_code
def y_JS_coder : MethodName := ⟨R_JS, "coder", "()B"⟩
abbrev b_JS_charAt : ByteArray := prog_11_method_56_code
def y_JS_charAt : MethodName := ⟨R_JS, "charAt", "(I)C"⟩
abbrev b_JS_isLatin1 : ByteArray := prog_11_method_154_code
def y_JS_isLatin1 : MethodName := ⟨R_JS, "isLatin1", "()Z"⟩
abbrev b_JL_charAt : ByteArray := prog_12_method_2_code
def y_JL_charAt : MethodName := ⟨R_JL, "charAt", "([BI)C"⟩
abbrev b_JS_checkIndex : ByteArray := prog_11_method_155_code
def y_JS_checkIndex : MethodName := ⟨R_JS, "checkIndex", "(II)V"⟩
abbrev b_JP_checkIndex : ByteArray := prog_16_method_11_code
def y_JP_checkIndex : MethodName := ⟨R_JP, "checkIndex", "(IILjava/util/function/BiFunction;)I"⟩
abbrev b_JU_charAt : ByteArray := prog_13_method_83_code
def y_JU_charAt : MethodName := ⟨R_JU, "charAt", "([BI)C"⟩
abbrev b_JU_checkIndex : ByteArray := prog_13_method_91_code
def y_JU_checkIndex : MethodName := ⟨R_JU, "checkIndex", "(I[B)V"⟩
abbrev b_JU_length : ByteArray := prog_13_method_6_code
def y_JU_length : MethodName := ⟨R_JU, "length", "([B)I"⟩
abbrev b_JU_getChar : ByteArray := prog_13_method_5_code
def y_JU_getChar : MethodName := ⟨R_JU, "getChar", "([BI)C"⟩
abbrev b_T_readBarge : ByteArray := prog_6_method_5_code
def y_T_readBarge : MethodName := ⟨R_T, "readBarge", "(LSilenceCanal$Canal;I)Z"⟩
abbrev b_T_takeName : ByteArray := prog_6_method_11_code
def y_T_takeName : MethodName := ⟨R_T, "takeName", "(Ljava/lang/String;)Z"⟩
abbrev b_T_takeNumber : ByteArray := prog_6_method_12_code
def y_T_takeNumber : MethodName := ⟨R_T, "takeNumber", "(I)I"⟩
abbrev b_T_takeEndOfLine : ByteArray := prog_6_method_13_code
def y_T_takeEndOfLine : MethodName := ⟨R_T, "takeEndOfLine", "()Z"⟩
abbrev b_C_add : ByteArray := prog_3_method_4_code
def y_C_add : MethodName := ⟨R_C, "add", "(IIIII)V"⟩
abbrev b_T_lawName : ByteArray := prog_6_method_9_code
def y_T_lawName : MethodName := ⟨R_T, "lawName", "(I)Ljava/lang/String;"⟩
abbrev b_T_readLaw : ByteArray := prog_6_method_6_code
def y_T_readLaw : MethodName := ⟨R_T, "readLaw", "(LSilenceCanal$Canal;I)Z"⟩
abbrev b_X_isLaw : ByteArray := prog_1_method_50_code
def y_X_isLaw : MethodName := ⟨R_X, "isLaw", "(I)Z"⟩
abbrev b_T_readNoise : ByteArray := prog_6_method_7_code
def y_T_readNoise : MethodName := ⟨R_T, "readNoise", "(LSilenceCanal$Canal;)Z"⟩
abbrev b_X_isLock : ByteArray := prog_1_method_51_code
def y_X_isLock : MethodName := ⟨R_X, "isLock", "(I)Z"⟩
abbrev b_X_set : ByteArray := prog_1_method_4_code
def y_X_set : MethodName := ⟨R_X, "set", "(II)I"⟩
abbrev b_X_lawOf : ByteArray := prog_1_method_5_code
def y_X_lawOf : MethodName := ⟨R_X, "lawOf", "(I)I"⟩
abbrev b_X_barge : ByteArray := prog_1_method_6_code
def y_X_barge : MethodName := ⟨R_X, "barge", "(IIII)I"⟩
abbrev b_X_isKind : ByteArray := prog_1_method_49_code
def y_X_isKind : MethodName := ⟨R_X, "isKind", "(I)Z"⟩
abbrev b_X_isLoad : ByteArray := prog_1_method_52_code
def y_X_isLoad : MethodName := ⟨R_X, "isLoad", "(I)Z"⟩
abbrev b_X_of : ByteArray := prog_1_method_7_code
def y_X_of : MethodName := ⟨R_X, "of", "(II)I"⟩
abbrev b_X_isBarge : ByteArray := prog_1_method_48_code
def y_X_isBarge : MethodName := ⟨R_X, "isBarge", "(I)Z"⟩
abbrev b_C_hasLanded : ByteArray := prog_3_method_6_code
def y_C_hasLanded : MethodName := ⟨R_C, "hasLanded", "(I)Z"⟩
abbrev b_X_does : ByteArray := prog_1_method_8_code
def y_X_does : MethodName := ⟨R_X, "does", "(II)I"⟩
abbrev b_C_paceOf : ByteArray := prog_3_method_9_code
def y_C_paceOf : MethodName := ⟨R_C, "paceOf", "(I)I"⟩
abbrev b_C_noiseAt : ByteArray := prog_3_method_8_code
def y_C_noiseAt : MethodName := ⟨R_C, "noiseAt", "(I)I"⟩
abbrev b_C_spillOf : ByteArray := prog_3_method_10_code
def y_C_spillOf : MethodName := ⟨R_C, "spillOf", "(II)I"⟩
abbrev b_X_mind : ByteArray := prog_1_method_9_code
def y_X_mind : MethodName := ⟨R_X, "mind", "(III)I"⟩
abbrev b_X_fill : ByteArray := prog_1_method_10_code
def y_X_fill : MethodName := ⟨R_X, "fill", "(II)I"⟩
abbrev b_X_bring : ByteArray := prog_1_method_11_code
def y_X_bring : MethodName := ⟨R_X, "bring", "(II)I"⟩
abbrev b_X_send : ByteArray := prog_1_method_12_code
def y_X_send : MethodName := ⟨R_X, "send", "(II)I"⟩
abbrev b_X_noise : ByteArray := prog_1_method_13_code
def y_X_noise : MethodName := ⟨R_X, "noise", "(II)I"⟩
abbrev b_X_lock : ByteArray := prog_1_method_14_code
def y_X_lock : MethodName := ⟨R_X, "lock", "(II)I"⟩
abbrev b_C_bargesAt : ByteArray := prog_3_method_22_code
def y_C_bargesAt : MethodName := ⟨R_C, "bargesAt", "(I)I"⟩
abbrev b_X_hours : ByteArray := prog_1_method_15_code
def y_X_hours : MethodName := ⟨R_X, "hours", "(I)I"⟩
abbrev b_C_passHours : ByteArray := prog_3_method_11_code
def y_C_passHours : MethodName := ⟨R_C, "passHours", "(I)V"⟩
abbrev b_C_allLanded : ByteArray := prog_3_method_7_code
def y_C_allLanded : MethodName := ⟨R_C, "allLanded", "()Z"⟩
abbrev b_C_landedSet : ByteArray := prog_3_method_20_code
def y_C_landedSet : MethodName := ⟨R_C, "landedSet", "()I"⟩
abbrev b_C_passHour : ByteArray := prog_3_method_12_code
def y_C_passHour : MethodName := ⟨R_C, "passHour", "()V"⟩
abbrev b_C_goOn : ByteArray := prog_3_method_13_code
def y_C_goOn : MethodName := ⟨R_C, "goOn", "(I)V"⟩
abbrev b_C_spill : ByteArray := prog_3_method_15_code
def y_C_spill : MethodName := ⟨R_C, "spill", "(III)V"⟩
abbrev b_X_heldLoad : ByteArray := prog_1_method_54_code
def y_X_heldLoad : MethodName := ⟨R_X, "heldLoad", "(I)I"⟩
abbrev b_JM_min : ByteArray := prog_10_method_69_code
def y_JM_min : MethodName := ⟨R_JM, "min", "(II)I"⟩
abbrev b_C_echoWithOthers : ByteArray := prog_3_method_14_code
def y_C_echoWithOthers : MethodName := ⟨R_C, "echoWithOthers", "(I)V"⟩
abbrev b_C_allLoads : ByteArray := prog_3_method_18_code
def y_C_allLoads : MethodName := ⟨R_C, "allLoads", "()I"⟩
abbrev b_X_seed : ByteArray := prog_1_method_16_code
def y_X_seed : MethodName := ⟨R_X, "seed", "(I)I"⟩
abbrev b_X_hour : ByteArray := prog_1_method_17_code
def y_X_hour : MethodName := ⟨R_X, "hour", "()I"⟩
abbrev b_C_passHourByDraws : ByteArray := prog_3_method_16_code
def y_C_passHourByDraws : MethodName := ⟨R_C, "passHourByDraws", "()V"⟩
abbrev b_C_draw : ByteArray := prog_3_method_17_code
def y_C_draw : MethodName := ⟨R_C, "draw", "()I"⟩
abbrev b_X_spoilt : ByteArray := prog_1_method_18_code
def y_X_spoilt : MethodName := ⟨R_X, "spoilt", "(I)I"⟩
abbrev b_X_triedCargo : ByteArray := prog_1_method_60_code
def y_X_triedCargo : MethodName := ⟨R_X, "triedCargo", "(III)I"⟩
abbrev b_C_still : ByteArray := prog_3_method_5_code
def y_C_still : MethodName := ⟨R_C, "still", "(I)V"⟩
abbrev b_X_state : ByteArray := prog_1_method_19_code
def y_X_state : MethodName := ⟨R_X, "state", "(I)I"⟩
abbrev b_C_allLost : ByteArray := prog_3_method_19_code
def y_C_allLost : MethodName := ⟨R_C, "allLost", "()I"⟩
abbrev b_C_usedLocks : ByteArray := prog_3_method_21_code
def y_C_usedLocks : MethodName := ⟨R_C, "usedLocks", "()I"⟩
abbrev b_C_loudest : ByteArray := prog_3_method_23_code
def y_C_loudest : MethodName := ⟨R_C, "loudest", "()I"⟩
abbrev b_X_freight : ByteArray := prog_1_method_20_code
def y_X_freight : MethodName := ⟨R_X, "freight", "(II)I"⟩
abbrev b_X_triedFreight : ByteArray := prog_1_method_59_code
def y_X_triedFreight : MethodName := ⟨R_X, "triedFreight", "(II)I"⟩
abbrev b_X_lands : ByteArray := prog_1_method_21_code
def y_X_lands : MethodName := ⟨R_X, "lands", "(I)I"⟩
abbrev b_X_meets : ByteArray := prog_1_method_22_code
def y_X_meets : MethodName := ⟨R_X, "meets", "(II)I"⟩
abbrev b_X_quiet : ByteArray := prog_1_method_23_code
def y_X_quiet : MethodName := ⟨R_X, "quiet", "()I"⟩
abbrev b_X_cargo : ByteArray := prog_1_method_24_code
def y_X_cargo : MethodName := ⟨R_X, "cargo", "(I)I"⟩
abbrev b_X_stillFor : ByteArray := prog_1_method_25_code
def y_X_stillFor : MethodName := ⟨R_X, "stillFor", "(II)I"⟩
abbrev b_X_kindFor : ByteArray := prog_1_method_26_code
def y_X_kindFor : MethodName := ⟨R_X, "kindFor", "(II)I"⟩
abbrev b_X_loadFor : ByteArray := prog_1_method_27_code
def y_X_loadFor : MethodName := ⟨R_X, "loadFor", "(III)I"⟩
abbrev b_X_hushedFor : ByteArray := prog_1_method_28_code
def y_X_hushedFor : MethodName := ⟨R_X, "hushedFor", "(II)I"⟩
abbrev b_C_loudOnTheWay : ByteArray := prog_3_method_25_code
def y_C_loudOnTheWay : MethodName := ⟨R_C, "loudOnTheWay", "()I"⟩
abbrev b_JM_max : ByteArray := prog_10_method_65_code
def y_JM_max : MethodName := ⟨R_JM, "max", "(II)I"⟩
abbrev b_JI_bitCount : ByteArray := prog_9_method_49_code
def y_JI_bitCount : MethodName := ⟨R_JI, "bitCount", "(I)I"⟩
abbrev b_X_holdFor : ByteArray := prog_1_method_29_code
def y_X_holdFor : MethodName := ⟨R_X, "holdFor", "(I)I"⟩
abbrev b_X_fits : ByteArray := prog_1_method_30_code
def y_X_fits : MethodName := ⟨R_X, "fits", "(III)I"⟩
abbrev b_X_sheetAt : ByteArray := prog_1_method_56_code
def y_X_sheetAt : MethodName := ⟨R_X, "sheetAt", "(I)LSilenceCanal$Sheet;"⟩
abbrev b_X_loadFits : ByteArray := prog_1_method_61_code
def y_X_loadFits : MethodName := ⟨R_X, "loadFits", "(LSilenceCanal$Sheet;II)Z"⟩
abbrev b_X_odds : ByteArray := prog_1_method_31_code
def y_X_odds : MethodName := ⟨R_X, "odds", "(III)J"⟩
abbrev b_X_ways : ByteArray := prog_1_method_63_code
def y_X_ways : MethodName := ⟨R_X, "ways", "(II)J"⟩
abbrev b_X_partOf : ByteArray := prog_1_method_64_code
def y_X_partOf : MethodName := ⟨R_X, "partOf", "(JJI)J"⟩
abbrev b_X_hope : ByteArray := prog_1_method_32_code
def y_X_hope : MethodName := ⟨R_X, "hope", "(II)J"⟩
abbrev b_X_prove : ByteArray := prog_1_method_33_code
def y_X_prove : MethodName := ⟨R_X, "prove", "(II)I"⟩
abbrev b_X_triedRowPart : ByteArray := prog_1_method_62_code
def y_X_triedRowPart : MethodName := ⟨R_X, "triedRowPart", "(II)I"⟩
abbrev b_X_row : ByteArray := prog_1_method_34_code
def y_X_row : MethodName := ⟨R_X, "row", "(II)I"⟩
abbrev b_X_isRowPart : ByteArray := prog_1_method_53_code
def y_X_isRowPart : MethodName := ⟨R_X, "isRowPart", "(II)Z"⟩
abbrev b_X_alterRow : ByteArray := prog_1_method_35_code
def y_X_alterRow : MethodName := ⟨R_X, "alterRow", "(III)I"⟩
abbrev b_X_judge : ByteArray := prog_1_method_36_code
def y_X_judge : MethodName := ⟨R_X, "judge", "(I)I"⟩
abbrev b_X_minds : ByteArray := prog_1_method_37_code
def y_X_minds : MethodName := ⟨R_X, "minds", "(IIII)I"⟩
abbrev b_X_sheet : ByteArray := prog_1_method_38_code
def y_X_sheet : MethodName := ⟨R_X, "sheet", "(III)I"⟩
abbrev b_S_clearTo : ByteArray := prog_4_method_2_code
def y_S_clearTo : MethodName := ⟨R_S, "clearTo", "(II)V"⟩
abbrev b_X_put : ByteArray := prog_1_method_39_code
def y_X_put : MethodName := ⟨R_X, "put", "(III)I"⟩
abbrev b_S_hasItem : ByteArray := prog_4_method_3_code
def y_S_hasItem : MethodName := ⟨R_S, "hasItem", "(I)Z"⟩
abbrev b_S_narrowed : ByteArray := prog_4_method_4_code
def y_S_narrowed : MethodName := ⟨R_S, "narrowed", "(I)I"⟩
abbrev b_X_item : ByteArray := prog_1_method_40_code
def y_X_item : MethodName := ⟨R_X, "item", "(III)I"⟩
abbrev b_X_shelf : ByteArray := prog_1_method_41_code
def y_X_shelf : MethodName := ⟨R_X, "shelf", "(III)I"⟩
abbrev b_X_shelfAt : ByteArray := prog_1_method_57_code
def y_X_shelfAt : MethodName := ⟨R_X, "shelfAt", "(I)LSilenceCanal$Shelf;"⟩
abbrev b_H_clear : ByteArray := prog_5_method_2_code
def y_H_clear : MethodName := ⟨R_H, "clear", "()V"⟩
abbrev b_H_holdBarge : ByteArray := prog_5_method_3_code
def y_H_holdBarge : MethodName := ⟨R_H, "holdBarge", "(I)V"⟩
abbrev b_H_holdRow : ByteArray := prog_5_method_4_code
def y_H_holdRow : MethodName := ⟨R_H, "holdRow", "(II)V"⟩
abbrev b_X_taken : ByteArray := prog_1_method_42_code
def y_X_taken : MethodName := ⟨R_X, "taken", "(II)I"⟩
abbrev b_X_bargeOn : ByteArray := prog_1_method_58_code
def y_X_bargeOn : MethodName := ⟨R_X, "bargeOn", "(LSilenceCanal$Shelf;)I"⟩
abbrev b_X_isUnder : ByteArray := prog_1_method_55_code
def y_X_isUnder : MethodName := ⟨R_X, "isUnder", "(II)Z"⟩
abbrev b_X_act : ByteArray := prog_1_method_43_code
def y_X_act : MethodName := ⟨R_X, "act", "(III)I"⟩
abbrev b_A_perform : ByteArray := prog_2_method_2_code
def y_A_perform : MethodName := ⟨R_A, "perform", "(IIIII)I"⟩
abbrev b_A_bodyOf : ByteArray := prog_2_method_3_code
def y_A_bodyOf : MethodName := ⟨R_A, "bodyOf", "(I)I"⟩
abbrev b_A_run : ByteArray := prog_2_method_4_code
def y_A_run : MethodName := ⟨R_A, "run", "(III)I"⟩
abbrev b_A_partedBy : ByteArray := prog_2_method_5_code
def y_A_partedBy : MethodName := ⟨R_A, "partedBy", "(II)I"⟩
abbrev b_X_trace : ByteArray := prog_1_method_44_code
def y_X_trace : MethodName := ⟨R_X, "trace", "(I)I"⟩
abbrev b_X_many : ByteArray := prog_1_method_45_code
def y_X_many : MethodName := ⟨R_X, "many", "(I)I"⟩
abbrev b_C_locksWithLoss : ByteArray := prog_3_method_24_code
def y_C_locksWithLoss : MethodName := ⟨R_C, "locksWithLoss", "()I"⟩
abbrev b_X_keep : ByteArray := prog_1_method_46_code
def y_X_keep : MethodName := ⟨R_X, "keep", "()I"⟩
abbrev b_X_again : ByteArray := prog_1_method_47_code
def y_X_again : MethodName := ⟨R_X, "again", "()I"⟩
abbrev b_M_init : ByteArray := prog_8_method_1_code
def y_M_init : MethodName := ⟨R_M, "<init>", "()V"⟩
abbrev b_M_first : ByteArray := prog_8_method_2_code
def y_M_first : MethodName := ⟨R_M, "first", "()V"⟩
abbrev b_M_set : ByteArray := prog_8_method_26_code
def y_M_set : MethodName := ⟨R_M, "set", "(II)I"⟩
abbrev b_M_isLaw : ByteArray := prog_8_method_25_code
def y_M_isLaw : MethodName := ⟨R_M, "isLaw", "(II)Z"⟩
abbrev b_M_in : ByteArray := prog_8_method_4_code
def y_M_in : MethodName := ⟨R_M, "in", "(JJJ)Z"⟩
abbrev b_M_becomes : ByteArray := prog_8_method_10_code
def y_M_becomes : MethodName := ⟨R_M, "becomes", "(II)I"⟩
abbrev b_M_lawOf : ByteArray := prog_8_method_27_code
def y_M_lawOf : MethodName := ⟨R_M, "lawOf", "(I)I"⟩
abbrev b_M_barge : ByteArray := prog_8_method_29_code
def y_M_barge : MethodName := ⟨R_M, "barge", "(IIII)I"⟩
abbrev b_M_isLock : ByteArray := prog_8_method_7_code
def y_M_isLock : MethodName := ⟨R_M, "isLock", "(I)Z"⟩
abbrev b_M_comes : ByteArray := prog_8_method_28_code
def y_M_comes : MethodName := ⟨R_M, "comes", "(IIIII)I"⟩
abbrev b_M_puts : ByteArray := prog_8_method_9_code
def y_M_puts : MethodName := ⟨R_M, "puts", "(III)V"⟩
abbrev b_M_of : ByteArray := prog_8_method_30_code
def y_M_of : MethodName := ⟨R_M, "of", "(II)I"⟩
abbrev b_M_isBarge : ByteArray := prog_8_method_6_code
def y_M_isBarge : MethodName := ⟨R_M, "isBarge", "(I)Z"⟩
abbrev b_M_hasLanded : ByteArray := prog_8_method_16_code
def y_M_hasLanded : MethodName := ⟨R_M, "hasLanded", "(I)Z"⟩
abbrev b_M_get : ByteArray := prog_8_method_8_code
def y_M_get : MethodName := ⟨R_M, "get", "(II)I"⟩
abbrev b_M_does : ByteArray := prog_8_method_31_code
def y_M_does : MethodName := ⟨R_M, "does", "(II)I"⟩
abbrev b_M_pace : ByteArray := prog_8_method_14_code
def y_M_pace : MethodName := ⟨R_M, "pace", "(I)I"⟩
abbrev b_M_spills : ByteArray := prog_8_method_15_code
def y_M_spills : MethodName := ⟨R_M, "spills", "(I)I"⟩
abbrev b_M_mind : ByteArray := prog_8_method_32_code
def y_M_mind : MethodName := ⟨R_M, "mind", "(III)I"⟩
abbrev b_M_fill : ByteArray := prog_8_method_33_code
def y_M_fill : MethodName := ⟨R_M, "fill", "(II)I"⟩
abbrev b_M_bring : ByteArray := prog_8_method_34_code
def y_M_bring : MethodName := ⟨R_M, "bring", "(II)I"⟩
abbrev b_M_send : ByteArray := prog_8_method_35_code
def y_M_send : MethodName := ⟨R_M, "send", "(II)I"⟩
abbrev b_M_noise : ByteArray := prog_8_method_36_code
def y_M_noise : MethodName := ⟨R_M, "noise", "(II)I"⟩
abbrev b_M_lock : ByteArray := prog_8_method_37_code
def y_M_lock : MethodName := ⟨R_M, "lock", "(II)I"⟩
abbrev b_M_hours : ByteArray := prog_8_method_38_code
def y_M_hours : MethodName := ⟨R_M, "hours", "(I)I"⟩
abbrev b_M_hoursGo : ByteArray := prog_8_method_20_code
def y_M_hoursGo : MethodName := ⟨R_M, "hoursGo", "(I)V"⟩
abbrev b_M_hourGoes : ByteArray := prog_8_method_19_code
def y_M_hourGoes : MethodName := ⟨R_M, "hourGoes", "()V"⟩
abbrev b_M_goes : ByteArray := prog_8_method_18_code
def y_M_goes : MethodName := ⟨R_M, "goes", "(I)V"⟩
abbrev b_M_spilt : ByteArray := prog_8_method_17_code
def y_M_spilt : MethodName := ⟨R_M, "spilt", "(II)V"⟩
abbrev b_M_held : ByteArray := prog_8_method_5_code
def y_M_held : MethodName := ⟨R_M, "held", "(III)I"⟩
abbrev b_M_loads : ByteArray := prog_8_method_21_code
def y_M_loads : MethodName := ⟨R_M, "loads", "()I"⟩
abbrev b_M_seed : ByteArray := prog_8_method_39_code
def y_M_seed : MethodName := ⟨R_M, "seed", "(I)I"⟩
abbrev b_M_hour : ByteArray := prog_8_method_41_code
def y_M_hour : MethodName := ⟨R_M, "hour", "()I"⟩
abbrev b_M_drawn : ByteArray := prog_8_method_40_code
def y_M_drawn : MethodName := ⟨R_M, "drawn", "()I"⟩
abbrev b_M_spoilt : ByteArray := prog_8_method_42_code
def y_M_spoilt : MethodName := ⟨R_M, "spoilt", "(I)I"⟩
abbrev b_M_keepAside : ByteArray := prog_8_method_11_code
def y_M_keepAside : MethodName := ⟨R_M, "keepAside", "()V"⟩
abbrev b_M_cargoBehind : ByteArray := prog_8_method_46_code
def y_M_cargoBehind : MethodName := ⟨R_M, "cargoBehind", "(I)I"⟩
abbrev b_M_putBack : ByteArray := prog_8_method_12_code
def y_M_putBack : MethodName := ⟨R_M, "putBack", "()V"⟩
abbrev b_M_state : ByteArray := prog_8_method_44_code
def y_M_state : MethodName := ⟨R_M, "state", "(I)I"⟩
abbrev b_M_lostAll : ByteArray := prog_8_method_22_code
def y_M_lostAll : MethodName := ⟨R_M, "lostAll", "()I"⟩
abbrev b_M_landed : ByteArray := prog_8_method_23_code
def y_M_landed : MethodName := ⟨R_M, "landed", "()I"⟩
abbrev b_M_places : ByteArray := prog_8_method_24_code
def y_M_places : MethodName := ⟨R_M, "places", "()I"⟩
abbrev b_M_loudest : ByteArray := prog_8_method_43_code
def y_M_loudest : MethodName := ⟨R_M, "loudest", "()I"⟩
abbrev b_M_freight : ByteArray := prog_8_method_48_code
def y_M_freight : MethodName := ⟨R_M, "freight", "(II)I"⟩
abbrev b_M_loadOf : ByteArray := prog_8_method_47_code
def y_M_loadOf : MethodName := ⟨R_M, "loadOf", "(I)I"⟩
abbrev b_M_behind : ByteArray := prog_8_method_45_code
def y_M_behind : MethodName := ⟨R_M, "behind", "(II)I"⟩
abbrev b_M_lands : ByteArray := prog_8_method_49_code
def y_M_lands : MethodName := ⟨R_M, "lands", "(I)I"⟩
abbrev b_M_meets : ByteArray := prog_8_method_50_code
def y_M_meets : MethodName := ⟨R_M, "meets", "(II)I"⟩
abbrev b_M_quiet : ByteArray := prog_8_method_51_code
def y_M_quiet : MethodName := ⟨R_M, "quiet", "()I"⟩
abbrev b_M_cargo : ByteArray := prog_8_method_52_code
def y_M_cargo : MethodName := ⟨R_M, "cargo", "(I)I"⟩
abbrev b_M_stillFor : ByteArray := prog_8_method_54_code
def y_M_stillFor : MethodName := ⟨R_M, "stillFor", "(II)I"⟩
abbrev b_M_isShort : ByteArray := prog_8_method_53_code
def y_M_isShort : MethodName := ⟨R_M, "isShort", "(I)Z"⟩
abbrev b_M_kindFor : ByteArray := prog_8_method_55_code
def y_M_kindFor : MethodName := ⟨R_M, "kindFor", "(II)I"⟩
abbrev b_M_loadFor : ByteArray := prog_8_method_56_code
def y_M_loadFor : MethodName := ⟨R_M, "loadFor", "(III)I"⟩
abbrev b_M_hushedFor : ByteArray := prog_8_method_57_code
def y_M_hushedFor : MethodName := ⟨R_M, "hushedFor", "(II)I"⟩
abbrev b_M_bits : ByteArray := prog_8_method_13_code
def y_M_bits : MethodName := ⟨R_M, "bits", "(I)I"⟩
abbrev b_M_holdFor : ByteArray := prog_8_method_58_code
def y_M_holdFor : MethodName := ⟨R_M, "holdFor", "(I)I"⟩
abbrev b_M_fits : ByteArray := prog_8_method_59_code
def y_M_fits : MethodName := ⟨R_M, "fits", "(III)I"⟩
abbrev b_M_isSheet : ByteArray := prog_8_method_82_code
def y_M_isSheet : MethodName := ⟨R_M, "isSheet", "(I)Z"⟩
abbrev b_M_odds : ByteArray := prog_8_method_62_code
def y_M_odds : MethodName := ⟨R_M, "odds", "(III)J"⟩
abbrev b_M_ways : ByteArray := prog_8_method_63_code
def y_M_ways : MethodName := ⟨R_M, "ways", "(II)J"⟩
abbrev b_M_partOf : ByteArray := prog_8_method_61_code
def y_M_partOf : MethodName := ⟨R_M, "partOf", "(JJI)J"⟩
abbrev b_M_common : ByteArray := prog_8_method_60_code
def y_M_common : MethodName := ⟨R_M, "common", "(JJ)J"⟩
abbrev b_M_hope : ByteArray := prog_8_method_64_code
def y_M_hope : MethodName := ⟨R_M, "hope", "(II)J"⟩
abbrev b_M_feed : ByteArray := prog_8_method_65_code
def y_M_feed : MethodName := ⟨R_M, "feed", "(JI)I"⟩
abbrev b_M_canal : ByteArray := prog_8_method_76_code
def y_M_canal : MethodName := ⟨R_M, "canal", "()I"⟩
abbrev b_M_readsAll : ByteArray := prog_8_method_75_code
def y_M_readsAll : MethodName := ⟨R_M, "readsAll", "(Z)Z"⟩
abbrev b_M_next : ByteArray := prog_8_method_68_code
def y_M_next : MethodName := ⟨R_M, "next", "()V"⟩
abbrev b_M_isRow : ByteArray := prog_8_method_66_code
def y_M_isRow : MethodName := ⟨R_M, "isRow", "(CC)Z"⟩
abbrev b_M_wordThere : ByteArray := prog_8_method_67_code
def y_M_wordThere : MethodName := ⟨R_M, "wordThere", "()I"⟩
abbrev b_M_readsBarge : ByteArray := prog_8_method_72_code
def y_M_readsBarge : MethodName := ⟨R_M, "readsBarge", "(IIZ)Z"⟩
abbrev b_M_readsWord : ByteArray := prog_8_method_71_code
def y_M_readsWord : MethodName := ⟨R_M, "readsWord", "(I)Z"⟩
abbrev b_M_isWord : ByteArray := prog_8_method_69_code
def y_M_isWord : MethodName := ⟨R_M, "isWord", "(I)Z"⟩
abbrev b_M_reads : ByteArray := prog_8_method_70_code
def y_M_reads : MethodName := ⟨R_M, "reads", "(I)Z"⟩
abbrev b_M_readsNoise : ByteArray := prog_8_method_73_code
def y_M_readsNoise : MethodName := ⟨R_M, "readsNoise", "(Z)Z"⟩
abbrev b_M_readsLaw : ByteArray := prog_8_method_74_code
def y_M_readsLaw : MethodName := ⟨R_M, "readsLaw", "(IZ)Z"⟩
abbrev b_M_prove : ByteArray := prog_8_method_78_code
def y_M_prove : MethodName := ⟨R_M, "prove", "(II)I"⟩
abbrev b_M_mustBe : ByteArray := prog_8_method_77_code
def y_M_mustBe : MethodName := ⟨R_M, "mustBe", "(II)I"⟩
abbrev b_M_row : ByteArray := prog_8_method_79_code
def y_M_row : MethodName := ⟨R_M, "row", "(II)I"⟩
abbrev b_M_alterRow : ByteArray := prog_8_method_80_code
def y_M_alterRow : MethodName := ⟨R_M, "alterRow", "(III)I"⟩
abbrev b_M_judge : ByteArray := prog_8_method_81_code
def y_M_judge : MethodName := ⟨R_M, "judge", "(I)I"⟩
abbrev b_M_minds : ByteArray := prog_8_method_83_code
def y_M_minds : MethodName := ⟨R_M, "minds", "(IIII)I"⟩
abbrev b_M_sheet : ByteArray := prog_8_method_84_code
def y_M_sheet : MethodName := ⟨R_M, "sheet", "(III)I"⟩
abbrev b_M_put : ByteArray := prog_8_method_85_code
def y_M_put : MethodName := ⟨R_M, "put", "(III)I"⟩
abbrev b_M_item : ByteArray := prog_8_method_86_code
def y_M_item : MethodName := ⟨R_M, "item", "(III)I"⟩
abbrev b_M_shelf : ByteArray := prog_8_method_87_code
def y_M_shelf : MethodName := ⟨R_M, "shelf", "(III)I"⟩
abbrev b_M_taken : ByteArray := prog_8_method_90_code
def y_M_taken : MethodName := ⟨R_M, "taken", "(II)I"⟩
abbrev b_M_holdsNothing : ByteArray := prog_8_method_88_code
def y_M_holdsNothing : MethodName := ⟨R_M, "holdsNothing", "(I)Z"⟩
abbrev b_M_above : ByteArray := prog_8_method_89_code
def y_M_above : MethodName := ⟨R_M, "above", "(I)I"⟩
abbrev b_M_act : ByteArray := prog_8_method_96_code
def y_M_act : MethodName := ⟨R_M, "act", "(III)I"⟩
abbrev b_M_floatsBy : ByteArray := prog_8_method_92_code
def y_M_floatsBy : MethodName := ⟨R_M, "floatsBy", "(II)I"⟩
abbrev b_M_ran : ByteArray := prog_8_method_91_code
def y_M_ran : MethodName := ⟨R_M, "ran", "(I)V"⟩
abbrev b_M_slopsBy : ByteArray := prog_8_method_93_code
def y_M_slopsBy : MethodName := ⟨R_M, "slopsBy", "(II)I"⟩
abbrev b_M_partsBy : ByteArray := prog_8_method_94_code
def y_M_partsBy : MethodName := ⟨R_M, "partsBy", "(II)I"⟩
abbrev b_M_landsBy : ByteArray := prog_8_method_95_code
def y_M_landsBy : MethodName := ⟨R_M, "landsBy", "(II)I"⟩
abbrev b_M_trace : ByteArray := prog_8_method_97_code
def y_M_trace : MethodName := ⟨R_M, "trace", "(I)I"⟩
abbrev b_M_many : ByteArray := prog_8_method_99_code
def y_M_many : MethodName := ⟨R_M, "many", "(I)I"⟩
abbrev b_M_spoiltLocks : ByteArray := prog_8_method_98_code
def y_M_spoiltLocks : MethodName := ⟨R_M, "spoiltLocks", "()I"⟩
abbrev b_M_keep : ByteArray := prog_8_method_100_code
def y_M_keep : MethodName := ⟨R_M, "keep", "()I"⟩
abbrev b_M_again : ByteArray := prog_8_method_101_code
def y_M_again : MethodName := ⟨R_M, "again", "()I"⟩
end
section
/-! ===== the judgement G: the machine at a method's frame, over a world of cells, locals and operands as lists ===== -/
/-- where a walk runs: machine, launch, environment, room, state at entry, method, arguments, frames below, method row, code, class numbers, array classes, what may be written, number of locals, goal, addresses of static rows and texts -/
abbrev GX : Type := Program × Launch × Env × Room × State × MethodId × Array Value × List Frame × Method × Code × va_G × (Nat → ClassId) × (Nat → Prop) × Nat × (State → Prop) × (Nat → Nat)
def xp (X : GX) : Program := X.1
def xl (X : GX) : Launch := X.2.1
def xe (X : GX) : Env := X.2.2.1
def xR (X : GX) : Room := X.2.2.2.1
def xs (X : GX) : State := X.2.2.2.2.1
def xm (X : GX) : MethodId := X.2.2.2.2.2.1
def xa (X : GX) : Array Value := X.2.2.2.2.2.2.1
def xb (X : GX) : List Frame := X.2.2.2.2.2.2.2.1
def xM (X : GX) : Method := X.2.2.2.2.2.2.2.2.1
def xc (X : GX) : Code := X.2.2.2.2.2.2.2.2.2.1
def xD (X : GX) : va_G := X.2.2.2.2.2.2.2.2.2.2.1
def xt (X : GX) : Nat → ClassId := X.2.2.2.2.2.2.2.2.2.2.2.1
def xA (X : GX) : Nat → Prop := X.2.2.2.2.2.2.2.2.2.2.2.2.1
def xn (X : GX) : Nat := X.2.2.2.2.2.2.2.2.2.2.2.2.2.1
def xQ (X : GX) : State → Prop := X.2.2.2.2.2.2.2.2.2.2.2.2.2.2.1
def xv (X : GX) : Nat → Nat := X.2.2.2.2.2.2.2.2.2.2.2.2.2.2.2
abbrev tysOf (t : Nat → ClassId) : List (ClassId × FieldType) := [(t 0, .byte), (t 1, .char), (t 2, .int), (t 3, .long), (t 4, .object "SilenceCanal$Sheet"), (t 5, .object "SilenceCanal$Shelf")]
/-- the static rows, as ints -/
def tbFirst : List Int32 := [3, 2, 1, 20]
def tbMost : List Int32 := [9, 9, 9, 99]
def tbAbove : List Int32 := [-1, 0, 0, 1, 2, 0]
def tbBodies : List Int32 := [10, 11, 12, 13, 10, 20, 12, 13, 30, 11, 12, 31, 51, 20, 50, 13, 40, 41, 12, 31, 10, 11, 61, 60]
/-- the texts: place in the constants of SilenceCanal$Text, text -/
def txAt : List (Nat × String) := [(114, "barge"), (104, "mute"), (106, "lover"), (108, "bishop"), (110, "miller"), (112, "dealer"), (66, "at"), (72, "for"), (74, "load"), (76, "other"), (97, "is"), (56, "noise"), (116, "echo"), (118, "hush"), (120, "wind"), (122, "laugh")]
def txLen : List Nat := txAt.map fun q => q.2.length
def txByt : List (List Int32) := txAt.map fun q => q.2.toList.map fun c => Int32.ofNat c.toNat
def vaK (ev : Nat → Nat) : Nat → Nat := fun i => ev (8 + i)
def vaV (ev : Nat → Nat) : Nat → Nat := fun i => ev (32 + i)
def E_st (f : String) (a N : Nat) (xs : List Int32) (A : Nat → Prop) (U : State) (H : Heap) : Prop := va_Z R_X f "[I" (.ref a) A U H ∧ va_T .int a N (fun j => .int (xs.getD j 0)) A U H
/-- links between nest mates: a class, a place among its constants, a static field of SilenceCanal, or a method -/
def nwF : List (String × Nat × String) := [(R_C, 49, "LAWS_AT_FIRST"), (R_T, 90, "LAWS_AT_MOST"), (R_A, 40, "BODIES")]
def nwM : List (String × Nat × MethodName) := [(R_X, 28, y_T_init), (R_X, 55, y_A_init), (R_X, 60, y_S_init), (R_X, 61, y_H_init), (R_T, 86, y_X_isLaw), (R_T, 99, y_X_isLock), (R_C, 68, y_X_isLock), (R_C, 104, y_X_heldLoad)]
/-- what stands before and is never written: static rows, texts -/
def ENV (ev : Nat → Nat) (A : Nat → Prop) (U : State) (H : Heap) : Prop :=
  E_st "LAWS_AT_FIRST" (ev 0) 4 tbFirst A U H ∧ E_st "LAWS_AT_MOST" (ev 1) 4 tbMost A U H ∧ E_st "KIND_ABOVE" (ev 2) 6 tbAbove A U H ∧ E_st "BODIES" (ev 3) 24 tbBodies A U H ∧ va_Z "java/lang/String" "COMPACT_STRINGS" "Z" (.int 1) A U H ∧ vk_S 16 txLen txByt (vaK ev) (vaV ev) A U H ∧ va_Zq "jdk/internal/util/Preconditions" "SIOOBE_FORMATTER" "Ljava/util/function/BiFunction;" A U H ∧ (∀ i q, txAt[i]? = some q → vk_R "SilenceCanal$Text" q.1 q.2 (vaK ev i) U) ∧ (∀ q ∈ nwF, va_Nw (.fieldLinkNest q.1 q.2.1 R_X q.2.2 "[I" R_X) U) ∧ (∀ q ∈ nwM, va_Nw (.methodLinkNest q.1 q.2.1 q.2.2 R_X) U)
theorem E_st.go {f : String} {a N : Nat} {xs : List Int32} {A B : Nat → Prop} {u U : State} {H H1 : Heap} (h : E_st f a N xs A u H) (hq : ∀ q : Nat, q < H.size → ¬ A q → H1[q]? = H[q]?) (hAB : ∀ q, B q → A q) (hvm : u.vm.Alike U.vm) : E_st f a N xs B U H1 :=
  ⟨((h.1.kept hq).narrow hAB).moved hvm, ((h.2.kept hq).narrow hAB).moved hvm⟩
theorem ENV.go {ev : Nat → Nat} {A B : Nat → Prop} {u U : State} {H H1 : Heap} (h : ENV ev A u H) (hq : ∀ q : Nat, q < H.size → ¬ A q → H1[q]? = H[q]?) (hAB : ∀ q, B q → A q) (hW : u.WarmedH U.vm) : ENV ev B U H1 :=
  ⟨h.1.go hq hAB hW.alike, h.2.1.go hq hAB hW.alike, h.2.2.1.go hq hAB hW.alike, h.2.2.2.1.go hq hAB hW.alike, ((h.2.2.2.2.1.kept hq).narrow hAB).moved hW.alike, ((h.2.2.2.2.2.1.kept hq).narrow hAB).moved hW.alike, ((h.2.2.2.2.2.2.1.kept hq).narrow hAB).moved hW.alike, fun i q hi => (h.2.2.2.2.2.2.2.1 i q hi).warm hW, fun q hi => (h.2.2.2.2.2.2.2.2.1 q hi).warmF hW, fun q hi => (h.2.2.2.2.2.2.2.2.2 q hi).warmM hW⟩
def G (X : GX) (k z : Nat) (ws : va_W) (lv : List (Nat × Value)) (st : List Value) (pc : Nat) : Prop :=
  ∀ (H : Heap) (locs : List Loc) (ls : Array Slot), va_P (xD X) classes ws H → va_D (xA X) ws → va_S (xA X) (xs X).heap H locs → lv_has ls (xn X) lv → W (xp X) (xl X) (xe X) (xR X) (xs X) (xm X) (xa X) (xb X) (xM X) (xc X) H locs k z (xQ X) (F0 (xm X) pc ls st)
def rmd (d : Nat) : Room := { frames := d, cells := 0, slots := 0, locals := 40 * d }
/-- what a walk may use: its bytes, its class, its locals, its room -/
def GC (X : GX) (cc : ByteArray) (own : String) (n : Nat) (R : Room) : Prop :=
  (xp X).tables.exec = Jvm.exec ∧ (xc X).code = cc ∧ (xc X).maxLocals = xn X ∧ (xs X).vm.findClass own = some (xm X).cls ∧ (∀ w ∈ TB, w.before (xa X) (xs X) = true) ∧ va_K (xD X) classes (tysOf (xt X)) (xs X) ∧ (∀ q, (xs X).heap.size ≤ q → xA X q) ∧ ENV (xv X) (xA X) (xs X) (xs X).heap ∧ (xM X).locks = false ∧ xn X = n ∧ xR X = R
/-- a contract's end -/
def QG (D : va_G) (A : Nat → Prop) (Qp : Option Value → va_W → Prop) : Array Value → State → Outcome → State → Prop := fun _ st oc t => (∃ (r : Option Value) (u : va_W), oc = .returned r ∧ Qp r u ∧ va_P D classes u t.heap ∧ va_D A u) ∧ va_F A st t
def RC (X : GX) (ret : Option FieldType) (Qp : Option Value → va_W → Prop) (mc ms : Nat) : Prop := (xM X).sig.returnType = ret ∧ xQ X = MQ (xb X) (QG (xD X) (xA X) Qp) (xa X) (xs X) mc ms (xA X)
/-- a contract: over the cells ws, with the arguments av, the method returns r with the cells u, and Qp r u -/
def ConR (l : Launch) (D : va_G) (t : Nat → ClassId) (ev : Nat → Nat) (y : MethodName) (b : ByteArray) (L : Nat) (ret : Option FieldType) (rm : Room) (mc ms : Nat) (ws : va_W) (av : List Value) (Qp : Option Value → va_W → Prop) : Prop :=
  ∀ sz : Nat, Met l y (.code y b L ret :: TB) rm (va_Pc av (fun U => U.heap.size = sz ∧ va_P D classes ws U.heap ∧ va_K D classes (tysOf t) U ∧ va_D (fun _ => True) ws ∧ ENV ev (va_A ws sz) U U.heap)) (QG D (va_A ws sz) Qp) mc ms (va_A ws sz)
def Con (l : Launch) (D : va_G) (t : Nat → ClassId) (ev : Nat → Nat) (y : MethodName) (b : ByteArray) (L : Nat) (ret : Option FieldType) (d : Nat) (ws : va_W) (av : List Value) (Qp : Option Value → va_W → Prop) : Prop := ConR l D t ev y b L ret (rmd d) 0 0 ws av (fun r u => Qp r u ∧ u.map Prod.fst = ws.map Prod.fst)
theorem ConR.of {l : Launch} {D : va_G} {t : Nat → ClassId} {ev : Nat → Nat} {y : MethodName} {b : ByteArray} {L : Nat} {ret : Option FieldType} {rm : Room} {mc ms : Nat} {ws : va_W} {av : List Value} {Qp : Option Value → va_W → Prop} (hy : plainFor y = true) (hal : (lg_sl av).length ≤ L)
    (h : ∀ X : GX, xl X = l → xD X = D → xt X = t → xv X = ev → GC X b y.cls L rm → RC X ret Qp mc ms → (y.name = "<init>" → (xM X).name = "<init>") → G X 0 0 ws (lv_args 0 av) [] 0) : ConR l D t ev y b L ret rm mc ms ws av Qp := by
  intro sz
  refine va_MetF (cc := b) (maxL := L) (ret := ret) hy rfl ?_
  intro p e s m args below meth c s₁ B hml hv
  obtain ⟨rfl, hsz, hP, hK, hD0, hE⟩ := hv
  have hts := atoms_spec (ws := Cond.code y b L ret :: TB) B.pre
  subst hsz
  have hA : ∀ q : Nat, s.heap.size ≤ q → va_A ws s.heap.size q := fun q h => Or.inr h
  have hl := lv_entry av (n := L) hal
  rw [lg_entry_eq]
  have := h (p, l, e, rm, s, m, av.toArray, below, meth, c, D, t, va_A ws s.heap.size, L, MQ below (QG D (va_A ws s.heap.size) Qp) av.toArray s mc ms (va_A ws s.heap.size), ev) rfl rfl rfl rfl
    ⟨B.exec, B.bytes, hml, findClass_of_methodNamed B.named, fun w hw => hts w (List.mem_cons_of_mem _ hw), hK, hA, hE, B.notSynchronized, rfl, rfl⟩ ⟨B.returns, rfl⟩ (fun hn => (name_of_methodNamed B.named B.method).1.trans hn)
  exact this s.heap [] _ hP hD0.self va_S.rf hl
/-- a local set, the list kept in order -/
def lvins (i : Nat) (v : Value) : List (Nat × Value) → List (Nat × Value)
  | [] => [(i, v)]
  | q :: r => if q.1 < i then q :: lvins i v r else (i, v) :: q :: r
theorem lvins_mem {i : Nat} {v : Value} {q : Nat × Value} : ∀ {l : List (Nat × Value)}, q ∈ lvins i v l → q = (i, v) ∨ q ∈ l
  | [], h => by simpa [lvins] using h
  | p :: r, h => by
    unfold lvins at h
    split at h
    · rcases List.mem_cons.mp h with rfl | h
      · exact Or.inr List.mem_cons_self
      · rcases lvins_mem h with h | h
        · exact Or.inl h
        · exact Or.inr (List.mem_cons_of_mem _ h)
    · exact List.mem_cons.mp h
theorem lvins_has {ls : Array Slot} {n i : Nat} {v : Value} {l : List (Nat × Value)} (h : lv_has ls n ((i, v) :: l)) : lv_has ls n (lvins i v l) :=
  ⟨h.1, h.2.1, fun q hq => h.2.2 q (List.mem_cons.mpr (lvins_mem hq))⟩
abbrev lvp (i : Nat) (v : Value) (l : List (Nat × Value)) : List (Nat × Value) := lvins i v (l.filter (fun q => !(q.1 == i) && !(q.1 + 1 == i && q.2.category == 2)))
abbrev lvq (i : Nat) (v : Value) (l : List (Nat × Value)) : List (Nat × Value) := lvins i v (l.filter (fun q => !(q.1 == i) && (!(q.1 == i + 1) && !(q.1 + 1 == i && q.2.category == 2))))
/-- a world with some cells put anew -/
def scat : va_W → List Nat → va_W → va_W
  | ws, i :: is, e :: es => scat (ws.set i e) is es
  | ws, _, _ => ws
theorem scat_out : ∀ (is : List Nat) (u ws : va_W) (k : Nat), k ∉ is → (scat ws is u)[k]? = ws[k]?
  | [], _, _, _, _ => by simp [scat]
  | i :: is, [], _, _, _ => by simp [scat]
  | i :: is, e :: es, ws, k, h => by
    rw [scat, scat_out is es _ k (fun h2 => h (List.mem_cons_of_mem _ h2))]
    exact List.getElem?_set_ne (fun (q : i = k) => h (by rw [q]; exact List.mem_cons_self))
theorem scat_len : ∀ (is : List Nat) (u ws : va_W), (scat ws is u).length = ws.length
  | [], _, _ => by simp [scat]
  | i :: is, [], _ => by simp [scat]
  | i :: is, e :: es, ws => by rw [scat, scat_len]; simp
theorem scat_in : ∀ (is : List Nat) (u ws : va_W) (j k : Nat) (e : Nat × va_E), va_nd is = true → is[j]? = some k → u[j]? = some e → k < ws.length → (scat ws is u)[k]? = some e
  | [], _, _, j, _, _, _, h, _, _ => by simp at h
  | i :: is, [], _, j, _, _, _, _, h, _ => by simp at h
  | i :: is, e0 :: es, ws, j, k, e, hn, h1, h2, h3 => by
    rw [scat]
    have hnd : i ∉ is ∧ va_nd is = true := by simpa [va_nd] using hn
    match j, h1, h2 with
    | 0, h1, h2 =>
      simp at h1 h2
      subst h1; subst h2
      rw [scat_out is es _ _ hnd.1]
      simp [h3]
    | j + 1, h1, h2 => exact scat_in is es _ j k e hnd.2 (by simpa using h1) (by simpa using h2) (by simpa using h3)
theorem scat_ok {D : va_G} {A : Nat → Prop} {ws wc u : va_W} {isC : List Nat} {H H1 : Heap} (hP : va_P D classes ws H) (hD : va_D A ws) (hC : isC.map (fun i => ws[i]?) = wc.map some) (hn : va_nd isC = true)
    (hk : ∀ q : Nat, q < H.size → ¬ va_A wc H.size q → H1[q]? = H[q]?) (hP1 : va_P D classes u H1) (hu : u.map Prod.fst = wc.map Prod.fst) : va_P D classes (scat ws isC u) H1 ∧ va_D A (scat ws isC u) := by
  have hl1 : isC.length = wc.length := by simpa using congrArg List.length hC
  have hl2 : u.length = wc.length := by simpa using congrArg List.length hu
  have hat : ∀ (j k : Nat), isC[j]? = some k → ws[k]? = wc[j]? := by
    intro j k hj
    have := congrArg (fun l => l[j]?) hC
    simp only [List.getElem?_map, hj, Option.map_some] at this
    cases hw : wc[j]? with
    | none => rw [hw] at this; simp at this
    | some q => rw [hw] at this; simpa using this
  have key : ∀ (k : Nat) (q : Nat × va_E), (scat ws isC u)[k]? = some q → (∃ j : Nat, isC[j]? = some k ∧ u[j]? = some q) ∨ (k ∉ isC ∧ ws[k]? = some q) := by
    intro k q hq
    by_cases hm : k ∈ isC
    · obtain ⟨j, hj, hjk⟩ := List.getElem_of_mem hm
      have hj1 : isC[j]? = some k := by rw [List.getElem?_eq_getElem hj, hjk]
      have hj2 : j < u.length := by omega
      have hjw : j < wc.length := by omega
      have hkl : k < ws.length := by
        have := hat j k hj1
        rw [List.getElem?_eq_getElem hjw] at this
        exact (List.getElem?_eq_some_iff.mp this).1
      have := scat_in isC u ws j k u[j] hn hj1 (List.getElem?_eq_getElem hj2) hkl
      rw [this] at hq
      cases hq
      exact Or.inl ⟨j, hj1, List.getElem?_eq_getElem hj2⟩
    · rw [scat_out isC u ws k hm] at hq
      exact Or.inr ⟨hm, hq⟩
  have adr : ∀ (k : Nat) (q : Nat × va_E), (scat ws isC u)[k]? = some q → ∃ q' : Nat × va_E, ws[k]? = some q' ∧ q'.1 = q.1 := by
    intro k q hq
    rcases key k q hq with ⟨j, h1, h2⟩ | ⟨-, h2⟩
    · have hjl : j < wc.length := by have := (List.getElem?_eq_some_iff.mp h2).1; omega
      have h3 := hat j k h1
      rw [List.getElem?_eq_getElem hjl] at h3
      refine ⟨_, h3, ?_⟩
      have := congrArg (fun l => l[j]?) hu
      simp only [List.getElem?_map, h2, Option.map_some, List.getElem?_eq_getElem hjl] at this
      exact (Option.some.inj this).symm
    · exact ⟨q, h2, rfl⟩
  refine ⟨fun k q hq => ?_, fun i j p q hi hj he => ?_, fun k q hq => ?_⟩
  · rcases key k q hq with ⟨j, -, h2⟩ | ⟨h1, h2⟩
    · exact hP1 j q h2
    · have ha := hP k q h2
      refine ha.kept (hk _ ha.lt ?_)
      rintro (⟨j, e, hj⟩ | hge)
      · have hjl : j < isC.length := by have := (List.getElem?_eq_some_iff.mp hj).1; omega
        have h3 := hat j isC[j] (List.getElem?_eq_getElem hjl)
        rw [hj] at h3
        exact h1 ((hD.1 k isC[j] q _ h2 h3 rfl) ▸ List.getElem_mem hjl)
      · exact absurd ha.lt (by omega)
  · obtain ⟨p', h1, e1⟩ := adr i p hi
    obtain ⟨q', h2, e2⟩ := adr j q hj
    exact hD.1 i j p' q' h1 h2 (by rw [e1, e2]; exact he)
  · obtain ⟨q', h1, e1⟩ := adr k q hq
    rw [← e1]
    exact hD.2 k q' h1
section GROWS
variable {X : GX} {cc : ByteArray} {own : String} {n : Nat} {R : Room} {k z : Nat} {ws ws' : va_W} {lv lv' : List (Nat × Value)} {st : List Value} {pc tgt : Nat} {off : Int}

theorem g_iadd (C : GC X cc own n R) {x y : Int32} (d : decode cc pc = .ok (.iadd, 1))  (h : G X k z ws lv (.int (x + y) :: st) (pc + 1)) : G X k z ws lv (.int y :: .int x :: st) pc := fun H locs ls hP hD hS hl => lv_iadd C.1 C.2.1 d (h H locs ls hP hD hS hl)
theorem g_isub (C : GC X cc own n R) {x y : Int32} (d : decode cc pc = .ok (.isub, 1))  (h : G X k z ws lv (.int (x - y) :: st) (pc + 1)) : G X k z ws lv (.int y :: .int x :: st) pc := fun H locs ls hP hD hS hl => lv_isub C.1 C.2.1 d (h H locs ls hP hD hS hl)
theorem g_imul (C : GC X cc own n R) {x y : Int32} (d : decode cc pc = .ok (.imul, 1))  (h : G X k z ws lv (.int (x * y) :: st) (pc + 1)) : G X k z ws lv (.int y :: .int x :: st) pc := fun H locs ls hP hD hS hl => lv_imul C.1 C.2.1 d (h H locs ls hP hD hS hl)
theorem g_iand (C : GC X cc own n R) {x y : Int32} (d : decode cc pc = .ok (.iand, 1))  (h : G X k z ws lv (.int (x &&& y) :: st) (pc + 1)) : G X k z ws lv (.int y :: .int x :: st) pc := fun H locs ls hP hD hS hl => lv_iand C.1 C.2.1 d (h H locs ls hP hD hS hl)
theorem g_ior (C : GC X cc own n R) {x y : Int32} (d : decode cc pc = .ok (.ior, 1))  (h : G X k z ws lv (.int (x ||| y) :: st) (pc + 1)) : G X k z ws lv (.int y :: .int x :: st) pc := fun H locs ls hP hD hS hl => lv_ior C.1 C.2.1 d (h H locs ls hP hD hS hl)
theorem g_ixor (C : GC X cc own n R) {x y : Int32} (d : decode cc pc = .ok (.ixor, 1))  (h : G X k z ws lv (.int (x ^^^ y) :: st) (pc + 1)) : G X k z ws lv (.int y :: .int x :: st) pc := fun H locs ls hP hD hS hl => lv_ixor C.1 C.2.1 d (h H locs ls hP hD hS hl)
theorem g_ishl (C : GC X cc own n R) {x y : Int32} (d : decode cc pc = .ok (.ishl, 1))  (h : G X k z ws lv (.int (x <<< (y &&& 31)) :: st) (pc + 1)) : G X k z ws lv (.int y :: .int x :: st) pc := fun H locs ls hP hD hS hl => lv_ishl C.1 C.2.1 d (h H locs ls hP hD hS hl)
theorem g_ishr (C : GC X cc own n R) {x y : Int32} (d : decode cc pc = .ok (.ishr, 1))  (h : G X k z ws lv (.int (x >>> (y &&& 31)) :: st) (pc + 1)) : G X k z ws lv (.int y :: .int x :: st) pc := fun H locs ls hP hD hS hl => lv_ishr C.1 C.2.1 d (h H locs ls hP hD hS hl)
theorem g_idiv (C : GC X cc own n R) {x y : Int32} (d : decode cc pc = .ok (.idiv, 1)) (hn : ¬ y = 0) (h : G X k z ws lv (.int (x / y) :: st) (pc + 1)) : G X k z ws lv (.int y :: .int x :: st) pc := fun H locs ls hP hD hS hl => lv_idiv C.1 C.2.1 d hn (h H locs ls hP hD hS hl)
theorem g_irem (C : GC X cc own n R) {x y : Int32} (d : decode cc pc = .ok (.irem, 1)) (hn : ¬ y = 0) (h : G X k z ws lv (.int (x - x / y * y) :: st) (pc + 1)) : G X k z ws lv (.int y :: .int x :: st) pc := fun H locs ls hP hD hS hl => lv_irem C.1 C.2.1 d hn (h H locs ls hP hD hS hl)
theorem g_iushr (C : GC X cc own n R) {x y : Int32} (d : decode cc pc = .ok (.iushr, 1))  (h : G X k z ws lv (.int ((x.toUInt32 >>> (y.toUInt32 &&& Int32.toUInt32 31)).toInt32) :: st) (pc + 1)) : G X k z ws lv (.int y :: .int x :: st) pc := fun H locs ls hP hD hS hl => lv_iushr C.1 C.2.1 d rfl (h H locs ls hP hD hS hl)
theorem g_ineg (C : GC X cc own n R) {x : Int32} (d : decode cc pc = .ok (.ineg, 1))  (h : G X k z ws lv (.int (-x) :: st) (pc + 1)) : G X k z ws lv (.int x :: st) pc := fun H locs ls hP hD hS hl => lv_ineg C.1 C.2.1 d (h H locs ls hP hD hS hl)
theorem g_ladd (C : GC X cc own n R) {x y : Int64} (d : decode cc pc = .ok (.ladd, 1))  (h : G X k z ws lv (.long (x + y) :: st) (pc + 1)) : G X k z ws lv (.long y :: .long x :: st) pc := fun H locs ls hP hD hS hl => lv_ladd C.1 C.2.1 d (h H locs ls hP hD hS hl)
theorem g_lsub (C : GC X cc own n R) {x y : Int64} (d : decode cc pc = .ok (.lsub, 1))  (h : G X k z ws lv (.long (x - y) :: st) (pc + 1)) : G X k z ws lv (.long y :: .long x :: st) pc := fun H locs ls hP hD hS hl => lv_lsub C.1 C.2.1 d (h H locs ls hP hD hS hl)
theorem g_lmul (C : GC X cc own n R) {x y : Int64} (d : decode cc pc = .ok (.lmul, 1))  (h : G X k z ws lv (.long (x * y) :: st) (pc + 1)) : G X k z ws lv (.long y :: .long x :: st) pc := fun H locs ls hP hD hS hl => lv_lmul C.1 C.2.1 d (h H locs ls hP hD hS hl)
theorem g_land (C : GC X cc own n R) {x y : Int64} (d : decode cc pc = .ok (.land, 1))  (h : G X k z ws lv (.long (x &&& y) :: st) (pc + 1)) : G X k z ws lv (.long y :: .long x :: st) pc := fun H locs ls hP hD hS hl => lv_land C.1 C.2.1 d (h H locs ls hP hD hS hl)
theorem g_lor (C : GC X cc own n R) {x y : Int64} (d : decode cc pc = .ok (.lor, 1))  (h : G X k z ws lv (.long (x ||| y) :: st) (pc + 1)) : G X k z ws lv (.long y :: .long x :: st) pc := fun H locs ls hP hD hS hl => lv_lor C.1 C.2.1 d (h H locs ls hP hD hS hl)
theorem g_lxor (C : GC X cc own n R) {x y : Int64} (d : decode cc pc = .ok (.lxor, 1))  (h : G X k z ws lv (.long (x ^^^ y) :: st) (pc + 1)) : G X k z ws lv (.long y :: .long x :: st) pc := fun H locs ls hP hD hS hl => lv_lxor C.1 C.2.1 d (h H locs ls hP hD hS hl)
theorem g_ldiv (C : GC X cc own n R) {x y : Int64} (d : decode cc pc = .ok (.ldiv, 1)) (hn : ¬ y = 0) (h : G X k z ws lv (.long (x / y) :: st) (pc + 1)) : G X k z ws lv (.long y :: .long x :: st) pc := fun H locs ls hP hD hS hl => lv_ldiv C.1 C.2.1 d hn (h H locs ls hP hD hS hl)
theorem g_lrem (C : GC X cc own n R) {x y : Int64} (d : decode cc pc = .ok (.lrem, 1)) (hn : ¬ y = 0) (h : G X k z ws lv (.long (x - x / y * y) :: st) (pc + 1)) : G X k z ws lv (.long y :: .long x :: st) pc := fun H locs ls hP hD hS hl => lv_lrem C.1 C.2.1 d hn (h H locs ls hP hD hS hl)
theorem g_lshl (C : GC X cc own n R) {x : Int64} {y : Int32} (d : decode cc pc = .ok (.lshl, 1))  (h : G X k z ws lv (.long (x <<< (y.toInt64 &&& 63)) :: st) (pc + 1)) : G X k z ws lv (.int y :: .long x :: st) pc := fun H locs ls hP hD hS hl => lv_lshl C.1 C.2.1 d rfl (h H locs ls hP hD hS hl)
theorem g_lshr (C : GC X cc own n R) {x : Int64} {y : Int32} (d : decode cc pc = .ok (.lshr, 1))  (h : G X k z ws lv (.long (x >>> (y.toInt64 &&& 63)) :: st) (pc + 1)) : G X k z ws lv (.int y :: .long x :: st) pc := fun H locs ls hP hD hS hl => lv_lshr C.1 C.2.1 d rfl (h H locs ls hP hD hS hl)
theorem g_lushr (C : GC X cc own n R) {x : Int64} {y : Int32} (d : decode cc pc = .ok (.lushr, 1))  (h : G X k z ws lv (.long ((x.toUInt64 >>> (y.toInt64.toUInt64 &&& Int64.toUInt64 63)).toInt64) :: st) (pc + 1)) : G X k z ws lv (.int y :: .long x :: st) pc := fun H locs ls hP hD hS hl => lv_lushr C.1 C.2.1 d rfl (h H locs ls hP hD hS hl)
theorem g_lcmp (C : GC X cc own n R) {x y : Int64} (d : decode cc pc = .ok (.lcmp, 1))  (h : G X k z ws lv (.int (lg_cmp x y) :: st) (pc + 1)) : G X k z ws lv (.long y :: .long x :: st) pc := fun H locs ls hP hD hS hl => W.lcmp C.1 C.2.1 d (h H locs ls hP hD hS hl)
theorem g_i2l (C : GC X cc own n R) {x : Int32} (d : decode cc pc = .ok (.i2l, 1))  (h : G X k z ws lv (.long (x.toInt64) :: st) (pc + 1)) : G X k z ws lv (.int x :: st) pc := fun H locs ls hP hD hS hl => lv_i2l C.1 C.2.1 d rfl (h H locs ls hP hD hS hl)
theorem g_l2i (C : GC X cc own n R) {x : Int64} (d : decode cc pc = .ok (.l2i, 1))  (h : G X k z ws lv (.int (x.toInt32) :: st) (pc + 1)) : G X k z ws lv (.long x :: st) pc := fun H locs ls hP hD hS hl => lv_l2i C.1 C.2.1 d rfl (h H locs ls hP hD hS hl)
theorem g_i2b (C : GC X cc own n R) {x : Int32} (d : decode cc pc = .ok (.i2b, 1))  (h : G X k z ws lv (.int (x.toInt8.toInt32) :: st) (pc + 1)) : G X k z ws lv (.int x :: st) pc := fun H locs ls hP hD hS hl => lv_i2b C.1 C.2.1 d rfl (h H locs ls hP hD hS hl)
theorem g_i2s (C : GC X cc own n R) {x : Int32} (d : decode cc pc = .ok (.i2s, 1))  (h : G X k z ws lv (.int (x.toInt16.toInt32) :: st) (pc + 1)) : G X k z ws lv (.int x :: st) pc := fun H locs ls hP hD hS hl => lv_i2s C.1 C.2.1 d rfl (h H locs ls hP hD hS hl)
theorem g_i2c (C : GC X cc own n R) {x : Int32} (d : decode cc pc = .ok (.i2c, 1))  (h : G X k z ws lv (.int ((x.toUInt32 % 65536).toInt32) :: st) (pc + 1)) : G X k z ws lv (.int x :: st) pc := fun H locs ls hP hD hS hl => lv_i2c C.1 C.2.1 d rfl (h H locs ls hP hD hS hl)
theorem g_iconst (C : GC X cc own n R) {i : Int} {v : Int32} (d : decode cc pc = .ok (.iconst i, 1)) (hv : Int32.ofInt i = v) (h : G X k z ws lv (.int v :: st) (pc + 1)) : G X k z ws lv (st) pc := fun H locs ls hP hD hS hl => lv_iconst C.1 C.2.1 d hv (h H locs ls hP hD hS hl)
theorem g_lconst (C : GC X cc own n R) {i : Fin 2} {v : Int64} (d : decode cc pc = .ok (.lconst i, 1)) (hv : Int64.ofNat (i : Nat) = v) (h : G X k z ws lv (.long v :: st) (pc + 1)) : G X k z ws lv (st) pc := fun H locs ls hP hD hS hl => lv_lconst C.1 C.2.1 d hv (h H locs ls hP hD hS hl)
theorem g_bipush (C : GC X cc own n R) {i : Int} {v : Int32} (d : decode cc pc = .ok (.bipush i, 2)) (hv : (Int8.ofInt i).toInt32 = v) (h : G X k z ws lv (.int v :: st) (pc + 2)) : G X k z ws lv (st) pc := fun H locs ls hP hD hS hl => lv_bipush C.1 C.2.1 d hv (h H locs ls hP hD hS hl)
theorem g_sipush (C : GC X cc own n R) {i : Int} {v : Int32} (d : decode cc pc = .ok (.sipush i, 3)) (hv : (Int16.ofInt i).toInt32 = v) (h : G X k z ws lv (.int v :: st) (pc + 3)) : G X k z ws lv (st) pc := fun H locs ls hP hD hS hl => lv_sipush C.1 C.2.1 d hv (h H locs ls hP hD hS hl)
theorem g_ldc (C : GC X cc own n R) {i : Nat} {v : Int32} (d : decode cc pc = .ok (.ldc i, 2)) (hv : Cond.constant own i v ∈ TB) (h : G X k z ws lv (.int v :: st) (pc + 2)) : G X k z ws lv (st) pc := fun H locs ls hP hD hS hl => lv_ldc C.1 C.2.1 C.2.2.2.1 (C.2.2.2.2.1 _ hv) d (h H locs ls hP hD hS hl)
theorem g_ldc_w (C : GC X cc own n R) {i : Nat} {v : Int32} (d : decode cc pc = .ok (.ldc_w i, 3)) (hv : Cond.constant own i v ∈ TB) (h : G X k z ws lv (.int v :: st) (pc + 3)) : G X k z ws lv (st) pc := fun H locs ls hP hD hS hl => lv_ldcw C.1 C.2.1 C.2.2.2.1 (C.2.2.2.2.1 _ hv) d (h H locs ls hP hD hS hl)
theorem g_ldc2_w (C : GC X cc own n R) {i : Nat} {v : Int64} (d : decode cc pc = .ok (.ldc2_w i, 3)) (hv : Cond.constantLong own i v ∈ TB) (h : G X k z ws lv (.long v :: st) (pc + 3)) : G X k z ws lv (st) pc := fun H locs ls hP hD hS hl => lv_ldc2 C.1 C.2.1 C.2.2.2.1 (C.2.2.2.2.1 _ hv) d (h H locs ls hP hD hS hl)
theorem g_null (C : GC X cc own n R)  (d : decode cc pc = .ok (.aconst_null, 1))  (h : G X k z ws lv (.null :: st) (pc + 1)) : G X k z ws lv (st) pc := fun H locs ls hP hD hS hl => lv_null C.1 C.2.1 d (h H locs ls hP hD hS hl)
theorem g_dup (C : GC X cc own n R) {v : Value} (d : decode cc pc = .ok (.dup, 1)) (hc : v.category = 1) (h : G X k z ws lv (v :: v :: st) (pc + 1)) : G X k z ws lv (v :: st) pc := fun H locs ls hP hD hS hl => lv_dup C.1 C.2.1 d hc (h H locs ls hP hD hS hl)
theorem g_pop (C : GC X cc own n R) {v : Value} (d : decode cc pc = .ok (.pop, 1)) (hc : v.category = 1) (h : G X k z ws lv (st) (pc + 1)) : G X k z ws lv (v :: st) pc := fun H locs ls hP hD hS hl => lv_pop C.1 C.2.1 d hc (h H locs ls hP hD hS hl)
theorem g_dup2 (C : GC X cc own n R) {v w : Value} (d : decode cc pc = .ok (.dup2, 1)) (hc : v.category = 1) (hd : w.category = 1) (h : G X k z ws lv (v :: w :: v :: w :: st) (pc + 1)) : G X k z ws lv (v :: w :: st) pc := fun H locs ls hP hD hS hl => lv_dup2_11 C.1 C.2.1 d hc hd (h H locs ls hP hD hS hl)
theorem g_dup_x1 (C : GC X cc own n R) {v w : Value} (d : decode cc pc = .ok (.dup_x1, 1)) (hc : v.category = 1) (hd : w.category = 1) (h : G X k z ws lv (v :: w :: v :: st) (pc + 1)) : G X k z ws lv (v :: w :: st) pc := fun H locs ls hP hD hS hl => lv_dup_x1 C.1 C.2.1 d hc hd (h H locs ls hP hD hS hl)
theorem g_iload_n (C : GC X cc own n R) {i : Fin 4} {w : Nat} {x : Int32} (d : decode cc pc = .ok (.iload_n i, 1)) (j : Nat) (hi : (i : Nat) = w) (hj : lv[j]? = some (w, .int x)) (h : G X k z ws lv (.int x :: st) (pc + 1)) : G X k z ws lv st pc := fun H locs ls hP hD hS hl => lv_iload_n C.1 C.2.1 d hi (lv_at hl j hj) (h H locs ls hP hD hS hl)
theorem g_iload (C : GC X cc own n R) {i : Nat} {x : Int32} (d : decode cc pc = .ok (.iload i, 2)) (j : Nat) (hj : lv[j]? = some (i, .int x)) (h : G X k z ws lv (.int x :: st) (pc + 2)) : G X k z ws lv st pc := fun H locs ls hP hD hS hl => lv_iload C.1 C.2.1 d (lv_at hl j hj) (h H locs ls hP hD hS hl)
theorem g_istore_n (C : GC X cc own n R) {w : Fin 4} {i : Nat} {x : Int32} (d : decode cc pc = .ok (.istore_n w, 1)) (hi : (w : Nat) = i) (hn : i < n) (hl : lvp i (.int x) lv = lv') (h : G X k z ws lv' st (pc + 1)) : G X k z ws lv (.int x :: st) pc := fun H locs ls hP hD hS hv => lv_istore_n C.1 C.2.1 d hi hv (by rw [C.2.2.2.2.2.2.2.2.2.1]; exact hn) rfl (fun ls1 h1 => h H locs ls1 hP hD hS (hl ▸ lvins_has h1))
theorem g_istore (C : GC X cc own n R) {i : Nat} {x : Int32} (d : decode cc pc = .ok (.istore i, 2)) (hn : i < n) (hl : lvp i (.int x) lv = lv') (h : G X k z ws lv' st (pc + 2)) : G X k z ws lv (.int x :: st) pc := fun H locs ls hP hD hS hv => lv_istore C.1 C.2.1 d hv (by rw [C.2.2.2.2.2.2.2.2.2.1]; exact hn) rfl (fun ls1 h1 => h H locs ls1 hP hD hS (hl ▸ lvins_has h1))
theorem g_lload_n (C : GC X cc own n R) {i : Fin 4} {w : Nat} {x : Int64} (d : decode cc pc = .ok (.lload_n i, 1)) (j : Nat) (hi : (i : Nat) = w) (hj : lv[j]? = some (w, .long x)) (h : G X k z ws lv (.long x :: st) (pc + 1)) : G X k z ws lv st pc := fun H locs ls hP hD hS hl => lv_lload_n C.1 C.2.1 d hi (lv_at hl j hj) (h H locs ls hP hD hS hl)
theorem g_lload (C : GC X cc own n R) {i : Nat} {x : Int64} (d : decode cc pc = .ok (.lload i, 2)) (j : Nat) (hj : lv[j]? = some (i, .long x)) (h : G X k z ws lv (.long x :: st) (pc + 2)) : G X k z ws lv st pc := fun H locs ls hP hD hS hl => lv_lload C.1 C.2.1 d (lv_at hl j hj) (h H locs ls hP hD hS hl)
theorem g_lstore_n (C : GC X cc own n R) {w : Fin 4} {i : Nat} {x : Int64} (d : decode cc pc = .ok (.lstore_n w, 1)) (hi : (w : Nat) = i) (hn : i + 1 < n) (hl : lvq i (.long x) lv = lv') (h : G X k z ws lv' st (pc + 1)) : G X k z ws lv (.long x :: st) pc := fun H locs ls hP hD hS hv => lv_lstore_n C.1 C.2.1 d hi hv (by rw [C.2.2.2.2.2.2.2.2.2.1]; exact hn) rfl (fun ls1 h1 => h H locs ls1 hP hD hS (hl ▸ lvins_has h1))
theorem g_lstore (C : GC X cc own n R) {i : Nat} {x : Int64} (d : decode cc pc = .ok (.lstore i, 2)) (hn : i + 1 < n) (hl : lvq i (.long x) lv = lv') (h : G X k z ws lv' st (pc + 2)) : G X k z ws lv (.long x :: st) pc := fun H locs ls hP hD hS hv => lv_lstore C.1 C.2.1 d hv (by rw [C.2.2.2.2.2.2.2.2.2.1]; exact hn) rfl (fun ls1 h1 => h H locs ls1 hP hD hS (hl ▸ lvins_has h1))
theorem g_aload_n (C : GC X cc own n R) {i : Fin 4} {w : Nat} {x : Nat} (d : decode cc pc = .ok (.aload_n i, 1)) (j : Nat) (hi : (i : Nat) = w) (hj : lv[j]? = some (w, .ref x)) (h : G X k z ws lv (.ref x :: st) (pc + 1)) : G X k z ws lv st pc := fun H locs ls hP hD hS hl => lv_aload_n C.1 C.2.1 d hi (lv_at hl j hj) (h H locs ls hP hD hS hl)
theorem g_aload (C : GC X cc own n R) {i : Nat} {x : Nat} (d : decode cc pc = .ok (.aload i, 2)) (j : Nat) (hj : lv[j]? = some (i, .ref x)) (h : G X k z ws lv (.ref x :: st) (pc + 2)) : G X k z ws lv st pc := fun H locs ls hP hD hS hl => lv_aload C.1 C.2.1 d (lv_at hl j hj) (h H locs ls hP hD hS hl)
theorem g_astore_n (C : GC X cc own n R) {w : Fin 4} {i : Nat} {x : Nat} (d : decode cc pc = .ok (.astore_n w, 1)) (hi : (w : Nat) = i) (hn : i < n) (hl : lvp i (.ref x) lv = lv') (h : G X k z ws lv' st (pc + 1)) : G X k z ws lv (.ref x :: st) pc := fun H locs ls hP hD hS hv => lv_astore_n C.1 C.2.1 d hi hv (by rw [C.2.2.2.2.2.2.2.2.2.1]; exact hn) rfl (fun ls1 h1 => h H locs ls1 hP hD hS (hl ▸ lvins_has h1))
theorem g_astore (C : GC X cc own n R) {i : Nat} {x : Nat} (d : decode cc pc = .ok (.astore i, 2)) (hn : i < n) (hl : lvp i (.ref x) lv = lv') (h : G X k z ws lv' st (pc + 2)) : G X k z ws lv (.ref x :: st) pc := fun H locs ls hP hD hS hv => lv_astore C.1 C.2.1 d hv (by rw [C.2.2.2.2.2.2.2.2.2.1]; exact hn) rfl (fun ls1 h1 => h H locs ls1 hP hD hS (hl ▸ lvins_has h1))
theorem g_aload_nN (C : GC X cc own n R) {i : Fin 4} {w : Nat} (d : decode cc pc = .ok (.aload_n i, 1)) (j : Nat) (hi : (i : Nat) = w) (hj : lv[j]? = some (w, .null)) (h : G X k z ws lv (.null :: st) (pc + 1)) : G X k z ws lv st pc := fun H locs ls hP hD hS hl => lv_aload_nN C.1 C.2.1 d hi (lv_at hl j hj) (h H locs ls hP hD hS hl)
theorem g_aloadN (C : GC X cc own n R) {w : Nat} (d : decode cc pc = .ok (.aload w, 2)) (j : Nat)  (hj : lv[j]? = some (w, .null)) (h : G X k z ws lv (.null :: st) (pc + 2)) : G X k z ws lv st pc := fun H locs ls hP hD hS hl => lv_aloadN C.1 C.2.1 d  (lv_at hl j hj) (h H locs ls hP hD hS hl)
theorem g_astore_nN (C : GC X cc own n R) {w : Fin 4} {i : Nat} (d : decode cc pc = .ok (.astore_n w, 1)) (hi : (w : Nat) = i) (hn : i < n) (hl : lvp i .null lv = lv') (h : G X k z ws lv' st (pc + 1)) : G X k z ws lv (.null :: st) pc := fun H locs ls hP hD hS hv => lv_astore_nN C.1 C.2.1 d hi hv (by rw [C.2.2.2.2.2.2.2.2.2.1]; exact hn) rfl (fun ls1 h1 => h H locs ls1 hP hD hS (hl ▸ lvins_has h1))
theorem g_astoreN (C : GC X cc own n R) {i : Nat} (d : decode cc pc = .ok (.astore i, 2))  (hn : i < n) (hl : lvp i .null lv = lv') (h : G X k z ws lv' st (pc + 2)) : G X k z ws lv (.null :: st) pc := fun H locs ls hP hD hS hv => lv_astoreN C.1 C.2.1 d  hv (by rw [C.2.2.2.2.2.2.2.2.2.1]; exact hn) rfl (fun ls1 h1 => h H locs ls1 hP hD hS (hl ▸ lvins_has h1))
theorem g_iinc (C : GC X cc own n R) {i : Nat} {m : Int} {x v : Int32} (d : decode cc pc = .ok (.iinc i m, 3)) (j : Nat) (hj : lv[j]? = some (i, .int x)) (hv : x + Int32.ofInt m = v) (hn : i < n) (hl : lvp i (.int v) lv = lv') (h : G X k z ws lv' st (pc + 3)) : G X k z ws lv st pc := fun H locs ls hP hD hS hh => lv_iinc C.1 C.2.1 d hh hj hv (by rw [C.2.2.2.2.2.2.2.2.2.1]; exact hn) rfl (fun ls1 h1 => h H locs ls1 hP hD hS (hl ▸ lvins_has h1))
theorem g_if_eq (C : GC X cc own n R) {x : Int32} (d : decode cc pc = .ok (.ifCond .eq off, 3)) (ht : (pc : Int) + off = (tgt : Int)) (h1 : x = 0 → G X k z ws lv st tgt) (h2 : ¬ x = 0 → G X k z ws lv st (pc + 3)) : G X k z ws lv (.int x :: st) pc := fun H locs ls hP hD hS hl => lv_if_eq C.1 C.2.1 d ht (fun q => h1 q H locs ls hP hD hS hl) (fun q => h2 q H locs ls hP hD hS hl)
theorem g_if_ne (C : GC X cc own n R) {x : Int32} (d : decode cc pc = .ok (.ifCond .ne off, 3)) (ht : (pc : Int) + off = (tgt : Int)) (h1 : ¬ x = 0 → G X k z ws lv st tgt) (h2 : x = 0 → G X k z ws lv st (pc + 3)) : G X k z ws lv (.int x :: st) pc := fun H locs ls hP hD hS hl => lv_if_ne C.1 C.2.1 d ht (fun q => h1 q H locs ls hP hD hS hl) (fun q => h2 q H locs ls hP hD hS hl)
theorem g_if_lt (C : GC X cc own n R) {x : Int32} (d : decode cc pc = .ok (.ifCond .lt off, 3)) (ht : (pc : Int) + off = (tgt : Int)) (h1 : x < 0 → G X k z ws lv st tgt) (h2 : ¬ x < 0 → G X k z ws lv st (pc + 3)) : G X k z ws lv (.int x :: st) pc := fun H locs ls hP hD hS hl => lv_if_lt C.1 C.2.1 d ht (fun q => h1 q H locs ls hP hD hS hl) (fun q => h2 q H locs ls hP hD hS hl)
theorem g_if_ge (C : GC X cc own n R) {x : Int32} (d : decode cc pc = .ok (.ifCond .ge off, 3)) (ht : (pc : Int) + off = (tgt : Int)) (h1 : 0 ≤ x → G X k z ws lv st tgt) (h2 : ¬ 0 ≤ x → G X k z ws lv st (pc + 3)) : G X k z ws lv (.int x :: st) pc := fun H locs ls hP hD hS hl => lv_if_ge C.1 C.2.1 d ht (fun q => h1 q H locs ls hP hD hS hl) (fun q => h2 q H locs ls hP hD hS hl)
theorem g_if_gt (C : GC X cc own n R) {x : Int32} (d : decode cc pc = .ok (.ifCond .gt off, 3)) (ht : (pc : Int) + off = (tgt : Int)) (h1 : 0 < x → G X k z ws lv st tgt) (h2 : ¬ 0 < x → G X k z ws lv st (pc + 3)) : G X k z ws lv (.int x :: st) pc := fun H locs ls hP hD hS hl => lv_if_gt C.1 C.2.1 d ht (fun q => h1 q H locs ls hP hD hS hl) (fun q => h2 q H locs ls hP hD hS hl)
theorem g_if_le (C : GC X cc own n R) {x : Int32} (d : decode cc pc = .ok (.ifCond .le off, 3)) (ht : (pc : Int) + off = (tgt : Int)) (h1 : x ≤ 0 → G X k z ws lv st tgt) (h2 : ¬ x ≤ 0 → G X k z ws lv st (pc + 3)) : G X k z ws lv (.int x :: st) pc := fun H locs ls hP hD hS hl => lv_if_le C.1 C.2.1 d ht (fun q => h1 q H locs ls hP hD hS hl) (fun q => h2 q H locs ls hP hD hS hl)
theorem g_icmp_eq (C : GC X cc own n R) {x y : Int32} (d : decode cc pc = .ok (.if_icmp .eq off, 3)) (ht : (pc : Int) + off = (tgt : Int)) (h1 : x = y → G X k z ws lv st tgt) (h2 : ¬ x = y → G X k z ws lv st (pc + 3)) : G X k z ws lv (.int y :: .int x :: st) pc := fun H locs ls hP hD hS hl => lv_icmp_eq C.1 C.2.1 d ht (fun q => h1 q H locs ls hP hD hS hl) (fun q => h2 q H locs ls hP hD hS hl)
theorem g_icmp_ne (C : GC X cc own n R) {x y : Int32} (d : decode cc pc = .ok (.if_icmp .ne off, 3)) (ht : (pc : Int) + off = (tgt : Int)) (h1 : ¬ x = y → G X k z ws lv st tgt) (h2 : x = y → G X k z ws lv st (pc + 3)) : G X k z ws lv (.int y :: .int x :: st) pc := fun H locs ls hP hD hS hl => lv_icmp_ne C.1 C.2.1 d ht (fun q => h1 q H locs ls hP hD hS hl) (fun q => h2 q H locs ls hP hD hS hl)
theorem g_icmp_lt (C : GC X cc own n R) {x y : Int32} (d : decode cc pc = .ok (.if_icmp .lt off, 3)) (ht : (pc : Int) + off = (tgt : Int)) (h1 : x < y → G X k z ws lv st tgt) (h2 : ¬ x < y → G X k z ws lv st (pc + 3)) : G X k z ws lv (.int y :: .int x :: st) pc := fun H locs ls hP hD hS hl => lv_icmp_lt C.1 C.2.1 d ht (fun q => h1 q H locs ls hP hD hS hl) (fun q => h2 q H locs ls hP hD hS hl)
theorem g_icmp_ge (C : GC X cc own n R) {x y : Int32} (d : decode cc pc = .ok (.if_icmp .ge off, 3)) (ht : (pc : Int) + off = (tgt : Int)) (h1 : y ≤ x → G X k z ws lv st tgt) (h2 : ¬ y ≤ x → G X k z ws lv st (pc + 3)) : G X k z ws lv (.int y :: .int x :: st) pc := fun H locs ls hP hD hS hl => lv_icmp_ge C.1 C.2.1 d ht (fun q => h1 q H locs ls hP hD hS hl) (fun q => h2 q H locs ls hP hD hS hl)
theorem g_icmp_gt (C : GC X cc own n R) {x y : Int32} (d : decode cc pc = .ok (.if_icmp .gt off, 3)) (ht : (pc : Int) + off = (tgt : Int)) (h1 : y < x → G X k z ws lv st tgt) (h2 : ¬ y < x → G X k z ws lv st (pc + 3)) : G X k z ws lv (.int y :: .int x :: st) pc := fun H locs ls hP hD hS hl => lv_icmp_gt C.1 C.2.1 d ht (fun q => h1 q H locs ls hP hD hS hl) (fun q => h2 q H locs ls hP hD hS hl)
theorem g_icmp_le (C : GC X cc own n R) {x y : Int32} (d : decode cc pc = .ok (.if_icmp .le off, 3)) (ht : (pc : Int) + off = (tgt : Int)) (h1 : x ≤ y → G X k z ws lv st tgt) (h2 : ¬ x ≤ y → G X k z ws lv st (pc + 3)) : G X k z ws lv (.int y :: .int x :: st) pc := fun H locs ls hP hD hS hl => lv_icmp_le C.1 C.2.1 d ht (fun q => h1 q H locs ls hP hD hS hl) (fun q => h2 q H locs ls hP hD hS hl)
theorem g_goto (C : GC X cc own n R) (d : decode cc pc = .ok (.goto off, 3)) (ht : (pc : Int) + off = (tgt : Int)) (h : G X k z ws lv st tgt) : G X k z ws lv st pc := fun H locs ls hP hD hS hl => lv_goto C.1 C.2.1 d ht (h H locs ls hP hD hS hl)
theorem g_ifnull (C : GC X cc own n R) {x : Nat} (d : decode cc pc = .ok (.ifnull off, 3)) (h : G X k z ws lv st (pc + 3)) : G X k z ws lv (.ref x :: st) pc := fun H locs ls hP hD hS hl => lv_ifnull C.1 C.2.1 d (h H locs ls hP hD hS hl)
theorem g_ifnullN (C : GC X cc own n R) (d : decode cc pc = .ok (.ifnull off, 3)) (ht : (pc : Int) + off = (tgt : Int)) (h : G X k z ws lv st tgt) : G X k z ws lv (.null :: st) pc := fun H locs ls hP hD hS hl => lv_ifnullN C.1 C.2.1 d ht (h H locs ls hP hD hS hl)
theorem g_ifnonnull (C : GC X cc own n R) {x : Nat} (d : decode cc pc = .ok (.ifnonnull off, 3)) (ht : (pc : Int) + off = (tgt : Int)) (h : G X k z ws lv st tgt) : G X k z ws lv (.ref x :: st) pc := fun H locs ls hP hD hS hl => lv_ifnonnull C.1 C.2.1 d ht (h H locs ls hP hD hS hl)
theorem g_ifnonnullN (C : GC X cc own n R) (d : decode cc pc = .ok (.ifnonnull off, 3)) (h : G X k z ws lv st (pc + 3)) : G X k z ws lv (.null :: st) pc := fun H locs ls hP hD hS hl => lv_ifnonnullN C.1 C.2.1 d (h H locs ls hP hD hS hl)
theorem g_lookup (C : GC X cc own n R) {x : Int32} {df : Int} {ps : Array (Int × Int)} {len : Nat} (d : decode cc pc = .ok (.lookupswitch df ps, len)) (hp : (ps.toList.zip (ps.toList.drop 1)).all (fun (a, next) => a.1 < next.1) = true) (ho : Op.lookupswitch.offset ps.toList df x.toInt = off) (ht : (pc : Int) + off = (tgt : Int)) (h : G X k z ws lv st tgt) : G X k z ws lv (.int x :: st) pc := fun H locs ls hP hD hS hl => lv_lookup C.1 C.2.1 d hp ho ht (h H locs ls hP hD hS hl)
theorem g_tabOut (C : GC X cc own n R) {x : Int32} {df lo hi : Int} {offs : Array Int} {len : Nat} (d : decode cc pc = .ok (.tableswitch df lo hi offs, len)) (hx : x.toInt < lo ∨ hi < x.toInt) (ht : (pc : Int) + df = (tgt : Int)) (h : G X k z ws lv st tgt) : G X k z ws lv (.int x :: st) pc := fun H locs ls hP hD hS hl => lv_tableOut C.1 C.2.1 d hx ht (h H locs ls hP hD hS hl)
theorem g_tabIn (C : GC X cc own n R) {x : Int32} {df lo hi : Int} {offs : Array Int} {len : Nat} (d : decode cc pc = .ok (.tableswitch df lo hi offs, len)) (h1 : ¬ x.toInt < lo) (h2 : ¬ hi < x.toInt) (ho : offs[(x.toInt - lo).toNat]? = some off) (ht : (pc : Int) + off = (tgt : Int)) (h : G X k z ws lv st tgt) : G X k z ws lv (.int x :: st) pc := fun H locs ls hP hD hS hl => lv_tableIn C.1 C.2.1 d h1 h2 ho ht (h H locs ls hP hD hS hl)
theorem g_ws (e : ws = ws') (h : G X k z ws' lv st pc) : G X k z ws lv st pc := e ▸ h
theorem g_iret (C : GC X cc own n R) {Qp : Option Value → va_W → Prop} (q : RC X (some .int) Qp k z) {v : Int32} (d : decode cc pc = .ok (.ireturn, 1)) (h : Qp (some (.int v)) ws) : G X k z ws lv [.int v] pc := by
  intro H locs ls hP hD hS hl
  have hlk := C.2.2.2.2.2.2.2.2.1
  rw [q.2]
  exact W.iret C.1 C.2.1 q.1 (fun t ht hW => ⟨⟨_, ws, rfl, h, by rw [ht]; exact hP, hD⟩, hS.F ht⟩) hS.2.2 d hlk
theorem g_zret (C : GC X cc own n R) {Qp : Option Value → va_W → Prop} {ty : FieldType} (q : RC X (some ty) Qp k z) {v : Int32} (d : decode cc pc = .ok (.ireturn, 1)) (hn : narrow ty (.int v) = .int v) (h : Qp (some (.int v)) ws) : G X k z ws lv [.int v] pc := by
  intro H locs ls hP hD hS hl
  have hlk := C.2.2.2.2.2.2.2.2.1
  rw [q.2]
  exact W.zret C.1 C.2.1 q.1 hn (fun t ht hW => ⟨⟨_, ws, rfl, h, by rw [ht]; exact hP, hD⟩, hS.F ht⟩) hS.2.2 d hlk
theorem g_lret (C : GC X cc own n R) {Qp : Option Value → va_W → Prop} (q : RC X (some .long) Qp k z) {v : Int64} (d : decode cc pc = .ok (.lreturn, 1)) (h : Qp (some (.long v)) ws) : G X k z ws lv [.long v] pc := by
  intro H locs ls hP hD hS hl
  have hlk := C.2.2.2.2.2.2.2.2.1
  rw [q.2]
  exact W.lret C.1 C.2.1 q.1 (fun t ht hW => ⟨⟨_, ws, rfl, h, by rw [ht]; exact hP, hD⟩, hS.F ht⟩) hS.2.2 d hlk
theorem g_vret (C : GC X cc own n R) {Qp : Option Value → va_W → Prop} (q : RC X none Qp k z) (d : decode cc pc = .ok (.return_, 1)) (h : Qp none ws) : G X k z ws lv [] pc := by
  intro H locs ls hP hD hS hl
  have hlk := C.2.2.2.2.2.2.2.2.1
  rw [q.2]
  exact W.vret C.1 C.2.1 q.1 (fun t ht hW => ⟨⟨_, ws, rfl, h, by rw [ht]; exact hP, hD⟩, hS.F ht⟩) hS.2.2 d hlk
theorem g_aret (C : GC X cc own n R) {Qp : Option Value → va_W → Prop} {nm : String} (q : RC X (some (.object nm)) Qp k z) {v : Value} (d : decode cc pc = .ok (.areturn, 1)) (hv : v = .null ∨ ∃ a, v = .ref a) (h : Qp (some v) ws) : G X k z ws lv [v] pc := by
  intro H locs ls hP hD hS hl
  have hlk := C.2.2.2.2.2.2.2.2.1
  rw [q.2]
  exact W.aret C.1 C.2.1 q.1 (Or.inl ⟨nm, rfl⟩) hv (fun t ht hW => ⟨⟨_, ws, rfl, h, by rw [ht]; exact hP, hD⟩, hS.F ht⟩) hS.2.2 d hlk
theorem g_iaload (C : GC X cc own n R) (q0 : Nat) {a N : Nat} {f : Nat → Int32} {i : Int32} (d : decode cc pc = .ok (.iaload, 1)) (he : ws[q0]? = some (a, .inl (xt X 2, N, .inl f))) (hin : vp_in i N) (h : G X k z ws lv (.int (f i.toNatClampNeg) :: st) (pc + 1)) : G X k z ws lv (.int i :: .ref a :: st) pc := fun H locs ls hP hD hS hl => va_iald C.1 C.2.1 C.2.2.2.2.2.1 hP q0 2 he rfl hin d (h H locs ls hP hD hS hl)
theorem g_baload (C : GC X cc own n R) (q0 : Nat) {a N : Nat} {f : Nat → Int32} {i : Int32} (d : decode cc pc = .ok (.baload, 1)) (he : ws[q0]? = some (a, .inl (xt X 0, N, .inl f))) (hin : vp_in i N) (h : G X k z ws lv (.int (f i.toNatClampNeg) :: st) (pc + 1)) : G X k z ws lv (.int i :: .ref a :: st) pc := fun H locs ls hP hD hS hl => va_bald C.1 C.2.1 C.2.2.2.2.2.1 hP q0 0 he rfl hin d (h H locs ls hP hD hS hl)
theorem g_caload (C : GC X cc own n R) (q0 : Nat) {a N : Nat} {f : Nat → Int32} {i : Int32} (d : decode cc pc = .ok (.caload, 1)) (he : ws[q0]? = some (a, .inl (xt X 1, N, .inl f))) (hin : vp_in i N) (h : G X k z ws lv (.int (f i.toNatClampNeg) :: st) (pc + 1)) : G X k z ws lv (.int i :: .ref a :: st) pc := fun H locs ls hP hD hS hl => va_cald C.1 C.2.1 C.2.2.2.2.2.1 hP q0 1 he rfl hin d (h H locs ls hP hD hS hl)
theorem g_laload (C : GC X cc own n R) (q0 : Nat) {a N : Nat} {f : Nat → Int64} {i : Int32} (d : decode cc pc = .ok (.laload, 1)) (he : ws[q0]? = some (a, .inl (xt X 3, N, .inr (.inl f)))) (hin : vp_in i N) (h : G X k z ws lv (.long (f i.toNatClampNeg) :: st) (pc + 1)) : G X k z ws lv (.int i :: .ref a :: st) pc := fun H locs ls hP hD hS hl => va_lald C.1 C.2.1 C.2.2.2.2.2.1 hP q0 3 he rfl hin d (h H locs ls hP hD hS hl)
theorem g_iastore (C : GC X cc own n R) (q0 : Nat) {a N : Nat} {f : Nat → Int32} {i : Int32} {x : Int32} (d : decode cc pc = .ok (.iastore, 1)) (he : ws[q0]? = some (a, .inl (xt X 2, N, .inl f))) (hin : vp_in i N) (hw : ws.set q0 (a, .inl (xt X 2, N, .inl (upd f i.toNatClampNeg x))) = ws') (h : G X k z ws' lv st (pc + 1)) : G X k z ws lv (.int x :: .int i :: .ref a :: st) pc := fun H locs ls hP hD hS hl => va_iast C.1 C.2.1 C.2.2.2.2.2.1 hP hD hS q0 2 he rfl hin d (fun H1 locs1 p1 d1 s1 => h H1 locs1 ls (hw ▸ p1) (hw ▸ d1) s1 hl)
theorem g_bastore (C : GC X cc own n R) (q0 : Nat) {a N : Nat} {f : Nat → Int32} {i : Int32} {x : Int32} (d : decode cc pc = .ok (.bastore, 1)) (he : ws[q0]? = some (a, .inl (xt X 0, N, .inl f))) (hin : vp_in i N) (hw : ws.set q0 (a, .inl (xt X 0, N, .inl (upd f i.toNatClampNeg (vp_nar .byte x)))) = ws') (h : G X k z ws' lv st (pc + 1)) : G X k z ws lv (.int x :: .int i :: .ref a :: st) pc := fun H locs ls hP hD hS hl => va_bast C.1 C.2.1 C.2.2.2.2.2.1 hP hD hS q0 0 he rfl hin d (fun H1 locs1 p1 d1 s1 => h H1 locs1 ls (hw ▸ p1) (hw ▸ d1) s1 hl)
theorem g_castore (C : GC X cc own n R) (q0 : Nat) {a N : Nat} {f : Nat → Int32} {i : Int32} {x : Int32} (d : decode cc pc = .ok (.castore, 1)) (he : ws[q0]? = some (a, .inl (xt X 1, N, .inl f))) (hin : vp_in i N) (hw : ws.set q0 (a, .inl (xt X 1, N, .inl (upd f i.toNatClampNeg (vp_nar .char x)))) = ws') (h : G X k z ws' lv st (pc + 1)) : G X k z ws lv (.int x :: .int i :: .ref a :: st) pc := fun H locs ls hP hD hS hl => va_cast C.1 C.2.1 C.2.2.2.2.2.1 hP hD hS q0 1 he rfl hin d (fun H1 locs1 p1 d1 s1 => h H1 locs1 ls (hw ▸ p1) (hw ▸ d1) s1 hl)
theorem g_lastore (C : GC X cc own n R) (q0 : Nat) {a N : Nat} {f : Nat → Int64} {i : Int32} {x : Int64} (d : decode cc pc = .ok (.lastore, 1)) (he : ws[q0]? = some (a, .inl (xt X 3, N, .inr (.inl f)))) (hin : vp_in i N) (hw : ws.set q0 (a, .inl (xt X 3, N, .inr (.inl (vp_updL f i.toNatClampNeg x)))) = ws') (h : G X k z ws' lv st (pc + 1)) : G X k z ws lv (.long x :: .int i :: .ref a :: st) pc := fun H locs ls hP hD hS hl => va_last C.1 C.2.1 C.2.2.2.2.2.1 hP hD hS q0 3 he rfl hin d (fun H1 locs1 p1 d1 s1 => h H1 locs1 ls (hw ▸ p1) (hw ▸ d1) s1 hl)
theorem g_alen (C : GC X cc own n R) (q0 t0 : Nat) {a : Nat} {x : vp_A} {ty : FieldType} {v : Int32} (d : decode cc pc = .ok (.arraylength, 1)) (he : ws[q0]? = some (a, .inl (xt X t0, x))) (ht : (tysOf (xt X))[t0]? = some (xt X t0, ty)) (hv : Int32.ofNat x.1 = v) (h : G X k z ws lv (.int v :: st) (pc + 1)) : G X k z ws lv (.ref a :: st) pc := fun H locs ls hP hD hS hl => va_alen C.1 C.2.1 C.2.2.2.2.2.1 hP q0 t0 he ht hv d (h H locs ls hP hD hS hl)
theorem g_aaload (C : GC X cc own n R) (q0 t0 : Nat) {a N : Nat} {f : Nat → Option Nat} {nm : String} {i : Int32} (d : decode cc pc = .ok (.aaload, 1)) (he : ws[q0]? = some (a, .inl (xt X t0, N, .inr (.inr (.inr (.inr f)))))) (ht : (tysOf (xt X))[t0]? = some (xt X t0, .object nm)) (hin : vp_in i N) (h : G X k z ws lv (va_rf (f i.toNatClampNeg) :: st) (pc + 1)) : G X k z ws lv (.int i :: .ref a :: st) pc := fun H locs ls hP hD hS hl => va_aldq C.1 C.2.1 C.2.2.2.2.2.1 hP q0 t0 he ht hin d (h H locs ls hP hD hS hl)
end GROWS
end
section
section GCALLS
variable {X : GX} {cc : ByteArray} {own : String} {n : Nat} {R : Room} {k z : Nat} {ws ws' : va_W} {lv lv' : List (Nat × Value)} {st : List Value} {pc tgt : Nat} {off : Int}
theorem g_getf (C : GC X cc own n R) {nm : String} {T : u_T} {N : Nat} (hi : ∀ w ∈ u_ws nm T N, w ∈ TB) {ci : Nat} (hc : classes[ci]? = some (nm, T, N)) (q0 f : Nat) {a i : Nat} {fs : List Value} {v : Value} (hk : f < N) (hlk : Cond.fieldLink own i nm (T f).2.1 (T f).2.2.1 ∈ TB) (hs : (T f).1 = nm) (d : decode cc pc = .ok (.getfield i, 3)) (he : ws[q0]? = some (a, .inr (ci, fs))) (hv : fs[f]? = some v) (h : G X k z ws lv (v :: st) (pc + 3)) : G X k z ws lv (.ref a :: st) pc :=
  fun H locs ls hP hD hS hl => va_get C.1 C.2.1 C.2.2.2.2.1 hi C.2.2.2.1 C.2.2.2.2.2.1 hP q0 he hc f hk (C.2.2.2.2.1 _ hlk) (fun x hx => by rw [← hs]; exact hx) hv d (h H locs ls hP hD hS hl)
theorem g_putf (C : GC X cc own n R) {nm : String} {T : u_T} {N : Nat} (hi : ∀ w ∈ u_ws nm T N, w ∈ TB) {ci : Nat} (hc : classes[ci]? = some (nm, T, N)) (ty0 : Nat → FieldType) (hty : ∀ k, k < N → parseFieldDescriptor (T k).2.2.1 = some (ty0 k)) (hnm : ∀ a, a < N → ∀ b, b < N → a ≠ b → (T a).2.1 ≠ (T b).2.1) (q0 f : Nat) {a i : Nat} {fs : List Value} {v : Value} (hk : f < N) (hlk : Cond.fieldLink own i nm (T f).2.1 (T f).2.2.1 ∈ TB) (hs : (T f).1 = nm) (hfin : (T f).2.2.2 = false) (d : decode cc pc = .ok (.putfield i, 3)) (he : ws[q0]? = some (a, .inr (ci, fs))) (hn : narrow (ty0 f) v = v) (hf : fits (ty0 f) v = true) (hl0 : f < fs.length) (hw : ws.set q0 (a, .inr (ci, fs.set f v)) = ws') (h : G X k z ws' lv st (pc + 3)) : G X k z ws lv (v :: .ref a :: st) pc :=
  fun H locs ls hP hD hS hl => va_put C.1 C.2.1 C.2.2.2.2.1 hi ty0 hty hnm C.2.2.2.1 C.2.2.2.2.2.1 hP hD hS q0 he hc f hk (C.2.2.2.2.1 _ hlk) (fun x hx => by rw [← hs]; exact hx) hfin (hty f hk) hn hf hl0 d (fun H1 locs1 p1 d1 s1 => h H1 locs1 ls (hw ▸ p1) (hw ▸ d1) s1 hl)
theorem g_putF (C : GC X cc own n R) (hin : (xM X).name = "<init>") {nm : String} {T : u_T} {N : Nat} (hi : ∀ w ∈ u_ws nm T N, w ∈ TB) {ci : Nat} (hc : classes[ci]? = some (nm, T, N)) (ty0 : Nat → FieldType) (hty : ∀ k, k < N → parseFieldDescriptor (T k).2.2.1 = some (ty0 k)) (hnm : ∀ a, a < N → ∀ b, b < N → a ≠ b → (T a).2.1 ≠ (T b).2.1) (q0 f : Nat) {a i : Nat} {fs : List Value} {v : Value} (hk : f < N) (hlk : Cond.fieldLink own i nm (T f).2.1 (T f).2.2.1 ∈ TB) (hs : (T f).1 = nm) (ho : own = nm) (hfin : (T f).2.2.2 = true) (d : decode cc pc = .ok (.putfield i, 3)) (he : ws[q0]? = some (a, .inr (ci, fs))) (hn : narrow (ty0 f) v = v) (hf : fits (ty0 f) v = true) (hl0 : f < fs.length) (hw : ws.set q0 (a, .inr (ci, fs.set f v)) = ws') (h : G X k z ws' lv st (pc + 3)) : G X k z ws lv (v :: .ref a :: st) pc :=
  fun H locs ls hP hD hS hl => va_putF C.1 C.2.1 C.2.2.2.2.1 hi ty0 hty hnm C.2.2.2.1 C.2.2.2.2.2.1 hP hD hS q0 he hc f hk (C.2.2.2.2.1 _ hlk) (fun x hx => by rw [← hs]; exact hx) hfin hin (by rw [ho]; exact hs) (hty f hk) hn hf hl0 d (fun H1 locs1 p1 d1 s1 => h H1 locs1 ls (hw ▸ p1) (hw ▸ d1) s1 hl)
/-- a static row of ints: its address, its length, its items -/
theorem g_gets (C : GC X cc own n R) {f : String} {a N i : Nat} {ys : List Int32} (he : E_st f a N ys (xA X) (xs X) (xs X).heap) (hlk : Cond.fieldLink own i R_X f "[I" ∈ TB) (d : decode cc pc = .ok (.getstatic i, 3)) (h : G X k z ws lv (.ref a :: st) (pc + 3)) : G X k z ws lv st pc :=
  fun H locs ls hP hD hS hl => va_gets C.1 C.2.1 he.1 hS C.2.2.2.1 (C.2.2.2.2.1 _ hlk) (fun _ h9 => h9) d (h H locs ls hP hD hS hl)
theorem g_getsN (C : GC X cc own n R) {f : String} {a N i : Nat} {ys : List Int32} (he : E_st f a N ys (xA X) (xs X) (xs X).heap) (hlk : (own, i, f) ∈ nwF) (d : decode cc pc = .ok (.getstatic i, 3)) (h : G X k z ws lv (.ref a :: st) (pc + 3)) : G X k z ws lv st pc :=
  fun H locs ls hP hD hS hl => va_getsN C.1 C.2.1 he.1 hS C.2.2.2.1 (va_Nw.use rfl (C.2.2.2.2.2.2.2.1.2.2.2.2.2.2.2.2.1 _ hlk)) (fun _ h9 => h9) d (h H locs ls hP hD hS hl)
theorem g_tload (C : GC X cc own n R) {f : String} {a N : Nat} {ys : List Int32} (he : E_st f a N ys (xA X) (xs X) (xs X).heap) {i : Int32} (d : decode cc pc = .ok (.iaload, 1)) (hin : vp_in i N) (h : G X k z ws lv (.int (ys.getD i.toNatClampNeg 0) :: st) (pc + 1)) : G X k z ws lv (.int i :: .ref a :: st) pc :=
  fun H locs ls hP hD hS hl => va_ti C.1 C.2.1 he.2 hS hin rfl d (h H locs ls hP hD hS hl)
theorem g_tlen (C : GC X cc own n R) {f : String} {a N : Nat} {ys : List Int32} (he : E_st f a N ys (xA X) (xs X) (xs X).heap) {v : Int32} (d : decode cc pc = .ok (.arraylength, 1)) (hv : Int32.ofNat N = v) (h : G X k z ws lv (.int v :: st) (pc + 1)) : G X k z ws lv (.ref a :: st) pc :=
  fun H locs ls hP hD hS hl => va_tlen C.1 C.2.1 he.2 hS hv d (h H locs ls hP hD hS hl)

/-- a call: what comes back goes on -/
def CO (X : GX) (k z mc ms : Nat) (ws : va_W) (isC : List Nat) (lv : List (Nat × Value)) (st rest : List Value) (pc : Nat) (Qp : Option Value → va_W → Prop) : Prop := (∀ r u, Qp r u → u.length = isC.length → G X (k + mc) (z + ms) (scat ws isC u) lv (r.toList ++ rest) (pc + 3)) → G X k z ws lv st pc
theorem co_run {mc ms : Nat} {isC : List Nat} {wc : va_W} {rest : List Value} {av : Array Value} {Qp : Option Value → va_W → Prop} (C : GC X cc own n R) (hC : isC.map (fun i => ws[i]?) = wc.map some) (hn : va_nd isC = true)
    (hr : ∀ (H : Heap) (locs : List Loc) (ls : Array Slot), va_P (xD X) classes ws H → va_D (xA X) ws → va_S (xA X) (xs X).heap H locs → lv_has ls (xn X) lv → va_Run (xp X) (xl X) (xe X) (xR X) (xs X) (xm X) (xa X) (xb X) (xM X) (xc X) H locs k z mc ms (F0 (xm X) pc ls st) rest (QG (xD X) (va_A wc H.size) (fun r u => Qp r u ∧ u.map Prod.fst = wc.map Prod.fst) av) (va_A wc H.size)) : CO X k z mc ms ws isC lv st rest pc Qp := by
  intro kk H locs ls hP hD hS hl T hT S
  have hFc := va_free (wc := wc) hD hS C.2.2.2.2.2.2.1 isC hC
  obtain ⟨v, st₀, t, T', L, h0, S', hL, e1, e2, ⟨⟨r, u, hv, hq, hPu, hDu⟩, hz, hk⟩, stp⟩ := hr H locs ls hP hD hS hl T hT S
  cases hv
  rw [h0] at hz hk
  have sc := scat_ok (H1 := t.heap) hP hD hC hn hk hPu hq.2
  obtain ⟨t2, a1, b1⟩ := kk _ u hq.1 (by have e1 := congrArg List.length hC; have e2 := congrArg List.length hq.2; simp at e1 e2; omega) T'.heap (locs ++ L) ls (by rw [e1]; exact sc.1) sc.2
    ⟨Nat.le_trans hS.1 (by rw [e1]; exact hz), fun q h1 h2 => by rw [e1, hk q (Nat.lt_of_lt_of_le h1 hS.1) (fun y => h2 (hFc q y))]; exact hS.2.1 q h1 h2, fun q hq => by
      rcases List.mem_append.mp hq with h | h
      · exact hS.2.2 q h
      · exact hFc _ (hL q h)⟩ hl T' rfl S'
  exact ⟨t2, stp t2 a1, b1⟩
/-- what holds at a callee's start -/
theorem co_pre (C : GC X cc own n R) {l : Launch} {wc : va_W} {av : List Value} {isC : List Nat} (hC : isC.map (fun i => ws[i]?) = wc.map some) (hn : va_nd isC = true) {H : Heap} {locs : List Loc} (hP : va_P (xD X) classes ws H) (hD : va_D (xA X) ws) (hS : va_S (xA X) (xs X).heap H locs) :
    PreS (xs X) H (va_Pc av (fun U => U.heap.size = H.size ∧ va_P (xD X) classes wc U.heap ∧ va_K (xD X) classes (tysOf (xt X)) U ∧ va_D (fun _ => True) wc ∧ ENV (xv X) (va_A wc H.size) U U.heap)) av := by
  have hFc := va_free (wc := wc) hD hS C.2.2.2.2.2.2.1 isC hC
  have hPc : va_P (xD X) classes wc H := by
    refine hP.sub isC ?_
    have h1 : isC.filterMap (fun i => ws[i]?) = (isC.map (fun i => ws[i]?)).filterMap id := by simp [List.filterMap_map, Function.comp_def]
    rw [h1, hC]
    simp [List.filterMap_map, Function.comp_def]
  have hDc := hD.sub (ws' := wc) isC hn hC
  refine ⟨fun a U g mk q => ?_, fun U hU hW => ?_⟩
  · obtain ⟨q0, q1, qP, qK, qD, qE⟩ := q
    exact ⟨q0, q1, qP, va_K.moved (u := U) (U := U.calling g mk a) (Vm.Alike.refl U.vm) qK, qD, qE.go (u := U) (U := U.calling g mk a) (fun _ _ _ => rfl) (fun _ h => h) (State.WarmedH.refl U)⟩
  · exact ⟨rfl, by rw [hU], by rw [hU]; exact hPc, va_K.moved hW.alike C.2.2.2.2.2.1, hDc.weaken (fun _ _ _ _ => trivial), C.2.2.2.2.2.2.2.1.go (by rw [hU]; exact hS.2.1) hFc hW⟩
/-- a method's words: its code, its kind -/
def MWV (y : MethodName) (b : ByteArray) (L : Nat) (ret : Option FieldType) (m : Nat) : Prop := Cond.code y b L ret ∈ TB ∧ Cond.instanceMethod y ∈ TB ∧ Cond.selects y.cls y y ∈ TB ∧ Cond.initialized y.cls ∈ TB ∧ y.cls ≠ "java/lang/invoke/MethodHandle" ∧ y.cls ≠ "java/lang/invoke/VarHandle" ∧ (parseMethodDescriptor y.desc).map (fun d => d.parameters.length) = some m
def MWS (y : MethodName) (b : ByteArray) (L : Nat) (ret : Option FieldType) (m : Nat) : Prop := Cond.code y b L ret ∈ TB ∧ Cond.static y ∈ TB ∧ Cond.initialized y.cls ∈ TB ∧ y.cls ≠ "java/lang/invoke/MethodHandle" ∧ y.cls ≠ "java/lang/invoke/VarHandle" ∧ (parseMethodDescriptor y.desc).map (fun d => d.parameters.length) = some m
theorem tb_all {w : Cond} {l : List Cond} (h : ∀ v ∈ l, v ∈ TB) (hw : w ∈ TB) : GoodIn TB (l ++ w :: TB) := fun v hv => by
  have hm : v ∈ TB := (List.mem_append.mp hv).elim (h v) (fun h => (List.mem_cons.mp h).elim (fun e => e ▸ hw) id)
  exact ⟨hm, tb_good v hm⟩
theorem co_V (C : GC X cc own n R) {y : MethodName} {b : ByteArray} {L m a i mc ms : Nat} {ret : Option FieldType} {rm : Room} {wc : va_W} {As rest : List Value} {Qp : Option Value → va_W → Prop} (hc : ConR (xl X) (xD X) (xt X) (xv X) y b L ret rm mc ms wc (.ref a :: As) (fun r u => Qp r u ∧ u.map Prod.fst = wc.map Prod.fst)) (hm : MWV y b L ret m) (hlk : Cond.methodLink own i y ∈ TB) (d : decode cc pc = .ok (.invokevirtual i, 3)) (isC : List Nat) (hC : isC.map (fun i => ws[i]?) = wc.map some) (hn : va_nd isC = true)
    (hrec : ∀ (H : Heap) (locs : List Loc), va_P (xD X) classes ws H → va_S (xA X) (xs X).heap H locs → ∃ cell : Cell, H[a]? = some cell ∧ cell.vm.isStatics = false ∧ (xs X).vm.findClass y.cls = some cell.cls)
    (hmc : rm.cells = mc) (hms : rm.slots = ms) (hR : rm.frames + 1 ≤ R.frames ∧ 8 + (L + 11) + rm.locals ≤ R.locals) (hf : k + mc ≤ R.cells ∧ z + ms ≤ R.slots) (hA : As.length = m) (hst : st = As.reverse ++ .ref a :: rest) (hr8 : (rest.map fun v => v.category).sum ≤ 8) : CO X k z mc ms ws isC lv st rest pc Qp := by
  refine co_run (wc := wc) (av := (Value.ref a :: As).toArray) C hC hn (fun H locs ls hP hD hS hl => ?_)
  have hp := co_pre (l := xl X) (av := .ref a :: As) C hC hn hP hD hS
  rw [← C.2.2.2.2.2.2.2.2.2.2] at hR hf
  exact va_runV (As := As) (rest := rest) ⟨C.1, C.2.1, C.2.2.1, C.2.2.2.1, C.2.2.2.2.1⟩ (hc H.size) (cwV m C.2.2.2.2.1 (tb_all (l := [.methodLink own i y, .instanceMethod y, .selects y.cls y y, .initialized y.cls]) (fun v hv => by
      simp only [List.mem_cons, List.not_mem_nil, or_false] at hv
      rcases hv with rfl | rfl | rfl | rfl
      · exact hlk
      · exact hm.2.1
      · exact hm.2.2.1
      · exact hm.2.2.2.1) hm.1) rfl hmc hms ⟨rfl, hm.2.2.2.2⟩ hR) ⟨hp.1, hrec H locs hP hS, hp.2⟩ rfl hA hl.1 hst (by simpa using hr8) d hf
theorem co_S (C : GC X cc own n R) {y : MethodName} {b : ByteArray} {L m i mc ms : Nat} {ret : Option FieldType} {rm : Room} {wc : va_W} {As rest : List Value} {Qp : Option Value → va_W → Prop} (hc : ConR (xl X) (xD X) (xt X) (xv X) y b L ret rm mc ms wc As (fun r u => Qp r u ∧ u.map Prod.fst = wc.map Prod.fst)) (hm : MWS y b L ret m) (hlk : Cond.methodLink own i y ∈ TB) (d : decode cc pc = .ok (.invokestatic i, 3)) (isC : List Nat) (hC : isC.map (fun i => ws[i]?) = wc.map some) (hn : va_nd isC = true)
    (hmc : rm.cells = mc) (hms : rm.slots = ms) (hR : rm.frames + 1 ≤ R.frames ∧ 8 + (L + 11) + rm.locals ≤ R.locals) (hf : k + mc ≤ R.cells ∧ z + ms ≤ R.slots) (hA : As.length = m) (hst : st = As.reverse ++ rest) (hr8 : (rest.map fun v => v.category).sum ≤ 8) : CO X k z mc ms ws isC lv st rest pc Qp := by
  refine co_run (wc := wc) (av := As.toArray) C hC hn (fun H locs ls hP hD hS hl => ?_)
  have hp := co_pre (l := xl X) (av := As) C hC hn hP hD hS
  rw [← C.2.2.2.2.2.2.2.2.2.2] at hR hf
  exact va_runS (As := As) (rest := rest) ⟨C.1, C.2.1, C.2.2.1, C.2.2.2.1, C.2.2.2.2.1⟩ (hc H.size) (va_cwS m C.2.2.2.2.1 (tb_all (l := [.methodLink own i y, .static y, .initialized y.cls]) (fun v hv => by
      simp only [List.mem_cons, List.not_mem_nil, or_false] at hv
      rcases hv with rfl | rfl | rfl
      · exact hlk
      · exact hm.2.1
      · exact hm.2.2.1) hm.1) rfl hmc hms hm.2.2.2 hR) hp rfl hA hl.1 hst (by simpa using hr8) d hf
theorem co_SN (C : GC X cc own n R) {y : MethodName} {b : ByteArray} {L m i mc ms : Nat} {ret : Option FieldType} {rm : Room} {wc : va_W} {As rest : List Value} {Qp : Option Value → va_W → Prop} (hc : ConR (xl X) (xD X) (xt X) (xv X) y b L ret rm mc ms wc As (fun r u => Qp r u ∧ u.map Prod.fst = wc.map Prod.fst)) (hm : MWS y b L ret m) (hlk : (own, i, y) ∈ nwM) (d : decode cc pc = .ok (.invokestatic i, 3)) (isC : List Nat) (hC : isC.map (fun i => ws[i]?) = wc.map some) (hn : va_nd isC = true)
    (hmc : rm.cells = mc) (hms : rm.slots = ms) (hR : rm.frames + 1 ≤ R.frames ∧ 8 + (L + 11) + rm.locals ≤ R.locals) (hf : k + mc ≤ R.cells ∧ z + ms ≤ R.slots) (hA : As.length = m) (hst : st = As.reverse ++ rest) (hr8 : (rest.map fun v => v.category).sum ≤ 8) : CO X k z mc ms ws isC lv st rest pc Qp := by
  refine co_run (wc := wc) (av := As.toArray) C hC hn (fun H locs ls hP hD hS hl => ?_)
  have hp := co_pre (l := xl X) (av := As) C hC hn hP hD hS
  rw [← C.2.2.2.2.2.2.2.2.2.2] at hR hf
  exact va_runSN (As := As) (rest := rest) ⟨C.1, C.2.1, C.2.2.1, C.2.2.2.1, C.2.2.2.2.1⟩ (hc H.size) ⟨va_cnB m C.2.2.2.2.1 (tb_all (l := []) (fun v hv => absurd hv List.not_mem_nil) hm.1) rfl hmc hms (C.2.2.2.2.2.2.2.1.2.2.2.2.2.2.2.2.2 _ hlk) (C.2.2.2.2.1 _ hm.2.2.1) hm.2.2.2 hR, C.2.2.2.2.1 _ hm.2.1, trivial⟩ hp rfl hA hl.1 hst (by simpa using hr8) d hf
/-- the receiver is a cell of the world -/
theorem rec_w (C : GC X cc own n R) (q0 ci : Nat) {a : Nat} {nm : String} {T : u_T} {N : Nat} {fs : List Value} (he : ws[q0]? = some (a, .inr (ci, fs))) (hc : classes[ci]? = some (nm, T, N)) : ∀ (H : Heap) (locs : List Loc), va_P (xD X) classes ws H → va_S (xA X) (xs X).heap H locs → ∃ cell : Cell, H[a]? = some cell ∧ cell.vm.isStatics = false ∧ (xs X).vm.findClass nm = some cell.cls :=
  fun H _ hP _ => va_recv C.2.2.2.2.2.1 hP hc he
/-- the receiver is a text -/
theorem rec_s (C : GC X cc own n R) {i : Nat} (hi : i < 16) : ∀ (H : Heap) (locs : List Loc), va_P (xD X) classes ws H → va_S (xA X) (xs X).heap H locs → ∃ cell : Cell, H[vaK (xv X) i]? = some cell ∧ cell.vm.isStatics = false ∧ (xs X).vm.findClass "java/lang/String" = some cell.cls :=
  fun H _ _ hS => vk_recv C.2.2.2.2.2.2.2.1.2.2.2.2.2.1 hi hS

/-- typed ends: int, long, nothing, a reference or null -/
def qI {S : Type} (W : S → va_W) (post : Int32 → S → Prop) : Option Value → va_W → Prop := fun r u => ∃ (v : Int32) (c : S), r = some (.int v) ∧ u = W c ∧ post v c
def qL {S : Type} (W : S → va_W) (post : Int64 → S → Prop) : Option Value → va_W → Prop := fun r u => ∃ (v : Int64) (c : S), r = some (.long v) ∧ u = W c ∧ post v c
def qV {S : Type} (W : S → va_W) (post : S → Prop) : Option Value → va_W → Prop := fun r u => ∃ c : S, r = none ∧ u = W c ∧ post c
def qR {S : Type} (W : S → va_W) (f : Nat → Value) (post : Nat → S → Prop) : Option Value → va_W → Prop := fun r u => ∃ (j : Nat) (c : S), r = some (f j) ∧ u = W c ∧ post j c
theorem k_I {S : Type} {W : S → va_W} {post : Int32 → S → Prop} {isC : List Nat} {rest : List Value} (co : CO X k z 0 0 ws isC lv st rest pc (qI W post)) (W' : S → va_W) (hw : ∀ c, scat ws isC (W c) = W' c) (h : ∀ v c, post v c → G X k z (W' c) lv (.int v :: rest) (pc + 3)) : G X k z ws lv st pc := co (fun r u ⟨v, c, e1, e2, hq⟩ _ => by subst e1; subst e2; rw [hw]; exact h v c hq)
theorem k_L {S : Type} {W : S → va_W} {post : Int64 → S → Prop} {isC : List Nat} {rest : List Value} (co : CO X k z 0 0 ws isC lv st rest pc (qL W post)) (W' : S → va_W) (hw : ∀ c, scat ws isC (W c) = W' c) (h : ∀ v c, post v c → G X k z (W' c) lv (.long v :: rest) (pc + 3)) : G X k z ws lv st pc := co (fun r u ⟨v, c, e1, e2, hq⟩ _ => by subst e1; subst e2; rw [hw]; exact h v c hq)
theorem k_V {S : Type} {W : S → va_W} {post : S → Prop} {isC : List Nat} {rest : List Value} (co : CO X k z 0 0 ws isC lv st rest pc (qV W post)) (W' : S → va_W) (hw : ∀ c, scat ws isC (W c) = W' c) (h : ∀ c, post c → G X k z (W' c) lv rest (pc + 3)) : G X k z ws lv st pc := co (fun r u ⟨c, e1, e2, hq⟩ _ => by subst e1; subst e2; rw [hw]; exact h c hq)
theorem k_R {S : Type} {W : S → va_W} {f : Nat → Value} {post : Nat → S → Prop} {isC : List Nat} {rest : List Value} (co : CO X k z 0 0 ws isC lv st rest pc (qR W f post)) (W' : S → va_W) (hw : ∀ c, scat ws isC (W c) = W' c) (h : ∀ v c, post v c → G X k z (W' c) lv (f v :: rest) (pc + 3)) : G X k z ws lv st pc := co (fun r u ⟨v, c, e1, e2, hq⟩ _ => by subst e1; subst e2; rw [hw]; exact h v c hq)
end GCALLS
end
section
abbrev ASt : Type := (Nat → Int32) × (Int32) × (Int32) × (Int32) × (Int32) × (Int32)
def A_bodies (c : ASt) : Nat → Int32 := c.1
def A_traced (c : ASt) : Int32 := c.2.1
def A_kind (c : ASt) : Int32 := c.2.2.1
def A_n (c : ASt) : Int32 := c.2.2.2.1
def A_a (c : ASt) : Int32 := c.2.2.2.2.1
def A_isParted (c : ASt) : Int32 := c.2.2.2.2.2
def A_bodies_ (c : ASt) (v : Nat → Int32) : ASt := (v, c.2)
def A_traced_ (c : ASt) (v : Int32) : ASt := (c.1, v, c.2.2)
def A_kind_ (c : ASt) (v : Int32) : ASt := (c.1, c.2.1, v, c.2.2.2)
def A_n_ (c : ASt) (v : Int32) : ASt := (c.1, c.2.1, c.2.2.1, v, c.2.2.2.2)
def A_a_ (c : ASt) (v : Int32) : ASt := (c.1, c.2.1, c.2.2.1, c.2.2.2.1, v, c.2.2.2.2.2)
def A_isParted_ (c : ASt) (v : Int32) : ASt := (c.1, c.2.1, c.2.2.1, c.2.2.2.1, c.2.2.2.2.1, v)
theorem A_gs : (∀ (c : ASt) (v : Nat → Int32), A_bodies (A_bodies_ c v) = v) ∧ (∀ (c : ASt) (v : Nat → Int32), A_traced (A_bodies_ c v) = A_traced c) ∧ (∀ (c : ASt) (v : Nat → Int32), A_kind (A_bodies_ c v) = A_kind c) ∧ (∀ (c : ASt) (v : Nat → Int32), A_n (A_bodies_ c v) = A_n c) ∧ (∀ (c : ASt) (v : Nat → Int32), A_a (A_bodies_ c v) = A_a c) ∧ (∀ (c : ASt) (v : Nat → Int32), A_isParted (A_bodies_ c v) = A_isParted c) ∧ (∀ (c : ASt) (v : Int32), A_bodies (A_traced_ c v) = A_bodies c) ∧ (∀ (c : ASt) (v : Int32), A_traced (A_traced_ c v) = v) ∧ (∀ (c : ASt) (v : Int32), A_kind (A_traced_ c v) = A_kind c) ∧ (∀ (c : ASt) (v : Int32), A_n (A_traced_ c v) = A_n c) ∧ (∀ (c : ASt) (v : Int32), A_a (A_traced_ c v) = A_a c) ∧ (∀ (c : ASt) (v : Int32), A_isParted (A_traced_ c v) = A_isParted c) ∧ (∀ (c : ASt) (v : Int32), A_bodies (A_kind_ c v) = A_bodies c) ∧ (∀ (c : ASt) (v : Int32), A_traced (A_kind_ c v) = A_traced c) ∧ (∀ (c : ASt) (v : Int32), A_kind (A_kind_ c v) = v) ∧ (∀ (c : ASt) (v : Int32), A_n (A_kind_ c v) = A_n c) ∧ (∀ (c : ASt) (v : Int32), A_a (A_kind_ c v) = A_a c) ∧ (∀ (c : ASt) (v : Int32), A_isParted (A_kind_ c v) = A_isParted c) ∧ (∀ (c : ASt) (v : Int32), A_bodies (A_n_ c v) = A_bodies c) ∧ (∀ (c : ASt) (v : Int32), A_traced (A_n_ c v) = A_traced c) ∧ (∀ (c : ASt) (v : Int32), A_kind (A_n_ c v) = A_kind c) ∧ (∀ (c : ASt) (v : Int32), A_n (A_n_ c v) = v) ∧ (∀ (c : ASt) (v : Int32), A_a (A_n_ c v) = A_a c) ∧ (∀ (c : ASt) (v : Int32), A_isParted (A_n_ c v) = A_isParted c) ∧ (∀ (c : ASt) (v : Int32), A_bodies (A_a_ c v) = A_bodies c) ∧ (∀ (c : ASt) (v : Int32), A_traced (A_a_ c v) = A_traced c) ∧ (∀ (c : ASt) (v : Int32), A_kind (A_a_ c v) = A_kind c) ∧ (∀ (c : ASt) (v : Int32), A_n (A_a_ c v) = A_n c) ∧ (∀ (c : ASt) (v : Int32), A_a (A_a_ c v) = v) ∧ (∀ (c : ASt) (v : Int32), A_isParted (A_a_ c v) = A_isParted c) ∧ (∀ (c : ASt) (v : Int32), A_bodies (A_isParted_ c v) = A_bodies c) ∧ (∀ (c : ASt) (v : Int32), A_traced (A_isParted_ c v) = A_traced c) ∧ (∀ (c : ASt) (v : Int32), A_kind (A_isParted_ c v) = A_kind c) ∧ (∀ (c : ASt) (v : Int32), A_n (A_isParted_ c v) = A_n c) ∧ (∀ (c : ASt) (v : Int32), A_a (A_isParted_ c v) = A_a c) ∧ (∀ (c : ASt) (v : Int32), A_isParted (A_isParted_ c v) = v) := by
  refine ⟨?_, ?_, ?_, ?_, ?_, ?_, ?_, ?_, ?_, ?_, ?_, ?_, ?_, ?_, ?_, ?_, ?_, ?_, ?_, ?_, ?_, ?_, ?_, ?_, ?_, ?_, ?_, ?_, ?_, ?_, ?_, ?_, ?_, ?_, ?_, ?_⟩ <;> intro c v <;> rfl
abbrev CSt : Type := (Nat → Int32) × (Nat → Int32) × (Nat → Int32) × (Nat → Int32) × (Nat → Int32) × (Nat → Int32) × (Nat → Int32) × (Nat → Int32) × (Int32) × (Int32) × (Int32) × (Int32)
def C_laws (c : CSt) : Nat → Int32 := c.1
def C_noise (c : CSt) : Nat → Int32 := c.2.1
def C_lost (c : CSt) : Nat → Int32 := c.2.2.1
def C_kind (c : CSt) : Nat → Int32 := c.2.2.2.1
def C_load (c : CSt) : Nat → Int32 := c.2.2.2.2.1
def C_sort (c : CSt) : Nat → Int32 := c.2.2.2.2.2.1
def C_at (c : CSt) : Nat → Int32 := c.2.2.2.2.2.2.1
def C_bound (c : CSt) : Nat → Int32 := c.2.2.2.2.2.2.2.1
def C_count (c : CSt) : Int32 := c.2.2.2.2.2.2.2.2.1
def C_hour (c : CSt) : Int32 := c.2.2.2.2.2.2.2.2.2.1
def C_z (c : CSt) : Int32 := c.2.2.2.2.2.2.2.2.2.2.1
def C_heldBack (c : CSt) : Int32 := c.2.2.2.2.2.2.2.2.2.2.2
def C_laws_ (c : CSt) (v : Nat → Int32) : CSt := (v, c.2)
def C_noise_ (c : CSt) (v : Nat → Int32) : CSt := (c.1, v, c.2.2)
def C_lost_ (c : CSt) (v : Nat → Int32) : CSt := (c.1, c.2.1, v, c.2.2.2)
def C_kind_ (c : CSt) (v : Nat → Int32) : CSt := (c.1, c.2.1, c.2.2.1, v, c.2.2.2.2)
def C_load_ (c : CSt) (v : Nat → Int32) : CSt := (c.1, c.2.1, c.2.2.1, c.2.2.2.1, v, c.2.2.2.2.2)
def C_sort_ (c : CSt) (v : Nat → Int32) : CSt := (c.1, c.2.1, c.2.2.1, c.2.2.2.1, c.2.2.2.2.1, v, c.2.2.2.2.2.2)
def C_at_ (c : CSt) (v : Nat → Int32) : CSt := (c.1, c.2.1, c.2.2.1, c.2.2.2.1, c.2.2.2.2.1, c.2.2.2.2.2.1, v, c.2.2.2.2.2.2.2)
def C_bound_ (c : CSt) (v : Nat → Int32) : CSt := (c.1, c.2.1, c.2.2.1, c.2.2.2.1, c.2.2.2.2.1, c.2.2.2.2.2.1, c.2.2.2.2.2.2.1, v, c.2.2.2.2.2.2.2.2)
def C_count_ (c : CSt) (v : Int32) : CSt := (c.1, c.2.1, c.2.2.1, c.2.2.2.1, c.2.2.2.2.1, c.2.2.2.2.2.1, c.2.2.2.2.2.2.1, c.2.2.2.2.2.2.2.1, v, c.2.2.2.2.2.2.2.2.2)
def C_hour_ (c : CSt) (v : Int32) : CSt := (c.1, c.2.1, c.2.2.1, c.2.2.2.1, c.2.2.2.2.1, c.2.2.2.2.2.1, c.2.2.2.2.2.2.1, c.2.2.2.2.2.2.2.1, c.2.2.2.2.2.2.2.2.1, v, c.2.2.2.2.2.2.2.2.2.2)
def C_z_ (c : CSt) (v : Int32) : CSt := (c.1, c.2.1, c.2.2.1, c.2.2.2.1, c.2.2.2.2.1, c.2.2.2.2.2.1, c.2.2.2.2.2.2.1, c.2.2.2.2.2.2.2.1, c.2.2.2.2.2.2.2.2.1, c.2.2.2.2.2.2.2.2.2.1, v, c.2.2.2.2.2.2.2.2.2.2.2)
def C_heldBack_ (c : CSt) (v : Int32) : CSt := (c.1, c.2.1, c.2.2.1, c.2.2.2.1, c.2.2.2.2.1, c.2.2.2.2.2.1, c.2.2.2.2.2.2.1, c.2.2.2.2.2.2.2.1, c.2.2.2.2.2.2.2.2.1, c.2.2.2.2.2.2.2.2.2.1, c.2.2.2.2.2.2.2.2.2.2.1, v)
theorem C_gs : (∀ (c : CSt) (v : Nat → Int32), C_laws (C_laws_ c v) = v) ∧ (∀ (c : CSt) (v : Nat → Int32), C_noise (C_laws_ c v) = C_noise c) ∧ (∀ (c : CSt) (v : Nat → Int32), C_lost (C_laws_ c v) = C_lost c) ∧ (∀ (c : CSt) (v : Nat → Int32), C_kind (C_laws_ c v) = C_kind c) ∧ (∀ (c : CSt) (v : Nat → Int32), C_load (C_laws_ c v) = C_load c) ∧ (∀ (c : CSt) (v : Nat → Int32), C_sort (C_laws_ c v) = C_sort c) ∧ (∀ (c : CSt) (v : Nat → Int32), C_at (C_laws_ c v) = C_at c) ∧ (∀ (c : CSt) (v : Nat → Int32), C_bound (C_laws_ c v) = C_bound c) ∧ (∀ (c : CSt) (v : Nat → Int32), C_count (C_laws_ c v) = C_count c) ∧ (∀ (c : CSt) (v : Nat → Int32), C_hour (C_laws_ c v) = C_hour c) ∧ (∀ (c : CSt) (v : Nat → Int32), C_z (C_laws_ c v) = C_z c) ∧ (∀ (c : CSt) (v : Nat → Int32), C_heldBack (C_laws_ c v) = C_heldBack c) ∧ (∀ (c : CSt) (v : Nat → Int32), C_laws (C_noise_ c v) = C_laws c) ∧ (∀ (c : CSt) (v : Nat → Int32), C_noise (C_noise_ c v) = v) ∧ (∀ (c : CSt) (v : Nat → Int32), C_lost (C_noise_ c v) = C_lost c) ∧ (∀ (c : CSt) (v : Nat → Int32), C_kind (C_noise_ c v) = C_kind c) ∧ (∀ (c : CSt) (v : Nat → Int32), C_load (C_noise_ c v) = C_load c) ∧ (∀ (c : CSt) (v : Nat → Int32), C_sort (C_noise_ c v) = C_sort c) ∧ (∀ (c : CSt) (v : Nat → Int32), C_at (C_noise_ c v) = C_at c) ∧ (∀ (c : CSt) (v : Nat → Int32), C_bound (C_noise_ c v) = C_bound c) ∧ (∀ (c : CSt) (v : Nat → Int32), C_count (C_noise_ c v) = C_count c) ∧ (∀ (c : CSt) (v : Nat → Int32), C_hour (C_noise_ c v) = C_hour c) ∧ (∀ (c : CSt) (v : Nat → Int32), C_z (C_noise_ c v) = C_z c) ∧ (∀ (c : CSt) (v : Nat → Int32), C_heldBack (C_noise_ c v) = C_heldBack c) ∧ (∀ (c : CSt) (v : Nat → Int32), C_laws (C_lost_ c v) = C_laws c) ∧ (∀ (c : CSt) (v : Nat → Int32), C_noise (C_lost_ c v) = C_noise c) ∧ (∀ (c : CSt) (v : Nat → Int32), C_lost (C_lost_ c v) = v) ∧ (∀ (c : CSt) (v : Nat → Int32), C_kind (C_lost_ c v) = C_kind c) ∧ (∀ (c : CSt) (v : Nat → Int32), C_load (C_lost_ c v) = C_load c) ∧ (∀ (c : CSt) (v : Nat → Int32), C_sort (C_lost_ c v) = C_sort c) ∧ (∀ (c : CSt) (v : Nat → Int32), C_at (C_lost_ c v) = C_at c) ∧ (∀ (c : CSt) (v : Nat → Int32), C_bound (C_lost_ c v) = C_bound c) ∧ (∀ (c : CSt) (v : Nat → Int32), C_count (C_lost_ c v) = C_count c) ∧ (∀ (c : CSt) (v : Nat → Int32), C_hour (C_lost_ c v) = C_hour c) ∧ (∀ (c : CSt) (v : Nat → Int32), C_z (C_lost_ c v) = C_z c) ∧ (∀ (c : CSt) (v : Nat → Int32), C_heldBack (C_lost_ c v) = C_heldBack c) ∧ (∀ (c : CSt) (v : Nat → Int32), C_laws (C_kind_ c v) = C_laws c) ∧ (∀ (c : CSt) (v : Nat → Int32), C_noise (C_kind_ c v) = C_noise c) ∧ (∀ (c : CSt) (v : Nat → Int32), C_lost (C_kind_ c v) = C_lost c) ∧ (∀ (c : CSt) (v : Nat → Int32), C_kind (C_kind_ c v) = v) ∧ (∀ (c : CSt) (v : Nat → Int32), C_load (C_kind_ c v) = C_load c) ∧ (∀ (c : CSt) (v : Nat → Int32), C_sort (C_kind_ c v) = C_sort c) ∧ (∀ (c : CSt) (v : Nat → Int32), C_at (C_kind_ c v) = C_at c) ∧ (∀ (c : CSt) (v : Nat → Int32), C_bound (C_kind_ c v) = C_bound c) ∧ (∀ (c : CSt) (v : Nat → Int32), C_count (C_kind_ c v) = C_count c) ∧ (∀ (c : CSt) (v : Nat → Int32), C_hour (C_kind_ c v) = C_hour c) ∧ (∀ (c : CSt) (v : Nat → Int32), C_z (C_kind_ c v) = C_z c) ∧ (∀ (c : CSt) (v : Nat → Int32), C_heldBack (C_kind_ c v) = C_heldBack c) ∧ (∀ (c : CSt) (v : Nat → Int32), C_laws (C_load_ c v) = C_laws c) ∧ (∀ (c : CSt) (v : Nat → Int32), C_noise (C_load_ c v) = C_noise c) ∧ (∀ (c : CSt) (v : Nat → Int32), C_lost (C_load_ c v) = C_lost c) ∧ (∀ (c : CSt) (v : Nat → Int32), C_kind (C_load_ c v) = C_kind c) ∧ (∀ (c : CSt) (v : Nat → Int32), C_load (C_load_ c v) = v) ∧ (∀ (c : CSt) (v : Nat → Int32), C_sort (C_load_ c v) = C_sort c) ∧ (∀ (c : CSt) (v : Nat → Int32), C_at (C_load_ c v) = C_at c) ∧ (∀ (c : CSt) (v : Nat → Int32), C_bound (C_load_ c v) = C_bound c) ∧ (∀ (c : CSt) (v : Nat → Int32), C_count (C_load_ c v) = C_count c) ∧ (∀ (c : CSt) (v : Nat → Int32), C_hour (C_load_ c v) = C_hour c) ∧ (∀ (c : CSt) (v : Nat → Int32), C_z (C_load_ c v) = C_z c) ∧ (∀ (c : CSt) (v : Nat → Int32), C_heldBack (C_load_ c v) = C_heldBack c) ∧ (∀ (c : CSt) (v : Nat → Int32), C_laws (C_sort_ c v) = C_laws c) ∧ (∀ (c : CSt) (v : Nat → Int32), C_noise (C_sort_ c v) = C_noise c) ∧ (∀ (c : CSt) (v : Nat → Int32), C_lost (C_sort_ c v) = C_lost c) ∧ (∀ (c : CSt) (v : Nat → Int32), C_kind (C_sort_ c v) = C_kind c) ∧ (∀ (c : CSt) (v : Nat → Int32), C_load (C_sort_ c v) = C_load c) ∧ (∀ (c : CSt) (v : Nat → Int32), C_sort (C_sort_ c v) = v) ∧ (∀ (c : CSt) (v : Nat → Int32), C_at (C_sort_ c v) = C_at c) ∧ (∀ (c : CSt) (v : Nat → Int32), C_bound (C_sort_ c v) = C_bound c) ∧ (∀ (c : CSt) (v : Nat → Int32), C_count (C_sort_ c v) = C_count c) ∧ (∀ (c : CSt) (v : Nat → Int32), C_hour (C_sort_ c v) = C_hour c) ∧ (∀ (c : CSt) (v : Nat → Int32), C_z (C_sort_ c v) = C_z c) ∧ (∀ (c : CSt) (v : Nat → Int32), C_heldBack (C_sort_ c v) = C_heldBack c) ∧ (∀ (c : CSt) (v : Nat → Int32), C_laws (C_at_ c v) = C_laws c) ∧ (∀ (c : CSt) (v : Nat → Int32), C_noise (C_at_ c v) = C_noise c) ∧ (∀ (c : CSt) (v : Nat → Int32), C_lost (C_at_ c v) = C_lost c) ∧ (∀ (c : CSt) (v : Nat → Int32), C_kind (C_at_ c v) = C_kind c) ∧ (∀ (c : CSt) (v : Nat → Int32), C_load (C_at_ c v) = C_load c) ∧ (∀ (c : CSt) (v : Nat → Int32), C_sort (C_at_ c v) = C_sort c) ∧ (∀ (c : CSt) (v : Nat → Int32), C_at (C_at_ c v) = v) ∧ (∀ (c : CSt) (v : Nat → Int32), C_bound (C_at_ c v) = C_bound c) ∧ (∀ (c : CSt) (v : Nat → Int32), C_count (C_at_ c v) = C_count c) ∧ (∀ (c : CSt) (v : Nat → Int32), C_hour (C_at_ c v) = C_hour c) ∧ (∀ (c : CSt) (v : Nat → Int32), C_z (C_at_ c v) = C_z c) ∧ (∀ (c : CSt) (v : Nat → Int32), C_heldBack (C_at_ c v) = C_heldBack c) ∧ (∀ (c : CSt) (v : Nat → Int32), C_laws (C_bound_ c v) = C_laws c) ∧ (∀ (c : CSt) (v : Nat → Int32), C_noise (C_bound_ c v) = C_noise c) ∧ (∀ (c : CSt) (v : Nat → Int32), C_lost (C_bound_ c v) = C_lost c) ∧ (∀ (c : CSt) (v : Nat → Int32), C_kind (C_bound_ c v) = C_kind c) ∧ (∀ (c : CSt) (v : Nat → Int32), C_load (C_bound_ c v) = C_load c) ∧ (∀ (c : CSt) (v : Nat → Int32), C_sort (C_bound_ c v) = C_sort c) ∧ (∀ (c : CSt) (v : Nat → Int32), C_at (C_bound_ c v) = C_at c) ∧ (∀ (c : CSt) (v : Nat → Int32), C_bound (C_bound_ c v) = v) ∧ (∀ (c : CSt) (v : Nat → Int32), C_count (C_bound_ c v) = C_count c) ∧ (∀ (c : CSt) (v : Nat → Int32), C_hour (C_bound_ c v) = C_hour c) ∧ (∀ (c : CSt) (v : Nat → Int32), C_z (C_bound_ c v) = C_z c) ∧ (∀ (c : CSt) (v : Nat → Int32), C_heldBack (C_bound_ c v) = C_heldBack c) ∧ (∀ (c : CSt) (v : Int32), C_laws (C_count_ c v) = C_laws c) ∧ (∀ (c : CSt) (v : Int32), C_noise (C_count_ c v) = C_noise c) ∧ (∀ (c : CSt) (v : Int32), C_lost (C_count_ c v) = C_lost c) ∧ (∀ (c : CSt) (v : Int32), C_kind (C_count_ c v) = C_kind c) ∧ (∀ (c : CSt) (v : Int32), C_load (C_count_ c v) = C_load c) ∧ (∀ (c : CSt) (v : Int32), C_sort (C_count_ c v) = C_sort c) ∧ (∀ (c : CSt) (v : Int32), C_at (C_count_ c v) = C_at c) ∧ (∀ (c : CSt) (v : Int32), C_bound (C_count_ c v) = C_bound c) ∧ (∀ (c : CSt) (v : Int32), C_count (C_count_ c v) = v) ∧ (∀ (c : CSt) (v : Int32), C_hour (C_count_ c v) = C_hour c) ∧ (∀ (c : CSt) (v : Int32), C_z (C_count_ c v) = C_z c) ∧ (∀ (c : CSt) (v : Int32), C_heldBack (C_count_ c v) = C_heldBack c) ∧ (∀ (c : CSt) (v : Int32), C_laws (C_hour_ c v) = C_laws c) ∧ (∀ (c : CSt) (v : Int32), C_noise (C_hour_ c v) = C_noise c) ∧ (∀ (c : CSt) (v : Int32), C_lost (C_hour_ c v) = C_lost c) ∧ (∀ (c : CSt) (v : Int32), C_kind (C_hour_ c v) = C_kind c) ∧ (∀ (c : CSt) (v : Int32), C_load (C_hour_ c v) = C_load c) ∧ (∀ (c : CSt) (v : Int32), C_sort (C_hour_ c v) = C_sort c) ∧ (∀ (c : CSt) (v : Int32), C_at (C_hour_ c v) = C_at c) ∧ (∀ (c : CSt) (v : Int32), C_bound (C_hour_ c v) = C_bound c) ∧ (∀ (c : CSt) (v : Int32), C_count (C_hour_ c v) = C_count c) ∧ (∀ (c : CSt) (v : Int32), C_hour (C_hour_ c v) = v) ∧ (∀ (c : CSt) (v : Int32), C_z (C_hour_ c v) = C_z c) ∧ (∀ (c : CSt) (v : Int32), C_heldBack (C_hour_ c v) = C_heldBack c) ∧ (∀ (c : CSt) (v : Int32), C_laws (C_z_ c v) = C_laws c) ∧ (∀ (c : CSt) (v : Int32), C_noise (C_z_ c v) = C_noise c) ∧ (∀ (c : CSt) (v : Int32), C_lost (C_z_ c v) = C_lost c) ∧ (∀ (c : CSt) (v : Int32), C_kind (C_z_ c v) = C_kind c) ∧ (∀ (c : CSt) (v : Int32), C_load (C_z_ c v) = C_load c) ∧ (∀ (c : CSt) (v : Int32), C_sort (C_z_ c v) = C_sort c) ∧ (∀ (c : CSt) (v : Int32), C_at (C_z_ c v) = C_at c) ∧ (∀ (c : CSt) (v : Int32), C_bound (C_z_ c v) = C_bound c) ∧ (∀ (c : CSt) (v : Int32), C_count (C_z_ c v) = C_count c) ∧ (∀ (c : CSt) (v : Int32), C_hour (C_z_ c v) = C_hour c) ∧ (∀ (c : CSt) (v : Int32), C_z (C_z_ c v) = v) ∧ (∀ (c : CSt) (v : Int32), C_heldBack (C_z_ c v) = C_heldBack c) ∧ (∀ (c : CSt) (v : Int32), C_laws (C_heldBack_ c v) = C_laws c) ∧ (∀ (c : CSt) (v : Int32), C_noise (C_heldBack_ c v) = C_noise c) ∧ (∀ (c : CSt) (v : Int32), C_lost (C_heldBack_ c v) = C_lost c) ∧ (∀ (c : CSt) (v : Int32), C_kind (C_heldBack_ c v) = C_kind c) ∧ (∀ (c : CSt) (v : Int32), C_load (C_heldBack_ c v) = C_load c) ∧ (∀ (c : CSt) (v : Int32), C_sort (C_heldBack_ c v) = C_sort c) ∧ (∀ (c : CSt) (v : Int32), C_at (C_heldBack_ c v) = C_at c) ∧ (∀ (c : CSt) (v : Int32), C_bound (C_heldBack_ c v) = C_bound c) ∧ (∀ (c : CSt) (v : Int32), C_count (C_heldBack_ c v) = C_count c) ∧ (∀ (c : CSt) (v : Int32), C_hour (C_heldBack_ c v) = C_hour c) ∧ (∀ (c : CSt) (v : Int32), C_z (C_heldBack_ c v) = C_z c) ∧ (∀ (c : CSt) (v : Int32), C_heldBack (C_heldBack_ c v) = v) := by
  refine ⟨?_, ?_, ?_, ?_, ?_, ?_, ?_, ?_, ?_, ?_, ?_, ?_, ?_, ?_, ?_, ?_, ?_, ?_, ?_, ?_, ?_, ?_, ?_, ?_, ?_, ?_, ?_, ?_, ?_, ?_, ?_, ?_, ?_, ?_, ?_, ?_, ?_, ?_, ?_, ?_, ?_, ?_, ?_, ?_, ?_, ?_, ?_, ?_, ?_, ?_, ?_, ?_, ?_, ?_, ?_, ?_, ?_, ?_, ?_, ?_, ?_, ?_, ?_, ?_, ?_, ?_, ?_, ?_, ?_, ?_, ?_, ?_, ?_, ?_, ?_, ?_, ?_, ?_, ?_, ?_, ?_, ?_, ?_, ?_, ?_, ?_, ?_, ?_, ?_, ?_, ?_, ?_, ?_, ?_, ?_, ?_, ?_, ?_, ?_, ?_, ?_, ?_, ?_, ?_, ?_, ?_, ?_, ?_, ?_, ?_, ?_, ?_, ?_, ?_, ?_, ?_, ?_, ?_, ?_, ?_, ?_, ?_, ?_, ?_, ?_, ?_, ?_, ?_, ?_, ?_, ?_, ?_, ?_, ?_, ?_, ?_, ?_, ?_, ?_, ?_, ?_, ?_, ?_, ?_⟩ <;> intro c v <;> rfl
abbrev SSt : Type := (Nat → Int32) × (Int32) × (Int32)
def S_items (c : SSt) : Nat → Int32 := c.1
def S_sort (c : SSt) : Int32 := c.2.1
def S_size (c : SSt) : Int32 := c.2.2
def S_items_ (c : SSt) (v : Nat → Int32) : SSt := (v, c.2)
def S_sort_ (c : SSt) (v : Int32) : SSt := (c.1, v, c.2.2)
def S_size_ (c : SSt) (v : Int32) : SSt := (c.1, c.2.1, v)
theorem S_gs : (∀ (c : SSt) (v : Nat → Int32), S_items (S_items_ c v) = v) ∧ (∀ (c : SSt) (v : Nat → Int32), S_sort (S_items_ c v) = S_sort c) ∧ (∀ (c : SSt) (v : Nat → Int32), S_size (S_items_ c v) = S_size c) ∧ (∀ (c : SSt) (v : Int32), S_items (S_sort_ c v) = S_items c) ∧ (∀ (c : SSt) (v : Int32), S_sort (S_sort_ c v) = v) ∧ (∀ (c : SSt) (v : Int32), S_size (S_sort_ c v) = S_size c) ∧ (∀ (c : SSt) (v : Int32), S_items (S_size_ c v) = S_items c) ∧ (∀ (c : SSt) (v : Int32), S_sort (S_size_ c v) = S_sort c) ∧ (∀ (c : SSt) (v : Int32), S_size (S_size_ c v) = v) := by
  refine ⟨?_, ?_, ?_, ?_, ?_, ?_, ?_, ?_, ?_⟩ <;> intro c v <;> rfl
abbrev HSt : Type := (Int32) × (Int32) × (Int32) × (Int32)
def H_what (c : HSt) : Int32 := c.1
def H_barge (c : HSt) : Int32 := c.2.1
def H_rowSort (c : HSt) : Int32 := c.2.2.1
def H_rowSize (c : HSt) : Int32 := c.2.2.2
def H_what_ (c : HSt) (v : Int32) : HSt := (v, c.2)
def H_barge_ (c : HSt) (v : Int32) : HSt := (c.1, v, c.2.2)
def H_rowSort_ (c : HSt) (v : Int32) : HSt := (c.1, c.2.1, v, c.2.2.2)
def H_rowSize_ (c : HSt) (v : Int32) : HSt := (c.1, c.2.1, c.2.2.1, v)
theorem H_gs : (∀ (c : HSt) (v : Int32), H_what (H_what_ c v) = v) ∧ (∀ (c : HSt) (v : Int32), H_barge (H_what_ c v) = H_barge c) ∧ (∀ (c : HSt) (v : Int32), H_rowSort (H_what_ c v) = H_rowSort c) ∧ (∀ (c : HSt) (v : Int32), H_rowSize (H_what_ c v) = H_rowSize c) ∧ (∀ (c : HSt) (v : Int32), H_what (H_barge_ c v) = H_what c) ∧ (∀ (c : HSt) (v : Int32), H_barge (H_barge_ c v) = v) ∧ (∀ (c : HSt) (v : Int32), H_rowSort (H_barge_ c v) = H_rowSort c) ∧ (∀ (c : HSt) (v : Int32), H_rowSize (H_barge_ c v) = H_rowSize c) ∧ (∀ (c : HSt) (v : Int32), H_what (H_rowSort_ c v) = H_what c) ∧ (∀ (c : HSt) (v : Int32), H_barge (H_rowSort_ c v) = H_barge c) ∧ (∀ (c : HSt) (v : Int32), H_rowSort (H_rowSort_ c v) = v) ∧ (∀ (c : HSt) (v : Int32), H_rowSize (H_rowSort_ c v) = H_rowSize c) ∧ (∀ (c : HSt) (v : Int32), H_what (H_rowSize_ c v) = H_what c) ∧ (∀ (c : HSt) (v : Int32), H_barge (H_rowSize_ c v) = H_barge c) ∧ (∀ (c : HSt) (v : Int32), H_rowSort (H_rowSize_ c v) = H_rowSort c) ∧ (∀ (c : HSt) (v : Int32), H_rowSize (H_rowSize_ c v) = v) := by
  refine ⟨?_, ?_, ?_, ?_, ?_, ?_, ?_, ?_, ?_, ?_, ?_, ?_, ?_, ?_, ?_, ?_⟩ <;> intro c v <;> rfl
abbrev TSt : Type := (Nat → Int32) × (Int32) × (Int32) × (Int32) × (Int32)
def T_bytes (c : TSt) : Nat → Int32 := c.1
def T_size (c : TSt) : Int32 := c.2.1
def T_sort (c : TSt) : Int32 := c.2.2.1
def T_start (c : TSt) : Int32 := c.2.2.2.1
def T_end (c : TSt) : Int32 := c.2.2.2.2
def T_bytes_ (c : TSt) (v : Nat → Int32) : TSt := (v, c.2)
def T_size_ (c : TSt) (v : Int32) : TSt := (c.1, v, c.2.2)
def T_sort_ (c : TSt) (v : Int32) : TSt := (c.1, c.2.1, v, c.2.2.2)
def T_start_ (c : TSt) (v : Int32) : TSt := (c.1, c.2.1, c.2.2.1, v, c.2.2.2.2)
def T_end_ (c : TSt) (v : Int32) : TSt := (c.1, c.2.1, c.2.2.1, c.2.2.2.1, v)
theorem T_gs : (∀ (c : TSt) (v : Nat → Int32), T_bytes (T_bytes_ c v) = v) ∧ (∀ (c : TSt) (v : Nat → Int32), T_size (T_bytes_ c v) = T_size c) ∧ (∀ (c : TSt) (v : Nat → Int32), T_sort (T_bytes_ c v) = T_sort c) ∧ (∀ (c : TSt) (v : Nat → Int32), T_start (T_bytes_ c v) = T_start c) ∧ (∀ (c : TSt) (v : Nat → Int32), T_end (T_bytes_ c v) = T_end c) ∧ (∀ (c : TSt) (v : Int32), T_bytes (T_size_ c v) = T_bytes c) ∧ (∀ (c : TSt) (v : Int32), T_size (T_size_ c v) = v) ∧ (∀ (c : TSt) (v : Int32), T_sort (T_size_ c v) = T_sort c) ∧ (∀ (c : TSt) (v : Int32), T_start (T_size_ c v) = T_start c) ∧ (∀ (c : TSt) (v : Int32), T_end (T_size_ c v) = T_end c) ∧ (∀ (c : TSt) (v : Int32), T_bytes (T_sort_ c v) = T_bytes c) ∧ (∀ (c : TSt) (v : Int32), T_size (T_sort_ c v) = T_size c) ∧ (∀ (c : TSt) (v : Int32), T_sort (T_sort_ c v) = v) ∧ (∀ (c : TSt) (v : Int32), T_start (T_sort_ c v) = T_start c) ∧ (∀ (c : TSt) (v : Int32), T_end (T_sort_ c v) = T_end c) ∧ (∀ (c : TSt) (v : Int32), T_bytes (T_start_ c v) = T_bytes c) ∧ (∀ (c : TSt) (v : Int32), T_size (T_start_ c v) = T_size c) ∧ (∀ (c : TSt) (v : Int32), T_sort (T_start_ c v) = T_sort c) ∧ (∀ (c : TSt) (v : Int32), T_start (T_start_ c v) = v) ∧ (∀ (c : TSt) (v : Int32), T_end (T_start_ c v) = T_end c) ∧ (∀ (c : TSt) (v : Int32), T_bytes (T_end_ c v) = T_bytes c) ∧ (∀ (c : TSt) (v : Int32), T_size (T_end_ c v) = T_size c) ∧ (∀ (c : TSt) (v : Int32), T_sort (T_end_ c v) = T_sort c) ∧ (∀ (c : TSt) (v : Int32), T_start (T_end_ c v) = T_start c) ∧ (∀ (c : TSt) (v : Int32), T_end (T_end_ c v) = v) := by
  refine ⟨?_, ?_, ?_, ?_, ?_, ?_, ?_, ?_, ?_, ?_, ?_, ?_, ?_, ?_, ?_, ?_, ?_, ?_, ?_, ?_, ?_, ?_, ?_, ?_, ?_⟩ <;> intro c v <;> rfl
abbrev XSt : Type := (CSt) × (CSt) × (CSt) × (Int32) × (TSt) × (Nat → Int32) × (Int32) × (Nat → SSt) × (Nat → HSt) × (ASt)
def X_now (c : XSt) : CSt := c.1
def X_tried (c : XSt) : CSt := c.2.1
def X_kept (c : XSt) : CSt := c.2.2.1
def X_isKept (c : XSt) : Int32 := c.2.2.2.1
def X_tape (c : XSt) : TSt := c.2.2.2.2.1
def X_rows (c : XSt) : Nat → Int32 := c.2.2.2.2.2.1
def X_rowCount (c : XSt) : Int32 := c.2.2.2.2.2.2.1
def X_sheets (c : XSt) : Nat → SSt := c.2.2.2.2.2.2.2.1
def X_shelves (c : XSt) : Nat → HSt := c.2.2.2.2.2.2.2.2.1
def X_acts (c : XSt) : ASt := c.2.2.2.2.2.2.2.2.2
def X_now_ (c : XSt) (v : CSt) : XSt := (v, c.2)
def X_tried_ (c : XSt) (v : CSt) : XSt := (c.1, v, c.2.2)
def X_kept_ (c : XSt) (v : CSt) : XSt := (c.1, c.2.1, v, c.2.2.2)
def X_isKept_ (c : XSt) (v : Int32) : XSt := (c.1, c.2.1, c.2.2.1, v, c.2.2.2.2)
def X_tape_ (c : XSt) (v : TSt) : XSt := (c.1, c.2.1, c.2.2.1, c.2.2.2.1, v, c.2.2.2.2.2)
def X_rows_ (c : XSt) (v : Nat → Int32) : XSt := (c.1, c.2.1, c.2.2.1, c.2.2.2.1, c.2.2.2.2.1, v, c.2.2.2.2.2.2)
def X_rowCount_ (c : XSt) (v : Int32) : XSt := (c.1, c.2.1, c.2.2.1, c.2.2.2.1, c.2.2.2.2.1, c.2.2.2.2.2.1, v, c.2.2.2.2.2.2.2)
def X_sheets_ (c : XSt) (v : Nat → SSt) : XSt := (c.1, c.2.1, c.2.2.1, c.2.2.2.1, c.2.2.2.2.1, c.2.2.2.2.2.1, c.2.2.2.2.2.2.1, v, c.2.2.2.2.2.2.2.2)
def X_shelves_ (c : XSt) (v : Nat → HSt) : XSt := (c.1, c.2.1, c.2.2.1, c.2.2.2.1, c.2.2.2.2.1, c.2.2.2.2.2.1, c.2.2.2.2.2.2.1, c.2.2.2.2.2.2.2.1, v, c.2.2.2.2.2.2.2.2.2)
def X_acts_ (c : XSt) (v : ASt) : XSt := (c.1, c.2.1, c.2.2.1, c.2.2.2.1, c.2.2.2.2.1, c.2.2.2.2.2.1, c.2.2.2.2.2.2.1, c.2.2.2.2.2.2.2.1, c.2.2.2.2.2.2.2.2.1, v)
theorem X_gs : (∀ (c : XSt) (v : CSt), X_now (X_now_ c v) = v) ∧ (∀ (c : XSt) (v : CSt), X_tried (X_now_ c v) = X_tried c) ∧ (∀ (c : XSt) (v : CSt), X_kept (X_now_ c v) = X_kept c) ∧ (∀ (c : XSt) (v : CSt), X_isKept (X_now_ c v) = X_isKept c) ∧ (∀ (c : XSt) (v : CSt), X_tape (X_now_ c v) = X_tape c) ∧ (∀ (c : XSt) (v : CSt), X_rows (X_now_ c v) = X_rows c) ∧ (∀ (c : XSt) (v : CSt), X_rowCount (X_now_ c v) = X_rowCount c) ∧ (∀ (c : XSt) (v : CSt), X_sheets (X_now_ c v) = X_sheets c) ∧ (∀ (c : XSt) (v : CSt), X_shelves (X_now_ c v) = X_shelves c) ∧ (∀ (c : XSt) (v : CSt), X_acts (X_now_ c v) = X_acts c) ∧ (∀ (c : XSt) (v : CSt), X_now (X_tried_ c v) = X_now c) ∧ (∀ (c : XSt) (v : CSt), X_tried (X_tried_ c v) = v) ∧ (∀ (c : XSt) (v : CSt), X_kept (X_tried_ c v) = X_kept c) ∧ (∀ (c : XSt) (v : CSt), X_isKept (X_tried_ c v) = X_isKept c) ∧ (∀ (c : XSt) (v : CSt), X_tape (X_tried_ c v) = X_tape c) ∧ (∀ (c : XSt) (v : CSt), X_rows (X_tried_ c v) = X_rows c) ∧ (∀ (c : XSt) (v : CSt), X_rowCount (X_tried_ c v) = X_rowCount c) ∧ (∀ (c : XSt) (v : CSt), X_sheets (X_tried_ c v) = X_sheets c) ∧ (∀ (c : XSt) (v : CSt), X_shelves (X_tried_ c v) = X_shelves c) ∧ (∀ (c : XSt) (v : CSt), X_acts (X_tried_ c v) = X_acts c) ∧ (∀ (c : XSt) (v : CSt), X_now (X_kept_ c v) = X_now c) ∧ (∀ (c : XSt) (v : CSt), X_tried (X_kept_ c v) = X_tried c) ∧ (∀ (c : XSt) (v : CSt), X_kept (X_kept_ c v) = v) ∧ (∀ (c : XSt) (v : CSt), X_isKept (X_kept_ c v) = X_isKept c) ∧ (∀ (c : XSt) (v : CSt), X_tape (X_kept_ c v) = X_tape c) ∧ (∀ (c : XSt) (v : CSt), X_rows (X_kept_ c v) = X_rows c) ∧ (∀ (c : XSt) (v : CSt), X_rowCount (X_kept_ c v) = X_rowCount c) ∧ (∀ (c : XSt) (v : CSt), X_sheets (X_kept_ c v) = X_sheets c) ∧ (∀ (c : XSt) (v : CSt), X_shelves (X_kept_ c v) = X_shelves c) ∧ (∀ (c : XSt) (v : CSt), X_acts (X_kept_ c v) = X_acts c) ∧ (∀ (c : XSt) (v : Int32), X_now (X_isKept_ c v) = X_now c) ∧ (∀ (c : XSt) (v : Int32), X_tried (X_isKept_ c v) = X_tried c) ∧ (∀ (c : XSt) (v : Int32), X_kept (X_isKept_ c v) = X_kept c) ∧ (∀ (c : XSt) (v : Int32), X_isKept (X_isKept_ c v) = v) ∧ (∀ (c : XSt) (v : Int32), X_tape (X_isKept_ c v) = X_tape c) ∧ (∀ (c : XSt) (v : Int32), X_rows (X_isKept_ c v) = X_rows c) ∧ (∀ (c : XSt) (v : Int32), X_rowCount (X_isKept_ c v) = X_rowCount c) ∧ (∀ (c : XSt) (v : Int32), X_sheets (X_isKept_ c v) = X_sheets c) ∧ (∀ (c : XSt) (v : Int32), X_shelves (X_isKept_ c v) = X_shelves c) ∧ (∀ (c : XSt) (v : Int32), X_acts (X_isKept_ c v) = X_acts c) ∧ (∀ (c : XSt) (v : TSt), X_now (X_tape_ c v) = X_now c) ∧ (∀ (c : XSt) (v : TSt), X_tried (X_tape_ c v) = X_tried c) ∧ (∀ (c : XSt) (v : TSt), X_kept (X_tape_ c v) = X_kept c) ∧ (∀ (c : XSt) (v : TSt), X_isKept (X_tape_ c v) = X_isKept c) ∧ (∀ (c : XSt) (v : TSt), X_tape (X_tape_ c v) = v) ∧ (∀ (c : XSt) (v : TSt), X_rows (X_tape_ c v) = X_rows c) ∧ (∀ (c : XSt) (v : TSt), X_rowCount (X_tape_ c v) = X_rowCount c) ∧ (∀ (c : XSt) (v : TSt), X_sheets (X_tape_ c v) = X_sheets c) ∧ (∀ (c : XSt) (v : TSt), X_shelves (X_tape_ c v) = X_shelves c) ∧ (∀ (c : XSt) (v : TSt), X_acts (X_tape_ c v) = X_acts c) ∧ (∀ (c : XSt) (v : Nat → Int32), X_now (X_rows_ c v) = X_now c) ∧ (∀ (c : XSt) (v : Nat → Int32), X_tried (X_rows_ c v) = X_tried c) ∧ (∀ (c : XSt) (v : Nat → Int32), X_kept (X_rows_ c v) = X_kept c) ∧ (∀ (c : XSt) (v : Nat → Int32), X_isKept (X_rows_ c v) = X_isKept c) ∧ (∀ (c : XSt) (v : Nat → Int32), X_tape (X_rows_ c v) = X_tape c) ∧ (∀ (c : XSt) (v : Nat → Int32), X_rows (X_rows_ c v) = v) ∧ (∀ (c : XSt) (v : Nat → Int32), X_rowCount (X_rows_ c v) = X_rowCount c) ∧ (∀ (c : XSt) (v : Nat → Int32), X_sheets (X_rows_ c v) = X_sheets c) ∧ (∀ (c : XSt) (v : Nat → Int32), X_shelves (X_rows_ c v) = X_shelves c) ∧ (∀ (c : XSt) (v : Nat → Int32), X_acts (X_rows_ c v) = X_acts c) ∧ (∀ (c : XSt) (v : Int32), X_now (X_rowCount_ c v) = X_now c) ∧ (∀ (c : XSt) (v : Int32), X_tried (X_rowCount_ c v) = X_tried c) ∧ (∀ (c : XSt) (v : Int32), X_kept (X_rowCount_ c v) = X_kept c) ∧ (∀ (c : XSt) (v : Int32), X_isKept (X_rowCount_ c v) = X_isKept c) ∧ (∀ (c : XSt) (v : Int32), X_tape (X_rowCount_ c v) = X_tape c) ∧ (∀ (c : XSt) (v : Int32), X_rows (X_rowCount_ c v) = X_rows c) ∧ (∀ (c : XSt) (v : Int32), X_rowCount (X_rowCount_ c v) = v) ∧ (∀ (c : XSt) (v : Int32), X_sheets (X_rowCount_ c v) = X_sheets c) ∧ (∀ (c : XSt) (v : Int32), X_shelves (X_rowCount_ c v) = X_shelves c) ∧ (∀ (c : XSt) (v : Int32), X_acts (X_rowCount_ c v) = X_acts c) ∧ (∀ (c : XSt) (v : Nat → SSt), X_now (X_sheets_ c v) = X_now c) ∧ (∀ (c : XSt) (v : Nat → SSt), X_tried (X_sheets_ c v) = X_tried c) ∧ (∀ (c : XSt) (v : Nat → SSt), X_kept (X_sheets_ c v) = X_kept c) ∧ (∀ (c : XSt) (v : Nat → SSt), X_isKept (X_sheets_ c v) = X_isKept c) ∧ (∀ (c : XSt) (v : Nat → SSt), X_tape (X_sheets_ c v) = X_tape c) ∧ (∀ (c : XSt) (v : Nat → SSt), X_rows (X_sheets_ c v) = X_rows c) ∧ (∀ (c : XSt) (v : Nat → SSt), X_rowCount (X_sheets_ c v) = X_rowCount c) ∧ (∀ (c : XSt) (v : Nat → SSt), X_sheets (X_sheets_ c v) = v) ∧ (∀ (c : XSt) (v : Nat → SSt), X_shelves (X_sheets_ c v) = X_shelves c) ∧ (∀ (c : XSt) (v : Nat → SSt), X_acts (X_sheets_ c v) = X_acts c) ∧ (∀ (c : XSt) (v : Nat → HSt), X_now (X_shelves_ c v) = X_now c) ∧ (∀ (c : XSt) (v : Nat → HSt), X_tried (X_shelves_ c v) = X_tried c) ∧ (∀ (c : XSt) (v : Nat → HSt), X_kept (X_shelves_ c v) = X_kept c) ∧ (∀ (c : XSt) (v : Nat → HSt), X_isKept (X_shelves_ c v) = X_isKept c) ∧ (∀ (c : XSt) (v : Nat → HSt), X_tape (X_shelves_ c v) = X_tape c) ∧ (∀ (c : XSt) (v : Nat → HSt), X_rows (X_shelves_ c v) = X_rows c) ∧ (∀ (c : XSt) (v : Nat → HSt), X_rowCount (X_shelves_ c v) = X_rowCount c) ∧ (∀ (c : XSt) (v : Nat → HSt), X_sheets (X_shelves_ c v) = X_sheets c) ∧ (∀ (c : XSt) (v : Nat → HSt), X_shelves (X_shelves_ c v) = v) ∧ (∀ (c : XSt) (v : Nat → HSt), X_acts (X_shelves_ c v) = X_acts c) ∧ (∀ (c : XSt) (v : ASt), X_now (X_acts_ c v) = X_now c) ∧ (∀ (c : XSt) (v : ASt), X_tried (X_acts_ c v) = X_tried c) ∧ (∀ (c : XSt) (v : ASt), X_kept (X_acts_ c v) = X_kept c) ∧ (∀ (c : XSt) (v : ASt), X_isKept (X_acts_ c v) = X_isKept c) ∧ (∀ (c : XSt) (v : ASt), X_tape (X_acts_ c v) = X_tape c) ∧ (∀ (c : XSt) (v : ASt), X_rows (X_acts_ c v) = X_rows c) ∧ (∀ (c : XSt) (v : ASt), X_rowCount (X_acts_ c v) = X_rowCount c) ∧ (∀ (c : XSt) (v : ASt), X_sheets (X_acts_ c v) = X_sheets c) ∧ (∀ (c : XSt) (v : ASt), X_shelves (X_acts_ c v) = X_shelves c) ∧ (∀ (c : XSt) (v : ASt), X_acts (X_acts_ c v) = v) := by
  refine ⟨?_, ?_, ?_, ?_, ?_, ?_, ?_, ?_, ?_, ?_, ?_, ?_, ?_, ?_, ?_, ?_, ?_, ?_, ?_, ?_, ?_, ?_, ?_, ?_, ?_, ?_, ?_, ?_, ?_, ?_, ?_, ?_, ?_, ?_, ?_, ?_, ?_, ?_, ?_, ?_, ?_, ?_, ?_, ?_, ?_, ?_, ?_, ?_, ?_, ?_, ?_, ?_, ?_, ?_, ?_, ?_, ?_, ?_, ?_, ?_, ?_, ?_, ?_, ?_, ?_, ?_, ?_, ?_, ?_, ?_, ?_, ?_, ?_, ?_, ?_, ?_, ?_, ?_, ?_, ?_, ?_, ?_, ?_, ?_, ?_, ?_, ?_, ?_, ?_, ?_, ?_, ?_, ?_, ?_, ?_, ?_, ?_, ?_, ?_, ?_⟩ <;> intro c v <;> rfl
abbrev MSt : Type := (Nat → Int32) × (Nat → Int32) × (Nat → Int32) × (Int32) × (Int32) × (Nat → Int32) × (Int32) × (Int32) × (Int32) × (Int32) × (Int32) × (Nat → Int32) × (Int32) × (Nat → Int32) × (Int32) × (Nat → Int32) × (Nat → Int32) × (Nat → Int64) × (Nat → Int32) × (Nat → Int32) × (Nat → Int32) × (Nat → Int32) × (Int32) × (Int32) × (Int32)
def M_d (c : MSt) : Nat → Int32 := c.1
def M_aside (c : MSt) : Nat → Int32 := c.2.1
def M_kept (c : MSt) : Nat → Int32 := c.2.2.1
def M_isKept (c : MSt) : Int32 := c.2.2.2.1
def M_still (c : MSt) : Int32 := c.2.2.2.2.1
def M_tape (c : MSt) : Nat → Int32 := c.2.2.2.2.2.1
def M_taped (c : MSt) : Int32 := c.2.2.2.2.2.2.1
def M_at (c : MSt) : Int32 := c.2.2.2.2.2.2.2.1
def M_begun (c : MSt) : Int32 := c.2.2.2.2.2.2.2.2.1
def M_token (c : MSt) : Int32 := c.2.2.2.2.2.2.2.2.2.1
def M_value (c : MSt) : Int32 := c.2.2.2.2.2.2.2.2.2.2.1
def M_words (c : MSt) : Nat → Int32 := c.2.2.2.2.2.2.2.2.2.2.2.1
def M_told (c : MSt) : Int32 := c.2.2.2.2.2.2.2.2.2.2.2.2.1
def M_row (c : MSt) : Nat → Int32 := c.2.2.2.2.2.2.2.2.2.2.2.2.2.1
def M_rows (c : MSt) : Int32 := c.2.2.2.2.2.2.2.2.2.2.2.2.2.2.1
def M_sortOf (c : MSt) : Nat → Int32 := c.2.2.2.2.2.2.2.2.2.2.2.2.2.2.2.1
def M_sizeOf (c : MSt) : Nat → Int32 := c.2.2.2.2.2.2.2.2.2.2.2.2.2.2.2.2.1
def M_item (c : MSt) : Nat → Int64 := c.2.2.2.2.2.2.2.2.2.2.2.2.2.2.2.2.2.1
def M_shelfHas (c : MSt) : Nat → Int32 := c.2.2.2.2.2.2.2.2.2.2.2.2.2.2.2.2.2.2.1
def M_shelfWhich (c : MSt) : Nat → Int32 := c.2.2.2.2.2.2.2.2.2.2.2.2.2.2.2.2.2.2.2.1
def M_shelfSize (c : MSt) : Nat → Int32 := c.2.2.2.2.2.2.2.2.2.2.2.2.2.2.2.2.2.2.2.2.1
def M_traced (c : MSt) : Nat → Int32 := c.2.2.2.2.2.2.2.2.2.2.2.2.2.2.2.2.2.2.2.2.2.1
def M_traceMany (c : MSt) : Int32 := c.2.2.2.2.2.2.2.2.2.2.2.2.2.2.2.2.2.2.2.2.2.2.1
def M_who (c : MSt) : Int32 := c.2.2.2.2.2.2.2.2.2.2.2.2.2.2.2.2.2.2.2.2.2.2.2.1
def M_isParted (c : MSt) : Int32 := c.2.2.2.2.2.2.2.2.2.2.2.2.2.2.2.2.2.2.2.2.2.2.2.2
def M_d_ (c : MSt) (v : Nat → Int32) : MSt := (v, c.2)
def M_aside_ (c : MSt) (v : Nat → Int32) : MSt := (c.1, v, c.2.2)
def M_kept_ (c : MSt) (v : Nat → Int32) : MSt := (c.1, c.2.1, v, c.2.2.2)
def M_isKept_ (c : MSt) (v : Int32) : MSt := (c.1, c.2.1, c.2.2.1, v, c.2.2.2.2)
def M_still_ (c : MSt) (v : Int32) : MSt := (c.1, c.2.1, c.2.2.1, c.2.2.2.1, v, c.2.2.2.2.2)
def M_tape_ (c : MSt) (v : Nat → Int32) : MSt := (c.1, c.2.1, c.2.2.1, c.2.2.2.1, c.2.2.2.2.1, v, c.2.2.2.2.2.2)
def M_taped_ (c : MSt) (v : Int32) : MSt := (c.1, c.2.1, c.2.2.1, c.2.2.2.1, c.2.2.2.2.1, c.2.2.2.2.2.1, v, c.2.2.2.2.2.2.2)
def M_at_ (c : MSt) (v : Int32) : MSt := (c.1, c.2.1, c.2.2.1, c.2.2.2.1, c.2.2.2.2.1, c.2.2.2.2.2.1, c.2.2.2.2.2.2.1, v, c.2.2.2.2.2.2.2.2)
def M_begun_ (c : MSt) (v : Int32) : MSt := (c.1, c.2.1, c.2.2.1, c.2.2.2.1, c.2.2.2.2.1, c.2.2.2.2.2.1, c.2.2.2.2.2.2.1, c.2.2.2.2.2.2.2.1, v, c.2.2.2.2.2.2.2.2.2)
def M_token_ (c : MSt) (v : Int32) : MSt := (c.1, c.2.1, c.2.2.1, c.2.2.2.1, c.2.2.2.2.1, c.2.2.2.2.2.1, c.2.2.2.2.2.2.1, c.2.2.2.2.2.2.2.1, c.2.2.2.2.2.2.2.2.1, v, c.2.2.2.2.2.2.2.2.2.2)
def M_value_ (c : MSt) (v : Int32) : MSt := (c.1, c.2.1, c.2.2.1, c.2.2.2.1, c.2.2.2.2.1, c.2.2.2.2.2.1, c.2.2.2.2.2.2.1, c.2.2.2.2.2.2.2.1, c.2.2.2.2.2.2.2.2.1, c.2.2.2.2.2.2.2.2.2.1, v, c.2.2.2.2.2.2.2.2.2.2.2)
def M_words_ (c : MSt) (v : Nat → Int32) : MSt := (c.1, c.2.1, c.2.2.1, c.2.2.2.1, c.2.2.2.2.1, c.2.2.2.2.2.1, c.2.2.2.2.2.2.1, c.2.2.2.2.2.2.2.1, c.2.2.2.2.2.2.2.2.1, c.2.2.2.2.2.2.2.2.2.1, c.2.2.2.2.2.2.2.2.2.2.1, v, c.2.2.2.2.2.2.2.2.2.2.2.2)
def M_told_ (c : MSt) (v : Int32) : MSt := (c.1, c.2.1, c.2.2.1, c.2.2.2.1, c.2.2.2.2.1, c.2.2.2.2.2.1, c.2.2.2.2.2.2.1, c.2.2.2.2.2.2.2.1, c.2.2.2.2.2.2.2.2.1, c.2.2.2.2.2.2.2.2.2.1, c.2.2.2.2.2.2.2.2.2.2.1, c.2.2.2.2.2.2.2.2.2.2.2.1, v, c.2.2.2.2.2.2.2.2.2.2.2.2.2)
def M_row_ (c : MSt) (v : Nat → Int32) : MSt := (c.1, c.2.1, c.2.2.1, c.2.2.2.1, c.2.2.2.2.1, c.2.2.2.2.2.1, c.2.2.2.2.2.2.1, c.2.2.2.2.2.2.2.1, c.2.2.2.2.2.2.2.2.1, c.2.2.2.2.2.2.2.2.2.1, c.2.2.2.2.2.2.2.2.2.2.1, c.2.2.2.2.2.2.2.2.2.2.2.1, c.2.2.2.2.2.2.2.2.2.2.2.2.1, v, c.2.2.2.2.2.2.2.2.2.2.2.2.2.2)
def M_rows_ (c : MSt) (v : Int32) : MSt := (c.1, c.2.1, c.2.2.1, c.2.2.2.1, c.2.2.2.2.1, c.2.2.2.2.2.1, c.2.2.2.2.2.2.1, c.2.2.2.2.2.2.2.1, c.2.2.2.2.2.2.2.2.1, c.2.2.2.2.2.2.2.2.2.1, c.2.2.2.2.2.2.2.2.2.2.1, c.2.2.2.2.2.2.2.2.2.2.2.1, c.2.2.2.2.2.2.2.2.2.2.2.2.1, c.2.2.2.2.2.2.2.2.2.2.2.2.2.1, v, c.2.2.2.2.2.2.2.2.2.2.2.2.2.2.2)
def M_sortOf_ (c : MSt) (v : Nat → Int32) : MSt := (c.1, c.2.1, c.2.2.1, c.2.2.2.1, c.2.2.2.2.1, c.2.2.2.2.2.1, c.2.2.2.2.2.2.1, c.2.2.2.2.2.2.2.1, c.2.2.2.2.2.2.2.2.1, c.2.2.2.2.2.2.2.2.2.1, c.2.2.2.2.2.2.2.2.2.2.1, c.2.2.2.2.2.2.2.2.2.2.2.1, c.2.2.2.2.2.2.2.2.2.2.2.2.1, c.2.2.2.2.2.2.2.2.2.2.2.2.2.1, c.2.2.2.2.2.2.2.2.2.2.2.2.2.2.1, v, c.2.2.2.2.2.2.2.2.2.2.2.2.2.2.2.2)
def M_sizeOf_ (c : MSt) (v : Nat → Int32) : MSt := (c.1, c.2.1, c.2.2.1, c.2.2.2.1, c.2.2.2.2.1, c.2.2.2.2.2.1, c.2.2.2.2.2.2.1, c.2.2.2.2.2.2.2.1, c.2.2.2.2.2.2.2.2.1, c.2.2.2.2.2.2.2.2.2.1, c.2.2.2.2.2.2.2.2.2.2.1, c.2.2.2.2.2.2.2.2.2.2.2.1, c.2.2.2.2.2.2.2.2.2.2.2.2.1, c.2.2.2.2.2.2.2.2.2.2.2.2.2.1, c.2.2.2.2.2.2.2.2.2.2.2.2.2.2.1, c.2.2.2.2.2.2.2.2.2.2.2.2.2.2.2.1, v, c.2.2.2.2.2.2.2.2.2.2.2.2.2.2.2.2.2)
def M_item_ (c : MSt) (v : Nat → Int64) : MSt := (c.1, c.2.1, c.2.2.1, c.2.2.2.1, c.2.2.2.2.1, c.2.2.2.2.2.1, c.2.2.2.2.2.2.1, c.2.2.2.2.2.2.2.1, c.2.2.2.2.2.2.2.2.1, c.2.2.2.2.2.2.2.2.2.1, c.2.2.2.2.2.2.2.2.2.2.1, c.2.2.2.2.2.2.2.2.2.2.2.1, c.2.2.2.2.2.2.2.2.2.2.2.2.1, c.2.2.2.2.2.2.2.2.2.2.2.2.2.1, c.2.2.2.2.2.2.2.2.2.2.2.2.2.2.1, c.2.2.2.2.2.2.2.2.2.2.2.2.2.2.2.1, c.2.2.2.2.2.2.2.2.2.2.2.2.2.2.2.2.1, v, c.2.2.2.2.2.2.2.2.2.2.2.2.2.2.2.2.2.2)
def M_shelfHas_ (c : MSt) (v : Nat → Int32) : MSt := (c.1, c.2.1, c.2.2.1, c.2.2.2.1, c.2.2.2.2.1, c.2.2.2.2.2.1, c.2.2.2.2.2.2.1, c.2.2.2.2.2.2.2.1, c.2.2.2.2.2.2.2.2.1, c.2.2.2.2.2.2.2.2.2.1, c.2.2.2.2.2.2.2.2.2.2.1, c.2.2.2.2.2.2.2.2.2.2.2.1, c.2.2.2.2.2.2.2.2.2.2.2.2.1, c.2.2.2.2.2.2.2.2.2.2.2.2.2.1, c.2.2.2.2.2.2.2.2.2.2.2.2.2.2.1, c.2.2.2.2.2.2.2.2.2.2.2.2.2.2.2.1, c.2.2.2.2.2.2.2.2.2.2.2.2.2.2.2.2.1, c.2.2.2.2.2.2.2.2.2.2.2.2.2.2.2.2.2.1, v, c.2.2.2.2.2.2.2.2.2.2.2.2.2.2.2.2.2.2.2)
def M_shelfWhich_ (c : MSt) (v : Nat → Int32) : MSt := (c.1, c.2.1, c.2.2.1, c.2.2.2.1, c.2.2.2.2.1, c.2.2.2.2.2.1, c.2.2.2.2.2.2.1, c.2.2.2.2.2.2.2.1, c.2.2.2.2.2.2.2.2.1, c.2.2.2.2.2.2.2.2.2.1, c.2.2.2.2.2.2.2.2.2.2.1, c.2.2.2.2.2.2.2.2.2.2.2.1, c.2.2.2.2.2.2.2.2.2.2.2.2.1, c.2.2.2.2.2.2.2.2.2.2.2.2.2.1, c.2.2.2.2.2.2.2.2.2.2.2.2.2.2.1, c.2.2.2.2.2.2.2.2.2.2.2.2.2.2.2.1, c.2.2.2.2.2.2.2.2.2.2.2.2.2.2.2.2.1, c.2.2.2.2.2.2.2.2.2.2.2.2.2.2.2.2.2.1, c.2.2.2.2.2.2.2.2.2.2.2.2.2.2.2.2.2.2.1, v, c.2.2.2.2.2.2.2.2.2.2.2.2.2.2.2.2.2.2.2.2)
def M_shelfSize_ (c : MSt) (v : Nat → Int32) : MSt := (c.1, c.2.1, c.2.2.1, c.2.2.2.1, c.2.2.2.2.1, c.2.2.2.2.2.1, c.2.2.2.2.2.2.1, c.2.2.2.2.2.2.2.1, c.2.2.2.2.2.2.2.2.1, c.2.2.2.2.2.2.2.2.2.1, c.2.2.2.2.2.2.2.2.2.2.1, c.2.2.2.2.2.2.2.2.2.2.2.1, c.2.2.2.2.2.2.2.2.2.2.2.2.1, c.2.2.2.2.2.2.2.2.2.2.2.2.2.1, c.2.2.2.2.2.2.2.2.2.2.2.2.2.2.1, c.2.2.2.2.2.2.2.2.2.2.2.2.2.2.2.1, c.2.2.2.2.2.2.2.2.2.2.2.2.2.2.2.2.1, c.2.2.2.2.2.2.2.2.2.2.2.2.2.2.2.2.2.1, c.2.2.2.2.2.2.2.2.2.2.2.2.2.2.2.2.2.2.1, c.2.2.2.2.2.2.2.2.2.2.2.2.2.2.2.2.2.2.2.1, v, c.2.2.2.2.2.2.2.2.2.2.2.2.2.2.2.2.2.2.2.2.2)
def M_traced_ (c : MSt) (v : Nat → Int32) : MSt := (c.1, c.2.1, c.2.2.1, c.2.2.2.1, c.2.2.2.2.1, c.2.2.2.2.2.1, c.2.2.2.2.2.2.1, c.2.2.2.2.2.2.2.1, c.2.2.2.2.2.2.2.2.1, c.2.2.2.2.2.2.2.2.2.1, c.2.2.2.2.2.2.2.2.2.2.1, c.2.2.2.2.2.2.2.2.2.2.2.1, c.2.2.2.2.2.2.2.2.2.2.2.2.1, c.2.2.2.2.2.2.2.2.2.2.2.2.2.1, c.2.2.2.2.2.2.2.2.2.2.2.2.2.2.1, c.2.2.2.2.2.2.2.2.2.2.2.2.2.2.2.1, c.2.2.2.2.2.2.2.2.2.2.2.2.2.2.2.2.1, c.2.2.2.2.2.2.2.2.2.2.2.2.2.2.2.2.2.1, c.2.2.2.2.2.2.2.2.2.2.2.2.2.2.2.2.2.2.1, c.2.2.2.2.2.2.2.2.2.2.2.2.2.2.2.2.2.2.2.1, c.2.2.2.2.2.2.2.2.2.2.2.2.2.2.2.2.2.2.2.2.1, v, c.2.2.2.2.2.2.2.2.2.2.2.2.2.2.2.2.2.2.2.2.2.2)
def M_traceMany_ (c : MSt) (v : Int32) : MSt := (c.1, c.2.1, c.2.2.1, c.2.2.2.1, c.2.2.2.2.1, c.2.2.2.2.2.1, c.2.2.2.2.2.2.1, c.2.2.2.2.2.2.2.1, c.2.2.2.2.2.2.2.2.1, c.2.2.2.2.2.2.2.2.2.1, c.2.2.2.2.2.2.2.2.2.2.1, c.2.2.2.2.2.2.2.2.2.2.2.1, c.2.2.2.2.2.2.2.2.2.2.2.2.1, c.2.2.2.2.2.2.2.2.2.2.2.2.2.1, c.2.2.2.2.2.2.2.2.2.2.2.2.2.2.1, c.2.2.2.2.2.2.2.2.2.2.2.2.2.2.2.1, c.2.2.2.2.2.2.2.2.2.2.2.2.2.2.2.2.1, c.2.2.2.2.2.2.2.2.2.2.2.2.2.2.2.2.2.1, c.2.2.2.2.2.2.2.2.2.2.2.2.2.2.2.2.2.2.1, c.2.2.2.2.2.2.2.2.2.2.2.2.2.2.2.2.2.2.2.1, c.2.2.2.2.2.2.2.2.2.2.2.2.2.2.2.2.2.2.2.2.1, c.2.2.2.2.2.2.2.2.2.2.2.2.2.2.2.2.2.2.2.2.2.1, v, c.2.2.2.2.2.2.2.2.2.2.2.2.2.2.2.2.2.2.2.2.2.2.2)
def M_who_ (c : MSt) (v : Int32) : MSt := (c.1, c.2.1, c.2.2.1, c.2.2.2.1, c.2.2.2.2.1, c.2.2.2.2.2.1, c.2.2.2.2.2.2.1, c.2.2.2.2.2.2.2.1, c.2.2.2.2.2.2.2.2.1, c.2.2.2.2.2.2.2.2.2.1, c.2.2.2.2.2.2.2.2.2.2.1, c.2.2.2.2.2.2.2.2.2.2.2.1, c.2.2.2.2.2.2.2.2.2.2.2.2.1, c.2.2.2.2.2.2.2.2.2.2.2.2.2.1, c.2.2.2.2.2.2.2.2.2.2.2.2.2.2.1, c.2.2.2.2.2.2.2.2.2.2.2.2.2.2.2.1, c.2.2.2.2.2.2.2.2.2.2.2.2.2.2.2.2.1, c.2.2.2.2.2.2.2.2.2.2.2.2.2.2.2.2.2.1, c.2.2.2.2.2.2.2.2.2.2.2.2.2.2.2.2.2.2.1, c.2.2.2.2.2.2.2.2.2.2.2.2.2.2.2.2.2.2.2.1, c.2.2.2.2.2.2.2.2.2.2.2.2.2.2.2.2.2.2.2.2.1, c.2.2.2.2.2.2.2.2.2.2.2.2.2.2.2.2.2.2.2.2.2.1, c.2.2.2.2.2.2.2.2.2.2.2.2.2.2.2.2.2.2.2.2.2.2.1, v, c.2.2.2.2.2.2.2.2.2.2.2.2.2.2.2.2.2.2.2.2.2.2.2.2)
def M_isParted_ (c : MSt) (v : Int32) : MSt := (c.1, c.2.1, c.2.2.1, c.2.2.2.1, c.2.2.2.2.1, c.2.2.2.2.2.1, c.2.2.2.2.2.2.1, c.2.2.2.2.2.2.2.1, c.2.2.2.2.2.2.2.2.1, c.2.2.2.2.2.2.2.2.2.1, c.2.2.2.2.2.2.2.2.2.2.1, c.2.2.2.2.2.2.2.2.2.2.2.1, c.2.2.2.2.2.2.2.2.2.2.2.2.1, c.2.2.2.2.2.2.2.2.2.2.2.2.2.1, c.2.2.2.2.2.2.2.2.2.2.2.2.2.2.1, c.2.2.2.2.2.2.2.2.2.2.2.2.2.2.2.1, c.2.2.2.2.2.2.2.2.2.2.2.2.2.2.2.2.1, c.2.2.2.2.2.2.2.2.2.2.2.2.2.2.2.2.2.1, c.2.2.2.2.2.2.2.2.2.2.2.2.2.2.2.2.2.2.1, c.2.2.2.2.2.2.2.2.2.2.2.2.2.2.2.2.2.2.2.1, c.2.2.2.2.2.2.2.2.2.2.2.2.2.2.2.2.2.2.2.2.1, c.2.2.2.2.2.2.2.2.2.2.2.2.2.2.2.2.2.2.2.2.2.1, c.2.2.2.2.2.2.2.2.2.2.2.2.2.2.2.2.2.2.2.2.2.2.1, c.2.2.2.2.2.2.2.2.2.2.2.2.2.2.2.2.2.2.2.2.2.2.2.1, v)
theorem M_d_g : (∀ (c : MSt) (v : Nat → Int32), M_d (M_d_ c v) = v) ∧ (∀ (c : MSt) (v : Nat → Int32), M_d (M_aside_ c v) = M_d c) ∧ (∀ (c : MSt) (v : Nat → Int32), M_d (M_kept_ c v) = M_d c) ∧ (∀ (c : MSt) (v : Int32), M_d (M_isKept_ c v) = M_d c) ∧ (∀ (c : MSt) (v : Int32), M_d (M_still_ c v) = M_d c) ∧ (∀ (c : MSt) (v : Nat → Int32), M_d (M_tape_ c v) = M_d c) ∧ (∀ (c : MSt) (v : Int32), M_d (M_taped_ c v) = M_d c) ∧ (∀ (c : MSt) (v : Int32), M_d (M_at_ c v) = M_d c) ∧ (∀ (c : MSt) (v : Int32), M_d (M_begun_ c v) = M_d c) ∧ (∀ (c : MSt) (v : Int32), M_d (M_token_ c v) = M_d c) ∧ (∀ (c : MSt) (v : Int32), M_d (M_value_ c v) = M_d c) ∧ (∀ (c : MSt) (v : Nat → Int32), M_d (M_words_ c v) = M_d c) ∧ (∀ (c : MSt) (v : Int32), M_d (M_told_ c v) = M_d c) ∧ (∀ (c : MSt) (v : Nat → Int32), M_d (M_row_ c v) = M_d c) ∧ (∀ (c : MSt) (v : Int32), M_d (M_rows_ c v) = M_d c) ∧ (∀ (c : MSt) (v : Nat → Int32), M_d (M_sortOf_ c v) = M_d c) ∧ (∀ (c : MSt) (v : Nat → Int32), M_d (M_sizeOf_ c v) = M_d c) ∧ (∀ (c : MSt) (v : Nat → Int64), M_d (M_item_ c v) = M_d c) ∧ (∀ (c : MSt) (v : Nat → Int32), M_d (M_shelfHas_ c v) = M_d c) ∧ (∀ (c : MSt) (v : Nat → Int32), M_d (M_shelfWhich_ c v) = M_d c) ∧ (∀ (c : MSt) (v : Nat → Int32), M_d (M_shelfSize_ c v) = M_d c) ∧ (∀ (c : MSt) (v : Nat → Int32), M_d (M_traced_ c v) = M_d c) ∧ (∀ (c : MSt) (v : Int32), M_d (M_traceMany_ c v) = M_d c) ∧ (∀ (c : MSt) (v : Int32), M_d (M_who_ c v) = M_d c) ∧ (∀ (c : MSt) (v : Int32), M_d (M_isParted_ c v) = M_d c) := by
  refine ⟨?_, ?_, ?_, ?_, ?_, ?_, ?_, ?_, ?_, ?_, ?_, ?_, ?_, ?_, ?_, ?_, ?_, ?_, ?_, ?_, ?_, ?_, ?_, ?_, ?_⟩ <;> intro c v <;> rfl
theorem M_aside_g : (∀ (c : MSt) (v : Nat → Int32), M_aside (M_d_ c v) = M_aside c) ∧ (∀ (c : MSt) (v : Nat → Int32), M_aside (M_aside_ c v) = v) ∧ (∀ (c : MSt) (v : Nat → Int32), M_aside (M_kept_ c v) = M_aside c) ∧ (∀ (c : MSt) (v : Int32), M_aside (M_isKept_ c v) = M_aside c) ∧ (∀ (c : MSt) (v : Int32), M_aside (M_still_ c v) = M_aside c) ∧ (∀ (c : MSt) (v : Nat → Int32), M_aside (M_tape_ c v) = M_aside c) ∧ (∀ (c : MSt) (v : Int32), M_aside (M_taped_ c v) = M_aside c) ∧ (∀ (c : MSt) (v : Int32), M_aside (M_at_ c v) = M_aside c) ∧ (∀ (c : MSt) (v : Int32), M_aside (M_begun_ c v) = M_aside c) ∧ (∀ (c : MSt) (v : Int32), M_aside (M_token_ c v) = M_aside c) ∧ (∀ (c : MSt) (v : Int32), M_aside (M_value_ c v) = M_aside c) ∧ (∀ (c : MSt) (v : Nat → Int32), M_aside (M_words_ c v) = M_aside c) ∧ (∀ (c : MSt) (v : Int32), M_aside (M_told_ c v) = M_aside c) ∧ (∀ (c : MSt) (v : Nat → Int32), M_aside (M_row_ c v) = M_aside c) ∧ (∀ (c : MSt) (v : Int32), M_aside (M_rows_ c v) = M_aside c) ∧ (∀ (c : MSt) (v : Nat → Int32), M_aside (M_sortOf_ c v) = M_aside c) ∧ (∀ (c : MSt) (v : Nat → Int32), M_aside (M_sizeOf_ c v) = M_aside c) ∧ (∀ (c : MSt) (v : Nat → Int64), M_aside (M_item_ c v) = M_aside c) ∧ (∀ (c : MSt) (v : Nat → Int32), M_aside (M_shelfHas_ c v) = M_aside c) ∧ (∀ (c : MSt) (v : Nat → Int32), M_aside (M_shelfWhich_ c v) = M_aside c) ∧ (∀ (c : MSt) (v : Nat → Int32), M_aside (M_shelfSize_ c v) = M_aside c) ∧ (∀ (c : MSt) (v : Nat → Int32), M_aside (M_traced_ c v) = M_aside c) ∧ (∀ (c : MSt) (v : Int32), M_aside (M_traceMany_ c v) = M_aside c) ∧ (∀ (c : MSt) (v : Int32), M_aside (M_who_ c v) = M_aside c) ∧ (∀ (c : MSt) (v : Int32), M_aside (M_isParted_ c v) = M_aside c) := by
  refine ⟨?_, ?_, ?_, ?_, ?_, ?_, ?_, ?_, ?_, ?_, ?_, ?_, ?_, ?_, ?_, ?_, ?_, ?_, ?_, ?_, ?_, ?_, ?_, ?_, ?_⟩ <;> intro c v <;> rfl
theorem M_kept_g : (∀ (c : MSt) (v : Nat → Int32), M_kept (M_d_ c v) = M_kept c) ∧ (∀ (c : MSt) (v : Nat → Int32), M_kept (M_aside_ c v) = M_kept c) ∧ (∀ (c : MSt) (v : Nat → Int32), M_kept (M_kept_ c v) = v) ∧ (∀ (c : MSt) (v : Int32), M_kept (M_isKept_ c v) = M_kept c) ∧ (∀ (c : MSt) (v : Int32), M_kept (M_still_ c v) = M_kept c) ∧ (∀ (c : MSt) (v : Nat → Int32), M_kept (M_tape_ c v) = M_kept c) ∧ (∀ (c : MSt) (v : Int32), M_kept (M_taped_ c v) = M_kept c) ∧ (∀ (c : MSt) (v : Int32), M_kept (M_at_ c v) = M_kept c) ∧ (∀ (c : MSt) (v : Int32), M_kept (M_begun_ c v) = M_kept c) ∧ (∀ (c : MSt) (v : Int32), M_kept (M_token_ c v) = M_kept c) ∧ (∀ (c : MSt) (v : Int32), M_kept (M_value_ c v) = M_kept c) ∧ (∀ (c : MSt) (v : Nat → Int32), M_kept (M_words_ c v) = M_kept c) ∧ (∀ (c : MSt) (v : Int32), M_kept (M_told_ c v) = M_kept c) ∧ (∀ (c : MSt) (v : Nat → Int32), M_kept (M_row_ c v) = M_kept c) ∧ (∀ (c : MSt) (v : Int32), M_kept (M_rows_ c v) = M_kept c) ∧ (∀ (c : MSt) (v : Nat → Int32), M_kept (M_sortOf_ c v) = M_kept c) ∧ (∀ (c : MSt) (v : Nat → Int32), M_kept (M_sizeOf_ c v) = M_kept c) ∧ (∀ (c : MSt) (v : Nat → Int64), M_kept (M_item_ c v) = M_kept c) ∧ (∀ (c : MSt) (v : Nat → Int32), M_kept (M_shelfHas_ c v) = M_kept c) ∧ (∀ (c : MSt) (v : Nat → Int32), M_kept (M_shelfWhich_ c v) = M_kept c) ∧ (∀ (c : MSt) (v : Nat → Int32), M_kept (M_shelfSize_ c v) = M_kept c) ∧ (∀ (c : MSt) (v : Nat → Int32), M_kept (M_traced_ c v) = M_kept c) ∧ (∀ (c : MSt) (v : Int32), M_kept (M_traceMany_ c v) = M_kept c) ∧ (∀ (c : MSt) (v : Int32), M_kept (M_who_ c v) = M_kept c) ∧ (∀ (c : MSt) (v : Int32), M_kept (M_isParted_ c v) = M_kept c) := by
  refine ⟨?_, ?_, ?_, ?_, ?_, ?_, ?_, ?_, ?_, ?_, ?_, ?_, ?_, ?_, ?_, ?_, ?_, ?_, ?_, ?_, ?_, ?_, ?_, ?_, ?_⟩ <;> intro c v <;> rfl
theorem M_isKept_g : (∀ (c : MSt) (v : Nat → Int32), M_isKept (M_d_ c v) = M_isKept c) ∧ (∀ (c : MSt) (v : Nat → Int32), M_isKept (M_aside_ c v) = M_isKept c) ∧ (∀ (c : MSt) (v : Nat → Int32), M_isKept (M_kept_ c v) = M_isKept c) ∧ (∀ (c : MSt) (v : Int32), M_isKept (M_isKept_ c v) = v) ∧ (∀ (c : MSt) (v : Int32), M_isKept (M_still_ c v) = M_isKept c) ∧ (∀ (c : MSt) (v : Nat → Int32), M_isKept (M_tape_ c v) = M_isKept c) ∧ (∀ (c : MSt) (v : Int32), M_isKept (M_taped_ c v) = M_isKept c) ∧ (∀ (c : MSt) (v : Int32), M_isKept (M_at_ c v) = M_isKept c) ∧ (∀ (c : MSt) (v : Int32), M_isKept (M_begun_ c v) = M_isKept c) ∧ (∀ (c : MSt) (v : Int32), M_isKept (M_token_ c v) = M_isKept c) ∧ (∀ (c : MSt) (v : Int32), M_isKept (M_value_ c v) = M_isKept c) ∧ (∀ (c : MSt) (v : Nat → Int32), M_isKept (M_words_ c v) = M_isKept c) ∧ (∀ (c : MSt) (v : Int32), M_isKept (M_told_ c v) = M_isKept c) ∧ (∀ (c : MSt) (v : Nat → Int32), M_isKept (M_row_ c v) = M_isKept c) ∧ (∀ (c : MSt) (v : Int32), M_isKept (M_rows_ c v) = M_isKept c) ∧ (∀ (c : MSt) (v : Nat → Int32), M_isKept (M_sortOf_ c v) = M_isKept c) ∧ (∀ (c : MSt) (v : Nat → Int32), M_isKept (M_sizeOf_ c v) = M_isKept c) ∧ (∀ (c : MSt) (v : Nat → Int64), M_isKept (M_item_ c v) = M_isKept c) ∧ (∀ (c : MSt) (v : Nat → Int32), M_isKept (M_shelfHas_ c v) = M_isKept c) ∧ (∀ (c : MSt) (v : Nat → Int32), M_isKept (M_shelfWhich_ c v) = M_isKept c) ∧ (∀ (c : MSt) (v : Nat → Int32), M_isKept (M_shelfSize_ c v) = M_isKept c) ∧ (∀ (c : MSt) (v : Nat → Int32), M_isKept (M_traced_ c v) = M_isKept c) ∧ (∀ (c : MSt) (v : Int32), M_isKept (M_traceMany_ c v) = M_isKept c) ∧ (∀ (c : MSt) (v : Int32), M_isKept (M_who_ c v) = M_isKept c) ∧ (∀ (c : MSt) (v : Int32), M_isKept (M_isParted_ c v) = M_isKept c) := by
  refine ⟨?_, ?_, ?_, ?_, ?_, ?_, ?_, ?_, ?_, ?_, ?_, ?_, ?_, ?_, ?_, ?_, ?_, ?_, ?_, ?_, ?_, ?_, ?_, ?_, ?_⟩ <;> intro c v <;> rfl
theorem M_still_g : (∀ (c : MSt) (v : Nat → Int32), M_still (M_d_ c v) = M_still c) ∧ (∀ (c : MSt) (v : Nat → Int32), M_still (M_aside_ c v) = M_still c) ∧ (∀ (c : MSt) (v : Nat → Int32), M_still (M_kept_ c v) = M_still c) ∧ (∀ (c : MSt) (v : Int32), M_still (M_isKept_ c v) = M_still c) ∧ (∀ (c : MSt) (v : Int32), M_still (M_still_ c v) = v) ∧ (∀ (c : MSt) (v : Nat → Int32), M_still (M_tape_ c v) = M_still c) ∧ (∀ (c : MSt) (v : Int32), M_still (M_taped_ c v) = M_still c) ∧ (∀ (c : MSt) (v : Int32), M_still (M_at_ c v) = M_still c) ∧ (∀ (c : MSt) (v : Int32), M_still (M_begun_ c v) = M_still c) ∧ (∀ (c : MSt) (v : Int32), M_still (M_token_ c v) = M_still c) ∧ (∀ (c : MSt) (v : Int32), M_still (M_value_ c v) = M_still c) ∧ (∀ (c : MSt) (v : Nat → Int32), M_still (M_words_ c v) = M_still c) ∧ (∀ (c : MSt) (v : Int32), M_still (M_told_ c v) = M_still c) ∧ (∀ (c : MSt) (v : Nat → Int32), M_still (M_row_ c v) = M_still c) ∧ (∀ (c : MSt) (v : Int32), M_still (M_rows_ c v) = M_still c) ∧ (∀ (c : MSt) (v : Nat → Int32), M_still (M_sortOf_ c v) = M_still c) ∧ (∀ (c : MSt) (v : Nat → Int32), M_still (M_sizeOf_ c v) = M_still c) ∧ (∀ (c : MSt) (v : Nat → Int64), M_still (M_item_ c v) = M_still c) ∧ (∀ (c : MSt) (v : Nat → Int32), M_still (M_shelfHas_ c v) = M_still c) ∧ (∀ (c : MSt) (v : Nat → Int32), M_still (M_shelfWhich_ c v) = M_still c) ∧ (∀ (c : MSt) (v : Nat → Int32), M_still (M_shelfSize_ c v) = M_still c) ∧ (∀ (c : MSt) (v : Nat → Int32), M_still (M_traced_ c v) = M_still c) ∧ (∀ (c : MSt) (v : Int32), M_still (M_traceMany_ c v) = M_still c) ∧ (∀ (c : MSt) (v : Int32), M_still (M_who_ c v) = M_still c) ∧ (∀ (c : MSt) (v : Int32), M_still (M_isParted_ c v) = M_still c) := by
  refine ⟨?_, ?_, ?_, ?_, ?_, ?_, ?_, ?_, ?_, ?_, ?_, ?_, ?_, ?_, ?_, ?_, ?_, ?_, ?_, ?_, ?_, ?_, ?_, ?_, ?_⟩ <;> intro c v <;> rfl
theorem M_tape_g : (∀ (c : MSt) (v : Nat → Int32), M_tape (M_d_ c v) = M_tape c) ∧ (∀ (c : MSt) (v : Nat → Int32), M_tape (M_aside_ c v) = M_tape c) ∧ (∀ (c : MSt) (v : Nat → Int32), M_tape (M_kept_ c v) = M_tape c) ∧ (∀ (c : MSt) (v : Int32), M_tape (M_isKept_ c v) = M_tape c) ∧ (∀ (c : MSt) (v : Int32), M_tape (M_still_ c v) = M_tape c) ∧ (∀ (c : MSt) (v : Nat → Int32), M_tape (M_tape_ c v) = v) ∧ (∀ (c : MSt) (v : Int32), M_tape (M_taped_ c v) = M_tape c) ∧ (∀ (c : MSt) (v : Int32), M_tape (M_at_ c v) = M_tape c) ∧ (∀ (c : MSt) (v : Int32), M_tape (M_begun_ c v) = M_tape c) ∧ (∀ (c : MSt) (v : Int32), M_tape (M_token_ c v) = M_tape c) ∧ (∀ (c : MSt) (v : Int32), M_tape (M_value_ c v) = M_tape c) ∧ (∀ (c : MSt) (v : Nat → Int32), M_tape (M_words_ c v) = M_tape c) ∧ (∀ (c : MSt) (v : Int32), M_tape (M_told_ c v) = M_tape c) ∧ (∀ (c : MSt) (v : Nat → Int32), M_tape (M_row_ c v) = M_tape c) ∧ (∀ (c : MSt) (v : Int32), M_tape (M_rows_ c v) = M_tape c) ∧ (∀ (c : MSt) (v : Nat → Int32), M_tape (M_sortOf_ c v) = M_tape c) ∧ (∀ (c : MSt) (v : Nat → Int32), M_tape (M_sizeOf_ c v) = M_tape c) ∧ (∀ (c : MSt) (v : Nat → Int64), M_tape (M_item_ c v) = M_tape c) ∧ (∀ (c : MSt) (v : Nat → Int32), M_tape (M_shelfHas_ c v) = M_tape c) ∧ (∀ (c : MSt) (v : Nat → Int32), M_tape (M_shelfWhich_ c v) = M_tape c) ∧ (∀ (c : MSt) (v : Nat → Int32), M_tape (M_shelfSize_ c v) = M_tape c) ∧ (∀ (c : MSt) (v : Nat → Int32), M_tape (M_traced_ c v) = M_tape c) ∧ (∀ (c : MSt) (v : Int32), M_tape (M_traceMany_ c v) = M_tape c) ∧ (∀ (c : MSt) (v : Int32), M_tape (M_who_ c v) = M_tape c) ∧ (∀ (c : MSt) (v : Int32), M_tape (M_isParted_ c v) = M_tape c) := by
  refine ⟨?_, ?_, ?_, ?_, ?_, ?_, ?_, ?_, ?_, ?_, ?_, ?_, ?_, ?_, ?_, ?_, ?_, ?_, ?_, ?_, ?_, ?_, ?_, ?_, ?_⟩ <;> intro c v <;> rfl
theorem M_taped_g : (∀ (c : MSt) (v : Nat → Int32), M_taped (M_d_ c v) = M_taped c) ∧ (∀ (c : MSt) (v : Nat → Int32), M_taped (M_aside_ c v) = M_taped c) ∧ (∀ (c : MSt) (v : Nat → Int32), M_taped (M_kept_ c v) = M_taped c) ∧ (∀ (c : MSt) (v : Int32), M_taped (M_isKept_ c v) = M_taped c) ∧ (∀ (c : MSt) (v : Int32), M_taped (M_still_ c v) = M_taped c) ∧ (∀ (c : MSt) (v : Nat → Int32), M_taped (M_tape_ c v) = M_taped c) ∧ (∀ (c : MSt) (v : Int32), M_taped (M_taped_ c v) = v) ∧ (∀ (c : MSt) (v : Int32), M_taped (M_at_ c v) = M_taped c) ∧ (∀ (c : MSt) (v : Int32), M_taped (M_begun_ c v) = M_taped c) ∧ (∀ (c : MSt) (v : Int32), M_taped (M_token_ c v) = M_taped c) ∧ (∀ (c : MSt) (v : Int32), M_taped (M_value_ c v) = M_taped c) ∧ (∀ (c : MSt) (v : Nat → Int32), M_taped (M_words_ c v) = M_taped c) ∧ (∀ (c : MSt) (v : Int32), M_taped (M_told_ c v) = M_taped c) ∧ (∀ (c : MSt) (v : Nat → Int32), M_taped (M_row_ c v) = M_taped c) ∧ (∀ (c : MSt) (v : Int32), M_taped (M_rows_ c v) = M_taped c) ∧ (∀ (c : MSt) (v : Nat → Int32), M_taped (M_sortOf_ c v) = M_taped c) ∧ (∀ (c : MSt) (v : Nat → Int32), M_taped (M_sizeOf_ c v) = M_taped c) ∧ (∀ (c : MSt) (v : Nat → Int64), M_taped (M_item_ c v) = M_taped c) ∧ (∀ (c : MSt) (v : Nat → Int32), M_taped (M_shelfHas_ c v) = M_taped c) ∧ (∀ (c : MSt) (v : Nat → Int32), M_taped (M_shelfWhich_ c v) = M_taped c) ∧ (∀ (c : MSt) (v : Nat → Int32), M_taped (M_shelfSize_ c v) = M_taped c) ∧ (∀ (c : MSt) (v : Nat → Int32), M_taped (M_traced_ c v) = M_taped c) ∧ (∀ (c : MSt) (v : Int32), M_taped (M_traceMany_ c v) = M_taped c) ∧ (∀ (c : MSt) (v : Int32), M_taped (M_who_ c v) = M_taped c) ∧ (∀ (c : MSt) (v : Int32), M_taped (M_isParted_ c v) = M_taped c) := by
  refine ⟨?_, ?_, ?_, ?_, ?_, ?_, ?_, ?_, ?_, ?_, ?_, ?_, ?_, ?_, ?_, ?_, ?_, ?_, ?_, ?_, ?_, ?_, ?_, ?_, ?_⟩ <;> intro c v <;> rfl
theorem M_at_g : (∀ (c : MSt) (v : Nat → Int32), M_at (M_d_ c v) = M_at c) ∧ (∀ (c : MSt) (v : Nat → Int32), M_at (M_aside_ c v) = M_at c) ∧ (∀ (c : MSt) (v : Nat → Int32), M_at (M_kept_ c v) = M_at c) ∧ (∀ (c : MSt) (v : Int32), M_at (M_isKept_ c v) = M_at c) ∧ (∀ (c : MSt) (v : Int32), M_at (M_still_ c v) = M_at c) ∧ (∀ (c : MSt) (v : Nat → Int32), M_at (M_tape_ c v) = M_at c) ∧ (∀ (c : MSt) (v : Int32), M_at (M_taped_ c v) = M_at c) ∧ (∀ (c : MSt) (v : Int32), M_at (M_at_ c v) = v) ∧ (∀ (c : MSt) (v : Int32), M_at (M_begun_ c v) = M_at c) ∧ (∀ (c : MSt) (v : Int32), M_at (M_token_ c v) = M_at c) ∧ (∀ (c : MSt) (v : Int32), M_at (M_value_ c v) = M_at c) ∧ (∀ (c : MSt) (v : Nat → Int32), M_at (M_words_ c v) = M_at c) ∧ (∀ (c : MSt) (v : Int32), M_at (M_told_ c v) = M_at c) ∧ (∀ (c : MSt) (v : Nat → Int32), M_at (M_row_ c v) = M_at c) ∧ (∀ (c : MSt) (v : Int32), M_at (M_rows_ c v) = M_at c) ∧ (∀ (c : MSt) (v : Nat → Int32), M_at (M_sortOf_ c v) = M_at c) ∧ (∀ (c : MSt) (v : Nat → Int32), M_at (M_sizeOf_ c v) = M_at c) ∧ (∀ (c : MSt) (v : Nat → Int64), M_at (M_item_ c v) = M_at c) ∧ (∀ (c : MSt) (v : Nat → Int32), M_at (M_shelfHas_ c v) = M_at c) ∧ (∀ (c : MSt) (v : Nat → Int32), M_at (M_shelfWhich_ c v) = M_at c) ∧ (∀ (c : MSt) (v : Nat → Int32), M_at (M_shelfSize_ c v) = M_at c) ∧ (∀ (c : MSt) (v : Nat → Int32), M_at (M_traced_ c v) = M_at c) ∧ (∀ (c : MSt) (v : Int32), M_at (M_traceMany_ c v) = M_at c) ∧ (∀ (c : MSt) (v : Int32), M_at (M_who_ c v) = M_at c) ∧ (∀ (c : MSt) (v : Int32), M_at (M_isParted_ c v) = M_at c) := by
  refine ⟨?_, ?_, ?_, ?_, ?_, ?_, ?_, ?_, ?_, ?_, ?_, ?_, ?_, ?_, ?_, ?_, ?_, ?_, ?_, ?_, ?_, ?_, ?_, ?_, ?_⟩ <;> intro c v <;> rfl
theorem M_begun_g : (∀ (c : MSt) (v : Nat → Int32), M_begun (M_d_ c v) = M_begun c) ∧ (∀ (c : MSt) (v : Nat → Int32), M_begun (M_aside_ c v) = M_begun c) ∧ (∀ (c : MSt) (v : Nat → Int32), M_begun (M_kept_ c v) = M_begun c) ∧ (∀ (c : MSt) (v : Int32), M_begun (M_isKept_ c v) = M_begun c) ∧ (∀ (c : MSt) (v : Int32), M_begun (M_still_ c v) = M_begun c) ∧ (∀ (c : MSt) (v : Nat → Int32), M_begun (M_tape_ c v) = M_begun c) ∧ (∀ (c : MSt) (v : Int32), M_begun (M_taped_ c v) = M_begun c) ∧ (∀ (c : MSt) (v : Int32), M_begun (M_at_ c v) = M_begun c) ∧ (∀ (c : MSt) (v : Int32), M_begun (M_begun_ c v) = v) ∧ (∀ (c : MSt) (v : Int32), M_begun (M_token_ c v) = M_begun c) ∧ (∀ (c : MSt) (v : Int32), M_begun (M_value_ c v) = M_begun c) ∧ (∀ (c : MSt) (v : Nat → Int32), M_begun (M_words_ c v) = M_begun c) ∧ (∀ (c : MSt) (v : Int32), M_begun (M_told_ c v) = M_begun c) ∧ (∀ (c : MSt) (v : Nat → Int32), M_begun (M_row_ c v) = M_begun c) ∧ (∀ (c : MSt) (v : Int32), M_begun (M_rows_ c v) = M_begun c) ∧ (∀ (c : MSt) (v : Nat → Int32), M_begun (M_sortOf_ c v) = M_begun c) ∧ (∀ (c : MSt) (v : Nat → Int32), M_begun (M_sizeOf_ c v) = M_begun c) ∧ (∀ (c : MSt) (v : Nat → Int64), M_begun (M_item_ c v) = M_begun c) ∧ (∀ (c : MSt) (v : Nat → Int32), M_begun (M_shelfHas_ c v) = M_begun c) ∧ (∀ (c : MSt) (v : Nat → Int32), M_begun (M_shelfWhich_ c v) = M_begun c) ∧ (∀ (c : MSt) (v : Nat → Int32), M_begun (M_shelfSize_ c v) = M_begun c) ∧ (∀ (c : MSt) (v : Nat → Int32), M_begun (M_traced_ c v) = M_begun c) ∧ (∀ (c : MSt) (v : Int32), M_begun (M_traceMany_ c v) = M_begun c) ∧ (∀ (c : MSt) (v : Int32), M_begun (M_who_ c v) = M_begun c) ∧ (∀ (c : MSt) (v : Int32), M_begun (M_isParted_ c v) = M_begun c) := by
  refine ⟨?_, ?_, ?_, ?_, ?_, ?_, ?_, ?_, ?_, ?_, ?_, ?_, ?_, ?_, ?_, ?_, ?_, ?_, ?_, ?_, ?_, ?_, ?_, ?_, ?_⟩ <;> intro c v <;> rfl
theorem M_token_g : (∀ (c : MSt) (v : Nat → Int32), M_token (M_d_ c v) = M_token c) ∧ (∀ (c : MSt) (v : Nat → Int32), M_token (M_aside_ c v) = M_token c) ∧ (∀ (c : MSt) (v : Nat → Int32), M_token (M_kept_ c v) = M_token c) ∧ (∀ (c : MSt) (v : Int32), M_token (M_isKept_ c v) = M_token c) ∧ (∀ (c : MSt) (v : Int32), M_token (M_still_ c v) = M_token c) ∧ (∀ (c : MSt) (v : Nat → Int32), M_token (M_tape_ c v) = M_token c) ∧ (∀ (c : MSt) (v : Int32), M_token (M_taped_ c v) = M_token c) ∧ (∀ (c : MSt) (v : Int32), M_token (M_at_ c v) = M_token c) ∧ (∀ (c : MSt) (v : Int32), M_token (M_begun_ c v) = M_token c) ∧ (∀ (c : MSt) (v : Int32), M_token (M_token_ c v) = v) ∧ (∀ (c : MSt) (v : Int32), M_token (M_value_ c v) = M_token c) ∧ (∀ (c : MSt) (v : Nat → Int32), M_token (M_words_ c v) = M_token c) ∧ (∀ (c : MSt) (v : Int32), M_token (M_told_ c v) = M_token c) ∧ (∀ (c : MSt) (v : Nat → Int32), M_token (M_row_ c v) = M_token c) ∧ (∀ (c : MSt) (v : Int32), M_token (M_rows_ c v) = M_token c) ∧ (∀ (c : MSt) (v : Nat → Int32), M_token (M_sortOf_ c v) = M_token c) ∧ (∀ (c : MSt) (v : Nat → Int32), M_token (M_sizeOf_ c v) = M_token c) ∧ (∀ (c : MSt) (v : Nat → Int64), M_token (M_item_ c v) = M_token c) ∧ (∀ (c : MSt) (v : Nat → Int32), M_token (M_shelfHas_ c v) = M_token c) ∧ (∀ (c : MSt) (v : Nat → Int32), M_token (M_shelfWhich_ c v) = M_token c) ∧ (∀ (c : MSt) (v : Nat → Int32), M_token (M_shelfSize_ c v) = M_token c) ∧ (∀ (c : MSt) (v : Nat → Int32), M_token (M_traced_ c v) = M_token c) ∧ (∀ (c : MSt) (v : Int32), M_token (M_traceMany_ c v) = M_token c) ∧ (∀ (c : MSt) (v : Int32), M_token (M_who_ c v) = M_token c) ∧ (∀ (c : MSt) (v : Int32), M_token (M_isParted_ c v) = M_token c) := by
  refine ⟨?_, ?_, ?_, ?_, ?_, ?_, ?_, ?_, ?_, ?_, ?_, ?_, ?_, ?_, ?_, ?_, ?_, ?_, ?_, ?_, ?_, ?_, ?_, ?_, ?_⟩ <;> intro c v <;> rfl
theorem M_value_g : (∀ (c : MSt) (v : Nat → Int32), M_value (M_d_ c v) = M_value c) ∧ (∀ (c : MSt) (v : Nat → Int32), M_value (M_aside_ c v) = M_value c) ∧ (∀ (c : MSt) (v : Nat → Int32), M_value (M_kept_ c v) = M_value c) ∧ (∀ (c : MSt) (v : Int32), M_value (M_isKept_ c v) = M_value c) ∧ (∀ (c : MSt) (v : Int32), M_value (M_still_ c v) = M_value c) ∧ (∀ (c : MSt) (v : Nat → Int32), M_value (M_tape_ c v) = M_value c) ∧ (∀ (c : MSt) (v : Int32), M_value (M_taped_ c v) = M_value c) ∧ (∀ (c : MSt) (v : Int32), M_value (M_at_ c v) = M_value c) ∧ (∀ (c : MSt) (v : Int32), M_value (M_begun_ c v) = M_value c) ∧ (∀ (c : MSt) (v : Int32), M_value (M_token_ c v) = M_value c) ∧ (∀ (c : MSt) (v : Int32), M_value (M_value_ c v) = v) ∧ (∀ (c : MSt) (v : Nat → Int32), M_value (M_words_ c v) = M_value c) ∧ (∀ (c : MSt) (v : Int32), M_value (M_told_ c v) = M_value c) ∧ (∀ (c : MSt) (v : Nat → Int32), M_value (M_row_ c v) = M_value c) ∧ (∀ (c : MSt) (v : Int32), M_value (M_rows_ c v) = M_value c) ∧ (∀ (c : MSt) (v : Nat → Int32), M_value (M_sortOf_ c v) = M_value c) ∧ (∀ (c : MSt) (v : Nat → Int32), M_value (M_sizeOf_ c v) = M_value c) ∧ (∀ (c : MSt) (v : Nat → Int64), M_value (M_item_ c v) = M_value c) ∧ (∀ (c : MSt) (v : Nat → Int32), M_value (M_shelfHas_ c v) = M_value c) ∧ (∀ (c : MSt) (v : Nat → Int32), M_value (M_shelfWhich_ c v) = M_value c) ∧ (∀ (c : MSt) (v : Nat → Int32), M_value (M_shelfSize_ c v) = M_value c) ∧ (∀ (c : MSt) (v : Nat → Int32), M_value (M_traced_ c v) = M_value c) ∧ (∀ (c : MSt) (v : Int32), M_value (M_traceMany_ c v) = M_value c) ∧ (∀ (c : MSt) (v : Int32), M_value (M_who_ c v) = M_value c) ∧ (∀ (c : MSt) (v : Int32), M_value (M_isParted_ c v) = M_value c) := by
  refine ⟨?_, ?_, ?_, ?_, ?_, ?_, ?_, ?_, ?_, ?_, ?_, ?_, ?_, ?_, ?_, ?_, ?_, ?_, ?_, ?_, ?_, ?_, ?_, ?_, ?_⟩ <;> intro c v <;> rfl
theorem M_words_g : (∀ (c : MSt) (v : Nat → Int32), M_words (M_d_ c v) = M_words c) ∧ (∀ (c : MSt) (v : Nat → Int32), M_words (M_aside_ c v) = M_words c) ∧ (∀ (c : MSt) (v : Nat → Int32), M_words (M_kept_ c v) = M_words c) ∧ (∀ (c : MSt) (v : Int32), M_words (M_isKept_ c v) = M_words c) ∧ (∀ (c : MSt) (v : Int32), M_words (M_still_ c v) = M_words c) ∧ (∀ (c : MSt) (v : Nat → Int32), M_words (M_tape_ c v) = M_words c) ∧ (∀ (c : MSt) (v : Int32), M_words (M_taped_ c v) = M_words c) ∧ (∀ (c : MSt) (v : Int32), M_words (M_at_ c v) = M_words c) ∧ (∀ (c : MSt) (v : Int32), M_words (M_begun_ c v) = M_words c) ∧ (∀ (c : MSt) (v : Int32), M_words (M_token_ c v) = M_words c) ∧ (∀ (c : MSt) (v : Int32), M_words (M_value_ c v) = M_words c) ∧ (∀ (c : MSt) (v : Nat → Int32), M_words (M_words_ c v) = v) ∧ (∀ (c : MSt) (v : Int32), M_words (M_told_ c v) = M_words c) ∧ (∀ (c : MSt) (v : Nat → Int32), M_words (M_row_ c v) = M_words c) ∧ (∀ (c : MSt) (v : Int32), M_words (M_rows_ c v) = M_words c) ∧ (∀ (c : MSt) (v : Nat → Int32), M_words (M_sortOf_ c v) = M_words c) ∧ (∀ (c : MSt) (v : Nat → Int32), M_words (M_sizeOf_ c v) = M_words c) ∧ (∀ (c : MSt) (v : Nat → Int64), M_words (M_item_ c v) = M_words c) ∧ (∀ (c : MSt) (v : Nat → Int32), M_words (M_shelfHas_ c v) = M_words c) ∧ (∀ (c : MSt) (v : Nat → Int32), M_words (M_shelfWhich_ c v) = M_words c) ∧ (∀ (c : MSt) (v : Nat → Int32), M_words (M_shelfSize_ c v) = M_words c) ∧ (∀ (c : MSt) (v : Nat → Int32), M_words (M_traced_ c v) = M_words c) ∧ (∀ (c : MSt) (v : Int32), M_words (M_traceMany_ c v) = M_words c) ∧ (∀ (c : MSt) (v : Int32), M_words (M_who_ c v) = M_words c) ∧ (∀ (c : MSt) (v : Int32), M_words (M_isParted_ c v) = M_words c) := by
  refine ⟨?_, ?_, ?_, ?_, ?_, ?_, ?_, ?_, ?_, ?_, ?_, ?_, ?_, ?_, ?_, ?_, ?_, ?_, ?_, ?_, ?_, ?_, ?_, ?_, ?_⟩ <;> intro c v <;> rfl
theorem M_told_g : (∀ (c : MSt) (v : Nat → Int32), M_told (M_d_ c v) = M_told c) ∧ (∀ (c : MSt) (v : Nat → Int32), M_told (M_aside_ c v) = M_told c) ∧ (∀ (c : MSt) (v : Nat → Int32), M_told (M_kept_ c v) = M_told c) ∧ (∀ (c : MSt) (v : Int32), M_told (M_isKept_ c v) = M_told c) ∧ (∀ (c : MSt) (v : Int32), M_told (M_still_ c v) = M_told c) ∧ (∀ (c : MSt) (v : Nat → Int32), M_told (M_tape_ c v) = M_told c) ∧ (∀ (c : MSt) (v : Int32), M_told (M_taped_ c v) = M_told c) ∧ (∀ (c : MSt) (v : Int32), M_told (M_at_ c v) = M_told c) ∧ (∀ (c : MSt) (v : Int32), M_told (M_begun_ c v) = M_told c) ∧ (∀ (c : MSt) (v : Int32), M_told (M_token_ c v) = M_told c) ∧ (∀ (c : MSt) (v : Int32), M_told (M_value_ c v) = M_told c) ∧ (∀ (c : MSt) (v : Nat → Int32), M_told (M_words_ c v) = M_told c) ∧ (∀ (c : MSt) (v : Int32), M_told (M_told_ c v) = v) ∧ (∀ (c : MSt) (v : Nat → Int32), M_told (M_row_ c v) = M_told c) ∧ (∀ (c : MSt) (v : Int32), M_told (M_rows_ c v) = M_told c) ∧ (∀ (c : MSt) (v : Nat → Int32), M_told (M_sortOf_ c v) = M_told c) ∧ (∀ (c : MSt) (v : Nat → Int32), M_told (M_sizeOf_ c v) = M_told c) ∧ (∀ (c : MSt) (v : Nat → Int64), M_told (M_item_ c v) = M_told c) ∧ (∀ (c : MSt) (v : Nat → Int32), M_told (M_shelfHas_ c v) = M_told c) ∧ (∀ (c : MSt) (v : Nat → Int32), M_told (M_shelfWhich_ c v) = M_told c) ∧ (∀ (c : MSt) (v : Nat → Int32), M_told (M_shelfSize_ c v) = M_told c) ∧ (∀ (c : MSt) (v : Nat → Int32), M_told (M_traced_ c v) = M_told c) ∧ (∀ (c : MSt) (v : Int32), M_told (M_traceMany_ c v) = M_told c) ∧ (∀ (c : MSt) (v : Int32), M_told (M_who_ c v) = M_told c) ∧ (∀ (c : MSt) (v : Int32), M_told (M_isParted_ c v) = M_told c) := by
  refine ⟨?_, ?_, ?_, ?_, ?_, ?_, ?_, ?_, ?_, ?_, ?_, ?_, ?_, ?_, ?_, ?_, ?_, ?_, ?_, ?_, ?_, ?_, ?_, ?_, ?_⟩ <;> intro c v <;> rfl
theorem M_row_g : (∀ (c : MSt) (v : Nat → Int32), M_row (M_d_ c v) = M_row c) ∧ (∀ (c : MSt) (v : Nat → Int32), M_row (M_aside_ c v) = M_row c) ∧ (∀ (c : MSt) (v : Nat → Int32), M_row (M_kept_ c v) = M_row c) ∧ (∀ (c : MSt) (v : Int32), M_row (M_isKept_ c v) = M_row c) ∧ (∀ (c : MSt) (v : Int32), M_row (M_still_ c v) = M_row c) ∧ (∀ (c : MSt) (v : Nat → Int32), M_row (M_tape_ c v) = M_row c) ∧ (∀ (c : MSt) (v : Int32), M_row (M_taped_ c v) = M_row c) ∧ (∀ (c : MSt) (v : Int32), M_row (M_at_ c v) = M_row c) ∧ (∀ (c : MSt) (v : Int32), M_row (M_begun_ c v) = M_row c) ∧ (∀ (c : MSt) (v : Int32), M_row (M_token_ c v) = M_row c) ∧ (∀ (c : MSt) (v : Int32), M_row (M_value_ c v) = M_row c) ∧ (∀ (c : MSt) (v : Nat → Int32), M_row (M_words_ c v) = M_row c) ∧ (∀ (c : MSt) (v : Int32), M_row (M_told_ c v) = M_row c) ∧ (∀ (c : MSt) (v : Nat → Int32), M_row (M_row_ c v) = v) ∧ (∀ (c : MSt) (v : Int32), M_row (M_rows_ c v) = M_row c) ∧ (∀ (c : MSt) (v : Nat → Int32), M_row (M_sortOf_ c v) = M_row c) ∧ (∀ (c : MSt) (v : Nat → Int32), M_row (M_sizeOf_ c v) = M_row c) ∧ (∀ (c : MSt) (v : Nat → Int64), M_row (M_item_ c v) = M_row c) ∧ (∀ (c : MSt) (v : Nat → Int32), M_row (M_shelfHas_ c v) = M_row c) ∧ (∀ (c : MSt) (v : Nat → Int32), M_row (M_shelfWhich_ c v) = M_row c) ∧ (∀ (c : MSt) (v : Nat → Int32), M_row (M_shelfSize_ c v) = M_row c) ∧ (∀ (c : MSt) (v : Nat → Int32), M_row (M_traced_ c v) = M_row c) ∧ (∀ (c : MSt) (v : Int32), M_row (M_traceMany_ c v) = M_row c) ∧ (∀ (c : MSt) (v : Int32), M_row (M_who_ c v) = M_row c) ∧ (∀ (c : MSt) (v : Int32), M_row (M_isParted_ c v) = M_row c) := by
  refine ⟨?_, ?_, ?_, ?_, ?_, ?_, ?_, ?_, ?_, ?_, ?_, ?_, ?_, ?_, ?_, ?_, ?_, ?_, ?_, ?_, ?_, ?_, ?_, ?_, ?_⟩ <;> intro c v <;> rfl
theorem M_rows_g : (∀ (c : MSt) (v : Nat → Int32), M_rows (M_d_ c v) = M_rows c) ∧ (∀ (c : MSt) (v : Nat → Int32), M_rows (M_aside_ c v) = M_rows c) ∧ (∀ (c : MSt) (v : Nat → Int32), M_rows (M_kept_ c v) = M_rows c) ∧ (∀ (c : MSt) (v : Int32), M_rows (M_isKept_ c v) = M_rows c) ∧ (∀ (c : MSt) (v : Int32), M_rows (M_still_ c v) = M_rows c) ∧ (∀ (c : MSt) (v : Nat → Int32), M_rows (M_tape_ c v) = M_rows c) ∧ (∀ (c : MSt) (v : Int32), M_rows (M_taped_ c v) = M_rows c) ∧ (∀ (c : MSt) (v : Int32), M_rows (M_at_ c v) = M_rows c) ∧ (∀ (c : MSt) (v : Int32), M_rows (M_begun_ c v) = M_rows c) ∧ (∀ (c : MSt) (v : Int32), M_rows (M_token_ c v) = M_rows c) ∧ (∀ (c : MSt) (v : Int32), M_rows (M_value_ c v) = M_rows c) ∧ (∀ (c : MSt) (v : Nat → Int32), M_rows (M_words_ c v) = M_rows c) ∧ (∀ (c : MSt) (v : Int32), M_rows (M_told_ c v) = M_rows c) ∧ (∀ (c : MSt) (v : Nat → Int32), M_rows (M_row_ c v) = M_rows c) ∧ (∀ (c : MSt) (v : Int32), M_rows (M_rows_ c v) = v) ∧ (∀ (c : MSt) (v : Nat → Int32), M_rows (M_sortOf_ c v) = M_rows c) ∧ (∀ (c : MSt) (v : Nat → Int32), M_rows (M_sizeOf_ c v) = M_rows c) ∧ (∀ (c : MSt) (v : Nat → Int64), M_rows (M_item_ c v) = M_rows c) ∧ (∀ (c : MSt) (v : Nat → Int32), M_rows (M_shelfHas_ c v) = M_rows c) ∧ (∀ (c : MSt) (v : Nat → Int32), M_rows (M_shelfWhich_ c v) = M_rows c) ∧ (∀ (c : MSt) (v : Nat → Int32), M_rows (M_shelfSize_ c v) = M_rows c) ∧ (∀ (c : MSt) (v : Nat → Int32), M_rows (M_traced_ c v) = M_rows c) ∧ (∀ (c : MSt) (v : Int32), M_rows (M_traceMany_ c v) = M_rows c) ∧ (∀ (c : MSt) (v : Int32), M_rows (M_who_ c v) = M_rows c) ∧ (∀ (c : MSt) (v : Int32), M_rows (M_isParted_ c v) = M_rows c) := by
  refine ⟨?_, ?_, ?_, ?_, ?_, ?_, ?_, ?_, ?_, ?_, ?_, ?_, ?_, ?_, ?_, ?_, ?_, ?_, ?_, ?_, ?_, ?_, ?_, ?_, ?_⟩ <;> intro c v <;> rfl
theorem M_sortOf_g : (∀ (c : MSt) (v : Nat → Int32), M_sortOf (M_d_ c v) = M_sortOf c) ∧ (∀ (c : MSt) (v : Nat → Int32), M_sortOf (M_aside_ c v) = M_sortOf c) ∧ (∀ (c : MSt) (v : Nat → Int32), M_sortOf (M_kept_ c v) = M_sortOf c) ∧ (∀ (c : MSt) (v : Int32), M_sortOf (M_isKept_ c v) = M_sortOf c) ∧ (∀ (c : MSt) (v : Int32), M_sortOf (M_still_ c v) = M_sortOf c) ∧ (∀ (c : MSt) (v : Nat → Int32), M_sortOf (M_tape_ c v) = M_sortOf c) ∧ (∀ (c : MSt) (v : Int32), M_sortOf (M_taped_ c v) = M_sortOf c) ∧ (∀ (c : MSt) (v : Int32), M_sortOf (M_at_ c v) = M_sortOf c) ∧ (∀ (c : MSt) (v : Int32), M_sortOf (M_begun_ c v) = M_sortOf c) ∧ (∀ (c : MSt) (v : Int32), M_sortOf (M_token_ c v) = M_sortOf c) ∧ (∀ (c : MSt) (v : Int32), M_sortOf (M_value_ c v) = M_sortOf c) ∧ (∀ (c : MSt) (v : Nat → Int32), M_sortOf (M_words_ c v) = M_sortOf c) ∧ (∀ (c : MSt) (v : Int32), M_sortOf (M_told_ c v) = M_sortOf c) ∧ (∀ (c : MSt) (v : Nat → Int32), M_sortOf (M_row_ c v) = M_sortOf c) ∧ (∀ (c : MSt) (v : Int32), M_sortOf (M_rows_ c v) = M_sortOf c) ∧ (∀ (c : MSt) (v : Nat → Int32), M_sortOf (M_sortOf_ c v) = v) ∧ (∀ (c : MSt) (v : Nat → Int32), M_sortOf (M_sizeOf_ c v) = M_sortOf c) ∧ (∀ (c : MSt) (v : Nat → Int64), M_sortOf (M_item_ c v) = M_sortOf c) ∧ (∀ (c : MSt) (v : Nat → Int32), M_sortOf (M_shelfHas_ c v) = M_sortOf c) ∧ (∀ (c : MSt) (v : Nat → Int32), M_sortOf (M_shelfWhich_ c v) = M_sortOf c) ∧ (∀ (c : MSt) (v : Nat → Int32), M_sortOf (M_shelfSize_ c v) = M_sortOf c) ∧ (∀ (c : MSt) (v : Nat → Int32), M_sortOf (M_traced_ c v) = M_sortOf c) ∧ (∀ (c : MSt) (v : Int32), M_sortOf (M_traceMany_ c v) = M_sortOf c) ∧ (∀ (c : MSt) (v : Int32), M_sortOf (M_who_ c v) = M_sortOf c) ∧ (∀ (c : MSt) (v : Int32), M_sortOf (M_isParted_ c v) = M_sortOf c) := by
  refine ⟨?_, ?_, ?_, ?_, ?_, ?_, ?_, ?_, ?_, ?_, ?_, ?_, ?_, ?_, ?_, ?_, ?_, ?_, ?_, ?_, ?_, ?_, ?_, ?_, ?_⟩ <;> intro c v <;> rfl
theorem M_sizeOf_g : (∀ (c : MSt) (v : Nat → Int32), M_sizeOf (M_d_ c v) = M_sizeOf c) ∧ (∀ (c : MSt) (v : Nat → Int32), M_sizeOf (M_aside_ c v) = M_sizeOf c) ∧ (∀ (c : MSt) (v : Nat → Int32), M_sizeOf (M_kept_ c v) = M_sizeOf c) ∧ (∀ (c : MSt) (v : Int32), M_sizeOf (M_isKept_ c v) = M_sizeOf c) ∧ (∀ (c : MSt) (v : Int32), M_sizeOf (M_still_ c v) = M_sizeOf c) ∧ (∀ (c : MSt) (v : Nat → Int32), M_sizeOf (M_tape_ c v) = M_sizeOf c) ∧ (∀ (c : MSt) (v : Int32), M_sizeOf (M_taped_ c v) = M_sizeOf c) ∧ (∀ (c : MSt) (v : Int32), M_sizeOf (M_at_ c v) = M_sizeOf c) ∧ (∀ (c : MSt) (v : Int32), M_sizeOf (M_begun_ c v) = M_sizeOf c) ∧ (∀ (c : MSt) (v : Int32), M_sizeOf (M_token_ c v) = M_sizeOf c) ∧ (∀ (c : MSt) (v : Int32), M_sizeOf (M_value_ c v) = M_sizeOf c) ∧ (∀ (c : MSt) (v : Nat → Int32), M_sizeOf (M_words_ c v) = M_sizeOf c) ∧ (∀ (c : MSt) (v : Int32), M_sizeOf (M_told_ c v) = M_sizeOf c) ∧ (∀ (c : MSt) (v : Nat → Int32), M_sizeOf (M_row_ c v) = M_sizeOf c) ∧ (∀ (c : MSt) (v : Int32), M_sizeOf (M_rows_ c v) = M_sizeOf c) ∧ (∀ (c : MSt) (v : Nat → Int32), M_sizeOf (M_sortOf_ c v) = M_sizeOf c) ∧ (∀ (c : MSt) (v : Nat → Int32), M_sizeOf (M_sizeOf_ c v) = v) ∧ (∀ (c : MSt) (v : Nat → Int64), M_sizeOf (M_item_ c v) = M_sizeOf c) ∧ (∀ (c : MSt) (v : Nat → Int32), M_sizeOf (M_shelfHas_ c v) = M_sizeOf c) ∧ (∀ (c : MSt) (v : Nat → Int32), M_sizeOf (M_shelfWhich_ c v) = M_sizeOf c) ∧ (∀ (c : MSt) (v : Nat → Int32), M_sizeOf (M_shelfSize_ c v) = M_sizeOf c) ∧ (∀ (c : MSt) (v : Nat → Int32), M_sizeOf (M_traced_ c v) = M_sizeOf c) ∧ (∀ (c : MSt) (v : Int32), M_sizeOf (M_traceMany_ c v) = M_sizeOf c) ∧ (∀ (c : MSt) (v : Int32), M_sizeOf (M_who_ c v) = M_sizeOf c) ∧ (∀ (c : MSt) (v : Int32), M_sizeOf (M_isParted_ c v) = M_sizeOf c) := by
  refine ⟨?_, ?_, ?_, ?_, ?_, ?_, ?_, ?_, ?_, ?_, ?_, ?_, ?_, ?_, ?_, ?_, ?_, ?_, ?_, ?_, ?_, ?_, ?_, ?_, ?_⟩ <;> intro c v <;> rfl
theorem M_item_g : (∀ (c : MSt) (v : Nat → Int32), M_item (M_d_ c v) = M_item c) ∧ (∀ (c : MSt) (v : Nat → Int32), M_item (M_aside_ c v) = M_item c) ∧ (∀ (c : MSt) (v : Nat → Int32), M_item (M_kept_ c v) = M_item c) ∧ (∀ (c : MSt) (v : Int32), M_item (M_isKept_ c v) = M_item c) ∧ (∀ (c : MSt) (v : Int32), M_item (M_still_ c v) = M_item c) ∧ (∀ (c : MSt) (v : Nat → Int32), M_item (M_tape_ c v) = M_item c) ∧ (∀ (c : MSt) (v : Int32), M_item (M_taped_ c v) = M_item c) ∧ (∀ (c : MSt) (v : Int32), M_item (M_at_ c v) = M_item c) ∧ (∀ (c : MSt) (v : Int32), M_item (M_begun_ c v) = M_item c) ∧ (∀ (c : MSt) (v : Int32), M_item (M_token_ c v) = M_item c) ∧ (∀ (c : MSt) (v : Int32), M_item (M_value_ c v) = M_item c) ∧ (∀ (c : MSt) (v : Nat → Int32), M_item (M_words_ c v) = M_item c) ∧ (∀ (c : MSt) (v : Int32), M_item (M_told_ c v) = M_item c) ∧ (∀ (c : MSt) (v : Nat → Int32), M_item (M_row_ c v) = M_item c) ∧ (∀ (c : MSt) (v : Int32), M_item (M_rows_ c v) = M_item c) ∧ (∀ (c : MSt) (v : Nat → Int32), M_item (M_sortOf_ c v) = M_item c) ∧ (∀ (c : MSt) (v : Nat → Int32), M_item (M_sizeOf_ c v) = M_item c) ∧ (∀ (c : MSt) (v : Nat → Int64), M_item (M_item_ c v) = v) ∧ (∀ (c : MSt) (v : Nat → Int32), M_item (M_shelfHas_ c v) = M_item c) ∧ (∀ (c : MSt) (v : Nat → Int32), M_item (M_shelfWhich_ c v) = M_item c) ∧ (∀ (c : MSt) (v : Nat → Int32), M_item (M_shelfSize_ c v) = M_item c) ∧ (∀ (c : MSt) (v : Nat → Int32), M_item (M_traced_ c v) = M_item c) ∧ (∀ (c : MSt) (v : Int32), M_item (M_traceMany_ c v) = M_item c) ∧ (∀ (c : MSt) (v : Int32), M_item (M_who_ c v) = M_item c) ∧ (∀ (c : MSt) (v : Int32), M_item (M_isParted_ c v) = M_item c) := by
  refine ⟨?_, ?_, ?_, ?_, ?_, ?_, ?_, ?_, ?_, ?_, ?_, ?_, ?_, ?_, ?_, ?_, ?_, ?_, ?_, ?_, ?_, ?_, ?_, ?_, ?_⟩ <;> intro c v <;> rfl
theorem M_shelfHas_g : (∀ (c : MSt) (v : Nat → Int32), M_shelfHas (M_d_ c v) = M_shelfHas c) ∧ (∀ (c : MSt) (v : Nat → Int32), M_shelfHas (M_aside_ c v) = M_shelfHas c) ∧ (∀ (c : MSt) (v : Nat → Int32), M_shelfHas (M_kept_ c v) = M_shelfHas c) ∧ (∀ (c : MSt) (v : Int32), M_shelfHas (M_isKept_ c v) = M_shelfHas c) ∧ (∀ (c : MSt) (v : Int32), M_shelfHas (M_still_ c v) = M_shelfHas c) ∧ (∀ (c : MSt) (v : Nat → Int32), M_shelfHas (M_tape_ c v) = M_shelfHas c) ∧ (∀ (c : MSt) (v : Int32), M_shelfHas (M_taped_ c v) = M_shelfHas c) ∧ (∀ (c : MSt) (v : Int32), M_shelfHas (M_at_ c v) = M_shelfHas c) ∧ (∀ (c : MSt) (v : Int32), M_shelfHas (M_begun_ c v) = M_shelfHas c) ∧ (∀ (c : MSt) (v : Int32), M_shelfHas (M_token_ c v) = M_shelfHas c) ∧ (∀ (c : MSt) (v : Int32), M_shelfHas (M_value_ c v) = M_shelfHas c) ∧ (∀ (c : MSt) (v : Nat → Int32), M_shelfHas (M_words_ c v) = M_shelfHas c) ∧ (∀ (c : MSt) (v : Int32), M_shelfHas (M_told_ c v) = M_shelfHas c) ∧ (∀ (c : MSt) (v : Nat → Int32), M_shelfHas (M_row_ c v) = M_shelfHas c) ∧ (∀ (c : MSt) (v : Int32), M_shelfHas (M_rows_ c v) = M_shelfHas c) ∧ (∀ (c : MSt) (v : Nat → Int32), M_shelfHas (M_sortOf_ c v) = M_shelfHas c) ∧ (∀ (c : MSt) (v : Nat → Int32), M_shelfHas (M_sizeOf_ c v) = M_shelfHas c) ∧ (∀ (c : MSt) (v : Nat → Int64), M_shelfHas (M_item_ c v) = M_shelfHas c) ∧ (∀ (c : MSt) (v : Nat → Int32), M_shelfHas (M_shelfHas_ c v) = v) ∧ (∀ (c : MSt) (v : Nat → Int32), M_shelfHas (M_shelfWhich_ c v) = M_shelfHas c) ∧ (∀ (c : MSt) (v : Nat → Int32), M_shelfHas (M_shelfSize_ c v) = M_shelfHas c) ∧ (∀ (c : MSt) (v : Nat → Int32), M_shelfHas (M_traced_ c v) = M_shelfHas c) ∧ (∀ (c : MSt) (v : Int32), M_shelfHas (M_traceMany_ c v) = M_shelfHas c) ∧ (∀ (c : MSt) (v : Int32), M_shelfHas (M_who_ c v) = M_shelfHas c) ∧ (∀ (c : MSt) (v : Int32), M_shelfHas (M_isParted_ c v) = M_shelfHas c) := by
  refine ⟨?_, ?_, ?_, ?_, ?_, ?_, ?_, ?_, ?_, ?_, ?_, ?_, ?_, ?_, ?_, ?_, ?_, ?_, ?_, ?_, ?_, ?_, ?_, ?_, ?_⟩ <;> intro c v <;> rfl
theorem M_shelfWhich_g : (∀ (c : MSt) (v : Nat → Int32), M_shelfWhich (M_d_ c v) = M_shelfWhich c) ∧ (∀ (c : MSt) (v : Nat → Int32), M_shelfWhich (M_aside_ c v) = M_shelfWhich c) ∧ (∀ (c : MSt) (v : Nat → Int32), M_shelfWhich (M_kept_ c v) = M_shelfWhich c) ∧ (∀ (c : MSt) (v : Int32), M_shelfWhich (M_isKept_ c v) = M_shelfWhich c) ∧ (∀ (c : MSt) (v : Int32), M_shelfWhich (M_still_ c v) = M_shelfWhich c) ∧ (∀ (c : MSt) (v : Nat → Int32), M_shelfWhich (M_tape_ c v) = M_shelfWhich c) ∧ (∀ (c : MSt) (v : Int32), M_shelfWhich (M_taped_ c v) = M_shelfWhich c) ∧ (∀ (c : MSt) (v : Int32), M_shelfWhich (M_at_ c v) = M_shelfWhich c) ∧ (∀ (c : MSt) (v : Int32), M_shelfWhich (M_begun_ c v) = M_shelfWhich c) ∧ (∀ (c : MSt) (v : Int32), M_shelfWhich (M_token_ c v) = M_shelfWhich c) ∧ (∀ (c : MSt) (v : Int32), M_shelfWhich (M_value_ c v) = M_shelfWhich c) ∧ (∀ (c : MSt) (v : Nat → Int32), M_shelfWhich (M_words_ c v) = M_shelfWhich c) ∧ (∀ (c : MSt) (v : Int32), M_shelfWhich (M_told_ c v) = M_shelfWhich c) ∧ (∀ (c : MSt) (v : Nat → Int32), M_shelfWhich (M_row_ c v) = M_shelfWhich c) ∧ (∀ (c : MSt) (v : Int32), M_shelfWhich (M_rows_ c v) = M_shelfWhich c) ∧ (∀ (c : MSt) (v : Nat → Int32), M_shelfWhich (M_sortOf_ c v) = M_shelfWhich c) ∧ (∀ (c : MSt) (v : Nat → Int32), M_shelfWhich (M_sizeOf_ c v) = M_shelfWhich c) ∧ (∀ (c : MSt) (v : Nat → Int64), M_shelfWhich (M_item_ c v) = M_shelfWhich c) ∧ (∀ (c : MSt) (v : Nat → Int32), M_shelfWhich (M_shelfHas_ c v) = M_shelfWhich c) ∧ (∀ (c : MSt) (v : Nat → Int32), M_shelfWhich (M_shelfWhich_ c v) = v) ∧ (∀ (c : MSt) (v : Nat → Int32), M_shelfWhich (M_shelfSize_ c v) = M_shelfWhich c) ∧ (∀ (c : MSt) (v : Nat → Int32), M_shelfWhich (M_traced_ c v) = M_shelfWhich c) ∧ (∀ (c : MSt) (v : Int32), M_shelfWhich (M_traceMany_ c v) = M_shelfWhich c) ∧ (∀ (c : MSt) (v : Int32), M_shelfWhich (M_who_ c v) = M_shelfWhich c) ∧ (∀ (c : MSt) (v : Int32), M_shelfWhich (M_isParted_ c v) = M_shelfWhich c) := by
  refine ⟨?_, ?_, ?_, ?_, ?_, ?_, ?_, ?_, ?_, ?_, ?_, ?_, ?_, ?_, ?_, ?_, ?_, ?_, ?_, ?_, ?_, ?_, ?_, ?_, ?_⟩ <;> intro c v <;> rfl
theorem M_shelfSize_g : (∀ (c : MSt) (v : Nat → Int32), M_shelfSize (M_d_ c v) = M_shelfSize c) ∧ (∀ (c : MSt) (v : Nat → Int32), M_shelfSize (M_aside_ c v) = M_shelfSize c) ∧ (∀ (c : MSt) (v : Nat → Int32), M_shelfSize (M_kept_ c v) = M_shelfSize c) ∧ (∀ (c : MSt) (v : Int32), M_shelfSize (M_isKept_ c v) = M_shelfSize c) ∧ (∀ (c : MSt) (v : Int32), M_shelfSize (M_still_ c v) = M_shelfSize c) ∧ (∀ (c : MSt) (v : Nat → Int32), M_shelfSize (M_tape_ c v) = M_shelfSize c) ∧ (∀ (c : MSt) (v : Int32), M_shelfSize (M_taped_ c v) = M_shelfSize c) ∧ (∀ (c : MSt) (v : Int32), M_shelfSize (M_at_ c v) = M_shelfSize c) ∧ (∀ (c : MSt) (v : Int32), M_shelfSize (M_begun_ c v) = M_shelfSize c) ∧ (∀ (c : MSt) (v : Int32), M_shelfSize (M_token_ c v) = M_shelfSize c) ∧ (∀ (c : MSt) (v : Int32), M_shelfSize (M_value_ c v) = M_shelfSize c) ∧ (∀ (c : MSt) (v : Nat → Int32), M_shelfSize (M_words_ c v) = M_shelfSize c) ∧ (∀ (c : MSt) (v : Int32), M_shelfSize (M_told_ c v) = M_shelfSize c) ∧ (∀ (c : MSt) (v : Nat → Int32), M_shelfSize (M_row_ c v) = M_shelfSize c) ∧ (∀ (c : MSt) (v : Int32), M_shelfSize (M_rows_ c v) = M_shelfSize c) ∧ (∀ (c : MSt) (v : Nat → Int32), M_shelfSize (M_sortOf_ c v) = M_shelfSize c) ∧ (∀ (c : MSt) (v : Nat → Int32), M_shelfSize (M_sizeOf_ c v) = M_shelfSize c) ∧ (∀ (c : MSt) (v : Nat → Int64), M_shelfSize (M_item_ c v) = M_shelfSize c) ∧ (∀ (c : MSt) (v : Nat → Int32), M_shelfSize (M_shelfHas_ c v) = M_shelfSize c) ∧ (∀ (c : MSt) (v : Nat → Int32), M_shelfSize (M_shelfWhich_ c v) = M_shelfSize c) ∧ (∀ (c : MSt) (v : Nat → Int32), M_shelfSize (M_shelfSize_ c v) = v) ∧ (∀ (c : MSt) (v : Nat → Int32), M_shelfSize (M_traced_ c v) = M_shelfSize c) ∧ (∀ (c : MSt) (v : Int32), M_shelfSize (M_traceMany_ c v) = M_shelfSize c) ∧ (∀ (c : MSt) (v : Int32), M_shelfSize (M_who_ c v) = M_shelfSize c) ∧ (∀ (c : MSt) (v : Int32), M_shelfSize (M_isParted_ c v) = M_shelfSize c) := by
  refine ⟨?_, ?_, ?_, ?_, ?_, ?_, ?_, ?_, ?_, ?_, ?_, ?_, ?_, ?_, ?_, ?_, ?_, ?_, ?_, ?_, ?_, ?_, ?_, ?_, ?_⟩ <;> intro c v <;> rfl
theorem M_traced_g : (∀ (c : MSt) (v : Nat → Int32), M_traced (M_d_ c v) = M_traced c) ∧ (∀ (c : MSt) (v : Nat → Int32), M_traced (M_aside_ c v) = M_traced c) ∧ (∀ (c : MSt) (v : Nat → Int32), M_traced (M_kept_ c v) = M_traced c) ∧ (∀ (c : MSt) (v : Int32), M_traced (M_isKept_ c v) = M_traced c) ∧ (∀ (c : MSt) (v : Int32), M_traced (M_still_ c v) = M_traced c) ∧ (∀ (c : MSt) (v : Nat → Int32), M_traced (M_tape_ c v) = M_traced c) ∧ (∀ (c : MSt) (v : Int32), M_traced (M_taped_ c v) = M_traced c) ∧ (∀ (c : MSt) (v : Int32), M_traced (M_at_ c v) = M_traced c) ∧ (∀ (c : MSt) (v : Int32), M_traced (M_begun_ c v) = M_traced c) ∧ (∀ (c : MSt) (v : Int32), M_traced (M_token_ c v) = M_traced c) ∧ (∀ (c : MSt) (v : Int32), M_traced (M_value_ c v) = M_traced c) ∧ (∀ (c : MSt) (v : Nat → Int32), M_traced (M_words_ c v) = M_traced c) ∧ (∀ (c : MSt) (v : Int32), M_traced (M_told_ c v) = M_traced c) ∧ (∀ (c : MSt) (v : Nat → Int32), M_traced (M_row_ c v) = M_traced c) ∧ (∀ (c : MSt) (v : Int32), M_traced (M_rows_ c v) = M_traced c) ∧ (∀ (c : MSt) (v : Nat → Int32), M_traced (M_sortOf_ c v) = M_traced c) ∧ (∀ (c : MSt) (v : Nat → Int32), M_traced (M_sizeOf_ c v) = M_traced c) ∧ (∀ (c : MSt) (v : Nat → Int64), M_traced (M_item_ c v) = M_traced c) ∧ (∀ (c : MSt) (v : Nat → Int32), M_traced (M_shelfHas_ c v) = M_traced c) ∧ (∀ (c : MSt) (v : Nat → Int32), M_traced (M_shelfWhich_ c v) = M_traced c) ∧ (∀ (c : MSt) (v : Nat → Int32), M_traced (M_shelfSize_ c v) = M_traced c) ∧ (∀ (c : MSt) (v : Nat → Int32), M_traced (M_traced_ c v) = v) ∧ (∀ (c : MSt) (v : Int32), M_traced (M_traceMany_ c v) = M_traced c) ∧ (∀ (c : MSt) (v : Int32), M_traced (M_who_ c v) = M_traced c) ∧ (∀ (c : MSt) (v : Int32), M_traced (M_isParted_ c v) = M_traced c) := by
  refine ⟨?_, ?_, ?_, ?_, ?_, ?_, ?_, ?_, ?_, ?_, ?_, ?_, ?_, ?_, ?_, ?_, ?_, ?_, ?_, ?_, ?_, ?_, ?_, ?_, ?_⟩ <;> intro c v <;> rfl
theorem M_traceMany_g : (∀ (c : MSt) (v : Nat → Int32), M_traceMany (M_d_ c v) = M_traceMany c) ∧ (∀ (c : MSt) (v : Nat → Int32), M_traceMany (M_aside_ c v) = M_traceMany c) ∧ (∀ (c : MSt) (v : Nat → Int32), M_traceMany (M_kept_ c v) = M_traceMany c) ∧ (∀ (c : MSt) (v : Int32), M_traceMany (M_isKept_ c v) = M_traceMany c) ∧ (∀ (c : MSt) (v : Int32), M_traceMany (M_still_ c v) = M_traceMany c) ∧ (∀ (c : MSt) (v : Nat → Int32), M_traceMany (M_tape_ c v) = M_traceMany c) ∧ (∀ (c : MSt) (v : Int32), M_traceMany (M_taped_ c v) = M_traceMany c) ∧ (∀ (c : MSt) (v : Int32), M_traceMany (M_at_ c v) = M_traceMany c) ∧ (∀ (c : MSt) (v : Int32), M_traceMany (M_begun_ c v) = M_traceMany c) ∧ (∀ (c : MSt) (v : Int32), M_traceMany (M_token_ c v) = M_traceMany c) ∧ (∀ (c : MSt) (v : Int32), M_traceMany (M_value_ c v) = M_traceMany c) ∧ (∀ (c : MSt) (v : Nat → Int32), M_traceMany (M_words_ c v) = M_traceMany c) ∧ (∀ (c : MSt) (v : Int32), M_traceMany (M_told_ c v) = M_traceMany c) ∧ (∀ (c : MSt) (v : Nat → Int32), M_traceMany (M_row_ c v) = M_traceMany c) ∧ (∀ (c : MSt) (v : Int32), M_traceMany (M_rows_ c v) = M_traceMany c) ∧ (∀ (c : MSt) (v : Nat → Int32), M_traceMany (M_sortOf_ c v) = M_traceMany c) ∧ (∀ (c : MSt) (v : Nat → Int32), M_traceMany (M_sizeOf_ c v) = M_traceMany c) ∧ (∀ (c : MSt) (v : Nat → Int64), M_traceMany (M_item_ c v) = M_traceMany c) ∧ (∀ (c : MSt) (v : Nat → Int32), M_traceMany (M_shelfHas_ c v) = M_traceMany c) ∧ (∀ (c : MSt) (v : Nat → Int32), M_traceMany (M_shelfWhich_ c v) = M_traceMany c) ∧ (∀ (c : MSt) (v : Nat → Int32), M_traceMany (M_shelfSize_ c v) = M_traceMany c) ∧ (∀ (c : MSt) (v : Nat → Int32), M_traceMany (M_traced_ c v) = M_traceMany c) ∧ (∀ (c : MSt) (v : Int32), M_traceMany (M_traceMany_ c v) = v) ∧ (∀ (c : MSt) (v : Int32), M_traceMany (M_who_ c v) = M_traceMany c) ∧ (∀ (c : MSt) (v : Int32), M_traceMany (M_isParted_ c v) = M_traceMany c) := by
  refine ⟨?_, ?_, ?_, ?_, ?_, ?_, ?_, ?_, ?_, ?_, ?_, ?_, ?_, ?_, ?_, ?_, ?_, ?_, ?_, ?_, ?_, ?_, ?_, ?_, ?_⟩ <;> intro c v <;> rfl
theorem M_who_g : (∀ (c : MSt) (v : Nat → Int32), M_who (M_d_ c v) = M_who c) ∧ (∀ (c : MSt) (v : Nat → Int32), M_who (M_aside_ c v) = M_who c) ∧ (∀ (c : MSt) (v : Nat → Int32), M_who (M_kept_ c v) = M_who c) ∧ (∀ (c : MSt) (v : Int32), M_who (M_isKept_ c v) = M_who c) ∧ (∀ (c : MSt) (v : Int32), M_who (M_still_ c v) = M_who c) ∧ (∀ (c : MSt) (v : Nat → Int32), M_who (M_tape_ c v) = M_who c) ∧ (∀ (c : MSt) (v : Int32), M_who (M_taped_ c v) = M_who c) ∧ (∀ (c : MSt) (v : Int32), M_who (M_at_ c v) = M_who c) ∧ (∀ (c : MSt) (v : Int32), M_who (M_begun_ c v) = M_who c) ∧ (∀ (c : MSt) (v : Int32), M_who (M_token_ c v) = M_who c) ∧ (∀ (c : MSt) (v : Int32), M_who (M_value_ c v) = M_who c) ∧ (∀ (c : MSt) (v : Nat → Int32), M_who (M_words_ c v) = M_who c) ∧ (∀ (c : MSt) (v : Int32), M_who (M_told_ c v) = M_who c) ∧ (∀ (c : MSt) (v : Nat → Int32), M_who (M_row_ c v) = M_who c) ∧ (∀ (c : MSt) (v : Int32), M_who (M_rows_ c v) = M_who c) ∧ (∀ (c : MSt) (v : Nat → Int32), M_who (M_sortOf_ c v) = M_who c) ∧ (∀ (c : MSt) (v : Nat → Int32), M_who (M_sizeOf_ c v) = M_who c) ∧ (∀ (c : MSt) (v : Nat → Int64), M_who (M_item_ c v) = M_who c) ∧ (∀ (c : MSt) (v : Nat → Int32), M_who (M_shelfHas_ c v) = M_who c) ∧ (∀ (c : MSt) (v : Nat → Int32), M_who (M_shelfWhich_ c v) = M_who c) ∧ (∀ (c : MSt) (v : Nat → Int32), M_who (M_shelfSize_ c v) = M_who c) ∧ (∀ (c : MSt) (v : Nat → Int32), M_who (M_traced_ c v) = M_who c) ∧ (∀ (c : MSt) (v : Int32), M_who (M_traceMany_ c v) = M_who c) ∧ (∀ (c : MSt) (v : Int32), M_who (M_who_ c v) = v) ∧ (∀ (c : MSt) (v : Int32), M_who (M_isParted_ c v) = M_who c) := by
  refine ⟨?_, ?_, ?_, ?_, ?_, ?_, ?_, ?_, ?_, ?_, ?_, ?_, ?_, ?_, ?_, ?_, ?_, ?_, ?_, ?_, ?_, ?_, ?_, ?_, ?_⟩ <;> intro c v <;> rfl
theorem M_isParted_g : (∀ (c : MSt) (v : Nat → Int32), M_isParted (M_d_ c v) = M_isParted c) ∧ (∀ (c : MSt) (v : Nat → Int32), M_isParted (M_aside_ c v) = M_isParted c) ∧ (∀ (c : MSt) (v : Nat → Int32), M_isParted (M_kept_ c v) = M_isParted c) ∧ (∀ (c : MSt) (v : Int32), M_isParted (M_isKept_ c v) = M_isParted c) ∧ (∀ (c : MSt) (v : Int32), M_isParted (M_still_ c v) = M_isParted c) ∧ (∀ (c : MSt) (v : Nat → Int32), M_isParted (M_tape_ c v) = M_isParted c) ∧ (∀ (c : MSt) (v : Int32), M_isParted (M_taped_ c v) = M_isParted c) ∧ (∀ (c : MSt) (v : Int32), M_isParted (M_at_ c v) = M_isParted c) ∧ (∀ (c : MSt) (v : Int32), M_isParted (M_begun_ c v) = M_isParted c) ∧ (∀ (c : MSt) (v : Int32), M_isParted (M_token_ c v) = M_isParted c) ∧ (∀ (c : MSt) (v : Int32), M_isParted (M_value_ c v) = M_isParted c) ∧ (∀ (c : MSt) (v : Nat → Int32), M_isParted (M_words_ c v) = M_isParted c) ∧ (∀ (c : MSt) (v : Int32), M_isParted (M_told_ c v) = M_isParted c) ∧ (∀ (c : MSt) (v : Nat → Int32), M_isParted (M_row_ c v) = M_isParted c) ∧ (∀ (c : MSt) (v : Int32), M_isParted (M_rows_ c v) = M_isParted c) ∧ (∀ (c : MSt) (v : Nat → Int32), M_isParted (M_sortOf_ c v) = M_isParted c) ∧ (∀ (c : MSt) (v : Nat → Int32), M_isParted (M_sizeOf_ c v) = M_isParted c) ∧ (∀ (c : MSt) (v : Nat → Int64), M_isParted (M_item_ c v) = M_isParted c) ∧ (∀ (c : MSt) (v : Nat → Int32), M_isParted (M_shelfHas_ c v) = M_isParted c) ∧ (∀ (c : MSt) (v : Nat → Int32), M_isParted (M_shelfWhich_ c v) = M_isParted c) ∧ (∀ (c : MSt) (v : Nat → Int32), M_isParted (M_shelfSize_ c v) = M_isParted c) ∧ (∀ (c : MSt) (v : Nat → Int32), M_isParted (M_traced_ c v) = M_isParted c) ∧ (∀ (c : MSt) (v : Int32), M_isParted (M_traceMany_ c v) = M_isParted c) ∧ (∀ (c : MSt) (v : Int32), M_isParted (M_who_ c v) = M_isParted c) ∧ (∀ (c : MSt) (v : Int32), M_isParted (M_isParted_ c v) = v) := by
  refine ⟨?_, ?_, ?_, ?_, ?_, ?_, ?_, ?_, ?_, ?_, ?_, ?_, ?_, ?_, ?_, ?_, ?_, ?_, ?_, ?_, ?_, ?_, ?_, ?_, ?_⟩ <;> intro c v <;> rfl
def woA (t : Nat → ClassId) (a : Nat → Nat) (c : ASt) : va_W := [(a 0, .inr (0, [.ref (a 1), .int (A_traced c), .int (A_kind c), .int (A_n c), .int (A_a c), .int (A_isParted c)])), (a 1, .inl (t 2, 30, .inl (A_bodies c)))]
def woC (t : Nat → ClassId) (a : Nat → Nat) (c : CSt) : va_W := [(a 0, .inr (1, [.ref (a 1), .ref (a 2), .ref (a 3), .ref (a 4), .ref (a 5), .ref (a 6), .ref (a 7), .ref (a 8), .int (C_count c), .int (C_hour c), .int (C_z c), .int (C_heldBack c)])), (a 1, .inl (t 2, 4, .inl (C_laws c))), (a 2, .inl (t 2, 10, .inl (C_noise c))), (a 3, .inl (t 2, 10, .inl (C_lost c))), (a 4, .inl (t 2, 8, .inl (C_kind c))), (a 5, .inl (t 2, 8, .inl (C_load c))), (a 6, .inl (t 2, 8, .inl (C_sort c))), (a 7, .inl (t 2, 8, .inl (C_at c))), (a 8, .inl (t 2, 8, .inl (C_bound c)))]
def woS (t : Nat → ClassId) (a : Nat → Nat) (c : SSt) : va_W := [(a 0, .inr (2, [.ref (a 1), .int (S_sort c), .int (S_size c)])), (a 1, .inl (t 2, 40, .inl (S_items c)))]
def woH (t : Nat → ClassId) (a : Nat → Nat) (c : HSt) : va_W := [(a 0, .inr (3, [.int (H_what c), .int (H_barge c), .int (H_rowSort c), .int (H_rowSize c)]))]
def woT (t : Nat → ClassId) (a : Nat → Nat) (c : TSt) : va_W := [(a 0, .inr (4, [.ref (a 1), .int (T_size c), .int (T_sort c), .int (T_start c), .int (T_end c)])), (a 1, .inl (t 0, 200, .inl (T_bytes c)))]
def woM (t : Nat → ClassId) (a : Nat → Nat) (c : MSt) : va_W := [(a 0, .inr (6, [.ref (a 1), .ref (a 2), .ref (a 3), .int (M_isKept c), .int (M_still c), .ref (a 4), .int (M_taped c), .int (M_at c), .int (M_begun c), .int (M_token c), .int (M_value c), .ref (a 5), .int (M_told c), .ref (a 6), .int (M_rows c), .ref (a 7), .ref (a 8), .ref (a 9), .ref (a 10), .ref (a 11), .ref (a 12), .ref (a 13), .int (M_traceMany c), .int (M_who c), .int (M_isParted c)])), (a 1, .inl (t 2, 67, .inl (M_d c))), (a 2, .inl (t 2, 67, .inl (M_aside c))), (a 3, .inl (t 2, 67, .inl (M_kept c))), (a 4, .inl (t 2, 200, .inl (M_tape c))), (a 5, .inl (t 1, 128, .inl (M_words c))), (a 6, .inl (t 2, 30, .inl (M_row c))), (a 7, .inl (t 2, 4, .inl (M_sortOf c))), (a 8, .inl (t 2, 4, .inl (M_sizeOf c))), (a 9, .inl (t 3, 160, .inr (.inl (M_item c)))), (a 10, .inl (t 2, 4, .inl (M_shelfHas c))), (a 11, .inl (t 2, 4, .inl (M_shelfWhich c))), (a 12, .inl (t 2, 4, .inl (M_shelfSize c))), (a 13, .inl (t 2, 30, .inl (M_traced c)))]
def sh_at (a : Nat → Nat) (p q : Nat) : Nat → Nat := fun i => a (p + q * i)
/-- X's world: itself; now, tried, kept; the tape; rows; the row of sheets, the sheets; the row of shelves, the shelves; acts -/
def woX (t : Nat → ClassId) (a : Nat → Nat) (x : XSt) : va_W := [(a 0, .inr (5, [.ref (a 1), .ref (a 10), .ref (a 19), .int (X_isKept x), .ref (a 28), .ref (a 30), .int (X_rowCount x), .ref (a 31), .ref (a 40), .ref (a 45)])), (a 1, .inr (1, [.ref (a 2), .ref (a 3), .ref (a 4), .ref (a 5), .ref (a 6), .ref (a 7), .ref (a 8), .ref (a 9), .int (C_count (X_now x)), .int (C_hour (X_now x)), .int (C_z (X_now x)), .int (C_heldBack (X_now x))])), (a 2, .inl (t 2, 4, .inl (C_laws (X_now x)))), (a 3, .inl (t 2, 10, .inl (C_noise (X_now x)))), (a 4, .inl (t 2, 10, .inl (C_lost (X_now x)))), (a 5, .inl (t 2, 8, .inl (C_kind (X_now x)))), (a 6, .inl (t 2, 8, .inl (C_load (X_now x)))), (a 7, .inl (t 2, 8, .inl (C_sort (X_now x)))), (a 8, .inl (t 2, 8, .inl (C_at (X_now x)))), (a 9, .inl (t 2, 8, .inl (C_bound (X_now x)))), (a 10, .inr (1, [.ref (a 11), .ref (a 12), .ref (a 13), .ref (a 14), .ref (a 15), .ref (a 16), .ref (a 17), .ref (a 18), .int (C_count (X_tried x)), .int (C_hour (X_tried x)), .int (C_z (X_tried x)), .int (C_heldBack (X_tried x))])), (a 11, .inl (t 2, 4, .inl (C_laws (X_tried x)))), (a 12, .inl (t 2, 10, .inl (C_noise (X_tried x)))), (a 13, .inl (t 2, 10, .inl (C_lost (X_tried x)))), (a 14, .inl (t 2, 8, .inl (C_kind (X_tried x)))), (a 15, .inl (t 2, 8, .inl (C_load (X_tried x)))), (a 16, .inl (t 2, 8, .inl (C_sort (X_tried x)))), (a 17, .inl (t 2, 8, .inl (C_at (X_tried x)))), (a 18, .inl (t 2, 8, .inl (C_bound (X_tried x)))), (a 19, .inr (1, [.ref (a 20), .ref (a 21), .ref (a 22), .ref (a 23), .ref (a 24), .ref (a 25), .ref (a 26), .ref (a 27), .int (C_count (X_kept x)), .int (C_hour (X_kept x)), .int (C_z (X_kept x)), .int (C_heldBack (X_kept x))])), (a 20, .inl (t 2, 4, .inl (C_laws (X_kept x)))), (a 21, .inl (t 2, 10, .inl (C_noise (X_kept x)))), (a 22, .inl (t 2, 10, .inl (C_lost (X_kept x)))), (a 23, .inl (t 2, 8, .inl (C_kind (X_kept x)))), (a 24, .inl (t 2, 8, .inl (C_load (X_kept x)))), (a 25, .inl (t 2, 8, .inl (C_sort (X_kept x)))), (a 26, .inl (t 2, 8, .inl (C_at (X_kept x)))), (a 27, .inl (t 2, 8, .inl (C_bound (X_kept x)))), (a 28, .inr (4, [.ref (a 29), .int (T_size (X_tape x)), .int (T_sort (X_tape x)), .int (T_start (X_tape x)), .int (T_end (X_tape x))])), (a 29, .inl (t 0, 200, .inl (T_bytes (X_tape x)))), (a 30, .inl (t 2, 30, .inl (X_rows x))), (a 31, .inl (t 4, 4, .inr (.inr (.inr (.inr (fun k => some (a (32 + 2 * k)))))))), (a 32, .inr (2, [.ref (a 33), .int (S_sort (X_sheets x 0)), .int (S_size (X_sheets x 0))])), (a 33, .inl (t 2, 40, .inl (S_items (X_sheets x 0)))), (a 34, .inr (2, [.ref (a 35), .int (S_sort (X_sheets x 1)), .int (S_size (X_sheets x 1))])), (a 35, .inl (t 2, 40, .inl (S_items (X_sheets x 1)))), (a 36, .inr (2, [.ref (a 37), .int (S_sort (X_sheets x 2)), .int (S_size (X_sheets x 2))])), (a 37, .inl (t 2, 40, .inl (S_items (X_sheets x 2)))), (a 38, .inr (2, [.ref (a 39), .int (S_sort (X_sheets x 3)), .int (S_size (X_sheets x 3))])), (a 39, .inl (t 2, 40, .inl (S_items (X_sheets x 3)))), (a 40, .inl (t 5, 4, .inr (.inr (.inr (.inr (fun k => some (a (41 + k)))))))), (a 41, .inr (3, [.int (H_what (X_shelves x 0)), .int (H_barge (X_shelves x 0)), .int (H_rowSort (X_shelves x 0)), .int (H_rowSize (X_shelves x 0))])), (a 42, .inr (3, [.int (H_what (X_shelves x 1)), .int (H_barge (X_shelves x 1)), .int (H_rowSort (X_shelves x 1)), .int (H_rowSize (X_shelves x 1))])), (a 43, .inr (3, [.int (H_what (X_shelves x 2)), .int (H_barge (X_shelves x 2)), .int (H_rowSort (X_shelves x 2)), .int (H_rowSize (X_shelves x 2))])), (a 44, .inr (3, [.int (H_what (X_shelves x 3)), .int (H_barge (X_shelves x 3)), .int (H_rowSort (X_shelves x 3)), .int (H_rowSize (X_shelves x 3))])), (a 45, .inr (0, [.ref (a 46), .int (A_traced (X_acts x)), .int (A_kind (X_acts x)), .int (A_n (X_acts x)), .int (A_a (X_acts x)), .int (A_isParted (X_acts x))])), (a 46, .inl (t 2, 30, .inl (A_bodies (X_acts x))))]
def woCC (t : Nat → ClassId) (a b : Nat → Nat) (p : CSt × CSt) : va_W := woC t a p.1 ++ woC t b p.2
def woTC (t : Nat → ClassId) (a b : Nat → Nat) (p : TSt × CSt) : va_W := woT t a p.1 ++ woC t b p.2
/-- a sheet of X, or null; a shelf of X, or null; a text -/
def rfS (a : Nat → Nat) (j : Nat) : Value := if j < 4 then .ref (a (32 + 2 * j)) else .null
def rfH (a : Nat → Nat) (j : Nat) : Value := if j < 4 then .ref (a (41 + j)) else .null
def rfK (ev : Nat → Nat) (j : Nat) : Value := .ref (vaK ev j)
theorem g_sub {X : GX} {k z : Nat} {ws : va_W} {lv lv' : List (Nat × Value)} {st : List Value} {pc : Nat} (js : List Nat) (hl : lv_pick lv js = lv') (h : G X k z ws lv' st pc) : G X k z ws lv st pc := fun H locs ls hP hD hS hv => h H locs ls hP hD hS (lv_sub hv js hl)
theorem k_I0 {X : GX} {k z : Nat} {ws : va_W} {lv : List (Nat × Value)} {st rest : List Value} {pc : Nat} {post : Int32 → Prop} (co : CO X k z 0 0 ws [] lv st rest pc (qI (fun _ : Unit => []) (fun v _ => post v))) (h : ∀ v, post v → G X k z ws lv (.int v :: rest) (pc + 3)) : G X k z ws lv st pc := k_I co (fun _ => ws) (fun _ => rfl) (fun v _ hq => h v hq)
theorem k_L0 {X : GX} {k z : Nat} {ws : va_W} {lv : List (Nat × Value)} {st rest : List Value} {pc : Nat} {post : Int64 → Prop} (co : CO X k z 0 0 ws [] lv st rest pc (qL (fun _ : Unit => []) (fun v _ => post v))) (h : ∀ v, post v → G X k z ws lv (.long v :: rest) (pc + 3)) : G X k z ws lv st pc := k_L co (fun _ => ws) (fun _ => rfl) (fun v _ hq => h v hq)
theorem k_R0 {X : GX} {k z : Nat} {ws : va_W} {lv : List (Nat × Value)} {st rest : List Value} {pc : Nat} {f : Nat → Value} {post : Nat → Prop} (co : CO X k z 0 0 ws [] lv st rest pc (qR (fun _ : Unit => []) f (fun v _ => post v))) (h : ∀ v, post v → G X k z ws lv (f v :: rest) (pc + 3)) : G X k z ws lv st pc := k_R co (fun _ => ws) (fun _ => rfl) (fun v _ hq => h v hq)
theorem sw_ne {x k : Int32} {v : Int} (h : ¬ x = k) (hv : k.toInt = v) : x.toInt ≠ v := fun e => h (Int32.toInt_inj.mp (by rw [e, hv]))
end
section
section GMORE
variable {X : GX} {cc : ByteArray} {own : String} {n : Nat} {R : Room} {k z : Nat} {ws ws' : va_W} {lv lv' : List (Nat × Value)} {st st' : List Value} {pc tgt : Nat} {off : Int}
theorem g_re (h1 : lv = lv') (h2 : st = st') (h : G X k z ws lv' st' pc) : G X k z ws lv st pc := h1 ▸ h2 ▸ h
theorem g_st (h2 : st = st') (h : G X k z ws lv st' pc) : G X k z ws lv st pc := h2 ▸ h
theorem g_topi {x : Int32} (h : ∀ y : Int32, y = x → G X k z ws lv (.int y :: st) pc) : G X k z ws lv (.int x :: st) pc := h x rfl
theorem g_topl {x : Int64} (h : ∀ y : Int64, y = x → G X k z ws lv (.long y :: st) pc) : G X k z ws lv (.long x :: st) pc := h x rfl
theorem rm_s (e : Nat) {L : Nat} (h : L ≤ 21) : (rmd e).frames + 1 ≤ (rmd (e + 1)).frames ∧ 8 + (L + 11) + (rmd e).locals ≤ (rmd (e + 1)).locals := by simp only [rmd]; omega
theorem rm_o {v e L : Nat} (hv : v ≤ e) (h : L ≤ 21) : (rmd v).frames + 1 ≤ (rmd (e + 1)).frames ∧ 8 + (L + 11) + (rmd v).locals ≤ (rmd (e + 1)).locals := by simp only [rmd]; omega
theorem q4 {j : Nat} (h : j < 4) : j = 0 ∨ j = 1 ∨ j = 2 ∨ j = 3 := by omega
theorem vp_lt {i : Int32} {N : Nat} (h : vp_in i N) : i.toNatClampNeg < N := Nat.lt_of_not_le (fun h1 => h (Or.inr h1))
theorem rfS_or (a : Nat → Nat) (j : Nat) : rfS a j = .null ∨ ∃ b, rfS a j = .ref b := by unfold rfS; split <;> simp
theorem rfH_or (a : Nat → Nat) (j : Nat) : rfH a j = .null ∨ ∃ b, rfH a j = .ref b := by unfold rfH; split <;> simp
theorem g_ldcS (C : GC X cc own n R) {i : Nat} (d : decode cc pc = .ok (.ldc i, 2)) (j : Nat) (hj : (txAt[j]?).map Prod.fst = some i) (ho : own = "SilenceCanal$Text" := by rfl) (h : G X k z ws lv (.ref (vaK (xv X) j) :: st) (pc + 2)) : G X k z ws lv st pc := by
  intro H locs ls hP hD hS hl
  cases hq : txAt[j]? with
  | none => rw [hq] at hj; cases hj
  | some q =>
    rw [hq] at hj
    have e : q.1 = i := Option.some.inj hj
    subst e
    subst ho
    exact va_ldcS C.1 C.2.1 C.2.2.2.1 (C.2.2.2.2.2.2.2.1.2.2.2.2.2.2.2.1 j q hq) d (h H locs ls hP hD hS hl)
theorem tw_math : Cond.initialized "java/lang/Math" ∈ TB ∧ Cond.static Lib.Math.min.name ∈ TB ∧ Cond.code Lib.Math.min.name Lib.Math.min.code 2 (some .int) ∈ TB ∧ Cond.static Lib.Math.max.name ∈ TB ∧ Cond.code Lib.Math.max.name Lib.Math.max.code 2 (some .int) ∈ TB := ⟨tb_w 14 (by decide +kernel) (by decide +kernel), tb_w 484 (by decide +kernel) (by decide +kernel), tb_w 485 (by decide +kernel) (by decide +kernel), tb_w 587 (by decide +kernel) (by decide +kernel), tb_w 588 (by decide +kernel) (by decide +kernel)⟩
theorem tw_copy : Cond.native arraycopyName ∈ TB ∧ Cond.static arraycopyName ∈ TB ∧ Cond.initialized "java/lang/System" ∈ TB := ⟨tb_w 34 (by decide +kernel) (by decide +kernel), tb_w 33 (by decide +kernel) (by decide +kernel), tb_w 3 (by decide +kernel) (by decide +kernel)⟩
theorem g_mmin (C : GC X cc own n R) {i : Nat} {x y : Int32} (hlk : Cond.methodLink own i Lib.Math.min.name ∈ TB) (hR : 1 ≤ R.frames ∧ 21 ≤ R.locals) (d : decode cc pc = .ok (.invokestatic i, 3)) (hr : (st.map fun v => v.category).sum ≤ 8) (hc : k ≤ R.cells ∧ z ≤ R.slots) (h : G X k z ws lv (.int (if y < x then y else x) :: st) (pc + 3)) : G X k z ws lv (.int y :: .int x :: st) pc := by
  intro H locs ls hP hD hS hl
  have eR := C.2.2.2.2.2.2.2.2.2.2
  exact va_mmin C.1 C.2.1 (C.2.2.1.trans hl.1.symm) C.2.2.2.1 (C.2.2.2.2.1 _ hlk) (C.2.2.2.2.1 _ tw_math.2.1) (C.2.2.2.2.1 _ tw_math.1) (C.2.2.2.2.1 _ tw_math.2.2.1) (by rw [eR]; exact hR.1) (by rw [eR]; omega) (by rw [eR]; exact hc.1) (by rw [eR]; exact hc.2) d (h H locs ls hP hD hS hl)
theorem g_mmax (C : GC X cc own n R) {i : Nat} {x y : Int32} (hlk : Cond.methodLink own i Lib.Math.max.name ∈ TB) (hR : 1 ≤ R.frames ∧ 21 ≤ R.locals) (d : decode cc pc = .ok (.invokestatic i, 3)) (hr : (st.map fun v => v.category).sum ≤ 8) (hc : k ≤ R.cells ∧ z ≤ R.slots) (h : G X k z ws lv (.int (if x < y then y else x) :: st) (pc + 3)) : G X k z ws lv (.int y :: .int x :: st) pc := by
  intro H locs ls hP hD hS hl
  have eR := C.2.2.2.2.2.2.2.2.2.2
  exact va_mmax C.1 C.2.1 (C.2.2.1.trans hl.1.symm) C.2.2.2.1 (C.2.2.2.2.1 _ hlk) (C.2.2.2.2.1 _ tw_math.2.2.2.1) (C.2.2.2.2.1 _ tw_math.1) (C.2.2.2.2.1 _ tw_math.2.2.2.2) (by rw [eR]; exact hR.1) (by rw [eR]; omega) (by rw [eR]; exact hc.1) (by rw [eR]; exact hc.2) d (h H locs ls hP hD hS hl)
theorem g_copyi (C : GC X cc own n R) (q0 q1 : Nat) {a0 a1 n0 n1 i : Nat} {f g : Nat → Int32} {sp dp m : Int32} {s0 d0 m0 : Nat} (hlk : Cond.methodLink own i arraycopyName ∈ TB) (d : decode cc pc = .ok (.invokestatic i, 3)) (ha0 : ws[q0]? = some (a0, .inl (xt X 2, n0, .inl f))) (ha1 : ws[q1]? = some (a1, .inl (xt X 2, n1, .inl g)))
    (hc : ¬ sp < 0 ∧ ¬ dp < 0 ∧ ¬ m < 0 ∧ sp.toNatClampNeg = s0 ∧ dp.toNatClampNeg = d0 ∧ m.toNatClampNeg = m0) (hb : s0 + m0 ≤ n0 ∧ d0 + m0 ≤ n1) (hR : 1 ≤ R.frames ∧ 40 ≤ R.locals) (hst : (st.map fun v => v.category).sum ≤ 8) (hw : ws.set q1 (a1, .inl (xt X 2, n1, .inl (va_cpy f g s0 d0 m0))) = ws') (h : G X k z ws' lv st (pc + 3)) : G X k z ws lv (.int m :: .int dp :: .ref a1 :: .int sp :: .ref a0 :: st) pc := by
  intro H locs ls hP hD hS hl
  obtain ⟨h1, h2, h3, rfl, rfl, rfl⟩ := hc
  have eR := C.2.2.2.2.2.2.2.2.2.2
  have hnf : nativeFrameWords "java/lang/System" "arraycopy" 5 + 11 ≤ 32 := by decide
  exact va_copyi C.1 C.2.1 (C.2.2.1.trans hl.1.symm) C.2.2.2.1 (C.2.2.2.2.1 _ hlk) (C.2.2.2.2.1 _ tw_copy.1) (C.2.2.2.2.1 _ tw_copy.2.1) (C.2.2.2.2.1 _ tw_copy.2.2) C.2.2.2.2.2.1 hP hD hS q0 q1 2 2 ha0 ha1 rfl rfl rfl h1 h2 h3 hb.1 hb.2 (fun _ _ => rfl) (by rw [eR]; exact hR.1) (by rw [eR]; omega) d (fun H1 locs1 p1 d1 s1 => h H1 locs1 ls (hw ▸ p1) (hw ▸ d1) s1 hl)

/-- System.arraycopy out of a static row of ints -/
theorem g_copyt (C : GC X cc own n R) {f : String} {a0 n0 : Nat} {ys : List Int32} (he : E_st f a0 n0 ys (xA X) (xs X) (xs X).heap) (q1 : Nat) {a1 n1 i : Nat} {g : Nat → Int32} {sp dp m : Int32} {s0 d0 m0 : Nat} (hlk : Cond.methodLink own i arraycopyName ∈ TB) (d : decode cc pc = .ok (.invokestatic i, 3)) (ha1 : ws[q1]? = some (a1, .inl (xt X 2, n1, .inl g)))
    (hc : ¬ sp < 0 ∧ ¬ dp < 0 ∧ ¬ m < 0 ∧ sp.toNatClampNeg = s0 ∧ dp.toNatClampNeg = d0 ∧ m.toNatClampNeg = m0) (hbd : s0 + m0 ≤ n0 ∧ d0 + m0 ≤ n1) (hR : 1 ≤ R.frames ∧ 40 ≤ R.locals) (hst : (st.map fun v => v.category).sum ≤ 8) (hw : ws.set q1 (a1, .inl (xt X 2, n1, .inl (va_cpy (fun j => ys.getD j 0) g s0 d0 m0))) = ws') (h : G X k z ws' lv st (pc + 3)) : G X k z ws lv (.int m :: .int dp :: .ref a1 :: .int sp :: .ref a0 :: st) pc := by
  intro H locs ls hP hD hS hl T hT S
  obtain ⟨h1, h2, h3, rfl, rfl, rfl⟩ := hc
  have eR := C.2.2.2.2.2.2.2.2.2.2
  have hnf : nativeFrameWords "java/lang/System" "arraycopy" 5 + 11 ≤ 32 := by decide
  have nn : ∀ x : Int32, ¬ x < 0 → x.toInt = (x.toNatClampNeg : Int) := fun x hx => by
    have h0 : 0 ≤ x.toInt := by
      rcases Int.lt_or_le x.toInt 0 with u | u
      · exact absurd (Int32.lt_iff_toInt_lt.mpr (by simpa using u)) hx
      · exact u
    show x.toInt = (x.toInt.toNat : Int)
    omega
  obtain ⟨-, src, e1, ⟨e2, c0, k0, m0, o0⟩, e3, e4, -, e5, e6⟩ := he
  have g0 : H[a0]? = some src := by rw [hS.2.1 a0 (Array.getElem?_eq_some_iff.mp e1).1 e6]; exact e1
  have g1 : H[a1]? = some (vp_cell (xt X 2) (n1, .inl g)) := hP q1 _ ha1
  obtain ⟨-, c1, k1, m1, o1⟩ := (C.2.2.2.2.2.1.2 2 _ rfl).1 n1 (fun j => .int (g j))
  obtain ⟨vm', S', step⟩ := S.arraycopy C.1 C.2.2.2.1 (C.2.2.2.2.1 _ hlk) (C.2.2.2.2.1 _ tw_copy.1) (C.2.2.2.2.1 _ tw_copy.2.1) (C.2.2.2.2.1 _ tw_copy.2.2) (src := a0) (dst := a1) (cs := src) (cd := vp_cell (xt X 2) (n1, .inl g)) (srcPos := sp) (destPos := dp) (n := m) (by rw [hT]; exact g0) (by rw [hT]; exact g1)
    e2 (fun _ h => by cases h) e3 (fun h => by cases h) k0 k1 o0 o1 (by simp [refKind]) h1 h2 h3
    (by rw [nn sp h1, nn m h3]; have := hbd.1; omega)
    (by rw [nn dp h2, nn m h3]; show ¬ _ > ((arrV (xt X 2) n1 (fun j => .int (g j))).slots.size : Int); rw [arrV_size]; have := hbd.2; omega)
    (fun vm₁ _ w hw => by
      have ew : src.slots.getD (sp.toNatClampNeg + w) .null = .int (ys.getD (sp.toNatClampNeg + w) 0) := by
        rw [Array.getD_eq_getD_getElem?, e5 _ (by have := hbd.1; omega)]
        rfl
      rw [ew]
      exact ⟨rfl, trivial⟩)
    (g := F0 (xm X) pc ls (.int m :: .int dp :: .ref a1 :: .int sp :: .ref a0 :: st)) rfl (by show ls.size = _; rw [hl.1]; exact C.2.2.1.symm) (rest := st) rfl (by rw [C.2.1]; exact d) (by rw [eR]; exact hR.1) (by rw [eR]; show 2 * 0 + _ + _ ≤ _; omega)
  have ec : copied src (vp_cell (xt X 2) (n1, .inl g)) sp dp m = vp_cell (xt X 2) (n1, .inl (va_cpy (fun j => ys.getD j 0) g sp.toNatClampNeg dp.toNatClampNeg m.toNatClampNeg)) := va_copiedX (fun w => .int w) src (xt X 2) (fun j => ys.getD j 0) g e5 hbd.1
  rw [ec] at S' step
  generalize hnew : vp_cell (xt X 2) (n1, .inl (va_cpy (fun j => ys.getD j 0) g sp.toNatClampNeg dp.toNatClampNeg m.toNatClampNeg)) = cell at S' step
  have hlt : a1 < H.size := (Array.getElem?_eq_some_iff.mp g1).1
  have hheap : ((T.setVm vm').setCell a1 cell).heap = H.setIfInBounds a1 cell := by rw [← hT]; rfl
  have oq : ∀ q : Nat, q ≠ a1 → (H.setIfInBounds a1 cell)[q]? = H[q]? := fun q hq => by simp [Array.getElem?_setIfInBounds, Ne.symm hq]
  have nq : (H.setIfInBounds a1 cell)[a1]? = some cell := by simp [Array.getElem?_setIfInBounds, hlt]
  have np := hP.set hD ha1 (e := .inl (xt X 2, n1, .inl (va_cpy (fun j => ys.getD j 0) g sp.toNatClampNeg dp.toNatClampNeg m.toNatClampNeg))) (show (H.setIfInBounds a1 cell)[a1]? = some _ by rw [nq, ← hnew]) oq
  obtain ⟨t, r1, r2⟩ := h _ _ ls (hw ▸ np) (hw ▸ hD.set ha1) ⟨by simp; exact hS.1, fun q u1 u2 => by
      rw [oq q (fun e => u2 (by rw [e]; exact hD.2 q1 _ ha1))]
      exact hS.2.1 q u1 u2, fun q hq => by
      rcases List.mem_append.mp hq with u | u
      · exact hS.2.2 q u
      · obtain ⟨w, -, hw2⟩ := List.mem_map.mp u
        rw [← hw2]
        exact hD.2 q1 _ ha1⟩ hl _ hheap S'
  exact ⟨t, step t r1, r2⟩
end GMORE
end
section
section GW
variable {X : GX} {cc : ByteArray} {own : String} {n : Nat} {R : Room} {k z : Nat} {lv : List (Nat × Value)} {st : List Value} {pc : Nat} {a b : Nat → Nat} {i N0 : Nat} {j v w : Int32}
theorem fA_bodies (C : GC X cc own n R) {s : ASt} (hlk : Cond.fieldLink own i R_A (F_A 0).2.1 (F_A 0).2.2.1 ∈ TB) (d : decode cc pc = .ok (.getfield i, 3)) (h : G X k z (woA (xt X) a s) lv (.ref (a 1) :: st) (pc + 3)) : G X k z (woA (xt X) a s) lv (.ref (a 0) :: st) pc := g_getf C i_A (ci := 0) rfl 0 0 (v := .ref (a 1)) (Nat.le_of_ble_eq_true rfl) hlk rfl d rfl rfl h
theorem lA_bodies (C : GC X cc own n R) {s : ASt} {f : Nat → Int32} (d : decode cc pc = .ok (.iaload, 1)) (e : A_bodies (s) = f) (hN : j.toNatClampNeg = N0) (hin : vp_in j 30) (h : G X k z (woA (xt X) a s) lv (.int (f N0) :: st) (pc + 1)) : G X k z (woA (xt X) a s) lv (.int j :: .ref (a 1) :: st) pc := by subst e; subst hN; exact g_iaload C 1 d rfl hin h
theorem sA_bodies (C : GC X cc own n R) {s : ASt}   {f : Nat → Int32} (d : decode cc pc = .ok (.iastore, 1)) (e : A_bodies (s) = f) (hN : j.toNatClampNeg = N0) (hin : vp_in j 30) (h : G X k z (woA (xt X) a (A_bodies_ s (upd f N0 w))) lv st (pc + 1)) : G X k z (woA (xt X) a s) lv (.int w :: .int j :: .ref (a 1) :: st) pc := by subst e; subst hN; exact g_iastore C 1 d rfl hin rfl h
theorem fA_traced (C : GC X cc own n R) {s : ASt} (hlk : Cond.fieldLink own i R_A (F_A 1).2.1 (F_A 1).2.2.1 ∈ TB) (d : decode cc pc = .ok (.getfield i, 3)) (e : A_traced (s) = v) (h : G X k z (woA (xt X) a s) lv (.int v :: st) (pc + 3)) : G X k z (woA (xt X) a s) lv (.ref (a 0) :: st) pc := g_getf C i_A (ci := 0) rfl 0 1 (v := .int v) (Nat.le_of_ble_eq_true rfl) hlk rfl d rfl (by subst e; rfl) h
theorem pA_traced (C : GC X cc own n R) {s : ASt}  (hlk : Cond.fieldLink own i R_A (F_A 1).2.1 (F_A 1).2.2.1 ∈ TB) (d : decode cc pc = .ok (.putfield i, 3))  (h : G X k z (woA (xt X) a (A_traced_ s v)) lv st (pc + 3)) : G X k z (woA (xt X) a s) lv (.int v :: .ref (a 0) :: st) pc := by exact g_putf C i_A (ci := 0) rfl ty_A ty_A_ok n_A 0 1 (Nat.le_of_ble_eq_true rfl) hlk rfl rfl d rfl rfl rfl (Nat.le_of_ble_eq_true rfl) rfl h
theorem fA_kind (C : GC X cc own n R) {s : ASt} (hlk : Cond.fieldLink own i R_A (F_A 2).2.1 (F_A 2).2.2.1 ∈ TB) (d : decode cc pc = .ok (.getfield i, 3)) (e : A_kind (s) = v) (h : G X k z (woA (xt X) a s) lv (.int v :: st) (pc + 3)) : G X k z (woA (xt X) a s) lv (.ref (a 0) :: st) pc := g_getf C i_A (ci := 0) rfl 0 2 (v := .int v) (Nat.le_of_ble_eq_true rfl) hlk rfl d rfl (by subst e; rfl) h
theorem pA_kind (C : GC X cc own n R) {s : ASt}  (hlk : Cond.fieldLink own i R_A (F_A 2).2.1 (F_A 2).2.2.1 ∈ TB) (d : decode cc pc = .ok (.putfield i, 3))  (h : G X k z (woA (xt X) a (A_kind_ s v)) lv st (pc + 3)) : G X k z (woA (xt X) a s) lv (.int v :: .ref (a 0) :: st) pc := by exact g_putf C i_A (ci := 0) rfl ty_A ty_A_ok n_A 0 2 (Nat.le_of_ble_eq_true rfl) hlk rfl rfl d rfl rfl rfl (Nat.le_of_ble_eq_true rfl) rfl h
theorem fA_n (C : GC X cc own n R) {s : ASt} (hlk : Cond.fieldLink own i R_A (F_A 3).2.1 (F_A 3).2.2.1 ∈ TB) (d : decode cc pc = .ok (.getfield i, 3)) (e : A_n (s) = v) (h : G X k z (woA (xt X) a s) lv (.int v :: st) (pc + 3)) : G X k z (woA (xt X) a s) lv (.ref (a 0) :: st) pc := g_getf C i_A (ci := 0) rfl 0 3 (v := .int v) (Nat.le_of_ble_eq_true rfl) hlk rfl d rfl (by subst e; rfl) h
theorem pA_n (C : GC X cc own n R) {s : ASt}  (hlk : Cond.fieldLink own i R_A (F_A 3).2.1 (F_A 3).2.2.1 ∈ TB) (d : decode cc pc = .ok (.putfield i, 3))  (h : G X k z (woA (xt X) a (A_n_ s v)) lv st (pc + 3)) : G X k z (woA (xt X) a s) lv (.int v :: .ref (a 0) :: st) pc := by exact g_putf C i_A (ci := 0) rfl ty_A ty_A_ok n_A 0 3 (Nat.le_of_ble_eq_true rfl) hlk rfl rfl d rfl rfl rfl (Nat.le_of_ble_eq_true rfl) rfl h
theorem fA_a (C : GC X cc own n R) {s : ASt} (hlk : Cond.fieldLink own i R_A (F_A 4).2.1 (F_A 4).2.2.1 ∈ TB) (d : decode cc pc = .ok (.getfield i, 3)) (e : A_a (s) = v) (h : G X k z (woA (xt X) a s) lv (.int v :: st) (pc + 3)) : G X k z (woA (xt X) a s) lv (.ref (a 0) :: st) pc := g_getf C i_A (ci := 0) rfl 0 4 (v := .int v) (Nat.le_of_ble_eq_true rfl) hlk rfl d rfl (by subst e; rfl) h
theorem pA_a (C : GC X cc own n R) {s : ASt}  (hlk : Cond.fieldLink own i R_A (F_A 4).2.1 (F_A 4).2.2.1 ∈ TB) (d : decode cc pc = .ok (.putfield i, 3))  (h : G X k z (woA (xt X) a (A_a_ s v)) lv st (pc + 3)) : G X k z (woA (xt X) a s) lv (.int v :: .ref (a 0) :: st) pc := by exact g_putf C i_A (ci := 0) rfl ty_A ty_A_ok n_A 0 4 (Nat.le_of_ble_eq_true rfl) hlk rfl rfl d rfl rfl rfl (Nat.le_of_ble_eq_true rfl) rfl h
theorem fA_isParted (C : GC X cc own n R) {s : ASt} (hlk : Cond.fieldLink own i R_A (F_A 5).2.1 (F_A 5).2.2.1 ∈ TB) (d : decode cc pc = .ok (.getfield i, 3)) (e : A_isParted (s) = v) (h : G X k z (woA (xt X) a s) lv (.int v :: st) (pc + 3)) : G X k z (woA (xt X) a s) lv (.ref (a 0) :: st) pc := g_getf C i_A (ci := 0) rfl 0 5 (v := .int v) (Nat.le_of_ble_eq_true rfl) hlk rfl d rfl (by subst e; rfl) h
theorem pA_isParted (C : GC X cc own n R) {s : ASt}  (hlk : Cond.fieldLink own i R_A (F_A 5).2.1 (F_A 5).2.2.1 ∈ TB) (d : decode cc pc = .ok (.putfield i, 3)) (hn : narrow .boolean (.int v) = .int v) (hf : fits .boolean (.int v) = true) (h : G X k z (woA (xt X) a (A_isParted_ s v)) lv st (pc + 3)) : G X k z (woA (xt X) a s) lv (.int v :: .ref (a 0) :: st) pc := by exact g_putf C i_A (ci := 0) rfl ty_A ty_A_ok n_A 0 5 (Nat.le_of_ble_eq_true rfl) hlk rfl rfl d rfl hn hf (Nat.le_of_ble_eq_true rfl) rfl h
theorem fC_laws (C : GC X cc own n R) {s : CSt} (hlk : Cond.fieldLink own i R_C (F_C 0).2.1 (F_C 0).2.2.1 ∈ TB) (d : decode cc pc = .ok (.getfield i, 3)) (h : G X k z (woC (xt X) a s) lv (.ref (a 1) :: st) (pc + 3)) : G X k z (woC (xt X) a s) lv (.ref (a 0) :: st) pc := g_getf C i_C (ci := 1) rfl 0 0 (v := .ref (a 1)) (Nat.le_of_ble_eq_true rfl) hlk rfl d rfl rfl h
theorem lC_laws (C : GC X cc own n R) {s : CSt} {f : Nat → Int32} (d : decode cc pc = .ok (.iaload, 1)) (e : C_laws (s) = f) (hN : j.toNatClampNeg = N0) (hin : vp_in j 4) (h : G X k z (woC (xt X) a s) lv (.int (f N0) :: st) (pc + 1)) : G X k z (woC (xt X) a s) lv (.int j :: .ref (a 1) :: st) pc := by subst e; subst hN; exact g_iaload C 1 d rfl hin h
theorem sC_laws (C : GC X cc own n R) {s : CSt}   {f : Nat → Int32} (d : decode cc pc = .ok (.iastore, 1)) (e : C_laws (s) = f) (hN : j.toNatClampNeg = N0) (hin : vp_in j 4) (h : G X k z (woC (xt X) a (C_laws_ s (upd f N0 w))) lv st (pc + 1)) : G X k z (woC (xt X) a s) lv (.int w :: .int j :: .ref (a 1) :: st) pc := by subst e; subst hN; exact g_iastore C 1 d rfl hin rfl h
theorem fC_noise (C : GC X cc own n R) {s : CSt} (hlk : Cond.fieldLink own i R_C (F_C 1).2.1 (F_C 1).2.2.1 ∈ TB) (d : decode cc pc = .ok (.getfield i, 3)) (h : G X k z (woC (xt X) a s) lv (.ref (a 2) :: st) (pc + 3)) : G X k z (woC (xt X) a s) lv (.ref (a 0) :: st) pc := g_getf C i_C (ci := 1) rfl 0 1 (v := .ref (a 2)) (Nat.le_of_ble_eq_true rfl) hlk rfl d rfl rfl h
theorem lC_noise (C : GC X cc own n R) {s : CSt} {f : Nat → Int32} (d : decode cc pc = .ok (.iaload, 1)) (e : C_noise (s) = f) (hN : j.toNatClampNeg = N0) (hin : vp_in j 10) (h : G X k z (woC (xt X) a s) lv (.int (f N0) :: st) (pc + 1)) : G X k z (woC (xt X) a s) lv (.int j :: .ref (a 2) :: st) pc := by subst e; subst hN; exact g_iaload C 2 d rfl hin h
theorem sC_noise (C : GC X cc own n R) {s : CSt}   {f : Nat → Int32} (d : decode cc pc = .ok (.iastore, 1)) (e : C_noise (s) = f) (hN : j.toNatClampNeg = N0) (hin : vp_in j 10) (h : G X k z (woC (xt X) a (C_noise_ s (upd f N0 w))) lv st (pc + 1)) : G X k z (woC (xt X) a s) lv (.int w :: .int j :: .ref (a 2) :: st) pc := by subst e; subst hN; exact g_iastore C 2 d rfl hin rfl h
theorem fC_lost (C : GC X cc own n R) {s : CSt} (hlk : Cond.fieldLink own i R_C (F_C 2).2.1 (F_C 2).2.2.1 ∈ TB) (d : decode cc pc = .ok (.getfield i, 3)) (h : G X k z (woC (xt X) a s) lv (.ref (a 3) :: st) (pc + 3)) : G X k z (woC (xt X) a s) lv (.ref (a 0) :: st) pc := g_getf C i_C (ci := 1) rfl 0 2 (v := .ref (a 3)) (Nat.le_of_ble_eq_true rfl) hlk rfl d rfl rfl h
theorem lC_lost (C : GC X cc own n R) {s : CSt} {f : Nat → Int32} (d : decode cc pc = .ok (.iaload, 1)) (e : C_lost (s) = f) (hN : j.toNatClampNeg = N0) (hin : vp_in j 10) (h : G X k z (woC (xt X) a s) lv (.int (f N0) :: st) (pc + 1)) : G X k z (woC (xt X) a s) lv (.int j :: .ref (a 3) :: st) pc := by subst e; subst hN; exact g_iaload C 3 d rfl hin h
theorem sC_lost (C : GC X cc own n R) {s : CSt}   {f : Nat → Int32} (d : decode cc pc = .ok (.iastore, 1)) (e : C_lost (s) = f) (hN : j.toNatClampNeg = N0) (hin : vp_in j 10) (h : G X k z (woC (xt X) a (C_lost_ s (upd f N0 w))) lv st (pc + 1)) : G X k z (woC (xt X) a s) lv (.int w :: .int j :: .ref (a 3) :: st) pc := by subst e; subst hN; exact g_iastore C 3 d rfl hin rfl h
theorem fC_kind (C : GC X cc own n R) {s : CSt} (hlk : Cond.fieldLink own i R_C (F_C 3).2.1 (F_C 3).2.2.1 ∈ TB) (d : decode cc pc = .ok (.getfield i, 3)) (h : G X k z (woC (xt X) a s) lv (.ref (a 4) :: st) (pc + 3)) : G X k z (woC (xt X) a s) lv (.ref (a 0) :: st) pc := g_getf C i_C (ci := 1) rfl 0 3 (v := .ref (a 4)) (Nat.le_of_ble_eq_true rfl) hlk rfl d rfl rfl h
theorem lC_kind (C : GC X cc own n R) {s : CSt} {f : Nat → Int32} (d : decode cc pc = .ok (.iaload, 1)) (e : C_kind (s) = f) (hN : j.toNatClampNeg = N0) (hin : vp_in j 8) (h : G X k z (woC (xt X) a s) lv (.int (f N0) :: st) (pc + 1)) : G X k z (woC (xt X) a s) lv (.int j :: .ref (a 4) :: st) pc := by subst e; subst hN; exact g_iaload C 4 d rfl hin h
theorem sC_kind (C : GC X cc own n R) {s : CSt}   {f : Nat → Int32} (d : decode cc pc = .ok (.iastore, 1)) (e : C_kind (s) = f) (hN : j.toNatClampNeg = N0) (hin : vp_in j 8) (h : G X k z (woC (xt X) a (C_kind_ s (upd f N0 w))) lv st (pc + 1)) : G X k z (woC (xt X) a s) lv (.int w :: .int j :: .ref (a 4) :: st) pc := by subst e; subst hN; exact g_iastore C 4 d rfl hin rfl h
theorem fC_load (C : GC X cc own n R) {s : CSt} (hlk : Cond.fieldLink own i R_C (F_C 4).2.1 (F_C 4).2.2.1 ∈ TB) (d : decode cc pc = .ok (.getfield i, 3)) (h : G X k z (woC (xt X) a s) lv (.ref (a 5) :: st) (pc + 3)) : G X k z (woC (xt X) a s) lv (.ref (a 0) :: st) pc := g_getf C i_C (ci := 1) rfl 0 4 (v := .ref (a 5)) (Nat.le_of_ble_eq_true rfl) hlk rfl d rfl rfl h
theorem lC_load (C : GC X cc own n R) {s : CSt} {f : Nat → Int32} (d : decode cc pc = .ok (.iaload, 1)) (e : C_load (s) = f) (hN : j.toNatClampNeg = N0) (hin : vp_in j 8) (h : G X k z (woC (xt X) a s) lv (.int (f N0) :: st) (pc + 1)) : G X k z (woC (xt X) a s) lv (.int j :: .ref (a 5) :: st) pc := by subst e; subst hN; exact g_iaload C 5 d rfl hin h
theorem sC_load (C : GC X cc own n R) {s : CSt}   {f : Nat → Int32} (d : decode cc pc = .ok (.iastore, 1)) (e : C_load (s) = f) (hN : j.toNatClampNeg = N0) (hin : vp_in j 8) (h : G X k z (woC (xt X) a (C_load_ s (upd f N0 w))) lv st (pc + 1)) : G X k z (woC (xt X) a s) lv (.int w :: .int j :: .ref (a 5) :: st) pc := by subst e; subst hN; exact g_iastore C 5 d rfl hin rfl h
theorem fC_sort (C : GC X cc own n R) {s : CSt} (hlk : Cond.fieldLink own i R_C (F_C 5).2.1 (F_C 5).2.2.1 ∈ TB) (d : decode cc pc = .ok (.getfield i, 3)) (h : G X k z (woC (xt X) a s) lv (.ref (a 6) :: st) (pc + 3)) : G X k z (woC (xt X) a s) lv (.ref (a 0) :: st) pc := g_getf C i_C (ci := 1) rfl 0 5 (v := .ref (a 6)) (Nat.le_of_ble_eq_true rfl) hlk rfl d rfl rfl h
theorem lC_sort (C : GC X cc own n R) {s : CSt} {f : Nat → Int32} (d : decode cc pc = .ok (.iaload, 1)) (e : C_sort (s) = f) (hN : j.toNatClampNeg = N0) (hin : vp_in j 8) (h : G X k z (woC (xt X) a s) lv (.int (f N0) :: st) (pc + 1)) : G X k z (woC (xt X) a s) lv (.int j :: .ref (a 6) :: st) pc := by subst e; subst hN; exact g_iaload C 6 d rfl hin h
theorem sC_sort (C : GC X cc own n R) {s : CSt}   {f : Nat → Int32} (d : decode cc pc = .ok (.iastore, 1)) (e : C_sort (s) = f) (hN : j.toNatClampNeg = N0) (hin : vp_in j 8) (h : G X k z (woC (xt X) a (C_sort_ s (upd f N0 w))) lv st (pc + 1)) : G X k z (woC (xt X) a s) lv (.int w :: .int j :: .ref (a 6) :: st) pc := by subst e; subst hN; exact g_iastore C 6 d rfl hin rfl h
theorem fC_at (C : GC X cc own n R) {s : CSt} (hlk : Cond.fieldLink own i R_C (F_C 6).2.1 (F_C 6).2.2.1 ∈ TB) (d : decode cc pc = .ok (.getfield i, 3)) (h : G X k z (woC (xt X) a s) lv (.ref (a 7) :: st) (pc + 3)) : G X k z (woC (xt X) a s) lv (.ref (a 0) :: st) pc := g_getf C i_C (ci := 1) rfl 0 6 (v := .ref (a 7)) (Nat.le_of_ble_eq_true rfl) hlk rfl d rfl rfl h
theorem lC_at (C : GC X cc own n R) {s : CSt} {f : Nat → Int32} (d : decode cc pc = .ok (.iaload, 1)) (e : C_at (s) = f) (hN : j.toNatClampNeg = N0) (hin : vp_in j 8) (h : G X k z (woC (xt X) a s) lv (.int (f N0) :: st) (pc + 1)) : G X k z (woC (xt X) a s) lv (.int j :: .ref (a 7) :: st) pc := by subst e; subst hN; exact g_iaload C 7 d rfl hin h
theorem sC_at (C : GC X cc own n R) {s : CSt}   {f : Nat → Int32} (d : decode cc pc = .ok (.iastore, 1)) (e : C_at (s) = f) (hN : j.toNatClampNeg = N0) (hin : vp_in j 8) (h : G X k z (woC (xt X) a (C_at_ s (upd f N0 w))) lv st (pc + 1)) : G X k z (woC (xt X) a s) lv (.int w :: .int j :: .ref (a 7) :: st) pc := by subst e; subst hN; exact g_iastore C 7 d rfl hin rfl h
theorem fC_bound (C : GC X cc own n R) {s : CSt} (hlk : Cond.fieldLink own i R_C (F_C 7).2.1 (F_C 7).2.2.1 ∈ TB) (d : decode cc pc = .ok (.getfield i, 3)) (h : G X k z (woC (xt X) a s) lv (.ref (a 8) :: st) (pc + 3)) : G X k z (woC (xt X) a s) lv (.ref (a 0) :: st) pc := g_getf C i_C (ci := 1) rfl 0 7 (v := .ref (a 8)) (Nat.le_of_ble_eq_true rfl) hlk rfl d rfl rfl h
theorem lC_bound (C : GC X cc own n R) {s : CSt} {f : Nat → Int32} (d : decode cc pc = .ok (.iaload, 1)) (e : C_bound (s) = f) (hN : j.toNatClampNeg = N0) (hin : vp_in j 8) (h : G X k z (woC (xt X) a s) lv (.int (f N0) :: st) (pc + 1)) : G X k z (woC (xt X) a s) lv (.int j :: .ref (a 8) :: st) pc := by subst e; subst hN; exact g_iaload C 8 d rfl hin h
theorem sC_bound (C : GC X cc own n R) {s : CSt}   {f : Nat → Int32} (d : decode cc pc = .ok (.iastore, 1)) (e : C_bound (s) = f) (hN : j.toNatClampNeg = N0) (hin : vp_in j 8) (h : G X k z (woC (xt X) a (C_bound_ s (upd f N0 w))) lv st (pc + 1)) : G X k z (woC (xt X) a s) lv (.int w :: .int j :: .ref (a 8) :: st) pc := by subst e; subst hN; exact g_iastore C 8 d rfl hin rfl h
theorem fC_count (C : GC X cc own n R) {s : CSt} (hlk : Cond.fieldLink own i R_C (F_C 8).2.1 (F_C 8).2.2.1 ∈ TB) (d : decode cc pc = .ok (.getfield i, 3)) (e : C_count (s) = v) (h : G X k z (woC (xt X) a s) lv (.int v :: st) (pc + 3)) : G X k z (woC (xt X) a s) lv (.ref (a 0) :: st) pc := g_getf C i_C (ci := 1) rfl 0 8 (v := .int v) (Nat.le_of_ble_eq_true rfl) hlk rfl d rfl (by subst e; rfl) h
theorem pC_count (C : GC X cc own n R) {s : CSt}  (hlk : Cond.fieldLink own i R_C (F_C 8).2.1 (F_C 8).2.2.1 ∈ TB) (d : decode cc pc = .ok (.putfield i, 3))  (h : G X k z (woC (xt X) a (C_count_ s v)) lv st (pc + 3)) : G X k z (woC (xt X) a s) lv (.int v :: .ref (a 0) :: st) pc := by exact g_putf C i_C (ci := 1) rfl ty_C ty_C_ok n_C 0 8 (Nat.le_of_ble_eq_true rfl) hlk rfl rfl d rfl rfl rfl (Nat.le_of_ble_eq_true rfl) rfl h
theorem fC_hour (C : GC X cc own n R) {s : CSt} (hlk : Cond.fieldLink own i R_C (F_C 9).2.1 (F_C 9).2.2.1 ∈ TB) (d : decode cc pc = .ok (.getfield i, 3)) (e : C_hour (s) = v) (h : G X k z (woC (xt X) a s) lv (.int v :: st) (pc + 3)) : G X k z (woC (xt X) a s) lv (.ref (a 0) :: st) pc := g_getf C i_C (ci := 1) rfl 0 9 (v := .int v) (Nat.le_of_ble_eq_true rfl) hlk rfl d rfl (by subst e; rfl) h
theorem pC_hour (C : GC X cc own n R) {s : CSt}  (hlk : Cond.fieldLink own i R_C (F_C 9).2.1 (F_C 9).2.2.1 ∈ TB) (d : decode cc pc = .ok (.putfield i, 3))  (h : G X k z (woC (xt X) a (C_hour_ s v)) lv st (pc + 3)) : G X k z (woC (xt X) a s) lv (.int v :: .ref (a 0) :: st) pc := by exact g_putf C i_C (ci := 1) rfl ty_C ty_C_ok n_C 0 9 (Nat.le_of_ble_eq_true rfl) hlk rfl rfl d rfl rfl rfl (Nat.le_of_ble_eq_true rfl) rfl h
theorem fC_z (C : GC X cc own n R) {s : CSt} (hlk : Cond.fieldLink own i R_C (F_C 10).2.1 (F_C 10).2.2.1 ∈ TB) (d : decode cc pc = .ok (.getfield i, 3)) (e : C_z (s) = v) (h : G X k z (woC (xt X) a s) lv (.int v :: st) (pc + 3)) : G X k z (woC (xt X) a s) lv (.ref (a 0) :: st) pc := g_getf C i_C (ci := 1) rfl 0 10 (v := .int v) (Nat.le_of_ble_eq_true rfl) hlk rfl d rfl (by subst e; rfl) h
theorem pC_z (C : GC X cc own n R) {s : CSt}  (hlk : Cond.fieldLink own i R_C (F_C 10).2.1 (F_C 10).2.2.1 ∈ TB) (d : decode cc pc = .ok (.putfield i, 3))  (h : G X k z (woC (xt X) a (C_z_ s v)) lv st (pc + 3)) : G X k z (woC (xt X) a s) lv (.int v :: .ref (a 0) :: st) pc := by exact g_putf C i_C (ci := 1) rfl ty_C ty_C_ok n_C 0 10 (Nat.le_of_ble_eq_true rfl) hlk rfl rfl d rfl rfl rfl (Nat.le_of_ble_eq_true rfl) rfl h
theorem fC_heldBack (C : GC X cc own n R) {s : CSt} (hlk : Cond.fieldLink own i R_C (F_C 11).2.1 (F_C 11).2.2.1 ∈ TB) (d : decode cc pc = .ok (.getfield i, 3)) (e : C_heldBack (s) = v) (h : G X k z (woC (xt X) a s) lv (.int v :: st) (pc + 3)) : G X k z (woC (xt X) a s) lv (.ref (a 0) :: st) pc := g_getf C i_C (ci := 1) rfl 0 11 (v := .int v) (Nat.le_of_ble_eq_true rfl) hlk rfl d rfl (by subst e; rfl) h
theorem pC_heldBack (C : GC X cc own n R) {s : CSt}  (hlk : Cond.fieldLink own i R_C (F_C 11).2.1 (F_C 11).2.2.1 ∈ TB) (d : decode cc pc = .ok (.putfield i, 3))  (h : G X k z (woC (xt X) a (C_heldBack_ s v)) lv st (pc + 3)) : G X k z (woC (xt X) a s) lv (.int v :: .ref (a 0) :: st) pc := by exact g_putf C i_C (ci := 1) rfl ty_C ty_C_ok n_C 0 11 (Nat.le_of_ble_eq_true rfl) hlk rfl rfl d rfl rfl rfl (Nat.le_of_ble_eq_true rfl) rfl h
theorem fS_items (C : GC X cc own n R) {s : SSt} (hlk : Cond.fieldLink own i R_S (F_S 0).2.1 (F_S 0).2.2.1 ∈ TB) (d : decode cc pc = .ok (.getfield i, 3)) (h : G X k z (woS (xt X) a s) lv (.ref (a 1) :: st) (pc + 3)) : G X k z (woS (xt X) a s) lv (.ref (a 0) :: st) pc := g_getf C i_S (ci := 2) rfl 0 0 (v := .ref (a 1)) (Nat.le_of_ble_eq_true rfl) hlk rfl d rfl rfl h
theorem lS_items (C : GC X cc own n R) {s : SSt} {f : Nat → Int32} (d : decode cc pc = .ok (.iaload, 1)) (e : S_items (s) = f) (hN : j.toNatClampNeg = N0) (hin : vp_in j 40) (h : G X k z (woS (xt X) a s) lv (.int (f N0) :: st) (pc + 1)) : G X k z (woS (xt X) a s) lv (.int j :: .ref (a 1) :: st) pc := by subst e; subst hN; exact g_iaload C 1 d rfl hin h
theorem sS_items (C : GC X cc own n R) {s : SSt}   {f : Nat → Int32} (d : decode cc pc = .ok (.iastore, 1)) (e : S_items (s) = f) (hN : j.toNatClampNeg = N0) (hin : vp_in j 40) (h : G X k z (woS (xt X) a (S_items_ s (upd f N0 w))) lv st (pc + 1)) : G X k z (woS (xt X) a s) lv (.int w :: .int j :: .ref (a 1) :: st) pc := by subst e; subst hN; exact g_iastore C 1 d rfl hin rfl h
theorem fS_sort (C : GC X cc own n R) {s : SSt} (hlk : Cond.fieldLink own i R_S (F_S 1).2.1 (F_S 1).2.2.1 ∈ TB) (d : decode cc pc = .ok (.getfield i, 3)) (e : S_sort (s) = v) (h : G X k z (woS (xt X) a s) lv (.int v :: st) (pc + 3)) : G X k z (woS (xt X) a s) lv (.ref (a 0) :: st) pc := g_getf C i_S (ci := 2) rfl 0 1 (v := .int v) (Nat.le_of_ble_eq_true rfl) hlk rfl d rfl (by subst e; rfl) h
theorem pS_sort (C : GC X cc own n R) {s : SSt}  (hlk : Cond.fieldLink own i R_S (F_S 1).2.1 (F_S 1).2.2.1 ∈ TB) (d : decode cc pc = .ok (.putfield i, 3))  (h : G X k z (woS (xt X) a (S_sort_ s v)) lv st (pc + 3)) : G X k z (woS (xt X) a s) lv (.int v :: .ref (a 0) :: st) pc := by exact g_putf C i_S (ci := 2) rfl ty_S ty_S_ok n_S 0 1 (Nat.le_of_ble_eq_true rfl) hlk rfl rfl d rfl rfl rfl (Nat.le_of_ble_eq_true rfl) rfl h
theorem fS_size (C : GC X cc own n R) {s : SSt} (hlk : Cond.fieldLink own i R_S (F_S 2).2.1 (F_S 2).2.2.1 ∈ TB) (d : decode cc pc = .ok (.getfield i, 3)) (e : S_size (s) = v) (h : G X k z (woS (xt X) a s) lv (.int v :: st) (pc + 3)) : G X k z (woS (xt X) a s) lv (.ref (a 0) :: st) pc := g_getf C i_S (ci := 2) rfl 0 2 (v := .int v) (Nat.le_of_ble_eq_true rfl) hlk rfl d rfl (by subst e; rfl) h
theorem pS_size (C : GC X cc own n R) {s : SSt}  (hlk : Cond.fieldLink own i R_S (F_S 2).2.1 (F_S 2).2.2.1 ∈ TB) (d : decode cc pc = .ok (.putfield i, 3))  (h : G X k z (woS (xt X) a (S_size_ s v)) lv st (pc + 3)) : G X k z (woS (xt X) a s) lv (.int v :: .ref (a 0) :: st) pc := by exact g_putf C i_S (ci := 2) rfl ty_S ty_S_ok n_S 0 2 (Nat.le_of_ble_eq_true rfl) hlk rfl rfl d rfl rfl rfl (Nat.le_of_ble_eq_true rfl) rfl h
theorem fH_what (C : GC X cc own n R) {s : HSt} (hlk : Cond.fieldLink own i R_H (F_H 0).2.1 (F_H 0).2.2.1 ∈ TB) (d : decode cc pc = .ok (.getfield i, 3)) (e : H_what (s) = v) (h : G X k z (woH (xt X) a s) lv (.int v :: st) (pc + 3)) : G X k z (woH (xt X) a s) lv (.ref (a 0) :: st) pc := g_getf C i_H (ci := 3) rfl 0 0 (v := .int v) (Nat.le_of_ble_eq_true rfl) hlk rfl d rfl (by subst e; rfl) h
theorem pH_what (C : GC X cc own n R) {s : HSt}  (hlk : Cond.fieldLink own i R_H (F_H 0).2.1 (F_H 0).2.2.1 ∈ TB) (d : decode cc pc = .ok (.putfield i, 3))  (h : G X k z (woH (xt X) a (H_what_ s v)) lv st (pc + 3)) : G X k z (woH (xt X) a s) lv (.int v :: .ref (a 0) :: st) pc := by exact g_putf C i_H (ci := 3) rfl ty_H ty_H_ok n_H 0 0 (Nat.le_of_ble_eq_true rfl) hlk rfl rfl d rfl rfl rfl (Nat.le_of_ble_eq_true rfl) rfl h
theorem fH_barge (C : GC X cc own n R) {s : HSt} (hlk : Cond.fieldLink own i R_H (F_H 1).2.1 (F_H 1).2.2.1 ∈ TB) (d : decode cc pc = .ok (.getfield i, 3)) (e : H_barge (s) = v) (h : G X k z (woH (xt X) a s) lv (.int v :: st) (pc + 3)) : G X k z (woH (xt X) a s) lv (.ref (a 0) :: st) pc := g_getf C i_H (ci := 3) rfl 0 1 (v := .int v) (Nat.le_of_ble_eq_true rfl) hlk rfl d rfl (by subst e; rfl) h
theorem pH_barge (C : GC X cc own n R) {s : HSt}  (hlk : Cond.fieldLink own i R_H (F_H 1).2.1 (F_H 1).2.2.1 ∈ TB) (d : decode cc pc = .ok (.putfield i, 3))  (h : G X k z (woH (xt X) a (H_barge_ s v)) lv st (pc + 3)) : G X k z (woH (xt X) a s) lv (.int v :: .ref (a 0) :: st) pc := by exact g_putf C i_H (ci := 3) rfl ty_H ty_H_ok n_H 0 1 (Nat.le_of_ble_eq_true rfl) hlk rfl rfl d rfl rfl rfl (Nat.le_of_ble_eq_true rfl) rfl h
theorem fH_rowSort (C : GC X cc own n R) {s : HSt} (hlk : Cond.fieldLink own i R_H (F_H 2).2.1 (F_H 2).2.2.1 ∈ TB) (d : decode cc pc = .ok (.getfield i, 3)) (e : H_rowSort (s) = v) (h : G X k z (woH (xt X) a s) lv (.int v :: st) (pc + 3)) : G X k z (woH (xt X) a s) lv (.ref (a 0) :: st) pc := g_getf C i_H (ci := 3) rfl 0 2 (v := .int v) (Nat.le_of_ble_eq_true rfl) hlk rfl d rfl (by subst e; rfl) h
theorem pH_rowSort (C : GC X cc own n R) {s : HSt}  (hlk : Cond.fieldLink own i R_H (F_H 2).2.1 (F_H 2).2.2.1 ∈ TB) (d : decode cc pc = .ok (.putfield i, 3))  (h : G X k z (woH (xt X) a (H_rowSort_ s v)) lv st (pc + 3)) : G X k z (woH (xt X) a s) lv (.int v :: .ref (a 0) :: st) pc := by exact g_putf C i_H (ci := 3) rfl ty_H ty_H_ok n_H 0 2 (Nat.le_of_ble_eq_true rfl) hlk rfl rfl d rfl rfl rfl (Nat.le_of_ble_eq_true rfl) rfl h
theorem fH_rowSize (C : GC X cc own n R) {s : HSt} (hlk : Cond.fieldLink own i R_H (F_H 3).2.1 (F_H 3).2.2.1 ∈ TB) (d : decode cc pc = .ok (.getfield i, 3)) (e : H_rowSize (s) = v) (h : G X k z (woH (xt X) a s) lv (.int v :: st) (pc + 3)) : G X k z (woH (xt X) a s) lv (.ref (a 0) :: st) pc := g_getf C i_H (ci := 3) rfl 0 3 (v := .int v) (Nat.le_of_ble_eq_true rfl) hlk rfl d rfl (by subst e; rfl) h
theorem pH_rowSize (C : GC X cc own n R) {s : HSt}  (hlk : Cond.fieldLink own i R_H (F_H 3).2.1 (F_H 3).2.2.1 ∈ TB) (d : decode cc pc = .ok (.putfield i, 3))  (h : G X k z (woH (xt X) a (H_rowSize_ s v)) lv st (pc + 3)) : G X k z (woH (xt X) a s) lv (.int v :: .ref (a 0) :: st) pc := by exact g_putf C i_H (ci := 3) rfl ty_H ty_H_ok n_H 0 3 (Nat.le_of_ble_eq_true rfl) hlk rfl rfl d rfl rfl rfl (Nat.le_of_ble_eq_true rfl) rfl h
theorem fT_bytes (C : GC X cc own n R) {s : TSt} (hlk : Cond.fieldLink own i R_T (F_T 0).2.1 (F_T 0).2.2.1 ∈ TB) (d : decode cc pc = .ok (.getfield i, 3)) (h : G X k z (woT (xt X) a s) lv (.ref (a 1) :: st) (pc + 3)) : G X k z (woT (xt X) a s) lv (.ref (a 0) :: st) pc := g_getf C i_T (ci := 4) rfl 0 0 (v := .ref (a 1)) (Nat.le_of_ble_eq_true rfl) hlk rfl d rfl rfl h
theorem lT_bytes (C : GC X cc own n R) {s : TSt} {f : Nat → Int32} (d : decode cc pc = .ok (.baload, 1)) (e : T_bytes (s) = f) (hN : j.toNatClampNeg = N0) (hin : vp_in j 200) (h : G X k z (woT (xt X) a s) lv (.int (f N0) :: st) (pc + 1)) : G X k z (woT (xt X) a s) lv (.int j :: .ref (a 1) :: st) pc := by subst e; subst hN; exact g_baload C 1 d rfl hin h
theorem sT_bytes (C : GC X cc own n R) {s : TSt}   {f : Nat → Int32} (d : decode cc pc = .ok (.bastore, 1)) (e : T_bytes (s) = f) (hN : j.toNatClampNeg = N0) (hin : vp_in j 200) (h : G X k z (woT (xt X) a (T_bytes_ s (upd f N0 (vp_nar .byte w)))) lv st (pc + 1)) : G X k z (woT (xt X) a s) lv (.int w :: .int j :: .ref (a 1) :: st) pc := by subst e; subst hN; exact g_bastore C 1 d rfl hin rfl h
theorem fT_size (C : GC X cc own n R) {s : TSt} (hlk : Cond.fieldLink own i R_T (F_T 1).2.1 (F_T 1).2.2.1 ∈ TB) (d : decode cc pc = .ok (.getfield i, 3)) (e : T_size (s) = v) (h : G X k z (woT (xt X) a s) lv (.int v :: st) (pc + 3)) : G X k z (woT (xt X) a s) lv (.ref (a 0) :: st) pc := g_getf C i_T (ci := 4) rfl 0 1 (v := .int v) (Nat.le_of_ble_eq_true rfl) hlk rfl d rfl (by subst e; rfl) h
theorem pT_size (C : GC X cc own n R) {s : TSt}  (hlk : Cond.fieldLink own i R_T (F_T 1).2.1 (F_T 1).2.2.1 ∈ TB) (d : decode cc pc = .ok (.putfield i, 3))  (h : G X k z (woT (xt X) a (T_size_ s v)) lv st (pc + 3)) : G X k z (woT (xt X) a s) lv (.int v :: .ref (a 0) :: st) pc := by exact g_putf C i_T (ci := 4) rfl ty_T ty_T_ok n_T 0 1 (Nat.le_of_ble_eq_true rfl) hlk rfl rfl d rfl rfl rfl (Nat.le_of_ble_eq_true rfl) rfl h
theorem fT_sort (C : GC X cc own n R) {s : TSt} (hlk : Cond.fieldLink own i R_T (F_T 2).2.1 (F_T 2).2.2.1 ∈ TB) (d : decode cc pc = .ok (.getfield i, 3)) (e : T_sort (s) = v) (h : G X k z (woT (xt X) a s) lv (.int v :: st) (pc + 3)) : G X k z (woT (xt X) a s) lv (.ref (a 0) :: st) pc := g_getf C i_T (ci := 4) rfl 0 2 (v := .int v) (Nat.le_of_ble_eq_true rfl) hlk rfl d rfl (by subst e; rfl) h
theorem pT_sort (C : GC X cc own n R) {s : TSt}  (hlk : Cond.fieldLink own i R_T (F_T 2).2.1 (F_T 2).2.2.1 ∈ TB) (d : decode cc pc = .ok (.putfield i, 3))  (h : G X k z (woT (xt X) a (T_sort_ s v)) lv st (pc + 3)) : G X k z (woT (xt X) a s) lv (.int v :: .ref (a 0) :: st) pc := by exact g_putf C i_T (ci := 4) rfl ty_T ty_T_ok n_T 0 2 (Nat.le_of_ble_eq_true rfl) hlk rfl rfl d rfl rfl rfl (Nat.le_of_ble_eq_true rfl) rfl h
theorem fT_start (C : GC X cc own n R) {s : TSt} (hlk : Cond.fieldLink own i R_T (F_T 3).2.1 (F_T 3).2.2.1 ∈ TB) (d : decode cc pc = .ok (.getfield i, 3)) (e : T_start (s) = v) (h : G X k z (woT (xt X) a s) lv (.int v :: st) (pc + 3)) : G X k z (woT (xt X) a s) lv (.ref (a 0) :: st) pc := g_getf C i_T (ci := 4) rfl 0 3 (v := .int v) (Nat.le_of_ble_eq_true rfl) hlk rfl d rfl (by subst e; rfl) h
theorem pT_start (C : GC X cc own n R) {s : TSt}  (hlk : Cond.fieldLink own i R_T (F_T 3).2.1 (F_T 3).2.2.1 ∈ TB) (d : decode cc pc = .ok (.putfield i, 3))  (h : G X k z (woT (xt X) a (T_start_ s v)) lv st (pc + 3)) : G X k z (woT (xt X) a s) lv (.int v :: .ref (a 0) :: st) pc := by exact g_putf C i_T (ci := 4) rfl ty_T ty_T_ok n_T 0 3 (Nat.le_of_ble_eq_true rfl) hlk rfl rfl d rfl rfl rfl (Nat.le_of_ble_eq_true rfl) rfl h
theorem fT_end (C : GC X cc own n R) {s : TSt} (hlk : Cond.fieldLink own i R_T (F_T 4).2.1 (F_T 4).2.2.1 ∈ TB) (d : decode cc pc = .ok (.getfield i, 3)) (e : T_end (s) = v) (h : G X k z (woT (xt X) a s) lv (.int v :: st) (pc + 3)) : G X k z (woT (xt X) a s) lv (.ref (a 0) :: st) pc := g_getf C i_T (ci := 4) rfl 0 4 (v := .int v) (Nat.le_of_ble_eq_true rfl) hlk rfl d rfl (by subst e; rfl) h
theorem pT_end (C : GC X cc own n R) {s : TSt}  (hlk : Cond.fieldLink own i R_T (F_T 4).2.1 (F_T 4).2.2.1 ∈ TB) (d : decode cc pc = .ok (.putfield i, 3))  (h : G X k z (woT (xt X) a (T_end_ s v)) lv st (pc + 3)) : G X k z (woT (xt X) a s) lv (.int v :: .ref (a 0) :: st) pc := by exact g_putf C i_T (ci := 4) rfl ty_T ty_T_ok n_T 0 4 (Nat.le_of_ble_eq_true rfl) hlk rfl rfl d rfl rfl rfl (Nat.le_of_ble_eq_true rfl) rfl h
theorem fM_d (C : GC X cc own n R) {s : MSt} (hlk : Cond.fieldLink own i R_M (F_M 0).2.1 (F_M 0).2.2.1 ∈ TB) (d : decode cc pc = .ok (.getfield i, 3)) (h : G X k z (woM (xt X) a s) lv (.ref (a 1) :: st) (pc + 3)) : G X k z (woM (xt X) a s) lv (.ref (a 0) :: st) pc := g_getf C i_M (ci := 6) rfl 0 0 (v := .ref (a 1)) (Nat.le_of_ble_eq_true rfl) hlk rfl d rfl rfl h
theorem lM_d (C : GC X cc own n R) {s : MSt} {f : Nat → Int32} (d : decode cc pc = .ok (.iaload, 1)) (e : M_d (s) = f) (hN : j.toNatClampNeg = N0) (hin : vp_in j 67) (h : G X k z (woM (xt X) a s) lv (.int (f N0) :: st) (pc + 1)) : G X k z (woM (xt X) a s) lv (.int j :: .ref (a 1) :: st) pc := by subst e; subst hN; exact g_iaload C 1 d rfl hin h
theorem sM_d (C : GC X cc own n R) {s : MSt}   {f : Nat → Int32} (d : decode cc pc = .ok (.iastore, 1)) (e : M_d (s) = f) (hN : j.toNatClampNeg = N0) (hin : vp_in j 67) (h : G X k z (woM (xt X) a (M_d_ s (upd f N0 w))) lv st (pc + 1)) : G X k z (woM (xt X) a s) lv (.int w :: .int j :: .ref (a 1) :: st) pc := by subst e; subst hN; exact g_iastore C 1 d rfl hin rfl h
theorem fM_aside (C : GC X cc own n R) {s : MSt} (hlk : Cond.fieldLink own i R_M (F_M 1).2.1 (F_M 1).2.2.1 ∈ TB) (d : decode cc pc = .ok (.getfield i, 3)) (h : G X k z (woM (xt X) a s) lv (.ref (a 2) :: st) (pc + 3)) : G X k z (woM (xt X) a s) lv (.ref (a 0) :: st) pc := g_getf C i_M (ci := 6) rfl 0 1 (v := .ref (a 2)) (Nat.le_of_ble_eq_true rfl) hlk rfl d rfl rfl h
theorem lM_aside (C : GC X cc own n R) {s : MSt} {f : Nat → Int32} (d : decode cc pc = .ok (.iaload, 1)) (e : M_aside (s) = f) (hN : j.toNatClampNeg = N0) (hin : vp_in j 67) (h : G X k z (woM (xt X) a s) lv (.int (f N0) :: st) (pc + 1)) : G X k z (woM (xt X) a s) lv (.int j :: .ref (a 2) :: st) pc := by subst e; subst hN; exact g_iaload C 2 d rfl hin h
theorem sM_aside (C : GC X cc own n R) {s : MSt}   {f : Nat → Int32} (d : decode cc pc = .ok (.iastore, 1)) (e : M_aside (s) = f) (hN : j.toNatClampNeg = N0) (hin : vp_in j 67) (h : G X k z (woM (xt X) a (M_aside_ s (upd f N0 w))) lv st (pc + 1)) : G X k z (woM (xt X) a s) lv (.int w :: .int j :: .ref (a 2) :: st) pc := by subst e; subst hN; exact g_iastore C 2 d rfl hin rfl h
theorem fM_kept (C : GC X cc own n R) {s : MSt} (hlk : Cond.fieldLink own i R_M (F_M 2).2.1 (F_M 2).2.2.1 ∈ TB) (d : decode cc pc = .ok (.getfield i, 3)) (h : G X k z (woM (xt X) a s) lv (.ref (a 3) :: st) (pc + 3)) : G X k z (woM (xt X) a s) lv (.ref (a 0) :: st) pc := g_getf C i_M (ci := 6) rfl 0 2 (v := .ref (a 3)) (Nat.le_of_ble_eq_true rfl) hlk rfl d rfl rfl h
theorem lM_kept (C : GC X cc own n R) {s : MSt} {f : Nat → Int32} (d : decode cc pc = .ok (.iaload, 1)) (e : M_kept (s) = f) (hN : j.toNatClampNeg = N0) (hin : vp_in j 67) (h : G X k z (woM (xt X) a s) lv (.int (f N0) :: st) (pc + 1)) : G X k z (woM (xt X) a s) lv (.int j :: .ref (a 3) :: st) pc := by subst e; subst hN; exact g_iaload C 3 d rfl hin h
theorem sM_kept (C : GC X cc own n R) {s : MSt}   {f : Nat → Int32} (d : decode cc pc = .ok (.iastore, 1)) (e : M_kept (s) = f) (hN : j.toNatClampNeg = N0) (hin : vp_in j 67) (h : G X k z (woM (xt X) a (M_kept_ s (upd f N0 w))) lv st (pc + 1)) : G X k z (woM (xt X) a s) lv (.int w :: .int j :: .ref (a 3) :: st) pc := by subst e; subst hN; exact g_iastore C 3 d rfl hin rfl h
theorem fM_isKept (C : GC X cc own n R) {s : MSt} (hlk : Cond.fieldLink own i R_M (F_M 3).2.1 (F_M 3).2.2.1 ∈ TB) (d : decode cc pc = .ok (.getfield i, 3)) (e : M_isKept (s) = v) (h : G X k z (woM (xt X) a s) lv (.int v :: st) (pc + 3)) : G X k z (woM (xt X) a s) lv (.ref (a 0) :: st) pc := g_getf C i_M (ci := 6) rfl 0 3 (v := .int v) (Nat.le_of_ble_eq_true rfl) hlk rfl d rfl (by subst e; rfl) h
theorem pM_isKept (C : GC X cc own n R) {s : MSt}  (hlk : Cond.fieldLink own i R_M (F_M 3).2.1 (F_M 3).2.2.1 ∈ TB) (d : decode cc pc = .ok (.putfield i, 3)) (hn : narrow .boolean (.int v) = .int v) (hf : fits .boolean (.int v) = true) (h : G X k z (woM (xt X) a (M_isKept_ s v)) lv st (pc + 3)) : G X k z (woM (xt X) a s) lv (.int v :: .ref (a 0) :: st) pc := by exact g_putf C i_M (ci := 6) rfl ty_M ty_M_ok n_M 0 3 (Nat.le_of_ble_eq_true rfl) hlk rfl rfl d rfl hn hf (Nat.le_of_ble_eq_true rfl) rfl h
theorem fM_still (C : GC X cc own n R) {s : MSt} (hlk : Cond.fieldLink own i R_M (F_M 4).2.1 (F_M 4).2.2.1 ∈ TB) (d : decode cc pc = .ok (.getfield i, 3)) (e : M_still (s) = v) (h : G X k z (woM (xt X) a s) lv (.int v :: st) (pc + 3)) : G X k z (woM (xt X) a s) lv (.ref (a 0) :: st) pc := g_getf C i_M (ci := 6) rfl 0 4 (v := .int v) (Nat.le_of_ble_eq_true rfl) hlk rfl d rfl (by subst e; rfl) h
theorem pM_still (C : GC X cc own n R) {s : MSt}  (hlk : Cond.fieldLink own i R_M (F_M 4).2.1 (F_M 4).2.2.1 ∈ TB) (d : decode cc pc = .ok (.putfield i, 3))  (h : G X k z (woM (xt X) a (M_still_ s v)) lv st (pc + 3)) : G X k z (woM (xt X) a s) lv (.int v :: .ref (a 0) :: st) pc := by exact g_putf C i_M (ci := 6) rfl ty_M ty_M_ok n_M 0 4 (Nat.le_of_ble_eq_true rfl) hlk rfl rfl d rfl rfl rfl (Nat.le_of_ble_eq_true rfl) rfl h
theorem fM_tape (C : GC X cc own n R) {s : MSt} (hlk : Cond.fieldLink own i R_M (F_M 5).2.1 (F_M 5).2.2.1 ∈ TB) (d : decode cc pc = .ok (.getfield i, 3)) (h : G X k z (woM (xt X) a s) lv (.ref (a 4) :: st) (pc + 3)) : G X k z (woM (xt X) a s) lv (.ref (a 0) :: st) pc := g_getf C i_M (ci := 6) rfl 0 5 (v := .ref (a 4)) (Nat.le_of_ble_eq_true rfl) hlk rfl d rfl rfl h
theorem lM_tape (C : GC X cc own n R) {s : MSt} {f : Nat → Int32} (d : decode cc pc = .ok (.iaload, 1)) (e : M_tape (s) = f) (hN : j.toNatClampNeg = N0) (hin : vp_in j 200) (h : G X k z (woM (xt X) a s) lv (.int (f N0) :: st) (pc + 1)) : G X k z (woM (xt X) a s) lv (.int j :: .ref (a 4) :: st) pc := by subst e; subst hN; exact g_iaload C 4 d rfl hin h
theorem sM_tape (C : GC X cc own n R) {s : MSt}   {f : Nat → Int32} (d : decode cc pc = .ok (.iastore, 1)) (e : M_tape (s) = f) (hN : j.toNatClampNeg = N0) (hin : vp_in j 200) (h : G X k z (woM (xt X) a (M_tape_ s (upd f N0 w))) lv st (pc + 1)) : G X k z (woM (xt X) a s) lv (.int w :: .int j :: .ref (a 4) :: st) pc := by subst e; subst hN; exact g_iastore C 4 d rfl hin rfl h
theorem fM_taped (C : GC X cc own n R) {s : MSt} (hlk : Cond.fieldLink own i R_M (F_M 6).2.1 (F_M 6).2.2.1 ∈ TB) (d : decode cc pc = .ok (.getfield i, 3)) (e : M_taped (s) = v) (h : G X k z (woM (xt X) a s) lv (.int v :: st) (pc + 3)) : G X k z (woM (xt X) a s) lv (.ref (a 0) :: st) pc := g_getf C i_M (ci := 6) rfl 0 6 (v := .int v) (Nat.le_of_ble_eq_true rfl) hlk rfl d rfl (by subst e; rfl) h
theorem pM_taped (C : GC X cc own n R) {s : MSt}  (hlk : Cond.fieldLink own i R_M (F_M 6).2.1 (F_M 6).2.2.1 ∈ TB) (d : decode cc pc = .ok (.putfield i, 3))  (h : G X k z (woM (xt X) a (M_taped_ s v)) lv st (pc + 3)) : G X k z (woM (xt X) a s) lv (.int v :: .ref (a 0) :: st) pc := by exact g_putf C i_M (ci := 6) rfl ty_M ty_M_ok n_M 0 6 (Nat.le_of_ble_eq_true rfl) hlk rfl rfl d rfl rfl rfl (Nat.le_of_ble_eq_true rfl) rfl h
theorem fM_at (C : GC X cc own n R) {s : MSt} (hlk : Cond.fieldLink own i R_M (F_M 7).2.1 (F_M 7).2.2.1 ∈ TB) (d : decode cc pc = .ok (.getfield i, 3)) (e : M_at (s) = v) (h : G X k z (woM (xt X) a s) lv (.int v :: st) (pc + 3)) : G X k z (woM (xt X) a s) lv (.ref (a 0) :: st) pc := g_getf C i_M (ci := 6) rfl 0 7 (v := .int v) (Nat.le_of_ble_eq_true rfl) hlk rfl d rfl (by subst e; rfl) h
theorem pM_at (C : GC X cc own n R) {s : MSt}  (hlk : Cond.fieldLink own i R_M (F_M 7).2.1 (F_M 7).2.2.1 ∈ TB) (d : decode cc pc = .ok (.putfield i, 3))  (h : G X k z (woM (xt X) a (M_at_ s v)) lv st (pc + 3)) : G X k z (woM (xt X) a s) lv (.int v :: .ref (a 0) :: st) pc := by exact g_putf C i_M (ci := 6) rfl ty_M ty_M_ok n_M 0 7 (Nat.le_of_ble_eq_true rfl) hlk rfl rfl d rfl rfl rfl (Nat.le_of_ble_eq_true rfl) rfl h
theorem fM_begun (C : GC X cc own n R) {s : MSt} (hlk : Cond.fieldLink own i R_M (F_M 8).2.1 (F_M 8).2.2.1 ∈ TB) (d : decode cc pc = .ok (.getfield i, 3)) (e : M_begun (s) = v) (h : G X k z (woM (xt X) a s) lv (.int v :: st) (pc + 3)) : G X k z (woM (xt X) a s) lv (.ref (a 0) :: st) pc := g_getf C i_M (ci := 6) rfl 0 8 (v := .int v) (Nat.le_of_ble_eq_true rfl) hlk rfl d rfl (by subst e; rfl) h
theorem pM_begun (C : GC X cc own n R) {s : MSt}  (hlk : Cond.fieldLink own i R_M (F_M 8).2.1 (F_M 8).2.2.1 ∈ TB) (d : decode cc pc = .ok (.putfield i, 3))  (h : G X k z (woM (xt X) a (M_begun_ s v)) lv st (pc + 3)) : G X k z (woM (xt X) a s) lv (.int v :: .ref (a 0) :: st) pc := by exact g_putf C i_M (ci := 6) rfl ty_M ty_M_ok n_M 0 8 (Nat.le_of_ble_eq_true rfl) hlk rfl rfl d rfl rfl rfl (Nat.le_of_ble_eq_true rfl) rfl h
theorem fM_token (C : GC X cc own n R) {s : MSt} (hlk : Cond.fieldLink own i R_M (F_M 9).2.1 (F_M 9).2.2.1 ∈ TB) (d : decode cc pc = .ok (.getfield i, 3)) (e : M_token (s) = v) (h : G X k z (woM (xt X) a s) lv (.int v :: st) (pc + 3)) : G X k z (woM (xt X) a s) lv (.ref (a 0) :: st) pc := g_getf C i_M (ci := 6) rfl 0 9 (v := .int v) (Nat.le_of_ble_eq_true rfl) hlk rfl d rfl (by subst e; rfl) h
theorem pM_token (C : GC X cc own n R) {s : MSt}  (hlk : Cond.fieldLink own i R_M (F_M 9).2.1 (F_M 9).2.2.1 ∈ TB) (d : decode cc pc = .ok (.putfield i, 3))  (h : G X k z (woM (xt X) a (M_token_ s v)) lv st (pc + 3)) : G X k z (woM (xt X) a s) lv (.int v :: .ref (a 0) :: st) pc := by exact g_putf C i_M (ci := 6) rfl ty_M ty_M_ok n_M 0 9 (Nat.le_of_ble_eq_true rfl) hlk rfl rfl d rfl rfl rfl (Nat.le_of_ble_eq_true rfl) rfl h
theorem fM_value (C : GC X cc own n R) {s : MSt} (hlk : Cond.fieldLink own i R_M (F_M 10).2.1 (F_M 10).2.2.1 ∈ TB) (d : decode cc pc = .ok (.getfield i, 3)) (e : M_value (s) = v) (h : G X k z (woM (xt X) a s) lv (.int v :: st) (pc + 3)) : G X k z (woM (xt X) a s) lv (.ref (a 0) :: st) pc := g_getf C i_M (ci := 6) rfl 0 10 (v := .int v) (Nat.le_of_ble_eq_true rfl) hlk rfl d rfl (by subst e; rfl) h
theorem pM_value (C : GC X cc own n R) {s : MSt}  (hlk : Cond.fieldLink own i R_M (F_M 10).2.1 (F_M 10).2.2.1 ∈ TB) (d : decode cc pc = .ok (.putfield i, 3))  (h : G X k z (woM (xt X) a (M_value_ s v)) lv st (pc + 3)) : G X k z (woM (xt X) a s) lv (.int v :: .ref (a 0) :: st) pc := by exact g_putf C i_M (ci := 6) rfl ty_M ty_M_ok n_M 0 10 (Nat.le_of_ble_eq_true rfl) hlk rfl rfl d rfl rfl rfl (Nat.le_of_ble_eq_true rfl) rfl h
theorem fM_words (C : GC X cc own n R) {s : MSt} (hlk : Cond.fieldLink own i R_M (F_M 11).2.1 (F_M 11).2.2.1 ∈ TB) (d : decode cc pc = .ok (.getfield i, 3)) (h : G X k z (woM (xt X) a s) lv (.ref (a 5) :: st) (pc + 3)) : G X k z (woM (xt X) a s) lv (.ref (a 0) :: st) pc := g_getf C i_M (ci := 6) rfl 0 11 (v := .ref (a 5)) (Nat.le_of_ble_eq_true rfl) hlk rfl d rfl rfl h
theorem lM_words (C : GC X cc own n R) {s : MSt} {f : Nat → Int32} (d : decode cc pc = .ok (.caload, 1)) (e : M_words (s) = f) (hN : j.toNatClampNeg = N0) (hin : vp_in j 128) (h : G X k z (woM (xt X) a s) lv (.int (f N0) :: st) (pc + 1)) : G X k z (woM (xt X) a s) lv (.int j :: .ref (a 5) :: st) pc := by subst e; subst hN; exact g_caload C 5 d rfl hin h
theorem sM_words (C : GC X cc own n R) {s : MSt}   {f : Nat → Int32} (d : decode cc pc = .ok (.castore, 1)) (e : M_words (s) = f) (hN : j.toNatClampNeg = N0) (hin : vp_in j 128) (h : G X k z (woM (xt X) a (M_words_ s (upd f N0 (vp_nar .char w)))) lv st (pc + 1)) : G X k z (woM (xt X) a s) lv (.int w :: .int j :: .ref (a 5) :: st) pc := by subst e; subst hN; exact g_castore C 5 d rfl hin rfl h
theorem fM_told (C : GC X cc own n R) {s : MSt} (hlk : Cond.fieldLink own i R_M (F_M 12).2.1 (F_M 12).2.2.1 ∈ TB) (d : decode cc pc = .ok (.getfield i, 3)) (e : M_told (s) = v) (h : G X k z (woM (xt X) a s) lv (.int v :: st) (pc + 3)) : G X k z (woM (xt X) a s) lv (.ref (a 0) :: st) pc := g_getf C i_M (ci := 6) rfl 0 12 (v := .int v) (Nat.le_of_ble_eq_true rfl) hlk rfl d rfl (by subst e; rfl) h
theorem pM_told (C : GC X cc own n R) {s : MSt}  (hlk : Cond.fieldLink own i R_M (F_M 12).2.1 (F_M 12).2.2.1 ∈ TB) (d : decode cc pc = .ok (.putfield i, 3))  (h : G X k z (woM (xt X) a (M_told_ s v)) lv st (pc + 3)) : G X k z (woM (xt X) a s) lv (.int v :: .ref (a 0) :: st) pc := by exact g_putf C i_M (ci := 6) rfl ty_M ty_M_ok n_M 0 12 (Nat.le_of_ble_eq_true rfl) hlk rfl rfl d rfl rfl rfl (Nat.le_of_ble_eq_true rfl) rfl h
theorem fM_row (C : GC X cc own n R) {s : MSt} (hlk : Cond.fieldLink own i R_M (F_M 13).2.1 (F_M 13).2.2.1 ∈ TB) (d : decode cc pc = .ok (.getfield i, 3)) (h : G X k z (woM (xt X) a s) lv (.ref (a 6) :: st) (pc + 3)) : G X k z (woM (xt X) a s) lv (.ref (a 0) :: st) pc := g_getf C i_M (ci := 6) rfl 0 13 (v := .ref (a 6)) (Nat.le_of_ble_eq_true rfl) hlk rfl d rfl rfl h
theorem lM_row (C : GC X cc own n R) {s : MSt} {f : Nat → Int32} (d : decode cc pc = .ok (.iaload, 1)) (e : M_row (s) = f) (hN : j.toNatClampNeg = N0) (hin : vp_in j 30) (h : G X k z (woM (xt X) a s) lv (.int (f N0) :: st) (pc + 1)) : G X k z (woM (xt X) a s) lv (.int j :: .ref (a 6) :: st) pc := by subst e; subst hN; exact g_iaload C 6 d rfl hin h
theorem sM_row (C : GC X cc own n R) {s : MSt}   {f : Nat → Int32} (d : decode cc pc = .ok (.iastore, 1)) (e : M_row (s) = f) (hN : j.toNatClampNeg = N0) (hin : vp_in j 30) (h : G X k z (woM (xt X) a (M_row_ s (upd f N0 w))) lv st (pc + 1)) : G X k z (woM (xt X) a s) lv (.int w :: .int j :: .ref (a 6) :: st) pc := by subst e; subst hN; exact g_iastore C 6 d rfl hin rfl h
theorem fM_rows (C : GC X cc own n R) {s : MSt} (hlk : Cond.fieldLink own i R_M (F_M 14).2.1 (F_M 14).2.2.1 ∈ TB) (d : decode cc pc = .ok (.getfield i, 3)) (e : M_rows (s) = v) (h : G X k z (woM (xt X) a s) lv (.int v :: st) (pc + 3)) : G X k z (woM (xt X) a s) lv (.ref (a 0) :: st) pc := g_getf C i_M (ci := 6) rfl 0 14 (v := .int v) (Nat.le_of_ble_eq_true rfl) hlk rfl d rfl (by subst e; rfl) h
theorem pM_rows (C : GC X cc own n R) {s : MSt}  (hlk : Cond.fieldLink own i R_M (F_M 14).2.1 (F_M 14).2.2.1 ∈ TB) (d : decode cc pc = .ok (.putfield i, 3))  (h : G X k z (woM (xt X) a (M_rows_ s v)) lv st (pc + 3)) : G X k z (woM (xt X) a s) lv (.int v :: .ref (a 0) :: st) pc := by exact g_putf C i_M (ci := 6) rfl ty_M ty_M_ok n_M 0 14 (Nat.le_of_ble_eq_true rfl) hlk rfl rfl d rfl rfl rfl (Nat.le_of_ble_eq_true rfl) rfl h
theorem fM_sortOf (C : GC X cc own n R) {s : MSt} (hlk : Cond.fieldLink own i R_M (F_M 15).2.1 (F_M 15).2.2.1 ∈ TB) (d : decode cc pc = .ok (.getfield i, 3)) (h : G X k z (woM (xt X) a s) lv (.ref (a 7) :: st) (pc + 3)) : G X k z (woM (xt X) a s) lv (.ref (a 0) :: st) pc := g_getf C i_M (ci := 6) rfl 0 15 (v := .ref (a 7)) (Nat.le_of_ble_eq_true rfl) hlk rfl d rfl rfl h
theorem lM_sortOf (C : GC X cc own n R) {s : MSt} {f : Nat → Int32} (d : decode cc pc = .ok (.iaload, 1)) (e : M_sortOf (s) = f) (hN : j.toNatClampNeg = N0) (hin : vp_in j 4) (h : G X k z (woM (xt X) a s) lv (.int (f N0) :: st) (pc + 1)) : G X k z (woM (xt X) a s) lv (.int j :: .ref (a 7) :: st) pc := by subst e; subst hN; exact g_iaload C 7 d rfl hin h
theorem sM_sortOf (C : GC X cc own n R) {s : MSt}   {f : Nat → Int32} (d : decode cc pc = .ok (.iastore, 1)) (e : M_sortOf (s) = f) (hN : j.toNatClampNeg = N0) (hin : vp_in j 4) (h : G X k z (woM (xt X) a (M_sortOf_ s (upd f N0 w))) lv st (pc + 1)) : G X k z (woM (xt X) a s) lv (.int w :: .int j :: .ref (a 7) :: st) pc := by subst e; subst hN; exact g_iastore C 7 d rfl hin rfl h
theorem fM_sizeOf (C : GC X cc own n R) {s : MSt} (hlk : Cond.fieldLink own i R_M (F_M 16).2.1 (F_M 16).2.2.1 ∈ TB) (d : decode cc pc = .ok (.getfield i, 3)) (h : G X k z (woM (xt X) a s) lv (.ref (a 8) :: st) (pc + 3)) : G X k z (woM (xt X) a s) lv (.ref (a 0) :: st) pc := g_getf C i_M (ci := 6) rfl 0 16 (v := .ref (a 8)) (Nat.le_of_ble_eq_true rfl) hlk rfl d rfl rfl h
theorem lM_sizeOf (C : GC X cc own n R) {s : MSt} {f : Nat → Int32} (d : decode cc pc = .ok (.iaload, 1)) (e : M_sizeOf (s) = f) (hN : j.toNatClampNeg = N0) (hin : vp_in j 4) (h : G X k z (woM (xt X) a s) lv (.int (f N0) :: st) (pc + 1)) : G X k z (woM (xt X) a s) lv (.int j :: .ref (a 8) :: st) pc := by subst e; subst hN; exact g_iaload C 8 d rfl hin h
theorem sM_sizeOf (C : GC X cc own n R) {s : MSt}   {f : Nat → Int32} (d : decode cc pc = .ok (.iastore, 1)) (e : M_sizeOf (s) = f) (hN : j.toNatClampNeg = N0) (hin : vp_in j 4) (h : G X k z (woM (xt X) a (M_sizeOf_ s (upd f N0 w))) lv st (pc + 1)) : G X k z (woM (xt X) a s) lv (.int w :: .int j :: .ref (a 8) :: st) pc := by subst e; subst hN; exact g_iastore C 8 d rfl hin rfl h
theorem fM_item (C : GC X cc own n R) {s : MSt} (hlk : Cond.fieldLink own i R_M (F_M 17).2.1 (F_M 17).2.2.1 ∈ TB) (d : decode cc pc = .ok (.getfield i, 3)) (h : G X k z (woM (xt X) a s) lv (.ref (a 9) :: st) (pc + 3)) : G X k z (woM (xt X) a s) lv (.ref (a 0) :: st) pc := g_getf C i_M (ci := 6) rfl 0 17 (v := .ref (a 9)) (Nat.le_of_ble_eq_true rfl) hlk rfl d rfl rfl h
theorem lM_item (C : GC X cc own n R) {s : MSt} {f : Nat → Int64} (d : decode cc pc = .ok (.laload, 1)) (e : M_item (s) = f) (hN : j.toNatClampNeg = N0) (hin : vp_in j 160) (h : G X k z (woM (xt X) a s) lv (.long (f N0) :: st) (pc + 1)) : G X k z (woM (xt X) a s) lv (.int j :: .ref (a 9) :: st) pc := by subst e; subst hN; exact g_laload C 9 d rfl hin h
theorem sM_item (C : GC X cc own n R) {s : MSt}  {w : Int64} {f : Nat → Int64} (d : decode cc pc = .ok (.lastore, 1)) (e : M_item (s) = f) (hN : j.toNatClampNeg = N0) (hin : vp_in j 160) (h : G X k z (woM (xt X) a (M_item_ s (vp_updL f N0 w))) lv st (pc + 1)) : G X k z (woM (xt X) a s) lv (.long w :: .int j :: .ref (a 9) :: st) pc := by subst e; subst hN; exact g_lastore C 9 d rfl hin rfl h
theorem fM_shelfHas (C : GC X cc own n R) {s : MSt} (hlk : Cond.fieldLink own i R_M (F_M 18).2.1 (F_M 18).2.2.1 ∈ TB) (d : decode cc pc = .ok (.getfield i, 3)) (h : G X k z (woM (xt X) a s) lv (.ref (a 10) :: st) (pc + 3)) : G X k z (woM (xt X) a s) lv (.ref (a 0) :: st) pc := g_getf C i_M (ci := 6) rfl 0 18 (v := .ref (a 10)) (Nat.le_of_ble_eq_true rfl) hlk rfl d rfl rfl h
theorem lM_shelfHas (C : GC X cc own n R) {s : MSt} {f : Nat → Int32} (d : decode cc pc = .ok (.iaload, 1)) (e : M_shelfHas (s) = f) (hN : j.toNatClampNeg = N0) (hin : vp_in j 4) (h : G X k z (woM (xt X) a s) lv (.int (f N0) :: st) (pc + 1)) : G X k z (woM (xt X) a s) lv (.int j :: .ref (a 10) :: st) pc := by subst e; subst hN; exact g_iaload C 10 d rfl hin h
theorem sM_shelfHas (C : GC X cc own n R) {s : MSt}   {f : Nat → Int32} (d : decode cc pc = .ok (.iastore, 1)) (e : M_shelfHas (s) = f) (hN : j.toNatClampNeg = N0) (hin : vp_in j 4) (h : G X k z (woM (xt X) a (M_shelfHas_ s (upd f N0 w))) lv st (pc + 1)) : G X k z (woM (xt X) a s) lv (.int w :: .int j :: .ref (a 10) :: st) pc := by subst e; subst hN; exact g_iastore C 10 d rfl hin rfl h
theorem fM_shelfWhich (C : GC X cc own n R) {s : MSt} (hlk : Cond.fieldLink own i R_M (F_M 19).2.1 (F_M 19).2.2.1 ∈ TB) (d : decode cc pc = .ok (.getfield i, 3)) (h : G X k z (woM (xt X) a s) lv (.ref (a 11) :: st) (pc + 3)) : G X k z (woM (xt X) a s) lv (.ref (a 0) :: st) pc := g_getf C i_M (ci := 6) rfl 0 19 (v := .ref (a 11)) (Nat.le_of_ble_eq_true rfl) hlk rfl d rfl rfl h
theorem lM_shelfWhich (C : GC X cc own n R) {s : MSt} {f : Nat → Int32} (d : decode cc pc = .ok (.iaload, 1)) (e : M_shelfWhich (s) = f) (hN : j.toNatClampNeg = N0) (hin : vp_in j 4) (h : G X k z (woM (xt X) a s) lv (.int (f N0) :: st) (pc + 1)) : G X k z (woM (xt X) a s) lv (.int j :: .ref (a 11) :: st) pc := by subst e; subst hN; exact g_iaload C 11 d rfl hin h
theorem sM_shelfWhich (C : GC X cc own n R) {s : MSt}   {f : Nat → Int32} (d : decode cc pc = .ok (.iastore, 1)) (e : M_shelfWhich (s) = f) (hN : j.toNatClampNeg = N0) (hin : vp_in j 4) (h : G X k z (woM (xt X) a (M_shelfWhich_ s (upd f N0 w))) lv st (pc + 1)) : G X k z (woM (xt X) a s) lv (.int w :: .int j :: .ref (a 11) :: st) pc := by subst e; subst hN; exact g_iastore C 11 d rfl hin rfl h
theorem fM_shelfSize (C : GC X cc own n R) {s : MSt} (hlk : Cond.fieldLink own i R_M (F_M 20).2.1 (F_M 20).2.2.1 ∈ TB) (d : decode cc pc = .ok (.getfield i, 3)) (h : G X k z (woM (xt X) a s) lv (.ref (a 12) :: st) (pc + 3)) : G X k z (woM (xt X) a s) lv (.ref (a 0) :: st) pc := g_getf C i_M (ci := 6) rfl 0 20 (v := .ref (a 12)) (Nat.le_of_ble_eq_true rfl) hlk rfl d rfl rfl h
theorem lM_shelfSize (C : GC X cc own n R) {s : MSt} {f : Nat → Int32} (d : decode cc pc = .ok (.iaload, 1)) (e : M_shelfSize (s) = f) (hN : j.toNatClampNeg = N0) (hin : vp_in j 4) (h : G X k z (woM (xt X) a s) lv (.int (f N0) :: st) (pc + 1)) : G X k z (woM (xt X) a s) lv (.int j :: .ref (a 12) :: st) pc := by subst e; subst hN; exact g_iaload C 12 d rfl hin h
theorem sM_shelfSize (C : GC X cc own n R) {s : MSt}   {f : Nat → Int32} (d : decode cc pc = .ok (.iastore, 1)) (e : M_shelfSize (s) = f) (hN : j.toNatClampNeg = N0) (hin : vp_in j 4) (h : G X k z (woM (xt X) a (M_shelfSize_ s (upd f N0 w))) lv st (pc + 1)) : G X k z (woM (xt X) a s) lv (.int w :: .int j :: .ref (a 12) :: st) pc := by subst e; subst hN; exact g_iastore C 12 d rfl hin rfl h
theorem fM_traced (C : GC X cc own n R) {s : MSt} (hlk : Cond.fieldLink own i R_M (F_M 21).2.1 (F_M 21).2.2.1 ∈ TB) (d : decode cc pc = .ok (.getfield i, 3)) (h : G X k z (woM (xt X) a s) lv (.ref (a 13) :: st) (pc + 3)) : G X k z (woM (xt X) a s) lv (.ref (a 0) :: st) pc := g_getf C i_M (ci := 6) rfl 0 21 (v := .ref (a 13)) (Nat.le_of_ble_eq_true rfl) hlk rfl d rfl rfl h
theorem lM_traced (C : GC X cc own n R) {s : MSt} {f : Nat → Int32} (d : decode cc pc = .ok (.iaload, 1)) (e : M_traced (s) = f) (hN : j.toNatClampNeg = N0) (hin : vp_in j 30) (h : G X k z (woM (xt X) a s) lv (.int (f N0) :: st) (pc + 1)) : G X k z (woM (xt X) a s) lv (.int j :: .ref (a 13) :: st) pc := by subst e; subst hN; exact g_iaload C 13 d rfl hin h
theorem sM_traced (C : GC X cc own n R) {s : MSt}   {f : Nat → Int32} (d : decode cc pc = .ok (.iastore, 1)) (e : M_traced (s) = f) (hN : j.toNatClampNeg = N0) (hin : vp_in j 30) (h : G X k z (woM (xt X) a (M_traced_ s (upd f N0 w))) lv st (pc + 1)) : G X k z (woM (xt X) a s) lv (.int w :: .int j :: .ref (a 13) :: st) pc := by subst e; subst hN; exact g_iastore C 13 d rfl hin rfl h
theorem fM_traceMany (C : GC X cc own n R) {s : MSt} (hlk : Cond.fieldLink own i R_M (F_M 22).2.1 (F_M 22).2.2.1 ∈ TB) (d : decode cc pc = .ok (.getfield i, 3)) (e : M_traceMany (s) = v) (h : G X k z (woM (xt X) a s) lv (.int v :: st) (pc + 3)) : G X k z (woM (xt X) a s) lv (.ref (a 0) :: st) pc := g_getf C i_M (ci := 6) rfl 0 22 (v := .int v) (Nat.le_of_ble_eq_true rfl) hlk rfl d rfl (by subst e; rfl) h
theorem pM_traceMany (C : GC X cc own n R) {s : MSt}  (hlk : Cond.fieldLink own i R_M (F_M 22).2.1 (F_M 22).2.2.1 ∈ TB) (d : decode cc pc = .ok (.putfield i, 3))  (h : G X k z (woM (xt X) a (M_traceMany_ s v)) lv st (pc + 3)) : G X k z (woM (xt X) a s) lv (.int v :: .ref (a 0) :: st) pc := by exact g_putf C i_M (ci := 6) rfl ty_M ty_M_ok n_M 0 22 (Nat.le_of_ble_eq_true rfl) hlk rfl rfl d rfl rfl rfl (Nat.le_of_ble_eq_true rfl) rfl h
theorem fM_who (C : GC X cc own n R) {s : MSt} (hlk : Cond.fieldLink own i R_M (F_M 23).2.1 (F_M 23).2.2.1 ∈ TB) (d : decode cc pc = .ok (.getfield i, 3)) (e : M_who (s) = v) (h : G X k z (woM (xt X) a s) lv (.int v :: st) (pc + 3)) : G X k z (woM (xt X) a s) lv (.ref (a 0) :: st) pc := g_getf C i_M (ci := 6) rfl 0 23 (v := .int v) (Nat.le_of_ble_eq_true rfl) hlk rfl d rfl (by subst e; rfl) h
theorem pM_who (C : GC X cc own n R) {s : MSt}  (hlk : Cond.fieldLink own i R_M (F_M 23).2.1 (F_M 23).2.2.1 ∈ TB) (d : decode cc pc = .ok (.putfield i, 3))  (h : G X k z (woM (xt X) a (M_who_ s v)) lv st (pc + 3)) : G X k z (woM (xt X) a s) lv (.int v :: .ref (a 0) :: st) pc := by exact g_putf C i_M (ci := 6) rfl ty_M ty_M_ok n_M 0 23 (Nat.le_of_ble_eq_true rfl) hlk rfl rfl d rfl rfl rfl (Nat.le_of_ble_eq_true rfl) rfl h
theorem fM_isParted (C : GC X cc own n R) {s : MSt} (hlk : Cond.fieldLink own i R_M (F_M 24).2.1 (F_M 24).2.2.1 ∈ TB) (d : decode cc pc = .ok (.getfield i, 3)) (e : M_isParted (s) = v) (h : G X k z (woM (xt X) a s) lv (.int v :: st) (pc + 3)) : G X k z (woM (xt X) a s) lv (.ref (a 0) :: st) pc := g_getf C i_M (ci := 6) rfl 0 24 (v := .int v) (Nat.le_of_ble_eq_true rfl) hlk rfl d rfl (by subst e; rfl) h
theorem pM_isParted (C : GC X cc own n R) {s : MSt}  (hlk : Cond.fieldLink own i R_M (F_M 24).2.1 (F_M 24).2.2.1 ∈ TB) (d : decode cc pc = .ok (.putfield i, 3)) (hn : narrow .boolean (.int v) = .int v) (hf : fits .boolean (.int v) = true) (h : G X k z (woM (xt X) a (M_isParted_ s v)) lv st (pc + 3)) : G X k z (woM (xt X) a s) lv (.int v :: .ref (a 0) :: st) pc := by exact g_putf C i_M (ci := 6) rfl ty_M ty_M_ok n_M 0 24 (Nat.le_of_ble_eq_true rfl) hlk rfl rfl d rfl hn hf (Nat.le_of_ble_eq_true rfl) rfl h
theorem fCC1_laws (C : GC X cc own n R) {s : CSt × CSt} (hlk : Cond.fieldLink own i R_C (F_C 0).2.1 (F_C 0).2.2.1 ∈ TB) (d : decode cc pc = .ok (.getfield i, 3)) (h : G X k z (woCC (xt X) a b s) lv (.ref (a 1) :: st) (pc + 3)) : G X k z (woCC (xt X) a b s) lv (.ref (a 0) :: st) pc := g_getf C i_C (ci := 1) rfl 0 0 (v := .ref (a 1)) (Nat.le_of_ble_eq_true rfl) hlk rfl d rfl rfl h
theorem lCC1_laws (C : GC X cc own n R) {s : CSt × CSt} {f : Nat → Int32} (d : decode cc pc = .ok (.iaload, 1)) (e : C_laws (s.1) = f) (hN : j.toNatClampNeg = N0) (hin : vp_in j 4) (h : G X k z (woCC (xt X) a b s) lv (.int (f N0) :: st) (pc + 1)) : G X k z (woCC (xt X) a b s) lv (.int j :: .ref (a 1) :: st) pc := by subst e; subst hN; exact g_iaload C 1 d rfl hin h
theorem sCC1_laws (C : GC X cc own n R) {s : CSt × CSt} {c : CSt} (ec : s.1 = c)  {f : Nat → Int32} (d : decode cc pc = .ok (.iastore, 1)) (e : C_laws c = f) (hN : j.toNatClampNeg = N0) (hin : vp_in j 4) (h : G X k z (woCC (xt X) a b ((C_laws_ c (upd f N0 w), s.2))) lv st (pc + 1)) : G X k z (woCC (xt X) a b s) lv (.int w :: .int j :: .ref (a 1) :: st) pc := by subst ec; subst e; subst hN; exact g_iastore C 1 d rfl hin rfl h
theorem fCC1_noise (C : GC X cc own n R) {s : CSt × CSt} (hlk : Cond.fieldLink own i R_C (F_C 1).2.1 (F_C 1).2.2.1 ∈ TB) (d : decode cc pc = .ok (.getfield i, 3)) (h : G X k z (woCC (xt X) a b s) lv (.ref (a 2) :: st) (pc + 3)) : G X k z (woCC (xt X) a b s) lv (.ref (a 0) :: st) pc := g_getf C i_C (ci := 1) rfl 0 1 (v := .ref (a 2)) (Nat.le_of_ble_eq_true rfl) hlk rfl d rfl rfl h
theorem lCC1_noise (C : GC X cc own n R) {s : CSt × CSt} {f : Nat → Int32} (d : decode cc pc = .ok (.iaload, 1)) (e : C_noise (s.1) = f) (hN : j.toNatClampNeg = N0) (hin : vp_in j 10) (h : G X k z (woCC (xt X) a b s) lv (.int (f N0) :: st) (pc + 1)) : G X k z (woCC (xt X) a b s) lv (.int j :: .ref (a 2) :: st) pc := by subst e; subst hN; exact g_iaload C 2 d rfl hin h
theorem sCC1_noise (C : GC X cc own n R) {s : CSt × CSt} {c : CSt} (ec : s.1 = c)  {f : Nat → Int32} (d : decode cc pc = .ok (.iastore, 1)) (e : C_noise c = f) (hN : j.toNatClampNeg = N0) (hin : vp_in j 10) (h : G X k z (woCC (xt X) a b ((C_noise_ c (upd f N0 w), s.2))) lv st (pc + 1)) : G X k z (woCC (xt X) a b s) lv (.int w :: .int j :: .ref (a 2) :: st) pc := by subst ec; subst e; subst hN; exact g_iastore C 2 d rfl hin rfl h
theorem fCC1_lost (C : GC X cc own n R) {s : CSt × CSt} (hlk : Cond.fieldLink own i R_C (F_C 2).2.1 (F_C 2).2.2.1 ∈ TB) (d : decode cc pc = .ok (.getfield i, 3)) (h : G X k z (woCC (xt X) a b s) lv (.ref (a 3) :: st) (pc + 3)) : G X k z (woCC (xt X) a b s) lv (.ref (a 0) :: st) pc := g_getf C i_C (ci := 1) rfl 0 2 (v := .ref (a 3)) (Nat.le_of_ble_eq_true rfl) hlk rfl d rfl rfl h
theorem lCC1_lost (C : GC X cc own n R) {s : CSt × CSt} {f : Nat → Int32} (d : decode cc pc = .ok (.iaload, 1)) (e : C_lost (s.1) = f) (hN : j.toNatClampNeg = N0) (hin : vp_in j 10) (h : G X k z (woCC (xt X) a b s) lv (.int (f N0) :: st) (pc + 1)) : G X k z (woCC (xt X) a b s) lv (.int j :: .ref (a 3) :: st) pc := by subst e; subst hN; exact g_iaload C 3 d rfl hin h
theorem sCC1_lost (C : GC X cc own n R) {s : CSt × CSt} {c : CSt} (ec : s.1 = c)  {f : Nat → Int32} (d : decode cc pc = .ok (.iastore, 1)) (e : C_lost c = f) (hN : j.toNatClampNeg = N0) (hin : vp_in j 10) (h : G X k z (woCC (xt X) a b ((C_lost_ c (upd f N0 w), s.2))) lv st (pc + 1)) : G X k z (woCC (xt X) a b s) lv (.int w :: .int j :: .ref (a 3) :: st) pc := by subst ec; subst e; subst hN; exact g_iastore C 3 d rfl hin rfl h
theorem fCC1_kind (C : GC X cc own n R) {s : CSt × CSt} (hlk : Cond.fieldLink own i R_C (F_C 3).2.1 (F_C 3).2.2.1 ∈ TB) (d : decode cc pc = .ok (.getfield i, 3)) (h : G X k z (woCC (xt X) a b s) lv (.ref (a 4) :: st) (pc + 3)) : G X k z (woCC (xt X) a b s) lv (.ref (a 0) :: st) pc := g_getf C i_C (ci := 1) rfl 0 3 (v := .ref (a 4)) (Nat.le_of_ble_eq_true rfl) hlk rfl d rfl rfl h
theorem lCC1_kind (C : GC X cc own n R) {s : CSt × CSt} {f : Nat → Int32} (d : decode cc pc = .ok (.iaload, 1)) (e : C_kind (s.1) = f) (hN : j.toNatClampNeg = N0) (hin : vp_in j 8) (h : G X k z (woCC (xt X) a b s) lv (.int (f N0) :: st) (pc + 1)) : G X k z (woCC (xt X) a b s) lv (.int j :: .ref (a 4) :: st) pc := by subst e; subst hN; exact g_iaload C 4 d rfl hin h
theorem sCC1_kind (C : GC X cc own n R) {s : CSt × CSt} {c : CSt} (ec : s.1 = c)  {f : Nat → Int32} (d : decode cc pc = .ok (.iastore, 1)) (e : C_kind c = f) (hN : j.toNatClampNeg = N0) (hin : vp_in j 8) (h : G X k z (woCC (xt X) a b ((C_kind_ c (upd f N0 w), s.2))) lv st (pc + 1)) : G X k z (woCC (xt X) a b s) lv (.int w :: .int j :: .ref (a 4) :: st) pc := by subst ec; subst e; subst hN; exact g_iastore C 4 d rfl hin rfl h
theorem fCC1_load (C : GC X cc own n R) {s : CSt × CSt} (hlk : Cond.fieldLink own i R_C (F_C 4).2.1 (F_C 4).2.2.1 ∈ TB) (d : decode cc pc = .ok (.getfield i, 3)) (h : G X k z (woCC (xt X) a b s) lv (.ref (a 5) :: st) (pc + 3)) : G X k z (woCC (xt X) a b s) lv (.ref (a 0) :: st) pc := g_getf C i_C (ci := 1) rfl 0 4 (v := .ref (a 5)) (Nat.le_of_ble_eq_true rfl) hlk rfl d rfl rfl h
theorem lCC1_load (C : GC X cc own n R) {s : CSt × CSt} {f : Nat → Int32} (d : decode cc pc = .ok (.iaload, 1)) (e : C_load (s.1) = f) (hN : j.toNatClampNeg = N0) (hin : vp_in j 8) (h : G X k z (woCC (xt X) a b s) lv (.int (f N0) :: st) (pc + 1)) : G X k z (woCC (xt X) a b s) lv (.int j :: .ref (a 5) :: st) pc := by subst e; subst hN; exact g_iaload C 5 d rfl hin h
theorem sCC1_load (C : GC X cc own n R) {s : CSt × CSt} {c : CSt} (ec : s.1 = c)  {f : Nat → Int32} (d : decode cc pc = .ok (.iastore, 1)) (e : C_load c = f) (hN : j.toNatClampNeg = N0) (hin : vp_in j 8) (h : G X k z (woCC (xt X) a b ((C_load_ c (upd f N0 w), s.2))) lv st (pc + 1)) : G X k z (woCC (xt X) a b s) lv (.int w :: .int j :: .ref (a 5) :: st) pc := by subst ec; subst e; subst hN; exact g_iastore C 5 d rfl hin rfl h
theorem fCC1_sort (C : GC X cc own n R) {s : CSt × CSt} (hlk : Cond.fieldLink own i R_C (F_C 5).2.1 (F_C 5).2.2.1 ∈ TB) (d : decode cc pc = .ok (.getfield i, 3)) (h : G X k z (woCC (xt X) a b s) lv (.ref (a 6) :: st) (pc + 3)) : G X k z (woCC (xt X) a b s) lv (.ref (a 0) :: st) pc := g_getf C i_C (ci := 1) rfl 0 5 (v := .ref (a 6)) (Nat.le_of_ble_eq_true rfl) hlk rfl d rfl rfl h
theorem lCC1_sort (C : GC X cc own n R) {s : CSt × CSt} {f : Nat → Int32} (d : decode cc pc = .ok (.iaload, 1)) (e : C_sort (s.1) = f) (hN : j.toNatClampNeg = N0) (hin : vp_in j 8) (h : G X k z (woCC (xt X) a b s) lv (.int (f N0) :: st) (pc + 1)) : G X k z (woCC (xt X) a b s) lv (.int j :: .ref (a 6) :: st) pc := by subst e; subst hN; exact g_iaload C 6 d rfl hin h
theorem sCC1_sort (C : GC X cc own n R) {s : CSt × CSt} {c : CSt} (ec : s.1 = c)  {f : Nat → Int32} (d : decode cc pc = .ok (.iastore, 1)) (e : C_sort c = f) (hN : j.toNatClampNeg = N0) (hin : vp_in j 8) (h : G X k z (woCC (xt X) a b ((C_sort_ c (upd f N0 w), s.2))) lv st (pc + 1)) : G X k z (woCC (xt X) a b s) lv (.int w :: .int j :: .ref (a 6) :: st) pc := by subst ec; subst e; subst hN; exact g_iastore C 6 d rfl hin rfl h
theorem fCC1_at (C : GC X cc own n R) {s : CSt × CSt} (hlk : Cond.fieldLink own i R_C (F_C 6).2.1 (F_C 6).2.2.1 ∈ TB) (d : decode cc pc = .ok (.getfield i, 3)) (h : G X k z (woCC (xt X) a b s) lv (.ref (a 7) :: st) (pc + 3)) : G X k z (woCC (xt X) a b s) lv (.ref (a 0) :: st) pc := g_getf C i_C (ci := 1) rfl 0 6 (v := .ref (a 7)) (Nat.le_of_ble_eq_true rfl) hlk rfl d rfl rfl h
theorem lCC1_at (C : GC X cc own n R) {s : CSt × CSt} {f : Nat → Int32} (d : decode cc pc = .ok (.iaload, 1)) (e : C_at (s.1) = f) (hN : j.toNatClampNeg = N0) (hin : vp_in j 8) (h : G X k z (woCC (xt X) a b s) lv (.int (f N0) :: st) (pc + 1)) : G X k z (woCC (xt X) a b s) lv (.int j :: .ref (a 7) :: st) pc := by subst e; subst hN; exact g_iaload C 7 d rfl hin h
theorem sCC1_at (C : GC X cc own n R) {s : CSt × CSt} {c : CSt} (ec : s.1 = c)  {f : Nat → Int32} (d : decode cc pc = .ok (.iastore, 1)) (e : C_at c = f) (hN : j.toNatClampNeg = N0) (hin : vp_in j 8) (h : G X k z (woCC (xt X) a b ((C_at_ c (upd f N0 w), s.2))) lv st (pc + 1)) : G X k z (woCC (xt X) a b s) lv (.int w :: .int j :: .ref (a 7) :: st) pc := by subst ec; subst e; subst hN; exact g_iastore C 7 d rfl hin rfl h
theorem fCC1_bound (C : GC X cc own n R) {s : CSt × CSt} (hlk : Cond.fieldLink own i R_C (F_C 7).2.1 (F_C 7).2.2.1 ∈ TB) (d : decode cc pc = .ok (.getfield i, 3)) (h : G X k z (woCC (xt X) a b s) lv (.ref (a 8) :: st) (pc + 3)) : G X k z (woCC (xt X) a b s) lv (.ref (a 0) :: st) pc := g_getf C i_C (ci := 1) rfl 0 7 (v := .ref (a 8)) (Nat.le_of_ble_eq_true rfl) hlk rfl d rfl rfl h
theorem lCC1_bound (C : GC X cc own n R) {s : CSt × CSt} {f : Nat → Int32} (d : decode cc pc = .ok (.iaload, 1)) (e : C_bound (s.1) = f) (hN : j.toNatClampNeg = N0) (hin : vp_in j 8) (h : G X k z (woCC (xt X) a b s) lv (.int (f N0) :: st) (pc + 1)) : G X k z (woCC (xt X) a b s) lv (.int j :: .ref (a 8) :: st) pc := by subst e; subst hN; exact g_iaload C 8 d rfl hin h
theorem sCC1_bound (C : GC X cc own n R) {s : CSt × CSt} {c : CSt} (ec : s.1 = c)  {f : Nat → Int32} (d : decode cc pc = .ok (.iastore, 1)) (e : C_bound c = f) (hN : j.toNatClampNeg = N0) (hin : vp_in j 8) (h : G X k z (woCC (xt X) a b ((C_bound_ c (upd f N0 w), s.2))) lv st (pc + 1)) : G X k z (woCC (xt X) a b s) lv (.int w :: .int j :: .ref (a 8) :: st) pc := by subst ec; subst e; subst hN; exact g_iastore C 8 d rfl hin rfl h
theorem fCC1_count (C : GC X cc own n R) {s : CSt × CSt} (hlk : Cond.fieldLink own i R_C (F_C 8).2.1 (F_C 8).2.2.1 ∈ TB) (d : decode cc pc = .ok (.getfield i, 3)) (e : C_count (s.1) = v) (h : G X k z (woCC (xt X) a b s) lv (.int v :: st) (pc + 3)) : G X k z (woCC (xt X) a b s) lv (.ref (a 0) :: st) pc := g_getf C i_C (ci := 1) rfl 0 8 (v := .int v) (Nat.le_of_ble_eq_true rfl) hlk rfl d rfl (by subst e; rfl) h
theorem pCC1_count (C : GC X cc own n R) {s : CSt × CSt} {c : CSt} (ec : s.1 = c) (hlk : Cond.fieldLink own i R_C (F_C 8).2.1 (F_C 8).2.2.1 ∈ TB) (d : decode cc pc = .ok (.putfield i, 3))  (h : G X k z (woCC (xt X) a b ((C_count_ c v, s.2))) lv st (pc + 3)) : G X k z (woCC (xt X) a b s) lv (.int v :: .ref (a 0) :: st) pc := by subst ec; exact g_putf C i_C (ci := 1) rfl ty_C ty_C_ok n_C 0 8 (Nat.le_of_ble_eq_true rfl) hlk rfl rfl d rfl rfl rfl (Nat.le_of_ble_eq_true rfl) rfl h
theorem fCC1_hour (C : GC X cc own n R) {s : CSt × CSt} (hlk : Cond.fieldLink own i R_C (F_C 9).2.1 (F_C 9).2.2.1 ∈ TB) (d : decode cc pc = .ok (.getfield i, 3)) (e : C_hour (s.1) = v) (h : G X k z (woCC (xt X) a b s) lv (.int v :: st) (pc + 3)) : G X k z (woCC (xt X) a b s) lv (.ref (a 0) :: st) pc := g_getf C i_C (ci := 1) rfl 0 9 (v := .int v) (Nat.le_of_ble_eq_true rfl) hlk rfl d rfl (by subst e; rfl) h
theorem pCC1_hour (C : GC X cc own n R) {s : CSt × CSt} {c : CSt} (ec : s.1 = c) (hlk : Cond.fieldLink own i R_C (F_C 9).2.1 (F_C 9).2.2.1 ∈ TB) (d : decode cc pc = .ok (.putfield i, 3))  (h : G X k z (woCC (xt X) a b ((C_hour_ c v, s.2))) lv st (pc + 3)) : G X k z (woCC (xt X) a b s) lv (.int v :: .ref (a 0) :: st) pc := by subst ec; exact g_putf C i_C (ci := 1) rfl ty_C ty_C_ok n_C 0 9 (Nat.le_of_ble_eq_true rfl) hlk rfl rfl d rfl rfl rfl (Nat.le_of_ble_eq_true rfl) rfl h
theorem fCC1_z (C : GC X cc own n R) {s : CSt × CSt} (hlk : Cond.fieldLink own i R_C (F_C 10).2.1 (F_C 10).2.2.1 ∈ TB) (d : decode cc pc = .ok (.getfield i, 3)) (e : C_z (s.1) = v) (h : G X k z (woCC (xt X) a b s) lv (.int v :: st) (pc + 3)) : G X k z (woCC (xt X) a b s) lv (.ref (a 0) :: st) pc := g_getf C i_C (ci := 1) rfl 0 10 (v := .int v) (Nat.le_of_ble_eq_true rfl) hlk rfl d rfl (by subst e; rfl) h
theorem pCC1_z (C : GC X cc own n R) {s : CSt × CSt} {c : CSt} (ec : s.1 = c) (hlk : Cond.fieldLink own i R_C (F_C 10).2.1 (F_C 10).2.2.1 ∈ TB) (d : decode cc pc = .ok (.putfield i, 3))  (h : G X k z (woCC (xt X) a b ((C_z_ c v, s.2))) lv st (pc + 3)) : G X k z (woCC (xt X) a b s) lv (.int v :: .ref (a 0) :: st) pc := by subst ec; exact g_putf C i_C (ci := 1) rfl ty_C ty_C_ok n_C 0 10 (Nat.le_of_ble_eq_true rfl) hlk rfl rfl d rfl rfl rfl (Nat.le_of_ble_eq_true rfl) rfl h
theorem fCC1_heldBack (C : GC X cc own n R) {s : CSt × CSt} (hlk : Cond.fieldLink own i R_C (F_C 11).2.1 (F_C 11).2.2.1 ∈ TB) (d : decode cc pc = .ok (.getfield i, 3)) (e : C_heldBack (s.1) = v) (h : G X k z (woCC (xt X) a b s) lv (.int v :: st) (pc + 3)) : G X k z (woCC (xt X) a b s) lv (.ref (a 0) :: st) pc := g_getf C i_C (ci := 1) rfl 0 11 (v := .int v) (Nat.le_of_ble_eq_true rfl) hlk rfl d rfl (by subst e; rfl) h
theorem pCC1_heldBack (C : GC X cc own n R) {s : CSt × CSt} {c : CSt} (ec : s.1 = c) (hlk : Cond.fieldLink own i R_C (F_C 11).2.1 (F_C 11).2.2.1 ∈ TB) (d : decode cc pc = .ok (.putfield i, 3))  (h : G X k z (woCC (xt X) a b ((C_heldBack_ c v, s.2))) lv st (pc + 3)) : G X k z (woCC (xt X) a b s) lv (.int v :: .ref (a 0) :: st) pc := by subst ec; exact g_putf C i_C (ci := 1) rfl ty_C ty_C_ok n_C 0 11 (Nat.le_of_ble_eq_true rfl) hlk rfl rfl d rfl rfl rfl (Nat.le_of_ble_eq_true rfl) rfl h
theorem fCC2_laws (C : GC X cc own n R) {s : CSt × CSt} (hlk : Cond.fieldLink own i R_C (F_C 0).2.1 (F_C 0).2.2.1 ∈ TB) (d : decode cc pc = .ok (.getfield i, 3)) (h : G X k z (woCC (xt X) a b s) lv (.ref (b 1) :: st) (pc + 3)) : G X k z (woCC (xt X) a b s) lv (.ref (b 0) :: st) pc := g_getf C i_C (ci := 1) rfl 9 0 (v := .ref (b 1)) (Nat.le_of_ble_eq_true rfl) hlk rfl d rfl rfl h
theorem lCC2_laws (C : GC X cc own n R) {s : CSt × CSt} {f : Nat → Int32} (d : decode cc pc = .ok (.iaload, 1)) (e : C_laws (s.2) = f) (hN : j.toNatClampNeg = N0) (hin : vp_in j 4) (h : G X k z (woCC (xt X) a b s) lv (.int (f N0) :: st) (pc + 1)) : G X k z (woCC (xt X) a b s) lv (.int j :: .ref (b 1) :: st) pc := by subst e; subst hN; exact g_iaload C 10 d rfl hin h
theorem sCC2_laws (C : GC X cc own n R) {s : CSt × CSt} {c : CSt} (ec : s.2 = c)  {f : Nat → Int32} (d : decode cc pc = .ok (.iastore, 1)) (e : C_laws c = f) (hN : j.toNatClampNeg = N0) (hin : vp_in j 4) (h : G X k z (woCC (xt X) a b ((s.1, C_laws_ c (upd f N0 w)))) lv st (pc + 1)) : G X k z (woCC (xt X) a b s) lv (.int w :: .int j :: .ref (b 1) :: st) pc := by subst ec; subst e; subst hN; exact g_iastore C 10 d rfl hin rfl h
theorem fCC2_noise (C : GC X cc own n R) {s : CSt × CSt} (hlk : Cond.fieldLink own i R_C (F_C 1).2.1 (F_C 1).2.2.1 ∈ TB) (d : decode cc pc = .ok (.getfield i, 3)) (h : G X k z (woCC (xt X) a b s) lv (.ref (b 2) :: st) (pc + 3)) : G X k z (woCC (xt X) a b s) lv (.ref (b 0) :: st) pc := g_getf C i_C (ci := 1) rfl 9 1 (v := .ref (b 2)) (Nat.le_of_ble_eq_true rfl) hlk rfl d rfl rfl h
theorem lCC2_noise (C : GC X cc own n R) {s : CSt × CSt} {f : Nat → Int32} (d : decode cc pc = .ok (.iaload, 1)) (e : C_noise (s.2) = f) (hN : j.toNatClampNeg = N0) (hin : vp_in j 10) (h : G X k z (woCC (xt X) a b s) lv (.int (f N0) :: st) (pc + 1)) : G X k z (woCC (xt X) a b s) lv (.int j :: .ref (b 2) :: st) pc := by subst e; subst hN; exact g_iaload C 11 d rfl hin h
theorem sCC2_noise (C : GC X cc own n R) {s : CSt × CSt} {c : CSt} (ec : s.2 = c)  {f : Nat → Int32} (d : decode cc pc = .ok (.iastore, 1)) (e : C_noise c = f) (hN : j.toNatClampNeg = N0) (hin : vp_in j 10) (h : G X k z (woCC (xt X) a b ((s.1, C_noise_ c (upd f N0 w)))) lv st (pc + 1)) : G X k z (woCC (xt X) a b s) lv (.int w :: .int j :: .ref (b 2) :: st) pc := by subst ec; subst e; subst hN; exact g_iastore C 11 d rfl hin rfl h
theorem fCC2_lost (C : GC X cc own n R) {s : CSt × CSt} (hlk : Cond.fieldLink own i R_C (F_C 2).2.1 (F_C 2).2.2.1 ∈ TB) (d : decode cc pc = .ok (.getfield i, 3)) (h : G X k z (woCC (xt X) a b s) lv (.ref (b 3) :: st) (pc + 3)) : G X k z (woCC (xt X) a b s) lv (.ref (b 0) :: st) pc := g_getf C i_C (ci := 1) rfl 9 2 (v := .ref (b 3)) (Nat.le_of_ble_eq_true rfl) hlk rfl d rfl rfl h
theorem lCC2_lost (C : GC X cc own n R) {s : CSt × CSt} {f : Nat → Int32} (d : decode cc pc = .ok (.iaload, 1)) (e : C_lost (s.2) = f) (hN : j.toNatClampNeg = N0) (hin : vp_in j 10) (h : G X k z (woCC (xt X) a b s) lv (.int (f N0) :: st) (pc + 1)) : G X k z (woCC (xt X) a b s) lv (.int j :: .ref (b 3) :: st) pc := by subst e; subst hN; exact g_iaload C 12 d rfl hin h
theorem sCC2_lost (C : GC X cc own n R) {s : CSt × CSt} {c : CSt} (ec : s.2 = c)  {f : Nat → Int32} (d : decode cc pc = .ok (.iastore, 1)) (e : C_lost c = f) (hN : j.toNatClampNeg = N0) (hin : vp_in j 10) (h : G X k z (woCC (xt X) a b ((s.1, C_lost_ c (upd f N0 w)))) lv st (pc + 1)) : G X k z (woCC (xt X) a b s) lv (.int w :: .int j :: .ref (b 3) :: st) pc := by subst ec; subst e; subst hN; exact g_iastore C 12 d rfl hin rfl h
theorem fCC2_kind (C : GC X cc own n R) {s : CSt × CSt} (hlk : Cond.fieldLink own i R_C (F_C 3).2.1 (F_C 3).2.2.1 ∈ TB) (d : decode cc pc = .ok (.getfield i, 3)) (h : G X k z (woCC (xt X) a b s) lv (.ref (b 4) :: st) (pc + 3)) : G X k z (woCC (xt X) a b s) lv (.ref (b 0) :: st) pc := g_getf C i_C (ci := 1) rfl 9 3 (v := .ref (b 4)) (Nat.le_of_ble_eq_true rfl) hlk rfl d rfl rfl h
theorem lCC2_kind (C : GC X cc own n R) {s : CSt × CSt} {f : Nat → Int32} (d : decode cc pc = .ok (.iaload, 1)) (e : C_kind (s.2) = f) (hN : j.toNatClampNeg = N0) (hin : vp_in j 8) (h : G X k z (woCC (xt X) a b s) lv (.int (f N0) :: st) (pc + 1)) : G X k z (woCC (xt X) a b s) lv (.int j :: .ref (b 4) :: st) pc := by subst e; subst hN; exact g_iaload C 13 d rfl hin h
theorem sCC2_kind (C : GC X cc own n R) {s : CSt × CSt} {c : CSt} (ec : s.2 = c)  {f : Nat → Int32} (d : decode cc pc = .ok (.iastore, 1)) (e : C_kind c = f) (hN : j.toNatClampNeg = N0) (hin : vp_in j 8) (h : G X k z (woCC (xt X) a b ((s.1, C_kind_ c (upd f N0 w)))) lv st (pc + 1)) : G X k z (woCC (xt X) a b s) lv (.int w :: .int j :: .ref (b 4) :: st) pc := by subst ec; subst e; subst hN; exact g_iastore C 13 d rfl hin rfl h
theorem fCC2_load (C : GC X cc own n R) {s : CSt × CSt} (hlk : Cond.fieldLink own i R_C (F_C 4).2.1 (F_C 4).2.2.1 ∈ TB) (d : decode cc pc = .ok (.getfield i, 3)) (h : G X k z (woCC (xt X) a b s) lv (.ref (b 5) :: st) (pc + 3)) : G X k z (woCC (xt X) a b s) lv (.ref (b 0) :: st) pc := g_getf C i_C (ci := 1) rfl 9 4 (v := .ref (b 5)) (Nat.le_of_ble_eq_true rfl) hlk rfl d rfl rfl h
theorem lCC2_load (C : GC X cc own n R) {s : CSt × CSt} {f : Nat → Int32} (d : decode cc pc = .ok (.iaload, 1)) (e : C_load (s.2) = f) (hN : j.toNatClampNeg = N0) (hin : vp_in j 8) (h : G X k z (woCC (xt X) a b s) lv (.int (f N0) :: st) (pc + 1)) : G X k z (woCC (xt X) a b s) lv (.int j :: .ref (b 5) :: st) pc := by subst e; subst hN; exact g_iaload C 14 d rfl hin h
theorem sCC2_load (C : GC X cc own n R) {s : CSt × CSt} {c : CSt} (ec : s.2 = c)  {f : Nat → Int32} (d : decode cc pc = .ok (.iastore, 1)) (e : C_load c = f) (hN : j.toNatClampNeg = N0) (hin : vp_in j 8) (h : G X k z (woCC (xt X) a b ((s.1, C_load_ c (upd f N0 w)))) lv st (pc + 1)) : G X k z (woCC (xt X) a b s) lv (.int w :: .int j :: .ref (b 5) :: st) pc := by subst ec; subst e; subst hN; exact g_iastore C 14 d rfl hin rfl h
theorem fCC2_sort (C : GC X cc own n R) {s : CSt × CSt} (hlk : Cond.fieldLink own i R_C (F_C 5).2.1 (F_C 5).2.2.1 ∈ TB) (d : decode cc pc = .ok (.getfield i, 3)) (h : G X k z (woCC (xt X) a b s) lv (.ref (b 6) :: st) (pc + 3)) : G X k z (woCC (xt X) a b s) lv (.ref (b 0) :: st) pc := g_getf C i_C (ci := 1) rfl 9 5 (v := .ref (b 6)) (Nat.le_of_ble_eq_true rfl) hlk rfl d rfl rfl h
theorem lCC2_sort (C : GC X cc own n R) {s : CSt × CSt} {f : Nat → Int32} (d : decode cc pc = .ok (.iaload, 1)) (e : C_sort (s.2) = f) (hN : j.toNatClampNeg = N0) (hin : vp_in j 8) (h : G X k z (woCC (xt X) a b s) lv (.int (f N0) :: st) (pc + 1)) : G X k z (woCC (xt X) a b s) lv (.int j :: .ref (b 6) :: st) pc := by subst e; subst hN; exact g_iaload C 15 d rfl hin h
theorem sCC2_sort (C : GC X cc own n R) {s : CSt × CSt} {c : CSt} (ec : s.2 = c)  {f : Nat → Int32} (d : decode cc pc = .ok (.iastore, 1)) (e : C_sort c = f) (hN : j.toNatClampNeg = N0) (hin : vp_in j 8) (h : G X k z (woCC (xt X) a b ((s.1, C_sort_ c (upd f N0 w)))) lv st (pc + 1)) : G X k z (woCC (xt X) a b s) lv (.int w :: .int j :: .ref (b 6) :: st) pc := by subst ec; subst e; subst hN; exact g_iastore C 15 d rfl hin rfl h
theorem fCC2_at (C : GC X cc own n R) {s : CSt × CSt} (hlk : Cond.fieldLink own i R_C (F_C 6).2.1 (F_C 6).2.2.1 ∈ TB) (d : decode cc pc = .ok (.getfield i, 3)) (h : G X k z (woCC (xt X) a b s) lv (.ref (b 7) :: st) (pc + 3)) : G X k z (woCC (xt X) a b s) lv (.ref (b 0) :: st) pc := g_getf C i_C (ci := 1) rfl 9 6 (v := .ref (b 7)) (Nat.le_of_ble_eq_true rfl) hlk rfl d rfl rfl h
theorem lCC2_at (C : GC X cc own n R) {s : CSt × CSt} {f : Nat → Int32} (d : decode cc pc = .ok (.iaload, 1)) (e : C_at (s.2) = f) (hN : j.toNatClampNeg = N0) (hin : vp_in j 8) (h : G X k z (woCC (xt X) a b s) lv (.int (f N0) :: st) (pc + 1)) : G X k z (woCC (xt X) a b s) lv (.int j :: .ref (b 7) :: st) pc := by subst e; subst hN; exact g_iaload C 16 d rfl hin h
theorem sCC2_at (C : GC X cc own n R) {s : CSt × CSt} {c : CSt} (ec : s.2 = c)  {f : Nat → Int32} (d : decode cc pc = .ok (.iastore, 1)) (e : C_at c = f) (hN : j.toNatClampNeg = N0) (hin : vp_in j 8) (h : G X k z (woCC (xt X) a b ((s.1, C_at_ c (upd f N0 w)))) lv st (pc + 1)) : G X k z (woCC (xt X) a b s) lv (.int w :: .int j :: .ref (b 7) :: st) pc := by subst ec; subst e; subst hN; exact g_iastore C 16 d rfl hin rfl h
theorem fCC2_bound (C : GC X cc own n R) {s : CSt × CSt} (hlk : Cond.fieldLink own i R_C (F_C 7).2.1 (F_C 7).2.2.1 ∈ TB) (d : decode cc pc = .ok (.getfield i, 3)) (h : G X k z (woCC (xt X) a b s) lv (.ref (b 8) :: st) (pc + 3)) : G X k z (woCC (xt X) a b s) lv (.ref (b 0) :: st) pc := g_getf C i_C (ci := 1) rfl 9 7 (v := .ref (b 8)) (Nat.le_of_ble_eq_true rfl) hlk rfl d rfl rfl h
theorem lCC2_bound (C : GC X cc own n R) {s : CSt × CSt} {f : Nat → Int32} (d : decode cc pc = .ok (.iaload, 1)) (e : C_bound (s.2) = f) (hN : j.toNatClampNeg = N0) (hin : vp_in j 8) (h : G X k z (woCC (xt X) a b s) lv (.int (f N0) :: st) (pc + 1)) : G X k z (woCC (xt X) a b s) lv (.int j :: .ref (b 8) :: st) pc := by subst e; subst hN; exact g_iaload C 17 d rfl hin h
theorem sCC2_bound (C : GC X cc own n R) {s : CSt × CSt} {c : CSt} (ec : s.2 = c)  {f : Nat → Int32} (d : decode cc pc = .ok (.iastore, 1)) (e : C_bound c = f) (hN : j.toNatClampNeg = N0) (hin : vp_in j 8) (h : G X k z (woCC (xt X) a b ((s.1, C_bound_ c (upd f N0 w)))) lv st (pc + 1)) : G X k z (woCC (xt X) a b s) lv (.int w :: .int j :: .ref (b 8) :: st) pc := by subst ec; subst e; subst hN; exact g_iastore C 17 d rfl hin rfl h
theorem fCC2_count (C : GC X cc own n R) {s : CSt × CSt} (hlk : Cond.fieldLink own i R_C (F_C 8).2.1 (F_C 8).2.2.1 ∈ TB) (d : decode cc pc = .ok (.getfield i, 3)) (e : C_count (s.2) = v) (h : G X k z (woCC (xt X) a b s) lv (.int v :: st) (pc + 3)) : G X k z (woCC (xt X) a b s) lv (.ref (b 0) :: st) pc := g_getf C i_C (ci := 1) rfl 9 8 (v := .int v) (Nat.le_of_ble_eq_true rfl) hlk rfl d rfl (by subst e; rfl) h
theorem pCC2_count (C : GC X cc own n R) {s : CSt × CSt} {c : CSt} (ec : s.2 = c) (hlk : Cond.fieldLink own i R_C (F_C 8).2.1 (F_C 8).2.2.1 ∈ TB) (d : decode cc pc = .ok (.putfield i, 3))  (h : G X k z (woCC (xt X) a b ((s.1, C_count_ c v))) lv st (pc + 3)) : G X k z (woCC (xt X) a b s) lv (.int v :: .ref (b 0) :: st) pc := by subst ec; exact g_putf C i_C (ci := 1) rfl ty_C ty_C_ok n_C 9 8 (Nat.le_of_ble_eq_true rfl) hlk rfl rfl d rfl rfl rfl (Nat.le_of_ble_eq_true rfl) rfl h
theorem fCC2_hour (C : GC X cc own n R) {s : CSt × CSt} (hlk : Cond.fieldLink own i R_C (F_C 9).2.1 (F_C 9).2.2.1 ∈ TB) (d : decode cc pc = .ok (.getfield i, 3)) (e : C_hour (s.2) = v) (h : G X k z (woCC (xt X) a b s) lv (.int v :: st) (pc + 3)) : G X k z (woCC (xt X) a b s) lv (.ref (b 0) :: st) pc := g_getf C i_C (ci := 1) rfl 9 9 (v := .int v) (Nat.le_of_ble_eq_true rfl) hlk rfl d rfl (by subst e; rfl) h
theorem pCC2_hour (C : GC X cc own n R) {s : CSt × CSt} {c : CSt} (ec : s.2 = c) (hlk : Cond.fieldLink own i R_C (F_C 9).2.1 (F_C 9).2.2.1 ∈ TB) (d : decode cc pc = .ok (.putfield i, 3))  (h : G X k z (woCC (xt X) a b ((s.1, C_hour_ c v))) lv st (pc + 3)) : G X k z (woCC (xt X) a b s) lv (.int v :: .ref (b 0) :: st) pc := by subst ec; exact g_putf C i_C (ci := 1) rfl ty_C ty_C_ok n_C 9 9 (Nat.le_of_ble_eq_true rfl) hlk rfl rfl d rfl rfl rfl (Nat.le_of_ble_eq_true rfl) rfl h
theorem fCC2_z (C : GC X cc own n R) {s : CSt × CSt} (hlk : Cond.fieldLink own i R_C (F_C 10).2.1 (F_C 10).2.2.1 ∈ TB) (d : decode cc pc = .ok (.getfield i, 3)) (e : C_z (s.2) = v) (h : G X k z (woCC (xt X) a b s) lv (.int v :: st) (pc + 3)) : G X k z (woCC (xt X) a b s) lv (.ref (b 0) :: st) pc := g_getf C i_C (ci := 1) rfl 9 10 (v := .int v) (Nat.le_of_ble_eq_true rfl) hlk rfl d rfl (by subst e; rfl) h
theorem pCC2_z (C : GC X cc own n R) {s : CSt × CSt} {c : CSt} (ec : s.2 = c) (hlk : Cond.fieldLink own i R_C (F_C 10).2.1 (F_C 10).2.2.1 ∈ TB) (d : decode cc pc = .ok (.putfield i, 3))  (h : G X k z (woCC (xt X) a b ((s.1, C_z_ c v))) lv st (pc + 3)) : G X k z (woCC (xt X) a b s) lv (.int v :: .ref (b 0) :: st) pc := by subst ec; exact g_putf C i_C (ci := 1) rfl ty_C ty_C_ok n_C 9 10 (Nat.le_of_ble_eq_true rfl) hlk rfl rfl d rfl rfl rfl (Nat.le_of_ble_eq_true rfl) rfl h
theorem fCC2_heldBack (C : GC X cc own n R) {s : CSt × CSt} (hlk : Cond.fieldLink own i R_C (F_C 11).2.1 (F_C 11).2.2.1 ∈ TB) (d : decode cc pc = .ok (.getfield i, 3)) (e : C_heldBack (s.2) = v) (h : G X k z (woCC (xt X) a b s) lv (.int v :: st) (pc + 3)) : G X k z (woCC (xt X) a b s) lv (.ref (b 0) :: st) pc := g_getf C i_C (ci := 1) rfl 9 11 (v := .int v) (Nat.le_of_ble_eq_true rfl) hlk rfl d rfl (by subst e; rfl) h
theorem pCC2_heldBack (C : GC X cc own n R) {s : CSt × CSt} {c : CSt} (ec : s.2 = c) (hlk : Cond.fieldLink own i R_C (F_C 11).2.1 (F_C 11).2.2.1 ∈ TB) (d : decode cc pc = .ok (.putfield i, 3))  (h : G X k z (woCC (xt X) a b ((s.1, C_heldBack_ c v))) lv st (pc + 3)) : G X k z (woCC (xt X) a b s) lv (.int v :: .ref (b 0) :: st) pc := by subst ec; exact g_putf C i_C (ci := 1) rfl ty_C ty_C_ok n_C 9 11 (Nat.le_of_ble_eq_true rfl) hlk rfl rfl d rfl rfl rfl (Nat.le_of_ble_eq_true rfl) rfl h
theorem fTC1_bytes (C : GC X cc own n R) {s : TSt × CSt} (hlk : Cond.fieldLink own i R_T (F_T 0).2.1 (F_T 0).2.2.1 ∈ TB) (d : decode cc pc = .ok (.getfield i, 3)) (h : G X k z (woTC (xt X) a b s) lv (.ref (a 1) :: st) (pc + 3)) : G X k z (woTC (xt X) a b s) lv (.ref (a 0) :: st) pc := g_getf C i_T (ci := 4) rfl 0 0 (v := .ref (a 1)) (Nat.le_of_ble_eq_true rfl) hlk rfl d rfl rfl h
theorem lTC1_bytes (C : GC X cc own n R) {s : TSt × CSt} {f : Nat → Int32} (d : decode cc pc = .ok (.baload, 1)) (e : T_bytes (s.1) = f) (hN : j.toNatClampNeg = N0) (hin : vp_in j 200) (h : G X k z (woTC (xt X) a b s) lv (.int (f N0) :: st) (pc + 1)) : G X k z (woTC (xt X) a b s) lv (.int j :: .ref (a 1) :: st) pc := by subst e; subst hN; exact g_baload C 1 d rfl hin h
theorem sTC1_bytes (C : GC X cc own n R) {s : TSt × CSt} {c : TSt} (ec : s.1 = c)  {f : Nat → Int32} (d : decode cc pc = .ok (.bastore, 1)) (e : T_bytes c = f) (hN : j.toNatClampNeg = N0) (hin : vp_in j 200) (h : G X k z (woTC (xt X) a b ((T_bytes_ c (upd f N0 (vp_nar .byte w)), s.2))) lv st (pc + 1)) : G X k z (woTC (xt X) a b s) lv (.int w :: .int j :: .ref (a 1) :: st) pc := by subst ec; subst e; subst hN; exact g_bastore C 1 d rfl hin rfl h
theorem fTC1_size (C : GC X cc own n R) {s : TSt × CSt} (hlk : Cond.fieldLink own i R_T (F_T 1).2.1 (F_T 1).2.2.1 ∈ TB) (d : decode cc pc = .ok (.getfield i, 3)) (e : T_size (s.1) = v) (h : G X k z (woTC (xt X) a b s) lv (.int v :: st) (pc + 3)) : G X k z (woTC (xt X) a b s) lv (.ref (a 0) :: st) pc := g_getf C i_T (ci := 4) rfl 0 1 (v := .int v) (Nat.le_of_ble_eq_true rfl) hlk rfl d rfl (by subst e; rfl) h
theorem pTC1_size (C : GC X cc own n R) {s : TSt × CSt} {c : TSt} (ec : s.1 = c) (hlk : Cond.fieldLink own i R_T (F_T 1).2.1 (F_T 1).2.2.1 ∈ TB) (d : decode cc pc = .ok (.putfield i, 3))  (h : G X k z (woTC (xt X) a b ((T_size_ c v, s.2))) lv st (pc + 3)) : G X k z (woTC (xt X) a b s) lv (.int v :: .ref (a 0) :: st) pc := by subst ec; exact g_putf C i_T (ci := 4) rfl ty_T ty_T_ok n_T 0 1 (Nat.le_of_ble_eq_true rfl) hlk rfl rfl d rfl rfl rfl (Nat.le_of_ble_eq_true rfl) rfl h
theorem fTC1_sort (C : GC X cc own n R) {s : TSt × CSt} (hlk : Cond.fieldLink own i R_T (F_T 2).2.1 (F_T 2).2.2.1 ∈ TB) (d : decode cc pc = .ok (.getfield i, 3)) (e : T_sort (s.1) = v) (h : G X k z (woTC (xt X) a b s) lv (.int v :: st) (pc + 3)) : G X k z (woTC (xt X) a b s) lv (.ref (a 0) :: st) pc := g_getf C i_T (ci := 4) rfl 0 2 (v := .int v) (Nat.le_of_ble_eq_true rfl) hlk rfl d rfl (by subst e; rfl) h
theorem pTC1_sort (C : GC X cc own n R) {s : TSt × CSt} {c : TSt} (ec : s.1 = c) (hlk : Cond.fieldLink own i R_T (F_T 2).2.1 (F_T 2).2.2.1 ∈ TB) (d : decode cc pc = .ok (.putfield i, 3))  (h : G X k z (woTC (xt X) a b ((T_sort_ c v, s.2))) lv st (pc + 3)) : G X k z (woTC (xt X) a b s) lv (.int v :: .ref (a 0) :: st) pc := by subst ec; exact g_putf C i_T (ci := 4) rfl ty_T ty_T_ok n_T 0 2 (Nat.le_of_ble_eq_true rfl) hlk rfl rfl d rfl rfl rfl (Nat.le_of_ble_eq_true rfl) rfl h
theorem fTC1_start (C : GC X cc own n R) {s : TSt × CSt} (hlk : Cond.fieldLink own i R_T (F_T 3).2.1 (F_T 3).2.2.1 ∈ TB) (d : decode cc pc = .ok (.getfield i, 3)) (e : T_start (s.1) = v) (h : G X k z (woTC (xt X) a b s) lv (.int v :: st) (pc + 3)) : G X k z (woTC (xt X) a b s) lv (.ref (a 0) :: st) pc := g_getf C i_T (ci := 4) rfl 0 3 (v := .int v) (Nat.le_of_ble_eq_true rfl) hlk rfl d rfl (by subst e; rfl) h
theorem pTC1_start (C : GC X cc own n R) {s : TSt × CSt} {c : TSt} (ec : s.1 = c) (hlk : Cond.fieldLink own i R_T (F_T 3).2.1 (F_T 3).2.2.1 ∈ TB) (d : decode cc pc = .ok (.putfield i, 3))  (h : G X k z (woTC (xt X) a b ((T_start_ c v, s.2))) lv st (pc + 3)) : G X k z (woTC (xt X) a b s) lv (.int v :: .ref (a 0) :: st) pc := by subst ec; exact g_putf C i_T (ci := 4) rfl ty_T ty_T_ok n_T 0 3 (Nat.le_of_ble_eq_true rfl) hlk rfl rfl d rfl rfl rfl (Nat.le_of_ble_eq_true rfl) rfl h
theorem fTC1_end (C : GC X cc own n R) {s : TSt × CSt} (hlk : Cond.fieldLink own i R_T (F_T 4).2.1 (F_T 4).2.2.1 ∈ TB) (d : decode cc pc = .ok (.getfield i, 3)) (e : T_end (s.1) = v) (h : G X k z (woTC (xt X) a b s) lv (.int v :: st) (pc + 3)) : G X k z (woTC (xt X) a b s) lv (.ref (a 0) :: st) pc := g_getf C i_T (ci := 4) rfl 0 4 (v := .int v) (Nat.le_of_ble_eq_true rfl) hlk rfl d rfl (by subst e; rfl) h
theorem pTC1_end (C : GC X cc own n R) {s : TSt × CSt} {c : TSt} (ec : s.1 = c) (hlk : Cond.fieldLink own i R_T (F_T 4).2.1 (F_T 4).2.2.1 ∈ TB) (d : decode cc pc = .ok (.putfield i, 3))  (h : G X k z (woTC (xt X) a b ((T_end_ c v, s.2))) lv st (pc + 3)) : G X k z (woTC (xt X) a b s) lv (.int v :: .ref (a 0) :: st) pc := by subst ec; exact g_putf C i_T (ci := 4) rfl ty_T ty_T_ok n_T 0 4 (Nat.le_of_ble_eq_true rfl) hlk rfl rfl d rfl rfl rfl (Nat.le_of_ble_eq_true rfl) rfl h
theorem fTC2_laws (C : GC X cc own n R) {s : TSt × CSt} (hlk : Cond.fieldLink own i R_C (F_C 0).2.1 (F_C 0).2.2.1 ∈ TB) (d : decode cc pc = .ok (.getfield i, 3)) (h : G X k z (woTC (xt X) a b s) lv (.ref (b 1) :: st) (pc + 3)) : G X k z (woTC (xt X) a b s) lv (.ref (b 0) :: st) pc := g_getf C i_C (ci := 1) rfl 2 0 (v := .ref (b 1)) (Nat.le_of_ble_eq_true rfl) hlk rfl d rfl rfl h
theorem lTC2_laws (C : GC X cc own n R) {s : TSt × CSt} {f : Nat → Int32} (d : decode cc pc = .ok (.iaload, 1)) (e : C_laws (s.2) = f) (hN : j.toNatClampNeg = N0) (hin : vp_in j 4) (h : G X k z (woTC (xt X) a b s) lv (.int (f N0) :: st) (pc + 1)) : G X k z (woTC (xt X) a b s) lv (.int j :: .ref (b 1) :: st) pc := by subst e; subst hN; exact g_iaload C 3 d rfl hin h
theorem sTC2_laws (C : GC X cc own n R) {s : TSt × CSt} {c : CSt} (ec : s.2 = c)  {f : Nat → Int32} (d : decode cc pc = .ok (.iastore, 1)) (e : C_laws c = f) (hN : j.toNatClampNeg = N0) (hin : vp_in j 4) (h : G X k z (woTC (xt X) a b ((s.1, C_laws_ c (upd f N0 w)))) lv st (pc + 1)) : G X k z (woTC (xt X) a b s) lv (.int w :: .int j :: .ref (b 1) :: st) pc := by subst ec; subst e; subst hN; exact g_iastore C 3 d rfl hin rfl h
theorem fTC2_noise (C : GC X cc own n R) {s : TSt × CSt} (hlk : Cond.fieldLink own i R_C (F_C 1).2.1 (F_C 1).2.2.1 ∈ TB) (d : decode cc pc = .ok (.getfield i, 3)) (h : G X k z (woTC (xt X) a b s) lv (.ref (b 2) :: st) (pc + 3)) : G X k z (woTC (xt X) a b s) lv (.ref (b 0) :: st) pc := g_getf C i_C (ci := 1) rfl 2 1 (v := .ref (b 2)) (Nat.le_of_ble_eq_true rfl) hlk rfl d rfl rfl h
theorem lTC2_noise (C : GC X cc own n R) {s : TSt × CSt} {f : Nat → Int32} (d : decode cc pc = .ok (.iaload, 1)) (e : C_noise (s.2) = f) (hN : j.toNatClampNeg = N0) (hin : vp_in j 10) (h : G X k z (woTC (xt X) a b s) lv (.int (f N0) :: st) (pc + 1)) : G X k z (woTC (xt X) a b s) lv (.int j :: .ref (b 2) :: st) pc := by subst e; subst hN; exact g_iaload C 4 d rfl hin h
theorem sTC2_noise (C : GC X cc own n R) {s : TSt × CSt} {c : CSt} (ec : s.2 = c)  {f : Nat → Int32} (d : decode cc pc = .ok (.iastore, 1)) (e : C_noise c = f) (hN : j.toNatClampNeg = N0) (hin : vp_in j 10) (h : G X k z (woTC (xt X) a b ((s.1, C_noise_ c (upd f N0 w)))) lv st (pc + 1)) : G X k z (woTC (xt X) a b s) lv (.int w :: .int j :: .ref (b 2) :: st) pc := by subst ec; subst e; subst hN; exact g_iastore C 4 d rfl hin rfl h
theorem fTC2_lost (C : GC X cc own n R) {s : TSt × CSt} (hlk : Cond.fieldLink own i R_C (F_C 2).2.1 (F_C 2).2.2.1 ∈ TB) (d : decode cc pc = .ok (.getfield i, 3)) (h : G X k z (woTC (xt X) a b s) lv (.ref (b 3) :: st) (pc + 3)) : G X k z (woTC (xt X) a b s) lv (.ref (b 0) :: st) pc := g_getf C i_C (ci := 1) rfl 2 2 (v := .ref (b 3)) (Nat.le_of_ble_eq_true rfl) hlk rfl d rfl rfl h
theorem lTC2_lost (C : GC X cc own n R) {s : TSt × CSt} {f : Nat → Int32} (d : decode cc pc = .ok (.iaload, 1)) (e : C_lost (s.2) = f) (hN : j.toNatClampNeg = N0) (hin : vp_in j 10) (h : G X k z (woTC (xt X) a b s) lv (.int (f N0) :: st) (pc + 1)) : G X k z (woTC (xt X) a b s) lv (.int j :: .ref (b 3) :: st) pc := by subst e; subst hN; exact g_iaload C 5 d rfl hin h
theorem sTC2_lost (C : GC X cc own n R) {s : TSt × CSt} {c : CSt} (ec : s.2 = c)  {f : Nat → Int32} (d : decode cc pc = .ok (.iastore, 1)) (e : C_lost c = f) (hN : j.toNatClampNeg = N0) (hin : vp_in j 10) (h : G X k z (woTC (xt X) a b ((s.1, C_lost_ c (upd f N0 w)))) lv st (pc + 1)) : G X k z (woTC (xt X) a b s) lv (.int w :: .int j :: .ref (b 3) :: st) pc := by subst ec; subst e; subst hN; exact g_iastore C 5 d rfl hin rfl h
theorem fTC2_kind (C : GC X cc own n R) {s : TSt × CSt} (hlk : Cond.fieldLink own i R_C (F_C 3).2.1 (F_C 3).2.2.1 ∈ TB) (d : decode cc pc = .ok (.getfield i, 3)) (h : G X k z (woTC (xt X) a b s) lv (.ref (b 4) :: st) (pc + 3)) : G X k z (woTC (xt X) a b s) lv (.ref (b 0) :: st) pc := g_getf C i_C (ci := 1) rfl 2 3 (v := .ref (b 4)) (Nat.le_of_ble_eq_true rfl) hlk rfl d rfl rfl h
theorem lTC2_kind (C : GC X cc own n R) {s : TSt × CSt} {f : Nat → Int32} (d : decode cc pc = .ok (.iaload, 1)) (e : C_kind (s.2) = f) (hN : j.toNatClampNeg = N0) (hin : vp_in j 8) (h : G X k z (woTC (xt X) a b s) lv (.int (f N0) :: st) (pc + 1)) : G X k z (woTC (xt X) a b s) lv (.int j :: .ref (b 4) :: st) pc := by subst e; subst hN; exact g_iaload C 6 d rfl hin h
theorem sTC2_kind (C : GC X cc own n R) {s : TSt × CSt} {c : CSt} (ec : s.2 = c)  {f : Nat → Int32} (d : decode cc pc = .ok (.iastore, 1)) (e : C_kind c = f) (hN : j.toNatClampNeg = N0) (hin : vp_in j 8) (h : G X k z (woTC (xt X) a b ((s.1, C_kind_ c (upd f N0 w)))) lv st (pc + 1)) : G X k z (woTC (xt X) a b s) lv (.int w :: .int j :: .ref (b 4) :: st) pc := by subst ec; subst e; subst hN; exact g_iastore C 6 d rfl hin rfl h
theorem fTC2_load (C : GC X cc own n R) {s : TSt × CSt} (hlk : Cond.fieldLink own i R_C (F_C 4).2.1 (F_C 4).2.2.1 ∈ TB) (d : decode cc pc = .ok (.getfield i, 3)) (h : G X k z (woTC (xt X) a b s) lv (.ref (b 5) :: st) (pc + 3)) : G X k z (woTC (xt X) a b s) lv (.ref (b 0) :: st) pc := g_getf C i_C (ci := 1) rfl 2 4 (v := .ref (b 5)) (Nat.le_of_ble_eq_true rfl) hlk rfl d rfl rfl h
theorem lTC2_load (C : GC X cc own n R) {s : TSt × CSt} {f : Nat → Int32} (d : decode cc pc = .ok (.iaload, 1)) (e : C_load (s.2) = f) (hN : j.toNatClampNeg = N0) (hin : vp_in j 8) (h : G X k z (woTC (xt X) a b s) lv (.int (f N0) :: st) (pc + 1)) : G X k z (woTC (xt X) a b s) lv (.int j :: .ref (b 5) :: st) pc := by subst e; subst hN; exact g_iaload C 7 d rfl hin h
theorem sTC2_load (C : GC X cc own n R) {s : TSt × CSt} {c : CSt} (ec : s.2 = c)  {f : Nat → Int32} (d : decode cc pc = .ok (.iastore, 1)) (e : C_load c = f) (hN : j.toNatClampNeg = N0) (hin : vp_in j 8) (h : G X k z (woTC (xt X) a b ((s.1, C_load_ c (upd f N0 w)))) lv st (pc + 1)) : G X k z (woTC (xt X) a b s) lv (.int w :: .int j :: .ref (b 5) :: st) pc := by subst ec; subst e; subst hN; exact g_iastore C 7 d rfl hin rfl h
theorem fTC2_sort (C : GC X cc own n R) {s : TSt × CSt} (hlk : Cond.fieldLink own i R_C (F_C 5).2.1 (F_C 5).2.2.1 ∈ TB) (d : decode cc pc = .ok (.getfield i, 3)) (h : G X k z (woTC (xt X) a b s) lv (.ref (b 6) :: st) (pc + 3)) : G X k z (woTC (xt X) a b s) lv (.ref (b 0) :: st) pc := g_getf C i_C (ci := 1) rfl 2 5 (v := .ref (b 6)) (Nat.le_of_ble_eq_true rfl) hlk rfl d rfl rfl h
theorem lTC2_sort (C : GC X cc own n R) {s : TSt × CSt} {f : Nat → Int32} (d : decode cc pc = .ok (.iaload, 1)) (e : C_sort (s.2) = f) (hN : j.toNatClampNeg = N0) (hin : vp_in j 8) (h : G X k z (woTC (xt X) a b s) lv (.int (f N0) :: st) (pc + 1)) : G X k z (woTC (xt X) a b s) lv (.int j :: .ref (b 6) :: st) pc := by subst e; subst hN; exact g_iaload C 8 d rfl hin h
theorem sTC2_sort (C : GC X cc own n R) {s : TSt × CSt} {c : CSt} (ec : s.2 = c)  {f : Nat → Int32} (d : decode cc pc = .ok (.iastore, 1)) (e : C_sort c = f) (hN : j.toNatClampNeg = N0) (hin : vp_in j 8) (h : G X k z (woTC (xt X) a b ((s.1, C_sort_ c (upd f N0 w)))) lv st (pc + 1)) : G X k z (woTC (xt X) a b s) lv (.int w :: .int j :: .ref (b 6) :: st) pc := by subst ec; subst e; subst hN; exact g_iastore C 8 d rfl hin rfl h
theorem fTC2_at (C : GC X cc own n R) {s : TSt × CSt} (hlk : Cond.fieldLink own i R_C (F_C 6).2.1 (F_C 6).2.2.1 ∈ TB) (d : decode cc pc = .ok (.getfield i, 3)) (h : G X k z (woTC (xt X) a b s) lv (.ref (b 7) :: st) (pc + 3)) : G X k z (woTC (xt X) a b s) lv (.ref (b 0) :: st) pc := g_getf C i_C (ci := 1) rfl 2 6 (v := .ref (b 7)) (Nat.le_of_ble_eq_true rfl) hlk rfl d rfl rfl h
theorem lTC2_at (C : GC X cc own n R) {s : TSt × CSt} {f : Nat → Int32} (d : decode cc pc = .ok (.iaload, 1)) (e : C_at (s.2) = f) (hN : j.toNatClampNeg = N0) (hin : vp_in j 8) (h : G X k z (woTC (xt X) a b s) lv (.int (f N0) :: st) (pc + 1)) : G X k z (woTC (xt X) a b s) lv (.int j :: .ref (b 7) :: st) pc := by subst e; subst hN; exact g_iaload C 9 d rfl hin h
theorem sTC2_at (C : GC X cc own n R) {s : TSt × CSt} {c : CSt} (ec : s.2 = c)  {f : Nat → Int32} (d : decode cc pc = .ok (.iastore, 1)) (e : C_at c = f) (hN : j.toNatClampNeg = N0) (hin : vp_in j 8) (h : G X k z (woTC (xt X) a b ((s.1, C_at_ c (upd f N0 w)))) lv st (pc + 1)) : G X k z (woTC (xt X) a b s) lv (.int w :: .int j :: .ref (b 7) :: st) pc := by subst ec; subst e; subst hN; exact g_iastore C 9 d rfl hin rfl h
theorem fTC2_bound (C : GC X cc own n R) {s : TSt × CSt} (hlk : Cond.fieldLink own i R_C (F_C 7).2.1 (F_C 7).2.2.1 ∈ TB) (d : decode cc pc = .ok (.getfield i, 3)) (h : G X k z (woTC (xt X) a b s) lv (.ref (b 8) :: st) (pc + 3)) : G X k z (woTC (xt X) a b s) lv (.ref (b 0) :: st) pc := g_getf C i_C (ci := 1) rfl 2 7 (v := .ref (b 8)) (Nat.le_of_ble_eq_true rfl) hlk rfl d rfl rfl h
theorem lTC2_bound (C : GC X cc own n R) {s : TSt × CSt} {f : Nat → Int32} (d : decode cc pc = .ok (.iaload, 1)) (e : C_bound (s.2) = f) (hN : j.toNatClampNeg = N0) (hin : vp_in j 8) (h : G X k z (woTC (xt X) a b s) lv (.int (f N0) :: st) (pc + 1)) : G X k z (woTC (xt X) a b s) lv (.int j :: .ref (b 8) :: st) pc := by subst e; subst hN; exact g_iaload C 10 d rfl hin h
theorem sTC2_bound (C : GC X cc own n R) {s : TSt × CSt} {c : CSt} (ec : s.2 = c)  {f : Nat → Int32} (d : decode cc pc = .ok (.iastore, 1)) (e : C_bound c = f) (hN : j.toNatClampNeg = N0) (hin : vp_in j 8) (h : G X k z (woTC (xt X) a b ((s.1, C_bound_ c (upd f N0 w)))) lv st (pc + 1)) : G X k z (woTC (xt X) a b s) lv (.int w :: .int j :: .ref (b 8) :: st) pc := by subst ec; subst e; subst hN; exact g_iastore C 10 d rfl hin rfl h
theorem fTC2_count (C : GC X cc own n R) {s : TSt × CSt} (hlk : Cond.fieldLink own i R_C (F_C 8).2.1 (F_C 8).2.2.1 ∈ TB) (d : decode cc pc = .ok (.getfield i, 3)) (e : C_count (s.2) = v) (h : G X k z (woTC (xt X) a b s) lv (.int v :: st) (pc + 3)) : G X k z (woTC (xt X) a b s) lv (.ref (b 0) :: st) pc := g_getf C i_C (ci := 1) rfl 2 8 (v := .int v) (Nat.le_of_ble_eq_true rfl) hlk rfl d rfl (by subst e; rfl) h
theorem pTC2_count (C : GC X cc own n R) {s : TSt × CSt} {c : CSt} (ec : s.2 = c) (hlk : Cond.fieldLink own i R_C (F_C 8).2.1 (F_C 8).2.2.1 ∈ TB) (d : decode cc pc = .ok (.putfield i, 3))  (h : G X k z (woTC (xt X) a b ((s.1, C_count_ c v))) lv st (pc + 3)) : G X k z (woTC (xt X) a b s) lv (.int v :: .ref (b 0) :: st) pc := by subst ec; exact g_putf C i_C (ci := 1) rfl ty_C ty_C_ok n_C 2 8 (Nat.le_of_ble_eq_true rfl) hlk rfl rfl d rfl rfl rfl (Nat.le_of_ble_eq_true rfl) rfl h
theorem fTC2_hour (C : GC X cc own n R) {s : TSt × CSt} (hlk : Cond.fieldLink own i R_C (F_C 9).2.1 (F_C 9).2.2.1 ∈ TB) (d : decode cc pc = .ok (.getfield i, 3)) (e : C_hour (s.2) = v) (h : G X k z (woTC (xt X) a b s) lv (.int v :: st) (pc + 3)) : G X k z (woTC (xt X) a b s) lv (.ref (b 0) :: st) pc := g_getf C i_C (ci := 1) rfl 2 9 (v := .int v) (Nat.le_of_ble_eq_true rfl) hlk rfl d rfl (by subst e; rfl) h
theorem pTC2_hour (C : GC X cc own n R) {s : TSt × CSt} {c : CSt} (ec : s.2 = c) (hlk : Cond.fieldLink own i R_C (F_C 9).2.1 (F_C 9).2.2.1 ∈ TB) (d : decode cc pc = .ok (.putfield i, 3))  (h : G X k z (woTC (xt X) a b ((s.1, C_hour_ c v))) lv st (pc + 3)) : G X k z (woTC (xt X) a b s) lv (.int v :: .ref (b 0) :: st) pc := by subst ec; exact g_putf C i_C (ci := 1) rfl ty_C ty_C_ok n_C 2 9 (Nat.le_of_ble_eq_true rfl) hlk rfl rfl d rfl rfl rfl (Nat.le_of_ble_eq_true rfl) rfl h
theorem fTC2_z (C : GC X cc own n R) {s : TSt × CSt} (hlk : Cond.fieldLink own i R_C (F_C 10).2.1 (F_C 10).2.2.1 ∈ TB) (d : decode cc pc = .ok (.getfield i, 3)) (e : C_z (s.2) = v) (h : G X k z (woTC (xt X) a b s) lv (.int v :: st) (pc + 3)) : G X k z (woTC (xt X) a b s) lv (.ref (b 0) :: st) pc := g_getf C i_C (ci := 1) rfl 2 10 (v := .int v) (Nat.le_of_ble_eq_true rfl) hlk rfl d rfl (by subst e; rfl) h
theorem pTC2_z (C : GC X cc own n R) {s : TSt × CSt} {c : CSt} (ec : s.2 = c) (hlk : Cond.fieldLink own i R_C (F_C 10).2.1 (F_C 10).2.2.1 ∈ TB) (d : decode cc pc = .ok (.putfield i, 3))  (h : G X k z (woTC (xt X) a b ((s.1, C_z_ c v))) lv st (pc + 3)) : G X k z (woTC (xt X) a b s) lv (.int v :: .ref (b 0) :: st) pc := by subst ec; exact g_putf C i_C (ci := 1) rfl ty_C ty_C_ok n_C 2 10 (Nat.le_of_ble_eq_true rfl) hlk rfl rfl d rfl rfl rfl (Nat.le_of_ble_eq_true rfl) rfl h
theorem fTC2_heldBack (C : GC X cc own n R) {s : TSt × CSt} (hlk : Cond.fieldLink own i R_C (F_C 11).2.1 (F_C 11).2.2.1 ∈ TB) (d : decode cc pc = .ok (.getfield i, 3)) (e : C_heldBack (s.2) = v) (h : G X k z (woTC (xt X) a b s) lv (.int v :: st) (pc + 3)) : G X k z (woTC (xt X) a b s) lv (.ref (b 0) :: st) pc := g_getf C i_C (ci := 1) rfl 2 11 (v := .int v) (Nat.le_of_ble_eq_true rfl) hlk rfl d rfl (by subst e; rfl) h
theorem pTC2_heldBack (C : GC X cc own n R) {s : TSt × CSt} {c : CSt} (ec : s.2 = c) (hlk : Cond.fieldLink own i R_C (F_C 11).2.1 (F_C 11).2.2.1 ∈ TB) (d : decode cc pc = .ok (.putfield i, 3))  (h : G X k z (woTC (xt X) a b ((s.1, C_heldBack_ c v))) lv st (pc + 3)) : G X k z (woTC (xt X) a b s) lv (.int v :: .ref (b 0) :: st) pc := by subst ec; exact g_putf C i_C (ci := 1) rfl ty_C ty_C_ok n_C 2 11 (Nat.le_of_ble_eq_true rfl) hlk rfl rfl d rfl rfl rfl (Nat.le_of_ble_eq_true rfl) rfl h
theorem fX_now_laws (C : GC X cc own n R) {s : XSt} (hlk : Cond.fieldLink own i R_C (F_C 0).2.1 (F_C 0).2.2.1 ∈ TB) (d : decode cc pc = .ok (.getfield i, 3)) (h : G X k z (woX (xt X) a s) lv (.ref (a 2) :: st) (pc + 3)) : G X k z (woX (xt X) a s) lv (.ref (a 1) :: st) pc := g_getf C i_C (ci := 1) rfl 1 0 (v := .ref (a 2)) (Nat.le_of_ble_eq_true rfl) hlk rfl d rfl rfl h
theorem lX_now_laws (C : GC X cc own n R) {s : XSt} {f : Nat → Int32} (d : decode cc pc = .ok (.iaload, 1)) (e : C_laws (X_now s) = f) (hN : j.toNatClampNeg = N0) (hin : vp_in j 4) (h : G X k z (woX (xt X) a s) lv (.int (f N0) :: st) (pc + 1)) : G X k z (woX (xt X) a s) lv (.int j :: .ref (a 2) :: st) pc := by subst e; subst hN; exact g_iaload C 2 d rfl hin h
theorem sX_now_laws (C : GC X cc own n R) {s : XSt} {c : CSt} (ec : X_now s = c)  {f : Nat → Int32} (d : decode cc pc = .ok (.iastore, 1)) (e : C_laws c = f) (hN : j.toNatClampNeg = N0) (hin : vp_in j 4) (h : G X k z (woX (xt X) a (X_now_ s (C_laws_ c (upd f N0 w)))) lv st (pc + 1)) : G X k z (woX (xt X) a s) lv (.int w :: .int j :: .ref (a 2) :: st) pc := by subst ec; subst e; subst hN; exact g_iastore C 2 d rfl hin rfl h
theorem fX_now_noise (C : GC X cc own n R) {s : XSt} (hlk : Cond.fieldLink own i R_C (F_C 1).2.1 (F_C 1).2.2.1 ∈ TB) (d : decode cc pc = .ok (.getfield i, 3)) (h : G X k z (woX (xt X) a s) lv (.ref (a 3) :: st) (pc + 3)) : G X k z (woX (xt X) a s) lv (.ref (a 1) :: st) pc := g_getf C i_C (ci := 1) rfl 1 1 (v := .ref (a 3)) (Nat.le_of_ble_eq_true rfl) hlk rfl d rfl rfl h
theorem lX_now_noise (C : GC X cc own n R) {s : XSt} {f : Nat → Int32} (d : decode cc pc = .ok (.iaload, 1)) (e : C_noise (X_now s) = f) (hN : j.toNatClampNeg = N0) (hin : vp_in j 10) (h : G X k z (woX (xt X) a s) lv (.int (f N0) :: st) (pc + 1)) : G X k z (woX (xt X) a s) lv (.int j :: .ref (a 3) :: st) pc := by subst e; subst hN; exact g_iaload C 3 d rfl hin h
theorem sX_now_noise (C : GC X cc own n R) {s : XSt} {c : CSt} (ec : X_now s = c)  {f : Nat → Int32} (d : decode cc pc = .ok (.iastore, 1)) (e : C_noise c = f) (hN : j.toNatClampNeg = N0) (hin : vp_in j 10) (h : G X k z (woX (xt X) a (X_now_ s (C_noise_ c (upd f N0 w)))) lv st (pc + 1)) : G X k z (woX (xt X) a s) lv (.int w :: .int j :: .ref (a 3) :: st) pc := by subst ec; subst e; subst hN; exact g_iastore C 3 d rfl hin rfl h
theorem fX_now_lost (C : GC X cc own n R) {s : XSt} (hlk : Cond.fieldLink own i R_C (F_C 2).2.1 (F_C 2).2.2.1 ∈ TB) (d : decode cc pc = .ok (.getfield i, 3)) (h : G X k z (woX (xt X) a s) lv (.ref (a 4) :: st) (pc + 3)) : G X k z (woX (xt X) a s) lv (.ref (a 1) :: st) pc := g_getf C i_C (ci := 1) rfl 1 2 (v := .ref (a 4)) (Nat.le_of_ble_eq_true rfl) hlk rfl d rfl rfl h
theorem lX_now_lost (C : GC X cc own n R) {s : XSt} {f : Nat → Int32} (d : decode cc pc = .ok (.iaload, 1)) (e : C_lost (X_now s) = f) (hN : j.toNatClampNeg = N0) (hin : vp_in j 10) (h : G X k z (woX (xt X) a s) lv (.int (f N0) :: st) (pc + 1)) : G X k z (woX (xt X) a s) lv (.int j :: .ref (a 4) :: st) pc := by subst e; subst hN; exact g_iaload C 4 d rfl hin h
theorem sX_now_lost (C : GC X cc own n R) {s : XSt} {c : CSt} (ec : X_now s = c)  {f : Nat → Int32} (d : decode cc pc = .ok (.iastore, 1)) (e : C_lost c = f) (hN : j.toNatClampNeg = N0) (hin : vp_in j 10) (h : G X k z (woX (xt X) a (X_now_ s (C_lost_ c (upd f N0 w)))) lv st (pc + 1)) : G X k z (woX (xt X) a s) lv (.int w :: .int j :: .ref (a 4) :: st) pc := by subst ec; subst e; subst hN; exact g_iastore C 4 d rfl hin rfl h
theorem fX_now_kind (C : GC X cc own n R) {s : XSt} (hlk : Cond.fieldLink own i R_C (F_C 3).2.1 (F_C 3).2.2.1 ∈ TB) (d : decode cc pc = .ok (.getfield i, 3)) (h : G X k z (woX (xt X) a s) lv (.ref (a 5) :: st) (pc + 3)) : G X k z (woX (xt X) a s) lv (.ref (a 1) :: st) pc := g_getf C i_C (ci := 1) rfl 1 3 (v := .ref (a 5)) (Nat.le_of_ble_eq_true rfl) hlk rfl d rfl rfl h
theorem lX_now_kind (C : GC X cc own n R) {s : XSt} {f : Nat → Int32} (d : decode cc pc = .ok (.iaload, 1)) (e : C_kind (X_now s) = f) (hN : j.toNatClampNeg = N0) (hin : vp_in j 8) (h : G X k z (woX (xt X) a s) lv (.int (f N0) :: st) (pc + 1)) : G X k z (woX (xt X) a s) lv (.int j :: .ref (a 5) :: st) pc := by subst e; subst hN; exact g_iaload C 5 d rfl hin h
theorem sX_now_kind (C : GC X cc own n R) {s : XSt} {c : CSt} (ec : X_now s = c)  {f : Nat → Int32} (d : decode cc pc = .ok (.iastore, 1)) (e : C_kind c = f) (hN : j.toNatClampNeg = N0) (hin : vp_in j 8) (h : G X k z (woX (xt X) a (X_now_ s (C_kind_ c (upd f N0 w)))) lv st (pc + 1)) : G X k z (woX (xt X) a s) lv (.int w :: .int j :: .ref (a 5) :: st) pc := by subst ec; subst e; subst hN; exact g_iastore C 5 d rfl hin rfl h
theorem fX_now_load (C : GC X cc own n R) {s : XSt} (hlk : Cond.fieldLink own i R_C (F_C 4).2.1 (F_C 4).2.2.1 ∈ TB) (d : decode cc pc = .ok (.getfield i, 3)) (h : G X k z (woX (xt X) a s) lv (.ref (a 6) :: st) (pc + 3)) : G X k z (woX (xt X) a s) lv (.ref (a 1) :: st) pc := g_getf C i_C (ci := 1) rfl 1 4 (v := .ref (a 6)) (Nat.le_of_ble_eq_true rfl) hlk rfl d rfl rfl h
theorem lX_now_load (C : GC X cc own n R) {s : XSt} {f : Nat → Int32} (d : decode cc pc = .ok (.iaload, 1)) (e : C_load (X_now s) = f) (hN : j.toNatClampNeg = N0) (hin : vp_in j 8) (h : G X k z (woX (xt X) a s) lv (.int (f N0) :: st) (pc + 1)) : G X k z (woX (xt X) a s) lv (.int j :: .ref (a 6) :: st) pc := by subst e; subst hN; exact g_iaload C 6 d rfl hin h
theorem sX_now_load (C : GC X cc own n R) {s : XSt} {c : CSt} (ec : X_now s = c)  {f : Nat → Int32} (d : decode cc pc = .ok (.iastore, 1)) (e : C_load c = f) (hN : j.toNatClampNeg = N0) (hin : vp_in j 8) (h : G X k z (woX (xt X) a (X_now_ s (C_load_ c (upd f N0 w)))) lv st (pc + 1)) : G X k z (woX (xt X) a s) lv (.int w :: .int j :: .ref (a 6) :: st) pc := by subst ec; subst e; subst hN; exact g_iastore C 6 d rfl hin rfl h
theorem fX_now_sort (C : GC X cc own n R) {s : XSt} (hlk : Cond.fieldLink own i R_C (F_C 5).2.1 (F_C 5).2.2.1 ∈ TB) (d : decode cc pc = .ok (.getfield i, 3)) (h : G X k z (woX (xt X) a s) lv (.ref (a 7) :: st) (pc + 3)) : G X k z (woX (xt X) a s) lv (.ref (a 1) :: st) pc := g_getf C i_C (ci := 1) rfl 1 5 (v := .ref (a 7)) (Nat.le_of_ble_eq_true rfl) hlk rfl d rfl rfl h
theorem lX_now_sort (C : GC X cc own n R) {s : XSt} {f : Nat → Int32} (d : decode cc pc = .ok (.iaload, 1)) (e : C_sort (X_now s) = f) (hN : j.toNatClampNeg = N0) (hin : vp_in j 8) (h : G X k z (woX (xt X) a s) lv (.int (f N0) :: st) (pc + 1)) : G X k z (woX (xt X) a s) lv (.int j :: .ref (a 7) :: st) pc := by subst e; subst hN; exact g_iaload C 7 d rfl hin h
theorem sX_now_sort (C : GC X cc own n R) {s : XSt} {c : CSt} (ec : X_now s = c)  {f : Nat → Int32} (d : decode cc pc = .ok (.iastore, 1)) (e : C_sort c = f) (hN : j.toNatClampNeg = N0) (hin : vp_in j 8) (h : G X k z (woX (xt X) a (X_now_ s (C_sort_ c (upd f N0 w)))) lv st (pc + 1)) : G X k z (woX (xt X) a s) lv (.int w :: .int j :: .ref (a 7) :: st) pc := by subst ec; subst e; subst hN; exact g_iastore C 7 d rfl hin rfl h
theorem fX_now_at (C : GC X cc own n R) {s : XSt} (hlk : Cond.fieldLink own i R_C (F_C 6).2.1 (F_C 6).2.2.1 ∈ TB) (d : decode cc pc = .ok (.getfield i, 3)) (h : G X k z (woX (xt X) a s) lv (.ref (a 8) :: st) (pc + 3)) : G X k z (woX (xt X) a s) lv (.ref (a 1) :: st) pc := g_getf C i_C (ci := 1) rfl 1 6 (v := .ref (a 8)) (Nat.le_of_ble_eq_true rfl) hlk rfl d rfl rfl h
theorem lX_now_at (C : GC X cc own n R) {s : XSt} {f : Nat → Int32} (d : decode cc pc = .ok (.iaload, 1)) (e : C_at (X_now s) = f) (hN : j.toNatClampNeg = N0) (hin : vp_in j 8) (h : G X k z (woX (xt X) a s) lv (.int (f N0) :: st) (pc + 1)) : G X k z (woX (xt X) a s) lv (.int j :: .ref (a 8) :: st) pc := by subst e; subst hN; exact g_iaload C 8 d rfl hin h
theorem sX_now_at (C : GC X cc own n R) {s : XSt} {c : CSt} (ec : X_now s = c)  {f : Nat → Int32} (d : decode cc pc = .ok (.iastore, 1)) (e : C_at c = f) (hN : j.toNatClampNeg = N0) (hin : vp_in j 8) (h : G X k z (woX (xt X) a (X_now_ s (C_at_ c (upd f N0 w)))) lv st (pc + 1)) : G X k z (woX (xt X) a s) lv (.int w :: .int j :: .ref (a 8) :: st) pc := by subst ec; subst e; subst hN; exact g_iastore C 8 d rfl hin rfl h
theorem fX_now_bound (C : GC X cc own n R) {s : XSt} (hlk : Cond.fieldLink own i R_C (F_C 7).2.1 (F_C 7).2.2.1 ∈ TB) (d : decode cc pc = .ok (.getfield i, 3)) (h : G X k z (woX (xt X) a s) lv (.ref (a 9) :: st) (pc + 3)) : G X k z (woX (xt X) a s) lv (.ref (a 1) :: st) pc := g_getf C i_C (ci := 1) rfl 1 7 (v := .ref (a 9)) (Nat.le_of_ble_eq_true rfl) hlk rfl d rfl rfl h
theorem lX_now_bound (C : GC X cc own n R) {s : XSt} {f : Nat → Int32} (d : decode cc pc = .ok (.iaload, 1)) (e : C_bound (X_now s) = f) (hN : j.toNatClampNeg = N0) (hin : vp_in j 8) (h : G X k z (woX (xt X) a s) lv (.int (f N0) :: st) (pc + 1)) : G X k z (woX (xt X) a s) lv (.int j :: .ref (a 9) :: st) pc := by subst e; subst hN; exact g_iaload C 9 d rfl hin h
theorem sX_now_bound (C : GC X cc own n R) {s : XSt} {c : CSt} (ec : X_now s = c)  {f : Nat → Int32} (d : decode cc pc = .ok (.iastore, 1)) (e : C_bound c = f) (hN : j.toNatClampNeg = N0) (hin : vp_in j 8) (h : G X k z (woX (xt X) a (X_now_ s (C_bound_ c (upd f N0 w)))) lv st (pc + 1)) : G X k z (woX (xt X) a s) lv (.int w :: .int j :: .ref (a 9) :: st) pc := by subst ec; subst e; subst hN; exact g_iastore C 9 d rfl hin rfl h
theorem fX_now_count (C : GC X cc own n R) {s : XSt} (hlk : Cond.fieldLink own i R_C (F_C 8).2.1 (F_C 8).2.2.1 ∈ TB) (d : decode cc pc = .ok (.getfield i, 3)) (e : C_count (X_now s) = v) (h : G X k z (woX (xt X) a s) lv (.int v :: st) (pc + 3)) : G X k z (woX (xt X) a s) lv (.ref (a 1) :: st) pc := g_getf C i_C (ci := 1) rfl 1 8 (v := .int v) (Nat.le_of_ble_eq_true rfl) hlk rfl d rfl (by subst e; rfl) h
theorem pX_now_count (C : GC X cc own n R) {s : XSt} {c : CSt} (ec : X_now s = c) (hlk : Cond.fieldLink own i R_C (F_C 8).2.1 (F_C 8).2.2.1 ∈ TB) (d : decode cc pc = .ok (.putfield i, 3))  (h : G X k z (woX (xt X) a (X_now_ s (C_count_ c v))) lv st (pc + 3)) : G X k z (woX (xt X) a s) lv (.int v :: .ref (a 1) :: st) pc := by subst ec; exact g_putf C i_C (ci := 1) rfl ty_C ty_C_ok n_C 1 8 (Nat.le_of_ble_eq_true rfl) hlk rfl rfl d rfl rfl rfl (Nat.le_of_ble_eq_true rfl) rfl h
theorem fX_now_hour (C : GC X cc own n R) {s : XSt} (hlk : Cond.fieldLink own i R_C (F_C 9).2.1 (F_C 9).2.2.1 ∈ TB) (d : decode cc pc = .ok (.getfield i, 3)) (e : C_hour (X_now s) = v) (h : G X k z (woX (xt X) a s) lv (.int v :: st) (pc + 3)) : G X k z (woX (xt X) a s) lv (.ref (a 1) :: st) pc := g_getf C i_C (ci := 1) rfl 1 9 (v := .int v) (Nat.le_of_ble_eq_true rfl) hlk rfl d rfl (by subst e; rfl) h
theorem pX_now_hour (C : GC X cc own n R) {s : XSt} {c : CSt} (ec : X_now s = c) (hlk : Cond.fieldLink own i R_C (F_C 9).2.1 (F_C 9).2.2.1 ∈ TB) (d : decode cc pc = .ok (.putfield i, 3))  (h : G X k z (woX (xt X) a (X_now_ s (C_hour_ c v))) lv st (pc + 3)) : G X k z (woX (xt X) a s) lv (.int v :: .ref (a 1) :: st) pc := by subst ec; exact g_putf C i_C (ci := 1) rfl ty_C ty_C_ok n_C 1 9 (Nat.le_of_ble_eq_true rfl) hlk rfl rfl d rfl rfl rfl (Nat.le_of_ble_eq_true rfl) rfl h
theorem fX_now_z (C : GC X cc own n R) {s : XSt} (hlk : Cond.fieldLink own i R_C (F_C 10).2.1 (F_C 10).2.2.1 ∈ TB) (d : decode cc pc = .ok (.getfield i, 3)) (e : C_z (X_now s) = v) (h : G X k z (woX (xt X) a s) lv (.int v :: st) (pc + 3)) : G X k z (woX (xt X) a s) lv (.ref (a 1) :: st) pc := g_getf C i_C (ci := 1) rfl 1 10 (v := .int v) (Nat.le_of_ble_eq_true rfl) hlk rfl d rfl (by subst e; rfl) h
theorem pX_now_z (C : GC X cc own n R) {s : XSt} {c : CSt} (ec : X_now s = c) (hlk : Cond.fieldLink own i R_C (F_C 10).2.1 (F_C 10).2.2.1 ∈ TB) (d : decode cc pc = .ok (.putfield i, 3))  (h : G X k z (woX (xt X) a (X_now_ s (C_z_ c v))) lv st (pc + 3)) : G X k z (woX (xt X) a s) lv (.int v :: .ref (a 1) :: st) pc := by subst ec; exact g_putf C i_C (ci := 1) rfl ty_C ty_C_ok n_C 1 10 (Nat.le_of_ble_eq_true rfl) hlk rfl rfl d rfl rfl rfl (Nat.le_of_ble_eq_true rfl) rfl h
theorem fX_now_heldBack (C : GC X cc own n R) {s : XSt} (hlk : Cond.fieldLink own i R_C (F_C 11).2.1 (F_C 11).2.2.1 ∈ TB) (d : decode cc pc = .ok (.getfield i, 3)) (e : C_heldBack (X_now s) = v) (h : G X k z (woX (xt X) a s) lv (.int v :: st) (pc + 3)) : G X k z (woX (xt X) a s) lv (.ref (a 1) :: st) pc := g_getf C i_C (ci := 1) rfl 1 11 (v := .int v) (Nat.le_of_ble_eq_true rfl) hlk rfl d rfl (by subst e; rfl) h
theorem pX_now_heldBack (C : GC X cc own n R) {s : XSt} {c : CSt} (ec : X_now s = c) (hlk : Cond.fieldLink own i R_C (F_C 11).2.1 (F_C 11).2.2.1 ∈ TB) (d : decode cc pc = .ok (.putfield i, 3))  (h : G X k z (woX (xt X) a (X_now_ s (C_heldBack_ c v))) lv st (pc + 3)) : G X k z (woX (xt X) a s) lv (.int v :: .ref (a 1) :: st) pc := by subst ec; exact g_putf C i_C (ci := 1) rfl ty_C ty_C_ok n_C 1 11 (Nat.le_of_ble_eq_true rfl) hlk rfl rfl d rfl rfl rfl (Nat.le_of_ble_eq_true rfl) rfl h
theorem fX_tried_laws (C : GC X cc own n R) {s : XSt} (hlk : Cond.fieldLink own i R_C (F_C 0).2.1 (F_C 0).2.2.1 ∈ TB) (d : decode cc pc = .ok (.getfield i, 3)) (h : G X k z (woX (xt X) a s) lv (.ref (a 11) :: st) (pc + 3)) : G X k z (woX (xt X) a s) lv (.ref (a 10) :: st) pc := g_getf C i_C (ci := 1) rfl 10 0 (v := .ref (a 11)) (Nat.le_of_ble_eq_true rfl) hlk rfl d rfl rfl h
theorem lX_tried_laws (C : GC X cc own n R) {s : XSt} {f : Nat → Int32} (d : decode cc pc = .ok (.iaload, 1)) (e : C_laws (X_tried s) = f) (hN : j.toNatClampNeg = N0) (hin : vp_in j 4) (h : G X k z (woX (xt X) a s) lv (.int (f N0) :: st) (pc + 1)) : G X k z (woX (xt X) a s) lv (.int j :: .ref (a 11) :: st) pc := by subst e; subst hN; exact g_iaload C 11 d rfl hin h
theorem sX_tried_laws (C : GC X cc own n R) {s : XSt} {c : CSt} (ec : X_tried s = c)  {f : Nat → Int32} (d : decode cc pc = .ok (.iastore, 1)) (e : C_laws c = f) (hN : j.toNatClampNeg = N0) (hin : vp_in j 4) (h : G X k z (woX (xt X) a (X_tried_ s (C_laws_ c (upd f N0 w)))) lv st (pc + 1)) : G X k z (woX (xt X) a s) lv (.int w :: .int j :: .ref (a 11) :: st) pc := by subst ec; subst e; subst hN; exact g_iastore C 11 d rfl hin rfl h
theorem fX_tried_noise (C : GC X cc own n R) {s : XSt} (hlk : Cond.fieldLink own i R_C (F_C 1).2.1 (F_C 1).2.2.1 ∈ TB) (d : decode cc pc = .ok (.getfield i, 3)) (h : G X k z (woX (xt X) a s) lv (.ref (a 12) :: st) (pc + 3)) : G X k z (woX (xt X) a s) lv (.ref (a 10) :: st) pc := g_getf C i_C (ci := 1) rfl 10 1 (v := .ref (a 12)) (Nat.le_of_ble_eq_true rfl) hlk rfl d rfl rfl h
theorem lX_tried_noise (C : GC X cc own n R) {s : XSt} {f : Nat → Int32} (d : decode cc pc = .ok (.iaload, 1)) (e : C_noise (X_tried s) = f) (hN : j.toNatClampNeg = N0) (hin : vp_in j 10) (h : G X k z (woX (xt X) a s) lv (.int (f N0) :: st) (pc + 1)) : G X k z (woX (xt X) a s) lv (.int j :: .ref (a 12) :: st) pc := by subst e; subst hN; exact g_iaload C 12 d rfl hin h
theorem sX_tried_noise (C : GC X cc own n R) {s : XSt} {c : CSt} (ec : X_tried s = c)  {f : Nat → Int32} (d : decode cc pc = .ok (.iastore, 1)) (e : C_noise c = f) (hN : j.toNatClampNeg = N0) (hin : vp_in j 10) (h : G X k z (woX (xt X) a (X_tried_ s (C_noise_ c (upd f N0 w)))) lv st (pc + 1)) : G X k z (woX (xt X) a s) lv (.int w :: .int j :: .ref (a 12) :: st) pc := by subst ec; subst e; subst hN; exact g_iastore C 12 d rfl hin rfl h
theorem fX_tried_lost (C : GC X cc own n R) {s : XSt} (hlk : Cond.fieldLink own i R_C (F_C 2).2.1 (F_C 2).2.2.1 ∈ TB) (d : decode cc pc = .ok (.getfield i, 3)) (h : G X k z (woX (xt X) a s) lv (.ref (a 13) :: st) (pc + 3)) : G X k z (woX (xt X) a s) lv (.ref (a 10) :: st) pc := g_getf C i_C (ci := 1) rfl 10 2 (v := .ref (a 13)) (Nat.le_of_ble_eq_true rfl) hlk rfl d rfl rfl h
theorem lX_tried_lost (C : GC X cc own n R) {s : XSt} {f : Nat → Int32} (d : decode cc pc = .ok (.iaload, 1)) (e : C_lost (X_tried s) = f) (hN : j.toNatClampNeg = N0) (hin : vp_in j 10) (h : G X k z (woX (xt X) a s) lv (.int (f N0) :: st) (pc + 1)) : G X k z (woX (xt X) a s) lv (.int j :: .ref (a 13) :: st) pc := by subst e; subst hN; exact g_iaload C 13 d rfl hin h
theorem sX_tried_lost (C : GC X cc own n R) {s : XSt} {c : CSt} (ec : X_tried s = c)  {f : Nat → Int32} (d : decode cc pc = .ok (.iastore, 1)) (e : C_lost c = f) (hN : j.toNatClampNeg = N0) (hin : vp_in j 10) (h : G X k z (woX (xt X) a (X_tried_ s (C_lost_ c (upd f N0 w)))) lv st (pc + 1)) : G X k z (woX (xt X) a s) lv (.int w :: .int j :: .ref (a 13) :: st) pc := by subst ec; subst e; subst hN; exact g_iastore C 13 d rfl hin rfl h
theorem fX_tried_kind (C : GC X cc own n R) {s : XSt} (hlk : Cond.fieldLink own i R_C (F_C 3).2.1 (F_C 3).2.2.1 ∈ TB) (d : decode cc pc = .ok (.getfield i, 3)) (h : G X k z (woX (xt X) a s) lv (.ref (a 14) :: st) (pc + 3)) : G X k z (woX (xt X) a s) lv (.ref (a 10) :: st) pc := g_getf C i_C (ci := 1) rfl 10 3 (v := .ref (a 14)) (Nat.le_of_ble_eq_true rfl) hlk rfl d rfl rfl h
theorem lX_tried_kind (C : GC X cc own n R) {s : XSt} {f : Nat → Int32} (d : decode cc pc = .ok (.iaload, 1)) (e : C_kind (X_tried s) = f) (hN : j.toNatClampNeg = N0) (hin : vp_in j 8) (h : G X k z (woX (xt X) a s) lv (.int (f N0) :: st) (pc + 1)) : G X k z (woX (xt X) a s) lv (.int j :: .ref (a 14) :: st) pc := by subst e; subst hN; exact g_iaload C 14 d rfl hin h
theorem sX_tried_kind (C : GC X cc own n R) {s : XSt} {c : CSt} (ec : X_tried s = c)  {f : Nat → Int32} (d : decode cc pc = .ok (.iastore, 1)) (e : C_kind c = f) (hN : j.toNatClampNeg = N0) (hin : vp_in j 8) (h : G X k z (woX (xt X) a (X_tried_ s (C_kind_ c (upd f N0 w)))) lv st (pc + 1)) : G X k z (woX (xt X) a s) lv (.int w :: .int j :: .ref (a 14) :: st) pc := by subst ec; subst e; subst hN; exact g_iastore C 14 d rfl hin rfl h
theorem fX_tried_load (C : GC X cc own n R) {s : XSt} (hlk : Cond.fieldLink own i R_C (F_C 4).2.1 (F_C 4).2.2.1 ∈ TB) (d : decode cc pc = .ok (.getfield i, 3)) (h : G X k z (woX (xt X) a s) lv (.ref (a 15) :: st) (pc + 3)) : G X k z (woX (xt X) a s) lv (.ref (a 10) :: st) pc := g_getf C i_C (ci := 1) rfl 10 4 (v := .ref (a 15)) (Nat.le_of_ble_eq_true rfl) hlk rfl d rfl rfl h
theorem lX_tried_load (C : GC X cc own n R) {s : XSt} {f : Nat → Int32} (d : decode cc pc = .ok (.iaload, 1)) (e : C_load (X_tried s) = f) (hN : j.toNatClampNeg = N0) (hin : vp_in j 8) (h : G X k z (woX (xt X) a s) lv (.int (f N0) :: st) (pc + 1)) : G X k z (woX (xt X) a s) lv (.int j :: .ref (a 15) :: st) pc := by subst e; subst hN; exact g_iaload C 15 d rfl hin h
theorem sX_tried_load (C : GC X cc own n R) {s : XSt} {c : CSt} (ec : X_tried s = c)  {f : Nat → Int32} (d : decode cc pc = .ok (.iastore, 1)) (e : C_load c = f) (hN : j.toNatClampNeg = N0) (hin : vp_in j 8) (h : G X k z (woX (xt X) a (X_tried_ s (C_load_ c (upd f N0 w)))) lv st (pc + 1)) : G X k z (woX (xt X) a s) lv (.int w :: .int j :: .ref (a 15) :: st) pc := by subst ec; subst e; subst hN; exact g_iastore C 15 d rfl hin rfl h
theorem fX_tried_sort (C : GC X cc own n R) {s : XSt} (hlk : Cond.fieldLink own i R_C (F_C 5).2.1 (F_C 5).2.2.1 ∈ TB) (d : decode cc pc = .ok (.getfield i, 3)) (h : G X k z (woX (xt X) a s) lv (.ref (a 16) :: st) (pc + 3)) : G X k z (woX (xt X) a s) lv (.ref (a 10) :: st) pc := g_getf C i_C (ci := 1) rfl 10 5 (v := .ref (a 16)) (Nat.le_of_ble_eq_true rfl) hlk rfl d rfl rfl h
theorem lX_tried_sort (C : GC X cc own n R) {s : XSt} {f : Nat → Int32} (d : decode cc pc = .ok (.iaload, 1)) (e : C_sort (X_tried s) = f) (hN : j.toNatClampNeg = N0) (hin : vp_in j 8) (h : G X k z (woX (xt X) a s) lv (.int (f N0) :: st) (pc + 1)) : G X k z (woX (xt X) a s) lv (.int j :: .ref (a 16) :: st) pc := by subst e; subst hN; exact g_iaload C 16 d rfl hin h
theorem sX_tried_sort (C : GC X cc own n R) {s : XSt} {c : CSt} (ec : X_tried s = c)  {f : Nat → Int32} (d : decode cc pc = .ok (.iastore, 1)) (e : C_sort c = f) (hN : j.toNatClampNeg = N0) (hin : vp_in j 8) (h : G X k z (woX (xt X) a (X_tried_ s (C_sort_ c (upd f N0 w)))) lv st (pc + 1)) : G X k z (woX (xt X) a s) lv (.int w :: .int j :: .ref (a 16) :: st) pc := by subst ec; subst e; subst hN; exact g_iastore C 16 d rfl hin rfl h
theorem fX_tried_at (C : GC X cc own n R) {s : XSt} (hlk : Cond.fieldLink own i R_C (F_C 6).2.1 (F_C 6).2.2.1 ∈ TB) (d : decode cc pc = .ok (.getfield i, 3)) (h : G X k z (woX (xt X) a s) lv (.ref (a 17) :: st) (pc + 3)) : G X k z (woX (xt X) a s) lv (.ref (a 10) :: st) pc := g_getf C i_C (ci := 1) rfl 10 6 (v := .ref (a 17)) (Nat.le_of_ble_eq_true rfl) hlk rfl d rfl rfl h
theorem lX_tried_at (C : GC X cc own n R) {s : XSt} {f : Nat → Int32} (d : decode cc pc = .ok (.iaload, 1)) (e : C_at (X_tried s) = f) (hN : j.toNatClampNeg = N0) (hin : vp_in j 8) (h : G X k z (woX (xt X) a s) lv (.int (f N0) :: st) (pc + 1)) : G X k z (woX (xt X) a s) lv (.int j :: .ref (a 17) :: st) pc := by subst e; subst hN; exact g_iaload C 17 d rfl hin h
theorem sX_tried_at (C : GC X cc own n R) {s : XSt} {c : CSt} (ec : X_tried s = c)  {f : Nat → Int32} (d : decode cc pc = .ok (.iastore, 1)) (e : C_at c = f) (hN : j.toNatClampNeg = N0) (hin : vp_in j 8) (h : G X k z (woX (xt X) a (X_tried_ s (C_at_ c (upd f N0 w)))) lv st (pc + 1)) : G X k z (woX (xt X) a s) lv (.int w :: .int j :: .ref (a 17) :: st) pc := by subst ec; subst e; subst hN; exact g_iastore C 17 d rfl hin rfl h
theorem fX_tried_bound (C : GC X cc own n R) {s : XSt} (hlk : Cond.fieldLink own i R_C (F_C 7).2.1 (F_C 7).2.2.1 ∈ TB) (d : decode cc pc = .ok (.getfield i, 3)) (h : G X k z (woX (xt X) a s) lv (.ref (a 18) :: st) (pc + 3)) : G X k z (woX (xt X) a s) lv (.ref (a 10) :: st) pc := g_getf C i_C (ci := 1) rfl 10 7 (v := .ref (a 18)) (Nat.le_of_ble_eq_true rfl) hlk rfl d rfl rfl h
theorem lX_tried_bound (C : GC X cc own n R) {s : XSt} {f : Nat → Int32} (d : decode cc pc = .ok (.iaload, 1)) (e : C_bound (X_tried s) = f) (hN : j.toNatClampNeg = N0) (hin : vp_in j 8) (h : G X k z (woX (xt X) a s) lv (.int (f N0) :: st) (pc + 1)) : G X k z (woX (xt X) a s) lv (.int j :: .ref (a 18) :: st) pc := by subst e; subst hN; exact g_iaload C 18 d rfl hin h
theorem sX_tried_bound (C : GC X cc own n R) {s : XSt} {c : CSt} (ec : X_tried s = c)  {f : Nat → Int32} (d : decode cc pc = .ok (.iastore, 1)) (e : C_bound c = f) (hN : j.toNatClampNeg = N0) (hin : vp_in j 8) (h : G X k z (woX (xt X) a (X_tried_ s (C_bound_ c (upd f N0 w)))) lv st (pc + 1)) : G X k z (woX (xt X) a s) lv (.int w :: .int j :: .ref (a 18) :: st) pc := by subst ec; subst e; subst hN; exact g_iastore C 18 d rfl hin rfl h
theorem fX_tried_count (C : GC X cc own n R) {s : XSt} (hlk : Cond.fieldLink own i R_C (F_C 8).2.1 (F_C 8).2.2.1 ∈ TB) (d : decode cc pc = .ok (.getfield i, 3)) (e : C_count (X_tried s) = v) (h : G X k z (woX (xt X) a s) lv (.int v :: st) (pc + 3)) : G X k z (woX (xt X) a s) lv (.ref (a 10) :: st) pc := g_getf C i_C (ci := 1) rfl 10 8 (v := .int v) (Nat.le_of_ble_eq_true rfl) hlk rfl d rfl (by subst e; rfl) h
theorem pX_tried_count (C : GC X cc own n R) {s : XSt} {c : CSt} (ec : X_tried s = c) (hlk : Cond.fieldLink own i R_C (F_C 8).2.1 (F_C 8).2.2.1 ∈ TB) (d : decode cc pc = .ok (.putfield i, 3))  (h : G X k z (woX (xt X) a (X_tried_ s (C_count_ c v))) lv st (pc + 3)) : G X k z (woX (xt X) a s) lv (.int v :: .ref (a 10) :: st) pc := by subst ec; exact g_putf C i_C (ci := 1) rfl ty_C ty_C_ok n_C 10 8 (Nat.le_of_ble_eq_true rfl) hlk rfl rfl d rfl rfl rfl (Nat.le_of_ble_eq_true rfl) rfl h
theorem fX_tried_hour (C : GC X cc own n R) {s : XSt} (hlk : Cond.fieldLink own i R_C (F_C 9).2.1 (F_C 9).2.2.1 ∈ TB) (d : decode cc pc = .ok (.getfield i, 3)) (e : C_hour (X_tried s) = v) (h : G X k z (woX (xt X) a s) lv (.int v :: st) (pc + 3)) : G X k z (woX (xt X) a s) lv (.ref (a 10) :: st) pc := g_getf C i_C (ci := 1) rfl 10 9 (v := .int v) (Nat.le_of_ble_eq_true rfl) hlk rfl d rfl (by subst e; rfl) h
theorem pX_tried_hour (C : GC X cc own n R) {s : XSt} {c : CSt} (ec : X_tried s = c) (hlk : Cond.fieldLink own i R_C (F_C 9).2.1 (F_C 9).2.2.1 ∈ TB) (d : decode cc pc = .ok (.putfield i, 3))  (h : G X k z (woX (xt X) a (X_tried_ s (C_hour_ c v))) lv st (pc + 3)) : G X k z (woX (xt X) a s) lv (.int v :: .ref (a 10) :: st) pc := by subst ec; exact g_putf C i_C (ci := 1) rfl ty_C ty_C_ok n_C 10 9 (Nat.le_of_ble_eq_true rfl) hlk rfl rfl d rfl rfl rfl (Nat.le_of_ble_eq_true rfl) rfl h
theorem fX_tried_z (C : GC X cc own n R) {s : XSt} (hlk : Cond.fieldLink own i R_C (F_C 10).2.1 (F_C 10).2.2.1 ∈ TB) (d : decode cc pc = .ok (.getfield i, 3)) (e : C_z (X_tried s) = v) (h : G X k z (woX (xt X) a s) lv (.int v :: st) (pc + 3)) : G X k z (woX (xt X) a s) lv (.ref (a 10) :: st) pc := g_getf C i_C (ci := 1) rfl 10 10 (v := .int v) (Nat.le_of_ble_eq_true rfl) hlk rfl d rfl (by subst e; rfl) h
theorem pX_tried_z (C : GC X cc own n R) {s : XSt} {c : CSt} (ec : X_tried s = c) (hlk : Cond.fieldLink own i R_C (F_C 10).2.1 (F_C 10).2.2.1 ∈ TB) (d : decode cc pc = .ok (.putfield i, 3))  (h : G X k z (woX (xt X) a (X_tried_ s (C_z_ c v))) lv st (pc + 3)) : G X k z (woX (xt X) a s) lv (.int v :: .ref (a 10) :: st) pc := by subst ec; exact g_putf C i_C (ci := 1) rfl ty_C ty_C_ok n_C 10 10 (Nat.le_of_ble_eq_true rfl) hlk rfl rfl d rfl rfl rfl (Nat.le_of_ble_eq_true rfl) rfl h
theorem fX_tried_heldBack (C : GC X cc own n R) {s : XSt} (hlk : Cond.fieldLink own i R_C (F_C 11).2.1 (F_C 11).2.2.1 ∈ TB) (d : decode cc pc = .ok (.getfield i, 3)) (e : C_heldBack (X_tried s) = v) (h : G X k z (woX (xt X) a s) lv (.int v :: st) (pc + 3)) : G X k z (woX (xt X) a s) lv (.ref (a 10) :: st) pc := g_getf C i_C (ci := 1) rfl 10 11 (v := .int v) (Nat.le_of_ble_eq_true rfl) hlk rfl d rfl (by subst e; rfl) h
theorem pX_tried_heldBack (C : GC X cc own n R) {s : XSt} {c : CSt} (ec : X_tried s = c) (hlk : Cond.fieldLink own i R_C (F_C 11).2.1 (F_C 11).2.2.1 ∈ TB) (d : decode cc pc = .ok (.putfield i, 3))  (h : G X k z (woX (xt X) a (X_tried_ s (C_heldBack_ c v))) lv st (pc + 3)) : G X k z (woX (xt X) a s) lv (.int v :: .ref (a 10) :: st) pc := by subst ec; exact g_putf C i_C (ci := 1) rfl ty_C ty_C_ok n_C 10 11 (Nat.le_of_ble_eq_true rfl) hlk rfl rfl d rfl rfl rfl (Nat.le_of_ble_eq_true rfl) rfl h
theorem fX_kept_laws (C : GC X cc own n R) {s : XSt} (hlk : Cond.fieldLink own i R_C (F_C 0).2.1 (F_C 0).2.2.1 ∈ TB) (d : decode cc pc = .ok (.getfield i, 3)) (h : G X k z (woX (xt X) a s) lv (.ref (a 20) :: st) (pc + 3)) : G X k z (woX (xt X) a s) lv (.ref (a 19) :: st) pc := g_getf C i_C (ci := 1) rfl 19 0 (v := .ref (a 20)) (Nat.le_of_ble_eq_true rfl) hlk rfl d rfl rfl h
theorem lX_kept_laws (C : GC X cc own n R) {s : XSt} {f : Nat → Int32} (d : decode cc pc = .ok (.iaload, 1)) (e : C_laws (X_kept s) = f) (hN : j.toNatClampNeg = N0) (hin : vp_in j 4) (h : G X k z (woX (xt X) a s) lv (.int (f N0) :: st) (pc + 1)) : G X k z (woX (xt X) a s) lv (.int j :: .ref (a 20) :: st) pc := by subst e; subst hN; exact g_iaload C 20 d rfl hin h
theorem sX_kept_laws (C : GC X cc own n R) {s : XSt} {c : CSt} (ec : X_kept s = c)  {f : Nat → Int32} (d : decode cc pc = .ok (.iastore, 1)) (e : C_laws c = f) (hN : j.toNatClampNeg = N0) (hin : vp_in j 4) (h : G X k z (woX (xt X) a (X_kept_ s (C_laws_ c (upd f N0 w)))) lv st (pc + 1)) : G X k z (woX (xt X) a s) lv (.int w :: .int j :: .ref (a 20) :: st) pc := by subst ec; subst e; subst hN; exact g_iastore C 20 d rfl hin rfl h
theorem fX_kept_noise (C : GC X cc own n R) {s : XSt} (hlk : Cond.fieldLink own i R_C (F_C 1).2.1 (F_C 1).2.2.1 ∈ TB) (d : decode cc pc = .ok (.getfield i, 3)) (h : G X k z (woX (xt X) a s) lv (.ref (a 21) :: st) (pc + 3)) : G X k z (woX (xt X) a s) lv (.ref (a 19) :: st) pc := g_getf C i_C (ci := 1) rfl 19 1 (v := .ref (a 21)) (Nat.le_of_ble_eq_true rfl) hlk rfl d rfl rfl h
theorem lX_kept_noise (C : GC X cc own n R) {s : XSt} {f : Nat → Int32} (d : decode cc pc = .ok (.iaload, 1)) (e : C_noise (X_kept s) = f) (hN : j.toNatClampNeg = N0) (hin : vp_in j 10) (h : G X k z (woX (xt X) a s) lv (.int (f N0) :: st) (pc + 1)) : G X k z (woX (xt X) a s) lv (.int j :: .ref (a 21) :: st) pc := by subst e; subst hN; exact g_iaload C 21 d rfl hin h
theorem sX_kept_noise (C : GC X cc own n R) {s : XSt} {c : CSt} (ec : X_kept s = c)  {f : Nat → Int32} (d : decode cc pc = .ok (.iastore, 1)) (e : C_noise c = f) (hN : j.toNatClampNeg = N0) (hin : vp_in j 10) (h : G X k z (woX (xt X) a (X_kept_ s (C_noise_ c (upd f N0 w)))) lv st (pc + 1)) : G X k z (woX (xt X) a s) lv (.int w :: .int j :: .ref (a 21) :: st) pc := by subst ec; subst e; subst hN; exact g_iastore C 21 d rfl hin rfl h
theorem fX_kept_lost (C : GC X cc own n R) {s : XSt} (hlk : Cond.fieldLink own i R_C (F_C 2).2.1 (F_C 2).2.2.1 ∈ TB) (d : decode cc pc = .ok (.getfield i, 3)) (h : G X k z (woX (xt X) a s) lv (.ref (a 22) :: st) (pc + 3)) : G X k z (woX (xt X) a s) lv (.ref (a 19) :: st) pc := g_getf C i_C (ci := 1) rfl 19 2 (v := .ref (a 22)) (Nat.le_of_ble_eq_true rfl) hlk rfl d rfl rfl h
theorem lX_kept_lost (C : GC X cc own n R) {s : XSt} {f : Nat → Int32} (d : decode cc pc = .ok (.iaload, 1)) (e : C_lost (X_kept s) = f) (hN : j.toNatClampNeg = N0) (hin : vp_in j 10) (h : G X k z (woX (xt X) a s) lv (.int (f N0) :: st) (pc + 1)) : G X k z (woX (xt X) a s) lv (.int j :: .ref (a 22) :: st) pc := by subst e; subst hN; exact g_iaload C 22 d rfl hin h
theorem sX_kept_lost (C : GC X cc own n R) {s : XSt} {c : CSt} (ec : X_kept s = c)  {f : Nat → Int32} (d : decode cc pc = .ok (.iastore, 1)) (e : C_lost c = f) (hN : j.toNatClampNeg = N0) (hin : vp_in j 10) (h : G X k z (woX (xt X) a (X_kept_ s (C_lost_ c (upd f N0 w)))) lv st (pc + 1)) : G X k z (woX (xt X) a s) lv (.int w :: .int j :: .ref (a 22) :: st) pc := by subst ec; subst e; subst hN; exact g_iastore C 22 d rfl hin rfl h
theorem fX_kept_kind (C : GC X cc own n R) {s : XSt} (hlk : Cond.fieldLink own i R_C (F_C 3).2.1 (F_C 3).2.2.1 ∈ TB) (d : decode cc pc = .ok (.getfield i, 3)) (h : G X k z (woX (xt X) a s) lv (.ref (a 23) :: st) (pc + 3)) : G X k z (woX (xt X) a s) lv (.ref (a 19) :: st) pc := g_getf C i_C (ci := 1) rfl 19 3 (v := .ref (a 23)) (Nat.le_of_ble_eq_true rfl) hlk rfl d rfl rfl h
theorem lX_kept_kind (C : GC X cc own n R) {s : XSt} {f : Nat → Int32} (d : decode cc pc = .ok (.iaload, 1)) (e : C_kind (X_kept s) = f) (hN : j.toNatClampNeg = N0) (hin : vp_in j 8) (h : G X k z (woX (xt X) a s) lv (.int (f N0) :: st) (pc + 1)) : G X k z (woX (xt X) a s) lv (.int j :: .ref (a 23) :: st) pc := by subst e; subst hN; exact g_iaload C 23 d rfl hin h
theorem sX_kept_kind (C : GC X cc own n R) {s : XSt} {c : CSt} (ec : X_kept s = c)  {f : Nat → Int32} (d : decode cc pc = .ok (.iastore, 1)) (e : C_kind c = f) (hN : j.toNatClampNeg = N0) (hin : vp_in j 8) (h : G X k z (woX (xt X) a (X_kept_ s (C_kind_ c (upd f N0 w)))) lv st (pc + 1)) : G X k z (woX (xt X) a s) lv (.int w :: .int j :: .ref (a 23) :: st) pc := by subst ec; subst e; subst hN; exact g_iastore C 23 d rfl hin rfl h
theorem fX_kept_load (C : GC X cc own n R) {s : XSt} (hlk : Cond.fieldLink own i R_C (F_C 4).2.1 (F_C 4).2.2.1 ∈ TB) (d : decode cc pc = .ok (.getfield i, 3)) (h : G X k z (woX (xt X) a s) lv (.ref (a 24) :: st) (pc + 3)) : G X k z (woX (xt X) a s) lv (.ref (a 19) :: st) pc := g_getf C i_C (ci := 1) rfl 19 4 (v := .ref (a 24)) (Nat.le_of_ble_eq_true rfl) hlk rfl d rfl rfl h
theorem lX_kept_load (C : GC X cc own n R) {s : XSt} {f : Nat → Int32} (d : decode cc pc = .ok (.iaload, 1)) (e : C_load (X_kept s) = f) (hN : j.toNatClampNeg = N0) (hin : vp_in j 8) (h : G X k z (woX (xt X) a s) lv (.int (f N0) :: st) (pc + 1)) : G X k z (woX (xt X) a s) lv (.int j :: .ref (a 24) :: st) pc := by subst e; subst hN; exact g_iaload C 24 d rfl hin h
theorem sX_kept_load (C : GC X cc own n R) {s : XSt} {c : CSt} (ec : X_kept s = c)  {f : Nat → Int32} (d : decode cc pc = .ok (.iastore, 1)) (e : C_load c = f) (hN : j.toNatClampNeg = N0) (hin : vp_in j 8) (h : G X k z (woX (xt X) a (X_kept_ s (C_load_ c (upd f N0 w)))) lv st (pc + 1)) : G X k z (woX (xt X) a s) lv (.int w :: .int j :: .ref (a 24) :: st) pc := by subst ec; subst e; subst hN; exact g_iastore C 24 d rfl hin rfl h
theorem fX_kept_sort (C : GC X cc own n R) {s : XSt} (hlk : Cond.fieldLink own i R_C (F_C 5).2.1 (F_C 5).2.2.1 ∈ TB) (d : decode cc pc = .ok (.getfield i, 3)) (h : G X k z (woX (xt X) a s) lv (.ref (a 25) :: st) (pc + 3)) : G X k z (woX (xt X) a s) lv (.ref (a 19) :: st) pc := g_getf C i_C (ci := 1) rfl 19 5 (v := .ref (a 25)) (Nat.le_of_ble_eq_true rfl) hlk rfl d rfl rfl h
theorem lX_kept_sort (C : GC X cc own n R) {s : XSt} {f : Nat → Int32} (d : decode cc pc = .ok (.iaload, 1)) (e : C_sort (X_kept s) = f) (hN : j.toNatClampNeg = N0) (hin : vp_in j 8) (h : G X k z (woX (xt X) a s) lv (.int (f N0) :: st) (pc + 1)) : G X k z (woX (xt X) a s) lv (.int j :: .ref (a 25) :: st) pc := by subst e; subst hN; exact g_iaload C 25 d rfl hin h
theorem sX_kept_sort (C : GC X cc own n R) {s : XSt} {c : CSt} (ec : X_kept s = c)  {f : Nat → Int32} (d : decode cc pc = .ok (.iastore, 1)) (e : C_sort c = f) (hN : j.toNatClampNeg = N0) (hin : vp_in j 8) (h : G X k z (woX (xt X) a (X_kept_ s (C_sort_ c (upd f N0 w)))) lv st (pc + 1)) : G X k z (woX (xt X) a s) lv (.int w :: .int j :: .ref (a 25) :: st) pc := by subst ec; subst e; subst hN; exact g_iastore C 25 d rfl hin rfl h
theorem fX_kept_at (C : GC X cc own n R) {s : XSt} (hlk : Cond.fieldLink own i R_C (F_C 6).2.1 (F_C 6).2.2.1 ∈ TB) (d : decode cc pc = .ok (.getfield i, 3)) (h : G X k z (woX (xt X) a s) lv (.ref (a 26) :: st) (pc + 3)) : G X k z (woX (xt X) a s) lv (.ref (a 19) :: st) pc := g_getf C i_C (ci := 1) rfl 19 6 (v := .ref (a 26)) (Nat.le_of_ble_eq_true rfl) hlk rfl d rfl rfl h
theorem lX_kept_at (C : GC X cc own n R) {s : XSt} {f : Nat → Int32} (d : decode cc pc = .ok (.iaload, 1)) (e : C_at (X_kept s) = f) (hN : j.toNatClampNeg = N0) (hin : vp_in j 8) (h : G X k z (woX (xt X) a s) lv (.int (f N0) :: st) (pc + 1)) : G X k z (woX (xt X) a s) lv (.int j :: .ref (a 26) :: st) pc := by subst e; subst hN; exact g_iaload C 26 d rfl hin h
theorem sX_kept_at (C : GC X cc own n R) {s : XSt} {c : CSt} (ec : X_kept s = c)  {f : Nat → Int32} (d : decode cc pc = .ok (.iastore, 1)) (e : C_at c = f) (hN : j.toNatClampNeg = N0) (hin : vp_in j 8) (h : G X k z (woX (xt X) a (X_kept_ s (C_at_ c (upd f N0 w)))) lv st (pc + 1)) : G X k z (woX (xt X) a s) lv (.int w :: .int j :: .ref (a 26) :: st) pc := by subst ec; subst e; subst hN; exact g_iastore C 26 d rfl hin rfl h
theorem fX_kept_bound (C : GC X cc own n R) {s : XSt} (hlk : Cond.fieldLink own i R_C (F_C 7).2.1 (F_C 7).2.2.1 ∈ TB) (d : decode cc pc = .ok (.getfield i, 3)) (h : G X k z (woX (xt X) a s) lv (.ref (a 27) :: st) (pc + 3)) : G X k z (woX (xt X) a s) lv (.ref (a 19) :: st) pc := g_getf C i_C (ci := 1) rfl 19 7 (v := .ref (a 27)) (Nat.le_of_ble_eq_true rfl) hlk rfl d rfl rfl h
theorem lX_kept_bound (C : GC X cc own n R) {s : XSt} {f : Nat → Int32} (d : decode cc pc = .ok (.iaload, 1)) (e : C_bound (X_kept s) = f) (hN : j.toNatClampNeg = N0) (hin : vp_in j 8) (h : G X k z (woX (xt X) a s) lv (.int (f N0) :: st) (pc + 1)) : G X k z (woX (xt X) a s) lv (.int j :: .ref (a 27) :: st) pc := by subst e; subst hN; exact g_iaload C 27 d rfl hin h
theorem sX_kept_bound (C : GC X cc own n R) {s : XSt} {c : CSt} (ec : X_kept s = c)  {f : Nat → Int32} (d : decode cc pc = .ok (.iastore, 1)) (e : C_bound c = f) (hN : j.toNatClampNeg = N0) (hin : vp_in j 8) (h : G X k z (woX (xt X) a (X_kept_ s (C_bound_ c (upd f N0 w)))) lv st (pc + 1)) : G X k z (woX (xt X) a s) lv (.int w :: .int j :: .ref (a 27) :: st) pc := by subst ec; subst e; subst hN; exact g_iastore C 27 d rfl hin rfl h
theorem fX_kept_count (C : GC X cc own n R) {s : XSt} (hlk : Cond.fieldLink own i R_C (F_C 8).2.1 (F_C 8).2.2.1 ∈ TB) (d : decode cc pc = .ok (.getfield i, 3)) (e : C_count (X_kept s) = v) (h : G X k z (woX (xt X) a s) lv (.int v :: st) (pc + 3)) : G X k z (woX (xt X) a s) lv (.ref (a 19) :: st) pc := g_getf C i_C (ci := 1) rfl 19 8 (v := .int v) (Nat.le_of_ble_eq_true rfl) hlk rfl d rfl (by subst e; rfl) h
theorem pX_kept_count (C : GC X cc own n R) {s : XSt} {c : CSt} (ec : X_kept s = c) (hlk : Cond.fieldLink own i R_C (F_C 8).2.1 (F_C 8).2.2.1 ∈ TB) (d : decode cc pc = .ok (.putfield i, 3))  (h : G X k z (woX (xt X) a (X_kept_ s (C_count_ c v))) lv st (pc + 3)) : G X k z (woX (xt X) a s) lv (.int v :: .ref (a 19) :: st) pc := by subst ec; exact g_putf C i_C (ci := 1) rfl ty_C ty_C_ok n_C 19 8 (Nat.le_of_ble_eq_true rfl) hlk rfl rfl d rfl rfl rfl (Nat.le_of_ble_eq_true rfl) rfl h
theorem fX_kept_hour (C : GC X cc own n R) {s : XSt} (hlk : Cond.fieldLink own i R_C (F_C 9).2.1 (F_C 9).2.2.1 ∈ TB) (d : decode cc pc = .ok (.getfield i, 3)) (e : C_hour (X_kept s) = v) (h : G X k z (woX (xt X) a s) lv (.int v :: st) (pc + 3)) : G X k z (woX (xt X) a s) lv (.ref (a 19) :: st) pc := g_getf C i_C (ci := 1) rfl 19 9 (v := .int v) (Nat.le_of_ble_eq_true rfl) hlk rfl d rfl (by subst e; rfl) h
theorem pX_kept_hour (C : GC X cc own n R) {s : XSt} {c : CSt} (ec : X_kept s = c) (hlk : Cond.fieldLink own i R_C (F_C 9).2.1 (F_C 9).2.2.1 ∈ TB) (d : decode cc pc = .ok (.putfield i, 3))  (h : G X k z (woX (xt X) a (X_kept_ s (C_hour_ c v))) lv st (pc + 3)) : G X k z (woX (xt X) a s) lv (.int v :: .ref (a 19) :: st) pc := by subst ec; exact g_putf C i_C (ci := 1) rfl ty_C ty_C_ok n_C 19 9 (Nat.le_of_ble_eq_true rfl) hlk rfl rfl d rfl rfl rfl (Nat.le_of_ble_eq_true rfl) rfl h
theorem fX_kept_z (C : GC X cc own n R) {s : XSt} (hlk : Cond.fieldLink own i R_C (F_C 10).2.1 (F_C 10).2.2.1 ∈ TB) (d : decode cc pc = .ok (.getfield i, 3)) (e : C_z (X_kept s) = v) (h : G X k z (woX (xt X) a s) lv (.int v :: st) (pc + 3)) : G X k z (woX (xt X) a s) lv (.ref (a 19) :: st) pc := g_getf C i_C (ci := 1) rfl 19 10 (v := .int v) (Nat.le_of_ble_eq_true rfl) hlk rfl d rfl (by subst e; rfl) h
theorem pX_kept_z (C : GC X cc own n R) {s : XSt} {c : CSt} (ec : X_kept s = c) (hlk : Cond.fieldLink own i R_C (F_C 10).2.1 (F_C 10).2.2.1 ∈ TB) (d : decode cc pc = .ok (.putfield i, 3))  (h : G X k z (woX (xt X) a (X_kept_ s (C_z_ c v))) lv st (pc + 3)) : G X k z (woX (xt X) a s) lv (.int v :: .ref (a 19) :: st) pc := by subst ec; exact g_putf C i_C (ci := 1) rfl ty_C ty_C_ok n_C 19 10 (Nat.le_of_ble_eq_true rfl) hlk rfl rfl d rfl rfl rfl (Nat.le_of_ble_eq_true rfl) rfl h
theorem fX_kept_heldBack (C : GC X cc own n R) {s : XSt} (hlk : Cond.fieldLink own i R_C (F_C 11).2.1 (F_C 11).2.2.1 ∈ TB) (d : decode cc pc = .ok (.getfield i, 3)) (e : C_heldBack (X_kept s) = v) (h : G X k z (woX (xt X) a s) lv (.int v :: st) (pc + 3)) : G X k z (woX (xt X) a s) lv (.ref (a 19) :: st) pc := g_getf C i_C (ci := 1) rfl 19 11 (v := .int v) (Nat.le_of_ble_eq_true rfl) hlk rfl d rfl (by subst e; rfl) h
theorem pX_kept_heldBack (C : GC X cc own n R) {s : XSt} {c : CSt} (ec : X_kept s = c) (hlk : Cond.fieldLink own i R_C (F_C 11).2.1 (F_C 11).2.2.1 ∈ TB) (d : decode cc pc = .ok (.putfield i, 3))  (h : G X k z (woX (xt X) a (X_kept_ s (C_heldBack_ c v))) lv st (pc + 3)) : G X k z (woX (xt X) a s) lv (.int v :: .ref (a 19) :: st) pc := by subst ec; exact g_putf C i_C (ci := 1) rfl ty_C ty_C_ok n_C 19 11 (Nat.le_of_ble_eq_true rfl) hlk rfl rfl d rfl rfl rfl (Nat.le_of_ble_eq_true rfl) rfl h
theorem fX_tape_bytes (C : GC X cc own n R) {s : XSt} (hlk : Cond.fieldLink own i R_T (F_T 0).2.1 (F_T 0).2.2.1 ∈ TB) (d : decode cc pc = .ok (.getfield i, 3)) (h : G X k z (woX (xt X) a s) lv (.ref (a 29) :: st) (pc + 3)) : G X k z (woX (xt X) a s) lv (.ref (a 28) :: st) pc := g_getf C i_T (ci := 4) rfl 28 0 (v := .ref (a 29)) (Nat.le_of_ble_eq_true rfl) hlk rfl d rfl rfl h
theorem lX_tape_bytes (C : GC X cc own n R) {s : XSt} {f : Nat → Int32} (d : decode cc pc = .ok (.baload, 1)) (e : T_bytes (X_tape s) = f) (hN : j.toNatClampNeg = N0) (hin : vp_in j 200) (h : G X k z (woX (xt X) a s) lv (.int (f N0) :: st) (pc + 1)) : G X k z (woX (xt X) a s) lv (.int j :: .ref (a 29) :: st) pc := by subst e; subst hN; exact g_baload C 29 d rfl hin h
theorem sX_tape_bytes (C : GC X cc own n R) {s : XSt} {c : TSt} (ec : X_tape s = c)  {f : Nat → Int32} (d : decode cc pc = .ok (.bastore, 1)) (e : T_bytes c = f) (hN : j.toNatClampNeg = N0) (hin : vp_in j 200) (h : G X k z (woX (xt X) a (X_tape_ s (T_bytes_ c (upd f N0 (vp_nar .byte w))))) lv st (pc + 1)) : G X k z (woX (xt X) a s) lv (.int w :: .int j :: .ref (a 29) :: st) pc := by subst ec; subst e; subst hN; exact g_bastore C 29 d rfl hin rfl h
theorem fX_tape_size (C : GC X cc own n R) {s : XSt} (hlk : Cond.fieldLink own i R_T (F_T 1).2.1 (F_T 1).2.2.1 ∈ TB) (d : decode cc pc = .ok (.getfield i, 3)) (e : T_size (X_tape s) = v) (h : G X k z (woX (xt X) a s) lv (.int v :: st) (pc + 3)) : G X k z (woX (xt X) a s) lv (.ref (a 28) :: st) pc := g_getf C i_T (ci := 4) rfl 28 1 (v := .int v) (Nat.le_of_ble_eq_true rfl) hlk rfl d rfl (by subst e; rfl) h
theorem pX_tape_size (C : GC X cc own n R) {s : XSt} {c : TSt} (ec : X_tape s = c) (hlk : Cond.fieldLink own i R_T (F_T 1).2.1 (F_T 1).2.2.1 ∈ TB) (d : decode cc pc = .ok (.putfield i, 3))  (h : G X k z (woX (xt X) a (X_tape_ s (T_size_ c v))) lv st (pc + 3)) : G X k z (woX (xt X) a s) lv (.int v :: .ref (a 28) :: st) pc := by subst ec; exact g_putf C i_T (ci := 4) rfl ty_T ty_T_ok n_T 28 1 (Nat.le_of_ble_eq_true rfl) hlk rfl rfl d rfl rfl rfl (Nat.le_of_ble_eq_true rfl) rfl h
theorem fX_tape_sort (C : GC X cc own n R) {s : XSt} (hlk : Cond.fieldLink own i R_T (F_T 2).2.1 (F_T 2).2.2.1 ∈ TB) (d : decode cc pc = .ok (.getfield i, 3)) (e : T_sort (X_tape s) = v) (h : G X k z (woX (xt X) a s) lv (.int v :: st) (pc + 3)) : G X k z (woX (xt X) a s) lv (.ref (a 28) :: st) pc := g_getf C i_T (ci := 4) rfl 28 2 (v := .int v) (Nat.le_of_ble_eq_true rfl) hlk rfl d rfl (by subst e; rfl) h
theorem pX_tape_sort (C : GC X cc own n R) {s : XSt} {c : TSt} (ec : X_tape s = c) (hlk : Cond.fieldLink own i R_T (F_T 2).2.1 (F_T 2).2.2.1 ∈ TB) (d : decode cc pc = .ok (.putfield i, 3))  (h : G X k z (woX (xt X) a (X_tape_ s (T_sort_ c v))) lv st (pc + 3)) : G X k z (woX (xt X) a s) lv (.int v :: .ref (a 28) :: st) pc := by subst ec; exact g_putf C i_T (ci := 4) rfl ty_T ty_T_ok n_T 28 2 (Nat.le_of_ble_eq_true rfl) hlk rfl rfl d rfl rfl rfl (Nat.le_of_ble_eq_true rfl) rfl h
theorem fX_tape_start (C : GC X cc own n R) {s : XSt} (hlk : Cond.fieldLink own i R_T (F_T 3).2.1 (F_T 3).2.2.1 ∈ TB) (d : decode cc pc = .ok (.getfield i, 3)) (e : T_start (X_tape s) = v) (h : G X k z (woX (xt X) a s) lv (.int v :: st) (pc + 3)) : G X k z (woX (xt X) a s) lv (.ref (a 28) :: st) pc := g_getf C i_T (ci := 4) rfl 28 3 (v := .int v) (Nat.le_of_ble_eq_true rfl) hlk rfl d rfl (by subst e; rfl) h
theorem pX_tape_start (C : GC X cc own n R) {s : XSt} {c : TSt} (ec : X_tape s = c) (hlk : Cond.fieldLink own i R_T (F_T 3).2.1 (F_T 3).2.2.1 ∈ TB) (d : decode cc pc = .ok (.putfield i, 3))  (h : G X k z (woX (xt X) a (X_tape_ s (T_start_ c v))) lv st (pc + 3)) : G X k z (woX (xt X) a s) lv (.int v :: .ref (a 28) :: st) pc := by subst ec; exact g_putf C i_T (ci := 4) rfl ty_T ty_T_ok n_T 28 3 (Nat.le_of_ble_eq_true rfl) hlk rfl rfl d rfl rfl rfl (Nat.le_of_ble_eq_true rfl) rfl h
theorem fX_tape_end (C : GC X cc own n R) {s : XSt} (hlk : Cond.fieldLink own i R_T (F_T 4).2.1 (F_T 4).2.2.1 ∈ TB) (d : decode cc pc = .ok (.getfield i, 3)) (e : T_end (X_tape s) = v) (h : G X k z (woX (xt X) a s) lv (.int v :: st) (pc + 3)) : G X k z (woX (xt X) a s) lv (.ref (a 28) :: st) pc := g_getf C i_T (ci := 4) rfl 28 4 (v := .int v) (Nat.le_of_ble_eq_true rfl) hlk rfl d rfl (by subst e; rfl) h
theorem pX_tape_end (C : GC X cc own n R) {s : XSt} {c : TSt} (ec : X_tape s = c) (hlk : Cond.fieldLink own i R_T (F_T 4).2.1 (F_T 4).2.2.1 ∈ TB) (d : decode cc pc = .ok (.putfield i, 3))  (h : G X k z (woX (xt X) a (X_tape_ s (T_end_ c v))) lv st (pc + 3)) : G X k z (woX (xt X) a s) lv (.int v :: .ref (a 28) :: st) pc := by subst ec; exact g_putf C i_T (ci := 4) rfl ty_T ty_T_ok n_T 28 4 (Nat.le_of_ble_eq_true rfl) hlk rfl rfl d rfl rfl rfl (Nat.le_of_ble_eq_true rfl) rfl h
theorem fX_acts_bodies (C : GC X cc own n R) {s : XSt} (hlk : Cond.fieldLink own i R_A (F_A 0).2.1 (F_A 0).2.2.1 ∈ TB) (d : decode cc pc = .ok (.getfield i, 3)) (h : G X k z (woX (xt X) a s) lv (.ref (a 46) :: st) (pc + 3)) : G X k z (woX (xt X) a s) lv (.ref (a 45) :: st) pc := g_getf C i_A (ci := 0) rfl 45 0 (v := .ref (a 46)) (Nat.le_of_ble_eq_true rfl) hlk rfl d rfl rfl h
theorem lX_acts_bodies (C : GC X cc own n R) {s : XSt} {f : Nat → Int32} (d : decode cc pc = .ok (.iaload, 1)) (e : A_bodies (X_acts s) = f) (hN : j.toNatClampNeg = N0) (hin : vp_in j 30) (h : G X k z (woX (xt X) a s) lv (.int (f N0) :: st) (pc + 1)) : G X k z (woX (xt X) a s) lv (.int j :: .ref (a 46) :: st) pc := by subst e; subst hN; exact g_iaload C 46 d rfl hin h
theorem sX_acts_bodies (C : GC X cc own n R) {s : XSt} {c : ASt} (ec : X_acts s = c)  {f : Nat → Int32} (d : decode cc pc = .ok (.iastore, 1)) (e : A_bodies c = f) (hN : j.toNatClampNeg = N0) (hin : vp_in j 30) (h : G X k z (woX (xt X) a (X_acts_ s (A_bodies_ c (upd f N0 w)))) lv st (pc + 1)) : G X k z (woX (xt X) a s) lv (.int w :: .int j :: .ref (a 46) :: st) pc := by subst ec; subst e; subst hN; exact g_iastore C 46 d rfl hin rfl h
theorem fX_acts_traced (C : GC X cc own n R) {s : XSt} (hlk : Cond.fieldLink own i R_A (F_A 1).2.1 (F_A 1).2.2.1 ∈ TB) (d : decode cc pc = .ok (.getfield i, 3)) (e : A_traced (X_acts s) = v) (h : G X k z (woX (xt X) a s) lv (.int v :: st) (pc + 3)) : G X k z (woX (xt X) a s) lv (.ref (a 45) :: st) pc := g_getf C i_A (ci := 0) rfl 45 1 (v := .int v) (Nat.le_of_ble_eq_true rfl) hlk rfl d rfl (by subst e; rfl) h
theorem pX_acts_traced (C : GC X cc own n R) {s : XSt} {c : ASt} (ec : X_acts s = c) (hlk : Cond.fieldLink own i R_A (F_A 1).2.1 (F_A 1).2.2.1 ∈ TB) (d : decode cc pc = .ok (.putfield i, 3))  (h : G X k z (woX (xt X) a (X_acts_ s (A_traced_ c v))) lv st (pc + 3)) : G X k z (woX (xt X) a s) lv (.int v :: .ref (a 45) :: st) pc := by subst ec; exact g_putf C i_A (ci := 0) rfl ty_A ty_A_ok n_A 45 1 (Nat.le_of_ble_eq_true rfl) hlk rfl rfl d rfl rfl rfl (Nat.le_of_ble_eq_true rfl) rfl h
theorem fX_acts_kind (C : GC X cc own n R) {s : XSt} (hlk : Cond.fieldLink own i R_A (F_A 2).2.1 (F_A 2).2.2.1 ∈ TB) (d : decode cc pc = .ok (.getfield i, 3)) (e : A_kind (X_acts s) = v) (h : G X k z (woX (xt X) a s) lv (.int v :: st) (pc + 3)) : G X k z (woX (xt X) a s) lv (.ref (a 45) :: st) pc := g_getf C i_A (ci := 0) rfl 45 2 (v := .int v) (Nat.le_of_ble_eq_true rfl) hlk rfl d rfl (by subst e; rfl) h
theorem pX_acts_kind (C : GC X cc own n R) {s : XSt} {c : ASt} (ec : X_acts s = c) (hlk : Cond.fieldLink own i R_A (F_A 2).2.1 (F_A 2).2.2.1 ∈ TB) (d : decode cc pc = .ok (.putfield i, 3))  (h : G X k z (woX (xt X) a (X_acts_ s (A_kind_ c v))) lv st (pc + 3)) : G X k z (woX (xt X) a s) lv (.int v :: .ref (a 45) :: st) pc := by subst ec; exact g_putf C i_A (ci := 0) rfl ty_A ty_A_ok n_A 45 2 (Nat.le_of_ble_eq_true rfl) hlk rfl rfl d rfl rfl rfl (Nat.le_of_ble_eq_true rfl) rfl h
theorem fX_acts_n (C : GC X cc own n R) {s : XSt} (hlk : Cond.fieldLink own i R_A (F_A 3).2.1 (F_A 3).2.2.1 ∈ TB) (d : decode cc pc = .ok (.getfield i, 3)) (e : A_n (X_acts s) = v) (h : G X k z (woX (xt X) a s) lv (.int v :: st) (pc + 3)) : G X k z (woX (xt X) a s) lv (.ref (a 45) :: st) pc := g_getf C i_A (ci := 0) rfl 45 3 (v := .int v) (Nat.le_of_ble_eq_true rfl) hlk rfl d rfl (by subst e; rfl) h
theorem pX_acts_n (C : GC X cc own n R) {s : XSt} {c : ASt} (ec : X_acts s = c) (hlk : Cond.fieldLink own i R_A (F_A 3).2.1 (F_A 3).2.2.1 ∈ TB) (d : decode cc pc = .ok (.putfield i, 3))  (h : G X k z (woX (xt X) a (X_acts_ s (A_n_ c v))) lv st (pc + 3)) : G X k z (woX (xt X) a s) lv (.int v :: .ref (a 45) :: st) pc := by subst ec; exact g_putf C i_A (ci := 0) rfl ty_A ty_A_ok n_A 45 3 (Nat.le_of_ble_eq_true rfl) hlk rfl rfl d rfl rfl rfl (Nat.le_of_ble_eq_true rfl) rfl h
theorem fX_acts_a (C : GC X cc own n R) {s : XSt} (hlk : Cond.fieldLink own i R_A (F_A 4).2.1 (F_A 4).2.2.1 ∈ TB) (d : decode cc pc = .ok (.getfield i, 3)) (e : A_a (X_acts s) = v) (h : G X k z (woX (xt X) a s) lv (.int v :: st) (pc + 3)) : G X k z (woX (xt X) a s) lv (.ref (a 45) :: st) pc := g_getf C i_A (ci := 0) rfl 45 4 (v := .int v) (Nat.le_of_ble_eq_true rfl) hlk rfl d rfl (by subst e; rfl) h
theorem pX_acts_a (C : GC X cc own n R) {s : XSt} {c : ASt} (ec : X_acts s = c) (hlk : Cond.fieldLink own i R_A (F_A 4).2.1 (F_A 4).2.2.1 ∈ TB) (d : decode cc pc = .ok (.putfield i, 3))  (h : G X k z (woX (xt X) a (X_acts_ s (A_a_ c v))) lv st (pc + 3)) : G X k z (woX (xt X) a s) lv (.int v :: .ref (a 45) :: st) pc := by subst ec; exact g_putf C i_A (ci := 0) rfl ty_A ty_A_ok n_A 45 4 (Nat.le_of_ble_eq_true rfl) hlk rfl rfl d rfl rfl rfl (Nat.le_of_ble_eq_true rfl) rfl h
theorem fX_acts_isParted (C : GC X cc own n R) {s : XSt} (hlk : Cond.fieldLink own i R_A (F_A 5).2.1 (F_A 5).2.2.1 ∈ TB) (d : decode cc pc = .ok (.getfield i, 3)) (e : A_isParted (X_acts s) = v) (h : G X k z (woX (xt X) a s) lv (.int v :: st) (pc + 3)) : G X k z (woX (xt X) a s) lv (.ref (a 45) :: st) pc := g_getf C i_A (ci := 0) rfl 45 5 (v := .int v) (Nat.le_of_ble_eq_true rfl) hlk rfl d rfl (by subst e; rfl) h
theorem pX_acts_isParted (C : GC X cc own n R) {s : XSt} {c : ASt} (ec : X_acts s = c) (hlk : Cond.fieldLink own i R_A (F_A 5).2.1 (F_A 5).2.2.1 ∈ TB) (d : decode cc pc = .ok (.putfield i, 3)) (hn : narrow .boolean (.int v) = .int v) (hf : fits .boolean (.int v) = true) (h : G X k z (woX (xt X) a (X_acts_ s (A_isParted_ c v))) lv st (pc + 3)) : G X k z (woX (xt X) a s) lv (.int v :: .ref (a 45) :: st) pc := by subst ec; exact g_putf C i_A (ci := 0) rfl ty_A ty_A_ok n_A 45 5 (Nat.le_of_ble_eq_true rfl) hlk rfl rfl d rfl hn hf (Nat.le_of_ble_eq_true rfl) rfl h
theorem fX_sheets0_items (C : GC X cc own n R) {s : XSt} (hlk : Cond.fieldLink own i R_S (F_S 0).2.1 (F_S 0).2.2.1 ∈ TB) (d : decode cc pc = .ok (.getfield i, 3)) (h : G X k z (woX (xt X) a s) lv (.ref (a 33) :: st) (pc + 3)) : G X k z (woX (xt X) a s) lv (.ref (a 32) :: st) pc := g_getf C i_S (ci := 2) rfl 32 0 (v := .ref (a 33)) (Nat.le_of_ble_eq_true rfl) hlk rfl d rfl rfl h
theorem lX_sheets0_items (C : GC X cc own n R) {s : XSt} {f : Nat → Int32} (d : decode cc pc = .ok (.iaload, 1)) (e : S_items (X_sheets s 0) = f) (hN : j.toNatClampNeg = N0) (hin : vp_in j 40) (h : G X k z (woX (xt X) a s) lv (.int (f N0) :: st) (pc + 1)) : G X k z (woX (xt X) a s) lv (.int j :: .ref (a 33) :: st) pc := by subst e; subst hN; exact g_iaload C 33 d rfl hin h
theorem sX_sheets0_items (C : GC X cc own n R) {s : XSt} {c : SSt} (ec : X_sheets s 0 = c)  {f : Nat → Int32} (d : decode cc pc = .ok (.iastore, 1)) (e : S_items c = f) (hN : j.toNatClampNeg = N0) (hin : vp_in j 40) (h : G X k z (woX (xt X) a (X_sheets_ s (va_up (X_sheets s) 0 (S_items_ c (upd f N0 w))))) lv st (pc + 1)) : G X k z (woX (xt X) a s) lv (.int w :: .int j :: .ref (a 33) :: st) pc := by subst ec; subst e; subst hN; exact g_iastore C 33 d rfl hin rfl h
theorem fX_sheets0_sort (C : GC X cc own n R) {s : XSt} (hlk : Cond.fieldLink own i R_S (F_S 1).2.1 (F_S 1).2.2.1 ∈ TB) (d : decode cc pc = .ok (.getfield i, 3)) (e : S_sort (X_sheets s 0) = v) (h : G X k z (woX (xt X) a s) lv (.int v :: st) (pc + 3)) : G X k z (woX (xt X) a s) lv (.ref (a 32) :: st) pc := g_getf C i_S (ci := 2) rfl 32 1 (v := .int v) (Nat.le_of_ble_eq_true rfl) hlk rfl d rfl (by subst e; rfl) h
theorem pX_sheets0_sort (C : GC X cc own n R) {s : XSt} {c : SSt} (ec : X_sheets s 0 = c) (hlk : Cond.fieldLink own i R_S (F_S 1).2.1 (F_S 1).2.2.1 ∈ TB) (d : decode cc pc = .ok (.putfield i, 3))  (h : G X k z (woX (xt X) a (X_sheets_ s (va_up (X_sheets s) 0 (S_sort_ c v)))) lv st (pc + 3)) : G X k z (woX (xt X) a s) lv (.int v :: .ref (a 32) :: st) pc := by subst ec; exact g_putf C i_S (ci := 2) rfl ty_S ty_S_ok n_S 32 1 (Nat.le_of_ble_eq_true rfl) hlk rfl rfl d rfl rfl rfl (Nat.le_of_ble_eq_true rfl) rfl h
theorem fX_sheets0_size (C : GC X cc own n R) {s : XSt} (hlk : Cond.fieldLink own i R_S (F_S 2).2.1 (F_S 2).2.2.1 ∈ TB) (d : decode cc pc = .ok (.getfield i, 3)) (e : S_size (X_sheets s 0) = v) (h : G X k z (woX (xt X) a s) lv (.int v :: st) (pc + 3)) : G X k z (woX (xt X) a s) lv (.ref (a 32) :: st) pc := g_getf C i_S (ci := 2) rfl 32 2 (v := .int v) (Nat.le_of_ble_eq_true rfl) hlk rfl d rfl (by subst e; rfl) h
theorem pX_sheets0_size (C : GC X cc own n R) {s : XSt} {c : SSt} (ec : X_sheets s 0 = c) (hlk : Cond.fieldLink own i R_S (F_S 2).2.1 (F_S 2).2.2.1 ∈ TB) (d : decode cc pc = .ok (.putfield i, 3))  (h : G X k z (woX (xt X) a (X_sheets_ s (va_up (X_sheets s) 0 (S_size_ c v)))) lv st (pc + 3)) : G X k z (woX (xt X) a s) lv (.int v :: .ref (a 32) :: st) pc := by subst ec; exact g_putf C i_S (ci := 2) rfl ty_S ty_S_ok n_S 32 2 (Nat.le_of_ble_eq_true rfl) hlk rfl rfl d rfl rfl rfl (Nat.le_of_ble_eq_true rfl) rfl h
theorem fX_sheets1_items (C : GC X cc own n R) {s : XSt} (hlk : Cond.fieldLink own i R_S (F_S 0).2.1 (F_S 0).2.2.1 ∈ TB) (d : decode cc pc = .ok (.getfield i, 3)) (h : G X k z (woX (xt X) a s) lv (.ref (a 35) :: st) (pc + 3)) : G X k z (woX (xt X) a s) lv (.ref (a 34) :: st) pc := g_getf C i_S (ci := 2) rfl 34 0 (v := .ref (a 35)) (Nat.le_of_ble_eq_true rfl) hlk rfl d rfl rfl h
theorem lX_sheets1_items (C : GC X cc own n R) {s : XSt} {f : Nat → Int32} (d : decode cc pc = .ok (.iaload, 1)) (e : S_items (X_sheets s 1) = f) (hN : j.toNatClampNeg = N0) (hin : vp_in j 40) (h : G X k z (woX (xt X) a s) lv (.int (f N0) :: st) (pc + 1)) : G X k z (woX (xt X) a s) lv (.int j :: .ref (a 35) :: st) pc := by subst e; subst hN; exact g_iaload C 35 d rfl hin h
theorem sX_sheets1_items (C : GC X cc own n R) {s : XSt} {c : SSt} (ec : X_sheets s 1 = c)  {f : Nat → Int32} (d : decode cc pc = .ok (.iastore, 1)) (e : S_items c = f) (hN : j.toNatClampNeg = N0) (hin : vp_in j 40) (h : G X k z (woX (xt X) a (X_sheets_ s (va_up (X_sheets s) 1 (S_items_ c (upd f N0 w))))) lv st (pc + 1)) : G X k z (woX (xt X) a s) lv (.int w :: .int j :: .ref (a 35) :: st) pc := by subst ec; subst e; subst hN; exact g_iastore C 35 d rfl hin rfl h
theorem fX_sheets1_sort (C : GC X cc own n R) {s : XSt} (hlk : Cond.fieldLink own i R_S (F_S 1).2.1 (F_S 1).2.2.1 ∈ TB) (d : decode cc pc = .ok (.getfield i, 3)) (e : S_sort (X_sheets s 1) = v) (h : G X k z (woX (xt X) a s) lv (.int v :: st) (pc + 3)) : G X k z (woX (xt X) a s) lv (.ref (a 34) :: st) pc := g_getf C i_S (ci := 2) rfl 34 1 (v := .int v) (Nat.le_of_ble_eq_true rfl) hlk rfl d rfl (by subst e; rfl) h
theorem pX_sheets1_sort (C : GC X cc own n R) {s : XSt} {c : SSt} (ec : X_sheets s 1 = c) (hlk : Cond.fieldLink own i R_S (F_S 1).2.1 (F_S 1).2.2.1 ∈ TB) (d : decode cc pc = .ok (.putfield i, 3))  (h : G X k z (woX (xt X) a (X_sheets_ s (va_up (X_sheets s) 1 (S_sort_ c v)))) lv st (pc + 3)) : G X k z (woX (xt X) a s) lv (.int v :: .ref (a 34) :: st) pc := by subst ec; exact g_putf C i_S (ci := 2) rfl ty_S ty_S_ok n_S 34 1 (Nat.le_of_ble_eq_true rfl) hlk rfl rfl d rfl rfl rfl (Nat.le_of_ble_eq_true rfl) rfl h
theorem fX_sheets1_size (C : GC X cc own n R) {s : XSt} (hlk : Cond.fieldLink own i R_S (F_S 2).2.1 (F_S 2).2.2.1 ∈ TB) (d : decode cc pc = .ok (.getfield i, 3)) (e : S_size (X_sheets s 1) = v) (h : G X k z (woX (xt X) a s) lv (.int v :: st) (pc + 3)) : G X k z (woX (xt X) a s) lv (.ref (a 34) :: st) pc := g_getf C i_S (ci := 2) rfl 34 2 (v := .int v) (Nat.le_of_ble_eq_true rfl) hlk rfl d rfl (by subst e; rfl) h
theorem pX_sheets1_size (C : GC X cc own n R) {s : XSt} {c : SSt} (ec : X_sheets s 1 = c) (hlk : Cond.fieldLink own i R_S (F_S 2).2.1 (F_S 2).2.2.1 ∈ TB) (d : decode cc pc = .ok (.putfield i, 3))  (h : G X k z (woX (xt X) a (X_sheets_ s (va_up (X_sheets s) 1 (S_size_ c v)))) lv st (pc + 3)) : G X k z (woX (xt X) a s) lv (.int v :: .ref (a 34) :: st) pc := by subst ec; exact g_putf C i_S (ci := 2) rfl ty_S ty_S_ok n_S 34 2 (Nat.le_of_ble_eq_true rfl) hlk rfl rfl d rfl rfl rfl (Nat.le_of_ble_eq_true rfl) rfl h
theorem fX_sheets2_items (C : GC X cc own n R) {s : XSt} (hlk : Cond.fieldLink own i R_S (F_S 0).2.1 (F_S 0).2.2.1 ∈ TB) (d : decode cc pc = .ok (.getfield i, 3)) (h : G X k z (woX (xt X) a s) lv (.ref (a 37) :: st) (pc + 3)) : G X k z (woX (xt X) a s) lv (.ref (a 36) :: st) pc := g_getf C i_S (ci := 2) rfl 36 0 (v := .ref (a 37)) (Nat.le_of_ble_eq_true rfl) hlk rfl d rfl rfl h
theorem lX_sheets2_items (C : GC X cc own n R) {s : XSt} {f : Nat → Int32} (d : decode cc pc = .ok (.iaload, 1)) (e : S_items (X_sheets s 2) = f) (hN : j.toNatClampNeg = N0) (hin : vp_in j 40) (h : G X k z (woX (xt X) a s) lv (.int (f N0) :: st) (pc + 1)) : G X k z (woX (xt X) a s) lv (.int j :: .ref (a 37) :: st) pc := by subst e; subst hN; exact g_iaload C 37 d rfl hin h
theorem sX_sheets2_items (C : GC X cc own n R) {s : XSt} {c : SSt} (ec : X_sheets s 2 = c)  {f : Nat → Int32} (d : decode cc pc = .ok (.iastore, 1)) (e : S_items c = f) (hN : j.toNatClampNeg = N0) (hin : vp_in j 40) (h : G X k z (woX (xt X) a (X_sheets_ s (va_up (X_sheets s) 2 (S_items_ c (upd f N0 w))))) lv st (pc + 1)) : G X k z (woX (xt X) a s) lv (.int w :: .int j :: .ref (a 37) :: st) pc := by subst ec; subst e; subst hN; exact g_iastore C 37 d rfl hin rfl h
theorem fX_sheets2_sort (C : GC X cc own n R) {s : XSt} (hlk : Cond.fieldLink own i R_S (F_S 1).2.1 (F_S 1).2.2.1 ∈ TB) (d : decode cc pc = .ok (.getfield i, 3)) (e : S_sort (X_sheets s 2) = v) (h : G X k z (woX (xt X) a s) lv (.int v :: st) (pc + 3)) : G X k z (woX (xt X) a s) lv (.ref (a 36) :: st) pc := g_getf C i_S (ci := 2) rfl 36 1 (v := .int v) (Nat.le_of_ble_eq_true rfl) hlk rfl d rfl (by subst e; rfl) h
theorem pX_sheets2_sort (C : GC X cc own n R) {s : XSt} {c : SSt} (ec : X_sheets s 2 = c) (hlk : Cond.fieldLink own i R_S (F_S 1).2.1 (F_S 1).2.2.1 ∈ TB) (d : decode cc pc = .ok (.putfield i, 3))  (h : G X k z (woX (xt X) a (X_sheets_ s (va_up (X_sheets s) 2 (S_sort_ c v)))) lv st (pc + 3)) : G X k z (woX (xt X) a s) lv (.int v :: .ref (a 36) :: st) pc := by subst ec; exact g_putf C i_S (ci := 2) rfl ty_S ty_S_ok n_S 36 1 (Nat.le_of_ble_eq_true rfl) hlk rfl rfl d rfl rfl rfl (Nat.le_of_ble_eq_true rfl) rfl h
theorem fX_sheets2_size (C : GC X cc own n R) {s : XSt} (hlk : Cond.fieldLink own i R_S (F_S 2).2.1 (F_S 2).2.2.1 ∈ TB) (d : decode cc pc = .ok (.getfield i, 3)) (e : S_size (X_sheets s 2) = v) (h : G X k z (woX (xt X) a s) lv (.int v :: st) (pc + 3)) : G X k z (woX (xt X) a s) lv (.ref (a 36) :: st) pc := g_getf C i_S (ci := 2) rfl 36 2 (v := .int v) (Nat.le_of_ble_eq_true rfl) hlk rfl d rfl (by subst e; rfl) h
theorem pX_sheets2_size (C : GC X cc own n R) {s : XSt} {c : SSt} (ec : X_sheets s 2 = c) (hlk : Cond.fieldLink own i R_S (F_S 2).2.1 (F_S 2).2.2.1 ∈ TB) (d : decode cc pc = .ok (.putfield i, 3))  (h : G X k z (woX (xt X) a (X_sheets_ s (va_up (X_sheets s) 2 (S_size_ c v)))) lv st (pc + 3)) : G X k z (woX (xt X) a s) lv (.int v :: .ref (a 36) :: st) pc := by subst ec; exact g_putf C i_S (ci := 2) rfl ty_S ty_S_ok n_S 36 2 (Nat.le_of_ble_eq_true rfl) hlk rfl rfl d rfl rfl rfl (Nat.le_of_ble_eq_true rfl) rfl h
theorem fX_sheets3_items (C : GC X cc own n R) {s : XSt} (hlk : Cond.fieldLink own i R_S (F_S 0).2.1 (F_S 0).2.2.1 ∈ TB) (d : decode cc pc = .ok (.getfield i, 3)) (h : G X k z (woX (xt X) a s) lv (.ref (a 39) :: st) (pc + 3)) : G X k z (woX (xt X) a s) lv (.ref (a 38) :: st) pc := g_getf C i_S (ci := 2) rfl 38 0 (v := .ref (a 39)) (Nat.le_of_ble_eq_true rfl) hlk rfl d rfl rfl h
theorem lX_sheets3_items (C : GC X cc own n R) {s : XSt} {f : Nat → Int32} (d : decode cc pc = .ok (.iaload, 1)) (e : S_items (X_sheets s 3) = f) (hN : j.toNatClampNeg = N0) (hin : vp_in j 40) (h : G X k z (woX (xt X) a s) lv (.int (f N0) :: st) (pc + 1)) : G X k z (woX (xt X) a s) lv (.int j :: .ref (a 39) :: st) pc := by subst e; subst hN; exact g_iaload C 39 d rfl hin h
theorem sX_sheets3_items (C : GC X cc own n R) {s : XSt} {c : SSt} (ec : X_sheets s 3 = c)  {f : Nat → Int32} (d : decode cc pc = .ok (.iastore, 1)) (e : S_items c = f) (hN : j.toNatClampNeg = N0) (hin : vp_in j 40) (h : G X k z (woX (xt X) a (X_sheets_ s (va_up (X_sheets s) 3 (S_items_ c (upd f N0 w))))) lv st (pc + 1)) : G X k z (woX (xt X) a s) lv (.int w :: .int j :: .ref (a 39) :: st) pc := by subst ec; subst e; subst hN; exact g_iastore C 39 d rfl hin rfl h
theorem fX_sheets3_sort (C : GC X cc own n R) {s : XSt} (hlk : Cond.fieldLink own i R_S (F_S 1).2.1 (F_S 1).2.2.1 ∈ TB) (d : decode cc pc = .ok (.getfield i, 3)) (e : S_sort (X_sheets s 3) = v) (h : G X k z (woX (xt X) a s) lv (.int v :: st) (pc + 3)) : G X k z (woX (xt X) a s) lv (.ref (a 38) :: st) pc := g_getf C i_S (ci := 2) rfl 38 1 (v := .int v) (Nat.le_of_ble_eq_true rfl) hlk rfl d rfl (by subst e; rfl) h
theorem pX_sheets3_sort (C : GC X cc own n R) {s : XSt} {c : SSt} (ec : X_sheets s 3 = c) (hlk : Cond.fieldLink own i R_S (F_S 1).2.1 (F_S 1).2.2.1 ∈ TB) (d : decode cc pc = .ok (.putfield i, 3))  (h : G X k z (woX (xt X) a (X_sheets_ s (va_up (X_sheets s) 3 (S_sort_ c v)))) lv st (pc + 3)) : G X k z (woX (xt X) a s) lv (.int v :: .ref (a 38) :: st) pc := by subst ec; exact g_putf C i_S (ci := 2) rfl ty_S ty_S_ok n_S 38 1 (Nat.le_of_ble_eq_true rfl) hlk rfl rfl d rfl rfl rfl (Nat.le_of_ble_eq_true rfl) rfl h
theorem fX_sheets3_size (C : GC X cc own n R) {s : XSt} (hlk : Cond.fieldLink own i R_S (F_S 2).2.1 (F_S 2).2.2.1 ∈ TB) (d : decode cc pc = .ok (.getfield i, 3)) (e : S_size (X_sheets s 3) = v) (h : G X k z (woX (xt X) a s) lv (.int v :: st) (pc + 3)) : G X k z (woX (xt X) a s) lv (.ref (a 38) :: st) pc := g_getf C i_S (ci := 2) rfl 38 2 (v := .int v) (Nat.le_of_ble_eq_true rfl) hlk rfl d rfl (by subst e; rfl) h
theorem pX_sheets3_size (C : GC X cc own n R) {s : XSt} {c : SSt} (ec : X_sheets s 3 = c) (hlk : Cond.fieldLink own i R_S (F_S 2).2.1 (F_S 2).2.2.1 ∈ TB) (d : decode cc pc = .ok (.putfield i, 3))  (h : G X k z (woX (xt X) a (X_sheets_ s (va_up (X_sheets s) 3 (S_size_ c v)))) lv st (pc + 3)) : G X k z (woX (xt X) a s) lv (.int v :: .ref (a 38) :: st) pc := by subst ec; exact g_putf C i_S (ci := 2) rfl ty_S ty_S_ok n_S 38 2 (Nat.le_of_ble_eq_true rfl) hlk rfl rfl d rfl rfl rfl (Nat.le_of_ble_eq_true rfl) rfl h
theorem fX_shelves0_what (C : GC X cc own n R) {s : XSt} (hlk : Cond.fieldLink own i R_H (F_H 0).2.1 (F_H 0).2.2.1 ∈ TB) (d : decode cc pc = .ok (.getfield i, 3)) (e : H_what (X_shelves s 0) = v) (h : G X k z (woX (xt X) a s) lv (.int v :: st) (pc + 3)) : G X k z (woX (xt X) a s) lv (.ref (a 41) :: st) pc := g_getf C i_H (ci := 3) rfl 41 0 (v := .int v) (Nat.le_of_ble_eq_true rfl) hlk rfl d rfl (by subst e; rfl) h
theorem pX_shelves0_what (C : GC X cc own n R) {s : XSt} {c : HSt} (ec : X_shelves s 0 = c) (hlk : Cond.fieldLink own i R_H (F_H 0).2.1 (F_H 0).2.2.1 ∈ TB) (d : decode cc pc = .ok (.putfield i, 3))  (h : G X k z (woX (xt X) a (X_shelves_ s (va_up (X_shelves s) 0 (H_what_ c v)))) lv st (pc + 3)) : G X k z (woX (xt X) a s) lv (.int v :: .ref (a 41) :: st) pc := by subst ec; exact g_putf C i_H (ci := 3) rfl ty_H ty_H_ok n_H 41 0 (Nat.le_of_ble_eq_true rfl) hlk rfl rfl d rfl rfl rfl (Nat.le_of_ble_eq_true rfl) rfl h
theorem fX_shelves0_barge (C : GC X cc own n R) {s : XSt} (hlk : Cond.fieldLink own i R_H (F_H 1).2.1 (F_H 1).2.2.1 ∈ TB) (d : decode cc pc = .ok (.getfield i, 3)) (e : H_barge (X_shelves s 0) = v) (h : G X k z (woX (xt X) a s) lv (.int v :: st) (pc + 3)) : G X k z (woX (xt X) a s) lv (.ref (a 41) :: st) pc := g_getf C i_H (ci := 3) rfl 41 1 (v := .int v) (Nat.le_of_ble_eq_true rfl) hlk rfl d rfl (by subst e; rfl) h
theorem pX_shelves0_barge (C : GC X cc own n R) {s : XSt} {c : HSt} (ec : X_shelves s 0 = c) (hlk : Cond.fieldLink own i R_H (F_H 1).2.1 (F_H 1).2.2.1 ∈ TB) (d : decode cc pc = .ok (.putfield i, 3))  (h : G X k z (woX (xt X) a (X_shelves_ s (va_up (X_shelves s) 0 (H_barge_ c v)))) lv st (pc + 3)) : G X k z (woX (xt X) a s) lv (.int v :: .ref (a 41) :: st) pc := by subst ec; exact g_putf C i_H (ci := 3) rfl ty_H ty_H_ok n_H 41 1 (Nat.le_of_ble_eq_true rfl) hlk rfl rfl d rfl rfl rfl (Nat.le_of_ble_eq_true rfl) rfl h
theorem fX_shelves0_rowSort (C : GC X cc own n R) {s : XSt} (hlk : Cond.fieldLink own i R_H (F_H 2).2.1 (F_H 2).2.2.1 ∈ TB) (d : decode cc pc = .ok (.getfield i, 3)) (e : H_rowSort (X_shelves s 0) = v) (h : G X k z (woX (xt X) a s) lv (.int v :: st) (pc + 3)) : G X k z (woX (xt X) a s) lv (.ref (a 41) :: st) pc := g_getf C i_H (ci := 3) rfl 41 2 (v := .int v) (Nat.le_of_ble_eq_true rfl) hlk rfl d rfl (by subst e; rfl) h
theorem pX_shelves0_rowSort (C : GC X cc own n R) {s : XSt} {c : HSt} (ec : X_shelves s 0 = c) (hlk : Cond.fieldLink own i R_H (F_H 2).2.1 (F_H 2).2.2.1 ∈ TB) (d : decode cc pc = .ok (.putfield i, 3))  (h : G X k z (woX (xt X) a (X_shelves_ s (va_up (X_shelves s) 0 (H_rowSort_ c v)))) lv st (pc + 3)) : G X k z (woX (xt X) a s) lv (.int v :: .ref (a 41) :: st) pc := by subst ec; exact g_putf C i_H (ci := 3) rfl ty_H ty_H_ok n_H 41 2 (Nat.le_of_ble_eq_true rfl) hlk rfl rfl d rfl rfl rfl (Nat.le_of_ble_eq_true rfl) rfl h
theorem fX_shelves0_rowSize (C : GC X cc own n R) {s : XSt} (hlk : Cond.fieldLink own i R_H (F_H 3).2.1 (F_H 3).2.2.1 ∈ TB) (d : decode cc pc = .ok (.getfield i, 3)) (e : H_rowSize (X_shelves s 0) = v) (h : G X k z (woX (xt X) a s) lv (.int v :: st) (pc + 3)) : G X k z (woX (xt X) a s) lv (.ref (a 41) :: st) pc := g_getf C i_H (ci := 3) rfl 41 3 (v := .int v) (Nat.le_of_ble_eq_true rfl) hlk rfl d rfl (by subst e; rfl) h
theorem pX_shelves0_rowSize (C : GC X cc own n R) {s : XSt} {c : HSt} (ec : X_shelves s 0 = c) (hlk : Cond.fieldLink own i R_H (F_H 3).2.1 (F_H 3).2.2.1 ∈ TB) (d : decode cc pc = .ok (.putfield i, 3))  (h : G X k z (woX (xt X) a (X_shelves_ s (va_up (X_shelves s) 0 (H_rowSize_ c v)))) lv st (pc + 3)) : G X k z (woX (xt X) a s) lv (.int v :: .ref (a 41) :: st) pc := by subst ec; exact g_putf C i_H (ci := 3) rfl ty_H ty_H_ok n_H 41 3 (Nat.le_of_ble_eq_true rfl) hlk rfl rfl d rfl rfl rfl (Nat.le_of_ble_eq_true rfl) rfl h
theorem fX_shelves1_what (C : GC X cc own n R) {s : XSt} (hlk : Cond.fieldLink own i R_H (F_H 0).2.1 (F_H 0).2.2.1 ∈ TB) (d : decode cc pc = .ok (.getfield i, 3)) (e : H_what (X_shelves s 1) = v) (h : G X k z (woX (xt X) a s) lv (.int v :: st) (pc + 3)) : G X k z (woX (xt X) a s) lv (.ref (a 42) :: st) pc := g_getf C i_H (ci := 3) rfl 42 0 (v := .int v) (Nat.le_of_ble_eq_true rfl) hlk rfl d rfl (by subst e; rfl) h
theorem pX_shelves1_what (C : GC X cc own n R) {s : XSt} {c : HSt} (ec : X_shelves s 1 = c) (hlk : Cond.fieldLink own i R_H (F_H 0).2.1 (F_H 0).2.2.1 ∈ TB) (d : decode cc pc = .ok (.putfield i, 3))  (h : G X k z (woX (xt X) a (X_shelves_ s (va_up (X_shelves s) 1 (H_what_ c v)))) lv st (pc + 3)) : G X k z (woX (xt X) a s) lv (.int v :: .ref (a 42) :: st) pc := by subst ec; exact g_putf C i_H (ci := 3) rfl ty_H ty_H_ok n_H 42 0 (Nat.le_of_ble_eq_true rfl) hlk rfl rfl d rfl rfl rfl (Nat.le_of_ble_eq_true rfl) rfl h
theorem fX_shelves1_barge (C : GC X cc own n R) {s : XSt} (hlk : Cond.fieldLink own i R_H (F_H 1).2.1 (F_H 1).2.2.1 ∈ TB) (d : decode cc pc = .ok (.getfield i, 3)) (e : H_barge (X_shelves s 1) = v) (h : G X k z (woX (xt X) a s) lv (.int v :: st) (pc + 3)) : G X k z (woX (xt X) a s) lv (.ref (a 42) :: st) pc := g_getf C i_H (ci := 3) rfl 42 1 (v := .int v) (Nat.le_of_ble_eq_true rfl) hlk rfl d rfl (by subst e; rfl) h
theorem pX_shelves1_barge (C : GC X cc own n R) {s : XSt} {c : HSt} (ec : X_shelves s 1 = c) (hlk : Cond.fieldLink own i R_H (F_H 1).2.1 (F_H 1).2.2.1 ∈ TB) (d : decode cc pc = .ok (.putfield i, 3))  (h : G X k z (woX (xt X) a (X_shelves_ s (va_up (X_shelves s) 1 (H_barge_ c v)))) lv st (pc + 3)) : G X k z (woX (xt X) a s) lv (.int v :: .ref (a 42) :: st) pc := by subst ec; exact g_putf C i_H (ci := 3) rfl ty_H ty_H_ok n_H 42 1 (Nat.le_of_ble_eq_true rfl) hlk rfl rfl d rfl rfl rfl (Nat.le_of_ble_eq_true rfl) rfl h
theorem fX_shelves1_rowSort (C : GC X cc own n R) {s : XSt} (hlk : Cond.fieldLink own i R_H (F_H 2).2.1 (F_H 2).2.2.1 ∈ TB) (d : decode cc pc = .ok (.getfield i, 3)) (e : H_rowSort (X_shelves s 1) = v) (h : G X k z (woX (xt X) a s) lv (.int v :: st) (pc + 3)) : G X k z (woX (xt X) a s) lv (.ref (a 42) :: st) pc := g_getf C i_H (ci := 3) rfl 42 2 (v := .int v) (Nat.le_of_ble_eq_true rfl) hlk rfl d rfl (by subst e; rfl) h
theorem pX_shelves1_rowSort (C : GC X cc own n R) {s : XSt} {c : HSt} (ec : X_shelves s 1 = c) (hlk : Cond.fieldLink own i R_H (F_H 2).2.1 (F_H 2).2.2.1 ∈ TB) (d : decode cc pc = .ok (.putfield i, 3))  (h : G X k z (woX (xt X) a (X_shelves_ s (va_up (X_shelves s) 1 (H_rowSort_ c v)))) lv st (pc + 3)) : G X k z (woX (xt X) a s) lv (.int v :: .ref (a 42) :: st) pc := by subst ec; exact g_putf C i_H (ci := 3) rfl ty_H ty_H_ok n_H 42 2 (Nat.le_of_ble_eq_true rfl) hlk rfl rfl d rfl rfl rfl (Nat.le_of_ble_eq_true rfl) rfl h
theorem fX_shelves1_rowSize (C : GC X cc own n R) {s : XSt} (hlk : Cond.fieldLink own i R_H (F_H 3).2.1 (F_H 3).2.2.1 ∈ TB) (d : decode cc pc = .ok (.getfield i, 3)) (e : H_rowSize (X_shelves s 1) = v) (h : G X k z (woX (xt X) a s) lv (.int v :: st) (pc + 3)) : G X k z (woX (xt X) a s) lv (.ref (a 42) :: st) pc := g_getf C i_H (ci := 3) rfl 42 3 (v := .int v) (Nat.le_of_ble_eq_true rfl) hlk rfl d rfl (by subst e; rfl) h
theorem pX_shelves1_rowSize (C : GC X cc own n R) {s : XSt} {c : HSt} (ec : X_shelves s 1 = c) (hlk : Cond.fieldLink own i R_H (F_H 3).2.1 (F_H 3).2.2.1 ∈ TB) (d : decode cc pc = .ok (.putfield i, 3))  (h : G X k z (woX (xt X) a (X_shelves_ s (va_up (X_shelves s) 1 (H_rowSize_ c v)))) lv st (pc + 3)) : G X k z (woX (xt X) a s) lv (.int v :: .ref (a 42) :: st) pc := by subst ec; exact g_putf C i_H (ci := 3) rfl ty_H ty_H_ok n_H 42 3 (Nat.le_of_ble_eq_true rfl) hlk rfl rfl d rfl rfl rfl (Nat.le_of_ble_eq_true rfl) rfl h
theorem fX_shelves2_what (C : GC X cc own n R) {s : XSt} (hlk : Cond.fieldLink own i R_H (F_H 0).2.1 (F_H 0).2.2.1 ∈ TB) (d : decode cc pc = .ok (.getfield i, 3)) (e : H_what (X_shelves s 2) = v) (h : G X k z (woX (xt X) a s) lv (.int v :: st) (pc + 3)) : G X k z (woX (xt X) a s) lv (.ref (a 43) :: st) pc := g_getf C i_H (ci := 3) rfl 43 0 (v := .int v) (Nat.le_of_ble_eq_true rfl) hlk rfl d rfl (by subst e; rfl) h
theorem pX_shelves2_what (C : GC X cc own n R) {s : XSt} {c : HSt} (ec : X_shelves s 2 = c) (hlk : Cond.fieldLink own i R_H (F_H 0).2.1 (F_H 0).2.2.1 ∈ TB) (d : decode cc pc = .ok (.putfield i, 3))  (h : G X k z (woX (xt X) a (X_shelves_ s (va_up (X_shelves s) 2 (H_what_ c v)))) lv st (pc + 3)) : G X k z (woX (xt X) a s) lv (.int v :: .ref (a 43) :: st) pc := by subst ec; exact g_putf C i_H (ci := 3) rfl ty_H ty_H_ok n_H 43 0 (Nat.le_of_ble_eq_true rfl) hlk rfl rfl d rfl rfl rfl (Nat.le_of_ble_eq_true rfl) rfl h
theorem fX_shelves2_barge (C : GC X cc own n R) {s : XSt} (hlk : Cond.fieldLink own i R_H (F_H 1).2.1 (F_H 1).2.2.1 ∈ TB) (d : decode cc pc = .ok (.getfield i, 3)) (e : H_barge (X_shelves s 2) = v) (h : G X k z (woX (xt X) a s) lv (.int v :: st) (pc + 3)) : G X k z (woX (xt X) a s) lv (.ref (a 43) :: st) pc := g_getf C i_H (ci := 3) rfl 43 1 (v := .int v) (Nat.le_of_ble_eq_true rfl) hlk rfl d rfl (by subst e; rfl) h
theorem pX_shelves2_barge (C : GC X cc own n R) {s : XSt} {c : HSt} (ec : X_shelves s 2 = c) (hlk : Cond.fieldLink own i R_H (F_H 1).2.1 (F_H 1).2.2.1 ∈ TB) (d : decode cc pc = .ok (.putfield i, 3))  (h : G X k z (woX (xt X) a (X_shelves_ s (va_up (X_shelves s) 2 (H_barge_ c v)))) lv st (pc + 3)) : G X k z (woX (xt X) a s) lv (.int v :: .ref (a 43) :: st) pc := by subst ec; exact g_putf C i_H (ci := 3) rfl ty_H ty_H_ok n_H 43 1 (Nat.le_of_ble_eq_true rfl) hlk rfl rfl d rfl rfl rfl (Nat.le_of_ble_eq_true rfl) rfl h
theorem fX_shelves2_rowSort (C : GC X cc own n R) {s : XSt} (hlk : Cond.fieldLink own i R_H (F_H 2).2.1 (F_H 2).2.2.1 ∈ TB) (d : decode cc pc = .ok (.getfield i, 3)) (e : H_rowSort (X_shelves s 2) = v) (h : G X k z (woX (xt X) a s) lv (.int v :: st) (pc + 3)) : G X k z (woX (xt X) a s) lv (.ref (a 43) :: st) pc := g_getf C i_H (ci := 3) rfl 43 2 (v := .int v) (Nat.le_of_ble_eq_true rfl) hlk rfl d rfl (by subst e; rfl) h
theorem pX_shelves2_rowSort (C : GC X cc own n R) {s : XSt} {c : HSt} (ec : X_shelves s 2 = c) (hlk : Cond.fieldLink own i R_H (F_H 2).2.1 (F_H 2).2.2.1 ∈ TB) (d : decode cc pc = .ok (.putfield i, 3))  (h : G X k z (woX (xt X) a (X_shelves_ s (va_up (X_shelves s) 2 (H_rowSort_ c v)))) lv st (pc + 3)) : G X k z (woX (xt X) a s) lv (.int v :: .ref (a 43) :: st) pc := by subst ec; exact g_putf C i_H (ci := 3) rfl ty_H ty_H_ok n_H 43 2 (Nat.le_of_ble_eq_true rfl) hlk rfl rfl d rfl rfl rfl (Nat.le_of_ble_eq_true rfl) rfl h
theorem fX_shelves2_rowSize (C : GC X cc own n R) {s : XSt} (hlk : Cond.fieldLink own i R_H (F_H 3).2.1 (F_H 3).2.2.1 ∈ TB) (d : decode cc pc = .ok (.getfield i, 3)) (e : H_rowSize (X_shelves s 2) = v) (h : G X k z (woX (xt X) a s) lv (.int v :: st) (pc + 3)) : G X k z (woX (xt X) a s) lv (.ref (a 43) :: st) pc := g_getf C i_H (ci := 3) rfl 43 3 (v := .int v) (Nat.le_of_ble_eq_true rfl) hlk rfl d rfl (by subst e; rfl) h
theorem pX_shelves2_rowSize (C : GC X cc own n R) {s : XSt} {c : HSt} (ec : X_shelves s 2 = c) (hlk : Cond.fieldLink own i R_H (F_H 3).2.1 (F_H 3).2.2.1 ∈ TB) (d : decode cc pc = .ok (.putfield i, 3))  (h : G X k z (woX (xt X) a (X_shelves_ s (va_up (X_shelves s) 2 (H_rowSize_ c v)))) lv st (pc + 3)) : G X k z (woX (xt X) a s) lv (.int v :: .ref (a 43) :: st) pc := by subst ec; exact g_putf C i_H (ci := 3) rfl ty_H ty_H_ok n_H 43 3 (Nat.le_of_ble_eq_true rfl) hlk rfl rfl d rfl rfl rfl (Nat.le_of_ble_eq_true rfl) rfl h
theorem fX_shelves3_what (C : GC X cc own n R) {s : XSt} (hlk : Cond.fieldLink own i R_H (F_H 0).2.1 (F_H 0).2.2.1 ∈ TB) (d : decode cc pc = .ok (.getfield i, 3)) (e : H_what (X_shelves s 3) = v) (h : G X k z (woX (xt X) a s) lv (.int v :: st) (pc + 3)) : G X k z (woX (xt X) a s) lv (.ref (a 44) :: st) pc := g_getf C i_H (ci := 3) rfl 44 0 (v := .int v) (Nat.le_of_ble_eq_true rfl) hlk rfl d rfl (by subst e; rfl) h
theorem pX_shelves3_what (C : GC X cc own n R) {s : XSt} {c : HSt} (ec : X_shelves s 3 = c) (hlk : Cond.fieldLink own i R_H (F_H 0).2.1 (F_H 0).2.2.1 ∈ TB) (d : decode cc pc = .ok (.putfield i, 3))  (h : G X k z (woX (xt X) a (X_shelves_ s (va_up (X_shelves s) 3 (H_what_ c v)))) lv st (pc + 3)) : G X k z (woX (xt X) a s) lv (.int v :: .ref (a 44) :: st) pc := by subst ec; exact g_putf C i_H (ci := 3) rfl ty_H ty_H_ok n_H 44 0 (Nat.le_of_ble_eq_true rfl) hlk rfl rfl d rfl rfl rfl (Nat.le_of_ble_eq_true rfl) rfl h
theorem fX_shelves3_barge (C : GC X cc own n R) {s : XSt} (hlk : Cond.fieldLink own i R_H (F_H 1).2.1 (F_H 1).2.2.1 ∈ TB) (d : decode cc pc = .ok (.getfield i, 3)) (e : H_barge (X_shelves s 3) = v) (h : G X k z (woX (xt X) a s) lv (.int v :: st) (pc + 3)) : G X k z (woX (xt X) a s) lv (.ref (a 44) :: st) pc := g_getf C i_H (ci := 3) rfl 44 1 (v := .int v) (Nat.le_of_ble_eq_true rfl) hlk rfl d rfl (by subst e; rfl) h
theorem pX_shelves3_barge (C : GC X cc own n R) {s : XSt} {c : HSt} (ec : X_shelves s 3 = c) (hlk : Cond.fieldLink own i R_H (F_H 1).2.1 (F_H 1).2.2.1 ∈ TB) (d : decode cc pc = .ok (.putfield i, 3))  (h : G X k z (woX (xt X) a (X_shelves_ s (va_up (X_shelves s) 3 (H_barge_ c v)))) lv st (pc + 3)) : G X k z (woX (xt X) a s) lv (.int v :: .ref (a 44) :: st) pc := by subst ec; exact g_putf C i_H (ci := 3) rfl ty_H ty_H_ok n_H 44 1 (Nat.le_of_ble_eq_true rfl) hlk rfl rfl d rfl rfl rfl (Nat.le_of_ble_eq_true rfl) rfl h
theorem fX_shelves3_rowSort (C : GC X cc own n R) {s : XSt} (hlk : Cond.fieldLink own i R_H (F_H 2).2.1 (F_H 2).2.2.1 ∈ TB) (d : decode cc pc = .ok (.getfield i, 3)) (e : H_rowSort (X_shelves s 3) = v) (h : G X k z (woX (xt X) a s) lv (.int v :: st) (pc + 3)) : G X k z (woX (xt X) a s) lv (.ref (a 44) :: st) pc := g_getf C i_H (ci := 3) rfl 44 2 (v := .int v) (Nat.le_of_ble_eq_true rfl) hlk rfl d rfl (by subst e; rfl) h
theorem pX_shelves3_rowSort (C : GC X cc own n R) {s : XSt} {c : HSt} (ec : X_shelves s 3 = c) (hlk : Cond.fieldLink own i R_H (F_H 2).2.1 (F_H 2).2.2.1 ∈ TB) (d : decode cc pc = .ok (.putfield i, 3))  (h : G X k z (woX (xt X) a (X_shelves_ s (va_up (X_shelves s) 3 (H_rowSort_ c v)))) lv st (pc + 3)) : G X k z (woX (xt X) a s) lv (.int v :: .ref (a 44) :: st) pc := by subst ec; exact g_putf C i_H (ci := 3) rfl ty_H ty_H_ok n_H 44 2 (Nat.le_of_ble_eq_true rfl) hlk rfl rfl d rfl rfl rfl (Nat.le_of_ble_eq_true rfl) rfl h
theorem fX_shelves3_rowSize (C : GC X cc own n R) {s : XSt} (hlk : Cond.fieldLink own i R_H (F_H 3).2.1 (F_H 3).2.2.1 ∈ TB) (d : decode cc pc = .ok (.getfield i, 3)) (e : H_rowSize (X_shelves s 3) = v) (h : G X k z (woX (xt X) a s) lv (.int v :: st) (pc + 3)) : G X k z (woX (xt X) a s) lv (.ref (a 44) :: st) pc := g_getf C i_H (ci := 3) rfl 44 3 (v := .int v) (Nat.le_of_ble_eq_true rfl) hlk rfl d rfl (by subst e; rfl) h
theorem pX_shelves3_rowSize (C : GC X cc own n R) {s : XSt} {c : HSt} (ec : X_shelves s 3 = c) (hlk : Cond.fieldLink own i R_H (F_H 3).2.1 (F_H 3).2.2.1 ∈ TB) (d : decode cc pc = .ok (.putfield i, 3))  (h : G X k z (woX (xt X) a (X_shelves_ s (va_up (X_shelves s) 3 (H_rowSize_ c v)))) lv st (pc + 3)) : G X k z (woX (xt X) a s) lv (.int v :: .ref (a 44) :: st) pc := by subst ec; exact g_putf C i_H (ci := 3) rfl ty_H ty_H_ok n_H 44 3 (Nat.le_of_ble_eq_true rfl) hlk rfl rfl d rfl rfl rfl (Nat.le_of_ble_eq_true rfl) rfl h
theorem fX_now (C : GC X cc own n R) {s : XSt} (hlk : Cond.fieldLink own i R_X (F_X 0).2.1 (F_X 0).2.2.1 ∈ TB) (d : decode cc pc = .ok (.getfield i, 3)) (h : G X k z (woX (xt X) a s) lv (.ref (a 1) :: st) (pc + 3)) : G X k z (woX (xt X) a s) lv (.ref (a 0) :: st) pc := g_getf C i_X (ci := 5) rfl 0 0 (v := .ref (a 1)) (Nat.le_of_ble_eq_true rfl) hlk rfl d rfl rfl h
theorem fX_tried (C : GC X cc own n R) {s : XSt} (hlk : Cond.fieldLink own i R_X (F_X 1).2.1 (F_X 1).2.2.1 ∈ TB) (d : decode cc pc = .ok (.getfield i, 3)) (h : G X k z (woX (xt X) a s) lv (.ref (a 10) :: st) (pc + 3)) : G X k z (woX (xt X) a s) lv (.ref (a 0) :: st) pc := g_getf C i_X (ci := 5) rfl 0 1 (v := .ref (a 10)) (Nat.le_of_ble_eq_true rfl) hlk rfl d rfl rfl h
theorem fX_kept (C : GC X cc own n R) {s : XSt} (hlk : Cond.fieldLink own i R_X (F_X 2).2.1 (F_X 2).2.2.1 ∈ TB) (d : decode cc pc = .ok (.getfield i, 3)) (h : G X k z (woX (xt X) a s) lv (.ref (a 19) :: st) (pc + 3)) : G X k z (woX (xt X) a s) lv (.ref (a 0) :: st) pc := g_getf C i_X (ci := 5) rfl 0 2 (v := .ref (a 19)) (Nat.le_of_ble_eq_true rfl) hlk rfl d rfl rfl h
theorem fX_isKept (C : GC X cc own n R) {s : XSt} (hlk : Cond.fieldLink own i R_X (F_X 3).2.1 (F_X 3).2.2.1 ∈ TB) (d : decode cc pc = .ok (.getfield i, 3)) (e : X_isKept s = v) (h : G X k z (woX (xt X) a s) lv (.int v :: st) (pc + 3)) : G X k z (woX (xt X) a s) lv (.ref (a 0) :: st) pc := g_getf C i_X (ci := 5) rfl 0 3 (v := .int v) (Nat.le_of_ble_eq_true rfl) hlk rfl d rfl (by subst e; rfl) h
theorem pX_isKept (C : GC X cc own n R) {s : XSt} (hlk : Cond.fieldLink own i R_X (F_X 3).2.1 (F_X 3).2.2.1 ∈ TB) (d : decode cc pc = .ok (.putfield i, 3)) (hn : narrow .boolean (.int v) = .int v) (hf : fits .boolean (.int v) = true) (h : G X k z (woX (xt X) a (X_isKept_ s v)) lv st (pc + 3)) : G X k z (woX (xt X) a s) lv (.int v :: .ref (a 0) :: st) pc := g_putf C i_X (ci := 5) rfl ty_X ty_X_ok n_X 0 3 (Nat.le_of_ble_eq_true rfl) hlk rfl rfl d rfl hn hf (Nat.le_of_ble_eq_true rfl) rfl h
theorem fX_tape (C : GC X cc own n R) {s : XSt} (hlk : Cond.fieldLink own i R_X (F_X 4).2.1 (F_X 4).2.2.1 ∈ TB) (d : decode cc pc = .ok (.getfield i, 3)) (h : G X k z (woX (xt X) a s) lv (.ref (a 28) :: st) (pc + 3)) : G X k z (woX (xt X) a s) lv (.ref (a 0) :: st) pc := g_getf C i_X (ci := 5) rfl 0 4 (v := .ref (a 28)) (Nat.le_of_ble_eq_true rfl) hlk rfl d rfl rfl h
theorem fX_rows (C : GC X cc own n R) {s : XSt} (hlk : Cond.fieldLink own i R_X (F_X 5).2.1 (F_X 5).2.2.1 ∈ TB) (d : decode cc pc = .ok (.getfield i, 3)) (h : G X k z (woX (xt X) a s) lv (.ref (a 30) :: st) (pc + 3)) : G X k z (woX (xt X) a s) lv (.ref (a 0) :: st) pc := g_getf C i_X (ci := 5) rfl 0 5 (v := .ref (a 30)) (Nat.le_of_ble_eq_true rfl) hlk rfl d rfl rfl h
theorem fX_rowCount (C : GC X cc own n R) {s : XSt} (hlk : Cond.fieldLink own i R_X (F_X 6).2.1 (F_X 6).2.2.1 ∈ TB) (d : decode cc pc = .ok (.getfield i, 3)) (e : X_rowCount s = v) (h : G X k z (woX (xt X) a s) lv (.int v :: st) (pc + 3)) : G X k z (woX (xt X) a s) lv (.ref (a 0) :: st) pc := g_getf C i_X (ci := 5) rfl 0 6 (v := .int v) (Nat.le_of_ble_eq_true rfl) hlk rfl d rfl (by subst e; rfl) h
theorem pX_rowCount (C : GC X cc own n R) {s : XSt} (hlk : Cond.fieldLink own i R_X (F_X 6).2.1 (F_X 6).2.2.1 ∈ TB) (d : decode cc pc = .ok (.putfield i, 3))  (h : G X k z (woX (xt X) a (X_rowCount_ s v)) lv st (pc + 3)) : G X k z (woX (xt X) a s) lv (.int v :: .ref (a 0) :: st) pc := g_putf C i_X (ci := 5) rfl ty_X ty_X_ok n_X 0 6 (Nat.le_of_ble_eq_true rfl) hlk rfl rfl d rfl rfl rfl (Nat.le_of_ble_eq_true rfl) rfl h
theorem fX_sheets (C : GC X cc own n R) {s : XSt} (hlk : Cond.fieldLink own i R_X (F_X 7).2.1 (F_X 7).2.2.1 ∈ TB) (d : decode cc pc = .ok (.getfield i, 3)) (h : G X k z (woX (xt X) a s) lv (.ref (a 31) :: st) (pc + 3)) : G X k z (woX (xt X) a s) lv (.ref (a 0) :: st) pc := g_getf C i_X (ci := 5) rfl 0 7 (v := .ref (a 31)) (Nat.le_of_ble_eq_true rfl) hlk rfl d rfl rfl h
theorem fX_shelves (C : GC X cc own n R) {s : XSt} (hlk : Cond.fieldLink own i R_X (F_X 8).2.1 (F_X 8).2.2.1 ∈ TB) (d : decode cc pc = .ok (.getfield i, 3)) (h : G X k z (woX (xt X) a s) lv (.ref (a 40) :: st) (pc + 3)) : G X k z (woX (xt X) a s) lv (.ref (a 0) :: st) pc := g_getf C i_X (ci := 5) rfl 0 8 (v := .ref (a 40)) (Nat.le_of_ble_eq_true rfl) hlk rfl d rfl rfl h
theorem fX_acts (C : GC X cc own n R) {s : XSt} (hlk : Cond.fieldLink own i R_X (F_X 9).2.1 (F_X 9).2.2.1 ∈ TB) (d : decode cc pc = .ok (.getfield i, 3)) (h : G X k z (woX (xt X) a s) lv (.ref (a 45) :: st) (pc + 3)) : G X k z (woX (xt X) a s) lv (.ref (a 0) :: st) pc := g_getf C i_X (ci := 5) rfl 0 9 (v := .ref (a 45)) (Nat.le_of_ble_eq_true rfl) hlk rfl d rfl rfl h
theorem lX_rows (C : GC X cc own n R) {s : XSt} {f : Nat → Int32} (d : decode cc pc = .ok (.iaload, 1)) (e : X_rows s = f) (hN : j.toNatClampNeg = N0) (hin : vp_in j 30) (h : G X k z (woX (xt X) a s) lv (.int (f N0) :: st) (pc + 1)) : G X k z (woX (xt X) a s) lv (.int j :: .ref (a 30) :: st) pc := by subst e; subst hN; exact g_iaload C 30 d rfl hin h
theorem sX_rows (C : GC X cc own n R) {s : XSt}   {f : Nat → Int32} (d : decode cc pc = .ok (.iastore, 1)) (e : X_rows s = f) (hN : j.toNatClampNeg = N0) (hin : vp_in j 30) (h : G X k z (woX (xt X) a (X_rows_ s (upd f N0 w))) lv st (pc + 1)) : G X k z (woX (xt X) a s) lv (.int w :: .int j :: .ref (a 30) :: st) pc := by subst e; subst hN; exact g_iastore C 30 d rfl hin rfl h
end GW
theorem scat_all : ∀ (u ws : va_W) (p : Nat), u.length + p = ws.length → ∀ l : va_W, l.length = p → ws.take p = l → scat ws ((List.range u.length).map (fun i => p + i)) u = l ++ u
  | [], ws, p, h, l, hl, e => by
    simp only [List.length_nil, List.range_zero, List.map_nil, scat, List.append_nil]
    rw [← e, List.take_of_length_le (by simp at h; omega)]
  | q :: u, ws, p, h, l, hl, e => by
    have hr : (List.range (q :: u).length).map (fun i => p + i) = p :: (List.range u.length).map (fun i => (p + 1) + i) := by
      rw [List.length_cons, List.range_succ_eq_map, List.map_cons, List.map_map]
      refine List.cons_eq_cons.mpr ⟨rfl, List.map_congr_left (fun i _ => ?_)⟩
      show p + (i + 1) = p + 1 + i
      omega
    rw [hr, scat]
    have hp : p < ws.length := by simp at h; omega
    rw [scat_all u (ws.set p q) (p + 1) (by simp at h ⊢; omega) (l ++ [q]) (by simp [hl]) ?_, List.append_assoc]
    · rfl
    · rw [List.take_set, ← e]
      apply List.ext_getElem?
      intro i
      by_cases hi : i = p
      · subst hi
        rw [List.getElem?_set_self (by simp; omega)]
        simp [List.getElem?_append, Nat.min_eq_left (Nat.le_of_lt hp)]
      · rw [List.getElem?_set_ne (Ne.symm hi)]
        simp only [List.getElem?_append, List.length_take, Nat.min_eq_left (Nat.le_of_lt hp), List.getElem?_take]
        by_cases h1 : i < p
        · simp [h1, Nat.lt_succ_of_lt h1]
        · have h2 : ¬ i < p + 1 := by omega
          have h3 : i - p ≠ 0 := by omega
          simp [h1, h2, List.getElem?_cons, h3]
/-- a call whose callee has the whole world -/
theorem co_all {X : GX} {k z mc ms : Nat} {ws : va_W} {lv : List (Nat × Value)} {st rest : List Value} {pc : Nat} {Qp : Option Value → va_W → Prop} (co : CO X k z mc ms ws (List.range ws.length) lv st rest pc Qp) (h : ∀ r u, Qp r u → G X (k + mc) (z + ms) u lv (r.toList ++ rest) (pc + 3)) : G X k z ws lv st pc := by
  refine co (fun r u hq hl => ?_)
  have hl : u.length = ws.length := by simpa using hl
  have e := scat_all u ws 0 (by omega) [] rfl (by simp)
  have e2 : (List.range u.length).map (fun i => 0 + i) = List.range ws.length := by rw [hl]; simp
  rw [e2] at e
  rw [e]
  exact h r u hq
theorem all_C (ws : va_W) : (List.range ws.length).map (fun i => ws[i]?) = ws.map some := by
  apply List.ext_getElem?
  intro i
  by_cases h : i < ws.length
  · simp [h]
  · simp [h]
theorem nd_of_nodup : ∀ (l : List Nat), l.Nodup → va_nd l = true
  | [], _ => by simp [va_nd]
  | x :: l, h => by
    have := List.nodup_cons.mp h
    simp [va_nd, this.1, nd_of_nodup l this.2]
theorem all_nd (m : Nat) : va_nd (List.range m) = true := nd_of_nodup _ List.nodup_range
theorem k_Ia {X : GX} {k z : Nat} {ws : va_W} {lv : List (Nat × Value)} {st rest : List Value} {pc : Nat} {S : Type} {W : S → va_W} {post : Int32 → S → Prop} (co : CO X k z 0 0 ws (List.range ws.length) lv st rest pc (qI W post)) (h : ∀ v c, post v c → G X k z (W c) lv (.int v :: rest) (pc + 3)) : G X k z ws lv st pc := co_all co (fun r u ⟨v, c, e1, e2, hq⟩ => by subst e1; subst e2; exact h v c hq)
theorem k_La {X : GX} {k z : Nat} {ws : va_W} {lv : List (Nat × Value)} {st rest : List Value} {pc : Nat} {S : Type} {W : S → va_W} {post : Int64 → S → Prop} (co : CO X k z 0 0 ws (List.range ws.length) lv st rest pc (qL W post)) (h : ∀ v c, post v c → G X k z (W c) lv (.long v :: rest) (pc + 3)) : G X k z ws lv st pc := co_all co (fun r u ⟨v, c, e1, e2, hq⟩ => by subst e1; subst e2; exact h v c hq)
theorem k_Va {X : GX} {k z : Nat} {ws : va_W} {lv : List (Nat × Value)} {st rest : List Value} {pc : Nat} {S : Type} {W : S → va_W} {post : S → Prop} (co : CO X k z 0 0 ws (List.range ws.length) lv st rest pc (qV W post)) (h : ∀ c, post c → G X k z (W c) lv rest (pc + 3)) : G X k z ws lv st pc := co_all co (fun r u ⟨c, e1, e2, hq⟩ => by subst e1; subst e2; exact h c hq)
theorem k_Ra {X : GX} {k z : Nat} {ws : va_W} {lv : List (Nat × Value)} {st rest : List Value} {pc : Nat} {S : Type} {W : S → va_W} {f : Nat → Value} {post : Nat → S → Prop} (co : CO X k z 0 0 ws (List.range ws.length) lv st rest pc (qR W f post)) (h : ∀ v c, post v c → G X k z (W c) lv (f v :: rest) (pc + 3)) : G X k z ws lv st pc := co_all co (fun r u ⟨v, c, e1, e2, hq⟩ => by subst e1; subst e2; exact h v c hq)
theorem scat_app : ∀ (i1 : List Nat) (u1 ws : va_W) (i2 : List Nat) (u2 : va_W), i1.length = u1.length → scat ws (i1 ++ i2) (u1 ++ u2) = scat (scat ws i1 u1) i2 u2
  | [], [], ws, i2, u2, _ => by simp [scat]
  | [], _ :: _, _, _, _, h => by simp at h
  | _ :: _, [], _, _, _, h => by simp at h
  | i :: i1, q :: u1, ws, i2, u2, h => by
    show scat (ws.set i q) (i1 ++ i2) (u1 ++ u2) = scat (scat (ws.set i q) i1 u1) i2 u2
    exact scat_app i1 u1 _ i2 u2 (by simpa using h)
theorem cC_X_now (t : Nat → ClassId) (a b : Nat → Nat) (s : XSt) : ([1, 2, 3, 4, 5, 6, 7, 8, 9] : List Nat).map (fun i => (woX t a s)[i]?) = (woC t (fun i => a (1 + i)) (X_now s)).map some := rfl
theorem cS_X_now (t : Nat → ClassId) (a b : Nat → Nat) (s : XSt) (c : CSt) : scat (woX t a s) [1, 2, 3, 4, 5, 6, 7, 8, 9] (woC t (fun i => a (1 + i)) c) = woX t a (X_now_ s c) := rfl
theorem cC_X_tried (t : Nat → ClassId) (a b : Nat → Nat) (s : XSt) : ([10, 11, 12, 13, 14, 15, 16, 17, 18] : List Nat).map (fun i => (woX t a s)[i]?) = (woC t (fun i => a (10 + i)) (X_tried s)).map some := rfl
theorem cS_X_tried (t : Nat → ClassId) (a b : Nat → Nat) (s : XSt) (c : CSt) : scat (woX t a s) [10, 11, 12, 13, 14, 15, 16, 17, 18] (woC t (fun i => a (10 + i)) c) = woX t a (X_tried_ s c) := rfl
theorem cC_X_kept (t : Nat → ClassId) (a b : Nat → Nat) (s : XSt) : ([19, 20, 21, 22, 23, 24, 25, 26, 27] : List Nat).map (fun i => (woX t a s)[i]?) = (woC t (fun i => a (19 + i)) (X_kept s)).map some := rfl
theorem cS_X_kept (t : Nat → ClassId) (a b : Nat → Nat) (s : XSt) (c : CSt) : scat (woX t a s) [19, 20, 21, 22, 23, 24, 25, 26, 27] (woC t (fun i => a (19 + i)) c) = woX t a (X_kept_ s c) := rfl
theorem cC_X_tape (t : Nat → ClassId) (a b : Nat → Nat) (s : XSt) : ([28, 29] : List Nat).map (fun i => (woX t a s)[i]?) = (woT t (fun i => a (28 + i)) (X_tape s)).map some := rfl
theorem cS_X_tape (t : Nat → ClassId) (a b : Nat → Nat) (s : XSt) (c : TSt) : scat (woX t a s) [28, 29] (woT t (fun i => a (28 + i)) c) = woX t a (X_tape_ s c) := rfl
theorem cC_X_acts (t : Nat → ClassId) (a b : Nat → Nat) (s : XSt) : ([45, 46] : List Nat).map (fun i => (woX t a s)[i]?) = (woA t (fun i => a (45 + i)) (X_acts s)).map some := rfl
theorem cS_X_acts (t : Nat → ClassId) (a b : Nat → Nat) (s : XSt) (c : ASt) : scat (woX t a s) [45, 46] (woA t (fun i => a (45 + i)) c) = woX t a (X_acts_ s c) := rfl
theorem cC_X_sheets0 (t : Nat → ClassId) (a b : Nat → Nat) (s : XSt) : ([32, 33] : List Nat).map (fun i => (woX t a s)[i]?) = (woS t (fun i => a (32 + i)) (X_sheets s 0)).map some := rfl
theorem cS_X_sheets0 (t : Nat → ClassId) (a b : Nat → Nat) (s : XSt) (c : SSt) : scat (woX t a s) [32, 33] (woS t (fun i => a (32 + i)) c) = woX t a (X_sheets_ s (va_up (X_sheets s) 0 c)) := rfl
theorem cC_X_shelves0 (t : Nat → ClassId) (a b : Nat → Nat) (s : XSt) : ([41] : List Nat).map (fun i => (woX t a s)[i]?) = (woH t (fun i => a (41 + i)) (X_shelves s 0)).map some := rfl
theorem cS_X_shelves0 (t : Nat → ClassId) (a b : Nat → Nat) (s : XSt) (c : HSt) : scat (woX t a s) [41] (woH t (fun i => a (41 + i)) c) = woX t a (X_shelves_ s (va_up (X_shelves s) 0 c)) := rfl
theorem cC_X_sheets1 (t : Nat → ClassId) (a b : Nat → Nat) (s : XSt) : ([34, 35] : List Nat).map (fun i => (woX t a s)[i]?) = (woS t (fun i => a (34 + i)) (X_sheets s 1)).map some := rfl
theorem cS_X_sheets1 (t : Nat → ClassId) (a b : Nat → Nat) (s : XSt) (c : SSt) : scat (woX t a s) [34, 35] (woS t (fun i => a (34 + i)) c) = woX t a (X_sheets_ s (va_up (X_sheets s) 1 c)) := rfl
theorem cC_X_shelves1 (t : Nat → ClassId) (a b : Nat → Nat) (s : XSt) : ([42] : List Nat).map (fun i => (woX t a s)[i]?) = (woH t (fun i => a (42 + i)) (X_shelves s 1)).map some := rfl
theorem cS_X_shelves1 (t : Nat → ClassId) (a b : Nat → Nat) (s : XSt) (c : HSt) : scat (woX t a s) [42] (woH t (fun i => a (42 + i)) c) = woX t a (X_shelves_ s (va_up (X_shelves s) 1 c)) := rfl
theorem cC_X_sheets2 (t : Nat → ClassId) (a b : Nat → Nat) (s : XSt) : ([36, 37] : List Nat).map (fun i => (woX t a s)[i]?) = (woS t (fun i => a (36 + i)) (X_sheets s 2)).map some := rfl
theorem cS_X_sheets2 (t : Nat → ClassId) (a b : Nat → Nat) (s : XSt) (c : SSt) : scat (woX t a s) [36, 37] (woS t (fun i => a (36 + i)) c) = woX t a (X_sheets_ s (va_up (X_sheets s) 2 c)) := rfl
theorem cC_X_shelves2 (t : Nat → ClassId) (a b : Nat → Nat) (s : XSt) : ([43] : List Nat).map (fun i => (woX t a s)[i]?) = (woH t (fun i => a (43 + i)) (X_shelves s 2)).map some := rfl
theorem cS_X_shelves2 (t : Nat → ClassId) (a b : Nat → Nat) (s : XSt) (c : HSt) : scat (woX t a s) [43] (woH t (fun i => a (43 + i)) c) = woX t a (X_shelves_ s (va_up (X_shelves s) 2 c)) := rfl
theorem cC_X_sheets3 (t : Nat → ClassId) (a b : Nat → Nat) (s : XSt) : ([38, 39] : List Nat).map (fun i => (woX t a s)[i]?) = (woS t (fun i => a (38 + i)) (X_sheets s 3)).map some := rfl
theorem cS_X_sheets3 (t : Nat → ClassId) (a b : Nat → Nat) (s : XSt) (c : SSt) : scat (woX t a s) [38, 39] (woS t (fun i => a (38 + i)) c) = woX t a (X_sheets_ s (va_up (X_sheets s) 3 c)) := rfl
theorem cC_X_shelves3 (t : Nat → ClassId) (a b : Nat → Nat) (s : XSt) : ([44] : List Nat).map (fun i => (woX t a s)[i]?) = (woH t (fun i => a (44 + i)) (X_shelves s 3)).map some := rfl
theorem cS_X_shelves3 (t : Nat → ClassId) (a b : Nat → Nat) (s : XSt) (c : HSt) : scat (woX t a s) [44] (woH t (fun i => a (44 + i)) c) = woX t a (X_shelves_ s (va_up (X_shelves s) 3 c)) := rfl
theorem cS_X_tried_now (t : Nat → ClassId) (a b : Nat → Nat) (s : XSt) (c : CSt × CSt) : scat (woX t a s) [10, 11, 12, 13, 14, 15, 16, 17, 18, 1, 2, 3, 4, 5, 6, 7, 8, 9] (woC t (fun i => a (10 + i)) c.1 ++ woC t (fun i => a (1 + i)) c.2) = woX t a (X_now_ (X_tried_ s c.1) c.2) := by
  have e : ([10, 11, 12, 13, 14, 15, 16, 17, 18, 1, 2, 3, 4, 5, 6, 7, 8, 9] : List Nat) = [10, 11, 12, 13, 14, 15, 16, 17, 18] ++ [1, 2, 3, 4, 5, 6, 7, 8, 9] := rfl
  rw [e]
  rw [scat_app _ _ _ _ _ rfl, cS_X_tried t a b, cS_X_now t a b]
theorem cC_X_tried_now (t : Nat → ClassId) (a b : Nat → Nat) (s : XSt) : ([10, 11, 12, 13, 14, 15, 16, 17, 18, 1, 2, 3, 4, 5, 6, 7, 8, 9] : List Nat).map (fun i => (woX t a s)[i]?) = (woCC t (fun i => a (10 + i)) (fun i => a (1 + i)) (X_tried s, X_now s)).map some := rfl
theorem cS_X_now_tried (t : Nat → ClassId) (a b : Nat → Nat) (s : XSt) (c : CSt × CSt) : scat (woX t a s) [1, 2, 3, 4, 5, 6, 7, 8, 9, 10, 11, 12, 13, 14, 15, 16, 17, 18] (woC t (fun i => a (1 + i)) c.1 ++ woC t (fun i => a (10 + i)) c.2) = woX t a (X_tried_ (X_now_ s c.1) c.2) := by
  have e : ([1, 2, 3, 4, 5, 6, 7, 8, 9, 10, 11, 12, 13, 14, 15, 16, 17, 18] : List Nat) = [1, 2, 3, 4, 5, 6, 7, 8, 9] ++ [10, 11, 12, 13, 14, 15, 16, 17, 18] := rfl
  rw [e]
  rw [scat_app _ _ _ _ _ rfl, cS_X_now t a b, cS_X_tried t a b]
theorem cC_X_now_tried (t : Nat → ClassId) (a b : Nat → Nat) (s : XSt) : ([1, 2, 3, 4, 5, 6, 7, 8, 9, 10, 11, 12, 13, 14, 15, 16, 17, 18] : List Nat).map (fun i => (woX t a s)[i]?) = (woCC t (fun i => a (1 + i)) (fun i => a (10 + i)) (X_now s, X_tried s)).map some := rfl
theorem cS_X_kept_now (t : Nat → ClassId) (a b : Nat → Nat) (s : XSt) (c : CSt × CSt) : scat (woX t a s) [19, 20, 21, 22, 23, 24, 25, 26, 27, 1, 2, 3, 4, 5, 6, 7, 8, 9] (woC t (fun i => a (19 + i)) c.1 ++ woC t (fun i => a (1 + i)) c.2) = woX t a (X_now_ (X_kept_ s c.1) c.2) := by
  have e : ([19, 20, 21, 22, 23, 24, 25, 26, 27, 1, 2, 3, 4, 5, 6, 7, 8, 9] : List Nat) = [19, 20, 21, 22, 23, 24, 25, 26, 27] ++ [1, 2, 3, 4, 5, 6, 7, 8, 9] := rfl
  rw [e]
  rw [scat_app _ _ _ _ _ rfl, cS_X_kept t a b, cS_X_now t a b]
theorem cC_X_kept_now (t : Nat → ClassId) (a b : Nat → Nat) (s : XSt) : ([19, 20, 21, 22, 23, 24, 25, 26, 27, 1, 2, 3, 4, 5, 6, 7, 8, 9] : List Nat).map (fun i => (woX t a s)[i]?) = (woCC t (fun i => a (19 + i)) (fun i => a (1 + i)) (X_kept s, X_now s)).map some := rfl
theorem cS_X_now_kept (t : Nat → ClassId) (a b : Nat → Nat) (s : XSt) (c : CSt × CSt) : scat (woX t a s) [1, 2, 3, 4, 5, 6, 7, 8, 9, 19, 20, 21, 22, 23, 24, 25, 26, 27] (woC t (fun i => a (1 + i)) c.1 ++ woC t (fun i => a (19 + i)) c.2) = woX t a (X_kept_ (X_now_ s c.1) c.2) := by
  have e : ([1, 2, 3, 4, 5, 6, 7, 8, 9, 19, 20, 21, 22, 23, 24, 25, 26, 27] : List Nat) = [1, 2, 3, 4, 5, 6, 7, 8, 9] ++ [19, 20, 21, 22, 23, 24, 25, 26, 27] := rfl
  rw [e]
  rw [scat_app _ _ _ _ _ rfl, cS_X_now t a b, cS_X_kept t a b]
theorem cC_X_now_kept (t : Nat → ClassId) (a b : Nat → Nat) (s : XSt) : ([1, 2, 3, 4, 5, 6, 7, 8, 9, 19, 20, 21, 22, 23, 24, 25, 26, 27] : List Nat).map (fun i => (woX t a s)[i]?) = (woCC t (fun i => a (1 + i)) (fun i => a (19 + i)) (X_now s, X_kept s)).map some := rfl
theorem cS_X_tape_tried (t : Nat → ClassId) (a b : Nat → Nat) (s : XSt) (c : TSt × CSt) : scat (woX t a s) [28, 29, 10, 11, 12, 13, 14, 15, 16, 17, 18] (woT t (fun i => a (28 + i)) c.1 ++ woC t (fun i => a (10 + i)) c.2) = woX t a (X_tried_ (X_tape_ s c.1) c.2) := by
  have e : ([28, 29, 10, 11, 12, 13, 14, 15, 16, 17, 18] : List Nat) = [28, 29] ++ [10, 11, 12, 13, 14, 15, 16, 17, 18] := rfl
  rw [e]
  rw [scat_app _ _ _ _ _ rfl, cS_X_tape t a b, cS_X_tried t a b]
theorem cC_X_tape_tried (t : Nat → ClassId) (a b : Nat → Nat) (s : XSt) : ([28, 29, 10, 11, 12, 13, 14, 15, 16, 17, 18] : List Nat).map (fun i => (woX t a s)[i]?) = (woTC t (fun i => a (28 + i)) (fun i => a (10 + i)) (X_tape s, X_tried s)).map some := rfl
theorem cC_TC_1 (t : Nat → ClassId) (a b : Nat → Nat) (s : TSt × CSt) : ([0, 1] : List Nat).map (fun i => (woTC t a b s)[i]?) = (woT t a s.1).map some := rfl
theorem cS_TC_1 (t : Nat → ClassId) (a b : Nat → Nat) (s : TSt × CSt) (c : TSt) : scat (woTC t a b s) [0, 1] (woT t a c) = woTC t a b (c, s.2) := rfl
theorem cC_TC_2 (t : Nat → ClassId) (a b : Nat → Nat) (s : TSt × CSt) : ([2, 3, 4, 5, 6, 7, 8, 9, 10] : List Nat).map (fun i => (woTC t a b s)[i]?) = (woC t b s.2).map some := rfl
theorem cS_TC_2 (t : Nat → ClassId) (a b : Nat → Nat) (s : TSt × CSt) (c : CSt) : scat (woTC t a b s) [2, 3, 4, 5, 6, 7, 8, 9, 10] (woC t b c) = woTC t a b (s.1, c) := rfl
theorem cC_C_laws (t : Nat → ClassId) (a b : Nat → Nat) (s : CSt) : ([1] : List Nat).map (fun i => (woC t a s)[i]?) = ([(a 1, .inl (t 2, 4, .inl (C_laws s)))]).map some := rfl
theorem cS_C_laws (t : Nat → ClassId) (a b : Nat → Nat) (s : CSt) (c : Nat → Int32) : scat (woC t a s) [1] ([(a 1, .inl (t 2, 4, .inl c))]) = woC t a (C_laws_ s c) := rfl
theorem cC_C_noise (t : Nat → ClassId) (a b : Nat → Nat) (s : CSt) : ([2] : List Nat).map (fun i => (woC t a s)[i]?) = ([(a 2, .inl (t 2, 10, .inl (C_noise s)))]).map some := rfl
theorem cS_C_noise (t : Nat → ClassId) (a b : Nat → Nat) (s : CSt) (c : Nat → Int32) : scat (woC t a s) [2] ([(a 2, .inl (t 2, 10, .inl c))]) = woC t a (C_noise_ s c) := rfl
theorem cC_C_lost (t : Nat → ClassId) (a b : Nat → Nat) (s : CSt) : ([3] : List Nat).map (fun i => (woC t a s)[i]?) = ([(a 3, .inl (t 2, 10, .inl (C_lost s)))]).map some := rfl
theorem cS_C_lost (t : Nat → ClassId) (a b : Nat → Nat) (s : CSt) (c : Nat → Int32) : scat (woC t a s) [3] ([(a 3, .inl (t 2, 10, .inl c))]) = woC t a (C_lost_ s c) := rfl
theorem cC_S_items (t : Nat → ClassId) (a b : Nat → Nat) (s : SSt) : ([1] : List Nat).map (fun i => (woS t a s)[i]?) = ([(a 1, .inl (t 2, 40, .inl (S_items s)))]).map some := rfl
theorem cS_S_items (t : Nat → ClassId) (a b : Nat → Nat) (s : SSt) (c : Nat → Int32) : scat (woS t a s) [1] ([(a 1, .inl (t 2, 40, .inl c))]) = woS t a (S_items_ s c) := rfl
end
section
theorem lk_A_3 : Cond.methodLink R_A 3 objectInit ∈ TB := tb_1 124 rfl rfl
theorem lk_A_9 : Cond.fieldLink R_A 9 R_A (F_A 0).2.1 (F_A 0).2.2.1 ∈ TB := tb_1 125 rfl rfl
theorem lk_A_15 : Cond.fieldLink R_A 15 R_A (F_A 1).2.1 (F_A 1).2.2.1 ∈ TB := tb_1 127 rfl rfl
theorem lk_A_19 : Cond.fieldLink R_A 19 R_A (F_A 2).2.1 (F_A 2).2.2.1 ∈ TB := tb_1 129 rfl rfl
theorem lk_A_22 : Cond.fieldLink R_A 22 R_A (F_A 3).2.1 (F_A 3).2.2.1 ∈ TB := tb_1 130 rfl rfl
theorem lk_A_25 : Cond.fieldLink R_A 25 R_A (F_A 4).2.1 (F_A 4).2.2.1 ∈ TB := tb_1 131 rfl rfl
theorem lk_A_28 : Cond.fieldLink R_A 28 R_A (F_A 5).2.1 (F_A 5).2.2.1 ∈ TB := tb_1 132 rfl rfl
theorem lk_A_32 : Cond.methodLink R_A 32 y_A_bodyOf ∈ TB := tb_4 2 rfl rfl
theorem lk_A_36 : Cond.methodLink R_A 36 y_A_run ∈ TB := tb_4 8 rfl rfl
theorem lk_A_40 : (R_A, 40, "BODIES") ∈ nwF := by simp [nwF, nwM]
theorem lk_A_43 : Cond.methodLink R_A 43 y_A_partedBy ∈ TB := tb_4 12 rfl rfl
theorem lk_C_3 : Cond.methodLink R_C 3 objectInit ∈ TB := tb_1 29 rfl rfl
theorem lk_C_9 : Cond.fieldLink R_C 9 R_C (F_C 0).2.1 (F_C 0).2.2.1 ∈ TB := tb_1 38 rfl rfl
theorem lk_C_15 : Cond.fieldLink R_C 15 R_C (F_C 1).2.1 (F_C 1).2.2.1 ∈ TB := tb_1 41 rfl rfl
theorem lk_C_18 : Cond.fieldLink R_C 18 R_C (F_C 2).2.1 (F_C 2).2.2.1 ∈ TB := tb_1 44 rfl rfl
theorem lk_C_21 : Cond.fieldLink R_C 21 R_C (F_C 3).2.1 (F_C 3).2.2.1 ∈ TB := tb_1 46 rfl rfl
theorem lk_C_24 : Cond.fieldLink R_C 24 R_C (F_C 4).2.1 (F_C 4).2.2.1 ∈ TB := tb_1 48 rfl rfl
theorem lk_C_27 : Cond.fieldLink R_C 27 R_C (F_C 5).2.1 (F_C 5).2.2.1 ∈ TB := tb_1 50 rfl rfl
theorem lk_C_30 : Cond.fieldLink R_C 30 R_C (F_C 6).2.1 (F_C 6).2.2.1 ∈ TB := tb_1 52 rfl rfl
theorem lk_C_33 : Cond.fieldLink R_C 33 R_C (F_C 7).2.1 (F_C 7).2.2.1 ∈ TB := tb_1 54 rfl rfl
theorem lk_C_36 : Cond.fieldLink R_C 36 R_C (F_C 8).2.1 (F_C 8).2.2.1 ∈ TB := tb_1 56 rfl rfl
theorem lk_C_40 : Cond.fieldLink R_C 40 R_C (F_C 9).2.1 (F_C 9).2.2.1 ∈ TB := tb_1 59 rfl rfl
theorem lk_C_43 : Cond.fieldLink R_C 43 R_C (F_C 10).2.1 (F_C 10).2.2.1 ∈ TB := tb_1 61 rfl rfl
theorem lk_C_46 : Cond.fieldLink R_C 46 R_C (F_C 11).2.1 (F_C 11).2.2.1 ∈ TB := tb_1 63 rfl rfl
theorem lk_C_49 : (R_C, 49, "LAWS_AT_FIRST") ∈ nwF := by simp [nwF, nwM]
theorem lk_C_52 : Cond.methodLink R_C 52 arraycopyName ∈ TB := tb_1 32 rfl rfl
theorem lk_C_58 : Cond.methodLink R_C 58 y_JA_fill ∈ TB := tb_1 35 rfl rfl
theorem lk_C_64 : Cond.methodLink R_C 64 y_C_landedSet ∈ TB := tb_2 220 rfl rfl
theorem lk_C_68 : (R_C, 68, y_X_isLock) ∈ nwM := by simp [nwF, nwM]
theorem lk_C_72 : Cond.methodLink R_C 72 y_C_allLanded ∈ TB := tb_2 216 rfl rfl
theorem lk_C_76 : Cond.methodLink R_C 76 y_C_passHour ∈ TB := tb_2 225 rfl rfl
theorem lk_C_79 : Cond.methodLink R_C 79 y_C_hasLanded ∈ TB := tb_2 224 rfl rfl
theorem lk_C_82 : Cond.methodLink R_C 82 y_C_goOn ∈ TB := tb_2 229 rfl rfl
theorem lk_C_86 : Cond.methodLink R_C 86 y_C_echoWithOthers ∈ TB := tb_3 6 rfl rfl
theorem lk_C_89 : Cond.methodLink R_C 89 y_C_paceOf ∈ TB := tb_2 233 rfl rfl
theorem lk_C_93 : Cond.methodLink R_C 93 y_C_noiseAt ∈ TB := tb_2 234 rfl rfl
theorem lk_C_96 : Cond.methodLink R_C 96 y_C_spillOf ∈ TB := tb_2 235 rfl rfl
theorem lk_C_100 : Cond.methodLink R_C 100 y_C_spill ∈ TB := tb_2 236 rfl rfl
theorem lk_C_104 : (R_C, 104, y_X_heldLoad) ∈ nwM := by simp [nwF, nwM]
theorem lk_C_107 : Cond.methodLink R_C 107 Lib.Math.min.name ∈ TB := tb_3 3 rfl rfl
theorem lk_C_112 : Cond.methodLink R_C 112 y_C_draw ∈ TB := tb_3 26 rfl rfl
theorem lk_C_115 : Cond.constant R_C 115 1103515245 ∈ TB := tb_3 30 rfl rfl
theorem lk_C_116 : Cond.methodLink R_C 116 Lib.Math.max.name ∈ TB := tb_3 106 rfl rfl
theorem lk_H_3 : Cond.methodLink R_H 3 objectInit ∈ TB := tb_1 168 rfl rfl
theorem lk_H_9 : Cond.fieldLink R_H 9 R_H (F_H 0).2.1 (F_H 0).2.2.1 ∈ TB := tb_1 169 rfl rfl
theorem lk_H_15 : Cond.fieldLink R_H 15 R_H (F_H 1).2.1 (F_H 1).2.2.1 ∈ TB := tb_1 171 rfl rfl
theorem lk_H_18 : Cond.fieldLink R_H 18 R_H (F_H 2).2.1 (F_H 2).2.2.1 ∈ TB := tb_1 173 rfl rfl
theorem lk_H_21 : Cond.fieldLink R_H 21 R_H (F_H 3).2.1 (F_H 3).2.2.1 ∈ TB := tb_1 175 rfl rfl
theorem lk_JI_265 : Cond.constant R_JI 265 1431655765 ∈ TB := tb_3 112 rfl rfl
theorem lk_JI_266 : Cond.constant R_JI 266 858993459 ∈ TB := tb_3 113 rfl rfl
theorem lk_JI_267 : Cond.constant R_JI 267 252645135 ∈ TB := tb_3 114 rfl rfl
theorem lk_JL_9 : Cond.methodLink R_JL 9 y_JS_checkIndex ∈ TB := tb_2 53 rfl rfl
theorem lk_JS_9 : Cond.fieldLink R_JS 9 R_JS "value" "[B" ∈ TB := tb_6 42 rfl rfl
theorem lk_JS_15 : Cond.fieldLink R_JS 15 R_JS "coder" "B" ∈ TB := tb_6 43 rfl rfl
theorem lk_JS_38 : Cond.fieldLink R_JS 38 R_JS "COMPACT_STRINGS" "Z" ∈ TB := tb_2 40 rfl rfl
theorem lk_JS_335 : Cond.methodLink R_JS 335 y_JS_coder ∈ TB := tb_2 36 rfl rfl
theorem lk_JS_492 : Cond.methodLink R_JS 492 y_JS_isLatin1 ∈ TB := tb_2 46 rfl rfl
theorem lk_JS_495 : Cond.methodLink R_JS 495 y_JL_charAt ∈ TB := tb_2 50 rfl rfl
theorem lk_JS_498 : Cond.methodLink R_JS 498 y_JU_charAt ∈ TB := tb_2 61 rfl rfl
theorem lk_JS_1053 : Cond.fieldLink R_JS 1053 R_JP "SIOOBE_FORMATTER" "Ljava/util/function/BiFunction;" ∈ TB := tb_2 56 rfl rfl
theorem lk_JS_1059 : Cond.methodLink R_JS 1059 y_JP_checkIndex ∈ TB := tb_2 58 rfl rfl
theorem lk_L_7 : Cond.classLink "SilenceCanalLaw" 7 "SilenceCanal" ∈ TB := tb_1 16 rfl rfl
theorem lk_L_9 : Cond.methodLink "SilenceCanalLaw" 9 y_X_init ∈ TB := tb_1 18 rfl rfl
theorem lk_L_10 : Cond.classLink "SilenceCanalLaw" 10 "SilenceCanalModel" ∈ TB := tb_4 36 rfl rfl
theorem lk_L_12 : Cond.methodLink "SilenceCanalLaw" 12 y_M_init ∈ TB := tb_4 38 rfl rfl
theorem lk_L_13 : Cond.constantLong "SilenceCanalLaw" 13 4294967295 ∈ TB := tb_6 41 rfl rfl
theorem lk_L_15 : Cond.methodLink "SilenceCanalLaw" 15 y_X_feed ∈ TB := tb_1 217 rfl rfl
theorem lk_L_19 : Cond.methodLink "SilenceCanalLaw" 19 y_M_feed ∈ TB := tb_5 135 rfl rfl
theorem lk_L_20 : Cond.methodLink "SilenceCanalLaw" 20 y_X_canal ∈ TB := tb_1 225 rfl rfl
theorem lk_L_24 : Cond.methodLink "SilenceCanalLaw" 24 y_M_canal ∈ TB := tb_5 140 rfl rfl
theorem lk_L_25 : Cond.methodLink "SilenceCanalLaw" 25 y_X_set ∈ TB := tb_2 129 rfl rfl
theorem lk_L_29 : Cond.methodLink "SilenceCanalLaw" 29 y_M_set ∈ TB := tb_4 124 rfl rfl
theorem lk_L_30 : Cond.methodLink "SilenceCanalLaw" 30 y_X_lawOf ∈ TB := tb_2 135 rfl rfl
theorem lk_L_34 : Cond.methodLink "SilenceCanalLaw" 34 y_M_lawOf ∈ TB := tb_4 141 rfl rfl
theorem lk_L_35 : Cond.methodLink "SilenceCanalLaw" 35 y_X_barge ∈ TB := tb_2 139 rfl rfl
theorem lk_L_39 : Cond.methodLink "SilenceCanalLaw" 39 y_M_barge ∈ TB := tb_4 145 rfl rfl
theorem lk_L_40 : Cond.methodLink "SilenceCanalLaw" 40 y_X_of ∈ TB := tb_2 151 rfl rfl
theorem lk_L_43 : Cond.methodLink "SilenceCanalLaw" 43 y_M_of ∈ TB := tb_4 161 rfl rfl
theorem lk_L_44 : Cond.methodLink "SilenceCanalLaw" 44 y_X_does ∈ TB := tb_2 163 rfl rfl
theorem lk_L_47 : Cond.methodLink "SilenceCanalLaw" 47 y_M_does ∈ TB := tb_4 177 rfl rfl
theorem lk_L_48 : Cond.methodLink "SilenceCanalLaw" 48 y_X_mind ∈ TB := tb_2 180 rfl rfl
theorem lk_L_52 : Cond.methodLink "SilenceCanalLaw" 52 y_M_mind ∈ TB := tb_4 189 rfl rfl
theorem lk_L_53 : Cond.methodLink "SilenceCanalLaw" 53 y_X_fill ∈ TB := tb_2 184 rfl rfl
theorem lk_L_56 : Cond.methodLink "SilenceCanalLaw" 56 y_M_fill ∈ TB := tb_4 193 rfl rfl
theorem lk_L_57 : Cond.methodLink "SilenceCanalLaw" 57 y_X_bring ∈ TB := tb_2 188 rfl rfl
theorem lk_L_60 : Cond.methodLink "SilenceCanalLaw" 60 y_M_bring ∈ TB := tb_4 197 rfl rfl
theorem lk_L_61 : Cond.methodLink "SilenceCanalLaw" 61 y_X_send ∈ TB := tb_2 192 rfl rfl
theorem lk_L_64 : Cond.methodLink "SilenceCanalLaw" 64 y_M_send ∈ TB := tb_4 201 rfl rfl
theorem lk_L_65 : Cond.methodLink "SilenceCanalLaw" 65 y_X_noise ∈ TB := tb_2 196 rfl rfl
theorem lk_L_68 : Cond.methodLink "SilenceCanalLaw" 68 y_M_noise ∈ TB := tb_4 205 rfl rfl
theorem lk_L_69 : Cond.methodLink "SilenceCanalLaw" 69 y_X_lock ∈ TB := tb_2 200 rfl rfl
theorem lk_L_72 : Cond.methodLink "SilenceCanalLaw" 72 y_M_lock ∈ TB := tb_4 209 rfl rfl
theorem lk_L_73 : Cond.methodLink "SilenceCanalLaw" 73 y_X_hours ∈ TB := tb_2 208 rfl rfl
theorem lk_L_76 : Cond.methodLink "SilenceCanalLaw" 76 y_M_hours ∈ TB := tb_4 214 rfl rfl
theorem lk_L_77 : Cond.methodLink "SilenceCanalLaw" 77 y_X_seed ∈ TB := tb_3 14 rfl rfl
theorem lk_L_80 : Cond.methodLink "SilenceCanalLaw" 80 y_M_seed ∈ TB := tb_5 2 rfl rfl
theorem lk_L_81 : Cond.methodLink "SilenceCanalLaw" 81 y_X_hour ∈ TB := tb_3 18 rfl rfl
theorem lk_L_84 : Cond.methodLink "SilenceCanalLaw" 84 y_M_hour ∈ TB := tb_5 6 rfl rfl
theorem lk_L_85 : Cond.methodLink "SilenceCanalLaw" 85 y_X_spoilt ∈ TB := tb_3 31 rfl rfl
theorem lk_L_88 : Cond.methodLink "SilenceCanalLaw" 88 y_M_spoilt ∈ TB := tb_5 15 rfl rfl
theorem lk_L_89 : Cond.methodLink "SilenceCanalLaw" 89 y_X_state ∈ TB := tb_3 43 rfl rfl
theorem lk_L_92 : Cond.methodLink "SilenceCanalLaw" 92 y_M_state ∈ TB := tb_5 33 rfl rfl
theorem lk_L_93 : Cond.methodLink "SilenceCanalLaw" 93 y_X_freight ∈ TB := tb_3 60 rfl rfl
theorem lk_L_96 : Cond.methodLink "SilenceCanalLaw" 96 y_M_freight ∈ TB := tb_5 53 rfl rfl
theorem lk_L_97 : Cond.methodLink "SilenceCanalLaw" 97 y_X_lands ∈ TB := tb_3 68 rfl rfl
theorem lk_L_100 : Cond.methodLink "SilenceCanalLaw" 100 y_M_lands ∈ TB := tb_5 64 rfl rfl
theorem lk_L_101 : Cond.methodLink "SilenceCanalLaw" 101 y_X_meets ∈ TB := tb_3 73 rfl rfl
theorem lk_L_104 : Cond.methodLink "SilenceCanalLaw" 104 y_M_meets ∈ TB := tb_5 68 rfl rfl
theorem lk_L_105 : Cond.methodLink "SilenceCanalLaw" 105 y_X_quiet ∈ TB := tb_3 77 rfl rfl
theorem lk_L_108 : Cond.methodLink "SilenceCanalLaw" 108 y_M_quiet ∈ TB := tb_5 72 rfl rfl
theorem lk_L_109 : Cond.methodLink "SilenceCanalLaw" 109 y_X_cargo ∈ TB := tb_3 82 rfl rfl
theorem lk_L_112 : Cond.methodLink "SilenceCanalLaw" 112 y_M_cargo ∈ TB := tb_5 76 rfl rfl
theorem lk_L_113 : Cond.methodLink "SilenceCanalLaw" 113 y_X_stillFor ∈ TB := tb_3 86 rfl rfl
theorem lk_L_116 : Cond.methodLink "SilenceCanalLaw" 116 y_M_stillFor ∈ TB := tb_5 80 rfl rfl
theorem lk_L_117 : Cond.methodLink "SilenceCanalLaw" 117 y_X_kindFor ∈ TB := tb_3 90 rfl rfl
theorem lk_L_120 : Cond.methodLink "SilenceCanalLaw" 120 y_M_kindFor ∈ TB := tb_5 87 rfl rfl
theorem lk_L_121 : Cond.methodLink "SilenceCanalLaw" 121 y_X_loadFor ∈ TB := tb_3 94 rfl rfl
theorem lk_L_124 : Cond.methodLink "SilenceCanalLaw" 124 y_M_loadFor ∈ TB := tb_5 91 rfl rfl
theorem lk_L_125 : Cond.methodLink "SilenceCanalLaw" 125 y_X_hushedFor ∈ TB := tb_3 98 rfl rfl
theorem lk_L_128 : Cond.methodLink "SilenceCanalLaw" 128 y_M_hushedFor ∈ TB := tb_5 95 rfl rfl
theorem lk_L_129 : Cond.methodLink "SilenceCanalLaw" 129 y_X_holdFor ∈ TB := tb_3 115 rfl rfl
theorem lk_L_132 : Cond.methodLink "SilenceCanalLaw" 132 y_M_holdFor ∈ TB := tb_5 104 rfl rfl
theorem lk_L_133 : Cond.methodLink "SilenceCanalLaw" 133 y_X_fits ∈ TB := tb_3 119 rfl rfl
theorem lk_L_136 : Cond.methodLink "SilenceCanalLaw" 136 y_M_fits ∈ TB := tb_5 108 rfl rfl
theorem lk_L_137 : Cond.methodLink "SilenceCanalLaw" 137 y_X_odds ∈ TB := tb_3 131 rfl rfl
theorem lk_L_141 : Cond.methodLink "SilenceCanalLaw" 141 y_M_odds ∈ TB := tb_5 116 rfl rfl
theorem lk_L_142 : Cond.methodLink "SilenceCanalLaw" 142 y_X_hope ∈ TB := tb_3 143 rfl rfl
theorem lk_L_146 : Cond.methodLink "SilenceCanalLaw" 146 y_M_hope ∈ TB := tb_5 131 rfl rfl
theorem lk_L_147 : Cond.methodLink "SilenceCanalLaw" 147 y_X_prove ∈ TB := tb_3 147 rfl rfl
theorem lk_L_150 : Cond.methodLink "SilenceCanalLaw" 150 y_M_prove ∈ TB := tb_5 184 rfl rfl
theorem lk_L_151 : Cond.methodLink "SilenceCanalLaw" 151 y_X_row ∈ TB := tb_3 155 rfl rfl
theorem lk_L_154 : Cond.methodLink "SilenceCanalLaw" 154 y_M_row ∈ TB := tb_5 193 rfl rfl
theorem lk_L_155 : Cond.methodLink "SilenceCanalLaw" 155 y_X_alterRow ∈ TB := tb_3 163 rfl rfl
theorem lk_L_158 : Cond.methodLink "SilenceCanalLaw" 158 y_M_alterRow ∈ TB := tb_5 197 rfl rfl
theorem lk_L_159 : Cond.methodLink "SilenceCanalLaw" 159 y_X_judge ∈ TB := tb_3 167 rfl rfl
theorem lk_L_162 : Cond.methodLink "SilenceCanalLaw" 162 y_M_judge ∈ TB := tb_5 201 rfl rfl
theorem lk_L_163 : Cond.methodLink "SilenceCanalLaw" 163 y_X_minds ∈ TB := tb_3 171 rfl rfl
theorem lk_L_166 : Cond.methodLink "SilenceCanalLaw" 166 y_M_minds ∈ TB := tb_5 205 rfl rfl
theorem lk_L_167 : Cond.methodLink "SilenceCanalLaw" 167 y_X_sheet ∈ TB := tb_3 176 rfl rfl
theorem lk_L_170 : Cond.methodLink "SilenceCanalLaw" 170 y_M_sheet ∈ TB := tb_5 209 rfl rfl
theorem lk_L_171 : Cond.methodLink "SilenceCanalLaw" 171 y_X_put ∈ TB := tb_3 185 rfl rfl
theorem lk_L_174 : Cond.methodLink "SilenceCanalLaw" 174 y_M_put ∈ TB := tb_5 213 rfl rfl
theorem lk_L_175 : Cond.methodLink "SilenceCanalLaw" 175 y_X_item ∈ TB := tb_3 197 rfl rfl
theorem lk_L_178 : Cond.methodLink "SilenceCanalLaw" 178 y_M_item ∈ TB := tb_5 217 rfl rfl
theorem lk_L_179 : Cond.methodLink "SilenceCanalLaw" 179 y_X_shelf ∈ TB := tb_3 201 rfl rfl
theorem lk_L_182 : Cond.methodLink "SilenceCanalLaw" 182 y_M_shelf ∈ TB := tb_5 221 rfl rfl
theorem lk_L_183 : Cond.methodLink "SilenceCanalLaw" 183 y_X_taken ∈ TB := tb_3 221 rfl rfl
theorem lk_L_186 : Cond.methodLink "SilenceCanalLaw" 186 y_M_taken ∈ TB := tb_5 225 rfl rfl
theorem lk_L_187 : Cond.methodLink "SilenceCanalLaw" 187 y_X_act ∈ TB := tb_3 234 rfl rfl
theorem lk_L_190 : Cond.methodLink "SilenceCanalLaw" 190 y_M_act ∈ TB := tb_5 237 rfl rfl
theorem lk_L_191 : Cond.methodLink "SilenceCanalLaw" 191 y_X_trace ∈ TB := tb_4 16 rfl rfl
theorem lk_L_194 : Cond.methodLink "SilenceCanalLaw" 194 y_M_trace ∈ TB := tb_6 21 rfl rfl
theorem lk_L_195 : Cond.methodLink "SilenceCanalLaw" 195 y_X_many ∈ TB := tb_4 20 rfl rfl
theorem lk_L_198 : Cond.methodLink "SilenceCanalLaw" 198 y_M_many ∈ TB := tb_6 25 rfl rfl
theorem lk_L_199 : Cond.methodLink "SilenceCanalLaw" 199 y_X_keep ∈ TB := tb_4 28 rfl rfl
theorem lk_L_202 : Cond.methodLink "SilenceCanalLaw" 202 y_M_keep ∈ TB := tb_6 33 rfl rfl
theorem lk_L_203 : Cond.methodLink "SilenceCanalLaw" 203 y_X_again ∈ TB := tb_4 32 rfl rfl
theorem lk_L_206 : Cond.methodLink "SilenceCanalLaw" 206 y_M_again ∈ TB := tb_6 37 rfl rfl
theorem lk_M_1 : Cond.methodLink R_M 1 objectInit ∈ TB := tb_4 41 rfl rfl
theorem lk_M_7 : Cond.fieldLink R_M 7 R_M (F_M 0).2.1 (F_M 0).2.2.1 ∈ TB := tb_4 46 rfl rfl
theorem lk_M_13 : Cond.fieldLink R_M 13 R_M (F_M 1).2.1 (F_M 1).2.2.1 ∈ TB := tb_4 47 rfl rfl
theorem lk_M_16 : Cond.fieldLink R_M 16 R_M (F_M 2).2.1 (F_M 2).2.2.1 ∈ TB := tb_4 48 rfl rfl
theorem lk_M_19 : Cond.fieldLink R_M 19 R_M (F_M 4).2.1 (F_M 4).2.2.1 ∈ TB := tb_4 50 rfl rfl
theorem lk_M_23 : Cond.fieldLink R_M 23 R_M (F_M 5).2.1 (F_M 5).2.2.1 ∈ TB := tb_4 51 rfl rfl
theorem lk_M_26 : Cond.fieldLink R_M 26 R_M (F_M 11).2.1 (F_M 11).2.2.1 ∈ TB := tb_4 57 rfl rfl
theorem lk_M_30 : Cond.fieldLink R_M 30 R_M (F_M 13).2.1 (F_M 13).2.2.1 ∈ TB := tb_4 59 rfl rfl
theorem lk_M_33 : Cond.fieldLink R_M 33 R_M (F_M 15).2.1 (F_M 15).2.2.1 ∈ TB := tb_4 61 rfl rfl
theorem lk_M_36 : Cond.fieldLink R_M 36 R_M (F_M 16).2.1 (F_M 16).2.2.1 ∈ TB := tb_4 62 rfl rfl
theorem lk_M_39 : Cond.fieldLink R_M 39 R_M (F_M 17).2.1 (F_M 17).2.2.1 ∈ TB := tb_4 63 rfl rfl
theorem lk_M_43 : Cond.fieldLink R_M 43 R_M (F_M 18).2.1 (F_M 18).2.2.1 ∈ TB := tb_4 64 rfl rfl
theorem lk_M_46 : Cond.fieldLink R_M 46 R_M (F_M 19).2.1 (F_M 19).2.2.1 ∈ TB := tb_4 65 rfl rfl
theorem lk_M_49 : Cond.fieldLink R_M 49 R_M (F_M 20).2.1 (F_M 20).2.2.1 ∈ TB := tb_4 66 rfl rfl
theorem lk_M_52 : Cond.fieldLink R_M 52 R_M (F_M 21).2.1 (F_M 21).2.2.1 ∈ TB := tb_4 67 rfl rfl
theorem lk_M_55 : Cond.methodLink R_M 55 y_M_first ∈ TB := tb_4 42 rfl rfl
theorem lk_M_58 : Cond.methodLink R_M 58 y_M_in ∈ TB := tb_4 132 rfl rfl
theorem lk_M_62 : Cond.constantLong R_M 62 9 ∈ TB := tb_4 136 rfl rfl
theorem lk_M_64 : Cond.methodLink R_M 64 y_M_get ∈ TB := tb_4 173 rfl rfl
theorem lk_M_68 : Cond.methodLink R_M 68 y_M_held ∈ TB := tb_4 235 rfl rfl
theorem lk_M_72 : Cond.methodLink R_M 72 y_M_puts ∈ TB := tb_4 157 rfl rfl
theorem lk_M_76 : Cond.methodLink R_M 76 y_M_pace ∈ TB := tb_4 181 rfl rfl
theorem lk_M_80 : Cond.methodLink R_M 80 y_M_hasLanded ∈ TB := tb_4 169 rfl rfl
theorem lk_M_84 : Cond.methodLink R_M 84 y_M_spills ∈ TB := tb_4 185 rfl rfl
theorem lk_M_87 : Cond.methodLink R_M 87 y_M_spilt ∈ TB := tb_4 231 rfl rfl
theorem lk_M_91 : Cond.methodLink R_M 91 y_M_goes ∈ TB := tb_4 227 rfl rfl
theorem lk_M_95 : Cond.methodLink R_M 95 y_M_hourGoes ∈ TB := tb_4 223 rfl rfl
theorem lk_M_98 : Cond.constantLong R_M 98 3 ∈ TB := tb_4 131 rfl rfl
theorem lk_M_100 : Cond.constantLong R_M 100 99 ∈ TB := tb_4 135 rfl rfl
theorem lk_M_102 : Cond.methodLink R_M 102 y_M_isLaw ∈ TB := tb_4 128 rfl rfl
theorem lk_M_106 : Cond.methodLink R_M 106 y_M_becomes ∈ TB := tb_4 137 rfl rfl
theorem lk_M_109 : Cond.constantLong R_M 109 5 ∈ TB := tb_4 149 rfl rfl
theorem lk_M_111 : Cond.methodLink R_M 111 y_M_isLock ∈ TB := tb_4 150 rfl rfl
theorem lk_M_114 : Cond.methodLink R_M 114 y_M_comes ∈ TB := tb_4 153 rfl rfl
theorem lk_M_118 : Cond.methodLink R_M 118 y_M_isBarge ∈ TB := tb_4 165 rfl rfl
theorem lk_M_121 : Cond.constantLong R_M 121 2 ∈ TB := tb_4 213 rfl rfl
theorem lk_M_123 : Cond.constantLong R_M 123 60 ∈ TB := tb_4 218 rfl rfl
theorem lk_M_125 : Cond.methodLink R_M 125 y_M_hoursGo ∈ TB := tb_4 219 rfl rfl
theorem lk_M_128 : Cond.methodLink R_M 128 y_M_loads ∈ TB := tb_4 238 rfl rfl
theorem lk_M_132 : Cond.constant R_M 132 1103515245 ∈ TB := tb_5 14 rfl rfl
theorem lk_M_133 : Cond.methodLink R_M 133 y_M_drawn ∈ TB := tb_5 10 rfl rfl
theorem lk_M_136 : Cond.constantLong R_M 136 30 ∈ TB := tb_5 19 rfl rfl
theorem lk_M_138 : Cond.methodLink R_M 138 y_M_keepAside ∈ TB := tb_5 20 rfl rfl
theorem lk_M_141 : Cond.methodLink R_M 141 y_M_cargoBehind ∈ TB := tb_5 24 rfl rfl
theorem lk_M_144 : Cond.methodLink R_M 144 y_M_hour ∈ TB := tb_5 32 rfl rfl
theorem lk_M_147 : Cond.methodLink R_M 147 y_M_putBack ∈ TB := tb_5 28 rfl rfl
theorem lk_M_150 : Cond.methodLink R_M 150 y_M_lostAll ∈ TB := tb_5 37 rfl rfl
theorem lk_M_153 : Cond.methodLink R_M 153 y_M_landed ∈ TB := tb_5 41 rfl rfl
theorem lk_M_156 : Cond.methodLink R_M 156 y_M_places ∈ TB := tb_5 45 rfl rfl
theorem lk_M_159 : Cond.methodLink R_M 159 y_M_loudest ∈ TB := tb_5 49 rfl rfl
theorem lk_M_162 : Cond.methodLink R_M 162 y_M_loadOf ∈ TB := tb_5 57 rfl rfl
theorem lk_M_165 : Cond.methodLink R_M 165 y_M_behind ∈ TB := tb_5 60 rfl rfl
theorem lk_M_168 : Cond.methodLink R_M 168 y_M_isShort ∈ TB := tb_5 84 rfl rfl
theorem lk_M_171 : Cond.constantLong R_M 171 20 ∈ TB := tb_5 99 rfl rfl
theorem lk_M_173 : Cond.constantLong R_M 173 999 ∈ TB := tb_5 100 rfl rfl
theorem lk_M_175 : Cond.methodLink R_M 175 y_M_bits ∈ TB := tb_5 101 rfl rfl
theorem lk_M_178 : Cond.methodLink R_M 178 y_M_isSheet ∈ TB := tb_5 112 rfl rfl
theorem lk_M_181 : Cond.constantLong R_M 181 (-1) ∈ TB := tb_5 115 rfl rfl
theorem lk_M_183 : Cond.methodLink R_M 183 y_M_common ∈ TB := tb_5 128 rfl rfl
theorem lk_M_187 : Cond.constantLong R_M 187 8 ∈ TB := tb_5 120 rfl rfl
theorem lk_M_189 : Cond.constantLong R_M 189 100 ∈ TB := tb_5 121 rfl rfl
theorem lk_M_191 : Cond.methodLink R_M 191 y_M_ways ∈ TB := tb_5 122 rfl rfl
theorem lk_M_195 : Cond.methodLink R_M 195 y_M_partOf ∈ TB := tb_5 125 rfl rfl
theorem lk_M_199 : Cond.fieldLink R_M 199 R_M (F_M 6).2.1 (F_M 6).2.2.1 ∈ TB := tb_4 52 rfl rfl
theorem lk_M_202 : Cond.constantLong R_M 202 255 ∈ TB := tb_5 139 rfl rfl
theorem lk_M_204 : Cond.fieldLink R_M 204 R_M (F_M 7).2.1 (F_M 7).2.2.1 ∈ TB := tb_4 53 rfl rfl
theorem lk_M_207 : Cond.fieldLink R_M 207 R_M (F_M 8).2.1 (F_M 8).2.2.1 ∈ TB := tb_4 54 rfl rfl
theorem lk_M_210 : Cond.fieldLink R_M 210 R_M (F_M 10).2.1 (F_M 10).2.2.1 ∈ TB := tb_4 56 rfl rfl
theorem lk_M_213 : Cond.fieldLink R_M 213 R_M (F_M 9).2.1 (F_M 9).2.2.1 ∈ TB := tb_4 55 rfl rfl
theorem lk_M_216 : Cond.methodLink R_M 216 y_M_isRow ∈ TB := tb_5 152 rfl rfl
theorem lk_M_220 : Cond.methodLink R_M 220 y_M_wordThere ∈ TB := tb_5 156 rfl rfl
theorem lk_M_223 : Cond.methodLink R_M 223 y_M_next ∈ TB := tb_5 148 rfl rfl
theorem lk_M_226 : Cond.fieldLink R_M 226 R_M (F_M 12).2.1 (F_M 12).2.2.1 ∈ TB := tb_4 58 rfl rfl
theorem lk_M_229 : Cond.methodLink R_M 229 y_M_isWord ∈ TB := tb_5 168 rfl rfl
theorem lk_M_232 : Cond.methodLink R_M 232 y_M_readsWord ∈ TB := tb_5 164 rfl rfl
theorem lk_M_235 : Cond.methodLink R_M 235 y_M_reads ∈ TB := tb_5 172 rfl rfl
theorem lk_M_238 : Cond.methodLink R_M 238 y_M_readsBarge ∈ TB := tb_5 160 rfl rfl
theorem lk_M_242 : Cond.methodLink R_M 242 y_M_readsNoise ∈ TB := tb_5 176 rfl rfl
theorem lk_M_246 : Cond.methodLink R_M 246 y_M_readsLaw ∈ TB := tb_5 180 rfl rfl
theorem lk_M_250 : Cond.methodLink R_M 250 y_M_readsAll ∈ TB := tb_5 144 rfl rfl
theorem lk_M_253 : Cond.fieldLink R_M 253 R_M (F_M 14).2.1 (F_M 14).2.2.1 ∈ TB := tb_4 60 rfl rfl
theorem lk_M_256 : Cond.constantLong R_M 256 10 ∈ TB := tb_5 188 rfl rfl
theorem lk_M_258 : Cond.methodLink R_M 258 y_M_mustBe ∈ TB := tb_5 189 rfl rfl
theorem lk_M_261 : Cond.constantLong R_M 261 13 ∈ TB := tb_5 229 rfl rfl
theorem lk_M_263 : Cond.methodLink R_M 263 y_M_holdsNothing ∈ TB := tb_5 230 rfl rfl
theorem lk_M_266 : Cond.methodLink R_M 266 y_M_above ∈ TB := tb_5 234 rfl rfl
theorem lk_M_269 : Cond.fieldLink R_M 269 R_M (F_M 22).2.1 (F_M 22).2.2.1 ∈ TB := tb_4 68 rfl rfl
theorem lk_M_272 : Cond.fieldLink R_M 272 R_M (F_M 24).2.1 (F_M 24).2.2.1 ∈ TB := tb_4 70 rfl rfl
theorem lk_M_276 : Cond.methodLink R_M 276 y_M_ran ∈ TB := tb_6 5 rfl rfl
theorem lk_M_279 : Cond.fieldLink R_M 279 R_M (F_M 23).2.1 (F_M 23).2.2.1 ∈ TB := tb_4 69 rfl rfl
theorem lk_M_282 : Cond.methodLink R_M 282 y_M_floatsBy ∈ TB := tb_6 1 rfl rfl
theorem lk_M_285 : Cond.methodLink R_M 285 y_M_slopsBy ∈ TB := tb_6 9 rfl rfl
theorem lk_M_288 : Cond.methodLink R_M 288 y_M_partsBy ∈ TB := tb_6 13 rfl rfl
theorem lk_M_291 : Cond.methodLink R_M 291 y_M_landsBy ∈ TB := tb_6 17 rfl rfl
theorem lk_M_294 : Cond.methodLink R_M 294 y_M_spoiltLocks ∈ TB := tb_6 29 rfl rfl
theorem lk_M_297 : Cond.fieldLink R_M 297 R_M (F_M 3).2.1 (F_M 3).2.2.1 ∈ TB := tb_4 49 rfl rfl
theorem lk_S_3 : Cond.methodLink R_S 3 objectInit ∈ TB := tb_1 150 rfl rfl
theorem lk_S_9 : Cond.fieldLink R_S 9 R_S (F_S 0).2.1 (F_S 0).2.2.1 ∈ TB := tb_1 151 rfl rfl
theorem lk_S_15 : Cond.fieldLink R_S 15 R_S (F_S 1).2.1 (F_S 1).2.2.1 ∈ TB := tb_1 153 rfl rfl
theorem lk_S_19 : Cond.fieldLink R_S 19 R_S (F_S 2).2.1 (F_S 2).2.2.1 ∈ TB := tb_1 155 rfl rfl
theorem lk_S_22 : Cond.methodLink R_S 22 y_JA_fill ∈ TB := tb_3 184 rfl rfl
theorem lk_T_3 : Cond.methodLink R_T 3 objectInit ∈ TB := tb_1 96 rfl rfl
theorem lk_T_9 : Cond.fieldLink R_T 9 R_T (F_T 0).2.1 (F_T 0).2.2.1 ∈ TB := tb_1 97 rfl rfl
theorem lk_T_15 : Cond.fieldLink R_T 15 R_T (F_T 1).2.1 (F_T 1).2.2.1 ∈ TB := tb_1 98 rfl rfl
theorem lk_T_19 : Cond.fieldLink R_T 19 R_T (F_T 2).2.1 (F_T 2).2.2.1 ∈ TB := tb_1 100 rfl rfl
theorem lk_T_22 : Cond.fieldLink R_T 22 R_T (F_T 3).2.1 (F_T 3).2.2.1 ∈ TB := tb_1 101 rfl rfl
theorem lk_T_25 : Cond.fieldLink R_T 25 R_T (F_T 4).2.1 (F_T 4).2.2.1 ∈ TB := tb_1 102 rfl rfl
theorem lk_T_28 : Cond.methodLink R_T 28 y_T_step ∈ TB := tb_2 1 rfl rfl
theorem lk_T_31 : Cond.methodLink R_T 31 y_T_readLine ∈ TB := tb_2 15 rfl rfl
theorem lk_T_35 : Cond.methodLink R_T 35 y_T_kindName ∈ TB := tb_2 19 rfl rfl
theorem lk_T_39 : Cond.methodLink R_T 39 y_T_isName ∈ TB := tb_2 28 rfl rfl
theorem lk_T_43 : Cond.methodLink R_T 43 y_T_readBarge ∈ TB := tb_2 80 rfl rfl
theorem lk_T_47 : Cond.methodLink R_T 47 y_T_lawName ∈ TB := tb_2 104 rfl rfl
theorem lk_T_50 : Cond.methodLink R_T 50 y_T_takeName ∈ TB := tb_2 85 rfl rfl
theorem lk_T_53 : Cond.methodLink R_T 53 y_T_readLaw ∈ TB := tb_2 111 rfl rfl
theorem lk_T_58 : Cond.methodLink R_T 58 y_T_readNoise ∈ TB := tb_2 121 rfl rfl
theorem lk_T_61 : Cond.fieldLink R_T 61 R_C (F_C 8).2.1 (F_C 8).2.2.1 ∈ TB := tb_1 58 rfl rfl
theorem lk_T_68 : Cond.methodLink R_T 68 y_T_takeNumber ∈ TB := tb_2 89 rfl rfl
theorem lk_T_78 : Cond.methodLink R_T 78 y_T_takeEndOfLine ∈ TB := tb_2 96 rfl rfl
theorem lk_T_82 : Cond.methodLink R_T 82 y_C_add ∈ TB := tb_2 100 rfl rfl
theorem lk_T_86 : (R_T, 86, y_X_isLaw) ∈ nwM := by simp [nwF, nwM]
theorem lk_T_90 : (R_T, 90, "LAWS_AT_MOST") ∈ nwF := by simp [nwF, nwM]
theorem lk_T_94 : Cond.fieldLink R_T 94 R_C (F_C 0).2.1 (F_C 0).2.2.1 ∈ TB := tb_1 40 rfl rfl
theorem lk_T_99 : (R_T, 99, y_X_isLock) ∈ nwM := by simp [nwF, nwM]
theorem lk_T_102 : Cond.fieldLink R_T 102 R_C (F_C 1).2.1 (F_C 1).2.2.1 ∈ TB := tb_1 42 rfl rfl
theorem lk_T_124 : Cond.methodLink R_T 124 y_JS_length ∈ TB := tb_2 32 rfl rfl
theorem lk_T_130 : Cond.methodLink R_T 130 y_T_byteAt ∈ TB := tb_2 5 rfl rfl
theorem lk_T_133 : Cond.methodLink R_T 133 y_JS_charAt ∈ TB := tb_2 42 rfl rfl
theorem lk_T_137 : Cond.methodLink R_T 137 y_T_isLetter ∈ TB := tb_2 9 rfl rfl
theorem lk_T_140 : Cond.methodLink R_T 140 y_T_isDigit ∈ TB := tb_2 12 rfl rfl
theorem lk_X_1 : Cond.methodLink R_X 1 objectInit ∈ TB := tb_1 21 rfl rfl
theorem lk_X_7 : Cond.classLink R_X 7 "SilenceCanal$Canal" ∈ TB := tb_1 24 rfl rfl
theorem lk_X_9 : Cond.methodLink R_X 9 y_C_init ∈ TB := tb_1 26 rfl rfl
theorem lk_X_10 : Cond.fieldLink R_X 10 R_X (F_X 0).2.1 (F_X 0).2.2.1 ∈ TB := tb_1 186 rfl rfl
theorem lk_X_16 : Cond.fieldLink R_X 16 R_X (F_X 1).2.1 (F_X 1).2.2.1 ∈ TB := tb_1 187 rfl rfl
theorem lk_X_19 : Cond.fieldLink R_X 19 R_X (F_X 2).2.1 (F_X 2).2.2.1 ∈ TB := tb_1 188 rfl rfl
theorem lk_X_22 : Cond.fieldLink R_X 22 R_X (F_X 3).2.1 (F_X 3).2.2.1 ∈ TB := tb_1 189 rfl rfl
theorem lk_X_26 : Cond.classLink R_X 26 "SilenceCanal$Text" ∈ TB := tb_1 91 rfl rfl
theorem lk_X_28 : (R_X, 28, y_T_init) ∈ nwM := by simp [nwF, nwM]
theorem lk_X_29 : Cond.fieldLink R_X 29 R_X (F_X 4).2.1 (F_X 4).2.2.1 ∈ TB := tb_1 190 rfl rfl
theorem lk_X_33 : Cond.fieldLink R_X 33 R_X (F_X 5).2.1 (F_X 5).2.2.1 ∈ TB := tb_1 191 rfl rfl
theorem lk_X_37 : Cond.fieldLink R_X 37 R_X (F_X 6).2.1 (F_X 6).2.2.1 ∈ TB := tb_1 192 rfl rfl
theorem lk_X_41 : Cond.classLink R_X 41 "SilenceCanal$Sheet" ∈ TB := tb_1 115 rfl rfl
theorem lk_X_43 : Cond.fieldLink R_X 43 R_X (F_X 7).2.1 (F_X 7).2.2.1 ∈ TB := tb_1 193 rfl rfl
theorem lk_X_47 : Cond.classLink R_X 47 "SilenceCanal$Shelf" ∈ TB := tb_1 117 rfl rfl
theorem lk_X_49 : Cond.fieldLink R_X 49 R_X (F_X 8).2.1 (F_X 8).2.2.1 ∈ TB := tb_1 194 rfl rfl
theorem lk_X_53 : Cond.classLink R_X 53 "SilenceCanal$Acts" ∈ TB := tb_1 119 rfl rfl
theorem lk_X_55 : (R_X, 55, y_A_init) ∈ nwM := by simp [nwF, nwM]
theorem lk_X_56 : Cond.fieldLink R_X 56 R_X (F_X 9).2.1 (F_X 9).2.2.1 ∈ TB := tb_1 195 rfl rfl
theorem lk_X_60 : (R_X, 60, y_S_init) ∈ nwM := by simp [nwF, nwM]
theorem lk_X_61 : (R_X, 61, y_H_init) ∈ nwM := by simp [nwF, nwM]
theorem lk_X_62 : Cond.fieldLink R_X 62 R_T (F_T 1).2.1 (F_T 1).2.2.1 ∈ TB := tb_1 99 rfl rfl
theorem lk_X_65 : Cond.methodLink R_X 65 y_T_append ∈ TB := tb_1 221 rfl rfl
theorem lk_X_69 : Cond.methodLink R_X 69 y_C_copyFrom ∈ TB := tb_1 229 rfl rfl
theorem lk_X_73 : Cond.methodLink R_X 73 y_C_clearAllButDraws ∈ TB := tb_1 233 rfl rfl
theorem lk_X_76 : Cond.methodLink R_X 76 y_T_readInto ∈ TB := tb_1 237 rfl rfl
theorem lk_X_80 : Cond.fieldLink R_X 80 R_C (F_C 8).2.1 (F_C 8).2.2.1 ∈ TB := tb_1 57 rfl rfl
theorem lk_X_83 : Cond.methodLink R_X 83 y_X_isLaw ∈ TB := tb_2 133 rfl rfl
theorem lk_X_87 : Cond.fieldLink R_X 87 R_X "LAWS_AT_MOST" "[I" ∈ TB := tb_2 134 rfl rfl
theorem lk_X_90 : Cond.fieldLink R_X 90 R_C (F_C 0).2.1 (F_C 0).2.2.1 ∈ TB := tb_1 39 rfl rfl
theorem lk_X_93 : Cond.methodLink R_X 93 y_X_isKind ∈ TB := tb_2 143 rfl rfl
theorem lk_X_96 : Cond.methodLink R_X 96 y_X_isLoad ∈ TB := tb_2 146 rfl rfl
theorem lk_X_99 : Cond.methodLink R_X 99 y_X_isLock ∈ TB := tb_2 149 rfl rfl
theorem lk_X_102 : Cond.methodLink R_X 102 y_C_add ∈ TB := tb_2 150 rfl rfl
theorem lk_X_106 : Cond.methodLink R_X 106 y_X_isBarge ∈ TB := tb_2 155 rfl rfl
theorem lk_X_109 : Cond.fieldLink R_X 109 R_C (F_C 3).2.1 (F_C 3).2.2.1 ∈ TB := tb_1 47 rfl rfl
theorem lk_X_112 : Cond.fieldLink R_X 112 R_C (F_C 4).2.1 (F_C 4).2.2.1 ∈ TB := tb_1 49 rfl rfl
theorem lk_X_115 : Cond.fieldLink R_X 115 R_C (F_C 5).2.1 (F_C 5).2.2.1 ∈ TB := tb_1 51 rfl rfl
theorem lk_X_118 : Cond.fieldLink R_X 118 R_C (F_C 6).2.1 (F_C 6).2.2.1 ∈ TB := tb_1 53 rfl rfl
theorem lk_X_121 : Cond.fieldLink R_X 121 R_C (F_C 7).2.1 (F_C 7).2.2.1 ∈ TB := tb_1 55 rfl rfl
theorem lk_X_124 : Cond.methodLink R_X 124 y_C_hasLanded ∈ TB := tb_2 159 rfl rfl
theorem lk_X_127 : Cond.methodLink R_X 127 y_C_paceOf ∈ TB := tb_2 167 rfl rfl
theorem lk_X_131 : Cond.methodLink R_X 131 y_C_noiseAt ∈ TB := tb_2 171 rfl rfl
theorem lk_X_134 : Cond.methodLink R_X 134 y_C_spillOf ∈ TB := tb_2 176 rfl rfl
theorem lk_X_138 : Cond.fieldLink R_X 138 R_C (F_C 1).2.1 (F_C 1).2.2.1 ∈ TB := tb_1 43 rfl rfl
theorem lk_X_141 : Cond.fieldLink R_X 141 R_C (F_C 2).2.1 (F_C 2).2.2.1 ∈ TB := tb_1 45 rfl rfl
theorem lk_X_144 : Cond.methodLink R_X 144 y_C_bargesAt ∈ TB := tb_2 204 rfl rfl
theorem lk_X_147 : Cond.methodLink R_X 147 y_C_passHours ∈ TB := tb_2 212 rfl rfl
theorem lk_X_151 : Cond.methodLink R_X 151 y_C_allLoads ∈ TB := tb_3 10 rfl rfl
theorem lk_X_155 : Cond.fieldLink R_X 155 R_C (F_C 10).2.1 (F_C 10).2.2.1 ∈ TB := tb_1 62 rfl rfl
theorem lk_X_158 : Cond.methodLink R_X 158 y_C_passHourByDraws ∈ TB := tb_3 22 rfl rfl
theorem lk_X_161 : Cond.methodLink R_X 161 y_X_triedCargo ∈ TB := tb_3 35 rfl rfl
theorem lk_X_165 : Cond.fieldLink R_X 165 R_C (F_C 9).2.1 (F_C 9).2.2.1 ∈ TB := tb_1 60 rfl rfl
theorem lk_X_168 : Cond.methodLink R_X 168 y_C_allLost ∈ TB := tb_3 47 rfl rfl
theorem lk_X_171 : Cond.methodLink R_X 171 y_C_landedSet ∈ TB := tb_3 51 rfl rfl
theorem lk_X_174 : Cond.methodLink R_X 174 y_C_usedLocks ∈ TB := tb_3 52 rfl rfl
theorem lk_X_177 : Cond.methodLink R_X 177 y_C_loudest ∈ TB := tb_3 56 rfl rfl
theorem lk_X_180 : Cond.methodLink R_X 180 y_X_triedFreight ∈ TB := tb_3 64 rfl rfl
theorem lk_X_183 : Cond.methodLink R_X 183 y_C_passHour ∈ TB := tb_3 72 rfl rfl
theorem lk_X_186 : Cond.methodLink R_X 186 y_C_allLanded ∈ TB := tb_3 81 rfl rfl
theorem lk_X_190 : Cond.methodLink R_X 190 y_C_loudOnTheWay ∈ TB := tb_3 102 rfl rfl
theorem lk_X_193 : Cond.methodLink R_X 193 y_JI_bitCount ∈ TB := tb_3 109 rfl rfl
theorem lk_X_198 : Cond.methodLink R_X 198 y_X_sheetAt ∈ TB := tb_3 123 rfl rfl
theorem lk_X_202 : Cond.fieldLink R_X 202 R_S (F_S 1).2.1 (F_S 1).2.2.1 ∈ TB := tb_1 154 rfl rfl
theorem lk_X_204 : Cond.methodLink R_X 204 y_X_loadFits ∈ TB := tb_3 127 rfl rfl
theorem lk_X_208 : Cond.constantLong R_X 208 (-1) ∈ TB := tb_3 135 rfl rfl
theorem lk_X_210 : Cond.methodLink R_X 210 y_X_ways ∈ TB := tb_3 136 rfl rfl
theorem lk_X_214 : Cond.constantLong R_X 214 100 ∈ TB := tb_3 139 rfl rfl
theorem lk_X_216 : Cond.methodLink R_X 216 y_X_partOf ∈ TB := tb_3 140 rfl rfl
theorem lk_X_220 : Cond.methodLink R_X 220 y_X_triedRowPart ∈ TB := tb_3 151 rfl rfl
theorem lk_X_223 : Cond.methodLink R_X 223 y_X_isRowPart ∈ TB := tb_3 159 rfl rfl
theorem lk_X_227 : Cond.fieldLink R_X 227 R_S (F_S 2).2.1 (F_S 2).2.2.1 ∈ TB := tb_1 156 rfl rfl
theorem lk_X_228 : Cond.fieldLink R_X 228 R_S (F_S 0).2.1 (F_S 0).2.2.1 ∈ TB := tb_1 152 rfl rfl
theorem lk_X_231 : Cond.methodLink R_X 231 y_X_heldLoad ∈ TB := tb_3 175 rfl rfl
theorem lk_X_234 : Cond.methodLink R_X 234 y_S_clearTo ∈ TB := tb_3 180 rfl rfl
theorem lk_X_238 : Cond.methodLink R_X 238 y_S_hasItem ∈ TB := tb_3 189 rfl rfl
theorem lk_X_241 : Cond.methodLink R_X 241 y_S_narrowed ∈ TB := tb_3 193 rfl rfl
theorem lk_X_244 : Cond.methodLink R_X 244 y_X_shelfAt ∈ TB := tb_3 205 rfl rfl
theorem lk_X_248 : Cond.methodLink R_X 248 y_H_clear ∈ TB := tb_3 209 rfl rfl
theorem lk_X_251 : Cond.methodLink R_X 251 y_H_holdBarge ∈ TB := tb_3 213 rfl rfl
theorem lk_X_254 : Cond.methodLink R_X 254 y_H_holdRow ∈ TB := tb_3 217 rfl rfl
theorem lk_X_257 : Cond.fieldLink R_X 257 R_H (F_H 0).2.1 (F_H 0).2.2.1 ∈ TB := tb_1 170 rfl rfl
theorem lk_X_260 : Cond.fieldLink R_X 260 R_H (F_H 2).2.1 (F_H 2).2.2.1 ∈ TB := tb_1 174 rfl rfl
theorem lk_X_263 : Cond.fieldLink R_X 263 R_H (F_H 3).2.1 (F_H 3).2.2.1 ∈ TB := tb_1 176 rfl rfl
theorem lk_X_266 : Cond.methodLink R_X 266 y_X_bargeOn ∈ TB := tb_3 225 rfl rfl
theorem lk_X_270 : Cond.methodLink R_X 270 y_X_isUnder ∈ TB := tb_3 229 rfl rfl
theorem lk_X_273 : Cond.fieldLink R_X 273 R_A (F_A 1).2.1 (F_A 1).2.2.1 ∈ TB := tb_1 128 rfl rfl
theorem lk_X_276 : Cond.methodLink R_X 276 y_A_perform ∈ TB := tb_3 238 rfl rfl
theorem lk_X_280 : Cond.fieldLink R_X 280 R_A (F_A 0).2.1 (F_A 0).2.2.1 ∈ TB := tb_1 126 rfl rfl
theorem lk_X_283 : Cond.methodLink R_X 283 y_C_locksWithLoss ∈ TB := tb_4 24 rfl rfl
theorem lk_X_286 : Cond.fieldLink R_X 286 R_X "KIND_ABOVE" "[I" ∈ TB := tb_3 232 rfl rfl
theorem lk_X_289 : Cond.fieldLink R_X 289 R_H (F_H 1).2.1 (F_H 1).2.2.1 ∈ TB := tb_1 172 rfl rfl
theorem lk_X_292 : Cond.methodLink R_X 292 y_C_still ∈ TB := tb_3 39 rfl rfl
theorem lk_X_295 : Cond.fieldLink R_X 295 R_C (F_C 11).2.1 (F_C 11).2.2.1 ∈ TB := tb_1 64 rfl rfl
theorem mw_JA_fill : MWS y_JA_fill b_JA_fill 4 (none) 2 := ⟨tb_1 37 rfl rfl, tb_1 36 rfl rfl, tb_1 4 rfl rfl, by decide +kernel, by decide +kernel, by decide +kernel⟩
theorem mw_X_feed : MWV y_X_feed b_X_feed 5 ((some .int)) 2 := ⟨tb_1 220 rfl rfl, tb_1 218 rfl rfl, tb_1 219 rfl rfl, tb_1 1 rfl rfl, by decide +kernel, by decide +kernel, by decide +kernel⟩
theorem mw_T_append : MWV y_T_append b_T_append 2 (none) 1 := ⟨tb_1 224 rfl rfl, tb_1 222 rfl rfl, tb_1 223 rfl rfl, tb_1 5 rfl rfl, by decide +kernel, by decide +kernel, by decide +kernel⟩
theorem mw_X_canal : MWV y_X_canal b_X_canal 2 ((some .int)) 0 := ⟨tb_1 228 rfl rfl, tb_1 226 rfl rfl, tb_1 227 rfl rfl, tb_1 1 rfl rfl, by decide +kernel, by decide +kernel, by decide +kernel⟩
theorem mw_C_copyFrom : MWV y_C_copyFrom b_C_copyFrom 2 (none) 1 := ⟨tb_1 232 rfl rfl, tb_1 230 rfl rfl, tb_1 231 rfl rfl, tb_1 2 rfl rfl, by decide +kernel, by decide +kernel, by decide +kernel⟩
theorem mw_C_clearAllButDraws : MWV y_C_clearAllButDraws b_C_clearAllButDraws 1 (none) 0 := ⟨tb_1 236 rfl rfl, tb_1 234 rfl rfl, tb_1 235 rfl rfl, tb_1 2 rfl rfl, by decide +kernel, by decide +kernel, by decide +kernel⟩
theorem mw_T_readInto : MWV y_T_readInto b_T_readInto 3 ((some .int)) 1 := ⟨tb_2 0 rfl rfl, tb_1 238 rfl rfl, tb_1 239 rfl rfl, tb_1 5 rfl rfl, by decide +kernel, by decide +kernel, by decide +kernel⟩
theorem mw_T_step : MWV y_T_step b_T_step 1 (none) 0 := ⟨tb_2 4 rfl rfl, tb_2 3 rfl rfl, tb_s (q := (y_T_step, 5)) 0 (by decide +kernel) (by decide +kernel), tb_1 5 rfl rfl, by decide +kernel, by decide +kernel, by decide +kernel⟩
theorem mw_T_byteAt : MWV y_T_byteAt b_T_byteAt 2 ((some .int)) 1 := ⟨tb_2 8 rfl rfl, tb_2 7 rfl rfl, tb_s (q := (y_T_byteAt, 5)) 1 (by decide +kernel) (by decide +kernel), tb_1 5 rfl rfl, by decide +kernel, by decide +kernel, by decide +kernel⟩
theorem mw_T_isLetter : MWS y_T_isLetter b_T_isLetter 1 ((some .boolean)) 1 := ⟨tb_2 11 rfl rfl, tb_2 10 rfl rfl, tb_1 5 rfl rfl, by decide +kernel, by decide +kernel, by decide +kernel⟩
theorem mw_T_isDigit : MWS y_T_isDigit b_T_isDigit 1 ((some .boolean)) 1 := ⟨tb_2 14 rfl rfl, tb_2 13 rfl rfl, tb_1 5 rfl rfl, by decide +kernel, by decide +kernel, by decide +kernel⟩
theorem mw_T_readLine : MWV y_T_readLine b_T_readLine 3 ((some .boolean)) 1 := ⟨tb_2 18 rfl rfl, tb_2 17 rfl rfl, tb_s (q := (y_T_readLine, 5)) 2 (by decide +kernel) (by decide +kernel), tb_1 5 rfl rfl, by decide +kernel, by decide +kernel, by decide +kernel⟩
theorem mw_T_kindName : MWS y_T_kindName b_T_kindName 1 ((some (.object "java/lang/String"))) 1 := ⟨tb_2 21 rfl rfl, tb_2 20 rfl rfl, tb_1 5 rfl rfl, by decide +kernel, by decide +kernel, by decide +kernel⟩
theorem mw_T_isName : MWV y_T_isName b_T_isName 3 ((some .boolean)) 1 := ⟨tb_2 31 rfl rfl, tb_2 30 rfl rfl, tb_s (q := (y_T_isName, 5)) 3 (by decide +kernel) (by decide +kernel), tb_1 5 rfl rfl, by decide +kernel, by decide +kernel, by decide +kernel⟩
theorem mw_JS_length : MWV y_JS_length b_JS_length 1 ((some .int)) 0 := ⟨tb_2 35 rfl rfl, tb_2 33 rfl rfl, tb_2 34 rfl rfl, tb_1 10 rfl rfl, by decide +kernel, by decide +kernel, by decide +kernel⟩
theorem mw_JS_coder : MWV y_JS_coder b_JS_coder 1 ((some .byte)) 0 := ⟨tb_2 39 rfl rfl, tb_2 37 rfl rfl, tb_2 38 rfl rfl, tb_1 10 rfl rfl, by decide +kernel, by decide +kernel, by decide +kernel⟩
theorem mw_JS_charAt : MWV y_JS_charAt b_JS_charAt 2 ((some .char)) 1 := ⟨tb_2 45 rfl rfl, tb_2 43 rfl rfl, tb_2 44 rfl rfl, tb_1 10 rfl rfl, by decide +kernel, by decide +kernel, by decide +kernel⟩
theorem mw_JS_isLatin1 : MWV y_JS_isLatin1 b_JS_isLatin1 1 ((some .boolean)) 0 := ⟨tb_2 49 rfl rfl, tb_2 47 rfl rfl, tb_2 48 rfl rfl, tb_1 10 rfl rfl, by decide +kernel, by decide +kernel, by decide +kernel⟩
theorem mw_JL_charAt : MWS y_JL_charAt b_JL_charAt 2 ((some .char)) 2 := ⟨tb_2 52 rfl rfl, tb_2 51 rfl rfl, tb_1 11 rfl rfl, by decide +kernel, by decide +kernel, by decide +kernel⟩
theorem mw_JS_checkIndex : MWS y_JS_checkIndex b_JS_checkIndex 2 (none) 2 := ⟨tb_2 55 rfl rfl, tb_2 54 rfl rfl, tb_1 10 rfl rfl, by decide +kernel, by decide +kernel, by decide +kernel⟩
theorem mw_JP_checkIndex : MWS y_JP_checkIndex b_JP_checkIndex 3 ((some .int)) 3 := ⟨tb_2 60 rfl rfl, tb_2 59 rfl rfl, tb_1 12 rfl rfl, by decide +kernel, by decide +kernel, by decide +kernel⟩
theorem mw_T_readBarge : MWV y_T_readBarge b_T_readBarge 7 ((some .boolean)) 2 := ⟨tb_2 83 rfl rfl, tb_2 82 rfl rfl, tb_s (q := (y_T_readBarge, 5)) 4 (by decide +kernel) (by decide +kernel), tb_1 5 rfl rfl, by decide +kernel, by decide +kernel, by decide +kernel⟩
theorem mw_T_takeName : MWV y_T_takeName b_T_takeName 2 ((some .boolean)) 1 := ⟨tb_2 88 rfl rfl, tb_2 87 rfl rfl, tb_s (q := (y_T_takeName, 5)) 5 (by decide +kernel) (by decide +kernel), tb_1 5 rfl rfl, by decide +kernel, by decide +kernel, by decide +kernel⟩
theorem mw_T_takeNumber : MWV y_T_takeNumber b_T_takeNumber 4 ((some .int)) 1 := ⟨tb_2 92 rfl rfl, tb_2 91 rfl rfl, tb_s (q := (y_T_takeNumber, 5)) 6 (by decide +kernel) (by decide +kernel), tb_1 5 rfl rfl, by decide +kernel, by decide +kernel, by decide +kernel⟩
theorem mw_T_takeEndOfLine : MWV y_T_takeEndOfLine b_T_takeEndOfLine 1 ((some .boolean)) 0 := ⟨tb_2 99 rfl rfl, tb_2 98 rfl rfl, tb_s (q := (y_T_takeEndOfLine, 5)) 7 (by decide +kernel) (by decide +kernel), tb_1 5 rfl rfl, by decide +kernel, by decide +kernel, by decide +kernel⟩
theorem mw_C_add : MWV y_C_add b_C_add 6 (none) 5 := ⟨tb_2 103 rfl rfl, tb_2 101 rfl rfl, tb_2 102 rfl rfl, tb_1 2 rfl rfl, by decide +kernel, by decide +kernel, by decide +kernel⟩
theorem mw_T_lawName : MWS y_T_lawName b_T_lawName 1 ((some (.object "java/lang/String"))) 1 := ⟨tb_2 106 rfl rfl, tb_2 105 rfl rfl, tb_1 5 rfl rfl, by decide +kernel, by decide +kernel, by decide +kernel⟩
theorem mw_T_readLaw : MWV y_T_readLaw b_T_readLaw 4 ((some .boolean)) 2 := ⟨tb_2 114 rfl rfl, tb_2 113 rfl rfl, tb_s (q := (y_T_readLaw, 5)) 8 (by decide +kernel) (by decide +kernel), tb_1 5 rfl rfl, by decide +kernel, by decide +kernel, by decide +kernel⟩
theorem mw_X_isLaw : MWS y_X_isLaw b_X_isLaw 1 ((some .boolean)) 1 := ⟨tb_2 117 rfl rfl, tb_2 116 rfl rfl, tb_1 1 rfl rfl, by decide +kernel, by decide +kernel, by decide +kernel⟩
theorem mw_T_readNoise : MWV y_T_readNoise b_T_readNoise 4 ((some .boolean)) 1 := ⟨tb_2 124 rfl rfl, tb_2 123 rfl rfl, tb_s (q := (y_T_readNoise, 5)) 9 (by decide +kernel) (by decide +kernel), tb_1 5 rfl rfl, by decide +kernel, by decide +kernel, by decide +kernel⟩
theorem mw_X_isLock : MWS y_X_isLock b_X_isLock 1 ((some .boolean)) 1 := ⟨tb_2 128 rfl rfl, tb_2 127 rfl rfl, tb_1 1 rfl rfl, by decide +kernel, by decide +kernel, by decide +kernel⟩
theorem mw_X_set : MWV y_X_set b_X_set 4 ((some .int)) 2 := ⟨tb_2 132 rfl rfl, tb_2 130 rfl rfl, tb_2 131 rfl rfl, tb_1 1 rfl rfl, by decide +kernel, by decide +kernel, by decide +kernel⟩
theorem mw_X_lawOf : MWV y_X_lawOf b_X_lawOf 2 ((some .int)) 1 := ⟨tb_2 138 rfl rfl, tb_2 136 rfl rfl, tb_2 137 rfl rfl, tb_1 1 rfl rfl, by decide +kernel, by decide +kernel, by decide +kernel⟩
theorem mw_X_barge : MWV y_X_barge b_X_barge 5 ((some .int)) 4 := ⟨tb_2 142 rfl rfl, tb_2 140 rfl rfl, tb_2 141 rfl rfl, tb_1 1 rfl rfl, by decide +kernel, by decide +kernel, by decide +kernel⟩
theorem mw_X_isKind : MWS y_X_isKind b_X_isKind 1 ((some .boolean)) 1 := ⟨tb_2 145 rfl rfl, tb_2 144 rfl rfl, tb_1 1 rfl rfl, by decide +kernel, by decide +kernel, by decide +kernel⟩
theorem mw_X_isLoad : MWS y_X_isLoad b_X_isLoad 1 ((some .boolean)) 1 := ⟨tb_2 148 rfl rfl, tb_2 147 rfl rfl, tb_1 1 rfl rfl, by decide +kernel, by decide +kernel, by decide +kernel⟩
theorem mw_X_of : MWV y_X_of b_X_of 3 ((some .int)) 2 := ⟨tb_2 154 rfl rfl, tb_2 152 rfl rfl, tb_2 153 rfl rfl, tb_1 1 rfl rfl, by decide +kernel, by decide +kernel, by decide +kernel⟩
theorem mw_X_isBarge : MWV y_X_isBarge b_X_isBarge 2 ((some .boolean)) 1 := ⟨tb_2 158 rfl rfl, tb_2 157 rfl rfl, tb_s (q := (y_X_isBarge, 10)) 10 (by decide +kernel) (by decide +kernel), tb_1 1 rfl rfl, by decide +kernel, by decide +kernel, by decide +kernel⟩
theorem mw_C_hasLanded : MWV y_C_hasLanded b_C_hasLanded 2 ((some .boolean)) 1 := ⟨tb_2 162 rfl rfl, tb_2 160 rfl rfl, tb_2 161 rfl rfl, tb_1 2 rfl rfl, by decide +kernel, by decide +kernel, by decide +kernel⟩
theorem mw_X_does : MWV y_X_does b_X_does 3 ((some .int)) 2 := ⟨tb_2 166 rfl rfl, tb_2 164 rfl rfl, tb_2 165 rfl rfl, tb_1 1 rfl rfl, by decide +kernel, by decide +kernel, by decide +kernel⟩
theorem mw_C_paceOf : MWV y_C_paceOf b_C_paceOf 2 ((some .int)) 1 := ⟨tb_2 170 rfl rfl, tb_2 168 rfl rfl, tb_2 169 rfl rfl, tb_1 2 rfl rfl, by decide +kernel, by decide +kernel, by decide +kernel⟩
theorem mw_C_noiseAt : MWV y_C_noiseAt b_C_noiseAt 2 ((some .int)) 1 := ⟨tb_2 174 rfl rfl, tb_2 172 rfl rfl, tb_2 173 rfl rfl, tb_1 2 rfl rfl, by decide +kernel, by decide +kernel, by decide +kernel⟩
theorem mw_C_spillOf : MWV y_C_spillOf b_C_spillOf 3 ((some .int)) 2 := ⟨tb_2 179 rfl rfl, tb_2 177 rfl rfl, tb_2 178 rfl rfl, tb_1 2 rfl rfl, by decide +kernel, by decide +kernel, by decide +kernel⟩
theorem mw_X_mind : MWV y_X_mind b_X_mind 5 ((some .int)) 3 := ⟨tb_2 183 rfl rfl, tb_2 181 rfl rfl, tb_2 182 rfl rfl, tb_1 1 rfl rfl, by decide +kernel, by decide +kernel, by decide +kernel⟩
theorem mw_X_fill : MWV y_X_fill b_X_fill 4 ((some .int)) 2 := ⟨tb_2 187 rfl rfl, tb_2 185 rfl rfl, tb_2 186 rfl rfl, tb_1 1 rfl rfl, by decide +kernel, by decide +kernel, by decide +kernel⟩
theorem mw_X_bring : MWV y_X_bring b_X_bring 4 ((some .int)) 2 := ⟨tb_2 191 rfl rfl, tb_2 189 rfl rfl, tb_2 190 rfl rfl, tb_1 1 rfl rfl, by decide +kernel, by decide +kernel, by decide +kernel⟩
theorem mw_X_send : MWV y_X_send b_X_send 4 ((some .int)) 2 := ⟨tb_2 195 rfl rfl, tb_2 193 rfl rfl, tb_2 194 rfl rfl, tb_1 1 rfl rfl, by decide +kernel, by decide +kernel, by decide +kernel⟩
theorem mw_X_noise : MWV y_X_noise b_X_noise 4 ((some .int)) 2 := ⟨tb_2 199 rfl rfl, tb_2 197 rfl rfl, tb_2 198 rfl rfl, tb_1 1 rfl rfl, by decide +kernel, by decide +kernel, by decide +kernel⟩
theorem mw_X_lock : MWV y_X_lock b_X_lock 3 ((some .int)) 2 := ⟨tb_2 203 rfl rfl, tb_2 201 rfl rfl, tb_2 202 rfl rfl, tb_1 1 rfl rfl, by decide +kernel, by decide +kernel, by decide +kernel⟩
theorem mw_C_bargesAt : MWV y_C_bargesAt b_C_bargesAt 4 ((some .int)) 1 := ⟨tb_2 207 rfl rfl, tb_2 205 rfl rfl, tb_2 206 rfl rfl, tb_1 2 rfl rfl, by decide +kernel, by decide +kernel, by decide +kernel⟩
theorem mw_X_hours : MWV y_X_hours b_X_hours 2 ((some .int)) 1 := ⟨tb_2 211 rfl rfl, tb_2 209 rfl rfl, tb_2 210 rfl rfl, tb_1 1 rfl rfl, by decide +kernel, by decide +kernel, by decide +kernel⟩
theorem mw_C_passHours : MWV y_C_passHours b_C_passHours 3 (none) 1 := ⟨tb_2 215 rfl rfl, tb_2 213 rfl rfl, tb_2 214 rfl rfl, tb_1 2 rfl rfl, by decide +kernel, by decide +kernel, by decide +kernel⟩
theorem mw_C_allLanded : MWV y_C_allLanded b_C_allLanded 1 ((some .boolean)) 0 := ⟨tb_2 219 rfl rfl, tb_2 217 rfl rfl, tb_2 218 rfl rfl, tb_1 2 rfl rfl, by decide +kernel, by decide +kernel, by decide +kernel⟩
theorem mw_C_landedSet : MWV y_C_landedSet b_C_landedSet 3 ((some .int)) 0 := ⟨tb_2 223 rfl rfl, tb_2 221 rfl rfl, tb_2 222 rfl rfl, tb_1 2 rfl rfl, by decide +kernel, by decide +kernel, by decide +kernel⟩
theorem mw_C_passHour : MWV y_C_passHour b_C_passHour 2 (none) 0 := ⟨tb_2 228 rfl rfl, tb_2 226 rfl rfl, tb_2 227 rfl rfl, tb_1 2 rfl rfl, by decide +kernel, by decide +kernel, by decide +kernel⟩
theorem mw_C_goOn : MWV y_C_goOn b_C_goOn 5 (none) 1 := ⟨tb_2 232 rfl rfl, tb_2 231 rfl rfl, tb_s (q := (y_C_goOn, 12)) 11 (by decide +kernel) (by decide +kernel), tb_1 2 rfl rfl, by decide +kernel, by decide +kernel, by decide +kernel⟩
theorem mw_C_spill : MWV y_C_spill b_C_spill 5 (none) 3 := ⟨tb_2 239 rfl rfl, tb_2 238 rfl rfl, tb_s (q := (y_C_spill, 12)) 12 (by decide +kernel) (by decide +kernel), tb_1 2 rfl rfl, by decide +kernel, by decide +kernel, by decide +kernel⟩
theorem mw_X_heldLoad : MWS y_X_heldLoad b_X_heldLoad 1 ((some .int)) 1 := ⟨tb_3 2 rfl rfl, tb_3 1 rfl rfl, tb_1 1 rfl rfl, by decide +kernel, by decide +kernel, by decide +kernel⟩
theorem mw_C_echoWithOthers : MWV y_C_echoWithOthers b_C_echoWithOthers 4 (none) 1 := ⟨tb_3 9 rfl rfl, tb_3 8 rfl rfl, tb_s (q := (y_C_echoWithOthers, 12)) 13 (by decide +kernel) (by decide +kernel), tb_1 2 rfl rfl, by decide +kernel, by decide +kernel, by decide +kernel⟩
theorem mw_C_allLoads : MWV y_C_allLoads b_C_allLoads 3 ((some .int)) 0 := ⟨tb_3 13 rfl rfl, tb_3 11 rfl rfl, tb_3 12 rfl rfl, tb_1 2 rfl rfl, by decide +kernel, by decide +kernel, by decide +kernel⟩
theorem mw_X_seed : MWV y_X_seed b_X_seed 3 ((some .int)) 1 := ⟨tb_3 17 rfl rfl, tb_3 15 rfl rfl, tb_3 16 rfl rfl, tb_1 1 rfl rfl, by decide +kernel, by decide +kernel, by decide +kernel⟩
theorem mw_X_hour : MWV y_X_hour b_X_hour 1 ((some .int)) 0 := ⟨tb_3 21 rfl rfl, tb_3 19 rfl rfl, tb_3 20 rfl rfl, tb_1 1 rfl rfl, by decide +kernel, by decide +kernel, by decide +kernel⟩
theorem mw_C_passHourByDraws : MWV y_C_passHourByDraws b_C_passHourByDraws 3 (none) 0 := ⟨tb_3 25 rfl rfl, tb_3 23 rfl rfl, tb_3 24 rfl rfl, tb_1 2 rfl rfl, by decide +kernel, by decide +kernel, by decide +kernel⟩
theorem mw_C_draw : MWV y_C_draw b_C_draw 1 ((some .int)) 0 := ⟨tb_3 29 rfl rfl, tb_3 28 rfl rfl, tb_s (q := (y_C_draw, 12)) 14 (by decide +kernel) (by decide +kernel), tb_1 2 rfl rfl, by decide +kernel, by decide +kernel, by decide +kernel⟩
theorem mw_X_spoilt : MWV y_X_spoilt b_X_spoilt 6 ((some .int)) 1 := ⟨tb_3 34 rfl rfl, tb_3 32 rfl rfl, tb_3 33 rfl rfl, tb_1 1 rfl rfl, by decide +kernel, by decide +kernel, by decide +kernel⟩
theorem mw_X_triedCargo : MWV y_X_triedCargo b_X_triedCargo 4 ((some .int)) 3 := ⟨tb_3 38 rfl rfl, tb_3 37 rfl rfl, tb_s (q := (y_X_triedCargo, 10)) 15 (by decide +kernel) (by decide +kernel), tb_1 1 rfl rfl, by decide +kernel, by decide +kernel, by decide +kernel⟩
theorem mw_C_still : MWV y_C_still b_C_still 3 (none) 1 := ⟨tb_3 42 rfl rfl, tb_3 40 rfl rfl, tb_3 41 rfl rfl, tb_1 2 rfl rfl, by decide +kernel, by decide +kernel, by decide +kernel⟩
theorem mw_X_state : MWV y_X_state b_X_state 2 ((some .int)) 1 := ⟨tb_3 46 rfl rfl, tb_3 44 rfl rfl, tb_3 45 rfl rfl, tb_1 1 rfl rfl, by decide +kernel, by decide +kernel, by decide +kernel⟩
theorem mw_C_allLost : MWV y_C_allLost b_C_allLost 3 ((some .int)) 0 := ⟨tb_3 50 rfl rfl, tb_3 48 rfl rfl, tb_3 49 rfl rfl, tb_1 2 rfl rfl, by decide +kernel, by decide +kernel, by decide +kernel⟩
theorem mw_C_usedLocks : MWV y_C_usedLocks b_C_usedLocks 3 ((some .int)) 0 := ⟨tb_3 55 rfl rfl, tb_3 53 rfl rfl, tb_3 54 rfl rfl, tb_1 2 rfl rfl, by decide +kernel, by decide +kernel, by decide +kernel⟩
theorem mw_C_loudest : MWV y_C_loudest b_C_loudest 4 ((some .int)) 0 := ⟨tb_3 59 rfl rfl, tb_3 57 rfl rfl, tb_3 58 rfl rfl, tb_1 2 rfl rfl, by decide +kernel, by decide +kernel, by decide +kernel⟩
theorem mw_X_freight : MWV y_X_freight b_X_freight 3 ((some .int)) 2 := ⟨tb_3 63 rfl rfl, tb_3 61 rfl rfl, tb_3 62 rfl rfl, tb_1 1 rfl rfl, by decide +kernel, by decide +kernel, by decide +kernel⟩
theorem mw_X_triedFreight : MWV y_X_triedFreight b_X_triedFreight 3 ((some .int)) 2 := ⟨tb_3 67 rfl rfl, tb_3 66 rfl rfl, tb_s (q := (y_X_triedFreight, 10)) 16 (by decide +kernel) (by decide +kernel), tb_1 1 rfl rfl, by decide +kernel, by decide +kernel, by decide +kernel⟩
theorem mw_X_lands : MWV y_X_lands b_X_lands 3 ((some .int)) 1 := ⟨tb_3 71 rfl rfl, tb_3 69 rfl rfl, tb_3 70 rfl rfl, tb_1 1 rfl rfl, by decide +kernel, by decide +kernel, by decide +kernel⟩
theorem mw_X_meets : MWV y_X_meets b_X_meets 4 ((some .int)) 2 := ⟨tb_3 76 rfl rfl, tb_3 74 rfl rfl, tb_3 75 rfl rfl, tb_1 1 rfl rfl, by decide +kernel, by decide +kernel, by decide +kernel⟩
theorem mw_X_quiet : MWV y_X_quiet b_X_quiet 2 ((some .int)) 0 := ⟨tb_3 80 rfl rfl, tb_3 78 rfl rfl, tb_3 79 rfl rfl, tb_1 1 rfl rfl, by decide +kernel, by decide +kernel, by decide +kernel⟩
theorem mw_X_cargo : MWV y_X_cargo b_X_cargo 2 ((some .int)) 1 := ⟨tb_3 85 rfl rfl, tb_3 83 rfl rfl, tb_3 84 rfl rfl, tb_1 1 rfl rfl, by decide +kernel, by decide +kernel, by decide +kernel⟩
theorem mw_X_stillFor : MWV y_X_stillFor b_X_stillFor 7 ((some .int)) 2 := ⟨tb_3 89 rfl rfl, tb_3 87 rfl rfl, tb_3 88 rfl rfl, tb_1 1 rfl rfl, by decide +kernel, by decide +kernel, by decide +kernel⟩
theorem mw_X_kindFor : MWV y_X_kindFor b_X_kindFor 7 ((some .int)) 2 := ⟨tb_3 93 rfl rfl, tb_3 91 rfl rfl, tb_3 92 rfl rfl, tb_1 1 rfl rfl, by decide +kernel, by decide +kernel, by decide +kernel⟩
theorem mw_X_loadFor : MWV y_X_loadFor b_X_loadFor 5 ((some .int)) 3 := ⟨tb_3 97 rfl rfl, tb_3 95 rfl rfl, tb_3 96 rfl rfl, tb_1 1 rfl rfl, by decide +kernel, by decide +kernel, by decide +kernel⟩
theorem mw_X_hushedFor : MWV y_X_hushedFor b_X_hushedFor 7 ((some .int)) 2 := ⟨tb_3 101 rfl rfl, tb_3 99 rfl rfl, tb_3 100 rfl rfl, tb_1 1 rfl rfl, by decide +kernel, by decide +kernel, by decide +kernel⟩
theorem mw_C_loudOnTheWay : MWV y_C_loudOnTheWay b_C_loudOnTheWay 6 ((some .int)) 0 := ⟨tb_3 105 rfl rfl, tb_3 103 rfl rfl, tb_3 104 rfl rfl, tb_1 2 rfl rfl, by decide +kernel, by decide +kernel, by decide +kernel⟩
theorem mw_JI_bitCount : MWS y_JI_bitCount b_JI_bitCount 1 ((some .int)) 1 := ⟨tb_3 111 rfl rfl, tb_3 110 rfl rfl, tb_1 15 rfl rfl, by decide +kernel, by decide +kernel, by decide +kernel⟩
theorem mw_X_holdFor : MWV y_X_holdFor b_X_holdFor 6 ((some .int)) 1 := ⟨tb_3 118 rfl rfl, tb_3 116 rfl rfl, tb_3 117 rfl rfl, tb_1 1 rfl rfl, by decide +kernel, by decide +kernel, by decide +kernel⟩
theorem mw_X_fits : MWV y_X_fits b_X_fits 8 ((some .int)) 3 := ⟨tb_3 122 rfl rfl, tb_3 120 rfl rfl, tb_3 121 rfl rfl, tb_1 1 rfl rfl, by decide +kernel, by decide +kernel, by decide +kernel⟩
theorem mw_X_sheetAt : MWV y_X_sheetAt b_X_sheetAt 2 ((some (.object "SilenceCanal$Sheet"))) 1 := ⟨tb_3 126 rfl rfl, tb_3 125 rfl rfl, tb_s (q := (y_X_sheetAt, 10)) 17 (by decide +kernel) (by decide +kernel), tb_1 1 rfl rfl, by decide +kernel, by decide +kernel, by decide +kernel⟩
theorem mw_X_loadFits : MWV y_X_loadFits b_X_loadFits 5 ((some .boolean)) 3 := ⟨tb_3 130 rfl rfl, tb_3 129 rfl rfl, tb_s (q := (y_X_loadFits, 10)) 18 (by decide +kernel) (by decide +kernel), tb_1 1 rfl rfl, by decide +kernel, by decide +kernel, by decide +kernel⟩
theorem mw_X_odds : MWV y_X_odds b_X_odds 9 ((some .long)) 3 := ⟨tb_3 134 rfl rfl, tb_3 132 rfl rfl, tb_3 133 rfl rfl, tb_1 1 rfl rfl, by decide +kernel, by decide +kernel, by decide +kernel⟩
theorem mw_X_ways : MWS y_X_ways b_X_ways 5 ((some .long)) 2 := ⟨tb_3 138 rfl rfl, tb_3 137 rfl rfl, tb_1 1 rfl rfl, by decide +kernel, by decide +kernel, by decide +kernel⟩
theorem mw_X_partOf : MWS y_X_partOf b_X_partOf 12 ((some .long)) 3 := ⟨tb_3 142 rfl rfl, tb_3 141 rfl rfl, tb_1 1 rfl rfl, by decide +kernel, by decide +kernel, by decide +kernel⟩
theorem mw_X_hope : MWV y_X_hope b_X_hope 3 ((some .long)) 2 := ⟨tb_3 146 rfl rfl, tb_3 144 rfl rfl, tb_3 145 rfl rfl, tb_1 1 rfl rfl, by decide +kernel, by decide +kernel, by decide +kernel⟩
theorem mw_X_prove : MWV y_X_prove b_X_prove 5 ((some .int)) 2 := ⟨tb_3 150 rfl rfl, tb_3 148 rfl rfl, tb_3 149 rfl rfl, tb_1 1 rfl rfl, by decide +kernel, by decide +kernel, by decide +kernel⟩
theorem mw_X_triedRowPart : MWV y_X_triedRowPart b_X_triedRowPart 3 ((some .int)) 2 := ⟨tb_3 154 rfl rfl, tb_3 153 rfl rfl, tb_s (q := (y_X_triedRowPart, 10)) 19 (by decide +kernel) (by decide +kernel), tb_1 1 rfl rfl, by decide +kernel, by decide +kernel, by decide +kernel⟩
theorem mw_X_row : MWV y_X_row b_X_row 3 ((some .int)) 2 := ⟨tb_3 158 rfl rfl, tb_3 156 rfl rfl, tb_3 157 rfl rfl, tb_1 1 rfl rfl, by decide +kernel, by decide +kernel, by decide +kernel⟩
theorem mw_X_isRowPart : MWV y_X_isRowPart b_X_isRowPart 3 ((some .boolean)) 2 := ⟨tb_3 162 rfl rfl, tb_3 161 rfl rfl, tb_s (q := (y_X_isRowPart, 10)) 20 (by decide +kernel) (by decide +kernel), tb_1 1 rfl rfl, by decide +kernel, by decide +kernel, by decide +kernel⟩
theorem mw_X_alterRow : MWV y_X_alterRow b_X_alterRow 5 ((some .int)) 3 := ⟨tb_3 166 rfl rfl, tb_3 164 rfl rfl, tb_3 165 rfl rfl, tb_1 1 rfl rfl, by decide +kernel, by decide +kernel, by decide +kernel⟩
theorem mw_X_judge : MWV y_X_judge b_X_judge 4 ((some .int)) 1 := ⟨tb_3 170 rfl rfl, tb_3 168 rfl rfl, tb_3 169 rfl rfl, tb_1 1 rfl rfl, by decide +kernel, by decide +kernel, by decide +kernel⟩
theorem mw_X_minds : MWV y_X_minds b_X_minds 7 ((some .int)) 4 := ⟨tb_3 174 rfl rfl, tb_3 172 rfl rfl, tb_3 173 rfl rfl, tb_1 1 rfl rfl, by decide +kernel, by decide +kernel, by decide +kernel⟩
theorem mw_X_sheet : MWV y_X_sheet b_X_sheet 5 ((some .int)) 3 := ⟨tb_3 179 rfl rfl, tb_3 177 rfl rfl, tb_3 178 rfl rfl, tb_1 1 rfl rfl, by decide +kernel, by decide +kernel, by decide +kernel⟩
theorem mw_S_clearTo : MWV y_S_clearTo b_S_clearTo 3 (none) 2 := ⟨tb_3 183 rfl rfl, tb_3 181 rfl rfl, tb_3 182 rfl rfl, tb_1 7 rfl rfl, by decide +kernel, by decide +kernel, by decide +kernel⟩
theorem mw_X_put : MWV y_X_put b_X_put 5 ((some .int)) 3 := ⟨tb_3 188 rfl rfl, tb_3 186 rfl rfl, tb_3 187 rfl rfl, tb_1 1 rfl rfl, by decide +kernel, by decide +kernel, by decide +kernel⟩
theorem mw_S_hasItem : MWV y_S_hasItem b_S_hasItem 2 ((some .boolean)) 1 := ⟨tb_3 192 rfl rfl, tb_3 190 rfl rfl, tb_3 191 rfl rfl, tb_1 7 rfl rfl, by decide +kernel, by decide +kernel, by decide +kernel⟩
theorem mw_S_narrowed : MWV y_S_narrowed b_S_narrowed 2 ((some .int)) 1 := ⟨tb_3 196 rfl rfl, tb_3 194 rfl rfl, tb_3 195 rfl rfl, tb_1 7 rfl rfl, by decide +kernel, by decide +kernel, by decide +kernel⟩
theorem mw_X_item : MWV y_X_item b_X_item 5 ((some .int)) 3 := ⟨tb_3 200 rfl rfl, tb_3 198 rfl rfl, tb_3 199 rfl rfl, tb_1 1 rfl rfl, by decide +kernel, by decide +kernel, by decide +kernel⟩
theorem mw_X_shelf : MWV y_X_shelf b_X_shelf 6 ((some .int)) 3 := ⟨tb_3 204 rfl rfl, tb_3 202 rfl rfl, tb_3 203 rfl rfl, tb_1 1 rfl rfl, by decide +kernel, by decide +kernel, by decide +kernel⟩
theorem mw_X_shelfAt : MWV y_X_shelfAt b_X_shelfAt 2 ((some (.object "SilenceCanal$Shelf"))) 1 := ⟨tb_3 208 rfl rfl, tb_3 207 rfl rfl, tb_s (q := (y_X_shelfAt, 10)) 21 (by decide +kernel) (by decide +kernel), tb_1 1 rfl rfl, by decide +kernel, by decide +kernel, by decide +kernel⟩
theorem mw_H_clear : MWV y_H_clear b_H_clear 1 (none) 0 := ⟨tb_3 212 rfl rfl, tb_3 210 rfl rfl, tb_3 211 rfl rfl, tb_1 8 rfl rfl, by decide +kernel, by decide +kernel, by decide +kernel⟩
theorem mw_H_holdBarge : MWV y_H_holdBarge b_H_holdBarge 2 (none) 1 := ⟨tb_3 216 rfl rfl, tb_3 214 rfl rfl, tb_3 215 rfl rfl, tb_1 8 rfl rfl, by decide +kernel, by decide +kernel, by decide +kernel⟩
theorem mw_H_holdRow : MWV y_H_holdRow b_H_holdRow 3 (none) 2 := ⟨tb_3 220 rfl rfl, tb_3 218 rfl rfl, tb_3 219 rfl rfl, tb_1 8 rfl rfl, by decide +kernel, by decide +kernel, by decide +kernel⟩
theorem mw_X_taken : MWV y_X_taken b_X_taken 6 ((some .int)) 2 := ⟨tb_3 224 rfl rfl, tb_3 222 rfl rfl, tb_3 223 rfl rfl, tb_1 1 rfl rfl, by decide +kernel, by decide +kernel, by decide +kernel⟩
theorem mw_X_bargeOn : MWV y_X_bargeOn b_X_bargeOn 2 ((some .int)) 1 := ⟨tb_3 228 rfl rfl, tb_3 227 rfl rfl, tb_s (q := (y_X_bargeOn, 10)) 22 (by decide +kernel) (by decide +kernel), tb_1 1 rfl rfl, by decide +kernel, by decide +kernel, by decide +kernel⟩
theorem mw_X_isUnder : MWS y_X_isUnder b_X_isUnder 4 ((some .boolean)) 2 := ⟨tb_3 231 rfl rfl, tb_3 230 rfl rfl, tb_1 1 rfl rfl, by decide +kernel, by decide +kernel, by decide +kernel⟩
theorem mw_X_act : MWV y_X_act b_X_act 5 ((some .int)) 3 := ⟨tb_3 237 rfl rfl, tb_3 235 rfl rfl, tb_3 236 rfl rfl, tb_1 1 rfl rfl, by decide +kernel, by decide +kernel, by decide +kernel⟩
theorem mw_A_perform : MWV y_A_perform b_A_perform 7 ((some .int)) 5 := ⟨tb_4 1 rfl rfl, tb_3 239 rfl rfl, tb_4 0 rfl rfl, tb_1 6 rfl rfl, by decide +kernel, by decide +kernel, by decide +kernel⟩
theorem mw_A_bodyOf : MWV y_A_bodyOf b_A_bodyOf 3 ((some .int)) 1 := ⟨tb_4 5 rfl rfl, tb_4 4 rfl rfl, tb_s (q := (y_A_bodyOf, 6)) 23 (by decide +kernel) (by decide +kernel), tb_1 6 rfl rfl, by decide +kernel, by decide +kernel, by decide +kernel⟩
theorem mw_A_run : MWV y_A_run b_A_run 5 ((some .int)) 3 := ⟨tb_4 11 rfl rfl, tb_4 10 rfl rfl, tb_s (q := (y_A_run, 6)) 24 (by decide +kernel) (by decide +kernel), tb_1 6 rfl rfl, by decide +kernel, by decide +kernel, by decide +kernel⟩
theorem mw_A_partedBy : MWV y_A_partedBy b_A_partedBy 3 ((some .int)) 2 := ⟨tb_4 15 rfl rfl, tb_4 14 rfl rfl, tb_s (q := (y_A_partedBy, 6)) 25 (by decide +kernel) (by decide +kernel), tb_1 6 rfl rfl, by decide +kernel, by decide +kernel, by decide +kernel⟩
theorem mw_X_trace : MWV y_X_trace b_X_trace 2 ((some .int)) 1 := ⟨tb_4 19 rfl rfl, tb_4 17 rfl rfl, tb_4 18 rfl rfl, tb_1 1 rfl rfl, by decide +kernel, by decide +kernel, by decide +kernel⟩
theorem mw_X_many : MWV y_X_many b_X_many 2 ((some .int)) 1 := ⟨tb_4 23 rfl rfl, tb_4 21 rfl rfl, tb_4 22 rfl rfl, tb_1 1 rfl rfl, by decide +kernel, by decide +kernel, by decide +kernel⟩
theorem mw_C_locksWithLoss : MWV y_C_locksWithLoss b_C_locksWithLoss 3 ((some .int)) 0 := ⟨tb_4 27 rfl rfl, tb_4 25 rfl rfl, tb_4 26 rfl rfl, tb_1 2 rfl rfl, by decide +kernel, by decide +kernel, by decide +kernel⟩
theorem mw_X_keep : MWV y_X_keep b_X_keep 1 ((some .int)) 0 := ⟨tb_4 31 rfl rfl, tb_4 29 rfl rfl, tb_4 30 rfl rfl, tb_1 1 rfl rfl, by decide +kernel, by decide +kernel, by decide +kernel⟩
theorem mw_X_again : MWV y_X_again b_X_again 1 ((some .int)) 0 := ⟨tb_4 35 rfl rfl, tb_4 33 rfl rfl, tb_4 34 rfl rfl, tb_1 1 rfl rfl, by decide +kernel, by decide +kernel, by decide +kernel⟩
theorem mw_M_first : MWV y_M_first b_M_first 2 (none) 0 := ⟨tb_4 45 rfl rfl, tb_4 44 rfl rfl, tb_s (q := (y_M_first, 25)) 26 (by decide +kernel) (by decide +kernel), tb_1 9 rfl rfl, by decide +kernel, by decide +kernel, by decide +kernel⟩
theorem mw_M_set : MWV y_M_set b_M_set 3 ((some .int)) 2 := ⟨tb_4 127 rfl rfl, tb_4 125 rfl rfl, tb_4 126 rfl rfl, tb_1 9 rfl rfl, by decide +kernel, by decide +kernel, by decide +kernel⟩
theorem mw_M_isLaw : MWS y_M_isLaw b_M_isLaw 2 ((some .boolean)) 2 := ⟨tb_4 130 rfl rfl, tb_4 129 rfl rfl, tb_1 9 rfl rfl, by decide +kernel, by decide +kernel, by decide +kernel⟩
theorem mw_M_in : MWS y_M_in b_M_in 6 ((some .boolean)) 3 := ⟨tb_4 134 rfl rfl, tb_4 133 rfl rfl, tb_1 9 rfl rfl, by decide +kernel, by decide +kernel, by decide +kernel⟩
theorem mw_M_becomes : MWV y_M_becomes b_M_becomes 4 ((some .int)) 2 := ⟨tb_4 140 rfl rfl, tb_4 139 rfl rfl, tb_s (q := (y_M_becomes, 25)) 27 (by decide +kernel) (by decide +kernel), tb_1 9 rfl rfl, by decide +kernel, by decide +kernel, by decide +kernel⟩
theorem mw_M_lawOf : MWV y_M_lawOf b_M_lawOf 2 ((some .int)) 1 := ⟨tb_4 144 rfl rfl, tb_4 142 rfl rfl, tb_4 143 rfl rfl, tb_1 9 rfl rfl, by decide +kernel, by decide +kernel, by decide +kernel⟩
theorem mw_M_barge : MWV y_M_barge b_M_barge 5 ((some .int)) 4 := ⟨tb_4 148 rfl rfl, tb_4 146 rfl rfl, tb_4 147 rfl rfl, tb_1 9 rfl rfl, by decide +kernel, by decide +kernel, by decide +kernel⟩
theorem mw_M_isLock : MWS y_M_isLock b_M_isLock 1 ((some .boolean)) 1 := ⟨tb_4 152 rfl rfl, tb_4 151 rfl rfl, tb_1 9 rfl rfl, by decide +kernel, by decide +kernel, by decide +kernel⟩
theorem mw_M_comes : MWV y_M_comes b_M_comes 7 ((some .int)) 5 := ⟨tb_4 156 rfl rfl, tb_4 155 rfl rfl, tb_s (q := (y_M_comes, 25)) 28 (by decide +kernel) (by decide +kernel), tb_1 9 rfl rfl, by decide +kernel, by decide +kernel, by decide +kernel⟩
theorem mw_M_puts : MWV y_M_puts b_M_puts 4 (none) 3 := ⟨tb_4 160 rfl rfl, tb_4 159 rfl rfl, tb_s (q := (y_M_puts, 25)) 29 (by decide +kernel) (by decide +kernel), tb_1 9 rfl rfl, by decide +kernel, by decide +kernel, by decide +kernel⟩
theorem mw_M_of : MWV y_M_of b_M_of 3 ((some .int)) 2 := ⟨tb_4 164 rfl rfl, tb_4 162 rfl rfl, tb_4 163 rfl rfl, tb_1 9 rfl rfl, by decide +kernel, by decide +kernel, by decide +kernel⟩
theorem mw_M_isBarge : MWV y_M_isBarge b_M_isBarge 2 ((some .boolean)) 1 := ⟨tb_4 168 rfl rfl, tb_4 167 rfl rfl, tb_s (q := (y_M_isBarge, 25)) 30 (by decide +kernel) (by decide +kernel), tb_1 9 rfl rfl, by decide +kernel, by decide +kernel, by decide +kernel⟩
theorem mw_M_hasLanded : MWV y_M_hasLanded b_M_hasLanded 2 ((some .boolean)) 1 := ⟨tb_4 172 rfl rfl, tb_4 171 rfl rfl, tb_s (q := (y_M_hasLanded, 25)) 31 (by decide +kernel) (by decide +kernel), tb_1 9 rfl rfl, by decide +kernel, by decide +kernel, by decide +kernel⟩
theorem mw_M_get : MWV y_M_get b_M_get 3 ((some .int)) 2 := ⟨tb_4 176 rfl rfl, tb_4 175 rfl rfl, tb_s (q := (y_M_get, 25)) 32 (by decide +kernel) (by decide +kernel), tb_1 9 rfl rfl, by decide +kernel, by decide +kernel, by decide +kernel⟩
theorem mw_M_does : MWV y_M_does b_M_does 3 ((some .int)) 2 := ⟨tb_4 180 rfl rfl, tb_4 178 rfl rfl, tb_4 179 rfl rfl, tb_1 9 rfl rfl, by decide +kernel, by decide +kernel, by decide +kernel⟩
theorem mw_M_pace : MWV y_M_pace b_M_pace 2 ((some .int)) 1 := ⟨tb_4 184 rfl rfl, tb_4 183 rfl rfl, tb_s (q := (y_M_pace, 25)) 33 (by decide +kernel) (by decide +kernel), tb_1 9 rfl rfl, by decide +kernel, by decide +kernel, by decide +kernel⟩
theorem mw_M_spills : MWV y_M_spills b_M_spills 3 ((some .int)) 1 := ⟨tb_4 188 rfl rfl, tb_4 187 rfl rfl, tb_s (q := (y_M_spills, 25)) 34 (by decide +kernel) (by decide +kernel), tb_1 9 rfl rfl, by decide +kernel, by decide +kernel, by decide +kernel⟩
theorem mw_M_mind : MWV y_M_mind b_M_mind 4 ((some .int)) 3 := ⟨tb_4 192 rfl rfl, tb_4 190 rfl rfl, tb_4 191 rfl rfl, tb_1 9 rfl rfl, by decide +kernel, by decide +kernel, by decide +kernel⟩
theorem mw_M_fill : MWV y_M_fill b_M_fill 3 ((some .int)) 2 := ⟨tb_4 196 rfl rfl, tb_4 194 rfl rfl, tb_4 195 rfl rfl, tb_1 9 rfl rfl, by decide +kernel, by decide +kernel, by decide +kernel⟩
theorem mw_M_bring : MWV y_M_bring b_M_bring 3 ((some .int)) 2 := ⟨tb_4 200 rfl rfl, tb_4 198 rfl rfl, tb_4 199 rfl rfl, tb_1 9 rfl rfl, by decide +kernel, by decide +kernel, by decide +kernel⟩
theorem mw_M_send : MWV y_M_send b_M_send 3 ((some .int)) 2 := ⟨tb_4 204 rfl rfl, tb_4 202 rfl rfl, tb_4 203 rfl rfl, tb_1 9 rfl rfl, by decide +kernel, by decide +kernel, by decide +kernel⟩
theorem mw_M_noise : MWV y_M_noise b_M_noise 3 ((some .int)) 2 := ⟨tb_4 208 rfl rfl, tb_4 206 rfl rfl, tb_4 207 rfl rfl, tb_1 9 rfl rfl, by decide +kernel, by decide +kernel, by decide +kernel⟩
theorem mw_M_lock : MWV y_M_lock b_M_lock 5 ((some .int)) 2 := ⟨tb_4 212 rfl rfl, tb_4 210 rfl rfl, tb_4 211 rfl rfl, tb_1 9 rfl rfl, by decide +kernel, by decide +kernel, by decide +kernel⟩
theorem mw_M_hours : MWV y_M_hours b_M_hours 2 ((some .int)) 1 := ⟨tb_4 217 rfl rfl, tb_4 215 rfl rfl, tb_4 216 rfl rfl, tb_1 9 rfl rfl, by decide +kernel, by decide +kernel, by decide +kernel⟩
theorem mw_M_hoursGo : MWV y_M_hoursGo b_M_hoursGo 3 (none) 1 := ⟨tb_4 222 rfl rfl, tb_4 221 rfl rfl, tb_s (q := (y_M_hoursGo, 25)) 35 (by decide +kernel) (by decide +kernel), tb_1 9 rfl rfl, by decide +kernel, by decide +kernel, by decide +kernel⟩
theorem mw_M_hourGoes : MWV y_M_hourGoes b_M_hourGoes 2 (none) 0 := ⟨tb_4 226 rfl rfl, tb_4 225 rfl rfl, tb_s (q := (y_M_hourGoes, 25)) 36 (by decide +kernel) (by decide +kernel), tb_1 9 rfl rfl, by decide +kernel, by decide +kernel, by decide +kernel⟩
theorem mw_M_goes : MWV y_M_goes b_M_goes 3 (none) 1 := ⟨tb_4 230 rfl rfl, tb_4 229 rfl rfl, tb_s (q := (y_M_goes, 25)) 37 (by decide +kernel) (by decide +kernel), tb_1 9 rfl rfl, by decide +kernel, by decide +kernel, by decide +kernel⟩
theorem mw_M_spilt : MWV y_M_spilt b_M_spilt 6 (none) 2 := ⟨tb_4 234 rfl rfl, tb_4 233 rfl rfl, tb_s (q := (y_M_spilt, 25)) 38 (by decide +kernel) (by decide +kernel), tb_1 9 rfl rfl, by decide +kernel, by decide +kernel, by decide +kernel⟩
theorem mw_M_held : MWS y_M_held b_M_held 3 ((some .int)) 3 := ⟨tb_4 237 rfl rfl, tb_4 236 rfl rfl, tb_1 9 rfl rfl, by decide +kernel, by decide +kernel, by decide +kernel⟩
theorem mw_M_loads : MWV y_M_loads b_M_loads 3 ((some .int)) 0 := ⟨tb_5 1 rfl rfl, tb_5 0 rfl rfl, tb_s (q := (y_M_loads, 25)) 39 (by decide +kernel) (by decide +kernel), tb_1 9 rfl rfl, by decide +kernel, by decide +kernel, by decide +kernel⟩
theorem mw_M_seed : MWV y_M_seed b_M_seed 2 ((some .int)) 1 := ⟨tb_5 5 rfl rfl, tb_5 3 rfl rfl, tb_5 4 rfl rfl, tb_1 9 rfl rfl, by decide +kernel, by decide +kernel, by decide +kernel⟩
theorem mw_M_hour : MWV y_M_hour b_M_hour 3 ((some .int)) 0 := ⟨tb_5 9 rfl rfl, tb_5 7 rfl rfl, tb_5 8 rfl rfl, tb_1 9 rfl rfl, by decide +kernel, by decide +kernel, by decide +kernel⟩
theorem mw_M_drawn : MWV y_M_drawn b_M_drawn 1 ((some .int)) 0 := ⟨tb_5 13 rfl rfl, tb_5 12 rfl rfl, tb_s (q := (y_M_drawn, 25)) 40 (by decide +kernel) (by decide +kernel), tb_1 9 rfl rfl, by decide +kernel, by decide +kernel, by decide +kernel⟩
theorem mw_M_spoilt : MWV y_M_spoilt b_M_spoilt 6 ((some .int)) 1 := ⟨tb_5 18 rfl rfl, tb_5 16 rfl rfl, tb_5 17 rfl rfl, tb_1 9 rfl rfl, by decide +kernel, by decide +kernel, by decide +kernel⟩
theorem mw_M_keepAside : MWV y_M_keepAside b_M_keepAside 2 (none) 0 := ⟨tb_5 23 rfl rfl, tb_5 22 rfl rfl, tb_s (q := (y_M_keepAside, 25)) 41 (by decide +kernel) (by decide +kernel), tb_1 9 rfl rfl, by decide +kernel, by decide +kernel, by decide +kernel⟩
theorem mw_M_cargoBehind : MWV y_M_cargoBehind b_M_cargoBehind 3 ((some .int)) 1 := ⟨tb_5 27 rfl rfl, tb_5 26 rfl rfl, tb_s (q := (y_M_cargoBehind, 25)) 42 (by decide +kernel) (by decide +kernel), tb_1 9 rfl rfl, by decide +kernel, by decide +kernel, by decide +kernel⟩
theorem mw_M_putBack : MWV y_M_putBack b_M_putBack 2 (none) 0 := ⟨tb_5 31 rfl rfl, tb_5 30 rfl rfl, tb_s (q := (y_M_putBack, 25)) 43 (by decide +kernel) (by decide +kernel), tb_1 9 rfl rfl, by decide +kernel, by decide +kernel, by decide +kernel⟩
theorem mw_M_state : MWV y_M_state b_M_state 2 ((some .int)) 1 := ⟨tb_5 36 rfl rfl, tb_5 34 rfl rfl, tb_5 35 rfl rfl, tb_1 9 rfl rfl, by decide +kernel, by decide +kernel, by decide +kernel⟩
theorem mw_M_lostAll : MWV y_M_lostAll b_M_lostAll 3 ((some .int)) 0 := ⟨tb_5 40 rfl rfl, tb_5 39 rfl rfl, tb_s (q := (y_M_lostAll, 25)) 44 (by decide +kernel) (by decide +kernel), tb_1 9 rfl rfl, by decide +kernel, by decide +kernel, by decide +kernel⟩
theorem mw_M_landed : MWV y_M_landed b_M_landed 3 ((some .int)) 0 := ⟨tb_5 44 rfl rfl, tb_5 43 rfl rfl, tb_s (q := (y_M_landed, 25)) 45 (by decide +kernel) (by decide +kernel), tb_1 9 rfl rfl, by decide +kernel, by decide +kernel, by decide +kernel⟩
theorem mw_M_places : MWV y_M_places b_M_places 3 ((some .int)) 0 := ⟨tb_5 48 rfl rfl, tb_5 47 rfl rfl, tb_s (q := (y_M_places, 25)) 46 (by decide +kernel) (by decide +kernel), tb_1 9 rfl rfl, by decide +kernel, by decide +kernel, by decide +kernel⟩
theorem mw_M_loudest : MWV y_M_loudest b_M_loudest 3 ((some .int)) 0 := ⟨tb_5 52 rfl rfl, tb_5 51 rfl rfl, tb_s (q := (y_M_loudest, 25)) 47 (by decide +kernel) (by decide +kernel), tb_1 9 rfl rfl, by decide +kernel, by decide +kernel, by decide +kernel⟩
theorem mw_M_freight : MWV y_M_freight b_M_freight 3 ((some .int)) 2 := ⟨tb_5 56 rfl rfl, tb_5 54 rfl rfl, tb_5 55 rfl rfl, tb_1 9 rfl rfl, by decide +kernel, by decide +kernel, by decide +kernel⟩
theorem mw_M_loadOf : MWS y_M_loadOf b_M_loadOf 1 ((some .int)) 1 := ⟨tb_5 59 rfl rfl, tb_5 58 rfl rfl, tb_1 9 rfl rfl, by decide +kernel, by decide +kernel, by decide +kernel⟩
theorem mw_M_behind : MWV y_M_behind b_M_behind 4 ((some .int)) 2 := ⟨tb_5 63 rfl rfl, tb_5 62 rfl rfl, tb_s (q := (y_M_behind, 25)) 48 (by decide +kernel) (by decide +kernel), tb_1 9 rfl rfl, by decide +kernel, by decide +kernel, by decide +kernel⟩
theorem mw_M_lands : MWV y_M_lands b_M_lands 4 ((some .int)) 1 := ⟨tb_5 67 rfl rfl, tb_5 65 rfl rfl, tb_5 66 rfl rfl, tb_1 9 rfl rfl, by decide +kernel, by decide +kernel, by decide +kernel⟩
theorem mw_M_meets : MWV y_M_meets b_M_meets 5 ((some .int)) 2 := ⟨tb_5 71 rfl rfl, tb_5 69 rfl rfl, tb_5 70 rfl rfl, tb_1 9 rfl rfl, by decide +kernel, by decide +kernel, by decide +kernel⟩
theorem mw_M_quiet : MWV y_M_quiet b_M_quiet 4 ((some .int)) 0 := ⟨tb_5 75 rfl rfl, tb_5 73 rfl rfl, tb_5 74 rfl rfl, tb_1 9 rfl rfl, by decide +kernel, by decide +kernel, by decide +kernel⟩
theorem mw_M_cargo : MWV y_M_cargo b_M_cargo 2 ((some .int)) 1 := ⟨tb_5 79 rfl rfl, tb_5 77 rfl rfl, tb_5 78 rfl rfl, tb_1 9 rfl rfl, by decide +kernel, by decide +kernel, by decide +kernel⟩
theorem mw_M_stillFor : MWV y_M_stillFor b_M_stillFor 7 ((some .int)) 2 := ⟨tb_5 83 rfl rfl, tb_5 81 rfl rfl, tb_5 82 rfl rfl, tb_1 9 rfl rfl, by decide +kernel, by decide +kernel, by decide +kernel⟩
theorem mw_M_isShort : MWS y_M_isShort b_M_isShort 1 ((some .boolean)) 1 := ⟨tb_5 86 rfl rfl, tb_5 85 rfl rfl, tb_1 9 rfl rfl, by decide +kernel, by decide +kernel, by decide +kernel⟩
theorem mw_M_kindFor : MWV y_M_kindFor b_M_kindFor 7 ((some .int)) 2 := ⟨tb_5 90 rfl rfl, tb_5 88 rfl rfl, tb_5 89 rfl rfl, tb_1 9 rfl rfl, by decide +kernel, by decide +kernel, by decide +kernel⟩
theorem mw_M_loadFor : MWV y_M_loadFor b_M_loadFor 5 ((some .int)) 3 := ⟨tb_5 94 rfl rfl, tb_5 92 rfl rfl, tb_5 93 rfl rfl, tb_1 9 rfl rfl, by decide +kernel, by decide +kernel, by decide +kernel⟩
theorem mw_M_hushedFor : MWV y_M_hushedFor b_M_hushedFor 6 ((some .int)) 2 := ⟨tb_5 98 rfl rfl, tb_5 96 rfl rfl, tb_5 97 rfl rfl, tb_1 9 rfl rfl, by decide +kernel, by decide +kernel, by decide +kernel⟩
theorem mw_M_bits : MWS y_M_bits b_M_bits 3 ((some .int)) 1 := ⟨tb_5 103 rfl rfl, tb_5 102 rfl rfl, tb_1 9 rfl rfl, by decide +kernel, by decide +kernel, by decide +kernel⟩
theorem mw_M_holdFor : MWV y_M_holdFor b_M_holdFor 6 ((some .int)) 1 := ⟨tb_5 107 rfl rfl, tb_5 105 rfl rfl, tb_5 106 rfl rfl, tb_1 9 rfl rfl, by decide +kernel, by decide +kernel, by decide +kernel⟩
theorem mw_M_fits : MWV y_M_fits b_M_fits 11 ((some .int)) 3 := ⟨tb_5 111 rfl rfl, tb_5 109 rfl rfl, tb_5 110 rfl rfl, tb_1 9 rfl rfl, by decide +kernel, by decide +kernel, by decide +kernel⟩
theorem mw_M_isSheet : MWS y_M_isSheet b_M_isSheet 1 ((some .boolean)) 1 := ⟨tb_5 114 rfl rfl, tb_5 113 rfl rfl, tb_1 9 rfl rfl, by decide +kernel, by decide +kernel, by decide +kernel⟩
theorem mw_M_odds : MWV y_M_odds b_M_odds 9 ((some .long)) 3 := ⟨tb_5 119 rfl rfl, tb_5 117 rfl rfl, tb_5 118 rfl rfl, tb_1 9 rfl rfl, by decide +kernel, by decide +kernel, by decide +kernel⟩
theorem mw_M_ways : MWS y_M_ways b_M_ways 5 ((some .long)) 2 := ⟨tb_5 124 rfl rfl, tb_5 123 rfl rfl, tb_1 9 rfl rfl, by decide +kernel, by decide +kernel, by decide +kernel⟩
theorem mw_M_partOf : MWS y_M_partOf b_M_partOf 5 ((some .long)) 3 := ⟨tb_5 127 rfl rfl, tb_5 126 rfl rfl, tb_1 9 rfl rfl, by decide +kernel, by decide +kernel, by decide +kernel⟩
theorem mw_M_common : MWS y_M_common b_M_common 10 ((some .long)) 2 := ⟨tb_5 130 rfl rfl, tb_5 129 rfl rfl, tb_1 9 rfl rfl, by decide +kernel, by decide +kernel, by decide +kernel⟩
theorem mw_M_hope : MWV y_M_hope b_M_hope 3 ((some .long)) 2 := ⟨tb_5 134 rfl rfl, tb_5 132 rfl rfl, tb_5 133 rfl rfl, tb_1 9 rfl rfl, by decide +kernel, by decide +kernel, by decide +kernel⟩
theorem mw_M_feed : MWV y_M_feed b_M_feed 5 ((some .int)) 2 := ⟨tb_5 138 rfl rfl, tb_5 136 rfl rfl, tb_5 137 rfl rfl, tb_1 9 rfl rfl, by decide +kernel, by decide +kernel, by decide +kernel⟩
theorem mw_M_canal : MWV y_M_canal b_M_canal 3 ((some .int)) 0 := ⟨tb_5 143 rfl rfl, tb_5 141 rfl rfl, tb_5 142 rfl rfl, tb_1 9 rfl rfl, by decide +kernel, by decide +kernel, by decide +kernel⟩
theorem mw_M_readsAll : MWV y_M_readsAll b_M_readsAll 5 ((some .boolean)) 1 := ⟨tb_5 147 rfl rfl, tb_5 146 rfl rfl, tb_s (q := (y_M_readsAll, 25)) 49 (by decide +kernel) (by decide +kernel), tb_1 9 rfl rfl, by decide +kernel, by decide +kernel, by decide +kernel⟩
theorem mw_M_next : MWV y_M_next b_M_next 1 (none) 0 := ⟨tb_5 151 rfl rfl, tb_5 150 rfl rfl, tb_s (q := (y_M_next, 25)) 50 (by decide +kernel) (by decide +kernel), tb_1 9 rfl rfl, by decide +kernel, by decide +kernel, by decide +kernel⟩
theorem mw_M_isRow : MWV y_M_isRow b_M_isRow 3 ((some .boolean)) 2 := ⟨tb_5 155 rfl rfl, tb_5 154 rfl rfl, tb_s (q := (y_M_isRow, 25)) 51 (by decide +kernel) (by decide +kernel), tb_1 9 rfl rfl, by decide +kernel, by decide +kernel, by decide +kernel⟩
theorem mw_M_wordThere : MWV y_M_wordThere b_M_wordThere 4 ((some .int)) 0 := ⟨tb_5 159 rfl rfl, tb_5 158 rfl rfl, tb_s (q := (y_M_wordThere, 25)) 52 (by decide +kernel) (by decide +kernel), tb_1 9 rfl rfl, by decide +kernel, by decide +kernel, by decide +kernel⟩
theorem mw_M_readsBarge : MWV y_M_readsBarge b_M_readsBarge 8 ((some .boolean)) 3 := ⟨tb_5 163 rfl rfl, tb_5 162 rfl rfl, tb_s (q := (y_M_readsBarge, 25)) 53 (by decide +kernel) (by decide +kernel), tb_1 9 rfl rfl, by decide +kernel, by decide +kernel, by decide +kernel⟩
theorem mw_M_readsWord : MWV y_M_readsWord b_M_readsWord 2 ((some .boolean)) 1 := ⟨tb_5 167 rfl rfl, tb_5 166 rfl rfl, tb_s (q := (y_M_readsWord, 25)) 54 (by decide +kernel) (by decide +kernel), tb_1 9 rfl rfl, by decide +kernel, by decide +kernel, by decide +kernel⟩
theorem mw_M_isWord : MWV y_M_isWord b_M_isWord 2 ((some .boolean)) 1 := ⟨tb_5 171 rfl rfl, tb_5 170 rfl rfl, tb_s (q := (y_M_isWord, 25)) 55 (by decide +kernel) (by decide +kernel), tb_1 9 rfl rfl, by decide +kernel, by decide +kernel, by decide +kernel⟩
theorem mw_M_reads : MWV y_M_reads b_M_reads 2 ((some .boolean)) 1 := ⟨tb_5 175 rfl rfl, tb_5 174 rfl rfl, tb_s (q := (y_M_reads, 25)) 56 (by decide +kernel) (by decide +kernel), tb_1 9 rfl rfl, by decide +kernel, by decide +kernel, by decide +kernel⟩
theorem mw_M_readsNoise : MWV y_M_readsNoise b_M_readsNoise 4 ((some .boolean)) 1 := ⟨tb_5 179 rfl rfl, tb_5 178 rfl rfl, tb_s (q := (y_M_readsNoise, 25)) 57 (by decide +kernel) (by decide +kernel), tb_1 9 rfl rfl, by decide +kernel, by decide +kernel, by decide +kernel⟩
theorem mw_M_readsLaw : MWV y_M_readsLaw b_M_readsLaw 4 ((some .boolean)) 2 := ⟨tb_5 183 rfl rfl, tb_5 182 rfl rfl, tb_s (q := (y_M_readsLaw, 25)) 58 (by decide +kernel) (by decide +kernel), tb_1 9 rfl rfl, by decide +kernel, by decide +kernel, by decide +kernel⟩
theorem mw_M_prove : MWV y_M_prove b_M_prove 5 ((some .int)) 2 := ⟨tb_5 187 rfl rfl, tb_5 185 rfl rfl, tb_5 186 rfl rfl, tb_1 9 rfl rfl, by decide +kernel, by decide +kernel, by decide +kernel⟩
theorem mw_M_mustBe : MWV y_M_mustBe b_M_mustBe 3 ((some .int)) 2 := ⟨tb_5 192 rfl rfl, tb_5 191 rfl rfl, tb_s (q := (y_M_mustBe, 25)) 59 (by decide +kernel) (by decide +kernel), tb_1 9 rfl rfl, by decide +kernel, by decide +kernel, by decide +kernel⟩
theorem mw_M_row : MWV y_M_row b_M_row 3 ((some .int)) 2 := ⟨tb_5 196 rfl rfl, tb_5 194 rfl rfl, tb_5 195 rfl rfl, tb_1 9 rfl rfl, by decide +kernel, by decide +kernel, by decide +kernel⟩
theorem mw_M_alterRow : MWV y_M_alterRow b_M_alterRow 5 ((some .int)) 3 := ⟨tb_5 200 rfl rfl, tb_5 198 rfl rfl, tb_5 199 rfl rfl, tb_1 9 rfl rfl, by decide +kernel, by decide +kernel, by decide +kernel⟩
theorem mw_M_judge : MWV y_M_judge b_M_judge 5 ((some .int)) 1 := ⟨tb_5 204 rfl rfl, tb_5 202 rfl rfl, tb_5 203 rfl rfl, tb_1 9 rfl rfl, by decide +kernel, by decide +kernel, by decide +kernel⟩
theorem mw_M_minds : MWV y_M_minds b_M_minds 6 ((some .int)) 4 := ⟨tb_5 208 rfl rfl, tb_5 206 rfl rfl, tb_5 207 rfl rfl, tb_1 9 rfl rfl, by decide +kernel, by decide +kernel, by decide +kernel⟩
theorem mw_M_sheet : MWV y_M_sheet b_M_sheet 5 ((some .int)) 3 := ⟨tb_5 212 rfl rfl, tb_5 210 rfl rfl, tb_5 211 rfl rfl, tb_1 9 rfl rfl, by decide +kernel, by decide +kernel, by decide +kernel⟩
theorem mw_M_put : MWV y_M_put b_M_put 4 ((some .int)) 3 := ⟨tb_5 216 rfl rfl, tb_5 214 rfl rfl, tb_5 215 rfl rfl, tb_1 9 rfl rfl, by decide +kernel, by decide +kernel, by decide +kernel⟩
theorem mw_M_item : MWV y_M_item b_M_item 4 ((some .int)) 3 := ⟨tb_5 220 rfl rfl, tb_5 218 rfl rfl, tb_5 219 rfl rfl, tb_1 9 rfl rfl, by decide +kernel, by decide +kernel, by decide +kernel⟩
theorem mw_M_shelf : MWV y_M_shelf b_M_shelf 6 ((some .int)) 3 := ⟨tb_5 224 rfl rfl, tb_5 222 rfl rfl, tb_5 223 rfl rfl, tb_1 9 rfl rfl, by decide +kernel, by decide +kernel, by decide +kernel⟩
theorem mw_M_taken : MWV y_M_taken b_M_taken 4 ((some .int)) 2 := ⟨tb_5 228 rfl rfl, tb_5 226 rfl rfl, tb_5 227 rfl rfl, tb_1 9 rfl rfl, by decide +kernel, by decide +kernel, by decide +kernel⟩
theorem mw_M_holdsNothing : MWV y_M_holdsNothing b_M_holdsNothing 2 ((some .boolean)) 1 := ⟨tb_5 233 rfl rfl, tb_5 232 rfl rfl, tb_s (q := (y_M_holdsNothing, 25)) 60 (by decide +kernel) (by decide +kernel), tb_1 9 rfl rfl, by decide +kernel, by decide +kernel, by decide +kernel⟩
theorem mw_M_above : MWS y_M_above b_M_above 1 ((some .int)) 1 := ⟨tb_5 236 rfl rfl, tb_5 235 rfl rfl, tb_1 9 rfl rfl, by decide +kernel, by decide +kernel, by decide +kernel⟩
theorem mw_M_act : MWV y_M_act b_M_act 6 ((some .int)) 3 := ⟨tb_6 0 rfl rfl, tb_5 238 rfl rfl, tb_5 239 rfl rfl, tb_1 9 rfl rfl, by decide +kernel, by decide +kernel, by decide +kernel⟩
theorem mw_M_floatsBy : MWV y_M_floatsBy b_M_floatsBy 3 ((some .int)) 2 := ⟨tb_6 4 rfl rfl, tb_6 3 rfl rfl, tb_s (q := (y_M_floatsBy, 25)) 61 (by decide +kernel) (by decide +kernel), tb_1 9 rfl rfl, by decide +kernel, by decide +kernel, by decide +kernel⟩
theorem mw_M_ran : MWV y_M_ran b_M_ran 2 (none) 1 := ⟨tb_6 8 rfl rfl, tb_6 7 rfl rfl, tb_s (q := (y_M_ran, 25)) 62 (by decide +kernel) (by decide +kernel), tb_1 9 rfl rfl, by decide +kernel, by decide +kernel, by decide +kernel⟩
theorem mw_M_slopsBy : MWV y_M_slopsBy b_M_slopsBy 4 ((some .int)) 2 := ⟨tb_6 12 rfl rfl, tb_6 11 rfl rfl, tb_s (q := (y_M_slopsBy, 25)) 63 (by decide +kernel) (by decide +kernel), tb_1 9 rfl rfl, by decide +kernel, by decide +kernel, by decide +kernel⟩
theorem mw_M_partsBy : MWV y_M_partsBy b_M_partsBy 4 ((some .int)) 2 := ⟨tb_6 16 rfl rfl, tb_6 15 rfl rfl, tb_s (q := (y_M_partsBy, 25)) 64 (by decide +kernel) (by decide +kernel), tb_1 9 rfl rfl, by decide +kernel, by decide +kernel, by decide +kernel⟩
theorem mw_M_landsBy : MWV y_M_landsBy b_M_landsBy 4 ((some .int)) 2 := ⟨tb_6 20 rfl rfl, tb_6 19 rfl rfl, tb_s (q := (y_M_landsBy, 25)) 65 (by decide +kernel) (by decide +kernel), tb_1 9 rfl rfl, by decide +kernel, by decide +kernel, by decide +kernel⟩
theorem mw_M_trace : MWV y_M_trace b_M_trace 2 ((some .int)) 1 := ⟨tb_6 24 rfl rfl, tb_6 22 rfl rfl, tb_6 23 rfl rfl, tb_1 9 rfl rfl, by decide +kernel, by decide +kernel, by decide +kernel⟩
theorem mw_M_many : MWV y_M_many b_M_many 2 ((some .int)) 1 := ⟨tb_6 28 rfl rfl, tb_6 26 rfl rfl, tb_6 27 rfl rfl, tb_1 9 rfl rfl, by decide +kernel, by decide +kernel, by decide +kernel⟩
theorem mw_M_spoiltLocks : MWV y_M_spoiltLocks b_M_spoiltLocks 3 ((some .int)) 0 := ⟨tb_6 32 rfl rfl, tb_6 31 rfl rfl, tb_s (q := (y_M_spoiltLocks, 25)) 66 (by decide +kernel) (by decide +kernel), tb_1 9 rfl rfl, by decide +kernel, by decide +kernel, by decide +kernel⟩
theorem mw_M_keep : MWV y_M_keep b_M_keep 2 ((some .int)) 0 := ⟨tb_6 36 rfl rfl, tb_6 34 rfl rfl, tb_6 35 rfl rfl, tb_1 9 rfl rfl, by decide +kernel, by decide +kernel, by decide +kernel⟩
theorem mw_M_again : MWV y_M_again b_M_again 2 ((some .int)) 0 := ⟨tb_6 40 rfl rfl, tb_6 38 rfl rfl, tb_6 39 rfl rfl, tb_1 9 rfl rfl, by decide +kernel, by decide +kernel, by decide +kernel⟩
end
section
theorem d_X_isLock_0 : decode b_X_isLock 0 = .ok (.iload_n 0, 1) := by decide +kernel
theorem d_X_isLock_1 : decode b_X_isLock 1 = .ok (.ifCond .lt 13, 3) := by decide +kernel
theorem d_X_isLock_4 : decode b_X_isLock 4 = .ok (.iload_n 0, 1) := by decide +kernel
theorem d_X_isLock_5 : decode b_X_isLock 5 = .ok (.bipush 10, 2) := by decide +kernel
theorem d_X_isLock_7 : decode b_X_isLock 7 = .ok (.if_icmp .ge 7, 3) := by decide +kernel
theorem d_X_isLock_10 : decode b_X_isLock 10 = .ok (.iconst 1, 1) := by decide +kernel
theorem d_X_isLock_11 : decode b_X_isLock 11 = .ok (.goto 4, 3) := by decide +kernel
theorem d_X_isLock_14 : decode b_X_isLock 14 = .ok (.iconst 0, 1) := by decide +kernel
theorem d_X_isLock_15 : decode b_X_isLock 15 = .ok (.ireturn, 1) := by decide +kernel
theorem d_X_heldLoad_0 : decode b_X_heldLoad 0 = .ok (.iload_n 0, 1) := by decide +kernel
theorem d_X_heldLoad_1 : decode b_X_heldLoad 1 = .ok (.ifCond .ge 7, 3) := by decide +kernel
theorem d_X_heldLoad_4 : decode b_X_heldLoad 4 = .ok (.iconst 0, 1) := by decide +kernel
theorem d_X_heldLoad_5 : decode b_X_heldLoad 5 = .ok (.goto 15, 3) := by decide +kernel
theorem d_X_heldLoad_8 : decode b_X_heldLoad 8 = .ok (.iload_n 0, 1) := by decide +kernel
theorem d_X_heldLoad_9 : decode b_X_heldLoad 9 = .ok (.bipush 99, 2) := by decide +kernel
theorem d_X_heldLoad_11 : decode b_X_heldLoad 11 = .ok (.if_icmp .le 8, 3) := by decide +kernel
theorem d_X_heldLoad_14 : decode b_X_heldLoad 14 = .ok (.bipush 99, 2) := by decide +kernel
theorem d_X_heldLoad_16 : decode b_X_heldLoad 16 = .ok (.goto 4, 3) := by decide +kernel
theorem d_X_heldLoad_19 : decode b_X_heldLoad 19 = .ok (.iload_n 0, 1) := by decide +kernel
theorem d_X_heldLoad_20 : decode b_X_heldLoad 20 = .ok (.ireturn, 1) := by decide +kernel
theorem d_JA_fill_0 : decode b_JA_fill 0 = .ok (.iconst 0, 1) := by decide +kernel
theorem d_JA_fill_1 : decode b_JA_fill 1 = .ok (.istore_n 2, 1) := by decide +kernel
theorem d_JA_fill_2 : decode b_JA_fill 2 = .ok (.aload_n 0, 1) := by decide +kernel
theorem d_JA_fill_3 : decode b_JA_fill 3 = .ok (.arraylength, 1) := by decide +kernel
theorem d_JA_fill_4 : decode b_JA_fill 4 = .ok (.istore_n 3, 1) := by decide +kernel
theorem d_JA_fill_5 : decode b_JA_fill 5 = .ok (.iload_n 2, 1) := by decide +kernel
theorem d_JA_fill_6 : decode b_JA_fill 6 = .ok (.iload_n 3, 1) := by decide +kernel
theorem d_JA_fill_7 : decode b_JA_fill 7 = .ok (.if_icmp .ge 13, 3) := by decide +kernel
theorem d_JA_fill_10 : decode b_JA_fill 10 = .ok (.aload_n 0, 1) := by decide +kernel
theorem d_JA_fill_11 : decode b_JA_fill 11 = .ok (.iload_n 2, 1) := by decide +kernel
theorem d_JA_fill_12 : decode b_JA_fill 12 = .ok (.iload_n 1, 1) := by decide +kernel
theorem d_JA_fill_13 : decode b_JA_fill 13 = .ok (.iastore, 1) := by decide +kernel
theorem d_JA_fill_14 : decode b_JA_fill 14 = .ok (.iinc 2 1, 3) := by decide +kernel
theorem d_JA_fill_17 : decode b_JA_fill 17 = .ok (.goto (-12), 3) := by decide +kernel
theorem d_JA_fill_20 : decode b_JA_fill 20 = .ok (.return_, 1) := by decide +kernel
theorem d_C_clearAllButDraws_0 : decode b_C_clearAllButDraws 0 = .ok (.getstatic 49, 3) := by decide +kernel
theorem d_C_clearAllButDraws_3 : decode b_C_clearAllButDraws 3 = .ok (.iconst 0, 1) := by decide +kernel
theorem d_C_clearAllButDraws_4 : decode b_C_clearAllButDraws 4 = .ok (.aload_n 0, 1) := by decide +kernel
theorem d_C_clearAllButDraws_5 : decode b_C_clearAllButDraws 5 = .ok (.getfield 9, 3) := by decide +kernel
theorem d_C_clearAllButDraws_8 : decode b_C_clearAllButDraws 8 = .ok (.iconst 0, 1) := by decide +kernel
theorem d_C_clearAllButDraws_9 : decode b_C_clearAllButDraws 9 = .ok (.iconst 4, 1) := by decide +kernel
theorem d_C_clearAllButDraws_10 : decode b_C_clearAllButDraws 10 = .ok (.invokestatic 52, 3) := by decide +kernel
theorem d_C_clearAllButDraws_13 : decode b_C_clearAllButDraws 13 = .ok (.aload_n 0, 1) := by decide +kernel
theorem d_C_clearAllButDraws_14 : decode b_C_clearAllButDraws 14 = .ok (.getfield 15, 3) := by decide +kernel
theorem d_C_clearAllButDraws_17 : decode b_C_clearAllButDraws 17 = .ok (.iconst 2, 1) := by decide +kernel
theorem d_C_clearAllButDraws_18 : decode b_C_clearAllButDraws 18 = .ok (.invokestatic 58, 3) := by decide +kernel
theorem d_C_clearAllButDraws_21 : decode b_C_clearAllButDraws 21 = .ok (.aload_n 0, 1) := by decide +kernel
theorem d_C_clearAllButDraws_22 : decode b_C_clearAllButDraws 22 = .ok (.getfield 18, 3) := by decide +kernel
theorem d_C_clearAllButDraws_25 : decode b_C_clearAllButDraws 25 = .ok (.iconst 0, 1) := by decide +kernel
theorem d_C_clearAllButDraws_26 : decode b_C_clearAllButDraws 26 = .ok (.invokestatic 58, 3) := by decide +kernel
theorem d_C_clearAllButDraws_29 : decode b_C_clearAllButDraws 29 = .ok (.aload_n 0, 1) := by decide +kernel
theorem d_C_clearAllButDraws_30 : decode b_C_clearAllButDraws 30 = .ok (.iconst 0, 1) := by decide +kernel
theorem d_C_clearAllButDraws_31 : decode b_C_clearAllButDraws 31 = .ok (.putfield 36, 3) := by decide +kernel
theorem d_C_clearAllButDraws_34 : decode b_C_clearAllButDraws 34 = .ok (.aload_n 0, 1) := by decide +kernel
theorem d_C_clearAllButDraws_35 : decode b_C_clearAllButDraws 35 = .ok (.iconst 0, 1) := by decide +kernel
theorem d_C_clearAllButDraws_36 : decode b_C_clearAllButDraws 36 = .ok (.putfield 40, 3) := by decide +kernel
theorem d_C_clearAllButDraws_39 : decode b_C_clearAllButDraws 39 = .ok (.return_, 1) := by decide +kernel
theorem d_C_copyFrom_0 : decode b_C_copyFrom 0 = .ok (.aload_n 1, 1) := by decide +kernel
theorem d_C_copyFrom_1 : decode b_C_copyFrom 1 = .ok (.getfield 9, 3) := by decide +kernel
theorem d_C_copyFrom_4 : decode b_C_copyFrom 4 = .ok (.iconst 0, 1) := by decide +kernel
theorem d_C_copyFrom_5 : decode b_C_copyFrom 5 = .ok (.aload_n 0, 1) := by decide +kernel
theorem d_C_copyFrom_6 : decode b_C_copyFrom 6 = .ok (.getfield 9, 3) := by decide +kernel
theorem d_C_copyFrom_9 : decode b_C_copyFrom 9 = .ok (.iconst 0, 1) := by decide +kernel
theorem d_C_copyFrom_10 : decode b_C_copyFrom 10 = .ok (.iconst 4, 1) := by decide +kernel
theorem d_C_copyFrom_11 : decode b_C_copyFrom 11 = .ok (.invokestatic 52, 3) := by decide +kernel
theorem d_C_copyFrom_14 : decode b_C_copyFrom 14 = .ok (.aload_n 1, 1) := by decide +kernel
theorem d_C_copyFrom_15 : decode b_C_copyFrom 15 = .ok (.getfield 15, 3) := by decide +kernel
theorem d_C_copyFrom_18 : decode b_C_copyFrom 18 = .ok (.iconst 0, 1) := by decide +kernel
theorem d_C_copyFrom_19 : decode b_C_copyFrom 19 = .ok (.aload_n 0, 1) := by decide +kernel
theorem d_C_copyFrom_20 : decode b_C_copyFrom 20 = .ok (.getfield 15, 3) := by decide +kernel
theorem d_C_copyFrom_23 : decode b_C_copyFrom 23 = .ok (.iconst 0, 1) := by decide +kernel
theorem d_C_copyFrom_24 : decode b_C_copyFrom 24 = .ok (.bipush 10, 2) := by decide +kernel
theorem d_C_copyFrom_26 : decode b_C_copyFrom 26 = .ok (.invokestatic 52, 3) := by decide +kernel
theorem d_C_copyFrom_29 : decode b_C_copyFrom 29 = .ok (.aload_n 1, 1) := by decide +kernel
theorem d_C_copyFrom_30 : decode b_C_copyFrom 30 = .ok (.getfield 18, 3) := by decide +kernel
theorem d_C_copyFrom_33 : decode b_C_copyFrom 33 = .ok (.iconst 0, 1) := by decide +kernel
theorem d_C_copyFrom_34 : decode b_C_copyFrom 34 = .ok (.aload_n 0, 1) := by decide +kernel
theorem d_C_copyFrom_35 : decode b_C_copyFrom 35 = .ok (.getfield 18, 3) := by decide +kernel
theorem d_C_copyFrom_38 : decode b_C_copyFrom 38 = .ok (.iconst 0, 1) := by decide +kernel
theorem d_C_copyFrom_39 : decode b_C_copyFrom 39 = .ok (.bipush 10, 2) := by decide +kernel
theorem d_C_copyFrom_41 : decode b_C_copyFrom 41 = .ok (.invokestatic 52, 3) := by decide +kernel
theorem d_C_copyFrom_44 : decode b_C_copyFrom 44 = .ok (.aload_n 1, 1) := by decide +kernel
theorem d_C_copyFrom_45 : decode b_C_copyFrom 45 = .ok (.getfield 21, 3) := by decide +kernel
theorem d_C_copyFrom_48 : decode b_C_copyFrom 48 = .ok (.iconst 0, 1) := by decide +kernel
theorem d_C_copyFrom_49 : decode b_C_copyFrom 49 = .ok (.aload_n 0, 1) := by decide +kernel
theorem d_C_copyFrom_50 : decode b_C_copyFrom 50 = .ok (.getfield 21, 3) := by decide +kernel
theorem d_C_copyFrom_53 : decode b_C_copyFrom 53 = .ok (.iconst 0, 1) := by decide +kernel
theorem d_C_copyFrom_54 : decode b_C_copyFrom 54 = .ok (.bipush 8, 2) := by decide +kernel
theorem d_C_copyFrom_56 : decode b_C_copyFrom 56 = .ok (.invokestatic 52, 3) := by decide +kernel
theorem d_C_copyFrom_59 : decode b_C_copyFrom 59 = .ok (.aload_n 1, 1) := by decide +kernel
theorem d_C_copyFrom_60 : decode b_C_copyFrom 60 = .ok (.getfield 24, 3) := by decide +kernel
theorem d_C_copyFrom_63 : decode b_C_copyFrom 63 = .ok (.iconst 0, 1) := by decide +kernel
theorem d_C_copyFrom_64 : decode b_C_copyFrom 64 = .ok (.aload_n 0, 1) := by decide +kernel
theorem d_C_copyFrom_65 : decode b_C_copyFrom 65 = .ok (.getfield 24, 3) := by decide +kernel
theorem d_C_copyFrom_68 : decode b_C_copyFrom 68 = .ok (.iconst 0, 1) := by decide +kernel
theorem d_C_copyFrom_69 : decode b_C_copyFrom 69 = .ok (.bipush 8, 2) := by decide +kernel
theorem d_C_copyFrom_71 : decode b_C_copyFrom 71 = .ok (.invokestatic 52, 3) := by decide +kernel
theorem d_C_copyFrom_74 : decode b_C_copyFrom 74 = .ok (.aload_n 1, 1) := by decide +kernel
theorem d_C_copyFrom_75 : decode b_C_copyFrom 75 = .ok (.getfield 27, 3) := by decide +kernel
theorem d_C_copyFrom_78 : decode b_C_copyFrom 78 = .ok (.iconst 0, 1) := by decide +kernel
theorem d_C_copyFrom_79 : decode b_C_copyFrom 79 = .ok (.aload_n 0, 1) := by decide +kernel
theorem d_C_copyFrom_80 : decode b_C_copyFrom 80 = .ok (.getfield 27, 3) := by decide +kernel
theorem d_C_copyFrom_83 : decode b_C_copyFrom 83 = .ok (.iconst 0, 1) := by decide +kernel
theorem d_C_copyFrom_84 : decode b_C_copyFrom 84 = .ok (.bipush 8, 2) := by decide +kernel
theorem d_C_copyFrom_86 : decode b_C_copyFrom 86 = .ok (.invokestatic 52, 3) := by decide +kernel
theorem d_C_copyFrom_89 : decode b_C_copyFrom 89 = .ok (.aload_n 1, 1) := by decide +kernel
theorem d_C_copyFrom_90 : decode b_C_copyFrom 90 = .ok (.getfield 30, 3) := by decide +kernel
theorem d_C_copyFrom_93 : decode b_C_copyFrom 93 = .ok (.iconst 0, 1) := by decide +kernel
theorem d_C_copyFrom_94 : decode b_C_copyFrom 94 = .ok (.aload_n 0, 1) := by decide +kernel
theorem d_C_copyFrom_95 : decode b_C_copyFrom 95 = .ok (.getfield 30, 3) := by decide +kernel
theorem d_C_copyFrom_98 : decode b_C_copyFrom 98 = .ok (.iconst 0, 1) := by decide +kernel
theorem d_C_copyFrom_99 : decode b_C_copyFrom 99 = .ok (.bipush 8, 2) := by decide +kernel
theorem d_C_copyFrom_101 : decode b_C_copyFrom 101 = .ok (.invokestatic 52, 3) := by decide +kernel
theorem d_C_copyFrom_104 : decode b_C_copyFrom 104 = .ok (.aload_n 1, 1) := by decide +kernel
theorem d_C_copyFrom_105 : decode b_C_copyFrom 105 = .ok (.getfield 33, 3) := by decide +kernel
theorem d_C_copyFrom_108 : decode b_C_copyFrom 108 = .ok (.iconst 0, 1) := by decide +kernel
theorem d_C_copyFrom_109 : decode b_C_copyFrom 109 = .ok (.aload_n 0, 1) := by decide +kernel
theorem d_C_copyFrom_110 : decode b_C_copyFrom 110 = .ok (.getfield 33, 3) := by decide +kernel
theorem d_C_copyFrom_113 : decode b_C_copyFrom 113 = .ok (.iconst 0, 1) := by decide +kernel
theorem d_C_copyFrom_114 : decode b_C_copyFrom 114 = .ok (.bipush 8, 2) := by decide +kernel
theorem d_C_copyFrom_116 : decode b_C_copyFrom 116 = .ok (.invokestatic 52, 3) := by decide +kernel
theorem d_C_copyFrom_119 : decode b_C_copyFrom 119 = .ok (.aload_n 0, 1) := by decide +kernel
theorem d_C_copyFrom_120 : decode b_C_copyFrom 120 = .ok (.aload_n 1, 1) := by decide +kernel
theorem d_C_copyFrom_121 : decode b_C_copyFrom 121 = .ok (.getfield 36, 3) := by decide +kernel
theorem d_C_copyFrom_124 : decode b_C_copyFrom 124 = .ok (.putfield 36, 3) := by decide +kernel
theorem d_C_copyFrom_127 : decode b_C_copyFrom 127 = .ok (.aload_n 0, 1) := by decide +kernel
theorem d_C_copyFrom_128 : decode b_C_copyFrom 128 = .ok (.aload_n 1, 1) := by decide +kernel
theorem d_C_copyFrom_129 : decode b_C_copyFrom 129 = .ok (.getfield 40, 3) := by decide +kernel
theorem d_C_copyFrom_132 : decode b_C_copyFrom 132 = .ok (.putfield 40, 3) := by decide +kernel
theorem d_C_copyFrom_135 : decode b_C_copyFrom 135 = .ok (.aload_n 0, 1) := by decide +kernel
theorem d_C_copyFrom_136 : decode b_C_copyFrom 136 = .ok (.aload_n 1, 1) := by decide +kernel
theorem d_C_copyFrom_137 : decode b_C_copyFrom 137 = .ok (.getfield 43, 3) := by decide +kernel
theorem d_C_copyFrom_140 : decode b_C_copyFrom 140 = .ok (.putfield 43, 3) := by decide +kernel
theorem d_C_copyFrom_143 : decode b_C_copyFrom 143 = .ok (.aload_n 0, 1) := by decide +kernel
theorem d_C_copyFrom_144 : decode b_C_copyFrom 144 = .ok (.iconst (-1), 1) := by decide +kernel
theorem d_C_copyFrom_145 : decode b_C_copyFrom 145 = .ok (.putfield 46, 3) := by decide +kernel
theorem d_C_copyFrom_148 : decode b_C_copyFrom 148 = .ok (.return_, 1) := by decide +kernel
theorem d_C_add_0 : decode b_C_add 0 = .ok (.aload_n 0, 1) := by decide +kernel
theorem d_C_add_1 : decode b_C_add 1 = .ok (.getfield 36, 3) := by decide +kernel
theorem d_C_add_4 : decode b_C_add 4 = .ok (.ifCond .lt 12, 3) := by decide +kernel
theorem d_C_add_7 : decode b_C_add 7 = .ok (.aload_n 0, 1) := by decide +kernel
theorem d_C_add_8 : decode b_C_add 8 = .ok (.getfield 36, 3) := by decide +kernel
theorem d_C_add_11 : decode b_C_add 11 = .ok (.bipush 8, 2) := by decide +kernel
theorem d_C_add_13 : decode b_C_add 13 = .ok (.if_icmp .lt 4, 3) := by decide +kernel
theorem d_C_add_16 : decode b_C_add 16 = .ok (.return_, 1) := by decide +kernel
theorem d_C_add_17 : decode b_C_add 17 = .ok (.aload_n 0, 1) := by decide +kernel
theorem d_C_add_18 : decode b_C_add 18 = .ok (.getfield 21, 3) := by decide +kernel
theorem d_C_add_21 : decode b_C_add 21 = .ok (.aload_n 0, 1) := by decide +kernel
theorem d_C_add_22 : decode b_C_add 22 = .ok (.getfield 36, 3) := by decide +kernel
theorem d_C_add_25 : decode b_C_add 25 = .ok (.iload_n 1, 1) := by decide +kernel
theorem d_C_add_26 : decode b_C_add 26 = .ok (.iastore, 1) := by decide +kernel
theorem d_C_add_27 : decode b_C_add 27 = .ok (.aload_n 0, 1) := by decide +kernel
theorem d_C_add_28 : decode b_C_add 28 = .ok (.getfield 24, 3) := by decide +kernel
theorem d_C_add_31 : decode b_C_add 31 = .ok (.aload_n 0, 1) := by decide +kernel
theorem d_C_add_32 : decode b_C_add 32 = .ok (.getfield 36, 3) := by decide +kernel
theorem d_C_add_35 : decode b_C_add 35 = .ok (.iload_n 2, 1) := by decide +kernel
theorem d_C_add_36 : decode b_C_add 36 = .ok (.iastore, 1) := by decide +kernel
theorem d_C_add_37 : decode b_C_add 37 = .ok (.aload_n 0, 1) := by decide +kernel
theorem d_C_add_38 : decode b_C_add 38 = .ok (.getfield 27, 3) := by decide +kernel
theorem d_C_add_41 : decode b_C_add 41 = .ok (.aload_n 0, 1) := by decide +kernel
theorem d_C_add_42 : decode b_C_add 42 = .ok (.getfield 36, 3) := by decide +kernel
theorem d_C_add_45 : decode b_C_add 45 = .ok (.iload_n 3, 1) := by decide +kernel
theorem d_C_add_46 : decode b_C_add 46 = .ok (.iastore, 1) := by decide +kernel
theorem d_C_add_47 : decode b_C_add 47 = .ok (.aload_n 0, 1) := by decide +kernel
theorem d_C_add_48 : decode b_C_add 48 = .ok (.getfield 30, 3) := by decide +kernel
theorem d_C_add_51 : decode b_C_add 51 = .ok (.aload_n 0, 1) := by decide +kernel
theorem d_C_add_52 : decode b_C_add 52 = .ok (.getfield 36, 3) := by decide +kernel
theorem d_C_add_55 : decode b_C_add 55 = .ok (.iload 4, 2) := by decide +kernel
theorem d_C_add_57 : decode b_C_add 57 = .ok (.iastore, 1) := by decide +kernel
theorem d_C_add_58 : decode b_C_add 58 = .ok (.aload_n 0, 1) := by decide +kernel
theorem d_C_add_59 : decode b_C_add 59 = .ok (.getfield 33, 3) := by decide +kernel
theorem d_C_add_62 : decode b_C_add 62 = .ok (.aload_n 0, 1) := by decide +kernel
theorem d_C_add_63 : decode b_C_add 63 = .ok (.getfield 36, 3) := by decide +kernel
theorem d_C_add_66 : decode b_C_add 66 = .ok (.iload 5, 2) := by decide +kernel
theorem d_C_add_68 : decode b_C_add 68 = .ok (.iastore, 1) := by decide +kernel
theorem d_C_add_69 : decode b_C_add 69 = .ok (.aload_n 0, 1) := by decide +kernel
theorem d_C_add_70 : decode b_C_add 70 = .ok (.dup, 1) := by decide +kernel
theorem d_C_add_71 : decode b_C_add 71 = .ok (.getfield 36, 3) := by decide +kernel
theorem d_C_add_74 : decode b_C_add 74 = .ok (.iconst 1, 1) := by decide +kernel
theorem d_C_add_75 : decode b_C_add 75 = .ok (.iadd, 1) := by decide +kernel
theorem d_C_add_76 : decode b_C_add 76 = .ok (.putfield 36, 3) := by decide +kernel
theorem d_C_add_79 : decode b_C_add 79 = .ok (.return_, 1) := by decide +kernel
theorem d_C_still_0 : decode b_C_still 0 = .ok (.iconst 0, 1) := by decide +kernel
theorem d_C_still_1 : decode b_C_still 1 = .ok (.istore_n 2, 1) := by decide +kernel
theorem d_C_still_2 : decode b_C_still 2 = .ok (.iload_n 2, 1) := by decide +kernel
theorem d_C_still_3 : decode b_C_still 3 = .ok (.bipush 10, 2) := by decide +kernel
theorem d_C_still_5 : decode b_C_still 5 = .ok (.if_icmp .ge 25, 3) := by decide +kernel
theorem d_C_still_8 : decode b_C_still 8 = .ok (.iload_n 1, 1) := by decide +kernel
theorem d_C_still_9 : decode b_C_still 9 = .ok (.iload_n 2, 1) := by decide +kernel
theorem d_C_still_10 : decode b_C_still 10 = .ok (.ishr, 1) := by decide +kernel
theorem d_C_still_11 : decode b_C_still 11 = .ok (.iconst 1, 1) := by decide +kernel
theorem d_C_still_12 : decode b_C_still 12 = .ok (.iand, 1) := by decide +kernel
theorem d_C_still_13 : decode b_C_still 13 = .ok (.iconst 1, 1) := by decide +kernel
theorem d_C_still_14 : decode b_C_still 14 = .ok (.if_icmp .ne 10, 3) := by decide +kernel
theorem d_C_still_17 : decode b_C_still 17 = .ok (.aload_n 0, 1) := by decide +kernel
theorem d_C_still_18 : decode b_C_still 18 = .ok (.getfield 15, 3) := by decide +kernel
theorem d_C_still_21 : decode b_C_still 21 = .ok (.iload_n 2, 1) := by decide +kernel
theorem d_C_still_22 : decode b_C_still 22 = .ok (.iconst 0, 1) := by decide +kernel
theorem d_C_still_23 : decode b_C_still 23 = .ok (.iastore, 1) := by decide +kernel
theorem d_C_still_24 : decode b_C_still 24 = .ok (.iinc 2 1, 3) := by decide +kernel
theorem d_C_still_27 : decode b_C_still 27 = .ok (.goto (-25), 3) := by decide +kernel
theorem d_C_still_30 : decode b_C_still 30 = .ok (.return_, 1) := by decide +kernel
theorem d_C_hasLanded_0 : decode b_C_hasLanded 0 = .ok (.aload_n 0, 1) := by decide +kernel
theorem d_C_hasLanded_1 : decode b_C_hasLanded 1 = .ok (.getfield 30, 3) := by decide +kernel
theorem d_C_hasLanded_4 : decode b_C_hasLanded 4 = .ok (.iload_n 1, 1) := by decide +kernel
theorem d_C_hasLanded_5 : decode b_C_hasLanded 5 = .ok (.iaload, 1) := by decide +kernel
theorem d_C_hasLanded_6 : decode b_C_hasLanded 6 = .ok (.aload_n 0, 1) := by decide +kernel
theorem d_C_hasLanded_7 : decode b_C_hasLanded 7 = .ok (.getfield 33, 3) := by decide +kernel
theorem d_C_hasLanded_10 : decode b_C_hasLanded 10 = .ok (.iload_n 1, 1) := by decide +kernel
theorem d_C_hasLanded_11 : decode b_C_hasLanded 11 = .ok (.iaload, 1) := by decide +kernel
theorem d_C_hasLanded_12 : decode b_C_hasLanded 12 = .ok (.if_icmp .ne 7, 3) := by decide +kernel
theorem d_C_hasLanded_15 : decode b_C_hasLanded 15 = .ok (.iconst 1, 1) := by decide +kernel
theorem d_C_hasLanded_16 : decode b_C_hasLanded 16 = .ok (.goto 4, 3) := by decide +kernel
theorem d_C_hasLanded_19 : decode b_C_hasLanded 19 = .ok (.iconst 0, 1) := by decide +kernel
theorem d_C_hasLanded_20 : decode b_C_hasLanded 20 = .ok (.ireturn, 1) := by decide +kernel
theorem d_C_landedSet_0 : decode b_C_landedSet 0 = .ok (.iconst 0, 1) := by decide +kernel
theorem d_C_landedSet_1 : decode b_C_landedSet 1 = .ok (.istore_n 1, 1) := by decide +kernel
theorem d_C_landedSet_2 : decode b_C_landedSet 2 = .ok (.iconst 0, 1) := by decide +kernel
theorem d_C_landedSet_3 : decode b_C_landedSet 3 = .ok (.istore_n 2, 1) := by decide +kernel
theorem d_C_landedSet_4 : decode b_C_landedSet 4 = .ok (.iload_n 2, 1) := by decide +kernel
theorem d_C_landedSet_5 : decode b_C_landedSet 5 = .ok (.aload_n 0, 1) := by decide +kernel
theorem d_C_landedSet_6 : decode b_C_landedSet 6 = .ok (.getfield 36, 3) := by decide +kernel
theorem d_C_landedSet_9 : decode b_C_landedSet 9 = .ok (.if_icmp .ge 29, 3) := by decide +kernel
theorem d_C_landedSet_12 : decode b_C_landedSet 12 = .ok (.iload_n 2, 1) := by decide +kernel
theorem d_C_landedSet_13 : decode b_C_landedSet 13 = .ok (.bipush 8, 2) := by decide +kernel
theorem d_C_landedSet_15 : decode b_C_landedSet 15 = .ok (.if_icmp .ge 23, 3) := by decide +kernel
theorem d_C_landedSet_18 : decode b_C_landedSet 18 = .ok (.aload_n 0, 1) := by decide +kernel
theorem d_C_landedSet_19 : decode b_C_landedSet 19 = .ok (.iload_n 2, 1) := by decide +kernel
theorem d_C_landedSet_20 : decode b_C_landedSet 20 = .ok (.invokevirtual 79, 3) := by decide +kernel
theorem d_C_landedSet_23 : decode b_C_landedSet 23 = .ok (.ifCond .eq 9, 3) := by decide +kernel
theorem d_C_landedSet_26 : decode b_C_landedSet 26 = .ok (.iload_n 1, 1) := by decide +kernel
theorem d_C_landedSet_27 : decode b_C_landedSet 27 = .ok (.iconst 1, 1) := by decide +kernel
theorem d_C_landedSet_28 : decode b_C_landedSet 28 = .ok (.iload_n 2, 1) := by decide +kernel
theorem d_C_landedSet_29 : decode b_C_landedSet 29 = .ok (.ishl, 1) := by decide +kernel
theorem d_C_landedSet_30 : decode b_C_landedSet 30 = .ok (.ior, 1) := by decide +kernel
theorem d_C_landedSet_31 : decode b_C_landedSet 31 = .ok (.istore_n 1, 1) := by decide +kernel
theorem d_C_landedSet_32 : decode b_C_landedSet 32 = .ok (.iinc 2 1, 3) := by decide +kernel
theorem d_C_landedSet_35 : decode b_C_landedSet 35 = .ok (.goto (-31), 3) := by decide +kernel
theorem d_C_landedSet_38 : decode b_C_landedSet 38 = .ok (.iload_n 1, 1) := by decide +kernel
theorem d_C_landedSet_39 : decode b_C_landedSet 39 = .ok (.ireturn, 1) := by decide +kernel
theorem d_C_allLanded_0 : decode b_C_allLanded 0 = .ok (.aload_n 0, 1) := by decide +kernel
theorem d_C_allLanded_1 : decode b_C_allLanded 1 = .ok (.invokevirtual 64, 3) := by decide +kernel
theorem d_C_allLanded_4 : decode b_C_allLanded 4 = .ok (.iconst 1, 1) := by decide +kernel
theorem d_C_allLanded_5 : decode b_C_allLanded 5 = .ok (.aload_n 0, 1) := by decide +kernel
theorem d_C_allLanded_6 : decode b_C_allLanded 6 = .ok (.getfield 36, 3) := by decide +kernel
theorem d_C_allLanded_9 : decode b_C_allLanded 9 = .ok (.ishl, 1) := by decide +kernel
theorem d_C_allLanded_10 : decode b_C_allLanded 10 = .ok (.iconst 1, 1) := by decide +kernel
theorem d_C_allLanded_11 : decode b_C_allLanded 11 = .ok (.isub, 1) := by decide +kernel
theorem d_C_allLanded_12 : decode b_C_allLanded 12 = .ok (.if_icmp .ne 7, 3) := by decide +kernel
theorem d_C_allLanded_15 : decode b_C_allLanded 15 = .ok (.iconst 1, 1) := by decide +kernel
theorem d_C_allLanded_16 : decode b_C_allLanded 16 = .ok (.goto 4, 3) := by decide +kernel
theorem d_C_allLanded_19 : decode b_C_allLanded 19 = .ok (.iconst 0, 1) := by decide +kernel
theorem d_C_allLanded_20 : decode b_C_allLanded 20 = .ok (.ireturn, 1) := by decide +kernel
theorem d_C_noiseAt_0 : decode b_C_noiseAt 0 = .ok (.iload_n 1, 1) := by decide +kernel
theorem d_C_noiseAt_1 : decode b_C_noiseAt 1 = .ok (.invokestatic 68, 3) := by decide +kernel
theorem d_C_noiseAt_4 : decode b_C_noiseAt 4 = .ok (.ifCond .eq 12, 3) := by decide +kernel
theorem d_C_noiseAt_7 : decode b_C_noiseAt 7 = .ok (.aload_n 0, 1) := by decide +kernel
theorem d_C_noiseAt_8 : decode b_C_noiseAt 8 = .ok (.getfield 15, 3) := by decide +kernel
theorem d_C_noiseAt_11 : decode b_C_noiseAt 11 = .ok (.iload_n 1, 1) := by decide +kernel
theorem d_C_noiseAt_12 : decode b_C_noiseAt 12 = .ok (.iaload, 1) := by decide +kernel
theorem d_C_noiseAt_13 : decode b_C_noiseAt 13 = .ok (.goto 4, 3) := by decide +kernel
theorem d_C_noiseAt_16 : decode b_C_noiseAt 16 = .ok (.iconst 0, 1) := by decide +kernel
theorem d_C_noiseAt_17 : decode b_C_noiseAt 17 = .ok (.ireturn, 1) := by decide +kernel
theorem d_C_paceOf_0 : decode b_C_paceOf 0 = .ok (.aload_n 0, 1) := by decide +kernel
theorem d_C_paceOf_1 : decode b_C_paceOf 1 = .ok (.getfield 21, 3) := by decide +kernel
theorem d_C_paceOf_4 : decode b_C_paceOf 4 = .ok (.iload_n 1, 1) := by decide +kernel
theorem d_C_paceOf_5 : decode b_C_paceOf 5 = .ok (.iaload, 1) := by decide +kernel
theorem d_C_paceOf_6 : decode b_C_paceOf 6 = .ok (.tableswitch 50 2 5 #[30, 30, 32, 41], 30) := by decide +kernel
theorem d_C_paceOf_36 : decode b_C_paceOf 36 = .ok (.iconst 2, 1) := by decide +kernel
theorem d_C_paceOf_37 : decode b_C_paceOf 37 = .ok (.ireturn, 1) := by decide +kernel
theorem d_C_paceOf_38 : decode b_C_paceOf 38 = .ok (.iconst 2, 1) := by decide +kernel
theorem d_C_paceOf_39 : decode b_C_paceOf 39 = .ok (.aload_n 0, 1) := by decide +kernel
theorem d_C_paceOf_40 : decode b_C_paceOf 40 = .ok (.getfield 40, 3) := by decide +kernel
theorem d_C_paceOf_43 : decode b_C_paceOf 43 = .ok (.iconst 1, 1) := by decide +kernel
theorem d_C_paceOf_44 : decode b_C_paceOf 44 = .ok (.iand, 1) := by decide +kernel
theorem d_C_paceOf_45 : decode b_C_paceOf 45 = .ok (.isub, 1) := by decide +kernel
theorem d_C_paceOf_46 : decode b_C_paceOf 46 = .ok (.ireturn, 1) := by decide +kernel
theorem d_C_paceOf_47 : decode b_C_paceOf 47 = .ok (.iconst 1, 1) := by decide +kernel
theorem d_C_paceOf_48 : decode b_C_paceOf 48 = .ok (.aload_n 0, 1) := by decide +kernel
theorem d_C_paceOf_49 : decode b_C_paceOf 49 = .ok (.getfield 9, 3) := by decide +kernel
theorem d_C_paceOf_52 : decode b_C_paceOf 52 = .ok (.iconst 2, 1) := by decide +kernel
theorem d_C_paceOf_53 : decode b_C_paceOf 53 = .ok (.iaload, 1) := by decide +kernel
theorem d_C_paceOf_54 : decode b_C_paceOf 54 = .ok (.iadd, 1) := by decide +kernel
theorem d_C_paceOf_55 : decode b_C_paceOf 55 = .ok (.ireturn, 1) := by decide +kernel
theorem d_C_paceOf_56 : decode b_C_paceOf 56 = .ok (.iconst 1, 1) := by decide +kernel
theorem d_C_paceOf_57 : decode b_C_paceOf 57 = .ok (.ireturn, 1) := by decide +kernel
theorem d_C_spillOf_0 : decode b_C_spillOf 0 = .ok (.aload_n 0, 1) := by decide +kernel
theorem d_C_spillOf_1 : decode b_C_spillOf 1 = .ok (.getfield 21, 3) := by decide +kernel
theorem d_C_spillOf_4 : decode b_C_spillOf 4 = .ok (.iload_n 1, 1) := by decide +kernel
theorem d_C_spillOf_5 : decode b_C_spillOf 5 = .ok (.iaload, 1) := by decide +kernel
theorem d_C_spillOf_6 : decode b_C_spillOf 6 = .ok (.tableswitch 84 1 5 #[34, 49, 38, 53, 67], 34) := by decide +kernel
theorem d_C_spillOf_40 : decode b_C_spillOf 40 = .ok (.iload_n 2, 1) := by decide +kernel
theorem d_C_spillOf_41 : decode b_C_spillOf 41 = .ok (.iconst 2, 1) := by decide +kernel
theorem d_C_spillOf_42 : decode b_C_spillOf 42 = .ok (.idiv, 1) := by decide +kernel
theorem d_C_spillOf_43 : decode b_C_spillOf 43 = .ok (.ireturn, 1) := by decide +kernel
theorem d_C_spillOf_44 : decode b_C_spillOf 44 = .ok (.iload_n 2, 1) := by decide +kernel
theorem d_C_spillOf_45 : decode b_C_spillOf 45 = .ok (.iconst 2, 1) := by decide +kernel
theorem d_C_spillOf_46 : decode b_C_spillOf 46 = .ok (.idiv, 1) := by decide +kernel
theorem d_C_spillOf_47 : decode b_C_spillOf 47 = .ok (.aload_n 0, 1) := by decide +kernel
theorem d_C_spillOf_48 : decode b_C_spillOf 48 = .ok (.getfield 9, 3) := by decide +kernel
theorem d_C_spillOf_51 : decode b_C_spillOf 51 = .ok (.iconst 1, 1) := by decide +kernel
theorem d_C_spillOf_52 : decode b_C_spillOf 52 = .ok (.iaload, 1) := by decide +kernel
theorem d_C_spillOf_53 : decode b_C_spillOf 53 = .ok (.isub, 1) := by decide +kernel
theorem d_C_spillOf_54 : decode b_C_spillOf 54 = .ok (.ireturn, 1) := by decide +kernel
theorem d_C_spillOf_55 : decode b_C_spillOf 55 = .ok (.iload_n 2, 1) := by decide +kernel
theorem d_C_spillOf_56 : decode b_C_spillOf 56 = .ok (.iconst 1, 1) := by decide +kernel
theorem d_C_spillOf_57 : decode b_C_spillOf 57 = .ok (.isub, 1) := by decide +kernel
theorem d_C_spillOf_58 : decode b_C_spillOf 58 = .ok (.ireturn, 1) := by decide +kernel
theorem d_C_spillOf_59 : decode b_C_spillOf 59 = .ok (.iload_n 2, 1) := by decide +kernel
theorem d_C_spillOf_60 : decode b_C_spillOf 60 = .ok (.iconst 1, 1) := by decide +kernel
theorem d_C_spillOf_61 : decode b_C_spillOf 61 = .ok (.isub, 1) := by decide +kernel
theorem d_C_spillOf_62 : decode b_C_spillOf 62 = .ok (.aload_n 0, 1) := by decide +kernel
theorem d_C_spillOf_63 : decode b_C_spillOf 63 = .ok (.getfield 24, 3) := by decide +kernel
theorem d_C_spillOf_66 : decode b_C_spillOf 66 = .ok (.iload_n 1, 1) := by decide +kernel
theorem d_C_spillOf_67 : decode b_C_spillOf 67 = .ok (.iaload, 1) := by decide +kernel
theorem d_C_spillOf_68 : decode b_C_spillOf 68 = .ok (.bipush 10, 2) := by decide +kernel
theorem d_C_spillOf_70 : decode b_C_spillOf 70 = .ok (.idiv, 1) := by decide +kernel
theorem d_C_spillOf_71 : decode b_C_spillOf 71 = .ok (.iadd, 1) := by decide +kernel
theorem d_C_spillOf_72 : decode b_C_spillOf 72 = .ok (.ireturn, 1) := by decide +kernel
theorem d_C_spillOf_73 : decode b_C_spillOf 73 = .ok (.aload_n 0, 1) := by decide +kernel
theorem d_C_spillOf_74 : decode b_C_spillOf 74 = .ok (.getfield 40, 3) := by decide +kernel
theorem d_C_spillOf_77 : decode b_C_spillOf 77 = .ok (.iconst 3, 1) := by decide +kernel
theorem d_C_spillOf_78 : decode b_C_spillOf 78 = .ok (.irem, 1) := by decide +kernel
theorem d_C_spillOf_79 : decode b_C_spillOf 79 = .ok (.ifCond .ne 9, 3) := by decide +kernel
theorem d_C_spillOf_82 : decode b_C_spillOf 82 = .ok (.iload_n 2, 1) := by decide +kernel
theorem d_C_spillOf_83 : decode b_C_spillOf 83 = .ok (.iconst 2, 1) := by decide +kernel
theorem d_C_spillOf_84 : decode b_C_spillOf 84 = .ok (.imul, 1) := by decide +kernel
theorem d_C_spillOf_85 : decode b_C_spillOf 85 = .ok (.goto 4, 3) := by decide +kernel
theorem d_C_spillOf_88 : decode b_C_spillOf 88 = .ok (.iconst 0, 1) := by decide +kernel
theorem d_C_spillOf_89 : decode b_C_spillOf 89 = .ok (.ireturn, 1) := by decide +kernel
theorem d_C_spillOf_90 : decode b_C_spillOf 90 = .ok (.iload_n 2, 1) := by decide +kernel
theorem d_C_spillOf_91 : decode b_C_spillOf 91 = .ok (.ireturn, 1) := by decide +kernel
theorem d_C_spill_0 : decode b_C_spill 0 = .ok (.aload_n 0, 1) := by decide +kernel
theorem d_C_spill_1 : decode b_C_spill 1 = .ok (.getfield 24, 3) := by decide +kernel
theorem d_C_spill_4 : decode b_C_spill 4 = .ok (.iload_n 1, 1) := by decide +kernel
theorem d_C_spill_5 : decode b_C_spill 5 = .ok (.iaload, 1) := by decide +kernel
theorem d_C_spill_6 : decode b_C_spill 6 = .ok (.istore 4, 2) := by decide +kernel
theorem d_C_spill_8 : decode b_C_spill 8 = .ok (.aload_n 0, 1) := by decide +kernel
theorem d_C_spill_9 : decode b_C_spill 9 = .ok (.getfield 24, 3) := by decide +kernel
theorem d_C_spill_12 : decode b_C_spill 12 = .ok (.iload_n 1, 1) := by decide +kernel
theorem d_C_spill_13 : decode b_C_spill 13 = .ok (.iload 4, 2) := by decide +kernel
theorem d_C_spill_15 : decode b_C_spill 15 = .ok (.iload_n 3, 1) := by decide +kernel
theorem d_C_spill_16 : decode b_C_spill 16 = .ok (.isub, 1) := by decide +kernel
theorem d_C_spill_17 : decode b_C_spill 17 = .ok (.invokestatic 104, 3) := by decide +kernel
theorem d_C_spill_20 : decode b_C_spill 20 = .ok (.iastore, 1) := by decide +kernel
theorem d_C_spill_21 : decode b_C_spill 21 = .ok (.aload_n 0, 1) := by decide +kernel
theorem d_C_spill_22 : decode b_C_spill 22 = .ok (.getfield 24, 3) := by decide +kernel
theorem d_C_spill_25 : decode b_C_spill 25 = .ok (.iload_n 1, 1) := by decide +kernel
theorem d_C_spill_26 : decode b_C_spill 26 = .ok (.iaload, 1) := by decide +kernel
theorem d_C_spill_27 : decode b_C_spill 27 = .ok (.iload 4, 2) := by decide +kernel
theorem d_C_spill_29 : decode b_C_spill 29 = .ok (.if_icmp .ge 38, 3) := by decide +kernel
theorem d_C_spill_32 : decode b_C_spill 32 = .ok (.iload_n 2, 1) := by decide +kernel
theorem d_C_spill_33 : decode b_C_spill 33 = .ok (.invokestatic 68, 3) := by decide +kernel
theorem d_C_spill_36 : decode b_C_spill 36 = .ok (.ifCond .eq 31, 3) := by decide +kernel
theorem d_C_spill_39 : decode b_C_spill 39 = .ok (.aload_n 0, 1) := by decide +kernel
theorem d_C_spill_40 : decode b_C_spill 40 = .ok (.getfield 18, 3) := by decide +kernel
theorem d_C_spill_43 : decode b_C_spill 43 = .ok (.iload_n 2, 1) := by decide +kernel
theorem d_C_spill_44 : decode b_C_spill 44 = .ok (.sipush 9999, 3) := by decide +kernel
theorem d_C_spill_47 : decode b_C_spill 47 = .ok (.aload_n 0, 1) := by decide +kernel
theorem d_C_spill_48 : decode b_C_spill 48 = .ok (.getfield 18, 3) := by decide +kernel
theorem d_C_spill_51 : decode b_C_spill 51 = .ok (.iload_n 2, 1) := by decide +kernel
theorem d_C_spill_52 : decode b_C_spill 52 = .ok (.iaload, 1) := by decide +kernel
theorem d_C_spill_53 : decode b_C_spill 53 = .ok (.iload 4, 2) := by decide +kernel
theorem d_C_spill_55 : decode b_C_spill 55 = .ok (.iadd, 1) := by decide +kernel
theorem d_C_spill_56 : decode b_C_spill 56 = .ok (.aload_n 0, 1) := by decide +kernel
theorem d_C_spill_57 : decode b_C_spill 57 = .ok (.getfield 24, 3) := by decide +kernel
theorem d_C_spill_60 : decode b_C_spill 60 = .ok (.iload_n 1, 1) := by decide +kernel
theorem d_C_spill_61 : decode b_C_spill 61 = .ok (.iaload, 1) := by decide +kernel
theorem d_C_spill_62 : decode b_C_spill 62 = .ok (.isub, 1) := by decide +kernel
theorem d_C_spill_63 : decode b_C_spill 63 = .ok (.invokestatic 107, 3) := by decide +kernel
theorem d_C_spill_66 : decode b_C_spill 66 = .ok (.iastore, 1) := by decide +kernel
theorem d_C_spill_67 : decode b_C_spill 67 = .ok (.return_, 1) := by decide +kernel
theorem d_C_goOn_0 : decode b_C_goOn 0 = .ok (.aload_n 0, 1) := by decide +kernel
theorem d_C_goOn_1 : decode b_C_goOn 1 = .ok (.iload_n 1, 1) := by decide +kernel
theorem d_C_goOn_2 : decode b_C_goOn 2 = .ok (.invokevirtual 89, 3) := by decide +kernel
theorem d_C_goOn_5 : decode b_C_goOn 5 = .ok (.istore_n 2, 1) := by decide +kernel
theorem d_C_goOn_6 : decode b_C_goOn 6 = .ok (.iconst 0, 1) := by decide +kernel
theorem d_C_goOn_7 : decode b_C_goOn 7 = .ok (.istore_n 3, 1) := by decide +kernel
theorem d_C_goOn_8 : decode b_C_goOn 8 = .ok (.iload_n 3, 1) := by decide +kernel
theorem d_C_goOn_9 : decode b_C_goOn 9 = .ok (.iload_n 2, 1) := by decide +kernel
theorem d_C_goOn_10 : decode b_C_goOn 10 = .ok (.if_icmp .ge 72, 3) := by decide +kernel
theorem d_C_goOn_13 : decode b_C_goOn 13 = .ok (.aload_n 0, 1) := by decide +kernel
theorem d_C_goOn_14 : decode b_C_goOn 14 = .ok (.iload_n 1, 1) := by decide +kernel
theorem d_C_goOn_15 : decode b_C_goOn 15 = .ok (.invokevirtual 79, 3) := by decide +kernel
theorem d_C_goOn_18 : decode b_C_goOn 18 = .ok (.ifCond .ne 64, 3) := by decide +kernel
theorem d_C_goOn_21 : decode b_C_goOn 21 = .ok (.aload_n 0, 1) := by decide +kernel
theorem d_C_goOn_22 : decode b_C_goOn 22 = .ok (.getfield 30, 3) := by decide +kernel
theorem d_C_goOn_25 : decode b_C_goOn 25 = .ok (.iload_n 1, 1) := by decide +kernel
theorem d_C_goOn_26 : decode b_C_goOn 26 = .ok (.iaload, 1) := by decide +kernel
theorem d_C_goOn_27 : decode b_C_goOn 27 = .ok (.aload_n 0, 1) := by decide +kernel
theorem d_C_goOn_28 : decode b_C_goOn 28 = .ok (.getfield 33, 3) := by decide +kernel
theorem d_C_goOn_31 : decode b_C_goOn 31 = .ok (.iload_n 1, 1) := by decide +kernel
theorem d_C_goOn_32 : decode b_C_goOn 32 = .ok (.iaload, 1) := by decide +kernel
theorem d_C_goOn_33 : decode b_C_goOn 33 = .ok (.aload_n 0, 1) := by decide +kernel
theorem d_C_goOn_34 : decode b_C_goOn 34 = .ok (.getfield 30, 3) := by decide +kernel
theorem d_C_goOn_37 : decode b_C_goOn 37 = .ok (.iload_n 1, 1) := by decide +kernel
theorem d_C_goOn_38 : decode b_C_goOn 38 = .ok (.iaload, 1) := by decide +kernel
theorem d_C_goOn_39 : decode b_C_goOn 39 = .ok (.if_icmp .le 7, 3) := by decide +kernel
theorem d_C_goOn_42 : decode b_C_goOn 42 = .ok (.iconst 1, 1) := by decide +kernel
theorem d_C_goOn_43 : decode b_C_goOn 43 = .ok (.goto 4, 3) := by decide +kernel
theorem d_C_goOn_46 : decode b_C_goOn 46 = .ok (.iconst (-1), 1) := by decide +kernel
theorem d_C_goOn_47 : decode b_C_goOn 47 = .ok (.iadd, 1) := by decide +kernel
theorem d_C_goOn_48 : decode b_C_goOn 48 = .ok (.istore 4, 2) := by decide +kernel
theorem d_C_goOn_50 : decode b_C_goOn 50 = .ok (.aload_n 0, 1) := by decide +kernel
theorem d_C_goOn_51 : decode b_C_goOn 51 = .ok (.getfield 30, 3) := by decide +kernel
theorem d_C_goOn_54 : decode b_C_goOn 54 = .ok (.iload_n 1, 1) := by decide +kernel
theorem d_C_goOn_55 : decode b_C_goOn 55 = .ok (.iload 4, 2) := by decide +kernel
theorem d_C_goOn_57 : decode b_C_goOn 57 = .ok (.iastore, 1) := by decide +kernel
theorem d_C_goOn_58 : decode b_C_goOn 58 = .ok (.aload_n 0, 1) := by decide +kernel
theorem d_C_goOn_59 : decode b_C_goOn 59 = .ok (.iload_n 1, 1) := by decide +kernel
theorem d_C_goOn_60 : decode b_C_goOn 60 = .ok (.iload 4, 2) := by decide +kernel
theorem d_C_goOn_62 : decode b_C_goOn 62 = .ok (.aload_n 0, 1) := by decide +kernel
theorem d_C_goOn_63 : decode b_C_goOn 63 = .ok (.iload_n 1, 1) := by decide +kernel
theorem d_C_goOn_64 : decode b_C_goOn 64 = .ok (.aload_n 0, 1) := by decide +kernel
theorem d_C_goOn_65 : decode b_C_goOn 65 = .ok (.iload 4, 2) := by decide +kernel
theorem d_C_goOn_67 : decode b_C_goOn 67 = .ok (.invokevirtual 93, 3) := by decide +kernel
theorem d_C_goOn_70 : decode b_C_goOn 70 = .ok (.invokevirtual 96, 3) := by decide +kernel
theorem d_C_goOn_73 : decode b_C_goOn 73 = .ok (.invokevirtual 100, 3) := by decide +kernel
theorem d_C_goOn_76 : decode b_C_goOn 76 = .ok (.iinc 3 1, 3) := by decide +kernel
theorem d_C_goOn_79 : decode b_C_goOn 79 = .ok (.goto (-71), 3) := by decide +kernel
theorem d_C_goOn_82 : decode b_C_goOn 82 = .ok (.return_, 1) := by decide +kernel
theorem d_C_echoWithOthers_0 : decode b_C_echoWithOthers 0 = .ok (.aload_n 0, 1) := by decide +kernel
theorem d_C_echoWithOthers_1 : decode b_C_echoWithOthers 1 = .ok (.getfield 30, 3) := by decide +kernel
theorem d_C_echoWithOthers_4 : decode b_C_echoWithOthers 4 = .ok (.iload_n 1, 1) := by decide +kernel
theorem d_C_echoWithOthers_5 : decode b_C_echoWithOthers 5 = .ok (.iaload, 1) := by decide +kernel
theorem d_C_echoWithOthers_6 : decode b_C_echoWithOthers 6 = .ok (.istore_n 2, 1) := by decide +kernel
theorem d_C_echoWithOthers_7 : decode b_C_echoWithOthers 7 = .ok (.iconst 0, 1) := by decide +kernel
theorem d_C_echoWithOthers_8 : decode b_C_echoWithOthers 8 = .ok (.istore_n 3, 1) := by decide +kernel
theorem d_C_echoWithOthers_9 : decode b_C_echoWithOthers 9 = .ok (.iload_n 3, 1) := by decide +kernel
theorem d_C_echoWithOthers_10 : decode b_C_echoWithOthers 10 = .ok (.aload_n 0, 1) := by decide +kernel
theorem d_C_echoWithOthers_11 : decode b_C_echoWithOthers 11 = .ok (.getfield 36, 3) := by decide +kernel
theorem d_C_echoWithOthers_14 : decode b_C_echoWithOthers 14 = .ok (.if_icmp .ge 77, 3) := by decide +kernel
theorem d_C_echoWithOthers_17 : decode b_C_echoWithOthers 17 = .ok (.iload_n 3, 1) := by decide +kernel
theorem d_C_echoWithOthers_18 : decode b_C_echoWithOthers 18 = .ok (.bipush 8, 2) := by decide +kernel
theorem d_C_echoWithOthers_20 : decode b_C_echoWithOthers 20 = .ok (.if_icmp .ge 71, 3) := by decide +kernel
theorem d_C_echoWithOthers_23 : decode b_C_echoWithOthers 23 = .ok (.aload_n 0, 1) := by decide +kernel
theorem d_C_echoWithOthers_24 : decode b_C_echoWithOthers 24 = .ok (.getfield 30, 3) := by decide +kernel
theorem d_C_echoWithOthers_27 : decode b_C_echoWithOthers 27 = .ok (.iload_n 3, 1) := by decide +kernel
theorem d_C_echoWithOthers_28 : decode b_C_echoWithOthers 28 = .ok (.iaload, 1) := by decide +kernel
theorem d_C_echoWithOthers_29 : decode b_C_echoWithOthers 29 = .ok (.iload_n 2, 1) := by decide +kernel
theorem d_C_echoWithOthers_30 : decode b_C_echoWithOthers 30 = .ok (.if_icmp .ne 55, 3) := by decide +kernel
theorem d_C_echoWithOthers_33 : decode b_C_echoWithOthers 33 = .ok (.iload_n 3, 1) := by decide +kernel
theorem d_C_echoWithOthers_34 : decode b_C_echoWithOthers 34 = .ok (.iload_n 1, 1) := by decide +kernel
theorem d_C_echoWithOthers_35 : decode b_C_echoWithOthers 35 = .ok (.if_icmp .eq 50, 3) := by decide +kernel
theorem d_C_echoWithOthers_38 : decode b_C_echoWithOthers 38 = .ok (.aload_n 0, 1) := by decide +kernel
theorem d_C_echoWithOthers_39 : decode b_C_echoWithOthers 39 = .ok (.getfield 27, 3) := by decide +kernel
theorem d_C_echoWithOthers_42 : decode b_C_echoWithOthers 42 = .ok (.iload_n 3, 1) := by decide +kernel
theorem d_C_echoWithOthers_43 : decode b_C_echoWithOthers 43 = .ok (.iaload, 1) := by decide +kernel
theorem d_C_echoWithOthers_44 : decode b_C_echoWithOthers 44 = .ok (.aload_n 0, 1) := by decide +kernel
theorem d_C_echoWithOthers_45 : decode b_C_echoWithOthers 45 = .ok (.getfield 27, 3) := by decide +kernel
theorem d_C_echoWithOthers_48 : decode b_C_echoWithOthers 48 = .ok (.iload_n 1, 1) := by decide +kernel
theorem d_C_echoWithOthers_49 : decode b_C_echoWithOthers 49 = .ok (.iaload, 1) := by decide +kernel
theorem d_C_echoWithOthers_50 : decode b_C_echoWithOthers 50 = .ok (.if_icmp .eq 35, 3) := by decide +kernel
theorem d_C_echoWithOthers_53 : decode b_C_echoWithOthers 53 = .ok (.aload_n 0, 1) := by decide +kernel
theorem d_C_echoWithOthers_54 : decode b_C_echoWithOthers 54 = .ok (.iload_n 3, 1) := by decide +kernel
theorem d_C_echoWithOthers_55 : decode b_C_echoWithOthers 55 = .ok (.invokevirtual 79, 3) := by decide +kernel
theorem d_C_echoWithOthers_58 : decode b_C_echoWithOthers 58 = .ok (.ifCond .ne 27, 3) := by decide +kernel
theorem d_C_echoWithOthers_61 : decode b_C_echoWithOthers 61 = .ok (.aload_n 0, 1) := by decide +kernel
theorem d_C_echoWithOthers_62 : decode b_C_echoWithOthers 62 = .ok (.iload_n 1, 1) := by decide +kernel
theorem d_C_echoWithOthers_63 : decode b_C_echoWithOthers 63 = .ok (.iload_n 2, 1) := by decide +kernel
theorem d_C_echoWithOthers_64 : decode b_C_echoWithOthers 64 = .ok (.aload_n 0, 1) := by decide +kernel
theorem d_C_echoWithOthers_65 : decode b_C_echoWithOthers 65 = .ok (.getfield 9, 3) := by decide +kernel
theorem d_C_echoWithOthers_68 : decode b_C_echoWithOthers 68 = .ok (.iconst 0, 1) := by decide +kernel
theorem d_C_echoWithOthers_69 : decode b_C_echoWithOthers 69 = .ok (.iaload, 1) := by decide +kernel
theorem d_C_echoWithOthers_70 : decode b_C_echoWithOthers 70 = .ok (.invokevirtual 100, 3) := by decide +kernel
theorem d_C_echoWithOthers_73 : decode b_C_echoWithOthers 73 = .ok (.aload_n 0, 1) := by decide +kernel
theorem d_C_echoWithOthers_74 : decode b_C_echoWithOthers 74 = .ok (.iload_n 3, 1) := by decide +kernel
theorem d_C_echoWithOthers_75 : decode b_C_echoWithOthers 75 = .ok (.iload_n 2, 1) := by decide +kernel
theorem d_C_echoWithOthers_76 : decode b_C_echoWithOthers 76 = .ok (.aload_n 0, 1) := by decide +kernel
theorem d_C_echoWithOthers_77 : decode b_C_echoWithOthers 77 = .ok (.getfield 9, 3) := by decide +kernel
theorem d_C_echoWithOthers_80 : decode b_C_echoWithOthers 80 = .ok (.iconst 0, 1) := by decide +kernel
theorem d_C_echoWithOthers_81 : decode b_C_echoWithOthers 81 = .ok (.iaload, 1) := by decide +kernel
theorem d_C_echoWithOthers_82 : decode b_C_echoWithOthers 82 = .ok (.invokevirtual 100, 3) := by decide +kernel
theorem d_C_echoWithOthers_85 : decode b_C_echoWithOthers 85 = .ok (.iinc 3 1, 3) := by decide +kernel
theorem d_C_echoWithOthers_88 : decode b_C_echoWithOthers 88 = .ok (.goto (-79), 3) := by decide +kernel
theorem d_C_echoWithOthers_91 : decode b_C_echoWithOthers 91 = .ok (.return_, 1) := by decide +kernel
theorem d_C_passHour_0 : decode b_C_passHour 0 = .ok (.iconst 0, 1) := by decide +kernel
theorem d_C_passHour_1 : decode b_C_passHour 1 = .ok (.istore_n 1, 1) := by decide +kernel
theorem d_C_passHour_2 : decode b_C_passHour 2 = .ok (.iload_n 1, 1) := by decide +kernel
theorem d_C_passHour_3 : decode b_C_passHour 3 = .ok (.aload_n 0, 1) := by decide +kernel
theorem d_C_passHour_4 : decode b_C_passHour 4 = .ok (.getfield 36, 3) := by decide +kernel
theorem d_C_passHour_7 : decode b_C_passHour 7 = .ok (.if_icmp .ge 41, 3) := by decide +kernel
theorem d_C_passHour_10 : decode b_C_passHour 10 = .ok (.iload_n 1, 1) := by decide +kernel
theorem d_C_passHour_11 : decode b_C_passHour 11 = .ok (.bipush 8, 2) := by decide +kernel
theorem d_C_passHour_13 : decode b_C_passHour 13 = .ok (.if_icmp .ge 35, 3) := by decide +kernel
theorem d_C_passHour_16 : decode b_C_passHour 16 = .ok (.iload_n 1, 1) := by decide +kernel
theorem d_C_passHour_17 : decode b_C_passHour 17 = .ok (.aload_n 0, 1) := by decide +kernel
theorem d_C_passHour_18 : decode b_C_passHour 18 = .ok (.getfield 46, 3) := by decide +kernel
theorem d_C_passHour_21 : decode b_C_passHour 21 = .ok (.if_icmp .eq 21, 3) := by decide +kernel
theorem d_C_passHour_24 : decode b_C_passHour 24 = .ok (.aload_n 0, 1) := by decide +kernel
theorem d_C_passHour_25 : decode b_C_passHour 25 = .ok (.iload_n 1, 1) := by decide +kernel
theorem d_C_passHour_26 : decode b_C_passHour 26 = .ok (.invokevirtual 79, 3) := by decide +kernel
theorem d_C_passHour_29 : decode b_C_passHour 29 = .ok (.ifCond .ne 13, 3) := by decide +kernel
theorem d_C_passHour_32 : decode b_C_passHour 32 = .ok (.aload_n 0, 1) := by decide +kernel
theorem d_C_passHour_33 : decode b_C_passHour 33 = .ok (.iload_n 1, 1) := by decide +kernel
theorem d_C_passHour_34 : decode b_C_passHour 34 = .ok (.invokevirtual 82, 3) := by decide +kernel
theorem d_C_passHour_37 : decode b_C_passHour 37 = .ok (.aload_n 0, 1) := by decide +kernel
theorem d_C_passHour_38 : decode b_C_passHour 38 = .ok (.iload_n 1, 1) := by decide +kernel
theorem d_C_passHour_39 : decode b_C_passHour 39 = .ok (.invokevirtual 86, 3) := by decide +kernel
theorem d_C_passHour_42 : decode b_C_passHour 42 = .ok (.iinc 1 1, 3) := by decide +kernel
theorem d_C_passHour_45 : decode b_C_passHour 45 = .ok (.goto (-43), 3) := by decide +kernel
theorem d_C_passHour_48 : decode b_C_passHour 48 = .ok (.aload_n 0, 1) := by decide +kernel
theorem d_C_passHour_49 : decode b_C_passHour 49 = .ok (.dup, 1) := by decide +kernel
theorem d_C_passHour_50 : decode b_C_passHour 50 = .ok (.getfield 40, 3) := by decide +kernel
theorem d_C_passHour_53 : decode b_C_passHour 53 = .ok (.iconst 1, 1) := by decide +kernel
theorem d_C_passHour_54 : decode b_C_passHour 54 = .ok (.iadd, 1) := by decide +kernel
theorem d_C_passHour_55 : decode b_C_passHour 55 = .ok (.putfield 40, 3) := by decide +kernel
theorem d_C_passHour_58 : decode b_C_passHour 58 = .ok (.return_, 1) := by decide +kernel
theorem d_C_passHours_0 : decode b_C_passHours 0 = .ok (.iconst 0, 1) := by decide +kernel
theorem d_C_passHours_1 : decode b_C_passHours 1 = .ok (.istore_n 2, 1) := by decide +kernel
theorem d_C_passHours_2 : decode b_C_passHours 2 = .ok (.iload_n 2, 1) := by decide +kernel
theorem d_C_passHours_3 : decode b_C_passHours 3 = .ok (.iload_n 1, 1) := by decide +kernel
theorem d_C_passHours_4 : decode b_C_passHours 4 = .ok (.if_icmp .ge 33, 3) := by decide +kernel
theorem d_C_passHours_7 : decode b_C_passHours 7 = .ok (.aload_n 0, 1) := by decide +kernel
theorem d_C_passHours_8 : decode b_C_passHours 8 = .ok (.invokevirtual 72, 3) := by decide +kernel
theorem d_C_passHours_11 : decode b_C_passHours 11 = .ok (.ifCond .eq 16, 3) := by decide +kernel
theorem d_C_passHours_14 : decode b_C_passHours 14 = .ok (.aload_n 0, 1) := by decide +kernel
theorem d_C_passHours_15 : decode b_C_passHours 15 = .ok (.dup, 1) := by decide +kernel
theorem d_C_passHours_16 : decode b_C_passHours 16 = .ok (.getfield 40, 3) := by decide +kernel
theorem d_C_passHours_19 : decode b_C_passHours 19 = .ok (.iload_n 1, 1) := by decide +kernel
theorem d_C_passHours_20 : decode b_C_passHours 20 = .ok (.iload_n 2, 1) := by decide +kernel
theorem d_C_passHours_21 : decode b_C_passHours 21 = .ok (.isub, 1) := by decide +kernel
theorem d_C_passHours_22 : decode b_C_passHours 22 = .ok (.iadd, 1) := by decide +kernel
theorem d_C_passHours_23 : decode b_C_passHours 23 = .ok (.putfield 40, 3) := by decide +kernel
theorem d_C_passHours_26 : decode b_C_passHours 26 = .ok (.return_, 1) := by decide +kernel
theorem d_C_passHours_27 : decode b_C_passHours 27 = .ok (.aload_n 0, 1) := by decide +kernel
theorem d_C_passHours_28 : decode b_C_passHours 28 = .ok (.invokevirtual 76, 3) := by decide +kernel
theorem d_C_passHours_31 : decode b_C_passHours 31 = .ok (.iinc 2 1, 3) := by decide +kernel
theorem d_C_passHours_34 : decode b_C_passHours 34 = .ok (.goto (-32), 3) := by decide +kernel
theorem d_C_passHours_37 : decode b_C_passHours 37 = .ok (.return_, 1) := by decide +kernel
theorem d_C_draw_0 : decode b_C_draw 0 = .ok (.aload_n 0, 1) := by decide +kernel
theorem d_C_draw_1 : decode b_C_draw 1 = .ok (.aload_n 0, 1) := by decide +kernel
theorem d_C_draw_2 : decode b_C_draw 2 = .ok (.getfield 43, 3) := by decide +kernel
theorem d_C_draw_5 : decode b_C_draw 5 = .ok (.ldc 115, 2) := by decide +kernel
theorem d_C_draw_7 : decode b_C_draw 7 = .ok (.imul, 1) := by decide +kernel
theorem d_C_draw_8 : decode b_C_draw 8 = .ok (.sipush 12345, 3) := by decide +kernel
theorem d_C_draw_11 : decode b_C_draw 11 = .ok (.iadd, 1) := by decide +kernel
theorem d_C_draw_12 : decode b_C_draw 12 = .ok (.putfield 43, 3) := by decide +kernel
theorem d_C_draw_15 : decode b_C_draw 15 = .ok (.aload_n 0, 1) := by decide +kernel
theorem d_C_draw_16 : decode b_C_draw 16 = .ok (.getfield 43, 3) := by decide +kernel
theorem d_C_draw_19 : decode b_C_draw 19 = .ok (.bipush 16, 2) := by decide +kernel
theorem d_C_draw_21 : decode b_C_draw 21 = .ok (.iushr, 1) := by decide +kernel
theorem d_C_draw_22 : decode b_C_draw 22 = .ok (.ireturn, 1) := by decide +kernel
theorem d_C_passHourByDraws_0 : decode b_C_passHourByDraws 0 = .ok (.aload_n 0, 1) := by decide +kernel
theorem d_C_passHourByDraws_1 : decode b_C_passHourByDraws 1 = .ok (.getfield 36, 3) := by decide +kernel
theorem d_C_passHourByDraws_4 : decode b_C_passHourByDraws 4 = .ok (.ifCond .le 59, 3) := by decide +kernel
theorem d_C_passHourByDraws_7 : decode b_C_passHourByDraws 7 = .ok (.aload_n 0, 1) := by decide +kernel
theorem d_C_passHourByDraws_8 : decode b_C_passHourByDraws 8 = .ok (.invokevirtual 112, 3) := by decide +kernel
theorem d_C_passHourByDraws_11 : decode b_C_passHourByDraws 11 = .ok (.aload_n 0, 1) := by decide +kernel
theorem d_C_passHourByDraws_12 : decode b_C_passHourByDraws 12 = .ok (.getfield 36, 3) := by decide +kernel
theorem d_C_passHourByDraws_15 : decode b_C_passHourByDraws 15 = .ok (.irem, 1) := by decide +kernel
theorem d_C_passHourByDraws_16 : decode b_C_passHourByDraws 16 = .ok (.istore_n 1, 1) := by decide +kernel
theorem d_C_passHourByDraws_17 : decode b_C_passHourByDraws 17 = .ok (.aload_n 0, 1) := by decide +kernel
theorem d_C_passHourByDraws_18 : decode b_C_passHourByDraws 18 = .ok (.invokevirtual 112, 3) := by decide +kernel
theorem d_C_passHourByDraws_21 : decode b_C_passHourByDraws 21 = .ok (.bipush 100, 2) := by decide +kernel
theorem d_C_passHourByDraws_23 : decode b_C_passHourByDraws 23 = .ok (.irem, 1) := by decide +kernel
theorem d_C_passHourByDraws_24 : decode b_C_passHourByDraws 24 = .ok (.aload_n 0, 1) := by decide +kernel
theorem d_C_passHourByDraws_25 : decode b_C_passHourByDraws 25 = .ok (.getfield 9, 3) := by decide +kernel
theorem d_C_passHourByDraws_28 : decode b_C_passHourByDraws 28 = .ok (.iconst 3, 1) := by decide +kernel
theorem d_C_passHourByDraws_29 : decode b_C_passHourByDraws 29 = .ok (.iaload, 1) := by decide +kernel
theorem d_C_passHourByDraws_30 : decode b_C_passHourByDraws 30 = .ok (.if_icmp .ge 7, 3) := by decide +kernel
theorem d_C_passHourByDraws_33 : decode b_C_passHourByDraws 33 = .ok (.iconst 1, 1) := by decide +kernel
theorem d_C_passHourByDraws_34 : decode b_C_passHourByDraws 34 = .ok (.goto 4, 3) := by decide +kernel
theorem d_C_passHourByDraws_37 : decode b_C_passHourByDraws 37 = .ok (.iconst 0, 1) := by decide +kernel
theorem d_C_passHourByDraws_38 : decode b_C_passHourByDraws 38 = .ok (.istore_n 2, 1) := by decide +kernel
theorem d_C_passHourByDraws_39 : decode b_C_passHourByDraws 39 = .ok (.iload_n 2, 1) := by decide +kernel
theorem d_C_passHourByDraws_40 : decode b_C_passHourByDraws 40 = .ok (.ifCond .eq 23, 3) := by decide +kernel
theorem d_C_passHourByDraws_43 : decode b_C_passHourByDraws 43 = .ok (.iload_n 1, 1) := by decide +kernel
theorem d_C_passHourByDraws_44 : decode b_C_passHourByDraws 44 = .ok (.ifCond .lt 19, 3) := by decide +kernel
theorem d_C_passHourByDraws_47 : decode b_C_passHourByDraws 47 = .ok (.iload_n 1, 1) := by decide +kernel
theorem d_C_passHourByDraws_48 : decode b_C_passHourByDraws 48 = .ok (.bipush 8, 2) := by decide +kernel
theorem d_C_passHourByDraws_50 : decode b_C_passHourByDraws 50 = .ok (.if_icmp .ge 13, 3) := by decide +kernel
theorem d_C_passHourByDraws_53 : decode b_C_passHourByDraws 53 = .ok (.aload_n 0, 1) := by decide +kernel
theorem d_C_passHourByDraws_54 : decode b_C_passHourByDraws 54 = .ok (.getfield 24, 3) := by decide +kernel
theorem d_C_passHourByDraws_57 : decode b_C_passHourByDraws 57 = .ok (.iload_n 1, 1) := by decide +kernel
theorem d_C_passHourByDraws_58 : decode b_C_passHourByDraws 58 = .ok (.dup2, 1) := by decide +kernel
theorem d_C_passHourByDraws_59 : decode b_C_passHourByDraws 59 = .ok (.iaload, 1) := by decide +kernel
theorem d_C_passHourByDraws_60 : decode b_C_passHourByDraws 60 = .ok (.iconst 2, 1) := by decide +kernel
theorem d_C_passHourByDraws_61 : decode b_C_passHourByDraws 61 = .ok (.idiv, 1) := by decide +kernel
theorem d_C_passHourByDraws_62 : decode b_C_passHourByDraws 62 = .ok (.iastore, 1) := by decide +kernel
theorem d_C_passHourByDraws_63 : decode b_C_passHourByDraws 63 = .ok (.aload_n 0, 1) := by decide +kernel
theorem d_C_passHourByDraws_64 : decode b_C_passHourByDraws 64 = .ok (.invokevirtual 76, 3) := by decide +kernel
theorem d_C_passHourByDraws_67 : decode b_C_passHourByDraws 67 = .ok (.return_, 1) := by decide +kernel
theorem d_C_allLoads_0 : decode b_C_allLoads 0 = .ok (.iconst 0, 1) := by decide +kernel
theorem d_C_allLoads_1 : decode b_C_allLoads 1 = .ok (.istore_n 1, 1) := by decide +kernel
theorem d_C_allLoads_2 : decode b_C_allLoads 2 = .ok (.iconst 0, 1) := by decide +kernel
theorem d_C_allLoads_3 : decode b_C_allLoads 3 = .ok (.istore_n 2, 1) := by decide +kernel
theorem d_C_allLoads_4 : decode b_C_allLoads 4 = .ok (.iload_n 2, 1) := by decide +kernel
theorem d_C_allLoads_5 : decode b_C_allLoads 5 = .ok (.aload_n 0, 1) := by decide +kernel
theorem d_C_allLoads_6 : decode b_C_allLoads 6 = .ok (.getfield 36, 3) := by decide +kernel
theorem d_C_allLoads_9 : decode b_C_allLoads 9 = .ok (.if_icmp .ge 24, 3) := by decide +kernel
theorem d_C_allLoads_12 : decode b_C_allLoads 12 = .ok (.iload_n 2, 1) := by decide +kernel
theorem d_C_allLoads_13 : decode b_C_allLoads 13 = .ok (.bipush 8, 2) := by decide +kernel
theorem d_C_allLoads_15 : decode b_C_allLoads 15 = .ok (.if_icmp .ge 18, 3) := by decide +kernel
theorem d_C_allLoads_18 : decode b_C_allLoads 18 = .ok (.iload_n 1, 1) := by decide +kernel
theorem d_C_allLoads_19 : decode b_C_allLoads 19 = .ok (.aload_n 0, 1) := by decide +kernel
theorem d_C_allLoads_20 : decode b_C_allLoads 20 = .ok (.getfield 24, 3) := by decide +kernel
theorem d_C_allLoads_23 : decode b_C_allLoads 23 = .ok (.iload_n 2, 1) := by decide +kernel
theorem d_C_allLoads_24 : decode b_C_allLoads 24 = .ok (.iaload, 1) := by decide +kernel
theorem d_C_allLoads_25 : decode b_C_allLoads 25 = .ok (.iadd, 1) := by decide +kernel
theorem d_C_allLoads_26 : decode b_C_allLoads 26 = .ok (.istore_n 1, 1) := by decide +kernel
theorem d_C_allLoads_27 : decode b_C_allLoads 27 = .ok (.iinc 2 1, 3) := by decide +kernel
theorem d_C_allLoads_30 : decode b_C_allLoads 30 = .ok (.goto (-26), 3) := by decide +kernel
theorem d_C_allLoads_33 : decode b_C_allLoads 33 = .ok (.iload_n 1, 1) := by decide +kernel
theorem d_C_allLoads_34 : decode b_C_allLoads 34 = .ok (.ireturn, 1) := by decide +kernel
theorem d_C_allLost_0 : decode b_C_allLost 0 = .ok (.iconst 0, 1) := by decide +kernel
theorem d_C_allLost_1 : decode b_C_allLost 1 = .ok (.istore_n 1, 1) := by decide +kernel
theorem d_C_allLost_2 : decode b_C_allLost 2 = .ok (.iconst 0, 1) := by decide +kernel
theorem d_C_allLost_3 : decode b_C_allLost 3 = .ok (.istore_n 2, 1) := by decide +kernel
theorem d_C_allLost_4 : decode b_C_allLost 4 = .ok (.iload_n 2, 1) := by decide +kernel
theorem d_C_allLost_5 : decode b_C_allLost 5 = .ok (.bipush 10, 2) := by decide +kernel
theorem d_C_allLost_7 : decode b_C_allLost 7 = .ok (.if_icmp .ge 18, 3) := by decide +kernel
theorem d_C_allLost_10 : decode b_C_allLost 10 = .ok (.iload_n 1, 1) := by decide +kernel
theorem d_C_allLost_11 : decode b_C_allLost 11 = .ok (.aload_n 0, 1) := by decide +kernel
theorem d_C_allLost_12 : decode b_C_allLost 12 = .ok (.getfield 18, 3) := by decide +kernel
theorem d_C_allLost_15 : decode b_C_allLost 15 = .ok (.iload_n 2, 1) := by decide +kernel
theorem d_C_allLost_16 : decode b_C_allLost 16 = .ok (.iaload, 1) := by decide +kernel
theorem d_C_allLost_17 : decode b_C_allLost 17 = .ok (.iadd, 1) := by decide +kernel
theorem d_C_allLost_18 : decode b_C_allLost 18 = .ok (.istore_n 1, 1) := by decide +kernel
theorem d_C_allLost_19 : decode b_C_allLost 19 = .ok (.iinc 2 1, 3) := by decide +kernel
theorem d_C_allLost_22 : decode b_C_allLost 22 = .ok (.goto (-18), 3) := by decide +kernel
theorem d_C_allLost_25 : decode b_C_allLost 25 = .ok (.iload_n 1, 1) := by decide +kernel
theorem d_C_allLost_26 : decode b_C_allLost 26 = .ok (.ireturn, 1) := by decide +kernel
theorem d_C_usedLocks_0 : decode b_C_usedLocks 0 = .ok (.iconst 0, 1) := by decide +kernel
theorem d_C_usedLocks_1 : decode b_C_usedLocks 1 = .ok (.istore_n 1, 1) := by decide +kernel
theorem d_C_usedLocks_2 : decode b_C_usedLocks 2 = .ok (.iconst 0, 1) := by decide +kernel
theorem d_C_usedLocks_3 : decode b_C_usedLocks 3 = .ok (.istore_n 2, 1) := by decide +kernel
theorem d_C_usedLocks_4 : decode b_C_usedLocks 4 = .ok (.iload_n 2, 1) := by decide +kernel
theorem d_C_usedLocks_5 : decode b_C_usedLocks 5 = .ok (.aload_n 0, 1) := by decide +kernel
theorem d_C_usedLocks_6 : decode b_C_usedLocks 6 = .ok (.getfield 36, 3) := by decide +kernel
theorem d_C_usedLocks_9 : decode b_C_usedLocks 9 = .ok (.if_icmp .ge 26, 3) := by decide +kernel
theorem d_C_usedLocks_12 : decode b_C_usedLocks 12 = .ok (.iload_n 2, 1) := by decide +kernel
theorem d_C_usedLocks_13 : decode b_C_usedLocks 13 = .ok (.bipush 8, 2) := by decide +kernel
theorem d_C_usedLocks_15 : decode b_C_usedLocks 15 = .ok (.if_icmp .ge 20, 3) := by decide +kernel
theorem d_C_usedLocks_18 : decode b_C_usedLocks 18 = .ok (.iload_n 1, 1) := by decide +kernel
theorem d_C_usedLocks_19 : decode b_C_usedLocks 19 = .ok (.iconst 1, 1) := by decide +kernel
theorem d_C_usedLocks_20 : decode b_C_usedLocks 20 = .ok (.aload_n 0, 1) := by decide +kernel
theorem d_C_usedLocks_21 : decode b_C_usedLocks 21 = .ok (.getfield 30, 3) := by decide +kernel
theorem d_C_usedLocks_24 : decode b_C_usedLocks 24 = .ok (.iload_n 2, 1) := by decide +kernel
theorem d_C_usedLocks_25 : decode b_C_usedLocks 25 = .ok (.iaload, 1) := by decide +kernel
theorem d_C_usedLocks_26 : decode b_C_usedLocks 26 = .ok (.ishl, 1) := by decide +kernel
theorem d_C_usedLocks_27 : decode b_C_usedLocks 27 = .ok (.ior, 1) := by decide +kernel
theorem d_C_usedLocks_28 : decode b_C_usedLocks 28 = .ok (.istore_n 1, 1) := by decide +kernel
theorem d_C_usedLocks_29 : decode b_C_usedLocks 29 = .ok (.iinc 2 1, 3) := by decide +kernel
theorem d_C_usedLocks_32 : decode b_C_usedLocks 32 = .ok (.goto (-28), 3) := by decide +kernel
theorem d_C_usedLocks_35 : decode b_C_usedLocks 35 = .ok (.iload_n 1, 1) := by decide +kernel
theorem d_C_usedLocks_36 : decode b_C_usedLocks 36 = .ok (.ireturn, 1) := by decide +kernel
theorem d_C_bargesAt_0 : decode b_C_bargesAt 0 = .ok (.iconst 0, 1) := by decide +kernel
theorem d_C_bargesAt_1 : decode b_C_bargesAt 1 = .ok (.istore_n 2, 1) := by decide +kernel
theorem d_C_bargesAt_2 : decode b_C_bargesAt 2 = .ok (.iconst 0, 1) := by decide +kernel
theorem d_C_bargesAt_3 : decode b_C_bargesAt 3 = .ok (.istore_n 3, 1) := by decide +kernel
theorem d_C_bargesAt_4 : decode b_C_bargesAt 4 = .ok (.iload_n 3, 1) := by decide +kernel
theorem d_C_bargesAt_5 : decode b_C_bargesAt 5 = .ok (.aload_n 0, 1) := by decide +kernel
theorem d_C_bargesAt_6 : decode b_C_bargesAt 6 = .ok (.getfield 36, 3) := by decide +kernel
theorem d_C_bargesAt_9 : decode b_C_bargesAt 9 = .ok (.if_icmp .ge 31, 3) := by decide +kernel
theorem d_C_bargesAt_12 : decode b_C_bargesAt 12 = .ok (.iload_n 3, 1) := by decide +kernel
theorem d_C_bargesAt_13 : decode b_C_bargesAt 13 = .ok (.bipush 8, 2) := by decide +kernel
theorem d_C_bargesAt_15 : decode b_C_bargesAt 15 = .ok (.if_icmp .ge 25, 3) := by decide +kernel
theorem d_C_bargesAt_18 : decode b_C_bargesAt 18 = .ok (.aload_n 0, 1) := by decide +kernel
theorem d_C_bargesAt_19 : decode b_C_bargesAt 19 = .ok (.getfield 30, 3) := by decide +kernel
theorem d_C_bargesAt_22 : decode b_C_bargesAt 22 = .ok (.iload_n 3, 1) := by decide +kernel
theorem d_C_bargesAt_23 : decode b_C_bargesAt 23 = .ok (.iaload, 1) := by decide +kernel
theorem d_C_bargesAt_24 : decode b_C_bargesAt 24 = .ok (.iload_n 1, 1) := by decide +kernel
theorem d_C_bargesAt_25 : decode b_C_bargesAt 25 = .ok (.if_icmp .ne 9, 3) := by decide +kernel
theorem d_C_bargesAt_28 : decode b_C_bargesAt 28 = .ok (.iload_n 2, 1) := by decide +kernel
theorem d_C_bargesAt_29 : decode b_C_bargesAt 29 = .ok (.iconst 1, 1) := by decide +kernel
theorem d_C_bargesAt_30 : decode b_C_bargesAt 30 = .ok (.iload_n 3, 1) := by decide +kernel
theorem d_C_bargesAt_31 : decode b_C_bargesAt 31 = .ok (.ishl, 1) := by decide +kernel
theorem d_C_bargesAt_32 : decode b_C_bargesAt 32 = .ok (.ior, 1) := by decide +kernel
theorem d_C_bargesAt_33 : decode b_C_bargesAt 33 = .ok (.istore_n 2, 1) := by decide +kernel
theorem d_C_bargesAt_34 : decode b_C_bargesAt 34 = .ok (.iinc 3 1, 3) := by decide +kernel
theorem d_C_bargesAt_37 : decode b_C_bargesAt 37 = .ok (.goto (-33), 3) := by decide +kernel
theorem d_C_bargesAt_40 : decode b_C_bargesAt 40 = .ok (.iload_n 2, 1) := by decide +kernel
theorem d_C_bargesAt_41 : decode b_C_bargesAt 41 = .ok (.ireturn, 1) := by decide +kernel
theorem d_C_loudest_0 : decode b_C_loudest 0 = .ok (.bipush 10, 2) := by decide +kernel
theorem d_C_loudest_2 : decode b_C_loudest 2 = .ok (.istore_n 1, 1) := by decide +kernel
theorem d_C_loudest_3 : decode b_C_loudest 3 = .ok (.iconst 0, 1) := by decide +kernel
theorem d_C_loudest_4 : decode b_C_loudest 4 = .ok (.istore_n 2, 1) := by decide +kernel
theorem d_C_loudest_5 : decode b_C_loudest 5 = .ok (.iconst 0, 1) := by decide +kernel
theorem d_C_loudest_6 : decode b_C_loudest 6 = .ok (.istore_n 3, 1) := by decide +kernel
theorem d_C_loudest_7 : decode b_C_loudest 7 = .ok (.iload_n 3, 1) := by decide +kernel
theorem d_C_loudest_8 : decode b_C_loudest 8 = .ok (.bipush 10, 2) := by decide +kernel
theorem d_C_loudest_10 : decode b_C_loudest 10 = .ok (.if_icmp .ge 28, 3) := by decide +kernel
theorem d_C_loudest_13 : decode b_C_loudest 13 = .ok (.aload_n 0, 1) := by decide +kernel
theorem d_C_loudest_14 : decode b_C_loudest 14 = .ok (.getfield 18, 3) := by decide +kernel
theorem d_C_loudest_17 : decode b_C_loudest 17 = .ok (.iload_n 3, 1) := by decide +kernel
theorem d_C_loudest_18 : decode b_C_loudest 18 = .ok (.iaload, 1) := by decide +kernel
theorem d_C_loudest_19 : decode b_C_loudest 19 = .ok (.iload_n 2, 1) := by decide +kernel
theorem d_C_loudest_20 : decode b_C_loudest 20 = .ok (.if_icmp .le 12, 3) := by decide +kernel
theorem d_C_loudest_23 : decode b_C_loudest 23 = .ok (.aload_n 0, 1) := by decide +kernel
theorem d_C_loudest_24 : decode b_C_loudest 24 = .ok (.getfield 18, 3) := by decide +kernel
theorem d_C_loudest_27 : decode b_C_loudest 27 = .ok (.iload_n 3, 1) := by decide +kernel
theorem d_C_loudest_28 : decode b_C_loudest 28 = .ok (.iaload, 1) := by decide +kernel
theorem d_C_loudest_29 : decode b_C_loudest 29 = .ok (.istore_n 2, 1) := by decide +kernel
theorem d_C_loudest_30 : decode b_C_loudest 30 = .ok (.iload_n 3, 1) := by decide +kernel
theorem d_C_loudest_31 : decode b_C_loudest 31 = .ok (.istore_n 1, 1) := by decide +kernel
theorem d_C_loudest_32 : decode b_C_loudest 32 = .ok (.iinc 3 1, 3) := by decide +kernel
theorem d_C_loudest_35 : decode b_C_loudest 35 = .ok (.goto (-28), 3) := by decide +kernel
theorem d_C_loudest_38 : decode b_C_loudest 38 = .ok (.iload_n 1, 1) := by decide +kernel
theorem d_C_loudest_39 : decode b_C_loudest 39 = .ok (.ireturn, 1) := by decide +kernel
theorem d_C_locksWithLoss_0 : decode b_C_locksWithLoss 0 = .ok (.iconst 0, 1) := by decide +kernel
theorem d_C_locksWithLoss_1 : decode b_C_locksWithLoss 1 = .ok (.istore_n 1, 1) := by decide +kernel
theorem d_C_locksWithLoss_2 : decode b_C_locksWithLoss 2 = .ok (.iconst 0, 1) := by decide +kernel
theorem d_C_locksWithLoss_3 : decode b_C_locksWithLoss 3 = .ok (.istore_n 2, 1) := by decide +kernel
theorem d_C_locksWithLoss_4 : decode b_C_locksWithLoss 4 = .ok (.iload_n 2, 1) := by decide +kernel
theorem d_C_locksWithLoss_5 : decode b_C_locksWithLoss 5 = .ok (.bipush 10, 2) := by decide +kernel
theorem d_C_locksWithLoss_7 : decode b_C_locksWithLoss 7 = .ok (.if_icmp .ge 21, 3) := by decide +kernel
theorem d_C_locksWithLoss_10 : decode b_C_locksWithLoss 10 = .ok (.aload_n 0, 1) := by decide +kernel
theorem d_C_locksWithLoss_11 : decode b_C_locksWithLoss 11 = .ok (.getfield 18, 3) := by decide +kernel
theorem d_C_locksWithLoss_14 : decode b_C_locksWithLoss 14 = .ok (.iload_n 2, 1) := by decide +kernel
theorem d_C_locksWithLoss_15 : decode b_C_locksWithLoss 15 = .ok (.iaload, 1) := by decide +kernel
theorem d_C_locksWithLoss_16 : decode b_C_locksWithLoss 16 = .ok (.ifCond .le 6, 3) := by decide +kernel
theorem d_C_locksWithLoss_19 : decode b_C_locksWithLoss 19 = .ok (.iinc 1 1, 3) := by decide +kernel
theorem d_C_locksWithLoss_22 : decode b_C_locksWithLoss 22 = .ok (.iinc 2 1, 3) := by decide +kernel
theorem d_C_locksWithLoss_25 : decode b_C_locksWithLoss 25 = .ok (.goto (-21), 3) := by decide +kernel
theorem d_C_locksWithLoss_28 : decode b_C_locksWithLoss 28 = .ok (.iload_n 1, 1) := by decide +kernel
theorem d_C_locksWithLoss_29 : decode b_C_locksWithLoss 29 = .ok (.ireturn, 1) := by decide +kernel
theorem d_C_loudOnTheWay_0 : decode b_C_loudOnTheWay 0 = .ok (.iconst 0, 1) := by decide +kernel
theorem d_C_loudOnTheWay_1 : decode b_C_loudOnTheWay 1 = .ok (.istore_n 1, 1) := by decide +kernel
theorem d_C_loudOnTheWay_2 : decode b_C_loudOnTheWay 2 = .ok (.iconst 0, 1) := by decide +kernel
theorem d_C_loudOnTheWay_3 : decode b_C_loudOnTheWay 3 = .ok (.istore_n 2, 1) := by decide +kernel
theorem d_C_loudOnTheWay_4 : decode b_C_loudOnTheWay 4 = .ok (.iload_n 2, 1) := by decide +kernel
theorem d_C_loudOnTheWay_5 : decode b_C_loudOnTheWay 5 = .ok (.aload_n 0, 1) := by decide +kernel
theorem d_C_loudOnTheWay_6 : decode b_C_loudOnTheWay 6 = .ok (.getfield 36, 3) := by decide +kernel
theorem d_C_loudOnTheWay_9 : decode b_C_loudOnTheWay 9 = .ok (.if_icmp .ge 91, 3) := by decide +kernel
theorem d_C_loudOnTheWay_12 : decode b_C_loudOnTheWay 12 = .ok (.iload_n 2, 1) := by decide +kernel
theorem d_C_loudOnTheWay_13 : decode b_C_loudOnTheWay 13 = .ok (.bipush 8, 2) := by decide +kernel
theorem d_C_loudOnTheWay_15 : decode b_C_loudOnTheWay 15 = .ok (.if_icmp .ge 85, 3) := by decide +kernel
theorem d_C_loudOnTheWay_18 : decode b_C_loudOnTheWay 18 = .ok (.aload_n 0, 1) := by decide +kernel
theorem d_C_loudOnTheWay_19 : decode b_C_loudOnTheWay 19 = .ok (.getfield 30, 3) := by decide +kernel
theorem d_C_loudOnTheWay_22 : decode b_C_loudOnTheWay 22 = .ok (.iload_n 2, 1) := by decide +kernel
theorem d_C_loudOnTheWay_23 : decode b_C_loudOnTheWay 23 = .ok (.iaload, 1) := by decide +kernel
theorem d_C_loudOnTheWay_24 : decode b_C_loudOnTheWay 24 = .ok (.aload_n 0, 1) := by decide +kernel
theorem d_C_loudOnTheWay_25 : decode b_C_loudOnTheWay 25 = .ok (.getfield 33, 3) := by decide +kernel
theorem d_C_loudOnTheWay_28 : decode b_C_loudOnTheWay 28 = .ok (.iload_n 2, 1) := by decide +kernel
theorem d_C_loudOnTheWay_29 : decode b_C_loudOnTheWay 29 = .ok (.iaload, 1) := by decide +kernel
theorem d_C_loudOnTheWay_30 : decode b_C_loudOnTheWay 30 = .ok (.invokestatic 107, 3) := by decide +kernel
theorem d_C_loudOnTheWay_33 : decode b_C_loudOnTheWay 33 = .ok (.istore_n 3, 1) := by decide +kernel
theorem d_C_loudOnTheWay_34 : decode b_C_loudOnTheWay 34 = .ok (.aload_n 0, 1) := by decide +kernel
theorem d_C_loudOnTheWay_35 : decode b_C_loudOnTheWay 35 = .ok (.getfield 30, 3) := by decide +kernel
theorem d_C_loudOnTheWay_38 : decode b_C_loudOnTheWay 38 = .ok (.iload_n 2, 1) := by decide +kernel
theorem d_C_loudOnTheWay_39 : decode b_C_loudOnTheWay 39 = .ok (.iaload, 1) := by decide +kernel
theorem d_C_loudOnTheWay_40 : decode b_C_loudOnTheWay 40 = .ok (.aload_n 0, 1) := by decide +kernel
theorem d_C_loudOnTheWay_41 : decode b_C_loudOnTheWay 41 = .ok (.getfield 33, 3) := by decide +kernel
theorem d_C_loudOnTheWay_44 : decode b_C_loudOnTheWay 44 = .ok (.iload_n 2, 1) := by decide +kernel
theorem d_C_loudOnTheWay_45 : decode b_C_loudOnTheWay 45 = .ok (.iaload, 1) := by decide +kernel
theorem d_C_loudOnTheWay_46 : decode b_C_loudOnTheWay 46 = .ok (.invokestatic 116, 3) := by decide +kernel
theorem d_C_loudOnTheWay_49 : decode b_C_loudOnTheWay 49 = .ok (.istore 4, 2) := by decide +kernel
theorem d_C_loudOnTheWay_51 : decode b_C_loudOnTheWay 51 = .ok (.iload_n 3, 1) := by decide +kernel
theorem d_C_loudOnTheWay_52 : decode b_C_loudOnTheWay 52 = .ok (.istore 5, 2) := by decide +kernel
theorem d_C_loudOnTheWay_54 : decode b_C_loudOnTheWay 54 = .ok (.iload 5, 2) := by decide +kernel
theorem d_C_loudOnTheWay_56 : decode b_C_loudOnTheWay 56 = .ok (.iload 4, 2) := by decide +kernel
theorem d_C_loudOnTheWay_58 : decode b_C_loudOnTheWay 58 = .ok (.if_icmp .gt 36, 3) := by decide +kernel
theorem d_C_loudOnTheWay_61 : decode b_C_loudOnTheWay 61 = .ok (.iload 5, 2) := by decide +kernel
theorem d_C_loudOnTheWay_63 : decode b_C_loudOnTheWay 63 = .ok (.aload_n 0, 1) := by decide +kernel
theorem d_C_loudOnTheWay_64 : decode b_C_loudOnTheWay 64 = .ok (.getfield 30, 3) := by decide +kernel
theorem d_C_loudOnTheWay_67 : decode b_C_loudOnTheWay 67 = .ok (.iload_n 2, 1) := by decide +kernel
theorem d_C_loudOnTheWay_68 : decode b_C_loudOnTheWay 68 = .ok (.iaload, 1) := by decide +kernel
theorem d_C_loudOnTheWay_69 : decode b_C_loudOnTheWay 69 = .ok (.if_icmp .eq 19, 3) := by decide +kernel
theorem d_C_loudOnTheWay_72 : decode b_C_loudOnTheWay 72 = .ok (.aload_n 0, 1) := by decide +kernel
theorem d_C_loudOnTheWay_73 : decode b_C_loudOnTheWay 73 = .ok (.iload 5, 2) := by decide +kernel
theorem d_C_loudOnTheWay_75 : decode b_C_loudOnTheWay 75 = .ok (.invokevirtual 93, 3) := by decide +kernel
theorem d_C_loudOnTheWay_78 : decode b_C_loudOnTheWay 78 = .ok (.ifCond .le 10, 3) := by decide +kernel
theorem d_C_loudOnTheWay_81 : decode b_C_loudOnTheWay 81 = .ok (.iload_n 1, 1) := by decide +kernel
theorem d_C_loudOnTheWay_82 : decode b_C_loudOnTheWay 82 = .ok (.iconst 1, 1) := by decide +kernel
theorem d_C_loudOnTheWay_83 : decode b_C_loudOnTheWay 83 = .ok (.iload 5, 2) := by decide +kernel
theorem d_C_loudOnTheWay_85 : decode b_C_loudOnTheWay 85 = .ok (.ishl, 1) := by decide +kernel
theorem d_C_loudOnTheWay_86 : decode b_C_loudOnTheWay 86 = .ok (.ior, 1) := by decide +kernel
theorem d_C_loudOnTheWay_87 : decode b_C_loudOnTheWay 87 = .ok (.istore_n 1, 1) := by decide +kernel
theorem d_C_loudOnTheWay_88 : decode b_C_loudOnTheWay 88 = .ok (.iinc 5 1, 3) := by decide +kernel
theorem d_C_loudOnTheWay_91 : decode b_C_loudOnTheWay 91 = .ok (.goto (-37), 3) := by decide +kernel
theorem d_C_loudOnTheWay_94 : decode b_C_loudOnTheWay 94 = .ok (.iinc 2 1, 3) := by decide +kernel
theorem d_C_loudOnTheWay_97 : decode b_C_loudOnTheWay 97 = .ok (.goto (-93), 3) := by decide +kernel
theorem d_C_loudOnTheWay_100 : decode b_C_loudOnTheWay 100 = .ok (.iload_n 1, 1) := by decide +kernel
theorem d_C_loudOnTheWay_101 : decode b_C_loudOnTheWay 101 = .ok (.ireturn, 1) := by decide +kernel
end
section
def wp_X_isLock (x0 : Int32) (post : Int32 → Prop) : Prop :=
  ((x0 < 0) → (post 0 )) ∧ ((¬ x0 < 0) → (((10 ≤ x0) → (post 0 )) ∧ ((¬ 10 ≤ x0) → (post 1 ))))
set_option maxRecDepth 20000 in
theorem g_X_isLock {X : GX} (C : GC X b_X_isLock R_X 1 (rmd 0)) {Qp : Option Value → va_W → Prop} (q : RC X ((some .boolean)) Qp 0 0) (x0 : Int32) (post : Int32 → Prop) (hq : ∀ v, post v → Qp (some (.int v)) []) (hw : wp_X_isLock x0 post) : G X 0 0 ([]) [(0, .int x0)] [] 0 := by
  unfold wp_X_isLock at hw
  refine g_iload_n (pc := 0) C d_X_isLock_0 0 rfl rfl ?_
  refine g_if_lt (pc := 1) (tgt := 14) C d_X_isLock_1 (by decide) (fun h2 => ?_) (fun h2 => ?_)
  · replace hw := hw.1 h2
    refine g_iconst (pc := 14) C (v := 0) d_X_isLock_14 (by decide) ?_
    exact g_zret (pc := 15) C q d_X_isLock_15 (by decide) (hq _ hw)
  · replace hw := hw.2 h2
    refine g_iload_n (pc := 4) C d_X_isLock_4 0 rfl rfl ?_
    refine g_bipush (pc := 5) C (v := 10) d_X_isLock_5 (by decide) ?_
    refine g_icmp_ge (pc := 7) (tgt := 14) C d_X_isLock_7 (by decide) (fun h1 => ?_) (fun h1 => ?_)
    · replace hw := hw.1 h1
      refine g_iconst (pc := 14) C (v := 0) d_X_isLock_14 (by decide) ?_
      exact g_zret (pc := 15) C q d_X_isLock_15 (by decide) (hq _ hw)
    · replace hw := hw.2 h1
      refine g_iconst (pc := 10) C (v := 1) d_X_isLock_10 (by decide) ?_
      refine g_goto (pc := 11) (tgt := 15) C d_X_isLock_11 (by decide) ?_
      exact g_zret (pc := 15) C q d_X_isLock_15 (by decide) (hq _ hw)
set_option maxRecDepth 20000 in
theorem c_X_isLock (l : Launch) (D : va_G) (t : Nat → ClassId) (ev : Nat → Nat) (x0 : Int32) (post : Int32 → Prop) (hw : wp_X_isLock x0 post) : Con l D t ev y_X_isLock b_X_isLock 1 ((some .boolean)) 0 ([]) [.int x0] (qI (fun _ : Unit => [])  (fun v _ => post v)) :=
  ConR.of (by decide +kernel) (Nat.le_of_ble_eq_true rfl) (fun X el eD et ee C q _ => by subst el; subst eD; subst et; subst ee; exact g_X_isLock C q x0 post (fun v h => ⟨⟨v, (), rfl, rfl, h⟩, rfl⟩) hw)
def wp_X_heldLoad (x0 : Int32) (post : Int32 → Prop) : Prop :=
  ((0 ≤ x0) → (((x0 ≤ 99) → (post x0 )) ∧ ((¬ x0 ≤ 99) → (post 99 )))) ∧ ((¬ 0 ≤ x0) → (post 0 ))
set_option maxRecDepth 20000 in
theorem g_X_heldLoad {X : GX} (C : GC X b_X_heldLoad R_X 1 (rmd 0)) {Qp : Option Value → va_W → Prop} (q : RC X ((some .int)) Qp 0 0) (x0 : Int32) (post : Int32 → Prop) (hq : ∀ v, post v → Qp (some (.int v)) []) (hw : wp_X_heldLoad x0 post) : G X 0 0 ([]) [(0, .int x0)] [] 0 := by
  unfold wp_X_heldLoad at hw
  refine g_iload_n (pc := 0) C d_X_heldLoad_0 0 rfl rfl ?_
  refine g_if_ge (pc := 1) (tgt := 8) C d_X_heldLoad_1 (by decide) (fun h2 => ?_) (fun h2 => ?_)
  · replace hw := hw.1 h2
    refine g_iload_n (pc := 8) C d_X_heldLoad_8 0 rfl rfl ?_
    refine g_bipush (pc := 9) C (v := 99) d_X_heldLoad_9 (by decide) ?_
    refine g_icmp_le (pc := 11) (tgt := 19) C d_X_heldLoad_11 (by decide) (fun h1 => ?_) (fun h1 => ?_)
    · replace hw := hw.1 h1
      refine g_iload_n (pc := 19) C d_X_heldLoad_19 0 rfl rfl ?_
      exact g_iret (pc := 20) C q d_X_heldLoad_20 (hq _ hw)
    · replace hw := hw.2 h1
      refine g_bipush (pc := 14) C (v := 99) d_X_heldLoad_14 (by decide) ?_
      refine g_goto (pc := 16) (tgt := 20) C d_X_heldLoad_16 (by decide) ?_
      exact g_iret (pc := 20) C q d_X_heldLoad_20 (hq _ hw)
  · replace hw := hw.2 h2
    refine g_iconst (pc := 4) C (v := 0) d_X_heldLoad_4 (by decide) ?_
    refine g_goto (pc := 5) (tgt := 20) C d_X_heldLoad_5 (by decide) ?_
    exact g_iret (pc := 20) C q d_X_heldLoad_20 (hq _ hw)
set_option maxRecDepth 20000 in
theorem c_X_heldLoad (l : Launch) (D : va_G) (t : Nat → ClassId) (ev : Nat → Nat) (x0 : Int32) (post : Int32 → Prop) (hw : wp_X_heldLoad x0 post) : Con l D t ev y_X_heldLoad b_X_heldLoad 1 ((some .int)) 0 ([]) [.int x0] (qI (fun _ : Unit => [])  (fun v _ => post v)) :=
  ConR.of (by decide +kernel) (Nat.le_of_ble_eq_true rfl) (fun X el eD et ee C q _ => by subst el; subst eD; subst et; subst ee; exact g_X_heldLoad C q x0 post (fun v h => ⟨⟨v, (), rfl, rfl, h⟩, rfl⟩) hw)
def w_JA_fill_5 (N : Nat) (post : (Nat → Int32) → Prop)  : Nat → (Nat → Int32) → Int32 → Int32 → Int32 → Prop
  | 0, _, _, _, _ => False
  | n + 1, f, x1, x2, x3 =>
    ((x3 ≤ x2) → (post f)) ∧ ((¬ x3 ≤ x2) → (vp_in x2 N ∧ (∀ y2 : Int32, y2 = x2 + 1 → (w_JA_fill_5 N post  n (upd f x2.toNatClampNeg x1) x1 y2 x3))))
set_option maxRecDepth 20000 in
theorem j_JA_fill_5 {X : GX} (C : GC X b_JA_fill R_JA 4 (rmd 0)) {Qp : Option Value → va_W → Prop} (q : RC X (none) Qp 0 0) (a : Nat → Nat) (N : Nat)  (post : (Nat → Int32) → Prop) (hq : ∀ c1, post c1 → Qp none ([(a 0, .inl ((xt X) 2, N, .inl c1))])) : ∀ (n : Nat) (f : (Nat → Int32)) (x1 : Int32) (x2 : Int32) (x3 : Int32), w_JA_fill_5 N post  n f x1 x2 x3 → G X 0 0 ([(a 0, .inl ((xt X) 2, N, .inl f))]) [(0, .ref (a 0)), (1, .int x1), (2, .int x2), (3, .int x3)] [] 5 := by
  intro n
  induction n with
  | zero => intro f x1 x2 x3 hw; exact hw.elim
  | succ n ih =>
    intro f x1 x2 x3 hw
    rw [w_JA_fill_5] at hw
    refine g_iload_n (pc := 5) C d_JA_fill_5 2 rfl rfl ?_
    refine g_iload_n (pc := 6) C d_JA_fill_6 3 rfl rfl ?_
    refine g_icmp_ge (pc := 7) (tgt := 20) C d_JA_fill_7 (by decide) (fun h3 => ?_) (fun h3 => ?_)
    · replace hw := hw.1 h3
      exact g_vret (pc := 20) C q d_JA_fill_20 (hq f hw)
    · replace hw := hw.2 h3
      refine g_aload_n (pc := 10) C d_JA_fill_10 0 rfl rfl ?_
      refine g_iload_n (pc := 11) C d_JA_fill_11 2 rfl rfl ?_
      refine g_iload_n (pc := 12) C d_JA_fill_12 1 rfl rfl ?_
      obtain ⟨h1, hw⟩ := hw
      refine g_iastore (pc := 13) C 0 (f := f) d_JA_fill_13 rfl h1 (ws' := [(a 0, .inl ((xt X) 2, N, .inl (upd f x2.toNatClampNeg x1)))]) rfl ?_
      obtain ⟨y2, ey2⟩ : ∃ w, w = x2 + 1 := ⟨_, rfl⟩
      replace hw := hw y2 ey2
      refine g_iinc (pc := 14) C d_JA_fill_14 2 rfl (v := y2) (by rw [ey2]; rfl) (Nat.le_of_ble_eq_true rfl) (lv' := [(0, .ref (a 0)), (1, .int x1), (2, .int y2), (3, .int x3)]) rfl ?_
      refine g_goto (pc := 17) (tgt := 5) C d_JA_fill_17 (by decide) ?_
      exact ih (upd f x2.toNatClampNeg x1) x1 y2 x3 hw
def wp_JA_fill (N : Nat) (f : (Nat → Int32)) (x1 : Int32) (post : (Nat → Int32) → Prop) : Prop :=
  w_JA_fill_5 N post  2000 f x1 0 (Int32.ofNat N)
set_option maxRecDepth 20000 in
theorem g_JA_fill {X : GX} (C : GC X b_JA_fill R_JA 4 (rmd 0)) {Qp : Option Value → va_W → Prop} (q : RC X (none) Qp 0 0) (a : Nat → Nat) (N : Nat) (f : (Nat → Int32)) (x1 : Int32) (post : (Nat → Int32) → Prop) (hq : ∀ c1, post c1 → Qp none ([(a 0, .inl ((xt X) 2, N, .inl c1))])) (hw : wp_JA_fill N f x1 post) : G X 0 0 ([(a 0, .inl ((xt X) 2, N, .inl f))]) [(0, .ref (a 0)), (1, .int x1)] [] 0 := by
  unfold wp_JA_fill at hw
  refine g_iconst (pc := 0) C (v := 0) d_JA_fill_0 (by decide) ?_
  refine g_istore_n (pc := 1) C d_JA_fill_1 rfl (Nat.le_of_ble_eq_true rfl) (lv' := [(0, .ref (a 0)), (1, .int x1), (2, .int 0)]) rfl ?_
  refine g_aload_n (pc := 2) C d_JA_fill_2 0 rfl rfl ?_
  refine g_alen (pc := 3) C 0 2 (v := Int32.ofNat N) d_JA_fill_3 rfl rfl rfl ?_
  refine g_istore_n (pc := 4) C d_JA_fill_4 rfl (Nat.le_of_ble_eq_true rfl) (lv' := [(0, .ref (a 0)), (1, .int x1), (2, .int 0), (3, .int (Int32.ofNat N))]) rfl ?_
  exact j_JA_fill_5 C q a N post hq  2000 f x1 0 (Int32.ofNat N) hw
set_option maxRecDepth 20000 in
theorem c_JA_fill (l : Launch) (D : va_G) (t : Nat → ClassId) (ev : Nat → Nat) (a : Nat → Nat) (N : Nat) (f : (Nat → Int32)) (x1 : Int32) (post : (Nat → Int32) → Prop) (hw : wp_JA_fill N f x1 post) : Con l D t ev y_JA_fill b_JA_fill 4 (none) 0 ([(a 0, .inl (t 2, N, .inl f))]) [.ref (a 0), .int x1] (qV (fun f => [(a 0, .inl (t 2, N, .inl f))])  post) :=
  ConR.of (by decide +kernel) (Nat.le_of_ble_eq_true rfl) (fun X el eD et ee C q _ => by subst el; subst eD; subst et; subst ee; exact g_JA_fill C q a N f x1 post (fun c1 h => ⟨⟨c1, rfl, rfl, h⟩, rfl⟩) hw)
def wp_C_clearAllButDraws (c : CSt) (post : CSt → Prop) : Prop :=
  wp_JA_fill 10 (C_noise c) 2 (fun f_1 => wp_JA_fill 10 (C_lost c) 0 (fun f_2 => post (C_hour_ (C_count_ (C_lost_ (C_noise_ (C_laws_ c (va_cpy (fun j => tbFirst.getD j 0) (C_laws c) 0 0 4)) f_1) f_2) 0) 0)))
set_option maxRecDepth 20000 in
theorem g_C_clearAllButDraws {X : GX} (C : GC X b_C_clearAllButDraws R_C 1 (rmd 1)) {Qp : Option Value → va_W → Prop} (q : RC X (none) Qp 0 0) (a : Nat → Nat) (c : CSt) (post : CSt → Prop) (hq : ∀ c1, post c1 → Qp none (woC (xt X) a c1)) (hw : wp_C_clearAllButDraws c post) : G X 0 0 (woC (xt X) a c) [(0, .ref (a 0))] [] 0 := by
  unfold wp_C_clearAllButDraws at hw
  refine g_getsN (pc := 0) C C.2.2.2.2.2.2.2.1.1 lk_C_49 d_C_clearAllButDraws_0 ?_
  refine g_iconst (pc := 3) C (v := 0) d_C_clearAllButDraws_3 (by decide) ?_
  refine g_aload_n (pc := 4) C d_C_clearAllButDraws_4 0 rfl rfl ?_
  refine fC_laws (pc := 5) C lk_C_9 d_C_clearAllButDraws_5 ?_
  refine g_iconst (pc := 8) C (v := 0) d_C_clearAllButDraws_8 (by decide) ?_
  refine g_iconst (pc := 9) C (v := 4) d_C_clearAllButDraws_9 (by decide) ?_
  refine g_copyt (pc := 10) C C.2.2.2.2.2.2.2.1.1 1 (g := C_laws c) lk_C_52 d_C_clearAllButDraws_10 rfl (by decide) (by decide) ⟨Nat.le_of_ble_eq_true rfl, Nat.le_of_ble_eq_true rfl⟩ (Nat.le_of_ble_eq_true rfl) (ws' := woC (xt X) a (C_laws_ c (va_cpy (fun j => tbFirst.getD j 0) (C_laws c) 0 0 4))) rfl ?_
  refine g_aload_n (pc := 13) C d_C_clearAllButDraws_13 0 rfl rfl ?_
  refine fC_noise (pc := 14) C lk_C_15 d_C_clearAllButDraws_14 ?_
  refine g_iconst (pc := 17) C (v := 2) d_C_clearAllButDraws_17 (by decide) ?_
  refine k_V (pc := 18) (co_S C (c_JA_fill (xl X) (xD X) (xt X) (xv X) (fun _ => a 2) 10 (C_noise c) 2 _ hw) mw_JA_fill lk_C_58 d_C_clearAllButDraws_18 [2] (cC_C_noise (xt X) a a (C_laws_ c (va_cpy (fun j => tbFirst.getD j 0) (C_laws c) 0 0 4))) (by decide)  rfl rfl ⟨Nat.le_of_ble_eq_true rfl, Nat.le_of_ble_eq_true rfl⟩ ⟨Nat.le_of_ble_eq_true rfl, Nat.le_of_ble_eq_true rfl⟩ (rest := []) rfl rfl (Nat.le_of_ble_eq_true rfl)) (fun f_1 => woC (xt X) a (C_noise_ (C_laws_ c (va_cpy (fun j => tbFirst.getD j 0) (C_laws c) 0 0 4)) f_1)) (cS_C_noise (xt X) a a (C_laws_ c (va_cpy (fun j => tbFirst.getD j 0) (C_laws c) 0 0 4))) (fun f_1 hw => ?_)
  refine g_aload_n (pc := 21) C d_C_clearAllButDraws_21 0 rfl rfl ?_
  refine fC_lost (pc := 22) C lk_C_18 d_C_clearAllButDraws_22 ?_
  refine g_iconst (pc := 25) C (v := 0) d_C_clearAllButDraws_25 (by decide) ?_
  refine k_V (pc := 26) (co_S C (c_JA_fill (xl X) (xD X) (xt X) (xv X) (fun _ => a 3) 10 (C_lost c) 0 _ hw) mw_JA_fill lk_C_58 d_C_clearAllButDraws_26 [3] (cC_C_lost (xt X) a a (C_noise_ (C_laws_ c (va_cpy (fun j => tbFirst.getD j 0) (C_laws c) 0 0 4)) f_1)) (by decide)  rfl rfl ⟨Nat.le_of_ble_eq_true rfl, Nat.le_of_ble_eq_true rfl⟩ ⟨Nat.le_of_ble_eq_true rfl, Nat.le_of_ble_eq_true rfl⟩ (rest := []) rfl rfl (Nat.le_of_ble_eq_true rfl)) (fun f_2 => woC (xt X) a (C_lost_ (C_noise_ (C_laws_ c (va_cpy (fun j => tbFirst.getD j 0) (C_laws c) 0 0 4)) f_1) f_2)) (cS_C_lost (xt X) a a (C_noise_ (C_laws_ c (va_cpy (fun j => tbFirst.getD j 0) (C_laws c) 0 0 4)) f_1)) (fun f_2 hw => ?_)
  refine g_aload_n (pc := 29) C d_C_clearAllButDraws_29 0 rfl rfl ?_
  refine g_iconst (pc := 30) C (v := 0) d_C_clearAllButDraws_30 (by decide) ?_
  refine pC_count (pc := 31) C lk_C_36 d_C_clearAllButDraws_31   ?_
  refine g_aload_n (pc := 34) C d_C_clearAllButDraws_34 0 rfl rfl ?_
  refine g_iconst (pc := 35) C (v := 0) d_C_clearAllButDraws_35 (by decide) ?_
  refine pC_hour (pc := 36) C lk_C_40 d_C_clearAllButDraws_36   ?_
  exact g_vret (pc := 39) C q d_C_clearAllButDraws_39 (hq (C_hour_ (C_count_ (C_lost_ (C_noise_ (C_laws_ c (va_cpy (fun j => tbFirst.getD j 0) (C_laws c) 0 0 4)) f_1) f_2) 0) 0) hw)
set_option maxRecDepth 20000 in
theorem c_C_clearAllButDraws (l : Launch) (D : va_G) (t : Nat → ClassId) (ev : Nat → Nat) (a : Nat → Nat) (c : CSt) (post : CSt → Prop) (hw : wp_C_clearAllButDraws c post) : Con l D t ev y_C_clearAllButDraws b_C_clearAllButDraws 1 (none) 1 (woC t a c) [.ref (a 0)] (qV (woC t a)  post) :=
  ConR.of (by decide +kernel) (Nat.le_of_ble_eq_true rfl) (fun X el eD et ee C q _ => by subst el; subst eD; subst et; subst ee; exact g_C_clearAllButDraws C q a c post (fun c1 h => ⟨⟨c1, rfl, rfl, h⟩, rfl⟩) hw)
def wp_C_copyFrom (p : (CSt × CSt)) (post : (CSt × CSt) → Prop) : Prop :=
  post (C_heldBack_ (C_z_ (C_hour_ (C_count_ (C_bound_ (C_at_ (C_sort_ (C_load_ (C_kind_ (C_lost_ (C_noise_ (C_laws_ p.1 (va_cpy (C_laws p.2) (C_laws p.1) 0 0 4)) (va_cpy (C_noise p.2) (C_noise p.1) 0 0 10)) (va_cpy (C_lost p.2) (C_lost p.1) 0 0 10)) (va_cpy (C_kind p.2) (C_kind p.1) 0 0 8)) (va_cpy (C_load p.2) (C_load p.1) 0 0 8)) (va_cpy (C_sort p.2) (C_sort p.1) 0 0 8)) (va_cpy (C_at p.2) (C_at p.1) 0 0 8)) (va_cpy (C_bound p.2) (C_bound p.1) 0 0 8)) (C_count p.2)) (C_hour p.2)) (C_z p.2)) (-1), p.2)
set_option maxRecDepth 20000 in
theorem g_C_copyFrom {X : GX} (C : GC X b_C_copyFrom R_C 2 (rmd 1)) {Qp : Option Value → va_W → Prop} (q : RC X (none) Qp 0 0) (a b : Nat → Nat) (p : (CSt × CSt)) (post : (CSt × CSt) → Prop) (hq : ∀ c1, post c1 → Qp none (woCC (xt X) a b c1)) (hw : wp_C_copyFrom p post) : G X 0 0 (woCC (xt X) a b (p.1, p.2)) [(0, .ref (a 0)), (1, .ref (b 0))] [] 0 := by
  unfold wp_C_copyFrom at hw
  refine g_aload_n (pc := 0) C d_C_copyFrom_0 1 rfl rfl ?_
  refine fCC2_laws (pc := 1) C lk_C_9 d_C_copyFrom_1 ?_
  refine g_iconst (pc := 4) C (v := 0) d_C_copyFrom_4 (by decide) ?_
  refine g_aload_n (pc := 5) C d_C_copyFrom_5 0 rfl rfl ?_
  refine fCC1_laws (pc := 6) C lk_C_9 d_C_copyFrom_6 ?_
  refine g_iconst (pc := 9) C (v := 0) d_C_copyFrom_9 (by decide) ?_
  refine g_iconst (pc := 10) C (v := 4) d_C_copyFrom_10 (by decide) ?_
  refine g_copyi (pc := 11) C 10 1 (f := C_laws p.2) (g := C_laws p.1) lk_C_52 d_C_copyFrom_11 rfl rfl (by decide) (by decide) ⟨Nat.le_of_ble_eq_true rfl, Nat.le_of_ble_eq_true rfl⟩ (Nat.le_of_ble_eq_true rfl) (ws' := woCC (xt X) a b (C_laws_ p.1 (va_cpy (C_laws p.2) (C_laws p.1) 0 0 4), p.2)) rfl ?_
  refine g_aload_n (pc := 14) C d_C_copyFrom_14 1 rfl rfl ?_
  refine fCC2_noise (pc := 15) C lk_C_15 d_C_copyFrom_15 ?_
  refine g_iconst (pc := 18) C (v := 0) d_C_copyFrom_18 (by decide) ?_
  refine g_aload_n (pc := 19) C d_C_copyFrom_19 0 rfl rfl ?_
  refine fCC1_noise (pc := 20) C lk_C_15 d_C_copyFrom_20 ?_
  refine g_iconst (pc := 23) C (v := 0) d_C_copyFrom_23 (by decide) ?_
  refine g_bipush (pc := 24) C (v := 10) d_C_copyFrom_24 (by decide) ?_
  refine g_copyi (pc := 26) C 11 2 (f := C_noise p.2) (g := C_noise p.1) lk_C_52 d_C_copyFrom_26 rfl rfl (by decide) (by decide) ⟨Nat.le_of_ble_eq_true rfl, Nat.le_of_ble_eq_true rfl⟩ (Nat.le_of_ble_eq_true rfl) (ws' := woCC (xt X) a b (C_noise_ (C_laws_ p.1 (va_cpy (C_laws p.2) (C_laws p.1) 0 0 4)) (va_cpy (C_noise p.2) (C_noise p.1) 0 0 10), p.2)) rfl ?_
  refine g_aload_n (pc := 29) C d_C_copyFrom_29 1 rfl rfl ?_
  refine fCC2_lost (pc := 30) C lk_C_18 d_C_copyFrom_30 ?_
  refine g_iconst (pc := 33) C (v := 0) d_C_copyFrom_33 (by decide) ?_
  refine g_aload_n (pc := 34) C d_C_copyFrom_34 0 rfl rfl ?_
  refine fCC1_lost (pc := 35) C lk_C_18 d_C_copyFrom_35 ?_
  refine g_iconst (pc := 38) C (v := 0) d_C_copyFrom_38 (by decide) ?_
  refine g_bipush (pc := 39) C (v := 10) d_C_copyFrom_39 (by decide) ?_
  refine g_copyi (pc := 41) C 12 3 (f := C_lost p.2) (g := C_lost p.1) lk_C_52 d_C_copyFrom_41 rfl rfl (by decide) (by decide) ⟨Nat.le_of_ble_eq_true rfl, Nat.le_of_ble_eq_true rfl⟩ (Nat.le_of_ble_eq_true rfl) (ws' := woCC (xt X) a b (C_lost_ (C_noise_ (C_laws_ p.1 (va_cpy (C_laws p.2) (C_laws p.1) 0 0 4)) (va_cpy (C_noise p.2) (C_noise p.1) 0 0 10)) (va_cpy (C_lost p.2) (C_lost p.1) 0 0 10), p.2)) rfl ?_
  refine g_aload_n (pc := 44) C d_C_copyFrom_44 1 rfl rfl ?_
  refine fCC2_kind (pc := 45) C lk_C_21 d_C_copyFrom_45 ?_
  refine g_iconst (pc := 48) C (v := 0) d_C_copyFrom_48 (by decide) ?_
  refine g_aload_n (pc := 49) C d_C_copyFrom_49 0 rfl rfl ?_
  refine fCC1_kind (pc := 50) C lk_C_21 d_C_copyFrom_50 ?_
  refine g_iconst (pc := 53) C (v := 0) d_C_copyFrom_53 (by decide) ?_
  refine g_bipush (pc := 54) C (v := 8) d_C_copyFrom_54 (by decide) ?_
  refine g_copyi (pc := 56) C 13 4 (f := C_kind p.2) (g := C_kind p.1) lk_C_52 d_C_copyFrom_56 rfl rfl (by decide) (by decide) ⟨Nat.le_of_ble_eq_true rfl, Nat.le_of_ble_eq_true rfl⟩ (Nat.le_of_ble_eq_true rfl) (ws' := woCC (xt X) a b (C_kind_ (C_lost_ (C_noise_ (C_laws_ p.1 (va_cpy (C_laws p.2) (C_laws p.1) 0 0 4)) (va_cpy (C_noise p.2) (C_noise p.1) 0 0 10)) (va_cpy (C_lost p.2) (C_lost p.1) 0 0 10)) (va_cpy (C_kind p.2) (C_kind p.1) 0 0 8), p.2)) rfl ?_
  refine g_aload_n (pc := 59) C d_C_copyFrom_59 1 rfl rfl ?_
  refine fCC2_load (pc := 60) C lk_C_24 d_C_copyFrom_60 ?_
  refine g_iconst (pc := 63) C (v := 0) d_C_copyFrom_63 (by decide) ?_
  refine g_aload_n (pc := 64) C d_C_copyFrom_64 0 rfl rfl ?_
  refine fCC1_load (pc := 65) C lk_C_24 d_C_copyFrom_65 ?_
  refine g_iconst (pc := 68) C (v := 0) d_C_copyFrom_68 (by decide) ?_
  refine g_bipush (pc := 69) C (v := 8) d_C_copyFrom_69 (by decide) ?_
  refine g_copyi (pc := 71) C 14 5 (f := C_load p.2) (g := C_load p.1) lk_C_52 d_C_copyFrom_71 rfl rfl (by decide) (by decide) ⟨Nat.le_of_ble_eq_true rfl, Nat.le_of_ble_eq_true rfl⟩ (Nat.le_of_ble_eq_true rfl) (ws' := woCC (xt X) a b (C_load_ (C_kind_ (C_lost_ (C_noise_ (C_laws_ p.1 (va_cpy (C_laws p.2) (C_laws p.1) 0 0 4)) (va_cpy (C_noise p.2) (C_noise p.1) 0 0 10)) (va_cpy (C_lost p.2) (C_lost p.1) 0 0 10)) (va_cpy (C_kind p.2) (C_kind p.1) 0 0 8)) (va_cpy (C_load p.2) (C_load p.1) 0 0 8), p.2)) rfl ?_
  refine g_aload_n (pc := 74) C d_C_copyFrom_74 1 rfl rfl ?_
  refine fCC2_sort (pc := 75) C lk_C_27 d_C_copyFrom_75 ?_
  refine g_iconst (pc := 78) C (v := 0) d_C_copyFrom_78 (by decide) ?_
  refine g_aload_n (pc := 79) C d_C_copyFrom_79 0 rfl rfl ?_
  refine fCC1_sort (pc := 80) C lk_C_27 d_C_copyFrom_80 ?_
  refine g_iconst (pc := 83) C (v := 0) d_C_copyFrom_83 (by decide) ?_
  refine g_bipush (pc := 84) C (v := 8) d_C_copyFrom_84 (by decide) ?_
  refine g_copyi (pc := 86) C 15 6 (f := C_sort p.2) (g := C_sort p.1) lk_C_52 d_C_copyFrom_86 rfl rfl (by decide) (by decide) ⟨Nat.le_of_ble_eq_true rfl, Nat.le_of_ble_eq_true rfl⟩ (Nat.le_of_ble_eq_true rfl) (ws' := woCC (xt X) a b (C_sort_ (C_load_ (C_kind_ (C_lost_ (C_noise_ (C_laws_ p.1 (va_cpy (C_laws p.2) (C_laws p.1) 0 0 4)) (va_cpy (C_noise p.2) (C_noise p.1) 0 0 10)) (va_cpy (C_lost p.2) (C_lost p.1) 0 0 10)) (va_cpy (C_kind p.2) (C_kind p.1) 0 0 8)) (va_cpy (C_load p.2) (C_load p.1) 0 0 8)) (va_cpy (C_sort p.2) (C_sort p.1) 0 0 8), p.2)) rfl ?_
  refine g_aload_n (pc := 89) C d_C_copyFrom_89 1 rfl rfl ?_
  refine fCC2_at (pc := 90) C lk_C_30 d_C_copyFrom_90 ?_
  refine g_iconst (pc := 93) C (v := 0) d_C_copyFrom_93 (by decide) ?_
  refine g_aload_n (pc := 94) C d_C_copyFrom_94 0 rfl rfl ?_
  refine fCC1_at (pc := 95) C lk_C_30 d_C_copyFrom_95 ?_
  refine g_iconst (pc := 98) C (v := 0) d_C_copyFrom_98 (by decide) ?_
  refine g_bipush (pc := 99) C (v := 8) d_C_copyFrom_99 (by decide) ?_
  refine g_copyi (pc := 101) C 16 7 (f := C_at p.2) (g := C_at p.1) lk_C_52 d_C_copyFrom_101 rfl rfl (by decide) (by decide) ⟨Nat.le_of_ble_eq_true rfl, Nat.le_of_ble_eq_true rfl⟩ (Nat.le_of_ble_eq_true rfl) (ws' := woCC (xt X) a b (C_at_ (C_sort_ (C_load_ (C_kind_ (C_lost_ (C_noise_ (C_laws_ p.1 (va_cpy (C_laws p.2) (C_laws p.1) 0 0 4)) (va_cpy (C_noise p.2) (C_noise p.1) 0 0 10)) (va_cpy (C_lost p.2) (C_lost p.1) 0 0 10)) (va_cpy (C_kind p.2) (C_kind p.1) 0 0 8)) (va_cpy (C_load p.2) (C_load p.1) 0 0 8)) (va_cpy (C_sort p.2) (C_sort p.1) 0 0 8)) (va_cpy (C_at p.2) (C_at p.1) 0 0 8), p.2)) rfl ?_
  refine g_aload_n (pc := 104) C d_C_copyFrom_104 1 rfl rfl ?_
  refine fCC2_bound (pc := 105) C lk_C_33 d_C_copyFrom_105 ?_
  refine g_iconst (pc := 108) C (v := 0) d_C_copyFrom_108 (by decide) ?_
  refine g_aload_n (pc := 109) C d_C_copyFrom_109 0 rfl rfl ?_
  refine fCC1_bound (pc := 110) C lk_C_33 d_C_copyFrom_110 ?_
  refine g_iconst (pc := 113) C (v := 0) d_C_copyFrom_113 (by decide) ?_
  refine g_bipush (pc := 114) C (v := 8) d_C_copyFrom_114 (by decide) ?_
  refine g_copyi (pc := 116) C 17 8 (f := C_bound p.2) (g := C_bound p.1) lk_C_52 d_C_copyFrom_116 rfl rfl (by decide) (by decide) ⟨Nat.le_of_ble_eq_true rfl, Nat.le_of_ble_eq_true rfl⟩ (Nat.le_of_ble_eq_true rfl) (ws' := woCC (xt X) a b (C_bound_ (C_at_ (C_sort_ (C_load_ (C_kind_ (C_lost_ (C_noise_ (C_laws_ p.1 (va_cpy (C_laws p.2) (C_laws p.1) 0 0 4)) (va_cpy (C_noise p.2) (C_noise p.1) 0 0 10)) (va_cpy (C_lost p.2) (C_lost p.1) 0 0 10)) (va_cpy (C_kind p.2) (C_kind p.1) 0 0 8)) (va_cpy (C_load p.2) (C_load p.1) 0 0 8)) (va_cpy (C_sort p.2) (C_sort p.1) 0 0 8)) (va_cpy (C_at p.2) (C_at p.1) 0 0 8)) (va_cpy (C_bound p.2) (C_bound p.1) 0 0 8), p.2)) rfl ?_
  refine g_aload_n (pc := 119) C d_C_copyFrom_119 0 rfl rfl ?_
  refine g_aload_n (pc := 120) C d_C_copyFrom_120 1 rfl rfl ?_
  refine fCC2_count (pc := 121) C lk_C_36 d_C_copyFrom_121 (v := C_count p.2) rfl ?_
  refine pCC1_count (pc := 124) C (c := C_bound_ (C_at_ (C_sort_ (C_load_ (C_kind_ (C_lost_ (C_noise_ (C_laws_ p.1 (va_cpy (C_laws p.2) (C_laws p.1) 0 0 4)) (va_cpy (C_noise p.2) (C_noise p.1) 0 0 10)) (va_cpy (C_lost p.2) (C_lost p.1) 0 0 10)) (va_cpy (C_kind p.2) (C_kind p.1) 0 0 8)) (va_cpy (C_load p.2) (C_load p.1) 0 0 8)) (va_cpy (C_sort p.2) (C_sort p.1) 0 0 8)) (va_cpy (C_at p.2) (C_at p.1) 0 0 8)) (va_cpy (C_bound p.2) (C_bound p.1) 0 0 8)) rfl lk_C_36 d_C_copyFrom_124   ?_
  refine g_aload_n (pc := 127) C d_C_copyFrom_127 0 rfl rfl ?_
  refine g_aload_n (pc := 128) C d_C_copyFrom_128 1 rfl rfl ?_
  refine fCC2_hour (pc := 129) C lk_C_40 d_C_copyFrom_129 (v := C_hour p.2) rfl ?_
  refine pCC1_hour (pc := 132) C (c := C_count_ (C_bound_ (C_at_ (C_sort_ (C_load_ (C_kind_ (C_lost_ (C_noise_ (C_laws_ p.1 (va_cpy (C_laws p.2) (C_laws p.1) 0 0 4)) (va_cpy (C_noise p.2) (C_noise p.1) 0 0 10)) (va_cpy (C_lost p.2) (C_lost p.1) 0 0 10)) (va_cpy (C_kind p.2) (C_kind p.1) 0 0 8)) (va_cpy (C_load p.2) (C_load p.1) 0 0 8)) (va_cpy (C_sort p.2) (C_sort p.1) 0 0 8)) (va_cpy (C_at p.2) (C_at p.1) 0 0 8)) (va_cpy (C_bound p.2) (C_bound p.1) 0 0 8)) (C_count p.2)) rfl lk_C_40 d_C_copyFrom_132   ?_
  refine g_aload_n (pc := 135) C d_C_copyFrom_135 0 rfl rfl ?_
  refine g_aload_n (pc := 136) C d_C_copyFrom_136 1 rfl rfl ?_
  refine fCC2_z (pc := 137) C lk_C_43 d_C_copyFrom_137 (v := C_z p.2) rfl ?_
  refine pCC1_z (pc := 140) C (c := C_hour_ (C_count_ (C_bound_ (C_at_ (C_sort_ (C_load_ (C_kind_ (C_lost_ (C_noise_ (C_laws_ p.1 (va_cpy (C_laws p.2) (C_laws p.1) 0 0 4)) (va_cpy (C_noise p.2) (C_noise p.1) 0 0 10)) (va_cpy (C_lost p.2) (C_lost p.1) 0 0 10)) (va_cpy (C_kind p.2) (C_kind p.1) 0 0 8)) (va_cpy (C_load p.2) (C_load p.1) 0 0 8)) (va_cpy (C_sort p.2) (C_sort p.1) 0 0 8)) (va_cpy (C_at p.2) (C_at p.1) 0 0 8)) (va_cpy (C_bound p.2) (C_bound p.1) 0 0 8)) (C_count p.2)) (C_hour p.2)) rfl lk_C_43 d_C_copyFrom_140   ?_
  refine g_aload_n (pc := 143) C d_C_copyFrom_143 0 rfl rfl ?_
  refine g_iconst (pc := 144) C (v := (-1)) d_C_copyFrom_144 (by decide) ?_
  refine pCC1_heldBack (pc := 145) C (c := C_z_ (C_hour_ (C_count_ (C_bound_ (C_at_ (C_sort_ (C_load_ (C_kind_ (C_lost_ (C_noise_ (C_laws_ p.1 (va_cpy (C_laws p.2) (C_laws p.1) 0 0 4)) (va_cpy (C_noise p.2) (C_noise p.1) 0 0 10)) (va_cpy (C_lost p.2) (C_lost p.1) 0 0 10)) (va_cpy (C_kind p.2) (C_kind p.1) 0 0 8)) (va_cpy (C_load p.2) (C_load p.1) 0 0 8)) (va_cpy (C_sort p.2) (C_sort p.1) 0 0 8)) (va_cpy (C_at p.2) (C_at p.1) 0 0 8)) (va_cpy (C_bound p.2) (C_bound p.1) 0 0 8)) (C_count p.2)) (C_hour p.2)) (C_z p.2)) rfl lk_C_46 d_C_copyFrom_145   ?_
  exact g_vret (pc := 148) C q d_C_copyFrom_148 (hq (C_heldBack_ (C_z_ (C_hour_ (C_count_ (C_bound_ (C_at_ (C_sort_ (C_load_ (C_kind_ (C_lost_ (C_noise_ (C_laws_ p.1 (va_cpy (C_laws p.2) (C_laws p.1) 0 0 4)) (va_cpy (C_noise p.2) (C_noise p.1) 0 0 10)) (va_cpy (C_lost p.2) (C_lost p.1) 0 0 10)) (va_cpy (C_kind p.2) (C_kind p.1) 0 0 8)) (va_cpy (C_load p.2) (C_load p.1) 0 0 8)) (va_cpy (C_sort p.2) (C_sort p.1) 0 0 8)) (va_cpy (C_at p.2) (C_at p.1) 0 0 8)) (va_cpy (C_bound p.2) (C_bound p.1) 0 0 8)) (C_count p.2)) (C_hour p.2)) (C_z p.2)) (-1), p.2) hw)
set_option maxRecDepth 20000 in
theorem c_C_copyFrom (l : Launch) (D : va_G) (t : Nat → ClassId) (ev : Nat → Nat) (a b : Nat → Nat) (p : (CSt × CSt)) (post : (CSt × CSt) → Prop) (hw : wp_C_copyFrom p post) : Con l D t ev y_C_copyFrom b_C_copyFrom 2 (none) 1 (woCC t a b (p.1, p.2)) [.ref (a 0), .ref (b 0)] (qV (woCC t a b)  post) :=
  ConR.of (by decide +kernel) (Nat.le_of_ble_eq_true rfl) (fun X el eD et ee C q _ => by subst el; subst eD; subst et; subst ee; exact g_C_copyFrom C q a b p post (fun c1 h => ⟨⟨c1, rfl, rfl, h⟩, rfl⟩) hw)
def wp_C_add (c : CSt) (x1 : Int32) (x2 : Int32) (x3 : Int32) (x4 : Int32) (x5 : Int32) (post : CSt → Prop) : Prop :=
  (((C_count c) < 0) → (post c)) ∧ ((¬ (C_count c) < 0) → ((((C_count c) < 8) → (vp_in (C_count c) 8 ∧ (vp_in (C_count c) 8 ∧ (vp_in (C_count c) 8 ∧ (vp_in (C_count c) 8 ∧ (vp_in (C_count c) 8 ∧ (∀ y6 : Int32, y6 = (C_count c) + 1 → (post (C_count_ (C_bound_ (C_at_ (C_sort_ (C_load_ (C_kind_ c (upd (C_kind c) (C_count c).toNatClampNeg x1)) (upd (C_load c) (C_count c).toNatClampNeg x2)) (upd (C_sort c) (C_count c).toNatClampNeg x3)) (upd (C_at c) (C_count c).toNatClampNeg x4)) (upd (C_bound c) (C_count c).toNatClampNeg x5)) y6))))))))) ∧ ((¬ (C_count c) < 8) → (post c))))
set_option maxRecDepth 20000 in
theorem g_C_add {X : GX} (C : GC X b_C_add R_C 6 (rmd 0)) {Qp : Option Value → va_W → Prop} (q : RC X (none) Qp 0 0) (a : Nat → Nat) (c : CSt) (x1 : Int32) (x2 : Int32) (x3 : Int32) (x4 : Int32) (x5 : Int32) (post : CSt → Prop) (hq : ∀ c1, post c1 → Qp none (woC (xt X) a c1)) (hw : wp_C_add c x1 x2 x3 x4 x5 post) : G X 0 0 (woC (xt X) a c) [(0, .ref (a 0)), (1, .int x1), (2, .int x2), (3, .int x3), (4, .int x4), (5, .int x5)] [] 0 := by
  unfold wp_C_add at hw
  refine g_aload_n (pc := 0) C d_C_add_0 0 rfl rfl ?_
  refine fC_count (pc := 1) C lk_C_36 d_C_add_1 (v := C_count c) rfl ?_
  refine g_if_lt (pc := 4) (tgt := 16) C d_C_add_4 (by decide) (fun h8 => ?_) (fun h8 => ?_)
  · replace hw := hw.1 h8
    exact g_vret (pc := 16) C q d_C_add_16 (hq c hw)
  · replace hw := hw.2 h8
    refine g_aload_n (pc := 7) C d_C_add_7 0 rfl rfl ?_
    refine fC_count (pc := 8) C lk_C_36 d_C_add_8 (v := C_count c) rfl ?_
    refine g_bipush (pc := 11) C (v := 8) d_C_add_11 (by decide) ?_
    refine g_icmp_lt (pc := 13) (tgt := 17) C d_C_add_13 (by decide) (fun h7 => ?_) (fun h7 => ?_)
    · replace hw := hw.1 h7
      refine g_aload_n (pc := 17) C d_C_add_17 0 rfl rfl ?_
      refine fC_kind (pc := 18) C lk_C_21 d_C_add_18 ?_
      refine g_aload_n (pc := 21) C d_C_add_21 0 rfl rfl ?_
      refine fC_count (pc := 22) C lk_C_36 d_C_add_22 (v := C_count c) rfl ?_
      refine g_iload_n (pc := 25) C d_C_add_25 1 rfl rfl ?_
      obtain ⟨h1, hw⟩ := hw
      refine sC_kind (pc := 26) C d_C_add_26 (f := C_kind c) rfl (N0 := (C_count c).toNatClampNeg) rfl h1 ?_
      refine g_aload_n (pc := 27) C d_C_add_27 0 rfl rfl ?_
      refine fC_load (pc := 28) C lk_C_24 d_C_add_28 ?_
      refine g_aload_n (pc := 31) C d_C_add_31 0 rfl rfl ?_
      refine fC_count (pc := 32) C lk_C_36 d_C_add_32 (v := C_count c) rfl ?_
      refine g_iload_n (pc := 35) C d_C_add_35 2 rfl rfl ?_
      obtain ⟨h2, hw⟩ := hw
      refine sC_load (pc := 36) C d_C_add_36 (f := C_load c) rfl (N0 := (C_count c).toNatClampNeg) rfl h2 ?_
      refine g_aload_n (pc := 37) C d_C_add_37 0 rfl rfl ?_
      refine fC_sort (pc := 38) C lk_C_27 d_C_add_38 ?_
      refine g_aload_n (pc := 41) C d_C_add_41 0 rfl rfl ?_
      refine fC_count (pc := 42) C lk_C_36 d_C_add_42 (v := C_count c) rfl ?_
      refine g_iload_n (pc := 45) C d_C_add_45 3 rfl rfl ?_
      obtain ⟨h3, hw⟩ := hw
      refine sC_sort (pc := 46) C d_C_add_46 (f := C_sort c) rfl (N0 := (C_count c).toNatClampNeg) rfl h3 ?_
      refine g_aload_n (pc := 47) C d_C_add_47 0 rfl rfl ?_
      refine fC_at (pc := 48) C lk_C_30 d_C_add_48 ?_
      refine g_aload_n (pc := 51) C d_C_add_51 0 rfl rfl ?_
      refine fC_count (pc := 52) C lk_C_36 d_C_add_52 (v := C_count c) rfl ?_
      refine g_iload (pc := 55) C d_C_add_55 4 rfl ?_
      obtain ⟨h4, hw⟩ := hw
      refine sC_at (pc := 57) C d_C_add_57 (f := C_at c) rfl (N0 := (C_count c).toNatClampNeg) rfl h4 ?_
      refine g_aload_n (pc := 58) C d_C_add_58 0 rfl rfl ?_
      refine fC_bound (pc := 59) C lk_C_33 d_C_add_59 ?_
      refine g_aload_n (pc := 62) C d_C_add_62 0 rfl rfl ?_
      refine fC_count (pc := 63) C lk_C_36 d_C_add_63 (v := C_count c) rfl ?_
      refine g_iload (pc := 66) C d_C_add_66 5 rfl ?_
      obtain ⟨h5, hw⟩ := hw
      refine sC_bound (pc := 68) C d_C_add_68 (f := C_bound c) rfl (N0 := (C_count c).toNatClampNeg) rfl h5 ?_
      refine g_aload_n (pc := 69) C d_C_add_69 0 rfl rfl ?_
      refine g_dup (pc := 70) C d_C_add_70 rfl ?_
      refine fC_count (pc := 71) C lk_C_36 d_C_add_71 (v := C_count c) rfl ?_
      refine g_iconst (pc := 74) C (v := 1) d_C_add_74 (by decide) ?_
      refine g_iadd (pc := 75) C d_C_add_75 ?_
      refine g_topi (fun y6 ey6 => ?_)
      replace hw := hw y6 ey6
      refine pC_count (pc := 76) C lk_C_36 d_C_add_76   ?_
      exact g_vret (pc := 79) C q d_C_add_79 (hq (C_count_ (C_bound_ (C_at_ (C_sort_ (C_load_ (C_kind_ c (upd (C_kind c) (C_count c).toNatClampNeg x1)) (upd (C_load c) (C_count c).toNatClampNeg x2)) (upd (C_sort c) (C_count c).toNatClampNeg x3)) (upd (C_at c) (C_count c).toNatClampNeg x4)) (upd (C_bound c) (C_count c).toNatClampNeg x5)) y6) hw)
    · replace hw := hw.2 h7
      exact g_vret (pc := 16) C q d_C_add_16 (hq c hw)
set_option maxRecDepth 20000 in
theorem c_C_add (l : Launch) (D : va_G) (t : Nat → ClassId) (ev : Nat → Nat) (a : Nat → Nat) (c : CSt) (x1 : Int32) (x2 : Int32) (x3 : Int32) (x4 : Int32) (x5 : Int32) (post : CSt → Prop) (hw : wp_C_add c x1 x2 x3 x4 x5 post) : Con l D t ev y_C_add b_C_add 6 (none) 0 (woC t a c) [.ref (a 0), .int x1, .int x2, .int x3, .int x4, .int x5] (qV (woC t a)  post) :=
  ConR.of (by decide +kernel) (Nat.le_of_ble_eq_true rfl) (fun X el eD et ee C q _ => by subst el; subst eD; subst et; subst ee; exact g_C_add C q a c x1 x2 x3 x4 x5 post (fun c1 h => ⟨⟨c1, rfl, rfl, h⟩, rfl⟩) hw)
def w_C_still_2  (post : CSt → Prop)  : Nat → CSt → Int32 → Int32 → Prop
  | 0, _, _, _ => False
  | n + 1, c, x1, x2 =>
    ((10 ≤ x2) → (post c)) ∧ ((¬ 10 ≤ x2) → (∀ y1 : Int32, y1 = x1 >>> (x2 &&& 31) → (∀ y2 : Int32, y2 = y1 &&& 1 → (((y2 = 1) → (vp_in x2 10 ∧ (∀ y5 : Int32, y5 = x2 + 1 → (w_C_still_2  post  n (C_noise_ c (upd (C_noise c) x2.toNatClampNeg 0)) x1 y5)))) ∧ ((¬ y2 = 1) → (∀ y3 : Int32, y3 = x2 + 1 → (w_C_still_2  post  n c x1 y3)))))))
set_option maxRecDepth 20000 in
theorem j_C_still_2 {X : GX} (C : GC X b_C_still R_C 3 (rmd 0)) {Qp : Option Value → va_W → Prop} (q : RC X (none) Qp 0 0) (a : Nat → Nat)   (post : CSt → Prop) (hq : ∀ c1, post c1 → Qp none (woC (xt X) a c1)) : ∀ (n : Nat) (c : CSt) (x1 : Int32) (x2 : Int32), w_C_still_2  post  n c x1 x2 → G X 0 0 (woC (xt X) a c) [(0, .ref (a 0)), (1, .int x1), (2, .int x2)] [] 2 := by
  intro n
  induction n with
  | zero => intro c x1 x2 hw; exact hw.elim
  | succ n ih =>
    intro c x1 x2 hw
    rw [w_C_still_2] at hw
    refine g_iload_n (pc := 2) C d_C_still_2 2 rfl rfl ?_
    refine g_bipush (pc := 3) C (v := 10) d_C_still_3 (by decide) ?_
    refine g_icmp_ge (pc := 5) (tgt := 30) C d_C_still_5 (by decide) (fun h7 => ?_) (fun h7 => ?_)
    · replace hw := hw.1 h7
      exact g_vret (pc := 30) C q d_C_still_30 (hq c hw)
    · replace hw := hw.2 h7
      refine g_iload_n (pc := 8) C d_C_still_8 1 rfl rfl ?_
      refine g_iload_n (pc := 9) C d_C_still_9 2 rfl rfl ?_
      refine g_ishr (pc := 10) C d_C_still_10 ?_
      refine g_topi (fun y1 ey1 => ?_)
      replace hw := hw y1 ey1
      refine g_iconst (pc := 11) C (v := 1) d_C_still_11 (by decide) ?_
      refine g_iand (pc := 12) C d_C_still_12 ?_
      refine g_topi (fun y2 ey2 => ?_)
      replace hw := hw y2 ey2
      refine g_iconst (pc := 13) C (v := 1) d_C_still_13 (by decide) ?_
      refine g_icmp_ne (pc := 14) (tgt := 24) C d_C_still_14 (by decide) (fun h6 => ?_) (fun h6 => ?_)
      · replace hw := hw.2 h6
        obtain ⟨y3, ey3⟩ : ∃ w, w = x2 + 1 := ⟨_, rfl⟩
        replace hw := hw y3 ey3
        refine g_iinc (pc := 24) C d_C_still_24 2 rfl (v := y3) (by rw [ey3]; rfl) (Nat.le_of_ble_eq_true rfl) (lv' := [(0, .ref (a 0)), (1, .int x1), (2, .int y3)]) rfl ?_
        refine g_goto (pc := 27) (tgt := 2) C d_C_still_27 (by decide) ?_
        exact ih c x1 y3 hw
      · replace hw := hw.1 h6
        refine g_aload_n (pc := 17) C d_C_still_17 0 rfl rfl ?_
        refine fC_noise (pc := 18) C lk_C_15 d_C_still_18 ?_
        refine g_iload_n (pc := 21) C d_C_still_21 2 rfl rfl ?_
        refine g_iconst (pc := 22) C (v := 0) d_C_still_22 (by decide) ?_
        obtain ⟨h4, hw⟩ := hw
        refine sC_noise (pc := 23) C d_C_still_23 (f := C_noise c) rfl (N0 := x2.toNatClampNeg) rfl h4 ?_
        obtain ⟨y5, ey5⟩ : ∃ w, w = x2 + 1 := ⟨_, rfl⟩
        replace hw := hw y5 ey5
        refine g_iinc (pc := 24) C d_C_still_24 2 rfl (v := y5) (by rw [ey5]; rfl) (Nat.le_of_ble_eq_true rfl) (lv' := [(0, .ref (a 0)), (1, .int x1), (2, .int y5)]) rfl ?_
        refine g_goto (pc := 27) (tgt := 2) C d_C_still_27 (by decide) ?_
        exact ih (C_noise_ c (upd (C_noise c) x2.toNatClampNeg 0)) x1 y5 hw
def wp_C_still (c : CSt) (x1 : Int32) (post : CSt → Prop) : Prop :=
  w_C_still_2  post  2000 c x1 0
set_option maxRecDepth 20000 in
theorem g_C_still {X : GX} (C : GC X b_C_still R_C 3 (rmd 0)) {Qp : Option Value → va_W → Prop} (q : RC X (none) Qp 0 0) (a : Nat → Nat) (c : CSt) (x1 : Int32) (post : CSt → Prop) (hq : ∀ c1, post c1 → Qp none (woC (xt X) a c1)) (hw : wp_C_still c x1 post) : G X 0 0 (woC (xt X) a c) [(0, .ref (a 0)), (1, .int x1)] [] 0 := by
  unfold wp_C_still at hw
  refine g_iconst (pc := 0) C (v := 0) d_C_still_0 (by decide) ?_
  refine g_istore_n (pc := 1) C d_C_still_1 rfl (Nat.le_of_ble_eq_true rfl) (lv' := [(0, .ref (a 0)), (1, .int x1), (2, .int 0)]) rfl ?_
  exact j_C_still_2 C q a post hq  2000 c x1 0 hw
set_option maxRecDepth 20000 in
theorem c_C_still (l : Launch) (D : va_G) (t : Nat → ClassId) (ev : Nat → Nat) (a : Nat → Nat) (c : CSt) (x1 : Int32) (post : CSt → Prop) (hw : wp_C_still c x1 post) : Con l D t ev y_C_still b_C_still 3 (none) 0 (woC t a c) [.ref (a 0), .int x1] (qV (woC t a)  post) :=
  ConR.of (by decide +kernel) (Nat.le_of_ble_eq_true rfl) (fun X el eD et ee C q _ => by subst el; subst eD; subst et; subst ee; exact g_C_still C q a c x1 post (fun c1 h => ⟨⟨c1, rfl, rfl, h⟩, rfl⟩) hw)
def wp_C_hasLanded (c : CSt) (x1 : Int32) (post : Int32 → CSt → Prop) : Prop :=
  vp_in x1 8 ∧ (vp_in x1 8 ∧ (((((C_at c) x1.toNatClampNeg) = ((C_bound c) x1.toNatClampNeg)) → (post 1 c)) ∧ ((¬ ((C_at c) x1.toNatClampNeg) = ((C_bound c) x1.toNatClampNeg)) → (post 0 c))))
set_option maxRecDepth 20000 in
theorem g_C_hasLanded {X : GX} (C : GC X b_C_hasLanded R_C 2 (rmd 0)) {Qp : Option Value → va_W → Prop} (q : RC X ((some .boolean)) Qp 0 0) (a : Nat → Nat) (c : CSt) (x1 : Int32) (post : Int32 → CSt → Prop) (hq : ∀ v c1, post v c1 → Qp (some (.int v)) (woC (xt X) a c1)) (hw : wp_C_hasLanded c x1 post) : G X 0 0 (woC (xt X) a c) [(0, .ref (a 0)), (1, .int x1)] [] 0 := by
  unfold wp_C_hasLanded at hw
  refine g_aload_n (pc := 0) C d_C_hasLanded_0 0 rfl rfl ?_
  refine fC_at (pc := 1) C lk_C_30 d_C_hasLanded_1 ?_
  refine g_iload_n (pc := 4) C d_C_hasLanded_4 1 rfl rfl ?_
  obtain ⟨h1, hw⟩ := hw
  refine lC_at (pc := 5) C d_C_hasLanded_5 (f := C_at c) rfl (N0 := x1.toNatClampNeg) rfl h1 ?_
  refine g_aload_n (pc := 6) C d_C_hasLanded_6 0 rfl rfl ?_
  refine fC_bound (pc := 7) C lk_C_33 d_C_hasLanded_7 ?_
  refine g_iload_n (pc := 10) C d_C_hasLanded_10 1 rfl rfl ?_
  obtain ⟨h2, hw⟩ := hw
  refine lC_bound (pc := 11) C d_C_hasLanded_11 (f := C_bound c) rfl (N0 := x1.toNatClampNeg) rfl h2 ?_
  refine g_icmp_ne (pc := 12) (tgt := 19) C d_C_hasLanded_12 (by decide) (fun h3 => ?_) (fun h3 => ?_)
  · replace hw := hw.2 h3
    refine g_iconst (pc := 19) C (v := 0) d_C_hasLanded_19 (by decide) ?_
    exact g_zret (pc := 20) C q d_C_hasLanded_20 (by decide) (hq _ _ hw)
  · replace hw := hw.1 h3
    refine g_iconst (pc := 15) C (v := 1) d_C_hasLanded_15 (by decide) ?_
    refine g_goto (pc := 16) (tgt := 20) C d_C_hasLanded_16 (by decide) ?_
    exact g_zret (pc := 20) C q d_C_hasLanded_20 (by decide) (hq _ _ hw)
set_option maxRecDepth 20000 in
theorem c_C_hasLanded (l : Launch) (D : va_G) (t : Nat → ClassId) (ev : Nat → Nat) (a : Nat → Nat) (c : CSt) (x1 : Int32) (post : Int32 → CSt → Prop) (hw : wp_C_hasLanded c x1 post) : Con l D t ev y_C_hasLanded b_C_hasLanded 2 ((some .boolean)) 0 (woC t a c) [.ref (a 0), .int x1] (qI (woC t a)  post) :=
  ConR.of (by decide +kernel) (Nat.le_of_ble_eq_true rfl) (fun X el eD et ee C q _ => by subst el; subst eD; subst et; subst ee; exact g_C_hasLanded C q a c x1 post (fun v c1 h => ⟨⟨v, c1, rfl, rfl, h⟩, rfl⟩) hw)
def w_C_landedSet_4  (post : Int32 → CSt → Prop)  : Nat → CSt → Int32 → Int32 → Prop
  | 0, _, _, _ => False
  | n + 1, c, x1, x2 =>
    (((C_count c) ≤ x2) → (post x1 c)) ∧ ((¬ (C_count c) ≤ x2) → (((8 ≤ x2) → (post x1 c)) ∧ ((¬ 8 ≤ x2) → (wp_C_hasLanded c x2 (fun v1 c_2 => ((v1 = 0) → (∀ y3 : Int32, y3 = x2 + 1 → (w_C_landedSet_4  post  n c_2 x1 y3))) ∧ ((¬ v1 = 0) → (∀ y4 : Int32, y4 = x1 ||| (1 <<< (x2 &&& 31)) → (∀ y5 : Int32, y5 = x2 + 1 → (w_C_landedSet_4  post  n c_2 y4 y5)))))))))
set_option maxRecDepth 20000 in
theorem j_C_landedSet_4 {X : GX} (C : GC X b_C_landedSet R_C 3 (rmd 1)) {Qp : Option Value → va_W → Prop} (q : RC X ((some .int)) Qp 0 0) (a : Nat → Nat)   (post : Int32 → CSt → Prop) (hq : ∀ v c1, post v c1 → Qp (some (.int v)) (woC (xt X) a c1)) : ∀ (n : Nat) (c : CSt) (x1 : Int32) (x2 : Int32), w_C_landedSet_4  post  n c x1 x2 → G X 0 0 (woC (xt X) a c) [(0, .ref (a 0)), (1, .int x1), (2, .int x2)] [] 4 := by
  intro n
  induction n with
  | zero => intro c x1 x2 hw; exact hw.elim
  | succ n ih =>
    intro c x1 x2 hw
    rw [w_C_landedSet_4] at hw
    refine g_iload_n (pc := 4) C d_C_landedSet_4 2 rfl rfl ?_
    refine g_aload_n (pc := 5) C d_C_landedSet_5 0 rfl rfl ?_
    refine fC_count (pc := 6) C lk_C_36 d_C_landedSet_6 (v := C_count c) rfl ?_
    refine g_icmp_ge (pc := 9) (tgt := 38) C d_C_landedSet_9 (by decide) (fun h8 => ?_) (fun h8 => ?_)
    · replace hw := hw.1 h8
      refine g_iload_n (pc := 38) C d_C_landedSet_38 1 rfl rfl ?_
      exact g_iret (pc := 39) C q d_C_landedSet_39 (hq _ _ hw)
    · replace hw := hw.2 h8
      refine g_iload_n (pc := 12) C d_C_landedSet_12 2 rfl rfl ?_
      refine g_bipush (pc := 13) C (v := 8) d_C_landedSet_13 (by decide) ?_
      refine g_icmp_ge (pc := 15) (tgt := 38) C d_C_landedSet_15 (by decide) (fun h7 => ?_) (fun h7 => ?_)
      · replace hw := hw.1 h7
        refine g_iload_n (pc := 38) C d_C_landedSet_38 1 rfl rfl ?_
        exact g_iret (pc := 39) C q d_C_landedSet_39 (hq _ _ hw)
      · replace hw := hw.2 h7
        refine g_aload_n (pc := 18) C d_C_landedSet_18 0 rfl rfl ?_
        refine g_iload_n (pc := 19) C d_C_landedSet_19 2 rfl rfl ?_
        refine k_Ia (pc := 20) (co_V C (c_C_hasLanded (xl X) (xD X) (xt X) (xv X) a c x2 _ hw) mw_C_hasLanded lk_C_79 d_C_landedSet_20 (List.range _) (all_C _) (all_nd _) (rec_w C 0 1 rfl rfl) rfl rfl ⟨Nat.le_of_ble_eq_true rfl, Nat.le_of_ble_eq_true rfl⟩ ⟨Nat.le_of_ble_eq_true rfl, Nat.le_of_ble_eq_true rfl⟩ (rest := []) rfl rfl (Nat.le_of_ble_eq_true rfl)) (fun v1 c_2 hw => ?_)
        refine g_if_eq (pc := 23) (tgt := 32) C d_C_landedSet_23 (by decide) (fun h6 => ?_) (fun h6 => ?_)
        · replace hw := hw.1 h6
          obtain ⟨y3, ey3⟩ : ∃ w, w = x2 + 1 := ⟨_, rfl⟩
          replace hw := hw y3 ey3
          refine g_iinc (pc := 32) C d_C_landedSet_32 2 rfl (v := y3) (by rw [ey3]; rfl) (Nat.le_of_ble_eq_true rfl) (lv' := [(0, .ref (a 0)), (1, .int x1), (2, .int y3)]) rfl ?_
          refine g_goto (pc := 35) (tgt := 4) C d_C_landedSet_35 (by decide) ?_
          exact ih c_2 x1 y3 hw
        · replace hw := hw.2 h6
          refine g_iload_n (pc := 26) C d_C_landedSet_26 1 rfl rfl ?_
          refine g_iconst (pc := 27) C (v := 1) d_C_landedSet_27 (by decide) ?_
          refine g_iload_n (pc := 28) C d_C_landedSet_28 2 rfl rfl ?_
          refine g_ishl (pc := 29) C d_C_landedSet_29 ?_
          refine g_ior (pc := 30) C d_C_landedSet_30 ?_
          refine g_topi (fun y4 ey4 => ?_)
          replace hw := hw y4 ey4
          refine g_istore_n (pc := 31) C d_C_landedSet_31 rfl (Nat.le_of_ble_eq_true rfl) (lv' := [(0, .ref (a 0)), (1, .int y4), (2, .int x2)]) rfl ?_
          obtain ⟨y5, ey5⟩ : ∃ w, w = x2 + 1 := ⟨_, rfl⟩
          replace hw := hw y5 ey5
          refine g_iinc (pc := 32) C d_C_landedSet_32 2 rfl (v := y5) (by rw [ey5]; rfl) (Nat.le_of_ble_eq_true rfl) (lv' := [(0, .ref (a 0)), (1, .int y4), (2, .int y5)]) rfl ?_
          refine g_goto (pc := 35) (tgt := 4) C d_C_landedSet_35 (by decide) ?_
          exact ih c_2 y4 y5 hw
def wp_C_landedSet (c : CSt) (post : Int32 → CSt → Prop) : Prop :=
  w_C_landedSet_4  post  2000 c 0 0
set_option maxRecDepth 20000 in
theorem g_C_landedSet {X : GX} (C : GC X b_C_landedSet R_C 3 (rmd 1)) {Qp : Option Value → va_W → Prop} (q : RC X ((some .int)) Qp 0 0) (a : Nat → Nat) (c : CSt) (post : Int32 → CSt → Prop) (hq : ∀ v c1, post v c1 → Qp (some (.int v)) (woC (xt X) a c1)) (hw : wp_C_landedSet c post) : G X 0 0 (woC (xt X) a c) [(0, .ref (a 0))] [] 0 := by
  unfold wp_C_landedSet at hw
  refine g_iconst (pc := 0) C (v := 0) d_C_landedSet_0 (by decide) ?_
  refine g_istore_n (pc := 1) C d_C_landedSet_1 rfl (Nat.le_of_ble_eq_true rfl) (lv' := [(0, .ref (a 0)), (1, .int 0)]) rfl ?_
  refine g_iconst (pc := 2) C (v := 0) d_C_landedSet_2 (by decide) ?_
  refine g_istore_n (pc := 3) C d_C_landedSet_3 rfl (Nat.le_of_ble_eq_true rfl) (lv' := [(0, .ref (a 0)), (1, .int 0), (2, .int 0)]) rfl ?_
  exact j_C_landedSet_4 C q a post hq  2000 c 0 0 hw
set_option maxRecDepth 20000 in
theorem c_C_landedSet (l : Launch) (D : va_G) (t : Nat → ClassId) (ev : Nat → Nat) (a : Nat → Nat) (c : CSt) (post : Int32 → CSt → Prop) (hw : wp_C_landedSet c post) : Con l D t ev y_C_landedSet b_C_landedSet 3 ((some .int)) 1 (woC t a c) [.ref (a 0)] (qI (woC t a)  post) :=
  ConR.of (by decide +kernel) (Nat.le_of_ble_eq_true rfl) (fun X el eD et ee C q _ => by subst el; subst eD; subst et; subst ee; exact g_C_landedSet C q a c post (fun v c1 h => ⟨⟨v, c1, rfl, rfl, h⟩, rfl⟩) hw)
def wp_C_allLanded (c : CSt) (post : Int32 → CSt → Prop) : Prop :=
  wp_C_landedSet c (fun v1 c_2 => ∀ y3 : Int32, y3 = 1 <<< ((C_count c_2) &&& 31) → (((v1 = (y3 - 1)) → (post 1 c_2)) ∧ ((¬ v1 = (y3 - 1)) → (post 0 c_2))))
set_option maxRecDepth 20000 in
theorem g_C_allLanded {X : GX} (C : GC X b_C_allLanded R_C 1 (rmd 2)) {Qp : Option Value → va_W → Prop} (q : RC X ((some .boolean)) Qp 0 0) (a : Nat → Nat) (c : CSt) (post : Int32 → CSt → Prop) (hq : ∀ v c1, post v c1 → Qp (some (.int v)) (woC (xt X) a c1)) (hw : wp_C_allLanded c post) : G X 0 0 (woC (xt X) a c) [(0, .ref (a 0))] [] 0 := by
  unfold wp_C_allLanded at hw
  refine g_aload_n (pc := 0) C d_C_allLanded_0 0 rfl rfl ?_
  refine k_Ia (pc := 1) (co_V C (c_C_landedSet (xl X) (xD X) (xt X) (xv X) a c _ hw) mw_C_landedSet lk_C_64 d_C_allLanded_1 (List.range _) (all_C _) (all_nd _) (rec_w C 0 1 rfl rfl) rfl rfl ⟨Nat.le_of_ble_eq_true rfl, Nat.le_of_ble_eq_true rfl⟩ ⟨Nat.le_of_ble_eq_true rfl, Nat.le_of_ble_eq_true rfl⟩ (rest := []) rfl rfl (Nat.le_of_ble_eq_true rfl)) (fun v1 c_2 hw => ?_)
  refine g_iconst (pc := 4) C (v := 1) d_C_allLanded_4 (by decide) ?_
  refine g_aload_n (pc := 5) C d_C_allLanded_5 0 rfl rfl ?_
  refine fC_count (pc := 6) C lk_C_36 d_C_allLanded_6 (v := C_count c_2) rfl ?_
  refine g_ishl (pc := 9) C d_C_allLanded_9 ?_
  refine g_topi (fun y3 ey3 => ?_)
  replace hw := hw y3 ey3
  refine g_iconst (pc := 10) C (v := 1) d_C_allLanded_10 (by decide) ?_
  refine g_isub (pc := 11) C d_C_allLanded_11 ?_
  refine g_icmp_ne (pc := 12) (tgt := 19) C d_C_allLanded_12 (by decide) (fun h4 => ?_) (fun h4 => ?_)
  · replace hw := hw.2 h4
    refine g_iconst (pc := 19) C (v := 0) d_C_allLanded_19 (by decide) ?_
    exact g_zret (pc := 20) C q d_C_allLanded_20 (by decide) (hq _ _ hw)
  · replace hw := hw.1 h4
    refine g_iconst (pc := 15) C (v := 1) d_C_allLanded_15 (by decide) ?_
    refine g_goto (pc := 16) (tgt := 20) C d_C_allLanded_16 (by decide) ?_
    exact g_zret (pc := 20) C q d_C_allLanded_20 (by decide) (hq _ _ hw)
set_option maxRecDepth 20000 in
theorem c_C_allLanded (l : Launch) (D : va_G) (t : Nat → ClassId) (ev : Nat → Nat) (a : Nat → Nat) (c : CSt) (post : Int32 → CSt → Prop) (hw : wp_C_allLanded c post) : Con l D t ev y_C_allLanded b_C_allLanded 1 ((some .boolean)) 2 (woC t a c) [.ref (a 0)] (qI (woC t a)  post) :=
  ConR.of (by decide +kernel) (Nat.le_of_ble_eq_true rfl) (fun X el eD et ee C q _ => by subst el; subst eD; subst et; subst ee; exact g_C_allLanded C q a c post (fun v c1 h => ⟨⟨v, c1, rfl, rfl, h⟩, rfl⟩) hw)
def wp_C_noiseAt (c : CSt) (x1 : Int32) (post : Int32 → CSt → Prop) : Prop :=
  wp_X_isLock x1 (fun v1 => ((v1 = 0) → (post 0 c)) ∧ ((¬ v1 = 0) → (vp_in x1 10 ∧ (post ((C_noise c) x1.toNatClampNeg) c))))
set_option maxRecDepth 20000 in
theorem g_C_noiseAt {X : GX} (C : GC X b_C_noiseAt R_C 2 (rmd 1)) {Qp : Option Value → va_W → Prop} (q : RC X ((some .int)) Qp 0 0) (a : Nat → Nat) (c : CSt) (x1 : Int32) (post : Int32 → CSt → Prop) (hq : ∀ v c1, post v c1 → Qp (some (.int v)) (woC (xt X) a c1)) (hw : wp_C_noiseAt c x1 post) : G X 0 0 (woC (xt X) a c) [(0, .ref (a 0)), (1, .int x1)] [] 0 := by
  unfold wp_C_noiseAt at hw
  refine g_iload_n (pc := 0) C d_C_noiseAt_0 1 rfl rfl ?_
  refine k_I0 (pc := 1) (co_SN C (c_X_isLock (xl X) (xD X) (xt X) (xv X) x1 _ hw) mw_X_isLock lk_C_68 d_C_noiseAt_1 [] rfl (by decide)  rfl rfl ⟨Nat.le_of_ble_eq_true rfl, Nat.le_of_ble_eq_true rfl⟩ ⟨Nat.le_of_ble_eq_true rfl, Nat.le_of_ble_eq_true rfl⟩ (rest := []) rfl rfl (Nat.le_of_ble_eq_true rfl)) (fun v1 hw => ?_)
  refine g_if_eq (pc := 4) (tgt := 16) C d_C_noiseAt_4 (by decide) (fun h3 => ?_) (fun h3 => ?_)
  · replace hw := hw.1 h3
    refine g_iconst (pc := 16) C (v := 0) d_C_noiseAt_16 (by decide) ?_
    exact g_iret (pc := 17) C q d_C_noiseAt_17 (hq _ _ hw)
  · replace hw := hw.2 h3
    refine g_aload_n (pc := 7) C d_C_noiseAt_7 0 rfl rfl ?_
    refine fC_noise (pc := 8) C lk_C_15 d_C_noiseAt_8 ?_
    refine g_iload_n (pc := 11) C d_C_noiseAt_11 1 rfl rfl ?_
    obtain ⟨h2, hw⟩ := hw
    refine lC_noise (pc := 12) C d_C_noiseAt_12 (f := C_noise c) rfl (N0 := x1.toNatClampNeg) rfl h2 ?_
    refine g_goto (pc := 13) (tgt := 17) C d_C_noiseAt_13 (by decide) ?_
    exact g_iret (pc := 17) C q d_C_noiseAt_17 (hq _ _ hw)
set_option maxRecDepth 20000 in
theorem c_C_noiseAt (l : Launch) (D : va_G) (t : Nat → ClassId) (ev : Nat → Nat) (a : Nat → Nat) (c : CSt) (x1 : Int32) (post : Int32 → CSt → Prop) (hw : wp_C_noiseAt c x1 post) : Con l D t ev y_C_noiseAt b_C_noiseAt 2 ((some .int)) 1 (woC t a c) [.ref (a 0), .int x1] (qI (woC t a)  post) :=
  ConR.of (by decide +kernel) (Nat.le_of_ble_eq_true rfl) (fun X el eD et ee C q _ => by subst el; subst eD; subst et; subst ee; exact g_C_noiseAt C q a c x1 post (fun v c1 h => ⟨⟨v, c1, rfl, rfl, h⟩, rfl⟩) hw)
def wp_C_paceOf (c : CSt) (x1 : Int32) (post : Int32 → CSt → Prop) : Prop :=
  vp_in x1 8 ∧ (((((C_kind c) x1.toNatClampNeg) = 2) → (post 2 c)) ∧ ((¬ ((C_kind c) x1.toNatClampNeg) = 2) → (((((C_kind c) x1.toNatClampNeg) = 3) → (post 2 c)) ∧ ((¬ ((C_kind c) x1.toNatClampNeg) = 3) → (((((C_kind c) x1.toNatClampNeg) = 4) → (post (2 - ((C_hour c) &&& 1)) c)) ∧ ((¬ ((C_kind c) x1.toNatClampNeg) = 4) → (((((C_kind c) x1.toNatClampNeg) = 5) → (post (1 + ((C_laws c) 2)) c)) ∧ ((¬ ((C_kind c) x1.toNatClampNeg) = 5) → (post 1 c)))))))))
set_option maxRecDepth 20000 in
theorem g_C_paceOf {X : GX} (C : GC X b_C_paceOf R_C 2 (rmd 0)) {Qp : Option Value → va_W → Prop} (q : RC X ((some .int)) Qp 0 0) (a : Nat → Nat) (c : CSt) (x1 : Int32) (post : Int32 → CSt → Prop) (hq : ∀ v c1, post v c1 → Qp (some (.int v)) (woC (xt X) a c1)) (hw : wp_C_paceOf c x1 post) : G X 0 0 (woC (xt X) a c) [(0, .ref (a 0)), (1, .int x1)] [] 0 := by
  unfold wp_C_paceOf at hw
  refine g_aload_n (pc := 0) C d_C_paceOf_0 0 rfl rfl ?_
  refine fC_kind (pc := 1) C lk_C_21 d_C_paceOf_1 ?_
  refine g_iload_n (pc := 4) C d_C_paceOf_4 1 rfl rfl ?_
  obtain ⟨h1, hw⟩ := hw
  refine lC_kind (pc := 5) C d_C_paceOf_5 (f := C_kind c) rfl (N0 := x1.toNatClampNeg) rfl h1 ?_
  by_cases h2 : ((C_kind c) x1.toNatClampNeg) = 2
  · replace hw := hw.1 h2
    refine g_tabIn (pc := 6) (tgt := 36) C d_C_paceOf_6 (by rw [h2]; decide) (by rw [h2]; decide) (off := 30) (by rw [h2]; rfl) (by decide) ?_
    refine g_iconst (pc := 36) C (v := 2) d_C_paceOf_36 (by decide) ?_
    exact g_iret (pc := 37) C q d_C_paceOf_37 (hq _ _ hw)
  · replace hw := hw.2 h2
    by_cases h3 : ((C_kind c) x1.toNatClampNeg) = 3
    · replace hw := hw.1 h3
      refine g_tabIn (pc := 6) (tgt := 36) C d_C_paceOf_6 (by rw [h3]; decide) (by rw [h3]; decide) (off := 30) (by rw [h3]; rfl) (by decide) ?_
      refine g_iconst (pc := 36) C (v := 2) d_C_paceOf_36 (by decide) ?_
      exact g_iret (pc := 37) C q d_C_paceOf_37 (hq _ _ hw)
    · replace hw := hw.2 h3
      by_cases h4 : ((C_kind c) x1.toNatClampNeg) = 4
      · replace hw := hw.1 h4
        refine g_tabIn (pc := 6) (tgt := 38) C d_C_paceOf_6 (by rw [h4]; decide) (by rw [h4]; decide) (off := 32) (by rw [h4]; rfl) (by decide) ?_
        refine g_iconst (pc := 38) C (v := 2) d_C_paceOf_38 (by decide) ?_
        refine g_aload_n (pc := 39) C d_C_paceOf_39 0 rfl rfl ?_
        refine fC_hour (pc := 40) C lk_C_40 d_C_paceOf_40 (v := C_hour c) rfl ?_
        refine g_iconst (pc := 43) C (v := 1) d_C_paceOf_43 (by decide) ?_
        refine g_iand (pc := 44) C d_C_paceOf_44 ?_
        refine g_isub (pc := 45) C d_C_paceOf_45 ?_
        exact g_iret (pc := 46) C q d_C_paceOf_46 (hq _ _ hw)
      · replace hw := hw.2 h4
        by_cases h5 : ((C_kind c) x1.toNatClampNeg) = 5
        · replace hw := hw.1 h5
          refine g_tabIn (pc := 6) (tgt := 47) C d_C_paceOf_6 (by rw [h5]; decide) (by rw [h5]; decide) (off := 41) (by rw [h5]; rfl) (by decide) ?_
          refine g_iconst (pc := 47) C (v := 1) d_C_paceOf_47 (by decide) ?_
          refine g_aload_n (pc := 48) C d_C_paceOf_48 0 rfl rfl ?_
          refine fC_laws (pc := 49) C lk_C_9 d_C_paceOf_49 ?_
          refine g_iconst (pc := 52) C (v := 2) d_C_paceOf_52 (by decide) ?_
          refine lC_laws (pc := 53) C d_C_paceOf_53 (f := C_laws c) rfl (N0 := 2) (by decide) (by unfold vp_in; decide) ?_
          refine g_iadd (pc := 54) C d_C_paceOf_54 ?_
          exact g_iret (pc := 55) C q d_C_paceOf_55 (hq _ _ hw)
        · replace hw := hw.2 h5
          have h2_ := sw_ne (v := 2) h2 (by decide)
          have h3_ := sw_ne (v := 3) h3 (by decide)
          have h4_ := sw_ne (v := 4) h4 (by decide)
          have h5_ := sw_ne (v := 5) h5 (by decide)
          refine g_tabOut (pc := 6) (tgt := 56) C d_C_paceOf_6 (by omega) (by decide) ?_
          refine g_iconst (pc := 56) C (v := 1) d_C_paceOf_56 (by decide) ?_
          exact g_iret (pc := 57) C q d_C_paceOf_57 (hq _ _ hw)
set_option maxRecDepth 20000 in
theorem c_C_paceOf (l : Launch) (D : va_G) (t : Nat → ClassId) (ev : Nat → Nat) (a : Nat → Nat) (c : CSt) (x1 : Int32) (post : Int32 → CSt → Prop) (hw : wp_C_paceOf c x1 post) : Con l D t ev y_C_paceOf b_C_paceOf 2 ((some .int)) 0 (woC t a c) [.ref (a 0), .int x1] (qI (woC t a)  post) :=
  ConR.of (by decide +kernel) (Nat.le_of_ble_eq_true rfl) (fun X el eD et ee C q _ => by subst el; subst eD; subst et; subst ee; exact g_C_paceOf C q a c x1 post (fun v c1 h => ⟨⟨v, c1, rfl, rfl, h⟩, rfl⟩) hw)
def wp_C_spillOf (c : CSt) (x1 : Int32) (x2 : Int32) (post : Int32 → CSt → Prop) : Prop :=
  vp_in x1 8 ∧ (((((C_kind c) x1.toNatClampNeg) = 1) → (post (x2 / 2) c)) ∧ ((¬ ((C_kind c) x1.toNatClampNeg) = 1) → (((((C_kind c) x1.toNatClampNeg) = 2) → (post (x2 - 1) c)) ∧ ((¬ ((C_kind c) x1.toNatClampNeg) = 2) → (((((C_kind c) x1.toNatClampNeg) = 3) → (∀ y2 : Int32, y2 = x2 / 2 → (post (y2 - ((C_laws c) 1)) c))) ∧ ((¬ ((C_kind c) x1.toNatClampNeg) = 3) → (((((C_kind c) x1.toNatClampNeg) = 4) → (∀ y3 : Int32, y3 = x2 - 1 → (vp_in x1 8 ∧ (post (y3 + (((C_load c) x1.toNatClampNeg) / 10)) c)))) ∧ ((¬ ((C_kind c) x1.toNatClampNeg) = 4) → (((((C_kind c) x1.toNatClampNeg) = 5) → (((((C_hour c) - (C_hour c) / 3 * 3) = 0) → (∀ y5 : Int32, y5 = x2 * 2 → (post y5 c))) ∧ ((¬ ((C_hour c) - (C_hour c) / 3 * 3) = 0) → (post 0 c)))) ∧ ((¬ ((C_kind c) x1.toNatClampNeg) = 5) → (post x2 c)))))))))))
set_option maxRecDepth 20000 in
theorem g_C_spillOf {X : GX} (C : GC X b_C_spillOf R_C 3 (rmd 0)) {Qp : Option Value → va_W → Prop} (q : RC X ((some .int)) Qp 0 0) (a : Nat → Nat) (c : CSt) (x1 : Int32) (x2 : Int32) (post : Int32 → CSt → Prop) (hq : ∀ v c1, post v c1 → Qp (some (.int v)) (woC (xt X) a c1)) (hw : wp_C_spillOf c x1 x2 post) : G X 0 0 (woC (xt X) a c) [(0, .ref (a 0)), (1, .int x1), (2, .int x2)] [] 0 := by
  unfold wp_C_spillOf at hw
  refine g_aload_n (pc := 0) C d_C_spillOf_0 0 rfl rfl ?_
  refine fC_kind (pc := 1) C lk_C_21 d_C_spillOf_1 ?_
  refine g_iload_n (pc := 4) C d_C_spillOf_4 1 rfl rfl ?_
  obtain ⟨h1, hw⟩ := hw
  refine lC_kind (pc := 5) C d_C_spillOf_5 (f := C_kind c) rfl (N0 := x1.toNatClampNeg) rfl h1 ?_
  by_cases h7 : ((C_kind c) x1.toNatClampNeg) = 1
  · replace hw := hw.1 h7
    refine g_tabIn (pc := 6) (tgt := 40) C d_C_spillOf_6 (by rw [h7]; decide) (by rw [h7]; decide) (off := 34) (by rw [h7]; rfl) (by decide) ?_
    refine g_iload_n (pc := 40) C d_C_spillOf_40 2 rfl rfl ?_
    refine g_iconst (pc := 41) C (v := 2) d_C_spillOf_41 (by decide) ?_
    refine g_idiv (pc := 42) C d_C_spillOf_42 (by decide) ?_
    exact g_iret (pc := 43) C q d_C_spillOf_43 (hq _ _ hw)
  · replace hw := hw.2 h7
    by_cases h8 : ((C_kind c) x1.toNatClampNeg) = 2
    · replace hw := hw.1 h8
      refine g_tabIn (pc := 6) (tgt := 55) C d_C_spillOf_6 (by rw [h8]; decide) (by rw [h8]; decide) (off := 49) (by rw [h8]; rfl) (by decide) ?_
      refine g_iload_n (pc := 55) C d_C_spillOf_55 2 rfl rfl ?_
      refine g_iconst (pc := 56) C (v := 1) d_C_spillOf_56 (by decide) ?_
      refine g_isub (pc := 57) C d_C_spillOf_57 ?_
      exact g_iret (pc := 58) C q d_C_spillOf_58 (hq _ _ hw)
    · replace hw := hw.2 h8
      by_cases h9 : ((C_kind c) x1.toNatClampNeg) = 3
      · replace hw := hw.1 h9
        refine g_tabIn (pc := 6) (tgt := 44) C d_C_spillOf_6 (by rw [h9]; decide) (by rw [h9]; decide) (off := 38) (by rw [h9]; rfl) (by decide) ?_
        refine g_iload_n (pc := 44) C d_C_spillOf_44 2 rfl rfl ?_
        refine g_iconst (pc := 45) C (v := 2) d_C_spillOf_45 (by decide) ?_
        refine g_idiv (pc := 46) C d_C_spillOf_46 (by decide) ?_
        refine g_topi (fun y2 ey2 => ?_)
        replace hw := hw y2 ey2
        refine g_aload_n (pc := 47) C d_C_spillOf_47 0 rfl rfl ?_
        refine fC_laws (pc := 48) C lk_C_9 d_C_spillOf_48 ?_
        refine g_iconst (pc := 51) C (v := 1) d_C_spillOf_51 (by decide) ?_
        refine lC_laws (pc := 52) C d_C_spillOf_52 (f := C_laws c) rfl (N0 := 1) (by decide) (by unfold vp_in; decide) ?_
        refine g_isub (pc := 53) C d_C_spillOf_53 ?_
        exact g_iret (pc := 54) C q d_C_spillOf_54 (hq _ _ hw)
      · replace hw := hw.2 h9
        by_cases h10 : ((C_kind c) x1.toNatClampNeg) = 4
        · replace hw := hw.1 h10
          refine g_tabIn (pc := 6) (tgt := 59) C d_C_spillOf_6 (by rw [h10]; decide) (by rw [h10]; decide) (off := 53) (by rw [h10]; rfl) (by decide) ?_
          refine g_iload_n (pc := 59) C d_C_spillOf_59 2 rfl rfl ?_
          refine g_iconst (pc := 60) C (v := 1) d_C_spillOf_60 (by decide) ?_
          refine g_isub (pc := 61) C d_C_spillOf_61 ?_
          refine g_topi (fun y3 ey3 => ?_)
          replace hw := hw y3 ey3
          refine g_aload_n (pc := 62) C d_C_spillOf_62 0 rfl rfl ?_
          refine fC_load (pc := 63) C lk_C_24 d_C_spillOf_63 ?_
          refine g_iload_n (pc := 66) C d_C_spillOf_66 1 rfl rfl ?_
          obtain ⟨h4, hw⟩ := hw
          refine lC_load (pc := 67) C d_C_spillOf_67 (f := C_load c) rfl (N0 := x1.toNatClampNeg) rfl h4 ?_
          refine g_bipush (pc := 68) C (v := 10) d_C_spillOf_68 (by decide) ?_
          refine g_idiv (pc := 70) C d_C_spillOf_70 (by decide) ?_
          refine g_iadd (pc := 71) C d_C_spillOf_71 ?_
          exact g_iret (pc := 72) C q d_C_spillOf_72 (hq _ _ hw)
        · replace hw := hw.2 h10
          by_cases h11 : ((C_kind c) x1.toNatClampNeg) = 5
          · replace hw := hw.1 h11
            refine g_tabIn (pc := 6) (tgt := 73) C d_C_spillOf_6 (by rw [h11]; decide) (by rw [h11]; decide) (off := 67) (by rw [h11]; rfl) (by decide) ?_
            refine g_aload_n (pc := 73) C d_C_spillOf_73 0 rfl rfl ?_
            refine fC_hour (pc := 74) C lk_C_40 d_C_spillOf_74 (v := C_hour c) rfl ?_
            refine g_iconst (pc := 77) C (v := 3) d_C_spillOf_77 (by decide) ?_
            refine g_irem (pc := 78) C d_C_spillOf_78 (by decide) ?_
            refine g_if_ne (pc := 79) (tgt := 88) C d_C_spillOf_79 (by decide) (fun h6 => ?_) (fun h6 => ?_)
            · replace hw := hw.2 h6
              refine g_iconst (pc := 88) C (v := 0) d_C_spillOf_88 (by decide) ?_
              exact g_iret (pc := 89) C q d_C_spillOf_89 (hq _ _ hw)
            · replace hw := hw.1 h6
              refine g_iload_n (pc := 82) C d_C_spillOf_82 2 rfl rfl ?_
              refine g_iconst (pc := 83) C (v := 2) d_C_spillOf_83 (by decide) ?_
              refine g_imul (pc := 84) C d_C_spillOf_84 ?_
              refine g_topi (fun y5 ey5 => ?_)
              replace hw := hw y5 ey5
              refine g_goto (pc := 85) (tgt := 89) C d_C_spillOf_85 (by decide) ?_
              exact g_iret (pc := 89) C q d_C_spillOf_89 (hq _ _ hw)
          · replace hw := hw.2 h11
            have h7_ := sw_ne (v := 1) h7 (by decide)
            have h8_ := sw_ne (v := 2) h8 (by decide)
            have h9_ := sw_ne (v := 3) h9 (by decide)
            have h10_ := sw_ne (v := 4) h10 (by decide)
            have h11_ := sw_ne (v := 5) h11 (by decide)
            refine g_tabOut (pc := 6) (tgt := 90) C d_C_spillOf_6 (by omega) (by decide) ?_
            refine g_iload_n (pc := 90) C d_C_spillOf_90 2 rfl rfl ?_
            exact g_iret (pc := 91) C q d_C_spillOf_91 (hq _ _ hw)
set_option maxRecDepth 20000 in
theorem c_C_spillOf (l : Launch) (D : va_G) (t : Nat → ClassId) (ev : Nat → Nat) (a : Nat → Nat) (c : CSt) (x1 : Int32) (x2 : Int32) (post : Int32 → CSt → Prop) (hw : wp_C_spillOf c x1 x2 post) : Con l D t ev y_C_spillOf b_C_spillOf 3 ((some .int)) 0 (woC t a c) [.ref (a 0), .int x1, .int x2] (qI (woC t a)  post) :=
  ConR.of (by decide +kernel) (Nat.le_of_ble_eq_true rfl) (fun X el eD et ee C q _ => by subst el; subst eD; subst et; subst ee; exact g_C_spillOf C q a c x1 x2 post (fun v c1 h => ⟨⟨v, c1, rfl, rfl, h⟩, rfl⟩) hw)
def wp_C_spill (c : CSt) (x1 : Int32) (x2 : Int32) (x3 : Int32) (post : CSt → Prop) : Prop :=
  vp_in x1 8 ∧ (∀ y2 : Int32, y2 = ((C_load c) x1.toNatClampNeg) - x3 → (wp_X_heldLoad y2 (fun v3 => vp_in x1 8 ∧ (vp_in x1 8 ∧ (((((C_load c) x1.toNatClampNeg) ≤ ((upd (C_load c) x1.toNatClampNeg v3) x1.toNatClampNeg)) → (post (C_load_ c (upd (C_load c) x1.toNatClampNeg v3)))) ∧ ((¬ ((C_load c) x1.toNatClampNeg) ≤ ((upd (C_load c) x1.toNatClampNeg v3) x1.toNatClampNeg)) → (wp_X_isLock x2 (fun v6 => ((v6 = 0) → (post (C_load_ c (upd (C_load c) x1.toNatClampNeg v3)))) ∧ ((¬ v6 = 0) → (vp_in x2 10 ∧ (∀ y8 : Int32, y8 = ((C_lost c) x2.toNatClampNeg) + ((C_load c) x1.toNatClampNeg) → (vp_in x1 8 ∧ (∀ y10 : Int32, y10 = y8 - ((upd (C_load c) x1.toNatClampNeg v3) x1.toNatClampNeg) → (vp_in x2 10 ∧ (post (C_lost_ (C_load_ c (upd (C_load c) x1.toNatClampNeg v3)) (upd (C_lost c) x2.toNatClampNeg (if y10 < 9999 then y10 else 9999))))))))))))))))))
set_option maxRecDepth 20000 in
theorem g_C_spill {X : GX} (C : GC X b_C_spill R_C 5 (rmd 1)) {Qp : Option Value → va_W → Prop} (q : RC X (none) Qp 0 0) (a : Nat → Nat) (c : CSt) (x1 : Int32) (x2 : Int32) (x3 : Int32) (post : CSt → Prop) (hq : ∀ c1, post c1 → Qp none (woC (xt X) a c1)) (hw : wp_C_spill c x1 x2 x3 post) : G X 0 0 (woC (xt X) a c) [(0, .ref (a 0)), (1, .int x1), (2, .int x2), (3, .int x3)] [] 0 := by
  unfold wp_C_spill at hw
  refine g_aload_n (pc := 0) C d_C_spill_0 0 rfl rfl ?_
  refine fC_load (pc := 1) C lk_C_24 d_C_spill_1 ?_
  refine g_iload_n (pc := 4) C d_C_spill_4 1 rfl rfl ?_
  obtain ⟨h1, hw⟩ := hw
  refine lC_load (pc := 5) C d_C_spill_5 (f := C_load c) rfl (N0 := x1.toNatClampNeg) rfl h1 ?_
  refine g_istore (pc := 6) C d_C_spill_6 (Nat.le_of_ble_eq_true rfl) (lv' := [(0, .ref (a 0)), (1, .int x1), (2, .int x2), (3, .int x3), (4, .int ((C_load c) x1.toNatClampNeg))]) rfl ?_
  refine g_aload_n (pc := 8) C d_C_spill_8 0 rfl rfl ?_
  refine fC_load (pc := 9) C lk_C_24 d_C_spill_9 ?_
  refine g_iload_n (pc := 12) C d_C_spill_12 1 rfl rfl ?_
  refine g_iload (pc := 13) C d_C_spill_13 4 rfl ?_
  refine g_iload_n (pc := 15) C d_C_spill_15 3 rfl rfl ?_
  refine g_isub (pc := 16) C d_C_spill_16 ?_
  refine g_topi (fun y2 ey2 => ?_)
  replace hw := hw y2 ey2
  refine k_I0 (pc := 17) (co_SN C (c_X_heldLoad (xl X) (xD X) (xt X) (xv X) y2 _ hw) mw_X_heldLoad lk_C_104 d_C_spill_17 [] rfl (by decide)  rfl rfl ⟨Nat.le_of_ble_eq_true rfl, Nat.le_of_ble_eq_true rfl⟩ ⟨Nat.le_of_ble_eq_true rfl, Nat.le_of_ble_eq_true rfl⟩ (rest := [.int x1, .ref (a 5)]) rfl rfl (Nat.le_of_ble_eq_true rfl)) (fun v3 hw => ?_)
  obtain ⟨h4, hw⟩ := hw
  refine sC_load (pc := 20) C d_C_spill_20 (f := C_load c) rfl (N0 := x1.toNatClampNeg) rfl h4 ?_
  refine g_aload_n (pc := 21) C d_C_spill_21 0 rfl rfl ?_
  refine fC_load (pc := 22) C lk_C_24 d_C_spill_22 ?_
  refine g_iload_n (pc := 25) C d_C_spill_25 1 rfl rfl ?_
  obtain ⟨h5, hw⟩ := hw
  refine lC_load (pc := 26) C d_C_spill_26 (f := upd (C_load c) x1.toNatClampNeg v3) rfl (N0 := x1.toNatClampNeg) rfl h5 ?_
  refine g_iload (pc := 27) C d_C_spill_27 4 rfl ?_
  refine g_icmp_ge (pc := 29) (tgt := 67) C d_C_spill_29 (by decide) (fun h13 => ?_) (fun h13 => ?_)
  · replace hw := hw.1 h13
    exact g_vret (pc := 67) C q d_C_spill_67 (hq (C_load_ c (upd (C_load c) x1.toNatClampNeg v3)) hw)
  · replace hw := hw.2 h13
    refine g_iload_n (pc := 32) C d_C_spill_32 2 rfl rfl ?_
    refine k_I0 (pc := 33) (co_SN C (c_X_isLock (xl X) (xD X) (xt X) (xv X) x2 _ hw) mw_X_isLock lk_C_68 d_C_spill_33 [] rfl (by decide)  rfl rfl ⟨Nat.le_of_ble_eq_true rfl, Nat.le_of_ble_eq_true rfl⟩ ⟨Nat.le_of_ble_eq_true rfl, Nat.le_of_ble_eq_true rfl⟩ (rest := []) rfl rfl (Nat.le_of_ble_eq_true rfl)) (fun v6 hw => ?_)
    refine g_if_eq (pc := 36) (tgt := 67) C d_C_spill_36 (by decide) (fun h12 => ?_) (fun h12 => ?_)
    · replace hw := hw.1 h12
      exact g_vret (pc := 67) C q d_C_spill_67 (hq (C_load_ c (upd (C_load c) x1.toNatClampNeg v3)) hw)
    · replace hw := hw.2 h12
      refine g_aload_n (pc := 39) C d_C_spill_39 0 rfl rfl ?_
      refine fC_lost (pc := 40) C lk_C_18 d_C_spill_40 ?_
      refine g_iload_n (pc := 43) C d_C_spill_43 2 rfl rfl ?_
      refine g_sipush (pc := 44) C (v := 9999) d_C_spill_44 (by decide) ?_
      refine g_aload_n (pc := 47) C d_C_spill_47 0 rfl rfl ?_
      refine fC_lost (pc := 48) C lk_C_18 d_C_spill_48 ?_
      refine g_iload_n (pc := 51) C d_C_spill_51 2 rfl rfl ?_
      obtain ⟨h7, hw⟩ := hw
      refine lC_lost (pc := 52) C d_C_spill_52 (f := C_lost c) rfl (N0 := x2.toNatClampNeg) rfl h7 ?_
      refine g_iload (pc := 53) C d_C_spill_53 4 rfl ?_
      refine g_iadd (pc := 55) C d_C_spill_55 ?_
      refine g_topi (fun y8 ey8 => ?_)
      replace hw := hw y8 ey8
      refine g_aload_n (pc := 56) C d_C_spill_56 0 rfl rfl ?_
      refine fC_load (pc := 57) C lk_C_24 d_C_spill_57 ?_
      refine g_iload_n (pc := 60) C d_C_spill_60 1 rfl rfl ?_
      obtain ⟨h9, hw⟩ := hw
      refine lC_load (pc := 61) C d_C_spill_61 (f := upd (C_load c) x1.toNatClampNeg v3) rfl (N0 := x1.toNatClampNeg) rfl h9 ?_
      refine g_isub (pc := 62) C d_C_spill_62 ?_
      refine g_topi (fun y10 ey10 => ?_)
      replace hw := hw y10 ey10
      refine g_mmin (pc := 63) C lk_C_107 ⟨Nat.le_of_ble_eq_true rfl, Nat.le_of_ble_eq_true rfl⟩ d_C_spill_63 (Nat.le_of_ble_eq_true rfl) ⟨Nat.le_of_ble_eq_true rfl, Nat.le_of_ble_eq_true rfl⟩ ?_
      obtain ⟨h11, hw⟩ := hw
      refine sC_lost (pc := 66) C d_C_spill_66 (f := C_lost c) rfl (N0 := x2.toNatClampNeg) rfl h11 ?_
      exact g_vret (pc := 67) C q d_C_spill_67 (hq (C_lost_ (C_load_ c (upd (C_load c) x1.toNatClampNeg v3)) (upd (C_lost c) x2.toNatClampNeg (if y10 < 9999 then y10 else 9999))) hw)
set_option maxRecDepth 20000 in
theorem c_C_spill (l : Launch) (D : va_G) (t : Nat → ClassId) (ev : Nat → Nat) (a : Nat → Nat) (c : CSt) (x1 : Int32) (x2 : Int32) (x3 : Int32) (post : CSt → Prop) (hw : wp_C_spill c x1 x2 x3 post) : Con l D t ev y_C_spill b_C_spill 5 (none) 1 (woC t a c) [.ref (a 0), .int x1, .int x2, .int x3] (qV (woC t a)  post) :=
  ConR.of (by decide +kernel) (Nat.le_of_ble_eq_true rfl) (fun X el eD et ee C q _ => by subst el; subst eD; subst et; subst ee; exact g_C_spill C q a c x1 x2 x3 post (fun c1 h => ⟨⟨c1, rfl, rfl, h⟩, rfl⟩) hw)
def w_C_goOn_47  (post : CSt → Prop) (k8 : CSt → Int32 → Int32 → Int32 → Prop) (c : CSt) (x1 : Int32) (x2 : Int32) (x3 : Int32) (s0 : Int32) (s1 : Int32) : Prop :=
  ∀ y8 : Int32, y8 = s0 + s1 → (vp_in x1 8 ∧ (wp_C_noiseAt (C_at_ c (upd (C_at c) x1.toNatClampNeg y8)) y8 (fun v10 c_11 => wp_C_spillOf c_11 x1 v10 (fun v12 c_13 => wp_C_spill c_13 x1 y8 v12 (fun c_14 => ∀ y15 : Int32, y15 = x3 + 1 → (k8 c_14 x1 x2 y15))))))
set_option maxRecDepth 20000 in
theorem j_C_goOn_47 {X : GX} (C : GC X b_C_goOn R_C 5 (rmd 2)) {Qp : Option Value → va_W → Prop} (q : RC X (none) Qp 0 0) (a : Nat → Nat)   (post : CSt → Prop) (hq : ∀ c1, post c1 → Qp none (woC (xt X) a c1)) {k8 : CSt → Int32 → Int32 → Int32 → Prop} (hk8 : ∀ (c : CSt) (x1 : Int32) (x2 : Int32) (x3 : Int32), k8 c x1 x2 x3 → G X 0 0 (woC (xt X) a c) [(0, .ref (a 0)), (1, .int x1), (2, .int x2), (3, .int x3)] [] 8) : ∀ (c : CSt) (x1 : Int32) (x2 : Int32) (x3 : Int32) (s0 : Int32) (s1 : Int32), w_C_goOn_47  post k8 c x1 x2 x3 s0 s1 → G X 0 0 (woC (xt X) a c) [(0, .ref (a 0)), (1, .int x1), (2, .int x2), (3, .int x3)] [.int s1, .int s0] 47 := by
  intro c x1 x2 x3 s0 s1 hw
  unfold w_C_goOn_47 at hw
  refine g_iadd (pc := 47) C d_C_goOn_47 ?_
  refine g_topi (fun y8 ey8 => ?_)
  replace hw := hw y8 ey8
  refine g_istore (pc := 48) C d_C_goOn_48 (Nat.le_of_ble_eq_true rfl) (lv' := [(0, .ref (a 0)), (1, .int x1), (2, .int x2), (3, .int x3), (4, .int y8)]) rfl ?_
  refine g_aload_n (pc := 50) C d_C_goOn_50 0 rfl rfl ?_
  refine fC_at (pc := 51) C lk_C_30 d_C_goOn_51 ?_
  refine g_iload_n (pc := 54) C d_C_goOn_54 1 rfl rfl ?_
  refine g_iload (pc := 55) C d_C_goOn_55 4 rfl ?_
  obtain ⟨h9, hw⟩ := hw
  refine sC_at (pc := 57) C d_C_goOn_57 (f := C_at c) rfl (N0 := x1.toNatClampNeg) rfl h9 ?_
  refine g_aload_n (pc := 58) C d_C_goOn_58 0 rfl rfl ?_
  refine g_iload_n (pc := 59) C d_C_goOn_59 1 rfl rfl ?_
  refine g_iload (pc := 60) C d_C_goOn_60 4 rfl ?_
  refine g_aload_n (pc := 62) C d_C_goOn_62 0 rfl rfl ?_
  refine g_iload_n (pc := 63) C d_C_goOn_63 1 rfl rfl ?_
  refine g_aload_n (pc := 64) C d_C_goOn_64 0 rfl rfl ?_
  refine g_iload (pc := 65) C d_C_goOn_65 4 rfl ?_
  refine k_Ia (pc := 67) (co_V C (c_C_noiseAt (xl X) (xD X) (xt X) (xv X) a (C_at_ c (upd (C_at c) x1.toNatClampNeg y8)) y8 _ hw) mw_C_noiseAt lk_C_93 d_C_goOn_67 (List.range _) (all_C _) (all_nd _) (rec_w C 0 1 rfl rfl) rfl rfl ⟨Nat.le_of_ble_eq_true rfl, Nat.le_of_ble_eq_true rfl⟩ ⟨Nat.le_of_ble_eq_true rfl, Nat.le_of_ble_eq_true rfl⟩ (rest := [.int x1, .ref (a 0), .int y8, .int x1, .ref (a 0)]) rfl rfl (Nat.le_of_ble_eq_true rfl)) (fun v10 c_11 hw => ?_)
  refine k_Ia (pc := 70) (co_V C (c_C_spillOf (xl X) (xD X) (xt X) (xv X) a c_11 x1 v10 _ hw) mw_C_spillOf lk_C_96 d_C_goOn_70 (List.range _) (all_C _) (all_nd _) (rec_w C 0 1 rfl rfl) rfl rfl ⟨Nat.le_of_ble_eq_true rfl, Nat.le_of_ble_eq_true rfl⟩ ⟨Nat.le_of_ble_eq_true rfl, Nat.le_of_ble_eq_true rfl⟩ (rest := [.int y8, .int x1, .ref (a 0)]) rfl rfl (Nat.le_of_ble_eq_true rfl)) (fun v12 c_13 hw => ?_)
  refine k_Va (pc := 73) (co_V C (c_C_spill (xl X) (xD X) (xt X) (xv X) a c_13 x1 y8 v12 _ hw) mw_C_spill lk_C_100 d_C_goOn_73 (List.range _) (all_C _) (all_nd _) (rec_w C 0 1 rfl rfl) rfl rfl ⟨Nat.le_of_ble_eq_true rfl, Nat.le_of_ble_eq_true rfl⟩ ⟨Nat.le_of_ble_eq_true rfl, Nat.le_of_ble_eq_true rfl⟩ (rest := []) rfl rfl (Nat.le_of_ble_eq_true rfl)) (fun c_14 hw => ?_)
  obtain ⟨y15, ey15⟩ : ∃ w, w = x3 + 1 := ⟨_, rfl⟩
  replace hw := hw y15 ey15
  refine g_iinc (pc := 76) C d_C_goOn_76 3 rfl (v := y15) (by rw [ey15]; rfl) (Nat.le_of_ble_eq_true rfl) (lv' := [(0, .ref (a 0)), (1, .int x1), (2, .int x2), (3, .int y15), (4, .int y8)]) rfl ?_
  refine g_goto (pc := 79) (tgt := 8) C d_C_goOn_79 (by decide) ?_
  refine g_sub [0, 1, 2, 3] (lv' := [(0, .ref (a 0)), (1, .int x1), (2, .int x2), (3, .int y15)]) rfl ?_
  exact hk8 c_14 x1 x2 y15 hw
def w_C_goOn_8  (post : CSt → Prop)  : Nat → CSt → Int32 → Int32 → Int32 → Prop
  | 0, _, _, _, _ => False
  | n + 1, c, x1, x2, x3 =>
    ((x2 ≤ x3) → (post c)) ∧ ((¬ x2 ≤ x3) → (wp_C_hasLanded c x1 (fun v3 c_4 => ((v3 = 0) → (vp_in x1 8 ∧ (vp_in x1 8 ∧ (vp_in x1 8 ∧ (((((C_bound c_4) x1.toNatClampNeg) ≤ ((C_at c_4) x1.toNatClampNeg)) → (w_C_goOn_47  post (w_C_goOn_8  post  n) c_4 x1 x2 x3 ((C_at c_4) x1.toNatClampNeg) (-1))) ∧ ((¬ ((C_bound c_4) x1.toNatClampNeg) ≤ ((C_at c_4) x1.toNatClampNeg)) → (w_C_goOn_47  post (w_C_goOn_8  post  n) c_4 x1 x2 x3 ((C_at c_4) x1.toNatClampNeg) 1))))))) ∧ ((¬ v3 = 0) → (post c_4)))))
set_option maxRecDepth 20000 in
theorem j_C_goOn_8 {X : GX} (C : GC X b_C_goOn R_C 5 (rmd 2)) {Qp : Option Value → va_W → Prop} (q : RC X (none) Qp 0 0) (a : Nat → Nat)   (post : CSt → Prop) (hq : ∀ c1, post c1 → Qp none (woC (xt X) a c1)) : ∀ (n : Nat) (c : CSt) (x1 : Int32) (x2 : Int32) (x3 : Int32), w_C_goOn_8  post  n c x1 x2 x3 → G X 0 0 (woC (xt X) a c) [(0, .ref (a 0)), (1, .int x1), (2, .int x2), (3, .int x3)] [] 8 := by
  intro n
  induction n with
  | zero => intro c x1 x2 x3 hw; exact hw.elim
  | succ n ih =>
    intro c x1 x2 x3 hw
    rw [w_C_goOn_8] at hw
    refine g_iload_n (pc := 8) C d_C_goOn_8 3 rfl rfl ?_
    refine g_iload_n (pc := 9) C d_C_goOn_9 2 rfl rfl ?_
    refine g_icmp_ge (pc := 10) (tgt := 82) C d_C_goOn_10 (by decide) (fun h18 => ?_) (fun h18 => ?_)
    · replace hw := hw.1 h18
      exact g_vret (pc := 82) C q d_C_goOn_82 (hq c hw)
    · replace hw := hw.2 h18
      refine g_aload_n (pc := 13) C d_C_goOn_13 0 rfl rfl ?_
      refine g_iload_n (pc := 14) C d_C_goOn_14 1 rfl rfl ?_
      refine k_Ia (pc := 15) (co_V C (c_C_hasLanded (xl X) (xD X) (xt X) (xv X) a c x1 _ hw) mw_C_hasLanded lk_C_79 d_C_goOn_15 (List.range _) (all_C _) (all_nd _) (rec_w C 0 1 rfl rfl) rfl rfl ⟨Nat.le_of_ble_eq_true rfl, Nat.le_of_ble_eq_true rfl⟩ ⟨Nat.le_of_ble_eq_true rfl, Nat.le_of_ble_eq_true rfl⟩ (rest := []) rfl rfl (Nat.le_of_ble_eq_true rfl)) (fun v3 c_4 hw => ?_)
      refine g_if_ne (pc := 18) (tgt := 82) C d_C_goOn_18 (by decide) (fun h17 => ?_) (fun h17 => ?_)
      · replace hw := hw.2 h17
        exact g_vret (pc := 82) C q d_C_goOn_82 (hq c_4 hw)
      · replace hw := hw.1 h17
        refine g_aload_n (pc := 21) C d_C_goOn_21 0 rfl rfl ?_
        refine fC_at (pc := 22) C lk_C_30 d_C_goOn_22 ?_
        refine g_iload_n (pc := 25) C d_C_goOn_25 1 rfl rfl ?_
        obtain ⟨h5, hw⟩ := hw
        refine lC_at (pc := 26) C d_C_goOn_26 (f := C_at c_4) rfl (N0 := x1.toNatClampNeg) rfl h5 ?_
        refine g_aload_n (pc := 27) C d_C_goOn_27 0 rfl rfl ?_
        refine fC_bound (pc := 28) C lk_C_33 d_C_goOn_28 ?_
        refine g_iload_n (pc := 31) C d_C_goOn_31 1 rfl rfl ?_
        obtain ⟨h6, hw⟩ := hw
        refine lC_bound (pc := 32) C d_C_goOn_32 (f := C_bound c_4) rfl (N0 := x1.toNatClampNeg) rfl h6 ?_
        refine g_aload_n (pc := 33) C d_C_goOn_33 0 rfl rfl ?_
        refine fC_at (pc := 34) C lk_C_30 d_C_goOn_34 ?_
        refine g_iload_n (pc := 37) C d_C_goOn_37 1 rfl rfl ?_
        obtain ⟨h7, hw⟩ := hw
        refine lC_at (pc := 38) C d_C_goOn_38 (f := C_at c_4) rfl (N0 := x1.toNatClampNeg) rfl h7 ?_
        refine g_icmp_le (pc := 39) (tgt := 46) C d_C_goOn_39 (by decide) (fun h16 => ?_) (fun h16 => ?_)
        · replace hw := hw.1 h16
          refine g_iconst (pc := 46) C (v := (-1)) d_C_goOn_46 (by decide) ?_
          exact j_C_goOn_47 C q a post hq ih c_4 x1 x2 x3 ((C_at c_4) x1.toNatClampNeg) (-1) hw
        · replace hw := hw.2 h16
          refine g_iconst (pc := 42) C (v := 1) d_C_goOn_42 (by decide) ?_
          refine g_goto (pc := 43) (tgt := 47) C d_C_goOn_43 (by decide) ?_
          exact j_C_goOn_47 C q a post hq ih c_4 x1 x2 x3 ((C_at c_4) x1.toNatClampNeg) 1 hw
def wp_C_goOn (c : CSt) (x1 : Int32) (post : CSt → Prop) : Prop :=
  wp_C_paceOf c x1 (fun v1 c_2 => w_C_goOn_8  post  2000 c_2 x1 v1 0)
set_option maxRecDepth 20000 in
theorem g_C_goOn {X : GX} (C : GC X b_C_goOn R_C 5 (rmd 2)) {Qp : Option Value → va_W → Prop} (q : RC X (none) Qp 0 0) (a : Nat → Nat) (c : CSt) (x1 : Int32) (post : CSt → Prop) (hq : ∀ c1, post c1 → Qp none (woC (xt X) a c1)) (hw : wp_C_goOn c x1 post) : G X 0 0 (woC (xt X) a c) [(0, .ref (a 0)), (1, .int x1)] [] 0 := by
  unfold wp_C_goOn at hw
  refine g_aload_n (pc := 0) C d_C_goOn_0 0 rfl rfl ?_
  refine g_iload_n (pc := 1) C d_C_goOn_1 1 rfl rfl ?_
  refine k_Ia (pc := 2) (co_V C (c_C_paceOf (xl X) (xD X) (xt X) (xv X) a c x1 _ hw) mw_C_paceOf lk_C_89 d_C_goOn_2 (List.range _) (all_C _) (all_nd _) (rec_w C 0 1 rfl rfl) rfl rfl ⟨Nat.le_of_ble_eq_true rfl, Nat.le_of_ble_eq_true rfl⟩ ⟨Nat.le_of_ble_eq_true rfl, Nat.le_of_ble_eq_true rfl⟩ (rest := []) rfl rfl (Nat.le_of_ble_eq_true rfl)) (fun v1 c_2 hw => ?_)
  refine g_istore_n (pc := 5) C d_C_goOn_5 rfl (Nat.le_of_ble_eq_true rfl) (lv' := [(0, .ref (a 0)), (1, .int x1), (2, .int v1)]) rfl ?_
  refine g_iconst (pc := 6) C (v := 0) d_C_goOn_6 (by decide) ?_
  refine g_istore_n (pc := 7) C d_C_goOn_7 rfl (Nat.le_of_ble_eq_true rfl) (lv' := [(0, .ref (a 0)), (1, .int x1), (2, .int v1), (3, .int 0)]) rfl ?_
  exact j_C_goOn_8 C q a post hq  2000 c_2 x1 v1 0 hw
set_option maxRecDepth 20000 in
theorem c_C_goOn (l : Launch) (D : va_G) (t : Nat → ClassId) (ev : Nat → Nat) (a : Nat → Nat) (c : CSt) (x1 : Int32) (post : CSt → Prop) (hw : wp_C_goOn c x1 post) : Con l D t ev y_C_goOn b_C_goOn 5 (none) 2 (woC t a c) [.ref (a 0), .int x1] (qV (woC t a)  post) :=
  ConR.of (by decide +kernel) (Nat.le_of_ble_eq_true rfl) (fun X el eD et ee C q _ => by subst el; subst eD; subst et; subst ee; exact g_C_goOn C q a c x1 post (fun c1 h => ⟨⟨c1, rfl, rfl, h⟩, rfl⟩) hw)
def w_C_echoWithOthers_9  (post : CSt → Prop)  : Nat → CSt → Int32 → Int32 → Int32 → Prop
  | 0, _, _, _, _ => False
  | n + 1, c, x1, x2, x3 =>
    (((C_count c) ≤ x3) → (post c)) ∧ ((¬ (C_count c) ≤ x3) → (((8 ≤ x3) → (post c)) ∧ ((¬ 8 ≤ x3) → (vp_in x3 8 ∧ (((((C_at c) x3.toNatClampNeg) = x2) → (((x3 = x1) → (∀ y4 : Int32, y4 = x3 + 1 → (w_C_echoWithOthers_9  post  n c x1 x2 y4))) ∧ ((¬ x3 = x1) → (vp_in x3 8 ∧ (vp_in x1 8 ∧ (((((C_sort c) x3.toNatClampNeg) = ((C_sort c) x1.toNatClampNeg)) → (∀ y7 : Int32, y7 = x3 + 1 → (w_C_echoWithOthers_9  post  n c x1 x2 y7))) ∧ ((¬ ((C_sort c) x3.toNatClampNeg) = ((C_sort c) x1.toNatClampNeg)) → (wp_C_hasLanded c x3 (fun v8 c_9 => ((v8 = 0) → (wp_C_spill c_9 x1 x2 ((C_laws c_9) 0) (fun c_11 => wp_C_spill c_11 x3 x2 ((C_laws c_11) 0) (fun c_12 => ∀ y13 : Int32, y13 = x3 + 1 → (w_C_echoWithOthers_9  post  n c_12 x1 x2 y13))))) ∧ ((¬ v8 = 0) → (∀ y10 : Int32, y10 = x3 + 1 → (w_C_echoWithOthers_9  post  n c_9 x1 x2 y10)))))))))))) ∧ ((¬ ((C_at c) x3.toNatClampNeg) = x2) → (∀ y3 : Int32, y3 = x3 + 1 → (w_C_echoWithOthers_9  post  n c x1 x2 y3))))))))
set_option maxRecDepth 20000 in
theorem j_C_echoWithOthers_9 {X : GX} (C : GC X b_C_echoWithOthers R_C 4 (rmd 2)) {Qp : Option Value → va_W → Prop} (q : RC X (none) Qp 0 0) (a : Nat → Nat)   (post : CSt → Prop) (hq : ∀ c1, post c1 → Qp none (woC (xt X) a c1)) : ∀ (n : Nat) (c : CSt) (x1 : Int32) (x2 : Int32) (x3 : Int32), w_C_echoWithOthers_9  post  n c x1 x2 x3 → G X 0 0 (woC (xt X) a c) [(0, .ref (a 0)), (1, .int x1), (2, .int x2), (3, .int x3)] [] 9 := by
  intro n
  induction n with
  | zero => intro c x1 x2 x3 hw; exact hw.elim
  | succ n ih =>
    intro c x1 x2 x3 hw
    rw [w_C_echoWithOthers_9] at hw
    refine g_iload_n (pc := 9) C d_C_echoWithOthers_9 3 rfl rfl ?_
    refine g_aload_n (pc := 10) C d_C_echoWithOthers_10 0 rfl rfl ?_
    refine fC_count (pc := 11) C lk_C_36 d_C_echoWithOthers_11 (v := C_count c) rfl ?_
    refine g_icmp_ge (pc := 14) (tgt := 91) C d_C_echoWithOthers_14 (by decide) (fun h19 => ?_) (fun h19 => ?_)
    · replace hw := hw.1 h19
      exact g_vret (pc := 91) C q d_C_echoWithOthers_91 (hq c hw)
    · replace hw := hw.2 h19
      refine g_iload_n (pc := 17) C d_C_echoWithOthers_17 3 rfl rfl ?_
      refine g_bipush (pc := 18) C (v := 8) d_C_echoWithOthers_18 (by decide) ?_
      refine g_icmp_ge (pc := 20) (tgt := 91) C d_C_echoWithOthers_20 (by decide) (fun h18 => ?_) (fun h18 => ?_)
      · replace hw := hw.1 h18
        exact g_vret (pc := 91) C q d_C_echoWithOthers_91 (hq c hw)
      · replace hw := hw.2 h18
        refine g_aload_n (pc := 23) C d_C_echoWithOthers_23 0 rfl rfl ?_
        refine fC_at (pc := 24) C lk_C_30 d_C_echoWithOthers_24 ?_
        refine g_iload_n (pc := 27) C d_C_echoWithOthers_27 3 rfl rfl ?_
        obtain ⟨h2, hw⟩ := hw
        refine lC_at (pc := 28) C d_C_echoWithOthers_28 (f := C_at c) rfl (N0 := x3.toNatClampNeg) rfl h2 ?_
        refine g_iload_n (pc := 29) C d_C_echoWithOthers_29 2 rfl rfl ?_
        refine g_icmp_ne (pc := 30) (tgt := 85) C d_C_echoWithOthers_30 (by decide) (fun h17 => ?_) (fun h17 => ?_)
        · replace hw := hw.2 h17
          obtain ⟨y3, ey3⟩ : ∃ w, w = x3 + 1 := ⟨_, rfl⟩
          replace hw := hw y3 ey3
          refine g_iinc (pc := 85) C d_C_echoWithOthers_85 3 rfl (v := y3) (by rw [ey3]; rfl) (Nat.le_of_ble_eq_true rfl) (lv' := [(0, .ref (a 0)), (1, .int x1), (2, .int x2), (3, .int y3)]) rfl ?_
          refine g_goto (pc := 88) (tgt := 9) C d_C_echoWithOthers_88 (by decide) ?_
          exact ih c x1 x2 y3 hw
        · replace hw := hw.1 h17
          refine g_iload_n (pc := 33) C d_C_echoWithOthers_33 3 rfl rfl ?_
          refine g_iload_n (pc := 34) C d_C_echoWithOthers_34 1 rfl rfl ?_
          refine g_icmp_eq (pc := 35) (tgt := 85) C d_C_echoWithOthers_35 (by decide) (fun h16 => ?_) (fun h16 => ?_)
          · replace hw := hw.1 h16
            obtain ⟨y4, ey4⟩ : ∃ w, w = x3 + 1 := ⟨_, rfl⟩
            replace hw := hw y4 ey4
            refine g_iinc (pc := 85) C d_C_echoWithOthers_85 3 rfl (v := y4) (by rw [ey4]; rfl) (Nat.le_of_ble_eq_true rfl) (lv' := [(0, .ref (a 0)), (1, .int x1), (2, .int x2), (3, .int y4)]) rfl ?_
            refine g_goto (pc := 88) (tgt := 9) C d_C_echoWithOthers_88 (by decide) ?_
            exact ih c x1 x2 y4 hw
          · replace hw := hw.2 h16
            refine g_aload_n (pc := 38) C d_C_echoWithOthers_38 0 rfl rfl ?_
            refine fC_sort (pc := 39) C lk_C_27 d_C_echoWithOthers_39 ?_
            refine g_iload_n (pc := 42) C d_C_echoWithOthers_42 3 rfl rfl ?_
            obtain ⟨h5, hw⟩ := hw
            refine lC_sort (pc := 43) C d_C_echoWithOthers_43 (f := C_sort c) rfl (N0 := x3.toNatClampNeg) rfl h5 ?_
            refine g_aload_n (pc := 44) C d_C_echoWithOthers_44 0 rfl rfl ?_
            refine fC_sort (pc := 45) C lk_C_27 d_C_echoWithOthers_45 ?_
            refine g_iload_n (pc := 48) C d_C_echoWithOthers_48 1 rfl rfl ?_
            obtain ⟨h6, hw⟩ := hw
            refine lC_sort (pc := 49) C d_C_echoWithOthers_49 (f := C_sort c) rfl (N0 := x1.toNatClampNeg) rfl h6 ?_
            refine g_icmp_eq (pc := 50) (tgt := 85) C d_C_echoWithOthers_50 (by decide) (fun h15 => ?_) (fun h15 => ?_)
            · replace hw := hw.1 h15
              obtain ⟨y7, ey7⟩ : ∃ w, w = x3 + 1 := ⟨_, rfl⟩
              replace hw := hw y7 ey7
              refine g_iinc (pc := 85) C d_C_echoWithOthers_85 3 rfl (v := y7) (by rw [ey7]; rfl) (Nat.le_of_ble_eq_true rfl) (lv' := [(0, .ref (a 0)), (1, .int x1), (2, .int x2), (3, .int y7)]) rfl ?_
              refine g_goto (pc := 88) (tgt := 9) C d_C_echoWithOthers_88 (by decide) ?_
              exact ih c x1 x2 y7 hw
            · replace hw := hw.2 h15
              refine g_aload_n (pc := 53) C d_C_echoWithOthers_53 0 rfl rfl ?_
              refine g_iload_n (pc := 54) C d_C_echoWithOthers_54 3 rfl rfl ?_
              refine k_Ia (pc := 55) (co_V C (c_C_hasLanded (xl X) (xD X) (xt X) (xv X) a c x3 _ hw) mw_C_hasLanded lk_C_79 d_C_echoWithOthers_55 (List.range _) (all_C _) (all_nd _) (rec_w C 0 1 rfl rfl) rfl rfl ⟨Nat.le_of_ble_eq_true rfl, Nat.le_of_ble_eq_true rfl⟩ ⟨Nat.le_of_ble_eq_true rfl, Nat.le_of_ble_eq_true rfl⟩ (rest := []) rfl rfl (Nat.le_of_ble_eq_true rfl)) (fun v8 c_9 hw => ?_)
              refine g_if_ne (pc := 58) (tgt := 85) C d_C_echoWithOthers_58 (by decide) (fun h14 => ?_) (fun h14 => ?_)
              · replace hw := hw.2 h14
                obtain ⟨y10, ey10⟩ : ∃ w, w = x3 + 1 := ⟨_, rfl⟩
                replace hw := hw y10 ey10
                refine g_iinc (pc := 85) C d_C_echoWithOthers_85 3 rfl (v := y10) (by rw [ey10]; rfl) (Nat.le_of_ble_eq_true rfl) (lv' := [(0, .ref (a 0)), (1, .int x1), (2, .int x2), (3, .int y10)]) rfl ?_
                refine g_goto (pc := 88) (tgt := 9) C d_C_echoWithOthers_88 (by decide) ?_
                exact ih c_9 x1 x2 y10 hw
              · replace hw := hw.1 h14
                refine g_aload_n (pc := 61) C d_C_echoWithOthers_61 0 rfl rfl ?_
                refine g_iload_n (pc := 62) C d_C_echoWithOthers_62 1 rfl rfl ?_
                refine g_iload_n (pc := 63) C d_C_echoWithOthers_63 2 rfl rfl ?_
                refine g_aload_n (pc := 64) C d_C_echoWithOthers_64 0 rfl rfl ?_
                refine fC_laws (pc := 65) C lk_C_9 d_C_echoWithOthers_65 ?_
                refine g_iconst (pc := 68) C (v := 0) d_C_echoWithOthers_68 (by decide) ?_
                refine lC_laws (pc := 69) C d_C_echoWithOthers_69 (f := C_laws c_9) rfl (N0 := 0) (by decide) (by unfold vp_in; decide) ?_
                refine k_Va (pc := 70) (co_V C (c_C_spill (xl X) (xD X) (xt X) (xv X) a c_9 x1 x2 ((C_laws c_9) 0) _ hw) mw_C_spill lk_C_100 d_C_echoWithOthers_70 (List.range _) (all_C _) (all_nd _) (rec_w C 0 1 rfl rfl) rfl rfl ⟨Nat.le_of_ble_eq_true rfl, Nat.le_of_ble_eq_true rfl⟩ ⟨Nat.le_of_ble_eq_true rfl, Nat.le_of_ble_eq_true rfl⟩ (rest := []) rfl rfl (Nat.le_of_ble_eq_true rfl)) (fun c_11 hw => ?_)
                refine g_aload_n (pc := 73) C d_C_echoWithOthers_73 0 rfl rfl ?_
                refine g_iload_n (pc := 74) C d_C_echoWithOthers_74 3 rfl rfl ?_
                refine g_iload_n (pc := 75) C d_C_echoWithOthers_75 2 rfl rfl ?_
                refine g_aload_n (pc := 76) C d_C_echoWithOthers_76 0 rfl rfl ?_
                refine fC_laws (pc := 77) C lk_C_9 d_C_echoWithOthers_77 ?_
                refine g_iconst (pc := 80) C (v := 0) d_C_echoWithOthers_80 (by decide) ?_
                refine lC_laws (pc := 81) C d_C_echoWithOthers_81 (f := C_laws c_11) rfl (N0 := 0) (by decide) (by unfold vp_in; decide) ?_
                refine k_Va (pc := 82) (co_V C (c_C_spill (xl X) (xD X) (xt X) (xv X) a c_11 x3 x2 ((C_laws c_11) 0) _ hw) mw_C_spill lk_C_100 d_C_echoWithOthers_82 (List.range _) (all_C _) (all_nd _) (rec_w C 0 1 rfl rfl) rfl rfl ⟨Nat.le_of_ble_eq_true rfl, Nat.le_of_ble_eq_true rfl⟩ ⟨Nat.le_of_ble_eq_true rfl, Nat.le_of_ble_eq_true rfl⟩ (rest := []) rfl rfl (Nat.le_of_ble_eq_true rfl)) (fun c_12 hw => ?_)
                obtain ⟨y13, ey13⟩ : ∃ w, w = x3 + 1 := ⟨_, rfl⟩
                replace hw := hw y13 ey13
                refine g_iinc (pc := 85) C d_C_echoWithOthers_85 3 rfl (v := y13) (by rw [ey13]; rfl) (Nat.le_of_ble_eq_true rfl) (lv' := [(0, .ref (a 0)), (1, .int x1), (2, .int x2), (3, .int y13)]) rfl ?_
                refine g_goto (pc := 88) (tgt := 9) C d_C_echoWithOthers_88 (by decide) ?_
                exact ih c_12 x1 x2 y13 hw
def wp_C_echoWithOthers (c : CSt) (x1 : Int32) (post : CSt → Prop) : Prop :=
  vp_in x1 8 ∧ (w_C_echoWithOthers_9  post  2000 c x1 ((C_at c) x1.toNatClampNeg) 0)
set_option maxRecDepth 20000 in
theorem g_C_echoWithOthers {X : GX} (C : GC X b_C_echoWithOthers R_C 4 (rmd 2)) {Qp : Option Value → va_W → Prop} (q : RC X (none) Qp 0 0) (a : Nat → Nat) (c : CSt) (x1 : Int32) (post : CSt → Prop) (hq : ∀ c1, post c1 → Qp none (woC (xt X) a c1)) (hw : wp_C_echoWithOthers c x1 post) : G X 0 0 (woC (xt X) a c) [(0, .ref (a 0)), (1, .int x1)] [] 0 := by
  unfold wp_C_echoWithOthers at hw
  refine g_aload_n (pc := 0) C d_C_echoWithOthers_0 0 rfl rfl ?_
  refine fC_at (pc := 1) C lk_C_30 d_C_echoWithOthers_1 ?_
  refine g_iload_n (pc := 4) C d_C_echoWithOthers_4 1 rfl rfl ?_
  obtain ⟨h1, hw⟩ := hw
  refine lC_at (pc := 5) C d_C_echoWithOthers_5 (f := C_at c) rfl (N0 := x1.toNatClampNeg) rfl h1 ?_
  refine g_istore_n (pc := 6) C d_C_echoWithOthers_6 rfl (Nat.le_of_ble_eq_true rfl) (lv' := [(0, .ref (a 0)), (1, .int x1), (2, .int ((C_at c) x1.toNatClampNeg))]) rfl ?_
  refine g_iconst (pc := 7) C (v := 0) d_C_echoWithOthers_7 (by decide) ?_
  refine g_istore_n (pc := 8) C d_C_echoWithOthers_8 rfl (Nat.le_of_ble_eq_true rfl) (lv' := [(0, .ref (a 0)), (1, .int x1), (2, .int ((C_at c) x1.toNatClampNeg)), (3, .int 0)]) rfl ?_
  exact j_C_echoWithOthers_9 C q a post hq  2000 c x1 ((C_at c) x1.toNatClampNeg) 0 hw
set_option maxRecDepth 20000 in
theorem c_C_echoWithOthers (l : Launch) (D : va_G) (t : Nat → ClassId) (ev : Nat → Nat) (a : Nat → Nat) (c : CSt) (x1 : Int32) (post : CSt → Prop) (hw : wp_C_echoWithOthers c x1 post) : Con l D t ev y_C_echoWithOthers b_C_echoWithOthers 4 (none) 2 (woC t a c) [.ref (a 0), .int x1] (qV (woC t a)  post) :=
  ConR.of (by decide +kernel) (Nat.le_of_ble_eq_true rfl) (fun X el eD et ee C q _ => by subst el; subst eD; subst et; subst ee; exact g_C_echoWithOthers C q a c x1 post (fun c1 h => ⟨⟨c1, rfl, rfl, h⟩, rfl⟩) hw)
def w_C_passHour_2  (post : CSt → Prop)  : Nat → CSt → Int32 → Prop
  | 0, _, _ => False
  | n + 1, c, x1 =>
    (((C_count c) ≤ x1) → (∀ y1 : Int32, y1 = (C_hour c) + 1 → (post (C_hour_ c y1)))) ∧ ((¬ (C_count c) ≤ x1) → (((8 ≤ x1) → (∀ y2 : Int32, y2 = (C_hour c) + 1 → (post (C_hour_ c y2)))) ∧ ((¬ 8 ≤ x1) → (((x1 = (C_heldBack c)) → (∀ y3 : Int32, y3 = x1 + 1 → (w_C_passHour_2  post  n c y3))) ∧ ((¬ x1 = (C_heldBack c)) → (wp_C_hasLanded c x1 (fun v4 c_5 => ((v4 = 0) → (wp_C_goOn c_5 x1 (fun c_7 => wp_C_echoWithOthers c_7 x1 (fun c_8 => ∀ y9 : Int32, y9 = x1 + 1 → (w_C_passHour_2  post  n c_8 y9))))) ∧ ((¬ v4 = 0) → (∀ y6 : Int32, y6 = x1 + 1 → (w_C_passHour_2  post  n c_5 y6))))))))))
set_option maxRecDepth 20000 in
theorem j_C_passHour_2 {X : GX} (C : GC X b_C_passHour R_C 2 (rmd 3)) {Qp : Option Value → va_W → Prop} (q : RC X (none) Qp 0 0) (a : Nat → Nat)   (post : CSt → Prop) (hq : ∀ c1, post c1 → Qp none (woC (xt X) a c1)) : ∀ (n : Nat) (c : CSt) (x1 : Int32), w_C_passHour_2  post  n c x1 → G X 0 0 (woC (xt X) a c) [(0, .ref (a 0)), (1, .int x1)] [] 2 := by
  intro n
  induction n with
  | zero => intro c x1 hw; exact hw.elim
  | succ n ih =>
    intro c x1 hw
    rw [w_C_passHour_2] at hw
    refine g_iload_n (pc := 2) C d_C_passHour_2 1 rfl rfl ?_
    refine g_aload_n (pc := 3) C d_C_passHour_3 0 rfl rfl ?_
    refine fC_count (pc := 4) C lk_C_36 d_C_passHour_4 (v := C_count c) rfl ?_
    refine g_icmp_ge (pc := 7) (tgt := 48) C d_C_passHour_7 (by decide) (fun h13 => ?_) (fun h13 => ?_)
    · replace hw := hw.1 h13
      refine g_aload_n (pc := 48) C d_C_passHour_48 0 rfl rfl ?_
      refine g_dup (pc := 49) C d_C_passHour_49 rfl ?_
      refine fC_hour (pc := 50) C lk_C_40 d_C_passHour_50 (v := C_hour c) rfl ?_
      refine g_iconst (pc := 53) C (v := 1) d_C_passHour_53 (by decide) ?_
      refine g_iadd (pc := 54) C d_C_passHour_54 ?_
      refine g_topi (fun y1 ey1 => ?_)
      replace hw := hw y1 ey1
      refine pC_hour (pc := 55) C lk_C_40 d_C_passHour_55   ?_
      exact g_vret (pc := 58) C q d_C_passHour_58 (hq (C_hour_ c y1) hw)
    · replace hw := hw.2 h13
      refine g_iload_n (pc := 10) C d_C_passHour_10 1 rfl rfl ?_
      refine g_bipush (pc := 11) C (v := 8) d_C_passHour_11 (by decide) ?_
      refine g_icmp_ge (pc := 13) (tgt := 48) C d_C_passHour_13 (by decide) (fun h12 => ?_) (fun h12 => ?_)
      · replace hw := hw.1 h12
        refine g_aload_n (pc := 48) C d_C_passHour_48 0 rfl rfl ?_
        refine g_dup (pc := 49) C d_C_passHour_49 rfl ?_
        refine fC_hour (pc := 50) C lk_C_40 d_C_passHour_50 (v := C_hour c) rfl ?_
        refine g_iconst (pc := 53) C (v := 1) d_C_passHour_53 (by decide) ?_
        refine g_iadd (pc := 54) C d_C_passHour_54 ?_
        refine g_topi (fun y2 ey2 => ?_)
        replace hw := hw y2 ey2
        refine pC_hour (pc := 55) C lk_C_40 d_C_passHour_55   ?_
        exact g_vret (pc := 58) C q d_C_passHour_58 (hq (C_hour_ c y2) hw)
      · replace hw := hw.2 h12
        refine g_iload_n (pc := 16) C d_C_passHour_16 1 rfl rfl ?_
        refine g_aload_n (pc := 17) C d_C_passHour_17 0 rfl rfl ?_
        refine fC_heldBack (pc := 18) C lk_C_46 d_C_passHour_18 (v := C_heldBack c) rfl ?_
        refine g_icmp_eq (pc := 21) (tgt := 42) C d_C_passHour_21 (by decide) (fun h11 => ?_) (fun h11 => ?_)
        · replace hw := hw.1 h11
          obtain ⟨y3, ey3⟩ : ∃ w, w = x1 + 1 := ⟨_, rfl⟩
          replace hw := hw y3 ey3
          refine g_iinc (pc := 42) C d_C_passHour_42 1 rfl (v := y3) (by rw [ey3]; rfl) (Nat.le_of_ble_eq_true rfl) (lv' := [(0, .ref (a 0)), (1, .int y3)]) rfl ?_
          refine g_goto (pc := 45) (tgt := 2) C d_C_passHour_45 (by decide) ?_
          exact ih c y3 hw
        · replace hw := hw.2 h11
          refine g_aload_n (pc := 24) C d_C_passHour_24 0 rfl rfl ?_
          refine g_iload_n (pc := 25) C d_C_passHour_25 1 rfl rfl ?_
          refine k_Ia (pc := 26) (co_V C (c_C_hasLanded (xl X) (xD X) (xt X) (xv X) a c x1 _ hw) mw_C_hasLanded lk_C_79 d_C_passHour_26 (List.range _) (all_C _) (all_nd _) (rec_w C 0 1 rfl rfl) rfl rfl ⟨Nat.le_of_ble_eq_true rfl, Nat.le_of_ble_eq_true rfl⟩ ⟨Nat.le_of_ble_eq_true rfl, Nat.le_of_ble_eq_true rfl⟩ (rest := []) rfl rfl (Nat.le_of_ble_eq_true rfl)) (fun v4 c_5 hw => ?_)
          refine g_if_ne (pc := 29) (tgt := 42) C d_C_passHour_29 (by decide) (fun h10 => ?_) (fun h10 => ?_)
          · replace hw := hw.2 h10
            obtain ⟨y6, ey6⟩ : ∃ w, w = x1 + 1 := ⟨_, rfl⟩
            replace hw := hw y6 ey6
            refine g_iinc (pc := 42) C d_C_passHour_42 1 rfl (v := y6) (by rw [ey6]; rfl) (Nat.le_of_ble_eq_true rfl) (lv' := [(0, .ref (a 0)), (1, .int y6)]) rfl ?_
            refine g_goto (pc := 45) (tgt := 2) C d_C_passHour_45 (by decide) ?_
            exact ih c_5 y6 hw
          · replace hw := hw.1 h10
            refine g_aload_n (pc := 32) C d_C_passHour_32 0 rfl rfl ?_
            refine g_iload_n (pc := 33) C d_C_passHour_33 1 rfl rfl ?_
            refine k_Va (pc := 34) (co_V C (c_C_goOn (xl X) (xD X) (xt X) (xv X) a c_5 x1 _ hw) mw_C_goOn lk_C_82 d_C_passHour_34 (List.range _) (all_C _) (all_nd _) (rec_w C 0 1 rfl rfl) rfl rfl ⟨Nat.le_of_ble_eq_true rfl, Nat.le_of_ble_eq_true rfl⟩ ⟨Nat.le_of_ble_eq_true rfl, Nat.le_of_ble_eq_true rfl⟩ (rest := []) rfl rfl (Nat.le_of_ble_eq_true rfl)) (fun c_7 hw => ?_)
            refine g_aload_n (pc := 37) C d_C_passHour_37 0 rfl rfl ?_
            refine g_iload_n (pc := 38) C d_C_passHour_38 1 rfl rfl ?_
            refine k_Va (pc := 39) (co_V C (c_C_echoWithOthers (xl X) (xD X) (xt X) (xv X) a c_7 x1 _ hw) mw_C_echoWithOthers lk_C_86 d_C_passHour_39 (List.range _) (all_C _) (all_nd _) (rec_w C 0 1 rfl rfl) rfl rfl ⟨Nat.le_of_ble_eq_true rfl, Nat.le_of_ble_eq_true rfl⟩ ⟨Nat.le_of_ble_eq_true rfl, Nat.le_of_ble_eq_true rfl⟩ (rest := []) rfl rfl (Nat.le_of_ble_eq_true rfl)) (fun c_8 hw => ?_)
            obtain ⟨y9, ey9⟩ : ∃ w, w = x1 + 1 := ⟨_, rfl⟩
            replace hw := hw y9 ey9
            refine g_iinc (pc := 42) C d_C_passHour_42 1 rfl (v := y9) (by rw [ey9]; rfl) (Nat.le_of_ble_eq_true rfl) (lv' := [(0, .ref (a 0)), (1, .int y9)]) rfl ?_
            refine g_goto (pc := 45) (tgt := 2) C d_C_passHour_45 (by decide) ?_
            exact ih c_8 y9 hw
def wp_C_passHour (c : CSt) (post : CSt → Prop) : Prop :=
  w_C_passHour_2  post  2000 c 0
set_option maxRecDepth 20000 in
theorem g_C_passHour {X : GX} (C : GC X b_C_passHour R_C 2 (rmd 3)) {Qp : Option Value → va_W → Prop} (q : RC X (none) Qp 0 0) (a : Nat → Nat) (c : CSt) (post : CSt → Prop) (hq : ∀ c1, post c1 → Qp none (woC (xt X) a c1)) (hw : wp_C_passHour c post) : G X 0 0 (woC (xt X) a c) [(0, .ref (a 0))] [] 0 := by
  unfold wp_C_passHour at hw
  refine g_iconst (pc := 0) C (v := 0) d_C_passHour_0 (by decide) ?_
  refine g_istore_n (pc := 1) C d_C_passHour_1 rfl (Nat.le_of_ble_eq_true rfl) (lv' := [(0, .ref (a 0)), (1, .int 0)]) rfl ?_
  exact j_C_passHour_2 C q a post hq  2000 c 0 hw
set_option maxRecDepth 20000 in
theorem c_C_passHour (l : Launch) (D : va_G) (t : Nat → ClassId) (ev : Nat → Nat) (a : Nat → Nat) (c : CSt) (post : CSt → Prop) (hw : wp_C_passHour c post) : Con l D t ev y_C_passHour b_C_passHour 2 (none) 3 (woC t a c) [.ref (a 0)] (qV (woC t a)  post) :=
  ConR.of (by decide +kernel) (Nat.le_of_ble_eq_true rfl) (fun X el eD et ee C q _ => by subst el; subst eD; subst et; subst ee; exact g_C_passHour C q a c post (fun c1 h => ⟨⟨c1, rfl, rfl, h⟩, rfl⟩) hw)
def w_C_passHours_2  (post : CSt → Prop)  : Nat → CSt → Int32 → Int32 → Prop
  | 0, _, _, _ => False
  | n + 1, c, x1, x2 =>
    ((x1 ≤ x2) → (post c)) ∧ ((¬ x1 ≤ x2) → (wp_C_allLanded c (fun v1 c_2 => ((v1 = 0) → (wp_C_passHour c_2 (fun c_3 => ∀ y4 : Int32, y4 = x2 + 1 → (w_C_passHours_2  post  n c_3 x1 y4)))) ∧ ((¬ v1 = 0) → (∀ y5 : Int32, y5 = (C_hour c_2) + (x1 - x2) → (post (C_hour_ c_2 y5)))))))
set_option maxRecDepth 20000 in
theorem j_C_passHours_2 {X : GX} (C : GC X b_C_passHours R_C 3 (rmd 4)) {Qp : Option Value → va_W → Prop} (q : RC X (none) Qp 0 0) (a : Nat → Nat)   (post : CSt → Prop) (hq : ∀ c1, post c1 → Qp none (woC (xt X) a c1)) : ∀ (n : Nat) (c : CSt) (x1 : Int32) (x2 : Int32), w_C_passHours_2  post  n c x1 x2 → G X 0 0 (woC (xt X) a c) [(0, .ref (a 0)), (1, .int x1), (2, .int x2)] [] 2 := by
  intro n
  induction n with
  | zero => intro c x1 x2 hw; exact hw.elim
  | succ n ih =>
    intro c x1 x2 hw
    rw [w_C_passHours_2] at hw
    refine g_iload_n (pc := 2) C d_C_passHours_2 2 rfl rfl ?_
    refine g_iload_n (pc := 3) C d_C_passHours_3 1 rfl rfl ?_
    refine g_icmp_ge (pc := 4) (tgt := 37) C d_C_passHours_4 (by decide) (fun h7 => ?_) (fun h7 => ?_)
    · replace hw := hw.1 h7
      exact g_vret (pc := 37) C q d_C_passHours_37 (hq c hw)
    · replace hw := hw.2 h7
      refine g_aload_n (pc := 7) C d_C_passHours_7 0 rfl rfl ?_
      refine k_Ia (pc := 8) (co_V C (c_C_allLanded (xl X) (xD X) (xt X) (xv X) a c _ hw) mw_C_allLanded lk_C_72 d_C_passHours_8 (List.range _) (all_C _) (all_nd _) (rec_w C 0 1 rfl rfl) rfl rfl ⟨Nat.le_of_ble_eq_true rfl, Nat.le_of_ble_eq_true rfl⟩ ⟨Nat.le_of_ble_eq_true rfl, Nat.le_of_ble_eq_true rfl⟩ (rest := []) rfl rfl (Nat.le_of_ble_eq_true rfl)) (fun v1 c_2 hw => ?_)
      refine g_if_eq (pc := 11) (tgt := 27) C d_C_passHours_11 (by decide) (fun h6 => ?_) (fun h6 => ?_)
      · replace hw := hw.1 h6
        refine g_aload_n (pc := 27) C d_C_passHours_27 0 rfl rfl ?_
        refine k_Va (pc := 28) (co_V C (c_C_passHour (xl X) (xD X) (xt X) (xv X) a c_2 _ hw) mw_C_passHour lk_C_76 d_C_passHours_28 (List.range _) (all_C _) (all_nd _) (rec_w C 0 1 rfl rfl) rfl rfl ⟨Nat.le_of_ble_eq_true rfl, Nat.le_of_ble_eq_true rfl⟩ ⟨Nat.le_of_ble_eq_true rfl, Nat.le_of_ble_eq_true rfl⟩ (rest := []) rfl rfl (Nat.le_of_ble_eq_true rfl)) (fun c_3 hw => ?_)
        obtain ⟨y4, ey4⟩ : ∃ w, w = x2 + 1 := ⟨_, rfl⟩
        replace hw := hw y4 ey4
        refine g_iinc (pc := 31) C d_C_passHours_31 2 rfl (v := y4) (by rw [ey4]; rfl) (Nat.le_of_ble_eq_true rfl) (lv' := [(0, .ref (a 0)), (1, .int x1), (2, .int y4)]) rfl ?_
        refine g_goto (pc := 34) (tgt := 2) C d_C_passHours_34 (by decide) ?_
        exact ih c_3 x1 y4 hw
      · replace hw := hw.2 h6
        refine g_aload_n (pc := 14) C d_C_passHours_14 0 rfl rfl ?_
        refine g_dup (pc := 15) C d_C_passHours_15 rfl ?_
        refine fC_hour (pc := 16) C lk_C_40 d_C_passHours_16 (v := C_hour c_2) rfl ?_
        refine g_iload_n (pc := 19) C d_C_passHours_19 1 rfl rfl ?_
        refine g_iload_n (pc := 20) C d_C_passHours_20 2 rfl rfl ?_
        refine g_isub (pc := 21) C d_C_passHours_21 ?_
        refine g_iadd (pc := 22) C d_C_passHours_22 ?_
        refine g_topi (fun y5 ey5 => ?_)
        replace hw := hw y5 ey5
        refine pC_hour (pc := 23) C lk_C_40 d_C_passHours_23   ?_
        exact g_vret (pc := 26) C q d_C_passHours_26 (hq (C_hour_ c_2 y5) hw)
def wp_C_passHours (c : CSt) (x1 : Int32) (post : CSt → Prop) : Prop :=
  w_C_passHours_2  post  2000 c x1 0
set_option maxRecDepth 20000 in
theorem g_C_passHours {X : GX} (C : GC X b_C_passHours R_C 3 (rmd 4)) {Qp : Option Value → va_W → Prop} (q : RC X (none) Qp 0 0) (a : Nat → Nat) (c : CSt) (x1 : Int32) (post : CSt → Prop) (hq : ∀ c1, post c1 → Qp none (woC (xt X) a c1)) (hw : wp_C_passHours c x1 post) : G X 0 0 (woC (xt X) a c) [(0, .ref (a 0)), (1, .int x1)] [] 0 := by
  unfold wp_C_passHours at hw
  refine g_iconst (pc := 0) C (v := 0) d_C_passHours_0 (by decide) ?_
  refine g_istore_n (pc := 1) C d_C_passHours_1 rfl (Nat.le_of_ble_eq_true rfl) (lv' := [(0, .ref (a 0)), (1, .int x1), (2, .int 0)]) rfl ?_
  exact j_C_passHours_2 C q a post hq  2000 c x1 0 hw
set_option maxRecDepth 20000 in
theorem c_C_passHours (l : Launch) (D : va_G) (t : Nat → ClassId) (ev : Nat → Nat) (a : Nat → Nat) (c : CSt) (x1 : Int32) (post : CSt → Prop) (hw : wp_C_passHours c x1 post) : Con l D t ev y_C_passHours b_C_passHours 3 (none) 4 (woC t a c) [.ref (a 0), .int x1] (qV (woC t a)  post) :=
  ConR.of (by decide +kernel) (Nat.le_of_ble_eq_true rfl) (fun X el eD et ee C q _ => by subst el; subst eD; subst et; subst ee; exact g_C_passHours C q a c x1 post (fun c1 h => ⟨⟨c1, rfl, rfl, h⟩, rfl⟩) hw)
def wp_C_draw (c : CSt) (post : Int32 → CSt → Prop) : Prop :=
  ∀ y1 : Int32, y1 = (C_z c) * 1103515245 → (∀ y2 : Int32, y2 = y1 + 12345 → (post ((y2.toUInt32 >>> ((16 : Int32).toUInt32 &&& Int32.toUInt32 31)).toInt32) (C_z_ c y2)))
set_option maxRecDepth 20000 in
theorem g_C_draw {X : GX} (C : GC X b_C_draw R_C 1 (rmd 0)) {Qp : Option Value → va_W → Prop} (q : RC X ((some .int)) Qp 0 0) (a : Nat → Nat) (c : CSt) (post : Int32 → CSt → Prop) (hq : ∀ v c1, post v c1 → Qp (some (.int v)) (woC (xt X) a c1)) (hw : wp_C_draw c post) : G X 0 0 (woC (xt X) a c) [(0, .ref (a 0))] [] 0 := by
  unfold wp_C_draw at hw
  refine g_aload_n (pc := 0) C d_C_draw_0 0 rfl rfl ?_
  refine g_aload_n (pc := 1) C d_C_draw_1 0 rfl rfl ?_
  refine fC_z (pc := 2) C lk_C_43 d_C_draw_2 (v := C_z c) rfl ?_
  refine g_ldc (pc := 5) C (v := 1103515245) d_C_draw_5 lk_C_115 ?_
  refine g_imul (pc := 7) C d_C_draw_7 ?_
  refine g_topi (fun y1 ey1 => ?_)
  replace hw := hw y1 ey1
  refine g_sipush (pc := 8) C (v := 12345) d_C_draw_8 (by decide) ?_
  refine g_iadd (pc := 11) C d_C_draw_11 ?_
  refine g_topi (fun y2 ey2 => ?_)
  replace hw := hw y2 ey2
  refine pC_z (pc := 12) C lk_C_43 d_C_draw_12   ?_
  refine g_aload_n (pc := 15) C d_C_draw_15 0 rfl rfl ?_
  refine fC_z (pc := 16) C lk_C_43 d_C_draw_16 (v := y2) rfl ?_
  refine g_bipush (pc := 19) C (v := 16) d_C_draw_19 (by decide) ?_
  refine g_iushr (pc := 21) C d_C_draw_21 ?_
  exact g_iret (pc := 22) C q d_C_draw_22 (hq _ _ hw)
set_option maxRecDepth 20000 in
theorem c_C_draw (l : Launch) (D : va_G) (t : Nat → ClassId) (ev : Nat → Nat) (a : Nat → Nat) (c : CSt) (post : Int32 → CSt → Prop) (hw : wp_C_draw c post) : Con l D t ev y_C_draw b_C_draw 1 ((some .int)) 0 (woC t a c) [.ref (a 0)] (qI (woC t a)  post) :=
  ConR.of (by decide +kernel) (Nat.le_of_ble_eq_true rfl) (fun X el eD et ee C q _ => by subst el; subst eD; subst et; subst ee; exact g_C_draw C q a c post (fun v c1 h => ⟨⟨v, c1, rfl, rfl, h⟩, rfl⟩) hw)
def w_C_passHourByDraws_38  (post : CSt → Prop)  (c : CSt) (x1 : Int32) (s0 : Int32) : Prop :=
  ((s0 = 0) → (wp_C_passHour c (fun c_9 => post c_9))) ∧ ((¬ s0 = 0) → (((x1 < 0) → (wp_C_passHour c (fun c_10 => post c_10))) ∧ ((¬ x1 < 0) → (((8 ≤ x1) → (wp_C_passHour c (fun c_11 => post c_11))) ∧ ((¬ 8 ≤ x1) → (vp_in x1 8 ∧ (∀ y13 : Int32, y13 = ((C_load c) x1.toNatClampNeg) / 2 → (vp_in x1 8 ∧ (wp_C_passHour (C_load_ c (upd (C_load c) x1.toNatClampNeg y13)) (fun c_15 => post c_15))))))))))
set_option maxRecDepth 20000 in
theorem j_C_passHourByDraws_38 {X : GX} (C : GC X b_C_passHourByDraws R_C 3 (rmd 4)) {Qp : Option Value → va_W → Prop} (q : RC X (none) Qp 0 0) (a : Nat → Nat)   (post : CSt → Prop) (hq : ∀ c1, post c1 → Qp none (woC (xt X) a c1)) : ∀ (c : CSt) (x1 : Int32) (s0 : Int32), w_C_passHourByDraws_38  post  c x1 s0 → G X 0 0 (woC (xt X) a c) [(0, .ref (a 0)), (1, .int x1)] [.int s0] 38 := by
  intro c x1 s0 hw
  unfold w_C_passHourByDraws_38 at hw
  refine g_istore_n (pc := 38) C d_C_passHourByDraws_38 rfl (Nat.le_of_ble_eq_true rfl) (lv' := [(0, .ref (a 0)), (1, .int x1), (2, .int s0)]) rfl ?_
  refine g_iload_n (pc := 39) C d_C_passHourByDraws_39 2 rfl rfl ?_
  refine g_if_eq (pc := 40) (tgt := 63) C d_C_passHourByDraws_40 (by decide) (fun h18 => ?_) (fun h18 => ?_)
  · replace hw := hw.1 h18
    refine g_aload_n (pc := 63) C d_C_passHourByDraws_63 0 rfl rfl ?_
    refine k_Va (pc := 64) (co_V C (c_C_passHour (xl X) (xD X) (xt X) (xv X) a c _ hw) mw_C_passHour lk_C_76 d_C_passHourByDraws_64 (List.range _) (all_C _) (all_nd _) (rec_w C 0 1 rfl rfl) rfl rfl ⟨Nat.le_of_ble_eq_true rfl, Nat.le_of_ble_eq_true rfl⟩ ⟨Nat.le_of_ble_eq_true rfl, Nat.le_of_ble_eq_true rfl⟩ (rest := []) rfl rfl (Nat.le_of_ble_eq_true rfl)) (fun c_9 hw => ?_)
    exact g_vret (pc := 67) C q d_C_passHourByDraws_67 (hq c_9 hw)
  · replace hw := hw.2 h18
    refine g_iload_n (pc := 43) C d_C_passHourByDraws_43 1 rfl rfl ?_
    refine g_if_lt (pc := 44) (tgt := 63) C d_C_passHourByDraws_44 (by decide) (fun h17 => ?_) (fun h17 => ?_)
    · replace hw := hw.1 h17
      refine g_aload_n (pc := 63) C d_C_passHourByDraws_63 0 rfl rfl ?_
      refine k_Va (pc := 64) (co_V C (c_C_passHour (xl X) (xD X) (xt X) (xv X) a c _ hw) mw_C_passHour lk_C_76 d_C_passHourByDraws_64 (List.range _) (all_C _) (all_nd _) (rec_w C 0 1 rfl rfl) rfl rfl ⟨Nat.le_of_ble_eq_true rfl, Nat.le_of_ble_eq_true rfl⟩ ⟨Nat.le_of_ble_eq_true rfl, Nat.le_of_ble_eq_true rfl⟩ (rest := []) rfl rfl (Nat.le_of_ble_eq_true rfl)) (fun c_10 hw => ?_)
      exact g_vret (pc := 67) C q d_C_passHourByDraws_67 (hq c_10 hw)
    · replace hw := hw.2 h17
      refine g_iload_n (pc := 47) C d_C_passHourByDraws_47 1 rfl rfl ?_
      refine g_bipush (pc := 48) C (v := 8) d_C_passHourByDraws_48 (by decide) ?_
      refine g_icmp_ge (pc := 50) (tgt := 63) C d_C_passHourByDraws_50 (by decide) (fun h16 => ?_) (fun h16 => ?_)
      · replace hw := hw.1 h16
        refine g_aload_n (pc := 63) C d_C_passHourByDraws_63 0 rfl rfl ?_
        refine k_Va (pc := 64) (co_V C (c_C_passHour (xl X) (xD X) (xt X) (xv X) a c _ hw) mw_C_passHour lk_C_76 d_C_passHourByDraws_64 (List.range _) (all_C _) (all_nd _) (rec_w C 0 1 rfl rfl) rfl rfl ⟨Nat.le_of_ble_eq_true rfl, Nat.le_of_ble_eq_true rfl⟩ ⟨Nat.le_of_ble_eq_true rfl, Nat.le_of_ble_eq_true rfl⟩ (rest := []) rfl rfl (Nat.le_of_ble_eq_true rfl)) (fun c_11 hw => ?_)
        exact g_vret (pc := 67) C q d_C_passHourByDraws_67 (hq c_11 hw)
      · replace hw := hw.2 h16
        refine g_aload_n (pc := 53) C d_C_passHourByDraws_53 0 rfl rfl ?_
        refine fC_load (pc := 54) C lk_C_24 d_C_passHourByDraws_54 ?_
        refine g_iload_n (pc := 57) C d_C_passHourByDraws_57 1 rfl rfl ?_
        refine g_dup2 (pc := 58) C d_C_passHourByDraws_58 rfl rfl ?_
        obtain ⟨h12, hw⟩ := hw
        refine lC_load (pc := 59) C d_C_passHourByDraws_59 (f := C_load c) rfl (N0 := x1.toNatClampNeg) rfl h12 ?_
        refine g_iconst (pc := 60) C (v := 2) d_C_passHourByDraws_60 (by decide) ?_
        refine g_idiv (pc := 61) C d_C_passHourByDraws_61 (by decide) ?_
        refine g_topi (fun y13 ey13 => ?_)
        replace hw := hw y13 ey13
        obtain ⟨h14, hw⟩ := hw
        refine sC_load (pc := 62) C d_C_passHourByDraws_62 (f := C_load c) rfl (N0 := x1.toNatClampNeg) rfl h14 ?_
        refine g_aload_n (pc := 63) C d_C_passHourByDraws_63 0 rfl rfl ?_
        refine k_Va (pc := 64) (co_V C (c_C_passHour (xl X) (xD X) (xt X) (xv X) a (C_load_ c (upd (C_load c) x1.toNatClampNeg y13)) _ hw) mw_C_passHour lk_C_76 d_C_passHourByDraws_64 (List.range _) (all_C _) (all_nd _) (rec_w C 0 1 rfl rfl) rfl rfl ⟨Nat.le_of_ble_eq_true rfl, Nat.le_of_ble_eq_true rfl⟩ ⟨Nat.le_of_ble_eq_true rfl, Nat.le_of_ble_eq_true rfl⟩ (rest := []) rfl rfl (Nat.le_of_ble_eq_true rfl)) (fun c_15 hw => ?_)
        exact g_vret (pc := 67) C q d_C_passHourByDraws_67 (hq c_15 hw)
def wp_C_passHourByDraws (c : CSt) (post : CSt → Prop) : Prop :=
  (((C_count c) ≤ 0) → (wp_C_passHour c (fun c_1 => post c_1))) ∧ ((¬ (C_count c) ≤ 0) → (wp_C_draw c (fun v2 c_3 => ¬ (C_count c_3) = 0 ∧ (∀ y5 : Int32, y5 = v2 - v2 / (C_count c_3) * (C_count c_3) → (wp_C_draw c_3 (fun v6 c_7 => ∀ y8 : Int32, y8 = v6 - v6 / 100 * 100 → (((((C_laws c_7) 3) ≤ y8) → (w_C_passHourByDraws_38  post  c_7 y5 0)) ∧ ((¬ ((C_laws c_7) 3) ≤ y8) → (w_C_passHourByDraws_38  post  c_7 y5 1)))))))))
set_option maxRecDepth 20000 in
theorem g_C_passHourByDraws {X : GX} (C : GC X b_C_passHourByDraws R_C 3 (rmd 4)) {Qp : Option Value → va_W → Prop} (q : RC X (none) Qp 0 0) (a : Nat → Nat) (c : CSt) (post : CSt → Prop) (hq : ∀ c1, post c1 → Qp none (woC (xt X) a c1)) (hw : wp_C_passHourByDraws c post) : G X 0 0 (woC (xt X) a c) [(0, .ref (a 0))] [] 0 := by
  unfold wp_C_passHourByDraws at hw
  refine g_aload_n (pc := 0) C d_C_passHourByDraws_0 0 rfl rfl ?_
  refine fC_count (pc := 1) C lk_C_36 d_C_passHourByDraws_1 (v := C_count c) rfl ?_
  refine g_if_le (pc := 4) (tgt := 63) C d_C_passHourByDraws_4 (by decide) (fun h20 => ?_) (fun h20 => ?_)
  · replace hw := hw.1 h20
    refine g_aload_n (pc := 63) C d_C_passHourByDraws_63 0 rfl rfl ?_
    refine k_Va (pc := 64) (co_V C (c_C_passHour (xl X) (xD X) (xt X) (xv X) a c _ hw) mw_C_passHour lk_C_76 d_C_passHourByDraws_64 (List.range _) (all_C _) (all_nd _) (rec_w C 0 1 rfl rfl) rfl rfl ⟨Nat.le_of_ble_eq_true rfl, Nat.le_of_ble_eq_true rfl⟩ ⟨Nat.le_of_ble_eq_true rfl, Nat.le_of_ble_eq_true rfl⟩ (rest := []) rfl rfl (Nat.le_of_ble_eq_true rfl)) (fun c_1 hw => ?_)
    exact g_vret (pc := 67) C q d_C_passHourByDraws_67 (hq c_1 hw)
  · replace hw := hw.2 h20
    refine g_aload_n (pc := 7) C d_C_passHourByDraws_7 0 rfl rfl ?_
    refine k_Ia (pc := 8) (co_V C (c_C_draw (xl X) (xD X) (xt X) (xv X) a c _ hw) mw_C_draw lk_C_112 d_C_passHourByDraws_8 (List.range _) (all_C _) (all_nd _) (rec_w C 0 1 rfl rfl) rfl rfl ⟨Nat.le_of_ble_eq_true rfl, Nat.le_of_ble_eq_true rfl⟩ ⟨Nat.le_of_ble_eq_true rfl, Nat.le_of_ble_eq_true rfl⟩ (rest := []) rfl rfl (Nat.le_of_ble_eq_true rfl)) (fun v2 c_3 hw => ?_)
    refine g_aload_n (pc := 11) C d_C_passHourByDraws_11 0 rfl rfl ?_
    refine fC_count (pc := 12) C lk_C_36 d_C_passHourByDraws_12 (v := C_count c_3) rfl ?_
    obtain ⟨h4, hw⟩ := hw
    refine g_irem (pc := 15) C d_C_passHourByDraws_15 h4 ?_
    refine g_topi (fun y5 ey5 => ?_)
    replace hw := hw y5 ey5
    refine g_istore_n (pc := 16) C d_C_passHourByDraws_16 rfl (Nat.le_of_ble_eq_true rfl) (lv' := [(0, .ref (a 0)), (1, .int y5)]) rfl ?_
    refine g_aload_n (pc := 17) C d_C_passHourByDraws_17 0 rfl rfl ?_
    refine k_Ia (pc := 18) (co_V C (c_C_draw (xl X) (xD X) (xt X) (xv X) a c_3 _ hw) mw_C_draw lk_C_112 d_C_passHourByDraws_18 (List.range _) (all_C _) (all_nd _) (rec_w C 0 1 rfl rfl) rfl rfl ⟨Nat.le_of_ble_eq_true rfl, Nat.le_of_ble_eq_true rfl⟩ ⟨Nat.le_of_ble_eq_true rfl, Nat.le_of_ble_eq_true rfl⟩ (rest := []) rfl rfl (Nat.le_of_ble_eq_true rfl)) (fun v6 c_7 hw => ?_)
    refine g_bipush (pc := 21) C (v := 100) d_C_passHourByDraws_21 (by decide) ?_
    refine g_irem (pc := 23) C d_C_passHourByDraws_23 (by decide) ?_
    refine g_topi (fun y8 ey8 => ?_)
    replace hw := hw y8 ey8
    refine g_aload_n (pc := 24) C d_C_passHourByDraws_24 0 rfl rfl ?_
    refine fC_laws (pc := 25) C lk_C_9 d_C_passHourByDraws_25 ?_
    refine g_iconst (pc := 28) C (v := 3) d_C_passHourByDraws_28 (by decide) ?_
    refine lC_laws (pc := 29) C d_C_passHourByDraws_29 (f := C_laws c_7) rfl (N0 := 3) (by decide) (by unfold vp_in; decide) ?_
    refine g_icmp_ge (pc := 30) (tgt := 37) C d_C_passHourByDraws_30 (by decide) (fun h19 => ?_) (fun h19 => ?_)
    · replace hw := hw.1 h19
      refine g_iconst (pc := 37) C (v := 0) d_C_passHourByDraws_37 (by decide) ?_
      exact j_C_passHourByDraws_38 C q a post hq  c_7 y5 0 hw
    · replace hw := hw.2 h19
      refine g_iconst (pc := 33) C (v := 1) d_C_passHourByDraws_33 (by decide) ?_
      refine g_goto (pc := 34) (tgt := 38) C d_C_passHourByDraws_34 (by decide) ?_
      exact j_C_passHourByDraws_38 C q a post hq  c_7 y5 1 hw
set_option maxRecDepth 20000 in
theorem c_C_passHourByDraws (l : Launch) (D : va_G) (t : Nat → ClassId) (ev : Nat → Nat) (a : Nat → Nat) (c : CSt) (post : CSt → Prop) (hw : wp_C_passHourByDraws c post) : Con l D t ev y_C_passHourByDraws b_C_passHourByDraws 3 (none) 4 (woC t a c) [.ref (a 0)] (qV (woC t a)  post) :=
  ConR.of (by decide +kernel) (Nat.le_of_ble_eq_true rfl) (fun X el eD et ee C q _ => by subst el; subst eD; subst et; subst ee; exact g_C_passHourByDraws C q a c post (fun c1 h => ⟨⟨c1, rfl, rfl, h⟩, rfl⟩) hw)
def w_C_allLoads_4  (post : Int32 → CSt → Prop)  : Nat → CSt → Int32 → Int32 → Prop
  | 0, _, _, _ => False
  | n + 1, c, x1, x2 =>
    (((C_count c) ≤ x2) → (post x1 c)) ∧ ((¬ (C_count c) ≤ x2) → (((8 ≤ x2) → (post x1 c)) ∧ ((¬ 8 ≤ x2) → (vp_in x2 8 ∧ (∀ y2 : Int32, y2 = x1 + ((C_load c) x2.toNatClampNeg) → (∀ y3 : Int32, y3 = x2 + 1 → (w_C_allLoads_4  post  n c y2 y3)))))))
set_option maxRecDepth 20000 in
theorem j_C_allLoads_4 {X : GX} (C : GC X b_C_allLoads R_C 3 (rmd 0)) {Qp : Option Value → va_W → Prop} (q : RC X ((some .int)) Qp 0 0) (a : Nat → Nat)   (post : Int32 → CSt → Prop) (hq : ∀ v c1, post v c1 → Qp (some (.int v)) (woC (xt X) a c1)) : ∀ (n : Nat) (c : CSt) (x1 : Int32) (x2 : Int32), w_C_allLoads_4  post  n c x1 x2 → G X 0 0 (woC (xt X) a c) [(0, .ref (a 0)), (1, .int x1), (2, .int x2)] [] 4 := by
  intro n
  induction n with
  | zero => intro c x1 x2 hw; exact hw.elim
  | succ n ih =>
    intro c x1 x2 hw
    rw [w_C_allLoads_4] at hw
    refine g_iload_n (pc := 4) C d_C_allLoads_4 2 rfl rfl ?_
    refine g_aload_n (pc := 5) C d_C_allLoads_5 0 rfl rfl ?_
    refine fC_count (pc := 6) C lk_C_36 d_C_allLoads_6 (v := C_count c) rfl ?_
    refine g_icmp_ge (pc := 9) (tgt := 33) C d_C_allLoads_9 (by decide) (fun h5 => ?_) (fun h5 => ?_)
    · replace hw := hw.1 h5
      refine g_iload_n (pc := 33) C d_C_allLoads_33 1 rfl rfl ?_
      exact g_iret (pc := 34) C q d_C_allLoads_34 (hq _ _ hw)
    · replace hw := hw.2 h5
      refine g_iload_n (pc := 12) C d_C_allLoads_12 2 rfl rfl ?_
      refine g_bipush (pc := 13) C (v := 8) d_C_allLoads_13 (by decide) ?_
      refine g_icmp_ge (pc := 15) (tgt := 33) C d_C_allLoads_15 (by decide) (fun h4 => ?_) (fun h4 => ?_)
      · replace hw := hw.1 h4
        refine g_iload_n (pc := 33) C d_C_allLoads_33 1 rfl rfl ?_
        exact g_iret (pc := 34) C q d_C_allLoads_34 (hq _ _ hw)
      · replace hw := hw.2 h4
        refine g_iload_n (pc := 18) C d_C_allLoads_18 1 rfl rfl ?_
        refine g_aload_n (pc := 19) C d_C_allLoads_19 0 rfl rfl ?_
        refine fC_load (pc := 20) C lk_C_24 d_C_allLoads_20 ?_
        refine g_iload_n (pc := 23) C d_C_allLoads_23 2 rfl rfl ?_
        obtain ⟨h1, hw⟩ := hw
        refine lC_load (pc := 24) C d_C_allLoads_24 (f := C_load c) rfl (N0 := x2.toNatClampNeg) rfl h1 ?_
        refine g_iadd (pc := 25) C d_C_allLoads_25 ?_
        refine g_topi (fun y2 ey2 => ?_)
        replace hw := hw y2 ey2
        refine g_istore_n (pc := 26) C d_C_allLoads_26 rfl (Nat.le_of_ble_eq_true rfl) (lv' := [(0, .ref (a 0)), (1, .int y2), (2, .int x2)]) rfl ?_
        obtain ⟨y3, ey3⟩ : ∃ w, w = x2 + 1 := ⟨_, rfl⟩
        replace hw := hw y3 ey3
        refine g_iinc (pc := 27) C d_C_allLoads_27 2 rfl (v := y3) (by rw [ey3]; rfl) (Nat.le_of_ble_eq_true rfl) (lv' := [(0, .ref (a 0)), (1, .int y2), (2, .int y3)]) rfl ?_
        refine g_goto (pc := 30) (tgt := 4) C d_C_allLoads_30 (by decide) ?_
        exact ih c y2 y3 hw
def wp_C_allLoads (c : CSt) (post : Int32 → CSt → Prop) : Prop :=
  w_C_allLoads_4  post  2000 c 0 0
set_option maxRecDepth 20000 in
theorem g_C_allLoads {X : GX} (C : GC X b_C_allLoads R_C 3 (rmd 0)) {Qp : Option Value → va_W → Prop} (q : RC X ((some .int)) Qp 0 0) (a : Nat → Nat) (c : CSt) (post : Int32 → CSt → Prop) (hq : ∀ v c1, post v c1 → Qp (some (.int v)) (woC (xt X) a c1)) (hw : wp_C_allLoads c post) : G X 0 0 (woC (xt X) a c) [(0, .ref (a 0))] [] 0 := by
  unfold wp_C_allLoads at hw
  refine g_iconst (pc := 0) C (v := 0) d_C_allLoads_0 (by decide) ?_
  refine g_istore_n (pc := 1) C d_C_allLoads_1 rfl (Nat.le_of_ble_eq_true rfl) (lv' := [(0, .ref (a 0)), (1, .int 0)]) rfl ?_
  refine g_iconst (pc := 2) C (v := 0) d_C_allLoads_2 (by decide) ?_
  refine g_istore_n (pc := 3) C d_C_allLoads_3 rfl (Nat.le_of_ble_eq_true rfl) (lv' := [(0, .ref (a 0)), (1, .int 0), (2, .int 0)]) rfl ?_
  exact j_C_allLoads_4 C q a post hq  2000 c 0 0 hw
set_option maxRecDepth 20000 in
theorem c_C_allLoads (l : Launch) (D : va_G) (t : Nat → ClassId) (ev : Nat → Nat) (a : Nat → Nat) (c : CSt) (post : Int32 → CSt → Prop) (hw : wp_C_allLoads c post) : Con l D t ev y_C_allLoads b_C_allLoads 3 ((some .int)) 0 (woC t a c) [.ref (a 0)] (qI (woC t a)  post) :=
  ConR.of (by decide +kernel) (Nat.le_of_ble_eq_true rfl) (fun X el eD et ee C q _ => by subst el; subst eD; subst et; subst ee; exact g_C_allLoads C q a c post (fun v c1 h => ⟨⟨v, c1, rfl, rfl, h⟩, rfl⟩) hw)
def w_C_allLost_4  (post : Int32 → CSt → Prop)  : Nat → CSt → Int32 → Int32 → Prop
  | 0, _, _, _ => False
  | n + 1, c, x1, x2 =>
    ((10 ≤ x2) → (post x1 c)) ∧ ((¬ 10 ≤ x2) → (vp_in x2 10 ∧ (∀ y2 : Int32, y2 = x1 + ((C_lost c) x2.toNatClampNeg) → (∀ y3 : Int32, y3 = x2 + 1 → (w_C_allLost_4  post  n c y2 y3)))))
set_option maxRecDepth 20000 in
theorem j_C_allLost_4 {X : GX} (C : GC X b_C_allLost R_C 3 (rmd 0)) {Qp : Option Value → va_W → Prop} (q : RC X ((some .int)) Qp 0 0) (a : Nat → Nat)   (post : Int32 → CSt → Prop) (hq : ∀ v c1, post v c1 → Qp (some (.int v)) (woC (xt X) a c1)) : ∀ (n : Nat) (c : CSt) (x1 : Int32) (x2 : Int32), w_C_allLost_4  post  n c x1 x2 → G X 0 0 (woC (xt X) a c) [(0, .ref (a 0)), (1, .int x1), (2, .int x2)] [] 4 := by
  intro n
  induction n with
  | zero => intro c x1 x2 hw; exact hw.elim
  | succ n ih =>
    intro c x1 x2 hw
    rw [w_C_allLost_4] at hw
    refine g_iload_n (pc := 4) C d_C_allLost_4 2 rfl rfl ?_
    refine g_bipush (pc := 5) C (v := 10) d_C_allLost_5 (by decide) ?_
    refine g_icmp_ge (pc := 7) (tgt := 25) C d_C_allLost_7 (by decide) (fun h4 => ?_) (fun h4 => ?_)
    · replace hw := hw.1 h4
      refine g_iload_n (pc := 25) C d_C_allLost_25 1 rfl rfl ?_
      exact g_iret (pc := 26) C q d_C_allLost_26 (hq _ _ hw)
    · replace hw := hw.2 h4
      refine g_iload_n (pc := 10) C d_C_allLost_10 1 rfl rfl ?_
      refine g_aload_n (pc := 11) C d_C_allLost_11 0 rfl rfl ?_
      refine fC_lost (pc := 12) C lk_C_18 d_C_allLost_12 ?_
      refine g_iload_n (pc := 15) C d_C_allLost_15 2 rfl rfl ?_
      obtain ⟨h1, hw⟩ := hw
      refine lC_lost (pc := 16) C d_C_allLost_16 (f := C_lost c) rfl (N0 := x2.toNatClampNeg) rfl h1 ?_
      refine g_iadd (pc := 17) C d_C_allLost_17 ?_
      refine g_topi (fun y2 ey2 => ?_)
      replace hw := hw y2 ey2
      refine g_istore_n (pc := 18) C d_C_allLost_18 rfl (Nat.le_of_ble_eq_true rfl) (lv' := [(0, .ref (a 0)), (1, .int y2), (2, .int x2)]) rfl ?_
      obtain ⟨y3, ey3⟩ : ∃ w, w = x2 + 1 := ⟨_, rfl⟩
      replace hw := hw y3 ey3
      refine g_iinc (pc := 19) C d_C_allLost_19 2 rfl (v := y3) (by rw [ey3]; rfl) (Nat.le_of_ble_eq_true rfl) (lv' := [(0, .ref (a 0)), (1, .int y2), (2, .int y3)]) rfl ?_
      refine g_goto (pc := 22) (tgt := 4) C d_C_allLost_22 (by decide) ?_
      exact ih c y2 y3 hw
def wp_C_allLost (c : CSt) (post : Int32 → CSt → Prop) : Prop :=
  w_C_allLost_4  post  2000 c 0 0
set_option maxRecDepth 20000 in
theorem g_C_allLost {X : GX} (C : GC X b_C_allLost R_C 3 (rmd 0)) {Qp : Option Value → va_W → Prop} (q : RC X ((some .int)) Qp 0 0) (a : Nat → Nat) (c : CSt) (post : Int32 → CSt → Prop) (hq : ∀ v c1, post v c1 → Qp (some (.int v)) (woC (xt X) a c1)) (hw : wp_C_allLost c post) : G X 0 0 (woC (xt X) a c) [(0, .ref (a 0))] [] 0 := by
  unfold wp_C_allLost at hw
  refine g_iconst (pc := 0) C (v := 0) d_C_allLost_0 (by decide) ?_
  refine g_istore_n (pc := 1) C d_C_allLost_1 rfl (Nat.le_of_ble_eq_true rfl) (lv' := [(0, .ref (a 0)), (1, .int 0)]) rfl ?_
  refine g_iconst (pc := 2) C (v := 0) d_C_allLost_2 (by decide) ?_
  refine g_istore_n (pc := 3) C d_C_allLost_3 rfl (Nat.le_of_ble_eq_true rfl) (lv' := [(0, .ref (a 0)), (1, .int 0), (2, .int 0)]) rfl ?_
  exact j_C_allLost_4 C q a post hq  2000 c 0 0 hw
set_option maxRecDepth 20000 in
theorem c_C_allLost (l : Launch) (D : va_G) (t : Nat → ClassId) (ev : Nat → Nat) (a : Nat → Nat) (c : CSt) (post : Int32 → CSt → Prop) (hw : wp_C_allLost c post) : Con l D t ev y_C_allLost b_C_allLost 3 ((some .int)) 0 (woC t a c) [.ref (a 0)] (qI (woC t a)  post) :=
  ConR.of (by decide +kernel) (Nat.le_of_ble_eq_true rfl) (fun X el eD et ee C q _ => by subst el; subst eD; subst et; subst ee; exact g_C_allLost C q a c post (fun v c1 h => ⟨⟨v, c1, rfl, rfl, h⟩, rfl⟩) hw)
def w_C_usedLocks_4  (post : Int32 → CSt → Prop)  : Nat → CSt → Int32 → Int32 → Prop
  | 0, _, _, _ => False
  | n + 1, c, x1, x2 =>
    (((C_count c) ≤ x2) → (post x1 c)) ∧ ((¬ (C_count c) ≤ x2) → (((8 ≤ x2) → (post x1 c)) ∧ ((¬ 8 ≤ x2) → (vp_in x2 8 ∧ (∀ y2 : Int32, y2 = x1 ||| (1 <<< (((C_at c) x2.toNatClampNeg) &&& 31)) → (∀ y3 : Int32, y3 = x2 + 1 → (w_C_usedLocks_4  post  n c y2 y3)))))))
set_option maxRecDepth 20000 in
theorem j_C_usedLocks_4 {X : GX} (C : GC X b_C_usedLocks R_C 3 (rmd 0)) {Qp : Option Value → va_W → Prop} (q : RC X ((some .int)) Qp 0 0) (a : Nat → Nat)   (post : Int32 → CSt → Prop) (hq : ∀ v c1, post v c1 → Qp (some (.int v)) (woC (xt X) a c1)) : ∀ (n : Nat) (c : CSt) (x1 : Int32) (x2 : Int32), w_C_usedLocks_4  post  n c x1 x2 → G X 0 0 (woC (xt X) a c) [(0, .ref (a 0)), (1, .int x1), (2, .int x2)] [] 4 := by
  intro n
  induction n with
  | zero => intro c x1 x2 hw; exact hw.elim
  | succ n ih =>
    intro c x1 x2 hw
    rw [w_C_usedLocks_4] at hw
    refine g_iload_n (pc := 4) C d_C_usedLocks_4 2 rfl rfl ?_
    refine g_aload_n (pc := 5) C d_C_usedLocks_5 0 rfl rfl ?_
    refine fC_count (pc := 6) C lk_C_36 d_C_usedLocks_6 (v := C_count c) rfl ?_
    refine g_icmp_ge (pc := 9) (tgt := 35) C d_C_usedLocks_9 (by decide) (fun h5 => ?_) (fun h5 => ?_)
    · replace hw := hw.1 h5
      refine g_iload_n (pc := 35) C d_C_usedLocks_35 1 rfl rfl ?_
      exact g_iret (pc := 36) C q d_C_usedLocks_36 (hq _ _ hw)
    · replace hw := hw.2 h5
      refine g_iload_n (pc := 12) C d_C_usedLocks_12 2 rfl rfl ?_
      refine g_bipush (pc := 13) C (v := 8) d_C_usedLocks_13 (by decide) ?_
      refine g_icmp_ge (pc := 15) (tgt := 35) C d_C_usedLocks_15 (by decide) (fun h4 => ?_) (fun h4 => ?_)
      · replace hw := hw.1 h4
        refine g_iload_n (pc := 35) C d_C_usedLocks_35 1 rfl rfl ?_
        exact g_iret (pc := 36) C q d_C_usedLocks_36 (hq _ _ hw)
      · replace hw := hw.2 h4
        refine g_iload_n (pc := 18) C d_C_usedLocks_18 1 rfl rfl ?_
        refine g_iconst (pc := 19) C (v := 1) d_C_usedLocks_19 (by decide) ?_
        refine g_aload_n (pc := 20) C d_C_usedLocks_20 0 rfl rfl ?_
        refine fC_at (pc := 21) C lk_C_30 d_C_usedLocks_21 ?_
        refine g_iload_n (pc := 24) C d_C_usedLocks_24 2 rfl rfl ?_
        obtain ⟨h1, hw⟩ := hw
        refine lC_at (pc := 25) C d_C_usedLocks_25 (f := C_at c) rfl (N0 := x2.toNatClampNeg) rfl h1 ?_
        refine g_ishl (pc := 26) C d_C_usedLocks_26 ?_
        refine g_ior (pc := 27) C d_C_usedLocks_27 ?_
        refine g_topi (fun y2 ey2 => ?_)
        replace hw := hw y2 ey2
        refine g_istore_n (pc := 28) C d_C_usedLocks_28 rfl (Nat.le_of_ble_eq_true rfl) (lv' := [(0, .ref (a 0)), (1, .int y2), (2, .int x2)]) rfl ?_
        obtain ⟨y3, ey3⟩ : ∃ w, w = x2 + 1 := ⟨_, rfl⟩
        replace hw := hw y3 ey3
        refine g_iinc (pc := 29) C d_C_usedLocks_29 2 rfl (v := y3) (by rw [ey3]; rfl) (Nat.le_of_ble_eq_true rfl) (lv' := [(0, .ref (a 0)), (1, .int y2), (2, .int y3)]) rfl ?_
        refine g_goto (pc := 32) (tgt := 4) C d_C_usedLocks_32 (by decide) ?_
        exact ih c y2 y3 hw
def wp_C_usedLocks (c : CSt) (post : Int32 → CSt → Prop) : Prop :=
  w_C_usedLocks_4  post  2000 c 0 0
set_option maxRecDepth 20000 in
theorem g_C_usedLocks {X : GX} (C : GC X b_C_usedLocks R_C 3 (rmd 0)) {Qp : Option Value → va_W → Prop} (q : RC X ((some .int)) Qp 0 0) (a : Nat → Nat) (c : CSt) (post : Int32 → CSt → Prop) (hq : ∀ v c1, post v c1 → Qp (some (.int v)) (woC (xt X) a c1)) (hw : wp_C_usedLocks c post) : G X 0 0 (woC (xt X) a c) [(0, .ref (a 0))] [] 0 := by
  unfold wp_C_usedLocks at hw
  refine g_iconst (pc := 0) C (v := 0) d_C_usedLocks_0 (by decide) ?_
  refine g_istore_n (pc := 1) C d_C_usedLocks_1 rfl (Nat.le_of_ble_eq_true rfl) (lv' := [(0, .ref (a 0)), (1, .int 0)]) rfl ?_
  refine g_iconst (pc := 2) C (v := 0) d_C_usedLocks_2 (by decide) ?_
  refine g_istore_n (pc := 3) C d_C_usedLocks_3 rfl (Nat.le_of_ble_eq_true rfl) (lv' := [(0, .ref (a 0)), (1, .int 0), (2, .int 0)]) rfl ?_
  exact j_C_usedLocks_4 C q a post hq  2000 c 0 0 hw
set_option maxRecDepth 20000 in
theorem c_C_usedLocks (l : Launch) (D : va_G) (t : Nat → ClassId) (ev : Nat → Nat) (a : Nat → Nat) (c : CSt) (post : Int32 → CSt → Prop) (hw : wp_C_usedLocks c post) : Con l D t ev y_C_usedLocks b_C_usedLocks 3 ((some .int)) 0 (woC t a c) [.ref (a 0)] (qI (woC t a)  post) :=
  ConR.of (by decide +kernel) (Nat.le_of_ble_eq_true rfl) (fun X el eD et ee C q _ => by subst el; subst eD; subst et; subst ee; exact g_C_usedLocks C q a c post (fun v c1 h => ⟨⟨v, c1, rfl, rfl, h⟩, rfl⟩) hw)
def w_C_bargesAt_4  (post : Int32 → CSt → Prop)  : Nat → CSt → Int32 → Int32 → Int32 → Prop
  | 0, _, _, _, _ => False
  | n + 1, c, x1, x2, x3 =>
    (((C_count c) ≤ x3) → (post x2 c)) ∧ ((¬ (C_count c) ≤ x3) → (((8 ≤ x3) → (post x2 c)) ∧ ((¬ 8 ≤ x3) → (vp_in x3 8 ∧ (((((C_at c) x3.toNatClampNeg) = x1) → (∀ y3 : Int32, y3 = x2 ||| (1 <<< (x3 &&& 31)) → (∀ y4 : Int32, y4 = x3 + 1 → (w_C_bargesAt_4  post  n c x1 y3 y4)))) ∧ ((¬ ((C_at c) x3.toNatClampNeg) = x1) → (∀ y2 : Int32, y2 = x3 + 1 → (w_C_bargesAt_4  post  n c x1 x2 y2))))))))
set_option maxRecDepth 20000 in
theorem j_C_bargesAt_4 {X : GX} (C : GC X b_C_bargesAt R_C 4 (rmd 0)) {Qp : Option Value → va_W → Prop} (q : RC X ((some .int)) Qp 0 0) (a : Nat → Nat)   (post : Int32 → CSt → Prop) (hq : ∀ v c1, post v c1 → Qp (some (.int v)) (woC (xt X) a c1)) : ∀ (n : Nat) (c : CSt) (x1 : Int32) (x2 : Int32) (x3 : Int32), w_C_bargesAt_4  post  n c x1 x2 x3 → G X 0 0 (woC (xt X) a c) [(0, .ref (a 0)), (1, .int x1), (2, .int x2), (3, .int x3)] [] 4 := by
  intro n
  induction n with
  | zero => intro c x1 x2 x3 hw; exact hw.elim
  | succ n ih =>
    intro c x1 x2 x3 hw
    rw [w_C_bargesAt_4] at hw
    refine g_iload_n (pc := 4) C d_C_bargesAt_4 3 rfl rfl ?_
    refine g_aload_n (pc := 5) C d_C_bargesAt_5 0 rfl rfl ?_
    refine fC_count (pc := 6) C lk_C_36 d_C_bargesAt_6 (v := C_count c) rfl ?_
    refine g_icmp_ge (pc := 9) (tgt := 40) C d_C_bargesAt_9 (by decide) (fun h7 => ?_) (fun h7 => ?_)
    · replace hw := hw.1 h7
      refine g_iload_n (pc := 40) C d_C_bargesAt_40 2 rfl rfl ?_
      exact g_iret (pc := 41) C q d_C_bargesAt_41 (hq _ _ hw)
    · replace hw := hw.2 h7
      refine g_iload_n (pc := 12) C d_C_bargesAt_12 3 rfl rfl ?_
      refine g_bipush (pc := 13) C (v := 8) d_C_bargesAt_13 (by decide) ?_
      refine g_icmp_ge (pc := 15) (tgt := 40) C d_C_bargesAt_15 (by decide) (fun h6 => ?_) (fun h6 => ?_)
      · replace hw := hw.1 h6
        refine g_iload_n (pc := 40) C d_C_bargesAt_40 2 rfl rfl ?_
        exact g_iret (pc := 41) C q d_C_bargesAt_41 (hq _ _ hw)
      · replace hw := hw.2 h6
        refine g_aload_n (pc := 18) C d_C_bargesAt_18 0 rfl rfl ?_
        refine fC_at (pc := 19) C lk_C_30 d_C_bargesAt_19 ?_
        refine g_iload_n (pc := 22) C d_C_bargesAt_22 3 rfl rfl ?_
        obtain ⟨h1, hw⟩ := hw
        refine lC_at (pc := 23) C d_C_bargesAt_23 (f := C_at c) rfl (N0 := x3.toNatClampNeg) rfl h1 ?_
        refine g_iload_n (pc := 24) C d_C_bargesAt_24 1 rfl rfl ?_
        refine g_icmp_ne (pc := 25) (tgt := 34) C d_C_bargesAt_25 (by decide) (fun h5 => ?_) (fun h5 => ?_)
        · replace hw := hw.2 h5
          obtain ⟨y2, ey2⟩ : ∃ w, w = x3 + 1 := ⟨_, rfl⟩
          replace hw := hw y2 ey2
          refine g_iinc (pc := 34) C d_C_bargesAt_34 3 rfl (v := y2) (by rw [ey2]; rfl) (Nat.le_of_ble_eq_true rfl) (lv' := [(0, .ref (a 0)), (1, .int x1), (2, .int x2), (3, .int y2)]) rfl ?_
          refine g_goto (pc := 37) (tgt := 4) C d_C_bargesAt_37 (by decide) ?_
          exact ih c x1 x2 y2 hw
        · replace hw := hw.1 h5
          refine g_iload_n (pc := 28) C d_C_bargesAt_28 2 rfl rfl ?_
          refine g_iconst (pc := 29) C (v := 1) d_C_bargesAt_29 (by decide) ?_
          refine g_iload_n (pc := 30) C d_C_bargesAt_30 3 rfl rfl ?_
          refine g_ishl (pc := 31) C d_C_bargesAt_31 ?_
          refine g_ior (pc := 32) C d_C_bargesAt_32 ?_
          refine g_topi (fun y3 ey3 => ?_)
          replace hw := hw y3 ey3
          refine g_istore_n (pc := 33) C d_C_bargesAt_33 rfl (Nat.le_of_ble_eq_true rfl) (lv' := [(0, .ref (a 0)), (1, .int x1), (2, .int y3), (3, .int x3)]) rfl ?_
          obtain ⟨y4, ey4⟩ : ∃ w, w = x3 + 1 := ⟨_, rfl⟩
          replace hw := hw y4 ey4
          refine g_iinc (pc := 34) C d_C_bargesAt_34 3 rfl (v := y4) (by rw [ey4]; rfl) (Nat.le_of_ble_eq_true rfl) (lv' := [(0, .ref (a 0)), (1, .int x1), (2, .int y3), (3, .int y4)]) rfl ?_
          refine g_goto (pc := 37) (tgt := 4) C d_C_bargesAt_37 (by decide) ?_
          exact ih c x1 y3 y4 hw
def wp_C_bargesAt (c : CSt) (x1 : Int32) (post : Int32 → CSt → Prop) : Prop :=
  w_C_bargesAt_4  post  2000 c x1 0 0
set_option maxRecDepth 20000 in
theorem g_C_bargesAt {X : GX} (C : GC X b_C_bargesAt R_C 4 (rmd 0)) {Qp : Option Value → va_W → Prop} (q : RC X ((some .int)) Qp 0 0) (a : Nat → Nat) (c : CSt) (x1 : Int32) (post : Int32 → CSt → Prop) (hq : ∀ v c1, post v c1 → Qp (some (.int v)) (woC (xt X) a c1)) (hw : wp_C_bargesAt c x1 post) : G X 0 0 (woC (xt X) a c) [(0, .ref (a 0)), (1, .int x1)] [] 0 := by
  unfold wp_C_bargesAt at hw
  refine g_iconst (pc := 0) C (v := 0) d_C_bargesAt_0 (by decide) ?_
  refine g_istore_n (pc := 1) C d_C_bargesAt_1 rfl (Nat.le_of_ble_eq_true rfl) (lv' := [(0, .ref (a 0)), (1, .int x1), (2, .int 0)]) rfl ?_
  refine g_iconst (pc := 2) C (v := 0) d_C_bargesAt_2 (by decide) ?_
  refine g_istore_n (pc := 3) C d_C_bargesAt_3 rfl (Nat.le_of_ble_eq_true rfl) (lv' := [(0, .ref (a 0)), (1, .int x1), (2, .int 0), (3, .int 0)]) rfl ?_
  exact j_C_bargesAt_4 C q a post hq  2000 c x1 0 0 hw
set_option maxRecDepth 20000 in
theorem c_C_bargesAt (l : Launch) (D : va_G) (t : Nat → ClassId) (ev : Nat → Nat) (a : Nat → Nat) (c : CSt) (x1 : Int32) (post : Int32 → CSt → Prop) (hw : wp_C_bargesAt c x1 post) : Con l D t ev y_C_bargesAt b_C_bargesAt 4 ((some .int)) 0 (woC t a c) [.ref (a 0), .int x1] (qI (woC t a)  post) :=
  ConR.of (by decide +kernel) (Nat.le_of_ble_eq_true rfl) (fun X el eD et ee C q _ => by subst el; subst eD; subst et; subst ee; exact g_C_bargesAt C q a c x1 post (fun v c1 h => ⟨⟨v, c1, rfl, rfl, h⟩, rfl⟩) hw)
def w_C_loudest_7  (post : Int32 → CSt → Prop)  : Nat → CSt → Int32 → Int32 → Int32 → Prop
  | 0, _, _, _, _ => False
  | n + 1, c, x1, x2, x3 =>
    ((10 ≤ x3) → (post x1 c)) ∧ ((¬ 10 ≤ x3) → (vp_in x3 10 ∧ (((((C_lost c) x3.toNatClampNeg) ≤ x2) → (∀ y2 : Int32, y2 = x3 + 1 → (w_C_loudest_7  post  n c x1 x2 y2))) ∧ ((¬ ((C_lost c) x3.toNatClampNeg) ≤ x2) → (vp_in x3 10 ∧ (∀ y4 : Int32, y4 = x3 + 1 → (w_C_loudest_7  post  n c x3 ((C_lost c) x3.toNatClampNeg) y4)))))))
set_option maxRecDepth 20000 in
theorem j_C_loudest_7 {X : GX} (C : GC X b_C_loudest R_C 4 (rmd 0)) {Qp : Option Value → va_W → Prop} (q : RC X ((some .int)) Qp 0 0) (a : Nat → Nat)   (post : Int32 → CSt → Prop) (hq : ∀ v c1, post v c1 → Qp (some (.int v)) (woC (xt X) a c1)) : ∀ (n : Nat) (c : CSt) (x1 : Int32) (x2 : Int32) (x3 : Int32), w_C_loudest_7  post  n c x1 x2 x3 → G X 0 0 (woC (xt X) a c) [(0, .ref (a 0)), (1, .int x1), (2, .int x2), (3, .int x3)] [] 7 := by
  intro n
  induction n with
  | zero => intro c x1 x2 x3 hw; exact hw.elim
  | succ n ih =>
    intro c x1 x2 x3 hw
    rw [w_C_loudest_7] at hw
    refine g_iload_n (pc := 7) C d_C_loudest_7 3 rfl rfl ?_
    refine g_bipush (pc := 8) C (v := 10) d_C_loudest_8 (by decide) ?_
    refine g_icmp_ge (pc := 10) (tgt := 38) C d_C_loudest_10 (by decide) (fun h6 => ?_) (fun h6 => ?_)
    · replace hw := hw.1 h6
      refine g_iload_n (pc := 38) C d_C_loudest_38 1 rfl rfl ?_
      exact g_iret (pc := 39) C q d_C_loudest_39 (hq _ _ hw)
    · replace hw := hw.2 h6
      refine g_aload_n (pc := 13) C d_C_loudest_13 0 rfl rfl ?_
      refine fC_lost (pc := 14) C lk_C_18 d_C_loudest_14 ?_
      refine g_iload_n (pc := 17) C d_C_loudest_17 3 rfl rfl ?_
      obtain ⟨h1, hw⟩ := hw
      refine lC_lost (pc := 18) C d_C_loudest_18 (f := C_lost c) rfl (N0 := x3.toNatClampNeg) rfl h1 ?_
      refine g_iload_n (pc := 19) C d_C_loudest_19 2 rfl rfl ?_
      refine g_icmp_le (pc := 20) (tgt := 32) C d_C_loudest_20 (by decide) (fun h5 => ?_) (fun h5 => ?_)
      · replace hw := hw.1 h5
        obtain ⟨y2, ey2⟩ : ∃ w, w = x3 + 1 := ⟨_, rfl⟩
        replace hw := hw y2 ey2
        refine g_iinc (pc := 32) C d_C_loudest_32 3 rfl (v := y2) (by rw [ey2]; rfl) (Nat.le_of_ble_eq_true rfl) (lv' := [(0, .ref (a 0)), (1, .int x1), (2, .int x2), (3, .int y2)]) rfl ?_
        refine g_goto (pc := 35) (tgt := 7) C d_C_loudest_35 (by decide) ?_
        exact ih c x1 x2 y2 hw
      · replace hw := hw.2 h5
        refine g_aload_n (pc := 23) C d_C_loudest_23 0 rfl rfl ?_
        refine fC_lost (pc := 24) C lk_C_18 d_C_loudest_24 ?_
        refine g_iload_n (pc := 27) C d_C_loudest_27 3 rfl rfl ?_
        obtain ⟨h3, hw⟩ := hw
        refine lC_lost (pc := 28) C d_C_loudest_28 (f := C_lost c) rfl (N0 := x3.toNatClampNeg) rfl h3 ?_
        refine g_istore_n (pc := 29) C d_C_loudest_29 rfl (Nat.le_of_ble_eq_true rfl) (lv' := [(0, .ref (a 0)), (1, .int x1), (2, .int ((C_lost c) x3.toNatClampNeg)), (3, .int x3)]) rfl ?_
        refine g_iload_n (pc := 30) C d_C_loudest_30 3 rfl rfl ?_
        refine g_istore_n (pc := 31) C d_C_loudest_31 rfl (Nat.le_of_ble_eq_true rfl) (lv' := [(0, .ref (a 0)), (1, .int x3), (2, .int ((C_lost c) x3.toNatClampNeg)), (3, .int x3)]) rfl ?_
        obtain ⟨y4, ey4⟩ : ∃ w, w = x3 + 1 := ⟨_, rfl⟩
        replace hw := hw y4 ey4
        refine g_iinc (pc := 32) C d_C_loudest_32 3 rfl (v := y4) (by rw [ey4]; rfl) (Nat.le_of_ble_eq_true rfl) (lv' := [(0, .ref (a 0)), (1, .int x3), (2, .int ((C_lost c) x3.toNatClampNeg)), (3, .int y4)]) rfl ?_
        refine g_goto (pc := 35) (tgt := 7) C d_C_loudest_35 (by decide) ?_
        exact ih c x3 ((C_lost c) x3.toNatClampNeg) y4 hw
def wp_C_loudest (c : CSt) (post : Int32 → CSt → Prop) : Prop :=
  w_C_loudest_7  post  2000 c 10 0 0
set_option maxRecDepth 20000 in
theorem g_C_loudest {X : GX} (C : GC X b_C_loudest R_C 4 (rmd 0)) {Qp : Option Value → va_W → Prop} (q : RC X ((some .int)) Qp 0 0) (a : Nat → Nat) (c : CSt) (post : Int32 → CSt → Prop) (hq : ∀ v c1, post v c1 → Qp (some (.int v)) (woC (xt X) a c1)) (hw : wp_C_loudest c post) : G X 0 0 (woC (xt X) a c) [(0, .ref (a 0))] [] 0 := by
  unfold wp_C_loudest at hw
  refine g_bipush (pc := 0) C (v := 10) d_C_loudest_0 (by decide) ?_
  refine g_istore_n (pc := 2) C d_C_loudest_2 rfl (Nat.le_of_ble_eq_true rfl) (lv' := [(0, .ref (a 0)), (1, .int 10)]) rfl ?_
  refine g_iconst (pc := 3) C (v := 0) d_C_loudest_3 (by decide) ?_
  refine g_istore_n (pc := 4) C d_C_loudest_4 rfl (Nat.le_of_ble_eq_true rfl) (lv' := [(0, .ref (a 0)), (1, .int 10), (2, .int 0)]) rfl ?_
  refine g_iconst (pc := 5) C (v := 0) d_C_loudest_5 (by decide) ?_
  refine g_istore_n (pc := 6) C d_C_loudest_6 rfl (Nat.le_of_ble_eq_true rfl) (lv' := [(0, .ref (a 0)), (1, .int 10), (2, .int 0), (3, .int 0)]) rfl ?_
  exact j_C_loudest_7 C q a post hq  2000 c 10 0 0 hw
set_option maxRecDepth 20000 in
theorem c_C_loudest (l : Launch) (D : va_G) (t : Nat → ClassId) (ev : Nat → Nat) (a : Nat → Nat) (c : CSt) (post : Int32 → CSt → Prop) (hw : wp_C_loudest c post) : Con l D t ev y_C_loudest b_C_loudest 4 ((some .int)) 0 (woC t a c) [.ref (a 0)] (qI (woC t a)  post) :=
  ConR.of (by decide +kernel) (Nat.le_of_ble_eq_true rfl) (fun X el eD et ee C q _ => by subst el; subst eD; subst et; subst ee; exact g_C_loudest C q a c post (fun v c1 h => ⟨⟨v, c1, rfl, rfl, h⟩, rfl⟩) hw)
def w_C_locksWithLoss_4  (post : Int32 → CSt → Prop)  : Nat → CSt → Int32 → Int32 → Prop
  | 0, _, _, _ => False
  | n + 1, c, x1, x2 =>
    ((10 ≤ x2) → (post x1 c)) ∧ ((¬ 10 ≤ x2) → (vp_in x2 10 ∧ (((((C_lost c) x2.toNatClampNeg) ≤ 0) → (∀ y2 : Int32, y2 = x2 + 1 → (w_C_locksWithLoss_4  post  n c x1 y2))) ∧ ((¬ ((C_lost c) x2.toNatClampNeg) ≤ 0) → (∀ y3 : Int32, y3 = x1 + 1 → (∀ y4 : Int32, y4 = x2 + 1 → (w_C_locksWithLoss_4  post  n c y3 y4)))))))
set_option maxRecDepth 20000 in
theorem j_C_locksWithLoss_4 {X : GX} (C : GC X b_C_locksWithLoss R_C 3 (rmd 0)) {Qp : Option Value → va_W → Prop} (q : RC X ((some .int)) Qp 0 0) (a : Nat → Nat)   (post : Int32 → CSt → Prop) (hq : ∀ v c1, post v c1 → Qp (some (.int v)) (woC (xt X) a c1)) : ∀ (n : Nat) (c : CSt) (x1 : Int32) (x2 : Int32), w_C_locksWithLoss_4  post  n c x1 x2 → G X 0 0 (woC (xt X) a c) [(0, .ref (a 0)), (1, .int x1), (2, .int x2)] [] 4 := by
  intro n
  induction n with
  | zero => intro c x1 x2 hw; exact hw.elim
  | succ n ih =>
    intro c x1 x2 hw
    rw [w_C_locksWithLoss_4] at hw
    refine g_iload_n (pc := 4) C d_C_locksWithLoss_4 2 rfl rfl ?_
    refine g_bipush (pc := 5) C (v := 10) d_C_locksWithLoss_5 (by decide) ?_
    refine g_icmp_ge (pc := 7) (tgt := 28) C d_C_locksWithLoss_7 (by decide) (fun h6 => ?_) (fun h6 => ?_)
    · replace hw := hw.1 h6
      refine g_iload_n (pc := 28) C d_C_locksWithLoss_28 1 rfl rfl ?_
      exact g_iret (pc := 29) C q d_C_locksWithLoss_29 (hq _ _ hw)
    · replace hw := hw.2 h6
      refine g_aload_n (pc := 10) C d_C_locksWithLoss_10 0 rfl rfl ?_
      refine fC_lost (pc := 11) C lk_C_18 d_C_locksWithLoss_11 ?_
      refine g_iload_n (pc := 14) C d_C_locksWithLoss_14 2 rfl rfl ?_
      obtain ⟨h1, hw⟩ := hw
      refine lC_lost (pc := 15) C d_C_locksWithLoss_15 (f := C_lost c) rfl (N0 := x2.toNatClampNeg) rfl h1 ?_
      refine g_if_le (pc := 16) (tgt := 22) C d_C_locksWithLoss_16 (by decide) (fun h5 => ?_) (fun h5 => ?_)
      · replace hw := hw.1 h5
        obtain ⟨y2, ey2⟩ : ∃ w, w = x2 + 1 := ⟨_, rfl⟩
        replace hw := hw y2 ey2
        refine g_iinc (pc := 22) C d_C_locksWithLoss_22 2 rfl (v := y2) (by rw [ey2]; rfl) (Nat.le_of_ble_eq_true rfl) (lv' := [(0, .ref (a 0)), (1, .int x1), (2, .int y2)]) rfl ?_
        refine g_goto (pc := 25) (tgt := 4) C d_C_locksWithLoss_25 (by decide) ?_
        exact ih c x1 y2 hw
      · replace hw := hw.2 h5
        obtain ⟨y3, ey3⟩ : ∃ w, w = x1 + 1 := ⟨_, rfl⟩
        replace hw := hw y3 ey3
        refine g_iinc (pc := 19) C d_C_locksWithLoss_19 1 rfl (v := y3) (by rw [ey3]; rfl) (Nat.le_of_ble_eq_true rfl) (lv' := [(0, .ref (a 0)), (1, .int y3), (2, .int x2)]) rfl ?_
        obtain ⟨y4, ey4⟩ : ∃ w, w = x2 + 1 := ⟨_, rfl⟩
        replace hw := hw y4 ey4
        refine g_iinc (pc := 22) C d_C_locksWithLoss_22 2 rfl (v := y4) (by rw [ey4]; rfl) (Nat.le_of_ble_eq_true rfl) (lv' := [(0, .ref (a 0)), (1, .int y3), (2, .int y4)]) rfl ?_
        refine g_goto (pc := 25) (tgt := 4) C d_C_locksWithLoss_25 (by decide) ?_
        exact ih c y3 y4 hw
def wp_C_locksWithLoss (c : CSt) (post : Int32 → CSt → Prop) : Prop :=
  w_C_locksWithLoss_4  post  2000 c 0 0
set_option maxRecDepth 20000 in
theorem g_C_locksWithLoss {X : GX} (C : GC X b_C_locksWithLoss R_C 3 (rmd 0)) {Qp : Option Value → va_W → Prop} (q : RC X ((some .int)) Qp 0 0) (a : Nat → Nat) (c : CSt) (post : Int32 → CSt → Prop) (hq : ∀ v c1, post v c1 → Qp (some (.int v)) (woC (xt X) a c1)) (hw : wp_C_locksWithLoss c post) : G X 0 0 (woC (xt X) a c) [(0, .ref (a 0))] [] 0 := by
  unfold wp_C_locksWithLoss at hw
  refine g_iconst (pc := 0) C (v := 0) d_C_locksWithLoss_0 (by decide) ?_
  refine g_istore_n (pc := 1) C d_C_locksWithLoss_1 rfl (Nat.le_of_ble_eq_true rfl) (lv' := [(0, .ref (a 0)), (1, .int 0)]) rfl ?_
  refine g_iconst (pc := 2) C (v := 0) d_C_locksWithLoss_2 (by decide) ?_
  refine g_istore_n (pc := 3) C d_C_locksWithLoss_3 rfl (Nat.le_of_ble_eq_true rfl) (lv' := [(0, .ref (a 0)), (1, .int 0), (2, .int 0)]) rfl ?_
  exact j_C_locksWithLoss_4 C q a post hq  2000 c 0 0 hw
set_option maxRecDepth 20000 in
theorem c_C_locksWithLoss (l : Launch) (D : va_G) (t : Nat → ClassId) (ev : Nat → Nat) (a : Nat → Nat) (c : CSt) (post : Int32 → CSt → Prop) (hw : wp_C_locksWithLoss c post) : Con l D t ev y_C_locksWithLoss b_C_locksWithLoss 3 ((some .int)) 0 (woC t a c) [.ref (a 0)] (qI (woC t a)  post) :=
  ConR.of (by decide +kernel) (Nat.le_of_ble_eq_true rfl) (fun X el eD et ee C q _ => by subst el; subst eD; subst et; subst ee; exact g_C_locksWithLoss C q a c post (fun v c1 h => ⟨⟨v, c1, rfl, rfl, h⟩, rfl⟩) hw)
def w_C_loudOnTheWay_54  (post : Int32 → CSt → Prop) (k4 : CSt → Int32 → Int32 → Prop) : Nat → CSt → Int32 → Int32 → Int32 → Int32 → Prop
  | 0, _, _, _, _, _ => False
  | n + 1, c, x1, x2, x4, x5 =>
    ((x4 < x5) → (∀ y5 : Int32, y5 = x2 + 1 → (k4 c x1 y5))) ∧ ((¬ x4 < x5) → (vp_in x2 8 ∧ (((x5 = ((C_at c) x2.toNatClampNeg)) → (∀ y7 : Int32, y7 = x5 + 1 → (w_C_loudOnTheWay_54  post k4 n c x1 x2 x4 y7))) ∧ ((¬ x5 = ((C_at c) x2.toNatClampNeg)) → (wp_C_noiseAt c x5 (fun v8 c_9 => ((v8 ≤ 0) → (∀ y10 : Int32, y10 = x5 + 1 → (w_C_loudOnTheWay_54  post k4 n c_9 x1 x2 x4 y10))) ∧ ((¬ v8 ≤ 0) → (∀ y11 : Int32, y11 = x1 ||| (1 <<< (x5 &&& 31)) → (∀ y12 : Int32, y12 = x5 + 1 → (w_C_loudOnTheWay_54  post k4 n c_9 y11 x2 x4 y12))))))))))
set_option maxRecDepth 20000 in
theorem j_C_loudOnTheWay_54 {X : GX} (C : GC X b_C_loudOnTheWay R_C 6 (rmd 2)) {Qp : Option Value → va_W → Prop} (q : RC X ((some .int)) Qp 0 0) (a : Nat → Nat)   (post : Int32 → CSt → Prop) (hq : ∀ v c1, post v c1 → Qp (some (.int v)) (woC (xt X) a c1)) {k4 : CSt → Int32 → Int32 → Prop} (hk4 : ∀ (c : CSt) (x1 : Int32) (x2 : Int32), k4 c x1 x2 → G X 0 0 (woC (xt X) a c) [(0, .ref (a 0)), (1, .int x1), (2, .int x2)] [] 4) : ∀ (n : Nat) (c : CSt) (x1 : Int32) (x2 : Int32) (x4 : Int32) (x5 : Int32), w_C_loudOnTheWay_54  post k4 n c x1 x2 x4 x5 → G X 0 0 (woC (xt X) a c) [(0, .ref (a 0)), (1, .int x1), (2, .int x2), (4, .int x4), (5, .int x5)] [] 54 := by
  intro n
  induction n with
  | zero => intro c x1 x2 x4 x5 hw; exact hw.elim
  | succ n ih =>
    intro c x1 x2 x4 x5 hw
    rw [w_C_loudOnTheWay_54] at hw
    refine g_iload (pc := 54) C d_C_loudOnTheWay_54 4 rfl ?_
    refine g_iload (pc := 56) C d_C_loudOnTheWay_56 3 rfl ?_
    refine g_icmp_gt (pc := 58) (tgt := 94) C d_C_loudOnTheWay_58 (by decide) (fun h15 => ?_) (fun h15 => ?_)
    · replace hw := hw.1 h15
      obtain ⟨y5, ey5⟩ : ∃ w, w = x2 + 1 := ⟨_, rfl⟩
      replace hw := hw y5 ey5
      refine g_iinc (pc := 94) C d_C_loudOnTheWay_94 2 rfl (v := y5) (by rw [ey5]; rfl) (Nat.le_of_ble_eq_true rfl) (lv' := [(0, .ref (a 0)), (1, .int x1), (2, .int y5), (4, .int x4), (5, .int x5)]) rfl ?_
      refine g_goto (pc := 97) (tgt := 4) C d_C_loudOnTheWay_97 (by decide) ?_
      refine g_sub [0, 1, 2] (lv' := [(0, .ref (a 0)), (1, .int x1), (2, .int y5)]) rfl ?_
      exact hk4 c x1 y5 hw
    · replace hw := hw.2 h15
      refine g_iload (pc := 61) C d_C_loudOnTheWay_61 4 rfl ?_
      refine g_aload_n (pc := 63) C d_C_loudOnTheWay_63 0 rfl rfl ?_
      refine fC_at (pc := 64) C lk_C_30 d_C_loudOnTheWay_64 ?_
      refine g_iload_n (pc := 67) C d_C_loudOnTheWay_67 2 rfl rfl ?_
      obtain ⟨h6, hw⟩ := hw
      refine lC_at (pc := 68) C d_C_loudOnTheWay_68 (f := C_at c) rfl (N0 := x2.toNatClampNeg) rfl h6 ?_
      refine g_icmp_eq (pc := 69) (tgt := 88) C d_C_loudOnTheWay_69 (by decide) (fun h14 => ?_) (fun h14 => ?_)
      · replace hw := hw.1 h14
        obtain ⟨y7, ey7⟩ : ∃ w, w = x5 + 1 := ⟨_, rfl⟩
        replace hw := hw y7 ey7
        refine g_iinc (pc := 88) C d_C_loudOnTheWay_88 4 rfl (v := y7) (by rw [ey7]; rfl) (Nat.le_of_ble_eq_true rfl) (lv' := [(0, .ref (a 0)), (1, .int x1), (2, .int x2), (4, .int x4), (5, .int y7)]) rfl ?_
        refine g_goto (pc := 91) (tgt := 54) C d_C_loudOnTheWay_91 (by decide) ?_
        exact ih c x1 x2 x4 y7 hw
      · replace hw := hw.2 h14
        refine g_aload_n (pc := 72) C d_C_loudOnTheWay_72 0 rfl rfl ?_
        refine g_iload (pc := 73) C d_C_loudOnTheWay_73 4 rfl ?_
        refine k_Ia (pc := 75) (co_V C (c_C_noiseAt (xl X) (xD X) (xt X) (xv X) a c x5 _ hw) mw_C_noiseAt lk_C_93 d_C_loudOnTheWay_75 (List.range _) (all_C _) (all_nd _) (rec_w C 0 1 rfl rfl) rfl rfl ⟨Nat.le_of_ble_eq_true rfl, Nat.le_of_ble_eq_true rfl⟩ ⟨Nat.le_of_ble_eq_true rfl, Nat.le_of_ble_eq_true rfl⟩ (rest := []) rfl rfl (Nat.le_of_ble_eq_true rfl)) (fun v8 c_9 hw => ?_)
        refine g_if_le (pc := 78) (tgt := 88) C d_C_loudOnTheWay_78 (by decide) (fun h13 => ?_) (fun h13 => ?_)
        · replace hw := hw.1 h13
          obtain ⟨y10, ey10⟩ : ∃ w, w = x5 + 1 := ⟨_, rfl⟩
          replace hw := hw y10 ey10
          refine g_iinc (pc := 88) C d_C_loudOnTheWay_88 4 rfl (v := y10) (by rw [ey10]; rfl) (Nat.le_of_ble_eq_true rfl) (lv' := [(0, .ref (a 0)), (1, .int x1), (2, .int x2), (4, .int x4), (5, .int y10)]) rfl ?_
          refine g_goto (pc := 91) (tgt := 54) C d_C_loudOnTheWay_91 (by decide) ?_
          exact ih c_9 x1 x2 x4 y10 hw
        · replace hw := hw.2 h13
          refine g_iload_n (pc := 81) C d_C_loudOnTheWay_81 1 rfl rfl ?_
          refine g_iconst (pc := 82) C (v := 1) d_C_loudOnTheWay_82 (by decide) ?_
          refine g_iload (pc := 83) C d_C_loudOnTheWay_83 4 rfl ?_
          refine g_ishl (pc := 85) C d_C_loudOnTheWay_85 ?_
          refine g_ior (pc := 86) C d_C_loudOnTheWay_86 ?_
          refine g_topi (fun y11 ey11 => ?_)
          replace hw := hw y11 ey11
          refine g_istore_n (pc := 87) C d_C_loudOnTheWay_87 rfl (Nat.le_of_ble_eq_true rfl) (lv' := [(0, .ref (a 0)), (1, .int y11), (2, .int x2), (4, .int x4), (5, .int x5)]) rfl ?_
          obtain ⟨y12, ey12⟩ : ∃ w, w = x5 + 1 := ⟨_, rfl⟩
          replace hw := hw y12 ey12
          refine g_iinc (pc := 88) C d_C_loudOnTheWay_88 4 rfl (v := y12) (by rw [ey12]; rfl) (Nat.le_of_ble_eq_true rfl) (lv' := [(0, .ref (a 0)), (1, .int y11), (2, .int x2), (4, .int x4), (5, .int y12)]) rfl ?_
          refine g_goto (pc := 91) (tgt := 54) C d_C_loudOnTheWay_91 (by decide) ?_
          exact ih c_9 y11 x2 x4 y12 hw
def w_C_loudOnTheWay_4  (post : Int32 → CSt → Prop)  : Nat → CSt → Int32 → Int32 → Prop
  | 0, _, _, _ => False
  | n + 1, c, x1, x2 =>
    (((C_count c) ≤ x2) → (post x1 c)) ∧ ((¬ (C_count c) ≤ x2) → (((8 ≤ x2) → (post x1 c)) ∧ ((¬ 8 ≤ x2) → (vp_in x2 8 ∧ (vp_in x2 8 ∧ (vp_in x2 8 ∧ (vp_in x2 8 ∧ (w_C_loudOnTheWay_54  post (w_C_loudOnTheWay_4  post  n) 2000 c x1 x2 (if ((C_at c) x2.toNatClampNeg) < ((C_bound c) x2.toNatClampNeg) then ((C_bound c) x2.toNatClampNeg) else ((C_at c) x2.toNatClampNeg)) (if ((C_bound c) x2.toNatClampNeg) < ((C_at c) x2.toNatClampNeg) then ((C_bound c) x2.toNatClampNeg) else ((C_at c) x2.toNatClampNeg))))))))))
set_option maxRecDepth 20000 in
theorem j_C_loudOnTheWay_4 {X : GX} (C : GC X b_C_loudOnTheWay R_C 6 (rmd 2)) {Qp : Option Value → va_W → Prop} (q : RC X ((some .int)) Qp 0 0) (a : Nat → Nat)   (post : Int32 → CSt → Prop) (hq : ∀ v c1, post v c1 → Qp (some (.int v)) (woC (xt X) a c1)) : ∀ (n : Nat) (c : CSt) (x1 : Int32) (x2 : Int32), w_C_loudOnTheWay_4  post  n c x1 x2 → G X 0 0 (woC (xt X) a c) [(0, .ref (a 0)), (1, .int x1), (2, .int x2)] [] 4 := by
  intro n
  induction n with
  | zero => intro c x1 x2 hw; exact hw.elim
  | succ n ih =>
    intro c x1 x2 hw
    rw [w_C_loudOnTheWay_4] at hw
    refine g_iload_n (pc := 4) C d_C_loudOnTheWay_4 2 rfl rfl ?_
    refine g_aload_n (pc := 5) C d_C_loudOnTheWay_5 0 rfl rfl ?_
    refine fC_count (pc := 6) C lk_C_36 d_C_loudOnTheWay_6 (v := C_count c) rfl ?_
    refine g_icmp_ge (pc := 9) (tgt := 100) C d_C_loudOnTheWay_9 (by decide) (fun h17 => ?_) (fun h17 => ?_)
    · replace hw := hw.1 h17
      refine g_iload_n (pc := 100) C d_C_loudOnTheWay_100 1 rfl rfl ?_
      exact g_iret (pc := 101) C q d_C_loudOnTheWay_101 (hq _ _ hw)
    · replace hw := hw.2 h17
      refine g_iload_n (pc := 12) C d_C_loudOnTheWay_12 2 rfl rfl ?_
      refine g_bipush (pc := 13) C (v := 8) d_C_loudOnTheWay_13 (by decide) ?_
      refine g_icmp_ge (pc := 15) (tgt := 100) C d_C_loudOnTheWay_15 (by decide) (fun h16 => ?_) (fun h16 => ?_)
      · replace hw := hw.1 h16
        refine g_iload_n (pc := 100) C d_C_loudOnTheWay_100 1 rfl rfl ?_
        exact g_iret (pc := 101) C q d_C_loudOnTheWay_101 (hq _ _ hw)
      · replace hw := hw.2 h16
        refine g_aload_n (pc := 18) C d_C_loudOnTheWay_18 0 rfl rfl ?_
        refine fC_at (pc := 19) C lk_C_30 d_C_loudOnTheWay_19 ?_
        refine g_iload_n (pc := 22) C d_C_loudOnTheWay_22 2 rfl rfl ?_
        obtain ⟨h1, hw⟩ := hw
        refine lC_at (pc := 23) C d_C_loudOnTheWay_23 (f := C_at c) rfl (N0 := x2.toNatClampNeg) rfl h1 ?_
        refine g_aload_n (pc := 24) C d_C_loudOnTheWay_24 0 rfl rfl ?_
        refine fC_bound (pc := 25) C lk_C_33 d_C_loudOnTheWay_25 ?_
        refine g_iload_n (pc := 28) C d_C_loudOnTheWay_28 2 rfl rfl ?_
        obtain ⟨h2, hw⟩ := hw
        refine lC_bound (pc := 29) C d_C_loudOnTheWay_29 (f := C_bound c) rfl (N0 := x2.toNatClampNeg) rfl h2 ?_
        refine g_mmin (pc := 30) C lk_C_107 ⟨Nat.le_of_ble_eq_true rfl, Nat.le_of_ble_eq_true rfl⟩ d_C_loudOnTheWay_30 (Nat.le_of_ble_eq_true rfl) ⟨Nat.le_of_ble_eq_true rfl, Nat.le_of_ble_eq_true rfl⟩ ?_
        refine g_istore_n (pc := 33) C d_C_loudOnTheWay_33 rfl (Nat.le_of_ble_eq_true rfl) (lv' := [(0, .ref (a 0)), (1, .int x1), (2, .int x2), (3, .int (if ((C_bound c) x2.toNatClampNeg) < ((C_at c) x2.toNatClampNeg) then ((C_bound c) x2.toNatClampNeg) else ((C_at c) x2.toNatClampNeg)))]) rfl ?_
        refine g_aload_n (pc := 34) C d_C_loudOnTheWay_34 0 rfl rfl ?_
        refine fC_at (pc := 35) C lk_C_30 d_C_loudOnTheWay_35 ?_
        refine g_iload_n (pc := 38) C d_C_loudOnTheWay_38 2 rfl rfl ?_
        obtain ⟨h3, hw⟩ := hw
        refine lC_at (pc := 39) C d_C_loudOnTheWay_39 (f := C_at c) rfl (N0 := x2.toNatClampNeg) rfl h3 ?_
        refine g_aload_n (pc := 40) C d_C_loudOnTheWay_40 0 rfl rfl ?_
        refine fC_bound (pc := 41) C lk_C_33 d_C_loudOnTheWay_41 ?_
        refine g_iload_n (pc := 44) C d_C_loudOnTheWay_44 2 rfl rfl ?_
        obtain ⟨h4, hw⟩ := hw
        refine lC_bound (pc := 45) C d_C_loudOnTheWay_45 (f := C_bound c) rfl (N0 := x2.toNatClampNeg) rfl h4 ?_
        refine g_mmax (pc := 46) C lk_C_116 ⟨Nat.le_of_ble_eq_true rfl, Nat.le_of_ble_eq_true rfl⟩ d_C_loudOnTheWay_46 (Nat.le_of_ble_eq_true rfl) ⟨Nat.le_of_ble_eq_true rfl, Nat.le_of_ble_eq_true rfl⟩ ?_
        refine g_istore (pc := 49) C d_C_loudOnTheWay_49 (Nat.le_of_ble_eq_true rfl) (lv' := [(0, .ref (a 0)), (1, .int x1), (2, .int x2), (3, .int (if ((C_bound c) x2.toNatClampNeg) < ((C_at c) x2.toNatClampNeg) then ((C_bound c) x2.toNatClampNeg) else ((C_at c) x2.toNatClampNeg))), (4, .int (if ((C_at c) x2.toNatClampNeg) < ((C_bound c) x2.toNatClampNeg) then ((C_bound c) x2.toNatClampNeg) else ((C_at c) x2.toNatClampNeg)))]) rfl ?_
        refine g_iload_n (pc := 51) C d_C_loudOnTheWay_51 3 rfl rfl ?_
        refine g_istore (pc := 52) C d_C_loudOnTheWay_52 (Nat.le_of_ble_eq_true rfl) (lv' := [(0, .ref (a 0)), (1, .int x1), (2, .int x2), (3, .int (if ((C_bound c) x2.toNatClampNeg) < ((C_at c) x2.toNatClampNeg) then ((C_bound c) x2.toNatClampNeg) else ((C_at c) x2.toNatClampNeg))), (4, .int (if ((C_at c) x2.toNatClampNeg) < ((C_bound c) x2.toNatClampNeg) then ((C_bound c) x2.toNatClampNeg) else ((C_at c) x2.toNatClampNeg))), (5, .int (if ((C_bound c) x2.toNatClampNeg) < ((C_at c) x2.toNatClampNeg) then ((C_bound c) x2.toNatClampNeg) else ((C_at c) x2.toNatClampNeg)))]) rfl ?_
        refine g_sub [0, 1, 2, 4, 5] (lv' := [(0, .ref (a 0)), (1, .int x1), (2, .int x2), (4, .int (if ((C_at c) x2.toNatClampNeg) < ((C_bound c) x2.toNatClampNeg) then ((C_bound c) x2.toNatClampNeg) else ((C_at c) x2.toNatClampNeg))), (5, .int (if ((C_bound c) x2.toNatClampNeg) < ((C_at c) x2.toNatClampNeg) then ((C_bound c) x2.toNatClampNeg) else ((C_at c) x2.toNatClampNeg)))]) rfl ?_
        exact j_C_loudOnTheWay_54 C q a post hq ih 2000 c x1 x2 (if ((C_at c) x2.toNatClampNeg) < ((C_bound c) x2.toNatClampNeg) then ((C_bound c) x2.toNatClampNeg) else ((C_at c) x2.toNatClampNeg)) (if ((C_bound c) x2.toNatClampNeg) < ((C_at c) x2.toNatClampNeg) then ((C_bound c) x2.toNatClampNeg) else ((C_at c) x2.toNatClampNeg)) hw
def wp_C_loudOnTheWay (c : CSt) (post : Int32 → CSt → Prop) : Prop :=
  w_C_loudOnTheWay_4  post  2000 c 0 0
set_option maxRecDepth 20000 in
theorem g_C_loudOnTheWay {X : GX} (C : GC X b_C_loudOnTheWay R_C 6 (rmd 2)) {Qp : Option Value → va_W → Prop} (q : RC X ((some .int)) Qp 0 0) (a : Nat → Nat) (c : CSt) (post : Int32 → CSt → Prop) (hq : ∀ v c1, post v c1 → Qp (some (.int v)) (woC (xt X) a c1)) (hw : wp_C_loudOnTheWay c post) : G X 0 0 (woC (xt X) a c) [(0, .ref (a 0))] [] 0 := by
  unfold wp_C_loudOnTheWay at hw
  refine g_iconst (pc := 0) C (v := 0) d_C_loudOnTheWay_0 (by decide) ?_
  refine g_istore_n (pc := 1) C d_C_loudOnTheWay_1 rfl (Nat.le_of_ble_eq_true rfl) (lv' := [(0, .ref (a 0)), (1, .int 0)]) rfl ?_
  refine g_iconst (pc := 2) C (v := 0) d_C_loudOnTheWay_2 (by decide) ?_
  refine g_istore_n (pc := 3) C d_C_loudOnTheWay_3 rfl (Nat.le_of_ble_eq_true rfl) (lv' := [(0, .ref (a 0)), (1, .int 0), (2, .int 0)]) rfl ?_
  exact j_C_loudOnTheWay_4 C q a post hq  2000 c 0 0 hw
set_option maxRecDepth 20000 in
theorem c_C_loudOnTheWay (l : Launch) (D : va_G) (t : Nat → ClassId) (ev : Nat → Nat) (a : Nat → Nat) (c : CSt) (post : Int32 → CSt → Prop) (hw : wp_C_loudOnTheWay c post) : Con l D t ev y_C_loudOnTheWay b_C_loudOnTheWay 6 ((some .int)) 2 (woC t a c) [.ref (a 0)] (qI (woC t a)  post) :=
  ConR.of (by decide +kernel) (Nat.le_of_ble_eq_true rfl) (fun X el eD et ee C q _ => by subst el; subst eD; subst et; subst ee; exact g_C_loudOnTheWay C q a c post (fun v c1 h => ⟨⟨v, c1, rfl, rfl, h⟩, rfl⟩) hw)
end
section
theorem d_JI_bitCount_0 : decode b_JI_bitCount 0 = .ok (.iload_n 0, 1) := by decide +kernel
theorem d_JI_bitCount_1 : decode b_JI_bitCount 1 = .ok (.iload_n 0, 1) := by decide +kernel
theorem d_JI_bitCount_2 : decode b_JI_bitCount 2 = .ok (.iconst 1, 1) := by decide +kernel
theorem d_JI_bitCount_3 : decode b_JI_bitCount 3 = .ok (.iushr, 1) := by decide +kernel
theorem d_JI_bitCount_4 : decode b_JI_bitCount 4 = .ok (.ldc_w 265, 3) := by decide +kernel
theorem d_JI_bitCount_7 : decode b_JI_bitCount 7 = .ok (.iand, 1) := by decide +kernel
theorem d_JI_bitCount_8 : decode b_JI_bitCount 8 = .ok (.isub, 1) := by decide +kernel
theorem d_JI_bitCount_9 : decode b_JI_bitCount 9 = .ok (.istore_n 0, 1) := by decide +kernel
theorem d_JI_bitCount_10 : decode b_JI_bitCount 10 = .ok (.iload_n 0, 1) := by decide +kernel
theorem d_JI_bitCount_11 : decode b_JI_bitCount 11 = .ok (.ldc_w 266, 3) := by decide +kernel
theorem d_JI_bitCount_14 : decode b_JI_bitCount 14 = .ok (.iand, 1) := by decide +kernel
theorem d_JI_bitCount_15 : decode b_JI_bitCount 15 = .ok (.iload_n 0, 1) := by decide +kernel
theorem d_JI_bitCount_16 : decode b_JI_bitCount 16 = .ok (.iconst 2, 1) := by decide +kernel
theorem d_JI_bitCount_17 : decode b_JI_bitCount 17 = .ok (.iushr, 1) := by decide +kernel
theorem d_JI_bitCount_18 : decode b_JI_bitCount 18 = .ok (.ldc_w 266, 3) := by decide +kernel
theorem d_JI_bitCount_21 : decode b_JI_bitCount 21 = .ok (.iand, 1) := by decide +kernel
theorem d_JI_bitCount_22 : decode b_JI_bitCount 22 = .ok (.iadd, 1) := by decide +kernel
theorem d_JI_bitCount_23 : decode b_JI_bitCount 23 = .ok (.istore_n 0, 1) := by decide +kernel
theorem d_JI_bitCount_24 : decode b_JI_bitCount 24 = .ok (.iload_n 0, 1) := by decide +kernel
theorem d_JI_bitCount_25 : decode b_JI_bitCount 25 = .ok (.iload_n 0, 1) := by decide +kernel
theorem d_JI_bitCount_26 : decode b_JI_bitCount 26 = .ok (.iconst 4, 1) := by decide +kernel
theorem d_JI_bitCount_27 : decode b_JI_bitCount 27 = .ok (.iushr, 1) := by decide +kernel
theorem d_JI_bitCount_28 : decode b_JI_bitCount 28 = .ok (.iadd, 1) := by decide +kernel
theorem d_JI_bitCount_29 : decode b_JI_bitCount 29 = .ok (.ldc_w 267, 3) := by decide +kernel
theorem d_JI_bitCount_32 : decode b_JI_bitCount 32 = .ok (.iand, 1) := by decide +kernel
theorem d_JI_bitCount_33 : decode b_JI_bitCount 33 = .ok (.istore_n 0, 1) := by decide +kernel
theorem d_JI_bitCount_34 : decode b_JI_bitCount 34 = .ok (.iload_n 0, 1) := by decide +kernel
theorem d_JI_bitCount_35 : decode b_JI_bitCount 35 = .ok (.iload_n 0, 1) := by decide +kernel
theorem d_JI_bitCount_36 : decode b_JI_bitCount 36 = .ok (.bipush 8, 2) := by decide +kernel
theorem d_JI_bitCount_38 : decode b_JI_bitCount 38 = .ok (.iushr, 1) := by decide +kernel
theorem d_JI_bitCount_39 : decode b_JI_bitCount 39 = .ok (.iadd, 1) := by decide +kernel
theorem d_JI_bitCount_40 : decode b_JI_bitCount 40 = .ok (.istore_n 0, 1) := by decide +kernel
theorem d_JI_bitCount_41 : decode b_JI_bitCount 41 = .ok (.iload_n 0, 1) := by decide +kernel
theorem d_JI_bitCount_42 : decode b_JI_bitCount 42 = .ok (.iload_n 0, 1) := by decide +kernel
theorem d_JI_bitCount_43 : decode b_JI_bitCount 43 = .ok (.bipush 16, 2) := by decide +kernel
theorem d_JI_bitCount_45 : decode b_JI_bitCount 45 = .ok (.iushr, 1) := by decide +kernel
theorem d_JI_bitCount_46 : decode b_JI_bitCount 46 = .ok (.iadd, 1) := by decide +kernel
theorem d_JI_bitCount_47 : decode b_JI_bitCount 47 = .ok (.istore_n 0, 1) := by decide +kernel
theorem d_JI_bitCount_48 : decode b_JI_bitCount 48 = .ok (.iload_n 0, 1) := by decide +kernel
theorem d_JI_bitCount_49 : decode b_JI_bitCount 49 = .ok (.bipush 63, 2) := by decide +kernel
theorem d_JI_bitCount_51 : decode b_JI_bitCount 51 = .ok (.iand, 1) := by decide +kernel
theorem d_JI_bitCount_52 : decode b_JI_bitCount 52 = .ok (.ireturn, 1) := by decide +kernel
theorem d_A_bodyOf_0 : decode b_A_bodyOf 0 = .ok (.aload_n 0, 1) := by decide +kernel
theorem d_A_bodyOf_1 : decode b_A_bodyOf 1 = .ok (.getfield 19, 3) := by decide +kernel
theorem d_A_bodyOf_4 : decode b_A_bodyOf 4 = .ok (.iconst 4, 1) := by decide +kernel
theorem d_A_bodyOf_5 : decode b_A_bodyOf 5 = .ok (.imul, 1) := by decide +kernel
theorem d_A_bodyOf_6 : decode b_A_bodyOf 6 = .ok (.iload_n 1, 1) := by decide +kernel
theorem d_A_bodyOf_7 : decode b_A_bodyOf 7 = .ok (.iadd, 1) := by decide +kernel
theorem d_A_bodyOf_8 : decode b_A_bodyOf 8 = .ok (.istore_n 2, 1) := by decide +kernel
theorem d_A_bodyOf_9 : decode b_A_bodyOf 9 = .ok (.iload_n 2, 1) := by decide +kernel
theorem d_A_bodyOf_10 : decode b_A_bodyOf 10 = .ok (.ifCond .lt 19, 3) := by decide +kernel
theorem d_A_bodyOf_13 : decode b_A_bodyOf 13 = .ok (.iload_n 2, 1) := by decide +kernel
theorem d_A_bodyOf_14 : decode b_A_bodyOf 14 = .ok (.getstatic 40, 3) := by decide +kernel
theorem d_A_bodyOf_17 : decode b_A_bodyOf 17 = .ok (.arraylength, 1) := by decide +kernel
theorem d_A_bodyOf_18 : decode b_A_bodyOf 18 = .ok (.if_icmp .ge 11, 3) := by decide +kernel
theorem d_A_bodyOf_21 : decode b_A_bodyOf 21 = .ok (.getstatic 40, 3) := by decide +kernel
theorem d_A_bodyOf_24 : decode b_A_bodyOf 24 = .ok (.iload_n 2, 1) := by decide +kernel
theorem d_A_bodyOf_25 : decode b_A_bodyOf 25 = .ok (.iaload, 1) := by decide +kernel
theorem d_A_bodyOf_26 : decode b_A_bodyOf 26 = .ok (.goto 4, 3) := by decide +kernel
theorem d_A_bodyOf_29 : decode b_A_bodyOf 29 = .ok (.iconst 0, 1) := by decide +kernel
theorem d_A_bodyOf_30 : decode b_A_bodyOf 30 = .ok (.ireturn, 1) := by decide +kernel
theorem d_A_partedBy_0 : decode b_A_partedBy 0 = .ok (.iload_n 2, 1) := by decide +kernel
theorem d_A_partedBy_1 : decode b_A_partedBy 1 = .ok (.ifCond .ne 10, 3) := by decide +kernel
theorem d_A_partedBy_4 : decode b_A_partedBy 4 = .ok (.aload_n 0, 1) := by decide +kernel
theorem d_A_partedBy_5 : decode b_A_partedBy 5 = .ok (.iconst 1, 1) := by decide +kernel
theorem d_A_partedBy_6 : decode b_A_partedBy 6 = .ok (.putfield 28, 3) := by decide +kernel
theorem d_A_partedBy_9 : decode b_A_partedBy 9 = .ok (.iconst 0, 1) := by decide +kernel
theorem d_A_partedBy_10 : decode b_A_partedBy 10 = .ok (.ireturn, 1) := by decide +kernel
theorem d_A_partedBy_11 : decode b_A_partedBy 11 = .ok (.iload_n 1, 1) := by decide +kernel
theorem d_A_partedBy_12 : decode b_A_partedBy 12 = .ok (.iload_n 2, 1) := by decide +kernel
theorem d_A_partedBy_13 : decode b_A_partedBy 13 = .ok (.idiv, 1) := by decide +kernel
theorem d_A_partedBy_14 : decode b_A_partedBy 14 = .ok (.ireturn, 1) := by decide +kernel
theorem d_A_run_0 : decode b_A_run 0 = .ok (.iload_n 3, 1) := by decide +kernel
theorem d_A_run_1 : decode b_A_run 1 = .ok (.bipush 30, 2) := by decide +kernel
theorem d_A_run_3 : decode b_A_run 3 = .ok (.if_icmp .gt 10, 3) := by decide +kernel
theorem d_A_run_6 : decode b_A_run 6 = .ok (.aload_n 0, 1) := by decide +kernel
theorem d_A_run_7 : decode b_A_run 7 = .ok (.getfield 28, 3) := by decide +kernel
theorem d_A_run_10 : decode b_A_run 10 = .ok (.ifCond .eq 5, 3) := by decide +kernel
theorem d_A_run_13 : decode b_A_run 13 = .ok (.iconst 0, 1) := by decide +kernel
theorem d_A_run_14 : decode b_A_run 14 = .ok (.ireturn, 1) := by decide +kernel
theorem d_A_run_15 : decode b_A_run 15 = .ok (.aload_n 0, 1) := by decide +kernel
theorem d_A_run_16 : decode b_A_run 16 = .ok (.getfield 15, 3) := by decide +kernel
theorem d_A_run_19 : decode b_A_run 19 = .ok (.bipush 30, 2) := by decide +kernel
theorem d_A_run_21 : decode b_A_run 21 = .ok (.if_icmp .ge 23, 3) := by decide +kernel
theorem d_A_run_24 : decode b_A_run 24 = .ok (.aload_n 0, 1) := by decide +kernel
theorem d_A_run_25 : decode b_A_run 25 = .ok (.getfield 9, 3) := by decide +kernel
theorem d_A_run_28 : decode b_A_run 28 = .ok (.aload_n 0, 1) := by decide +kernel
theorem d_A_run_29 : decode b_A_run 29 = .ok (.getfield 15, 3) := by decide +kernel
theorem d_A_run_32 : decode b_A_run 32 = .ok (.iload_n 1, 1) := by decide +kernel
theorem d_A_run_33 : decode b_A_run 33 = .ok (.iastore, 1) := by decide +kernel
theorem d_A_run_34 : decode b_A_run 34 = .ok (.aload_n 0, 1) := by decide +kernel
theorem d_A_run_35 : decode b_A_run 35 = .ok (.dup, 1) := by decide +kernel
theorem d_A_run_36 : decode b_A_run 36 = .ok (.getfield 15, 3) := by decide +kernel
theorem d_A_run_39 : decode b_A_run 39 = .ok (.iconst 1, 1) := by decide +kernel
theorem d_A_run_40 : decode b_A_run 40 = .ok (.iadd, 1) := by decide +kernel
theorem d_A_run_41 : decode b_A_run 41 = .ok (.putfield 15, 3) := by decide +kernel
theorem d_A_run_44 : decode b_A_run 44 = .ok (.iload_n 3, 1) := by decide +kernel
theorem d_A_run_45 : decode b_A_run 45 = .ok (.iconst 1, 1) := by decide +kernel
theorem d_A_run_46 : decode b_A_run 46 = .ok (.iadd, 1) := by decide +kernel
theorem d_A_run_47 : decode b_A_run 47 = .ok (.istore 4, 2) := by decide +kernel
theorem d_A_run_49 : decode b_A_run 49 = .ok (.iload_n 1, 1) := by decide +kernel
theorem d_A_run_50 : decode b_A_run 50 = .ok (.tableswitch 442 10 61 #[222, 231, 251, 266, 442, 442, 442, 442, 442, 442, 283, 442, 442, 442, 442, 442, 442, 442, 442, 442, 295, 307, 442, 442, 442, 442, 442, 442, 442, 442, 333, 345, 442, 442, 442, 442, 442, 442, 442, 442, 371, 391, 442, 442, 442, 442, 442, 442, 442, 442, 404, 416], 222) := by decide +kernel
theorem d_A_run_272 : decode b_A_run 272 = .ok (.iload_n 2, 1) := by decide +kernel
theorem d_A_run_273 : decode b_A_run 273 = .ok (.iconst 3, 1) := by decide +kernel
theorem d_A_run_274 : decode b_A_run 274 = .ok (.imul, 1) := by decide +kernel
theorem d_A_run_275 : decode b_A_run 275 = .ok (.aload_n 0, 1) := by decide +kernel
theorem d_A_run_276 : decode b_A_run 276 = .ok (.getfield 22, 3) := by decide +kernel
theorem d_A_run_279 : decode b_A_run 279 = .ok (.iadd, 1) := by decide +kernel
theorem d_A_run_280 : decode b_A_run 280 = .ok (.ireturn, 1) := by decide +kernel
theorem d_A_run_281 : decode b_A_run 281 = .ok (.aload_n 0, 1) := by decide +kernel
theorem d_A_run_282 : decode b_A_run 282 = .ok (.aload_n 0, 1) := by decide +kernel
theorem d_A_run_283 : decode b_A_run 283 = .ok (.iconst 0, 1) := by decide +kernel
theorem d_A_run_284 : decode b_A_run 284 = .ok (.invokevirtual 32, 3) := by decide +kernel
theorem d_A_run_287 : decode b_A_run 287 = .ok (.iload_n 2, 1) := by decide +kernel
theorem d_A_run_288 : decode b_A_run 288 = .ok (.iload 4, 2) := by decide +kernel
theorem d_A_run_290 : decode b_A_run 290 = .ok (.invokevirtual 36, 3) := by decide +kernel
theorem d_A_run_293 : decode b_A_run 293 = .ok (.aload_n 0, 1) := by decide +kernel
theorem d_A_run_294 : decode b_A_run 294 = .ok (.getfield 25, 3) := by decide +kernel
theorem d_A_run_297 : decode b_A_run 297 = .ok (.iconst 2, 1) := by decide +kernel
theorem d_A_run_298 : decode b_A_run 298 = .ok (.imul, 1) := by decide +kernel
theorem d_A_run_299 : decode b_A_run 299 = .ok (.isub, 1) := by decide +kernel
theorem d_A_run_300 : decode b_A_run 300 = .ok (.ireturn, 1) := by decide +kernel
theorem d_A_run_301 : decode b_A_run 301 = .ok (.aload_n 0, 1) := by decide +kernel
theorem d_A_run_302 : decode b_A_run 302 = .ok (.iload_n 2, 1) := by decide +kernel
theorem d_A_run_303 : decode b_A_run 303 = .ok (.aload_n 0, 1) := by decide +kernel
theorem d_A_run_304 : decode b_A_run 304 = .ok (.getfield 25, 3) := by decide +kernel
theorem d_A_run_307 : decode b_A_run 307 = .ok (.aload_n 0, 1) := by decide +kernel
theorem d_A_run_308 : decode b_A_run 308 = .ok (.getfield 22, 3) := by decide +kernel
theorem d_A_run_311 : decode b_A_run 311 = .ok (.isub, 1) := by decide +kernel
theorem d_A_run_312 : decode b_A_run 312 = .ok (.invokevirtual 43, 3) := by decide +kernel
theorem d_A_run_315 : decode b_A_run 315 = .ok (.ireturn, 1) := by decide +kernel
theorem d_A_run_316 : decode b_A_run 316 = .ok (.aload_n 0, 1) := by decide +kernel
theorem d_A_run_317 : decode b_A_run 317 = .ok (.aload_n 0, 1) := by decide +kernel
theorem d_A_run_318 : decode b_A_run 318 = .ok (.iconst 1, 1) := by decide +kernel
theorem d_A_run_319 : decode b_A_run 319 = .ok (.invokevirtual 32, 3) := by decide +kernel
theorem d_A_run_322 : decode b_A_run 322 = .ok (.iload_n 2, 1) := by decide +kernel
theorem d_A_run_323 : decode b_A_run 323 = .ok (.iload 4, 2) := by decide +kernel
theorem d_A_run_325 : decode b_A_run 325 = .ok (.invokevirtual 36, 3) := by decide +kernel
theorem d_A_run_328 : decode b_A_run 328 = .ok (.sipush 170, 3) := by decide +kernel
theorem d_A_run_331 : decode b_A_run 331 = .ok (.ixor, 1) := by decide +kernel
theorem d_A_run_332 : decode b_A_run 332 = .ok (.ireturn, 1) := by decide +kernel
theorem d_A_run_333 : decode b_A_run 333 = .ok (.iconst 0, 1) := by decide +kernel
theorem d_A_run_334 : decode b_A_run 334 = .ok (.aload_n 0, 1) := by decide +kernel
theorem d_A_run_335 : decode b_A_run 335 = .ok (.bipush 11, 2) := by decide +kernel
theorem d_A_run_337 : decode b_A_run 337 = .ok (.iload_n 2, 1) := by decide +kernel
theorem d_A_run_338 : decode b_A_run 338 = .ok (.iload 4, 2) := by decide +kernel
theorem d_A_run_340 : decode b_A_run 340 = .ok (.invokevirtual 36, 3) := by decide +kernel
theorem d_A_run_343 : decode b_A_run 343 = .ok (.isub, 1) := by decide +kernel
theorem d_A_run_344 : decode b_A_run 344 = .ok (.ireturn, 1) := by decide +kernel
theorem d_A_run_345 : decode b_A_run 345 = .ok (.aload_n 0, 1) := by decide +kernel
theorem d_A_run_346 : decode b_A_run 346 = .ok (.bipush 10, 2) := by decide +kernel
theorem d_A_run_348 : decode b_A_run 348 = .ok (.iload_n 2, 1) := by decide +kernel
theorem d_A_run_349 : decode b_A_run 349 = .ok (.iload 4, 2) := by decide +kernel
theorem d_A_run_351 : decode b_A_run 351 = .ok (.invokevirtual 36, 3) := by decide +kernel
theorem d_A_run_354 : decode b_A_run 354 = .ok (.iconst 4, 1) := by decide +kernel
theorem d_A_run_355 : decode b_A_run 355 = .ok (.iadd, 1) := by decide +kernel
theorem d_A_run_356 : decode b_A_run 356 = .ok (.ireturn, 1) := by decide +kernel
theorem d_A_run_357 : decode b_A_run 357 = .ok (.aload_n 0, 1) := by decide +kernel
theorem d_A_run_358 : decode b_A_run 358 = .ok (.bipush 13, 2) := by decide +kernel
theorem d_A_run_360 : decode b_A_run 360 = .ok (.iload_n 2, 1) := by decide +kernel
theorem d_A_run_361 : decode b_A_run 361 = .ok (.iload 4, 2) := by decide +kernel
theorem d_A_run_363 : decode b_A_run 363 = .ok (.invokevirtual 36, 3) := by decide +kernel
theorem d_A_run_366 : decode b_A_run 366 = .ok (.aload_n 0, 1) := by decide +kernel
theorem d_A_run_367 : decode b_A_run 367 = .ok (.aload_n 0, 1) := by decide +kernel
theorem d_A_run_368 : decode b_A_run 368 = .ok (.iconst 2, 1) := by decide +kernel
theorem d_A_run_369 : decode b_A_run 369 = .ok (.invokevirtual 32, 3) := by decide +kernel
theorem d_A_run_372 : decode b_A_run 372 = .ok (.aload_n 0, 1) := by decide +kernel
theorem d_A_run_373 : decode b_A_run 373 = .ok (.getfield 22, 3) := by decide +kernel
theorem d_A_run_376 : decode b_A_run 376 = .ok (.iload 4, 2) := by decide +kernel
theorem d_A_run_378 : decode b_A_run 378 = .ok (.invokevirtual 36, 3) := by decide +kernel
theorem d_A_run_381 : decode b_A_run 381 = .ok (.isub, 1) := by decide +kernel
theorem d_A_run_382 : decode b_A_run 382 = .ok (.ireturn, 1) := by decide +kernel
theorem d_A_run_383 : decode b_A_run 383 = .ok (.aload_n 0, 1) := by decide +kernel
theorem d_A_run_384 : decode b_A_run 384 = .ok (.bipush 30, 2) := by decide +kernel
theorem d_A_run_386 : decode b_A_run 386 = .ok (.iload_n 2, 1) := by decide +kernel
theorem d_A_run_387 : decode b_A_run 387 = .ok (.iload 4, 2) := by decide +kernel
theorem d_A_run_389 : decode b_A_run 389 = .ok (.invokevirtual 36, 3) := by decide +kernel
theorem d_A_run_392 : decode b_A_run 392 = .ok (.iconst 2, 1) := by decide +kernel
theorem d_A_run_393 : decode b_A_run 393 = .ok (.imul, 1) := by decide +kernel
theorem d_A_run_394 : decode b_A_run 394 = .ok (.ireturn, 1) := by decide +kernel
theorem d_A_run_395 : decode b_A_run 395 = .ok (.aload_n 0, 1) := by decide +kernel
theorem d_A_run_396 : decode b_A_run 396 = .ok (.bipush 11, 2) := by decide +kernel
theorem d_A_run_398 : decode b_A_run 398 = .ok (.iload_n 2, 1) := by decide +kernel
theorem d_A_run_399 : decode b_A_run 399 = .ok (.iload 4, 2) := by decide +kernel
theorem d_A_run_401 : decode b_A_run 401 = .ok (.invokevirtual 36, 3) := by decide +kernel
theorem d_A_run_404 : decode b_A_run 404 = .ok (.aload_n 0, 1) := by decide +kernel
theorem d_A_run_405 : decode b_A_run 405 = .ok (.aload_n 0, 1) := by decide +kernel
theorem d_A_run_406 : decode b_A_run 406 = .ok (.iconst 0, 1) := by decide +kernel
theorem d_A_run_407 : decode b_A_run 407 = .ok (.invokevirtual 32, 3) := by decide +kernel
theorem d_A_run_410 : decode b_A_run 410 = .ok (.aload_n 0, 1) := by decide +kernel
theorem d_A_run_411 : decode b_A_run 411 = .ok (.getfield 25, 3) := by decide +kernel
theorem d_A_run_414 : decode b_A_run 414 = .ok (.iload 4, 2) := by decide +kernel
theorem d_A_run_416 : decode b_A_run 416 = .ok (.invokevirtual 36, 3) := by decide +kernel
theorem d_A_run_419 : decode b_A_run 419 = .ok (.iadd, 1) := by decide +kernel
theorem d_A_run_420 : decode b_A_run 420 = .ok (.ireturn, 1) := by decide +kernel
theorem d_A_run_421 : decode b_A_run 421 = .ok (.aload_n 0, 1) := by decide +kernel
theorem d_A_run_422 : decode b_A_run 422 = .ok (.bipush 12, 2) := by decide +kernel
theorem d_A_run_424 : decode b_A_run 424 = .ok (.iload_n 2, 1) := by decide +kernel
theorem d_A_run_425 : decode b_A_run 425 = .ok (.aload_n 0, 1) := by decide +kernel
theorem d_A_run_426 : decode b_A_run 426 = .ok (.getfield 25, 3) := by decide +kernel
theorem d_A_run_429 : decode b_A_run 429 = .ok (.iadd, 1) := by decide +kernel
theorem d_A_run_430 : decode b_A_run 430 = .ok (.iload 4, 2) := by decide +kernel
theorem d_A_run_432 : decode b_A_run 432 = .ok (.invokevirtual 36, 3) := by decide +kernel
theorem d_A_run_435 : decode b_A_run 435 = .ok (.aload_n 0, 1) := by decide +kernel
theorem d_A_run_436 : decode b_A_run 436 = .ok (.getfield 22, 3) := by decide +kernel
theorem d_A_run_439 : decode b_A_run 439 = .ok (.ixor, 1) := by decide +kernel
theorem d_A_run_440 : decode b_A_run 440 = .ok (.ireturn, 1) := by decide +kernel
theorem d_A_run_441 : decode b_A_run 441 = .ok (.aload_n 0, 1) := by decide +kernel
theorem d_A_run_442 : decode b_A_run 442 = .ok (.bipush 10, 2) := by decide +kernel
theorem d_A_run_444 : decode b_A_run 444 = .ok (.iload_n 2, 1) := by decide +kernel
theorem d_A_run_445 : decode b_A_run 445 = .ok (.iload 4, 2) := by decide +kernel
theorem d_A_run_447 : decode b_A_run 447 = .ok (.invokevirtual 36, 3) := by decide +kernel
theorem d_A_run_450 : decode b_A_run 450 = .ok (.bipush 7, 2) := by decide +kernel
theorem d_A_run_452 : decode b_A_run 452 = .ok (.isub, 1) := by decide +kernel
theorem d_A_run_453 : decode b_A_run 453 = .ok (.ireturn, 1) := by decide +kernel
theorem d_A_run_454 : decode b_A_run 454 = .ok (.aload_n 0, 1) := by decide +kernel
theorem d_A_run_455 : decode b_A_run 455 = .ok (.bipush 13, 2) := by decide +kernel
theorem d_A_run_457 : decode b_A_run 457 = .ok (.iload_n 2, 1) := by decide +kernel
theorem d_A_run_458 : decode b_A_run 458 = .ok (.iload 4, 2) := by decide +kernel
theorem d_A_run_460 : decode b_A_run 460 = .ok (.invokevirtual 36, 3) := by decide +kernel
theorem d_A_run_463 : decode b_A_run 463 = .ok (.iconst 5, 1) := by decide +kernel
theorem d_A_run_464 : decode b_A_run 464 = .ok (.imul, 1) := by decide +kernel
theorem d_A_run_465 : decode b_A_run 465 = .ok (.ireturn, 1) := by decide +kernel
theorem d_A_run_466 : decode b_A_run 466 = .ok (.aload_n 0, 1) := by decide +kernel
theorem d_A_run_467 : decode b_A_run 467 = .ok (.bipush 12, 2) := by decide +kernel
theorem d_A_run_469 : decode b_A_run 469 = .ok (.iload_n 2, 1) := by decide +kernel
theorem d_A_run_470 : decode b_A_run 470 = .ok (.iload 4, 2) := by decide +kernel
theorem d_A_run_472 : decode b_A_run 472 = .ok (.invokevirtual 36, 3) := by decide +kernel
theorem d_A_run_475 : decode b_A_run 475 = .ok (.aload_n 0, 1) := by decide +kernel
theorem d_A_run_476 : decode b_A_run 476 = .ok (.aload_n 0, 1) := by decide +kernel
theorem d_A_run_477 : decode b_A_run 477 = .ok (.iconst 0, 1) := by decide +kernel
theorem d_A_run_478 : decode b_A_run 478 = .ok (.invokevirtual 32, 3) := by decide +kernel
theorem d_A_run_481 : decode b_A_run 481 = .ok (.aload_n 0, 1) := by decide +kernel
theorem d_A_run_482 : decode b_A_run 482 = .ok (.getfield 22, 3) := by decide +kernel
theorem d_A_run_485 : decode b_A_run 485 = .ok (.iload 4, 2) := by decide +kernel
theorem d_A_run_487 : decode b_A_run 487 = .ok (.invokevirtual 36, 3) := by decide +kernel
theorem d_A_run_490 : decode b_A_run 490 = .ok (.isub, 1) := by decide +kernel
theorem d_A_run_491 : decode b_A_run 491 = .ok (.ireturn, 1) := by decide +kernel
theorem d_A_run_492 : decode b_A_run 492 = .ok (.iconst 0, 1) := by decide +kernel
theorem d_A_run_493 : decode b_A_run 493 = .ok (.ireturn, 1) := by decide +kernel
theorem d_A_perform_0 : decode b_A_perform 0 = .ok (.aload_n 0, 1) := by decide +kernel
theorem d_A_perform_1 : decode b_A_perform 1 = .ok (.iconst 0, 1) := by decide +kernel
theorem d_A_perform_2 : decode b_A_perform 2 = .ok (.putfield 15, 3) := by decide +kernel
theorem d_A_perform_5 : decode b_A_perform 5 = .ok (.aload_n 0, 1) := by decide +kernel
theorem d_A_perform_6 : decode b_A_perform 6 = .ok (.iconst 0, 1) := by decide +kernel
theorem d_A_perform_7 : decode b_A_perform 7 = .ok (.putfield 28, 3) := by decide +kernel
theorem d_A_perform_10 : decode b_A_perform 10 = .ok (.aload_n 0, 1) := by decide +kernel
theorem d_A_perform_11 : decode b_A_perform 11 = .ok (.iload_n 2, 1) := by decide +kernel
theorem d_A_perform_12 : decode b_A_perform 12 = .ok (.putfield 19, 3) := by decide +kernel
theorem d_A_perform_15 : decode b_A_perform 15 = .ok (.aload_n 0, 1) := by decide +kernel
theorem d_A_perform_16 : decode b_A_perform 16 = .ok (.iload_n 3, 1) := by decide +kernel
theorem d_A_perform_17 : decode b_A_perform 17 = .ok (.putfield 22, 3) := by decide +kernel
theorem d_A_perform_20 : decode b_A_perform 20 = .ok (.aload_n 0, 1) := by decide +kernel
theorem d_A_perform_21 : decode b_A_perform 21 = .ok (.iload 4, 2) := by decide +kernel
theorem d_A_perform_23 : decode b_A_perform 23 = .ok (.putfield 25, 3) := by decide +kernel
theorem d_A_perform_26 : decode b_A_perform 26 = .ok (.aload_n 0, 1) := by decide +kernel
theorem d_A_perform_27 : decode b_A_perform 27 = .ok (.aload_n 0, 1) := by decide +kernel
theorem d_A_perform_28 : decode b_A_perform 28 = .ok (.iload_n 1, 1) := by decide +kernel
theorem d_A_perform_29 : decode b_A_perform 29 = .ok (.invokevirtual 32, 3) := by decide +kernel
theorem d_A_perform_32 : decode b_A_perform 32 = .ok (.iload 5, 2) := by decide +kernel
theorem d_A_perform_34 : decode b_A_perform 34 = .ok (.iconst 0, 1) := by decide +kernel
theorem d_A_perform_35 : decode b_A_perform 35 = .ok (.invokevirtual 36, 3) := by decide +kernel
theorem d_A_perform_38 : decode b_A_perform 38 = .ok (.istore 6, 2) := by decide +kernel
theorem d_A_perform_40 : decode b_A_perform 40 = .ok (.aload_n 0, 1) := by decide +kernel
theorem d_A_perform_41 : decode b_A_perform 41 = .ok (.getfield 28, 3) := by decide +kernel
theorem d_A_perform_44 : decode b_A_perform 44 = .ok (.ifCond .eq 8, 3) := by decide +kernel
theorem d_A_perform_47 : decode b_A_perform 47 = .ok (.bipush (-15), 2) := by decide +kernel
theorem d_A_perform_49 : decode b_A_perform 49 = .ok (.goto 5, 3) := by decide +kernel
theorem d_A_perform_52 : decode b_A_perform 52 = .ok (.iload 6, 2) := by decide +kernel
theorem d_A_perform_54 : decode b_A_perform 54 = .ok (.ireturn, 1) := by decide +kernel
theorem d_S_clearTo_0 : decode b_S_clearTo 0 = .ok (.aload_n 0, 1) := by decide +kernel
theorem d_S_clearTo_1 : decode b_S_clearTo 1 = .ok (.getfield 9, 3) := by decide +kernel
theorem d_S_clearTo_4 : decode b_S_clearTo 4 = .ok (.iconst 0, 1) := by decide +kernel
theorem d_S_clearTo_5 : decode b_S_clearTo 5 = .ok (.invokestatic 22, 3) := by decide +kernel
theorem d_S_clearTo_8 : decode b_S_clearTo 8 = .ok (.aload_n 0, 1) := by decide +kernel
theorem d_S_clearTo_9 : decode b_S_clearTo 9 = .ok (.iload_n 1, 1) := by decide +kernel
theorem d_S_clearTo_10 : decode b_S_clearTo 10 = .ok (.putfield 15, 3) := by decide +kernel
theorem d_S_clearTo_13 : decode b_S_clearTo 13 = .ok (.aload_n 0, 1) := by decide +kernel
theorem d_S_clearTo_14 : decode b_S_clearTo 14 = .ok (.iload_n 2, 1) := by decide +kernel
theorem d_S_clearTo_15 : decode b_S_clearTo 15 = .ok (.putfield 19, 3) := by decide +kernel
theorem d_S_clearTo_18 : decode b_S_clearTo 18 = .ok (.return_, 1) := by decide +kernel
theorem d_S_hasItem_0 : decode b_S_hasItem 0 = .ok (.iload_n 1, 1) := by decide +kernel
theorem d_S_hasItem_1 : decode b_S_hasItem 1 = .ok (.ifCond .lt 21, 3) := by decide +kernel
theorem d_S_hasItem_4 : decode b_S_hasItem 4 = .ok (.iload_n 1, 1) := by decide +kernel
theorem d_S_hasItem_5 : decode b_S_hasItem 5 = .ok (.aload_n 0, 1) := by decide +kernel
theorem d_S_hasItem_6 : decode b_S_hasItem 6 = .ok (.getfield 19, 3) := by decide +kernel
theorem d_S_hasItem_9 : decode b_S_hasItem 9 = .ok (.if_icmp .ge 13, 3) := by decide +kernel
theorem d_S_hasItem_12 : decode b_S_hasItem 12 = .ok (.iload_n 1, 1) := by decide +kernel
theorem d_S_hasItem_13 : decode b_S_hasItem 13 = .ok (.bipush 40, 2) := by decide +kernel
theorem d_S_hasItem_15 : decode b_S_hasItem 15 = .ok (.if_icmp .ge 7, 3) := by decide +kernel
theorem d_S_hasItem_18 : decode b_S_hasItem 18 = .ok (.iconst 1, 1) := by decide +kernel
theorem d_S_hasItem_19 : decode b_S_hasItem 19 = .ok (.goto 4, 3) := by decide +kernel
theorem d_S_hasItem_22 : decode b_S_hasItem 22 = .ok (.iconst 0, 1) := by decide +kernel
theorem d_S_hasItem_23 : decode b_S_hasItem 23 = .ok (.ireturn, 1) := by decide +kernel
theorem d_S_narrowed_0 : decode b_S_narrowed 0 = .ok (.aload_n 0, 1) := by decide +kernel
theorem d_S_narrowed_1 : decode b_S_narrowed 1 = .ok (.getfield 15, 3) := by decide +kernel
theorem d_S_narrowed_4 : decode b_S_narrowed 4 = .ok (.lookupswitch 34 #[(0, 28), (1, 31)], 28) := by decide +kernel
theorem d_S_narrowed_32 : decode b_S_narrowed 32 = .ok (.iload_n 1, 1) := by decide +kernel
theorem d_S_narrowed_33 : decode b_S_narrowed 33 = .ok (.i2b, 1) := by decide +kernel
theorem d_S_narrowed_34 : decode b_S_narrowed 34 = .ok (.ireturn, 1) := by decide +kernel
theorem d_S_narrowed_35 : decode b_S_narrowed 35 = .ok (.iload_n 1, 1) := by decide +kernel
theorem d_S_narrowed_36 : decode b_S_narrowed 36 = .ok (.i2s, 1) := by decide +kernel
theorem d_S_narrowed_37 : decode b_S_narrowed 37 = .ok (.ireturn, 1) := by decide +kernel
theorem d_S_narrowed_38 : decode b_S_narrowed 38 = .ok (.iload_n 1, 1) := by decide +kernel
theorem d_S_narrowed_39 : decode b_S_narrowed 39 = .ok (.ireturn, 1) := by decide +kernel
theorem d_H_clear_0 : decode b_H_clear 0 = .ok (.aload_n 0, 1) := by decide +kernel
theorem d_H_clear_1 : decode b_H_clear 1 = .ok (.iconst 2, 1) := by decide +kernel
theorem d_H_clear_2 : decode b_H_clear 2 = .ok (.putfield 9, 3) := by decide +kernel
theorem d_H_clear_5 : decode b_H_clear 5 = .ok (.return_, 1) := by decide +kernel
theorem d_H_holdBarge_0 : decode b_H_holdBarge 0 = .ok (.aload_n 0, 1) := by decide +kernel
theorem d_H_holdBarge_1 : decode b_H_holdBarge 1 = .ok (.iconst 0, 1) := by decide +kernel
theorem d_H_holdBarge_2 : decode b_H_holdBarge 2 = .ok (.putfield 9, 3) := by decide +kernel
theorem d_H_holdBarge_5 : decode b_H_holdBarge 5 = .ok (.aload_n 0, 1) := by decide +kernel
theorem d_H_holdBarge_6 : decode b_H_holdBarge 6 = .ok (.iload_n 1, 1) := by decide +kernel
theorem d_H_holdBarge_7 : decode b_H_holdBarge 7 = .ok (.putfield 15, 3) := by decide +kernel
theorem d_H_holdBarge_10 : decode b_H_holdBarge 10 = .ok (.return_, 1) := by decide +kernel
theorem d_H_holdRow_0 : decode b_H_holdRow 0 = .ok (.aload_n 0, 1) := by decide +kernel
theorem d_H_holdRow_1 : decode b_H_holdRow 1 = .ok (.iload_n 1, 1) := by decide +kernel
theorem d_H_holdRow_2 : decode b_H_holdRow 2 = .ok (.iconst (-1), 1) := by decide +kernel
theorem d_H_holdRow_3 : decode b_H_holdRow 3 = .ok (.if_icmp .ne 7, 3) := by decide +kernel
theorem d_H_holdRow_6 : decode b_H_holdRow 6 = .ok (.iconst 2, 1) := by decide +kernel
theorem d_H_holdRow_7 : decode b_H_holdRow 7 = .ok (.goto 4, 3) := by decide +kernel
theorem d_H_holdRow_10 : decode b_H_holdRow 10 = .ok (.iconst 1, 1) := by decide +kernel
theorem d_H_holdRow_11 : decode b_H_holdRow 11 = .ok (.putfield 9, 3) := by decide +kernel
theorem d_H_holdRow_14 : decode b_H_holdRow 14 = .ok (.aload_n 0, 1) := by decide +kernel
theorem d_H_holdRow_15 : decode b_H_holdRow 15 = .ok (.iload_n 1, 1) := by decide +kernel
theorem d_H_holdRow_16 : decode b_H_holdRow 16 = .ok (.putfield 18, 3) := by decide +kernel
theorem d_H_holdRow_19 : decode b_H_holdRow 19 = .ok (.aload_n 0, 1) := by decide +kernel
theorem d_H_holdRow_20 : decode b_H_holdRow 20 = .ok (.iload_n 2, 1) := by decide +kernel
theorem d_H_holdRow_21 : decode b_H_holdRow 21 = .ok (.putfield 21, 3) := by decide +kernel
theorem d_H_holdRow_24 : decode b_H_holdRow 24 = .ok (.return_, 1) := by decide +kernel
end
section
def wp_JI_bitCount (x0 : Int32) (post : Int32 → Prop) : Prop :=
  ∀ y1 : Int32, y1 = (x0.toUInt32 >>> ((1 : Int32).toUInt32 &&& Int32.toUInt32 31)).toInt32 → (∀ y2 : Int32, y2 = x0 - (y1 &&& 1431655765) → (∀ y3 : Int32, y3 = y2 &&& 858993459 → (∀ y4 : Int32, y4 = (y2.toUInt32 >>> ((2 : Int32).toUInt32 &&& Int32.toUInt32 31)).toInt32 → (∀ y5 : Int32, y5 = y3 + (y4 &&& 858993459) → (∀ y6 : Int32, y6 = y5 + ((y5.toUInt32 >>> ((4 : Int32).toUInt32 &&& Int32.toUInt32 31)).toInt32) → (∀ y7 : Int32, y7 = y6 &&& 252645135 → (∀ y8 : Int32, y8 = y7 + ((y7.toUInt32 >>> ((8 : Int32).toUInt32 &&& Int32.toUInt32 31)).toInt32) → (∀ y9 : Int32, y9 = y8 + ((y8.toUInt32 >>> ((16 : Int32).toUInt32 &&& Int32.toUInt32 31)).toInt32) → (post (y9 &&& 63) )))))))))
set_option maxRecDepth 20000 in
theorem g_JI_bitCount {X : GX} (C : GC X b_JI_bitCount R_JI 1 (rmd 0)) {Qp : Option Value → va_W → Prop} (q : RC X ((some .int)) Qp 0 0) (x0 : Int32) (post : Int32 → Prop) (hq : ∀ v, post v → Qp (some (.int v)) []) (hw : wp_JI_bitCount x0 post) : G X 0 0 ([]) [(0, .int x0)] [] 0 := by
  unfold wp_JI_bitCount at hw
  refine g_iload_n (pc := 0) C d_JI_bitCount_0 0 rfl rfl ?_
  refine g_iload_n (pc := 1) C d_JI_bitCount_1 0 rfl rfl ?_
  refine g_iconst (pc := 2) C (v := 1) d_JI_bitCount_2 (by decide) ?_
  refine g_iushr (pc := 3) C d_JI_bitCount_3 ?_
  refine g_topi (fun y1 ey1 => ?_)
  replace hw := hw y1 ey1
  refine g_ldc_w (pc := 4) C (v := 1431655765) d_JI_bitCount_4 lk_JI_265 ?_
  refine g_iand (pc := 7) C d_JI_bitCount_7 ?_
  refine g_isub (pc := 8) C d_JI_bitCount_8 ?_
  refine g_topi (fun y2 ey2 => ?_)
  replace hw := hw y2 ey2
  refine g_istore_n (pc := 9) C d_JI_bitCount_9 rfl (Nat.le_of_ble_eq_true rfl) (lv' := [(0, .int y2)]) rfl ?_
  refine g_iload_n (pc := 10) C d_JI_bitCount_10 0 rfl rfl ?_
  refine g_ldc_w (pc := 11) C (v := 858993459) d_JI_bitCount_11 lk_JI_266 ?_
  refine g_iand (pc := 14) C d_JI_bitCount_14 ?_
  refine g_topi (fun y3 ey3 => ?_)
  replace hw := hw y3 ey3
  refine g_iload_n (pc := 15) C d_JI_bitCount_15 0 rfl rfl ?_
  refine g_iconst (pc := 16) C (v := 2) d_JI_bitCount_16 (by decide) ?_
  refine g_iushr (pc := 17) C d_JI_bitCount_17 ?_
  refine g_topi (fun y4 ey4 => ?_)
  replace hw := hw y4 ey4
  refine g_ldc_w (pc := 18) C (v := 858993459) d_JI_bitCount_18 lk_JI_266 ?_
  refine g_iand (pc := 21) C d_JI_bitCount_21 ?_
  refine g_iadd (pc := 22) C d_JI_bitCount_22 ?_
  refine g_topi (fun y5 ey5 => ?_)
  replace hw := hw y5 ey5
  refine g_istore_n (pc := 23) C d_JI_bitCount_23 rfl (Nat.le_of_ble_eq_true rfl) (lv' := [(0, .int y5)]) rfl ?_
  refine g_iload_n (pc := 24) C d_JI_bitCount_24 0 rfl rfl ?_
  refine g_iload_n (pc := 25) C d_JI_bitCount_25 0 rfl rfl ?_
  refine g_iconst (pc := 26) C (v := 4) d_JI_bitCount_26 (by decide) ?_
  refine g_iushr (pc := 27) C d_JI_bitCount_27 ?_
  refine g_iadd (pc := 28) C d_JI_bitCount_28 ?_
  refine g_topi (fun y6 ey6 => ?_)
  replace hw := hw y6 ey6
  refine g_ldc_w (pc := 29) C (v := 252645135) d_JI_bitCount_29 lk_JI_267 ?_
  refine g_iand (pc := 32) C d_JI_bitCount_32 ?_
  refine g_topi (fun y7 ey7 => ?_)
  replace hw := hw y7 ey7
  refine g_istore_n (pc := 33) C d_JI_bitCount_33 rfl (Nat.le_of_ble_eq_true rfl) (lv' := [(0, .int y7)]) rfl ?_
  refine g_iload_n (pc := 34) C d_JI_bitCount_34 0 rfl rfl ?_
  refine g_iload_n (pc := 35) C d_JI_bitCount_35 0 rfl rfl ?_
  refine g_bipush (pc := 36) C (v := 8) d_JI_bitCount_36 (by decide) ?_
  refine g_iushr (pc := 38) C d_JI_bitCount_38 ?_
  refine g_iadd (pc := 39) C d_JI_bitCount_39 ?_
  refine g_topi (fun y8 ey8 => ?_)
  replace hw := hw y8 ey8
  refine g_istore_n (pc := 40) C d_JI_bitCount_40 rfl (Nat.le_of_ble_eq_true rfl) (lv' := [(0, .int y8)]) rfl ?_
  refine g_iload_n (pc := 41) C d_JI_bitCount_41 0 rfl rfl ?_
  refine g_iload_n (pc := 42) C d_JI_bitCount_42 0 rfl rfl ?_
  refine g_bipush (pc := 43) C (v := 16) d_JI_bitCount_43 (by decide) ?_
  refine g_iushr (pc := 45) C d_JI_bitCount_45 ?_
  refine g_iadd (pc := 46) C d_JI_bitCount_46 ?_
  refine g_topi (fun y9 ey9 => ?_)
  replace hw := hw y9 ey9
  refine g_istore_n (pc := 47) C d_JI_bitCount_47 rfl (Nat.le_of_ble_eq_true rfl) (lv' := [(0, .int y9)]) rfl ?_
  refine g_iload_n (pc := 48) C d_JI_bitCount_48 0 rfl rfl ?_
  refine g_bipush (pc := 49) C (v := 63) d_JI_bitCount_49 (by decide) ?_
  refine g_iand (pc := 51) C d_JI_bitCount_51 ?_
  exact g_iret (pc := 52) C q d_JI_bitCount_52 (hq _ hw)
set_option maxRecDepth 20000 in
theorem c_JI_bitCount (l : Launch) (D : va_G) (t : Nat → ClassId) (ev : Nat → Nat) (x0 : Int32) (post : Int32 → Prop) (hw : wp_JI_bitCount x0 post) : Con l D t ev y_JI_bitCount b_JI_bitCount 1 ((some .int)) 0 ([]) [.int x0] (qI (fun _ : Unit => [])  (fun v _ => post v)) :=
  ConR.of (by decide +kernel) (Nat.le_of_ble_eq_true rfl) (fun X el eD et ee C q _ => by subst el; subst eD; subst et; subst ee; exact g_JI_bitCount C q x0 post (fun v h => ⟨⟨v, (), rfl, rfl, h⟩, rfl⟩) hw)
def wp_A_bodyOf (c : ASt) (x1 : Int32) (post : Int32 → ASt → Prop) : Prop :=
  ∀ y1 : Int32, y1 = (A_kind c) * 4 → (∀ y2 : Int32, y2 = y1 + x1 → (((y2 < 0) → (post 0 c)) ∧ ((¬ y2 < 0) → (((24 ≤ y2) → (post 0 c)) ∧ ((¬ 24 ≤ y2) → (vp_in y2 24 ∧ (post (tbBodies.getD y2.toNatClampNeg 0) c)))))))
set_option maxRecDepth 20000 in
theorem g_A_bodyOf {X : GX} (C : GC X b_A_bodyOf R_A 3 (rmd 0)) {Qp : Option Value → va_W → Prop} (q : RC X ((some .int)) Qp 0 0) (a : Nat → Nat) (c : ASt) (x1 : Int32) (post : Int32 → ASt → Prop) (hq : ∀ v c1, post v c1 → Qp (some (.int v)) (woA (xt X) a c1)) (hw : wp_A_bodyOf c x1 post) : G X 0 0 (woA (xt X) a c) [(0, .ref (a 0)), (1, .int x1)] [] 0 := by
  unfold wp_A_bodyOf at hw
  refine g_aload_n (pc := 0) C d_A_bodyOf_0 0 rfl rfl ?_
  refine fA_kind (pc := 1) C lk_A_19 d_A_bodyOf_1 (v := A_kind c) rfl ?_
  refine g_iconst (pc := 4) C (v := 4) d_A_bodyOf_4 (by decide) ?_
  refine g_imul (pc := 5) C d_A_bodyOf_5 ?_
  refine g_topi (fun y1 ey1 => ?_)
  replace hw := hw y1 ey1
  refine g_iload_n (pc := 6) C d_A_bodyOf_6 1 rfl rfl ?_
  refine g_iadd (pc := 7) C d_A_bodyOf_7 ?_
  refine g_topi (fun y2 ey2 => ?_)
  replace hw := hw y2 ey2
  refine g_istore_n (pc := 8) C d_A_bodyOf_8 rfl (Nat.le_of_ble_eq_true rfl) (lv' := [(0, .ref (a 0)), (1, .int x1), (2, .int y2)]) rfl ?_
  refine g_iload_n (pc := 9) C d_A_bodyOf_9 2 rfl rfl ?_
  refine g_if_lt (pc := 10) (tgt := 29) C d_A_bodyOf_10 (by decide) (fun h5 => ?_) (fun h5 => ?_)
  · replace hw := hw.1 h5
    refine g_iconst (pc := 29) C (v := 0) d_A_bodyOf_29 (by decide) ?_
    exact g_iret (pc := 30) C q d_A_bodyOf_30 (hq _ _ hw)
  · replace hw := hw.2 h5
    refine g_iload_n (pc := 13) C d_A_bodyOf_13 2 rfl rfl ?_
    refine g_getsN (pc := 14) C C.2.2.2.2.2.2.2.1.2.2.2.1 lk_A_40 d_A_bodyOf_14 ?_
    refine g_tlen (pc := 17) C C.2.2.2.2.2.2.2.1.2.2.2.1 (v := 24) d_A_bodyOf_17 (by decide) ?_
    refine g_icmp_ge (pc := 18) (tgt := 29) C d_A_bodyOf_18 (by decide) (fun h4 => ?_) (fun h4 => ?_)
    · replace hw := hw.1 h4
      refine g_iconst (pc := 29) C (v := 0) d_A_bodyOf_29 (by decide) ?_
      exact g_iret (pc := 30) C q d_A_bodyOf_30 (hq _ _ hw)
    · replace hw := hw.2 h4
      refine g_getsN (pc := 21) C C.2.2.2.2.2.2.2.1.2.2.2.1 lk_A_40 d_A_bodyOf_21 ?_
      refine g_iload_n (pc := 24) C d_A_bodyOf_24 2 rfl rfl ?_
      obtain ⟨h3, hw⟩ := hw
      refine g_tload (pc := 25) C C.2.2.2.2.2.2.2.1.2.2.2.1 d_A_bodyOf_25 h3 ?_
      refine g_goto (pc := 26) (tgt := 30) C d_A_bodyOf_26 (by decide) ?_
      exact g_iret (pc := 30) C q d_A_bodyOf_30 (hq _ _ hw)
set_option maxRecDepth 20000 in
theorem c_A_bodyOf (l : Launch) (D : va_G) (t : Nat → ClassId) (ev : Nat → Nat) (a : Nat → Nat) (c : ASt) (x1 : Int32) (post : Int32 → ASt → Prop) (hw : wp_A_bodyOf c x1 post) : Con l D t ev y_A_bodyOf b_A_bodyOf 3 ((some .int)) 0 (woA t a c) [.ref (a 0), .int x1] (qI (woA t a)  post) :=
  ConR.of (by decide +kernel) (Nat.le_of_ble_eq_true rfl) (fun X el eD et ee C q _ => by subst el; subst eD; subst et; subst ee; exact g_A_bodyOf C q a c x1 post (fun v c1 h => ⟨⟨v, c1, rfl, rfl, h⟩, rfl⟩) hw)
def wp_A_partedBy (c : ASt) (x1 : Int32) (x2 : Int32) (post : Int32 → ASt → Prop) : Prop :=
  ((x2 = 0) → (post 0 (A_isParted_ c 1))) ∧ ((¬ x2 = 0) → (¬ x2 = 0 ∧ (post (x1 / x2) c)))
set_option maxRecDepth 20000 in
theorem g_A_partedBy {X : GX} (C : GC X b_A_partedBy R_A 3 (rmd 0)) {Qp : Option Value → va_W → Prop} (q : RC X ((some .int)) Qp 0 0) (a : Nat → Nat) (c : ASt) (x1 : Int32) (x2 : Int32) (post : Int32 → ASt → Prop) (hq : ∀ v c1, post v c1 → Qp (some (.int v)) (woA (xt X) a c1)) (hw : wp_A_partedBy c x1 x2 post) : G X 0 0 (woA (xt X) a c) [(0, .ref (a 0)), (1, .int x1), (2, .int x2)] [] 0 := by
  unfold wp_A_partedBy at hw
  refine g_iload_n (pc := 0) C d_A_partedBy_0 2 rfl rfl ?_
  refine g_if_ne (pc := 1) (tgt := 11) C d_A_partedBy_1 (by decide) (fun h2 => ?_) (fun h2 => ?_)
  · replace hw := hw.2 h2
    refine g_iload_n (pc := 11) C d_A_partedBy_11 1 rfl rfl ?_
    refine g_iload_n (pc := 12) C d_A_partedBy_12 2 rfl rfl ?_
    obtain ⟨h1, hw⟩ := hw
    refine g_idiv (pc := 13) C d_A_partedBy_13 h1 ?_
    exact g_iret (pc := 14) C q d_A_partedBy_14 (hq _ _ hw)
  · replace hw := hw.1 h2
    refine g_aload_n (pc := 4) C d_A_partedBy_4 0 rfl rfl ?_
    refine g_iconst (pc := 5) C (v := 1) d_A_partedBy_5 (by decide) ?_
    refine pA_isParted (pc := 6) C lk_A_28 d_A_partedBy_6 (by decide) (by decide) ?_
    refine g_iconst (pc := 9) C (v := 0) d_A_partedBy_9 (by decide) ?_
    exact g_iret (pc := 10) C q d_A_partedBy_10 (hq _ _ hw)
set_option maxRecDepth 20000 in
theorem c_A_partedBy (l : Launch) (D : va_G) (t : Nat → ClassId) (ev : Nat → Nat) (a : Nat → Nat) (c : ASt) (x1 : Int32) (x2 : Int32) (post : Int32 → ASt → Prop) (hw : wp_A_partedBy c x1 x2 post) : Con l D t ev y_A_partedBy b_A_partedBy 3 ((some .int)) 0 (woA t a c) [.ref (a 0), .int x1, .int x2] (qI (woA t a)  post) :=
  ConR.of (by decide +kernel) (Nat.le_of_ble_eq_true rfl) (fun X el eD et ee C q _ => by subst el; subst eD; subst et; subst ee; exact g_A_partedBy C q a c x1 x2 post (fun v c1 h => ⟨⟨v, c1, rfl, rfl, h⟩, rfl⟩) hw)
def w_A_run_44 (rc : ASt → Int32 → Int32 → Int32 → (Int32 → ASt → Prop) → Prop)  (post : Int32 → ASt → Prop)  (c : ASt) (x1 : Int32) (x2 : Int32) (x3 : Int32) : Prop :=
  ∀ y1 : Int32, y1 = x3 + 1 → (((x1 = 10) → (∀ y2 : Int32, y2 = x2 * 3 → (post (y2 + (A_n c)) c))) ∧ ((¬ x1 = 10) → (((x1 = 11) → (wp_A_bodyOf c 0 (fun v3 c_4 => rc c_4 v3 x2 y1 (fun v5 c_6 => post (v5 - ((A_a c_6) * 2)) c_6)))) ∧ ((¬ x1 = 11) → (((x1 = 12) → (∀ y7 : Int32, y7 = (A_a c) - (A_n c) → (wp_A_partedBy c x2 y7 (fun v8 c_9 => post v8 c_9)))) ∧ ((¬ x1 = 12) → (((x1 = 13) → (wp_A_bodyOf c 1 (fun v10 c_11 => rc c_11 v10 x2 y1 (fun v12 c_13 => post (v12 ^^^ 170) c_13)))) ∧ ((¬ x1 = 13) → (((x1 = 20) → (rc c 11 x2 y1 (fun v14 c_15 => post (0 - v14) c_15))) ∧ ((¬ x1 = 20) → (((x1 = 30) → (rc c 10 x2 y1 (fun v16 c_17 => post (v16 + 4) c_17))) ∧ ((¬ x1 = 30) → (((x1 = 31) → (rc c 13 x2 y1 (fun v18 c_19 => wp_A_bodyOf c_19 2 (fun v20 c_21 => rc c_21 v20 (A_n c_21) y1 (fun v22 c_23 => post (v18 - v22) c_23))))) ∧ ((¬ x1 = 31) → (((x1 = 40) → (rc c 30 x2 y1 (fun v24 c_25 => post (v24 * 2) c_25))) ∧ ((¬ x1 = 40) → (((x1 = 41) → (rc c 11 x2 y1 (fun v26 c_27 => wp_A_bodyOf c_27 0 (fun v28 c_29 => rc c_29 v28 (A_a c_29) y1 (fun v30 c_31 => post (v26 + v30) c_31))))) ∧ ((¬ x1 = 41) → (((x1 = 50) → (∀ y32 : Int32, y32 = x2 + (A_a c) → (rc c 12 y32 y1 (fun v33 c_34 => post (v33 ^^^ (A_n c_34)) c_34)))) ∧ ((¬ x1 = 50) → (((x1 = 51) → (rc c 10 x2 y1 (fun v35 c_36 => post (v35 - 7) c_36))) ∧ ((¬ x1 = 51) → (((x1 = 60) → (rc c 13 x2 y1 (fun v37 c_38 => post (v37 * 5) c_38))) ∧ ((¬ x1 = 60) → (((x1 = 61) → (rc c 12 x2 y1 (fun v39 c_40 => wp_A_bodyOf c_40 0 (fun v41 c_42 => rc c_42 v41 (A_n c_42) y1 (fun v43 c_44 => post (v39 - v43) c_44))))) ∧ ((¬ x1 = 61) → (post 0 c)))))))))))))))))))))))))))
set_option maxRecDepth 20000 in
theorem j_A_run_44 {X : GX} (e0 : Nat) (he0 : 1 ≤ e0) (C : GC X b_A_run R_A 5 (rmd (e0 + 1))) {Qp : Option Value → va_W → Prop} (q : RC X ((some .int)) Qp 0 0) (a : Nat → Nat) (rc : ASt → Int32 → Int32 → Int32 → (Int32 → ASt → Prop) → Prop)  (hrc : ∀ (c : ASt) (x1 : Int32) (x2 : Int32) (x3 : Int32) (post : Int32 → ASt → Prop), rc c x1 x2 x3 post → Con (xl X) (xD X) (xt X) (xv X) y_A_run b_A_run 5 ((some .int)) e0 (woA (xt X) a c) [.ref (a 0), .int x1, .int x2, .int x3] (qI (woA (xt X) a) post)) (post : Int32 → ASt → Prop) (hq : ∀ v c1, post v c1 → Qp (some (.int v)) (woA (xt X) a c1)) : ∀ (c : ASt) (x1 : Int32) (x2 : Int32) (x3 : Int32), w_A_run_44 rc post  c x1 x2 x3 → G X 0 0 (woA (xt X) a c) [(0, .ref (a 0)), (1, .int x1), (2, .int x2), (3, .int x3)] [] 44 := by
  intro c x1 x2 x3 hw
  unfold w_A_run_44 at hw
  refine g_iload_n (pc := 44) C d_A_run_44 3 rfl rfl ?_
  refine g_iconst (pc := 45) C (v := 1) d_A_run_45 (by decide) ?_
  refine g_iadd (pc := 46) C d_A_run_46 ?_
  refine g_topi (fun y1 ey1 => ?_)
  replace hw := hw y1 ey1
  refine g_istore (pc := 47) C d_A_run_47 (Nat.le_of_ble_eq_true rfl) (lv' := [(0, .ref (a 0)), (1, .int x1), (2, .int x2), (3, .int x3), (4, .int y1)]) rfl ?_
  refine g_iload_n (pc := 49) C d_A_run_49 1 rfl rfl ?_
  by_cases h45 : x1 = 10
  · replace hw := hw.1 h45
    refine g_tabIn (pc := 50) (tgt := 272) C d_A_run_50 (by rw [h45]; decide) (by rw [h45]; decide) (off := 222) (by rw [h45]; rfl) (by decide) ?_
    refine g_iload_n (pc := 272) C d_A_run_272 2 rfl rfl ?_
    refine g_iconst (pc := 273) C (v := 3) d_A_run_273 (by decide) ?_
    refine g_imul (pc := 274) C d_A_run_274 ?_
    refine g_topi (fun y2 ey2 => ?_)
    replace hw := hw y2 ey2
    refine g_aload_n (pc := 275) C d_A_run_275 0 rfl rfl ?_
    refine fA_n (pc := 276) C lk_A_22 d_A_run_276 (v := A_n c) rfl ?_
    refine g_iadd (pc := 279) C d_A_run_279 ?_
    exact g_iret (pc := 280) C q d_A_run_280 (hq _ _ hw)
  · replace hw := hw.2 h45
    by_cases h46 : x1 = 11
    · replace hw := hw.1 h46
      refine g_tabIn (pc := 50) (tgt := 281) C d_A_run_50 (by rw [h46]; decide) (by rw [h46]; decide) (off := 231) (by rw [h46]; rfl) (by decide) ?_
      refine g_aload_n (pc := 281) C d_A_run_281 0 rfl rfl ?_
      refine g_aload_n (pc := 282) C d_A_run_282 0 rfl rfl ?_
      refine g_iconst (pc := 283) C (v := 0) d_A_run_283 (by decide) ?_
      refine k_Ia (pc := 284) (co_V C (c_A_bodyOf (xl X) (xD X) (xt X) (xv X) a c 0 _ hw) mw_A_bodyOf lk_A_32 d_A_run_284 (List.range _) (all_C _) (all_nd _) (rec_w C 0 0 rfl rfl) rfl rfl (rm_o (by omega) (by decide)) ⟨Nat.le_of_ble_eq_true rfl, Nat.le_of_ble_eq_true rfl⟩ (rest := [.ref (a 0)]) rfl rfl (Nat.le_of_ble_eq_true rfl)) (fun v3 c_4 hw => ?_)
      refine g_iload_n (pc := 287) C d_A_run_287 2 rfl rfl ?_
      refine g_iload (pc := 288) C d_A_run_288 4 rfl ?_
      refine k_Ia (pc := 290) (co_V C (hrc c_4 v3 x2 y1 _ hw) mw_A_run lk_A_36 d_A_run_290 (List.range _) (all_C _) (all_nd _) (rec_w C 0 0 rfl rfl) rfl rfl (rm_s e0 (by decide)) ⟨Nat.le_of_ble_eq_true rfl, Nat.le_of_ble_eq_true rfl⟩ (rest := []) rfl rfl (Nat.le_of_ble_eq_true rfl)) (fun v5 c_6 hw => ?_)
      refine g_aload_n (pc := 293) C d_A_run_293 0 rfl rfl ?_
      refine fA_a (pc := 294) C lk_A_25 d_A_run_294 (v := A_a c_6) rfl ?_
      refine g_iconst (pc := 297) C (v := 2) d_A_run_297 (by decide) ?_
      refine g_imul (pc := 298) C d_A_run_298 ?_
      refine g_isub (pc := 299) C d_A_run_299 ?_
      exact g_iret (pc := 300) C q d_A_run_300 (hq _ _ hw)
    · replace hw := hw.2 h46
      by_cases h47 : x1 = 12
      · replace hw := hw.1 h47
        refine g_tabIn (pc := 50) (tgt := 301) C d_A_run_50 (by rw [h47]; decide) (by rw [h47]; decide) (off := 251) (by rw [h47]; rfl) (by decide) ?_
        refine g_aload_n (pc := 301) C d_A_run_301 0 rfl rfl ?_
        refine g_iload_n (pc := 302) C d_A_run_302 2 rfl rfl ?_
        refine g_aload_n (pc := 303) C d_A_run_303 0 rfl rfl ?_
        refine fA_a (pc := 304) C lk_A_25 d_A_run_304 (v := A_a c) rfl ?_
        refine g_aload_n (pc := 307) C d_A_run_307 0 rfl rfl ?_
        refine fA_n (pc := 308) C lk_A_22 d_A_run_308 (v := A_n c) rfl ?_
        refine g_isub (pc := 311) C d_A_run_311 ?_
        refine g_topi (fun y7 ey7 => ?_)
        replace hw := hw y7 ey7
        refine k_Ia (pc := 312) (co_V C (c_A_partedBy (xl X) (xD X) (xt X) (xv X) a c x2 y7 _ hw) mw_A_partedBy lk_A_43 d_A_run_312 (List.range _) (all_C _) (all_nd _) (rec_w C 0 0 rfl rfl) rfl rfl (rm_o (by omega) (by decide)) ⟨Nat.le_of_ble_eq_true rfl, Nat.le_of_ble_eq_true rfl⟩ (rest := []) rfl rfl (Nat.le_of_ble_eq_true rfl)) (fun v8 c_9 hw => ?_)
        exact g_iret (pc := 315) C q d_A_run_315 (hq _ _ hw)
      · replace hw := hw.2 h47
        by_cases h48 : x1 = 13
        · replace hw := hw.1 h48
          refine g_tabIn (pc := 50) (tgt := 316) C d_A_run_50 (by rw [h48]; decide) (by rw [h48]; decide) (off := 266) (by rw [h48]; rfl) (by decide) ?_
          refine g_aload_n (pc := 316) C d_A_run_316 0 rfl rfl ?_
          refine g_aload_n (pc := 317) C d_A_run_317 0 rfl rfl ?_
          refine g_iconst (pc := 318) C (v := 1) d_A_run_318 (by decide) ?_
          refine k_Ia (pc := 319) (co_V C (c_A_bodyOf (xl X) (xD X) (xt X) (xv X) a c 1 _ hw) mw_A_bodyOf lk_A_32 d_A_run_319 (List.range _) (all_C _) (all_nd _) (rec_w C 0 0 rfl rfl) rfl rfl (rm_o (by omega) (by decide)) ⟨Nat.le_of_ble_eq_true rfl, Nat.le_of_ble_eq_true rfl⟩ (rest := [.ref (a 0)]) rfl rfl (Nat.le_of_ble_eq_true rfl)) (fun v10 c_11 hw => ?_)
          refine g_iload_n (pc := 322) C d_A_run_322 2 rfl rfl ?_
          refine g_iload (pc := 323) C d_A_run_323 4 rfl ?_
          refine k_Ia (pc := 325) (co_V C (hrc c_11 v10 x2 y1 _ hw) mw_A_run lk_A_36 d_A_run_325 (List.range _) (all_C _) (all_nd _) (rec_w C 0 0 rfl rfl) rfl rfl (rm_s e0 (by decide)) ⟨Nat.le_of_ble_eq_true rfl, Nat.le_of_ble_eq_true rfl⟩ (rest := []) rfl rfl (Nat.le_of_ble_eq_true rfl)) (fun v12 c_13 hw => ?_)
          refine g_sipush (pc := 328) C (v := 170) d_A_run_328 (by decide) ?_
          refine g_ixor (pc := 331) C d_A_run_331 ?_
          exact g_iret (pc := 332) C q d_A_run_332 (hq _ _ hw)
        · replace hw := hw.2 h48
          by_cases h49 : x1 = 20
          · replace hw := hw.1 h49
            refine g_tabIn (pc := 50) (tgt := 333) C d_A_run_50 (by rw [h49]; decide) (by rw [h49]; decide) (off := 283) (by rw [h49]; rfl) (by decide) ?_
            refine g_iconst (pc := 333) C (v := 0) d_A_run_333 (by decide) ?_
            refine g_aload_n (pc := 334) C d_A_run_334 0 rfl rfl ?_
            refine g_bipush (pc := 335) C (v := 11) d_A_run_335 (by decide) ?_
            refine g_iload_n (pc := 337) C d_A_run_337 2 rfl rfl ?_
            refine g_iload (pc := 338) C d_A_run_338 4 rfl ?_
            refine k_Ia (pc := 340) (co_V C (hrc c 11 x2 y1 _ hw) mw_A_run lk_A_36 d_A_run_340 (List.range _) (all_C _) (all_nd _) (rec_w C 0 0 rfl rfl) rfl rfl (rm_s e0 (by decide)) ⟨Nat.le_of_ble_eq_true rfl, Nat.le_of_ble_eq_true rfl⟩ (rest := [.int 0]) rfl rfl (Nat.le_of_ble_eq_true rfl)) (fun v14 c_15 hw => ?_)
            refine g_isub (pc := 343) C d_A_run_343 ?_
            exact g_iret (pc := 344) C q d_A_run_344 (hq _ _ hw)
          · replace hw := hw.2 h49
            by_cases h50 : x1 = 30
            · replace hw := hw.1 h50
              refine g_tabIn (pc := 50) (tgt := 345) C d_A_run_50 (by rw [h50]; decide) (by rw [h50]; decide) (off := 295) (by rw [h50]; rfl) (by decide) ?_
              refine g_aload_n (pc := 345) C d_A_run_345 0 rfl rfl ?_
              refine g_bipush (pc := 346) C (v := 10) d_A_run_346 (by decide) ?_
              refine g_iload_n (pc := 348) C d_A_run_348 2 rfl rfl ?_
              refine g_iload (pc := 349) C d_A_run_349 4 rfl ?_
              refine k_Ia (pc := 351) (co_V C (hrc c 10 x2 y1 _ hw) mw_A_run lk_A_36 d_A_run_351 (List.range _) (all_C _) (all_nd _) (rec_w C 0 0 rfl rfl) rfl rfl (rm_s e0 (by decide)) ⟨Nat.le_of_ble_eq_true rfl, Nat.le_of_ble_eq_true rfl⟩ (rest := []) rfl rfl (Nat.le_of_ble_eq_true rfl)) (fun v16 c_17 hw => ?_)
              refine g_iconst (pc := 354) C (v := 4) d_A_run_354 (by decide) ?_
              refine g_iadd (pc := 355) C d_A_run_355 ?_
              exact g_iret (pc := 356) C q d_A_run_356 (hq _ _ hw)
            · replace hw := hw.2 h50
              by_cases h51 : x1 = 31
              · replace hw := hw.1 h51
                refine g_tabIn (pc := 50) (tgt := 357) C d_A_run_50 (by rw [h51]; decide) (by rw [h51]; decide) (off := 307) (by rw [h51]; rfl) (by decide) ?_
                refine g_aload_n (pc := 357) C d_A_run_357 0 rfl rfl ?_
                refine g_bipush (pc := 358) C (v := 13) d_A_run_358 (by decide) ?_
                refine g_iload_n (pc := 360) C d_A_run_360 2 rfl rfl ?_
                refine g_iload (pc := 361) C d_A_run_361 4 rfl ?_
                refine k_Ia (pc := 363) (co_V C (hrc c 13 x2 y1 _ hw) mw_A_run lk_A_36 d_A_run_363 (List.range _) (all_C _) (all_nd _) (rec_w C 0 0 rfl rfl) rfl rfl (rm_s e0 (by decide)) ⟨Nat.le_of_ble_eq_true rfl, Nat.le_of_ble_eq_true rfl⟩ (rest := []) rfl rfl (Nat.le_of_ble_eq_true rfl)) (fun v18 c_19 hw => ?_)
                refine g_aload_n (pc := 366) C d_A_run_366 0 rfl rfl ?_
                refine g_aload_n (pc := 367) C d_A_run_367 0 rfl rfl ?_
                refine g_iconst (pc := 368) C (v := 2) d_A_run_368 (by decide) ?_
                refine k_Ia (pc := 369) (co_V C (c_A_bodyOf (xl X) (xD X) (xt X) (xv X) a c_19 2 _ hw) mw_A_bodyOf lk_A_32 d_A_run_369 (List.range _) (all_C _) (all_nd _) (rec_w C 0 0 rfl rfl) rfl rfl (rm_o (by omega) (by decide)) ⟨Nat.le_of_ble_eq_true rfl, Nat.le_of_ble_eq_true rfl⟩ (rest := [.ref (a 0), .int v18]) rfl rfl (Nat.le_of_ble_eq_true rfl)) (fun v20 c_21 hw => ?_)
                refine g_aload_n (pc := 372) C d_A_run_372 0 rfl rfl ?_
                refine fA_n (pc := 373) C lk_A_22 d_A_run_373 (v := A_n c_21) rfl ?_
                refine g_iload (pc := 376) C d_A_run_376 4 rfl ?_
                refine k_Ia (pc := 378) (co_V C (hrc c_21 v20 (A_n c_21) y1 _ hw) mw_A_run lk_A_36 d_A_run_378 (List.range _) (all_C _) (all_nd _) (rec_w C 0 0 rfl rfl) rfl rfl (rm_s e0 (by decide)) ⟨Nat.le_of_ble_eq_true rfl, Nat.le_of_ble_eq_true rfl⟩ (rest := [.int v18]) rfl rfl (Nat.le_of_ble_eq_true rfl)) (fun v22 c_23 hw => ?_)
                refine g_isub (pc := 381) C d_A_run_381 ?_
                exact g_iret (pc := 382) C q d_A_run_382 (hq _ _ hw)
              · replace hw := hw.2 h51
                by_cases h52 : x1 = 40
                · replace hw := hw.1 h52
                  refine g_tabIn (pc := 50) (tgt := 383) C d_A_run_50 (by rw [h52]; decide) (by rw [h52]; decide) (off := 333) (by rw [h52]; rfl) (by decide) ?_
                  refine g_aload_n (pc := 383) C d_A_run_383 0 rfl rfl ?_
                  refine g_bipush (pc := 384) C (v := 30) d_A_run_384 (by decide) ?_
                  refine g_iload_n (pc := 386) C d_A_run_386 2 rfl rfl ?_
                  refine g_iload (pc := 387) C d_A_run_387 4 rfl ?_
                  refine k_Ia (pc := 389) (co_V C (hrc c 30 x2 y1 _ hw) mw_A_run lk_A_36 d_A_run_389 (List.range _) (all_C _) (all_nd _) (rec_w C 0 0 rfl rfl) rfl rfl (rm_s e0 (by decide)) ⟨Nat.le_of_ble_eq_true rfl, Nat.le_of_ble_eq_true rfl⟩ (rest := []) rfl rfl (Nat.le_of_ble_eq_true rfl)) (fun v24 c_25 hw => ?_)
                  refine g_iconst (pc := 392) C (v := 2) d_A_run_392 (by decide) ?_
                  refine g_imul (pc := 393) C d_A_run_393 ?_
                  exact g_iret (pc := 394) C q d_A_run_394 (hq _ _ hw)
                · replace hw := hw.2 h52
                  by_cases h53 : x1 = 41
                  · replace hw := hw.1 h53
                    refine g_tabIn (pc := 50) (tgt := 395) C d_A_run_50 (by rw [h53]; decide) (by rw [h53]; decide) (off := 345) (by rw [h53]; rfl) (by decide) ?_
                    refine g_aload_n (pc := 395) C d_A_run_395 0 rfl rfl ?_
                    refine g_bipush (pc := 396) C (v := 11) d_A_run_396 (by decide) ?_
                    refine g_iload_n (pc := 398) C d_A_run_398 2 rfl rfl ?_
                    refine g_iload (pc := 399) C d_A_run_399 4 rfl ?_
                    refine k_Ia (pc := 401) (co_V C (hrc c 11 x2 y1 _ hw) mw_A_run lk_A_36 d_A_run_401 (List.range _) (all_C _) (all_nd _) (rec_w C 0 0 rfl rfl) rfl rfl (rm_s e0 (by decide)) ⟨Nat.le_of_ble_eq_true rfl, Nat.le_of_ble_eq_true rfl⟩ (rest := []) rfl rfl (Nat.le_of_ble_eq_true rfl)) (fun v26 c_27 hw => ?_)
                    refine g_aload_n (pc := 404) C d_A_run_404 0 rfl rfl ?_
                    refine g_aload_n (pc := 405) C d_A_run_405 0 rfl rfl ?_
                    refine g_iconst (pc := 406) C (v := 0) d_A_run_406 (by decide) ?_
                    refine k_Ia (pc := 407) (co_V C (c_A_bodyOf (xl X) (xD X) (xt X) (xv X) a c_27 0 _ hw) mw_A_bodyOf lk_A_32 d_A_run_407 (List.range _) (all_C _) (all_nd _) (rec_w C 0 0 rfl rfl) rfl rfl (rm_o (by omega) (by decide)) ⟨Nat.le_of_ble_eq_true rfl, Nat.le_of_ble_eq_true rfl⟩ (rest := [.ref (a 0), .int v26]) rfl rfl (Nat.le_of_ble_eq_true rfl)) (fun v28 c_29 hw => ?_)
                    refine g_aload_n (pc := 410) C d_A_run_410 0 rfl rfl ?_
                    refine fA_a (pc := 411) C lk_A_25 d_A_run_411 (v := A_a c_29) rfl ?_
                    refine g_iload (pc := 414) C d_A_run_414 4 rfl ?_
                    refine k_Ia (pc := 416) (co_V C (hrc c_29 v28 (A_a c_29) y1 _ hw) mw_A_run lk_A_36 d_A_run_416 (List.range _) (all_C _) (all_nd _) (rec_w C 0 0 rfl rfl) rfl rfl (rm_s e0 (by decide)) ⟨Nat.le_of_ble_eq_true rfl, Nat.le_of_ble_eq_true rfl⟩ (rest := [.int v26]) rfl rfl (Nat.le_of_ble_eq_true rfl)) (fun v30 c_31 hw => ?_)
                    refine g_iadd (pc := 419) C d_A_run_419 ?_
                    exact g_iret (pc := 420) C q d_A_run_420 (hq _ _ hw)
                  · replace hw := hw.2 h53
                    by_cases h54 : x1 = 50
                    · replace hw := hw.1 h54
                      refine g_tabIn (pc := 50) (tgt := 421) C d_A_run_50 (by rw [h54]; decide) (by rw [h54]; decide) (off := 371) (by rw [h54]; rfl) (by decide) ?_
                      refine g_aload_n (pc := 421) C d_A_run_421 0 rfl rfl ?_
                      refine g_bipush (pc := 422) C (v := 12) d_A_run_422 (by decide) ?_
                      refine g_iload_n (pc := 424) C d_A_run_424 2 rfl rfl ?_
                      refine g_aload_n (pc := 425) C d_A_run_425 0 rfl rfl ?_
                      refine fA_a (pc := 426) C lk_A_25 d_A_run_426 (v := A_a c) rfl ?_
                      refine g_iadd (pc := 429) C d_A_run_429 ?_
                      refine g_topi (fun y32 ey32 => ?_)
                      replace hw := hw y32 ey32
                      refine g_iload (pc := 430) C d_A_run_430 4 rfl ?_
                      refine k_Ia (pc := 432) (co_V C (hrc c 12 y32 y1 _ hw) mw_A_run lk_A_36 d_A_run_432 (List.range _) (all_C _) (all_nd _) (rec_w C 0 0 rfl rfl) rfl rfl (rm_s e0 (by decide)) ⟨Nat.le_of_ble_eq_true rfl, Nat.le_of_ble_eq_true rfl⟩ (rest := []) rfl rfl (Nat.le_of_ble_eq_true rfl)) (fun v33 c_34 hw => ?_)
                      refine g_aload_n (pc := 435) C d_A_run_435 0 rfl rfl ?_
                      refine fA_n (pc := 436) C lk_A_22 d_A_run_436 (v := A_n c_34) rfl ?_
                      refine g_ixor (pc := 439) C d_A_run_439 ?_
                      exact g_iret (pc := 440) C q d_A_run_440 (hq _ _ hw)
                    · replace hw := hw.2 h54
                      by_cases h55 : x1 = 51
                      · replace hw := hw.1 h55
                        refine g_tabIn (pc := 50) (tgt := 441) C d_A_run_50 (by rw [h55]; decide) (by rw [h55]; decide) (off := 391) (by rw [h55]; rfl) (by decide) ?_
                        refine g_aload_n (pc := 441) C d_A_run_441 0 rfl rfl ?_
                        refine g_bipush (pc := 442) C (v := 10) d_A_run_442 (by decide) ?_
                        refine g_iload_n (pc := 444) C d_A_run_444 2 rfl rfl ?_
                        refine g_iload (pc := 445) C d_A_run_445 4 rfl ?_
                        refine k_Ia (pc := 447) (co_V C (hrc c 10 x2 y1 _ hw) mw_A_run lk_A_36 d_A_run_447 (List.range _) (all_C _) (all_nd _) (rec_w C 0 0 rfl rfl) rfl rfl (rm_s e0 (by decide)) ⟨Nat.le_of_ble_eq_true rfl, Nat.le_of_ble_eq_true rfl⟩ (rest := []) rfl rfl (Nat.le_of_ble_eq_true rfl)) (fun v35 c_36 hw => ?_)
                        refine g_bipush (pc := 450) C (v := 7) d_A_run_450 (by decide) ?_
                        refine g_isub (pc := 452) C d_A_run_452 ?_
                        exact g_iret (pc := 453) C q d_A_run_453 (hq _ _ hw)
                      · replace hw := hw.2 h55
                        by_cases h56 : x1 = 60
                        · replace hw := hw.1 h56
                          refine g_tabIn (pc := 50) (tgt := 454) C d_A_run_50 (by rw [h56]; decide) (by rw [h56]; decide) (off := 404) (by rw [h56]; rfl) (by decide) ?_
                          refine g_aload_n (pc := 454) C d_A_run_454 0 rfl rfl ?_
                          refine g_bipush (pc := 455) C (v := 13) d_A_run_455 (by decide) ?_
                          refine g_iload_n (pc := 457) C d_A_run_457 2 rfl rfl ?_
                          refine g_iload (pc := 458) C d_A_run_458 4 rfl ?_
                          refine k_Ia (pc := 460) (co_V C (hrc c 13 x2 y1 _ hw) mw_A_run lk_A_36 d_A_run_460 (List.range _) (all_C _) (all_nd _) (rec_w C 0 0 rfl rfl) rfl rfl (rm_s e0 (by decide)) ⟨Nat.le_of_ble_eq_true rfl, Nat.le_of_ble_eq_true rfl⟩ (rest := []) rfl rfl (Nat.le_of_ble_eq_true rfl)) (fun v37 c_38 hw => ?_)
                          refine g_iconst (pc := 463) C (v := 5) d_A_run_463 (by decide) ?_
                          refine g_imul (pc := 464) C d_A_run_464 ?_
                          exact g_iret (pc := 465) C q d_A_run_465 (hq _ _ hw)
                        · replace hw := hw.2 h56
                          by_cases h57 : x1 = 61
                          · replace hw := hw.1 h57
                            refine g_tabIn (pc := 50) (tgt := 466) C d_A_run_50 (by rw [h57]; decide) (by rw [h57]; decide) (off := 416) (by rw [h57]; rfl) (by decide) ?_
                            refine g_aload_n (pc := 466) C d_A_run_466 0 rfl rfl ?_
                            refine g_bipush (pc := 467) C (v := 12) d_A_run_467 (by decide) ?_
                            refine g_iload_n (pc := 469) C d_A_run_469 2 rfl rfl ?_
                            refine g_iload (pc := 470) C d_A_run_470 4 rfl ?_
                            refine k_Ia (pc := 472) (co_V C (hrc c 12 x2 y1 _ hw) mw_A_run lk_A_36 d_A_run_472 (List.range _) (all_C _) (all_nd _) (rec_w C 0 0 rfl rfl) rfl rfl (rm_s e0 (by decide)) ⟨Nat.le_of_ble_eq_true rfl, Nat.le_of_ble_eq_true rfl⟩ (rest := []) rfl rfl (Nat.le_of_ble_eq_true rfl)) (fun v39 c_40 hw => ?_)
                            refine g_aload_n (pc := 475) C d_A_run_475 0 rfl rfl ?_
                            refine g_aload_n (pc := 476) C d_A_run_476 0 rfl rfl ?_
                            refine g_iconst (pc := 477) C (v := 0) d_A_run_477 (by decide) ?_
                            refine k_Ia (pc := 478) (co_V C (c_A_bodyOf (xl X) (xD X) (xt X) (xv X) a c_40 0 _ hw) mw_A_bodyOf lk_A_32 d_A_run_478 (List.range _) (all_C _) (all_nd _) (rec_w C 0 0 rfl rfl) rfl rfl (rm_o (by omega) (by decide)) ⟨Nat.le_of_ble_eq_true rfl, Nat.le_of_ble_eq_true rfl⟩ (rest := [.ref (a 0), .int v39]) rfl rfl (Nat.le_of_ble_eq_true rfl)) (fun v41 c_42 hw => ?_)
                            refine g_aload_n (pc := 481) C d_A_run_481 0 rfl rfl ?_
                            refine fA_n (pc := 482) C lk_A_22 d_A_run_482 (v := A_n c_42) rfl ?_
                            refine g_iload (pc := 485) C d_A_run_485 4 rfl ?_
                            refine k_Ia (pc := 487) (co_V C (hrc c_42 v41 (A_n c_42) y1 _ hw) mw_A_run lk_A_36 d_A_run_487 (List.range _) (all_C _) (all_nd _) (rec_w C 0 0 rfl rfl) rfl rfl (rm_s e0 (by decide)) ⟨Nat.le_of_ble_eq_true rfl, Nat.le_of_ble_eq_true rfl⟩ (rest := [.int v39]) rfl rfl (Nat.le_of_ble_eq_true rfl)) (fun v43 c_44 hw => ?_)
                            refine g_isub (pc := 490) C d_A_run_490 ?_
                            exact g_iret (pc := 491) C q d_A_run_491 (hq _ _ hw)
                          · replace hw := hw.2 h57
                            have h45_ := sw_ne (v := 10) h45 (by decide)
                            have h46_ := sw_ne (v := 11) h46 (by decide)
                            have h47_ := sw_ne (v := 12) h47 (by decide)
                            have h48_ := sw_ne (v := 13) h48 (by decide)
                            have h49_ := sw_ne (v := 20) h49 (by decide)
                            have h50_ := sw_ne (v := 30) h50 (by decide)
                            have h51_ := sw_ne (v := 31) h51 (by decide)
                            have h52_ := sw_ne (v := 40) h52 (by decide)
                            have h53_ := sw_ne (v := 41) h53 (by decide)
                            have h54_ := sw_ne (v := 50) h54 (by decide)
                            have h55_ := sw_ne (v := 51) h55 (by decide)
                            have h56_ := sw_ne (v := 60) h56 (by decide)
                            have h57_ := sw_ne (v := 61) h57 (by decide)
                            have hdf : G X 0 0 (woA (xt X) a c) [(0, .ref (a 0)), (1, .int x1), (2, .int x2), (3, .int x3), (4, .int y1)] [] 492 := by
                              refine g_iconst (pc := 492) C (v := 0) d_A_run_492 (by decide) ?_
                              exact g_iret (pc := 493) C q d_A_run_493 (hq _ _ hw)
                            by_cases h9 : (x1).toInt < 10 ∨ 61 < (x1).toInt
                            · exact g_tabOut (pc := 50) (tgt := 492) C d_A_run_50 h9 (by decide) hdf
                            · have h8 : (x1).toInt = 14 ∨ (x1).toInt = 15 ∨ (x1).toInt = 16 ∨ (x1).toInt = 17 ∨ (x1).toInt = 18 ∨ (x1).toInt = 19 ∨ (x1).toInt = 21 ∨ (x1).toInt = 22 ∨ (x1).toInt = 23 ∨ (x1).toInt = 24 ∨ (x1).toInt = 25 ∨ (x1).toInt = 26 ∨ (x1).toInt = 27 ∨ (x1).toInt = 28 ∨ (x1).toInt = 29 ∨ (x1).toInt = 32 ∨ (x1).toInt = 33 ∨ (x1).toInt = 34 ∨ (x1).toInt = 35 ∨ (x1).toInt = 36 ∨ (x1).toInt = 37 ∨ (x1).toInt = 38 ∨ (x1).toInt = 39 ∨ (x1).toInt = 42 ∨ (x1).toInt = 43 ∨ (x1).toInt = 44 ∨ (x1).toInt = 45 ∨ (x1).toInt = 46 ∨ (x1).toInt = 47 ∨ (x1).toInt = 48 ∨ (x1).toInt = 49 ∨ (x1).toInt = 52 ∨ (x1).toInt = 53 ∨ (x1).toInt = 54 ∨ (x1).toInt = 55 ∨ (x1).toInt = 56 ∨ (x1).toInt = 57 ∨ (x1).toInt = 58 ∨ (x1).toInt = 59 := by omega
                              rcases h8 with h8 | h8 | h8 | h8 | h8 | h8 | h8 | h8 | h8 | h8 | h8 | h8 | h8 | h8 | h8 | h8 | h8 | h8 | h8 | h8 | h8 | h8 | h8 | h8 | h8 | h8 | h8 | h8 | h8 | h8 | h8 | h8 | h8 | h8 | h8 | h8 | h8 | h8 | h8 <;> exact g_tabIn (pc := 50) (tgt := 492) C d_A_run_50 (by rw [h8]; decide) (by rw [h8]; decide) (off := 442) (by rw [h8]; rfl) (by decide) hdf
def w_A_run (rc : ASt → Int32 → Int32 → Int32 → (Int32 → ASt → Prop) → Prop) (c : ASt) (x1 : Int32) (x2 : Int32) (x3 : Int32) (post : Int32 → ASt → Prop) : Prop :=
  ((30 < x3) → (post 0 c)) ∧ ((¬ 30 < x3) → ((((A_isParted c) = 0) → (((30 ≤ (A_traced c)) → (w_A_run_44 rc post  c x1 x2 x3)) ∧ ((¬ 30 ≤ (A_traced c)) → (vp_in (A_traced c) 30 ∧ (∀ y59 : Int32, y59 = (A_traced c) + 1 → (w_A_run_44 rc post  (A_traced_ (A_bodies_ c (upd (A_bodies c) (A_traced c).toNatClampNeg x1)) y59) x1 x2 x3)))))) ∧ ((¬ (A_isParted c) = 0) → (post 0 c))))
def wp_A_run : Nat → ASt → Int32 → Int32 → Int32 → (Int32 → ASt → Prop) → Prop
  | 0, _, _, _, _, _ => False
  | n + 1, c, x1, x2, x3, post => w_A_run (wp_A_run n) c x1 x2 x3 post
set_option maxRecDepth 20000 in
theorem g_A_run {X : GX} (e0 : Nat) (he0 : 1 ≤ e0) (C : GC X b_A_run R_A 5 (rmd (e0 + 1))) {Qp : Option Value → va_W → Prop} (q : RC X ((some .int)) Qp 0 0) (a : Nat → Nat) (rc : ASt → Int32 → Int32 → Int32 → (Int32 → ASt → Prop) → Prop) (hrc : ∀ (c : ASt) (x1 : Int32) (x2 : Int32) (x3 : Int32) (post : Int32 → ASt → Prop), rc c x1 x2 x3 post → Con (xl X) (xD X) (xt X) (xv X) y_A_run b_A_run 5 ((some .int)) e0 (woA (xt X) a c) [.ref (a 0), .int x1, .int x2, .int x3] (qI (woA (xt X) a) post)) (c : ASt) (x1 : Int32) (x2 : Int32) (x3 : Int32) (post : Int32 → ASt → Prop) (hq : ∀ v c1, post v c1 → Qp (some (.int v)) (woA (xt X) a c1)) (hw : w_A_run rc c x1 x2 x3 post) : G X 0 0 (woA (xt X) a c) [(0, .ref (a 0)), (1, .int x1), (2, .int x2), (3, .int x3)] [] 0 := by
  unfold w_A_run at hw
  refine g_iload_n (pc := 0) C d_A_run_0 3 rfl rfl ?_
  refine g_bipush (pc := 1) C (v := 30) d_A_run_1 (by decide) ?_
  refine g_icmp_gt (pc := 3) (tgt := 13) C d_A_run_3 (by decide) (fun h62 => ?_) (fun h62 => ?_)
  · replace hw := hw.1 h62
    refine g_iconst (pc := 13) C (v := 0) d_A_run_13 (by decide) ?_
    exact g_iret (pc := 14) C q d_A_run_14 (hq _ _ hw)
  · replace hw := hw.2 h62
    refine g_aload_n (pc := 6) C d_A_run_6 0 rfl rfl ?_
    refine fA_isParted (pc := 7) C lk_A_28 d_A_run_7 (v := A_isParted c) rfl ?_
    refine g_if_eq (pc := 10) (tgt := 15) C d_A_run_10 (by decide) (fun h61 => ?_) (fun h61 => ?_)
    · replace hw := hw.1 h61
      refine g_aload_n (pc := 15) C d_A_run_15 0 rfl rfl ?_
      refine fA_traced (pc := 16) C lk_A_15 d_A_run_16 (v := A_traced c) rfl ?_
      refine g_bipush (pc := 19) C (v := 30) d_A_run_19 (by decide) ?_
      refine g_icmp_ge (pc := 21) (tgt := 44) C d_A_run_21 (by decide) (fun h60 => ?_) (fun h60 => ?_)
      · replace hw := hw.1 h60
        exact j_A_run_44 e0 he0 C q a rc hrc post hq  c x1 x2 x3 hw
      · replace hw := hw.2 h60
        refine g_aload_n (pc := 24) C d_A_run_24 0 rfl rfl ?_
        refine fA_bodies (pc := 25) C lk_A_9 d_A_run_25 ?_
        refine g_aload_n (pc := 28) C d_A_run_28 0 rfl rfl ?_
        refine fA_traced (pc := 29) C lk_A_15 d_A_run_29 (v := A_traced c) rfl ?_
        refine g_iload_n (pc := 32) C d_A_run_32 1 rfl rfl ?_
        obtain ⟨h58, hw⟩ := hw
        refine sA_bodies (pc := 33) C d_A_run_33 (f := A_bodies c) rfl (N0 := (A_traced c).toNatClampNeg) rfl h58 ?_
        refine g_aload_n (pc := 34) C d_A_run_34 0 rfl rfl ?_
        refine g_dup (pc := 35) C d_A_run_35 rfl ?_
        refine fA_traced (pc := 36) C lk_A_15 d_A_run_36 (v := A_traced c) rfl ?_
        refine g_iconst (pc := 39) C (v := 1) d_A_run_39 (by decide) ?_
        refine g_iadd (pc := 40) C d_A_run_40 ?_
        refine g_topi (fun y59 ey59 => ?_)
        replace hw := hw y59 ey59
        refine pA_traced (pc := 41) C lk_A_15 d_A_run_41   ?_
        exact j_A_run_44 e0 he0 C q a rc hrc post hq  (A_traced_ (A_bodies_ c (upd (A_bodies c) (A_traced c).toNatClampNeg x1)) y59) x1 x2 x3 hw
    · replace hw := hw.2 h61
      refine g_iconst (pc := 13) C (v := 0) d_A_run_13 (by decide) ?_
      exact g_iret (pc := 14) C q d_A_run_14 (hq _ _ hw)
set_option maxRecDepth 20000 in
theorem c_A_run (l : Launch) (D : va_G) (t : Nat → ClassId) (ev : Nat → Nat) (a : Nat → Nat) : ∀ (n : Nat) (c : ASt) (x1 : Int32) (x2 : Int32) (x3 : Int32) (post : Int32 → ASt → Prop), wp_A_run n c x1 x2 x3 post → Con l D t ev y_A_run b_A_run 5 ((some .int)) (1 + n) (woA t a c) [.ref (a 0), .int x1, .int x2, .int x3] (qI (woA t a) post) := by
  intro n
  induction n with
  | zero => intro c x1 x2 x3 post hw; exact hw.elim
  | succ n ih =>
    intro c x1 x2 x3 post hw
    exact ConR.of (by decide +kernel) (Nat.le_of_ble_eq_true rfl) (fun X el eD et ee C q _ => by subst el; subst eD; subst et; subst ee; exact g_A_run (1 + n) (by omega) C q a (wp_A_run n) ih c x1 x2 x3 post (fun v c1 h => ⟨⟨v, c1, rfl, rfl, h⟩, rfl⟩) hw)
def wp_A_perform (c : ASt) (x1 : Int32) (x2 : Int32) (x3 : Int32) (x4 : Int32) (x5 : Int32) (post : Int32 → ASt → Prop) : Prop :=
  wp_A_bodyOf (A_a_ (A_n_ (A_kind_ (A_isParted_ (A_traced_ c 0) 0) x2) x3) x4) x1 (fun v1 c_2 => wp_A_run 40 c_2 v1 x5 0 (fun v3 c_4 => (((A_isParted c_4) = 0) → (post v3 c_4)) ∧ ((¬ (A_isParted c_4) = 0) → (post (-15) c_4))))
set_option maxRecDepth 20000 in
theorem g_A_perform {X : GX} (C : GC X b_A_perform R_A 7 (rmd 42)) {Qp : Option Value → va_W → Prop} (q : RC X ((some .int)) Qp 0 0) (a : Nat → Nat) (c : ASt) (x1 : Int32) (x2 : Int32) (x3 : Int32) (x4 : Int32) (x5 : Int32) (post : Int32 → ASt → Prop) (hq : ∀ v c1, post v c1 → Qp (some (.int v)) (woA (xt X) a c1)) (hw : wp_A_perform c x1 x2 x3 x4 x5 post) : G X 0 0 (woA (xt X) a c) [(0, .ref (a 0)), (1, .int x1), (2, .int x2), (3, .int x3), (4, .int x4), (5, .int x5)] [] 0 := by
  unfold wp_A_perform at hw
  refine g_aload_n (pc := 0) C d_A_perform_0 0 rfl rfl ?_
  refine g_iconst (pc := 1) C (v := 0) d_A_perform_1 (by decide) ?_
  refine pA_traced (pc := 2) C lk_A_15 d_A_perform_2   ?_
  refine g_aload_n (pc := 5) C d_A_perform_5 0 rfl rfl ?_
  refine g_iconst (pc := 6) C (v := 0) d_A_perform_6 (by decide) ?_
  refine pA_isParted (pc := 7) C lk_A_28 d_A_perform_7 (by decide) (by decide) ?_
  refine g_aload_n (pc := 10) C d_A_perform_10 0 rfl rfl ?_
  refine g_iload_n (pc := 11) C d_A_perform_11 2 rfl rfl ?_
  refine pA_kind (pc := 12) C lk_A_19 d_A_perform_12   ?_
  refine g_aload_n (pc := 15) C d_A_perform_15 0 rfl rfl ?_
  refine g_iload_n (pc := 16) C d_A_perform_16 3 rfl rfl ?_
  refine pA_n (pc := 17) C lk_A_22 d_A_perform_17   ?_
  refine g_aload_n (pc := 20) C d_A_perform_20 0 rfl rfl ?_
  refine g_iload (pc := 21) C d_A_perform_21 4 rfl ?_
  refine pA_a (pc := 23) C lk_A_25 d_A_perform_23   ?_
  refine g_aload_n (pc := 26) C d_A_perform_26 0 rfl rfl ?_
  refine g_aload_n (pc := 27) C d_A_perform_27 0 rfl rfl ?_
  refine g_iload_n (pc := 28) C d_A_perform_28 1 rfl rfl ?_
  refine k_Ia (pc := 29) (co_V C (c_A_bodyOf (xl X) (xD X) (xt X) (xv X) a (A_a_ (A_n_ (A_kind_ (A_isParted_ (A_traced_ c 0) 0) x2) x3) x4) x1 _ hw) mw_A_bodyOf lk_A_32 d_A_perform_29 (List.range _) (all_C _) (all_nd _) (rec_w C 0 0 rfl rfl) rfl rfl ⟨Nat.le_of_ble_eq_true rfl, Nat.le_of_ble_eq_true rfl⟩ ⟨Nat.le_of_ble_eq_true rfl, Nat.le_of_ble_eq_true rfl⟩ (rest := [.ref (a 0)]) rfl rfl (Nat.le_of_ble_eq_true rfl)) (fun v1 c_2 hw => ?_)
  refine g_iload (pc := 32) C d_A_perform_32 5 rfl ?_
  refine g_iconst (pc := 34) C (v := 0) d_A_perform_34 (by decide) ?_
  refine k_Ia (pc := 35) (co_V C (c_A_run (xl X) (xD X) (xt X) (xv X) a 40 c_2 v1 x5 0 _ hw) mw_A_run lk_A_36 d_A_perform_35 (List.range _) (all_C _) (all_nd _) (rec_w C 0 0 rfl rfl) rfl rfl ⟨Nat.le_of_ble_eq_true rfl, Nat.le_of_ble_eq_true rfl⟩ ⟨Nat.le_of_ble_eq_true rfl, Nat.le_of_ble_eq_true rfl⟩ (rest := []) rfl rfl (Nat.le_of_ble_eq_true rfl)) (fun v3 c_4 hw => ?_)
  refine g_istore (pc := 38) C d_A_perform_38 (Nat.le_of_ble_eq_true rfl) (lv' := [(0, .ref (a 0)), (1, .int x1), (2, .int x2), (3, .int x3), (4, .int x4), (5, .int x5), (6, .int v3)]) rfl ?_
  refine g_aload_n (pc := 40) C d_A_perform_40 0 rfl rfl ?_
  refine fA_isParted (pc := 41) C lk_A_28 d_A_perform_41 (v := A_isParted c_4) rfl ?_
  refine g_if_eq (pc := 44) (tgt := 52) C d_A_perform_44 (by decide) (fun h5 => ?_) (fun h5 => ?_)
  · replace hw := hw.1 h5
    refine g_iload (pc := 52) C d_A_perform_52 6 rfl ?_
    exact g_iret (pc := 54) C q d_A_perform_54 (hq _ _ hw)
  · replace hw := hw.2 h5
    refine g_bipush (pc := 47) C (v := (-15)) d_A_perform_47 (by decide) ?_
    refine g_goto (pc := 49) (tgt := 54) C d_A_perform_49 (by decide) ?_
    exact g_iret (pc := 54) C q d_A_perform_54 (hq _ _ hw)
set_option maxRecDepth 20000 in
theorem c_A_perform (l : Launch) (D : va_G) (t : Nat → ClassId) (ev : Nat → Nat) (a : Nat → Nat) (c : ASt) (x1 : Int32) (x2 : Int32) (x3 : Int32) (x4 : Int32) (x5 : Int32) (post : Int32 → ASt → Prop) (hw : wp_A_perform c x1 x2 x3 x4 x5 post) : Con l D t ev y_A_perform b_A_perform 7 ((some .int)) 42 (woA t a c) [.ref (a 0), .int x1, .int x2, .int x3, .int x4, .int x5] (qI (woA t a)  post) :=
  ConR.of (by decide +kernel) (Nat.le_of_ble_eq_true rfl) (fun X el eD et ee C q _ => by subst el; subst eD; subst et; subst ee; exact g_A_perform C q a c x1 x2 x3 x4 x5 post (fun v c1 h => ⟨⟨v, c1, rfl, rfl, h⟩, rfl⟩) hw)
def wp_S_clearTo (c : SSt) (x1 : Int32) (x2 : Int32) (post : SSt → Prop) : Prop :=
  wp_JA_fill 40 (S_items c) 0 (fun f_1 => post (S_size_ (S_sort_ (S_items_ c f_1) x1) x2))
set_option maxRecDepth 20000 in
theorem g_S_clearTo {X : GX} (C : GC X b_S_clearTo R_S 3 (rmd 1)) {Qp : Option Value → va_W → Prop} (q : RC X (none) Qp 0 0) (a : Nat → Nat) (c : SSt) (x1 : Int32) (x2 : Int32) (post : SSt → Prop) (hq : ∀ c1, post c1 → Qp none (woS (xt X) a c1)) (hw : wp_S_clearTo c x1 x2 post) : G X 0 0 (woS (xt X) a c) [(0, .ref (a 0)), (1, .int x1), (2, .int x2)] [] 0 := by
  unfold wp_S_clearTo at hw
  refine g_aload_n (pc := 0) C d_S_clearTo_0 0 rfl rfl ?_
  refine fS_items (pc := 1) C lk_S_9 d_S_clearTo_1 ?_
  refine g_iconst (pc := 4) C (v := 0) d_S_clearTo_4 (by decide) ?_
  refine k_V (pc := 5) (co_S C (c_JA_fill (xl X) (xD X) (xt X) (xv X) (fun _ => a 1) 40 (S_items c) 0 _ hw) mw_JA_fill lk_S_22 d_S_clearTo_5 [1] (cC_S_items (xt X) a a c) (by decide)  rfl rfl ⟨Nat.le_of_ble_eq_true rfl, Nat.le_of_ble_eq_true rfl⟩ ⟨Nat.le_of_ble_eq_true rfl, Nat.le_of_ble_eq_true rfl⟩ (rest := []) rfl rfl (Nat.le_of_ble_eq_true rfl)) (fun f_1 => woS (xt X) a (S_items_ c f_1)) (cS_S_items (xt X) a a c) (fun f_1 hw => ?_)
  refine g_aload_n (pc := 8) C d_S_clearTo_8 0 rfl rfl ?_
  refine g_iload_n (pc := 9) C d_S_clearTo_9 1 rfl rfl ?_
  refine pS_sort (pc := 10) C lk_S_15 d_S_clearTo_10   ?_
  refine g_aload_n (pc := 13) C d_S_clearTo_13 0 rfl rfl ?_
  refine g_iload_n (pc := 14) C d_S_clearTo_14 2 rfl rfl ?_
  refine pS_size (pc := 15) C lk_S_19 d_S_clearTo_15   ?_
  exact g_vret (pc := 18) C q d_S_clearTo_18 (hq (S_size_ (S_sort_ (S_items_ c f_1) x1) x2) hw)
set_option maxRecDepth 20000 in
theorem c_S_clearTo (l : Launch) (D : va_G) (t : Nat → ClassId) (ev : Nat → Nat) (a : Nat → Nat) (c : SSt) (x1 : Int32) (x2 : Int32) (post : SSt → Prop) (hw : wp_S_clearTo c x1 x2 post) : Con l D t ev y_S_clearTo b_S_clearTo 3 (none) 1 (woS t a c) [.ref (a 0), .int x1, .int x2] (qV (woS t a)  post) :=
  ConR.of (by decide +kernel) (Nat.le_of_ble_eq_true rfl) (fun X el eD et ee C q _ => by subst el; subst eD; subst et; subst ee; exact g_S_clearTo C q a c x1 x2 post (fun c1 h => ⟨⟨c1, rfl, rfl, h⟩, rfl⟩) hw)
def wp_S_hasItem (c : SSt) (x1 : Int32) (post : Int32 → SSt → Prop) : Prop :=
  ((x1 < 0) → (post 0 c)) ∧ ((¬ x1 < 0) → ((((S_size c) ≤ x1) → (post 0 c)) ∧ ((¬ (S_size c) ≤ x1) → (((40 ≤ x1) → (post 0 c)) ∧ ((¬ 40 ≤ x1) → (post 1 c))))))
set_option maxRecDepth 20000 in
theorem g_S_hasItem {X : GX} (C : GC X b_S_hasItem R_S 2 (rmd 0)) {Qp : Option Value → va_W → Prop} (q : RC X ((some .boolean)) Qp 0 0) (a : Nat → Nat) (c : SSt) (x1 : Int32) (post : Int32 → SSt → Prop) (hq : ∀ v c1, post v c1 → Qp (some (.int v)) (woS (xt X) a c1)) (hw : wp_S_hasItem c x1 post) : G X 0 0 (woS (xt X) a c) [(0, .ref (a 0)), (1, .int x1)] [] 0 := by
  unfold wp_S_hasItem at hw
  refine g_iload_n (pc := 0) C d_S_hasItem_0 1 rfl rfl ?_
  refine g_if_lt (pc := 1) (tgt := 22) C d_S_hasItem_1 (by decide) (fun h3 => ?_) (fun h3 => ?_)
  · replace hw := hw.1 h3
    refine g_iconst (pc := 22) C (v := 0) d_S_hasItem_22 (by decide) ?_
    exact g_zret (pc := 23) C q d_S_hasItem_23 (by decide) (hq _ _ hw)
  · replace hw := hw.2 h3
    refine g_iload_n (pc := 4) C d_S_hasItem_4 1 rfl rfl ?_
    refine g_aload_n (pc := 5) C d_S_hasItem_5 0 rfl rfl ?_
    refine fS_size (pc := 6) C lk_S_19 d_S_hasItem_6 (v := S_size c) rfl ?_
    refine g_icmp_ge (pc := 9) (tgt := 22) C d_S_hasItem_9 (by decide) (fun h2 => ?_) (fun h2 => ?_)
    · replace hw := hw.1 h2
      refine g_iconst (pc := 22) C (v := 0) d_S_hasItem_22 (by decide) ?_
      exact g_zret (pc := 23) C q d_S_hasItem_23 (by decide) (hq _ _ hw)
    · replace hw := hw.2 h2
      refine g_iload_n (pc := 12) C d_S_hasItem_12 1 rfl rfl ?_
      refine g_bipush (pc := 13) C (v := 40) d_S_hasItem_13 (by decide) ?_
      refine g_icmp_ge (pc := 15) (tgt := 22) C d_S_hasItem_15 (by decide) (fun h1 => ?_) (fun h1 => ?_)
      · replace hw := hw.1 h1
        refine g_iconst (pc := 22) C (v := 0) d_S_hasItem_22 (by decide) ?_
        exact g_zret (pc := 23) C q d_S_hasItem_23 (by decide) (hq _ _ hw)
      · replace hw := hw.2 h1
        refine g_iconst (pc := 18) C (v := 1) d_S_hasItem_18 (by decide) ?_
        refine g_goto (pc := 19) (tgt := 23) C d_S_hasItem_19 (by decide) ?_
        exact g_zret (pc := 23) C q d_S_hasItem_23 (by decide) (hq _ _ hw)
set_option maxRecDepth 20000 in
theorem c_S_hasItem (l : Launch) (D : va_G) (t : Nat → ClassId) (ev : Nat → Nat) (a : Nat → Nat) (c : SSt) (x1 : Int32) (post : Int32 → SSt → Prop) (hw : wp_S_hasItem c x1 post) : Con l D t ev y_S_hasItem b_S_hasItem 2 ((some .boolean)) 0 (woS t a c) [.ref (a 0), .int x1] (qI (woS t a)  post) :=
  ConR.of (by decide +kernel) (Nat.le_of_ble_eq_true rfl) (fun X el eD et ee C q _ => by subst el; subst eD; subst et; subst ee; exact g_S_hasItem C q a c x1 post (fun v c1 h => ⟨⟨v, c1, rfl, rfl, h⟩, rfl⟩) hw)
def wp_S_narrowed (c : SSt) (x1 : Int32) (post : Int32 → SSt → Prop) : Prop :=
  (((S_sort c) = 0) → (post x1.toInt8.toInt32 c)) ∧ ((¬ (S_sort c) = 0) → ((((S_sort c) = 1) → (post x1.toInt16.toInt32 c)) ∧ ((¬ (S_sort c) = 1) → (post x1 c))))
set_option maxRecDepth 20000 in
theorem g_S_narrowed {X : GX} (C : GC X b_S_narrowed R_S 2 (rmd 0)) {Qp : Option Value → va_W → Prop} (q : RC X ((some .int)) Qp 0 0) (a : Nat → Nat) (c : SSt) (x1 : Int32) (post : Int32 → SSt → Prop) (hq : ∀ v c1, post v c1 → Qp (some (.int v)) (woS (xt X) a c1)) (hw : wp_S_narrowed c x1 post) : G X 0 0 (woS (xt X) a c) [(0, .ref (a 0)), (1, .int x1)] [] 0 := by
  unfold wp_S_narrowed at hw
  refine g_aload_n (pc := 0) C d_S_narrowed_0 0 rfl rfl ?_
  refine fS_sort (pc := 1) C lk_S_15 d_S_narrowed_1 (v := S_sort c) rfl ?_
  by_cases h1 : (S_sort c) = 0
  · replace hw := hw.1 h1
    refine g_lookup (pc := 4) (tgt := 32) C d_S_narrowed_4 (by decide) (off := 28) (by rw [h1]; rfl) (by decide) ?_
    refine g_iload_n (pc := 32) C d_S_narrowed_32 1 rfl rfl ?_
    refine g_i2b (pc := 33) C d_S_narrowed_33 ?_
    exact g_iret (pc := 34) C q d_S_narrowed_34 (hq _ _ hw)
  · replace hw := hw.2 h1
    by_cases h2 : (S_sort c) = 1
    · replace hw := hw.1 h2
      refine g_lookup (pc := 4) (tgt := 35) C d_S_narrowed_4 (by decide) (off := 31) (by rw [h2]; rfl) (by decide) ?_
      refine g_iload_n (pc := 35) C d_S_narrowed_35 1 rfl rfl ?_
      refine g_i2s (pc := 36) C d_S_narrowed_36 ?_
      exact g_iret (pc := 37) C q d_S_narrowed_37 (hq _ _ hw)
    · replace hw := hw.2 h2
      have h1_ := sw_ne (v := 0) h1 (by decide)
      have h2_ := sw_ne (v := 1) h2 (by decide)
      refine g_lookup (pc := 4) (tgt := 38) C d_S_narrowed_4 (by decide) (off := 34) (by simp [Op.lookupswitch.offset, h1_, h1_.symm, h2_, h2_.symm]) (by decide) ?_
      refine g_iload_n (pc := 38) C d_S_narrowed_38 1 rfl rfl ?_
      exact g_iret (pc := 39) C q d_S_narrowed_39 (hq _ _ hw)
set_option maxRecDepth 20000 in
theorem c_S_narrowed (l : Launch) (D : va_G) (t : Nat → ClassId) (ev : Nat → Nat) (a : Nat → Nat) (c : SSt) (x1 : Int32) (post : Int32 → SSt → Prop) (hw : wp_S_narrowed c x1 post) : Con l D t ev y_S_narrowed b_S_narrowed 2 ((some .int)) 0 (woS t a c) [.ref (a 0), .int x1] (qI (woS t a)  post) :=
  ConR.of (by decide +kernel) (Nat.le_of_ble_eq_true rfl) (fun X el eD et ee C q _ => by subst el; subst eD; subst et; subst ee; exact g_S_narrowed C q a c x1 post (fun v c1 h => ⟨⟨v, c1, rfl, rfl, h⟩, rfl⟩) hw)
def wp_H_clear (c : HSt) (post : HSt → Prop) : Prop :=
  post (H_what_ c 2)
set_option maxRecDepth 20000 in
theorem g_H_clear {X : GX} (C : GC X b_H_clear R_H 1 (rmd 0)) {Qp : Option Value → va_W → Prop} (q : RC X (none) Qp 0 0) (a : Nat → Nat) (c : HSt) (post : HSt → Prop) (hq : ∀ c1, post c1 → Qp none (woH (xt X) a c1)) (hw : wp_H_clear c post) : G X 0 0 (woH (xt X) a c) [(0, .ref (a 0))] [] 0 := by
  unfold wp_H_clear at hw
  refine g_aload_n (pc := 0) C d_H_clear_0 0 rfl rfl ?_
  refine g_iconst (pc := 1) C (v := 2) d_H_clear_1 (by decide) ?_
  refine pH_what (pc := 2) C lk_H_9 d_H_clear_2   ?_
  exact g_vret (pc := 5) C q d_H_clear_5 (hq (H_what_ c 2) hw)
set_option maxRecDepth 20000 in
theorem c_H_clear (l : Launch) (D : va_G) (t : Nat → ClassId) (ev : Nat → Nat) (a : Nat → Nat) (c : HSt) (post : HSt → Prop) (hw : wp_H_clear c post) : Con l D t ev y_H_clear b_H_clear 1 (none) 0 (woH t a c) [.ref (a 0)] (qV (woH t a)  post) :=
  ConR.of (by decide +kernel) (Nat.le_of_ble_eq_true rfl) (fun X el eD et ee C q _ => by subst el; subst eD; subst et; subst ee; exact g_H_clear C q a c post (fun c1 h => ⟨⟨c1, rfl, rfl, h⟩, rfl⟩) hw)
def wp_H_holdBarge (c : HSt) (x1 : Int32) (post : HSt → Prop) : Prop :=
  post (H_barge_ (H_what_ c 0) x1)
set_option maxRecDepth 20000 in
theorem g_H_holdBarge {X : GX} (C : GC X b_H_holdBarge R_H 2 (rmd 0)) {Qp : Option Value → va_W → Prop} (q : RC X (none) Qp 0 0) (a : Nat → Nat) (c : HSt) (x1 : Int32) (post : HSt → Prop) (hq : ∀ c1, post c1 → Qp none (woH (xt X) a c1)) (hw : wp_H_holdBarge c x1 post) : G X 0 0 (woH (xt X) a c) [(0, .ref (a 0)), (1, .int x1)] [] 0 := by
  unfold wp_H_holdBarge at hw
  refine g_aload_n (pc := 0) C d_H_holdBarge_0 0 rfl rfl ?_
  refine g_iconst (pc := 1) C (v := 0) d_H_holdBarge_1 (by decide) ?_
  refine pH_what (pc := 2) C lk_H_9 d_H_holdBarge_2   ?_
  refine g_aload_n (pc := 5) C d_H_holdBarge_5 0 rfl rfl ?_
  refine g_iload_n (pc := 6) C d_H_holdBarge_6 1 rfl rfl ?_
  refine pH_barge (pc := 7) C lk_H_15 d_H_holdBarge_7   ?_
  exact g_vret (pc := 10) C q d_H_holdBarge_10 (hq (H_barge_ (H_what_ c 0) x1) hw)
set_option maxRecDepth 20000 in
theorem c_H_holdBarge (l : Launch) (D : va_G) (t : Nat → ClassId) (ev : Nat → Nat) (a : Nat → Nat) (c : HSt) (x1 : Int32) (post : HSt → Prop) (hw : wp_H_holdBarge c x1 post) : Con l D t ev y_H_holdBarge b_H_holdBarge 2 (none) 0 (woH t a c) [.ref (a 0), .int x1] (qV (woH t a)  post) :=
  ConR.of (by decide +kernel) (Nat.le_of_ble_eq_true rfl) (fun X el eD et ee C q _ => by subst el; subst eD; subst et; subst ee; exact g_H_holdBarge C q a c x1 post (fun c1 h => ⟨⟨c1, rfl, rfl, h⟩, rfl⟩) hw)
def wp_H_holdRow (c : HSt) (x1 : Int32) (x2 : Int32) (post : HSt → Prop) : Prop :=
  ((x1 = (-1)) → (post (H_rowSize_ (H_rowSort_ (H_what_ c 2) x1) x2))) ∧ ((¬ x1 = (-1)) → (post (H_rowSize_ (H_rowSort_ (H_what_ c 1) x1) x2)))
set_option maxRecDepth 20000 in
theorem g_H_holdRow {X : GX} (C : GC X b_H_holdRow R_H 3 (rmd 0)) {Qp : Option Value → va_W → Prop} (q : RC X (none) Qp 0 0) (a : Nat → Nat) (c : HSt) (x1 : Int32) (x2 : Int32) (post : HSt → Prop) (hq : ∀ c1, post c1 → Qp none (woH (xt X) a c1)) (hw : wp_H_holdRow c x1 x2 post) : G X 0 0 (woH (xt X) a c) [(0, .ref (a 0)), (1, .int x1), (2, .int x2)] [] 0 := by
  unfold wp_H_holdRow at hw
  refine g_aload_n (pc := 0) C d_H_holdRow_0 0 rfl rfl ?_
  refine g_iload_n (pc := 1) C d_H_holdRow_1 1 rfl rfl ?_
  refine g_iconst (pc := 2) C (v := (-1)) d_H_holdRow_2 (by decide) ?_
  refine g_icmp_ne (pc := 3) (tgt := 10) C d_H_holdRow_3 (by decide) (fun h1 => ?_) (fun h1 => ?_)
  · replace hw := hw.2 h1
    refine g_iconst (pc := 10) C (v := 1) d_H_holdRow_10 (by decide) ?_
    refine pH_what (pc := 11) C lk_H_9 d_H_holdRow_11   ?_
    refine g_aload_n (pc := 14) C d_H_holdRow_14 0 rfl rfl ?_
    refine g_iload_n (pc := 15) C d_H_holdRow_15 1 rfl rfl ?_
    refine pH_rowSort (pc := 16) C lk_H_18 d_H_holdRow_16   ?_
    refine g_aload_n (pc := 19) C d_H_holdRow_19 0 rfl rfl ?_
    refine g_iload_n (pc := 20) C d_H_holdRow_20 2 rfl rfl ?_
    refine pH_rowSize (pc := 21) C lk_H_21 d_H_holdRow_21   ?_
    exact g_vret (pc := 24) C q d_H_holdRow_24 (hq (H_rowSize_ (H_rowSort_ (H_what_ c 1) x1) x2) hw)
  · replace hw := hw.1 h1
    refine g_iconst (pc := 6) C (v := 2) d_H_holdRow_6 (by decide) ?_
    refine g_goto (pc := 7) (tgt := 11) C d_H_holdRow_7 (by decide) ?_
    refine pH_what (pc := 11) C lk_H_9 d_H_holdRow_11   ?_
    refine g_aload_n (pc := 14) C d_H_holdRow_14 0 rfl rfl ?_
    refine g_iload_n (pc := 15) C d_H_holdRow_15 1 rfl rfl ?_
    refine pH_rowSort (pc := 16) C lk_H_18 d_H_holdRow_16   ?_
    refine g_aload_n (pc := 19) C d_H_holdRow_19 0 rfl rfl ?_
    refine g_iload_n (pc := 20) C d_H_holdRow_20 2 rfl rfl ?_
    refine pH_rowSize (pc := 21) C lk_H_21 d_H_holdRow_21   ?_
    exact g_vret (pc := 24) C q d_H_holdRow_24 (hq (H_rowSize_ (H_rowSort_ (H_what_ c 2) x1) x2) hw)
set_option maxRecDepth 20000 in
theorem c_H_holdRow (l : Launch) (D : va_G) (t : Nat → ClassId) (ev : Nat → Nat) (a : Nat → Nat) (c : HSt) (x1 : Int32) (x2 : Int32) (post : HSt → Prop) (hw : wp_H_holdRow c x1 x2 post) : Con l D t ev y_H_holdRow b_H_holdRow 3 (none) 0 (woH t a c) [.ref (a 0), .int x1, .int x2] (qV (woH t a)  post) :=
  ConR.of (by decide +kernel) (Nat.le_of_ble_eq_true rfl) (fun X el eD et ee C q _ => by subst el; subst eD; subst et; subst ee; exact g_H_holdRow C q a c x1 x2 post (fun c1 h => ⟨⟨c1, rfl, rfl, h⟩, rfl⟩) hw)
end
