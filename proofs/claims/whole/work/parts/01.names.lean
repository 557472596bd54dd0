-- ===== PART A: goes FIRST, ahead of the names: the tables' words, and 'selects' of the private methods out of them =====
/-- a private method of a class that the tables say can be made, by its rows of tables_1 -/
def lw_okq (q : MethodName × Nat) : Prop := (q.1.cls ≠ "java/lang/invoke/MethodHandle" ∧ q.1.cls ≠ "java/lang/invoke/VarHandle") ∧ Cond.instantiable q.1.cls q.2 ∈ tables_1 ∧ Cond.privateMethod q.1 ∈ tables_1 ∧ Cond.instanceMethod q.1 ∈ tables_1
theorem lw_p0 : lw_okq (⟨"WormHeap$Gold", "put", "(II)V"⟩, 9) := ⟨⟨by decide +kernel, by decide +kernel⟩, List.mem_of_getElem? (i := 30) (by decide +kernel), List.mem_of_getElem? (i := 197) (by decide +kernel), List.mem_of_getElem? (i := 198) (by decide +kernel)⟩
theorem lw_p1 : lw_okq (⟨"WormHeap$Tape", "skipBlanks", "()V"⟩, 3) := ⟨⟨by decide +kernel, by decide +kernel⟩, List.mem_of_getElem? (i := 91) (by decide +kernel), List.mem_of_getElem? (i := 315) (by decide +kernel), List.mem_of_getElem? (i := 316) (by decide +kernel)⟩
theorem lw_p2 : lw_okq (⟨"WormHeap$HeapText", "readPiece", "(LWormHeap$Tape;I)Z"⟩, 4) := ⟨⟨by decide +kernel, by decide +kernel⟩, List.mem_of_getElem? (i := 108) (by decide +kernel), List.mem_of_getElem? (i := 396) (by decide +kernel), List.mem_of_getElem? (i := 397) (by decide +kernel)⟩
theorem lw_p3 : lw_okq (⟨"WormHeap$Gold", "eat", "()V"⟩, 9) := ⟨⟨by decide +kernel, by decide +kernel⟩, List.mem_of_getElem? (i := 30) (by decide +kernel), List.mem_of_getElem? (i := 493) (by decide +kernel), List.mem_of_getElem? (i := 494) (by decide +kernel)⟩
theorem lw_p4 : lw_okq (⟨"WormHeap$Gold", "take", "(I)I"⟩, 9) := ⟨⟨by decide +kernel, by decide +kernel⟩, List.mem_of_getElem? (i := 30) (by decide +kernel), List.mem_of_getElem? (i := 502) (by decide +kernel), List.mem_of_getElem? (i := 503) (by decide +kernel)⟩
theorem lw_p5 : lw_okq (⟨"WormHeap$Gold", "turned", "(I)I"⟩, 9) := ⟨⟨by decide +kernel, by decide +kernel⟩, List.mem_of_getElem? (i := 30) (by decide +kernel), List.mem_of_getElem? (i := 545) (by decide +kernel), List.mem_of_getElem? (i := 546) (by decide +kernel)⟩
theorem lw_p6 : lw_okq (⟨"WormHeap$Towns", "give", "(LWormHeap$Gold;I)V"⟩, 2) := ⟨⟨by decide +kernel, by decide +kernel⟩, List.mem_of_getElem? (i := 78) (by decide +kernel), List.mem_of_getElem? (i := 617) (by decide +kernel), List.mem_of_getElem? (i := 618) (by decide +kernel)⟩
theorem lw_p7 : lw_okq (⟨"WormHeap", "sheetAt", "(I)LWormHeap$Sheet;"⟩, 9) := ⟨⟨by decide +kernel, by decide +kernel⟩, List.mem_of_getElem? (i := 22) (by decide +kernel), List.mem_of_getElem? (i := 681) (by decide +kernel), List.mem_of_getElem? (i := 682) (by decide +kernel)⟩
theorem lw_p8 : lw_okq (⟨"WormHeapModel", "addPiece", "(IIII)V"⟩, 34) := ⟨⟨by decide +kernel, by decide +kernel⟩, List.mem_of_getElem? (i := 777) (by decide +kernel), List.mem_of_getElem? (i := 896) (by decide +kernel), List.mem_of_getElem? (i := 897) (by decide +kernel)⟩
theorem lw_p9 : lw_okq (⟨"WormHeapModel", "put", "(II)V"⟩, 34) := ⟨⟨by decide +kernel, by decide +kernel⟩, List.mem_of_getElem? (i := 777) (by decide +kernel), List.mem_of_getElem? (i := 900) (by decide +kernel), List.mem_of_getElem? (i := 901) (by decide +kernel)⟩
theorem lw_p10 : lw_okq (⟨"WormHeapModel", "isPiece", "(I)Z"⟩, 34) := ⟨⟨by decide +kernel, by decide +kernel⟩, List.mem_of_getElem? (i := 777) (by decide +kernel), List.mem_of_getElem? (i := 908) (by decide +kernel), List.mem_of_getElem? (i := 909) (by decide +kernel)⟩
theorem lw_p11 : lw_okq (⟨"WormHeapModel", "weighs", "(I)I"⟩, 34) := ⟨⟨by decide +kernel, by decide +kernel⟩, List.mem_of_getElem? (i := 777) (by decide +kernel), List.mem_of_getElem? (i := 912) (by decide +kernel), List.mem_of_getElem? (i := 913) (by decide +kernel)⟩
theorem lw_p12 : lw_okq (⟨"WormHeapModel", "townOf", "(I)I"⟩, 34) := ⟨⟨by decide +kernel, by decide +kernel⟩, List.mem_of_getElem? (i := 777) (by decide +kernel), List.mem_of_getElem? (i := 916) (by decide +kernel), List.mem_of_getElem? (i := 917) (by decide +kernel)⟩
theorem lw_p13 : lw_okq (⟨"WormHeapModel", "offOf", "(I)I"⟩, 34) := ⟨⟨by decide +kernel, by decide +kernel⟩, List.mem_of_getElem? (i := 777) (by decide +kernel), List.mem_of_getElem? (i := 920) (by decide +kernel), List.mem_of_getElem? (i := 921) (by decide +kernel)⟩
theorem lw_p14 : lw_okq (⟨"WormHeapModel", "loadOf", "(I)I"⟩, 34) := ⟨⟨by decide +kernel, by decide +kernel⟩, List.mem_of_getElem? (i := 777) (by decide +kernel), List.mem_of_getElem? (i := 932) (by decide +kernel), List.mem_of_getElem? (i := 933) (by decide +kernel)⟩
theorem lw_p15 : lw_okq (⟨"WormHeapModel", "topOf", "(I)I"⟩, 34) := ⟨⟨by decide +kernel, by decide +kernel⟩, List.mem_of_getElem? (i := 777) (by decide +kernel), List.mem_of_getElem? (i := 936) (by decide +kernel), List.mem_of_getElem? (i := 937) (by decide +kernel)⟩
def lw_privs_1 : List (MethodName × Nat) := [(⟨"WormHeap$Gold", "put", "(II)V"⟩, 9), (⟨"WormHeap$Tape", "skipBlanks", "()V"⟩, 3), (⟨"WormHeap$HeapText", "readPiece", "(LWormHeap$Tape;I)Z"⟩, 4), (⟨"WormHeap$Gold", "eat", "()V"⟩, 9), (⟨"WormHeap$Gold", "take", "(I)I"⟩, 9), (⟨"WormHeap$Gold", "turned", "(I)I"⟩, 9), (⟨"WormHeap$Towns", "give", "(LWormHeap$Gold;I)V"⟩, 2), (⟨"WormHeap", "sheetAt", "(I)LWormHeap$Sheet;"⟩, 9), (⟨"WormHeapModel", "addPiece", "(IIII)V"⟩, 34), (⟨"WormHeapModel", "put", "(II)V"⟩, 34), (⟨"WormHeapModel", "isPiece", "(I)Z"⟩, 34), (⟨"WormHeapModel", "weighs", "(I)I"⟩, 34), (⟨"WormHeapModel", "townOf", "(I)I"⟩, 34), (⟨"WormHeapModel", "offOf", "(I)I"⟩, 34), (⟨"WormHeapModel", "loadOf", "(I)I"⟩, 34), (⟨"WormHeapModel", "topOf", "(I)I"⟩, 34)]
theorem lw_r1 : ∀ q ∈ lw_privs_1, lw_okq q := List.forall_mem_cons.mpr ⟨lw_p0, List.forall_mem_cons.mpr ⟨lw_p1, List.forall_mem_cons.mpr ⟨lw_p2, List.forall_mem_cons.mpr ⟨lw_p3, List.forall_mem_cons.mpr ⟨lw_p4, List.forall_mem_cons.mpr ⟨lw_p5, List.forall_mem_cons.mpr ⟨lw_p6, List.forall_mem_cons.mpr ⟨lw_p7, List.forall_mem_cons.mpr ⟨lw_p8, List.forall_mem_cons.mpr ⟨lw_p9, List.forall_mem_cons.mpr ⟨lw_p10, List.forall_mem_cons.mpr ⟨lw_p11, List.forall_mem_cons.mpr ⟨lw_p12, List.forall_mem_cons.mpr ⟨lw_p13, List.forall_mem_cons.mpr ⟨lw_p14, List.forall_mem_cons.mpr ⟨lw_p15, fun _ h => absurd h List.not_mem_nil⟩⟩⟩⟩⟩⟩⟩⟩⟩⟩⟩⟩⟩⟩⟩⟩
theorem lw_p16 : lw_okq (⟨"WormHeapModel", "countIn", "(I)I"⟩, 34) := ⟨⟨by decide +kernel, by decide +kernel⟩, List.mem_of_getElem? (i := 777) (by decide +kernel), List.mem_of_getElem? (i := 948) (by decide +kernel), List.mem_of_getElem? (i := 949) (by decide +kernel)⟩
theorem lw_p17 : lw_okq (⟨"WormHeapModel", "placesWeigh", "()I"⟩, 34) := ⟨⟨by decide +kernel, by decide +kernel⟩, List.mem_of_getElem? (i := 777) (by decide +kernel), List.mem_of_getElem? (i := 952) (by decide +kernel), List.mem_of_getElem? (i := 953) (by decide +kernel)⟩
theorem lw_p18 : lw_okq (⟨"WormHeapModel", "bagWeighs", "()I"⟩, 34) := ⟨⟨by decide +kernel, by decide +kernel⟩, List.mem_of_getElem? (i := 777) (by decide +kernel), List.mem_of_getElem? (i := 956) (by decide +kernel), List.mem_of_getElem? (i := 957) (by decide +kernel)⟩
theorem lw_p19 : lw_okq (⟨"WormHeapModel", "takePiece", "()V"⟩, 34) := ⟨⟨by decide +kernel, by decide +kernel⟩, List.mem_of_getElem? (i := 777) (by decide +kernel), List.mem_of_getElem? (i := 972) (by decide +kernel), List.mem_of_getElem? (i := 973) (by decide +kernel)⟩
theorem lw_p20 : lw_okq (⟨"WormHeapModel", "here", "()I"⟩, 34) := ⟨⟨by decide +kernel, by decide +kernel⟩, List.mem_of_getElem? (i := 777) (by decide +kernel), List.mem_of_getElem? (i := 976) (by decide +kernel), List.mem_of_getElem? (i := 977) (by decide +kernel)⟩
theorem lw_p21 : lw_okq (⟨"WormHeapModel", "fails", "(I)V"⟩, 34) := ⟨⟨by decide +kernel, by decide +kernel⟩, List.mem_of_getElem? (i := 777) (by decide +kernel), List.mem_of_getElem? (i := 980) (by decide +kernel), List.mem_of_getElem? (i := 981) (by decide +kernel)⟩
theorem lw_p22 : lw_okq (⟨"WormHeapModel", "takeNumber", "()I"⟩, 34) := ⟨⟨by decide +kernel, by decide +kernel⟩, List.mem_of_getElem? (i := 777) (by decide +kernel), List.mem_of_getElem? (i := 984) (by decide +kernel), List.mem_of_getElem? (i := 985) (by decide +kernel)⟩
theorem lw_p23 : lw_okq (⟨"WormHeapModel", "take", "(II)I"⟩, 34) := ⟨⟨by decide +kernel, by decide +kernel⟩, List.mem_of_getElem? (i := 777) (by decide +kernel), List.mem_of_getElem? (i := 990) (by decide +kernel), List.mem_of_getElem? (i := 991) (by decide +kernel)⟩
theorem lw_p24 : lw_okq (⟨"WormHeapModel", "takeAct", "()V"⟩, 34) := ⟨⟨by decide +kernel, by decide +kernel⟩, List.mem_of_getElem? (i := 777) (by decide +kernel), List.mem_of_getElem? (i := 998) (by decide +kernel), List.mem_of_getElem? (i := 999) (by decide +kernel)⟩
theorem lw_p25 : lw_okq (⟨"WormHeapModel", "takeLetter", "()I"⟩, 34) := ⟨⟨by decide +kernel, by decide +kernel⟩, List.mem_of_getElem? (i := 777) (by decide +kernel), List.mem_of_getElem? (i := 1002) (by decide +kernel), List.mem_of_getElem? (i := 1003) (by decide +kernel)⟩
theorem lw_p26 : lw_okq (⟨"WormHeapModel", "takeMark", "(I)V"⟩, 34) := ⟨⟨by decide +kernel, by decide +kernel⟩, List.mem_of_getElem? (i := 777) (by decide +kernel), List.mem_of_getElem? (i := 1006) (by decide +kernel), List.mem_of_getElem? (i := 1007) (by decide +kernel)⟩
theorem lw_p27 : lw_okq (⟨"WormHeapModel", "canBe", "(I)Z"⟩, 34) := ⟨⟨by decide +kernel, by decide +kernel⟩, List.mem_of_getElem? (i := 777) (by decide +kernel), List.mem_of_getElem? (i := 1010) (by decide +kernel), List.mem_of_getElem? (i := 1011) (by decide +kernel)⟩
theorem lw_p28 : lw_okq (⟨"WormHeapModel", "goes", "(I)Z"⟩, 34) := ⟨⟨by decide +kernel, by decide +kernel⟩, List.mem_of_getElem? (i := 777) (by decide +kernel), List.mem_of_getElem? (i := 1023) (by decide +kernel), List.mem_of_getElem? (i := 1024) (by decide +kernel)⟩
theorem lw_p29 : lw_okq (⟨"WormHeapModel", "isFelt", "(I)Z"⟩, 34) := ⟨⟨by decide +kernel, by decide +kernel⟩, List.mem_of_getElem? (i := 777) (by decide +kernel), List.mem_of_getElem? (i := 1027) (by decide +kernel), List.mem_of_getElem? (i := 1028) (by decide +kernel)⟩
theorem lw_p30 : lw_okq (⟨"WormHeapModel", "wake", "()V"⟩, 34) := ⟨⟨by decide +kernel, by decide +kernel⟩, List.mem_of_getElem? (i := 777) (by decide +kernel), List.mem_of_getElem? (i := 1034) (by decide +kernel), List.mem_of_getElem? (i := 1035) (by decide +kernel)⟩
theorem lw_p31 : lw_okq (⟨"WormHeapModel", "doAct", "(I)I"⟩, 34) := ⟨⟨by decide +kernel, by decide +kernel⟩, List.mem_of_getElem? (i := 777) (by decide +kernel), List.mem_of_getElem? (i := 1038) (by decide +kernel), List.mem_of_getElem? (i := 1039) (by decide +kernel)⟩
def lw_privs_2 : List (MethodName × Nat) := [(⟨"WormHeapModel", "countIn", "(I)I"⟩, 34), (⟨"WormHeapModel", "placesWeigh", "()I"⟩, 34), (⟨"WormHeapModel", "bagWeighs", "()I"⟩, 34), (⟨"WormHeapModel", "takePiece", "()V"⟩, 34), (⟨"WormHeapModel", "here", "()I"⟩, 34), (⟨"WormHeapModel", "fails", "(I)V"⟩, 34), (⟨"WormHeapModel", "takeNumber", "()I"⟩, 34), (⟨"WormHeapModel", "take", "(II)I"⟩, 34), (⟨"WormHeapModel", "takeAct", "()V"⟩, 34), (⟨"WormHeapModel", "takeLetter", "()I"⟩, 34), (⟨"WormHeapModel", "takeMark", "(I)V"⟩, 34), (⟨"WormHeapModel", "canBe", "(I)Z"⟩, 34), (⟨"WormHeapModel", "goes", "(I)Z"⟩, 34), (⟨"WormHeapModel", "isFelt", "(I)Z"⟩, 34), (⟨"WormHeapModel", "wake", "()V"⟩, 34), (⟨"WormHeapModel", "doAct", "(I)I"⟩, 34)]
theorem lw_r2 : ∀ q ∈ lw_privs_2, lw_okq q := List.forall_mem_cons.mpr ⟨lw_p16, List.forall_mem_cons.mpr ⟨lw_p17, List.forall_mem_cons.mpr ⟨lw_p18, List.forall_mem_cons.mpr ⟨lw_p19, List.forall_mem_cons.mpr ⟨lw_p20, List.forall_mem_cons.mpr ⟨lw_p21, List.forall_mem_cons.mpr ⟨lw_p22, List.forall_mem_cons.mpr ⟨lw_p23, List.forall_mem_cons.mpr ⟨lw_p24, List.forall_mem_cons.mpr ⟨lw_p25, List.forall_mem_cons.mpr ⟨lw_p26, List.forall_mem_cons.mpr ⟨lw_p27, List.forall_mem_cons.mpr ⟨lw_p28, List.forall_mem_cons.mpr ⟨lw_p29, List.forall_mem_cons.mpr ⟨lw_p30, List.forall_mem_cons.mpr ⟨lw_p31, fun _ h => absurd h List.not_mem_nil⟩⟩⟩⟩⟩⟩⟩⟩⟩⟩⟩⟩⟩⟩⟩⟩
theorem lw_p32 : lw_okq (⟨"WormHeapModel", "takeTop", "(I)I"⟩, 34) := ⟨⟨by decide +kernel, by decide +kernel⟩, List.mem_of_getElem? (i := 777) (by decide +kernel), List.mem_of_getElem? (i := 1042) (by decide +kernel), List.mem_of_getElem? (i := 1043) (by decide +kernel)⟩
theorem lw_p33 : lw_okq (⟨"WormHeapModel", "tryAct", "(I)I"⟩, 34) := ⟨⟨by decide +kernel, by decide +kernel⟩, List.mem_of_getElem? (i := 777) (by decide +kernel), List.mem_of_getElem? (i := 1050) (by decide +kernel), List.mem_of_getElem? (i := 1051) (by decide +kernel)⟩
theorem lw_p34 : lw_okq (⟨"WormHeapModel", "find", "(I)I"⟩, 34) := ⟨⟨by decide +kernel, by decide +kernel⟩, List.mem_of_getElem? (i := 777) (by decide +kernel), List.mem_of_getElem? (i := 1076) (by decide +kernel), List.mem_of_getElem? (i := 1077) (by decide +kernel)⟩
theorem lw_p35 : lw_okq (⟨"WormHeapModel", "lastAct", "(I)I"⟩, 34) := ⟨⟨by decide +kernel, by decide +kernel⟩, List.mem_of_getElem? (i := 777) (by decide +kernel), List.mem_of_getElem? (i := 1080) (by decide +kernel), List.mem_of_getElem? (i := 1081) (by decide +kernel)⟩
theorem lw_p36 : lw_okq (⟨"WormHeapModel", "save", "(I)V"⟩, 34) := ⟨⟨by decide +kernel, by decide +kernel⟩, List.mem_of_getElem? (i := 777) (by decide +kernel), List.mem_of_getElem? (i := 1084) (by decide +kernel), List.mem_of_getElem? (i := 1085) (by decide +kernel)⟩
theorem lw_p37 : lw_okq (⟨"WormHeapModel", "nextAct", "(I)I"⟩, 34) := ⟨⟨by decide +kernel, by decide +kernel⟩, List.mem_of_getElem? (i := 777) (by decide +kernel), List.mem_of_getElem? (i := 1088) (by decide +kernel), List.mem_of_getElem? (i := 1089) (by decide +kernel)⟩
theorem lw_p38 : lw_okq (⟨"WormHeapModel", "isCode", "(I)Z"⟩, 34) := ⟨⟨by decide +kernel, by decide +kernel⟩, List.mem_of_getElem? (i := 777) (by decide +kernel), List.mem_of_getElem? (i := 1092) (by decide +kernel), List.mem_of_getElem? (i := 1093) (by decide +kernel)⟩
theorem lw_p39 : lw_okq (⟨"WormHeapModel", "load", "(I)V"⟩, 34) := ⟨⟨by decide +kernel, by decide +kernel⟩, List.mem_of_getElem? (i := 777) (by decide +kernel), List.mem_of_getElem? (i := 1096) (by decide +kernel), List.mem_of_getElem? (i := 1097) (by decide +kernel)⟩
theorem lw_p40 : lw_okq (⟨"WormHeapModel", "townsThatLie", "()I"⟩, 34) := ⟨⟨by decide +kernel, by decide +kernel⟩, List.mem_of_getElem? (i := 777) (by decide +kernel), List.mem_of_getElem? (i := 1108) (by decide +kernel), List.mem_of_getElem? (i := 1109) (by decide +kernel)⟩
theorem lw_p41 : lw_okq (⟨"WormHeapModel", "against", "(IIII)I"⟩, 34) := ⟨⟨by decide +kernel, by decide +kernel⟩, List.mem_of_getElem? (i := 777) (by decide +kernel), List.mem_of_getElem? (i := 1145) (by decide +kernel), List.mem_of_getElem? (i := 1146) (by decide +kernel)⟩
theorem lw_p42 : lw_okq (⟨"WormHeapModel", "sumIn", "(II)I"⟩, 34) := ⟨⟨by decide +kernel, by decide +kernel⟩, List.mem_of_getElem? (i := 777) (by decide +kernel), List.mem_of_getElem? (i := 1149) (by decide +kernel), List.mem_of_getElem? (i := 1150) (by decide +kernel)⟩
def lw_privs_3 : List (MethodName × Nat) := [(⟨"WormHeapModel", "takeTop", "(I)I"⟩, 34), (⟨"WormHeapModel", "tryAct", "(I)I"⟩, 34), (⟨"WormHeapModel", "find", "(I)I"⟩, 34), (⟨"WormHeapModel", "lastAct", "(I)I"⟩, 34), (⟨"WormHeapModel", "save", "(I)V"⟩, 34), (⟨"WormHeapModel", "nextAct", "(I)I"⟩, 34), (⟨"WormHeapModel", "isCode", "(I)Z"⟩, 34), (⟨"WormHeapModel", "load", "(I)V"⟩, 34), (⟨"WormHeapModel", "townsThatLie", "()I"⟩, 34), (⟨"WormHeapModel", "against", "(IIII)I"⟩, 34), (⟨"WormHeapModel", "sumIn", "(II)I"⟩, 34)]
theorem lw_r3 : ∀ q ∈ lw_privs_3, lw_okq q := List.forall_mem_cons.mpr ⟨lw_p32, List.forall_mem_cons.mpr ⟨lw_p33, List.forall_mem_cons.mpr ⟨lw_p34, List.forall_mem_cons.mpr ⟨lw_p35, List.forall_mem_cons.mpr ⟨lw_p36, List.forall_mem_cons.mpr ⟨lw_p37, List.forall_mem_cons.mpr ⟨lw_p38, List.forall_mem_cons.mpr ⟨lw_p39, List.forall_mem_cons.mpr ⟨lw_p40, List.forall_mem_cons.mpr ⟨lw_p41, List.forall_mem_cons.mpr ⟨lw_p42, fun _ h => absurd h List.not_mem_nil⟩⟩⟩⟩⟩⟩⟩⟩⟩⟩⟩
def lw_privs : List (MethodName × Nat) := lw_privs_1 ++ (lw_privs_2 ++ (lw_privs_3))
def lw_tbl : List Cond := k2_sels lw_privs ++ tables_1
theorem lw_privs_ok : ∀ q ∈ lw_privs, lw_okq q := by
  show ∀ q ∈ lw_privs_1 ++ (lw_privs_2 ++ (lw_privs_3)), lw_okq q
  exact List.forall_mem_append.mpr ⟨lw_r1, List.forall_mem_append.mpr ⟨lw_r2, lw_r3⟩⟩
-- ===== end of PART A; then your names; then what follows =====
def RX0 : String := "WormHeap$Act"
def TX0 : u_T := fun k => match k with
  | _ => ("", "", "", false)
def tyX0 : Nat → FieldType := fun k => match k with
  | _ => .int
theorem nmX0 : ∀ a, a < 0 → ∀ b, b < 0 → a ≠ b → (TX0 a).2.1 ≠ (TX0 b).2.1 := by decide +kernel
theorem tyX0_ok : ∀ k, k < 0 → parseFieldDescriptor (TX0 k).2.2.1 = some (tyX0 k) := by decide +kernel
abbrev cX0_code : ByteArray := prog_2_method_2_code
def yX0_code : MethodName := ⟨RX0, "code", "(III)I"⟩
abbrev cX0_how : ByteArray := prog_2_method_3_code
def yX0_how : MethodName := ⟨RX0, "how", "(I)I"⟩
abbrev cX0_where : ByteArray := prog_2_method_4_code
def yX0_where : MethodName := ⟨RX0, "where", "(I)I"⟩
abbrev cX0_other : ByteArray := prog_2_method_5_code
def yX0_other : MethodName := ⟨RX0, "other", "(I)I"⟩
abbrev cX0_back : ByteArray := prog_2_method_6_code
def yX0_back : MethodName := ⟨RX0, "back", "(II)I"⟩
def RX1 : String := "WormHeap$Dent"
def TX1 : u_T := fun k => match k with
  | _ => ("", "", "", false)
def tyX1 : Nat → FieldType := fun k => match k with
  | _ => .int
theorem nmX1 : ∀ a, a < 0 → ∀ b, b < 0 → a ≠ b → (TX1 a).2.1 ≠ (TX1 b).2.1 := by decide +kernel
theorem tyX1_ok : ∀ k, k < 0 → parseFieldDescriptor (TX1 k).2.2.1 = some (tyX1 k) := by decide +kernel
abbrev cX1_setsBy : ByteArray := prog_3_method_2_code
def yX1_setsBy : MethodName := ⟨RX1, "setsBy", "(LWormHeap$Gold;IJ)I"⟩
abbrev cX1_leastBy : ByteArray := prog_3_method_3_code
def yX1_leastBy : MethodName := ⟨RX1, "leastBy", "(LWormHeap$Gold;IJ)I"⟩
abbrev cX1_nextSubset : ByteArray := prog_3_method_4_code
def yX1_nextSubset : MethodName := ⟨RX1, "nextSubset", "(II)I"⟩
def RX2 : String := "WormHeap$Gold"
def TX2 : u_T := fun k => match k with
  | 0 => ("WormHeap$Gold", "kind", "[I", true)
  | 1 => ("WormHeap$Gold", "weight", "[I", true)
  | 2 => ("WormHeap$Gold", "town", "[I", true)
  | 3 => ("WormHeap$Gold", "place", "[I", true)
  | 4 => ("WormHeap$Gold", "below", "[I", true)
  | 5 => ("WormHeap$Gold", "top", "[I", true)
  | 6 => ("WormHeap$Gold", "sense", "[I", true)
  | 7 => ("WormHeap$Gold", "pieces", "I", false)
  | _ => ("WormHeap$Gold", "awake", "I", false)
def tyX2 : Nat → FieldType := fun k => match k with
  | 0 => .array .int
  | 1 => .array .int
  | 2 => .array .int
  | 3 => .array .int
  | 4 => .array .int
  | 5 => .array .int
  | 6 => .array .int
  | 7 => .int
  | _ => .int
theorem nmX2 : ∀ a, a < 9 → ∀ b, b < 9 → a ≠ b → (TX2 a).2.1 ≠ (TX2 b).2.1 := by decide +kernel
theorem tyX2_ok : ∀ k, k < 9 → parseFieldDescriptor (TX2 k).2.2.1 = some (tyX2 k) := by decide +kernel
abbrev cX2_init : ByteArray := prog_4_method_1_code
def yX2_init : MethodName := ⟨RX2, "<init>", "()V"⟩
abbrev cX2_isPiece : ByteArray := prog_4_method_2_code
def yX2_isPiece : MethodName := ⟨RX2, "isPiece", "(I)Z"⟩
abbrev cX2_pieces : ByteArray := prog_4_method_3_code
def yX2_pieces : MethodName := ⟨RX2, "pieces", "()I"⟩
abbrev cX2_timesAwake : ByteArray := prog_4_method_4_code
def yX2_timesAwake : MethodName := ⟨RX2, "timesAwake", "()I"⟩
abbrev cX2_kindOf : ByteArray := prog_4_method_5_code
def yX2_kindOf : MethodName := ⟨RX2, "kindOf", "(I)I"⟩
abbrev cX2_weighs : ByteArray := prog_4_method_6_code
def yX2_weighs : MethodName := ⟨RX2, "weighs", "(I)I"⟩
abbrev cX2_ownerOf : ByteArray := prog_4_method_7_code
def yX2_ownerOf : MethodName := ⟨RX2, "ownerOf", "(I)I"⟩
abbrev cX2_placeOf : ByteArray := prog_4_method_8_code
def yX2_placeOf : MethodName := ⟨RX2, "placeOf", "(I)I"⟩
abbrev cX2_offOf : ByteArray := prog_4_method_9_code
def yX2_offOf : MethodName := ⟨RX2, "offOf", "(I)I"⟩
abbrev cX2_belowOf : ByteArray := prog_4_method_10_code
def yX2_belowOf : MethodName := ⟨RX2, "belowOf", "(I)I"⟩
abbrev cX2_topOf : ByteArray := prog_4_method_11_code
def yX2_topOf : MethodName := ⟨RX2, "topOf", "(I)I"⟩
abbrev cX2_senseOf : ByteArray := prog_4_method_12_code
def yX2_senseOf : MethodName := ⟨RX2, "senseOf", "(I)I"⟩
abbrev cX2_becomeFine : ByteArray := prog_4_method_13_code
def yX2_becomeFine : MethodName := ⟨RX2, "becomeFine", "(II)V"⟩
abbrev cX2_loadIn : ByteArray := prog_4_method_14_code
def yX2_loadIn : MethodName := ⟨RX2, "loadIn", "(I)I"⟩
abbrev cX2_loadInPlaces : ByteArray := prog_4_method_15_code
def yX2_loadInPlaces : MethodName := ⟨RX2, "loadInPlaces", "()I"⟩
abbrev cX2_loadInBagOf : ByteArray := prog_4_method_16_code
def yX2_loadInBagOf : MethodName := ⟨RX2, "loadInBagOf", "(I)I"⟩
abbrev cX2_setIn : ByteArray := prog_4_method_17_code
def yX2_setIn : MethodName := ⟨RX2, "setIn", "(I)I"⟩
abbrev cX2_piecesIn : ByteArray := prog_4_method_18_code
def yX2_piecesIn : MethodName := ⟨RX2, "piecesIn", "(I)I"⟩
abbrev cX2_piecesInPlaces : ByteArray := prog_4_method_19_code
def yX2_piecesInPlaces : MethodName := ⟨RX2, "piecesInPlaces", "()I"⟩
abbrev cX2_weighsSet : ByteArray := prog_4_method_20_code
def yX2_weighsSet : MethodName := ⟨RX2, "weighsSet", "(I)I"⟩
abbrev cX2_add : ByteArray := prog_4_method_21_code
def yX2_add : MethodName := ⟨RX2, "add", "(IIII)I"⟩
abbrev cX2_clearPieces : ByteArray := prog_4_method_22_code
def yX2_clearPieces : MethodName := ⟨RX2, "clearPieces", "()V"⟩
abbrev cX2_becomeLike : ByteArray := prog_4_method_23_code
def yX2_becomeLike : MethodName := ⟨RX2, "becomeLike", "(LWormHeap$Gold;)V"⟩
abbrev cX2_put : ByteArray := prog_4_method_24_code
def yX2_put : MethodName := ⟨RX2, "put", "(II)V"⟩
abbrev cX2_take : ByteArray := prog_4_method_25_code
def yX2_take : MethodName := ⟨RX2, "take", "(I)I"⟩
abbrev cX2_turnOver : ByteArray := prog_4_method_26_code
def yX2_turnOver : MethodName := ⟨RX2, "turnOver", "()V"⟩
abbrev cX2_turned : ByteArray := prog_4_method_27_code
def yX2_turned : MethodName := ⟨RX2, "turned", "(I)I"⟩
abbrev cX2_tryAct : ByteArray := prog_4_method_28_code
def yX2_tryAct : MethodName := ⟨RX2, "tryAct", "(I)I"⟩
abbrev cX2_canBe : ByteArray := prog_4_method_29_code
def yX2_canBe : MethodName := ⟨RX2, "canBe", "(I)Z"⟩
abbrev cX2_isFelt : ByteArray := prog_4_method_30_code
def yX2_isFelt : MethodName := ⟨RX2, "isFelt", "(I)Z"⟩
abbrev cX2_isAboveSense : ByteArray := prog_4_method_31_code
def yX2_isAboveSense : MethodName := ⟨RX2, "isAboveSense", "(II)Z"⟩
abbrev cX2_doAct : ByteArray := prog_4_method_32_code
def yX2_doAct : MethodName := ⟨RX2, "doAct", "(I)V"⟩
abbrev cX2_eat : ByteArray := prog_4_method_33_code
def yX2_eat : MethodName := ⟨RX2, "eat", "()V"⟩
def RX3 : String := "WormHeap$HeapText"
def TX3 : u_T := fun k => match k with
  | 0 => ("WormHeap$HeapText", "kind", "[I", true)
  | 1 => ("WormHeap$HeapText", "weight", "[I", true)
  | 2 => ("WormHeap$HeapText", "town", "[I", true)
  | _ => ("WormHeap$HeapText", "place", "[I", true)
def tyX3 : Nat → FieldType := fun k => match k with
  | 0 => .array .int
  | 1 => .array .int
  | 2 => .array .int
  | _ => .array .int
theorem nmX3 : ∀ a, a < 4 → ∀ b, b < 4 → a ≠ b → (TX3 a).2.1 ≠ (TX3 b).2.1 := by decide +kernel
theorem tyX3_ok : ∀ k, k < 4 → parseFieldDescriptor (TX3 k).2.2.1 = some (tyX3 k) := by decide +kernel
abbrev cX3_init : ByteArray := prog_5_method_1_code
def yX3_init : MethodName := ⟨RX3, "<init>", "()V"⟩
abbrev cX3_read : ByteArray := prog_5_method_2_code
def yX3_read : MethodName := ⟨RX3, "read", "(LWormHeap$Tape;)I"⟩
abbrev cX3_readPiece : ByteArray := prog_5_method_3_code
def yX3_readPiece : MethodName := ⟨RX3, "readPiece", "(LWormHeap$Tape;I)Z"⟩
abbrev cX3_layOut : ByteArray := prog_5_method_4_code
def yX3_layOut : MethodName := ⟨RX3, "layOut", "(LWormHeap$Gold;I)V"⟩
def RX4 : String := "WormHeap$NightText"
def TX4 : u_T := fun k => match k with
  | _ => ("WormHeap$NightText", "acts", "[I", true)
def tyX4 : Nat → FieldType := fun k => match k with
  | _ => .array .int
theorem nmX4 : ∀ a, a < 1 → ∀ b, b < 1 → a ≠ b → (TX4 a).2.1 ≠ (TX4 b).2.1 := by decide +kernel
theorem tyX4_ok : ∀ k, k < 1 → parseFieldDescriptor (TX4 k).2.2.1 = some (tyX4 k) := by decide +kernel
abbrev cX4_init : ByteArray := prog_6_method_1_code
def yX4_init : MethodName := ⟨RX4, "<init>", "()V"⟩
abbrev cX4_read : ByteArray := prog_6_method_2_code
def yX4_read : MethodName := ⟨RX4, "read", "(LWormHeap$Tape;I)I"⟩
abbrev cX4_readAct : ByteArray := prog_6_method_3_code
def yX4_readAct : MethodName := ⟨RX4, "readAct", "(LWormHeap$Tape;I)I"⟩
abbrev cX4_act : ByteArray := prog_6_method_4_code
def yX4_act : MethodName := ⟨RX4, "act", "(LWormHeap$Gold;I)I"⟩
def RX5 : String := "WormHeap$Sheet"
def TX5 : u_T := fun k => match k with
  | 0 => ("WormHeap$Sheet", "row", "[J", true)
  | 1 => ("WormHeap$Sheet", "lane", "I", false)
  | _ => ("WormHeap$Sheet", "size", "I", false)
def tyX5 : Nat → FieldType := fun k => match k with
  | 0 => .array .long
  | 1 => .int
  | _ => .int
theorem nmX5 : ∀ a, a < 3 → ∀ b, b < 3 → a ≠ b → (TX5 a).2.1 ≠ (TX5 b).2.1 := by decide +kernel
theorem tyX5_ok : ∀ k, k < 3 → parseFieldDescriptor (TX5 k).2.2.1 = some (tyX5 k) := by decide +kernel
abbrev cX5_init : ByteArray := prog_7_method_1_code
def yX5_init : MethodName := ⟨RX5, "<init>", "()V"⟩
abbrev cX5_holdsRow : ByteArray := prog_7_method_2_code
def yX5_holdsRow : MethodName := ⟨RX5, "holdsRow", "()Z"⟩
abbrev cX5_isOfLane : ByteArray := prog_7_method_3_code
def yX5_isOfLane : MethodName := ⟨RX5, "isOfLane", "(LWormHeap$Sheet;)Z"⟩
abbrev cX5_hasItems : ByteArray := prog_7_method_4_code
def yX5_hasItems : MethodName := ⟨RX5, "hasItems", "(II)Z"⟩
abbrev cX5_refusal : ByteArray := prog_7_method_5_code
def yX5_refusal : MethodName := ⟨RX5, "refusal", "(III)I"⟩
abbrev cX5_renew : ByteArray := prog_7_method_6_code
def yX5_renew : MethodName := ⟨RX5, "renew", "(II)V"⟩
abbrev cX5_clear : ByteArray := prog_7_method_7_code
def yX5_clear : MethodName := ⟨RX5, "clear", "()I"⟩
abbrev cX5_itemAt : ByteArray := prog_7_method_8_code
def yX5_itemAt : MethodName := ⟨RX5, "itemAt", "(I)J"⟩
abbrev cX5_becomeAt : ByteArray := prog_7_method_9_code
def yX5_becomeAt : MethodName := ⟨RX5, "becomeAt", "(IJ)V"⟩
abbrev cX5_takeItems : ByteArray := prog_7_method_10_code
def yX5_takeItems : MethodName := ⟨RX5, "takeItems", "(ILWormHeap$Sheet;II)V"⟩
def RX6 : String := "WormHeap$Tape"
def TX6 : u_T := fun k => match k with
  | 0 => ("WormHeap$Tape", "bytes", "[C", true)
  | 1 => ("WormHeap$Tape", "length", "I", false)
  | _ => ("WormHeap$Tape", "at", "I", false)
def tyX6 : Nat → FieldType := fun k => match k with
  | 0 => .array .char
  | 1 => .int
  | _ => .int
theorem nmX6 : ∀ a, a < 3 → ∀ b, b < 3 → a ≠ b → (TX6 a).2.1 ≠ (TX6 b).2.1 := by decide +kernel
theorem tyX6_ok : ∀ k, k < 3 → parseFieldDescriptor (TX6 k).2.2.1 = some (tyX6 k) := by decide +kernel
abbrev cX6_init : ByteArray := prog_8_method_1_code
def yX6_init : MethodName := ⟨RX6, "<init>", "()V"⟩
abbrev cX6_append : ByteArray := prog_8_method_2_code
def yX6_append : MethodName := ⟨RX6, "append", "(JI)I"⟩
abbrev cX6_byteOf : ByteArray := prog_8_method_3_code
def yX6_byteOf : MethodName := ⟨RX6, "byteOf", "(JI)I"⟩
abbrev cX6_empty : ByteArray := prog_8_method_4_code
def yX6_empty : MethodName := ⟨RX6, "empty", "()V"⟩
abbrev cX6_fault : ByteArray := prog_8_method_5_code
def yX6_fault : MethodName := ⟨RX6, "fault", "()I"⟩
abbrev cX6_isAtEnd : ByteArray := prog_8_method_6_code
def yX6_isAtEnd : MethodName := ⟨RX6, "isAtEnd", "()Z"⟩
abbrev cX6_skipBlanks : ByteArray := prog_8_method_7_code
def yX6_skipBlanks : MethodName := ⟨RX6, "skipBlanks", "()V"⟩
abbrev cX6_choice : ByteArray := prog_8_method_8_code
def yX6_choice : MethodName := ⟨RX6, "choice", "(Ljava/lang/String;)I"⟩
abbrev cX6_choice_ : ByteArray := prog_8_method_9_code
def yX6_choice_ : MethodName := ⟨RX6, "choice", "(Ljava/lang/String;II)I"⟩
abbrev cX6_number : ByteArray := prog_8_method_10_code
def yX6_number : MethodName := ⟨RX6, "number", "()I"⟩
def RX7 : String := "WormHeap$Thief"
def TX7 : u_T := fun k => match k with
  | _ => ("WormHeap$Thief", "row", "[I", true)
def tyX7 : Nat → FieldType := fun k => match k with
  | _ => .array .int
theorem nmX7 : ∀ a, a < 1 → ∀ b, b < 1 → a ≠ b → (TX7 a).2.1 ≠ (TX7 b).2.1 := by decide +kernel
theorem tyX7_ok : ∀ k, k < 1 → parseFieldDescriptor (TX7 k).2.2.1 = some (tyX7 k) := by decide +kernel
abbrev cX7_init : ByteArray := prog_9_method_1_code
def yX7_init : MethodName := ⟨RX7, "<init>", "()V"⟩
abbrev cX7_fewestActs : ByteArray := prog_9_method_2_code
def yX7_fewestActs : MethodName := ⟨RX7, "fewestActs", "(LWormHeap$Gold;I)I"⟩
abbrev cX7_codeAt : ByteArray := prog_9_method_3_code
def yX7_codeAt : MethodName := ⟨RX7, "codeAt", "(I)I"⟩
abbrev cX7_search : ByteArray := prog_9_method_4_code
def yX7_search : MethodName := ⟨RX7, "search", "(LWormHeap$Gold;I[III)Z"⟩
abbrev cX7_canHelp : ByteArray := prog_9_method_5_code
def yX7_canHelp : MethodName := ⟨RX7, "canHelp", "(IZI)Z"⟩
abbrev cX7_othersOf : ByteArray := prog_9_method_6_code
def yX7_othersOf : MethodName := ⟨RX7, "othersOf", "(LWormHeap$Gold;I)I"⟩
abbrev cX7_leads : ByteArray := prog_9_method_7_code
def yX7_leads : MethodName := ⟨RX7, "leads", "(LWormHeap$Gold;I[III)Z"⟩
def RX8 : String := "WormHeap$Towns"
def TX8 : u_T := fun k => match k with
  | 0 => ("WormHeap$Towns", "fewest", "[I", true)
  | _ => ("WormHeap$Towns", "next", "[I", true)
def tyX8 : Nat → FieldType := fun k => match k with
  | 0 => .array .int
  | _ => .array .int
theorem nmX8 : ∀ a, a < 2 → ∀ b, b < 2 → a ≠ b → (TX8 a).2.1 ≠ (TX8 b).2.1 := by decide +kernel
theorem tyX8_ok : ∀ k, k < 2 → parseFieldDescriptor (TX8 k).2.2.1 = some (tyX8 k) := by decide +kernel
abbrev cX8_init : ByteArray := prog_10_method_1_code
def yX8_init : MethodName := ⟨RX8, "<init>", "()V"⟩
abbrev cX8_pairsUnder : ByteArray := prog_10_method_2_code
def yX8_pairsUnder : MethodName := ⟨RX8, "pairsUnder", "(LWormHeap$Gold;I)I"⟩
abbrev cX8_fewestAstray : ByteArray := prog_10_method_3_code
def yX8_fewestAstray : MethodName := ⟨RX8, "fewestAstray", "(LWormHeap$Gold;)I"⟩
abbrev cX8_give : ByteArray := prog_10_method_4_code
def yX8_give : MethodName := ⟨RX8, "give", "(LWormHeap$Gold;I)V"⟩
abbrev cX8_astrayIn : ByteArray := prog_10_method_5_code
def yX8_astrayIn : MethodName := ⟨RX8, "astrayIn", "(LWormHeap$Gold;II)I"⟩
abbrev cX8_townsInPlaces : ByteArray := prog_10_method_6_code
def yX8_townsInPlaces : MethodName := ⟨RX8, "townsInPlaces", "(LWormHeap$Gold;)I"⟩
def RX9 : String := "WormHeap"
def TX9 : u_T := fun k => match k with
  | 0 => ("WormHeap", "gold", "LWormHeap$Gold;", true)
  | 1 => ("WormHeap", "kept", "LWormHeap$Gold;", true)
  | 2 => ("WormHeap", "hasImage", "Z", false)
  | 3 => ("WormHeap", "thief", "LWormHeap$Thief;", true)
  | 4 => ("WormHeap", "towns", "LWormHeap$Towns;", true)
  | 5 => ("WormHeap", "tape", "LWormHeap$Tape;", true)
  | 6 => ("WormHeap", "heapText", "LWormHeap$HeapText;", true)
  | 7 => ("WormHeap", "nightText", "LWormHeap$NightText;", true)
  | _ => ("WormHeap", "sheets", "[LWormHeap$Sheet;", true)
def tyX9 : Nat → FieldType := fun k => match k with
  | 0 => .object "WormHeap$Gold"
  | 1 => .object "WormHeap$Gold"
  | 2 => .boolean
  | 3 => .object "WormHeap$Thief"
  | 4 => .object "WormHeap$Towns"
  | 5 => .object "WormHeap$Tape"
  | 6 => .object "WormHeap$HeapText"
  | 7 => .object "WormHeap$NightText"
  | _ => .array (.object "WormHeap$Sheet")
theorem nmX9 : ∀ a, a < 9 → ∀ b, b < 9 → a ≠ b → (TX9 a).2.1 ≠ (TX9 b).2.1 := by decide +kernel
theorem tyX9_ok : ∀ k, k < 9 → parseFieldDescriptor (TX9 k).2.2.1 = some (tyX9 k) := by decide +kernel
abbrev cX9_init : ByteArray := prog_1_method_1_code
def yX9_init : MethodName := ⟨RX9, "<init>", "()V"⟩
abbrev cX9_piece : ByteArray := prog_1_method_2_code
def yX9_piece : MethodName := ⟨RX9, "piece", "(IIII)I"⟩
abbrev cX9_told : ByteArray := prog_1_method_3_code
def yX9_told : MethodName := ⟨RX9, "told", "(II)I"⟩
abbrev cX9_of : ByteArray := prog_1_method_4_code
def yX9_of : MethodName := ⟨RX9, "of", "(II)I"⟩
abbrev cX9_sense : ByteArray := prog_1_method_5_code
def yX9_sense : MethodName := ⟨RX9, "sense", "(II)I"⟩
abbrev cX9_type : ByteArray := prog_1_method_6_code
def yX9_type : MethodName := ⟨RX9, "type", "(JI)I"⟩
abbrev cX9_heap : ByteArray := prog_1_method_7_code
def yX9_heap : MethodName := ⟨RX9, "heap", "()I"⟩
abbrev cX9_night : ByteArray := prog_1_method_8_code
def yX9_night : MethodName := ⟨RX9, "night", "()I"⟩
abbrev cX9_count : ByteArray := prog_1_method_9_code
def yX9_count : MethodName := ⟨RX9, "count", "(I)I"⟩
abbrev cX9_lift : ByteArray := prog_1_method_10_code
def yX9_lift : MethodName := ⟨RX9, "lift", "(I)I"⟩
abbrev cX9_lay : ByteArray := prog_1_method_11_code
def yX9_lay : MethodName := ⟨RX9, "lay", "(II)I"⟩
abbrev cX9_swap : ByteArray := prog_1_method_12_code
def yX9_swap : MethodName := ⟨RX9, "swap", "(II)I"⟩
abbrev cX9_push : ByteArray := prog_1_method_13_code
def yX9_push : MethodName := ⟨RX9, "push", "(II)I"⟩
abbrev cX9_turn : ByteArray := prog_1_method_14_code
def yX9_turn : MethodName := ⟨RX9, "turn", "()I"⟩
abbrev cX9_had : ByteArray := prog_1_method_15_code
def yX9_had : MethodName := ⟨RX9, "had", "(II)I"⟩
abbrev cX9_under : ByteArray := prog_1_method_16_code
def yX9_under : MethodName := ⟨RX9, "under", "(I)I"⟩
abbrev cX9_own : ByteArray := prog_1_method_17_code
def yX9_own : MethodName := ⟨RX9, "own", "()I"⟩
abbrev cX9_odds : ByteArray := prog_1_method_18_code
def yX9_odds : MethodName := ⟨RX9, "odds", "(IIIII)I"⟩
abbrev cX9_share : ByteArray := prog_1_method_19_code
def yX9_share : MethodName := ⟨RX9, "share", "(III)I"⟩
abbrev cX9_image : ByteArray := prog_1_method_20_code
def yX9_image : MethodName := ⟨RX9, "image", "()I"⟩
abbrev cX9_restore : ByteArray := prog_1_method_21_code
def yX9_restore : MethodName := ⟨RX9, "restore", "()I"⟩
abbrev cX9_dents : ByteArray := prog_1_method_22_code
def yX9_dents : MethodName := ⟨RX9, "dents", "(IIII)I"⟩
abbrev cX9_tried : ByteArray := prog_1_method_23_code
def yX9_tried : MethodName := ⟨RX9, "tried", "(IIIII)I"⟩
abbrev cX9_film : ByteArray := prog_1_method_24_code
def yX9_film : MethodName := ⟨RX9, "film", "(III)I"⟩
abbrev cX9_sheet : ByteArray := prog_1_method_25_code
def yX9_sheet : MethodName := ⟨RX9, "sheet", "(III)I"⟩
abbrev cX9_drop : ByteArray := prog_1_method_26_code
def yX9_drop : MethodName := ⟨RX9, "drop", "(I)I"⟩
abbrev cX9_item : ByteArray := prog_1_method_27_code
def yX9_item : MethodName := ⟨RX9, "item", "(IIIJ)I"⟩
abbrev cX9_copy : ByteArray := prog_1_method_28_code
def yX9_copy : MethodName := ⟨RX9, "copy", "(IIIII)I"⟩
abbrev cX9_isIn : ByteArray := prog_1_method_29_code
def yX9_isIn : MethodName := ⟨RX9, "isIn", "(III)Z"⟩
abbrev cX9_isPlace : ByteArray := prog_1_method_30_code
def yX9_isPlace : MethodName := ⟨RX9, "isPlace", "(I)Z"⟩
abbrev cX9_isTown : ByteArray := prog_1_method_31_code
def yX9_isTown : MethodName := ⟨RX9, "isTown", "(I)Z"⟩
abbrev cX9_isLane : ByteArray := prog_1_method_32_code
def yX9_isLane : MethodName := ⟨RX9, "isLane", "(I)Z"⟩
abbrev cX9_isPart : ByteArray := prog_1_method_33_code
def yX9_isPart : MethodName := ⟨RX9, "isPart", "(I)Z"⟩
abbrev cX9_holds : ByteArray := prog_1_method_34_code
def yX9_holds : MethodName := ⟨RX9, "holds", "(II)Z"⟩
abbrev cX9_sheetAt : ByteArray := prog_1_method_35_code
def yX9_sheetAt : MethodName := ⟨RX9, "sheetAt", "(I)LWormHeap$Sheet;"⟩
abbrev cX9_amongSenses : ByteArray := prog_1_method_36_code
def yX9_amongSenses : MethodName := ⟨RX9, "amongSenses", "(III)I"⟩
abbrev cX9_power : ByteArray := prog_1_method_37_code
def yX9_power : MethodName := ⟨RX9, "power", "(II)I"⟩
abbrev cX9_partOf : ByteArray := prog_1_method_38_code
def yX9_partOf : MethodName := ⟨RX9, "partOf", "(III)I"⟩
abbrev cX9_commonDivisor : ByteArray := prog_1_method_39_code
def yX9_commonDivisor : MethodName := ⟨RX9, "commonDivisor", "(II)I"⟩
def RX10 : String := "WormHeapModel"
def TX10 : u_T := fun k => match k with
  | 0 => ("WormHeapModel", "pieces", "I", false)
  | 1 => ("WormHeapModel", "kind", "[I", true)
  | 2 => ("WormHeapModel", "weight", "[I", true)
  | 3 => ("WormHeapModel", "town", "[I", true)
  | 4 => ("WormHeapModel", "where", "[I", true)
  | 5 => ("WormHeapModel", "many", "[I", true)
  | 6 => ("WormHeapModel", "pile", "[I", true)
  | 7 => ("WormHeapModel", "sense", "[I", true)
  | 8 => ("WormHeapModel", "awake", "I", false)
  | 9 => ("WormHeapModel", "tape", "[I", true)
  | 10 => ("WormHeapModel", "taped", "I", false)
  | 11 => ("WormHeapModel", "at0", "I", false)
  | 12 => ("WormHeapModel", "fault", "I", false)
  | 13 => ("WormHeapModel", "readPieces", "I", false)
  | 14 => ("WormHeapModel", "readKind", "[I", true)
  | 15 => ("WormHeapModel", "readWeight", "[I", true)
  | 16 => ("WormHeapModel", "readTown", "[I", true)
  | 17 => ("WormHeapModel", "readPlace", "[I", true)
  | 18 => ("WormHeapModel", "acts", "I", false)
  | 19 => ("WormHeapModel", "act", "[I", true)
  | 20 => ("WormHeapModel", "turned", "[I", true)
  | 21 => ("WormHeapModel", "turnedMany", "[I", true)
  | 22 => ("WormHeapModel", "stateWhere", "[I", true)
  | 23 => ("WormHeapModel", "stateMany", "[I", true)
  | 24 => ("WormHeapModel", "statePile", "[I", true)
  | 25 => ("WormHeapModel", "row", "[I", true)
  | 26 => ("WormHeapModel", "isImage", "Z", false)
  | 27 => ("WormHeapModel", "imagePieces", "I", false)
  | 28 => ("WormHeapModel", "imageAwake", "I", false)
  | 29 => ("WormHeapModel", "image", "[I", true)
  | 30 => ("WormHeapModel", "lane", "[I", true)
  | 31 => ("WormHeapModel", "items", "[I", true)
  | 32 => ("WormHeapModel", "item", "[J", true)
  | _ => ("WormHeapModel", "copied", "[J", true)
def tyX10 : Nat → FieldType := fun k => match k with
  | 0 => .int
  | 1 => .array .int
  | 2 => .array .int
  | 3 => .array .int
  | 4 => .array .int
  | 5 => .array .int
  | 6 => .array .int
  | 7 => .array .int
  | 8 => .int
  | 9 => .array .int
  | 10 => .int
  | 11 => .int
  | 12 => .int
  | 13 => .int
  | 14 => .array .int
  | 15 => .array .int
  | 16 => .array .int
  | 17 => .array .int
  | 18 => .int
  | 19 => .array .int
  | 20 => .array .int
  | 21 => .array .int
  | 22 => .array .int
  | 23 => .array .int
  | 24 => .array .int
  | 25 => .array .int
  | 26 => .boolean
  | 27 => .int
  | 28 => .int
  | 29 => .array .int
  | 30 => .array .int
  | 31 => .array .int
  | 32 => .array .long
  | _ => .array .long
theorem nmX10 : ∀ a, a < 34 → ∀ b, b < 34 → a ≠ b → (TX10 a).2.1 ≠ (TX10 b).2.1 := by decide +kernel
theorem tyX10_ok : ∀ k, k < 34 → parseFieldDescriptor (TX10 k).2.2.1 = some (tyX10 k) := by decide +kernel
abbrev cX10_init : ByteArray := prog_12_method_1_code
def yX10_init : MethodName := ⟨RX10, "<init>", "()V"⟩
abbrev cX10_in : ByteArray := prog_12_method_3_code
def yX10_in : MethodName := ⟨RX10, "in", "(JJJ)Z"⟩
abbrev cX10_isPiece : ByteArray := prog_12_method_4_code
def yX10_isPiece : MethodName := ⟨RX10, "isPiece", "(I)Z"⟩
abbrev cX10_isPlace : ByteArray := prog_12_method_5_code
def yX10_isPlace : MethodName := ⟨RX10, "isPlace", "(I)Z"⟩
abbrev cX10_weighs : ByteArray := prog_12_method_6_code
def yX10_weighs : MethodName := ⟨RX10, "weighs", "(I)I"⟩
abbrev cX10_townOf : ByteArray := prog_12_method_7_code
def yX10_townOf : MethodName := ⟨RX10, "townOf", "(I)I"⟩
abbrev cX10_topOf : ByteArray := prog_12_method_8_code
def yX10_topOf : MethodName := ⟨RX10, "topOf", "(I)I"⟩
abbrev cX10_put : ByteArray := prog_12_method_9_code
def yX10_put : MethodName := ⟨RX10, "put", "(II)V"⟩
abbrev cX10_takeTop : ByteArray := prog_12_method_10_code
def yX10_takeTop : MethodName := ⟨RX10, "takeTop", "(I)I"⟩
abbrev cX10_loadOf : ByteArray := prog_12_method_11_code
def yX10_loadOf : MethodName := ⟨RX10, "loadOf", "(I)I"⟩
abbrev cX10_addPiece : ByteArray := prog_12_method_12_code
def yX10_addPiece : MethodName := ⟨RX10, "addPiece", "(IIII)V"⟩
abbrev cX10_piece : ByteArray := prog_12_method_13_code
def yX10_piece : MethodName := ⟨RX10, "piece", "(IIII)I"⟩
abbrev cX10_offOf : ByteArray := prog_12_method_14_code
def yX10_offOf : MethodName := ⟨RX10, "offOf", "(I)I"⟩
abbrev cX10_told : ByteArray := prog_12_method_15_code
def yX10_told : MethodName := ⟨RX10, "told", "(II)I"⟩
abbrev cX10_of : ByteArray := prog_12_method_16_code
def yX10_of : MethodName := ⟨RX10, "of", "(II)I"⟩
abbrev cX10_sense : ByteArray := prog_12_method_17_code
def yX10_sense : MethodName := ⟨RX10, "sense", "(II)I"⟩
abbrev cX10_countIn : ByteArray := prog_12_method_18_code
def yX10_countIn : MethodName := ⟨RX10, "countIn", "(I)I"⟩
abbrev cX10_bagWeighs : ByteArray := prog_12_method_19_code
def yX10_bagWeighs : MethodName := ⟨RX10, "bagWeighs", "()I"⟩
abbrev cX10_placesWeigh : ByteArray := prog_12_method_20_code
def yX10_placesWeigh : MethodName := ⟨RX10, "placesWeigh", "()I"⟩
abbrev cX10_count : ByteArray := prog_12_method_21_code
def yX10_count : MethodName := ⟨RX10, "count", "(I)I"⟩
abbrev cX10_type : ByteArray := prog_12_method_22_code
def yX10_type : MethodName := ⟨RX10, "type", "(JI)I"⟩
abbrev cX10_here : ByteArray := prog_12_method_23_code
def yX10_here : MethodName := ⟨RX10, "here", "()I"⟩
abbrev cX10_fails : ByteArray := prog_12_method_24_code
def yX10_fails : MethodName := ⟨RX10, "fails", "(I)V"⟩
abbrev cX10_take : ByteArray := prog_12_method_25_code
def yX10_take : MethodName := ⟨RX10, "take", "(II)I"⟩
abbrev cX10_takeNumber : ByteArray := prog_12_method_26_code
def yX10_takeNumber : MethodName := ⟨RX10, "takeNumber", "()I"⟩
abbrev cX10_takePiece : ByteArray := prog_12_method_27_code
def yX10_takePiece : MethodName := ⟨RX10, "takePiece", "()V"⟩
abbrev cX10_heap : ByteArray := prog_12_method_28_code
def yX10_heap : MethodName := ⟨RX10, "heap", "()I"⟩
abbrev cX10_takeLetter : ByteArray := prog_12_method_29_code
def yX10_takeLetter : MethodName := ⟨RX10, "takeLetter", "()I"⟩
abbrev cX10_takeMark : ByteArray := prog_12_method_30_code
def yX10_takeMark : MethodName := ⟨RX10, "takeMark", "(I)V"⟩
abbrev cX10_takeAct : ByteArray := prog_12_method_31_code
def yX10_takeAct : MethodName := ⟨RX10, "takeAct", "()V"⟩
abbrev cX10_night : ByteArray := prog_12_method_32_code
def yX10_night : MethodName := ⟨RX10, "night", "()I"⟩
abbrev cX10_kindOf : ByteArray := prog_12_method_33_code
def yX10_kindOf : MethodName := ⟨RX10, "kindOf", "(I)I"⟩
abbrev cX10_placeOf : ByteArray := prog_12_method_34_code
def yX10_placeOf : MethodName := ⟨RX10, "placeOf", "(I)I"⟩
abbrev cX10_otherOf : ByteArray := prog_12_method_35_code
def yX10_otherOf : MethodName := ⟨RX10, "otherOf", "(I)I"⟩
abbrev cX10_canBe : ByteArray := prog_12_method_36_code
def yX10_canBe : MethodName := ⟨RX10, "canBe", "(I)Z"⟩
abbrev cX10_size : ByteArray := prog_12_method_37_code
def yX10_size : MethodName := ⟨RX10, "size", "(I)I"⟩
abbrev cX10_isFelt : ByteArray := prog_12_method_38_code
def yX10_isFelt : MethodName := ⟨RX10, "isFelt", "(I)Z"⟩
abbrev cX10_doAct : ByteArray := prog_12_method_39_code
def yX10_doAct : MethodName := ⟨RX10, "doAct", "(I)I"⟩
abbrev cX10_wake : ByteArray := prog_12_method_40_code
def yX10_wake : MethodName := ⟨RX10, "wake", "()V"⟩
abbrev cX10_goes : ByteArray := prog_12_method_41_code
def yX10_goes : MethodName := ⟨RX10, "goes", "(I)Z"⟩
abbrev cX10_tryAct : ByteArray := prog_12_method_42_code
def yX10_tryAct : MethodName := ⟨RX10, "tryAct", "(I)I"⟩
abbrev cX10_lift : ByteArray := prog_12_method_43_code
def yX10_lift : MethodName := ⟨RX10, "lift", "(I)I"⟩
abbrev cX10_lay : ByteArray := prog_12_method_44_code
def yX10_lay : MethodName := ⟨RX10, "lay", "(II)I"⟩
abbrev cX10_swap : ByteArray := prog_12_method_45_code
def yX10_swap : MethodName := ⟨RX10, "swap", "(II)I"⟩
abbrev cX10_push : ByteArray := prog_12_method_46_code
def yX10_push : MethodName := ⟨RX10, "push", "(II)I"⟩
abbrev cX10_turn : ByteArray := prog_12_method_47_code
def yX10_turn : MethodName := ⟨RX10, "turn", "()I"⟩
abbrev cX10_save : ByteArray := prog_12_method_48_code
def yX10_save : MethodName := ⟨RX10, "save", "(I)V"⟩
abbrev cX10_load : ByteArray := prog_12_method_49_code
def yX10_load : MethodName := ⟨RX10, "load", "(I)V"⟩
abbrev cX10_nextAct : ByteArray := prog_12_method_50_code
def yX10_nextAct : MethodName := ⟨RX10, "nextAct", "(I)I"⟩
abbrev cX10_isCode : ByteArray := prog_12_method_51_code
def yX10_isCode : MethodName := ⟨RX10, "isCode", "(I)Z"⟩
abbrev cX10_lastAct : ByteArray := prog_12_method_52_code
def yX10_lastAct : MethodName := ⟨RX10, "lastAct", "(I)I"⟩
abbrev cX10_find : ByteArray := prog_12_method_53_code
def yX10_find : MethodName := ⟨RX10, "find", "(I)I"⟩
abbrev cX10_had : ByteArray := prog_12_method_54_code
def yX10_had : MethodName := ⟨RX10, "had", "(II)I"⟩
abbrev cX10_under : ByteArray := prog_12_method_55_code
def yX10_under : MethodName := ⟨RX10, "under", "(I)I"⟩
abbrev cX10_townsThatLie : ByteArray := prog_12_method_56_code
def yX10_townsThatLie : MethodName := ⟨RX10, "townsThatLie", "()I"⟩
abbrev cX10_own : ByteArray := prog_12_method_57_code
def yX10_own : MethodName := ⟨RX10, "own", "()I"⟩
abbrev cX10_divisor : ByteArray := prog_12_method_58_code
def yX10_divisor : MethodName := ⟨RX10, "divisor", "(II)I"⟩
abbrev cX10_partOf : ByteArray := prog_12_method_59_code
def yX10_partOf : MethodName := ⟨RX10, "partOf", "(III)I"⟩
abbrev cX10_odds : ByteArray := prog_12_method_60_code
def yX10_odds : MethodName := ⟨RX10, "odds", "(IIIII)I"⟩
abbrev cX10_has : ByteArray := prog_12_method_61_code
def yX10_has : MethodName := ⟨RX10, "has", "(II)Z"⟩
abbrev cX10_share : ByteArray := prog_12_method_62_code
def yX10_share : MethodName := ⟨RX10, "share", "(III)I"⟩
abbrev cX10_image : ByteArray := prog_12_method_63_code
def yX10_image : MethodName := ⟨RX10, "image", "()I"⟩
abbrev cX10_restore : ByteArray := prog_12_method_64_code
def yX10_restore : MethodName := ⟨RX10, "restore", "()I"⟩
abbrev cX10_isSheet : ByteArray := prog_12_method_65_code
def yX10_isSheet : MethodName := ⟨RX10, "isSheet", "(I)Z"⟩
abbrev cX10_low : ByteArray := prog_12_method_66_code
def yX10_low : MethodName := ⟨RX10, "low", "(IJ)J"⟩
abbrev cX10_against : ByteArray := prog_12_method_67_code
def yX10_against : MethodName := ⟨RX10, "against", "(IIII)I"⟩
abbrev cX10_sumIn : ByteArray := prog_12_method_68_code
def yX10_sumIn : MethodName := ⟨RX10, "sumIn", "(II)I"⟩
abbrev cX10_dents : ByteArray := prog_12_method_69_code
def yX10_dents : MethodName := ⟨RX10, "dents", "(IIII)I"⟩
abbrev cX10_tried : ByteArray := prog_12_method_70_code
def yX10_tried : MethodName := ⟨RX10, "tried", "(IIIII)I"⟩
abbrev cX10_nextOf : ByteArray := prog_12_method_71_code
def yX10_nextOf : MethodName := ⟨RX10, "nextOf", "(II)I"⟩
abbrev cX10_film : ByteArray := prog_12_method_72_code
def yX10_film : MethodName := ⟨RX10, "film", "(III)I"⟩
abbrev cX10_sheet : ByteArray := prog_12_method_73_code
def yX10_sheet : MethodName := ⟨RX10, "sheet", "(III)I"⟩
abbrev cX10_drop : ByteArray := prog_12_method_74_code
def yX10_drop : MethodName := ⟨RX10, "drop", "(I)I"⟩
abbrev cX10_item : ByteArray := prog_12_method_75_code
def yX10_item : MethodName := ⟨RX10, "item", "(IIIJ)I"⟩
abbrev cX10_copy : ByteArray := prog_12_method_76_code
def yX10_copy : MethodName := ⟨RX10, "copy", "(IIIII)I"⟩
def RJx145de : String := "java/io/Serializable"
def TJx145de : u_T := fun k => match k with
  | _ => ("", "", "", false)
def tyJx145de : Nat → FieldType := fun k => match k with
  | _ => .int
def RJx9f9b0 : String := "java/lang/CharSequence"
def TJx9f9b0 : u_T := fun k => match k with
  | _ => ("", "", "", false)
def tyJx9f9b0 : Nat → FieldType := fun k => match k with
  | _ => .int
def RJ11 : String := "java/lang/Character"
def TJ11 : u_T := fun k => match k with
  | _ => ("", "", "", false)
def tyJ11 : Nat → FieldType := fun k => match k with
  | _ => .int
abbrev cJ11_isValidCodePoint_9a6ad : ByteArray := prog_13_method_11_code
def yJ11_isValidCodePoint_9a6ad : MethodName := ⟨RJ11, "isValidCodePoint", "(I)Z"⟩
abbrev cJ11_highSurrogate_5068e : ByteArray := prog_13_method_28_code
def yJ11_highSurrogate_5068e : MethodName := ⟨RJ11, "highSurrogate", "(I)C"⟩
abbrev cJ11_lowSurrogate_5068e : ByteArray := prog_13_method_29_code
def yJ11_lowSurrogate_5068e : MethodName := ⟨RJ11, "lowSurrogate", "(I)C"⟩
def RJxb160c : String := "java/lang/Comparable"
def TJxb160c : u_T := fun k => match k with
  | _ => ("", "", "", false)
def tyJxb160c : Nat → FieldType := fun k => match k with
  | _ => .int
def RJ6 : String := "java/lang/Integer"
def TJ6 : u_T := fun k => match k with
  | _ => ("", "", "", false)
def tyJ6 : Nat → FieldType := fun k => match k with
  | _ => .int
abbrev cJ6_bitCount_0f7a4 : ByteArray := prog_14_method_49_code
def yJ6_bitCount_0f7a4 : MethodName := ⟨RJ6, "bitCount", "(I)I"⟩
def RJ9 : String := "java/lang/Math"
def TJ9 : u_T := fun k => match k with
  | _ => ("", "", "", false)
def tyJ9 : Nat → FieldType := fun k => match k with
  | _ => .int
abbrev cJ9_abs_0f7a4 : ByteArray := prog_15_method_59_code
def yJ9_abs_0f7a4 : MethodName := ⟨RJ9, "abs", "(I)I"⟩
abbrev cJ9_max_7cf53 : ByteArray := prog_15_method_65_code
def yJ9_max_7cf53 : MethodName := ⟨RJ9, "max", "(II)I"⟩
abbrev cJ9_min_7cf53 : ByteArray := prog_15_method_69_code
def yJ9_min_7cf53 : MethodName := ⟨RJ9, "min", "(II)I"⟩
def RJ0 : String := "java/lang/String"
def TJ0 : u_T := fun k => match k with
  | _ => ("", "", "", false)
def tyJ0 : Nat → FieldType := fun k => match k with
  | _ => .int
abbrev cJ0_length_8abf5 : ByteArray := prog_16_method_54_code
def yJ0_length_8abf5 : MethodName := ⟨RJ0, "length", "()I"⟩
abbrev cJ0_indexOf_0f7a4 : ByteArray := prog_16_method_79_code
def yJ0_indexOf_0f7a4 : MethodName := ⟨RJ0, "indexOf", "(I)I"⟩
abbrev cJ0_indexOf_7cf53 : ByteArray := prog_16_method_80_code
def yJ0_indexOf_7cf53 : MethodName := ⟨RJ0, "indexOf", "(II)I"⟩
abbrev cJ0_coder_7d493 : ByteArray := prog_16_method_152_code
def yJ0_coder_7d493 : MethodName := ⟨RJ0, "coder", "()B"⟩
abbrev cJ0_isLatin1_aae02 : ByteArray := prog_16_method_154_code
def yJ0_isLatin1_aae02 : MethodName := ⟨RJ0, "isLatin1", "()Z"⟩
abbrev cJ0_checkBoundsBeginEnd_23922 : ByteArray := prog_16_method_158_code
def yJ0_checkBoundsBeginEnd_23922 : MethodName := ⟨RJ0, "checkBoundsBeginEnd", "(III)V"⟩
def RJ1 : String := "java/lang/StringLatin1"
def TJ1 : u_T := fun k => match k with
  | _ => ("", "", "", false)
def tyJ1 : Nat → FieldType := fun k => match k with
  | _ => .int
abbrev cJ1_canEncode_9a6ad : ByteArray := prog_17_method_4_code
def yJ1_canEncode_9a6ad : MethodName := ⟨RJ1, "canEncode", "(I)Z"⟩
abbrev cJ1_indexOf_4cfef : ByteArray := prog_17_method_22_code
def yJ1_indexOf_4cfef : MethodName := ⟨RJ1, "indexOf", "([BIII)I"⟩
abbrev cJ1_indexOfChar_4cfef : ByteArray := prog_17_method_23_code
def yJ1_indexOfChar_4cfef : MethodName := ⟨RJ1, "indexOfChar", "([BIII)I"⟩
def RJ2 : String := "java/lang/StringUTF16"
def TJ2 : u_T := fun k => match k with
  | _ => ("", "", "", false)
def tyJ2 : Nat → FieldType := fun k => match k with
  | _ => .int
abbrev cJ2_getChar_3b067 : ByteArray := prog_18_method_5_code
def yJ2_getChar_3b067 : MethodName := ⟨RJ2, "getChar", "([BI)C"⟩
abbrev cJ2_length_9d52b : ByteArray := prog_18_method_6_code
def yJ2_length_9d52b : MethodName := ⟨RJ2, "length", "([B)I"⟩
abbrev cJ2_indexOf_4cfef : ByteArray := prog_18_method_40_code
def yJ2_indexOf_4cfef : MethodName := ⟨RJ2, "indexOf", "([BIII)I"⟩
abbrev cJ2_indexOfChar_4cfef : ByteArray := prog_18_method_47_code
def yJ2_indexOfChar_4cfef : MethodName := ⟨RJ2, "indexOfChar", "([BIII)I"⟩
abbrev cJ2_indexOfCharUnsafe_4cfef : ByteArray := prog_18_method_48_code
def yJ2_indexOfCharUnsafe_4cfef : MethodName := ⟨RJ2, "indexOfCharUnsafe", "([BIII)I"⟩
abbrev cJ2_indexOfSupplementary_4cfef : ByteArray := prog_18_method_49_code
def yJ2_indexOfSupplementary_4cfef : MethodName := ⟨RJ2, "indexOfSupplementary", "([BIII)I"⟩
abbrev cJ2_checkBoundsBeginEnd_d044e : ByteArray := prog_18_method_93_code
def yJ2_checkBoundsBeginEnd_d044e : MethodName := ⟨RJ2, "checkBoundsBeginEnd", "(II[B)V"⟩
def RJ10 : String := "java/lang/System"
def TJ10 : u_T := fun k => match k with
  | _ => ("", "", "", false)
def tyJ10 : Nat → FieldType := fun k => match k with
  | _ => .int
def RJxfd54e : String := "java/lang/constant/Constable"
def TJxfd54e : u_T := fun k => match k with
  | _ => ("", "", "", false)
def tyJxfd54e : Nat → FieldType := fun k => match k with
  | _ => .int
def RJx3cf43 : String := "java/lang/constant/ConstantDesc"
def TJx3cf43 : u_T := fun k => match k with
  | _ => ("", "", "", false)
def tyJx3cf43 : Nat → FieldType := fun k => match k with
  | _ => .int
def RJ7 : String := "java/util/Arrays"
def TJ7 : u_T := fun k => match k with
  | _ => ("", "", "", false)
def tyJ7 : Nat → FieldType := fun k => match k with
  | _ => .int
abbrev cJ7_fill_d0a16 : ByteArray := prog_20_method_101_code
def yJ7_fill_d0a16 : MethodName := ⟨RJ7, "fill", "([JJ)V"⟩
abbrev cJ7_fill_53178 : ByteArray := prog_20_method_103_code
def yJ7_fill_53178 : MethodName := ⟨RJ7, "fill", "([II)V"⟩
def RJ3 : String := "jdk/internal/util/Preconditions"
def TJ3 : u_T := fun k => match k with
  | _ => ("", "", "", false)
def tyJ3 : Nat → FieldType := fun k => match k with
  | _ => .int
abbrev cJ3_checkFromToIndex_8c36e : ByteArray := prog_21_method_12_code
def yJ3_checkFromToIndex_8c36e : MethodName := ⟨RJ3, "checkFromToIndex", "(IIILjava/util/function/BiFunction;)I"⟩
abbrev vwCl : List vw_C := [(RX2, TX2, 9), (RX3, TX3, 4), (RX4, TX4, 1), (RX5, TX5, 3), (RX6, TX6, 3), (RX7, TX7, 1), (RX8, TX8, 2), (RX9, TX9, 9), (RX10, TX10, 34)]
/-- the good words of the tables: those that a caller hands on to its callees -/
def TB : List Cond := lw_tbl.filter goodWord
theorem TB_good : ∀ w ∈ TB, (w.onTables && w.keeps) = true ∨ ∃ ty, w = .arrayClass ty := fun w h => good_of_word (List.mem_filter.mp h).2
theorem TB_in : ∀ w ∈ TB, w ∈ lw_tbl := fun w h => (List.mem_filter.mp h).1
theorem TB_t {w : Cond} (h : w ∈ tables_1) (g : goodWord w = true) : w ∈ TB := List.mem_filter.mpr ⟨List.mem_append_right _ h, g⟩
theorem TB_p {w : Cond} (h : w ∈ k2_sels lw_privs) (g : goodWord w = true) : w ∈ TB := List.mem_filter.mpr ⟨List.mem_append_left _ h, g⟩
theorem tb1 {w : Cond} (i : Nat) (h : tables_1_1[i]? = some w) (g : goodWord w = true) : w ∈ TB := TB_t (List.mem_append_left _ (List.mem_of_getElem? h)) g
theorem tb2 {w : Cond} (i : Nat) (h : tables_1_2[i]? = some w) (g : goodWord w = true) : w ∈ TB := TB_t (List.mem_append_right _ (List.mem_append_left _ (List.mem_of_getElem? h))) g
theorem tb3 {w : Cond} (i : Nat) (h : tables_1_3[i]? = some w) (g : goodWord w = true) : w ∈ TB := TB_t (List.mem_append_right _ (List.mem_append_right _ (List.mem_append_left _ (List.mem_of_getElem? h)))) g
theorem tb4 {w : Cond} (i : Nat) (h : tables_1_4[i]? = some w) (g : goodWord w = true) : w ∈ TB := TB_t (List.mem_append_right _ (List.mem_append_right _ (List.mem_append_right _ (List.mem_append_left _ (List.mem_of_getElem? h))))) g
theorem tb5 {w : Cond} (i : Nat) (h : tables_1_5[i]? = some w) (g : goodWord w = true) : w ∈ TB := TB_t (List.mem_append_right _ (List.mem_append_right _ (List.mem_append_right _ (List.mem_append_right _ (List.mem_of_getElem? h))))) g
theorem tbp {w : Cond} (i : Nat) (h : (k2_sels lw_privs)[i]? = some w) (g : goodWord w = true) : w ∈ TB := TB_p (List.mem_of_getElem? h) g
