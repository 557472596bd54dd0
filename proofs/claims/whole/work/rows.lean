section
-- ===== PART A: goes FIRST, ahead of the names: the tables' words, and 'selects' of the private methods out of them =====
/-- a private method of a class that the tables say can be made, by its rows of tables_1 -/
def lw_okq (q : MethodName × Nat) : Prop := (q.1.cls ≠ "java/lang/invoke/MethodHandle" ∧ q.1.cls ≠ "java/lang/invoke/VarHandle") ∧ Cond.instantiable q.1.cls q.2 ∈ tables_1 ∧ Cond.privateMethod q.1 ∈ tables_1 ∧ Cond.instanceMethod q.1 ∈ tables_1
theorem lw_p0 : lw_okq (⟨"WormHeap$Gold", "put", "(II)V"⟩, 9) := ⟨⟨by decide +kernel, by decide +kernel⟩, List.mem_of_getElem? (i := 30) (by decide +kernel), List.mem_of_getElem? (i := 197) (by decide +kernel), List.mem_of_getElem? (i := 198) (by decide +kernel)⟩
theorem lw_p1 : lw_okq (⟨"WormHeap$Tape", "skipBlanks", "()V"⟩, 3) := ⟨⟨by decide +kernel, by decide +kernel⟩, List.mem_of_getElem? (i := 91) (by decide +kernel), List.mem_of_getElem? (i := 315) (by decide +kernel), List.mem_of_getElem? (i := 316) (by decide +kernel)⟩
theorem lw_p2 : lw_okq (⟨"WormHeap$HeapText", "readPiece", "(LWormHeap$Tape;I)Z"⟩, 4) := ⟨⟨by decide +kernel, by decide +kernel⟩, List.mem_of_getElem? (i := 108) (by decide +kernel), List.mem_of_getElem? (i := 396) (by decide +kernel), List.mem_of_getElem? (i := 397) (by decide +kernel)⟩
theorem lw_p3 : lw_okq (⟨"WormHeap$Gold", "eat", "()V"⟩, 9) := ⟨⟨by decide +kernel, by decide +kernel⟩, List.mem_of_getElem? (i := 30) (by decide +kernel), List.mem_of_getElem? (i := 493) (by decide +kernel), List.mem_of_getElem? (i := 494) (by decide +kernel)⟩
theorem lw_p4 : lw_okq (⟨"WormHeap$Gold", "take", "(I)I"⟩, 9) := ⟨⟨by decide +kernel, by decide +kernel⟩, List.mem_of_getElem? (i := 30) (by decide +kernel), List.mem_of_getElem? (i := 502) (by decide +kernel), List.mem_of_getElem? (i := 503) (by decide +kernel)⟩
theorem lw_p5 : lw_okq (⟨"WormHeap$Gold", "turned", "(I)I"⟩, 9) := ⟨⟨by decide +kernel, by decide +kernel⟩, List.mem_of_getElem? (i := 30) (by decide +kernel), List.mem_of_getElem? (i := 545) (by decide +kernel), List.mem_of_getElem? (i := 546) (by decide +kernel)⟩
theorem lw_p6 : lw_okq (⟨"WormHeap$Towns", "give", "(LWormHeap$Gold;I)V"⟩, 2) := ⟨⟨by decide +kernel, by decide +kernel⟩, List.mem_of_getElem? (i := 78) (by decide +kernel), List.mem_of_getElem? (i := 617) (by decide +kernel), List.mem_of_getElem? (i := 618) (by decide +kernel)⟩
theorem lw_p7 : lw_okq (⟨"WormHeap", "sheetAt", "(I)LWormHeap$Sheet;"⟩, 9) := ⟨⟨by decide +kernel, by decide +kernel⟩, List.mem_of_getElem? (i := 22) (by decide +kernel), List.mem_of_getElem? (i := 681) (by decide +kernel), List.mem_of_getElem? (i := 682) (by decide +kernel)⟩
theorem lw_p8 : lw_okq (⟨"WormHeapModel", "addPiece", "(IIII)V"⟩, 34) := ⟨⟨by decide +kernel, by decide +kernel⟩, List.mem_of_getElem? (i := 777) (by decide +kernel), List.mem_of_getElem? (i := 896) (by decide +kernel), List.mem_of_getElem? (i := 897) (by decide +kernel)⟩
theorem lw_p9 : lw_okq (⟨"WormHeapModel", "put", "(II)V"⟩, 34) := ⟨⟨by decide +kernel, by decide +kernel⟩, List.mem_of_getElem? (i := 777) (by decide +kernel), List.mem_of_getElem? (i := 900) (by decide +kernel), List.mem_of_getElem? (i := 901) (by decide +kernel)⟩
theorem lw_p10 : lw_okq (⟨"WormHeapModel", "isPiece", "(I)Z"⟩, 34) := ⟨⟨by decide +kernel, by decide +kernel⟩, List.mem_of_getElem? (i := 777) (by decide +kernel), List.mem_of_getElem? (i := 908) (by decide +kernel), List.mem_of_getElem? (i := 909) (by decide +kernel)⟩
theorem lw_p11 : lw_okq (⟨"WormHeapModel", "weighs", "(I)I"⟩, 34) := ⟨⟨by decide +kernel, by decide +kernel⟩, List.mem_of_getElem? (i := 777) (by decide +kernel), List.mem_of_getElem? (i := 912) (by decide +kernel), List.mem_of_getElem? (i := 913) (by decide +kernel)⟩
theorem lw_p12 : lw_okq (⟨"WormHeapModel", "townOf", "(I)I"⟩, 34) := ⟨⟨by decide +kernel, by decide +kernel⟩, List.mem_of_getElem? (i := 777) (by decide +kernel), List.mem_of_getElem? (i := 916) (by decide +kernel), List.mem_of_getElem? (i := 917) (by decide +kernel)⟩
theorem lw_p13 : lw_okq (⟨"WormHeapModel", "offOf", "(I)I"⟩, 34) := ⟨⟨by decide +kernel, by decide +kernel⟩, List.mem_of_getElem? (i := 777) (by decide +kernel), List.mem_of_getElem? (i := 920) (by decide +kernel), List.mem_of_getElem? (i := 921) (by decide +kernel)⟩
theorem lw_p14 : lw_okq (⟨"WormHeapModel", "loadOf", "(I)I"⟩, 34) := ⟨⟨by decide +kernel, by decide +kernel⟩, List.mem_of_getElem? (i := 777) (by decide +kernel), List.mem_of_getElem? (i := 932) (by decide +kernel), List.mem_of_getElem? (i := 933) (by decide +kernel)⟩
theorem lw_p15 : lw_okq (⟨"WormHeapModel", "topOf", "(I)I"⟩, 34) := ⟨⟨by decide +kernel, by decide +kernel⟩, List.mem_of_getElem? (i := 777) (by decide +kernel), List.mem_of_getElem? (i := 936) (by decide +kernel), List.mem_of_getElem? (i := 937) (by decide +kernel)⟩
def lw_privs_1 : List (MethodName × Nat) := [(⟨"WormHeap$Gold", "put", "(II)V"⟩, 9), (⟨"WormHeap$Tape", "skipBlanks", "()V"⟩, 3), (⟨"WormHeap$HeapText", "readPiece", "(LWormHeap$Tape;I)Z"⟩, 4), (⟨"WormHeap$Gold", "eat", "()V"⟩, 9), (⟨"WormHeap$Gold", "take", "(I)I"⟩, 9), (⟨"WormHeap$Gold", "turned", "(I)I"⟩, 9), (⟨"WormHeap$Towns", "give", "(LWormHeap$Gold;I)V"⟩, 2), (⟨"WormHeap", "sheetAt", "(I)LWormHeap$Sheet;"⟩, 9), (⟨"WormHeapModel", "addPiece", "(IIII)V"⟩, 34), (⟨"WormHeapModel", "put", "(II)V"⟩, 34), (⟨"WormHeapModel", "isPiece", "(I)Z"⟩, 34), (⟨"WormHeapModel", "weighs", "(I)I"⟩, 34), (⟨"WormHeapModel", "townOf", "(I)I"⟩, 34), (⟨"WormHeapModel", "offOf", "(I)I"⟩, 34), (⟨"WormHeapModel", "loadOf", "(I)I"⟩, 34), (⟨"WormHeapModel", "topOf", "(I)I"⟩, 34)]
theorem lw_r1 : ∀ q ∈ lw_privs_1, lw_okq q := List.forall_mem_cons.mpr ⟨lw_p0, List.forall_mem_cons.mpr ⟨lw_p1, List.forall_mem_cons.mpr ⟨lw_p2, List.forall_mem_cons.mpr ⟨lw_p3, List.forall_mem_cons.mpr ⟨lw_p4, List.forall_mem_cons.mpr ⟨lw_p5, List.forall_mem_cons.mpr ⟨lw_p6, List.forall_mem_cons.mpr ⟨lw_p7, List.forall_mem_cons.mpr ⟨lw_p8, List.forall_mem_cons.mpr ⟨lw_p9, List.forall_mem_cons.mpr ⟨lw_p10, List.forall_mem_cons.mpr ⟨lw_p11, List.forall_mem_cons.mpr ⟨lw_p12, List.forall_mem_cons.mpr ⟨lw_p13, List.forall_mem_cons.mpr ⟨lw_p14, List.forall_mem_cons.mpr ⟨lw_p15, fun _ h => absurd h List.not_mem_nil⟩⟩⟩⟩⟩⟩⟩⟩⟩⟩⟩⟩⟩⟩⟩⟩
theorem lw_p16 : lw_okq (⟨"WormHeapModel", "countIn", "(I)I"⟩, 34) := ⟨⟨by decide +kernel, by decide +kernel⟩, List.mem_of_getElem? (i := 777) (by decide +kernel), List.mem_of_getElem? (i := 948) (by decide +kernel), List.mem_of_getElem? (i := 949) (by decide +kernel)⟩
theorem lw_p17 : lw_okq (⟨"WormHeapModel", "placesWeigh", "()I"⟩, 34) := ⟨⟨by decide +kernel, by decide +kernel⟩, List.mem_of_getElem? (i := 777) (by decide +kernel), List.mem_of_getElem? (i := 952) (by decide +kernel), List.mem_of_getElem? (i := 953) (by decide +kernel)⟩
theorem lw_p18 : lw_okq (⟨"WormHeapModel", "bagWeighs", "()I"⟩, 34) := ⟨⟨by decide +kernel, by decide +kernel⟩, List.mem_of_getElem? (i := 777) (by decide +kernel), List.mem_of_getElem? (i := 956) (by decide +kernel), List.mem_of_getElem? (i := 957) (by decide +kernel)⟩
theorem lw_p19 : lw_okq (⟨"WormHeapModel", "takePiece", "()V"⟩, 34) := ⟨⟨by decide +kernel, by decide +kernel⟩, List.mem_of_getElem? (i := 777) (by decide +kernel), List.mem_of_getElem? (i := 972) (by decide +kernel), List.mem_of_getElem? (i := 973) (by decide +kernel)⟩
theorem lw_p20 : lw_okq (⟨"WormHeapModel", "here", "()I"⟩, 34) := ⟨⟨by decide +kernel, by decide +kernel⟩, List.mem_of_getElem? (i := 777) (by decide +kernel), List.mem_of_getElem? (i := 976) (by decide +kernel), List.mem_of_getElem? (i := 977) (by decide +kernel)⟩
theorem lw_p21 : lw_okq (⟨"WormHeapModel", "fails", "(I)V"⟩, 34) := ⟨⟨by decide +kernel, by decide +kernel⟩, List.mem_of_getElem? (i := 777) (by decide +kernel), List.mem_of_getElem? (i := 980) (by decide +kernel), List.mem_of_getElem? (i := 981) (by decide +kernel)⟩
theorem lw_p22 : lw_okq (⟨"WormHeapModel", "takeNumber", "()I"⟩, 34) := ⟨⟨by decide +kernel, by decide +kernel⟩, List.mem_of_getElem? (i := 777) (by decide +kernel), List.mem_of_getElem? (i := 984) (by decide +kernel), List.mem_of_getElem? (i := 985) (by decide +kernel)⟩
theorem lw_p23 : lw_okq (⟨"WormHeapModel", "take", "(II)I"⟩, 34) := ⟨⟨by decide +kernel, by decide +kernel⟩, List.mem_of_getElem? (i := 777) (by decide +kernel), List.mem_of_getElem? (i := 990) (by decide +kernel), List.mem_of_getElem? (i := 991) (by decide +kernel)⟩
theorem lw_p24 : lw_okq (⟨"WormHeapModel", "takeAct", "()V"⟩, 34) := ⟨⟨by decide +kernel, by decide +kernel⟩, List.mem_of_getElem? (i := 777) (by decide +kernel), List.mem_of_getElem? (i := 998) (by decide +kernel), List.mem_of_getElem? (i := 999) (by decide +kernel)⟩
theorem lw_p25 : lw_okq (⟨"WormHeapModel", "takeLetter", "()I"⟩, 34) := ⟨⟨by decide +kernel, by decide +kernel⟩, List.mem_of_getElem? (i := 777) (by decide +kernel), List.mem_of_getElem? (i := 1002) (by decide +kernel), List.mem_of_getElem? (i := 1003) (by decide +kernel)⟩
theorem lw_p26 : lw_okq (⟨"WormHeapModel", "takeMark", "(I)V"⟩, 34) := ⟨⟨by decide +kernel, by decide +kernel⟩, List.mem_of_getElem? (i := 777) (by decide +kernel), List.mem_of_getElem? (i := 1006) (by decide +kernel), List.mem_of_getElem? (i := 1007) (by decide +kernel)⟩
theorem lw_p27 : lw_okq (⟨"WormHeapModel", "canBe", "(I)Z"⟩, 34) := ⟨⟨by decide +kernel, by decide +kernel⟩, List.mem_of_getElem? (i := 777) (by decide +kernel), List.mem_of_getElem? (i := 1010) (by decide +kernel), List.mem_of_getElem? (i := 1011) (by decide +kernel)⟩
theorem lw_p28 : lw_okq (⟨"WormHeapModel", "goes", "(I)Z"⟩, 34) := ⟨⟨by decide +kernel, by decide +kernel⟩, List.mem_of_getElem? (i := 777) (by decide +kernel), List.mem_of_getElem? (i := 1023) (by decide +kernel), List.mem_of_getElem? (i := 1024) (by decide +kernel)⟩
theorem lw_p29 : lw_okq (⟨"WormHeapModel", "isFelt", "(I)Z"⟩, 34) := ⟨⟨by decide +kernel, by decide +kernel⟩, List.mem_of_getElem? (i := 777) (by decide +kernel), List.mem_of_getElem? (i := 1027) (by decide +kernel), List.mem_of_getElem? (i := 1028) (by decide +kernel)⟩
theorem lw_p30 : lw_okq (⟨"WormHeapModel", "wake", "()V"⟩, 34) := ⟨⟨by decide +kernel, by decide +kernel⟩, List.mem_of_getElem? (i := 777) (by decide +kernel), List.mem_of_getElem? (i := 1034) (by decide +kernel), List.mem_of_getElem? (i := 1035) (by decide +kernel)⟩
theorem lw_p31 : lw_okq (⟨"WormHeapModel", "doAct", "(I)I"⟩, 34) := ⟨⟨by decide +kernel, by decide +kernel⟩, List.mem_of_getElem? (i := 777) (by decide +kernel), List.mem_of_getElem? (i := 1038) (by decide +kernel), List.mem_of_getElem? (i := 1039) (by decide +kernel)⟩
def lw_privs_2 : List (MethodName × Nat) := [(⟨"WormHeapModel", "countIn", "(I)I"⟩, 34), (⟨"WormHeapModel", "placesWeigh", "()I"⟩, 34), (⟨"WormHeapModel", "bagWeighs", "()I"⟩, 34), (⟨"WormHeapModel", "takePiece", "()V"⟩, 34), (⟨"WormHeapModel", "here", "()I"⟩, 34), (⟨"WormHeapModel", "fails", "(I)V"⟩, 34), (⟨"WormHeapModel", "takeNumber", "()I"⟩, 34), (⟨"WormHeapModel", "take", "(II)I"⟩, 34), (⟨"WormHeapModel", "takeAct", "()V"⟩, 34), (⟨"WormHeapModel", "takeLetter", "()I"⟩, 34), (⟨"WormHeapModel", "takeMark", "(I)V"⟩, 34), (⟨"WormHeapModel", "canBe", "(I)Z"⟩, 34), (⟨"WormHeapModel", "goes", "(I)Z"⟩, 34), (⟨"WormHeapModel", "isFelt", "(I)Z"⟩, 34), (⟨"WormHeapModel", "wake", "()V"⟩, 34), (⟨"WormHeapModel", "doAct", "(I)I"⟩, 34)]
theorem lw_r2 : ∀ q ∈ lw_privs_2, lw_okq q := List.forall_mem_cons.mpr ⟨lw_p16, List.forall_mem_cons.mpr ⟨lw_p17, List.forall_mem_cons.mpr ⟨lw_p18, List.forall_mem_cons.mpr ⟨lw_p19, List.forall_mem_cons.mpr ⟨lw_p20, List.forall_mem_cons.mpr ⟨lw_p21, List.forall_mem_cons.mpr ⟨lw_p22, List.forall_mem_cons.mpr ⟨lw_p23, List.forall_mem_cons.mpr ⟨lw_p24, List.forall_mem_cons.mpr ⟨lw_p25, List.forall_mem_cons.mpr ⟨lw_p26, List.forall_mem_cons.mpr ⟨lw_p27, List.forall_mem_cons.mpr ⟨lw_p28, List.forall_mem_cons.mpr ⟨lw_p29, List.forall_mem_cons.mpr ⟨lw_p30, List.forall_mem_cons.mpr ⟨lw_p31, fun _ h => absurd h List.not_mem_nil⟩⟩⟩⟩⟩⟩⟩⟩⟩⟩⟩⟩⟩⟩⟩⟩
theorem lw_p32 : lw_okq (⟨"WormHeapModel", "takeTop", "(I)I"⟩, 34) := ⟨⟨by decide +kernel, by decide +kernel⟩, List.mem_of_getElem? (i := 777) (by decide +kernel), List.mem_of_getElem? (i := 1042) (by decide +kernel), List.mem_of_getElem? (i := 1043) (by decide +kernel)⟩
theorem lw_p33 : lw_okq (⟨"WormHeapModel", "tryAct", "(I)I"⟩, 34) := ⟨⟨by decide +kernel, by decide +kernel⟩, List.mem_of_getElem? (i := 777) (by decide +kernel), List.mem_of_getElem? (i := 1050) (by decide +kernel), List.mem_of_getElem? (i := 1051) (by decide +kernel)⟩
theorem lw_p34 : lw_okq (⟨"WormHeapModel", "find", "(I)I"⟩, 34) := ⟨⟨by decide +kernel, by decide +kernel⟩, List.mem_of_getElem? (i := 777) (by decide +kernel), List.mem_of_getElem? (i := 1076) (by decide +kernel), List.mem_of_getElem? (i := 1077) (by decide +kernel)⟩
theorem lw_p35 : lw_okq (⟨"WormHeapModel", "lastAct", "(I)I"⟩, 34) := ⟨⟨by decide +kernel, by decide +kernel⟩, List.mem_of_getElem? (i := 777) (by decide +kernel), List.mem_of_getElem? (i := 1080) (by decide +kernel), List.mem_of_getElem? (i := 1081) (by decide +kernel)⟩
theorem lw_p36 : lw_okq (⟨"WormHeapModel", "save", "(I)V"⟩, 34) := ⟨⟨by decide +kernel, by decide +kernel⟩, List.mem_of_getElem? (i := 777) (by decide +kernel), List.mem_of_getElem? (i := 1084) (by decide +kernel), List.mem_of_getElem? (i := 1085) (by decide +kernel)⟩
theorem lw_p37 : lw_okq (⟨"WormHeapModel", "nextAct", "(I)I"⟩, 34) := ⟨⟨by decide +kernel, by decide +kernel⟩, List.mem_of_getElem? (i := 777) (by decide +kernel), List.mem_of_getElem? (i := 1088) (by decide +kernel), List.mem_of_getElem? (i := 1089) (by decide +kernel)⟩
theorem lw_p38 : lw_okq (⟨"WormHeapModel", "isCode", "(I)Z"⟩, 34) := ⟨⟨by decide +kernel, by decide +kernel⟩, List.mem_of_getElem? (i := 777) (by decide +kernel), List.mem_of_getElem? (i := 1092) (by decide +kernel), List.mem_of_getElem? (i := 1093) (by decide +kernel)⟩
theorem lw_p39 : lw_okq (⟨"WormHeapModel", "load", "(I)V"⟩, 34) := ⟨⟨by decide +kernel, by decide +kernel⟩, List.mem_of_getElem? (i := 777) (by decide +kernel), List.mem_of_getElem? (i := 1096) (by decide +kernel), List.mem_of_getElem? (i := 1097) (by decide +kernel)⟩
theorem lw_p40 : lw_okq (⟨"WormHeapModel", "townsThatLie", "()I"⟩, 34) := ⟨⟨by decide +kernel, by decide +kernel⟩, List.mem_of_getElem? (i := 777) (by decide +kernel), List.mem_of_getElem? (i := 1108) (by decide +kernel), List.mem_of_getElem? (i := 1109) (by decide +kernel)⟩
theorem lw_p41 : lw_okq (⟨"WormHeapModel", "against", "(IIII)I"⟩, 34) := ⟨⟨by decide +kernel, by decide +kernel⟩, List.mem_of_getElem? (i := 777) (by decide +kernel), List.mem_of_getElem? (i := 1145) (by decide +kernel), List.mem_of_getElem? (i := 1146) (by decide +kernel)⟩
theorem lw_p42 : lw_okq (⟨"WormHeapModel", "sumIn", "(II)I"⟩, 34) := ⟨⟨by decide +kernel, by decide +kernel⟩, List.mem_of_getElem? (i := 777) (by decide +kernel), List.mem_of_getElem? (i := 1149) (by decide +kernel), List.mem_of_getElem? (i := 1150) (by decide +kernel)⟩
def lw_privs_3 : List (MethodName × Nat) := [(⟨"WormHeapModel", "takeTop", "(I)I"⟩, 34), (⟨"WormHeapModel", "tryAct", "(I)I"⟩, 34), (⟨"WormHeapModel", "find", "(I)I"⟩, 34), (⟨"WormHeapModel", "lastAct", "(I)I"⟩, 34), (⟨"WormHeapModel", "save", "(I)V"⟩, 34), (⟨"WormHeapModel", "nextAct", "(I)I"⟩, 34), (⟨"WormHeapModel", "isCode", "(I)Z"⟩, 34), (⟨"WormHeapModel", "load", "(I)V"⟩, 34), (⟨"WormHeapModel", "townsThatLie", "()I"⟩, 34), (⟨"WormHeapModel", "against", "(IIII)I"⟩, 34), (⟨"WormHeapModel", "sumIn", "(II)I"⟩, 34)]
theorem lw_r3 : ∀ q ∈ lw_privs_3, lw_okq q := List.forall_mem_cons.mpr ⟨lw_p32, List.forall_mem_cons.mpr ⟨lw_p33, List.forall_mem_cons.mpr ⟨lw_p34, List.forall_mem_cons.mpr ⟨lw_p35, List.forall_mem_cons.mpr ⟨lw_p36, List.forall_mem_cons.mpr ⟨lw_p37, List.forall_mem_cons.mpr ⟨lw_p38, List.forall_mem_cons.mpr ⟨lw_p39, List.forall_mem_cons.mpr ⟨lw_p40, List.forall_mem_cons.mpr ⟨lw_p41, List.forall_mem_cons.mpr ⟨lw_p42, fun _ h => absurd h List.not_mem_nil⟩⟩⟩⟩⟩⟩⟩⟩⟩⟩⟩
def lw_privs : List (MethodName × Nat) := lw_privs_1 ++ (lw_privs_2 ++ (lw_privs_3))
def lw_tbl : List Cond := k2_sels lw_privs ++ tables_1
theorem lw_privs_ok : ∀ q ∈ lw_privs, lw_okq q := by
  show ∀ q ∈ lw_privs_1 ++ (lw_privs_2 ++ (lw_privs_3)), lw_okq q
  exact List.forall_mem_append.mpr ⟨lw_r1, List.forall_mem_append.mpr ⟨lw_r2, lw_r3⟩⟩
-- ===== end of PART A; then your names; then what follows =====
def RX0 : String := "WormHeap$Act"
def TX0 : u_T := fun k => match k with
  | _ => ("", "", "", false)
def tyX0 : Nat → FieldType := fun k => match k with
  | _ => .int
theorem nmX0 : ∀ a, a < 0 → ∀ b, b < 0 → a ≠ b → (TX0 a).2.1 ≠ (TX0 b).2.1 := by decide +kernel
theorem tyX0_ok : ∀ k, k < 0 → parseFieldDescriptor (TX0 k).2.2.1 = some (tyX0 k) := by decide +kernel
abbrev cX0_code : ByteArray := prog_2_method_2_code
def yX0_code : MethodName := ⟨RX0, "code", "(III)I"⟩
abbrev cX0_how : ByteArray := prog_2_method_3_code
def yX0_how : MethodName := ⟨RX0, "how", "(I)I"⟩
abbrev cX0_where : ByteArray := prog_2_method_4_code
def yX0_where : MethodName := ⟨RX0, "where", "(I)I"⟩
abbrev cX0_other : ByteArray := prog_2_method_5_code
def yX0_other : MethodName := ⟨RX0, "other", "(I)I"⟩
abbrev cX0_back : ByteArray := prog_2_method_6_code
def yX0_back : MethodName := ⟨RX0, "back", "(II)I"⟩
def RX1 : String := "WormHeap$Dent"
def TX1 : u_T := fun k => match k with
  | _ => ("", "", "", false)
def tyX1 : Nat → FieldType := fun k => match k with
  | _ => .int
theorem nmX1 : ∀ a, a < 0 → ∀ b, b < 0 → a ≠ b → (TX1 a).2.1 ≠ (TX1 b).2.1 := by decide +kernel
theorem tyX1_ok : ∀ k, k < 0 → parseFieldDescriptor (TX1 k).2.2.1 = some (tyX1 k) := by decide +kernel
abbrev cX1_setsBy : ByteArray := prog_3_method_2_code
def yX1_setsBy : MethodName := ⟨RX1, "setsBy", "(LWormHeap$Gold;IJ)I"⟩
abbrev cX1_leastBy : ByteArray := prog_3_method_3_code
def yX1_leastBy : MethodName := ⟨RX1, "leastBy", "(LWormHeap$Gold;IJ)I"⟩
abbrev cX1_nextSubset : ByteArray := prog_3_method_4_code
def yX1_nextSubset : MethodName := ⟨RX1, "nextSubset", "(II)I"⟩
def RX2 : String := "WormHeap$Gold"
def TX2 : u_T := fun k => match k with
  | 0 => ("WormHeap$Gold", "kind", "[I", true)
  | 1 => ("WormHeap$Gold", "weight", "[I", true)
  | 2 => ("WormHeap$Gold", "town", "[I", true)
  | 3 => ("WormHeap$Gold", "place", "[I", true)
  | 4 => ("WormHeap$Gold", "below", "[I", true)
  | 5 => ("WormHeap$Gold", "top", "[I", true)
  | 6 => ("WormHeap$Gold", "sense", "[I", true)
  | 7 => ("WormHeap$Gold", "pieces", "I", false)
  | _ => ("WormHeap$Gold", "awake", "I", false)
def tyX2 : Nat → FieldType := fun k => match k with
  | 0 => .array .int
  | 1 => .array .int
  | 2 => .array .int
  | 3 => .array .int
  | 4 => .array .int
  | 5 => .array .int
  | 6 => .array .int
  | 7 => .int
  | _ => .int
theorem nmX2 : ∀ a, a < 9 → ∀ b, b < 9 → a ≠ b → (TX2 a).2.1 ≠ (TX2 b).2.1 := by decide +kernel
theorem tyX2_ok : ∀ k, k < 9 → parseFieldDescriptor (TX2 k).2.2.1 = some (tyX2 k) := by decide +kernel
abbrev cX2_init : ByteArray := prog_4_method_1_code
def yX2_init : MethodName := ⟨RX2, "<init>", "()V"⟩
abbrev cX2_isPiece : ByteArray := prog_4_method_2_code
def yX2_isPiece : MethodName := ⟨RX2, "isPiece", "(I)Z"⟩
abbrev cX2_pieces : ByteArray := prog_4_method_3_code
def yX2_pieces : MethodName := ⟨RX2, "pieces", "()I"⟩
abbrev cX2_timesAwake : ByteArray := prog_4_method_4_code
def yX2_timesAwake : MethodName := ⟨RX2, "timesAwake", "()I"⟩
abbrev cX2_kindOf : ByteArray := prog_4_method_5_code
def yX2_kindOf : MethodName := ⟨RX2, "kindOf", "(I)I"⟩
abbrev cX2_weighs : ByteArray := prog_4_method_6_code
def yX2_weighs : MethodName := ⟨RX2, "weighs", "(I)I"⟩
abbrev cX2_ownerOf : ByteArray := prog_4_method_7_code
def yX2_ownerOf : MethodName := ⟨RX2, "ownerOf", "(I)I"⟩
abbrev cX2_placeOf : ByteArray := prog_4_method_8_code
def yX2_placeOf : MethodName := ⟨RX2, "placeOf", "(I)I"⟩
abbrev cX2_offOf : ByteArray := prog_4_method_9_code
def yX2_offOf : MethodName := ⟨RX2, "offOf", "(I)I"⟩
abbrev cX2_belowOf : ByteArray := prog_4_method_10_code
def yX2_belowOf : MethodName := ⟨RX2, "belowOf", "(I)I"⟩
abbrev cX2_topOf : ByteArray := prog_4_method_11_code
def yX2_topOf : MethodName := ⟨RX2, "topOf", "(I)I"⟩
abbrev cX2_senseOf : ByteArray := prog_4_method_12_code
def yX2_senseOf : MethodName := ⟨RX2, "senseOf", "(I)I"⟩
abbrev cX2_becomeFine : ByteArray := prog_4_method_13_code
def yX2_becomeFine : MethodName := ⟨RX2, "becomeFine", "(II)V"⟩
abbrev cX2_loadIn : ByteArray := prog_4_method_14_code
def yX2_loadIn : MethodName := ⟨RX2, "loadIn", "(I)I"⟩
abbrev cX2_loadInPlaces : ByteArray := prog_4_method_15_code
def yX2_loadInPlaces : MethodName := ⟨RX2, "loadInPlaces", "()I"⟩
abbrev cX2_loadInBagOf : ByteArray := prog_4_method_16_code
def yX2_loadInBagOf : MethodName := ⟨RX2, "loadInBagOf", "(I)I"⟩
abbrev cX2_setIn : ByteArray := prog_4_method_17_code
def yX2_setIn : MethodName := ⟨RX2, "setIn", "(I)I"⟩
abbrev cX2_piecesIn : ByteArray := prog_4_method_18_code
def yX2_piecesIn : MethodName := ⟨RX2, "piecesIn", "(I)I"⟩
abbrev cX2_piecesInPlaces : ByteArray := prog_4_method_19_code
def yX2_piecesInPlaces : MethodName := ⟨RX2, "piecesInPlaces", "()I"⟩
abbrev cX2_weighsSet : ByteArray := prog_4_method_20_code
def yX2_weighsSet : MethodName := ⟨RX2, "weighsSet", "(I)I"⟩
abbrev cX2_add : ByteArray := prog_4_method_21_code
def yX2_add : MethodName := ⟨RX2, "add", "(IIII)I"⟩
abbrev cX2_clearPieces : ByteArray := prog_4_method_22_code
def yX2_clearPieces : MethodName := ⟨RX2, "clearPieces", "()V"⟩
abbrev cX2_becomeLike : ByteArray := prog_4_method_23_code
def yX2_becomeLike : MethodName := ⟨RX2, "becomeLike", "(LWormHeap$Gold;)V"⟩
abbrev cX2_put : ByteArray := prog_4_method_24_code
def yX2_put : MethodName := ⟨RX2, "put", "(II)V"⟩
abbrev cX2_take : ByteArray := prog_4_method_25_code
def yX2_take : MethodName := ⟨RX2, "take", "(I)I"⟩
abbrev cX2_turnOver : ByteArray := prog_4_method_26_code
def yX2_turnOver : MethodName := ⟨RX2, "turnOver", "()V"⟩
abbrev cX2_turned : ByteArray := prog_4_method_27_code
def yX2_turned : MethodName := ⟨RX2, "turned", "(I)I"⟩
abbrev cX2_tryAct : ByteArray := prog_4_method_28_code
def yX2_tryAct : MethodName := ⟨RX2, "tryAct", "(I)I"⟩
abbrev cX2_canBe : ByteArray := prog_4_method_29_code
def yX2_canBe : MethodName := ⟨RX2, "canBe", "(I)Z"⟩
abbrev cX2_isFelt : ByteArray := prog_4_method_30_code
def yX2_isFelt : MethodName := ⟨RX2, "isFelt", "(I)Z"⟩
abbrev cX2_isAboveSense : ByteArray := prog_4_method_31_code
def yX2_isAboveSense : MethodName := ⟨RX2, "isAboveSense", "(II)Z"⟩
abbrev cX2_doAct : ByteArray := prog_4_method_32_code
def yX2_doAct : MethodName := ⟨RX2, "doAct", "(I)V"⟩
abbrev cX2_eat : ByteArray := prog_4_method_33_code
def yX2_eat : MethodName := ⟨RX2, "eat", "()V"⟩
def RX3 : String := "WormHeap$HeapText"
def TX3 : u_T := fun k => match k with
  | 0 => ("WormHeap$HeapText", "kind", "[I", true)
  | 1 => ("WormHeap$HeapText", "weight", "[I", true)
  | 2 => ("WormHeap$HeapText", "town", "[I", true)
  | _ => ("WormHeap$HeapText", "place", "[I", true)
def tyX3 : Nat → FieldType := fun k => match k with
  | 0 => .array .int
  | 1 => .array .int
  | 2 => .array .int
  | _ => .array .int
theorem nmX3 : ∀ a, a < 4 → ∀ b, b < 4 → a ≠ b → (TX3 a).2.1 ≠ (TX3 b).2.1 := by decide +kernel
theorem tyX3_ok : ∀ k, k < 4 → parseFieldDescriptor (TX3 k).2.2.1 = some (tyX3 k) := by decide +kernel
abbrev cX3_init : ByteArray := prog_5_method_1_code
def yX3_init : MethodName := ⟨RX3, "<init>", "()V"⟩
abbrev cX3_read : ByteArray := prog_5_method_2_code
def yX3_read : MethodName := ⟨RX3, "read", "(LWormHeap$Tape;)I"⟩
abbrev cX3_readPiece : ByteArray := prog_5_method_3_code
def yX3_readPiece : MethodName := ⟨RX3, "readPiece", "(LWormHeap$Tape;I)Z"⟩
abbrev cX3_layOut : ByteArray := prog_5_method_4_code
def yX3_layOut : MethodName := ⟨RX3, "layOut", "(LWormHeap$Gold;I)V"⟩
def RX4 : String := "WormHeap$NightText"
def TX4 : u_T := fun k => match k with
  | _ => ("WormHeap$NightText", "acts", "[I", true)
def tyX4 : Nat → FieldType := fun k => match k with
  | _ => .array .int
theorem nmX4 : ∀ a, a < 1 → ∀ b, b < 1 → a ≠ b → (TX4 a).2.1 ≠ (TX4 b).2.1 := by decide +kernel
theorem tyX4_ok : ∀ k, k < 1 → parseFieldDescriptor (TX4 k).2.2.1 = some (tyX4 k) := by decide +kernel
abbrev cX4_init : ByteArray := prog_6_method_1_code
def yX4_init : MethodName := ⟨RX4, "<init>", "()V"⟩
abbrev cX4_read : ByteArray := prog_6_method_2_code
def yX4_read : MethodName := ⟨RX4, "read", "(LWormHeap$Tape;I)I"⟩
abbrev cX4_readAct : ByteArray := prog_6_method_3_code
def yX4_readAct : MethodName := ⟨RX4, "readAct", "(LWormHeap$Tape;I)I"⟩
abbrev cX4_act : ByteArray := prog_6_method_4_code
def yX4_act : MethodName := ⟨RX4, "act", "(LWormHeap$Gold;I)I"⟩
def RX5 : String := "WormHeap$Sheet"
def TX5 : u_T := fun k => match k with
  | 0 => ("WormHeap$Sheet", "row", "[J", true)
  | 1 => ("WormHeap$Sheet", "lane", "I", false)
  | _ => ("WormHeap$Sheet", "size", "I", false)
def tyX5 : Nat → FieldType := fun k => match k with
  | 0 => .array .long
  | 1 => .int
  | _ => .int
theorem nmX5 : ∀ a, a < 3 → ∀ b, b < 3 → a ≠ b → (TX5 a).2.1 ≠ (TX5 b).2.1 := by decide +kernel
theorem tyX5_ok : ∀ k, k < 3 → parseFieldDescriptor (TX5 k).2.2.1 = some (tyX5 k) := by decide +kernel
abbrev cX5_init : ByteArray := prog_7_method_1_code
def yX5_init : MethodName := ⟨RX5, "<init>", "()V"⟩
abbrev cX5_holdsRow : ByteArray := prog_7_method_2_code
def yX5_holdsRow : MethodName := ⟨RX5, "holdsRow", "()Z"⟩
abbrev cX5_isOfLane : ByteArray := prog_7_method_3_code
def yX5_isOfLane : MethodName := ⟨RX5, "isOfLane", "(LWormHeap$Sheet;)Z"⟩
abbrev cX5_hasItems : ByteArray := prog_7_method_4_code
def yX5_hasItems : MethodName := ⟨RX5, "hasItems", "(II)Z"⟩
abbrev cX5_refusal : ByteArray := prog_7_method_5_code
def yX5_refusal : MethodName := ⟨RX5, "refusal", "(III)I"⟩
abbrev cX5_renew : ByteArray := prog_7_method_6_code
def yX5_renew : MethodName := ⟨RX5, "renew", "(II)V"⟩
abbrev cX5_clear : ByteArray := prog_7_method_7_code
def yX5_clear : MethodName := ⟨RX5, "clear", "()I"⟩
abbrev cX5_itemAt : ByteArray := prog_7_method_8_code
def yX5_itemAt : MethodName := ⟨RX5, "itemAt", "(I)J"⟩
abbrev cX5_becomeAt : ByteArray := prog_7_method_9_code
def yX5_becomeAt : MethodName := ⟨RX5, "becomeAt", "(IJ)V"⟩
abbrev cX5_takeItems : ByteArray := prog_7_method_10_code
def yX5_takeItems : MethodName := ⟨RX5, "takeItems", "(ILWormHeap$Sheet;II)V"⟩
def RX6 : String := "WormHeap$Tape"
def TX6 : u_T := fun k => match k with
  | 0 => ("WormHeap$Tape", "bytes", "[C", true)
  | 1 => ("WormHeap$Tape", "length", "I", false)
  | _ => ("WormHeap$Tape", "at", "I", false)
def tyX6 : Nat → FieldType := fun k => match k with
  | 0 => .array .char
  | 1 => .int
  | _ => .int
theorem nmX6 : ∀ a, a < 3 → ∀ b, b < 3 → a ≠ b → (TX6 a).2.1 ≠ (TX6 b).2.1 := by decide +kernel
theorem tyX6_ok : ∀ k, k < 3 → parseFieldDescriptor (TX6 k).2.2.1 = some (tyX6 k) := by decide +kernel
abbrev cX6_init : ByteArray := prog_8_method_1_code
def yX6_init : MethodName := ⟨RX6, "<init>", "()V"⟩
abbrev cX6_append : ByteArray := prog_8_method_2_code
def yX6_append : MethodName := ⟨RX6, "append", "(JI)I"⟩
abbrev cX6_byteOf : ByteArray := prog_8_method_3_code
def yX6_byteOf : MethodName := ⟨RX6, "byteOf", "(JI)I"⟩
abbrev cX6_empty : ByteArray := prog_8_method_4_code
def yX6_empty : MethodName := ⟨RX6, "empty", "()V"⟩
abbrev cX6_fault : ByteArray := prog_8_method_5_code
def yX6_fault : MethodName := ⟨RX6, "fault", "()I"⟩
abbrev cX6_isAtEnd : ByteArray := prog_8_method_6_code
def yX6_isAtEnd : MethodName := ⟨RX6, "isAtEnd", "()Z"⟩
abbrev cX6_skipBlanks : ByteArray := prog_8_method_7_code
def yX6_skipBlanks : MethodName := ⟨RX6, "skipBlanks", "()V"⟩
abbrev cX6_choice : ByteArray := prog_8_method_8_code
def yX6_choice : MethodName := ⟨RX6, "choice", "(Ljava/lang/String;)I"⟩
abbrev cX6_choice_ : ByteArray := prog_8_method_9_code
def yX6_choice_ : MethodName := ⟨RX6, "choice", "(Ljava/lang/String;II)I"⟩
abbrev cX6_number : ByteArray := prog_8_method_10_code
def yX6_number : MethodName := ⟨RX6, "number", "()I"⟩
def RX7 : String := "WormHeap$Thief"
def TX7 : u_T := fun k => match k with
  | _ => ("WormHeap$Thief", "row", "[I", true)
def tyX7 : Nat → FieldType := fun k => match k with
  | _ => .array .int
theorem nmX7 : ∀ a, a < 1 → ∀ b, b < 1 → a ≠ b → (TX7 a).2.1 ≠ (TX7 b).2.1 := by decide +kernel
theorem tyX7_ok : ∀ k, k < 1 → parseFieldDescriptor (TX7 k).2.2.1 = some (tyX7 k) := by decide +kernel
abbrev cX7_init : ByteArray := prog_9_method_1_code
def yX7_init : MethodName := ⟨RX7, "<init>", "()V"⟩
abbrev cX7_fewestActs : ByteArray := prog_9_method_2_code
def yX7_fewestActs : MethodName := ⟨RX7, "fewestActs", "(LWormHeap$Gold;I)I"⟩
abbrev cX7_codeAt : ByteArray := prog_9_method_3_code
def yX7_codeAt : MethodName := ⟨RX7, "codeAt", "(I)I"⟩
abbrev cX7_search : ByteArray := prog_9_method_4_code
def yX7_search : MethodName := ⟨RX7, "search", "(LWormHeap$Gold;I[III)Z"⟩
abbrev cX7_canHelp : ByteArray := prog_9_method_5_code
def yX7_canHelp : MethodName := ⟨RX7, "canHelp", "(IZI)Z"⟩
abbrev cX7_othersOf : ByteArray := prog_9_method_6_code
def yX7_othersOf : MethodName := ⟨RX7, "othersOf", "(LWormHeap$Gold;I)I"⟩
abbrev cX7_leads : ByteArray := prog_9_method_7_code
def yX7_leads : MethodName := ⟨RX7, "leads", "(LWormHeap$Gold;I[III)Z"⟩
def RX8 : String := "WormHeap$Towns"
def TX8 : u_T := fun k => match k with
  | 0 => ("WormHeap$Towns", "fewest", "[I", true)
  | _ => ("WormHeap$Towns", "next", "[I", true)
def tyX8 : Nat → FieldType := fun k => match k with
  | 0 => .array .int
  | _ => .array .int
theorem nmX8 : ∀ a, a < 2 → ∀ b, b < 2 → a ≠ b → (TX8 a).2.1 ≠ (TX8 b).2.1 := by decide +kernel
theorem tyX8_ok : ∀ k, k < 2 → parseFieldDescriptor (TX8 k).2.2.1 = some (tyX8 k) := by decide +kernel
abbrev cX8_init : ByteArray := prog_10_method_1_code
def yX8_init : MethodName := ⟨RX8, "<init>", "()V"⟩
abbrev cX8_pairsUnder : ByteArray := prog_10_method_2_code
def yX8_pairsUnder : MethodName := ⟨RX8, "pairsUnder", "(LWormHeap$Gold;I)I"⟩
abbrev cX8_fewestAstray : ByteArray := prog_10_method_3_code
def yX8_fewestAstray : MethodName := ⟨RX8, "fewestAstray", "(LWormHeap$Gold;)I"⟩
abbrev cX8_give : ByteArray := prog_10_method_4_code
def yX8_give : MethodName := ⟨RX8, "give", "(LWormHeap$Gold;I)V"⟩
abbrev cX8_astrayIn : ByteArray := prog_10_method_5_code
def yX8_astrayIn : MethodName := ⟨RX8, "astrayIn", "(LWormHeap$Gold;II)I"⟩
abbrev cX8_townsInPlaces : ByteArray := prog_10_method_6_code
def yX8_townsInPlaces : MethodName := ⟨RX8, "townsInPlaces", "(LWormHeap$Gold;)I"⟩
def RX9 : String := "WormHeap"
def TX9 : u_T := fun k => match k with
  | 0 => ("WormHeap", "gold", "LWormHeap$Gold;", true)
  | 1 => ("WormHeap", "kept", "LWormHeap$Gold;", true)
  | 2 => ("WormHeap", "hasImage", "Z", false)
  | 3 => ("WormHeap", "thief", "LWormHeap$Thief;", true)
  | 4 => ("WormHeap", "towns", "LWormHeap$Towns;", true)
  | 5 => ("WormHeap", "tape", "LWormHeap$Tape;", true)
  | 6 => ("WormHeap", "heapText", "LWormHeap$HeapText;", true)
  | 7 => ("WormHeap", "nightText", "LWormHeap$NightText;", true)
  | _ => ("WormHeap", "sheets", "[LWormHeap$Sheet;", true)
def tyX9 : Nat → FieldType := fun k => match k with
  | 0 => .object "WormHeap$Gold"
  | 1 => .object "WormHeap$Gold"
  | 2 => .boolean
  | 3 => .object "WormHeap$Thief"
  | 4 => .object "WormHeap$Towns"
  | 5 => .object "WormHeap$Tape"
  | 6 => .object "WormHeap$HeapText"
  | 7 => .object "WormHeap$NightText"
  | _ => .array (.object "WormHeap$Sheet")
theorem nmX9 : ∀ a, a < 9 → ∀ b, b < 9 → a ≠ b → (TX9 a).2.1 ≠ (TX9 b).2.1 := by decide +kernel
theorem tyX9_ok : ∀ k, k < 9 → parseFieldDescriptor (TX9 k).2.2.1 = some (tyX9 k) := by decide +kernel
abbrev cX9_init : ByteArray := prog_1_method_1_code
def yX9_init : MethodName := ⟨RX9, "<init>", "()V"⟩
abbrev cX9_piece : ByteArray := prog_1_method_2_code
def yX9_piece : MethodName := ⟨RX9, "piece", "(IIII)I"⟩
abbrev cX9_told : ByteArray := prog_1_method_3_code
def yX9_told : MethodName := ⟨RX9, "told", "(II)I"⟩
abbrev cX9_of : ByteArray := prog_1_method_4_code
def yX9_of : MethodName := ⟨RX9, "of", "(II)I"⟩
abbrev cX9_sense : ByteArray := prog_1_method_5_code
def yX9_sense : MethodName := ⟨RX9, "sense", "(II)I"⟩
abbrev cX9_type : ByteArray := prog_1_method_6_code
def yX9_type : MethodName := ⟨RX9, "type", "(JI)I"⟩
abbrev cX9_heap : ByteArray := prog_1_method_7_code
def yX9_heap : MethodName := ⟨RX9, "heap", "()I"⟩
abbrev cX9_night : ByteArray := prog_1_method_8_code
def yX9_night : MethodName := ⟨RX9, "night", "()I"⟩
abbrev cX9_count : ByteArray := prog_1_method_9_code
def yX9_count : MethodName := ⟨RX9, "count", "(I)I"⟩
abbrev cX9_lift : ByteArray := prog_1_method_10_code
def yX9_lift : MethodName := ⟨RX9, "lift", "(I)I"⟩
abbrev cX9_lay : ByteArray := prog_1_method_11_code
def yX9_lay : MethodName := ⟨RX9, "lay", "(II)I"⟩
abbrev cX9_swap : ByteArray := prog_1_method_12_code
def yX9_swap : MethodName := ⟨RX9, "swap", "(II)I"⟩
abbrev cX9_push : ByteArray := prog_1_method_13_code
def yX9_push : MethodName := ⟨RX9, "push", "(II)I"⟩
abbrev cX9_turn : ByteArray := prog_1_method_14_code
def yX9_turn : MethodName := ⟨RX9, "turn", "()I"⟩
abbrev cX9_had : ByteArray := prog_1_method_15_code
def yX9_had : MethodName := ⟨RX9, "had", "(II)I"⟩
abbrev cX9_under : ByteArray := prog_1_method_16_code
def yX9_under : MethodName := ⟨RX9, "under", "(I)I"⟩
abbrev cX9_own : ByteArray := prog_1_method_17_code
def yX9_own : MethodName := ⟨RX9, "own", "()I"⟩
abbrev cX9_odds : ByteArray := prog_1_method_18_code
def yX9_odds : MethodName := ⟨RX9, "odds", "(IIIII)I"⟩
abbrev cX9_share : ByteArray := prog_1_method_19_code
def yX9_share : MethodName := ⟨RX9, "share", "(III)I"⟩
abbrev cX9_image : ByteArray := prog_1_method_20_code
def yX9_image : MethodName := ⟨RX9, "image", "()I"⟩
abbrev cX9_restore : ByteArray := prog_1_method_21_code
def yX9_restore : MethodName := ⟨RX9, "restore", "()I"⟩
abbrev cX9_dents : ByteArray := prog_1_method_22_code
def yX9_dents : MethodName := ⟨RX9, "dents", "(IIII)I"⟩
abbrev cX9_tried : ByteArray := prog_1_method_23_code
def yX9_tried : MethodName := ⟨RX9, "tried", "(IIIII)I"⟩
abbrev cX9_film : ByteArray := prog_1_method_24_code
def yX9_film : MethodName := ⟨RX9, "film", "(III)I"⟩
abbrev cX9_sheet : ByteArray := prog_1_method_25_code
def yX9_sheet : MethodName := ⟨RX9, "sheet", "(III)I"⟩
abbrev cX9_drop : ByteArray := prog_1_method_26_code
def yX9_drop : MethodName := ⟨RX9, "drop", "(I)I"⟩
abbrev cX9_item : ByteArray := prog_1_method_27_code
def yX9_item : MethodName := ⟨RX9, "item", "(IIIJ)I"⟩
abbrev cX9_copy : ByteArray := prog_1_method_28_code
def yX9_copy : MethodName := ⟨RX9, "copy", "(IIIII)I"⟩
abbrev cX9_isIn : ByteArray := prog_1_method_29_code
def yX9_isIn : MethodName := ⟨RX9, "isIn", "(III)Z"⟩
abbrev cX9_isPlace : ByteArray := prog_1_method_30_code
def yX9_isPlace : MethodName := ⟨RX9, "isPlace", "(I)Z"⟩
abbrev cX9_isTown : ByteArray := prog_1_method_31_code
def yX9_isTown : MethodName := ⟨RX9, "isTown", "(I)Z"⟩
abbrev cX9_isLane : ByteArray := prog_1_method_32_code
def yX9_isLane : MethodName := ⟨RX9, "isLane", "(I)Z"⟩
abbrev cX9_isPart : ByteArray := prog_1_method_33_code
def yX9_isPart : MethodName := ⟨RX9, "isPart", "(I)Z"⟩
abbrev cX9_holds : ByteArray := prog_1_method_34_code
def yX9_holds : MethodName := ⟨RX9, "holds", "(II)Z"⟩
abbrev cX9_sheetAt : ByteArray := prog_1_method_35_code
def yX9_sheetAt : MethodName := ⟨RX9, "sheetAt", "(I)LWormHeap$Sheet;"⟩
abbrev cX9_amongSenses : ByteArray := prog_1_method_36_code
def yX9_amongSenses : MethodName := ⟨RX9, "amongSenses", "(III)I"⟩
abbrev cX9_power : ByteArray := prog_1_method_37_code
def yX9_power : MethodName := ⟨RX9, "power", "(II)I"⟩
abbrev cX9_partOf : ByteArray := prog_1_method_38_code
def yX9_partOf : MethodName := ⟨RX9, "partOf", "(III)I"⟩
abbrev cX9_commonDivisor : ByteArray := prog_1_method_39_code
def yX9_commonDivisor : MethodName := ⟨RX9, "commonDivisor", "(II)I"⟩
def RX10 : String := "WormHeapModel"
def TX10 : u_T := fun k => match k with
  | 0 => ("WormHeapModel", "pieces", "I", false)
  | 1 => ("WormHeapModel", "kind", "[I", true)
  | 2 => ("WormHeapModel", "weight", "[I", true)
  | 3 => ("WormHeapModel", "town", "[I", true)
  | 4 => ("WormHeapModel", "where", "[I", true)
  | 5 => ("WormHeapModel", "many", "[I", true)
  | 6 => ("WormHeapModel", "pile", "[I", true)
  | 7 => ("WormHeapModel", "sense", "[I", true)
  | 8 => ("WormHeapModel", "awake", "I", false)
  | 9 => ("WormHeapModel", "tape", "[I", true)
  | 10 => ("WormHeapModel", "taped", "I", false)
  | 11 => ("WormHeapModel", "at0", "I", false)
  | 12 => ("WormHeapModel", "fault", "I", false)
  | 13 => ("WormHeapModel", "readPieces", "I", false)
  | 14 => ("WormHeapModel", "readKind", "[I", true)
  | 15 => ("WormHeapModel", "readWeight", "[I", true)
  | 16 => ("WormHeapModel", "readTown", "[I", true)
  | 17 => ("WormHeapModel", "readPlace", "[I", true)
  | 18 => ("WormHeapModel", "acts", "I", false)
  | 19 => ("WormHeapModel", "act", "[I", true)
  | 20 => ("WormHeapModel", "turned", "[I", true)
  | 21 => ("WormHeapModel", "turnedMany", "[I", true)
  | 22 => ("WormHeapModel", "stateWhere", "[I", true)
  | 23 => ("WormHeapModel", "stateMany", "[I", true)
  | 24 => ("WormHeapModel", "statePile", "[I", true)
  | 25 => ("WormHeapModel", "row", "[I", true)
  | 26 => ("WormHeapModel", "isImage", "Z", false)
  | 27 => ("WormHeapModel", "imagePieces", "I", false)
  | 28 => ("WormHeapModel", "imageAwake", "I", false)
  | 29 => ("WormHeapModel", "image", "[I", true)
  | 30 => ("WormHeapModel", "lane", "[I", true)
  | 31 => ("WormHeapModel", "items", "[I", true)
  | 32 => ("WormHeapModel", "item", "[J", true)
  | _ => ("WormHeapModel", "copied", "[J", true)
def tyX10 : Nat → FieldType := fun k => match k with
  | 0 => .int
  | 1 => .array .int
  | 2 => .array .int
  | 3 => .array .int
  | 4 => .array .int
  | 5 => .array .int
  | 6 => .array .int
  | 7 => .array .int
  | 8 => .int
  | 9 => .array .int
  | 10 => .int
  | 11 => .int
  | 12 => .int
  | 13 => .int
  | 14 => .array .int
  | 15 => .array .int
  | 16 => .array .int
  | 17 => .array .int
  | 18 => .int
  | 19 => .array .int
  | 20 => .array .int
  | 21 => .array .int
  | 22 => .array .int
  | 23 => .array .int
  | 24 => .array .int
  | 25 => .array .int
  | 26 => .boolean
  | 27 => .int
  | 28 => .int
  | 29 => .array .int
  | 30 => .array .int
  | 31 => .array .int
  | 32 => .array .long
  | _ => .array .long
theorem nmX10 : ∀ a, a < 34 → ∀ b, b < 34 → a ≠ b → (TX10 a).2.1 ≠ (TX10 b).2.1 := by decide +kernel
theorem tyX10_ok : ∀ k, k < 34 → parseFieldDescriptor (TX10 k).2.2.1 = some (tyX10 k) := by decide +kernel
abbrev cX10_init : ByteArray := prog_12_method_1_code
def yX10_init : MethodName := ⟨RX10, "<init>", "()V"⟩
abbrev cX10_in : ByteArray := prog_12_method_3_code
def yX10_in : MethodName := ⟨RX10, "in", "(JJJ)Z"⟩
abbrev cX10_isPiece : ByteArray := prog_12_method_4_code
def yX10_isPiece : MethodName := ⟨RX10, "isPiece", "(I)Z"⟩
abbrev cX10_isPlace : ByteArray := prog_12_method_5_code
def yX10_isPlace : MethodName := ⟨RX10, "isPlace", "(I)Z"⟩
abbrev cX10_weighs : ByteArray := prog_12_method_6_code
def yX10_weighs : MethodName := ⟨RX10, "weighs", "(I)I"⟩
abbrev cX10_townOf : ByteArray := prog_12_method_7_code
def yX10_townOf : MethodName := ⟨RX10, "townOf", "(I)I"⟩
abbrev cX10_topOf : ByteArray := prog_12_method_8_code
def yX10_topOf : MethodName := ⟨RX10, "topOf", "(I)I"⟩
abbrev cX10_put : ByteArray := prog_12_method_9_code
def yX10_put : MethodName := ⟨RX10, "put", "(II)V"⟩
abbrev cX10_takeTop : ByteArray := prog_12_method_10_code
def yX10_takeTop : MethodName := ⟨RX10, "takeTop", "(I)I"⟩
abbrev cX10_loadOf : ByteArray := prog_12_method_11_code
def yX10_loadOf : MethodName := ⟨RX10, "loadOf", "(I)I"⟩
abbrev cX10_addPiece : ByteArray := prog_12_method_12_code
def yX10_addPiece : MethodName := ⟨RX10, "addPiece", "(IIII)V"⟩
abbrev cX10_piece : ByteArray := prog_12_method_13_code
def yX10_piece : MethodName := ⟨RX10, "piece", "(IIII)I"⟩
abbrev cX10_offOf : ByteArray := prog_12_method_14_code
def yX10_offOf : MethodName := ⟨RX10, "offOf", "(I)I"⟩
abbrev cX10_told : ByteArray := prog_12_method_15_code
def yX10_told : MethodName := ⟨RX10, "told", "(II)I"⟩
abbrev cX10_of : ByteArray := prog_12_method_16_code
def yX10_of : MethodName := ⟨RX10, "of", "(II)I"⟩
abbrev cX10_sense : ByteArray := prog_12_method_17_code
def yX10_sense : MethodName := ⟨RX10, "sense", "(II)I"⟩
abbrev cX10_countIn : ByteArray := prog_12_method_18_code
def yX10_countIn : MethodName := ⟨RX10, "countIn", "(I)I"⟩
abbrev cX10_bagWeighs : ByteArray := prog_12_method_19_code
def yX10_bagWeighs : MethodName := ⟨RX10, "bagWeighs", "()I"⟩
abbrev cX10_placesWeigh : ByteArray := prog_12_method_20_code
def yX10_placesWeigh : MethodName := ⟨RX10, "placesWeigh", "()I"⟩
abbrev cX10_count : ByteArray := prog_12_method_21_code
def yX10_count : MethodName := ⟨RX10, "count", "(I)I"⟩
abbrev cX10_type : ByteArray := prog_12_method_22_code
def yX10_type : MethodName := ⟨RX10, "type", "(JI)I"⟩
abbrev cX10_here : ByteArray := prog_12_method_23_code
def yX10_here : MethodName := ⟨RX10, "here", "()I"⟩
abbrev cX10_fails : ByteArray := prog_12_method_24_code
def yX10_fails : MethodName := ⟨RX10, "fails", "(I)V"⟩
abbrev cX10_take : ByteArray := prog_12_method_25_code
def yX10_take : MethodName := ⟨RX10, "take", "(II)I"⟩
abbrev cX10_takeNumber : ByteArray := prog_12_method_26_code
def yX10_takeNumber : MethodName := ⟨RX10, "takeNumber", "()I"⟩
abbrev cX10_takePiece : ByteArray := prog_12_method_27_code
def yX10_takePiece : MethodName := ⟨RX10, "takePiece", "()V"⟩
abbrev cX10_heap : ByteArray := prog_12_method_28_code
def yX10_heap : MethodName := ⟨RX10, "heap", "()I"⟩
abbrev cX10_takeLetter : ByteArray := prog_12_method_29_code
def yX10_takeLetter : MethodName := ⟨RX10, "takeLetter", "()I"⟩
abbrev cX10_takeMark : ByteArray := prog_12_method_30_code
def yX10_takeMark : MethodName := ⟨RX10, "takeMark", "(I)V"⟩
abbrev cX10_takeAct : ByteArray := prog_12_method_31_code
def yX10_takeAct : MethodName := ⟨RX10, "takeAct", "()V"⟩
abbrev cX10_night : ByteArray := prog_12_method_32_code
def yX10_night : MethodName := ⟨RX10, "night", "()I"⟩
abbrev cX10_kindOf : ByteArray := prog_12_method_33_code
def yX10_kindOf : MethodName := ⟨RX10, "kindOf", "(I)I"⟩
abbrev cX10_placeOf : ByteArray := prog_12_method_34_code
def yX10_placeOf : MethodName := ⟨RX10, "placeOf", "(I)I"⟩
abbrev cX10_otherOf : ByteArray := prog_12_method_35_code
def yX10_otherOf : MethodName := ⟨RX10, "otherOf", "(I)I"⟩
abbrev cX10_canBe : ByteArray := prog_12_method_36_code
def yX10_canBe : MethodName := ⟨RX10, "canBe", "(I)Z"⟩
abbrev cX10_size : ByteArray := prog_12_method_37_code
def yX10_size : MethodName := ⟨RX10, "size", "(I)I"⟩
abbrev cX10_isFelt : ByteArray := prog_12_method_38_code
def yX10_isFelt : MethodName := ⟨RX10, "isFelt", "(I)Z"⟩
abbrev cX10_doAct : ByteArray := prog_12_method_39_code
def yX10_doAct : MethodName := ⟨RX10, "doAct", "(I)I"⟩
abbrev cX10_wake : ByteArray := prog_12_method_40_code
def yX10_wake : MethodName := ⟨RX10, "wake", "()V"⟩
abbrev cX10_goes : ByteArray := prog_12_method_41_code
def yX10_goes : MethodName := ⟨RX10, "goes", "(I)Z"⟩
abbrev cX10_tryAct : ByteArray := prog_12_method_42_code
def yX10_tryAct : MethodName := ⟨RX10, "tryAct", "(I)I"⟩
abbrev cX10_lift : ByteArray := prog_12_method_43_code
def yX10_lift : MethodName := ⟨RX10, "lift", "(I)I"⟩
abbrev cX10_lay : ByteArray := prog_12_method_44_code
def yX10_lay : MethodName := ⟨RX10, "lay", "(II)I"⟩
abbrev cX10_swap : ByteArray := prog_12_method_45_code
def yX10_swap : MethodName := ⟨RX10, "swap", "(II)I"⟩
abbrev cX10_push : ByteArray := prog_12_method_46_code
def yX10_push : MethodName := ⟨RX10, "push", "(II)I"⟩
abbrev cX10_turn : ByteArray := prog_12_method_47_code
def yX10_turn : MethodName := ⟨RX10, "turn", "()I"⟩
abbrev cX10_save : ByteArray := prog_12_method_48_code
def yX10_save : MethodName := ⟨RX10, "save", "(I)V"⟩
abbrev cX10_load : ByteArray := prog_12_method_49_code
def yX10_load : MethodName := ⟨RX10, "load", "(I)V"⟩
abbrev cX10_nextAct : ByteArray := prog_12_method_50_code
def yX10_nextAct : MethodName := ⟨RX10, "nextAct", "(I)I"⟩
abbrev cX10_isCode : ByteArray := prog_12_method_51_code
def yX10_isCode : MethodName := ⟨RX10, "isCode", "(I)Z"⟩
abbrev cX10_lastAct : ByteArray := prog_12_method_52_code
def yX10_lastAct : MethodName := ⟨RX10, "lastAct", "(I)I"⟩
abbrev cX10_find : ByteArray := prog_12_method_53_code
def yX10_find : MethodName := ⟨RX10, "find", "(I)I"⟩
abbrev cX10_had : ByteArray := prog_12_method_54_code
def yX10_had : MethodName := ⟨RX10, "had", "(II)I"⟩
abbrev cX10_under : ByteArray := prog_12_method_55_code
def yX10_under : MethodName := ⟨RX10, "under", "(I)I"⟩
abbrev cX10_townsThatLie : ByteArray := prog_12_method_56_code
def yX10_townsThatLie : MethodName := ⟨RX10, "townsThatLie", "()I"⟩
abbrev cX10_own : ByteArray := prog_12_method_57_code
def yX10_own : MethodName := ⟨RX10, "own", "()I"⟩
abbrev cX10_divisor : ByteArray := prog_12_method_58_code
def yX10_divisor : MethodName := ⟨RX10, "divisor", "(II)I"⟩
abbrev cX10_partOf : ByteArray := prog_12_method_59_code
def yX10_partOf : MethodName := ⟨RX10, "partOf", "(III)I"⟩
abbrev cX10_odds : ByteArray := prog_12_method_60_code
def yX10_odds : MethodName := ⟨RX10, "odds", "(IIIII)I"⟩
abbrev cX10_has : ByteArray := prog_12_method_61_code
def yX10_has : MethodName := ⟨RX10, "has", "(II)Z"⟩
abbrev cX10_share : ByteArray := prog_12_method_62_code
def yX10_share : MethodName := ⟨RX10, "share", "(III)I"⟩
abbrev cX10_image : ByteArray := prog_12_method_63_code
def yX10_image : MethodName := ⟨RX10, "image", "()I"⟩
abbrev cX10_restore : ByteArray := prog_12_method_64_code
def yX10_restore : MethodName := ⟨RX10, "restore", "()I"⟩
abbrev cX10_isSheet : ByteArray := prog_12_method_65_code
def yX10_isSheet : MethodName := ⟨RX10, "isSheet", "(I)Z"⟩
abbrev cX10_low : ByteArray := prog_12_method_66_code
def yX10_low : MethodName := ⟨RX10, "low", "(IJ)J"⟩
abbrev cX10_against : ByteArray := prog_12_method_67_code
def yX10_against : MethodName := ⟨RX10, "against", "(IIII)I"⟩
abbrev cX10_sumIn : ByteArray := prog_12_method_68_code
def yX10_sumIn : MethodName := ⟨RX10, "sumIn", "(II)I"⟩
abbrev cX10_dents : ByteArray := prog_12_method_69_code
def yX10_dents : MethodName := ⟨RX10, "dents", "(IIII)I"⟩
abbrev cX10_tried : ByteArray := prog_12_method_70_code
def yX10_tried : MethodName := ⟨RX10, "tried", "(IIIII)I"⟩
abbrev cX10_nextOf : ByteArray := prog_12_method_71_code
def yX10_nextOf : MethodName := ⟨RX10, "nextOf", "(II)I"⟩
abbrev cX10_film : ByteArray := prog_12_method_72_code
def yX10_film : MethodName := ⟨RX10, "film", "(III)I"⟩
abbrev cX10_sheet : ByteArray := prog_12_method_73_code
def yX10_sheet : MethodName := ⟨RX10, "sheet", "(III)I"⟩
abbrev cX10_drop : ByteArray := prog_12_method_74_code
def yX10_drop : MethodName := ⟨RX10, "drop", "(I)I"⟩
abbrev cX10_item : ByteArray := prog_12_method_75_code
def yX10_item : MethodName := ⟨RX10, "item", "(IIIJ)I"⟩
abbrev cX10_copy : ByteArray := prog_12_method_76_code
def yX10_copy : MethodName := ⟨RX10, "copy", "(IIIII)I"⟩
def RJx145de : String := "java/io/Serializable"
def TJx145de : u_T := fun k => match k with
  | _ => ("", "", "", false)
def tyJx145de : Nat → FieldType := fun k => match k with
  | _ => .int
def RJx9f9b0 : String := "java/lang/CharSequence"
def TJx9f9b0 : u_T := fun k => match k with
  | _ => ("", "", "", false)
def tyJx9f9b0 : Nat → FieldType := fun k => match k with
  | _ => .int
def RJ11 : String := "java/lang/Character"
def TJ11 : u_T := fun k => match k with
  | _ => ("", "", "", false)
def tyJ11 : Nat → FieldType := fun k => match k with
  | _ => .int
abbrev cJ11_isValidCodePoint_9a6ad : ByteArray := prog_13_method_11_code
def yJ11_isValidCodePoint_9a6ad : MethodName := ⟨RJ11, "isValidCodePoint", "(I)Z"⟩
abbrev cJ11_highSurrogate_5068e : ByteArray := prog_13_method_28_code
def yJ11_highSurrogate_5068e : MethodName := ⟨RJ11, "highSurrogate", "(I)C"⟩
abbrev cJ11_lowSurrogate_5068e : ByteArray := prog_13_method_29_code
def yJ11_lowSurrogate_5068e : MethodName := ⟨RJ11, "lowSurrogate", "(I)C"⟩
def RJxb160c : String := "java/lang/Comparable"
def TJxb160c : u_T := fun k => match k with
  | _ => ("", "", "", false)
def tyJxb160c : Nat → FieldType := fun k => match k with
  | _ => .int
def RJ6 : String := "java/lang/Integer"
def TJ6 : u_T := fun k => match k with
  | _ => ("", "", "", false)
def tyJ6 : Nat → FieldType := fun k => match k with
  | _ => .int
abbrev cJ6_bitCount_0f7a4 : ByteArray := prog_14_method_49_code
def yJ6_bitCount_0f7a4 : MethodName := ⟨RJ6, "bitCount", "(I)I"⟩
def RJ9 : String := "java/lang/Math"
def TJ9 : u_T := fun k => match k with
  | _ => ("", "", "", false)
def tyJ9 : Nat → FieldType := fun k => match k with
  | _ => .int
abbrev cJ9_abs_0f7a4 : ByteArray := prog_15_method_59_code
def yJ9_abs_0f7a4 : MethodName := ⟨RJ9, "abs", "(I)I"⟩
abbrev cJ9_max_7cf53 : ByteArray := prog_15_method_65_code
def yJ9_max_7cf53 : MethodName := ⟨RJ9, "max", "(II)I"⟩
abbrev cJ9_min_7cf53 : ByteArray := prog_15_method_69_code
def yJ9_min_7cf53 : MethodName := ⟨RJ9, "min", "(II)I"⟩
def RJ0 : String := "java/lang/String"
def TJ0 : u_T := fun k => match k with
  | _ => ("", "", "", false)
def tyJ0 : Nat → FieldType := fun k => match k with
  | _ => .int
abbrev cJ0_length_8abf5 : ByteArray := prog_16_method_54_code
def yJ0_length_8abf5 : MethodName := ⟨RJ0, "length", "()I"⟩
abbrev cJ0_indexOf_0f7a4 : ByteArray := prog_16_method_79_code
def yJ0_indexOf_0f7a4 : MethodName := ⟨RJ0, "indexOf", "(I)I"⟩
abbrev cJ0_indexOf_7cf53 : ByteArray := prog_16_method_80_code
def yJ0_indexOf_7cf53 : MethodName := ⟨RJ0, "indexOf", "(II)I"⟩
abbrev cJ0_coder_7d493 : ByteArray := prog_16_method_152_code
def yJ0_coder_7d493 : MethodName := ⟨RJ0, "coder", "()B"⟩
abbrev cJ0_isLatin1_aae02 : ByteArray := prog_16_method_154_code
def yJ0_isLatin1_aae02 : MethodName := ⟨RJ0, "isLatin1", "()Z"⟩
abbrev cJ0_checkBoundsBeginEnd_23922 : ByteArray := prog_16_method_158_code
def yJ0_checkBoundsBeginEnd_23922 : MethodName := ⟨RJ0, "checkBoundsBeginEnd", "(III)V"⟩
def RJ1 : String := "java/lang/StringLatin1"
def TJ1 : u_T := fun k => match k with
  | _ => ("", "", "", false)
def tyJ1 : Nat → FieldType := fun k => match k with
  | _ => .int
abbrev cJ1_canEncode_9a6ad : ByteArray := prog_17_method_4_code
def yJ1_canEncode_9a6ad : MethodName := ⟨RJ1, "canEncode", "(I)Z"⟩
abbrev cJ1_indexOf_4cfef : ByteArray := prog_17_method_22_code
def yJ1_indexOf_4cfef : MethodName := ⟨RJ1, "indexOf", "([BIII)I"⟩
abbrev cJ1_indexOfChar_4cfef : ByteArray := prog_17_method_23_code
def yJ1_indexOfChar_4cfef : MethodName := ⟨RJ1, "indexOfChar", "([BIII)I"⟩
def RJ2 : String := "java/lang/StringUTF16"
def TJ2 : u_T := fun k => match k with
  | _ => ("", "", "", false)
def tyJ2 : Nat → FieldType := fun k => match k with
  | _ => .int
abbrev cJ2_getChar_3b067 : ByteArray := prog_18_method_5_code
def yJ2_getChar_3b067 : MethodName := ⟨RJ2, "getChar", "([BI)C"⟩
abbrev cJ2_length_9d52b : ByteArray := prog_18_method_6_code
def yJ2_length_9d52b : MethodName := ⟨RJ2, "length", "([B)I"⟩
abbrev cJ2_indexOf_4cfef : ByteArray := prog_18_method_40_code
def yJ2_indexOf_4cfef : MethodName := ⟨RJ2, "indexOf", "([BIII)I"⟩
abbrev cJ2_indexOfChar_4cfef : ByteArray := prog_18_method_47_code
def yJ2_indexOfChar_4cfef : MethodName := ⟨RJ2, "indexOfChar", "([BIII)I"⟩
abbrev cJ2_indexOfCharUnsafe_4cfef : ByteArray := prog_18_method_48_code
def yJ2_indexOfCharUnsafe_4cfef : MethodName := ⟨RJ2, "indexOfCharUnsafe", "([BIII)I"⟩
abbrev cJ2_indexOfSupplementary_4cfef : ByteArray := prog_18_method_49_code
def yJ2_indexOfSupplementary_4cfef : MethodName := ⟨RJ2, "indexOfSupplementary", "([BIII)I"⟩
abbrev cJ2_checkBoundsBeginEnd_d044e : ByteArray := prog_18_method_93_code
def yJ2_checkBoundsBeginEnd_d044e : MethodName := ⟨RJ2, "checkBoundsBeginEnd", "(II[B)V"⟩
def RJ10 : String := "java/lang/System"
def TJ10 : u_T := fun k => match k with
  | _ => ("", "", "", false)
def tyJ10 : Nat → FieldType := fun k => match k with
  | _ => .int
def RJxfd54e : String := "java/lang/constant/Constable"
def TJxfd54e : u_T := fun k => match k with
  | _ => ("", "", "", false)
def tyJxfd54e : Nat → FieldType := fun k => match k with
  | _ => .int
def RJx3cf43 : String := "java/lang/constant/ConstantDesc"
def TJx3cf43 : u_T := fun k => match k with
  | _ => ("", "", "", false)
def tyJx3cf43 : Nat → FieldType := fun k => match k with
  | _ => .int
def RJ7 : String := "java/util/Arrays"
def TJ7 : u_T := fun k => match k with
  | _ => ("", "", "", false)
def tyJ7 : Nat → FieldType := fun k => match k with
  | _ => .int
abbrev cJ7_fill_d0a16 : ByteArray := prog_20_method_101_code
def yJ7_fill_d0a16 : MethodName := ⟨RJ7, "fill", "([JJ)V"⟩
abbrev cJ7_fill_53178 : ByteArray := prog_20_method_103_code
def yJ7_fill_53178 : MethodName := ⟨RJ7, "fill", "([II)V"⟩
def RJ3 : String := "jdk/internal/util/Preconditions"
def TJ3 : u_T := fun k => match k with
  | _ => ("", "", "", false)
def tyJ3 : Nat → FieldType := fun k => match k with
  | _ => .int
abbrev cJ3_checkFromToIndex_8c36e : ByteArray := prog_21_method_12_code
def yJ3_checkFromToIndex_8c36e : MethodName := ⟨RJ3, "checkFromToIndex", "(IIILjava/util/function/BiFunction;)I"⟩
abbrev vwCl : List vw_C := [(RX2, TX2, 9), (RX3, TX3, 4), (RX4, TX4, 1), (RX5, TX5, 3), (RX6, TX6, 3), (RX7, TX7, 1), (RX8, TX8, 2), (RX9, TX9, 9), (RX10, TX10, 34)]
/-- the good words of the tables: those that a caller hands on to its callees -/
def TB : List Cond := lw_tbl.filter goodWord
theorem TB_good : ∀ w ∈ TB, (w.onTables && w.keeps) = true ∨ ∃ ty, w = .arrayClass ty := fun w h => good_of_word (List.mem_filter.mp h).2
theorem TB_in : ∀ w ∈ TB, w ∈ lw_tbl := fun w h => (List.mem_filter.mp h).1
theorem TB_t {w : Cond} (h : w ∈ tables_1) (g : goodWord w = true) : w ∈ TB := List.mem_filter.mpr ⟨List.mem_append_right _ h, g⟩
theorem TB_p {w : Cond} (h : w ∈ k2_sels lw_privs) (g : goodWord w = true) : w ∈ TB := List.mem_filter.mpr ⟨List.mem_append_left _ h, g⟩
theorem tb1 {w : Cond} (i : Nat) (h : tables_1_1[i]? = some w) (g : goodWord w = true) : w ∈ TB := TB_t (List.mem_append_left _ (List.mem_of_getElem? h)) g
theorem tb2 {w : Cond} (i : Nat) (h : tables_1_2[i]? = some w) (g : goodWord w = true) : w ∈ TB := TB_t (List.mem_append_right _ (List.mem_append_left _ (List.mem_of_getElem? h))) g
theorem tb3 {w : Cond} (i : Nat) (h : tables_1_3[i]? = some w) (g : goodWord w = true) : w ∈ TB := TB_t (List.mem_append_right _ (List.mem_append_right _ (List.mem_append_left _ (List.mem_of_getElem? h)))) g
theorem tb4 {w : Cond} (i : Nat) (h : tables_1_4[i]? = some w) (g : goodWord w = true) : w ∈ TB := TB_t (List.mem_append_right _ (List.mem_append_right _ (List.mem_append_right _ (List.mem_append_left _ (List.mem_of_getElem? h))))) g
theorem tb5 {w : Cond} (i : Nat) (h : tables_1_5[i]? = some w) (g : goodWord w = true) : w ∈ TB := TB_t (List.mem_append_right _ (List.mem_append_right _ (List.mem_append_right _ (List.mem_append_right _ (List.mem_of_getElem? h))))) g
theorem tbp {w : Cond} (i : Nat) (h : (k2_sels lw_privs)[i]? = some w) (g : goodWord w = true) : w ∈ TB := TB_p (List.mem_of_getElem? h) g
end
section
theorem dX0_code_0 : decode cX0_code 0 = .ok (.sipush 1000, 3) := by decide +kernel
theorem dX0_code_3 : decode cX0_code 3 = .ok (.iload_n 0, 1) := by decide +kernel
theorem dX0_code_4 : decode cX0_code 4 = .ok (.imul, 1) := by decide +kernel
theorem dX0_code_5 : decode cX0_code 5 = .ok (.bipush 100, 2) := by decide +kernel
theorem dX0_code_7 : decode cX0_code 7 = .ok (.iload_n 1, 1) := by decide +kernel
theorem dX0_code_8 : decode cX0_code 8 = .ok (.imul, 1) := by decide +kernel
theorem dX0_code_9 : decode cX0_code 9 = .ok (.iadd, 1) := by decide +kernel
theorem dX0_code_10 : decode cX0_code 10 = .ok (.iload_n 2, 1) := by decide +kernel
theorem dX0_code_11 : decode cX0_code 11 = .ok (.iadd, 1) := by decide +kernel
theorem dX0_code_12 : decode cX0_code 12 = .ok (.ireturn, 1) := by decide +kernel
theorem dX0_how_0 : decode cX0_how 0 = .ok (.iload_n 0, 1) := by decide +kernel
theorem dX0_how_1 : decode cX0_how 1 = .ok (.sipush 1000, 3) := by decide +kernel
theorem dX0_how_4 : decode cX0_how 4 = .ok (.idiv, 1) := by decide +kernel
theorem dX0_how_5 : decode cX0_how 5 = .ok (.ireturn, 1) := by decide +kernel
theorem dX0_where_0 : decode cX0_where 0 = .ok (.iload_n 0, 1) := by decide +kernel
theorem dX0_where_1 : decode cX0_where 1 = .ok (.bipush 100, 2) := by decide +kernel
theorem dX0_where_3 : decode cX0_where 3 = .ok (.idiv, 1) := by decide +kernel
theorem dX0_where_4 : decode cX0_where 4 = .ok (.bipush 10, 2) := by decide +kernel
theorem dX0_where_6 : decode cX0_where 6 = .ok (.irem, 1) := by decide +kernel
theorem dX0_where_7 : decode cX0_where 7 = .ok (.ireturn, 1) := by decide +kernel
theorem dX0_other_0 : decode cX0_other 0 = .ok (.iload_n 0, 1) := by decide +kernel
theorem dX0_other_1 : decode cX0_other 1 = .ok (.bipush 100, 2) := by decide +kernel
theorem dX0_other_3 : decode cX0_other 3 = .ok (.irem, 1) := by decide +kernel
theorem dX0_other_4 : decode cX0_other 4 = .ok (.ireturn, 1) := by decide +kernel
theorem dX0_back_0 : decode cX0_back 0 = .ok (.iload_n 0, 1) := by decide +kernel
theorem dX0_back_1 : decode cX0_back 1 = .ok (.invokestatic 7, 3) := by decide +kernel
theorem dX0_back_4 : decode cX0_back 4 = .ok (.istore_n 2, 1) := by decide +kernel
theorem dX0_back_5 : decode cX0_back 5 = .ok (.iload_n 0, 1) := by decide +kernel
theorem dX0_back_6 : decode cX0_back 6 = .ok (.invokestatic 13, 3) := by decide +kernel
theorem dX0_back_9 : decode cX0_back 9 = .ok (.tableswitch 48 0 2 #[27, 34, 41], 27) := by decide +kernel
theorem dX0_back_36 : decode cX0_back 36 = .ok (.iconst 1, 1) := by decide +kernel
theorem dX0_back_37 : decode cX0_back 37 = .ok (.iload_n 2, 1) := by decide +kernel
theorem dX0_back_38 : decode cX0_back 38 = .ok (.iload_n 1, 1) := by decide +kernel
theorem dX0_back_39 : decode cX0_back 39 = .ok (.invokestatic 16, 3) := by decide +kernel
theorem dX0_back_42 : decode cX0_back 42 = .ok (.ireturn, 1) := by decide +kernel
theorem dX0_back_43 : decode cX0_back 43 = .ok (.iconst 0, 1) := by decide +kernel
theorem dX0_back_44 : decode cX0_back 44 = .ok (.iload_n 2, 1) := by decide +kernel
theorem dX0_back_45 : decode cX0_back 45 = .ok (.iconst 0, 1) := by decide +kernel
theorem dX0_back_46 : decode cX0_back 46 = .ok (.invokestatic 16, 3) := by decide +kernel
theorem dX0_back_49 : decode cX0_back 49 = .ok (.ireturn, 1) := by decide +kernel
theorem dX0_back_50 : decode cX0_back 50 = .ok (.iconst 2, 1) := by decide +kernel
theorem dX0_back_51 : decode cX0_back 51 = .ok (.iload_n 2, 1) := by decide +kernel
theorem dX0_back_52 : decode cX0_back 52 = .ok (.iload_n 1, 1) := by decide +kernel
theorem dX0_back_53 : decode cX0_back 53 = .ok (.invokestatic 16, 3) := by decide +kernel
theorem dX0_back_56 : decode cX0_back 56 = .ok (.ireturn, 1) := by decide +kernel
theorem dX0_back_57 : decode cX0_back 57 = .ok (.iconst 3, 1) := by decide +kernel
theorem dX0_back_58 : decode cX0_back 58 = .ok (.iload_n 0, 1) := by decide +kernel
theorem dX0_back_59 : decode cX0_back 59 = .ok (.invokestatic 20, 3) := by decide +kernel
theorem dX0_back_62 : decode cX0_back 62 = .ok (.iload_n 2, 1) := by decide +kernel
theorem dX0_back_63 : decode cX0_back 63 = .ok (.invokestatic 16, 3) := by decide +kernel
theorem dX0_back_66 : decode cX0_back 66 = .ok (.ireturn, 1) := by decide +kernel
theorem dX1_setsBy_0 : decode cX1_setsBy 0 = .ok (.aload_n 0, 1) := by decide +kernel
theorem dX1_setsBy_1 : decode cX1_setsBy 1 = .ok (.iload_n 1, 1) := by decide +kernel
theorem dX1_setsBy_2 : decode cX1_setsBy 2 = .ok (.invokevirtual 7, 3) := by decide +kernel
theorem dX1_setsBy_5 : decode cX1_setsBy 5 = .ok (.istore 4, 2) := by decide +kernel
theorem dX1_setsBy_7 : decode cX1_setsBy 7 = .ok (.iconst 1, 1) := by decide +kernel
theorem dX1_setsBy_8 : decode cX1_setsBy 8 = .ok (.iload 4, 2) := by decide +kernel
theorem dX1_setsBy_10 : decode cX1_setsBy 10 = .ok (.invokestatic 13, 3) := by decide +kernel
theorem dX1_setsBy_13 : decode cX1_setsBy 13 = .ok (.ishl, 1) := by decide +kernel
theorem dX1_setsBy_14 : decode cX1_setsBy 14 = .ok (.istore 5, 2) := by decide +kernel
theorem dX1_setsBy_16 : decode cX1_setsBy 16 = .ok (.iconst 0, 1) := by decide +kernel
theorem dX1_setsBy_17 : decode cX1_setsBy 17 = .ok (.istore 6, 2) := by decide +kernel
theorem dX1_setsBy_19 : decode cX1_setsBy 19 = .ok (.iconst 0, 1) := by decide +kernel
theorem dX1_setsBy_20 : decode cX1_setsBy 20 = .ok (.istore 7, 2) := by decide +kernel
theorem dX1_setsBy_22 : decode cX1_setsBy 22 = .ok (.iconst 0, 1) := by decide +kernel
theorem dX1_setsBy_23 : decode cX1_setsBy 23 = .ok (.istore 8, 2) := by decide +kernel
theorem dX1_setsBy_25 : decode cX1_setsBy 25 = .ok (.iload 8, 2) := by decide +kernel
theorem dX1_setsBy_27 : decode cX1_setsBy 27 = .ok (.iload 5, 2) := by decide +kernel
theorem dX1_setsBy_29 : decode cX1_setsBy 29 = .ok (.if_icmp .ge 33, 3) := by decide +kernel
theorem dX1_setsBy_32 : decode cX1_setsBy 32 = .ok (.aload_n 0, 1) := by decide +kernel
theorem dX1_setsBy_33 : decode cX1_setsBy 33 = .ok (.iload 7, 2) := by decide +kernel
theorem dX1_setsBy_35 : decode cX1_setsBy 35 = .ok (.invokevirtual 18, 3) := by decide +kernel
theorem dX1_setsBy_38 : decode cX1_setsBy 38 = .ok (.i2l, 1) := by decide +kernel
theorem dX1_setsBy_39 : decode cX1_setsBy 39 = .ok (.lload_n 2, 1) := by decide +kernel
theorem dX1_setsBy_40 : decode cX1_setsBy 40 = .ok (.lcmp, 1) := by decide +kernel
theorem dX1_setsBy_41 : decode cX1_setsBy 41 = .ok (.ifCond .ne 6, 3) := by decide +kernel
theorem dX1_setsBy_44 : decode cX1_setsBy 44 = .ok (.iinc 6 1, 3) := by decide +kernel
theorem dX1_setsBy_47 : decode cX1_setsBy 47 = .ok (.iload 7, 2) := by decide +kernel
theorem dX1_setsBy_49 : decode cX1_setsBy 49 = .ok (.iload 4, 2) := by decide +kernel
theorem dX1_setsBy_51 : decode cX1_setsBy 51 = .ok (.invokestatic 21, 3) := by decide +kernel
theorem dX1_setsBy_54 : decode cX1_setsBy 54 = .ok (.istore 7, 2) := by decide +kernel
theorem dX1_setsBy_56 : decode cX1_setsBy 56 = .ok (.iinc 8 1, 3) := by decide +kernel
theorem dX1_setsBy_59 : decode cX1_setsBy 59 = .ok (.goto (-34), 3) := by decide +kernel
theorem dX1_setsBy_62 : decode cX1_setsBy 62 = .ok (.iload 6, 2) := by decide +kernel
theorem dX1_setsBy_64 : decode cX1_setsBy 64 = .ok (.ireturn, 1) := by decide +kernel
theorem dX1_leastBy_0 : decode cX1_leastBy 0 = .ok (.aload_n 0, 1) := by decide +kernel
theorem dX1_leastBy_1 : decode cX1_leastBy 1 = .ok (.iload_n 1, 1) := by decide +kernel
theorem dX1_leastBy_2 : decode cX1_leastBy 2 = .ok (.invokevirtual 7, 3) := by decide +kernel
theorem dX1_leastBy_5 : decode cX1_leastBy 5 = .ok (.istore 4, 2) := by decide +kernel
theorem dX1_leastBy_7 : decode cX1_leastBy 7 = .ok (.iconst 1, 1) := by decide +kernel
theorem dX1_leastBy_8 : decode cX1_leastBy 8 = .ok (.iload 4, 2) := by decide +kernel
theorem dX1_leastBy_10 : decode cX1_leastBy 10 = .ok (.invokestatic 13, 3) := by decide +kernel
theorem dX1_leastBy_13 : decode cX1_leastBy 13 = .ok (.ishl, 1) := by decide +kernel
theorem dX1_leastBy_14 : decode cX1_leastBy 14 = .ok (.istore 5, 2) := by decide +kernel
theorem dX1_leastBy_16 : decode cX1_leastBy 16 = .ok (.iconst 0, 1) := by decide +kernel
theorem dX1_leastBy_17 : decode cX1_leastBy 17 = .ok (.istore 6, 2) := by decide +kernel
theorem dX1_leastBy_19 : decode cX1_leastBy 19 = .ok (.iconst 0, 1) := by decide +kernel
theorem dX1_leastBy_20 : decode cX1_leastBy 20 = .ok (.istore 7, 2) := by decide +kernel
theorem dX1_leastBy_22 : decode cX1_leastBy 22 = .ok (.iload 7, 2) := by decide +kernel
theorem dX1_leastBy_24 : decode cX1_leastBy 24 = .ok (.iload 5, 2) := by decide +kernel
theorem dX1_leastBy_26 : decode cX1_leastBy 26 = .ok (.if_icmp .ge 33, 3) := by decide +kernel
theorem dX1_leastBy_29 : decode cX1_leastBy 29 = .ok (.aload_n 0, 1) := by decide +kernel
theorem dX1_leastBy_30 : decode cX1_leastBy 30 = .ok (.iload 6, 2) := by decide +kernel
theorem dX1_leastBy_32 : decode cX1_leastBy 32 = .ok (.invokevirtual 18, 3) := by decide +kernel
theorem dX1_leastBy_35 : decode cX1_leastBy 35 = .ok (.i2l, 1) := by decide +kernel
theorem dX1_leastBy_36 : decode cX1_leastBy 36 = .ok (.lload_n 2, 1) := by decide +kernel
theorem dX1_leastBy_37 : decode cX1_leastBy 37 = .ok (.lcmp, 1) := by decide +kernel
theorem dX1_leastBy_38 : decode cX1_leastBy 38 = .ok (.ifCond .ne 6, 3) := by decide +kernel
theorem dX1_leastBy_41 : decode cX1_leastBy 41 = .ok (.iload 6, 2) := by decide +kernel
theorem dX1_leastBy_43 : decode cX1_leastBy 43 = .ok (.ireturn, 1) := by decide +kernel
theorem dX1_leastBy_44 : decode cX1_leastBy 44 = .ok (.iload 6, 2) := by decide +kernel
theorem dX1_leastBy_46 : decode cX1_leastBy 46 = .ok (.iload 4, 2) := by decide +kernel
theorem dX1_leastBy_48 : decode cX1_leastBy 48 = .ok (.invokestatic 21, 3) := by decide +kernel
theorem dX1_leastBy_51 : decode cX1_leastBy 51 = .ok (.istore 6, 2) := by decide +kernel
theorem dX1_leastBy_53 : decode cX1_leastBy 53 = .ok (.iinc 7 1, 3) := by decide +kernel
theorem dX1_leastBy_56 : decode cX1_leastBy 56 = .ok (.goto (-34), 3) := by decide +kernel
theorem dX1_leastBy_59 : decode cX1_leastBy 59 = .ok (.iconst 0, 1) := by decide +kernel
theorem dX1_leastBy_60 : decode cX1_leastBy 60 = .ok (.ireturn, 1) := by decide +kernel
theorem dX1_nextSubset_0 : decode cX1_nextSubset 0 = .ok (.iload_n 0, 1) := by decide +kernel
theorem dX1_nextSubset_1 : decode cX1_nextSubset 1 = .ok (.iload_n 1, 1) := by decide +kernel
theorem dX1_nextSubset_2 : decode cX1_nextSubset 2 = .ok (.isub, 1) := by decide +kernel
theorem dX1_nextSubset_3 : decode cX1_nextSubset 3 = .ok (.iload_n 1, 1) := by decide +kernel
theorem dX1_nextSubset_4 : decode cX1_nextSubset 4 = .ok (.iand, 1) := by decide +kernel
theorem dX1_nextSubset_5 : decode cX1_nextSubset 5 = .ok (.ireturn, 1) := by decide +kernel
theorem dX2_init_0 : decode cX2_init 0 = .ok (.aload_n 0, 1) := by decide +kernel
theorem dX2_init_1 : decode cX2_init 1 = .ok (.invokespecial 3, 3) := by decide +kernel
theorem dX2_init_4 : decode cX2_init 4 = .ok (.aload_n 0, 1) := by decide +kernel
theorem dX2_init_5 : decode cX2_init 5 = .ok (.bipush 12, 2) := by decide +kernel
theorem dX2_init_7 : decode cX2_init 7 = .ok (.newarray .int, 2) := by decide +kernel
theorem dX2_init_9 : decode cX2_init 9 = .ok (.putfield 9, 3) := by decide +kernel
theorem dX2_init_12 : decode cX2_init 12 = .ok (.aload_n 0, 1) := by decide +kernel
theorem dX2_init_13 : decode cX2_init 13 = .ok (.bipush 12, 2) := by decide +kernel
theorem dX2_init_15 : decode cX2_init 15 = .ok (.newarray .int, 2) := by decide +kernel
theorem dX2_init_17 : decode cX2_init 17 = .ok (.putfield 15, 3) := by decide +kernel
theorem dX2_init_20 : decode cX2_init 20 = .ok (.aload_n 0, 1) := by decide +kernel
theorem dX2_init_21 : decode cX2_init 21 = .ok (.bipush 12, 2) := by decide +kernel
theorem dX2_init_23 : decode cX2_init 23 = .ok (.newarray .int, 2) := by decide +kernel
theorem dX2_init_25 : decode cX2_init 25 = .ok (.putfield 18, 3) := by decide +kernel
theorem dX2_init_28 : decode cX2_init 28 = .ok (.aload_n 0, 1) := by decide +kernel
theorem dX2_init_29 : decode cX2_init 29 = .ok (.bipush 12, 2) := by decide +kernel
theorem dX2_init_31 : decode cX2_init 31 = .ok (.newarray .int, 2) := by decide +kernel
theorem dX2_init_33 : decode cX2_init 33 = .ok (.putfield 21, 3) := by decide +kernel
theorem dX2_init_36 : decode cX2_init 36 = .ok (.aload_n 0, 1) := by decide +kernel
theorem dX2_init_37 : decode cX2_init 37 = .ok (.bipush 12, 2) := by decide +kernel
theorem dX2_init_39 : decode cX2_init 39 = .ok (.newarray .int, 2) := by decide +kernel
theorem dX2_init_41 : decode cX2_init 41 = .ok (.putfield 24, 3) := by decide +kernel
theorem dX2_init_44 : decode cX2_init 44 = .ok (.aload_n 0, 1) := by decide +kernel
theorem dX2_init_45 : decode cX2_init 45 = .ok (.bipush 6, 2) := by decide +kernel
theorem dX2_init_47 : decode cX2_init 47 = .ok (.newarray .int, 2) := by decide +kernel
theorem dX2_init_49 : decode cX2_init 49 = .ok (.putfield 27, 3) := by decide +kernel
theorem dX2_init_52 : decode cX2_init 52 = .ok (.aload_n 0, 1) := by decide +kernel
theorem dX2_init_53 : decode cX2_init 53 = .ok (.bipush 6, 2) := by decide +kernel
theorem dX2_init_55 : decode cX2_init 55 = .ok (.newarray .int, 2) := by decide +kernel
theorem dX2_init_57 : decode cX2_init 57 = .ok (.putfield 30, 3) := by decide +kernel
theorem dX2_init_60 : decode cX2_init 60 = .ok (.aload_n 0, 1) := by decide +kernel
theorem dX2_init_61 : decode cX2_init 61 = .ok (.getfield 24, 3) := by decide +kernel
theorem dX2_init_64 : decode cX2_init 64 = .ok (.bipush 12, 2) := by decide +kernel
theorem dX2_init_66 : decode cX2_init 66 = .ok (.invokestatic 33, 3) := by decide +kernel
theorem dX2_init_69 : decode cX2_init 69 = .ok (.aload_n 0, 1) := by decide +kernel
theorem dX2_init_70 : decode cX2_init 70 = .ok (.getfield 27, 3) := by decide +kernel
theorem dX2_init_73 : decode cX2_init 73 = .ok (.bipush 12, 2) := by decide +kernel
theorem dX2_init_75 : decode cX2_init 75 = .ok (.invokestatic 33, 3) := by decide +kernel
theorem dX2_init_78 : decode cX2_init 78 = .ok (.aload_n 0, 1) := by decide +kernel
theorem dX2_init_79 : decode cX2_init 79 = .ok (.getfield 30, 3) := by decide +kernel
theorem dX2_init_82 : decode cX2_init 82 = .ok (.iconst 3, 1) := by decide +kernel
theorem dX2_init_83 : decode cX2_init 83 = .ok (.invokestatic 33, 3) := by decide +kernel
theorem dX2_init_86 : decode cX2_init 86 = .ok (.return_, 1) := by decide +kernel
theorem dX2_isPiece_0 : decode cX2_isPiece 0 = .ok (.iload_n 1, 1) := by decide +kernel
theorem dX2_isPiece_1 : decode cX2_isPiece 1 = .ok (.ifCond .lt 15, 3) := by decide +kernel
theorem dX2_isPiece_4 : decode cX2_isPiece 4 = .ok (.iload_n 1, 1) := by decide +kernel
theorem dX2_isPiece_5 : decode cX2_isPiece 5 = .ok (.aload_n 0, 1) := by decide +kernel
theorem dX2_isPiece_6 : decode cX2_isPiece 6 = .ok (.getfield 39, 3) := by decide +kernel
theorem dX2_isPiece_9 : decode cX2_isPiece 9 = .ok (.if_icmp .ge 7, 3) := by decide +kernel
theorem dX2_isPiece_12 : decode cX2_isPiece 12 = .ok (.iconst 1, 1) := by decide +kernel
theorem dX2_isPiece_13 : decode cX2_isPiece 13 = .ok (.goto 4, 3) := by decide +kernel
theorem dX2_isPiece_16 : decode cX2_isPiece 16 = .ok (.iconst 0, 1) := by decide +kernel
theorem dX2_isPiece_17 : decode cX2_isPiece 17 = .ok (.ireturn, 1) := by decide +kernel
theorem dX2_pieces_0 : decode cX2_pieces 0 = .ok (.aload_n 0, 1) := by decide +kernel
theorem dX2_pieces_1 : decode cX2_pieces 1 = .ok (.getfield 39, 3) := by decide +kernel
theorem dX2_pieces_4 : decode cX2_pieces 4 = .ok (.ireturn, 1) := by decide +kernel
theorem dX2_timesAwake_0 : decode cX2_timesAwake 0 = .ok (.aload_n 0, 1) := by decide +kernel
theorem dX2_timesAwake_1 : decode cX2_timesAwake 1 = .ok (.getfield 43, 3) := by decide +kernel
theorem dX2_timesAwake_4 : decode cX2_timesAwake 4 = .ok (.ireturn, 1) := by decide +kernel
theorem dX2_kindOf_0 : decode cX2_kindOf 0 = .ok (.aload_n 0, 1) := by decide +kernel
theorem dX2_kindOf_1 : decode cX2_kindOf 1 = .ok (.iload_n 1, 1) := by decide +kernel
theorem dX2_kindOf_2 : decode cX2_kindOf 2 = .ok (.invokevirtual 46, 3) := by decide +kernel
theorem dX2_kindOf_5 : decode cX2_kindOf 5 = .ok (.ifCond .eq 12, 3) := by decide +kernel
theorem dX2_kindOf_8 : decode cX2_kindOf 8 = .ok (.aload_n 0, 1) := by decide +kernel
theorem dX2_kindOf_9 : decode cX2_kindOf 9 = .ok (.getfield 9, 3) := by decide +kernel
theorem dX2_kindOf_12 : decode cX2_kindOf 12 = .ok (.iload_n 1, 1) := by decide +kernel
theorem dX2_kindOf_13 : decode cX2_kindOf 13 = .ok (.iaload, 1) := by decide +kernel
theorem dX2_kindOf_14 : decode cX2_kindOf 14 = .ok (.goto 4, 3) := by decide +kernel
theorem dX2_kindOf_17 : decode cX2_kindOf 17 = .ok (.iconst 0, 1) := by decide +kernel
theorem dX2_kindOf_18 : decode cX2_kindOf 18 = .ok (.ireturn, 1) := by decide +kernel
theorem dX2_weighs_0 : decode cX2_weighs 0 = .ok (.aload_n 0, 1) := by decide +kernel
theorem dX2_weighs_1 : decode cX2_weighs 1 = .ok (.iload_n 1, 1) := by decide +kernel
theorem dX2_weighs_2 : decode cX2_weighs 2 = .ok (.invokevirtual 46, 3) := by decide +kernel
theorem dX2_weighs_5 : decode cX2_weighs 5 = .ok (.ifCond .ne 5, 3) := by decide +kernel
theorem dX2_weighs_8 : decode cX2_weighs 8 = .ok (.iconst 0, 1) := by decide +kernel
theorem dX2_weighs_9 : decode cX2_weighs 9 = .ok (.ireturn, 1) := by decide +kernel
theorem dX2_weighs_10 : decode cX2_weighs 10 = .ok (.aload_n 0, 1) := by decide +kernel
theorem dX2_weighs_11 : decode cX2_weighs 11 = .ok (.getfield 9, 3) := by decide +kernel
theorem dX2_weighs_14 : decode cX2_weighs 14 = .ok (.iload_n 1, 1) := by decide +kernel
theorem dX2_weighs_15 : decode cX2_weighs 15 = .ok (.iaload, 1) := by decide +kernel
theorem dX2_weighs_16 : decode cX2_weighs 16 = .ok (.iconst 1, 1) := by decide +kernel
theorem dX2_weighs_17 : decode cX2_weighs 17 = .ok (.if_icmp .ne 14, 3) := by decide +kernel
theorem dX2_weighs_20 : decode cX2_weighs 20 = .ok (.aload_n 0, 1) := by decide +kernel
theorem dX2_weighs_21 : decode cX2_weighs 21 = .ok (.getfield 15, 3) := by decide +kernel
theorem dX2_weighs_24 : decode cX2_weighs 24 = .ok (.iload_n 1, 1) := by decide +kernel
theorem dX2_weighs_25 : decode cX2_weighs 25 = .ok (.iaload, 1) := by decide +kernel
theorem dX2_weighs_26 : decode cX2_weighs 26 = .ok (.iconst 2, 1) := by decide +kernel
theorem dX2_weighs_27 : decode cX2_weighs 27 = .ok (.iadd, 1) := by decide +kernel
theorem dX2_weighs_28 : decode cX2_weighs 28 = .ok (.goto 9, 3) := by decide +kernel
theorem dX2_weighs_31 : decode cX2_weighs 31 = .ok (.aload_n 0, 1) := by decide +kernel
theorem dX2_weighs_32 : decode cX2_weighs 32 = .ok (.getfield 15, 3) := by decide +kernel
theorem dX2_weighs_35 : decode cX2_weighs 35 = .ok (.iload_n 1, 1) := by decide +kernel
theorem dX2_weighs_36 : decode cX2_weighs 36 = .ok (.iaload, 1) := by decide +kernel
theorem dX2_weighs_37 : decode cX2_weighs 37 = .ok (.ireturn, 1) := by decide +kernel
theorem dX2_ownerOf_0 : decode cX2_ownerOf 0 = .ok (.aload_n 0, 1) := by decide +kernel
theorem dX2_ownerOf_1 : decode cX2_ownerOf 1 = .ok (.iload_n 1, 1) := by decide +kernel
theorem dX2_ownerOf_2 : decode cX2_ownerOf 2 = .ok (.invokevirtual 46, 3) := by decide +kernel
theorem dX2_ownerOf_5 : decode cX2_ownerOf 5 = .ok (.ifCond .eq 22, 3) := by decide +kernel
theorem dX2_ownerOf_8 : decode cX2_ownerOf 8 = .ok (.aload_n 0, 1) := by decide +kernel
theorem dX2_ownerOf_9 : decode cX2_ownerOf 9 = .ok (.getfield 9, 3) := by decide +kernel
theorem dX2_ownerOf_12 : decode cX2_ownerOf 12 = .ok (.iload_n 1, 1) := by decide +kernel
theorem dX2_ownerOf_13 : decode cX2_ownerOf 13 = .ok (.iaload, 1) := by decide +kernel
theorem dX2_ownerOf_14 : decode cX2_ownerOf 14 = .ok (.iconst 2, 1) := by decide +kernel
theorem dX2_ownerOf_15 : decode cX2_ownerOf 15 = .ok (.if_icmp .eq 12, 3) := by decide +kernel
theorem dX2_ownerOf_18 : decode cX2_ownerOf 18 = .ok (.aload_n 0, 1) := by decide +kernel
theorem dX2_ownerOf_19 : decode cX2_ownerOf 19 = .ok (.getfield 18, 3) := by decide +kernel
theorem dX2_ownerOf_22 : decode cX2_ownerOf 22 = .ok (.iload_n 1, 1) := by decide +kernel
theorem dX2_ownerOf_23 : decode cX2_ownerOf 23 = .ok (.iaload, 1) := by decide +kernel
theorem dX2_ownerOf_24 : decode cX2_ownerOf 24 = .ok (.goto 4, 3) := by decide +kernel
theorem dX2_ownerOf_27 : decode cX2_ownerOf 27 = .ok (.iconst 4, 1) := by decide +kernel
theorem dX2_ownerOf_28 : decode cX2_ownerOf 28 = .ok (.ireturn, 1) := by decide +kernel
theorem dX2_placeOf_0 : decode cX2_placeOf 0 = .ok (.aload_n 0, 1) := by decide +kernel
theorem dX2_placeOf_1 : decode cX2_placeOf 1 = .ok (.iload_n 1, 1) := by decide +kernel
theorem dX2_placeOf_2 : decode cX2_placeOf 2 = .ok (.invokevirtual 46, 3) := by decide +kernel
theorem dX2_placeOf_5 : decode cX2_placeOf 5 = .ok (.ifCond .eq 12, 3) := by decide +kernel
theorem dX2_placeOf_8 : decode cX2_placeOf 8 = .ok (.aload_n 0, 1) := by decide +kernel
theorem dX2_placeOf_9 : decode cX2_placeOf 9 = .ok (.getfield 21, 3) := by decide +kernel
theorem dX2_placeOf_12 : decode cX2_placeOf 12 = .ok (.iload_n 1, 1) := by decide +kernel
theorem dX2_placeOf_13 : decode cX2_placeOf 13 = .ok (.iaload, 1) := by decide +kernel
theorem dX2_placeOf_14 : decode cX2_placeOf 14 = .ok (.goto 5, 3) := by decide +kernel
theorem dX2_placeOf_17 : decode cX2_placeOf 17 = .ok (.bipush 7, 2) := by decide +kernel
theorem dX2_placeOf_19 : decode cX2_placeOf 19 = .ok (.ireturn, 1) := by decide +kernel
theorem dX2_offOf_0 : decode cX2_offOf 0 = .ok (.aload_n 0, 1) := by decide +kernel
theorem dX2_offOf_1 : decode cX2_offOf 1 = .ok (.aload_n 0, 1) := by decide +kernel
theorem dX2_offOf_2 : decode cX2_offOf 2 = .ok (.iload_n 1, 1) := by decide +kernel
theorem dX2_offOf_3 : decode cX2_offOf 3 = .ok (.invokevirtual 50, 3) := by decide +kernel
theorem dX2_offOf_6 : decode cX2_offOf 6 = .ok (.invokevirtual 54, 3) := by decide +kernel
theorem dX2_offOf_9 : decode cX2_offOf 9 = .ok (.istore_n 2, 1) := by decide +kernel
theorem dX2_offOf_10 : decode cX2_offOf 10 = .ok (.iconst 0, 1) := by decide +kernel
theorem dX2_offOf_11 : decode cX2_offOf 11 = .ok (.istore_n 3, 1) := by decide +kernel
theorem dX2_offOf_12 : decode cX2_offOf 12 = .ok (.iload_n 3, 1) := by decide +kernel
theorem dX2_offOf_13 : decode cX2_offOf 13 = .ok (.bipush 12, 2) := by decide +kernel
theorem dX2_offOf_15 : decode cX2_offOf 15 = .ok (.if_icmp .ge 29, 3) := by decide +kernel
theorem dX2_offOf_18 : decode cX2_offOf 18 = .ok (.iload_n 2, 1) := by decide +kernel
theorem dX2_offOf_19 : decode cX2_offOf 19 = .ok (.iload_n 1, 1) := by decide +kernel
theorem dX2_offOf_20 : decode cX2_offOf 20 = .ok (.if_icmp .eq 24, 3) := by decide +kernel
theorem dX2_offOf_23 : decode cX2_offOf 23 = .ok (.aload_n 0, 1) := by decide +kernel
theorem dX2_offOf_24 : decode cX2_offOf 24 = .ok (.iload_n 2, 1) := by decide +kernel
theorem dX2_offOf_25 : decode cX2_offOf 25 = .ok (.invokevirtual 46, 3) := by decide +kernel
theorem dX2_offOf_28 : decode cX2_offOf 28 = .ok (.ifCond .eq 16, 3) := by decide +kernel
theorem dX2_offOf_31 : decode cX2_offOf 31 = .ok (.aload_n 0, 1) := by decide +kernel
theorem dX2_offOf_32 : decode cX2_offOf 32 = .ok (.getfield 24, 3) := by decide +kernel
theorem dX2_offOf_35 : decode cX2_offOf 35 = .ok (.iload_n 2, 1) := by decide +kernel
theorem dX2_offOf_36 : decode cX2_offOf 36 = .ok (.iaload, 1) := by decide +kernel
theorem dX2_offOf_37 : decode cX2_offOf 37 = .ok (.istore_n 2, 1) := by decide +kernel
theorem dX2_offOf_38 : decode cX2_offOf 38 = .ok (.iinc 3 1, 3) := by decide +kernel
theorem dX2_offOf_41 : decode cX2_offOf 41 = .ok (.goto (-29), 3) := by decide +kernel
theorem dX2_offOf_44 : decode cX2_offOf 44 = .ok (.iload_n 3, 1) := by decide +kernel
theorem dX2_offOf_45 : decode cX2_offOf 45 = .ok (.ireturn, 1) := by decide +kernel
theorem dX2_belowOf_0 : decode cX2_belowOf 0 = .ok (.aload_n 0, 1) := by decide +kernel
theorem dX2_belowOf_1 : decode cX2_belowOf 1 = .ok (.iload_n 1, 1) := by decide +kernel
theorem dX2_belowOf_2 : decode cX2_belowOf 2 = .ok (.invokevirtual 46, 3) := by decide +kernel
theorem dX2_belowOf_5 : decode cX2_belowOf 5 = .ok (.ifCond .eq 12, 3) := by decide +kernel
theorem dX2_belowOf_8 : decode cX2_belowOf 8 = .ok (.aload_n 0, 1) := by decide +kernel
theorem dX2_belowOf_9 : decode cX2_belowOf 9 = .ok (.getfield 24, 3) := by decide +kernel
theorem dX2_belowOf_12 : decode cX2_belowOf 12 = .ok (.iload_n 1, 1) := by decide +kernel
theorem dX2_belowOf_13 : decode cX2_belowOf 13 = .ok (.iaload, 1) := by decide +kernel
theorem dX2_belowOf_14 : decode cX2_belowOf 14 = .ok (.goto 5, 3) := by decide +kernel
theorem dX2_belowOf_17 : decode cX2_belowOf 17 = .ok (.bipush 12, 2) := by decide +kernel
theorem dX2_belowOf_19 : decode cX2_belowOf 19 = .ok (.ireturn, 1) := by decide +kernel
theorem dX2_topOf_0 : decode cX2_topOf 0 = .ok (.iload_n 1, 1) := by decide +kernel
theorem dX2_topOf_1 : decode cX2_topOf 1 = .ok (.invokestatic 57, 3) := by decide +kernel
theorem dX2_topOf_4 : decode cX2_topOf 4 = .ok (.ifCond .eq 12, 3) := by decide +kernel
theorem dX2_topOf_7 : decode cX2_topOf 7 = .ok (.aload_n 0, 1) := by decide +kernel
theorem dX2_topOf_8 : decode cX2_topOf 8 = .ok (.getfield 27, 3) := by decide +kernel
theorem dX2_topOf_11 : decode cX2_topOf 11 = .ok (.iload_n 1, 1) := by decide +kernel
theorem dX2_topOf_12 : decode cX2_topOf 12 = .ok (.iaload, 1) := by decide +kernel
theorem dX2_topOf_13 : decode cX2_topOf 13 = .ok (.goto 5, 3) := by decide +kernel
theorem dX2_topOf_16 : decode cX2_topOf 16 = .ok (.bipush 12, 2) := by decide +kernel
theorem dX2_topOf_18 : decode cX2_topOf 18 = .ok (.ireturn, 1) := by decide +kernel
theorem dX2_senseOf_0 : decode cX2_senseOf 0 = .ok (.iload_n 1, 1) := by decide +kernel
theorem dX2_senseOf_1 : decode cX2_senseOf 1 = .ok (.invokestatic 57, 3) := by decide +kernel
theorem dX2_senseOf_4 : decode cX2_senseOf 4 = .ok (.ifCond .eq 12, 3) := by decide +kernel
theorem dX2_senseOf_7 : decode cX2_senseOf 7 = .ok (.aload_n 0, 1) := by decide +kernel
theorem dX2_senseOf_8 : decode cX2_senseOf 8 = .ok (.getfield 30, 3) := by decide +kernel
theorem dX2_senseOf_11 : decode cX2_senseOf 11 = .ok (.iload_n 1, 1) := by decide +kernel
theorem dX2_senseOf_12 : decode cX2_senseOf 12 = .ok (.iaload, 1) := by decide +kernel
theorem dX2_senseOf_13 : decode cX2_senseOf 13 = .ok (.goto 4, 3) := by decide +kernel
theorem dX2_senseOf_16 : decode cX2_senseOf 16 = .ok (.iconst 0, 1) := by decide +kernel
theorem dX2_senseOf_17 : decode cX2_senseOf 17 = .ok (.ireturn, 1) := by decide +kernel
theorem dX2_becomeFine_0 : decode cX2_becomeFine 0 = .ok (.iload_n 1, 1) := by decide +kernel
theorem dX2_becomeFine_1 : decode cX2_becomeFine 1 = .ok (.invokestatic 57, 3) := by decide +kernel
theorem dX2_becomeFine_4 : decode cX2_becomeFine 4 = .ok (.ifCond .eq 10, 3) := by decide +kernel
theorem dX2_becomeFine_7 : decode cX2_becomeFine 7 = .ok (.aload_n 0, 1) := by decide +kernel
theorem dX2_becomeFine_8 : decode cX2_becomeFine 8 = .ok (.getfield 30, 3) := by decide +kernel
theorem dX2_becomeFine_11 : decode cX2_becomeFine 11 = .ok (.iload_n 1, 1) := by decide +kernel
theorem dX2_becomeFine_12 : decode cX2_becomeFine 12 = .ok (.iload_n 2, 1) := by decide +kernel
theorem dX2_becomeFine_13 : decode cX2_becomeFine 13 = .ok (.iastore, 1) := by decide +kernel
theorem dX2_becomeFine_14 : decode cX2_becomeFine 14 = .ok (.return_, 1) := by decide +kernel
theorem dX2_loadIn_0 : decode cX2_loadIn 0 = .ok (.iconst 0, 1) := by decide +kernel
theorem dX2_loadIn_1 : decode cX2_loadIn 1 = .ok (.istore_n 2, 1) := by decide +kernel
theorem dX2_loadIn_2 : decode cX2_loadIn 2 = .ok (.iconst 0, 1) := by decide +kernel
theorem dX2_loadIn_3 : decode cX2_loadIn 3 = .ok (.istore_n 3, 1) := by decide +kernel
theorem dX2_loadIn_4 : decode cX2_loadIn 4 = .ok (.iload_n 3, 1) := by decide +kernel
theorem dX2_loadIn_5 : decode cX2_loadIn 5 = .ok (.aload_n 0, 1) := by decide +kernel
theorem dX2_loadIn_6 : decode cX2_loadIn 6 = .ok (.getfield 39, 3) := by decide +kernel
theorem dX2_loadIn_9 : decode cX2_loadIn 9 = .ok (.if_icmp .ge 26, 3) := by decide +kernel
theorem dX2_loadIn_12 : decode cX2_loadIn 12 = .ok (.aload_n 0, 1) := by decide +kernel
theorem dX2_loadIn_13 : decode cX2_loadIn 13 = .ok (.iload_n 3, 1) := by decide +kernel
theorem dX2_loadIn_14 : decode cX2_loadIn 14 = .ok (.invokevirtual 50, 3) := by decide +kernel
theorem dX2_loadIn_17 : decode cX2_loadIn 17 = .ok (.iload_n 1, 1) := by decide +kernel
theorem dX2_loadIn_18 : decode cX2_loadIn 18 = .ok (.if_icmp .ne 11, 3) := by decide +kernel
theorem dX2_loadIn_21 : decode cX2_loadIn 21 = .ok (.iload_n 2, 1) := by decide +kernel
theorem dX2_loadIn_22 : decode cX2_loadIn 22 = .ok (.aload_n 0, 1) := by decide +kernel
theorem dX2_loadIn_23 : decode cX2_loadIn 23 = .ok (.iload_n 3, 1) := by decide +kernel
theorem dX2_loadIn_24 : decode cX2_loadIn 24 = .ok (.invokevirtual 60, 3) := by decide +kernel
theorem dX2_loadIn_27 : decode cX2_loadIn 27 = .ok (.iadd, 1) := by decide +kernel
theorem dX2_loadIn_28 : decode cX2_loadIn 28 = .ok (.istore_n 2, 1) := by decide +kernel
theorem dX2_loadIn_29 : decode cX2_loadIn 29 = .ok (.iinc 3 1, 3) := by decide +kernel
theorem dX2_loadIn_32 : decode cX2_loadIn 32 = .ok (.goto (-28), 3) := by decide +kernel
theorem dX2_loadIn_35 : decode cX2_loadIn 35 = .ok (.iload_n 2, 1) := by decide +kernel
theorem dX2_loadIn_36 : decode cX2_loadIn 36 = .ok (.ireturn, 1) := by decide +kernel
theorem dX2_loadInPlaces_0 : decode cX2_loadInPlaces 0 = .ok (.iconst 0, 1) := by decide +kernel
theorem dX2_loadInPlaces_1 : decode cX2_loadInPlaces 1 = .ok (.istore_n 1, 1) := by decide +kernel
theorem dX2_loadInPlaces_2 : decode cX2_loadInPlaces 2 = .ok (.iconst 0, 1) := by decide +kernel
theorem dX2_loadInPlaces_3 : decode cX2_loadInPlaces 3 = .ok (.istore_n 2, 1) := by decide +kernel
theorem dX2_loadInPlaces_4 : decode cX2_loadInPlaces 4 = .ok (.iload_n 2, 1) := by decide +kernel
theorem dX2_loadInPlaces_5 : decode cX2_loadInPlaces 5 = .ok (.bipush 6, 2) := by decide +kernel
theorem dX2_loadInPlaces_7 : decode cX2_loadInPlaces 7 = .ok (.if_icmp .ge 17, 3) := by decide +kernel
theorem dX2_loadInPlaces_10 : decode cX2_loadInPlaces 10 = .ok (.iload_n 1, 1) := by decide +kernel
theorem dX2_loadInPlaces_11 : decode cX2_loadInPlaces 11 = .ok (.aload_n 0, 1) := by decide +kernel
theorem dX2_loadInPlaces_12 : decode cX2_loadInPlaces 12 = .ok (.iload_n 2, 1) := by decide +kernel
theorem dX2_loadInPlaces_13 : decode cX2_loadInPlaces 13 = .ok (.invokevirtual 63, 3) := by decide +kernel
theorem dX2_loadInPlaces_16 : decode cX2_loadInPlaces 16 = .ok (.iadd, 1) := by decide +kernel
theorem dX2_loadInPlaces_17 : decode cX2_loadInPlaces 17 = .ok (.istore_n 1, 1) := by decide +kernel
theorem dX2_loadInPlaces_18 : decode cX2_loadInPlaces 18 = .ok (.iinc 2 1, 3) := by decide +kernel
theorem dX2_loadInPlaces_21 : decode cX2_loadInPlaces 21 = .ok (.goto (-17), 3) := by decide +kernel
theorem dX2_loadInPlaces_24 : decode cX2_loadInPlaces 24 = .ok (.iload_n 1, 1) := by decide +kernel
theorem dX2_loadInPlaces_25 : decode cX2_loadInPlaces 25 = .ok (.ireturn, 1) := by decide +kernel
theorem dX2_loadInBagOf_0 : decode cX2_loadInBagOf 0 = .ok (.iconst 0, 1) := by decide +kernel
theorem dX2_loadInBagOf_1 : decode cX2_loadInBagOf 1 = .ok (.istore_n 2, 1) := by decide +kernel
theorem dX2_loadInBagOf_2 : decode cX2_loadInBagOf 2 = .ok (.iconst 0, 1) := by decide +kernel
theorem dX2_loadInBagOf_3 : decode cX2_loadInBagOf 3 = .ok (.istore_n 3, 1) := by decide +kernel
theorem dX2_loadInBagOf_4 : decode cX2_loadInBagOf 4 = .ok (.iload_n 3, 1) := by decide +kernel
theorem dX2_loadInBagOf_5 : decode cX2_loadInBagOf 5 = .ok (.aload_n 0, 1) := by decide +kernel
theorem dX2_loadInBagOf_6 : decode cX2_loadInBagOf 6 = .ok (.getfield 39, 3) := by decide +kernel
theorem dX2_loadInBagOf_9 : decode cX2_loadInBagOf 9 = .ok (.if_icmp .ge 36, 3) := by decide +kernel
theorem dX2_loadInBagOf_12 : decode cX2_loadInBagOf 12 = .ok (.aload_n 0, 1) := by decide +kernel
theorem dX2_loadInBagOf_13 : decode cX2_loadInBagOf 13 = .ok (.iload_n 3, 1) := by decide +kernel
theorem dX2_loadInBagOf_14 : decode cX2_loadInBagOf 14 = .ok (.invokevirtual 50, 3) := by decide +kernel
theorem dX2_loadInBagOf_17 : decode cX2_loadInBagOf 17 = .ok (.bipush 6, 2) := by decide +kernel
theorem dX2_loadInBagOf_19 : decode cX2_loadInBagOf 19 = .ok (.if_icmp .ne 20, 3) := by decide +kernel
theorem dX2_loadInBagOf_22 : decode cX2_loadInBagOf 22 = .ok (.aload_n 0, 1) := by decide +kernel
theorem dX2_loadInBagOf_23 : decode cX2_loadInBagOf 23 = .ok (.iload_n 3, 1) := by decide +kernel
theorem dX2_loadInBagOf_24 : decode cX2_loadInBagOf 24 = .ok (.invokevirtual 66, 3) := by decide +kernel
theorem dX2_loadInBagOf_27 : decode cX2_loadInBagOf 27 = .ok (.iload_n 1, 1) := by decide +kernel
theorem dX2_loadInBagOf_28 : decode cX2_loadInBagOf 28 = .ok (.if_icmp .ne 11, 3) := by decide +kernel
theorem dX2_loadInBagOf_31 : decode cX2_loadInBagOf 31 = .ok (.iload_n 2, 1) := by decide +kernel
theorem dX2_loadInBagOf_32 : decode cX2_loadInBagOf 32 = .ok (.aload_n 0, 1) := by decide +kernel
theorem dX2_loadInBagOf_33 : decode cX2_loadInBagOf 33 = .ok (.iload_n 3, 1) := by decide +kernel
theorem dX2_loadInBagOf_34 : decode cX2_loadInBagOf 34 = .ok (.invokevirtual 60, 3) := by decide +kernel
theorem dX2_loadInBagOf_37 : decode cX2_loadInBagOf 37 = .ok (.iadd, 1) := by decide +kernel
theorem dX2_loadInBagOf_38 : decode cX2_loadInBagOf 38 = .ok (.istore_n 2, 1) := by decide +kernel
theorem dX2_loadInBagOf_39 : decode cX2_loadInBagOf 39 = .ok (.iinc 3 1, 3) := by decide +kernel
theorem dX2_loadInBagOf_42 : decode cX2_loadInBagOf 42 = .ok (.goto (-38), 3) := by decide +kernel
theorem dX2_loadInBagOf_45 : decode cX2_loadInBagOf 45 = .ok (.iload_n 2, 1) := by decide +kernel
theorem dX2_loadInBagOf_46 : decode cX2_loadInBagOf 46 = .ok (.ireturn, 1) := by decide +kernel
theorem dX2_setIn_0 : decode cX2_setIn 0 = .ok (.iconst 0, 1) := by decide +kernel
theorem dX2_setIn_1 : decode cX2_setIn 1 = .ok (.istore_n 2, 1) := by decide +kernel
theorem dX2_setIn_2 : decode cX2_setIn 2 = .ok (.iconst 0, 1) := by decide +kernel
theorem dX2_setIn_3 : decode cX2_setIn 3 = .ok (.istore_n 3, 1) := by decide +kernel
theorem dX2_setIn_4 : decode cX2_setIn 4 = .ok (.iload_n 3, 1) := by decide +kernel
theorem dX2_setIn_5 : decode cX2_setIn 5 = .ok (.aload_n 0, 1) := by decide +kernel
theorem dX2_setIn_6 : decode cX2_setIn 6 = .ok (.getfield 39, 3) := by decide +kernel
theorem dX2_setIn_9 : decode cX2_setIn 9 = .ok (.if_icmp .ge 24, 3) := by decide +kernel
theorem dX2_setIn_12 : decode cX2_setIn 12 = .ok (.aload_n 0, 1) := by decide +kernel
theorem dX2_setIn_13 : decode cX2_setIn 13 = .ok (.iload_n 3, 1) := by decide +kernel
theorem dX2_setIn_14 : decode cX2_setIn 14 = .ok (.invokevirtual 50, 3) := by decide +kernel
theorem dX2_setIn_17 : decode cX2_setIn 17 = .ok (.iload_n 1, 1) := by decide +kernel
theorem dX2_setIn_18 : decode cX2_setIn 18 = .ok (.if_icmp .ne 9, 3) := by decide +kernel
theorem dX2_setIn_21 : decode cX2_setIn 21 = .ok (.iload_n 2, 1) := by decide +kernel
theorem dX2_setIn_22 : decode cX2_setIn 22 = .ok (.iconst 1, 1) := by decide +kernel
theorem dX2_setIn_23 : decode cX2_setIn 23 = .ok (.iload_n 3, 1) := by decide +kernel
theorem dX2_setIn_24 : decode cX2_setIn 24 = .ok (.ishl, 1) := by decide +kernel
theorem dX2_setIn_25 : decode cX2_setIn 25 = .ok (.ior, 1) := by decide +kernel
theorem dX2_setIn_26 : decode cX2_setIn 26 = .ok (.istore_n 2, 1) := by decide +kernel
theorem dX2_setIn_27 : decode cX2_setIn 27 = .ok (.iinc 3 1, 3) := by decide +kernel
theorem dX2_setIn_30 : decode cX2_setIn 30 = .ok (.goto (-26), 3) := by decide +kernel
theorem dX2_setIn_33 : decode cX2_setIn 33 = .ok (.iload_n 2, 1) := by decide +kernel
theorem dX2_setIn_34 : decode cX2_setIn 34 = .ok (.ireturn, 1) := by decide +kernel
theorem dX2_piecesIn_0 : decode cX2_piecesIn 0 = .ok (.aload_n 0, 1) := by decide +kernel
theorem dX2_piecesIn_1 : decode cX2_piecesIn 1 = .ok (.iload_n 1, 1) := by decide +kernel
theorem dX2_piecesIn_2 : decode cX2_piecesIn 2 = .ok (.invokevirtual 69, 3) := by decide +kernel
theorem dX2_piecesIn_5 : decode cX2_piecesIn 5 = .ok (.invokestatic 72, 3) := by decide +kernel
theorem dX2_piecesIn_8 : decode cX2_piecesIn 8 = .ok (.ireturn, 1) := by decide +kernel
theorem dX2_piecesInPlaces_0 : decode cX2_piecesInPlaces 0 = .ok (.aload_n 0, 1) := by decide +kernel
theorem dX2_piecesInPlaces_1 : decode cX2_piecesInPlaces 1 = .ok (.getfield 39, 3) := by decide +kernel
theorem dX2_piecesInPlaces_4 : decode cX2_piecesInPlaces 4 = .ok (.aload_n 0, 1) := by decide +kernel
theorem dX2_piecesInPlaces_5 : decode cX2_piecesInPlaces 5 = .ok (.bipush 6, 2) := by decide +kernel
theorem dX2_piecesInPlaces_7 : decode cX2_piecesInPlaces 7 = .ok (.invokevirtual 77, 3) := by decide +kernel
theorem dX2_piecesInPlaces_10 : decode cX2_piecesInPlaces 10 = .ok (.isub, 1) := by decide +kernel
theorem dX2_piecesInPlaces_11 : decode cX2_piecesInPlaces 11 = .ok (.aload_n 0, 1) := by decide +kernel
theorem dX2_piecesInPlaces_12 : decode cX2_piecesInPlaces 12 = .ok (.bipush 7, 2) := by decide +kernel
theorem dX2_piecesInPlaces_14 : decode cX2_piecesInPlaces 14 = .ok (.invokevirtual 77, 3) := by decide +kernel
theorem dX2_piecesInPlaces_17 : decode cX2_piecesInPlaces 17 = .ok (.isub, 1) := by decide +kernel
theorem dX2_piecesInPlaces_18 : decode cX2_piecesInPlaces 18 = .ok (.ireturn, 1) := by decide +kernel
theorem dX2_weighsSet_0 : decode cX2_weighsSet 0 = .ok (.iconst 0, 1) := by decide +kernel
theorem dX2_weighsSet_1 : decode cX2_weighsSet 1 = .ok (.istore_n 2, 1) := by decide +kernel
theorem dX2_weighsSet_2 : decode cX2_weighsSet 2 = .ok (.iconst 0, 1) := by decide +kernel
theorem dX2_weighsSet_3 : decode cX2_weighsSet 3 = .ok (.istore_n 3, 1) := by decide +kernel
theorem dX2_weighsSet_4 : decode cX2_weighsSet 4 = .ok (.iload_n 3, 1) := by decide +kernel
theorem dX2_weighsSet_5 : decode cX2_weighsSet 5 = .ok (.aload_n 0, 1) := by decide +kernel
theorem dX2_weighsSet_6 : decode cX2_weighsSet 6 = .ok (.getfield 39, 3) := by decide +kernel
theorem dX2_weighsSet_9 : decode cX2_weighsSet 9 = .ok (.if_icmp .ge 25, 3) := by decide +kernel
theorem dX2_weighsSet_12 : decode cX2_weighsSet 12 = .ok (.iload_n 1, 1) := by decide +kernel
theorem dX2_weighsSet_13 : decode cX2_weighsSet 13 = .ok (.iload_n 3, 1) := by decide +kernel
theorem dX2_weighsSet_14 : decode cX2_weighsSet 14 = .ok (.invokestatic 80, 3) := by decide +kernel
theorem dX2_weighsSet_17 : decode cX2_weighsSet 17 = .ok (.ifCond .eq 11, 3) := by decide +kernel
theorem dX2_weighsSet_20 : decode cX2_weighsSet 20 = .ok (.iload_n 2, 1) := by decide +kernel
theorem dX2_weighsSet_21 : decode cX2_weighsSet 21 = .ok (.aload_n 0, 1) := by decide +kernel
theorem dX2_weighsSet_22 : decode cX2_weighsSet 22 = .ok (.iload_n 3, 1) := by decide +kernel
theorem dX2_weighsSet_23 : decode cX2_weighsSet 23 = .ok (.invokevirtual 60, 3) := by decide +kernel
theorem dX2_weighsSet_26 : decode cX2_weighsSet 26 = .ok (.iadd, 1) := by decide +kernel
theorem dX2_weighsSet_27 : decode cX2_weighsSet 27 = .ok (.istore_n 2, 1) := by decide +kernel
theorem dX2_weighsSet_28 : decode cX2_weighsSet 28 = .ok (.iinc 3 1, 3) := by decide +kernel
theorem dX2_weighsSet_31 : decode cX2_weighsSet 31 = .ok (.goto (-27), 3) := by decide +kernel
theorem dX2_weighsSet_34 : decode cX2_weighsSet 34 = .ok (.iload_n 2, 1) := by decide +kernel
theorem dX2_weighsSet_35 : decode cX2_weighsSet 35 = .ok (.ireturn, 1) := by decide +kernel
theorem dX2_add_0 : decode cX2_add 0 = .ok (.aload_n 0, 1) := by decide +kernel
theorem dX2_add_1 : decode cX2_add 1 = .ok (.getfield 39, 3) := by decide +kernel
theorem dX2_add_4 : decode cX2_add 4 = .ok (.istore 5, 2) := by decide +kernel
theorem dX2_add_6 : decode cX2_add 6 = .ok (.iload 5, 2) := by decide +kernel
theorem dX2_add_8 : decode cX2_add 8 = .ok (.ifCond .lt 10, 3) := by decide +kernel
theorem dX2_add_11 : decode cX2_add 11 = .ok (.iload 5, 2) := by decide +kernel
theorem dX2_add_13 : decode cX2_add 13 = .ok (.bipush 12, 2) := by decide +kernel
theorem dX2_add_15 : decode cX2_add 15 = .ok (.if_icmp .lt 6, 3) := by decide +kernel
theorem dX2_add_18 : decode cX2_add 18 = .ok (.bipush (-3), 2) := by decide +kernel
theorem dX2_add_20 : decode cX2_add 20 = .ok (.ireturn, 1) := by decide +kernel
theorem dX2_add_21 : decode cX2_add 21 = .ok (.aload_n 0, 1) := by decide +kernel
theorem dX2_add_22 : decode cX2_add 22 = .ok (.iload 5, 2) := by decide +kernel
theorem dX2_add_24 : decode cX2_add 24 = .ok (.iconst 1, 1) := by decide +kernel
theorem dX2_add_25 : decode cX2_add 25 = .ok (.iadd, 1) := by decide +kernel
theorem dX2_add_26 : decode cX2_add 26 = .ok (.putfield 39, 3) := by decide +kernel
theorem dX2_add_29 : decode cX2_add 29 = .ok (.aload_n 0, 1) := by decide +kernel
theorem dX2_add_30 : decode cX2_add 30 = .ok (.getfield 9, 3) := by decide +kernel
theorem dX2_add_33 : decode cX2_add 33 = .ok (.iload 5, 2) := by decide +kernel
theorem dX2_add_35 : decode cX2_add 35 = .ok (.iload_n 1, 1) := by decide +kernel
theorem dX2_add_36 : decode cX2_add 36 = .ok (.iastore, 1) := by decide +kernel
theorem dX2_add_37 : decode cX2_add 37 = .ok (.aload_n 0, 1) := by decide +kernel
theorem dX2_add_38 : decode cX2_add 38 = .ok (.getfield 15, 3) := by decide +kernel
theorem dX2_add_41 : decode cX2_add 41 = .ok (.iload 5, 2) := by decide +kernel
theorem dX2_add_43 : decode cX2_add 43 = .ok (.iload_n 2, 1) := by decide +kernel
theorem dX2_add_44 : decode cX2_add 44 = .ok (.iastore, 1) := by decide +kernel
theorem dX2_add_45 : decode cX2_add 45 = .ok (.aload_n 0, 1) := by decide +kernel
theorem dX2_add_46 : decode cX2_add 46 = .ok (.getfield 18, 3) := by decide +kernel
theorem dX2_add_49 : decode cX2_add 49 = .ok (.iload 5, 2) := by decide +kernel
theorem dX2_add_51 : decode cX2_add 51 = .ok (.iload_n 3, 1) := by decide +kernel
theorem dX2_add_52 : decode cX2_add 52 = .ok (.iastore, 1) := by decide +kernel
theorem dX2_add_53 : decode cX2_add 53 = .ok (.aload_n 0, 1) := by decide +kernel
theorem dX2_add_54 : decode cX2_add 54 = .ok (.getfield 21, 3) := by decide +kernel
theorem dX2_add_57 : decode cX2_add 57 = .ok (.iload 5, 2) := by decide +kernel
theorem dX2_add_59 : decode cX2_add 59 = .ok (.bipush 6, 2) := by decide +kernel
theorem dX2_add_61 : decode cX2_add 61 = .ok (.iastore, 1) := by decide +kernel
theorem dX2_add_62 : decode cX2_add 62 = .ok (.aload_n 0, 1) := by decide +kernel
theorem dX2_add_63 : decode cX2_add 63 = .ok (.getfield 24, 3) := by decide +kernel
theorem dX2_add_66 : decode cX2_add 66 = .ok (.iload 5, 2) := by decide +kernel
theorem dX2_add_68 : decode cX2_add 68 = .ok (.bipush 12, 2) := by decide +kernel
theorem dX2_add_70 : decode cX2_add 70 = .ok (.iastore, 1) := by decide +kernel
theorem dX2_add_71 : decode cX2_add 71 = .ok (.aload_n 0, 1) := by decide +kernel
theorem dX2_add_72 : decode cX2_add 72 = .ok (.iload 5, 2) := by decide +kernel
theorem dX2_add_74 : decode cX2_add 74 = .ok (.iload 4, 2) := by decide +kernel
theorem dX2_add_76 : decode cX2_add 76 = .ok (.invokevirtual 84, 3) := by decide +kernel
theorem dX2_add_79 : decode cX2_add 79 = .ok (.iload 5, 2) := by decide +kernel
theorem dX2_add_81 : decode cX2_add 81 = .ok (.ireturn, 1) := by decide +kernel
theorem dX2_clearPieces_0 : decode cX2_clearPieces 0 = .ok (.aload_n 0, 1) := by decide +kernel
theorem dX2_clearPieces_1 : decode cX2_clearPieces 1 = .ok (.iconst 0, 1) := by decide +kernel
theorem dX2_clearPieces_2 : decode cX2_clearPieces 2 = .ok (.putfield 39, 3) := by decide +kernel
theorem dX2_clearPieces_5 : decode cX2_clearPieces 5 = .ok (.aload_n 0, 1) := by decide +kernel
theorem dX2_clearPieces_6 : decode cX2_clearPieces 6 = .ok (.getfield 27, 3) := by decide +kernel
theorem dX2_clearPieces_9 : decode cX2_clearPieces 9 = .ok (.bipush 12, 2) := by decide +kernel
theorem dX2_clearPieces_11 : decode cX2_clearPieces 11 = .ok (.invokestatic 33, 3) := by decide +kernel
theorem dX2_clearPieces_14 : decode cX2_clearPieces 14 = .ok (.return_, 1) := by decide +kernel
theorem dX2_becomeLike_0 : decode cX2_becomeLike 0 = .ok (.aload_n 1, 1) := by decide +kernel
theorem dX2_becomeLike_1 : decode cX2_becomeLike 1 = .ok (.getfield 9, 3) := by decide +kernel
theorem dX2_becomeLike_4 : decode cX2_becomeLike 4 = .ok (.iconst 0, 1) := by decide +kernel
theorem dX2_becomeLike_5 : decode cX2_becomeLike 5 = .ok (.aload_n 0, 1) := by decide +kernel
theorem dX2_becomeLike_6 : decode cX2_becomeLike 6 = .ok (.getfield 9, 3) := by decide +kernel
theorem dX2_becomeLike_9 : decode cX2_becomeLike 9 = .ok (.iconst 0, 1) := by decide +kernel
theorem dX2_becomeLike_10 : decode cX2_becomeLike 10 = .ok (.bipush 12, 2) := by decide +kernel
theorem dX2_becomeLike_12 : decode cX2_becomeLike 12 = .ok (.invokestatic 88, 3) := by decide +kernel
theorem dX2_becomeLike_15 : decode cX2_becomeLike 15 = .ok (.aload_n 1, 1) := by decide +kernel
theorem dX2_becomeLike_16 : decode cX2_becomeLike 16 = .ok (.getfield 15, 3) := by decide +kernel
theorem dX2_becomeLike_19 : decode cX2_becomeLike 19 = .ok (.iconst 0, 1) := by decide +kernel
theorem dX2_becomeLike_20 : decode cX2_becomeLike 20 = .ok (.aload_n 0, 1) := by decide +kernel
theorem dX2_becomeLike_21 : decode cX2_becomeLike 21 = .ok (.getfield 15, 3) := by decide +kernel
theorem dX2_becomeLike_24 : decode cX2_becomeLike 24 = .ok (.iconst 0, 1) := by decide +kernel
theorem dX2_becomeLike_25 : decode cX2_becomeLike 25 = .ok (.bipush 12, 2) := by decide +kernel
theorem dX2_becomeLike_27 : decode cX2_becomeLike 27 = .ok (.invokestatic 88, 3) := by decide +kernel
theorem dX2_becomeLike_30 : decode cX2_becomeLike 30 = .ok (.aload_n 1, 1) := by decide +kernel
theorem dX2_becomeLike_31 : decode cX2_becomeLike 31 = .ok (.getfield 18, 3) := by decide +kernel
theorem dX2_becomeLike_34 : decode cX2_becomeLike 34 = .ok (.iconst 0, 1) := by decide +kernel
theorem dX2_becomeLike_35 : decode cX2_becomeLike 35 = .ok (.aload_n 0, 1) := by decide +kernel
theorem dX2_becomeLike_36 : decode cX2_becomeLike 36 = .ok (.getfield 18, 3) := by decide +kernel
theorem dX2_becomeLike_39 : decode cX2_becomeLike 39 = .ok (.iconst 0, 1) := by decide +kernel
theorem dX2_becomeLike_40 : decode cX2_becomeLike 40 = .ok (.bipush 12, 2) := by decide +kernel
theorem dX2_becomeLike_42 : decode cX2_becomeLike 42 = .ok (.invokestatic 88, 3) := by decide +kernel
theorem dX2_becomeLike_45 : decode cX2_becomeLike 45 = .ok (.aload_n 1, 1) := by decide +kernel
theorem dX2_becomeLike_46 : decode cX2_becomeLike 46 = .ok (.getfield 21, 3) := by decide +kernel
theorem dX2_becomeLike_49 : decode cX2_becomeLike 49 = .ok (.iconst 0, 1) := by decide +kernel
theorem dX2_becomeLike_50 : decode cX2_becomeLike 50 = .ok (.aload_n 0, 1) := by decide +kernel
theorem dX2_becomeLike_51 : decode cX2_becomeLike 51 = .ok (.getfield 21, 3) := by decide +kernel
theorem dX2_becomeLike_54 : decode cX2_becomeLike 54 = .ok (.iconst 0, 1) := by decide +kernel
theorem dX2_becomeLike_55 : decode cX2_becomeLike 55 = .ok (.bipush 12, 2) := by decide +kernel
theorem dX2_becomeLike_57 : decode cX2_becomeLike 57 = .ok (.invokestatic 88, 3) := by decide +kernel
theorem dX2_becomeLike_60 : decode cX2_becomeLike 60 = .ok (.aload_n 1, 1) := by decide +kernel
theorem dX2_becomeLike_61 : decode cX2_becomeLike 61 = .ok (.getfield 24, 3) := by decide +kernel
theorem dX2_becomeLike_64 : decode cX2_becomeLike 64 = .ok (.iconst 0, 1) := by decide +kernel
theorem dX2_becomeLike_65 : decode cX2_becomeLike 65 = .ok (.aload_n 0, 1) := by decide +kernel
theorem dX2_becomeLike_66 : decode cX2_becomeLike 66 = .ok (.getfield 24, 3) := by decide +kernel
theorem dX2_becomeLike_69 : decode cX2_becomeLike 69 = .ok (.iconst 0, 1) := by decide +kernel
theorem dX2_becomeLike_70 : decode cX2_becomeLike 70 = .ok (.bipush 12, 2) := by decide +kernel
theorem dX2_becomeLike_72 : decode cX2_becomeLike 72 = .ok (.invokestatic 88, 3) := by decide +kernel
theorem dX2_becomeLike_75 : decode cX2_becomeLike 75 = .ok (.aload_n 1, 1) := by decide +kernel
theorem dX2_becomeLike_76 : decode cX2_becomeLike 76 = .ok (.getfield 27, 3) := by decide +kernel
theorem dX2_becomeLike_79 : decode cX2_becomeLike 79 = .ok (.iconst 0, 1) := by decide +kernel
theorem dX2_becomeLike_80 : decode cX2_becomeLike 80 = .ok (.aload_n 0, 1) := by decide +kernel
theorem dX2_becomeLike_81 : decode cX2_becomeLike 81 = .ok (.getfield 27, 3) := by decide +kernel
theorem dX2_becomeLike_84 : decode cX2_becomeLike 84 = .ok (.iconst 0, 1) := by decide +kernel
theorem dX2_becomeLike_85 : decode cX2_becomeLike 85 = .ok (.bipush 6, 2) := by decide +kernel
theorem dX2_becomeLike_87 : decode cX2_becomeLike 87 = .ok (.invokestatic 88, 3) := by decide +kernel
theorem dX2_becomeLike_90 : decode cX2_becomeLike 90 = .ok (.aload_n 1, 1) := by decide +kernel
theorem dX2_becomeLike_91 : decode cX2_becomeLike 91 = .ok (.getfield 30, 3) := by decide +kernel
theorem dX2_becomeLike_94 : decode cX2_becomeLike 94 = .ok (.iconst 0, 1) := by decide +kernel
theorem dX2_becomeLike_95 : decode cX2_becomeLike 95 = .ok (.aload_n 0, 1) := by decide +kernel
theorem dX2_becomeLike_96 : decode cX2_becomeLike 96 = .ok (.getfield 30, 3) := by decide +kernel
theorem dX2_becomeLike_99 : decode cX2_becomeLike 99 = .ok (.iconst 0, 1) := by decide +kernel
theorem dX2_becomeLike_100 : decode cX2_becomeLike 100 = .ok (.bipush 6, 2) := by decide +kernel
theorem dX2_becomeLike_102 : decode cX2_becomeLike 102 = .ok (.invokestatic 88, 3) := by decide +kernel
theorem dX2_becomeLike_105 : decode cX2_becomeLike 105 = .ok (.aload_n 0, 1) := by decide +kernel
theorem dX2_becomeLike_106 : decode cX2_becomeLike 106 = .ok (.aload_n 1, 1) := by decide +kernel
theorem dX2_becomeLike_107 : decode cX2_becomeLike 107 = .ok (.getfield 39, 3) := by decide +kernel
theorem dX2_becomeLike_110 : decode cX2_becomeLike 110 = .ok (.putfield 39, 3) := by decide +kernel
theorem dX2_becomeLike_113 : decode cX2_becomeLike 113 = .ok (.aload_n 0, 1) := by decide +kernel
theorem dX2_becomeLike_114 : decode cX2_becomeLike 114 = .ok (.aload_n 1, 1) := by decide +kernel
theorem dX2_becomeLike_115 : decode cX2_becomeLike 115 = .ok (.getfield 43, 3) := by decide +kernel
theorem dX2_becomeLike_118 : decode cX2_becomeLike 118 = .ok (.putfield 43, 3) := by decide +kernel
theorem dX2_becomeLike_121 : decode cX2_becomeLike 121 = .ok (.return_, 1) := by decide +kernel
theorem dX2_put_0 : decode cX2_put 0 = .ok (.aload_n 0, 1) := by decide +kernel
theorem dX2_put_1 : decode cX2_put 1 = .ok (.iload_n 1, 1) := by decide +kernel
theorem dX2_put_2 : decode cX2_put 2 = .ok (.invokevirtual 46, 3) := by decide +kernel
theorem dX2_put_5 : decode cX2_put 5 = .ok (.ifCond .eq 36, 3) := by decide +kernel
theorem dX2_put_8 : decode cX2_put 8 = .ok (.iload_n 2, 1) := by decide +kernel
theorem dX2_put_9 : decode cX2_put 9 = .ok (.invokestatic 57, 3) := by decide +kernel
theorem dX2_put_12 : decode cX2_put 12 = .ok (.ifCond .eq 29, 3) := by decide +kernel
theorem dX2_put_15 : decode cX2_put 15 = .ok (.aload_n 0, 1) := by decide +kernel
theorem dX2_put_16 : decode cX2_put 16 = .ok (.getfield 24, 3) := by decide +kernel
theorem dX2_put_19 : decode cX2_put 19 = .ok (.iload_n 1, 1) := by decide +kernel
theorem dX2_put_20 : decode cX2_put 20 = .ok (.aload_n 0, 1) := by decide +kernel
theorem dX2_put_21 : decode cX2_put 21 = .ok (.getfield 27, 3) := by decide +kernel
theorem dX2_put_24 : decode cX2_put 24 = .ok (.iload_n 2, 1) := by decide +kernel
theorem dX2_put_25 : decode cX2_put 25 = .ok (.iaload, 1) := by decide +kernel
theorem dX2_put_26 : decode cX2_put 26 = .ok (.iastore, 1) := by decide +kernel
theorem dX2_put_27 : decode cX2_put 27 = .ok (.aload_n 0, 1) := by decide +kernel
theorem dX2_put_28 : decode cX2_put 28 = .ok (.getfield 27, 3) := by decide +kernel
theorem dX2_put_31 : decode cX2_put 31 = .ok (.iload_n 2, 1) := by decide +kernel
theorem dX2_put_32 : decode cX2_put 32 = .ok (.iload_n 1, 1) := by decide +kernel
theorem dX2_put_33 : decode cX2_put 33 = .ok (.iastore, 1) := by decide +kernel
theorem dX2_put_34 : decode cX2_put 34 = .ok (.aload_n 0, 1) := by decide +kernel
theorem dX2_put_35 : decode cX2_put 35 = .ok (.getfield 21, 3) := by decide +kernel
theorem dX2_put_38 : decode cX2_put 38 = .ok (.iload_n 1, 1) := by decide +kernel
theorem dX2_put_39 : decode cX2_put 39 = .ok (.iload_n 2, 1) := by decide +kernel
theorem dX2_put_40 : decode cX2_put 40 = .ok (.iastore, 1) := by decide +kernel
theorem dX2_put_41 : decode cX2_put 41 = .ok (.return_, 1) := by decide +kernel
theorem dX2_take_0 : decode cX2_take 0 = .ok (.aload_n 0, 1) := by decide +kernel
theorem dX2_take_1 : decode cX2_take 1 = .ok (.iload_n 1, 1) := by decide +kernel
theorem dX2_take_2 : decode cX2_take 2 = .ok (.invokevirtual 54, 3) := by decide +kernel
theorem dX2_take_5 : decode cX2_take 5 = .ok (.istore_n 2, 1) := by decide +kernel
theorem dX2_take_6 : decode cX2_take 6 = .ok (.iload_n 1, 1) := by decide +kernel
theorem dX2_take_7 : decode cX2_take 7 = .ok (.invokestatic 57, 3) := by decide +kernel
theorem dX2_take_10 : decode cX2_take 10 = .ok (.ifCond .eq 39, 3) := by decide +kernel
theorem dX2_take_13 : decode cX2_take 13 = .ok (.aload_n 0, 1) := by decide +kernel
theorem dX2_take_14 : decode cX2_take 14 = .ok (.iload_n 2, 1) := by decide +kernel
theorem dX2_take_15 : decode cX2_take 15 = .ok (.invokevirtual 46, 3) := by decide +kernel
theorem dX2_take_18 : decode cX2_take 18 = .ok (.ifCond .eq 31, 3) := by decide +kernel
theorem dX2_take_21 : decode cX2_take 21 = .ok (.aload_n 0, 1) := by decide +kernel
theorem dX2_take_22 : decode cX2_take 22 = .ok (.getfield 27, 3) := by decide +kernel
theorem dX2_take_25 : decode cX2_take 25 = .ok (.iload_n 1, 1) := by decide +kernel
theorem dX2_take_26 : decode cX2_take 26 = .ok (.aload_n 0, 1) := by decide +kernel
theorem dX2_take_27 : decode cX2_take 27 = .ok (.getfield 24, 3) := by decide +kernel
theorem dX2_take_30 : decode cX2_take 30 = .ok (.iload_n 2, 1) := by decide +kernel
theorem dX2_take_31 : decode cX2_take 31 = .ok (.iaload, 1) := by decide +kernel
theorem dX2_take_32 : decode cX2_take 32 = .ok (.iastore, 1) := by decide +kernel
theorem dX2_take_33 : decode cX2_take 33 = .ok (.aload_n 0, 1) := by decide +kernel
theorem dX2_take_34 : decode cX2_take 34 = .ok (.getfield 24, 3) := by decide +kernel
theorem dX2_take_37 : decode cX2_take 37 = .ok (.iload_n 2, 1) := by decide +kernel
theorem dX2_take_38 : decode cX2_take 38 = .ok (.bipush 12, 2) := by decide +kernel
theorem dX2_take_40 : decode cX2_take 40 = .ok (.iastore, 1) := by decide +kernel
theorem dX2_take_41 : decode cX2_take 41 = .ok (.aload_n 0, 1) := by decide +kernel
theorem dX2_take_42 : decode cX2_take 42 = .ok (.getfield 21, 3) := by decide +kernel
theorem dX2_take_45 : decode cX2_take 45 = .ok (.iload_n 2, 1) := by decide +kernel
theorem dX2_take_46 : decode cX2_take 46 = .ok (.bipush 6, 2) := by decide +kernel
theorem dX2_take_48 : decode cX2_take 48 = .ok (.iastore, 1) := by decide +kernel
theorem dX2_take_49 : decode cX2_take 49 = .ok (.iload_n 2, 1) := by decide +kernel
theorem dX2_take_50 : decode cX2_take 50 = .ok (.ireturn, 1) := by decide +kernel
theorem dX2_turnOver_0 : decode cX2_turnOver 0 = .ok (.iconst 0, 1) := by decide +kernel
theorem dX2_turnOver_1 : decode cX2_turnOver 1 = .ok (.istore_n 1, 1) := by decide +kernel
theorem dX2_turnOver_2 : decode cX2_turnOver 2 = .ok (.iload_n 1, 1) := by decide +kernel
theorem dX2_turnOver_3 : decode cX2_turnOver 3 = .ok (.iconst 3, 1) := by decide +kernel
theorem dX2_turnOver_4 : decode cX2_turnOver 4 = .ok (.if_icmp .ge 37, 3) := by decide +kernel
theorem dX2_turnOver_7 : decode cX2_turnOver 7 = .ok (.iconst 5, 1) := by decide +kernel
theorem dX2_turnOver_8 : decode cX2_turnOver 8 = .ok (.iload_n 1, 1) := by decide +kernel
theorem dX2_turnOver_9 : decode cX2_turnOver 9 = .ok (.isub, 1) := by decide +kernel
theorem dX2_turnOver_10 : decode cX2_turnOver 10 = .ok (.istore_n 2, 1) := by decide +kernel
theorem dX2_turnOver_11 : decode cX2_turnOver 11 = .ok (.aload_n 0, 1) := by decide +kernel
theorem dX2_turnOver_12 : decode cX2_turnOver 12 = .ok (.iload_n 1, 1) := by decide +kernel
theorem dX2_turnOver_13 : decode cX2_turnOver 13 = .ok (.invokevirtual 94, 3) := by decide +kernel
theorem dX2_turnOver_16 : decode cX2_turnOver 16 = .ok (.istore_n 3, 1) := by decide +kernel
theorem dX2_turnOver_17 : decode cX2_turnOver 17 = .ok (.aload_n 0, 1) := by decide +kernel
theorem dX2_turnOver_18 : decode cX2_turnOver 18 = .ok (.getfield 27, 3) := by decide +kernel
theorem dX2_turnOver_21 : decode cX2_turnOver 21 = .ok (.iload_n 1, 1) := by decide +kernel
theorem dX2_turnOver_22 : decode cX2_turnOver 22 = .ok (.aload_n 0, 1) := by decide +kernel
theorem dX2_turnOver_23 : decode cX2_turnOver 23 = .ok (.iload_n 2, 1) := by decide +kernel
theorem dX2_turnOver_24 : decode cX2_turnOver 24 = .ok (.invokevirtual 94, 3) := by decide +kernel
theorem dX2_turnOver_27 : decode cX2_turnOver 27 = .ok (.iastore, 1) := by decide +kernel
theorem dX2_turnOver_28 : decode cX2_turnOver 28 = .ok (.aload_n 0, 1) := by decide +kernel
theorem dX2_turnOver_29 : decode cX2_turnOver 29 = .ok (.getfield 27, 3) := by decide +kernel
theorem dX2_turnOver_32 : decode cX2_turnOver 32 = .ok (.iload_n 2, 1) := by decide +kernel
theorem dX2_turnOver_33 : decode cX2_turnOver 33 = .ok (.iload_n 3, 1) := by decide +kernel
theorem dX2_turnOver_34 : decode cX2_turnOver 34 = .ok (.iastore, 1) := by decide +kernel
theorem dX2_turnOver_35 : decode cX2_turnOver 35 = .ok (.iinc 1 1, 3) := by decide +kernel
theorem dX2_turnOver_38 : decode cX2_turnOver 38 = .ok (.goto (-36), 3) := by decide +kernel
theorem dX2_turnOver_41 : decode cX2_turnOver 41 = .ok (.iconst 0, 1) := by decide +kernel
theorem dX2_turnOver_42 : decode cX2_turnOver 42 = .ok (.istore_n 1, 1) := by decide +kernel
theorem dX2_turnOver_43 : decode cX2_turnOver 43 = .ok (.iload_n 1, 1) := by decide +kernel
theorem dX2_turnOver_44 : decode cX2_turnOver 44 = .ok (.aload_n 0, 1) := by decide +kernel
theorem dX2_turnOver_45 : decode cX2_turnOver 45 = .ok (.getfield 39, 3) := by decide +kernel
theorem dX2_turnOver_48 : decode cX2_turnOver 48 = .ok (.if_icmp .ge 41, 3) := by decide +kernel
theorem dX2_turnOver_51 : decode cX2_turnOver 51 = .ok (.iload_n 1, 1) := by decide +kernel
theorem dX2_turnOver_52 : decode cX2_turnOver 52 = .ok (.bipush 12, 2) := by decide +kernel
theorem dX2_turnOver_54 : decode cX2_turnOver 54 = .ok (.if_icmp .ge 35, 3) := by decide +kernel
theorem dX2_turnOver_57 : decode cX2_turnOver 57 = .ok (.aload_n 0, 1) := by decide +kernel
theorem dX2_turnOver_58 : decode cX2_turnOver 58 = .ok (.getfield 21, 3) := by decide +kernel
theorem dX2_turnOver_61 : decode cX2_turnOver 61 = .ok (.iload_n 1, 1) := by decide +kernel
theorem dX2_turnOver_62 : decode cX2_turnOver 62 = .ok (.iaload, 1) := by decide +kernel
theorem dX2_turnOver_63 : decode cX2_turnOver 63 = .ok (.invokestatic 57, 3) := by decide +kernel
theorem dX2_turnOver_66 : decode cX2_turnOver 66 = .ok (.ifCond .eq 17, 3) := by decide +kernel
theorem dX2_turnOver_69 : decode cX2_turnOver 69 = .ok (.aload_n 0, 1) := by decide +kernel
theorem dX2_turnOver_70 : decode cX2_turnOver 70 = .ok (.getfield 21, 3) := by decide +kernel
theorem dX2_turnOver_73 : decode cX2_turnOver 73 = .ok (.iload_n 1, 1) := by decide +kernel
theorem dX2_turnOver_74 : decode cX2_turnOver 74 = .ok (.iconst 5, 1) := by decide +kernel
theorem dX2_turnOver_75 : decode cX2_turnOver 75 = .ok (.aload_n 0, 1) := by decide +kernel
theorem dX2_turnOver_76 : decode cX2_turnOver 76 = .ok (.getfield 21, 3) := by decide +kernel
theorem dX2_turnOver_79 : decode cX2_turnOver 79 = .ok (.iload_n 1, 1) := by decide +kernel
theorem dX2_turnOver_80 : decode cX2_turnOver 80 = .ok (.iaload, 1) := by decide +kernel
theorem dX2_turnOver_81 : decode cX2_turnOver 81 = .ok (.isub, 1) := by decide +kernel
theorem dX2_turnOver_82 : decode cX2_turnOver 82 = .ok (.iastore, 1) := by decide +kernel
theorem dX2_turnOver_83 : decode cX2_turnOver 83 = .ok (.iinc 1 1, 3) := by decide +kernel
theorem dX2_turnOver_86 : decode cX2_turnOver 86 = .ok (.goto (-43), 3) := by decide +kernel
theorem dX2_turnOver_89 : decode cX2_turnOver 89 = .ok (.return_, 1) := by decide +kernel
theorem dX2_turned_0 : decode cX2_turned 0 = .ok (.bipush 12, 2) := by decide +kernel
theorem dX2_turned_2 : decode cX2_turned 2 = .ok (.istore_n 2, 1) := by decide +kernel
theorem dX2_turned_3 : decode cX2_turned 3 = .ok (.aload_n 0, 1) := by decide +kernel
theorem dX2_turned_4 : decode cX2_turned 4 = .ok (.iload_n 1, 1) := by decide +kernel
theorem dX2_turned_5 : decode cX2_turned 5 = .ok (.invokevirtual 54, 3) := by decide +kernel
theorem dX2_turned_8 : decode cX2_turned 8 = .ok (.istore_n 3, 1) := by decide +kernel
theorem dX2_turned_9 : decode cX2_turned 9 = .ok (.iconst 0, 1) := by decide +kernel
theorem dX2_turned_10 : decode cX2_turned 10 = .ok (.istore 4, 2) := by decide +kernel
theorem dX2_turned_12 : decode cX2_turned 12 = .ok (.iload 4, 2) := by decide +kernel
theorem dX2_turned_14 : decode cX2_turned 14 = .ok (.bipush 12, 2) := by decide +kernel
theorem dX2_turned_16 : decode cX2_turned 16 = .ok (.if_icmp .ge 37, 3) := by decide +kernel
theorem dX2_turned_19 : decode cX2_turned 19 = .ok (.aload_n 0, 1) := by decide +kernel
theorem dX2_turned_20 : decode cX2_turned 20 = .ok (.iload_n 3, 1) := by decide +kernel
theorem dX2_turned_21 : decode cX2_turned 21 = .ok (.invokevirtual 46, 3) := by decide +kernel
theorem dX2_turned_24 : decode cX2_turned 24 = .ok (.ifCond .eq 29, 3) := by decide +kernel
theorem dX2_turned_27 : decode cX2_turned 27 = .ok (.aload_n 0, 1) := by decide +kernel
theorem dX2_turned_28 : decode cX2_turned 28 = .ok (.getfield 24, 3) := by decide +kernel
theorem dX2_turned_31 : decode cX2_turned 31 = .ok (.iload_n 3, 1) := by decide +kernel
theorem dX2_turned_32 : decode cX2_turned 32 = .ok (.iaload, 1) := by decide +kernel
theorem dX2_turned_33 : decode cX2_turned 33 = .ok (.istore 5, 2) := by decide +kernel
theorem dX2_turned_35 : decode cX2_turned 35 = .ok (.aload_n 0, 1) := by decide +kernel
theorem dX2_turned_36 : decode cX2_turned 36 = .ok (.getfield 24, 3) := by decide +kernel
theorem dX2_turned_39 : decode cX2_turned 39 = .ok (.iload_n 3, 1) := by decide +kernel
theorem dX2_turned_40 : decode cX2_turned 40 = .ok (.iload_n 2, 1) := by decide +kernel
theorem dX2_turned_41 : decode cX2_turned 41 = .ok (.iastore, 1) := by decide +kernel
theorem dX2_turned_42 : decode cX2_turned 42 = .ok (.iload_n 3, 1) := by decide +kernel
theorem dX2_turned_43 : decode cX2_turned 43 = .ok (.istore_n 2, 1) := by decide +kernel
theorem dX2_turned_44 : decode cX2_turned 44 = .ok (.iload 5, 2) := by decide +kernel
theorem dX2_turned_46 : decode cX2_turned 46 = .ok (.istore_n 3, 1) := by decide +kernel
theorem dX2_turned_47 : decode cX2_turned 47 = .ok (.iinc 4 1, 3) := by decide +kernel
theorem dX2_turned_50 : decode cX2_turned 50 = .ok (.goto (-38), 3) := by decide +kernel
theorem dX2_turned_53 : decode cX2_turned 53 = .ok (.iload_n 2, 1) := by decide +kernel
theorem dX2_turned_54 : decode cX2_turned 54 = .ok (.ireturn, 1) := by decide +kernel
theorem dX2_tryAct_0 : decode cX2_tryAct 0 = .ok (.aload_n 0, 1) := by decide +kernel
theorem dX2_tryAct_1 : decode cX2_tryAct 1 = .ok (.iload_n 1, 1) := by decide +kernel
theorem dX2_tryAct_2 : decode cX2_tryAct 2 = .ok (.invokevirtual 97, 3) := by decide +kernel
theorem dX2_tryAct_5 : decode cX2_tryAct 5 = .ok (.ifCond .ne 6, 3) := by decide +kernel
theorem dX2_tryAct_8 : decode cX2_tryAct 8 = .ok (.bipush (-2), 2) := by decide +kernel
theorem dX2_tryAct_10 : decode cX2_tryAct 10 = .ok (.ireturn, 1) := by decide +kernel
theorem dX2_tryAct_11 : decode cX2_tryAct 11 = .ok (.aload_n 0, 1) := by decide +kernel
theorem dX2_tryAct_12 : decode cX2_tryAct 12 = .ok (.iload_n 1, 1) := by decide +kernel
theorem dX2_tryAct_13 : decode cX2_tryAct 13 = .ok (.invokevirtual 100, 3) := by decide +kernel
theorem dX2_tryAct_16 : decode cX2_tryAct 16 = .ok (.ifCond .eq 20, 3) := by decide +kernel
theorem dX2_tryAct_19 : decode cX2_tryAct 19 = .ok (.aload_n 0, 1) := by decide +kernel
theorem dX2_tryAct_20 : decode cX2_tryAct 20 = .ok (.dup, 1) := by decide +kernel
theorem dX2_tryAct_21 : decode cX2_tryAct 21 = .ok (.getfield 43, 3) := by decide +kernel
theorem dX2_tryAct_24 : decode cX2_tryAct 24 = .ok (.iconst 1, 1) := by decide +kernel
theorem dX2_tryAct_25 : decode cX2_tryAct 25 = .ok (.iadd, 1) := by decide +kernel
theorem dX2_tryAct_26 : decode cX2_tryAct 26 = .ok (.putfield 43, 3) := by decide +kernel
theorem dX2_tryAct_29 : decode cX2_tryAct 29 = .ok (.aload_n 0, 1) := by decide +kernel
theorem dX2_tryAct_30 : decode cX2_tryAct 30 = .ok (.invokevirtual 103, 3) := by decide +kernel
theorem dX2_tryAct_33 : decode cX2_tryAct 33 = .ok (.bipush (-3), 2) := by decide +kernel
theorem dX2_tryAct_35 : decode cX2_tryAct 35 = .ok (.ireturn, 1) := by decide +kernel
theorem dX2_tryAct_36 : decode cX2_tryAct 36 = .ok (.aload_n 0, 1) := by decide +kernel
theorem dX2_tryAct_37 : decode cX2_tryAct 37 = .ok (.iload_n 1, 1) := by decide +kernel
theorem dX2_tryAct_38 : decode cX2_tryAct 38 = .ok (.invokevirtual 106, 3) := by decide +kernel
theorem dX2_tryAct_41 : decode cX2_tryAct 41 = .ok (.iconst 0, 1) := by decide +kernel
theorem dX2_tryAct_42 : decode cX2_tryAct 42 = .ok (.ireturn, 1) := by decide +kernel
theorem dX2_canBe_0 : decode cX2_canBe 0 = .ok (.iload_n 1, 1) := by decide +kernel
theorem dX2_canBe_1 : decode cX2_canBe 1 = .ok (.invokestatic 110, 3) := by decide +kernel
theorem dX2_canBe_4 : decode cX2_canBe 4 = .ok (.istore_n 2, 1) := by decide +kernel
theorem dX2_canBe_5 : decode cX2_canBe 5 = .ok (.iload_n 2, 1) := by decide +kernel
theorem dX2_canBe_6 : decode cX2_canBe 6 = .ok (.iconst 1, 1) := by decide +kernel
theorem dX2_canBe_7 : decode cX2_canBe 7 = .ok (.if_icmp .eq 18, 3) := by decide +kernel
theorem dX2_canBe_10 : decode cX2_canBe 10 = .ok (.aload_n 0, 1) := by decide +kernel
theorem dX2_canBe_11 : decode cX2_canBe 11 = .ok (.aload_n 0, 1) := by decide +kernel
theorem dX2_canBe_12 : decode cX2_canBe 12 = .ok (.iload_n 1, 1) := by decide +kernel
theorem dX2_canBe_13 : decode cX2_canBe 13 = .ok (.invokestatic 115, 3) := by decide +kernel
theorem dX2_canBe_16 : decode cX2_canBe 16 = .ok (.invokevirtual 54, 3) := by decide +kernel
theorem dX2_canBe_19 : decode cX2_canBe 19 = .ok (.invokevirtual 46, 3) := by decide +kernel
theorem dX2_canBe_22 : decode cX2_canBe 22 = .ok (.ifCond .eq 7, 3) := by decide +kernel
theorem dX2_canBe_25 : decode cX2_canBe 25 = .ok (.iconst 1, 1) := by decide +kernel
theorem dX2_canBe_26 : decode cX2_canBe 26 = .ok (.goto 4, 3) := by decide +kernel
theorem dX2_canBe_29 : decode cX2_canBe 29 = .ok (.iconst 0, 1) := by decide +kernel
theorem dX2_canBe_30 : decode cX2_canBe 30 = .ok (.istore_n 3, 1) := by decide +kernel
theorem dX2_canBe_31 : decode cX2_canBe 31 = .ok (.iload_n 2, 1) := by decide +kernel
theorem dX2_canBe_32 : decode cX2_canBe 32 = .ok (.ifCond .eq 21, 3) := by decide +kernel
theorem dX2_canBe_35 : decode cX2_canBe 35 = .ok (.iload_n 2, 1) := by decide +kernel
theorem dX2_canBe_36 : decode cX2_canBe 36 = .ok (.iconst 3, 1) := by decide +kernel
theorem dX2_canBe_37 : decode cX2_canBe 37 = .ok (.if_icmp .eq 16, 3) := by decide +kernel
theorem dX2_canBe_40 : decode cX2_canBe 40 = .ok (.aload_n 0, 1) := by decide +kernel
theorem dX2_canBe_41 : decode cX2_canBe 41 = .ok (.iload_n 1, 1) := by decide +kernel
theorem dX2_canBe_42 : decode cX2_canBe 42 = .ok (.invokestatic 118, 3) := by decide +kernel
theorem dX2_canBe_45 : decode cX2_canBe 45 = .ok (.invokevirtual 50, 3) := by decide +kernel
theorem dX2_canBe_48 : decode cX2_canBe 48 = .ok (.bipush 6, 2) := by decide +kernel
theorem dX2_canBe_50 : decode cX2_canBe 50 = .ok (.if_icmp .ne 7, 3) := by decide +kernel
theorem dX2_canBe_53 : decode cX2_canBe 53 = .ok (.iconst 1, 1) := by decide +kernel
theorem dX2_canBe_54 : decode cX2_canBe 54 = .ok (.goto 4, 3) := by decide +kernel
theorem dX2_canBe_57 : decode cX2_canBe 57 = .ok (.iconst 0, 1) := by decide +kernel
theorem dX2_canBe_58 : decode cX2_canBe 58 = .ok (.istore 4, 2) := by decide +kernel
theorem dX2_canBe_60 : decode cX2_canBe 60 = .ok (.iload_n 3, 1) := by decide +kernel
theorem dX2_canBe_61 : decode cX2_canBe 61 = .ok (.ifCond .eq 12, 3) := by decide +kernel
theorem dX2_canBe_64 : decode cX2_canBe 64 = .ok (.iload 4, 2) := by decide +kernel
theorem dX2_canBe_66 : decode cX2_canBe 66 = .ok (.ifCond .eq 7, 3) := by decide +kernel
theorem dX2_canBe_69 : decode cX2_canBe 69 = .ok (.iconst 1, 1) := by decide +kernel
theorem dX2_canBe_70 : decode cX2_canBe 70 = .ok (.goto 4, 3) := by decide +kernel
theorem dX2_canBe_73 : decode cX2_canBe 73 = .ok (.iconst 0, 1) := by decide +kernel
theorem dX2_canBe_74 : decode cX2_canBe 74 = .ok (.ireturn, 1) := by decide +kernel
theorem dX2_isFelt_0 : decode cX2_isFelt 0 = .ok (.iload_n 1, 1) := by decide +kernel
theorem dX2_isFelt_1 : decode cX2_isFelt 1 = .ok (.invokestatic 110, 3) := by decide +kernel
theorem dX2_isFelt_4 : decode cX2_isFelt 4 = .ok (.istore_n 2, 1) := by decide +kernel
theorem dX2_isFelt_5 : decode cX2_isFelt 5 = .ok (.iload_n 2, 1) := by decide +kernel
theorem dX2_isFelt_6 : decode cX2_isFelt 6 = .ok (.iconst 1, 1) := by decide +kernel
theorem dX2_isFelt_7 : decode cX2_isFelt 7 = .ok (.if_icmp .ne 7, 3) := by decide +kernel
theorem dX2_isFelt_10 : decode cX2_isFelt 10 = .ok (.iconst 0, 1) := by decide +kernel
theorem dX2_isFelt_11 : decode cX2_isFelt 11 = .ok (.goto 15, 3) := by decide +kernel
theorem dX2_isFelt_14 : decode cX2_isFelt 14 = .ok (.aload_n 0, 1) := by decide +kernel
theorem dX2_isFelt_15 : decode cX2_isFelt 15 = .ok (.aload_n 0, 1) := by decide +kernel
theorem dX2_isFelt_16 : decode cX2_isFelt 16 = .ok (.iload_n 1, 1) := by decide +kernel
theorem dX2_isFelt_17 : decode cX2_isFelt 17 = .ok (.invokestatic 115, 3) := by decide +kernel
theorem dX2_isFelt_20 : decode cX2_isFelt 20 = .ok (.invokevirtual 54, 3) := by decide +kernel
theorem dX2_isFelt_23 : decode cX2_isFelt 23 = .ok (.invokevirtual 60, 3) := by decide +kernel
theorem dX2_isFelt_26 : decode cX2_isFelt 26 = .ok (.istore_n 3, 1) := by decide +kernel
theorem dX2_isFelt_27 : decode cX2_isFelt 27 = .ok (.iload_n 2, 1) := by decide +kernel
theorem dX2_isFelt_28 : decode cX2_isFelt 28 = .ok (.iconst 1, 1) := by decide +kernel
theorem dX2_isFelt_29 : decode cX2_isFelt 29 = .ok (.if_icmp .eq 8, 3) := by decide +kernel
theorem dX2_isFelt_32 : decode cX2_isFelt 32 = .ok (.iload_n 2, 1) := by decide +kernel
theorem dX2_isFelt_33 : decode cX2_isFelt 33 = .ok (.iconst 2, 1) := by decide +kernel
theorem dX2_isFelt_34 : decode cX2_isFelt 34 = .ok (.if_icmp .ne 14, 3) := by decide +kernel
theorem dX2_isFelt_37 : decode cX2_isFelt 37 = .ok (.aload_n 0, 1) := by decide +kernel
theorem dX2_isFelt_38 : decode cX2_isFelt 38 = .ok (.iload_n 1, 1) := by decide +kernel
theorem dX2_isFelt_39 : decode cX2_isFelt 39 = .ok (.invokestatic 118, 3) := by decide +kernel
theorem dX2_isFelt_42 : decode cX2_isFelt 42 = .ok (.invokevirtual 60, 3) := by decide +kernel
theorem dX2_isFelt_45 : decode cX2_isFelt 45 = .ok (.goto 4, 3) := by decide +kernel
theorem dX2_isFelt_48 : decode cX2_isFelt 48 = .ok (.iconst 0, 1) := by decide +kernel
theorem dX2_isFelt_49 : decode cX2_isFelt 49 = .ok (.istore 4, 2) := by decide +kernel
theorem dX2_isFelt_51 : decode cX2_isFelt 51 = .ok (.aload_n 0, 1) := by decide +kernel
theorem dX2_isFelt_52 : decode cX2_isFelt 52 = .ok (.iload_n 1, 1) := by decide +kernel
theorem dX2_isFelt_53 : decode cX2_isFelt 53 = .ok (.invokestatic 115, 3) := by decide +kernel
theorem dX2_isFelt_56 : decode cX2_isFelt 56 = .ok (.iload 4, 2) := by decide +kernel
theorem dX2_isFelt_58 : decode cX2_isFelt 58 = .ok (.iload_n 3, 1) := by decide +kernel
theorem dX2_isFelt_59 : decode cX2_isFelt 59 = .ok (.isub, 1) := by decide +kernel
theorem dX2_isFelt_60 : decode cX2_isFelt 60 = .ok (.invokevirtual 121, 3) := by decide +kernel
theorem dX2_isFelt_63 : decode cX2_isFelt 63 = .ok (.ifCond .ne 20, 3) := by decide +kernel
theorem dX2_isFelt_66 : decode cX2_isFelt 66 = .ok (.iload_n 2, 1) := by decide +kernel
theorem dX2_isFelt_67 : decode cX2_isFelt 67 = .ok (.iconst 3, 1) := by decide +kernel
theorem dX2_isFelt_68 : decode cX2_isFelt 68 = .ok (.if_icmp .ne 19, 3) := by decide +kernel
theorem dX2_isFelt_71 : decode cX2_isFelt 71 = .ok (.aload_n 0, 1) := by decide +kernel
theorem dX2_isFelt_72 : decode cX2_isFelt 72 = .ok (.iload_n 1, 1) := by decide +kernel
theorem dX2_isFelt_73 : decode cX2_isFelt 73 = .ok (.invokestatic 118, 3) := by decide +kernel
theorem dX2_isFelt_76 : decode cX2_isFelt 76 = .ok (.iload_n 3, 1) := by decide +kernel
theorem dX2_isFelt_77 : decode cX2_isFelt 77 = .ok (.invokevirtual 121, 3) := by decide +kernel
theorem dX2_isFelt_80 : decode cX2_isFelt 80 = .ok (.ifCond .eq 7, 3) := by decide +kernel
theorem dX2_isFelt_83 : decode cX2_isFelt 83 = .ok (.iconst 1, 1) := by decide +kernel
theorem dX2_isFelt_84 : decode cX2_isFelt 84 = .ok (.goto 4, 3) := by decide +kernel
theorem dX2_isFelt_87 : decode cX2_isFelt 87 = .ok (.iconst 0, 1) := by decide +kernel
theorem dX2_isFelt_88 : decode cX2_isFelt 88 = .ok (.ireturn, 1) := by decide +kernel
theorem dX2_isAboveSense_0 : decode cX2_isAboveSense 0 = .ok (.iload_n 2, 1) := by decide +kernel
theorem dX2_isAboveSense_1 : decode cX2_isAboveSense 1 = .ok (.invokestatic 124, 3) := by decide +kernel
theorem dX2_isAboveSense_4 : decode cX2_isAboveSense 4 = .ok (.aload_n 0, 1) := by decide +kernel
theorem dX2_isAboveSense_5 : decode cX2_isAboveSense 5 = .ok (.iload_n 1, 1) := by decide +kernel
theorem dX2_isAboveSense_6 : decode cX2_isAboveSense 6 = .ok (.invokevirtual 129, 3) := by decide +kernel
theorem dX2_isAboveSense_9 : decode cX2_isAboveSense 9 = .ok (.if_icmp .le 7, 3) := by decide +kernel
theorem dX2_isAboveSense_12 : decode cX2_isAboveSense 12 = .ok (.iconst 1, 1) := by decide +kernel
theorem dX2_isAboveSense_13 : decode cX2_isAboveSense 13 = .ok (.goto 4, 3) := by decide +kernel
theorem dX2_isAboveSense_16 : decode cX2_isAboveSense 16 = .ok (.iconst 0, 1) := by decide +kernel
theorem dX2_isAboveSense_17 : decode cX2_isAboveSense 17 = .ok (.ireturn, 1) := by decide +kernel
theorem dX2_doAct_0 : decode cX2_doAct 0 = .ok (.iload_n 1, 1) := by decide +kernel
theorem dX2_doAct_1 : decode cX2_doAct 1 = .ok (.invokestatic 115, 3) := by decide +kernel
theorem dX2_doAct_4 : decode cX2_doAct 4 = .ok (.istore_n 2, 1) := by decide +kernel
theorem dX2_doAct_5 : decode cX2_doAct 5 = .ok (.iload_n 1, 1) := by decide +kernel
theorem dX2_doAct_6 : decode cX2_doAct 6 = .ok (.invokestatic 118, 3) := by decide +kernel
theorem dX2_doAct_9 : decode cX2_doAct 9 = .ok (.istore_n 3, 1) := by decide +kernel
theorem dX2_doAct_10 : decode cX2_doAct 10 = .ok (.iload_n 1, 1) := by decide +kernel
theorem dX2_doAct_11 : decode cX2_doAct 11 = .ok (.invokestatic 110, 3) := by decide +kernel
theorem dX2_doAct_14 : decode cX2_doAct 14 = .ok (.tableswitch 59 0 2 #[26, 35, 44], 26) := by decide +kernel
theorem dX2_doAct_40 : decode cX2_doAct 40 = .ok (.aload_n 0, 1) := by decide +kernel
theorem dX2_doAct_41 : decode cX2_doAct 41 = .ok (.iload_n 2, 1) := by decide +kernel
theorem dX2_doAct_42 : decode cX2_doAct 42 = .ok (.invokevirtual 132, 3) := by decide +kernel
theorem dX2_doAct_45 : decode cX2_doAct 45 = .ok (.pop, 1) := by decide +kernel
theorem dX2_doAct_46 : decode cX2_doAct 46 = .ok (.goto 37, 3) := by decide +kernel
theorem dX2_doAct_49 : decode cX2_doAct 49 = .ok (.aload_n 0, 1) := by decide +kernel
theorem dX2_doAct_50 : decode cX2_doAct 50 = .ok (.iload_n 3, 1) := by decide +kernel
theorem dX2_doAct_51 : decode cX2_doAct 51 = .ok (.iload_n 2, 1) := by decide +kernel
theorem dX2_doAct_52 : decode cX2_doAct 52 = .ok (.invokevirtual 84, 3) := by decide +kernel
theorem dX2_doAct_55 : decode cX2_doAct 55 = .ok (.goto 28, 3) := by decide +kernel
theorem dX2_doAct_58 : decode cX2_doAct 58 = .ok (.aload_n 0, 1) := by decide +kernel
theorem dX2_doAct_59 : decode cX2_doAct 59 = .ok (.iload_n 2, 1) := by decide +kernel
theorem dX2_doAct_60 : decode cX2_doAct 60 = .ok (.invokevirtual 132, 3) := by decide +kernel
theorem dX2_doAct_63 : decode cX2_doAct 63 = .ok (.pop, 1) := by decide +kernel
theorem dX2_doAct_64 : decode cX2_doAct 64 = .ok (.aload_n 0, 1) := by decide +kernel
theorem dX2_doAct_65 : decode cX2_doAct 65 = .ok (.iload_n 3, 1) := by decide +kernel
theorem dX2_doAct_66 : decode cX2_doAct 66 = .ok (.iload_n 2, 1) := by decide +kernel
theorem dX2_doAct_67 : decode cX2_doAct 67 = .ok (.invokevirtual 84, 3) := by decide +kernel
theorem dX2_doAct_70 : decode cX2_doAct 70 = .ok (.goto 13, 3) := by decide +kernel
theorem dX2_doAct_73 : decode cX2_doAct 73 = .ok (.aload_n 0, 1) := by decide +kernel
theorem dX2_doAct_74 : decode cX2_doAct 74 = .ok (.aload_n 0, 1) := by decide +kernel
theorem dX2_doAct_75 : decode cX2_doAct 75 = .ok (.iload_n 2, 1) := by decide +kernel
theorem dX2_doAct_76 : decode cX2_doAct 76 = .ok (.invokevirtual 132, 3) := by decide +kernel
theorem dX2_doAct_79 : decode cX2_doAct 79 = .ok (.iload_n 3, 1) := by decide +kernel
theorem dX2_doAct_80 : decode cX2_doAct 80 = .ok (.invokevirtual 84, 3) := by decide +kernel
theorem dX2_doAct_83 : decode cX2_doAct 83 = .ok (.return_, 1) := by decide +kernel
theorem dX2_eat_0 : decode cX2_eat 0 = .ok (.bipush 12, 2) := by decide +kernel
theorem dX2_eat_2 : decode cX2_eat 2 = .ok (.istore_n 1, 1) := by decide +kernel
theorem dX2_eat_3 : decode cX2_eat 3 = .ok (.iconst 0, 1) := by decide +kernel
theorem dX2_eat_4 : decode cX2_eat 4 = .ok (.istore_n 2, 1) := by decide +kernel
theorem dX2_eat_5 : decode cX2_eat 5 = .ok (.iload_n 2, 1) := by decide +kernel
theorem dX2_eat_6 : decode cX2_eat 6 = .ok (.aload_n 0, 1) := by decide +kernel
theorem dX2_eat_7 : decode cX2_eat 7 = .ok (.getfield 39, 3) := by decide +kernel
theorem dX2_eat_10 : decode cX2_eat 10 = .ok (.if_icmp .ge 59, 3) := by decide +kernel
theorem dX2_eat_13 : decode cX2_eat 13 = .ok (.aload_n 0, 1) := by decide +kernel
theorem dX2_eat_14 : decode cX2_eat 14 = .ok (.iload_n 2, 1) := by decide +kernel
theorem dX2_eat_15 : decode cX2_eat 15 = .ok (.invokevirtual 50, 3) := by decide +kernel
theorem dX2_eat_18 : decode cX2_eat 18 = .ok (.bipush 6, 2) := by decide +kernel
theorem dX2_eat_20 : decode cX2_eat 20 = .ok (.if_icmp .ne 16, 3) := by decide +kernel
theorem dX2_eat_23 : decode cX2_eat 23 = .ok (.aload_n 0, 1) := by decide +kernel
theorem dX2_eat_24 : decode cX2_eat 24 = .ok (.iload_n 2, 1) := by decide +kernel
theorem dX2_eat_25 : decode cX2_eat 25 = .ok (.invokevirtual 135, 3) := by decide +kernel
theorem dX2_eat_28 : decode cX2_eat 28 = .ok (.iconst 3, 1) := by decide +kernel
theorem dX2_eat_29 : decode cX2_eat 29 = .ok (.if_icmp .eq 7, 3) := by decide +kernel
theorem dX2_eat_32 : decode cX2_eat 32 = .ok (.iconst 1, 1) := by decide +kernel
theorem dX2_eat_33 : decode cX2_eat 33 = .ok (.goto 4, 3) := by decide +kernel
theorem dX2_eat_36 : decode cX2_eat 36 = .ok (.iconst 0, 1) := by decide +kernel
theorem dX2_eat_37 : decode cX2_eat 37 = .ok (.istore_n 3, 1) := by decide +kernel
theorem dX2_eat_38 : decode cX2_eat 38 = .ok (.iload_n 3, 1) := by decide +kernel
theorem dX2_eat_39 : decode cX2_eat 39 = .ok (.ifCond .eq 24, 3) := by decide +kernel
theorem dX2_eat_42 : decode cX2_eat 42 = .ok (.iload_n 1, 1) := by decide +kernel
theorem dX2_eat_43 : decode cX2_eat 43 = .ok (.bipush 12, 2) := by decide +kernel
theorem dX2_eat_45 : decode cX2_eat 45 = .ok (.if_icmp .eq 16, 3) := by decide +kernel
theorem dX2_eat_48 : decode cX2_eat 48 = .ok (.aload_n 0, 1) := by decide +kernel
theorem dX2_eat_49 : decode cX2_eat 49 = .ok (.iload_n 2, 1) := by decide +kernel
theorem dX2_eat_50 : decode cX2_eat 50 = .ok (.invokevirtual 60, 3) := by decide +kernel
theorem dX2_eat_53 : decode cX2_eat 53 = .ok (.aload_n 0, 1) := by decide +kernel
theorem dX2_eat_54 : decode cX2_eat 54 = .ok (.iload_n 1, 1) := by decide +kernel
theorem dX2_eat_55 : decode cX2_eat 55 = .ok (.invokevirtual 60, 3) := by decide +kernel
theorem dX2_eat_58 : decode cX2_eat 58 = .ok (.if_icmp .ge 5, 3) := by decide +kernel
theorem dX2_eat_61 : decode cX2_eat 61 = .ok (.iload_n 2, 1) := by decide +kernel
theorem dX2_eat_62 : decode cX2_eat 62 = .ok (.istore_n 1, 1) := by decide +kernel
theorem dX2_eat_63 : decode cX2_eat 63 = .ok (.iinc 2 1, 3) := by decide +kernel
theorem dX2_eat_66 : decode cX2_eat 66 = .ok (.goto (-61), 3) := by decide +kernel
theorem dX2_eat_69 : decode cX2_eat 69 = .ok (.aload_n 0, 1) := by decide +kernel
theorem dX2_eat_70 : decode cX2_eat 70 = .ok (.iload_n 1, 1) := by decide +kernel
theorem dX2_eat_71 : decode cX2_eat 71 = .ok (.invokevirtual 46, 3) := by decide +kernel
theorem dX2_eat_74 : decode cX2_eat 74 = .ok (.ifCond .eq 11, 3) := by decide +kernel
theorem dX2_eat_77 : decode cX2_eat 77 = .ok (.aload_n 0, 1) := by decide +kernel
theorem dX2_eat_78 : decode cX2_eat 78 = .ok (.getfield 21, 3) := by decide +kernel
theorem dX2_eat_81 : decode cX2_eat 81 = .ok (.iload_n 1, 1) := by decide +kernel
theorem dX2_eat_82 : decode cX2_eat 82 = .ok (.bipush 7, 2) := by decide +kernel
theorem dX2_eat_84 : decode cX2_eat 84 = .ok (.iastore, 1) := by decide +kernel
theorem dX2_eat_85 : decode cX2_eat 85 = .ok (.return_, 1) := by decide +kernel
theorem dX3_init_0 : decode cX3_init 0 = .ok (.aload_n 0, 1) := by decide +kernel
theorem dX3_init_1 : decode cX3_init 1 = .ok (.invokespecial 3, 3) := by decide +kernel
theorem dX3_init_4 : decode cX3_init 4 = .ok (.aload_n 0, 1) := by decide +kernel
theorem dX3_init_5 : decode cX3_init 5 = .ok (.bipush 12, 2) := by decide +kernel
theorem dX3_init_7 : decode cX3_init 7 = .ok (.newarray .int, 2) := by decide +kernel
theorem dX3_init_9 : decode cX3_init 9 = .ok (.putfield 9, 3) := by decide +kernel
theorem dX3_init_12 : decode cX3_init 12 = .ok (.aload_n 0, 1) := by decide +kernel
theorem dX3_init_13 : decode cX3_init 13 = .ok (.bipush 12, 2) := by decide +kernel
theorem dX3_init_15 : decode cX3_init 15 = .ok (.newarray .int, 2) := by decide +kernel
theorem dX3_init_17 : decode cX3_init 17 = .ok (.putfield 15, 3) := by decide +kernel
theorem dX3_init_20 : decode cX3_init 20 = .ok (.aload_n 0, 1) := by decide +kernel
theorem dX3_init_21 : decode cX3_init 21 = .ok (.bipush 12, 2) := by decide +kernel
theorem dX3_init_23 : decode cX3_init 23 = .ok (.newarray .int, 2) := by decide +kernel
theorem dX3_init_25 : decode cX3_init 25 = .ok (.putfield 18, 3) := by decide +kernel
theorem dX3_init_28 : decode cX3_init 28 = .ok (.aload_n 0, 1) := by decide +kernel
theorem dX3_init_29 : decode cX3_init 29 = .ok (.bipush 12, 2) := by decide +kernel
theorem dX3_init_31 : decode cX3_init 31 = .ok (.newarray .int, 2) := by decide +kernel
theorem dX3_init_33 : decode cX3_init 33 = .ok (.putfield 21, 3) := by decide +kernel
theorem dX3_init_36 : decode cX3_init 36 = .ok (.return_, 1) := by decide +kernel
theorem dX3_read_0 : decode cX3_read 0 = .ok (.iconst 0, 1) := by decide +kernel
theorem dX3_read_1 : decode cX3_read 1 = .ok (.istore_n 2, 1) := by decide +kernel
theorem dX3_read_2 : decode cX3_read 2 = .ok (.iload_n 2, 1) := by decide +kernel
theorem dX3_read_3 : decode cX3_read 3 = .ok (.bipush 12, 2) := by decide +kernel
theorem dX3_read_5 : decode cX3_read 5 = .ok (.if_icmp .ge 36, 3) := by decide +kernel
theorem dX3_read_8 : decode cX3_read 8 = .ok (.iload_n 2, 1) := by decide +kernel
theorem dX3_read_9 : decode cX3_read 9 = .ok (.ifCond .eq 12, 3) := by decide +kernel
theorem dX3_read_12 : decode cX3_read 12 = .ok (.aload_n 1, 1) := by decide +kernel
theorem dX3_read_13 : decode cX3_read 13 = .ok (.ldc 24, 2) := by decide +kernel
theorem dX3_read_15 : decode cX3_read 15 = .ok (.invokevirtual 26, 3) := by decide +kernel
theorem dX3_read_18 : decode cX3_read 18 = .ok (.ifCond .ne 23, 3) := by decide +kernel
theorem dX3_read_21 : decode cX3_read 21 = .ok (.aload_n 0, 1) := by decide +kernel
theorem dX3_read_22 : decode cX3_read 22 = .ok (.aload_n 1, 1) := by decide +kernel
theorem dX3_read_23 : decode cX3_read 23 = .ok (.iload_n 2, 1) := by decide +kernel
theorem dX3_read_24 : decode cX3_read 24 = .ok (.invokevirtual 32, 3) := by decide +kernel
theorem dX3_read_27 : decode cX3_read 27 = .ok (.ifCond .ne 8, 3) := by decide +kernel
theorem dX3_read_30 : decode cX3_read 30 = .ok (.aload_n 1, 1) := by decide +kernel
theorem dX3_read_31 : decode cX3_read 31 = .ok (.invokevirtual 36, 3) := by decide +kernel
theorem dX3_read_34 : decode cX3_read 34 = .ok (.ireturn, 1) := by decide +kernel
theorem dX3_read_35 : decode cX3_read 35 = .ok (.iinc 2 1, 3) := by decide +kernel
theorem dX3_read_38 : decode cX3_read 38 = .ok (.goto (-36), 3) := by decide +kernel
theorem dX3_read_41 : decode cX3_read 41 = .ok (.aload_n 1, 1) := by decide +kernel
theorem dX3_read_42 : decode cX3_read 42 = .ok (.invokevirtual 40, 3) := by decide +kernel
theorem dX3_read_45 : decode cX3_read 45 = .ok (.ifCond .eq 7, 3) := by decide +kernel
theorem dX3_read_48 : decode cX3_read 48 = .ok (.iload_n 2, 1) := by decide +kernel
theorem dX3_read_49 : decode cX3_read 49 = .ok (.goto 7, 3) := by decide +kernel
theorem dX3_read_52 : decode cX3_read 52 = .ok (.aload_n 1, 1) := by decide +kernel
theorem dX3_read_53 : decode cX3_read 53 = .ok (.invokevirtual 36, 3) := by decide +kernel
theorem dX3_read_56 : decode cX3_read 56 = .ok (.ireturn, 1) := by decide +kernel
theorem dX3_readPiece_0 : decode cX3_readPiece 0 = .ok (.iload_n 2, 1) := by decide +kernel
theorem dX3_readPiece_1 : decode cX3_readPiece 1 = .ok (.ifCond .lt 9, 3) := by decide +kernel
theorem dX3_readPiece_4 : decode cX3_readPiece 4 = .ok (.iload_n 2, 1) := by decide +kernel
theorem dX3_readPiece_5 : decode cX3_readPiece 5 = .ok (.bipush 12, 2) := by decide +kernel
theorem dX3_readPiece_7 : decode cX3_readPiece 7 = .ok (.if_icmp .lt 5, 3) := by decide +kernel
theorem dX3_readPiece_10 : decode cX3_readPiece 10 = .ok (.iconst 0, 1) := by decide +kernel
theorem dX3_readPiece_11 : decode cX3_readPiece 11 = .ok (.ireturn, 1) := by decide +kernel
theorem dX3_readPiece_12 : decode cX3_readPiece 12 = .ok (.aload_n 0, 1) := by decide +kernel
theorem dX3_readPiece_13 : decode cX3_readPiece 13 = .ok (.getfield 9, 3) := by decide +kernel
theorem dX3_readPiece_16 : decode cX3_readPiece 16 = .ok (.iload_n 2, 1) := by decide +kernel
theorem dX3_readPiece_17 : decode cX3_readPiece 17 = .ok (.aload_n 1, 1) := by decide +kernel
theorem dX3_readPiece_18 : decode cX3_readPiece 18 = .ok (.ldc 44, 2) := by decide +kernel
theorem dX3_readPiece_20 : decode cX3_readPiece 20 = .ok (.invokevirtual 26, 3) := by decide +kernel
theorem dX3_readPiece_23 : decode cX3_readPiece 23 = .ok (.iastore, 1) := by decide +kernel
theorem dX3_readPiece_24 : decode cX3_readPiece 24 = .ok (.aload_n 0, 1) := by decide +kernel
theorem dX3_readPiece_25 : decode cX3_readPiece 25 = .ok (.getfield 15, 3) := by decide +kernel
theorem dX3_readPiece_28 : decode cX3_readPiece 28 = .ok (.iload_n 2, 1) := by decide +kernel
theorem dX3_readPiece_29 : decode cX3_readPiece 29 = .ok (.aload_n 0, 1) := by decide +kernel
theorem dX3_readPiece_30 : decode cX3_readPiece 30 = .ok (.getfield 9, 3) := by decide +kernel
theorem dX3_readPiece_33 : decode cX3_readPiece 33 = .ok (.iload_n 2, 1) := by decide +kernel
theorem dX3_readPiece_34 : decode cX3_readPiece 34 = .ok (.iaload, 1) := by decide +kernel
theorem dX3_readPiece_35 : decode cX3_readPiece 35 = .ok (.ifCond .ge 7, 3) := by decide +kernel
theorem dX3_readPiece_38 : decode cX3_readPiece 38 = .ok (.iconst (-1), 1) := by decide +kernel
theorem dX3_readPiece_39 : decode cX3_readPiece 39 = .ok (.goto 7, 3) := by decide +kernel
theorem dX3_readPiece_42 : decode cX3_readPiece 42 = .ok (.aload_n 1, 1) := by decide +kernel
theorem dX3_readPiece_43 : decode cX3_readPiece 43 = .ok (.invokevirtual 46, 3) := by decide +kernel
theorem dX3_readPiece_46 : decode cX3_readPiece 46 = .ok (.iastore, 1) := by decide +kernel
theorem dX3_readPiece_47 : decode cX3_readPiece 47 = .ok (.aload_n 0, 1) := by decide +kernel
theorem dX3_readPiece_48 : decode cX3_readPiece 48 = .ok (.getfield 15, 3) := by decide +kernel
theorem dX3_readPiece_51 : decode cX3_readPiece 51 = .ok (.iload_n 2, 1) := by decide +kernel
theorem dX3_readPiece_52 : decode cX3_readPiece 52 = .ok (.iaload, 1) := by decide +kernel
theorem dX3_readPiece_53 : decode cX3_readPiece 53 = .ok (.ifCond .ge 5, 3) := by decide +kernel
theorem dX3_readPiece_56 : decode cX3_readPiece 56 = .ok (.iconst 0, 1) := by decide +kernel
theorem dX3_readPiece_57 : decode cX3_readPiece 57 = .ok (.ireturn, 1) := by decide +kernel
theorem dX3_readPiece_58 : decode cX3_readPiece 58 = .ok (.aload_n 0, 1) := by decide +kernel
theorem dX3_readPiece_59 : decode cX3_readPiece 59 = .ok (.getfield 18, 3) := by decide +kernel
theorem dX3_readPiece_62 : decode cX3_readPiece 62 = .ok (.iload_n 2, 1) := by decide +kernel
theorem dX3_readPiece_63 : decode cX3_readPiece 63 = .ok (.iconst 0, 1) := by decide +kernel
theorem dX3_readPiece_64 : decode cX3_readPiece 64 = .ok (.iastore, 1) := by decide +kernel
theorem dX3_readPiece_65 : decode cX3_readPiece 65 = .ok (.aload_n 1, 1) := by decide +kernel
theorem dX3_readPiece_66 : decode cX3_readPiece 66 = .ok (.ldc 49, 2) := by decide +kernel
theorem dX3_readPiece_68 : decode cX3_readPiece 68 = .ok (.invokevirtual 26, 3) := by decide +kernel
theorem dX3_readPiece_71 : decode cX3_readPiece 71 = .ok (.ifCond .ne 15, 3) := by decide +kernel
theorem dX3_readPiece_74 : decode cX3_readPiece 74 = .ok (.aload_n 0, 1) := by decide +kernel
theorem dX3_readPiece_75 : decode cX3_readPiece 75 = .ok (.getfield 18, 3) := by decide +kernel
theorem dX3_readPiece_78 : decode cX3_readPiece 78 = .ok (.iload_n 2, 1) := by decide +kernel
theorem dX3_readPiece_79 : decode cX3_readPiece 79 = .ok (.aload_n 1, 1) := by decide +kernel
theorem dX3_readPiece_80 : decode cX3_readPiece 80 = .ok (.ldc 51, 2) := by decide +kernel
theorem dX3_readPiece_82 : decode cX3_readPiece 82 = .ok (.invokevirtual 26, 3) := by decide +kernel
theorem dX3_readPiece_85 : decode cX3_readPiece 85 = .ok (.iastore, 1) := by decide +kernel
theorem dX3_readPiece_86 : decode cX3_readPiece 86 = .ok (.aload_n 0, 1) := by decide +kernel
theorem dX3_readPiece_87 : decode cX3_readPiece 87 = .ok (.getfield 21, 3) := by decide +kernel
theorem dX3_readPiece_90 : decode cX3_readPiece 90 = .ok (.iload_n 2, 1) := by decide +kernel
theorem dX3_readPiece_91 : decode cX3_readPiece 91 = .ok (.bipush 6, 2) := by decide +kernel
theorem dX3_readPiece_93 : decode cX3_readPiece 93 = .ok (.iastore, 1) := by decide +kernel
theorem dX3_readPiece_94 : decode cX3_readPiece 94 = .ok (.aload_n 0, 1) := by decide +kernel
theorem dX3_readPiece_95 : decode cX3_readPiece 95 = .ok (.getfield 18, 3) := by decide +kernel
theorem dX3_readPiece_98 : decode cX3_readPiece 98 = .ok (.iload_n 2, 1) := by decide +kernel
theorem dX3_readPiece_99 : decode cX3_readPiece 99 = .ok (.iaload, 1) := by decide +kernel
theorem dX3_readPiece_100 : decode cX3_readPiece 100 = .ok (.ifCond .lt 24, 3) := by decide +kernel
theorem dX3_readPiece_103 : decode cX3_readPiece 103 = .ok (.aload_n 1, 1) := by decide +kernel
theorem dX3_readPiece_104 : decode cX3_readPiece 104 = .ok (.ldc 53, 2) := by decide +kernel
theorem dX3_readPiece_106 : decode cX3_readPiece 106 = .ok (.invokevirtual 26, 3) := by decide +kernel
theorem dX3_readPiece_109 : decode cX3_readPiece 109 = .ok (.ifCond .ne 15, 3) := by decide +kernel
theorem dX3_readPiece_112 : decode cX3_readPiece 112 = .ok (.aload_n 0, 1) := by decide +kernel
theorem dX3_readPiece_113 : decode cX3_readPiece 113 = .ok (.getfield 21, 3) := by decide +kernel
theorem dX3_readPiece_116 : decode cX3_readPiece 116 = .ok (.iload_n 2, 1) := by decide +kernel
theorem dX3_readPiece_117 : decode cX3_readPiece 117 = .ok (.aload_n 1, 1) := by decide +kernel
theorem dX3_readPiece_118 : decode cX3_readPiece 118 = .ok (.ldc 55, 2) := by decide +kernel
theorem dX3_readPiece_120 : decode cX3_readPiece 120 = .ok (.invokevirtual 26, 3) := by decide +kernel
theorem dX3_readPiece_123 : decode cX3_readPiece 123 = .ok (.iastore, 1) := by decide +kernel
theorem dX3_readPiece_124 : decode cX3_readPiece 124 = .ok (.aload_n 0, 1) := by decide +kernel
theorem dX3_readPiece_125 : decode cX3_readPiece 125 = .ok (.getfield 18, 3) := by decide +kernel
theorem dX3_readPiece_128 : decode cX3_readPiece 128 = .ok (.iload_n 2, 1) := by decide +kernel
theorem dX3_readPiece_129 : decode cX3_readPiece 129 = .ok (.iaload, 1) := by decide +kernel
theorem dX3_readPiece_130 : decode cX3_readPiece 130 = .ok (.ifCond .lt 16, 3) := by decide +kernel
theorem dX3_readPiece_133 : decode cX3_readPiece 133 = .ok (.aload_n 0, 1) := by decide +kernel
theorem dX3_readPiece_134 : decode cX3_readPiece 134 = .ok (.getfield 21, 3) := by decide +kernel
theorem dX3_readPiece_137 : decode cX3_readPiece 137 = .ok (.iload_n 2, 1) := by decide +kernel
theorem dX3_readPiece_138 : decode cX3_readPiece 138 = .ok (.iaload, 1) := by decide +kernel
theorem dX3_readPiece_139 : decode cX3_readPiece 139 = .ok (.ifCond .lt 7, 3) := by decide +kernel
theorem dX3_readPiece_142 : decode cX3_readPiece 142 = .ok (.iconst 1, 1) := by decide +kernel
theorem dX3_readPiece_143 : decode cX3_readPiece 143 = .ok (.goto 4, 3) := by decide +kernel
theorem dX3_readPiece_146 : decode cX3_readPiece 146 = .ok (.iconst 0, 1) := by decide +kernel
theorem dX3_readPiece_147 : decode cX3_readPiece 147 = .ok (.ireturn, 1) := by decide +kernel
theorem dX3_layOut_0 : decode cX3_layOut 0 = .ok (.aload_n 1, 1) := by decide +kernel
theorem dX3_layOut_1 : decode cX3_layOut 1 = .ok (.invokevirtual 57, 3) := by decide +kernel
theorem dX3_layOut_4 : decode cX3_layOut 4 = .ok (.iconst 0, 1) := by decide +kernel
theorem dX3_layOut_5 : decode cX3_layOut 5 = .ok (.istore_n 3, 1) := by decide +kernel
theorem dX3_layOut_6 : decode cX3_layOut 6 = .ok (.iload_n 3, 1) := by decide +kernel
theorem dX3_layOut_7 : decode cX3_layOut 7 = .ok (.iload_n 2, 1) := by decide +kernel
theorem dX3_layOut_8 : decode cX3_layOut 8 = .ok (.if_icmp .ge 44, 3) := by decide +kernel
theorem dX3_layOut_11 : decode cX3_layOut 11 = .ok (.iload_n 3, 1) := by decide +kernel
theorem dX3_layOut_12 : decode cX3_layOut 12 = .ok (.bipush 12, 2) := by decide +kernel
theorem dX3_layOut_14 : decode cX3_layOut 14 = .ok (.if_icmp .ge 38, 3) := by decide +kernel
theorem dX3_layOut_17 : decode cX3_layOut 17 = .ok (.aload_n 1, 1) := by decide +kernel
theorem dX3_layOut_18 : decode cX3_layOut 18 = .ok (.aload_n 0, 1) := by decide +kernel
theorem dX3_layOut_19 : decode cX3_layOut 19 = .ok (.getfield 9, 3) := by decide +kernel
theorem dX3_layOut_22 : decode cX3_layOut 22 = .ok (.iload_n 3, 1) := by decide +kernel
theorem dX3_layOut_23 : decode cX3_layOut 23 = .ok (.iaload, 1) := by decide +kernel
theorem dX3_layOut_24 : decode cX3_layOut 24 = .ok (.aload_n 0, 1) := by decide +kernel
theorem dX3_layOut_25 : decode cX3_layOut 25 = .ok (.getfield 15, 3) := by decide +kernel
theorem dX3_layOut_28 : decode cX3_layOut 28 = .ok (.iload_n 3, 1) := by decide +kernel
theorem dX3_layOut_29 : decode cX3_layOut 29 = .ok (.iaload, 1) := by decide +kernel
theorem dX3_layOut_30 : decode cX3_layOut 30 = .ok (.aload_n 0, 1) := by decide +kernel
theorem dX3_layOut_31 : decode cX3_layOut 31 = .ok (.getfield 18, 3) := by decide +kernel
theorem dX3_layOut_34 : decode cX3_layOut 34 = .ok (.iload_n 3, 1) := by decide +kernel
theorem dX3_layOut_35 : decode cX3_layOut 35 = .ok (.iaload, 1) := by decide +kernel
theorem dX3_layOut_36 : decode cX3_layOut 36 = .ok (.aload_n 0, 1) := by decide +kernel
theorem dX3_layOut_37 : decode cX3_layOut 37 = .ok (.getfield 21, 3) := by decide +kernel
theorem dX3_layOut_40 : decode cX3_layOut 40 = .ok (.iload_n 3, 1) := by decide +kernel
theorem dX3_layOut_41 : decode cX3_layOut 41 = .ok (.iaload, 1) := by decide +kernel
theorem dX3_layOut_42 : decode cX3_layOut 42 = .ok (.invokevirtual 62, 3) := by decide +kernel
theorem dX3_layOut_45 : decode cX3_layOut 45 = .ok (.pop, 1) := by decide +kernel
theorem dX3_layOut_46 : decode cX3_layOut 46 = .ok (.iinc 3 1, 3) := by decide +kernel
theorem dX3_layOut_49 : decode cX3_layOut 49 = .ok (.goto (-43), 3) := by decide +kernel
theorem dX3_layOut_52 : decode cX3_layOut 52 = .ok (.return_, 1) := by decide +kernel
theorem dX4_init_0 : decode cX4_init 0 = .ok (.aload_n 0, 1) := by decide +kernel
theorem dX4_init_1 : decode cX4_init 1 = .ok (.invokespecial 3, 3) := by decide +kernel
theorem dX4_init_4 : decode cX4_init 4 = .ok (.aload_n 0, 1) := by decide +kernel
theorem dX4_init_5 : decode cX4_init 5 = .ok (.bipush 60, 2) := by decide +kernel
theorem dX4_init_7 : decode cX4_init 7 = .ok (.newarray .int, 2) := by decide +kernel
theorem dX4_init_9 : decode cX4_init 9 = .ok (.putfield 11, 3) := by decide +kernel
theorem dX4_init_12 : decode cX4_init 12 = .ok (.return_, 1) := by decide +kernel
theorem dX4_read_0 : decode cX4_read 0 = .ok (.iconst 0, 1) := by decide +kernel
theorem dX4_read_1 : decode cX4_read 1 = .ok (.istore_n 3, 1) := by decide +kernel
theorem dX4_read_2 : decode cX4_read 2 = .ok (.iload_n 3, 1) := by decide +kernel
theorem dX4_read_3 : decode cX4_read 3 = .ok (.aload_n 0, 1) := by decide +kernel
theorem dX4_read_4 : decode cX4_read 4 = .ok (.getfield 11, 3) := by decide +kernel
theorem dX4_read_7 : decode cX4_read 7 = .ok (.arraylength, 1) := by decide +kernel
theorem dX4_read_8 : decode cX4_read 8 = .ok (.if_icmp .ge 47, 3) := by decide +kernel
theorem dX4_read_11 : decode cX4_read 11 = .ok (.iload_n 3, 1) := by decide +kernel
theorem dX4_read_12 : decode cX4_read 12 = .ok (.ifCond .eq 12, 3) := by decide +kernel
theorem dX4_read_15 : decode cX4_read 15 = .ok (.aload_n 1, 1) := by decide +kernel
theorem dX4_read_16 : decode cX4_read 16 = .ok (.ldc 17, 2) := by decide +kernel
theorem dX4_read_18 : decode cX4_read 18 = .ok (.invokevirtual 19, 3) := by decide +kernel
theorem dX4_read_21 : decode cX4_read 21 = .ok (.ifCond .ne 34, 3) := by decide +kernel
theorem dX4_read_24 : decode cX4_read 24 = .ok (.aload_n 1, 1) := by decide +kernel
theorem dX4_read_25 : decode cX4_read 25 = .ok (.iload_n 2, 1) := by decide +kernel
theorem dX4_read_26 : decode cX4_read 26 = .ok (.invokestatic 23, 3) := by decide +kernel
theorem dX4_read_29 : decode cX4_read 29 = .ok (.istore 4, 2) := by decide +kernel
theorem dX4_read_31 : decode cX4_read 31 = .ok (.iload 4, 2) := by decide +kernel
theorem dX4_read_33 : decode cX4_read 33 = .ok (.ifCond .ge 8, 3) := by decide +kernel
theorem dX4_read_36 : decode cX4_read 36 = .ok (.aload_n 1, 1) := by decide +kernel
theorem dX4_read_37 : decode cX4_read 37 = .ok (.invokevirtual 27, 3) := by decide +kernel
theorem dX4_read_40 : decode cX4_read 40 = .ok (.ireturn, 1) := by decide +kernel
theorem dX4_read_41 : decode cX4_read 41 = .ok (.aload_n 0, 1) := by decide +kernel
theorem dX4_read_42 : decode cX4_read 42 = .ok (.getfield 11, 3) := by decide +kernel
theorem dX4_read_45 : decode cX4_read 45 = .ok (.iload_n 3, 1) := by decide +kernel
theorem dX4_read_46 : decode cX4_read 46 = .ok (.iload 4, 2) := by decide +kernel
theorem dX4_read_48 : decode cX4_read 48 = .ok (.iastore, 1) := by decide +kernel
theorem dX4_read_49 : decode cX4_read 49 = .ok (.iinc 3 1, 3) := by decide +kernel
theorem dX4_read_52 : decode cX4_read 52 = .ok (.goto (-50), 3) := by decide +kernel
theorem dX4_read_55 : decode cX4_read 55 = .ok (.aload_n 1, 1) := by decide +kernel
theorem dX4_read_56 : decode cX4_read 56 = .ok (.invokevirtual 31, 3) := by decide +kernel
theorem dX4_read_59 : decode cX4_read 59 = .ok (.ifCond .eq 7, 3) := by decide +kernel
theorem dX4_read_62 : decode cX4_read 62 = .ok (.iload_n 3, 1) := by decide +kernel
theorem dX4_read_63 : decode cX4_read 63 = .ok (.goto 7, 3) := by decide +kernel
theorem dX4_read_66 : decode cX4_read 66 = .ok (.aload_n 1, 1) := by decide +kernel
theorem dX4_read_67 : decode cX4_read 67 = .ok (.invokevirtual 27, 3) := by decide +kernel
theorem dX4_read_70 : decode cX4_read 70 = .ok (.ireturn, 1) := by decide +kernel
theorem dX4_readAct_0 : decode cX4_readAct 0 = .ok (.aload_n 0, 1) := by decide +kernel
theorem dX4_readAct_1 : decode cX4_readAct 1 = .ok (.ldc 35, 2) := by decide +kernel
theorem dX4_readAct_3 : decode cX4_readAct 3 = .ok (.invokevirtual 19, 3) := by decide +kernel
theorem dX4_readAct_6 : decode cX4_readAct 6 = .ok (.istore_n 2, 1) := by decide +kernel
theorem dX4_readAct_7 : decode cX4_readAct 7 = .ok (.iload_n 2, 1) := by decide +kernel
theorem dX4_readAct_8 : decode cX4_readAct 8 = .ok (.ifCond .ge 5, 3) := by decide +kernel
theorem dX4_readAct_11 : decode cX4_readAct 11 = .ok (.iconst (-1), 1) := by decide +kernel
theorem dX4_readAct_12 : decode cX4_readAct 12 = .ok (.ireturn, 1) := by decide +kernel
theorem dX4_readAct_13 : decode cX4_readAct 13 = .ok (.iload_n 2, 1) := by decide +kernel
theorem dX4_readAct_14 : decode cX4_readAct 14 = .ok (.iconst 1, 1) := by decide +kernel
theorem dX4_readAct_15 : decode cX4_readAct 15 = .ok (.if_icmp .ne 54, 3) := by decide +kernel
theorem dX4_readAct_18 : decode cX4_readAct 18 = .ok (.aload_n 0, 1) := by decide +kernel
theorem dX4_readAct_19 : decode cX4_readAct 19 = .ok (.ldc 39, 2) := by decide +kernel
theorem dX4_readAct_21 : decode cX4_readAct 21 = .ok (.iload_n 1, 1) := by decide +kernel
theorem dX4_readAct_22 : decode cX4_readAct 22 = .ok (.iconst (-1), 1) := by decide +kernel
theorem dX4_readAct_23 : decode cX4_readAct 23 = .ok (.invokevirtual 41, 3) := by decide +kernel
theorem dX4_readAct_26 : decode cX4_readAct 26 = .ok (.istore_n 3, 1) := by decide +kernel
theorem dX4_readAct_27 : decode cX4_readAct 27 = .ok (.iload_n 3, 1) := by decide +kernel
theorem dX4_readAct_28 : decode cX4_readAct 28 = .ok (.ifCond .lt 21, 3) := by decide +kernel
theorem dX4_readAct_31 : decode cX4_readAct 31 = .ok (.aload_n 0, 1) := by decide +kernel
theorem dX4_readAct_32 : decode cX4_readAct 32 = .ok (.ldc 44, 2) := by decide +kernel
theorem dX4_readAct_34 : decode cX4_readAct 34 = .ok (.invokevirtual 19, 3) := by decide +kernel
theorem dX4_readAct_37 : decode cX4_readAct 37 = .ok (.ifCond .ne 12, 3) := by decide +kernel
theorem dX4_readAct_40 : decode cX4_readAct 40 = .ok (.aload_n 0, 1) := by decide +kernel
theorem dX4_readAct_41 : decode cX4_readAct 41 = .ok (.ldc 46, 2) := by decide +kernel
theorem dX4_readAct_43 : decode cX4_readAct 43 = .ok (.invokevirtual 19, 3) := by decide +kernel
theorem dX4_readAct_46 : decode cX4_readAct 46 = .ok (.goto 4, 3) := by decide +kernel
theorem dX4_readAct_49 : decode cX4_readAct 49 = .ok (.iconst (-1), 1) := by decide +kernel
theorem dX4_readAct_50 : decode cX4_readAct 50 = .ok (.istore 4, 2) := by decide +kernel
theorem dX4_readAct_52 : decode cX4_readAct 52 = .ok (.iload 4, 2) := by decide +kernel
theorem dX4_readAct_54 : decode cX4_readAct 54 = .ok (.ifCond .ge 7, 3) := by decide +kernel
theorem dX4_readAct_57 : decode cX4_readAct 57 = .ok (.iconst (-1), 1) := by decide +kernel
theorem dX4_readAct_58 : decode cX4_readAct 58 = .ok (.goto 10, 3) := by decide +kernel
theorem dX4_readAct_61 : decode cX4_readAct 61 = .ok (.iload_n 2, 1) := by decide +kernel
theorem dX4_readAct_62 : decode cX4_readAct 62 = .ok (.iload 4, 2) := by decide +kernel
theorem dX4_readAct_64 : decode cX4_readAct 64 = .ok (.iload_n 3, 1) := by decide +kernel
theorem dX4_readAct_65 : decode cX4_readAct 65 = .ok (.invokestatic 48, 3) := by decide +kernel
theorem dX4_readAct_68 : decode cX4_readAct 68 = .ok (.ireturn, 1) := by decide +kernel
theorem dX4_readAct_69 : decode cX4_readAct 69 = .ok (.aload_n 0, 1) := by decide +kernel
theorem dX4_readAct_70 : decode cX4_readAct 70 = .ok (.ldc 46, 2) := by decide +kernel
theorem dX4_readAct_72 : decode cX4_readAct 72 = .ok (.invokevirtual 19, 3) := by decide +kernel
theorem dX4_readAct_75 : decode cX4_readAct 75 = .ok (.istore_n 3, 1) := by decide +kernel
theorem dX4_readAct_76 : decode cX4_readAct 76 = .ok (.iload_n 3, 1) := by decide +kernel
theorem dX4_readAct_77 : decode cX4_readAct 77 = .ok (.ifCond .lt 7, 3) := by decide +kernel
theorem dX4_readAct_80 : decode cX4_readAct 80 = .ok (.iload_n 2, 1) := by decide +kernel
theorem dX4_readAct_81 : decode cX4_readAct 81 = .ok (.ifCond .ne 18, 3) := by decide +kernel
theorem dX4_readAct_84 : decode cX4_readAct 84 = .ok (.iload_n 3, 1) := by decide +kernel
theorem dX4_readAct_85 : decode cX4_readAct 85 = .ok (.ifCond .ge 7, 3) := by decide +kernel
theorem dX4_readAct_88 : decode cX4_readAct 88 = .ok (.iconst (-1), 1) := by decide +kernel
theorem dX4_readAct_89 : decode cX4_readAct 89 = .ok (.goto 9, 3) := by decide +kernel
theorem dX4_readAct_92 : decode cX4_readAct 92 = .ok (.iload_n 2, 1) := by decide +kernel
theorem dX4_readAct_93 : decode cX4_readAct 93 = .ok (.iload_n 3, 1) := by decide +kernel
theorem dX4_readAct_94 : decode cX4_readAct 94 = .ok (.iconst 0, 1) := by decide +kernel
theorem dX4_readAct_95 : decode cX4_readAct 95 = .ok (.invokestatic 48, 3) := by decide +kernel
theorem dX4_readAct_98 : decode cX4_readAct 98 = .ok (.ireturn, 1) := by decide +kernel
theorem dX4_readAct_99 : decode cX4_readAct 99 = .ok (.iconst (-1), 1) := by decide +kernel
theorem dX4_readAct_100 : decode cX4_readAct 100 = .ok (.istore 4, 2) := by decide +kernel
theorem dX4_readAct_102 : decode cX4_readAct 102 = .ok (.iload_n 2, 1) := by decide +kernel
theorem dX4_readAct_103 : decode cX4_readAct 103 = .ok (.iconst 2, 1) := by decide +kernel
theorem dX4_readAct_104 : decode cX4_readAct 104 = .ok (.if_icmp .ne 29, 3) := by decide +kernel
theorem dX4_readAct_107 : decode cX4_readAct 107 = .ok (.aload_n 0, 1) := by decide +kernel
theorem dX4_readAct_108 : decode cX4_readAct 108 = .ok (.ldc 52, 2) := by decide +kernel
theorem dX4_readAct_110 : decode cX4_readAct 110 = .ok (.invokevirtual 19, 3) := by decide +kernel
theorem dX4_readAct_113 : decode cX4_readAct 113 = .ok (.ifCond .ne 14, 3) := by decide +kernel
theorem dX4_readAct_116 : decode cX4_readAct 116 = .ok (.aload_n 0, 1) := by decide +kernel
theorem dX4_readAct_117 : decode cX4_readAct 117 = .ok (.ldc 39, 2) := by decide +kernel
theorem dX4_readAct_119 : decode cX4_readAct 119 = .ok (.iload_n 1, 1) := by decide +kernel
theorem dX4_readAct_120 : decode cX4_readAct 120 = .ok (.iconst (-1), 1) := by decide +kernel
theorem dX4_readAct_121 : decode cX4_readAct 121 = .ok (.invokevirtual 41, 3) := by decide +kernel
theorem dX4_readAct_124 : decode cX4_readAct 124 = .ok (.goto 4, 3) := by decide +kernel
theorem dX4_readAct_127 : decode cX4_readAct 127 = .ok (.iconst (-1), 1) := by decide +kernel
theorem dX4_readAct_128 : decode cX4_readAct 128 = .ok (.istore 4, 2) := by decide +kernel
theorem dX4_readAct_130 : decode cX4_readAct 130 = .ok (.goto 27, 3) := by decide +kernel
theorem dX4_readAct_133 : decode cX4_readAct 133 = .ok (.aload_n 0, 1) := by decide +kernel
theorem dX4_readAct_134 : decode cX4_readAct 134 = .ok (.ldc 44, 2) := by decide +kernel
theorem dX4_readAct_136 : decode cX4_readAct 136 = .ok (.invokevirtual 19, 3) := by decide +kernel
theorem dX4_readAct_139 : decode cX4_readAct 139 = .ok (.ifCond .ne 15, 3) := by decide +kernel
theorem dX4_readAct_142 : decode cX4_readAct 142 = .ok (.aload_n 0, 1) := by decide +kernel
theorem dX4_readAct_143 : decode cX4_readAct 143 = .ok (.ldc 46, 2) := by decide +kernel
theorem dX4_readAct_145 : decode cX4_readAct 145 = .ok (.bipush 6, 2) := by decide +kernel
theorem dX4_readAct_147 : decode cX4_readAct 147 = .ok (.iload_n 3, 1) := by decide +kernel
theorem dX4_readAct_148 : decode cX4_readAct 148 = .ok (.invokevirtual 41, 3) := by decide +kernel
theorem dX4_readAct_151 : decode cX4_readAct 151 = .ok (.goto 4, 3) := by decide +kernel
theorem dX4_readAct_154 : decode cX4_readAct 154 = .ok (.iconst (-1), 1) := by decide +kernel
theorem dX4_readAct_155 : decode cX4_readAct 155 = .ok (.istore 4, 2) := by decide +kernel
theorem dX4_readAct_157 : decode cX4_readAct 157 = .ok (.iload 4, 2) := by decide +kernel
theorem dX4_readAct_159 : decode cX4_readAct 159 = .ok (.ifCond .ge 7, 3) := by decide +kernel
theorem dX4_readAct_162 : decode cX4_readAct 162 = .ok (.iconst (-1), 1) := by decide +kernel
theorem dX4_readAct_163 : decode cX4_readAct 163 = .ok (.goto 10, 3) := by decide +kernel
theorem dX4_readAct_166 : decode cX4_readAct 166 = .ok (.iload_n 2, 1) := by decide +kernel
theorem dX4_readAct_167 : decode cX4_readAct 167 = .ok (.iload_n 3, 1) := by decide +kernel
theorem dX4_readAct_168 : decode cX4_readAct 168 = .ok (.iload 4, 2) := by decide +kernel
theorem dX4_readAct_170 : decode cX4_readAct 170 = .ok (.invokestatic 48, 3) := by decide +kernel
theorem dX4_readAct_173 : decode cX4_readAct 173 = .ok (.ireturn, 1) := by decide +kernel
theorem dX4_act_0 : decode cX4_act 0 = .ok (.iconst 0, 1) := by decide +kernel
theorem dX4_act_1 : decode cX4_act 1 = .ok (.istore_n 3, 1) := by decide +kernel
theorem dX4_act_2 : decode cX4_act 2 = .ok (.iload_n 3, 1) := by decide +kernel
theorem dX4_act_3 : decode cX4_act 3 = .ok (.iload_n 2, 1) := by decide +kernel
theorem dX4_act_4 : decode cX4_act 4 = .ok (.if_icmp .ge 31, 3) := by decide +kernel
theorem dX4_act_7 : decode cX4_act 7 = .ok (.iload_n 3, 1) := by decide +kernel
theorem dX4_act_8 : decode cX4_act 8 = .ok (.aload_n 0, 1) := by decide +kernel
theorem dX4_act_9 : decode cX4_act 9 = .ok (.getfield 11, 3) := by decide +kernel
theorem dX4_act_12 : decode cX4_act 12 = .ok (.arraylength, 1) := by decide +kernel
theorem dX4_act_13 : decode cX4_act 13 = .ok (.if_icmp .ge 22, 3) := by decide +kernel
theorem dX4_act_16 : decode cX4_act 16 = .ok (.aload_n 1, 1) := by decide +kernel
theorem dX4_act_17 : decode cX4_act 17 = .ok (.aload_n 0, 1) := by decide +kernel
theorem dX4_act_18 : decode cX4_act 18 = .ok (.getfield 11, 3) := by decide +kernel
theorem dX4_act_21 : decode cX4_act 21 = .ok (.iload_n 3, 1) := by decide +kernel
theorem dX4_act_22 : decode cX4_act 22 = .ok (.iaload, 1) := by decide +kernel
theorem dX4_act_23 : decode cX4_act 23 = .ok (.invokevirtual 54, 3) := by decide +kernel
theorem dX4_act_26 : decode cX4_act 26 = .ok (.ifCond .ne 9, 3) := by decide +kernel
theorem dX4_act_29 : decode cX4_act 29 = .ok (.iinc 3 1, 3) := by decide +kernel
theorem dX4_act_32 : decode cX4_act 32 = .ok (.goto (-30), 3) := by decide +kernel
theorem dX4_act_35 : decode cX4_act 35 = .ok (.iload_n 3, 1) := by decide +kernel
theorem dX4_act_36 : decode cX4_act 36 = .ok (.ireturn, 1) := by decide +kernel
theorem dX5_init_0 : decode cX5_init 0 = .ok (.aload_n 0, 1) := by decide +kernel
theorem dX5_init_1 : decode cX5_init 1 = .ok (.invokespecial 3, 3) := by decide +kernel
theorem dX5_init_4 : decode cX5_init 4 = .ok (.aload_n 0, 1) := by decide +kernel
theorem dX5_init_5 : decode cX5_init 5 = .ok (.bipush 24, 2) := by decide +kernel
theorem dX5_init_7 : decode cX5_init 7 = .ok (.newarray .long, 2) := by decide +kernel
theorem dX5_init_9 : decode cX5_init 9 = .ok (.putfield 9, 3) := by decide +kernel
theorem dX5_init_12 : decode cX5_init 12 = .ok (.aload_n 0, 1) := by decide +kernel
theorem dX5_init_13 : decode cX5_init 13 = .ok (.iconst (-1), 1) := by decide +kernel
theorem dX5_init_14 : decode cX5_init 14 = .ok (.putfield 15, 3) := by decide +kernel
theorem dX5_init_17 : decode cX5_init 17 = .ok (.return_, 1) := by decide +kernel
theorem dX5_holdsRow_0 : decode cX5_holdsRow 0 = .ok (.aload_n 0, 1) := by decide +kernel
theorem dX5_holdsRow_1 : decode cX5_holdsRow 1 = .ok (.getfield 15, 3) := by decide +kernel
theorem dX5_holdsRow_4 : decode cX5_holdsRow 4 = .ok (.ifCond .lt 7, 3) := by decide +kernel
theorem dX5_holdsRow_7 : decode cX5_holdsRow 7 = .ok (.iconst 1, 1) := by decide +kernel
theorem dX5_holdsRow_8 : decode cX5_holdsRow 8 = .ok (.goto 4, 3) := by decide +kernel
theorem dX5_holdsRow_11 : decode cX5_holdsRow 11 = .ok (.iconst 0, 1) := by decide +kernel
theorem dX5_holdsRow_12 : decode cX5_holdsRow 12 = .ok (.ireturn, 1) := by decide +kernel
theorem dX5_isOfLane_0 : decode cX5_isOfLane 0 = .ok (.aload_n 0, 1) := by decide +kernel
theorem dX5_isOfLane_1 : decode cX5_isOfLane 1 = .ok (.getfield 19, 3) := by decide +kernel
theorem dX5_isOfLane_4 : decode cX5_isOfLane 4 = .ok (.aload_n 1, 1) := by decide +kernel
theorem dX5_isOfLane_5 : decode cX5_isOfLane 5 = .ok (.getfield 19, 3) := by decide +kernel
theorem dX5_isOfLane_8 : decode cX5_isOfLane 8 = .ok (.if_icmp .ne 7, 3) := by decide +kernel
theorem dX5_isOfLane_11 : decode cX5_isOfLane 11 = .ok (.iconst 1, 1) := by decide +kernel
theorem dX5_isOfLane_12 : decode cX5_isOfLane 12 = .ok (.goto 4, 3) := by decide +kernel
theorem dX5_isOfLane_15 : decode cX5_isOfLane 15 = .ok (.iconst 0, 1) := by decide +kernel
theorem dX5_isOfLane_16 : decode cX5_isOfLane 16 = .ok (.ireturn, 1) := by decide +kernel
theorem dX5_hasItems_0 : decode cX5_hasItems 0 = .ok (.iload_n 2, 1) := by decide +kernel
theorem dX5_hasItems_1 : decode cX5_hasItems 1 = .ok (.ifCond .lt 21, 3) := by decide +kernel
theorem dX5_hasItems_4 : decode cX5_hasItems 4 = .ok (.iload_n 1, 1) := by decide +kernel
theorem dX5_hasItems_5 : decode cX5_hasItems 5 = .ok (.ifCond .lt 17, 3) := by decide +kernel
theorem dX5_hasItems_8 : decode cX5_hasItems 8 = .ok (.iload_n 1, 1) := by decide +kernel
theorem dX5_hasItems_9 : decode cX5_hasItems 9 = .ok (.aload_n 0, 1) := by decide +kernel
theorem dX5_hasItems_10 : decode cX5_hasItems 10 = .ok (.getfield 15, 3) := by decide +kernel
theorem dX5_hasItems_13 : decode cX5_hasItems 13 = .ok (.iload_n 2, 1) := by decide +kernel
theorem dX5_hasItems_14 : decode cX5_hasItems 14 = .ok (.isub, 1) := by decide +kernel
theorem dX5_hasItems_15 : decode cX5_hasItems 15 = .ok (.if_icmp .gt 7, 3) := by decide +kernel
theorem dX5_hasItems_18 : decode cX5_hasItems 18 = .ok (.iconst 1, 1) := by decide +kernel
theorem dX5_hasItems_19 : decode cX5_hasItems 19 = .ok (.goto 4, 3) := by decide +kernel
theorem dX5_hasItems_22 : decode cX5_hasItems 22 = .ok (.iconst 0, 1) := by decide +kernel
theorem dX5_hasItems_23 : decode cX5_hasItems 23 = .ok (.ireturn, 1) := by decide +kernel
theorem dX5_refusal_0 : decode cX5_refusal 0 = .ok (.aload_n 0, 1) := by decide +kernel
theorem dX5_refusal_1 : decode cX5_refusal 1 = .ok (.invokevirtual 22, 3) := by decide +kernel
theorem dX5_refusal_4 : decode cX5_refusal 4 = .ok (.ifCond .ne 6, 3) := by decide +kernel
theorem dX5_refusal_7 : decode cX5_refusal 7 = .ok (.bipush (-11), 2) := by decide +kernel
theorem dX5_refusal_9 : decode cX5_refusal 9 = .ok (.ireturn, 1) := by decide +kernel
theorem dX5_refusal_10 : decode cX5_refusal 10 = .ok (.aload_n 0, 1) := by decide +kernel
theorem dX5_refusal_11 : decode cX5_refusal 11 = .ok (.getfield 19, 3) := by decide +kernel
theorem dX5_refusal_14 : decode cX5_refusal 14 = .ok (.iload_n 1, 1) := by decide +kernel
theorem dX5_refusal_15 : decode cX5_refusal 15 = .ok (.if_icmp .eq 6, 3) := by decide +kernel
theorem dX5_refusal_18 : decode cX5_refusal 18 = .ok (.bipush (-12), 2) := by decide +kernel
theorem dX5_refusal_20 : decode cX5_refusal 20 = .ok (.ireturn, 1) := by decide +kernel
theorem dX5_refusal_21 : decode cX5_refusal 21 = .ok (.aload_n 0, 1) := by decide +kernel
theorem dX5_refusal_22 : decode cX5_refusal 22 = .ok (.iload_n 2, 1) := by decide +kernel
theorem dX5_refusal_23 : decode cX5_refusal 23 = .ok (.iload_n 3, 1) := by decide +kernel
theorem dX5_refusal_24 : decode cX5_refusal 24 = .ok (.invokevirtual 26, 3) := by decide +kernel
theorem dX5_refusal_27 : decode cX5_refusal 27 = .ok (.ifCond .eq 7, 3) := by decide +kernel
theorem dX5_refusal_30 : decode cX5_refusal 30 = .ok (.iconst 0, 1) := by decide +kernel
theorem dX5_refusal_31 : decode cX5_refusal 31 = .ok (.goto 5, 3) := by decide +kernel
theorem dX5_refusal_34 : decode cX5_refusal 34 = .ok (.bipush (-13), 2) := by decide +kernel
theorem dX5_refusal_36 : decode cX5_refusal 36 = .ok (.ireturn, 1) := by decide +kernel
theorem dX5_renew_0 : decode cX5_renew 0 = .ok (.aload_n 0, 1) := by decide +kernel
theorem dX5_renew_1 : decode cX5_renew 1 = .ok (.iload_n 1, 1) := by decide +kernel
theorem dX5_renew_2 : decode cX5_renew 2 = .ok (.putfield 19, 3) := by decide +kernel
theorem dX5_renew_5 : decode cX5_renew 5 = .ok (.aload_n 0, 1) := by decide +kernel
theorem dX5_renew_6 : decode cX5_renew 6 = .ok (.iload_n 2, 1) := by decide +kernel
theorem dX5_renew_7 : decode cX5_renew 7 = .ok (.bipush 24, 2) := by decide +kernel
theorem dX5_renew_9 : decode cX5_renew 9 = .ok (.invokestatic 30, 3) := by decide +kernel
theorem dX5_renew_12 : decode cX5_renew 12 = .ok (.putfield 15, 3) := by decide +kernel
theorem dX5_renew_15 : decode cX5_renew 15 = .ok (.aload_n 0, 1) := by decide +kernel
theorem dX5_renew_16 : decode cX5_renew 16 = .ok (.getfield 9, 3) := by decide +kernel
theorem dX5_renew_19 : decode cX5_renew 19 = .ok (.lconst 0, 1) := by decide +kernel
theorem dX5_renew_20 : decode cX5_renew 20 = .ok (.invokestatic 36, 3) := by decide +kernel
theorem dX5_renew_23 : decode cX5_renew 23 = .ok (.return_, 1) := by decide +kernel
theorem dX5_clear_0 : decode cX5_clear 0 = .ok (.aload_n 0, 1) := by decide +kernel
theorem dX5_clear_1 : decode cX5_clear 1 = .ok (.getfield 15, 3) := by decide +kernel
theorem dX5_clear_4 : decode cX5_clear 4 = .ok (.istore_n 1, 1) := by decide +kernel
theorem dX5_clear_5 : decode cX5_clear 5 = .ok (.aload_n 0, 1) := by decide +kernel
theorem dX5_clear_6 : decode cX5_clear 6 = .ok (.iconst (-1), 1) := by decide +kernel
theorem dX5_clear_7 : decode cX5_clear 7 = .ok (.putfield 15, 3) := by decide +kernel
theorem dX5_clear_10 : decode cX5_clear 10 = .ok (.iload_n 1, 1) := by decide +kernel
theorem dX5_clear_11 : decode cX5_clear 11 = .ok (.ireturn, 1) := by decide +kernel
theorem dX5_itemAt_0 : decode cX5_itemAt 0 = .ok (.iload_n 1, 1) := by decide +kernel
theorem dX5_itemAt_1 : decode cX5_itemAt 1 = .ok (.ifCond .lt 18, 3) := by decide +kernel
theorem dX5_itemAt_4 : decode cX5_itemAt 4 = .ok (.iload_n 1, 1) := by decide +kernel
theorem dX5_itemAt_5 : decode cX5_itemAt 5 = .ok (.bipush 24, 2) := by decide +kernel
theorem dX5_itemAt_7 : decode cX5_itemAt 7 = .ok (.if_icmp .ge 12, 3) := by decide +kernel
theorem dX5_itemAt_10 : decode cX5_itemAt 10 = .ok (.aload_n 0, 1) := by decide +kernel
theorem dX5_itemAt_11 : decode cX5_itemAt 11 = .ok (.getfield 9, 3) := by decide +kernel
theorem dX5_itemAt_14 : decode cX5_itemAt 14 = .ok (.iload_n 1, 1) := by decide +kernel
theorem dX5_itemAt_15 : decode cX5_itemAt 15 = .ok (.laload, 1) := by decide +kernel
theorem dX5_itemAt_16 : decode cX5_itemAt 16 = .ok (.goto 4, 3) := by decide +kernel
theorem dX5_itemAt_19 : decode cX5_itemAt 19 = .ok (.lconst 0, 1) := by decide +kernel
theorem dX5_itemAt_20 : decode cX5_itemAt 20 = .ok (.lreturn, 1) := by decide +kernel
theorem dX5_becomeAt_0 : decode cX5_becomeAt 0 = .ok (.iload_n 1, 1) := by decide +kernel
theorem dX5_becomeAt_1 : decode cX5_becomeAt 1 = .ok (.ifCond .lt 9, 3) := by decide +kernel
theorem dX5_becomeAt_4 : decode cX5_becomeAt 4 = .ok (.iload_n 1, 1) := by decide +kernel
theorem dX5_becomeAt_5 : decode cX5_becomeAt 5 = .ok (.bipush 24, 2) := by decide +kernel
theorem dX5_becomeAt_7 : decode cX5_becomeAt 7 = .ok (.if_icmp .lt 4, 3) := by decide +kernel
theorem dX5_becomeAt_10 : decode cX5_becomeAt 10 = .ok (.return_, 1) := by decide +kernel
theorem dX5_becomeAt_11 : decode cX5_becomeAt 11 = .ok (.aload_n 0, 1) := by decide +kernel
theorem dX5_becomeAt_12 : decode cX5_becomeAt 12 = .ok (.getfield 19, 3) := by decide +kernel
theorem dX5_becomeAt_15 : decode cX5_becomeAt 15 = .ok (.lookupswitch 50 #[(0, 25), (1, 38)], 25) := by decide +kernel
theorem dX5_becomeAt_40 : decode cX5_becomeAt 40 = .ok (.aload_n 0, 1) := by decide +kernel
theorem dX5_becomeAt_41 : decode cX5_becomeAt 41 = .ok (.getfield 9, 3) := by decide +kernel
theorem dX5_becomeAt_44 : decode cX5_becomeAt 44 = .ok (.iload_n 1, 1) := by decide +kernel
theorem dX5_becomeAt_45 : decode cX5_becomeAt 45 = .ok (.lload_n 2, 1) := by decide +kernel
theorem dX5_becomeAt_46 : decode cX5_becomeAt 46 = .ok (.l2i, 1) := by decide +kernel
theorem dX5_becomeAt_47 : decode cX5_becomeAt 47 = .ok (.i2b, 1) := by decide +kernel
theorem dX5_becomeAt_48 : decode cX5_becomeAt 48 = .ok (.i2l, 1) := by decide +kernel
theorem dX5_becomeAt_49 : decode cX5_becomeAt 49 = .ok (.lastore, 1) := by decide +kernel
theorem dX5_becomeAt_50 : decode cX5_becomeAt 50 = .ok (.goto 22, 3) := by decide +kernel
theorem dX5_becomeAt_53 : decode cX5_becomeAt 53 = .ok (.aload_n 0, 1) := by decide +kernel
theorem dX5_becomeAt_54 : decode cX5_becomeAt 54 = .ok (.getfield 9, 3) := by decide +kernel
theorem dX5_becomeAt_57 : decode cX5_becomeAt 57 = .ok (.iload_n 1, 1) := by decide +kernel
theorem dX5_becomeAt_58 : decode cX5_becomeAt 58 = .ok (.lload_n 2, 1) := by decide +kernel
theorem dX5_becomeAt_59 : decode cX5_becomeAt 59 = .ok (.l2i, 1) := by decide +kernel
theorem dX5_becomeAt_60 : decode cX5_becomeAt 60 = .ok (.i2l, 1) := by decide +kernel
theorem dX5_becomeAt_61 : decode cX5_becomeAt 61 = .ok (.lastore, 1) := by decide +kernel
theorem dX5_becomeAt_62 : decode cX5_becomeAt 62 = .ok (.goto 10, 3) := by decide +kernel
theorem dX5_becomeAt_65 : decode cX5_becomeAt 65 = .ok (.aload_n 0, 1) := by decide +kernel
theorem dX5_becomeAt_66 : decode cX5_becomeAt 66 = .ok (.getfield 9, 3) := by decide +kernel
theorem dX5_becomeAt_69 : decode cX5_becomeAt 69 = .ok (.iload_n 1, 1) := by decide +kernel
theorem dX5_becomeAt_70 : decode cX5_becomeAt 70 = .ok (.lload_n 2, 1) := by decide +kernel
theorem dX5_becomeAt_71 : decode cX5_becomeAt 71 = .ok (.lastore, 1) := by decide +kernel
theorem dX5_becomeAt_72 : decode cX5_becomeAt 72 = .ok (.return_, 1) := by decide +kernel
theorem dX5_takeItems_0 : decode cX5_takeItems 0 = .ok (.aload_n 0, 1) := by decide +kernel
theorem dX5_takeItems_1 : decode cX5_takeItems 1 = .ok (.iload_n 1, 1) := by decide +kernel
theorem dX5_takeItems_2 : decode cX5_takeItems 2 = .ok (.iload 4, 2) := by decide +kernel
theorem dX5_takeItems_4 : decode cX5_takeItems 4 = .ok (.invokevirtual 26, 3) := by decide +kernel
theorem dX5_takeItems_7 : decode cX5_takeItems 7 = .ok (.ifCond .eq 28, 3) := by decide +kernel
theorem dX5_takeItems_10 : decode cX5_takeItems 10 = .ok (.aload_n 2, 1) := by decide +kernel
theorem dX5_takeItems_11 : decode cX5_takeItems 11 = .ok (.iload_n 3, 1) := by decide +kernel
theorem dX5_takeItems_12 : decode cX5_takeItems 12 = .ok (.iload 4, 2) := by decide +kernel
theorem dX5_takeItems_14 : decode cX5_takeItems 14 = .ok (.invokevirtual 26, 3) := by decide +kernel
theorem dX5_takeItems_17 : decode cX5_takeItems 17 = .ok (.ifCond .eq 18, 3) := by decide +kernel
theorem dX5_takeItems_20 : decode cX5_takeItems 20 = .ok (.aload_n 2, 1) := by decide +kernel
theorem dX5_takeItems_21 : decode cX5_takeItems 21 = .ok (.getfield 9, 3) := by decide +kernel
theorem dX5_takeItems_24 : decode cX5_takeItems 24 = .ok (.iload_n 3, 1) := by decide +kernel
theorem dX5_takeItems_25 : decode cX5_takeItems 25 = .ok (.aload_n 0, 1) := by decide +kernel
theorem dX5_takeItems_26 : decode cX5_takeItems 26 = .ok (.getfield 9, 3) := by decide +kernel
theorem dX5_takeItems_29 : decode cX5_takeItems 29 = .ok (.iload_n 1, 1) := by decide +kernel
theorem dX5_takeItems_30 : decode cX5_takeItems 30 = .ok (.iload 4, 2) := by decide +kernel
theorem dX5_takeItems_32 : decode cX5_takeItems 32 = .ok (.invokestatic 42, 3) := by decide +kernel
theorem dX5_takeItems_35 : decode cX5_takeItems 35 = .ok (.return_, 1) := by decide +kernel
theorem dX6_init_0 : decode cX6_init 0 = .ok (.aload_n 0, 1) := by decide +kernel
theorem dX6_init_1 : decode cX6_init 1 = .ok (.invokespecial 3, 3) := by decide +kernel
theorem dX6_init_4 : decode cX6_init 4 = .ok (.aload_n 0, 1) := by decide +kernel
theorem dX6_init_5 : decode cX6_init 5 = .ok (.bipush 120, 2) := by decide +kernel
theorem dX6_init_7 : decode cX6_init 7 = .ok (.newarray .char, 2) := by decide +kernel
theorem dX6_init_9 : decode cX6_init 9 = .ok (.putfield 11, 3) := by decide +kernel
theorem dX6_init_12 : decode cX6_init 12 = .ok (.return_, 1) := by decide +kernel
theorem dX6_append_0 : decode cX6_append 0 = .ok (.iload_n 3, 1) := by decide +kernel
theorem dX6_append_1 : decode cX6_append 1 = .ok (.iconst 1, 1) := by decide +kernel
theorem dX6_append_2 : decode cX6_append 2 = .ok (.bipush 8, 2) := by decide +kernel
theorem dX6_append_4 : decode cX6_append 4 = .ok (.invokestatic 15, 3) := by decide +kernel
theorem dX6_append_7 : decode cX6_append 7 = .ok (.ifCond .ne 5, 3) := by decide +kernel
theorem dX6_append_10 : decode cX6_append 10 = .ok (.iconst (-1), 1) := by decide +kernel
theorem dX6_append_11 : decode cX6_append 11 = .ok (.ireturn, 1) := by decide +kernel
theorem dX6_append_12 : decode cX6_append 12 = .ok (.iconst 0, 1) := by decide +kernel
theorem dX6_append_13 : decode cX6_append 13 = .ok (.istore 4, 2) := by decide +kernel
theorem dX6_append_15 : decode cX6_append 15 = .ok (.iload 4, 2) := by decide +kernel
theorem dX6_append_17 : decode cX6_append 17 = .ok (.iload_n 3, 1) := by decide +kernel
theorem dX6_append_18 : decode cX6_append 18 = .ok (.if_icmp .ge 27, 3) := by decide +kernel
theorem dX6_append_21 : decode cX6_append 21 = .ok (.lload_n 1, 1) := by decide +kernel
theorem dX6_append_22 : decode cX6_append 22 = .ok (.iload 4, 2) := by decide +kernel
theorem dX6_append_24 : decode cX6_append 24 = .ok (.invokestatic 19, 3) := by decide +kernel
theorem dX6_append_27 : decode cX6_append 27 = .ok (.bipush 32, 2) := by decide +kernel
theorem dX6_append_29 : decode cX6_append 29 = .ok (.bipush 126, 2) := by decide +kernel
theorem dX6_append_31 : decode cX6_append 31 = .ok (.invokestatic 15, 3) := by decide +kernel
theorem dX6_append_34 : decode cX6_append 34 = .ok (.ifCond .ne 5, 3) := by decide +kernel
theorem dX6_append_37 : decode cX6_append 37 = .ok (.iconst (-1), 1) := by decide +kernel
theorem dX6_append_38 : decode cX6_append 38 = .ok (.ireturn, 1) := by decide +kernel
theorem dX6_append_39 : decode cX6_append 39 = .ok (.iinc 4 1, 3) := by decide +kernel
theorem dX6_append_42 : decode cX6_append 42 = .ok (.goto (-27), 3) := by decide +kernel
theorem dX6_append_45 : decode cX6_append 45 = .ok (.aload_n 0, 1) := by decide +kernel
theorem dX6_append_46 : decode cX6_append 46 = .ok (.getfield 23, 3) := by decide +kernel
theorem dX6_append_49 : decode cX6_append 49 = .ok (.bipush 120, 2) := by decide +kernel
theorem dX6_append_51 : decode cX6_append 51 = .ok (.iload_n 3, 1) := by decide +kernel
theorem dX6_append_52 : decode cX6_append 52 = .ok (.isub, 1) := by decide +kernel
theorem dX6_append_53 : decode cX6_append 53 = .ok (.if_icmp .le 6, 3) := by decide +kernel
theorem dX6_append_56 : decode cX6_append 56 = .ok (.bipush (-3), 2) := by decide +kernel
theorem dX6_append_58 : decode cX6_append 58 = .ok (.ireturn, 1) := by decide +kernel
theorem dX6_append_59 : decode cX6_append 59 = .ok (.iload_n 3, 1) := by decide +kernel
theorem dX6_append_60 : decode cX6_append 60 = .ok (.iconst 1, 1) := by decide +kernel
theorem dX6_append_61 : decode cX6_append 61 = .ok (.isub, 1) := by decide +kernel
theorem dX6_append_62 : decode cX6_append 62 = .ok (.istore 4, 2) := by decide +kernel
theorem dX6_append_64 : decode cX6_append 64 = .ok (.iload 4, 2) := by decide +kernel
theorem dX6_append_66 : decode cX6_append 66 = .ok (.ifCond .lt 44, 3) := by decide +kernel
theorem dX6_append_69 : decode cX6_append 69 = .ok (.aload_n 0, 1) := by decide +kernel
theorem dX6_append_70 : decode cX6_append 70 = .ok (.getfield 23, 3) := by decide +kernel
theorem dX6_append_73 : decode cX6_append 73 = .ok (.bipush 120, 2) := by decide +kernel
theorem dX6_append_75 : decode cX6_append 75 = .ok (.if_icmp .ge 35, 3) := by decide +kernel
theorem dX6_append_78 : decode cX6_append 78 = .ok (.aload_n 0, 1) := by decide +kernel
theorem dX6_append_79 : decode cX6_append 79 = .ok (.getfield 11, 3) := by decide +kernel
theorem dX6_append_82 : decode cX6_append 82 = .ok (.aload_n 0, 1) := by decide +kernel
theorem dX6_append_83 : decode cX6_append 83 = .ok (.getfield 23, 3) := by decide +kernel
theorem dX6_append_86 : decode cX6_append 86 = .ok (.lload_n 1, 1) := by decide +kernel
theorem dX6_append_87 : decode cX6_append 87 = .ok (.iload 4, 2) := by decide +kernel
theorem dX6_append_89 : decode cX6_append 89 = .ok (.invokestatic 19, 3) := by decide +kernel
theorem dX6_append_92 : decode cX6_append 92 = .ok (.i2c, 1) := by decide +kernel
theorem dX6_append_93 : decode cX6_append 93 = .ok (.castore, 1) := by decide +kernel
theorem dX6_append_94 : decode cX6_append 94 = .ok (.aload_n 0, 1) := by decide +kernel
theorem dX6_append_95 : decode cX6_append 95 = .ok (.dup, 1) := by decide +kernel
theorem dX6_append_96 : decode cX6_append 96 = .ok (.getfield 23, 3) := by decide +kernel
theorem dX6_append_99 : decode cX6_append 99 = .ok (.iconst 1, 1) := by decide +kernel
theorem dX6_append_100 : decode cX6_append 100 = .ok (.iadd, 1) := by decide +kernel
theorem dX6_append_101 : decode cX6_append 101 = .ok (.putfield 23, 3) := by decide +kernel
theorem dX6_append_104 : decode cX6_append 104 = .ok (.iinc 4 (-1), 3) := by decide +kernel
theorem dX6_append_107 : decode cX6_append 107 = .ok (.goto (-43), 3) := by decide +kernel
theorem dX6_append_110 : decode cX6_append 110 = .ok (.aload_n 0, 1) := by decide +kernel
theorem dX6_append_111 : decode cX6_append 111 = .ok (.getfield 23, 3) := by decide +kernel
theorem dX6_append_114 : decode cX6_append 114 = .ok (.ireturn, 1) := by decide +kernel
theorem dX6_byteOf_0 : decode cX6_byteOf 0 = .ok (.lload_n 0, 1) := by decide +kernel
theorem dX6_byteOf_1 : decode cX6_byteOf 1 = .ok (.bipush 8, 2) := by decide +kernel
theorem dX6_byteOf_3 : decode cX6_byteOf 3 = .ok (.iload_n 2, 1) := by decide +kernel
theorem dX6_byteOf_4 : decode cX6_byteOf 4 = .ok (.imul, 1) := by decide +kernel
theorem dX6_byteOf_5 : decode cX6_byteOf 5 = .ok (.lshr, 1) := by decide +kernel
theorem dX6_byteOf_6 : decode cX6_byteOf 6 = .ok (.ldc2_w 27, 3) := by decide +kernel
theorem dX6_byteOf_9 : decode cX6_byteOf 9 = .ok (.land, 1) := by decide +kernel
theorem dX6_byteOf_10 : decode cX6_byteOf 10 = .ok (.l2i, 1) := by decide +kernel
theorem dX6_byteOf_11 : decode cX6_byteOf 11 = .ok (.ireturn, 1) := by decide +kernel
theorem dX6_empty_0 : decode cX6_empty 0 = .ok (.aload_n 0, 1) := by decide +kernel
theorem dX6_empty_1 : decode cX6_empty 1 = .ok (.iconst 0, 1) := by decide +kernel
theorem dX6_empty_2 : decode cX6_empty 2 = .ok (.putfield 23, 3) := by decide +kernel
theorem dX6_empty_5 : decode cX6_empty 5 = .ok (.aload_n 0, 1) := by decide +kernel
theorem dX6_empty_6 : decode cX6_empty 6 = .ok (.iconst 0, 1) := by decide +kernel
theorem dX6_empty_7 : decode cX6_empty 7 = .ok (.putfield 29, 3) := by decide +kernel
theorem dX6_empty_10 : decode cX6_empty 10 = .ok (.return_, 1) := by decide +kernel
theorem dX6_fault_0 : decode cX6_fault 0 = .ok (.bipush (-20), 2) := by decide +kernel
theorem dX6_fault_2 : decode cX6_fault 2 = .ok (.aload_n 0, 1) := by decide +kernel
theorem dX6_fault_3 : decode cX6_fault 3 = .ok (.getfield 29, 3) := by decide +kernel
theorem dX6_fault_6 : decode cX6_fault 6 = .ok (.isub, 1) := by decide +kernel
theorem dX6_fault_7 : decode cX6_fault 7 = .ok (.ireturn, 1) := by decide +kernel
theorem dX6_isAtEnd_0 : decode cX6_isAtEnd 0 = .ok (.aload_n 0, 1) := by decide +kernel
theorem dX6_isAtEnd_1 : decode cX6_isAtEnd 1 = .ok (.invokevirtual 32, 3) := by decide +kernel
theorem dX6_isAtEnd_4 : decode cX6_isAtEnd 4 = .ok (.aload_n 0, 1) := by decide +kernel
theorem dX6_isAtEnd_5 : decode cX6_isAtEnd 5 = .ok (.getfield 29, 3) := by decide +kernel
theorem dX6_isAtEnd_8 : decode cX6_isAtEnd 8 = .ok (.aload_n 0, 1) := by decide +kernel
theorem dX6_isAtEnd_9 : decode cX6_isAtEnd 9 = .ok (.getfield 23, 3) := by decide +kernel
theorem dX6_isAtEnd_12 : decode cX6_isAtEnd 12 = .ok (.if_icmp .lt 7, 3) := by decide +kernel
theorem dX6_isAtEnd_15 : decode cX6_isAtEnd 15 = .ok (.iconst 1, 1) := by decide +kernel
theorem dX6_isAtEnd_16 : decode cX6_isAtEnd 16 = .ok (.goto 4, 3) := by decide +kernel
theorem dX6_isAtEnd_19 : decode cX6_isAtEnd 19 = .ok (.iconst 0, 1) := by decide +kernel
theorem dX6_isAtEnd_20 : decode cX6_isAtEnd 20 = .ok (.ireturn, 1) := by decide +kernel
theorem dX6_skipBlanks_0 : decode cX6_skipBlanks 0 = .ok (.aload_n 0, 1) := by decide +kernel
theorem dX6_skipBlanks_1 : decode cX6_skipBlanks 1 = .ok (.getfield 29, 3) := by decide +kernel
theorem dX6_skipBlanks_4 : decode cX6_skipBlanks 4 = .ok (.aload_n 0, 1) := by decide +kernel
theorem dX6_skipBlanks_5 : decode cX6_skipBlanks 5 = .ok (.getfield 23, 3) := by decide +kernel
theorem dX6_skipBlanks_8 : decode cX6_skipBlanks 8 = .ok (.if_icmp .ge 39, 3) := by decide +kernel
theorem dX6_skipBlanks_11 : decode cX6_skipBlanks 11 = .ok (.aload_n 0, 1) := by decide +kernel
theorem dX6_skipBlanks_12 : decode cX6_skipBlanks 12 = .ok (.getfield 29, 3) := by decide +kernel
theorem dX6_skipBlanks_15 : decode cX6_skipBlanks 15 = .ok (.bipush 120, 2) := by decide +kernel
theorem dX6_skipBlanks_17 : decode cX6_skipBlanks 17 = .ok (.if_icmp .ge 30, 3) := by decide +kernel
theorem dX6_skipBlanks_20 : decode cX6_skipBlanks 20 = .ok (.aload_n 0, 1) := by decide +kernel
theorem dX6_skipBlanks_21 : decode cX6_skipBlanks 21 = .ok (.getfield 11, 3) := by decide +kernel
theorem dX6_skipBlanks_24 : decode cX6_skipBlanks 24 = .ok (.aload_n 0, 1) := by decide +kernel
theorem dX6_skipBlanks_25 : decode cX6_skipBlanks 25 = .ok (.getfield 29, 3) := by decide +kernel
theorem dX6_skipBlanks_28 : decode cX6_skipBlanks 28 = .ok (.caload, 1) := by decide +kernel
theorem dX6_skipBlanks_29 : decode cX6_skipBlanks 29 = .ok (.bipush 32, 2) := by decide +kernel
theorem dX6_skipBlanks_31 : decode cX6_skipBlanks 31 = .ok (.if_icmp .ne 16, 3) := by decide +kernel
theorem dX6_skipBlanks_34 : decode cX6_skipBlanks 34 = .ok (.aload_n 0, 1) := by decide +kernel
theorem dX6_skipBlanks_35 : decode cX6_skipBlanks 35 = .ok (.dup, 1) := by decide +kernel
theorem dX6_skipBlanks_36 : decode cX6_skipBlanks 36 = .ok (.getfield 29, 3) := by decide +kernel
theorem dX6_skipBlanks_39 : decode cX6_skipBlanks 39 = .ok (.iconst 1, 1) := by decide +kernel
theorem dX6_skipBlanks_40 : decode cX6_skipBlanks 40 = .ok (.iadd, 1) := by decide +kernel
theorem dX6_skipBlanks_41 : decode cX6_skipBlanks 41 = .ok (.putfield 29, 3) := by decide +kernel
theorem dX6_skipBlanks_44 : decode cX6_skipBlanks 44 = .ok (.goto (-44), 3) := by decide +kernel
theorem dX6_skipBlanks_47 : decode cX6_skipBlanks 47 = .ok (.return_, 1) := by decide +kernel
theorem dX6_choice_0 : decode cX6_choice 0 = .ok (.aload_n 0, 1) := by decide +kernel
theorem dX6_choice_1 : decode cX6_choice 1 = .ok (.aload_n 1, 1) := by decide +kernel
theorem dX6_choice_2 : decode cX6_choice 2 = .ok (.aload_n 1, 1) := by decide +kernel
theorem dX6_choice_3 : decode cX6_choice 3 = .ok (.invokevirtual 35, 3) := by decide +kernel
theorem dX6_choice_6 : decode cX6_choice 6 = .ok (.iconst (-1), 1) := by decide +kernel
theorem dX6_choice_7 : decode cX6_choice 7 = .ok (.invokevirtual 40, 3) := by decide +kernel
theorem dX6_choice_10 : decode cX6_choice 10 = .ok (.ireturn, 1) := by decide +kernel
theorem dX6_choice__0 : decode cX6_choice_ 0 = .ok (.aload_n 0, 1) := by decide +kernel
theorem dX6_choice__1 : decode cX6_choice_ 1 = .ok (.invokevirtual 32, 3) := by decide +kernel
theorem dX6_choice__4 : decode cX6_choice_ 4 = .ok (.aload_n 0, 1) := by decide +kernel
theorem dX6_choice__5 : decode cX6_choice_ 5 = .ok (.getfield 29, 3) := by decide +kernel
theorem dX6_choice__8 : decode cX6_choice_ 8 = .ok (.aload_n 0, 1) := by decide +kernel
theorem dX6_choice__9 : decode cX6_choice_ 9 = .ok (.getfield 23, 3) := by decide +kernel
theorem dX6_choice__12 : decode cX6_choice_ 12 = .ok (.if_icmp .ge 12, 3) := by decide +kernel
theorem dX6_choice__15 : decode cX6_choice_ 15 = .ok (.aload_n 0, 1) := by decide +kernel
theorem dX6_choice__16 : decode cX6_choice_ 16 = .ok (.getfield 29, 3) := by decide +kernel
theorem dX6_choice__19 : decode cX6_choice_ 19 = .ok (.bipush 120, 2) := by decide +kernel
theorem dX6_choice__21 : decode cX6_choice_ 21 = .ok (.if_icmp .lt 5, 3) := by decide +kernel
theorem dX6_choice__24 : decode cX6_choice_ 24 = .ok (.iconst (-1), 1) := by decide +kernel
theorem dX6_choice__25 : decode cX6_choice_ 25 = .ok (.ireturn, 1) := by decide +kernel
theorem dX6_choice__26 : decode cX6_choice_ 26 = .ok (.aload_n 1, 1) := by decide +kernel
theorem dX6_choice__27 : decode cX6_choice_ 27 = .ok (.aload_n 0, 1) := by decide +kernel
theorem dX6_choice__28 : decode cX6_choice_ 28 = .ok (.getfield 11, 3) := by decide +kernel
theorem dX6_choice__31 : decode cX6_choice_ 31 = .ok (.aload_n 0, 1) := by decide +kernel
theorem dX6_choice__32 : decode cX6_choice_ 32 = .ok (.getfield 29, 3) := by decide +kernel
theorem dX6_choice__35 : decode cX6_choice_ 35 = .ok (.caload, 1) := by decide +kernel
theorem dX6_choice__36 : decode cX6_choice_ 36 = .ok (.invokevirtual 44, 3) := by decide +kernel
theorem dX6_choice__39 : decode cX6_choice_ 39 = .ok (.istore 4, 2) := by decide +kernel
theorem dX6_choice__41 : decode cX6_choice_ 41 = .ok (.iload 4, 2) := by decide +kernel
theorem dX6_choice__43 : decode cX6_choice_ 43 = .ok (.ifCond .lt 15, 3) := by decide +kernel
theorem dX6_choice__46 : decode cX6_choice_ 46 = .ok (.iload 4, 2) := by decide +kernel
theorem dX6_choice__48 : decode cX6_choice_ 48 = .ok (.iload_n 2, 1) := by decide +kernel
theorem dX6_choice__49 : decode cX6_choice_ 49 = .ok (.if_icmp .ge 9, 3) := by decide +kernel
theorem dX6_choice__52 : decode cX6_choice_ 52 = .ok (.iload 4, 2) := by decide +kernel
theorem dX6_choice__54 : decode cX6_choice_ 54 = .ok (.iload_n 3, 1) := by decide +kernel
theorem dX6_choice__55 : decode cX6_choice_ 55 = .ok (.if_icmp .ne 5, 3) := by decide +kernel
theorem dX6_choice__58 : decode cX6_choice_ 58 = .ok (.iconst (-1), 1) := by decide +kernel
theorem dX6_choice__59 : decode cX6_choice_ 59 = .ok (.ireturn, 1) := by decide +kernel
theorem dX6_choice__60 : decode cX6_choice_ 60 = .ok (.aload_n 0, 1) := by decide +kernel
theorem dX6_choice__61 : decode cX6_choice_ 61 = .ok (.dup, 1) := by decide +kernel
theorem dX6_choice__62 : decode cX6_choice_ 62 = .ok (.getfield 29, 3) := by decide +kernel
theorem dX6_choice__65 : decode cX6_choice_ 65 = .ok (.iconst 1, 1) := by decide +kernel
theorem dX6_choice__66 : decode cX6_choice_ 66 = .ok (.iadd, 1) := by decide +kernel
theorem dX6_choice__67 : decode cX6_choice_ 67 = .ok (.putfield 29, 3) := by decide +kernel
theorem dX6_choice__70 : decode cX6_choice_ 70 = .ok (.iload 4, 2) := by decide +kernel
theorem dX6_choice__72 : decode cX6_choice_ 72 = .ok (.ireturn, 1) := by decide +kernel
theorem dX6_number_0 : decode cX6_number 0 = .ok (.aload_n 0, 1) := by decide +kernel
theorem dX6_number_1 : decode cX6_number 1 = .ok (.invokevirtual 32, 3) := by decide +kernel
theorem dX6_number_4 : decode cX6_number 4 = .ok (.aload_n 0, 1) := by decide +kernel
theorem dX6_number_5 : decode cX6_number 5 = .ok (.getfield 29, 3) := by decide +kernel
theorem dX6_number_8 : decode cX6_number 8 = .ok (.istore_n 1, 1) := by decide +kernel
theorem dX6_number_9 : decode cX6_number 9 = .ok (.iconst 0, 1) := by decide +kernel
theorem dX6_number_10 : decode cX6_number 10 = .ok (.istore_n 2, 1) := by decide +kernel
theorem dX6_number_11 : decode cX6_number 11 = .ok (.aload_n 0, 1) := by decide +kernel
theorem dX6_number_12 : decode cX6_number 12 = .ok (.getfield 29, 3) := by decide +kernel
theorem dX6_number_15 : decode cX6_number 15 = .ok (.aload_n 0, 1) := by decide +kernel
theorem dX6_number_16 : decode cX6_number 16 = .ok (.getfield 23, 3) := by decide +kernel
theorem dX6_number_19 : decode cX6_number 19 = .ok (.if_icmp .ge 67, 3) := by decide +kernel
theorem dX6_number_22 : decode cX6_number 22 = .ok (.aload_n 0, 1) := by decide +kernel
theorem dX6_number_23 : decode cX6_number 23 = .ok (.getfield 29, 3) := by decide +kernel
theorem dX6_number_26 : decode cX6_number 26 = .ok (.bipush 120, 2) := by decide +kernel
theorem dX6_number_28 : decode cX6_number 28 = .ok (.if_icmp .ge 58, 3) := by decide +kernel
theorem dX6_number_31 : decode cX6_number 31 = .ok (.aload_n 0, 1) := by decide +kernel
theorem dX6_number_32 : decode cX6_number 32 = .ok (.getfield 11, 3) := by decide +kernel
theorem dX6_number_35 : decode cX6_number 35 = .ok (.aload_n 0, 1) := by decide +kernel
theorem dX6_number_36 : decode cX6_number 36 = .ok (.getfield 29, 3) := by decide +kernel
theorem dX6_number_39 : decode cX6_number 39 = .ok (.caload, 1) := by decide +kernel
theorem dX6_number_40 : decode cX6_number 40 = .ok (.bipush 48, 2) := by decide +kernel
theorem dX6_number_42 : decode cX6_number 42 = .ok (.bipush 57, 2) := by decide +kernel
theorem dX6_number_44 : decode cX6_number 44 = .ok (.invokestatic 15, 3) := by decide +kernel
theorem dX6_number_47 : decode cX6_number 47 = .ok (.ifCond .eq 39, 3) := by decide +kernel
theorem dX6_number_50 : decode cX6_number 50 = .ok (.iload_n 2, 1) := by decide +kernel
theorem dX6_number_51 : decode cX6_number 51 = .ok (.bipush 10, 2) := by decide +kernel
theorem dX6_number_53 : decode cX6_number 53 = .ok (.imul, 1) := by decide +kernel
theorem dX6_number_54 : decode cX6_number 54 = .ok (.aload_n 0, 1) := by decide +kernel
theorem dX6_number_55 : decode cX6_number 55 = .ok (.getfield 11, 3) := by decide +kernel
theorem dX6_number_58 : decode cX6_number 58 = .ok (.aload_n 0, 1) := by decide +kernel
theorem dX6_number_59 : decode cX6_number 59 = .ok (.getfield 29, 3) := by decide +kernel
theorem dX6_number_62 : decode cX6_number 62 = .ok (.caload, 1) := by decide +kernel
theorem dX6_number_63 : decode cX6_number 63 = .ok (.iadd, 1) := by decide +kernel
theorem dX6_number_64 : decode cX6_number 64 = .ok (.bipush 48, 2) := by decide +kernel
theorem dX6_number_66 : decode cX6_number 66 = .ok (.isub, 1) := by decide +kernel
theorem dX6_number_67 : decode cX6_number 67 = .ok (.bipush 100, 2) := by decide +kernel
theorem dX6_number_69 : decode cX6_number 69 = .ok (.invokestatic 48, 3) := by decide +kernel
theorem dX6_number_72 : decode cX6_number 72 = .ok (.istore_n 2, 1) := by decide +kernel
theorem dX6_number_73 : decode cX6_number 73 = .ok (.aload_n 0, 1) := by decide +kernel
theorem dX6_number_74 : decode cX6_number 74 = .ok (.dup, 1) := by decide +kernel
theorem dX6_number_75 : decode cX6_number 75 = .ok (.getfield 29, 3) := by decide +kernel
theorem dX6_number_78 : decode cX6_number 78 = .ok (.iconst 1, 1) := by decide +kernel
theorem dX6_number_79 : decode cX6_number 79 = .ok (.iadd, 1) := by decide +kernel
theorem dX6_number_80 : decode cX6_number 80 = .ok (.putfield 29, 3) := by decide +kernel
theorem dX6_number_83 : decode cX6_number 83 = .ok (.goto (-72), 3) := by decide +kernel
theorem dX6_number_86 : decode cX6_number 86 = .ok (.iload_n 2, 1) := by decide +kernel
theorem dX6_number_87 : decode cX6_number 87 = .ok (.iconst 1, 1) := by decide +kernel
theorem dX6_number_88 : decode cX6_number 88 = .ok (.bipush 99, 2) := by decide +kernel
theorem dX6_number_90 : decode cX6_number 90 = .ok (.invokestatic 15, 3) := by decide +kernel
theorem dX6_number_93 : decode cX6_number 93 = .ok (.ifCond .eq 5, 3) := by decide +kernel
theorem dX6_number_96 : decode cX6_number 96 = .ok (.iload_n 2, 1) := by decide +kernel
theorem dX6_number_97 : decode cX6_number 97 = .ok (.ireturn, 1) := by decide +kernel
theorem dX6_number_98 : decode cX6_number 98 = .ok (.aload_n 0, 1) := by decide +kernel
theorem dX6_number_99 : decode cX6_number 99 = .ok (.iload_n 1, 1) := by decide +kernel
theorem dX6_number_100 : decode cX6_number 100 = .ok (.putfield 29, 3) := by decide +kernel
theorem dX6_number_103 : decode cX6_number 103 = .ok (.iconst (-1), 1) := by decide +kernel
theorem dX6_number_104 : decode cX6_number 104 = .ok (.ireturn, 1) := by decide +kernel
theorem dX7_init_0 : decode cX7_init 0 = .ok (.aload_n 0, 1) := by decide +kernel
theorem dX7_init_1 : decode cX7_init 1 = .ok (.invokespecial 3, 3) := by decide +kernel
theorem dX7_init_4 : decode cX7_init 4 = .ok (.aload_n 0, 1) := by decide +kernel
theorem dX7_init_5 : decode cX7_init 5 = .ok (.iconst 3, 1) := by decide +kernel
theorem dX7_init_6 : decode cX7_init 6 = .ok (.newarray .int, 2) := by decide +kernel
theorem dX7_init_8 : decode cX7_init 8 = .ok (.putfield 11, 3) := by decide +kernel
theorem dX7_init_11 : decode cX7_init 11 = .ok (.return_, 1) := by decide +kernel
theorem dX7_fewestActs_0 : decode cX7_fewestActs 0 = .ok (.aload_n 1, 1) := by decide +kernel
theorem dX7_fewestActs_1 : decode cX7_fewestActs 1 = .ok (.iload_n 2, 1) := by decide +kernel
theorem dX7_fewestActs_2 : decode cX7_fewestActs 2 = .ok (.invokevirtual 15, 3) := by decide +kernel
theorem dX7_fewestActs_5 : decode cX7_fewestActs 5 = .ok (.bipush 6, 2) := by decide +kernel
theorem dX7_fewestActs_7 : decode cX7_fewestActs 7 = .ok (.if_icmp .ne 5, 3) := by decide +kernel
theorem dX7_fewestActs_10 : decode cX7_fewestActs 10 = .ok (.iconst 0, 1) := by decide +kernel
theorem dX7_fewestActs_11 : decode cX7_fewestActs 11 = .ok (.ireturn, 1) := by decide +kernel
theorem dX7_fewestActs_12 : decode cX7_fewestActs 12 = .ok (.iconst 1, 1) := by decide +kernel
theorem dX7_fewestActs_13 : decode cX7_fewestActs 13 = .ok (.istore_n 3, 1) := by decide +kernel
theorem dX7_fewestActs_14 : decode cX7_fewestActs 14 = .ok (.iload_n 3, 1) := by decide +kernel
theorem dX7_fewestActs_15 : decode cX7_fewestActs 15 = .ok (.iconst 3, 1) := by decide +kernel
theorem dX7_fewestActs_16 : decode cX7_fewestActs 16 = .ok (.if_icmp .gt 25, 3) := by decide +kernel
theorem dX7_fewestActs_19 : decode cX7_fewestActs 19 = .ok (.aload_n 1, 1) := by decide +kernel
theorem dX7_fewestActs_20 : decode cX7_fewestActs 20 = .ok (.iload_n 2, 1) := by decide +kernel
theorem dX7_fewestActs_21 : decode cX7_fewestActs 21 = .ok (.aload_n 0, 1) := by decide +kernel
theorem dX7_fewestActs_22 : decode cX7_fewestActs 22 = .ok (.getfield 11, 3) := by decide +kernel
theorem dX7_fewestActs_25 : decode cX7_fewestActs 25 = .ok (.iconst 0, 1) := by decide +kernel
theorem dX7_fewestActs_26 : decode cX7_fewestActs 26 = .ok (.iload_n 3, 1) := by decide +kernel
theorem dX7_fewestActs_27 : decode cX7_fewestActs 27 = .ok (.invokestatic 21, 3) := by decide +kernel
theorem dX7_fewestActs_30 : decode cX7_fewestActs 30 = .ok (.ifCond .eq 5, 3) := by decide +kernel
theorem dX7_fewestActs_33 : decode cX7_fewestActs 33 = .ok (.iload_n 3, 1) := by decide +kernel
theorem dX7_fewestActs_34 : decode cX7_fewestActs 34 = .ok (.ireturn, 1) := by decide +kernel
theorem dX7_fewestActs_35 : decode cX7_fewestActs 35 = .ok (.iinc 3 1, 3) := by decide +kernel
theorem dX7_fewestActs_38 : decode cX7_fewestActs 38 = .ok (.goto (-24), 3) := by decide +kernel
theorem dX7_fewestActs_41 : decode cX7_fewestActs 41 = .ok (.bipush (-4), 2) := by decide +kernel
theorem dX7_fewestActs_43 : decode cX7_fewestActs 43 = .ok (.ireturn, 1) := by decide +kernel
theorem dX7_codeAt_0 : decode cX7_codeAt 0 = .ok (.iload_n 1, 1) := by decide +kernel
theorem dX7_codeAt_1 : decode cX7_codeAt 1 = .ok (.ifCond .lt 21, 3) := by decide +kernel
theorem dX7_codeAt_4 : decode cX7_codeAt 4 = .ok (.iload_n 1, 1) := by decide +kernel
theorem dX7_codeAt_5 : decode cX7_codeAt 5 = .ok (.aload_n 0, 1) := by decide +kernel
theorem dX7_codeAt_6 : decode cX7_codeAt 6 = .ok (.getfield 11, 3) := by decide +kernel
theorem dX7_codeAt_9 : decode cX7_codeAt 9 = .ok (.arraylength, 1) := by decide +kernel
theorem dX7_codeAt_10 : decode cX7_codeAt 10 = .ok (.if_icmp .ge 12, 3) := by decide +kernel
theorem dX7_codeAt_13 : decode cX7_codeAt 13 = .ok (.aload_n 0, 1) := by decide +kernel
theorem dX7_codeAt_14 : decode cX7_codeAt 14 = .ok (.getfield 11, 3) := by decide +kernel
theorem dX7_codeAt_17 : decode cX7_codeAt 17 = .ok (.iload_n 1, 1) := by decide +kernel
theorem dX7_codeAt_18 : decode cX7_codeAt 18 = .ok (.iaload, 1) := by decide +kernel
theorem dX7_codeAt_19 : decode cX7_codeAt 19 = .ok (.goto 5, 3) := by decide +kernel
theorem dX7_codeAt_22 : decode cX7_codeAt 22 = .ok (.bipush (-4), 2) := by decide +kernel
theorem dX7_codeAt_24 : decode cX7_codeAt 24 = .ok (.ireturn, 1) := by decide +kernel
theorem dX7_search_0 : decode cX7_search 0 = .ok (.iload_n 3, 1) := by decide +kernel
theorem dX7_search_1 : decode cX7_search 1 = .ok (.ifCond .lt 21, 3) := by decide +kernel
theorem dX7_search_4 : decode cX7_search 4 = .ok (.iload_n 3, 1) := by decide +kernel
theorem dX7_search_5 : decode cX7_search 5 = .ok (.aload_n 2, 1) := by decide +kernel
theorem dX7_search_6 : decode cX7_search 6 = .ok (.arraylength, 1) := by decide +kernel
theorem dX7_search_7 : decode cX7_search 7 = .ok (.if_icmp .ge 15, 3) := by decide +kernel
theorem dX7_search_10 : decode cX7_search 10 = .ok (.aload_n 0, 1) := by decide +kernel
theorem dX7_search_11 : decode cX7_search 11 = .ok (.iload_n 1, 1) := by decide +kernel
theorem dX7_search_12 : decode cX7_search 12 = .ok (.invokevirtual 25, 3) := by decide +kernel
theorem dX7_search_15 : decode cX7_search 15 = .ok (.iload 4, 2) := by decide +kernel
theorem dX7_search_17 : decode cX7_search 17 = .ok (.iload_n 3, 1) := by decide +kernel
theorem dX7_search_18 : decode cX7_search 18 = .ok (.isub, 1) := by decide +kernel
theorem dX7_search_19 : decode cX7_search 19 = .ok (.if_icmp .lt 5, 3) := by decide +kernel
theorem dX7_search_22 : decode cX7_search 22 = .ok (.iconst 0, 1) := by decide +kernel
theorem dX7_search_23 : decode cX7_search 23 = .ok (.ireturn, 1) := by decide +kernel
theorem dX7_search_24 : decode cX7_search 24 = .ok (.aload_n 0, 1) := by decide +kernel
theorem dX7_search_25 : decode cX7_search 25 = .ok (.iload_n 1, 1) := by decide +kernel
theorem dX7_search_26 : decode cX7_search 26 = .ok (.invokevirtual 15, 3) := by decide +kernel
theorem dX7_search_29 : decode cX7_search 29 = .ok (.istore 5, 2) := by decide +kernel
theorem dX7_search_31 : decode cX7_search 31 = .ok (.iconst 0, 1) := by decide +kernel
theorem dX7_search_32 : decode cX7_search 32 = .ok (.istore 6, 2) := by decide +kernel
theorem dX7_search_34 : decode cX7_search 34 = .ok (.iload 6, 2) := by decide +kernel
theorem dX7_search_36 : decode cX7_search 36 = .ok (.iconst 3, 1) := by decide +kernel
theorem dX7_search_37 : decode cX7_search 37 = .ok (.if_icmp .gt 128, 3) := by decide +kernel
theorem dX7_search_40 : decode cX7_search 40 = .ok (.iconst 0, 1) := by decide +kernel
theorem dX7_search_41 : decode cX7_search 41 = .ok (.istore 7, 2) := by decide +kernel
theorem dX7_search_43 : decode cX7_search 43 = .ok (.iload 7, 2) := by decide +kernel
theorem dX7_search_45 : decode cX7_search 45 = .ok (.bipush 6, 2) := by decide +kernel
theorem dX7_search_47 : decode cX7_search 47 = .ok (.if_icmp .ge 112, 3) := by decide +kernel
theorem dX7_search_50 : decode cX7_search 50 = .ok (.iload 6, 2) := by decide +kernel
theorem dX7_search_52 : decode cX7_search 52 = .ok (.iload 7, 2) := by decide +kernel
theorem dX7_search_54 : decode cX7_search 54 = .ok (.iload 5, 2) := by decide +kernel
theorem dX7_search_56 : decode cX7_search 56 = .ok (.if_icmp .ne 7, 3) := by decide +kernel
theorem dX7_search_59 : decode cX7_search 59 = .ok (.iconst 1, 1) := by decide +kernel
theorem dX7_search_60 : decode cX7_search 60 = .ok (.goto 4, 3) := by decide +kernel
theorem dX7_search_63 : decode cX7_search 63 = .ok (.iconst 0, 1) := by decide +kernel
theorem dX7_search_64 : decode cX7_search 64 = .ok (.iload 4, 2) := by decide +kernel
theorem dX7_search_66 : decode cX7_search 66 = .ok (.iload_n 3, 1) := by decide +kernel
theorem dX7_search_67 : decode cX7_search 67 = .ok (.isub, 1) := by decide +kernel
theorem dX7_search_68 : decode cX7_search 68 = .ok (.invokestatic 30, 3) := by decide +kernel
theorem dX7_search_71 : decode cX7_search 71 = .ok (.ifCond .eq 12, 3) := by decide +kernel
theorem dX7_search_74 : decode cX7_search 74 = .ok (.aload_n 0, 1) := by decide +kernel
theorem dX7_search_75 : decode cX7_search 75 = .ok (.iload 6, 2) := by decide +kernel
theorem dX7_search_77 : decode cX7_search 77 = .ok (.invokestatic 34, 3) := by decide +kernel
theorem dX7_search_80 : decode cX7_search 80 = .ok (.goto 4, 3) := by decide +kernel
theorem dX7_search_83 : decode cX7_search 83 = .ok (.iconst 0, 1) := by decide +kernel
theorem dX7_search_84 : decode cX7_search 84 = .ok (.istore 8, 2) := by decide +kernel
theorem dX7_search_86 : decode cX7_search 86 = .ok (.iconst 0, 1) := by decide +kernel
theorem dX7_search_87 : decode cX7_search 87 = .ok (.istore 9, 2) := by decide +kernel
theorem dX7_search_89 : decode cX7_search 89 = .ok (.iload 9, 2) := by decide +kernel
theorem dX7_search_91 : decode cX7_search 91 = .ok (.iload 8, 2) := by decide +kernel
theorem dX7_search_93 : decode cX7_search 93 = .ok (.if_icmp .ge 60, 3) := by decide +kernel
theorem dX7_search_96 : decode cX7_search 96 = .ok (.iload 6, 2) := by decide +kernel
theorem dX7_search_98 : decode cX7_search 98 = .ok (.iconst 3, 1) := by decide +kernel
theorem dX7_search_99 : decode cX7_search 99 = .ok (.if_icmp .ne 10, 3) := by decide +kernel
theorem dX7_search_102 : decode cX7_search 102 = .ok (.iload 9, 2) := by decide +kernel
theorem dX7_search_104 : decode cX7_search 104 = .ok (.iload 7, 2) := by decide +kernel
theorem dX7_search_106 : decode cX7_search 106 = .ok (.if_icmp .eq 7, 3) := by decide +kernel
theorem dX7_search_109 : decode cX7_search 109 = .ok (.iconst 1, 1) := by decide +kernel
theorem dX7_search_110 : decode cX7_search 110 = .ok (.goto 4, 3) := by decide +kernel
theorem dX7_search_113 : decode cX7_search 113 = .ok (.iconst 0, 1) := by decide +kernel
theorem dX7_search_114 : decode cX7_search 114 = .ok (.istore 10, 2) := by decide +kernel
theorem dX7_search_116 : decode cX7_search 116 = .ok (.aload_n 2, 1) := by decide +kernel
theorem dX7_search_117 : decode cX7_search 117 = .ok (.iload_n 3, 1) := by decide +kernel
theorem dX7_search_118 : decode cX7_search 118 = .ok (.iload 6, 2) := by decide +kernel
theorem dX7_search_120 : decode cX7_search 120 = .ok (.iload 7, 2) := by decide +kernel
theorem dX7_search_122 : decode cX7_search 122 = .ok (.iload 9, 2) := by decide +kernel
theorem dX7_search_124 : decode cX7_search 124 = .ok (.invokestatic 38, 3) := by decide +kernel
theorem dX7_search_127 : decode cX7_search 127 = .ok (.iastore, 1) := by decide +kernel
theorem dX7_search_128 : decode cX7_search 128 = .ok (.iload 10, 2) := by decide +kernel
theorem dX7_search_130 : decode cX7_search 130 = .ok (.ifCond .eq 17, 3) := by decide +kernel
theorem dX7_search_133 : decode cX7_search 133 = .ok (.aload_n 0, 1) := by decide +kernel
theorem dX7_search_134 : decode cX7_search 134 = .ok (.iload_n 1, 1) := by decide +kernel
theorem dX7_search_135 : decode cX7_search 135 = .ok (.aload_n 2, 1) := by decide +kernel
theorem dX7_search_136 : decode cX7_search 136 = .ok (.iload_n 3, 1) := by decide +kernel
theorem dX7_search_137 : decode cX7_search 137 = .ok (.iload 4, 2) := by decide +kernel
theorem dX7_search_139 : decode cX7_search 139 = .ok (.invokestatic 42, 3) := by decide +kernel
theorem dX7_search_142 : decode cX7_search 142 = .ok (.ifCond .eq 5, 3) := by decide +kernel
theorem dX7_search_145 : decode cX7_search 145 = .ok (.iconst 1, 1) := by decide +kernel
theorem dX7_search_146 : decode cX7_search 146 = .ok (.ireturn, 1) := by decide +kernel
theorem dX7_search_147 : decode cX7_search 147 = .ok (.iinc 9 1, 3) := by decide +kernel
theorem dX7_search_150 : decode cX7_search 150 = .ok (.goto (-61), 3) := by decide +kernel
theorem dX7_search_153 : decode cX7_search 153 = .ok (.iinc 7 1, 3) := by decide +kernel
theorem dX7_search_156 : decode cX7_search 156 = .ok (.goto (-113), 3) := by decide +kernel
theorem dX7_search_159 : decode cX7_search 159 = .ok (.iinc 6 1, 3) := by decide +kernel
theorem dX7_search_162 : decode cX7_search 162 = .ok (.goto (-128), 3) := by decide +kernel
theorem dX7_search_165 : decode cX7_search 165 = .ok (.iconst 0, 1) := by decide +kernel
theorem dX7_search_166 : decode cX7_search 166 = .ok (.ireturn, 1) := by decide +kernel
theorem dX7_canHelp_0 : decode cX7_canHelp 0 = .ok (.iload_n 2, 1) := by decide +kernel
theorem dX7_canHelp_1 : decode cX7_canHelp 1 = .ok (.iconst 1, 1) := by decide +kernel
theorem dX7_canHelp_2 : decode cX7_canHelp 2 = .ok (.if_icmp .ne 22, 3) := by decide +kernel
theorem dX7_canHelp_5 : decode cX7_canHelp 5 = .ok (.iload_n 1, 1) := by decide +kernel
theorem dX7_canHelp_6 : decode cX7_canHelp 6 = .ok (.ifCond .eq 16, 3) := by decide +kernel
theorem dX7_canHelp_9 : decode cX7_canHelp 9 = .ok (.iload_n 0, 1) := by decide +kernel
theorem dX7_canHelp_10 : decode cX7_canHelp 10 = .ok (.ifCond .eq 8, 3) := by decide +kernel
theorem dX7_canHelp_13 : decode cX7_canHelp 13 = .ok (.iload_n 0, 1) := by decide +kernel
theorem dX7_canHelp_14 : decode cX7_canHelp 14 = .ok (.iconst 2, 1) := by decide +kernel
theorem dX7_canHelp_15 : decode cX7_canHelp 15 = .ok (.if_icmp .ne 7, 3) := by decide +kernel
theorem dX7_canHelp_18 : decode cX7_canHelp 18 = .ok (.iconst 1, 1) := by decide +kernel
theorem dX7_canHelp_19 : decode cX7_canHelp 19 = .ok (.goto 4, 3) := by decide +kernel
theorem dX7_canHelp_22 : decode cX7_canHelp 22 = .ok (.iconst 0, 1) := by decide +kernel
theorem dX7_canHelp_23 : decode cX7_canHelp 23 = .ok (.ireturn, 1) := by decide +kernel
theorem dX7_canHelp_24 : decode cX7_canHelp 24 = .ok (.iload_n 2, 1) := by decide +kernel
theorem dX7_canHelp_25 : decode cX7_canHelp 25 = .ok (.iconst 2, 1) := by decide +kernel
theorem dX7_canHelp_26 : decode cX7_canHelp 26 = .ok (.if_icmp .gt 21, 3) := by decide +kernel
theorem dX7_canHelp_29 : decode cX7_canHelp 29 = .ok (.iload_n 0, 1) := by decide +kernel
theorem dX7_canHelp_30 : decode cX7_canHelp 30 = .ok (.ifCond .eq 17, 3) := by decide +kernel
theorem dX7_canHelp_33 : decode cX7_canHelp 33 = .ok (.iload_n 0, 1) := by decide +kernel
theorem dX7_canHelp_34 : decode cX7_canHelp 34 = .ok (.iconst 2, 1) := by decide +kernel
theorem dX7_canHelp_35 : decode cX7_canHelp 35 = .ok (.if_icmp .eq 12, 3) := by decide +kernel
theorem dX7_canHelp_38 : decode cX7_canHelp 38 = .ok (.iload_n 0, 1) := by decide +kernel
theorem dX7_canHelp_39 : decode cX7_canHelp 39 = .ok (.iconst 3, 1) := by decide +kernel
theorem dX7_canHelp_40 : decode cX7_canHelp 40 = .ok (.if_icmp .ne 11, 3) := by decide +kernel
theorem dX7_canHelp_43 : decode cX7_canHelp 43 = .ok (.iload_n 1, 1) := by decide +kernel
theorem dX7_canHelp_44 : decode cX7_canHelp 44 = .ok (.ifCond .eq 7, 3) := by decide +kernel
theorem dX7_canHelp_47 : decode cX7_canHelp 47 = .ok (.iconst 1, 1) := by decide +kernel
theorem dX7_canHelp_48 : decode cX7_canHelp 48 = .ok (.goto 4, 3) := by decide +kernel
theorem dX7_canHelp_51 : decode cX7_canHelp 51 = .ok (.iconst 0, 1) := by decide +kernel
theorem dX7_canHelp_52 : decode cX7_canHelp 52 = .ok (.ireturn, 1) := by decide +kernel
theorem dX7_othersOf_0 : decode cX7_othersOf 0 = .ok (.iload_n 1, 1) := by decide +kernel
theorem dX7_othersOf_1 : decode cX7_othersOf 1 = .ok (.ifCond .ne 5, 3) := by decide +kernel
theorem dX7_othersOf_4 : decode cX7_othersOf 4 = .ok (.iconst 1, 1) := by decide +kernel
theorem dX7_othersOf_5 : decode cX7_othersOf 5 = .ok (.ireturn, 1) := by decide +kernel
theorem dX7_othersOf_6 : decode cX7_othersOf 6 = .ok (.iload_n 1, 1) := by decide +kernel
theorem dX7_othersOf_7 : decode cX7_othersOf 7 = .ok (.iconst 3, 1) := by decide +kernel
theorem dX7_othersOf_8 : decode cX7_othersOf 8 = .ok (.if_icmp .ne 8, 3) := by decide +kernel
theorem dX7_othersOf_11 : decode cX7_othersOf 11 = .ok (.bipush 6, 2) := by decide +kernel
theorem dX7_othersOf_13 : decode cX7_othersOf 13 = .ok (.goto 7, 3) := by decide +kernel
theorem dX7_othersOf_16 : decode cX7_othersOf 16 = .ok (.aload_n 0, 1) := by decide +kernel
theorem dX7_othersOf_17 : decode cX7_othersOf 17 = .ok (.invokevirtual 45, 3) := by decide +kernel
theorem dX7_othersOf_20 : decode cX7_othersOf 20 = .ok (.ireturn, 1) := by decide +kernel
theorem dX7_leads_0 : decode cX7_leads 0 = .ok (.iload_n 3, 1) := by decide +kernel
theorem dX7_leads_1 : decode cX7_leads 1 = .ok (.ifCond .lt 9, 3) := by decide +kernel
theorem dX7_leads_4 : decode cX7_leads 4 = .ok (.iload_n 3, 1) := by decide +kernel
theorem dX7_leads_5 : decode cX7_leads 5 = .ok (.aload_n 2, 1) := by decide +kernel
theorem dX7_leads_6 : decode cX7_leads 6 = .ok (.arraylength, 1) := by decide +kernel
theorem dX7_leads_7 : decode cX7_leads 7 = .ok (.if_icmp .lt 5, 3) := by decide +kernel
theorem dX7_leads_10 : decode cX7_leads 10 = .ok (.iconst 0, 1) := by decide +kernel
theorem dX7_leads_11 : decode cX7_leads 11 = .ok (.ireturn, 1) := by decide +kernel
theorem dX7_leads_12 : decode cX7_leads 12 = .ok (.aload_n 2, 1) := by decide +kernel
theorem dX7_leads_13 : decode cX7_leads 13 = .ok (.iload_n 3, 1) := by decide +kernel
theorem dX7_leads_14 : decode cX7_leads 14 = .ok (.iaload, 1) := by decide +kernel
theorem dX7_leads_15 : decode cX7_leads 15 = .ok (.istore 5, 2) := by decide +kernel
theorem dX7_leads_17 : decode cX7_leads 17 = .ok (.aload_n 0, 1) := by decide +kernel
theorem dX7_leads_18 : decode cX7_leads 18 = .ok (.iload 5, 2) := by decide +kernel
theorem dX7_leads_20 : decode cX7_leads 20 = .ok (.invokevirtual 49, 3) := by decide +kernel
theorem dX7_leads_23 : decode cX7_leads 23 = .ok (.ifCond .eq 12, 3) := by decide +kernel
theorem dX7_leads_26 : decode cX7_leads 26 = .ok (.aload_n 0, 1) := by decide +kernel
theorem dX7_leads_27 : decode cX7_leads 27 = .ok (.iload 5, 2) := by decide +kernel
theorem dX7_leads_29 : decode cX7_leads 29 = .ok (.invokevirtual 53, 3) := by decide +kernel
theorem dX7_leads_32 : decode cX7_leads 32 = .ok (.ifCond .eq 5, 3) := by decide +kernel
theorem dX7_leads_35 : decode cX7_leads 35 = .ok (.iconst 0, 1) := by decide +kernel
theorem dX7_leads_36 : decode cX7_leads 36 = .ok (.ireturn, 1) := by decide +kernel
theorem dX7_leads_37 : decode cX7_leads 37 = .ok (.iload_n 3, 1) := by decide +kernel
theorem dX7_leads_38 : decode cX7_leads 38 = .ok (.iconst 1, 1) := by decide +kernel
theorem dX7_leads_39 : decode cX7_leads 39 = .ok (.iadd, 1) := by decide +kernel
theorem dX7_leads_40 : decode cX7_leads 40 = .ok (.iload 4, 2) := by decide +kernel
theorem dX7_leads_42 : decode cX7_leads 42 = .ok (.if_icmp .ne 5, 3) := by decide +kernel
theorem dX7_leads_45 : decode cX7_leads 45 = .ok (.iconst 1, 1) := by decide +kernel
theorem dX7_leads_46 : decode cX7_leads 46 = .ok (.ireturn, 1) := by decide +kernel
theorem dX7_leads_47 : decode cX7_leads 47 = .ok (.aload_n 0, 1) := by decide +kernel
theorem dX7_leads_48 : decode cX7_leads 48 = .ok (.iload 5, 2) := by decide +kernel
theorem dX7_leads_50 : decode cX7_leads 50 = .ok (.invokestatic 56, 3) := by decide +kernel
theorem dX7_leads_53 : decode cX7_leads 53 = .ok (.invokevirtual 59, 3) := by decide +kernel
theorem dX7_leads_56 : decode cX7_leads 56 = .ok (.istore 6, 2) := by decide +kernel
theorem dX7_leads_58 : decode cX7_leads 58 = .ok (.aload_n 0, 1) := by decide +kernel
theorem dX7_leads_59 : decode cX7_leads 59 = .ok (.iload 5, 2) := by decide +kernel
theorem dX7_leads_61 : decode cX7_leads 61 = .ok (.invokevirtual 62, 3) := by decide +kernel
theorem dX7_leads_64 : decode cX7_leads 64 = .ok (.aload_n 0, 1) := by decide +kernel
theorem dX7_leads_65 : decode cX7_leads 65 = .ok (.iload_n 1, 1) := by decide +kernel
theorem dX7_leads_66 : decode cX7_leads 66 = .ok (.aload_n 2, 1) := by decide +kernel
theorem dX7_leads_67 : decode cX7_leads 67 = .ok (.iload_n 3, 1) := by decide +kernel
theorem dX7_leads_68 : decode cX7_leads 68 = .ok (.iconst 1, 1) := by decide +kernel
theorem dX7_leads_69 : decode cX7_leads 69 = .ok (.iadd, 1) := by decide +kernel
theorem dX7_leads_70 : decode cX7_leads 70 = .ok (.iload 4, 2) := by decide +kernel
theorem dX7_leads_72 : decode cX7_leads 72 = .ok (.invokestatic 21, 3) := by decide +kernel
theorem dX7_leads_75 : decode cX7_leads 75 = .ok (.istore 7, 2) := by decide +kernel
theorem dX7_leads_77 : decode cX7_leads 77 = .ok (.aload_n 0, 1) := by decide +kernel
theorem dX7_leads_78 : decode cX7_leads 78 = .ok (.iload 5, 2) := by decide +kernel
theorem dX7_leads_80 : decode cX7_leads 80 = .ok (.iload 6, 2) := by decide +kernel
theorem dX7_leads_82 : decode cX7_leads 82 = .ok (.invokestatic 66, 3) := by decide +kernel
theorem dX7_leads_85 : decode cX7_leads 85 = .ok (.invokevirtual 62, 3) := by decide +kernel
theorem dX7_leads_88 : decode cX7_leads 88 = .ok (.iload 7, 2) := by decide +kernel
theorem dX7_leads_90 : decode cX7_leads 90 = .ok (.ireturn, 1) := by decide +kernel
theorem dX8_init_0 : decode cX8_init 0 = .ok (.aload_n 0, 1) := by decide +kernel
theorem dX8_init_1 : decode cX8_init 1 = .ok (.invokespecial 3, 3) := by decide +kernel
theorem dX8_init_4 : decode cX8_init 4 = .ok (.aload_n 0, 1) := by decide +kernel
theorem dX8_init_5 : decode cX8_init 5 = .ok (.bipush 16, 2) := by decide +kernel
theorem dX8_init_7 : decode cX8_init 7 = .ok (.newarray .int, 2) := by decide +kernel
theorem dX8_init_9 : decode cX8_init 9 = .ok (.putfield 9, 3) := by decide +kernel
theorem dX8_init_12 : decode cX8_init 12 = .ok (.aload_n 0, 1) := by decide +kernel
theorem dX8_init_13 : decode cX8_init 13 = .ok (.bipush 16, 2) := by decide +kernel
theorem dX8_init_15 : decode cX8_init 15 = .ok (.newarray .int, 2) := by decide +kernel
theorem dX8_init_17 : decode cX8_init 17 = .ok (.putfield 15, 3) := by decide +kernel
theorem dX8_init_20 : decode cX8_init 20 = .ok (.return_, 1) := by decide +kernel
theorem dX8_pairsUnder_0 : decode cX8_pairsUnder 0 = .ok (.iconst 0, 1) := by decide +kernel
theorem dX8_pairsUnder_1 : decode cX8_pairsUnder 1 = .ok (.istore_n 2, 1) := by decide +kernel
theorem dX8_pairsUnder_2 : decode cX8_pairsUnder 2 = .ok (.iconst 0, 1) := by decide +kernel
theorem dX8_pairsUnder_3 : decode cX8_pairsUnder 3 = .ok (.istore_n 3, 1) := by decide +kernel
theorem dX8_pairsUnder_4 : decode cX8_pairsUnder 4 = .ok (.iload_n 3, 1) := by decide +kernel
theorem dX8_pairsUnder_5 : decode cX8_pairsUnder 5 = .ok (.bipush 6, 2) := by decide +kernel
theorem dX8_pairsUnder_7 : decode cX8_pairsUnder 7 = .ok (.if_icmp .ge 83, 3) := by decide +kernel
theorem dX8_pairsUnder_10 : decode cX8_pairsUnder 10 = .ok (.iconst 0, 1) := by decide +kernel
theorem dX8_pairsUnder_11 : decode cX8_pairsUnder 11 = .ok (.istore 4, 2) := by decide +kernel
theorem dX8_pairsUnder_13 : decode cX8_pairsUnder 13 = .ok (.aload_n 0, 1) := by decide +kernel
theorem dX8_pairsUnder_14 : decode cX8_pairsUnder 14 = .ok (.iload_n 3, 1) := by decide +kernel
theorem dX8_pairsUnder_15 : decode cX8_pairsUnder 15 = .ok (.invokevirtual 18, 3) := by decide +kernel
theorem dX8_pairsUnder_18 : decode cX8_pairsUnder 18 = .ok (.istore 5, 2) := by decide +kernel
theorem dX8_pairsUnder_20 : decode cX8_pairsUnder 20 = .ok (.iconst 0, 1) := by decide +kernel
theorem dX8_pairsUnder_21 : decode cX8_pairsUnder 21 = .ok (.istore 6, 2) := by decide +kernel
theorem dX8_pairsUnder_23 : decode cX8_pairsUnder 23 = .ok (.iload 6, 2) := by decide +kernel
theorem dX8_pairsUnder_25 : decode cX8_pairsUnder 25 = .ok (.bipush 12, 2) := by decide +kernel
theorem dX8_pairsUnder_27 : decode cX8_pairsUnder 27 = .ok (.if_icmp .ge 57, 3) := by decide +kernel
theorem dX8_pairsUnder_30 : decode cX8_pairsUnder 30 = .ok (.aload_n 0, 1) := by decide +kernel
theorem dX8_pairsUnder_31 : decode cX8_pairsUnder 31 = .ok (.iload 5, 2) := by decide +kernel
theorem dX8_pairsUnder_33 : decode cX8_pairsUnder 33 = .ok (.invokevirtual 24, 3) := by decide +kernel
theorem dX8_pairsUnder_36 : decode cX8_pairsUnder 36 = .ok (.ifCond .eq 48, 3) := by decide +kernel
theorem dX8_pairsUnder_39 : decode cX8_pairsUnder 39 = .ok (.aload_n 0, 1) := by decide +kernel
theorem dX8_pairsUnder_40 : decode cX8_pairsUnder 40 = .ok (.iload 5, 2) := by decide +kernel
theorem dX8_pairsUnder_42 : decode cX8_pairsUnder 42 = .ok (.invokevirtual 28, 3) := by decide +kernel
theorem dX8_pairsUnder_45 : decode cX8_pairsUnder 45 = .ok (.istore 7, 2) := by decide +kernel
theorem dX8_pairsUnder_47 : decode cX8_pairsUnder 47 = .ok (.iload 7, 2) := by decide +kernel
theorem dX8_pairsUnder_49 : decode cX8_pairsUnder 49 = .ok (.iload_n 1, 1) := by decide +kernel
theorem dX8_pairsUnder_50 : decode cX8_pairsUnder 50 = .ok (.if_icmp .ne 11, 3) := by decide +kernel
theorem dX8_pairsUnder_53 : decode cX8_pairsUnder 53 = .ok (.iload_n 2, 1) := by decide +kernel
theorem dX8_pairsUnder_54 : decode cX8_pairsUnder 54 = .ok (.iload 4, 2) := by decide +kernel
theorem dX8_pairsUnder_56 : decode cX8_pairsUnder 56 = .ok (.iadd, 1) := by decide +kernel
theorem dX8_pairsUnder_57 : decode cX8_pairsUnder 57 = .ok (.istore_n 2, 1) := by decide +kernel
theorem dX8_pairsUnder_58 : decode cX8_pairsUnder 58 = .ok (.goto 12, 3) := by decide +kernel
theorem dX8_pairsUnder_61 : decode cX8_pairsUnder 61 = .ok (.iload 7, 2) := by decide +kernel
theorem dX8_pairsUnder_63 : decode cX8_pairsUnder 63 = .ok (.iconst 4, 1) := by decide +kernel
theorem dX8_pairsUnder_64 : decode cX8_pairsUnder 64 = .ok (.if_icmp .eq 6, 3) := by decide +kernel
theorem dX8_pairsUnder_67 : decode cX8_pairsUnder 67 = .ok (.iinc 4 1, 3) := by decide +kernel
theorem dX8_pairsUnder_70 : decode cX8_pairsUnder 70 = .ok (.aload_n 0, 1) := by decide +kernel
theorem dX8_pairsUnder_71 : decode cX8_pairsUnder 71 = .ok (.iload 5, 2) := by decide +kernel
theorem dX8_pairsUnder_73 : decode cX8_pairsUnder 73 = .ok (.invokevirtual 31, 3) := by decide +kernel
theorem dX8_pairsUnder_76 : decode cX8_pairsUnder 76 = .ok (.istore 5, 2) := by decide +kernel
theorem dX8_pairsUnder_78 : decode cX8_pairsUnder 78 = .ok (.iinc 6 1, 3) := by decide +kernel
theorem dX8_pairsUnder_81 : decode cX8_pairsUnder 81 = .ok (.goto (-58), 3) := by decide +kernel
theorem dX8_pairsUnder_84 : decode cX8_pairsUnder 84 = .ok (.iinc 3 1, 3) := by decide +kernel
theorem dX8_pairsUnder_87 : decode cX8_pairsUnder 87 = .ok (.goto (-83), 3) := by decide +kernel
theorem dX8_pairsUnder_90 : decode cX8_pairsUnder 90 = .ok (.iload_n 2, 1) := by decide +kernel
theorem dX8_pairsUnder_91 : decode cX8_pairsUnder 91 = .ok (.ireturn, 1) := by decide +kernel
theorem dX8_fewestAstray_0 : decode cX8_fewestAstray 0 = .ok (.aload_n 0, 1) := by decide +kernel
theorem dX8_fewestAstray_1 : decode cX8_fewestAstray 1 = .ok (.getfield 9, 3) := by decide +kernel
theorem dX8_fewestAstray_4 : decode cX8_fewestAstray 4 = .ok (.sipush 1000, 3) := by decide +kernel
theorem dX8_fewestAstray_7 : decode cX8_fewestAstray 7 = .ok (.invokestatic 34, 3) := by decide +kernel
theorem dX8_fewestAstray_10 : decode cX8_fewestAstray 10 = .ok (.aload_n 0, 1) := by decide +kernel
theorem dX8_fewestAstray_11 : decode cX8_fewestAstray 11 = .ok (.getfield 9, 3) := by decide +kernel
theorem dX8_fewestAstray_14 : decode cX8_fewestAstray 14 = .ok (.iconst 0, 1) := by decide +kernel
theorem dX8_fewestAstray_15 : decode cX8_fewestAstray 15 = .ok (.iconst 0, 1) := by decide +kernel
theorem dX8_fewestAstray_16 : decode cX8_fewestAstray 16 = .ok (.iastore, 1) := by decide +kernel
theorem dX8_fewestAstray_17 : decode cX8_fewestAstray 17 = .ok (.iconst 0, 1) := by decide +kernel
theorem dX8_fewestAstray_18 : decode cX8_fewestAstray 18 = .ok (.istore_n 2, 1) := by decide +kernel
theorem dX8_fewestAstray_19 : decode cX8_fewestAstray 19 = .ok (.iload_n 2, 1) := by decide +kernel
theorem dX8_fewestAstray_20 : decode cX8_fewestAstray 20 = .ok (.bipush 6, 2) := by decide +kernel
theorem dX8_fewestAstray_22 : decode cX8_fewestAstray 22 = .ok (.if_icmp .ge 15, 3) := by decide +kernel
theorem dX8_fewestAstray_25 : decode cX8_fewestAstray 25 = .ok (.aload_n 0, 1) := by decide +kernel
theorem dX8_fewestAstray_26 : decode cX8_fewestAstray 26 = .ok (.aload_n 1, 1) := by decide +kernel
theorem dX8_fewestAstray_27 : decode cX8_fewestAstray 27 = .ok (.iload_n 2, 1) := by decide +kernel
theorem dX8_fewestAstray_28 : decode cX8_fewestAstray 28 = .ok (.invokevirtual 40, 3) := by decide +kernel
theorem dX8_fewestAstray_31 : decode cX8_fewestAstray 31 = .ok (.iinc 2 1, 3) := by decide +kernel
theorem dX8_fewestAstray_34 : decode cX8_fewestAstray 34 = .ok (.goto (-15), 3) := by decide +kernel
theorem dX8_fewestAstray_37 : decode cX8_fewestAstray 37 = .ok (.aload_n 1, 1) := by decide +kernel
theorem dX8_fewestAstray_38 : decode cX8_fewestAstray 38 = .ok (.invokestatic 44, 3) := by decide +kernel
theorem dX8_fewestAstray_41 : decode cX8_fewestAstray 41 = .ok (.istore_n 2, 1) := by decide +kernel
theorem dX8_fewestAstray_42 : decode cX8_fewestAstray 42 = .ok (.sipush 1000, 3) := by decide +kernel
theorem dX8_fewestAstray_45 : decode cX8_fewestAstray 45 = .ok (.istore_n 3, 1) := by decide +kernel
theorem dX8_fewestAstray_46 : decode cX8_fewestAstray 46 = .ok (.iconst 0, 1) := by decide +kernel
theorem dX8_fewestAstray_47 : decode cX8_fewestAstray 47 = .ok (.istore 4, 2) := by decide +kernel
theorem dX8_fewestAstray_49 : decode cX8_fewestAstray 49 = .ok (.iload 4, 2) := by decide +kernel
theorem dX8_fewestAstray_51 : decode cX8_fewestAstray 51 = .ok (.bipush 16, 2) := by decide +kernel
theorem dX8_fewestAstray_53 : decode cX8_fewestAstray 53 = .ok (.if_icmp .ge 29, 3) := by decide +kernel
theorem dX8_fewestAstray_56 : decode cX8_fewestAstray 56 = .ok (.iload 4, 2) := by decide +kernel
theorem dX8_fewestAstray_58 : decode cX8_fewestAstray 58 = .ok (.iload_n 2, 1) := by decide +kernel
theorem dX8_fewestAstray_59 : decode cX8_fewestAstray 59 = .ok (.iand, 1) := by decide +kernel
theorem dX8_fewestAstray_60 : decode cX8_fewestAstray 60 = .ok (.iload_n 2, 1) := by decide +kernel
theorem dX8_fewestAstray_61 : decode cX8_fewestAstray 61 = .ok (.if_icmp .ne 15, 3) := by decide +kernel
theorem dX8_fewestAstray_64 : decode cX8_fewestAstray 64 = .ok (.iload_n 3, 1) := by decide +kernel
theorem dX8_fewestAstray_65 : decode cX8_fewestAstray 65 = .ok (.aload_n 0, 1) := by decide +kernel
theorem dX8_fewestAstray_66 : decode cX8_fewestAstray 66 = .ok (.getfield 9, 3) := by decide +kernel
theorem dX8_fewestAstray_69 : decode cX8_fewestAstray 69 = .ok (.iload 4, 2) := by decide +kernel
theorem dX8_fewestAstray_71 : decode cX8_fewestAstray 71 = .ok (.iaload, 1) := by decide +kernel
theorem dX8_fewestAstray_72 : decode cX8_fewestAstray 72 = .ok (.invokestatic 48, 3) := by decide +kernel
theorem dX8_fewestAstray_75 : decode cX8_fewestAstray 75 = .ok (.istore_n 3, 1) := by decide +kernel
theorem dX8_fewestAstray_76 : decode cX8_fewestAstray 76 = .ok (.iinc 4 1, 3) := by decide +kernel
theorem dX8_fewestAstray_79 : decode cX8_fewestAstray 79 = .ok (.goto (-30), 3) := by decide +kernel
theorem dX8_fewestAstray_82 : decode cX8_fewestAstray 82 = .ok (.iload_n 3, 1) := by decide +kernel
theorem dX8_fewestAstray_83 : decode cX8_fewestAstray 83 = .ok (.ireturn, 1) := by decide +kernel
theorem dX8_give_0 : decode cX8_give 0 = .ok (.aload_n 0, 1) := by decide +kernel
theorem dX8_give_1 : decode cX8_give 1 = .ok (.getfield 15, 3) := by decide +kernel
theorem dX8_give_4 : decode cX8_give 4 = .ok (.sipush 1000, 3) := by decide +kernel
theorem dX8_give_7 : decode cX8_give 7 = .ok (.invokestatic 34, 3) := by decide +kernel
theorem dX8_give_10 : decode cX8_give 10 = .ok (.iconst 0, 1) := by decide +kernel
theorem dX8_give_11 : decode cX8_give 11 = .ok (.istore_n 3, 1) := by decide +kernel
theorem dX8_give_12 : decode cX8_give 12 = .ok (.iload_n 3, 1) := by decide +kernel
theorem dX8_give_13 : decode cX8_give 13 = .ok (.iconst 4, 1) := by decide +kernel
theorem dX8_give_14 : decode cX8_give 14 = .ok (.if_icmp .ge 71, 3) := by decide +kernel
theorem dX8_give_17 : decode cX8_give 17 = .ok (.aload_n 1, 1) := by decide +kernel
theorem dX8_give_18 : decode cX8_give 18 = .ok (.iload_n 2, 1) := by decide +kernel
theorem dX8_give_19 : decode cX8_give 19 = .ok (.iload_n 3, 1) := by decide +kernel
theorem dX8_give_20 : decode cX8_give 20 = .ok (.invokestatic 54, 3) := by decide +kernel
theorem dX8_give_23 : decode cX8_give 23 = .ok (.istore 4, 2) := by decide +kernel
theorem dX8_give_25 : decode cX8_give 25 = .ok (.iconst 0, 1) := by decide +kernel
theorem dX8_give_26 : decode cX8_give 26 = .ok (.istore 5, 2) := by decide +kernel
theorem dX8_give_28 : decode cX8_give 28 = .ok (.iload 5, 2) := by decide +kernel
theorem dX8_give_30 : decode cX8_give 30 = .ok (.bipush 16, 2) := by decide +kernel
theorem dX8_give_32 : decode cX8_give 32 = .ok (.if_icmp .ge 47, 3) := by decide +kernel
theorem dX8_give_35 : decode cX8_give 35 = .ok (.iload 5, 2) := by decide +kernel
theorem dX8_give_37 : decode cX8_give 37 = .ok (.iconst 1, 1) := by decide +kernel
theorem dX8_give_38 : decode cX8_give 38 = .ok (.iload_n 3, 1) := by decide +kernel
theorem dX8_give_39 : decode cX8_give 39 = .ok (.ishl, 1) := by decide +kernel
theorem dX8_give_40 : decode cX8_give 40 = .ok (.ior, 1) := by decide +kernel
theorem dX8_give_41 : decode cX8_give 41 = .ok (.bipush 15, 2) := by decide +kernel
theorem dX8_give_43 : decode cX8_give 43 = .ok (.iand, 1) := by decide +kernel
theorem dX8_give_44 : decode cX8_give 44 = .ok (.istore 6, 2) := by decide +kernel
theorem dX8_give_46 : decode cX8_give 46 = .ok (.aload_n 0, 1) := by decide +kernel
theorem dX8_give_47 : decode cX8_give 47 = .ok (.getfield 15, 3) := by decide +kernel
theorem dX8_give_50 : decode cX8_give 50 = .ok (.iload 6, 2) := by decide +kernel
theorem dX8_give_52 : decode cX8_give 52 = .ok (.aload_n 0, 1) := by decide +kernel
theorem dX8_give_53 : decode cX8_give 53 = .ok (.getfield 15, 3) := by decide +kernel
theorem dX8_give_56 : decode cX8_give 56 = .ok (.iload 6, 2) := by decide +kernel
theorem dX8_give_58 : decode cX8_give 58 = .ok (.iaload, 1) := by decide +kernel
theorem dX8_give_59 : decode cX8_give 59 = .ok (.aload_n 0, 1) := by decide +kernel
theorem dX8_give_60 : decode cX8_give 60 = .ok (.getfield 9, 3) := by decide +kernel
theorem dX8_give_63 : decode cX8_give 63 = .ok (.iload 5, 2) := by decide +kernel
theorem dX8_give_65 : decode cX8_give 65 = .ok (.iaload, 1) := by decide +kernel
theorem dX8_give_66 : decode cX8_give 66 = .ok (.iload 4, 2) := by decide +kernel
theorem dX8_give_68 : decode cX8_give 68 = .ok (.iadd, 1) := by decide +kernel
theorem dX8_give_69 : decode cX8_give 69 = .ok (.invokestatic 48, 3) := by decide +kernel
theorem dX8_give_72 : decode cX8_give 72 = .ok (.iastore, 1) := by decide +kernel
theorem dX8_give_73 : decode cX8_give 73 = .ok (.iinc 5 1, 3) := by decide +kernel
theorem dX8_give_76 : decode cX8_give 76 = .ok (.goto (-48), 3) := by decide +kernel
theorem dX8_give_79 : decode cX8_give 79 = .ok (.iinc 3 1, 3) := by decide +kernel
theorem dX8_give_82 : decode cX8_give 82 = .ok (.goto (-70), 3) := by decide +kernel
theorem dX8_give_85 : decode cX8_give 85 = .ok (.aload_n 0, 1) := by decide +kernel
theorem dX8_give_86 : decode cX8_give 86 = .ok (.getfield 15, 3) := by decide +kernel
theorem dX8_give_89 : decode cX8_give 89 = .ok (.iconst 0, 1) := by decide +kernel
theorem dX8_give_90 : decode cX8_give 90 = .ok (.aload_n 0, 1) := by decide +kernel
theorem dX8_give_91 : decode cX8_give 91 = .ok (.getfield 9, 3) := by decide +kernel
theorem dX8_give_94 : decode cX8_give 94 = .ok (.iconst 0, 1) := by decide +kernel
theorem dX8_give_95 : decode cX8_give 95 = .ok (.bipush 16, 2) := by decide +kernel
theorem dX8_give_97 : decode cX8_give 97 = .ok (.invokestatic 58, 3) := by decide +kernel
theorem dX8_give_100 : decode cX8_give 100 = .ok (.return_, 1) := by decide +kernel
theorem dX8_astrayIn_0 : decode cX8_astrayIn 0 = .ok (.iconst 0, 1) := by decide +kernel
theorem dX8_astrayIn_1 : decode cX8_astrayIn 1 = .ok (.istore_n 3, 1) := by decide +kernel
theorem dX8_astrayIn_2 : decode cX8_astrayIn 2 = .ok (.iconst 0, 1) := by decide +kernel
theorem dX8_astrayIn_3 : decode cX8_astrayIn 3 = .ok (.istore 4, 2) := by decide +kernel
theorem dX8_astrayIn_5 : decode cX8_astrayIn 5 = .ok (.iload 4, 2) := by decide +kernel
theorem dX8_astrayIn_7 : decode cX8_astrayIn 7 = .ok (.aload_n 0, 1) := by decide +kernel
theorem dX8_astrayIn_8 : decode cX8_astrayIn 8 = .ok (.invokevirtual 64, 3) := by decide +kernel
theorem dX8_astrayIn_11 : decode cX8_astrayIn 11 = .ok (.if_icmp .ge 42, 3) := by decide +kernel
theorem dX8_astrayIn_14 : decode cX8_astrayIn 14 = .ok (.aload_n 0, 1) := by decide +kernel
theorem dX8_astrayIn_15 : decode cX8_astrayIn 15 = .ok (.iload 4, 2) := by decide +kernel
theorem dX8_astrayIn_17 : decode cX8_astrayIn 17 = .ok (.invokevirtual 28, 3) := by decide +kernel
theorem dX8_astrayIn_20 : decode cX8_astrayIn 20 = .ok (.istore 5, 2) := by decide +kernel
theorem dX8_astrayIn_22 : decode cX8_astrayIn 22 = .ok (.aload_n 0, 1) := by decide +kernel
theorem dX8_astrayIn_23 : decode cX8_astrayIn 23 = .ok (.iload 4, 2) := by decide +kernel
theorem dX8_astrayIn_25 : decode cX8_astrayIn 25 = .ok (.invokevirtual 68, 3) := by decide +kernel
theorem dX8_astrayIn_28 : decode cX8_astrayIn 28 = .ok (.iload_n 1, 1) := by decide +kernel
theorem dX8_astrayIn_29 : decode cX8_astrayIn 29 = .ok (.if_icmp .ne 18, 3) := by decide +kernel
theorem dX8_astrayIn_32 : decode cX8_astrayIn 32 = .ok (.iload 5, 2) := by decide +kernel
theorem dX8_astrayIn_34 : decode cX8_astrayIn 34 = .ok (.iload_n 2, 1) := by decide +kernel
theorem dX8_astrayIn_35 : decode cX8_astrayIn 35 = .ok (.if_icmp .eq 12, 3) := by decide +kernel
theorem dX8_astrayIn_38 : decode cX8_astrayIn 38 = .ok (.iload 5, 2) := by decide +kernel
theorem dX8_astrayIn_40 : decode cX8_astrayIn 40 = .ok (.iconst 4, 1) := by decide +kernel
theorem dX8_astrayIn_41 : decode cX8_astrayIn 41 = .ok (.if_icmp .eq 6, 3) := by decide +kernel
theorem dX8_astrayIn_44 : decode cX8_astrayIn 44 = .ok (.iinc 3 1, 3) := by decide +kernel
theorem dX8_astrayIn_47 : decode cX8_astrayIn 47 = .ok (.iinc 4 1, 3) := by decide +kernel
theorem dX8_astrayIn_50 : decode cX8_astrayIn 50 = .ok (.goto (-45), 3) := by decide +kernel
theorem dX8_astrayIn_53 : decode cX8_astrayIn 53 = .ok (.iload_n 3, 1) := by decide +kernel
theorem dX8_astrayIn_54 : decode cX8_astrayIn 54 = .ok (.ireturn, 1) := by decide +kernel
theorem dX8_townsInPlaces_0 : decode cX8_townsInPlaces 0 = .ok (.iconst 0, 1) := by decide +kernel
theorem dX8_townsInPlaces_1 : decode cX8_townsInPlaces 1 = .ok (.istore_n 1, 1) := by decide +kernel
theorem dX8_townsInPlaces_2 : decode cX8_townsInPlaces 2 = .ok (.iconst 0, 1) := by decide +kernel
theorem dX8_townsInPlaces_3 : decode cX8_townsInPlaces 3 = .ok (.istore_n 2, 1) := by decide +kernel
theorem dX8_townsInPlaces_4 : decode cX8_townsInPlaces 4 = .ok (.iload_n 2, 1) := by decide +kernel
theorem dX8_townsInPlaces_5 : decode cX8_townsInPlaces 5 = .ok (.aload_n 0, 1) := by decide +kernel
theorem dX8_townsInPlaces_6 : decode cX8_townsInPlaces 6 = .ok (.invokevirtual 64, 3) := by decide +kernel
theorem dX8_townsInPlaces_9 : decode cX8_townsInPlaces 9 = .ok (.if_icmp .ge 37, 3) := by decide +kernel
theorem dX8_townsInPlaces_12 : decode cX8_townsInPlaces 12 = .ok (.aload_n 0, 1) := by decide +kernel
theorem dX8_townsInPlaces_13 : decode cX8_townsInPlaces 13 = .ok (.iload_n 2, 1) := by decide +kernel
theorem dX8_townsInPlaces_14 : decode cX8_townsInPlaces 14 = .ok (.invokevirtual 28, 3) := by decide +kernel
theorem dX8_townsInPlaces_17 : decode cX8_townsInPlaces 17 = .ok (.istore_n 3, 1) := by decide +kernel
theorem dX8_townsInPlaces_18 : decode cX8_townsInPlaces 18 = .ok (.aload_n 0, 1) := by decide +kernel
theorem dX8_townsInPlaces_19 : decode cX8_townsInPlaces 19 = .ok (.iload_n 2, 1) := by decide +kernel
theorem dX8_townsInPlaces_20 : decode cX8_townsInPlaces 20 = .ok (.invokevirtual 68, 3) := by decide +kernel
theorem dX8_townsInPlaces_23 : decode cX8_townsInPlaces 23 = .ok (.invokestatic 71, 3) := by decide +kernel
theorem dX8_townsInPlaces_26 : decode cX8_townsInPlaces 26 = .ok (.ifCond .eq 14, 3) := by decide +kernel
theorem dX8_townsInPlaces_29 : decode cX8_townsInPlaces 29 = .ok (.iload_n 3, 1) := by decide +kernel
theorem dX8_townsInPlaces_30 : decode cX8_townsInPlaces 30 = .ok (.iconst 4, 1) := by decide +kernel
theorem dX8_townsInPlaces_31 : decode cX8_townsInPlaces 31 = .ok (.if_icmp .eq 9, 3) := by decide +kernel
theorem dX8_townsInPlaces_34 : decode cX8_townsInPlaces 34 = .ok (.iload_n 1, 1) := by decide +kernel
theorem dX8_townsInPlaces_35 : decode cX8_townsInPlaces 35 = .ok (.iconst 1, 1) := by decide +kernel
theorem dX8_townsInPlaces_36 : decode cX8_townsInPlaces 36 = .ok (.iload_n 3, 1) := by decide +kernel
theorem dX8_townsInPlaces_37 : decode cX8_townsInPlaces 37 = .ok (.ishl, 1) := by decide +kernel
theorem dX8_townsInPlaces_38 : decode cX8_townsInPlaces 38 = .ok (.ior, 1) := by decide +kernel
theorem dX8_townsInPlaces_39 : decode cX8_townsInPlaces 39 = .ok (.istore_n 1, 1) := by decide +kernel
theorem dX8_townsInPlaces_40 : decode cX8_townsInPlaces 40 = .ok (.iinc 2 1, 3) := by decide +kernel
theorem dX8_townsInPlaces_43 : decode cX8_townsInPlaces 43 = .ok (.goto (-39), 3) := by decide +kernel
theorem dX8_townsInPlaces_46 : decode cX8_townsInPlaces 46 = .ok (.iload_n 1, 1) := by decide +kernel
theorem dX8_townsInPlaces_47 : decode cX8_townsInPlaces 47 = .ok (.ireturn, 1) := by decide +kernel
theorem dX9_init_0 : decode cX9_init 0 = .ok (.aload_n 0, 1) := by decide +kernel
theorem dX9_init_1 : decode cX9_init 1 = .ok (.invokespecial 1, 3) := by decide +kernel
theorem dX9_init_4 : decode cX9_init 4 = .ok (.aload_n 0, 1) := by decide +kernel
theorem dX9_init_5 : decode cX9_init 5 = .ok (.new 7, 3) := by decide +kernel
theorem dX9_init_8 : decode cX9_init 8 = .ok (.dup, 1) := by decide +kernel
theorem dX9_init_9 : decode cX9_init 9 = .ok (.invokespecial 9, 3) := by decide +kernel
theorem dX9_init_12 : decode cX9_init 12 = .ok (.putfield 10, 3) := by decide +kernel
theorem dX9_init_15 : decode cX9_init 15 = .ok (.aload_n 0, 1) := by decide +kernel
theorem dX9_init_16 : decode cX9_init 16 = .ok (.new 7, 3) := by decide +kernel
theorem dX9_init_19 : decode cX9_init 19 = .ok (.dup, 1) := by decide +kernel
theorem dX9_init_20 : decode cX9_init 20 = .ok (.invokespecial 9, 3) := by decide +kernel
theorem dX9_init_23 : decode cX9_init 23 = .ok (.putfield 16, 3) := by decide +kernel
theorem dX9_init_26 : decode cX9_init 26 = .ok (.aload_n 0, 1) := by decide +kernel
theorem dX9_init_27 : decode cX9_init 27 = .ok (.new 19, 3) := by decide +kernel
theorem dX9_init_30 : decode cX9_init 30 = .ok (.dup, 1) := by decide +kernel
theorem dX9_init_31 : decode cX9_init 31 = .ok (.invokespecial 21, 3) := by decide +kernel
theorem dX9_init_34 : decode cX9_init 34 = .ok (.putfield 22, 3) := by decide +kernel
theorem dX9_init_37 : decode cX9_init 37 = .ok (.aload_n 0, 1) := by decide +kernel
theorem dX9_init_38 : decode cX9_init 38 = .ok (.new 26, 3) := by decide +kernel
theorem dX9_init_41 : decode cX9_init 41 = .ok (.dup, 1) := by decide +kernel
theorem dX9_init_42 : decode cX9_init 42 = .ok (.invokespecial 28, 3) := by decide +kernel
theorem dX9_init_45 : decode cX9_init 45 = .ok (.putfield 29, 3) := by decide +kernel
theorem dX9_init_48 : decode cX9_init 48 = .ok (.aload_n 0, 1) := by decide +kernel
theorem dX9_init_49 : decode cX9_init 49 = .ok (.new 33, 3) := by decide +kernel
theorem dX9_init_52 : decode cX9_init 52 = .ok (.dup, 1) := by decide +kernel
theorem dX9_init_53 : decode cX9_init 53 = .ok (.invokespecial 35, 3) := by decide +kernel
theorem dX9_init_56 : decode cX9_init 56 = .ok (.putfield 36, 3) := by decide +kernel
theorem dX9_init_59 : decode cX9_init 59 = .ok (.aload_n 0, 1) := by decide +kernel
theorem dX9_init_60 : decode cX9_init 60 = .ok (.new 40, 3) := by decide +kernel
theorem dX9_init_63 : decode cX9_init 63 = .ok (.dup, 1) := by decide +kernel
theorem dX9_init_64 : decode cX9_init 64 = .ok (.invokespecial 42, 3) := by decide +kernel
theorem dX9_init_67 : decode cX9_init 67 = .ok (.putfield 43, 3) := by decide +kernel
theorem dX9_init_70 : decode cX9_init 70 = .ok (.aload_n 0, 1) := by decide +kernel
theorem dX9_init_71 : decode cX9_init 71 = .ok (.new 47, 3) := by decide +kernel
theorem dX9_init_74 : decode cX9_init 74 = .ok (.dup, 1) := by decide +kernel
theorem dX9_init_75 : decode cX9_init 75 = .ok (.invokespecial 49, 3) := by decide +kernel
theorem dX9_init_78 : decode cX9_init 78 = .ok (.putfield 50, 3) := by decide +kernel
theorem dX9_init_81 : decode cX9_init 81 = .ok (.aload_n 0, 1) := by decide +kernel
theorem dX9_init_82 : decode cX9_init 82 = .ok (.iconst 4, 1) := by decide +kernel
theorem dX9_init_83 : decode cX9_init 83 = .ok (.anewarray 54, 3) := by decide +kernel
theorem dX9_init_86 : decode cX9_init 86 = .ok (.putfield 56, 3) := by decide +kernel
theorem dX9_init_89 : decode cX9_init 89 = .ok (.iconst 0, 1) := by decide +kernel
theorem dX9_init_90 : decode cX9_init 90 = .ok (.istore_n 1, 1) := by decide +kernel
theorem dX9_init_91 : decode cX9_init 91 = .ok (.iload_n 1, 1) := by decide +kernel
theorem dX9_init_92 : decode cX9_init 92 = .ok (.aload_n 0, 1) := by decide +kernel
theorem dX9_init_93 : decode cX9_init 93 = .ok (.getfield 56, 3) := by decide +kernel
theorem dX9_init_96 : decode cX9_init 96 = .ok (.arraylength, 1) := by decide +kernel
theorem dX9_init_97 : decode cX9_init 97 = .ok (.if_icmp .ge 22, 3) := by decide +kernel
theorem dX9_init_100 : decode cX9_init 100 = .ok (.aload_n 0, 1) := by decide +kernel
theorem dX9_init_101 : decode cX9_init 101 = .ok (.getfield 56, 3) := by decide +kernel
theorem dX9_init_104 : decode cX9_init 104 = .ok (.iload_n 1, 1) := by decide +kernel
theorem dX9_init_105 : decode cX9_init 105 = .ok (.new 54, 3) := by decide +kernel
theorem dX9_init_108 : decode cX9_init 108 = .ok (.dup, 1) := by decide +kernel
theorem dX9_init_109 : decode cX9_init 109 = .ok (.invokespecial 60, 3) := by decide +kernel
theorem dX9_init_112 : decode cX9_init 112 = .ok (.aastore, 1) := by decide +kernel
theorem dX9_init_113 : decode cX9_init 113 = .ok (.iinc 1 1, 3) := by decide +kernel
theorem dX9_init_116 : decode cX9_init 116 = .ok (.goto (-25), 3) := by decide +kernel
theorem dX9_init_119 : decode cX9_init 119 = .ok (.return_, 1) := by decide +kernel
theorem dX9_piece_0 : decode cX9_piece 0 = .ok (.iload_n 1, 1) := by decide +kernel
theorem dX9_piece_1 : decode cX9_piece 1 = .ok (.iconst 0, 1) := by decide +kernel
theorem dX9_piece_2 : decode cX9_piece 2 = .ok (.iconst 3, 1) := by decide +kernel
theorem dX9_piece_3 : decode cX9_piece 3 = .ok (.invokestatic 61, 3) := by decide +kernel
theorem dX9_piece_6 : decode cX9_piece 6 = .ok (.ifCond .eq 31, 3) := by decide +kernel
theorem dX9_piece_9 : decode cX9_piece 9 = .ok (.iload_n 2, 1) := by decide +kernel
theorem dX9_piece_10 : decode cX9_piece 10 = .ok (.iconst 1, 1) := by decide +kernel
theorem dX9_piece_11 : decode cX9_piece 11 = .ok (.bipush 99, 2) := by decide +kernel
theorem dX9_piece_13 : decode cX9_piece 13 = .ok (.invokestatic 61, 3) := by decide +kernel
theorem dX9_piece_16 : decode cX9_piece 16 = .ok (.ifCond .eq 21, 3) := by decide +kernel
theorem dX9_piece_19 : decode cX9_piece 19 = .ok (.iload_n 3, 1) := by decide +kernel
theorem dX9_piece_20 : decode cX9_piece 20 = .ok (.invokestatic 65, 3) := by decide +kernel
theorem dX9_piece_23 : decode cX9_piece 23 = .ok (.ifCond .eq 14, 3) := by decide +kernel
theorem dX9_piece_26 : decode cX9_piece 26 = .ok (.iload 4, 2) := by decide +kernel
theorem dX9_piece_28 : decode cX9_piece 28 = .ok (.iconst 0, 1) := by decide +kernel
theorem dX9_piece_29 : decode cX9_piece 29 = .ok (.bipush 6, 2) := by decide +kernel
theorem dX9_piece_31 : decode cX9_piece 31 = .ok (.invokestatic 61, 3) := by decide +kernel
theorem dX9_piece_34 : decode cX9_piece 34 = .ok (.ifCond .ne 5, 3) := by decide +kernel
theorem dX9_piece_37 : decode cX9_piece 37 = .ok (.iconst (-1), 1) := by decide +kernel
theorem dX9_piece_38 : decode cX9_piece 38 = .ok (.ireturn, 1) := by decide +kernel
theorem dX9_piece_39 : decode cX9_piece 39 = .ok (.aload_n 0, 1) := by decide +kernel
theorem dX9_piece_40 : decode cX9_piece 40 = .ok (.getfield 10, 3) := by decide +kernel
theorem dX9_piece_43 : decode cX9_piece 43 = .ok (.iload_n 1, 1) := by decide +kernel
theorem dX9_piece_44 : decode cX9_piece 44 = .ok (.iload_n 2, 1) := by decide +kernel
theorem dX9_piece_45 : decode cX9_piece 45 = .ok (.iload_n 3, 1) := by decide +kernel
theorem dX9_piece_46 : decode cX9_piece 46 = .ok (.iload 4, 2) := by decide +kernel
theorem dX9_piece_48 : decode cX9_piece 48 = .ok (.invokevirtual 69, 3) := by decide +kernel
theorem dX9_piece_51 : decode cX9_piece 51 = .ok (.ireturn, 1) := by decide +kernel
theorem dX9_told_0 : decode cX9_told 0 = .ok (.aload_n 0, 1) := by decide +kernel
theorem dX9_told_1 : decode cX9_told 1 = .ok (.getfield 10, 3) := by decide +kernel
theorem dX9_told_4 : decode cX9_told 4 = .ok (.iload_n 1, 1) := by decide +kernel
theorem dX9_told_5 : decode cX9_told 5 = .ok (.invokevirtual 73, 3) := by decide +kernel
theorem dX9_told_8 : decode cX9_told 8 = .ok (.ifCond .ne 5, 3) := by decide +kernel
theorem dX9_told_11 : decode cX9_told 11 = .ok (.iconst (-1), 1) := by decide +kernel
theorem dX9_told_12 : decode cX9_told 12 = .ok (.ireturn, 1) := by decide +kernel
theorem dX9_told_13 : decode cX9_told 13 = .ok (.iload_n 2, 1) := by decide +kernel
theorem dX9_told_14 : decode cX9_told 14 = .ok (.tableswitch 79 0 4 #[34, 43, 52, 61, 70], 34) := by decide +kernel
theorem dX9_told_48 : decode cX9_told 48 = .ok (.aload_n 0, 1) := by decide +kernel
theorem dX9_told_49 : decode cX9_told 49 = .ok (.getfield 10, 3) := by decide +kernel
theorem dX9_told_52 : decode cX9_told 52 = .ok (.iload_n 1, 1) := by decide +kernel
theorem dX9_told_53 : decode cX9_told 53 = .ok (.invokevirtual 76, 3) := by decide +kernel
theorem dX9_told_56 : decode cX9_told 56 = .ok (.ireturn, 1) := by decide +kernel
theorem dX9_told_57 : decode cX9_told 57 = .ok (.aload_n 0, 1) := by decide +kernel
theorem dX9_told_58 : decode cX9_told 58 = .ok (.getfield 10, 3) := by decide +kernel
theorem dX9_told_61 : decode cX9_told 61 = .ok (.iload_n 1, 1) := by decide +kernel
theorem dX9_told_62 : decode cX9_told 62 = .ok (.invokevirtual 80, 3) := by decide +kernel
theorem dX9_told_65 : decode cX9_told 65 = .ok (.ireturn, 1) := by decide +kernel
theorem dX9_told_66 : decode cX9_told 66 = .ok (.aload_n 0, 1) := by decide +kernel
theorem dX9_told_67 : decode cX9_told 67 = .ok (.getfield 10, 3) := by decide +kernel
theorem dX9_told_70 : decode cX9_told 70 = .ok (.iload_n 1, 1) := by decide +kernel
theorem dX9_told_71 : decode cX9_told 71 = .ok (.invokevirtual 83, 3) := by decide +kernel
theorem dX9_told_74 : decode cX9_told 74 = .ok (.ireturn, 1) := by decide +kernel
theorem dX9_told_75 : decode cX9_told 75 = .ok (.aload_n 0, 1) := by decide +kernel
theorem dX9_told_76 : decode cX9_told 76 = .ok (.getfield 10, 3) := by decide +kernel
theorem dX9_told_79 : decode cX9_told 79 = .ok (.iload_n 1, 1) := by decide +kernel
theorem dX9_told_80 : decode cX9_told 80 = .ok (.invokevirtual 86, 3) := by decide +kernel
theorem dX9_told_83 : decode cX9_told 83 = .ok (.ireturn, 1) := by decide +kernel
theorem dX9_told_84 : decode cX9_told 84 = .ok (.aload_n 0, 1) := by decide +kernel
theorem dX9_told_85 : decode cX9_told 85 = .ok (.getfield 10, 3) := by decide +kernel
theorem dX9_told_88 : decode cX9_told 88 = .ok (.iload_n 1, 1) := by decide +kernel
theorem dX9_told_89 : decode cX9_told 89 = .ok (.invokevirtual 89, 3) := by decide +kernel
theorem dX9_told_92 : decode cX9_told 92 = .ok (.ireturn, 1) := by decide +kernel
theorem dX9_told_93 : decode cX9_told 93 = .ok (.iconst (-1), 1) := by decide +kernel
theorem dX9_told_94 : decode cX9_told 94 = .ok (.ireturn, 1) := by decide +kernel
theorem dX9_of_0 : decode cX9_of 0 = .ok (.iload_n 1, 1) := by decide +kernel
theorem dX9_of_1 : decode cX9_of 1 = .ok (.invokestatic 92, 3) := by decide +kernel
theorem dX9_of_4 : decode cX9_of 4 = .ok (.ifCond .ne 5, 3) := by decide +kernel
theorem dX9_of_7 : decode cX9_of 7 = .ok (.iconst (-1), 1) := by decide +kernel
theorem dX9_of_8 : decode cX9_of 8 = .ok (.ireturn, 1) := by decide +kernel
theorem dX9_of_9 : decode cX9_of 9 = .ok (.iload_n 2, 1) := by decide +kernel
theorem dX9_of_10 : decode cX9_of 10 = .ok (.tableswitch 66 0 3 #[30, 39, 48, 57], 30) := by decide +kernel
theorem dX9_of_40 : decode cX9_of 40 = .ok (.aload_n 0, 1) := by decide +kernel
theorem dX9_of_41 : decode cX9_of 41 = .ok (.getfield 10, 3) := by decide +kernel
theorem dX9_of_44 : decode cX9_of 44 = .ok (.iload_n 1, 1) := by decide +kernel
theorem dX9_of_45 : decode cX9_of 45 = .ok (.invokevirtual 95, 3) := by decide +kernel
theorem dX9_of_48 : decode cX9_of 48 = .ok (.ireturn, 1) := by decide +kernel
theorem dX9_of_49 : decode cX9_of 49 = .ok (.aload_n 0, 1) := by decide +kernel
theorem dX9_of_50 : decode cX9_of 50 = .ok (.getfield 10, 3) := by decide +kernel
theorem dX9_of_53 : decode cX9_of 53 = .ok (.iload_n 1, 1) := by decide +kernel
theorem dX9_of_54 : decode cX9_of 54 = .ok (.invokevirtual 98, 3) := by decide +kernel
theorem dX9_of_57 : decode cX9_of 57 = .ok (.ireturn, 1) := by decide +kernel
theorem dX9_of_58 : decode cX9_of 58 = .ok (.aload_n 0, 1) := by decide +kernel
theorem dX9_of_59 : decode cX9_of 59 = .ok (.getfield 10, 3) := by decide +kernel
theorem dX9_of_62 : decode cX9_of 62 = .ok (.iload_n 1, 1) := by decide +kernel
theorem dX9_of_63 : decode cX9_of 63 = .ok (.invokevirtual 101, 3) := by decide +kernel
theorem dX9_of_66 : decode cX9_of 66 = .ok (.ireturn, 1) := by decide +kernel
theorem dX9_of_67 : decode cX9_of 67 = .ok (.aload_n 0, 1) := by decide +kernel
theorem dX9_of_68 : decode cX9_of 68 = .ok (.getfield 10, 3) := by decide +kernel
theorem dX9_of_71 : decode cX9_of 71 = .ok (.iload_n 1, 1) := by decide +kernel
theorem dX9_of_72 : decode cX9_of 72 = .ok (.invokevirtual 104, 3) := by decide +kernel
theorem dX9_of_75 : decode cX9_of 75 = .ok (.ireturn, 1) := by decide +kernel
theorem dX9_of_76 : decode cX9_of 76 = .ok (.iconst (-1), 1) := by decide +kernel
theorem dX9_of_77 : decode cX9_of 77 = .ok (.ireturn, 1) := by decide +kernel
theorem dX9_sense_0 : decode cX9_sense 0 = .ok (.iload_n 1, 1) := by decide +kernel
theorem dX9_sense_1 : decode cX9_sense 1 = .ok (.invokestatic 92, 3) := by decide +kernel
theorem dX9_sense_4 : decode cX9_sense 4 = .ok (.ifCond .eq 13, 3) := by decide +kernel
theorem dX9_sense_7 : decode cX9_sense 7 = .ok (.iload_n 2, 1) := by decide +kernel
theorem dX9_sense_8 : decode cX9_sense 8 = .ok (.iconst 0, 1) := by decide +kernel
theorem dX9_sense_9 : decode cX9_sense 9 = .ok (.bipush 99, 2) := by decide +kernel
theorem dX9_sense_11 : decode cX9_sense 11 = .ok (.invokestatic 61, 3) := by decide +kernel
theorem dX9_sense_14 : decode cX9_sense 14 = .ok (.ifCond .ne 5, 3) := by decide +kernel
theorem dX9_sense_17 : decode cX9_sense 17 = .ok (.iconst (-1), 1) := by decide +kernel
theorem dX9_sense_18 : decode cX9_sense 18 = .ok (.ireturn, 1) := by decide +kernel
theorem dX9_sense_19 : decode cX9_sense 19 = .ok (.aload_n 0, 1) := by decide +kernel
theorem dX9_sense_20 : decode cX9_sense 20 = .ok (.getfield 10, 3) := by decide +kernel
theorem dX9_sense_23 : decode cX9_sense 23 = .ok (.iload_n 1, 1) := by decide +kernel
theorem dX9_sense_24 : decode cX9_sense 24 = .ok (.invokevirtual 101, 3) := by decide +kernel
theorem dX9_sense_27 : decode cX9_sense 27 = .ok (.istore_n 3, 1) := by decide +kernel
theorem dX9_sense_28 : decode cX9_sense 28 = .ok (.aload_n 0, 1) := by decide +kernel
theorem dX9_sense_29 : decode cX9_sense 29 = .ok (.getfield 10, 3) := by decide +kernel
theorem dX9_sense_32 : decode cX9_sense 32 = .ok (.iload_n 1, 1) := by decide +kernel
theorem dX9_sense_33 : decode cX9_sense 33 = .ok (.iload_n 2, 1) := by decide +kernel
theorem dX9_sense_34 : decode cX9_sense 34 = .ok (.invokevirtual 107, 3) := by decide +kernel
theorem dX9_sense_37 : decode cX9_sense 37 = .ok (.iload_n 3, 1) := by decide +kernel
theorem dX9_sense_38 : decode cX9_sense 38 = .ok (.ireturn, 1) := by decide +kernel
theorem dX9_type_0 : decode cX9_type 0 = .ok (.aload_n 0, 1) := by decide +kernel
theorem dX9_type_1 : decode cX9_type 1 = .ok (.getfield 36, 3) := by decide +kernel
theorem dX9_type_4 : decode cX9_type 4 = .ok (.lload_n 1, 1) := by decide +kernel
theorem dX9_type_5 : decode cX9_type 5 = .ok (.iload_n 3, 1) := by decide +kernel
theorem dX9_type_6 : decode cX9_type 6 = .ok (.invokevirtual 111, 3) := by decide +kernel
theorem dX9_type_9 : decode cX9_type 9 = .ok (.ireturn, 1) := by decide +kernel
theorem dX9_heap_0 : decode cX9_heap 0 = .ok (.aload_n 0, 1) := by decide +kernel
theorem dX9_heap_1 : decode cX9_heap 1 = .ok (.getfield 43, 3) := by decide +kernel
theorem dX9_heap_4 : decode cX9_heap 4 = .ok (.aload_n 0, 1) := by decide +kernel
theorem dX9_heap_5 : decode cX9_heap 5 = .ok (.getfield 36, 3) := by decide +kernel
theorem dX9_heap_8 : decode cX9_heap 8 = .ok (.invokevirtual 115, 3) := by decide +kernel
theorem dX9_heap_11 : decode cX9_heap 11 = .ok (.istore_n 1, 1) := by decide +kernel
theorem dX9_heap_12 : decode cX9_heap 12 = .ok (.aload_n 0, 1) := by decide +kernel
theorem dX9_heap_13 : decode cX9_heap 13 = .ok (.getfield 36, 3) := by decide +kernel
theorem dX9_heap_16 : decode cX9_heap 16 = .ok (.invokevirtual 119, 3) := by decide +kernel
theorem dX9_heap_19 : decode cX9_heap 19 = .ok (.iload_n 1, 1) := by decide +kernel
theorem dX9_heap_20 : decode cX9_heap 20 = .ok (.ifCond .le 15, 3) := by decide +kernel
theorem dX9_heap_23 : decode cX9_heap 23 = .ok (.aload_n 0, 1) := by decide +kernel
theorem dX9_heap_24 : decode cX9_heap 24 = .ok (.getfield 43, 3) := by decide +kernel
theorem dX9_heap_27 : decode cX9_heap 27 = .ok (.aload_n 0, 1) := by decide +kernel
theorem dX9_heap_28 : decode cX9_heap 28 = .ok (.getfield 10, 3) := by decide +kernel
theorem dX9_heap_31 : decode cX9_heap 31 = .ok (.iload_n 1, 1) := by decide +kernel
theorem dX9_heap_32 : decode cX9_heap 32 = .ok (.invokevirtual 122, 3) := by decide +kernel
theorem dX9_heap_35 : decode cX9_heap 35 = .ok (.iload_n 1, 1) := by decide +kernel
theorem dX9_heap_36 : decode cX9_heap 36 = .ok (.ireturn, 1) := by decide +kernel
theorem dX9_night_0 : decode cX9_night 0 = .ok (.aload_n 0, 1) := by decide +kernel
theorem dX9_night_1 : decode cX9_night 1 = .ok (.getfield 50, 3) := by decide +kernel
theorem dX9_night_4 : decode cX9_night 4 = .ok (.aload_n 0, 1) := by decide +kernel
theorem dX9_night_5 : decode cX9_night 5 = .ok (.getfield 36, 3) := by decide +kernel
theorem dX9_night_8 : decode cX9_night 8 = .ok (.aload_n 0, 1) := by decide +kernel
theorem dX9_night_9 : decode cX9_night 9 = .ok (.getfield 10, 3) := by decide +kernel
theorem dX9_night_12 : decode cX9_night 12 = .ok (.invokevirtual 126, 3) := by decide +kernel
theorem dX9_night_15 : decode cX9_night 15 = .ok (.invokevirtual 130, 3) := by decide +kernel
theorem dX9_night_18 : decode cX9_night 18 = .ok (.istore_n 1, 1) := by decide +kernel
theorem dX9_night_19 : decode cX9_night 19 = .ok (.aload_n 0, 1) := by decide +kernel
theorem dX9_night_20 : decode cX9_night 20 = .ok (.getfield 36, 3) := by decide +kernel
theorem dX9_night_23 : decode cX9_night 23 = .ok (.invokevirtual 119, 3) := by decide +kernel
theorem dX9_night_26 : decode cX9_night 26 = .ok (.iload_n 1, 1) := by decide +kernel
theorem dX9_night_27 : decode cX9_night 27 = .ok (.ifCond .le 18, 3) := by decide +kernel
theorem dX9_night_30 : decode cX9_night 30 = .ok (.aload_n 0, 1) := by decide +kernel
theorem dX9_night_31 : decode cX9_night 31 = .ok (.getfield 50, 3) := by decide +kernel
theorem dX9_night_34 : decode cX9_night 34 = .ok (.aload_n 0, 1) := by decide +kernel
theorem dX9_night_35 : decode cX9_night 35 = .ok (.getfield 10, 3) := by decide +kernel
theorem dX9_night_38 : decode cX9_night 38 = .ok (.iload_n 1, 1) := by decide +kernel
theorem dX9_night_39 : decode cX9_night 39 = .ok (.invokevirtual 133, 3) := by decide +kernel
theorem dX9_night_42 : decode cX9_night 42 = .ok (.goto 4, 3) := by decide +kernel
theorem dX9_night_45 : decode cX9_night 45 = .ok (.iload_n 1, 1) := by decide +kernel
theorem dX9_night_46 : decode cX9_night 46 = .ok (.ireturn, 1) := by decide +kernel
theorem dX9_count_0 : decode cX9_count 0 = .ok (.iload_n 1, 1) := by decide +kernel
theorem dX9_count_1 : decode cX9_count 1 = .ok (.tableswitch 93 0 5 #[39, 47, 57, 67, 75, 83], 39) := by decide +kernel
theorem dX9_count_40 : decode cX9_count 40 = .ok (.aload_n 0, 1) := by decide +kernel
theorem dX9_count_41 : decode cX9_count 41 = .ok (.getfield 10, 3) := by decide +kernel
theorem dX9_count_44 : decode cX9_count 44 = .ok (.invokevirtual 126, 3) := by decide +kernel
theorem dX9_count_47 : decode cX9_count 47 = .ok (.ireturn, 1) := by decide +kernel
theorem dX9_count_48 : decode cX9_count 48 = .ok (.aload_n 0, 1) := by decide +kernel
theorem dX9_count_49 : decode cX9_count 49 = .ok (.getfield 10, 3) := by decide +kernel
theorem dX9_count_52 : decode cX9_count 52 = .ok (.bipush 6, 2) := by decide +kernel
theorem dX9_count_54 : decode cX9_count 54 = .ok (.invokevirtual 98, 3) := by decide +kernel
theorem dX9_count_57 : decode cX9_count 57 = .ok (.ireturn, 1) := by decide +kernel
theorem dX9_count_58 : decode cX9_count 58 = .ok (.aload_n 0, 1) := by decide +kernel
theorem dX9_count_59 : decode cX9_count 59 = .ok (.getfield 10, 3) := by decide +kernel
theorem dX9_count_62 : decode cX9_count 62 = .ok (.bipush 7, 2) := by decide +kernel
theorem dX9_count_64 : decode cX9_count 64 = .ok (.invokevirtual 98, 3) := by decide +kernel
theorem dX9_count_67 : decode cX9_count 67 = .ok (.ireturn, 1) := by decide +kernel
theorem dX9_count_68 : decode cX9_count 68 = .ok (.aload_n 0, 1) := by decide +kernel
theorem dX9_count_69 : decode cX9_count 69 = .ok (.getfield 10, 3) := by decide +kernel
theorem dX9_count_72 : decode cX9_count 72 = .ok (.invokevirtual 137, 3) := by decide +kernel
theorem dX9_count_75 : decode cX9_count 75 = .ok (.ireturn, 1) := by decide +kernel
theorem dX9_count_76 : decode cX9_count 76 = .ok (.aload_n 0, 1) := by decide +kernel
theorem dX9_count_77 : decode cX9_count 77 = .ok (.getfield 10, 3) := by decide +kernel
theorem dX9_count_80 : decode cX9_count 80 = .ok (.invokevirtual 140, 3) := by decide +kernel
theorem dX9_count_83 : decode cX9_count 83 = .ok (.ireturn, 1) := by decide +kernel
theorem dX9_count_84 : decode cX9_count 84 = .ok (.aload_n 0, 1) := by decide +kernel
theorem dX9_count_85 : decode cX9_count 85 = .ok (.getfield 10, 3) := by decide +kernel
theorem dX9_count_88 : decode cX9_count 88 = .ok (.bipush 6, 2) := by decide +kernel
theorem dX9_count_90 : decode cX9_count 90 = .ok (.invokevirtual 95, 3) := by decide +kernel
theorem dX9_count_93 : decode cX9_count 93 = .ok (.ireturn, 1) := by decide +kernel
theorem dX9_count_94 : decode cX9_count 94 = .ok (.iconst (-1), 1) := by decide +kernel
theorem dX9_count_95 : decode cX9_count 95 = .ok (.ireturn, 1) := by decide +kernel
theorem dX9_lift_0 : decode cX9_lift 0 = .ok (.iload_n 1, 1) := by decide +kernel
theorem dX9_lift_1 : decode cX9_lift 1 = .ok (.invokestatic 92, 3) := by decide +kernel
theorem dX9_lift_4 : decode cX9_lift 4 = .ok (.ifCond .ne 5, 3) := by decide +kernel
theorem dX9_lift_7 : decode cX9_lift 7 = .ok (.iconst (-1), 1) := by decide +kernel
theorem dX9_lift_8 : decode cX9_lift 8 = .ok (.ireturn, 1) := by decide +kernel
theorem dX9_lift_9 : decode cX9_lift 9 = .ok (.aload_n 0, 1) := by decide +kernel
theorem dX9_lift_10 : decode cX9_lift 10 = .ok (.getfield 10, 3) := by decide +kernel
theorem dX9_lift_13 : decode cX9_lift 13 = .ok (.iload_n 1, 1) := by decide +kernel
theorem dX9_lift_14 : decode cX9_lift 14 = .ok (.invokevirtual 104, 3) := by decide +kernel
theorem dX9_lift_17 : decode cX9_lift 17 = .ok (.istore_n 2, 1) := by decide +kernel
theorem dX9_lift_18 : decode cX9_lift 18 = .ok (.aload_n 0, 1) := by decide +kernel
theorem dX9_lift_19 : decode cX9_lift 19 = .ok (.getfield 10, 3) := by decide +kernel
theorem dX9_lift_22 : decode cX9_lift 22 = .ok (.iconst 0, 1) := by decide +kernel
theorem dX9_lift_23 : decode cX9_lift 23 = .ok (.iload_n 1, 1) := by decide +kernel
theorem dX9_lift_24 : decode cX9_lift 24 = .ok (.iconst 0, 1) := by decide +kernel
theorem dX9_lift_25 : decode cX9_lift 25 = .ok (.invokestatic 145, 3) := by decide +kernel
theorem dX9_lift_28 : decode cX9_lift 28 = .ok (.invokevirtual 149, 3) := by decide +kernel
theorem dX9_lift_31 : decode cX9_lift 31 = .ok (.istore_n 3, 1) := by decide +kernel
theorem dX9_lift_32 : decode cX9_lift 32 = .ok (.iload_n 3, 1) := by decide +kernel
theorem dX9_lift_33 : decode cX9_lift 33 = .ok (.ifCond .ne 7, 3) := by decide +kernel
theorem dX9_lift_36 : decode cX9_lift 36 = .ok (.iload_n 2, 1) := by decide +kernel
theorem dX9_lift_37 : decode cX9_lift 37 = .ok (.goto 4, 3) := by decide +kernel
theorem dX9_lift_40 : decode cX9_lift 40 = .ok (.iload_n 3, 1) := by decide +kernel
theorem dX9_lift_41 : decode cX9_lift 41 = .ok (.ireturn, 1) := by decide +kernel
theorem dX9_lay_0 : decode cX9_lay 0 = .ok (.aload_n 0, 1) := by decide +kernel
theorem dX9_lay_1 : decode cX9_lay 1 = .ok (.getfield 10, 3) := by decide +kernel
theorem dX9_lay_4 : decode cX9_lay 4 = .ok (.iload_n 1, 1) := by decide +kernel
theorem dX9_lay_5 : decode cX9_lay 5 = .ok (.invokevirtual 73, 3) := by decide +kernel
theorem dX9_lay_8 : decode cX9_lay 8 = .ok (.ifCond .eq 10, 3) := by decide +kernel
theorem dX9_lay_11 : decode cX9_lay 11 = .ok (.iload_n 2, 1) := by decide +kernel
theorem dX9_lay_12 : decode cX9_lay 12 = .ok (.invokestatic 92, 3) := by decide +kernel
theorem dX9_lay_15 : decode cX9_lay 15 = .ok (.ifCond .ne 5, 3) := by decide +kernel
theorem dX9_lay_18 : decode cX9_lay 18 = .ok (.iconst (-1), 1) := by decide +kernel
theorem dX9_lay_19 : decode cX9_lay 19 = .ok (.ireturn, 1) := by decide +kernel
theorem dX9_lay_20 : decode cX9_lay 20 = .ok (.aload_n 0, 1) := by decide +kernel
theorem dX9_lay_21 : decode cX9_lay 21 = .ok (.getfield 10, 3) := by decide +kernel
theorem dX9_lay_24 : decode cX9_lay 24 = .ok (.iconst 1, 1) := by decide +kernel
theorem dX9_lay_25 : decode cX9_lay 25 = .ok (.iload_n 2, 1) := by decide +kernel
theorem dX9_lay_26 : decode cX9_lay 26 = .ok (.iload_n 1, 1) := by decide +kernel
theorem dX9_lay_27 : decode cX9_lay 27 = .ok (.invokestatic 145, 3) := by decide +kernel
theorem dX9_lay_30 : decode cX9_lay 30 = .ok (.invokevirtual 149, 3) := by decide +kernel
theorem dX9_lay_33 : decode cX9_lay 33 = .ok (.istore_n 3, 1) := by decide +kernel
theorem dX9_lay_34 : decode cX9_lay 34 = .ok (.iload_n 3, 1) := by decide +kernel
theorem dX9_lay_35 : decode cX9_lay 35 = .ok (.ifCond .ne 14, 3) := by decide +kernel
theorem dX9_lay_38 : decode cX9_lay 38 = .ok (.aload_n 0, 1) := by decide +kernel
theorem dX9_lay_39 : decode cX9_lay 39 = .ok (.getfield 10, 3) := by decide +kernel
theorem dX9_lay_42 : decode cX9_lay 42 = .ok (.iload_n 2, 1) := by decide +kernel
theorem dX9_lay_43 : decode cX9_lay 43 = .ok (.invokevirtual 95, 3) := by decide +kernel
theorem dX9_lay_46 : decode cX9_lay 46 = .ok (.goto 4, 3) := by decide +kernel
theorem dX9_lay_49 : decode cX9_lay 49 = .ok (.iload_n 3, 1) := by decide +kernel
theorem dX9_lay_50 : decode cX9_lay 50 = .ok (.ireturn, 1) := by decide +kernel
theorem dX9_swap_0 : decode cX9_swap 0 = .ok (.iload_n 1, 1) := by decide +kernel
theorem dX9_swap_1 : decode cX9_swap 1 = .ok (.invokestatic 92, 3) := by decide +kernel
theorem dX9_swap_4 : decode cX9_swap 4 = .ok (.ifCond .eq 14, 3) := by decide +kernel
theorem dX9_swap_7 : decode cX9_swap 7 = .ok (.aload_n 0, 1) := by decide +kernel
theorem dX9_swap_8 : decode cX9_swap 8 = .ok (.getfield 10, 3) := by decide +kernel
theorem dX9_swap_11 : decode cX9_swap 11 = .ok (.iload_n 2, 1) := by decide +kernel
theorem dX9_swap_12 : decode cX9_swap 12 = .ok (.invokevirtual 73, 3) := by decide +kernel
theorem dX9_swap_15 : decode cX9_swap 15 = .ok (.ifCond .ne 5, 3) := by decide +kernel
theorem dX9_swap_18 : decode cX9_swap 18 = .ok (.iconst (-1), 1) := by decide +kernel
theorem dX9_swap_19 : decode cX9_swap 19 = .ok (.ireturn, 1) := by decide +kernel
theorem dX9_swap_20 : decode cX9_swap 20 = .ok (.aload_n 0, 1) := by decide +kernel
theorem dX9_swap_21 : decode cX9_swap 21 = .ok (.getfield 10, 3) := by decide +kernel
theorem dX9_swap_24 : decode cX9_swap 24 = .ok (.iload_n 1, 1) := by decide +kernel
theorem dX9_swap_25 : decode cX9_swap 25 = .ok (.invokevirtual 104, 3) := by decide +kernel
theorem dX9_swap_28 : decode cX9_swap 28 = .ok (.istore_n 3, 1) := by decide +kernel
theorem dX9_swap_29 : decode cX9_swap 29 = .ok (.aload_n 0, 1) := by decide +kernel
theorem dX9_swap_30 : decode cX9_swap 30 = .ok (.getfield 10, 3) := by decide +kernel
theorem dX9_swap_33 : decode cX9_swap 33 = .ok (.iconst 2, 1) := by decide +kernel
theorem dX9_swap_34 : decode cX9_swap 34 = .ok (.iload_n 1, 1) := by decide +kernel
theorem dX9_swap_35 : decode cX9_swap 35 = .ok (.iload_n 2, 1) := by decide +kernel
theorem dX9_swap_36 : decode cX9_swap 36 = .ok (.invokestatic 145, 3) := by decide +kernel
theorem dX9_swap_39 : decode cX9_swap 39 = .ok (.invokevirtual 149, 3) := by decide +kernel
theorem dX9_swap_42 : decode cX9_swap 42 = .ok (.istore 4, 2) := by decide +kernel
theorem dX9_swap_44 : decode cX9_swap 44 = .ok (.iload 4, 2) := by decide +kernel
theorem dX9_swap_46 : decode cX9_swap 46 = .ok (.ifCond .ne 7, 3) := by decide +kernel
theorem dX9_swap_49 : decode cX9_swap 49 = .ok (.iload_n 3, 1) := by decide +kernel
theorem dX9_swap_50 : decode cX9_swap 50 = .ok (.goto 5, 3) := by decide +kernel
theorem dX9_swap_53 : decode cX9_swap 53 = .ok (.iload 4, 2) := by decide +kernel
theorem dX9_swap_55 : decode cX9_swap 55 = .ok (.ireturn, 1) := by decide +kernel
theorem dX9_push_0 : decode cX9_push 0 = .ok (.iload_n 1, 1) := by decide +kernel
theorem dX9_push_1 : decode cX9_push 1 = .ok (.invokestatic 92, 3) := by decide +kernel
theorem dX9_push_4 : decode cX9_push 4 = .ok (.ifCond .eq 15, 3) := by decide +kernel
theorem dX9_push_7 : decode cX9_push 7 = .ok (.iload_n 2, 1) := by decide +kernel
theorem dX9_push_8 : decode cX9_push 8 = .ok (.invokestatic 92, 3) := by decide +kernel
theorem dX9_push_11 : decode cX9_push 11 = .ok (.ifCond .eq 8, 3) := by decide +kernel
theorem dX9_push_14 : decode cX9_push 14 = .ok (.iload_n 1, 1) := by decide +kernel
theorem dX9_push_15 : decode cX9_push 15 = .ok (.iload_n 2, 1) := by decide +kernel
theorem dX9_push_16 : decode cX9_push 16 = .ok (.if_icmp .ne 5, 3) := by decide +kernel
theorem dX9_push_19 : decode cX9_push 19 = .ok (.iconst (-1), 1) := by decide +kernel
theorem dX9_push_20 : decode cX9_push 20 = .ok (.ireturn, 1) := by decide +kernel
theorem dX9_push_21 : decode cX9_push 21 = .ok (.aload_n 0, 1) := by decide +kernel
theorem dX9_push_22 : decode cX9_push 22 = .ok (.getfield 10, 3) := by decide +kernel
theorem dX9_push_25 : decode cX9_push 25 = .ok (.iload_n 1, 1) := by decide +kernel
theorem dX9_push_26 : decode cX9_push 26 = .ok (.invokevirtual 104, 3) := by decide +kernel
theorem dX9_push_29 : decode cX9_push 29 = .ok (.istore_n 3, 1) := by decide +kernel
theorem dX9_push_30 : decode cX9_push 30 = .ok (.aload_n 0, 1) := by decide +kernel
theorem dX9_push_31 : decode cX9_push 31 = .ok (.getfield 10, 3) := by decide +kernel
theorem dX9_push_34 : decode cX9_push 34 = .ok (.iconst 3, 1) := by decide +kernel
theorem dX9_push_35 : decode cX9_push 35 = .ok (.iload_n 1, 1) := by decide +kernel
theorem dX9_push_36 : decode cX9_push 36 = .ok (.iload_n 2, 1) := by decide +kernel
theorem dX9_push_37 : decode cX9_push 37 = .ok (.invokestatic 145, 3) := by decide +kernel
theorem dX9_push_40 : decode cX9_push 40 = .ok (.invokevirtual 149, 3) := by decide +kernel
theorem dX9_push_43 : decode cX9_push 43 = .ok (.istore 4, 2) := by decide +kernel
theorem dX9_push_45 : decode cX9_push 45 = .ok (.iload 4, 2) := by decide +kernel
theorem dX9_push_47 : decode cX9_push 47 = .ok (.ifCond .ne 7, 3) := by decide +kernel
theorem dX9_push_50 : decode cX9_push 50 = .ok (.iload_n 3, 1) := by decide +kernel
theorem dX9_push_51 : decode cX9_push 51 = .ok (.goto 5, 3) := by decide +kernel
theorem dX9_push_54 : decode cX9_push 54 = .ok (.iload 4, 2) := by decide +kernel
theorem dX9_push_56 : decode cX9_push 56 = .ok (.ireturn, 1) := by decide +kernel
theorem dX9_turn_0 : decode cX9_turn 0 = .ok (.aload_n 0, 1) := by decide +kernel
theorem dX9_turn_1 : decode cX9_turn 1 = .ok (.getfield 10, 3) := by decide +kernel
theorem dX9_turn_4 : decode cX9_turn 4 = .ok (.invokevirtual 152, 3) := by decide +kernel
theorem dX9_turn_7 : decode cX9_turn 7 = .ok (.aload_n 0, 1) := by decide +kernel
theorem dX9_turn_8 : decode cX9_turn 8 = .ok (.getfield 10, 3) := by decide +kernel
theorem dX9_turn_11 : decode cX9_turn 11 = .ok (.invokevirtual 155, 3) := by decide +kernel
theorem dX9_turn_14 : decode cX9_turn 14 = .ok (.ireturn, 1) := by decide +kernel
theorem dX9_had_0 : decode cX9_had 0 = .ok (.aload_n 0, 1) := by decide +kernel
theorem dX9_had_1 : decode cX9_had 1 = .ok (.getfield 10, 3) := by decide +kernel
theorem dX9_had_4 : decode cX9_had 4 = .ok (.iload_n 1, 1) := by decide +kernel
theorem dX9_had_5 : decode cX9_had 5 = .ok (.invokevirtual 73, 3) := by decide +kernel
theorem dX9_had_8 : decode cX9_had 8 = .ok (.ifCond .eq 12, 3) := by decide +kernel
theorem dX9_had_11 : decode cX9_had 11 = .ok (.iload_n 2, 1) := by decide +kernel
theorem dX9_had_12 : decode cX9_had 12 = .ok (.iconst (-1), 1) := by decide +kernel
theorem dX9_had_13 : decode cX9_had 13 = .ok (.iconst 2, 1) := by decide +kernel
theorem dX9_had_14 : decode cX9_had 14 = .ok (.invokestatic 61, 3) := by decide +kernel
theorem dX9_had_17 : decode cX9_had 17 = .ok (.ifCond .ne 5, 3) := by decide +kernel
theorem dX9_had_20 : decode cX9_had 20 = .ok (.iconst (-1), 1) := by decide +kernel
theorem dX9_had_21 : decode cX9_had 21 = .ok (.ireturn, 1) := by decide +kernel
theorem dX9_had_22 : decode cX9_had 22 = .ok (.aload_n 0, 1) := by decide +kernel
theorem dX9_had_23 : decode cX9_had 23 = .ok (.getfield 10, 3) := by decide +kernel
theorem dX9_had_26 : decode cX9_had 26 = .ok (.iload_n 1, 1) := by decide +kernel
theorem dX9_had_27 : decode cX9_had 27 = .ok (.invokevirtual 86, 3) := by decide +kernel
theorem dX9_had_30 : decode cX9_had 30 = .ok (.bipush 7, 2) := by decide +kernel
theorem dX9_had_32 : decode cX9_had 32 = .ok (.if_icmp .ne 6, 3) := by decide +kernel
theorem dX9_had_35 : decode cX9_had 35 = .ok (.bipush (-2), 2) := by decide +kernel
theorem dX9_had_37 : decode cX9_had 37 = .ok (.ireturn, 1) := by decide +kernel
theorem dX9_had_38 : decode cX9_had 38 = .ok (.aload_n 0, 1) := by decide +kernel
theorem dX9_had_39 : decode cX9_had 39 = .ok (.getfield 22, 3) := by decide +kernel
theorem dX9_had_42 : decode cX9_had 42 = .ok (.aload_n 0, 1) := by decide +kernel
theorem dX9_had_43 : decode cX9_had 43 = .ok (.getfield 10, 3) := by decide +kernel
theorem dX9_had_46 : decode cX9_had 46 = .ok (.iload_n 1, 1) := by decide +kernel
theorem dX9_had_47 : decode cX9_had 47 = .ok (.invokevirtual 158, 3) := by decide +kernel
theorem dX9_had_50 : decode cX9_had 50 = .ok (.istore_n 3, 1) := by decide +kernel
theorem dX9_had_51 : decode cX9_had 51 = .ok (.iload_n 3, 1) := by decide +kernel
theorem dX9_had_52 : decode cX9_had 52 = .ok (.ifCond .lt 8, 3) := by decide +kernel
theorem dX9_had_55 : decode cX9_had 55 = .ok (.iload_n 2, 1) := by decide +kernel
theorem dX9_had_56 : decode cX9_had 56 = .ok (.iload_n 3, 1) := by decide +kernel
theorem dX9_had_57 : decode cX9_had 57 = .ok (.if_icmp .lt 6, 3) := by decide +kernel
theorem dX9_had_60 : decode cX9_had 60 = .ok (.bipush (-4), 2) := by decide +kernel
theorem dX9_had_62 : decode cX9_had 62 = .ok (.ireturn, 1) := by decide +kernel
theorem dX9_had_63 : decode cX9_had 63 = .ok (.iload_n 2, 1) := by decide +kernel
theorem dX9_had_64 : decode cX9_had 64 = .ok (.ifCond .ge 7, 3) := by decide +kernel
theorem dX9_had_67 : decode cX9_had 67 = .ok (.iload_n 3, 1) := by decide +kernel
theorem dX9_had_68 : decode cX9_had 68 = .ok (.goto 11, 3) := by decide +kernel
theorem dX9_had_71 : decode cX9_had 71 = .ok (.aload_n 0, 1) := by decide +kernel
theorem dX9_had_72 : decode cX9_had 72 = .ok (.getfield 22, 3) := by decide +kernel
theorem dX9_had_75 : decode cX9_had 75 = .ok (.iload_n 2, 1) := by decide +kernel
theorem dX9_had_76 : decode cX9_had 76 = .ok (.invokevirtual 161, 3) := by decide +kernel
theorem dX9_had_79 : decode cX9_had 79 = .ok (.ireturn, 1) := by decide +kernel
theorem dX9_under_0 : decode cX9_under 0 = .ok (.iload_n 1, 1) := by decide +kernel
theorem dX9_under_1 : decode cX9_under 1 = .ok (.invokestatic 65, 3) := by decide +kernel
theorem dX9_under_4 : decode cX9_under 4 = .ok (.ifCond .eq 14, 3) := by decide +kernel
theorem dX9_under_7 : decode cX9_under 7 = .ok (.aload_n 0, 1) := by decide +kernel
theorem dX9_under_8 : decode cX9_under 8 = .ok (.getfield 10, 3) := by decide +kernel
theorem dX9_under_11 : decode cX9_under 11 = .ok (.iload_n 1, 1) := by decide +kernel
theorem dX9_under_12 : decode cX9_under 12 = .ok (.invokestatic 164, 3) := by decide +kernel
theorem dX9_under_15 : decode cX9_under 15 = .ok (.goto 4, 3) := by decide +kernel
theorem dX9_under_18 : decode cX9_under 18 = .ok (.iconst (-1), 1) := by decide +kernel
theorem dX9_under_19 : decode cX9_under 19 = .ok (.ireturn, 1) := by decide +kernel
theorem dX9_own_0 : decode cX9_own 0 = .ok (.aload_n 0, 1) := by decide +kernel
theorem dX9_own_1 : decode cX9_own 1 = .ok (.getfield 29, 3) := by decide +kernel
theorem dX9_own_4 : decode cX9_own 4 = .ok (.aload_n 0, 1) := by decide +kernel
theorem dX9_own_5 : decode cX9_own 5 = .ok (.getfield 10, 3) := by decide +kernel
theorem dX9_own_8 : decode cX9_own 8 = .ok (.invokevirtual 167, 3) := by decide +kernel
theorem dX9_own_11 : decode cX9_own 11 = .ok (.ireturn, 1) := by decide +kernel
theorem dX9_odds_0 : decode cX9_odds 0 = .ok (.iload_n 1, 1) := by decide +kernel
theorem dX9_odds_1 : decode cX9_odds 1 = .ok (.invokestatic 92, 3) := by decide +kernel
theorem dX9_odds_4 : decode cX9_odds 4 = .ok (.ifCond .eq 42, 3) := by decide +kernel
theorem dX9_odds_7 : decode cX9_odds 7 = .ok (.iload_n 2, 1) := by decide +kernel
theorem dX9_odds_8 : decode cX9_odds 8 = .ok (.iconst 0, 1) := by decide +kernel
theorem dX9_odds_9 : decode cX9_odds 9 = .ok (.bipush 99, 2) := by decide +kernel
theorem dX9_odds_11 : decode cX9_odds 11 = .ok (.invokestatic 61, 3) := by decide +kernel
theorem dX9_odds_14 : decode cX9_odds 14 = .ok (.ifCond .eq 32, 3) := by decide +kernel
theorem dX9_odds_17 : decode cX9_odds 17 = .ok (.iload_n 3, 1) := by decide +kernel
theorem dX9_odds_18 : decode cX9_odds 18 = .ok (.iconst 1, 1) := by decide +kernel
theorem dX9_odds_19 : decode cX9_odds 19 = .ok (.bipush 6, 2) := by decide +kernel
theorem dX9_odds_21 : decode cX9_odds 21 = .ok (.invokestatic 61, 3) := by decide +kernel
theorem dX9_odds_24 : decode cX9_odds 24 = .ok (.ifCond .eq 22, 3) := by decide +kernel
theorem dX9_odds_27 : decode cX9_odds 27 = .ok (.iload 4, 2) := by decide +kernel
theorem dX9_odds_29 : decode cX9_odds 29 = .ok (.iconst 0, 1) := by decide +kernel
theorem dX9_odds_30 : decode cX9_odds 30 = .ok (.bipush 8, 2) := by decide +kernel
theorem dX9_odds_32 : decode cX9_odds 32 = .ok (.invokestatic 61, 3) := by decide +kernel
theorem dX9_odds_35 : decode cX9_odds 35 = .ok (.ifCond .eq 11, 3) := by decide +kernel
theorem dX9_odds_38 : decode cX9_odds 38 = .ok (.iload 5, 2) := by decide +kernel
theorem dX9_odds_40 : decode cX9_odds 40 = .ok (.invokestatic 171, 3) := by decide +kernel
theorem dX9_odds_43 : decode cX9_odds 43 = .ok (.ifCond .ne 5, 3) := by decide +kernel
theorem dX9_odds_46 : decode cX9_odds 46 = .ok (.iconst (-1), 1) := by decide +kernel
theorem dX9_odds_47 : decode cX9_odds 47 = .ok (.ireturn, 1) := by decide +kernel
theorem dX9_odds_48 : decode cX9_odds 48 = .ok (.aload_n 0, 1) := by decide +kernel
theorem dX9_odds_49 : decode cX9_odds 49 = .ok (.getfield 10, 3) := by decide +kernel
theorem dX9_odds_52 : decode cX9_odds 52 = .ok (.iload_n 1, 1) := by decide +kernel
theorem dX9_odds_53 : decode cX9_odds 53 = .ok (.iload_n 2, 1) := by decide +kernel
theorem dX9_odds_54 : decode cX9_odds 54 = .ok (.invokevirtual 174, 3) := by decide +kernel
theorem dX9_odds_57 : decode cX9_odds 57 = .ok (.ifCond .eq 11, 3) := by decide +kernel
theorem dX9_odds_60 : decode cX9_odds 60 = .ok (.bipush 8, 2) := by decide +kernel
theorem dX9_odds_62 : decode cX9_odds 62 = .ok (.iload 4, 2) := by decide +kernel
theorem dX9_odds_64 : decode cX9_odds 64 = .ok (.isub, 1) := by decide +kernel
theorem dX9_odds_65 : decode cX9_odds 65 = .ok (.goto 5, 3) := by decide +kernel
theorem dX9_odds_68 : decode cX9_odds 68 = .ok (.bipush 8, 2) := by decide +kernel
theorem dX9_odds_70 : decode cX9_odds 70 = .ok (.istore 6, 2) := by decide +kernel
theorem dX9_odds_72 : decode cX9_odds 72 = .ok (.iload 6, 2) := by decide +kernel
theorem dX9_odds_74 : decode cX9_odds 74 = .ok (.iload_n 3, 1) := by decide +kernel
theorem dX9_odds_75 : decode cX9_odds 75 = .ok (.invokestatic 178, 3) := by decide +kernel
theorem dX9_odds_78 : decode cX9_odds 78 = .ok (.bipush 8, 2) := by decide +kernel
theorem dX9_odds_80 : decode cX9_odds 80 = .ok (.iload_n 3, 1) := by decide +kernel
theorem dX9_odds_81 : decode cX9_odds 81 = .ok (.invokestatic 178, 3) := by decide +kernel
theorem dX9_odds_84 : decode cX9_odds 84 = .ok (.iload 5, 2) := by decide +kernel
theorem dX9_odds_86 : decode cX9_odds 86 = .ok (.invokestatic 182, 3) := by decide +kernel
theorem dX9_odds_89 : decode cX9_odds 89 = .ok (.ireturn, 1) := by decide +kernel
theorem dX9_share_0 : decode cX9_share 0 = .ok (.iload_n 1, 1) := by decide +kernel
theorem dX9_share_1 : decode cX9_share 1 = .ok (.invokestatic 65, 3) := by decide +kernel
theorem dX9_share_4 : decode cX9_share 4 = .ok (.ifCond .eq 28, 3) := by decide +kernel
theorem dX9_share_7 : decode cX9_share 7 = .ok (.iload_n 2, 1) := by decide +kernel
theorem dX9_share_8 : decode cX9_share 8 = .ok (.iconst 0, 1) := by decide +kernel
theorem dX9_share_9 : decode cX9_share 9 = .ok (.bipush 15, 2) := by decide +kernel
theorem dX9_share_11 : decode cX9_share 11 = .ok (.invokestatic 61, 3) := by decide +kernel
theorem dX9_share_14 : decode cX9_share 14 = .ok (.ifCond .eq 18, 3) := by decide +kernel
theorem dX9_share_17 : decode cX9_share 17 = .ok (.iload_n 3, 1) := by decide +kernel
theorem dX9_share_18 : decode cX9_share 18 = .ok (.invokestatic 171, 3) := by decide +kernel
theorem dX9_share_21 : decode cX9_share 21 = .ok (.ifCond .eq 11, 3) := by decide +kernel
theorem dX9_share_24 : decode cX9_share 24 = .ok (.iload_n 2, 1) := by decide +kernel
theorem dX9_share_25 : decode cX9_share 25 = .ok (.iload_n 1, 1) := by decide +kernel
theorem dX9_share_26 : decode cX9_share 26 = .ok (.invokestatic 185, 3) := by decide +kernel
theorem dX9_share_29 : decode cX9_share 29 = .ok (.ifCond .ne 5, 3) := by decide +kernel
theorem dX9_share_32 : decode cX9_share 32 = .ok (.iconst (-1), 1) := by decide +kernel
theorem dX9_share_33 : decode cX9_share 33 = .ok (.ireturn, 1) := by decide +kernel
theorem dX9_share_34 : decode cX9_share 34 = .ok (.aload_n 0, 1) := by decide +kernel
theorem dX9_share_35 : decode cX9_share 35 = .ok (.getfield 10, 3) := by decide +kernel
theorem dX9_share_38 : decode cX9_share 38 = .ok (.bipush 6, 2) := by decide +kernel
theorem dX9_share_40 : decode cX9_share 40 = .ok (.invokevirtual 95, 3) := by decide +kernel
theorem dX9_share_43 : decode cX9_share 43 = .ok (.istore 4, 2) := by decide +kernel
theorem dX9_share_45 : decode cX9_share 45 = .ok (.iconst 0, 1) := by decide +kernel
theorem dX9_share_46 : decode cX9_share 46 = .ok (.istore 5, 2) := by decide +kernel
theorem dX9_share_48 : decode cX9_share 48 = .ok (.iload 5, 2) := by decide +kernel
theorem dX9_share_50 : decode cX9_share 50 = .ok (.iconst 4, 1) := by decide +kernel
theorem dX9_share_51 : decode cX9_share 51 = .ok (.if_icmp .ge 32, 3) := by decide +kernel
theorem dX9_share_54 : decode cX9_share 54 = .ok (.iload_n 2, 1) := by decide +kernel
theorem dX9_share_55 : decode cX9_share 55 = .ok (.iload 5, 2) := by decide +kernel
theorem dX9_share_57 : decode cX9_share 57 = .ok (.invokestatic 185, 3) := by decide +kernel
theorem dX9_share_60 : decode cX9_share 60 = .ok (.ifCond .eq 17, 3) := by decide +kernel
theorem dX9_share_63 : decode cX9_share 63 = .ok (.iload 4, 2) := by decide +kernel
theorem dX9_share_65 : decode cX9_share 65 = .ok (.aload_n 0, 1) := by decide +kernel
theorem dX9_share_66 : decode cX9_share 66 = .ok (.getfield 10, 3) := by decide +kernel
theorem dX9_share_69 : decode cX9_share 69 = .ok (.iload 5, 2) := by decide +kernel
theorem dX9_share_71 : decode cX9_share 71 = .ok (.invokevirtual 188, 3) := by decide +kernel
theorem dX9_share_74 : decode cX9_share 74 = .ok (.isub, 1) := by decide +kernel
theorem dX9_share_75 : decode cX9_share 75 = .ok (.istore 4, 2) := by decide +kernel
theorem dX9_share_77 : decode cX9_share 77 = .ok (.iinc 5 1, 3) := by decide +kernel
theorem dX9_share_80 : decode cX9_share 80 = .ok (.goto (-32), 3) := by decide +kernel
theorem dX9_share_83 : decode cX9_share 83 = .ok (.iload_n 2, 1) := by decide +kernel
theorem dX9_share_84 : decode cX9_share 84 = .ok (.invokestatic 191, 3) := by decide +kernel
theorem dX9_share_87 : decode cX9_share 87 = .ok (.istore 5, 2) := by decide +kernel
theorem dX9_share_89 : decode cX9_share 89 = .ok (.aload_n 0, 1) := by decide +kernel
theorem dX9_share_90 : decode cX9_share 90 = .ok (.getfield 10, 3) := by decide +kernel
theorem dX9_share_93 : decode cX9_share 93 = .ok (.iload_n 1, 1) := by decide +kernel
theorem dX9_share_94 : decode cX9_share 94 = .ok (.invokevirtual 188, 3) := by decide +kernel
theorem dX9_share_97 : decode cX9_share 97 = .ok (.iload 5, 2) := by decide +kernel
theorem dX9_share_99 : decode cX9_share 99 = .ok (.imul, 1) := by decide +kernel
theorem dX9_share_100 : decode cX9_share 100 = .ok (.iload 4, 2) := by decide +kernel
theorem dX9_share_102 : decode cX9_share 102 = .ok (.iadd, 1) := by decide +kernel
theorem dX9_share_103 : decode cX9_share 103 = .ok (.iload 5, 2) := by decide +kernel
theorem dX9_share_105 : decode cX9_share 105 = .ok (.iload_n 3, 1) := by decide +kernel
theorem dX9_share_106 : decode cX9_share 106 = .ok (.invokestatic 182, 3) := by decide +kernel
theorem dX9_share_109 : decode cX9_share 109 = .ok (.ireturn, 1) := by decide +kernel
theorem dX9_image_0 : decode cX9_image 0 = .ok (.aload_n 0, 1) := by decide +kernel
theorem dX9_image_1 : decode cX9_image 1 = .ok (.getfield 16, 3) := by decide +kernel
theorem dX9_image_4 : decode cX9_image 4 = .ok (.aload_n 0, 1) := by decide +kernel
theorem dX9_image_5 : decode cX9_image 5 = .ok (.getfield 10, 3) := by decide +kernel
theorem dX9_image_8 : decode cX9_image 8 = .ok (.invokevirtual 196, 3) := by decide +kernel
theorem dX9_image_11 : decode cX9_image 11 = .ok (.aload_n 0, 1) := by decide +kernel
theorem dX9_image_12 : decode cX9_image 12 = .ok (.iconst 1, 1) := by decide +kernel
theorem dX9_image_13 : decode cX9_image 13 = .ok (.putfield 200, 3) := by decide +kernel
theorem dX9_image_16 : decode cX9_image 16 = .ok (.iconst 1, 1) := by decide +kernel
theorem dX9_image_17 : decode cX9_image 17 = .ok (.ireturn, 1) := by decide +kernel
theorem dX9_restore_0 : decode cX9_restore 0 = .ok (.aload_n 0, 1) := by decide +kernel
theorem dX9_restore_1 : decode cX9_restore 1 = .ok (.getfield 200, 3) := by decide +kernel
theorem dX9_restore_4 : decode cX9_restore 4 = .ok (.ifCond .ne 6, 3) := by decide +kernel
theorem dX9_restore_7 : decode cX9_restore 7 = .ok (.bipush (-4), 2) := by decide +kernel
theorem dX9_restore_9 : decode cX9_restore 9 = .ok (.ireturn, 1) := by decide +kernel
theorem dX9_restore_10 : decode cX9_restore 10 = .ok (.aload_n 0, 1) := by decide +kernel
theorem dX9_restore_11 : decode cX9_restore 11 = .ok (.getfield 10, 3) := by decide +kernel
theorem dX9_restore_14 : decode cX9_restore 14 = .ok (.aload_n 0, 1) := by decide +kernel
theorem dX9_restore_15 : decode cX9_restore 15 = .ok (.getfield 16, 3) := by decide +kernel
theorem dX9_restore_18 : decode cX9_restore 18 = .ok (.invokevirtual 196, 3) := by decide +kernel
theorem dX9_restore_21 : decode cX9_restore 21 = .ok (.iconst 1, 1) := by decide +kernel
theorem dX9_restore_22 : decode cX9_restore 22 = .ok (.ireturn, 1) := by decide +kernel
theorem dX9_dents_0 : decode cX9_dents 0 = .ok (.aload_n 0, 1) := by decide +kernel
theorem dX9_dents_1 : decode cX9_dents 1 = .ok (.iload_n 1, 1) := by decide +kernel
theorem dX9_dents_2 : decode cX9_dents 2 = .ok (.invokevirtual 204, 3) := by decide +kernel
theorem dX9_dents_5 : decode cX9_dents 5 = .ok (.astore 5, 2) := by decide +kernel
theorem dX9_dents_7 : decode cX9_dents 7 = .ok (.aload 5, 2) := by decide +kernel
theorem dX9_dents_9 : decode cX9_dents 9 = .ok (.ifnull 20, 3) := by decide +kernel
theorem dX9_dents_12 : decode cX9_dents 12 = .ok (.iload_n 2, 1) := by decide +kernel
theorem dX9_dents_13 : decode cX9_dents 13 = .ok (.invokestatic 208, 3) := by decide +kernel
theorem dX9_dents_16 : decode cX9_dents 16 = .ok (.ifCond .eq 13, 3) := by decide +kernel
theorem dX9_dents_19 : decode cX9_dents 19 = .ok (.iload 4, 2) := by decide +kernel
theorem dX9_dents_21 : decode cX9_dents 21 = .ok (.iconst 0, 1) := by decide +kernel
theorem dX9_dents_22 : decode cX9_dents 22 = .ok (.iconst 1, 1) := by decide +kernel
theorem dX9_dents_23 : decode cX9_dents 23 = .ok (.invokestatic 61, 3) := by decide +kernel
theorem dX9_dents_26 : decode cX9_dents 26 = .ok (.ifCond .ne 5, 3) := by decide +kernel
theorem dX9_dents_29 : decode cX9_dents 29 = .ok (.iconst (-1), 1) := by decide +kernel
theorem dX9_dents_30 : decode cX9_dents 30 = .ok (.ireturn, 1) := by decide +kernel
theorem dX9_dents_31 : decode cX9_dents 31 = .ok (.aload 5, 2) := by decide +kernel
theorem dX9_dents_33 : decode cX9_dents 33 = .ok (.iload_n 2, 1) := by decide +kernel
theorem dX9_dents_34 : decode cX9_dents 34 = .ok (.iload_n 3, 1) := by decide +kernel
theorem dX9_dents_35 : decode cX9_dents 35 = .ok (.bipush 6, 2) := by decide +kernel
theorem dX9_dents_37 : decode cX9_dents 37 = .ok (.invokevirtual 211, 3) := by decide +kernel
theorem dX9_dents_40 : decode cX9_dents 40 = .ok (.istore 6, 2) := by decide +kernel
theorem dX9_dents_42 : decode cX9_dents 42 = .ok (.iload 6, 2) := by decide +kernel
theorem dX9_dents_44 : decode cX9_dents 44 = .ok (.ifCond .eq 6, 3) := by decide +kernel
theorem dX9_dents_47 : decode cX9_dents 47 = .ok (.iload 6, 2) := by decide +kernel
theorem dX9_dents_49 : decode cX9_dents 49 = .ok (.ireturn, 1) := by decide +kernel
theorem dX9_dents_50 : decode cX9_dents 50 = .ok (.iconst 1, 1) := by decide +kernel
theorem dX9_dents_51 : decode cX9_dents 51 = .ok (.istore 7, 2) := by decide +kernel
theorem dX9_dents_53 : decode cX9_dents 53 = .ok (.iconst 0, 1) := by decide +kernel
theorem dX9_dents_54 : decode cX9_dents 54 = .ok (.istore 8, 2) := by decide +kernel
theorem dX9_dents_56 : decode cX9_dents 56 = .ok (.iconst 0, 1) := by decide +kernel
theorem dX9_dents_57 : decode cX9_dents 57 = .ok (.istore 9, 2) := by decide +kernel
theorem dX9_dents_59 : decode cX9_dents 59 = .ok (.iload 9, 2) := by decide +kernel
theorem dX9_dents_61 : decode cX9_dents 61 = .ok (.bipush 6, 2) := by decide +kernel
theorem dX9_dents_63 : decode cX9_dents 63 = .ok (.if_icmp .ge 52, 3) := by decide +kernel
theorem dX9_dents_66 : decode cX9_dents 66 = .ok (.aload 5, 2) := by decide +kernel
theorem dX9_dents_68 : decode cX9_dents 68 = .ok (.iload_n 3, 1) := by decide +kernel
theorem dX9_dents_69 : decode cX9_dents 69 = .ok (.iload 9, 2) := by decide +kernel
theorem dX9_dents_71 : decode cX9_dents 71 = .ok (.iadd, 1) := by decide +kernel
theorem dX9_dents_72 : decode cX9_dents 72 = .ok (.invokevirtual 214, 3) := by decide +kernel
theorem dX9_dents_75 : decode cX9_dents 75 = .ok (.lstore 10, 2) := by decide +kernel
theorem dX9_dents_77 : decode cX9_dents 77 = .ok (.iload 7, 2) := by decide +kernel
theorem dX9_dents_79 : decode cX9_dents 79 = .ok (.aload_n 0, 1) := by decide +kernel
theorem dX9_dents_80 : decode cX9_dents 80 = .ok (.getfield 10, 3) := by decide +kernel
theorem dX9_dents_83 : decode cX9_dents 83 = .ok (.iload 9, 2) := by decide +kernel
theorem dX9_dents_85 : decode cX9_dents 85 = .ok (.lload 10, 2) := by decide +kernel
theorem dX9_dents_87 : decode cX9_dents 87 = .ok (.invokestatic 218, 3) := by decide +kernel
theorem dX9_dents_90 : decode cX9_dents 90 = .ok (.imul, 1) := by decide +kernel
theorem dX9_dents_91 : decode cX9_dents 91 = .ok (.istore 7, 2) := by decide +kernel
theorem dX9_dents_93 : decode cX9_dents 93 = .ok (.iload 8, 2) := by decide +kernel
theorem dX9_dents_95 : decode cX9_dents 95 = .ok (.aload_n 0, 1) := by decide +kernel
theorem dX9_dents_96 : decode cX9_dents 96 = .ok (.getfield 10, 3) := by decide +kernel
theorem dX9_dents_99 : decode cX9_dents 99 = .ok (.iload 9, 2) := by decide +kernel
theorem dX9_dents_101 : decode cX9_dents 101 = .ok (.lload 10, 2) := by decide +kernel
theorem dX9_dents_103 : decode cX9_dents 103 = .ok (.invokestatic 224, 3) := by decide +kernel
theorem dX9_dents_106 : decode cX9_dents 106 = .ok (.ior, 1) := by decide +kernel
theorem dX9_dents_107 : decode cX9_dents 107 = .ok (.istore 8, 2) := by decide +kernel
theorem dX9_dents_109 : decode cX9_dents 109 = .ok (.iinc 9 1, 3) := by decide +kernel
theorem dX9_dents_112 : decode cX9_dents 112 = .ok (.goto (-53), 3) := by decide +kernel
theorem dX9_dents_115 : decode cX9_dents 115 = .ok (.iload 4, 2) := by decide +kernel
theorem dX9_dents_117 : decode cX9_dents 117 = .ok (.ifCond .ne 6, 3) := by decide +kernel
theorem dX9_dents_120 : decode cX9_dents 120 = .ok (.iload 7, 2) := by decide +kernel
theorem dX9_dents_122 : decode cX9_dents 122 = .ok (.ireturn, 1) := by decide +kernel
theorem dX9_dents_123 : decode cX9_dents 123 = .ok (.iload 7, 2) := by decide +kernel
theorem dX9_dents_125 : decode cX9_dents 125 = .ok (.ifCond .le 8, 3) := by decide +kernel
theorem dX9_dents_128 : decode cX9_dents 128 = .ok (.iload 8, 2) := by decide +kernel
theorem dX9_dents_130 : decode cX9_dents 130 = .ok (.goto 5, 3) := by decide +kernel
theorem dX9_dents_133 : decode cX9_dents 133 = .ok (.bipush (-4), 2) := by decide +kernel
theorem dX9_dents_135 : decode cX9_dents 135 = .ok (.ireturn, 1) := by decide +kernel
theorem dX9_tried_0 : decode cX9_tried 0 = .ok (.aload_n 0, 1) := by decide +kernel
theorem dX9_tried_1 : decode cX9_tried 1 = .ok (.iload_n 1, 1) := by decide +kernel
theorem dX9_tried_2 : decode cX9_tried 2 = .ok (.invokevirtual 204, 3) := by decide +kernel
theorem dX9_tried_5 : decode cX9_tried 5 = .ok (.astore 6, 2) := by decide +kernel
theorem dX9_tried_7 : decode cX9_tried 7 = .ok (.aload 6, 2) := by decide +kernel
theorem dX9_tried_9 : decode cX9_tried 9 = .ok (.ifnull 31, 3) := by decide +kernel
theorem dX9_tried_12 : decode cX9_tried 12 = .ok (.iload_n 2, 1) := by decide +kernel
theorem dX9_tried_13 : decode cX9_tried 13 = .ok (.invokestatic 208, 3) := by decide +kernel
theorem dX9_tried_16 : decode cX9_tried 16 = .ok (.ifCond .eq 24, 3) := by decide +kernel
theorem dX9_tried_19 : decode cX9_tried 19 = .ok (.iload 4, 2) := by decide +kernel
theorem dX9_tried_21 : decode cX9_tried 21 = .ok (.iconst 1, 1) := by decide +kernel
theorem dX9_tried_22 : decode cX9_tried 22 = .ok (.bipush 8, 2) := by decide +kernel
theorem dX9_tried_24 : decode cX9_tried 24 = .ok (.invokestatic 61, 3) := by decide +kernel
theorem dX9_tried_27 : decode cX9_tried 27 = .ok (.ifCond .eq 13, 3) := by decide +kernel
theorem dX9_tried_30 : decode cX9_tried 30 = .ok (.iload 5, 2) := by decide +kernel
theorem dX9_tried_32 : decode cX9_tried 32 = .ok (.iconst 0, 1) := by decide +kernel
theorem dX9_tried_33 : decode cX9_tried 33 = .ok (.iconst 2, 1) := by decide +kernel
theorem dX9_tried_34 : decode cX9_tried 34 = .ok (.invokestatic 61, 3) := by decide +kernel
theorem dX9_tried_37 : decode cX9_tried 37 = .ok (.ifCond .ne 5, 3) := by decide +kernel
theorem dX9_tried_40 : decode cX9_tried 40 = .ok (.iconst (-1), 1) := by decide +kernel
theorem dX9_tried_41 : decode cX9_tried 41 = .ok (.ireturn, 1) := by decide +kernel
theorem dX9_tried_42 : decode cX9_tried 42 = .ok (.aload 6, 2) := by decide +kernel
theorem dX9_tried_44 : decode cX9_tried 44 = .ok (.iload_n 2, 1) := by decide +kernel
theorem dX9_tried_45 : decode cX9_tried 45 = .ok (.iload_n 3, 1) := by decide +kernel
theorem dX9_tried_46 : decode cX9_tried 46 = .ok (.iconst 2, 1) := by decide +kernel
theorem dX9_tried_47 : decode cX9_tried 47 = .ok (.iload 4, 2) := by decide +kernel
theorem dX9_tried_49 : decode cX9_tried 49 = .ok (.imul, 1) := by decide +kernel
theorem dX9_tried_50 : decode cX9_tried 50 = .ok (.invokevirtual 211, 3) := by decide +kernel
theorem dX9_tried_53 : decode cX9_tried 53 = .ok (.istore 7, 2) := by decide +kernel
theorem dX9_tried_55 : decode cX9_tried 55 = .ok (.iload 7, 2) := by decide +kernel
theorem dX9_tried_57 : decode cX9_tried 57 = .ok (.ifCond .eq 6, 3) := by decide +kernel
theorem dX9_tried_60 : decode cX9_tried 60 = .ok (.iload 7, 2) := by decide +kernel
theorem dX9_tried_62 : decode cX9_tried 62 = .ok (.ireturn, 1) := by decide +kernel
theorem dX9_tried_63 : decode cX9_tried 63 = .ok (.iconst 0, 1) := by decide +kernel
theorem dX9_tried_64 : decode cX9_tried 64 = .ok (.istore 8, 2) := by decide +kernel
theorem dX9_tried_66 : decode cX9_tried 66 = .ok (.bipush 99, 2) := by decide +kernel
theorem dX9_tried_68 : decode cX9_tried 68 = .ok (.istore 9, 2) := by decide +kernel
theorem dX9_tried_70 : decode cX9_tried 70 = .ok (.iconst 0, 1) := by decide +kernel
theorem dX9_tried_71 : decode cX9_tried 71 = .ok (.istore 10, 2) := by decide +kernel
theorem dX9_tried_73 : decode cX9_tried 73 = .ok (.iload 10, 2) := by decide +kernel
theorem dX9_tried_75 : decode cX9_tried 75 = .ok (.iload 4, 2) := by decide +kernel
theorem dX9_tried_77 : decode cX9_tried 77 = .ok (.if_icmp .ge 102, 3) := by decide +kernel
theorem dX9_tried_80 : decode cX9_tried 80 = .ok (.aload 6, 2) := by decide +kernel
theorem dX9_tried_82 : decode cX9_tried 82 = .ok (.iload_n 3, 1) := by decide +kernel
theorem dX9_tried_83 : decode cX9_tried 83 = .ok (.iconst 2, 1) := by decide +kernel
theorem dX9_tried_84 : decode cX9_tried 84 = .ok (.iload 10, 2) := by decide +kernel
theorem dX9_tried_86 : decode cX9_tried 86 = .ok (.imul, 1) := by decide +kernel
theorem dX9_tried_87 : decode cX9_tried 87 = .ok (.iadd, 1) := by decide +kernel
theorem dX9_tried_88 : decode cX9_tried 88 = .ok (.invokevirtual 214, 3) := by decide +kernel
theorem dX9_tried_91 : decode cX9_tried 91 = .ok (.lstore 11, 2) := by decide +kernel
theorem dX9_tried_93 : decode cX9_tried 93 = .ok (.aload 6, 2) := by decide +kernel
theorem dX9_tried_95 : decode cX9_tried 95 = .ok (.iload_n 3, 1) := by decide +kernel
theorem dX9_tried_96 : decode cX9_tried 96 = .ok (.iconst 2, 1) := by decide +kernel
theorem dX9_tried_97 : decode cX9_tried 97 = .ok (.iload 10, 2) := by decide +kernel
theorem dX9_tried_99 : decode cX9_tried 99 = .ok (.imul, 1) := by decide +kernel
theorem dX9_tried_100 : decode cX9_tried 100 = .ok (.iadd, 1) := by decide +kernel
theorem dX9_tried_101 : decode cX9_tried 101 = .ok (.iconst 1, 1) := by decide +kernel
theorem dX9_tried_102 : decode cX9_tried 102 = .ok (.iadd, 1) := by decide +kernel
theorem dX9_tried_103 : decode cX9_tried 103 = .ok (.invokevirtual 214, 3) := by decide +kernel
theorem dX9_tried_106 : decode cX9_tried 106 = .ok (.lstore 13, 2) := by decide +kernel
theorem dX9_tried_108 : decode cX9_tried 108 = .ok (.lload 11, 2) := by decide +kernel
theorem dX9_tried_110 : decode cX9_tried 110 = .ok (.lconst 0, 1) := by decide +kernel
theorem dX9_tried_111 : decode cX9_tried 111 = .ok (.lcmp, 1) := by decide +kernel
theorem dX9_tried_112 : decode cX9_tried 112 = .ok (.ifCond .lt 26, 3) := by decide +kernel
theorem dX9_tried_115 : decode cX9_tried 115 = .ok (.lload 11, 2) := by decide +kernel
theorem dX9_tried_117 : decode cX9_tried 117 = .ok (.ldc2_w 227, 3) := by decide +kernel
theorem dX9_tried_120 : decode cX9_tried 120 = .ok (.lcmp, 1) := by decide +kernel
theorem dX9_tried_121 : decode cX9_tried 121 = .ok (.ifCond .gt 17, 3) := by decide +kernel
theorem dX9_tried_124 : decode cX9_tried 124 = .ok (.lload 13, 2) := by decide +kernel
theorem dX9_tried_126 : decode cX9_tried 126 = .ok (.lconst 0, 1) := by decide +kernel
theorem dX9_tried_127 : decode cX9_tried 127 = .ok (.lcmp, 1) := by decide +kernel
theorem dX9_tried_128 : decode cX9_tried 128 = .ok (.ifCond .lt 10, 3) := by decide +kernel
theorem dX9_tried_131 : decode cX9_tried 131 = .ok (.lload 13, 2) := by decide +kernel
theorem dX9_tried_133 : decode cX9_tried 133 = .ok (.lconst 1, 1) := by decide +kernel
theorem dX9_tried_134 : decode cX9_tried 134 = .ok (.lcmp, 1) := by decide +kernel
theorem dX9_tried_135 : decode cX9_tried 135 = .ok (.ifCond .le 6, 3) := by decide +kernel
theorem dX9_tried_138 : decode cX9_tried 138 = .ok (.bipush (-2), 2) := by decide +kernel
theorem dX9_tried_140 : decode cX9_tried 140 = .ok (.ireturn, 1) := by decide +kernel
theorem dX9_tried_141 : decode cX9_tried 141 = .ok (.lload 13, 2) := by decide +kernel
theorem dX9_tried_143 : decode cX9_tried 143 = .ok (.lconst 1, 1) := by decide +kernel
theorem dX9_tried_144 : decode cX9_tried 144 = .ok (.lcmp, 1) := by decide +kernel
theorem dX9_tried_145 : decode cX9_tried 145 = .ok (.ifCond .ne 18, 3) := by decide +kernel
theorem dX9_tried_148 : decode cX9_tried 148 = .ok (.iload 9, 2) := by decide +kernel
theorem dX9_tried_150 : decode cX9_tried 150 = .ok (.lload 11, 2) := by decide +kernel
theorem dX9_tried_152 : decode cX9_tried 152 = .ok (.l2i, 1) := by decide +kernel
theorem dX9_tried_153 : decode cX9_tried 153 = .ok (.iconst 1, 1) := by decide +kernel
theorem dX9_tried_154 : decode cX9_tried 154 = .ok (.isub, 1) := by decide +kernel
theorem dX9_tried_155 : decode cX9_tried 155 = .ok (.invokestatic 229, 3) := by decide +kernel
theorem dX9_tried_158 : decode cX9_tried 158 = .ok (.istore 9, 2) := by decide +kernel
theorem dX9_tried_160 : decode cX9_tried 160 = .ok (.goto 13, 3) := by decide +kernel
theorem dX9_tried_163 : decode cX9_tried 163 = .ok (.iload 8, 2) := by decide +kernel
theorem dX9_tried_165 : decode cX9_tried 165 = .ok (.lload 11, 2) := by decide +kernel
theorem dX9_tried_167 : decode cX9_tried 167 = .ok (.l2i, 1) := by decide +kernel
theorem dX9_tried_168 : decode cX9_tried 168 = .ok (.invokestatic 234, 3) := by decide +kernel
theorem dX9_tried_171 : decode cX9_tried 171 = .ok (.istore 8, 2) := by decide +kernel
theorem dX9_tried_173 : decode cX9_tried 173 = .ok (.iinc 10 1, 3) := by decide +kernel
theorem dX9_tried_176 : decode cX9_tried 176 = .ok (.goto (-103), 3) := by decide +kernel
theorem dX9_tried_179 : decode cX9_tried 179 = .ok (.iload 8, 2) := by decide +kernel
theorem dX9_tried_181 : decode cX9_tried 181 = .ok (.iload 9, 2) := by decide +kernel
theorem dX9_tried_183 : decode cX9_tried 183 = .ok (.iload 5, 2) := by decide +kernel
theorem dX9_tried_185 : decode cX9_tried 185 = .ok (.invokestatic 237, 3) := by decide +kernel
theorem dX9_tried_188 : decode cX9_tried 188 = .ok (.ireturn, 1) := by decide +kernel
theorem dX9_film_0 : decode cX9_film 0 = .ok (.aload_n 0, 1) := by decide +kernel
theorem dX9_film_1 : decode cX9_film 1 = .ok (.iload_n 1, 1) := by decide +kernel
theorem dX9_film_2 : decode cX9_film 2 = .ok (.invokevirtual 204, 3) := by decide +kernel
theorem dX9_film_5 : decode cX9_film 5 = .ok (.astore 4, 2) := by decide +kernel
theorem dX9_film_7 : decode cX9_film 7 = .ok (.aload 4, 2) := by decide +kernel
theorem dX9_film_9 : decode cX9_film 9 = .ok (.ifnull 10, 3) := by decide +kernel
theorem dX9_film_12 : decode cX9_film 12 = .ok (.iload_n 2, 1) := by decide +kernel
theorem dX9_film_13 : decode cX9_film 13 = .ok (.invokestatic 208, 3) := by decide +kernel
theorem dX9_film_16 : decode cX9_film 16 = .ok (.ifCond .ne 5, 3) := by decide +kernel
theorem dX9_film_19 : decode cX9_film 19 = .ok (.iconst (-1), 1) := by decide +kernel
theorem dX9_film_20 : decode cX9_film 20 = .ok (.ireturn, 1) := by decide +kernel
theorem dX9_film_21 : decode cX9_film 21 = .ok (.aload 4, 2) := by decide +kernel
theorem dX9_film_23 : decode cX9_film 23 = .ok (.iload_n 2, 1) := by decide +kernel
theorem dX9_film_24 : decode cX9_film 24 = .ok (.iload_n 3, 1) := by decide +kernel
theorem dX9_film_25 : decode cX9_film 25 = .ok (.bipush 6, 2) := by decide +kernel
theorem dX9_film_27 : decode cX9_film 27 = .ok (.invokevirtual 211, 3) := by decide +kernel
theorem dX9_film_30 : decode cX9_film 30 = .ok (.istore 5, 2) := by decide +kernel
theorem dX9_film_32 : decode cX9_film 32 = .ok (.iload 5, 2) := by decide +kernel
theorem dX9_film_34 : decode cX9_film 34 = .ok (.ifCond .eq 6, 3) := by decide +kernel
theorem dX9_film_37 : decode cX9_film 37 = .ok (.iload 5, 2) := by decide +kernel
theorem dX9_film_39 : decode cX9_film 39 = .ok (.ireturn, 1) := by decide +kernel
theorem dX9_film_40 : decode cX9_film 40 = .ok (.iconst 0, 1) := by decide +kernel
theorem dX9_film_41 : decode cX9_film 41 = .ok (.istore 6, 2) := by decide +kernel
theorem dX9_film_43 : decode cX9_film 43 = .ok (.iload 6, 2) := by decide +kernel
theorem dX9_film_45 : decode cX9_film 45 = .ok (.bipush 6, 2) := by decide +kernel
theorem dX9_film_47 : decode cX9_film 47 = .ok (.if_icmp .ge 28, 3) := by decide +kernel
theorem dX9_film_50 : decode cX9_film 50 = .ok (.aload 4, 2) := by decide +kernel
theorem dX9_film_52 : decode cX9_film 52 = .ok (.iload_n 3, 1) := by decide +kernel
theorem dX9_film_53 : decode cX9_film 53 = .ok (.iload 6, 2) := by decide +kernel
theorem dX9_film_55 : decode cX9_film 55 = .ok (.iadd, 1) := by decide +kernel
theorem dX9_film_56 : decode cX9_film 56 = .ok (.aload_n 0, 1) := by decide +kernel
theorem dX9_film_57 : decode cX9_film 57 = .ok (.getfield 10, 3) := by decide +kernel
theorem dX9_film_60 : decode cX9_film 60 = .ok (.iload 6, 2) := by decide +kernel
theorem dX9_film_62 : decode cX9_film 62 = .ok (.invokevirtual 95, 3) := by decide +kernel
theorem dX9_film_65 : decode cX9_film 65 = .ok (.i2l, 1) := by decide +kernel
theorem dX9_film_66 : decode cX9_film 66 = .ok (.invokevirtual 240, 3) := by decide +kernel
theorem dX9_film_69 : decode cX9_film 69 = .ok (.iinc 6 1, 3) := by decide +kernel
theorem dX9_film_72 : decode cX9_film 72 = .ok (.goto (-29), 3) := by decide +kernel
theorem dX9_film_75 : decode cX9_film 75 = .ok (.bipush 6, 2) := by decide +kernel
theorem dX9_film_77 : decode cX9_film 77 = .ok (.ireturn, 1) := by decide +kernel
theorem dX9_sheet_0 : decode cX9_sheet 0 = .ok (.aload_n 0, 1) := by decide +kernel
theorem dX9_sheet_1 : decode cX9_sheet 1 = .ok (.iload_n 1, 1) := by decide +kernel
theorem dX9_sheet_2 : decode cX9_sheet 2 = .ok (.invokevirtual 204, 3) := by decide +kernel
theorem dX9_sheet_5 : decode cX9_sheet 5 = .ok (.astore 4, 2) := by decide +kernel
theorem dX9_sheet_7 : decode cX9_sheet 7 = .ok (.aload 4, 2) := by decide +kernel
theorem dX9_sheet_9 : decode cX9_sheet 9 = .ok (.ifnull 16, 3) := by decide +kernel
theorem dX9_sheet_12 : decode cX9_sheet 12 = .ok (.iload_n 2, 1) := by decide +kernel
theorem dX9_sheet_13 : decode cX9_sheet 13 = .ok (.invokestatic 208, 3) := by decide +kernel
theorem dX9_sheet_16 : decode cX9_sheet 16 = .ok (.ifCond .eq 9, 3) := by decide +kernel
theorem dX9_sheet_19 : decode cX9_sheet 19 = .ok (.iload_n 3, 1) := by decide +kernel
theorem dX9_sheet_20 : decode cX9_sheet 20 = .ok (.bipush 24, 2) := by decide +kernel
theorem dX9_sheet_22 : decode cX9_sheet 22 = .ok (.if_icmp .le 5, 3) := by decide +kernel
theorem dX9_sheet_25 : decode cX9_sheet 25 = .ok (.iconst (-1), 1) := by decide +kernel
theorem dX9_sheet_26 : decode cX9_sheet 26 = .ok (.ireturn, 1) := by decide +kernel
theorem dX9_sheet_27 : decode cX9_sheet 27 = .ok (.iload_n 3, 1) := by decide +kernel
theorem dX9_sheet_28 : decode cX9_sheet 28 = .ok (.ifCond .ge 6, 3) := by decide +kernel
theorem dX9_sheet_31 : decode cX9_sheet 31 = .ok (.bipush (-14), 2) := by decide +kernel
theorem dX9_sheet_33 : decode cX9_sheet 33 = .ok (.ireturn, 1) := by decide +kernel
theorem dX9_sheet_34 : decode cX9_sheet 34 = .ok (.aload 4, 2) := by decide +kernel
theorem dX9_sheet_36 : decode cX9_sheet 36 = .ok (.iload_n 2, 1) := by decide +kernel
theorem dX9_sheet_37 : decode cX9_sheet 37 = .ok (.iload_n 3, 1) := by decide +kernel
theorem dX9_sheet_38 : decode cX9_sheet 38 = .ok (.invokevirtual 244, 3) := by decide +kernel
theorem dX9_sheet_41 : decode cX9_sheet 41 = .ok (.iload_n 3, 1) := by decide +kernel
theorem dX9_sheet_42 : decode cX9_sheet 42 = .ok (.ireturn, 1) := by decide +kernel
theorem dX9_drop_0 : decode cX9_drop 0 = .ok (.aload_n 0, 1) := by decide +kernel
theorem dX9_drop_1 : decode cX9_drop 1 = .ok (.iload_n 1, 1) := by decide +kernel
theorem dX9_drop_2 : decode cX9_drop 2 = .ok (.invokevirtual 204, 3) := by decide +kernel
theorem dX9_drop_5 : decode cX9_drop 5 = .ok (.astore_n 2, 1) := by decide +kernel
theorem dX9_drop_6 : decode cX9_drop 6 = .ok (.aload_n 2, 1) := by decide +kernel
theorem dX9_drop_7 : decode cX9_drop 7 = .ok (.ifnonnull 5, 3) := by decide +kernel
theorem dX9_drop_10 : decode cX9_drop 10 = .ok (.iconst (-1), 1) := by decide +kernel
theorem dX9_drop_11 : decode cX9_drop 11 = .ok (.ireturn, 1) := by decide +kernel
theorem dX9_drop_12 : decode cX9_drop 12 = .ok (.aload_n 2, 1) := by decide +kernel
theorem dX9_drop_13 : decode cX9_drop 13 = .ok (.invokevirtual 247, 3) := by decide +kernel
theorem dX9_drop_16 : decode cX9_drop 16 = .ok (.ifCond .eq 10, 3) := by decide +kernel
theorem dX9_drop_19 : decode cX9_drop 19 = .ok (.aload_n 2, 1) := by decide +kernel
theorem dX9_drop_20 : decode cX9_drop 20 = .ok (.invokevirtual 251, 3) := by decide +kernel
theorem dX9_drop_23 : decode cX9_drop 23 = .ok (.goto 5, 3) := by decide +kernel
theorem dX9_drop_26 : decode cX9_drop 26 = .ok (.bipush (-11), 2) := by decide +kernel
theorem dX9_drop_28 : decode cX9_drop 28 = .ok (.ireturn, 1) := by decide +kernel
theorem dX9_item_0 : decode cX9_item 0 = .ok (.aload_n 0, 1) := by decide +kernel
theorem dX9_item_1 : decode cX9_item 1 = .ok (.iload_n 1, 1) := by decide +kernel
theorem dX9_item_2 : decode cX9_item 2 = .ok (.invokevirtual 204, 3) := by decide +kernel
theorem dX9_item_5 : decode cX9_item 5 = .ok (.astore 6, 2) := by decide +kernel
theorem dX9_item_7 : decode cX9_item 7 = .ok (.aload 6, 2) := by decide +kernel
theorem dX9_item_9 : decode cX9_item 9 = .ok (.ifnull 10, 3) := by decide +kernel
theorem dX9_item_12 : decode cX9_item 12 = .ok (.iload_n 2, 1) := by decide +kernel
theorem dX9_item_13 : decode cX9_item 13 = .ok (.invokestatic 208, 3) := by decide +kernel
theorem dX9_item_16 : decode cX9_item 16 = .ok (.ifCond .ne 5, 3) := by decide +kernel
theorem dX9_item_19 : decode cX9_item 19 = .ok (.iconst (-1), 1) := by decide +kernel
theorem dX9_item_20 : decode cX9_item 20 = .ok (.ireturn, 1) := by decide +kernel
theorem dX9_item_21 : decode cX9_item 21 = .ok (.aload 6, 2) := by decide +kernel
theorem dX9_item_23 : decode cX9_item 23 = .ok (.iload_n 2, 1) := by decide +kernel
theorem dX9_item_24 : decode cX9_item 24 = .ok (.iload_n 3, 1) := by decide +kernel
theorem dX9_item_25 : decode cX9_item 25 = .ok (.iconst 1, 1) := by decide +kernel
theorem dX9_item_26 : decode cX9_item 26 = .ok (.invokevirtual 211, 3) := by decide +kernel
theorem dX9_item_29 : decode cX9_item 29 = .ok (.istore 7, 2) := by decide +kernel
theorem dX9_item_31 : decode cX9_item 31 = .ok (.iload 7, 2) := by decide +kernel
theorem dX9_item_33 : decode cX9_item 33 = .ok (.ifCond .eq 6, 3) := by decide +kernel
theorem dX9_item_36 : decode cX9_item 36 = .ok (.iload 7, 2) := by decide +kernel
theorem dX9_item_38 : decode cX9_item 38 = .ok (.ireturn, 1) := by decide +kernel
theorem dX9_item_39 : decode cX9_item 39 = .ok (.aload 6, 2) := by decide +kernel
theorem dX9_item_41 : decode cX9_item 41 = .ok (.iload_n 3, 1) := by decide +kernel
theorem dX9_item_42 : decode cX9_item 42 = .ok (.lload 4, 2) := by decide +kernel
theorem dX9_item_44 : decode cX9_item 44 = .ok (.invokevirtual 240, 3) := by decide +kernel
theorem dX9_item_47 : decode cX9_item 47 = .ok (.iconst 1, 1) := by decide +kernel
theorem dX9_item_48 : decode cX9_item 48 = .ok (.ireturn, 1) := by decide +kernel
theorem dX9_copy_0 : decode cX9_copy 0 = .ok (.aload_n 0, 1) := by decide +kernel
theorem dX9_copy_1 : decode cX9_copy 1 = .ok (.iload_n 1, 1) := by decide +kernel
theorem dX9_copy_2 : decode cX9_copy 2 = .ok (.invokevirtual 204, 3) := by decide +kernel
theorem dX9_copy_5 : decode cX9_copy 5 = .ok (.astore 6, 2) := by decide +kernel
theorem dX9_copy_7 : decode cX9_copy 7 = .ok (.aload_n 0, 1) := by decide +kernel
theorem dX9_copy_8 : decode cX9_copy 8 = .ok (.iload_n 3, 1) := by decide +kernel
theorem dX9_copy_9 : decode cX9_copy 9 = .ok (.invokevirtual 204, 3) := by decide +kernel
theorem dX9_copy_12 : decode cX9_copy 12 = .ok (.astore 7, 2) := by decide +kernel
theorem dX9_copy_14 : decode cX9_copy 14 = .ok (.aload 6, 2) := by decide +kernel
theorem dX9_copy_16 : decode cX9_copy 16 = .ok (.ifnull 8, 3) := by decide +kernel
theorem dX9_copy_19 : decode cX9_copy 19 = .ok (.aload 7, 2) := by decide +kernel
theorem dX9_copy_21 : decode cX9_copy 21 = .ok (.ifnonnull 5, 3) := by decide +kernel
theorem dX9_copy_24 : decode cX9_copy 24 = .ok (.iconst (-1), 1) := by decide +kernel
theorem dX9_copy_25 : decode cX9_copy 25 = .ok (.ireturn, 1) := by decide +kernel
theorem dX9_copy_26 : decode cX9_copy 26 = .ok (.aload 6, 2) := by decide +kernel
theorem dX9_copy_28 : decode cX9_copy 28 = .ok (.invokevirtual 247, 3) := by decide +kernel
theorem dX9_copy_31 : decode cX9_copy 31 = .ok (.ifCond .eq 11, 3) := by decide +kernel
theorem dX9_copy_34 : decode cX9_copy 34 = .ok (.aload 7, 2) := by decide +kernel
theorem dX9_copy_36 : decode cX9_copy 36 = .ok (.invokevirtual 247, 3) := by decide +kernel
theorem dX9_copy_39 : decode cX9_copy 39 = .ok (.ifCond .ne 6, 3) := by decide +kernel
theorem dX9_copy_42 : decode cX9_copy 42 = .ok (.bipush (-11), 2) := by decide +kernel
theorem dX9_copy_44 : decode cX9_copy 44 = .ok (.ireturn, 1) := by decide +kernel
theorem dX9_copy_45 : decode cX9_copy 45 = .ok (.aload 7, 2) := by decide +kernel
theorem dX9_copy_47 : decode cX9_copy 47 = .ok (.aload 6, 2) := by decide +kernel
theorem dX9_copy_49 : decode cX9_copy 49 = .ok (.invokevirtual 254, 3) := by decide +kernel
theorem dX9_copy_52 : decode cX9_copy 52 = .ok (.ifCond .ne 6, 3) := by decide +kernel
theorem dX9_copy_55 : decode cX9_copy 55 = .ok (.bipush (-12), 2) := by decide +kernel
theorem dX9_copy_57 : decode cX9_copy 57 = .ok (.ireturn, 1) := by decide +kernel
theorem dX9_copy_58 : decode cX9_copy 58 = .ok (.aload 6, 2) := by decide +kernel
theorem dX9_copy_60 : decode cX9_copy 60 = .ok (.iload_n 2, 1) := by decide +kernel
theorem dX9_copy_61 : decode cX9_copy 61 = .ok (.iload 5, 2) := by decide +kernel
theorem dX9_copy_63 : decode cX9_copy 63 = .ok (.invokevirtual 258, 3) := by decide +kernel
theorem dX9_copy_66 : decode cX9_copy 66 = .ok (.ifCond .eq 15, 3) := by decide +kernel
theorem dX9_copy_69 : decode cX9_copy 69 = .ok (.aload 7, 2) := by decide +kernel
theorem dX9_copy_71 : decode cX9_copy 71 = .ok (.iload 4, 2) := by decide +kernel
theorem dX9_copy_73 : decode cX9_copy 73 = .ok (.iload 5, 2) := by decide +kernel
theorem dX9_copy_75 : decode cX9_copy 75 = .ok (.invokevirtual 258, 3) := by decide +kernel
theorem dX9_copy_78 : decode cX9_copy 78 = .ok (.ifCond .ne 6, 3) := by decide +kernel
theorem dX9_copy_81 : decode cX9_copy 81 = .ok (.bipush (-13), 2) := by decide +kernel
theorem dX9_copy_83 : decode cX9_copy 83 = .ok (.ireturn, 1) := by decide +kernel
theorem dX9_copy_84 : decode cX9_copy 84 = .ok (.aload 7, 2) := by decide +kernel
theorem dX9_copy_86 : decode cX9_copy 86 = .ok (.iload 4, 2) := by decide +kernel
theorem dX9_copy_88 : decode cX9_copy 88 = .ok (.aload 6, 2) := by decide +kernel
theorem dX9_copy_90 : decode cX9_copy 90 = .ok (.iload_n 2, 1) := by decide +kernel
theorem dX9_copy_91 : decode cX9_copy 91 = .ok (.iload 5, 2) := by decide +kernel
theorem dX9_copy_93 : decode cX9_copy 93 = .ok (.invokevirtual 261, 3) := by decide +kernel
theorem dX9_copy_96 : decode cX9_copy 96 = .ok (.iload 5, 2) := by decide +kernel
theorem dX9_copy_98 : decode cX9_copy 98 = .ok (.ireturn, 1) := by decide +kernel
theorem dX9_isIn_0 : decode cX9_isIn 0 = .ok (.iload_n 0, 1) := by decide +kernel
theorem dX9_isIn_1 : decode cX9_isIn 1 = .ok (.iload_n 1, 1) := by decide +kernel
theorem dX9_isIn_2 : decode cX9_isIn 2 = .ok (.if_icmp .lt 12, 3) := by decide +kernel
theorem dX9_isIn_5 : decode cX9_isIn 5 = .ok (.iload_n 0, 1) := by decide +kernel
theorem dX9_isIn_6 : decode cX9_isIn 6 = .ok (.iload_n 2, 1) := by decide +kernel
theorem dX9_isIn_7 : decode cX9_isIn 7 = .ok (.if_icmp .gt 7, 3) := by decide +kernel
theorem dX9_isIn_10 : decode cX9_isIn 10 = .ok (.iconst 1, 1) := by decide +kernel
theorem dX9_isIn_11 : decode cX9_isIn 11 = .ok (.goto 4, 3) := by decide +kernel
theorem dX9_isIn_14 : decode cX9_isIn 14 = .ok (.iconst 0, 1) := by decide +kernel
theorem dX9_isIn_15 : decode cX9_isIn 15 = .ok (.ireturn, 1) := by decide +kernel
theorem dX9_isPlace_0 : decode cX9_isPlace 0 = .ok (.iload_n 0, 1) := by decide +kernel
theorem dX9_isPlace_1 : decode cX9_isPlace 1 = .ok (.ifCond .lt 13, 3) := by decide +kernel
theorem dX9_isPlace_4 : decode cX9_isPlace 4 = .ok (.iload_n 0, 1) := by decide +kernel
theorem dX9_isPlace_5 : decode cX9_isPlace 5 = .ok (.bipush 6, 2) := by decide +kernel
theorem dX9_isPlace_7 : decode cX9_isPlace 7 = .ok (.if_icmp .ge 7, 3) := by decide +kernel
theorem dX9_isPlace_10 : decode cX9_isPlace 10 = .ok (.iconst 1, 1) := by decide +kernel
theorem dX9_isPlace_11 : decode cX9_isPlace 11 = .ok (.goto 4, 3) := by decide +kernel
theorem dX9_isPlace_14 : decode cX9_isPlace 14 = .ok (.iconst 0, 1) := by decide +kernel
theorem dX9_isPlace_15 : decode cX9_isPlace 15 = .ok (.ireturn, 1) := by decide +kernel
theorem dX9_isTown_0 : decode cX9_isTown 0 = .ok (.iload_n 0, 1) := by decide +kernel
theorem dX9_isTown_1 : decode cX9_isTown 1 = .ok (.ifCond .lt 12, 3) := by decide +kernel
theorem dX9_isTown_4 : decode cX9_isTown 4 = .ok (.iload_n 0, 1) := by decide +kernel
theorem dX9_isTown_5 : decode cX9_isTown 5 = .ok (.iconst 4, 1) := by decide +kernel
theorem dX9_isTown_6 : decode cX9_isTown 6 = .ok (.if_icmp .ge 7, 3) := by decide +kernel
theorem dX9_isTown_9 : decode cX9_isTown 9 = .ok (.iconst 1, 1) := by decide +kernel
theorem dX9_isTown_10 : decode cX9_isTown 10 = .ok (.goto 4, 3) := by decide +kernel
theorem dX9_isTown_13 : decode cX9_isTown 13 = .ok (.iconst 0, 1) := by decide +kernel
theorem dX9_isTown_14 : decode cX9_isTown 14 = .ok (.ireturn, 1) := by decide +kernel
theorem dX9_isLane_0 : decode cX9_isLane 0 = .ok (.iload_n 0, 1) := by decide +kernel
theorem dX9_isLane_1 : decode cX9_isLane 1 = .ok (.iconst 0, 1) := by decide +kernel
theorem dX9_isLane_2 : decode cX9_isLane 2 = .ok (.iconst 2, 1) := by decide +kernel
theorem dX9_isLane_3 : decode cX9_isLane 3 = .ok (.invokestatic 61, 3) := by decide +kernel
theorem dX9_isLane_6 : decode cX9_isLane 6 = .ok (.ireturn, 1) := by decide +kernel
theorem dX9_isPart_0 : decode cX9_isPart 0 = .ok (.iload_n 0, 1) := by decide +kernel
theorem dX9_isPart_1 : decode cX9_isPart 1 = .ok (.iconst 0, 1) := by decide +kernel
theorem dX9_isPart_2 : decode cX9_isPart 2 = .ok (.iconst 1, 1) := by decide +kernel
theorem dX9_isPart_3 : decode cX9_isPart 3 = .ok (.invokestatic 61, 3) := by decide +kernel
theorem dX9_isPart_6 : decode cX9_isPart 6 = .ok (.ireturn, 1) := by decide +kernel
theorem dX9_holds_0 : decode cX9_holds 0 = .ok (.iload_n 0, 1) := by decide +kernel
theorem dX9_holds_1 : decode cX9_holds 1 = .ok (.iload_n 1, 1) := by decide +kernel
theorem dX9_holds_2 : decode cX9_holds 2 = .ok (.ishr, 1) := by decide +kernel
theorem dX9_holds_3 : decode cX9_holds 3 = .ok (.iconst 1, 1) := by decide +kernel
theorem dX9_holds_4 : decode cX9_holds 4 = .ok (.iand, 1) := by decide +kernel
theorem dX9_holds_5 : decode cX9_holds 5 = .ok (.ifCond .eq 7, 3) := by decide +kernel
theorem dX9_holds_8 : decode cX9_holds 8 = .ok (.iconst 1, 1) := by decide +kernel
theorem dX9_holds_9 : decode cX9_holds 9 = .ok (.goto 4, 3) := by decide +kernel
theorem dX9_holds_12 : decode cX9_holds 12 = .ok (.iconst 0, 1) := by decide +kernel
theorem dX9_holds_13 : decode cX9_holds 13 = .ok (.ireturn, 1) := by decide +kernel
theorem dX9_sheetAt_0 : decode cX9_sheetAt 0 = .ok (.iload_n 1, 1) := by decide +kernel
theorem dX9_sheetAt_1 : decode cX9_sheetAt 1 = .ok (.ifCond .lt 21, 3) := by decide +kernel
theorem dX9_sheetAt_4 : decode cX9_sheetAt 4 = .ok (.iload_n 1, 1) := by decide +kernel
theorem dX9_sheetAt_5 : decode cX9_sheetAt 5 = .ok (.aload_n 0, 1) := by decide +kernel
theorem dX9_sheetAt_6 : decode cX9_sheetAt 6 = .ok (.getfield 56, 3) := by decide +kernel
theorem dX9_sheetAt_9 : decode cX9_sheetAt 9 = .ok (.arraylength, 1) := by decide +kernel
theorem dX9_sheetAt_10 : decode cX9_sheetAt 10 = .ok (.if_icmp .ge 12, 3) := by decide +kernel
theorem dX9_sheetAt_13 : decode cX9_sheetAt 13 = .ok (.aload_n 0, 1) := by decide +kernel
theorem dX9_sheetAt_14 : decode cX9_sheetAt 14 = .ok (.getfield 56, 3) := by decide +kernel
theorem dX9_sheetAt_17 : decode cX9_sheetAt 17 = .ok (.iload_n 1, 1) := by decide +kernel
theorem dX9_sheetAt_18 : decode cX9_sheetAt 18 = .ok (.aaload, 1) := by decide +kernel
theorem dX9_sheetAt_19 : decode cX9_sheetAt 19 = .ok (.goto 4, 3) := by decide +kernel
theorem dX9_sheetAt_22 : decode cX9_sheetAt 22 = .ok (.aconst_null, 1) := by decide +kernel
theorem dX9_sheetAt_23 : decode cX9_sheetAt 23 = .ok (.areturn, 1) := by decide +kernel
theorem dX9_amongSenses_0 : decode cX9_amongSenses 0 = .ok (.iload_n 1, 1) := by decide +kernel
theorem dX9_amongSenses_1 : decode cX9_amongSenses 1 = .ok (.iload_n 0, 1) := by decide +kernel
theorem dX9_amongSenses_2 : decode cX9_amongSenses 2 = .ok (.isub, 1) := by decide +kernel
theorem dX9_amongSenses_3 : decode cX9_amongSenses 3 = .ok (.iconst 1, 1) := by decide +kernel
theorem dX9_amongSenses_4 : decode cX9_amongSenses 4 = .ok (.iadd, 1) := by decide +kernel
theorem dX9_amongSenses_5 : decode cX9_amongSenses 5 = .ok (.istore_n 3, 1) := by decide +kernel
theorem dX9_amongSenses_6 : decode cX9_amongSenses 6 = .ok (.iload_n 3, 1) := by decide +kernel
theorem dX9_amongSenses_7 : decode cX9_amongSenses 7 = .ok (.iconst 1, 1) := by decide +kernel
theorem dX9_amongSenses_8 : decode cX9_amongSenses 8 = .ok (.if_icmp .lt 13, 3) := by decide +kernel
theorem dX9_amongSenses_11 : decode cX9_amongSenses 11 = .ok (.iload_n 2, 1) := by decide +kernel
theorem dX9_amongSenses_12 : decode cX9_amongSenses 12 = .ok (.iconst 2, 1) := by decide +kernel
theorem dX9_amongSenses_13 : decode cX9_amongSenses 13 = .ok (.if_icmp .ne 11, 3) := by decide +kernel
theorem dX9_amongSenses_16 : decode cX9_amongSenses 16 = .ok (.iload_n 3, 1) := by decide +kernel
theorem dX9_amongSenses_17 : decode cX9_amongSenses 17 = .ok (.iconst 2, 1) := by decide +kernel
theorem dX9_amongSenses_18 : decode cX9_amongSenses 18 = .ok (.if_icmp .ge 6, 3) := by decide +kernel
theorem dX9_amongSenses_21 : decode cX9_amongSenses 21 = .ok (.bipush (-4), 2) := by decide +kernel
theorem dX9_amongSenses_23 : decode cX9_amongSenses 23 = .ok (.ireturn, 1) := by decide +kernel
theorem dX9_amongSenses_24 : decode cX9_amongSenses 24 = .ok (.iload_n 2, 1) := by decide +kernel
theorem dX9_amongSenses_25 : decode cX9_amongSenses 25 = .ok (.iconst 2, 1) := by decide +kernel
theorem dX9_amongSenses_26 : decode cX9_amongSenses 26 = .ok (.if_icmp .ne 9, 3) := by decide +kernel
theorem dX9_amongSenses_29 : decode cX9_amongSenses 29 = .ok (.iload_n 0, 1) := by decide +kernel
theorem dX9_amongSenses_30 : decode cX9_amongSenses 30 = .ok (.iload_n 3, 1) := by decide +kernel
theorem dX9_amongSenses_31 : decode cX9_amongSenses 31 = .ok (.iconst 2, 1) := by decide +kernel
theorem dX9_amongSenses_32 : decode cX9_amongSenses 32 = .ok (.idiv, 1) := by decide +kernel
theorem dX9_amongSenses_33 : decode cX9_amongSenses 33 = .ok (.iadd, 1) := by decide +kernel
theorem dX9_amongSenses_34 : decode cX9_amongSenses 34 = .ok (.ireturn, 1) := by decide +kernel
theorem dX9_amongSenses_35 : decode cX9_amongSenses 35 = .ok (.iload_n 2, 1) := by decide +kernel
theorem dX9_amongSenses_36 : decode cX9_amongSenses 36 = .ok (.ifCond .ne 7, 3) := by decide +kernel
theorem dX9_amongSenses_39 : decode cX9_amongSenses 39 = .ok (.iload_n 0, 1) := by decide +kernel
theorem dX9_amongSenses_40 : decode cX9_amongSenses 40 = .ok (.goto 4, 3) := by decide +kernel
theorem dX9_amongSenses_43 : decode cX9_amongSenses 43 = .ok (.iload_n 1, 1) := by decide +kernel
theorem dX9_amongSenses_44 : decode cX9_amongSenses 44 = .ok (.ireturn, 1) := by decide +kernel
theorem dX9_power_0 : decode cX9_power 0 = .ok (.iconst 1, 1) := by decide +kernel
theorem dX9_power_1 : decode cX9_power 1 = .ok (.istore_n 2, 1) := by decide +kernel
theorem dX9_power_2 : decode cX9_power 2 = .ok (.iconst 0, 1) := by decide +kernel
theorem dX9_power_3 : decode cX9_power 3 = .ok (.istore_n 3, 1) := by decide +kernel
theorem dX9_power_4 : decode cX9_power 4 = .ok (.iload_n 3, 1) := by decide +kernel
theorem dX9_power_5 : decode cX9_power 5 = .ok (.iload_n 1, 1) := by decide +kernel
theorem dX9_power_6 : decode cX9_power 6 = .ok (.if_icmp .ge 13, 3) := by decide +kernel
theorem dX9_power_9 : decode cX9_power 9 = .ok (.iload_n 2, 1) := by decide +kernel
theorem dX9_power_10 : decode cX9_power 10 = .ok (.iload_n 0, 1) := by decide +kernel
theorem dX9_power_11 : decode cX9_power 11 = .ok (.imul, 1) := by decide +kernel
theorem dX9_power_12 : decode cX9_power 12 = .ok (.istore_n 2, 1) := by decide +kernel
theorem dX9_power_13 : decode cX9_power 13 = .ok (.iinc 3 1, 3) := by decide +kernel
theorem dX9_power_16 : decode cX9_power 16 = .ok (.goto (-12), 3) := by decide +kernel
theorem dX9_power_19 : decode cX9_power 19 = .ok (.iload_n 2, 1) := by decide +kernel
theorem dX9_power_20 : decode cX9_power 20 = .ok (.ireturn, 1) := by decide +kernel
theorem dX9_partOf_0 : decode cX9_partOf 0 = .ok (.iload_n 0, 1) := by decide +kernel
theorem dX9_partOf_1 : decode cX9_partOf 1 = .ok (.iload_n 1, 1) := by decide +kernel
theorem dX9_partOf_2 : decode cX9_partOf 2 = .ok (.invokestatic 265, 3) := by decide +kernel
theorem dX9_partOf_5 : decode cX9_partOf 5 = .ok (.istore_n 3, 1) := by decide +kernel
theorem dX9_partOf_6 : decode cX9_partOf 6 = .ok (.iload_n 2, 1) := by decide +kernel
theorem dX9_partOf_7 : decode cX9_partOf 7 = .ok (.ifCond .ne 7, 3) := by decide +kernel
theorem dX9_partOf_10 : decode cX9_partOf 10 = .ok (.iload_n 0, 1) := by decide +kernel
theorem dX9_partOf_11 : decode cX9_partOf 11 = .ok (.goto 4, 3) := by decide +kernel
theorem dX9_partOf_14 : decode cX9_partOf 14 = .ok (.iload_n 1, 1) := by decide +kernel
theorem dX9_partOf_15 : decode cX9_partOf 15 = .ok (.istore 4, 2) := by decide +kernel
theorem dX9_partOf_17 : decode cX9_partOf 17 = .ok (.iload_n 3, 1) := by decide +kernel
theorem dX9_partOf_18 : decode cX9_partOf 18 = .ok (.ifCond .le 10, 3) := by decide +kernel
theorem dX9_partOf_21 : decode cX9_partOf 21 = .ok (.iload 4, 2) := by decide +kernel
theorem dX9_partOf_23 : decode cX9_partOf 23 = .ok (.iload_n 3, 1) := by decide +kernel
theorem dX9_partOf_24 : decode cX9_partOf 24 = .ok (.idiv, 1) := by decide +kernel
theorem dX9_partOf_25 : decode cX9_partOf 25 = .ok (.goto 5, 3) := by decide +kernel
theorem dX9_partOf_28 : decode cX9_partOf 28 = .ok (.iload 4, 2) := by decide +kernel
theorem dX9_partOf_30 : decode cX9_partOf 30 = .ok (.ireturn, 1) := by decide +kernel
theorem dX9_commonDivisor_0 : decode cX9_commonDivisor 0 = .ok (.iload_n 0, 1) := by decide +kernel
theorem dX9_commonDivisor_1 : decode cX9_commonDivisor 1 = .ok (.istore_n 2, 1) := by decide +kernel
theorem dX9_commonDivisor_2 : decode cX9_commonDivisor 2 = .ok (.iload_n 1, 1) := by decide +kernel
theorem dX9_commonDivisor_3 : decode cX9_commonDivisor 3 = .ok (.istore_n 3, 1) := by decide +kernel
theorem dX9_commonDivisor_4 : decode cX9_commonDivisor 4 = .ok (.iconst 0, 1) := by decide +kernel
theorem dX9_commonDivisor_5 : decode cX9_commonDivisor 5 = .ok (.istore 4, 2) := by decide +kernel
theorem dX9_commonDivisor_7 : decode cX9_commonDivisor 7 = .ok (.iload 4, 2) := by decide +kernel
theorem dX9_commonDivisor_9 : decode cX9_commonDivisor 9 = .ok (.bipush 64, 2) := by decide +kernel
theorem dX9_commonDivisor_11 : decode cX9_commonDivisor 11 = .ok (.if_icmp .ge 23, 3) := by decide +kernel
theorem dX9_commonDivisor_14 : decode cX9_commonDivisor 14 = .ok (.iload_n 3, 1) := by decide +kernel
theorem dX9_commonDivisor_15 : decode cX9_commonDivisor 15 = .ok (.ifCond .le 19, 3) := by decide +kernel
theorem dX9_commonDivisor_18 : decode cX9_commonDivisor 18 = .ok (.iload_n 2, 1) := by decide +kernel
theorem dX9_commonDivisor_19 : decode cX9_commonDivisor 19 = .ok (.iload_n 3, 1) := by decide +kernel
theorem dX9_commonDivisor_20 : decode cX9_commonDivisor 20 = .ok (.irem, 1) := by decide +kernel
theorem dX9_commonDivisor_21 : decode cX9_commonDivisor 21 = .ok (.istore 5, 2) := by decide +kernel
theorem dX9_commonDivisor_23 : decode cX9_commonDivisor 23 = .ok (.iload_n 3, 1) := by decide +kernel
theorem dX9_commonDivisor_24 : decode cX9_commonDivisor 24 = .ok (.istore_n 2, 1) := by decide +kernel
theorem dX9_commonDivisor_25 : decode cX9_commonDivisor 25 = .ok (.iload 5, 2) := by decide +kernel
theorem dX9_commonDivisor_27 : decode cX9_commonDivisor 27 = .ok (.istore_n 3, 1) := by decide +kernel
theorem dX9_commonDivisor_28 : decode cX9_commonDivisor 28 = .ok (.iinc 4 1, 3) := by decide +kernel
theorem dX9_commonDivisor_31 : decode cX9_commonDivisor 31 = .ok (.goto (-24), 3) := by decide +kernel
theorem dX9_commonDivisor_34 : decode cX9_commonDivisor 34 = .ok (.iload_n 2, 1) := by decide +kernel
theorem dX9_commonDivisor_35 : decode cX9_commonDivisor 35 = .ok (.ireturn, 1) := by decide +kernel
theorem dJ6_bitCount_0f7a4_0 : decode cJ6_bitCount_0f7a4 0 = .ok (.iload_n 0, 1) := by decide +kernel
theorem dJ6_bitCount_0f7a4_1 : decode cJ6_bitCount_0f7a4 1 = .ok (.iload_n 0, 1) := by decide +kernel
theorem dJ6_bitCount_0f7a4_2 : decode cJ6_bitCount_0f7a4 2 = .ok (.iconst 1, 1) := by decide +kernel
theorem dJ6_bitCount_0f7a4_3 : decode cJ6_bitCount_0f7a4 3 = .ok (.iushr, 1) := by decide +kernel
theorem dJ6_bitCount_0f7a4_4 : decode cJ6_bitCount_0f7a4 4 = .ok (.ldc_w 265, 3) := by decide +kernel
theorem dJ6_bitCount_0f7a4_7 : decode cJ6_bitCount_0f7a4 7 = .ok (.iand, 1) := by decide +kernel
theorem dJ6_bitCount_0f7a4_8 : decode cJ6_bitCount_0f7a4 8 = .ok (.isub, 1) := by decide +kernel
theorem dJ6_bitCount_0f7a4_9 : decode cJ6_bitCount_0f7a4 9 = .ok (.istore_n 0, 1) := by decide +kernel
theorem dJ6_bitCount_0f7a4_10 : decode cJ6_bitCount_0f7a4 10 = .ok (.iload_n 0, 1) := by decide +kernel
theorem dJ6_bitCount_0f7a4_11 : decode cJ6_bitCount_0f7a4 11 = .ok (.ldc_w 266, 3) := by decide +kernel
theorem dJ6_bitCount_0f7a4_14 : decode cJ6_bitCount_0f7a4 14 = .ok (.iand, 1) := by decide +kernel
theorem dJ6_bitCount_0f7a4_15 : decode cJ6_bitCount_0f7a4 15 = .ok (.iload_n 0, 1) := by decide +kernel
theorem dJ6_bitCount_0f7a4_16 : decode cJ6_bitCount_0f7a4 16 = .ok (.iconst 2, 1) := by decide +kernel
theorem dJ6_bitCount_0f7a4_17 : decode cJ6_bitCount_0f7a4 17 = .ok (.iushr, 1) := by decide +kernel
theorem dJ6_bitCount_0f7a4_18 : decode cJ6_bitCount_0f7a4 18 = .ok (.ldc_w 266, 3) := by decide +kernel
theorem dJ6_bitCount_0f7a4_21 : decode cJ6_bitCount_0f7a4 21 = .ok (.iand, 1) := by decide +kernel
theorem dJ6_bitCount_0f7a4_22 : decode cJ6_bitCount_0f7a4 22 = .ok (.iadd, 1) := by decide +kernel
theorem dJ6_bitCount_0f7a4_23 : decode cJ6_bitCount_0f7a4 23 = .ok (.istore_n 0, 1) := by decide +kernel
theorem dJ6_bitCount_0f7a4_24 : decode cJ6_bitCount_0f7a4 24 = .ok (.iload_n 0, 1) := by decide +kernel
theorem dJ6_bitCount_0f7a4_25 : decode cJ6_bitCount_0f7a4 25 = .ok (.iload_n 0, 1) := by decide +kernel
theorem dJ6_bitCount_0f7a4_26 : decode cJ6_bitCount_0f7a4 26 = .ok (.iconst 4, 1) := by decide +kernel
theorem dJ6_bitCount_0f7a4_27 : decode cJ6_bitCount_0f7a4 27 = .ok (.iushr, 1) := by decide +kernel
theorem dJ6_bitCount_0f7a4_28 : decode cJ6_bitCount_0f7a4 28 = .ok (.iadd, 1) := by decide +kernel
theorem dJ6_bitCount_0f7a4_29 : decode cJ6_bitCount_0f7a4 29 = .ok (.ldc_w 267, 3) := by decide +kernel
theorem dJ6_bitCount_0f7a4_32 : decode cJ6_bitCount_0f7a4 32 = .ok (.iand, 1) := by decide +kernel
theorem dJ6_bitCount_0f7a4_33 : decode cJ6_bitCount_0f7a4 33 = .ok (.istore_n 0, 1) := by decide +kernel
theorem dJ6_bitCount_0f7a4_34 : decode cJ6_bitCount_0f7a4 34 = .ok (.iload_n 0, 1) := by decide +kernel
theorem dJ6_bitCount_0f7a4_35 : decode cJ6_bitCount_0f7a4 35 = .ok (.iload_n 0, 1) := by decide +kernel
theorem dJ6_bitCount_0f7a4_36 : decode cJ6_bitCount_0f7a4 36 = .ok (.bipush 8, 2) := by decide +kernel
theorem dJ6_bitCount_0f7a4_38 : decode cJ6_bitCount_0f7a4 38 = .ok (.iushr, 1) := by decide +kernel
theorem dJ6_bitCount_0f7a4_39 : decode cJ6_bitCount_0f7a4 39 = .ok (.iadd, 1) := by decide +kernel
theorem dJ6_bitCount_0f7a4_40 : decode cJ6_bitCount_0f7a4 40 = .ok (.istore_n 0, 1) := by decide +kernel
theorem dJ6_bitCount_0f7a4_41 : decode cJ6_bitCount_0f7a4 41 = .ok (.iload_n 0, 1) := by decide +kernel
theorem dJ6_bitCount_0f7a4_42 : decode cJ6_bitCount_0f7a4 42 = .ok (.iload_n 0, 1) := by decide +kernel
theorem dJ6_bitCount_0f7a4_43 : decode cJ6_bitCount_0f7a4 43 = .ok (.bipush 16, 2) := by decide +kernel
theorem dJ6_bitCount_0f7a4_45 : decode cJ6_bitCount_0f7a4 45 = .ok (.iushr, 1) := by decide +kernel
theorem dJ6_bitCount_0f7a4_46 : decode cJ6_bitCount_0f7a4 46 = .ok (.iadd, 1) := by decide +kernel
theorem dJ6_bitCount_0f7a4_47 : decode cJ6_bitCount_0f7a4 47 = .ok (.istore_n 0, 1) := by decide +kernel
theorem dJ6_bitCount_0f7a4_48 : decode cJ6_bitCount_0f7a4 48 = .ok (.iload_n 0, 1) := by decide +kernel
theorem dJ6_bitCount_0f7a4_49 : decode cJ6_bitCount_0f7a4 49 = .ok (.bipush 63, 2) := by decide +kernel
theorem dJ6_bitCount_0f7a4_51 : decode cJ6_bitCount_0f7a4 51 = .ok (.iand, 1) := by decide +kernel
theorem dJ6_bitCount_0f7a4_52 : decode cJ6_bitCount_0f7a4 52 = .ok (.ireturn, 1) := by decide +kernel
theorem dJ0_length_8abf5_0 : decode cJ0_length_8abf5 0 = .ok (.aload_n 0, 1) := by decide +kernel
theorem dJ0_length_8abf5_1 : decode cJ0_length_8abf5 1 = .ok (.getfield 9, 3) := by decide +kernel
theorem dJ0_length_8abf5_4 : decode cJ0_length_8abf5 4 = .ok (.arraylength, 1) := by decide +kernel
theorem dJ0_length_8abf5_5 : decode cJ0_length_8abf5 5 = .ok (.aload_n 0, 1) := by decide +kernel
theorem dJ0_length_8abf5_6 : decode cJ0_length_8abf5 6 = .ok (.invokevirtual 335, 3) := by decide +kernel
theorem dJ0_length_8abf5_9 : decode cJ0_length_8abf5 9 = .ok (.ishr, 1) := by decide +kernel
theorem dJ0_length_8abf5_10 : decode cJ0_length_8abf5 10 = .ok (.ireturn, 1) := by decide +kernel
theorem dJ0_indexOf_0f7a4_0 : decode cJ0_indexOf_0f7a4 0 = .ok (.aload_n 0, 1) := by decide +kernel
theorem dJ0_indexOf_0f7a4_1 : decode cJ0_indexOf_0f7a4 1 = .ok (.iload_n 1, 1) := by decide +kernel
theorem dJ0_indexOf_0f7a4_2 : decode cJ0_indexOf_0f7a4 2 = .ok (.iconst 0, 1) := by decide +kernel
theorem dJ0_indexOf_0f7a4_3 : decode cJ0_indexOf_0f7a4 3 = .ok (.invokevirtual 633, 3) := by decide +kernel
theorem dJ0_indexOf_0f7a4_6 : decode cJ0_indexOf_0f7a4 6 = .ok (.ireturn, 1) := by decide +kernel
theorem dJ0_indexOf_7cf53_0 : decode cJ0_indexOf_7cf53 0 = .ok (.aload_n 0, 1) := by decide +kernel
theorem dJ0_indexOf_7cf53_1 : decode cJ0_indexOf_7cf53 1 = .ok (.invokevirtual 492, 3) := by decide +kernel
theorem dJ0_indexOf_7cf53_4 : decode cJ0_indexOf_7cf53 4 = .ok (.ifCond .eq 19, 3) := by decide +kernel
theorem dJ0_indexOf_7cf53_7 : decode cJ0_indexOf_7cf53 7 = .ok (.aload_n 0, 1) := by decide +kernel
theorem dJ0_indexOf_7cf53_8 : decode cJ0_indexOf_7cf53 8 = .ok (.getfield 9, 3) := by decide +kernel
theorem dJ0_indexOf_7cf53_11 : decode cJ0_indexOf_7cf53 11 = .ok (.iload_n 1, 1) := by decide +kernel
theorem dJ0_indexOf_7cf53_12 : decode cJ0_indexOf_7cf53 12 = .ok (.iload_n 2, 1) := by decide +kernel
theorem dJ0_indexOf_7cf53_13 : decode cJ0_indexOf_7cf53 13 = .ok (.aload_n 0, 1) := by decide +kernel
theorem dJ0_indexOf_7cf53_14 : decode cJ0_indexOf_7cf53 14 = .ok (.invokevirtual 505, 3) := by decide +kernel
theorem dJ0_indexOf_7cf53_17 : decode cJ0_indexOf_7cf53 17 = .ok (.invokestatic 637, 3) := by decide +kernel
theorem dJ0_indexOf_7cf53_20 : decode cJ0_indexOf_7cf53 20 = .ok (.goto 16, 3) := by decide +kernel
theorem dJ0_indexOf_7cf53_23 : decode cJ0_indexOf_7cf53 23 = .ok (.aload_n 0, 1) := by decide +kernel
theorem dJ0_indexOf_7cf53_24 : decode cJ0_indexOf_7cf53 24 = .ok (.getfield 9, 3) := by decide +kernel
theorem dJ0_indexOf_7cf53_27 : decode cJ0_indexOf_7cf53 27 = .ok (.iload_n 1, 1) := by decide +kernel
theorem dJ0_indexOf_7cf53_28 : decode cJ0_indexOf_7cf53 28 = .ok (.iload_n 2, 1) := by decide +kernel
theorem dJ0_indexOf_7cf53_29 : decode cJ0_indexOf_7cf53 29 = .ok (.aload_n 0, 1) := by decide +kernel
theorem dJ0_indexOf_7cf53_30 : decode cJ0_indexOf_7cf53 30 = .ok (.invokevirtual 505, 3) := by decide +kernel
theorem dJ0_indexOf_7cf53_33 : decode cJ0_indexOf_7cf53 33 = .ok (.invokestatic 640, 3) := by decide +kernel
theorem dJ0_indexOf_7cf53_36 : decode cJ0_indexOf_7cf53 36 = .ok (.ireturn, 1) := by decide +kernel
theorem dJ0_coder_7d493_0 : decode cJ0_coder_7d493 0 = .ok (.getstatic 38, 3) := by decide +kernel
theorem dJ0_coder_7d493_3 : decode cJ0_coder_7d493 3 = .ok (.ifCond .eq 10, 3) := by decide +kernel
theorem dJ0_coder_7d493_6 : decode cJ0_coder_7d493 6 = .ok (.aload_n 0, 1) := by decide +kernel
theorem dJ0_coder_7d493_7 : decode cJ0_coder_7d493 7 = .ok (.getfield 15, 3) := by decide +kernel
theorem dJ0_coder_7d493_10 : decode cJ0_coder_7d493 10 = .ok (.goto 4, 3) := by decide +kernel
theorem dJ0_coder_7d493_13 : decode cJ0_coder_7d493 13 = .ok (.iconst 1, 1) := by decide +kernel
theorem dJ0_coder_7d493_14 : decode cJ0_coder_7d493 14 = .ok (.ireturn, 1) := by decide +kernel
theorem dJ0_isLatin1_aae02_0 : decode cJ0_isLatin1_aae02 0 = .ok (.getstatic 38, 3) := by decide +kernel
theorem dJ0_isLatin1_aae02_3 : decode cJ0_isLatin1_aae02 3 = .ok (.ifCond .eq 14, 3) := by decide +kernel
theorem dJ0_isLatin1_aae02_6 : decode cJ0_isLatin1_aae02 6 = .ok (.aload_n 0, 1) := by decide +kernel
theorem dJ0_isLatin1_aae02_7 : decode cJ0_isLatin1_aae02 7 = .ok (.getfield 15, 3) := by decide +kernel
theorem dJ0_isLatin1_aae02_10 : decode cJ0_isLatin1_aae02 10 = .ok (.ifCond .ne 7, 3) := by decide +kernel
theorem dJ0_isLatin1_aae02_13 : decode cJ0_isLatin1_aae02 13 = .ok (.iconst 1, 1) := by decide +kernel
theorem dJ0_isLatin1_aae02_14 : decode cJ0_isLatin1_aae02 14 = .ok (.goto 4, 3) := by decide +kernel
theorem dJ0_isLatin1_aae02_17 : decode cJ0_isLatin1_aae02 17 = .ok (.iconst 0, 1) := by decide +kernel
theorem dJ0_isLatin1_aae02_18 : decode cJ0_isLatin1_aae02 18 = .ok (.ireturn, 1) := by decide +kernel
theorem dJ1_canEncode_9a6ad_0 : decode cJ1_canEncode_9a6ad 0 = .ok (.iload_n 0, 1) := by decide +kernel
theorem dJ1_canEncode_9a6ad_1 : decode cJ1_canEncode_9a6ad 1 = .ok (.ifCond .lt 14, 3) := by decide +kernel
theorem dJ1_canEncode_9a6ad_4 : decode cJ1_canEncode_9a6ad 4 = .ok (.iload_n 0, 1) := by decide +kernel
theorem dJ1_canEncode_9a6ad_5 : decode cJ1_canEncode_9a6ad 5 = .ok (.sipush 255, 3) := by decide +kernel
theorem dJ1_canEncode_9a6ad_8 : decode cJ1_canEncode_9a6ad 8 = .ok (.if_icmp .gt 7, 3) := by decide +kernel
theorem dJ1_canEncode_9a6ad_11 : decode cJ1_canEncode_9a6ad 11 = .ok (.iconst 1, 1) := by decide +kernel
theorem dJ1_canEncode_9a6ad_12 : decode cJ1_canEncode_9a6ad 12 = .ok (.goto 4, 3) := by decide +kernel
theorem dJ1_canEncode_9a6ad_15 : decode cJ1_canEncode_9a6ad 15 = .ok (.iconst 0, 1) := by decide +kernel
theorem dJ1_canEncode_9a6ad_16 : decode cJ1_canEncode_9a6ad 16 = .ok (.ireturn, 1) := by decide +kernel
theorem dJ1_indexOf_4cfef_0 : decode cJ1_indexOf_4cfef 0 = .ok (.iload_n 1, 1) := by decide +kernel
theorem dJ1_indexOf_4cfef_1 : decode cJ1_indexOf_4cfef 1 = .ok (.invokestatic 88, 3) := by decide +kernel
theorem dJ1_indexOf_4cfef_4 : decode cJ1_indexOf_4cfef 4 = .ok (.ifCond .ne 5, 3) := by decide +kernel
theorem dJ1_indexOf_4cfef_7 : decode cJ1_indexOf_4cfef 7 = .ok (.iconst (-1), 1) := by decide +kernel
theorem dJ1_indexOf_4cfef_8 : decode cJ1_indexOf_4cfef 8 = .ok (.ireturn, 1) := by decide +kernel
theorem dJ1_indexOf_4cfef_9 : decode cJ1_indexOf_4cfef 9 = .ok (.iload_n 2, 1) := by decide +kernel
theorem dJ1_indexOf_4cfef_10 : decode cJ1_indexOf_4cfef 10 = .ok (.iconst 0, 1) := by decide +kernel
theorem dJ1_indexOf_4cfef_11 : decode cJ1_indexOf_4cfef 11 = .ok (.invokestatic 92, 3) := by decide +kernel
theorem dJ1_indexOf_4cfef_14 : decode cJ1_indexOf_4cfef 14 = .ok (.istore_n 2, 1) := by decide +kernel
theorem dJ1_indexOf_4cfef_15 : decode cJ1_indexOf_4cfef 15 = .ok (.iload_n 3, 1) := by decide +kernel
theorem dJ1_indexOf_4cfef_16 : decode cJ1_indexOf_4cfef 16 = .ok (.aload_n 0, 1) := by decide +kernel
theorem dJ1_indexOf_4cfef_17 : decode cJ1_indexOf_4cfef 17 = .ok (.arraylength, 1) := by decide +kernel
theorem dJ1_indexOf_4cfef_18 : decode cJ1_indexOf_4cfef 18 = .ok (.invokestatic 38, 3) := by decide +kernel
theorem dJ1_indexOf_4cfef_21 : decode cJ1_indexOf_4cfef 21 = .ok (.istore_n 3, 1) := by decide +kernel
theorem dJ1_indexOf_4cfef_22 : decode cJ1_indexOf_4cfef 22 = .ok (.iload_n 2, 1) := by decide +kernel
theorem dJ1_indexOf_4cfef_23 : decode cJ1_indexOf_4cfef 23 = .ok (.iload_n 3, 1) := by decide +kernel
theorem dJ1_indexOf_4cfef_24 : decode cJ1_indexOf_4cfef 24 = .ok (.if_icmp .lt 5, 3) := by decide +kernel
theorem dJ1_indexOf_4cfef_27 : decode cJ1_indexOf_4cfef 27 = .ok (.iconst (-1), 1) := by decide +kernel
theorem dJ1_indexOf_4cfef_28 : decode cJ1_indexOf_4cfef 28 = .ok (.ireturn, 1) := by decide +kernel
theorem dJ1_indexOf_4cfef_29 : decode cJ1_indexOf_4cfef 29 = .ok (.aload_n 0, 1) := by decide +kernel
theorem dJ1_indexOf_4cfef_30 : decode cJ1_indexOf_4cfef 30 = .ok (.iload_n 1, 1) := by decide +kernel
theorem dJ1_indexOf_4cfef_31 : decode cJ1_indexOf_4cfef 31 = .ok (.iload_n 2, 1) := by decide +kernel
theorem dJ1_indexOf_4cfef_32 : decode cJ1_indexOf_4cfef 32 = .ok (.iload_n 3, 1) := by decide +kernel
theorem dJ1_indexOf_4cfef_33 : decode cJ1_indexOf_4cfef 33 = .ok (.invokestatic 95, 3) := by decide +kernel
theorem dJ1_indexOf_4cfef_36 : decode cJ1_indexOf_4cfef 36 = .ok (.ireturn, 1) := by decide +kernel
theorem dJ1_indexOfChar_4cfef_0 : decode cJ1_indexOfChar_4cfef 0 = .ok (.iload_n 1, 1) := by decide +kernel
theorem dJ1_indexOfChar_4cfef_1 : decode cJ1_indexOfChar_4cfef 1 = .ok (.i2b, 1) := by decide +kernel
theorem dJ1_indexOfChar_4cfef_2 : decode cJ1_indexOfChar_4cfef 2 = .ok (.istore 4, 2) := by decide +kernel
theorem dJ1_indexOfChar_4cfef_4 : decode cJ1_indexOfChar_4cfef 4 = .ok (.iload_n 2, 1) := by decide +kernel
theorem dJ1_indexOfChar_4cfef_5 : decode cJ1_indexOfChar_4cfef 5 = .ok (.istore 5, 2) := by decide +kernel
theorem dJ1_indexOfChar_4cfef_7 : decode cJ1_indexOfChar_4cfef 7 = .ok (.iload 5, 2) := by decide +kernel
theorem dJ1_indexOfChar_4cfef_9 : decode cJ1_indexOfChar_4cfef 9 = .ok (.iload_n 3, 1) := by decide +kernel
theorem dJ1_indexOfChar_4cfef_10 : decode cJ1_indexOfChar_4cfef 10 = .ok (.if_icmp .ge 21, 3) := by decide +kernel
theorem dJ1_indexOfChar_4cfef_13 : decode cJ1_indexOfChar_4cfef 13 = .ok (.aload_n 0, 1) := by decide +kernel
theorem dJ1_indexOfChar_4cfef_14 : decode cJ1_indexOfChar_4cfef 14 = .ok (.iload 5, 2) := by decide +kernel
theorem dJ1_indexOfChar_4cfef_16 : decode cJ1_indexOfChar_4cfef 16 = .ok (.baload, 1) := by decide +kernel
theorem dJ1_indexOfChar_4cfef_17 : decode cJ1_indexOfChar_4cfef 17 = .ok (.iload 4, 2) := by decide +kernel
theorem dJ1_indexOfChar_4cfef_19 : decode cJ1_indexOfChar_4cfef 19 = .ok (.if_icmp .ne 6, 3) := by decide +kernel
theorem dJ1_indexOfChar_4cfef_22 : decode cJ1_indexOfChar_4cfef 22 = .ok (.iload 5, 2) := by decide +kernel
theorem dJ1_indexOfChar_4cfef_24 : decode cJ1_indexOfChar_4cfef 24 = .ok (.ireturn, 1) := by decide +kernel
theorem dJ1_indexOfChar_4cfef_25 : decode cJ1_indexOfChar_4cfef 25 = .ok (.iinc 5 1, 3) := by decide +kernel
theorem dJ1_indexOfChar_4cfef_28 : decode cJ1_indexOfChar_4cfef 28 = .ok (.goto (-21), 3) := by decide +kernel
theorem dJ1_indexOfChar_4cfef_31 : decode cJ1_indexOfChar_4cfef 31 = .ok (.iconst (-1), 1) := by decide +kernel
theorem dJ1_indexOfChar_4cfef_32 : decode cJ1_indexOfChar_4cfef 32 = .ok (.ireturn, 1) := by decide +kernel
theorem dJ7_fill_d0a16_0 : decode cJ7_fill_d0a16 0 = .ok (.iconst 0, 1) := by decide +kernel
theorem dJ7_fill_d0a16_1 : decode cJ7_fill_d0a16 1 = .ok (.istore_n 3, 1) := by decide +kernel
theorem dJ7_fill_d0a16_2 : decode cJ7_fill_d0a16 2 = .ok (.aload_n 0, 1) := by decide +kernel
theorem dJ7_fill_d0a16_3 : decode cJ7_fill_d0a16 3 = .ok (.arraylength, 1) := by decide +kernel
theorem dJ7_fill_d0a16_4 : decode cJ7_fill_d0a16 4 = .ok (.istore 4, 2) := by decide +kernel
theorem dJ7_fill_d0a16_6 : decode cJ7_fill_d0a16 6 = .ok (.iload_n 3, 1) := by decide +kernel
theorem dJ7_fill_d0a16_7 : decode cJ7_fill_d0a16 7 = .ok (.iload 4, 2) := by decide +kernel
theorem dJ7_fill_d0a16_9 : decode cJ7_fill_d0a16 9 = .ok (.if_icmp .ge 13, 3) := by decide +kernel
theorem dJ7_fill_d0a16_12 : decode cJ7_fill_d0a16 12 = .ok (.aload_n 0, 1) := by decide +kernel
theorem dJ7_fill_d0a16_13 : decode cJ7_fill_d0a16 13 = .ok (.iload_n 3, 1) := by decide +kernel
theorem dJ7_fill_d0a16_14 : decode cJ7_fill_d0a16 14 = .ok (.lload_n 1, 1) := by decide +kernel
theorem dJ7_fill_d0a16_15 : decode cJ7_fill_d0a16 15 = .ok (.lastore, 1) := by decide +kernel
theorem dJ7_fill_d0a16_16 : decode cJ7_fill_d0a16 16 = .ok (.iinc 3 1, 3) := by decide +kernel
theorem dJ7_fill_d0a16_19 : decode cJ7_fill_d0a16 19 = .ok (.goto (-13), 3) := by decide +kernel
theorem dJ7_fill_d0a16_22 : decode cJ7_fill_d0a16 22 = .ok (.return_, 1) := by decide +kernel
theorem dJ7_fill_53178_0 : decode cJ7_fill_53178 0 = .ok (.iconst 0, 1) := by decide +kernel
theorem dJ7_fill_53178_1 : decode cJ7_fill_53178 1 = .ok (.istore_n 2, 1) := by decide +kernel
theorem dJ7_fill_53178_2 : decode cJ7_fill_53178 2 = .ok (.aload_n 0, 1) := by decide +kernel
theorem dJ7_fill_53178_3 : decode cJ7_fill_53178 3 = .ok (.arraylength, 1) := by decide +kernel
theorem dJ7_fill_53178_4 : decode cJ7_fill_53178 4 = .ok (.istore_n 3, 1) := by decide +kernel
theorem dJ7_fill_53178_5 : decode cJ7_fill_53178 5 = .ok (.iload_n 2, 1) := by decide +kernel
theorem dJ7_fill_53178_6 : decode cJ7_fill_53178 6 = .ok (.iload_n 3, 1) := by decide +kernel
theorem dJ7_fill_53178_7 : decode cJ7_fill_53178 7 = .ok (.if_icmp .ge 13, 3) := by decide +kernel
theorem dJ7_fill_53178_10 : decode cJ7_fill_53178 10 = .ok (.aload_n 0, 1) := by decide +kernel
theorem dJ7_fill_53178_11 : decode cJ7_fill_53178 11 = .ok (.iload_n 2, 1) := by decide +kernel
theorem dJ7_fill_53178_12 : decode cJ7_fill_53178 12 = .ok (.iload_n 1, 1) := by decide +kernel
theorem dJ7_fill_53178_13 : decode cJ7_fill_53178 13 = .ok (.iastore, 1) := by decide +kernel
theorem dJ7_fill_53178_14 : decode cJ7_fill_53178 14 = .ok (.iinc 2 1, 3) := by decide +kernel
theorem dJ7_fill_53178_17 : decode cJ7_fill_53178 17 = .ok (.goto (-12), 3) := by decide +kernel
theorem dJ7_fill_53178_20 : decode cJ7_fill_53178 20 = .ok (.return_, 1) := by decide +kernel
end
section
theorem dX10_init_0 : decode cX10_init 0 = .ok (.aload_n 0, 1) := by decide +kernel
theorem dX10_init_1 : decode cX10_init 1 = .ok (.invokespecial 1, 3) := by decide +kernel
theorem dX10_init_4 : decode cX10_init 4 = .ok (.aload_n 0, 1) := by decide +kernel
theorem dX10_init_5 : decode cX10_init 5 = .ok (.bipush 12, 2) := by decide +kernel
theorem dX10_init_7 : decode cX10_init 7 = .ok (.newarray .int, 2) := by decide +kernel
theorem dX10_init_9 : decode cX10_init 9 = .ok (.putfield 7, 3) := by decide +kernel
theorem dX10_init_12 : decode cX10_init 12 = .ok (.aload_n 0, 1) := by decide +kernel
theorem dX10_init_13 : decode cX10_init 13 = .ok (.bipush 12, 2) := by decide +kernel
theorem dX10_init_15 : decode cX10_init 15 = .ok (.newarray .int, 2) := by decide +kernel
theorem dX10_init_17 : decode cX10_init 17 = .ok (.putfield 13, 3) := by decide +kernel
theorem dX10_init_20 : decode cX10_init 20 = .ok (.aload_n 0, 1) := by decide +kernel
theorem dX10_init_21 : decode cX10_init 21 = .ok (.bipush 12, 2) := by decide +kernel
theorem dX10_init_23 : decode cX10_init 23 = .ok (.newarray .int, 2) := by decide +kernel
theorem dX10_init_25 : decode cX10_init 25 = .ok (.putfield 16, 3) := by decide +kernel
theorem dX10_init_28 : decode cX10_init 28 = .ok (.aload_n 0, 1) := by decide +kernel
theorem dX10_init_29 : decode cX10_init 29 = .ok (.bipush 12, 2) := by decide +kernel
theorem dX10_init_31 : decode cX10_init 31 = .ok (.newarray .int, 2) := by decide +kernel
theorem dX10_init_33 : decode cX10_init 33 = .ok (.putfield 19, 3) := by decide +kernel
theorem dX10_init_36 : decode cX10_init 36 = .ok (.aload_n 0, 1) := by decide +kernel
theorem dX10_init_37 : decode cX10_init 37 = .ok (.bipush 6, 2) := by decide +kernel
theorem dX10_init_39 : decode cX10_init 39 = .ok (.newarray .int, 2) := by decide +kernel
theorem dX10_init_41 : decode cX10_init 41 = .ok (.putfield 22, 3) := by decide +kernel
theorem dX10_init_44 : decode cX10_init 44 = .ok (.aload_n 0, 1) := by decide +kernel
theorem dX10_init_45 : decode cX10_init 45 = .ok (.bipush 72, 2) := by decide +kernel
theorem dX10_init_47 : decode cX10_init 47 = .ok (.newarray .int, 2) := by decide +kernel
theorem dX10_init_49 : decode cX10_init 49 = .ok (.putfield 25, 3) := by decide +kernel
theorem dX10_init_52 : decode cX10_init 52 = .ok (.aload_n 0, 1) := by decide +kernel
theorem dX10_init_53 : decode cX10_init 53 = .ok (.bipush 6, 2) := by decide +kernel
theorem dX10_init_55 : decode cX10_init 55 = .ok (.newarray .int, 2) := by decide +kernel
theorem dX10_init_57 : decode cX10_init 57 = .ok (.putfield 28, 3) := by decide +kernel
theorem dX10_init_60 : decode cX10_init 60 = .ok (.aload_n 0, 1) := by decide +kernel
theorem dX10_init_61 : decode cX10_init 61 = .ok (.bipush 120, 2) := by decide +kernel
theorem dX10_init_63 : decode cX10_init 63 = .ok (.newarray .int, 2) := by decide +kernel
theorem dX10_init_65 : decode cX10_init 65 = .ok (.putfield 31, 3) := by decide +kernel
theorem dX10_init_68 : decode cX10_init 68 = .ok (.aload_n 0, 1) := by decide +kernel
theorem dX10_init_69 : decode cX10_init 69 = .ok (.bipush 12, 2) := by decide +kernel
theorem dX10_init_71 : decode cX10_init 71 = .ok (.newarray .int, 2) := by decide +kernel
theorem dX10_init_73 : decode cX10_init 73 = .ok (.putfield 34, 3) := by decide +kernel
theorem dX10_init_76 : decode cX10_init 76 = .ok (.aload_n 0, 1) := by decide +kernel
theorem dX10_init_77 : decode cX10_init 77 = .ok (.bipush 12, 2) := by decide +kernel
theorem dX10_init_79 : decode cX10_init 79 = .ok (.newarray .int, 2) := by decide +kernel
theorem dX10_init_81 : decode cX10_init 81 = .ok (.putfield 37, 3) := by decide +kernel
theorem dX10_init_84 : decode cX10_init 84 = .ok (.aload_n 0, 1) := by decide +kernel
theorem dX10_init_85 : decode cX10_init 85 = .ok (.bipush 12, 2) := by decide +kernel
theorem dX10_init_87 : decode cX10_init 87 = .ok (.newarray .int, 2) := by decide +kernel
theorem dX10_init_89 : decode cX10_init 89 = .ok (.putfield 40, 3) := by decide +kernel
theorem dX10_init_92 : decode cX10_init 92 = .ok (.aload_n 0, 1) := by decide +kernel
theorem dX10_init_93 : decode cX10_init 93 = .ok (.bipush 12, 2) := by decide +kernel
theorem dX10_init_95 : decode cX10_init 95 = .ok (.newarray .int, 2) := by decide +kernel
theorem dX10_init_97 : decode cX10_init 97 = .ok (.putfield 43, 3) := by decide +kernel
theorem dX10_init_100 : decode cX10_init 100 = .ok (.aload_n 0, 1) := by decide +kernel
theorem dX10_init_101 : decode cX10_init 101 = .ok (.bipush 60, 2) := by decide +kernel
theorem dX10_init_103 : decode cX10_init 103 = .ok (.newarray .int, 2) := by decide +kernel
theorem dX10_init_105 : decode cX10_init 105 = .ok (.putfield 46, 3) := by decide +kernel
theorem dX10_init_108 : decode cX10_init 108 = .ok (.aload_n 0, 1) := by decide +kernel
theorem dX10_init_109 : decode cX10_init 109 = .ok (.bipush 72, 2) := by decide +kernel
theorem dX10_init_111 : decode cX10_init 111 = .ok (.newarray .int, 2) := by decide +kernel
theorem dX10_init_113 : decode cX10_init 113 = .ok (.putfield 49, 3) := by decide +kernel
theorem dX10_init_116 : decode cX10_init 116 = .ok (.aload_n 0, 1) := by decide +kernel
theorem dX10_init_117 : decode cX10_init 117 = .ok (.bipush 6, 2) := by decide +kernel
theorem dX10_init_119 : decode cX10_init 119 = .ok (.newarray .int, 2) := by decide +kernel
theorem dX10_init_121 : decode cX10_init 121 = .ok (.putfield 52, 3) := by decide +kernel
theorem dX10_init_124 : decode cX10_init 124 = .ok (.aload_n 0, 1) := by decide +kernel
theorem dX10_init_125 : decode cX10_init 125 = .ok (.bipush 36, 2) := by decide +kernel
theorem dX10_init_127 : decode cX10_init 127 = .ok (.newarray .int, 2) := by decide +kernel
theorem dX10_init_129 : decode cX10_init 129 = .ok (.putfield 55, 3) := by decide +kernel
theorem dX10_init_132 : decode cX10_init 132 = .ok (.aload_n 0, 1) := by decide +kernel
theorem dX10_init_133 : decode cX10_init 133 = .ok (.bipush 18, 2) := by decide +kernel
theorem dX10_init_135 : decode cX10_init 135 = .ok (.newarray .int, 2) := by decide +kernel
theorem dX10_init_137 : decode cX10_init 137 = .ok (.putfield 58, 3) := by decide +kernel
theorem dX10_init_140 : decode cX10_init 140 = .ok (.aload_n 0, 1) := by decide +kernel
theorem dX10_init_141 : decode cX10_init 141 = .ok (.sipush 216, 3) := by decide +kernel
theorem dX10_init_144 : decode cX10_init 144 = .ok (.newarray .int, 2) := by decide +kernel
theorem dX10_init_146 : decode cX10_init 146 = .ok (.putfield 61, 3) := by decide +kernel
theorem dX10_init_149 : decode cX10_init 149 = .ok (.aload_n 0, 1) := by decide +kernel
theorem dX10_init_150 : decode cX10_init 150 = .ok (.iconst 3, 1) := by decide +kernel
theorem dX10_init_151 : decode cX10_init 151 = .ok (.newarray .int, 2) := by decide +kernel
theorem dX10_init_153 : decode cX10_init 153 = .ok (.putfield 64, 3) := by decide +kernel
theorem dX10_init_156 : decode cX10_init 156 = .ok (.aload_n 0, 1) := by decide +kernel
theorem dX10_init_157 : decode cX10_init 157 = .ok (.sipush 138, 3) := by decide +kernel
theorem dX10_init_160 : decode cX10_init 160 = .ok (.newarray .int, 2) := by decide +kernel
theorem dX10_init_162 : decode cX10_init 162 = .ok (.putfield 67, 3) := by decide +kernel
theorem dX10_init_165 : decode cX10_init 165 = .ok (.aload_n 0, 1) := by decide +kernel
theorem dX10_init_166 : decode cX10_init 166 = .ok (.iconst 4, 1) := by decide +kernel
theorem dX10_init_167 : decode cX10_init 167 = .ok (.newarray .int, 2) := by decide +kernel
theorem dX10_init_169 : decode cX10_init 169 = .ok (.putfield 70, 3) := by decide +kernel
theorem dX10_init_172 : decode cX10_init 172 = .ok (.aload_n 0, 1) := by decide +kernel
theorem dX10_init_173 : decode cX10_init 173 = .ok (.iconst 4, 1) := by decide +kernel
theorem dX10_init_174 : decode cX10_init 174 = .ok (.newarray .int, 2) := by decide +kernel
theorem dX10_init_176 : decode cX10_init 176 = .ok (.putfield 73, 3) := by decide +kernel
theorem dX10_init_179 : decode cX10_init 179 = .ok (.aload_n 0, 1) := by decide +kernel
theorem dX10_init_180 : decode cX10_init 180 = .ok (.bipush 96, 2) := by decide +kernel
theorem dX10_init_182 : decode cX10_init 182 = .ok (.newarray .long, 2) := by decide +kernel
theorem dX10_init_184 : decode cX10_init 184 = .ok (.putfield 76, 3) := by decide +kernel
theorem dX10_init_187 : decode cX10_init 187 = .ok (.aload_n 0, 1) := by decide +kernel
theorem dX10_init_188 : decode cX10_init 188 = .ok (.bipush 24, 2) := by decide +kernel
theorem dX10_init_190 : decode cX10_init 190 = .ok (.newarray .long, 2) := by decide +kernel
theorem dX10_init_192 : decode cX10_init 192 = .ok (.putfield 80, 3) := by decide +kernel
theorem dX10_init_195 : decode cX10_init 195 = .ok (.iconst 0, 1) := by decide +kernel
theorem dX10_init_196 : decode cX10_init 196 = .ok (.istore_n 1, 1) := by decide +kernel
theorem dX10_init_197 : decode cX10_init 197 = .ok (.iload_n 1, 1) := by decide +kernel
theorem dX10_init_198 : decode cX10_init 198 = .ok (.bipush 6, 2) := by decide +kernel
theorem dX10_init_200 : decode cX10_init 200 = .ok (.if_icmp .ge 16, 3) := by decide +kernel
theorem dX10_init_203 : decode cX10_init 203 = .ok (.aload_n 0, 1) := by decide +kernel
theorem dX10_init_204 : decode cX10_init 204 = .ok (.getfield 28, 3) := by decide +kernel
theorem dX10_init_207 : decode cX10_init 207 = .ok (.iload_n 1, 1) := by decide +kernel
theorem dX10_init_208 : decode cX10_init 208 = .ok (.iconst 3, 1) := by decide +kernel
theorem dX10_init_209 : decode cX10_init 209 = .ok (.iastore, 1) := by decide +kernel
theorem dX10_init_210 : decode cX10_init 210 = .ok (.iinc 1 1, 3) := by decide +kernel
theorem dX10_init_213 : decode cX10_init 213 = .ok (.goto (-16), 3) := by decide +kernel
theorem dX10_init_216 : decode cX10_init 216 = .ok (.iconst 0, 1) := by decide +kernel
theorem dX10_init_217 : decode cX10_init 217 = .ok (.istore_n 1, 1) := by decide +kernel
theorem dX10_init_218 : decode cX10_init 218 = .ok (.iload_n 1, 1) := by decide +kernel
theorem dX10_init_219 : decode cX10_init 219 = .ok (.iconst 4, 1) := by decide +kernel
theorem dX10_init_220 : decode cX10_init 220 = .ok (.if_icmp .ge 16, 3) := by decide +kernel
theorem dX10_init_223 : decode cX10_init 223 = .ok (.aload_n 0, 1) := by decide +kernel
theorem dX10_init_224 : decode cX10_init 224 = .ok (.getfield 70, 3) := by decide +kernel
theorem dX10_init_227 : decode cX10_init 227 = .ok (.iload_n 1, 1) := by decide +kernel
theorem dX10_init_228 : decode cX10_init 228 = .ok (.iconst (-1), 1) := by decide +kernel
theorem dX10_init_229 : decode cX10_init 229 = .ok (.iastore, 1) := by decide +kernel
theorem dX10_init_230 : decode cX10_init 230 = .ok (.iinc 1 1, 3) := by decide +kernel
theorem dX10_init_233 : decode cX10_init 233 = .ok (.goto (-15), 3) := by decide +kernel
theorem dX10_init_236 : decode cX10_init 236 = .ok (.return_, 1) := by decide +kernel
theorem dX10_in_0 : decode cX10_in 0 = .ok (.lload_n 0, 1) := by decide +kernel
theorem dX10_in_1 : decode cX10_in 1 = .ok (.lload_n 2, 1) := by decide +kernel
theorem dX10_in_2 : decode cX10_in 2 = .ok (.lcmp, 1) := by decide +kernel
theorem dX10_in_3 : decode cX10_in 3 = .ok (.ifCond .lt 14, 3) := by decide +kernel
theorem dX10_in_6 : decode cX10_in 6 = .ok (.lload_n 0, 1) := by decide +kernel
theorem dX10_in_7 : decode cX10_in 7 = .ok (.lload 4, 2) := by decide +kernel
theorem dX10_in_9 : decode cX10_in 9 = .ok (.lcmp, 1) := by decide +kernel
theorem dX10_in_10 : decode cX10_in 10 = .ok (.ifCond .gt 7, 3) := by decide +kernel
theorem dX10_in_13 : decode cX10_in 13 = .ok (.iconst 1, 1) := by decide +kernel
theorem dX10_in_14 : decode cX10_in 14 = .ok (.goto 4, 3) := by decide +kernel
theorem dX10_in_17 : decode cX10_in 17 = .ok (.iconst 0, 1) := by decide +kernel
theorem dX10_in_18 : decode cX10_in 18 = .ok (.ireturn, 1) := by decide +kernel
theorem dX10_isPiece_0 : decode cX10_isPiece 0 = .ok (.iload_n 1, 1) := by decide +kernel
theorem dX10_isPiece_1 : decode cX10_isPiece 1 = .ok (.i2l, 1) := by decide +kernel
theorem dX10_isPiece_2 : decode cX10_isPiece 2 = .ok (.lconst 0, 1) := by decide +kernel
theorem dX10_isPiece_3 : decode cX10_isPiece 3 = .ok (.aload_n 0, 1) := by decide +kernel
theorem dX10_isPiece_4 : decode cX10_isPiece 4 = .ok (.getfield 83, 3) := by decide +kernel
theorem dX10_isPiece_7 : decode cX10_isPiece 7 = .ok (.iconst 1, 1) := by decide +kernel
theorem dX10_isPiece_8 : decode cX10_isPiece 8 = .ok (.isub, 1) := by decide +kernel
theorem dX10_isPiece_9 : decode cX10_isPiece 9 = .ok (.i2l, 1) := by decide +kernel
theorem dX10_isPiece_10 : decode cX10_isPiece 10 = .ok (.invokestatic 87, 3) := by decide +kernel
theorem dX10_isPiece_13 : decode cX10_isPiece 13 = .ok (.ireturn, 1) := by decide +kernel
theorem dX10_isPlace_0 : decode cX10_isPlace 0 = .ok (.iload_n 0, 1) := by decide +kernel
theorem dX10_isPlace_1 : decode cX10_isPlace 1 = .ok (.i2l, 1) := by decide +kernel
theorem dX10_isPlace_2 : decode cX10_isPlace 2 = .ok (.lconst 0, 1) := by decide +kernel
theorem dX10_isPlace_3 : decode cX10_isPlace 3 = .ok (.ldc2_w 91, 3) := by decide +kernel
theorem dX10_isPlace_6 : decode cX10_isPlace 6 = .ok (.invokestatic 87, 3) := by decide +kernel
theorem dX10_isPlace_9 : decode cX10_isPlace 9 = .ok (.ireturn, 1) := by decide +kernel
theorem dX10_weighs_0 : decode cX10_weighs 0 = .ok (.aload_n 0, 1) := by decide +kernel
theorem dX10_weighs_1 : decode cX10_weighs 1 = .ok (.getfield 13, 3) := by decide +kernel
theorem dX10_weighs_4 : decode cX10_weighs 4 = .ok (.iload_n 1, 1) := by decide +kernel
theorem dX10_weighs_5 : decode cX10_weighs 5 = .ok (.iaload, 1) := by decide +kernel
theorem dX10_weighs_6 : decode cX10_weighs 6 = .ok (.aload_n 0, 1) := by decide +kernel
theorem dX10_weighs_7 : decode cX10_weighs 7 = .ok (.getfield 7, 3) := by decide +kernel
theorem dX10_weighs_10 : decode cX10_weighs 10 = .ok (.iload_n 1, 1) := by decide +kernel
theorem dX10_weighs_11 : decode cX10_weighs 11 = .ok (.iaload, 1) := by decide +kernel
theorem dX10_weighs_12 : decode cX10_weighs 12 = .ok (.iconst 1, 1) := by decide +kernel
theorem dX10_weighs_13 : decode cX10_weighs 13 = .ok (.if_icmp .ne 7, 3) := by decide +kernel
theorem dX10_weighs_16 : decode cX10_weighs 16 = .ok (.iconst 2, 1) := by decide +kernel
theorem dX10_weighs_17 : decode cX10_weighs 17 = .ok (.goto 4, 3) := by decide +kernel
theorem dX10_weighs_20 : decode cX10_weighs 20 = .ok (.iconst 0, 1) := by decide +kernel
theorem dX10_weighs_21 : decode cX10_weighs 21 = .ok (.iadd, 1) := by decide +kernel
theorem dX10_weighs_22 : decode cX10_weighs 22 = .ok (.ireturn, 1) := by decide +kernel
theorem dX10_townOf_0 : decode cX10_townOf 0 = .ok (.aload_n 0, 1) := by decide +kernel
theorem dX10_townOf_1 : decode cX10_townOf 1 = .ok (.getfield 7, 3) := by decide +kernel
theorem dX10_townOf_4 : decode cX10_townOf 4 = .ok (.iload_n 1, 1) := by decide +kernel
theorem dX10_townOf_5 : decode cX10_townOf 5 = .ok (.iaload, 1) := by decide +kernel
theorem dX10_townOf_6 : decode cX10_townOf 6 = .ok (.iconst 2, 1) := by decide +kernel
theorem dX10_townOf_7 : decode cX10_townOf 7 = .ok (.if_icmp .ne 7, 3) := by decide +kernel
theorem dX10_townOf_10 : decode cX10_townOf 10 = .ok (.iconst 4, 1) := by decide +kernel
theorem dX10_townOf_11 : decode cX10_townOf 11 = .ok (.goto 9, 3) := by decide +kernel
theorem dX10_townOf_14 : decode cX10_townOf 14 = .ok (.aload_n 0, 1) := by decide +kernel
theorem dX10_townOf_15 : decode cX10_townOf 15 = .ok (.getfield 16, 3) := by decide +kernel
theorem dX10_townOf_18 : decode cX10_townOf 18 = .ok (.iload_n 1, 1) := by decide +kernel
theorem dX10_townOf_19 : decode cX10_townOf 19 = .ok (.iaload, 1) := by decide +kernel
theorem dX10_townOf_20 : decode cX10_townOf 20 = .ok (.ireturn, 1) := by decide +kernel
theorem dX10_topOf_0 : decode cX10_topOf 0 = .ok (.aload_n 0, 1) := by decide +kernel
theorem dX10_topOf_1 : decode cX10_topOf 1 = .ok (.getfield 22, 3) := by decide +kernel
theorem dX10_topOf_4 : decode cX10_topOf 4 = .ok (.iload_n 1, 1) := by decide +kernel
theorem dX10_topOf_5 : decode cX10_topOf 5 = .ok (.iaload, 1) := by decide +kernel
theorem dX10_topOf_6 : decode cX10_topOf 6 = .ok (.ifCond .ne 8, 3) := by decide +kernel
theorem dX10_topOf_9 : decode cX10_topOf 9 = .ok (.bipush 12, 2) := by decide +kernel
theorem dX10_topOf_11 : decode cX10_topOf 11 = .ok (.goto 21, 3) := by decide +kernel
theorem dX10_topOf_14 : decode cX10_topOf 14 = .ok (.aload_n 0, 1) := by decide +kernel
theorem dX10_topOf_15 : decode cX10_topOf 15 = .ok (.getfield 25, 3) := by decide +kernel
theorem dX10_topOf_18 : decode cX10_topOf 18 = .ok (.bipush 12, 2) := by decide +kernel
theorem dX10_topOf_20 : decode cX10_topOf 20 = .ok (.iload_n 1, 1) := by decide +kernel
theorem dX10_topOf_21 : decode cX10_topOf 21 = .ok (.imul, 1) := by decide +kernel
theorem dX10_topOf_22 : decode cX10_topOf 22 = .ok (.aload_n 0, 1) := by decide +kernel
theorem dX10_topOf_23 : decode cX10_topOf 23 = .ok (.getfield 22, 3) := by decide +kernel
theorem dX10_topOf_26 : decode cX10_topOf 26 = .ok (.iload_n 1, 1) := by decide +kernel
theorem dX10_topOf_27 : decode cX10_topOf 27 = .ok (.iaload, 1) := by decide +kernel
theorem dX10_topOf_28 : decode cX10_topOf 28 = .ok (.iadd, 1) := by decide +kernel
theorem dX10_topOf_29 : decode cX10_topOf 29 = .ok (.iconst 1, 1) := by decide +kernel
theorem dX10_topOf_30 : decode cX10_topOf 30 = .ok (.isub, 1) := by decide +kernel
theorem dX10_topOf_31 : decode cX10_topOf 31 = .ok (.iaload, 1) := by decide +kernel
theorem dX10_topOf_32 : decode cX10_topOf 32 = .ok (.ireturn, 1) := by decide +kernel
theorem dX10_put_0 : decode cX10_put 0 = .ok (.aload_n 0, 1) := by decide +kernel
theorem dX10_put_1 : decode cX10_put 1 = .ok (.getfield 19, 3) := by decide +kernel
theorem dX10_put_4 : decode cX10_put 4 = .ok (.iload_n 1, 1) := by decide +kernel
theorem dX10_put_5 : decode cX10_put 5 = .ok (.iload_n 2, 1) := by decide +kernel
theorem dX10_put_6 : decode cX10_put 6 = .ok (.iastore, 1) := by decide +kernel
theorem dX10_put_7 : decode cX10_put 7 = .ok (.aload_n 0, 1) := by decide +kernel
theorem dX10_put_8 : decode cX10_put 8 = .ok (.getfield 25, 3) := by decide +kernel
theorem dX10_put_11 : decode cX10_put 11 = .ok (.bipush 12, 2) := by decide +kernel
theorem dX10_put_13 : decode cX10_put 13 = .ok (.iload_n 2, 1) := by decide +kernel
theorem dX10_put_14 : decode cX10_put 14 = .ok (.imul, 1) := by decide +kernel
theorem dX10_put_15 : decode cX10_put 15 = .ok (.aload_n 0, 1) := by decide +kernel
theorem dX10_put_16 : decode cX10_put 16 = .ok (.getfield 22, 3) := by decide +kernel
theorem dX10_put_19 : decode cX10_put 19 = .ok (.iload_n 2, 1) := by decide +kernel
theorem dX10_put_20 : decode cX10_put 20 = .ok (.iaload, 1) := by decide +kernel
theorem dX10_put_21 : decode cX10_put 21 = .ok (.iadd, 1) := by decide +kernel
theorem dX10_put_22 : decode cX10_put 22 = .ok (.iload_n 1, 1) := by decide +kernel
theorem dX10_put_23 : decode cX10_put 23 = .ok (.iastore, 1) := by decide +kernel
theorem dX10_put_24 : decode cX10_put 24 = .ok (.aload_n 0, 1) := by decide +kernel
theorem dX10_put_25 : decode cX10_put 25 = .ok (.getfield 22, 3) := by decide +kernel
theorem dX10_put_28 : decode cX10_put 28 = .ok (.iload_n 2, 1) := by decide +kernel
theorem dX10_put_29 : decode cX10_put 29 = .ok (.dup2, 1) := by decide +kernel
theorem dX10_put_30 : decode cX10_put 30 = .ok (.iaload, 1) := by decide +kernel
theorem dX10_put_31 : decode cX10_put 31 = .ok (.iconst 1, 1) := by decide +kernel
theorem dX10_put_32 : decode cX10_put 32 = .ok (.iadd, 1) := by decide +kernel
theorem dX10_put_33 : decode cX10_put 33 = .ok (.iastore, 1) := by decide +kernel
theorem dX10_put_34 : decode cX10_put 34 = .ok (.return_, 1) := by decide +kernel
theorem dX10_takeTop_0 : decode cX10_takeTop 0 = .ok (.aload_n 0, 1) := by decide +kernel
theorem dX10_takeTop_1 : decode cX10_takeTop 1 = .ok (.iload_n 1, 1) := by decide +kernel
theorem dX10_takeTop_2 : decode cX10_takeTop 2 = .ok (.invokevirtual 93, 3) := by decide +kernel
theorem dX10_takeTop_5 : decode cX10_takeTop 5 = .ok (.istore_n 2, 1) := by decide +kernel
theorem dX10_takeTop_6 : decode cX10_takeTop 6 = .ok (.aload_n 0, 1) := by decide +kernel
theorem dX10_takeTop_7 : decode cX10_takeTop 7 = .ok (.getfield 22, 3) := by decide +kernel
theorem dX10_takeTop_10 : decode cX10_takeTop 10 = .ok (.iload_n 1, 1) := by decide +kernel
theorem dX10_takeTop_11 : decode cX10_takeTop 11 = .ok (.dup2, 1) := by decide +kernel
theorem dX10_takeTop_12 : decode cX10_takeTop 12 = .ok (.iaload, 1) := by decide +kernel
theorem dX10_takeTop_13 : decode cX10_takeTop 13 = .ok (.iconst 1, 1) := by decide +kernel
theorem dX10_takeTop_14 : decode cX10_takeTop 14 = .ok (.isub, 1) := by decide +kernel
theorem dX10_takeTop_15 : decode cX10_takeTop 15 = .ok (.iastore, 1) := by decide +kernel
theorem dX10_takeTop_16 : decode cX10_takeTop 16 = .ok (.aload_n 0, 1) := by decide +kernel
theorem dX10_takeTop_17 : decode cX10_takeTop 17 = .ok (.getfield 19, 3) := by decide +kernel
theorem dX10_takeTop_20 : decode cX10_takeTop 20 = .ok (.iload_n 2, 1) := by decide +kernel
theorem dX10_takeTop_21 : decode cX10_takeTop 21 = .ok (.bipush 6, 2) := by decide +kernel
theorem dX10_takeTop_23 : decode cX10_takeTop 23 = .ok (.iastore, 1) := by decide +kernel
theorem dX10_takeTop_24 : decode cX10_takeTop 24 = .ok (.iload_n 2, 1) := by decide +kernel
theorem dX10_takeTop_25 : decode cX10_takeTop 25 = .ok (.ireturn, 1) := by decide +kernel
theorem dX10_loadOf_0 : decode cX10_loadOf 0 = .ok (.iconst 0, 1) := by decide +kernel
theorem dX10_loadOf_1 : decode cX10_loadOf 1 = .ok (.istore_n 2, 1) := by decide +kernel
theorem dX10_loadOf_2 : decode cX10_loadOf 2 = .ok (.iconst 0, 1) := by decide +kernel
theorem dX10_loadOf_3 : decode cX10_loadOf 3 = .ok (.istore_n 3, 1) := by decide +kernel
theorem dX10_loadOf_4 : decode cX10_loadOf 4 = .ok (.iload_n 3, 1) := by decide +kernel
theorem dX10_loadOf_5 : decode cX10_loadOf 5 = .ok (.aload_n 0, 1) := by decide +kernel
theorem dX10_loadOf_6 : decode cX10_loadOf 6 = .ok (.getfield 22, 3) := by decide +kernel
theorem dX10_loadOf_9 : decode cX10_loadOf 9 = .ok (.iload_n 1, 1) := by decide +kernel
theorem dX10_loadOf_10 : decode cX10_loadOf 10 = .ok (.iaload, 1) := by decide +kernel
theorem dX10_loadOf_11 : decode cX10_loadOf 11 = .ok (.if_icmp .ge 27, 3) := by decide +kernel
theorem dX10_loadOf_14 : decode cX10_loadOf 14 = .ok (.iload_n 2, 1) := by decide +kernel
theorem dX10_loadOf_15 : decode cX10_loadOf 15 = .ok (.aload_n 0, 1) := by decide +kernel
theorem dX10_loadOf_16 : decode cX10_loadOf 16 = .ok (.aload_n 0, 1) := by decide +kernel
theorem dX10_loadOf_17 : decode cX10_loadOf 17 = .ok (.getfield 25, 3) := by decide +kernel
theorem dX10_loadOf_20 : decode cX10_loadOf 20 = .ok (.bipush 12, 2) := by decide +kernel
theorem dX10_loadOf_22 : decode cX10_loadOf 22 = .ok (.iload_n 1, 1) := by decide +kernel
theorem dX10_loadOf_23 : decode cX10_loadOf 23 = .ok (.imul, 1) := by decide +kernel
theorem dX10_loadOf_24 : decode cX10_loadOf 24 = .ok (.iload_n 3, 1) := by decide +kernel
theorem dX10_loadOf_25 : decode cX10_loadOf 25 = .ok (.iadd, 1) := by decide +kernel
theorem dX10_loadOf_26 : decode cX10_loadOf 26 = .ok (.iaload, 1) := by decide +kernel
theorem dX10_loadOf_27 : decode cX10_loadOf 27 = .ok (.invokevirtual 97, 3) := by decide +kernel
theorem dX10_loadOf_30 : decode cX10_loadOf 30 = .ok (.iadd, 1) := by decide +kernel
theorem dX10_loadOf_31 : decode cX10_loadOf 31 = .ok (.istore_n 2, 1) := by decide +kernel
theorem dX10_loadOf_32 : decode cX10_loadOf 32 = .ok (.iinc 3 1, 3) := by decide +kernel
theorem dX10_loadOf_35 : decode cX10_loadOf 35 = .ok (.goto (-31), 3) := by decide +kernel
theorem dX10_loadOf_38 : decode cX10_loadOf 38 = .ok (.iload_n 2, 1) := by decide +kernel
theorem dX10_loadOf_39 : decode cX10_loadOf 39 = .ok (.ireturn, 1) := by decide +kernel
theorem dX10_addPiece_0 : decode cX10_addPiece 0 = .ok (.aload_n 0, 1) := by decide +kernel
theorem dX10_addPiece_1 : decode cX10_addPiece 1 = .ok (.getfield 7, 3) := by decide +kernel
theorem dX10_addPiece_4 : decode cX10_addPiece 4 = .ok (.aload_n 0, 1) := by decide +kernel
theorem dX10_addPiece_5 : decode cX10_addPiece 5 = .ok (.getfield 83, 3) := by decide +kernel
theorem dX10_addPiece_8 : decode cX10_addPiece 8 = .ok (.iload_n 1, 1) := by decide +kernel
theorem dX10_addPiece_9 : decode cX10_addPiece 9 = .ok (.iastore, 1) := by decide +kernel
theorem dX10_addPiece_10 : decode cX10_addPiece 10 = .ok (.aload_n 0, 1) := by decide +kernel
theorem dX10_addPiece_11 : decode cX10_addPiece 11 = .ok (.getfield 13, 3) := by decide +kernel
theorem dX10_addPiece_14 : decode cX10_addPiece 14 = .ok (.aload_n 0, 1) := by decide +kernel
theorem dX10_addPiece_15 : decode cX10_addPiece 15 = .ok (.getfield 83, 3) := by decide +kernel
theorem dX10_addPiece_18 : decode cX10_addPiece 18 = .ok (.iload_n 2, 1) := by decide +kernel
theorem dX10_addPiece_19 : decode cX10_addPiece 19 = .ok (.iastore, 1) := by decide +kernel
theorem dX10_addPiece_20 : decode cX10_addPiece 20 = .ok (.aload_n 0, 1) := by decide +kernel
theorem dX10_addPiece_21 : decode cX10_addPiece 21 = .ok (.getfield 16, 3) := by decide +kernel
theorem dX10_addPiece_24 : decode cX10_addPiece 24 = .ok (.aload_n 0, 1) := by decide +kernel
theorem dX10_addPiece_25 : decode cX10_addPiece 25 = .ok (.getfield 83, 3) := by decide +kernel
theorem dX10_addPiece_28 : decode cX10_addPiece 28 = .ok (.iload_n 3, 1) := by decide +kernel
theorem dX10_addPiece_29 : decode cX10_addPiece 29 = .ok (.iastore, 1) := by decide +kernel
theorem dX10_addPiece_30 : decode cX10_addPiece 30 = .ok (.aload_n 0, 1) := by decide +kernel
theorem dX10_addPiece_31 : decode cX10_addPiece 31 = .ok (.getfield 19, 3) := by decide +kernel
theorem dX10_addPiece_34 : decode cX10_addPiece 34 = .ok (.aload_n 0, 1) := by decide +kernel
theorem dX10_addPiece_35 : decode cX10_addPiece 35 = .ok (.getfield 83, 3) := by decide +kernel
theorem dX10_addPiece_38 : decode cX10_addPiece 38 = .ok (.bipush 6, 2) := by decide +kernel
theorem dX10_addPiece_40 : decode cX10_addPiece 40 = .ok (.iastore, 1) := by decide +kernel
theorem dX10_addPiece_41 : decode cX10_addPiece 41 = .ok (.aload_n 0, 1) := by decide +kernel
theorem dX10_addPiece_42 : decode cX10_addPiece 42 = .ok (.dup, 1) := by decide +kernel
theorem dX10_addPiece_43 : decode cX10_addPiece 43 = .ok (.getfield 83, 3) := by decide +kernel
theorem dX10_addPiece_46 : decode cX10_addPiece 46 = .ok (.iconst 1, 1) := by decide +kernel
theorem dX10_addPiece_47 : decode cX10_addPiece 47 = .ok (.iadd, 1) := by decide +kernel
theorem dX10_addPiece_48 : decode cX10_addPiece 48 = .ok (.putfield 83, 3) := by decide +kernel
theorem dX10_addPiece_51 : decode cX10_addPiece 51 = .ok (.iload 4, 2) := by decide +kernel
theorem dX10_addPiece_53 : decode cX10_addPiece 53 = .ok (.bipush 6, 2) := by decide +kernel
theorem dX10_addPiece_55 : decode cX10_addPiece 55 = .ok (.if_icmp .ge 15, 3) := by decide +kernel
theorem dX10_addPiece_58 : decode cX10_addPiece 58 = .ok (.aload_n 0, 1) := by decide +kernel
theorem dX10_addPiece_59 : decode cX10_addPiece 59 = .ok (.aload_n 0, 1) := by decide +kernel
theorem dX10_addPiece_60 : decode cX10_addPiece 60 = .ok (.getfield 83, 3) := by decide +kernel
theorem dX10_addPiece_63 : decode cX10_addPiece 63 = .ok (.iconst 1, 1) := by decide +kernel
theorem dX10_addPiece_64 : decode cX10_addPiece 64 = .ok (.isub, 1) := by decide +kernel
theorem dX10_addPiece_65 : decode cX10_addPiece 65 = .ok (.iload 4, 2) := by decide +kernel
theorem dX10_addPiece_67 : decode cX10_addPiece 67 = .ok (.invokevirtual 100, 3) := by decide +kernel
theorem dX10_addPiece_70 : decode cX10_addPiece 70 = .ok (.return_, 1) := by decide +kernel
theorem dX10_piece_0 : decode cX10_piece 0 = .ok (.iload_n 1, 1) := by decide +kernel
theorem dX10_piece_1 : decode cX10_piece 1 = .ok (.i2l, 1) := by decide +kernel
theorem dX10_piece_2 : decode cX10_piece 2 = .ok (.lconst 0, 1) := by decide +kernel
theorem dX10_piece_3 : decode cX10_piece 3 = .ok (.ldc2_w 104, 3) := by decide +kernel
theorem dX10_piece_6 : decode cX10_piece 6 = .ok (.invokestatic 87, 3) := by decide +kernel
theorem dX10_piece_9 : decode cX10_piece 9 = .ok (.ifCond .eq 40, 3) := by decide +kernel
theorem dX10_piece_12 : decode cX10_piece 12 = .ok (.iload_n 2, 1) := by decide +kernel
theorem dX10_piece_13 : decode cX10_piece 13 = .ok (.i2l, 1) := by decide +kernel
theorem dX10_piece_14 : decode cX10_piece 14 = .ok (.lconst 1, 1) := by decide +kernel
theorem dX10_piece_15 : decode cX10_piece 15 = .ok (.ldc2_w 106, 3) := by decide +kernel
theorem dX10_piece_18 : decode cX10_piece 18 = .ok (.invokestatic 87, 3) := by decide +kernel
theorem dX10_piece_21 : decode cX10_piece 21 = .ok (.ifCond .eq 28, 3) := by decide +kernel
theorem dX10_piece_24 : decode cX10_piece 24 = .ok (.iload_n 3, 1) := by decide +kernel
theorem dX10_piece_25 : decode cX10_piece 25 = .ok (.i2l, 1) := by decide +kernel
theorem dX10_piece_26 : decode cX10_piece 26 = .ok (.lconst 0, 1) := by decide +kernel
theorem dX10_piece_27 : decode cX10_piece 27 = .ok (.ldc2_w 104, 3) := by decide +kernel
theorem dX10_piece_30 : decode cX10_piece 30 = .ok (.invokestatic 87, 3) := by decide +kernel
theorem dX10_piece_33 : decode cX10_piece 33 = .ok (.ifCond .eq 16, 3) := by decide +kernel
theorem dX10_piece_36 : decode cX10_piece 36 = .ok (.iload 4, 2) := by decide +kernel
theorem dX10_piece_38 : decode cX10_piece 38 = .ok (.i2l, 1) := by decide +kernel
theorem dX10_piece_39 : decode cX10_piece 39 = .ok (.lconst 0, 1) := by decide +kernel
theorem dX10_piece_40 : decode cX10_piece 40 = .ok (.ldc2_w 108, 3) := by decide +kernel
theorem dX10_piece_43 : decode cX10_piece 43 = .ok (.invokestatic 87, 3) := by decide +kernel
theorem dX10_piece_46 : decode cX10_piece 46 = .ok (.ifCond .ne 5, 3) := by decide +kernel
theorem dX10_piece_49 : decode cX10_piece 49 = .ok (.iconst (-1), 1) := by decide +kernel
theorem dX10_piece_50 : decode cX10_piece 50 = .ok (.ireturn, 1) := by decide +kernel
theorem dX10_piece_51 : decode cX10_piece 51 = .ok (.aload_n 0, 1) := by decide +kernel
theorem dX10_piece_52 : decode cX10_piece 52 = .ok (.getfield 83, 3) := by decide +kernel
theorem dX10_piece_55 : decode cX10_piece 55 = .ok (.bipush 12, 2) := by decide +kernel
theorem dX10_piece_57 : decode cX10_piece 57 = .ok (.if_icmp .ne 6, 3) := by decide +kernel
theorem dX10_piece_60 : decode cX10_piece 60 = .ok (.bipush (-3), 2) := by decide +kernel
theorem dX10_piece_62 : decode cX10_piece 62 = .ok (.ireturn, 1) := by decide +kernel
theorem dX10_piece_63 : decode cX10_piece 63 = .ok (.aload_n 0, 1) := by decide +kernel
theorem dX10_piece_64 : decode cX10_piece 64 = .ok (.iload_n 1, 1) := by decide +kernel
theorem dX10_piece_65 : decode cX10_piece 65 = .ok (.iload_n 2, 1) := by decide +kernel
theorem dX10_piece_66 : decode cX10_piece 66 = .ok (.iload_n 3, 1) := by decide +kernel
theorem dX10_piece_67 : decode cX10_piece 67 = .ok (.iload 4, 2) := by decide +kernel
theorem dX10_piece_69 : decode cX10_piece 69 = .ok (.invokevirtual 110, 3) := by decide +kernel
theorem dX10_piece_72 : decode cX10_piece 72 = .ok (.aload_n 0, 1) := by decide +kernel
theorem dX10_piece_73 : decode cX10_piece 73 = .ok (.getfield 83, 3) := by decide +kernel
theorem dX10_piece_76 : decode cX10_piece 76 = .ok (.iconst 1, 1) := by decide +kernel
theorem dX10_piece_77 : decode cX10_piece 77 = .ok (.isub, 1) := by decide +kernel
theorem dX10_piece_78 : decode cX10_piece 78 = .ok (.ireturn, 1) := by decide +kernel
theorem dX10_offOf_0 : decode cX10_offOf 0 = .ok (.aload_n 0, 1) := by decide +kernel
theorem dX10_offOf_1 : decode cX10_offOf 1 = .ok (.getfield 19, 3) := by decide +kernel
theorem dX10_offOf_4 : decode cX10_offOf 4 = .ok (.iload_n 1, 1) := by decide +kernel
theorem dX10_offOf_5 : decode cX10_offOf 5 = .ok (.iaload, 1) := by decide +kernel
theorem dX10_offOf_6 : decode cX10_offOf 6 = .ok (.istore_n 2, 1) := by decide +kernel
theorem dX10_offOf_7 : decode cX10_offOf 7 = .ok (.iconst 0, 1) := by decide +kernel
theorem dX10_offOf_8 : decode cX10_offOf 8 = .ok (.istore_n 3, 1) := by decide +kernel
theorem dX10_offOf_9 : decode cX10_offOf 9 = .ok (.iconst 0, 1) := by decide +kernel
theorem dX10_offOf_10 : decode cX10_offOf 10 = .ok (.istore 4, 2) := by decide +kernel
theorem dX10_offOf_12 : decode cX10_offOf 12 = .ok (.iload_n 2, 1) := by decide +kernel
theorem dX10_offOf_13 : decode cX10_offOf 13 = .ok (.bipush 6, 2) := by decide +kernel
theorem dX10_offOf_15 : decode cX10_offOf 15 = .ok (.if_icmp .ge 52, 3) := by decide +kernel
theorem dX10_offOf_18 : decode cX10_offOf 18 = .ok (.iload 4, 2) := by decide +kernel
theorem dX10_offOf_20 : decode cX10_offOf 20 = .ok (.aload_n 0, 1) := by decide +kernel
theorem dX10_offOf_21 : decode cX10_offOf 21 = .ok (.getfield 22, 3) := by decide +kernel
theorem dX10_offOf_24 : decode cX10_offOf 24 = .ok (.iload_n 2, 1) := by decide +kernel
theorem dX10_offOf_25 : decode cX10_offOf 25 = .ok (.iaload, 1) := by decide +kernel
theorem dX10_offOf_26 : decode cX10_offOf 26 = .ok (.if_icmp .ge 41, 3) := by decide +kernel
theorem dX10_offOf_29 : decode cX10_offOf 29 = .ok (.aload_n 0, 1) := by decide +kernel
theorem dX10_offOf_30 : decode cX10_offOf 30 = .ok (.getfield 25, 3) := by decide +kernel
theorem dX10_offOf_33 : decode cX10_offOf 33 = .ok (.bipush 12, 2) := by decide +kernel
theorem dX10_offOf_35 : decode cX10_offOf 35 = .ok (.iload_n 2, 1) := by decide +kernel
theorem dX10_offOf_36 : decode cX10_offOf 36 = .ok (.imul, 1) := by decide +kernel
theorem dX10_offOf_37 : decode cX10_offOf 37 = .ok (.iload 4, 2) := by decide +kernel
theorem dX10_offOf_39 : decode cX10_offOf 39 = .ok (.iadd, 1) := by decide +kernel
theorem dX10_offOf_40 : decode cX10_offOf 40 = .ok (.iaload, 1) := by decide +kernel
theorem dX10_offOf_41 : decode cX10_offOf 41 = .ok (.iload_n 1, 1) := by decide +kernel
theorem dX10_offOf_42 : decode cX10_offOf 42 = .ok (.if_icmp .ne 17, 3) := by decide +kernel
theorem dX10_offOf_45 : decode cX10_offOf 45 = .ok (.aload_n 0, 1) := by decide +kernel
theorem dX10_offOf_46 : decode cX10_offOf 46 = .ok (.getfield 22, 3) := by decide +kernel
theorem dX10_offOf_49 : decode cX10_offOf 49 = .ok (.iload_n 2, 1) := by decide +kernel
theorem dX10_offOf_50 : decode cX10_offOf 50 = .ok (.iaload, 1) := by decide +kernel
theorem dX10_offOf_51 : decode cX10_offOf 51 = .ok (.iconst 1, 1) := by decide +kernel
theorem dX10_offOf_52 : decode cX10_offOf 52 = .ok (.isub, 1) := by decide +kernel
theorem dX10_offOf_53 : decode cX10_offOf 53 = .ok (.iload 4, 2) := by decide +kernel
theorem dX10_offOf_55 : decode cX10_offOf 55 = .ok (.isub, 1) := by decide +kernel
theorem dX10_offOf_56 : decode cX10_offOf 56 = .ok (.goto 4, 3) := by decide +kernel
theorem dX10_offOf_59 : decode cX10_offOf 59 = .ok (.iload_n 3, 1) := by decide +kernel
theorem dX10_offOf_60 : decode cX10_offOf 60 = .ok (.istore_n 3, 1) := by decide +kernel
theorem dX10_offOf_61 : decode cX10_offOf 61 = .ok (.iinc 4 1, 3) := by decide +kernel
theorem dX10_offOf_64 : decode cX10_offOf 64 = .ok (.goto (-52), 3) := by decide +kernel
theorem dX10_offOf_67 : decode cX10_offOf 67 = .ok (.iload_n 3, 1) := by decide +kernel
theorem dX10_offOf_68 : decode cX10_offOf 68 = .ok (.ireturn, 1) := by decide +kernel
theorem dX10_told_0 : decode cX10_told 0 = .ok (.aload_n 0, 1) := by decide +kernel
theorem dX10_told_1 : decode cX10_told 1 = .ok (.iload_n 1, 1) := by decide +kernel
theorem dX10_told_2 : decode cX10_told 2 = .ok (.invokevirtual 114, 3) := by decide +kernel
theorem dX10_told_5 : decode cX10_told 5 = .ok (.ifCond .ne 5, 3) := by decide +kernel
theorem dX10_told_8 : decode cX10_told 8 = .ok (.iconst (-1), 1) := by decide +kernel
theorem dX10_told_9 : decode cX10_told 9 = .ok (.ireturn, 1) := by decide +kernel
theorem dX10_told_10 : decode cX10_told 10 = .ok (.iload_n 2, 1) := by decide +kernel
theorem dX10_told_11 : decode cX10_told 11 = .ok (.tableswitch 65 0 4 #[33, 40, 46, 52, 59], 33) := by decide +kernel
theorem dX10_told_44 : decode cX10_told 44 = .ok (.aload_n 0, 1) := by decide +kernel
theorem dX10_told_45 : decode cX10_told 45 = .ok (.getfield 7, 3) := by decide +kernel
theorem dX10_told_48 : decode cX10_told 48 = .ok (.iload_n 1, 1) := by decide +kernel
theorem dX10_told_49 : decode cX10_told 49 = .ok (.iaload, 1) := by decide +kernel
theorem dX10_told_50 : decode cX10_told 50 = .ok (.ireturn, 1) := by decide +kernel
theorem dX10_told_51 : decode cX10_told 51 = .ok (.aload_n 0, 1) := by decide +kernel
theorem dX10_told_52 : decode cX10_told 52 = .ok (.iload_n 1, 1) := by decide +kernel
theorem dX10_told_53 : decode cX10_told 53 = .ok (.invokevirtual 97, 3) := by decide +kernel
theorem dX10_told_56 : decode cX10_told 56 = .ok (.ireturn, 1) := by decide +kernel
theorem dX10_told_57 : decode cX10_told 57 = .ok (.aload_n 0, 1) := by decide +kernel
theorem dX10_told_58 : decode cX10_told 58 = .ok (.iload_n 1, 1) := by decide +kernel
theorem dX10_told_59 : decode cX10_told 59 = .ok (.invokevirtual 118, 3) := by decide +kernel
theorem dX10_told_62 : decode cX10_told 62 = .ok (.ireturn, 1) := by decide +kernel
theorem dX10_told_63 : decode cX10_told 63 = .ok (.aload_n 0, 1) := by decide +kernel
theorem dX10_told_64 : decode cX10_told 64 = .ok (.getfield 19, 3) := by decide +kernel
theorem dX10_told_67 : decode cX10_told 67 = .ok (.iload_n 1, 1) := by decide +kernel
theorem dX10_told_68 : decode cX10_told 68 = .ok (.iaload, 1) := by decide +kernel
theorem dX10_told_69 : decode cX10_told 69 = .ok (.ireturn, 1) := by decide +kernel
theorem dX10_told_70 : decode cX10_told 70 = .ok (.aload_n 0, 1) := by decide +kernel
theorem dX10_told_71 : decode cX10_told 71 = .ok (.iload_n 1, 1) := by decide +kernel
theorem dX10_told_72 : decode cX10_told 72 = .ok (.invokevirtual 121, 3) := by decide +kernel
theorem dX10_told_75 : decode cX10_told 75 = .ok (.ireturn, 1) := by decide +kernel
theorem dX10_told_76 : decode cX10_told 76 = .ok (.iconst (-1), 1) := by decide +kernel
theorem dX10_told_77 : decode cX10_told 77 = .ok (.ireturn, 1) := by decide +kernel
theorem dX10_of_0 : decode cX10_of 0 = .ok (.iload_n 1, 1) := by decide +kernel
theorem dX10_of_1 : decode cX10_of 1 = .ok (.invokestatic 124, 3) := by decide +kernel
theorem dX10_of_4 : decode cX10_of 4 = .ok (.ifCond .ne 5, 3) := by decide +kernel
theorem dX10_of_7 : decode cX10_of 7 = .ok (.iconst (-1), 1) := by decide +kernel
theorem dX10_of_8 : decode cX10_of 8 = .ok (.ireturn, 1) := by decide +kernel
theorem dX10_of_9 : decode cX10_of 9 = .ok (.iload_n 2, 1) := by decide +kernel
theorem dX10_of_10 : decode cX10_of 10 = .ok (.ifCond .ne 11, 3) := by decide +kernel
theorem dX10_of_13 : decode cX10_of 13 = .ok (.aload_n 0, 1) := by decide +kernel
theorem dX10_of_14 : decode cX10_of 14 = .ok (.iload_n 1, 1) := by decide +kernel
theorem dX10_of_15 : decode cX10_of 15 = .ok (.invokevirtual 127, 3) := by decide +kernel
theorem dX10_of_18 : decode cX10_of 18 = .ok (.goto 45, 3) := by decide +kernel
theorem dX10_of_21 : decode cX10_of 21 = .ok (.iload_n 2, 1) := by decide +kernel
theorem dX10_of_22 : decode cX10_of 22 = .ok (.iconst 1, 1) := by decide +kernel
theorem dX10_of_23 : decode cX10_of 23 = .ok (.if_icmp .ne 12, 3) := by decide +kernel
theorem dX10_of_26 : decode cX10_of 26 = .ok (.aload_n 0, 1) := by decide +kernel
theorem dX10_of_27 : decode cX10_of 27 = .ok (.getfield 22, 3) := by decide +kernel
theorem dX10_of_30 : decode cX10_of 30 = .ok (.iload_n 1, 1) := by decide +kernel
theorem dX10_of_31 : decode cX10_of 31 = .ok (.iaload, 1) := by decide +kernel
theorem dX10_of_32 : decode cX10_of 32 = .ok (.goto 31, 3) := by decide +kernel
theorem dX10_of_35 : decode cX10_of 35 = .ok (.iload_n 2, 1) := by decide +kernel
theorem dX10_of_36 : decode cX10_of 36 = .ok (.iconst 2, 1) := by decide +kernel
theorem dX10_of_37 : decode cX10_of 37 = .ok (.if_icmp .ne 12, 3) := by decide +kernel
theorem dX10_of_40 : decode cX10_of 40 = .ok (.aload_n 0, 1) := by decide +kernel
theorem dX10_of_41 : decode cX10_of 41 = .ok (.getfield 28, 3) := by decide +kernel
theorem dX10_of_44 : decode cX10_of 44 = .ok (.iload_n 1, 1) := by decide +kernel
theorem dX10_of_45 : decode cX10_of 45 = .ok (.iaload, 1) := by decide +kernel
theorem dX10_of_46 : decode cX10_of 46 = .ok (.goto 17, 3) := by decide +kernel
theorem dX10_of_49 : decode cX10_of 49 = .ok (.iload_n 2, 1) := by decide +kernel
theorem dX10_of_50 : decode cX10_of 50 = .ok (.iconst 3, 1) := by decide +kernel
theorem dX10_of_51 : decode cX10_of 51 = .ok (.if_icmp .ne 11, 3) := by decide +kernel
theorem dX10_of_54 : decode cX10_of 54 = .ok (.aload_n 0, 1) := by decide +kernel
theorem dX10_of_55 : decode cX10_of 55 = .ok (.iload_n 1, 1) := by decide +kernel
theorem dX10_of_56 : decode cX10_of 56 = .ok (.invokevirtual 93, 3) := by decide +kernel
theorem dX10_of_59 : decode cX10_of 59 = .ok (.goto 4, 3) := by decide +kernel
theorem dX10_of_62 : decode cX10_of 62 = .ok (.iconst (-1), 1) := by decide +kernel
theorem dX10_of_63 : decode cX10_of 63 = .ok (.ireturn, 1) := by decide +kernel
theorem dX10_sense_0 : decode cX10_sense 0 = .ok (.iload_n 1, 1) := by decide +kernel
theorem dX10_sense_1 : decode cX10_sense 1 = .ok (.invokestatic 124, 3) := by decide +kernel
theorem dX10_sense_4 : decode cX10_sense 4 = .ok (.ifCond .eq 15, 3) := by decide +kernel
theorem dX10_sense_7 : decode cX10_sense 7 = .ok (.iload_n 2, 1) := by decide +kernel
theorem dX10_sense_8 : decode cX10_sense 8 = .ok (.i2l, 1) := by decide +kernel
theorem dX10_sense_9 : decode cX10_sense 9 = .ok (.lconst 0, 1) := by decide +kernel
theorem dX10_sense_10 : decode cX10_sense 10 = .ok (.ldc2_w 106, 3) := by decide +kernel
theorem dX10_sense_13 : decode cX10_sense 13 = .ok (.invokestatic 87, 3) := by decide +kernel
theorem dX10_sense_16 : decode cX10_sense 16 = .ok (.ifCond .ne 5, 3) := by decide +kernel
theorem dX10_sense_19 : decode cX10_sense 19 = .ok (.iconst (-1), 1) := by decide +kernel
theorem dX10_sense_20 : decode cX10_sense 20 = .ok (.ireturn, 1) := by decide +kernel
theorem dX10_sense_21 : decode cX10_sense 21 = .ok (.aload_n 0, 1) := by decide +kernel
theorem dX10_sense_22 : decode cX10_sense 22 = .ok (.getfield 28, 3) := by decide +kernel
theorem dX10_sense_25 : decode cX10_sense 25 = .ok (.iload_n 1, 1) := by decide +kernel
theorem dX10_sense_26 : decode cX10_sense 26 = .ok (.iaload, 1) := by decide +kernel
theorem dX10_sense_27 : decode cX10_sense 27 = .ok (.istore_n 3, 1) := by decide +kernel
theorem dX10_sense_28 : decode cX10_sense 28 = .ok (.aload_n 0, 1) := by decide +kernel
theorem dX10_sense_29 : decode cX10_sense 29 = .ok (.getfield 28, 3) := by decide +kernel
theorem dX10_sense_32 : decode cX10_sense 32 = .ok (.iload_n 1, 1) := by decide +kernel
theorem dX10_sense_33 : decode cX10_sense 33 = .ok (.iload_n 2, 1) := by decide +kernel
theorem dX10_sense_34 : decode cX10_sense 34 = .ok (.iastore, 1) := by decide +kernel
theorem dX10_sense_35 : decode cX10_sense 35 = .ok (.iload_n 3, 1) := by decide +kernel
theorem dX10_sense_36 : decode cX10_sense 36 = .ok (.ireturn, 1) := by decide +kernel
theorem dX10_countIn_0 : decode cX10_countIn 0 = .ok (.iconst 0, 1) := by decide +kernel
theorem dX10_countIn_1 : decode cX10_countIn 1 = .ok (.istore_n 2, 1) := by decide +kernel
theorem dX10_countIn_2 : decode cX10_countIn 2 = .ok (.iconst 0, 1) := by decide +kernel
theorem dX10_countIn_3 : decode cX10_countIn 3 = .ok (.istore_n 3, 1) := by decide +kernel
theorem dX10_countIn_4 : decode cX10_countIn 4 = .ok (.iload_n 3, 1) := by decide +kernel
theorem dX10_countIn_5 : decode cX10_countIn 5 = .ok (.aload_n 0, 1) := by decide +kernel
theorem dX10_countIn_6 : decode cX10_countIn 6 = .ok (.getfield 83, 3) := by decide +kernel
theorem dX10_countIn_9 : decode cX10_countIn 9 = .ok (.if_icmp .ge 27, 3) := by decide +kernel
theorem dX10_countIn_12 : decode cX10_countIn 12 = .ok (.iload_n 2, 1) := by decide +kernel
theorem dX10_countIn_13 : decode cX10_countIn 13 = .ok (.aload_n 0, 1) := by decide +kernel
theorem dX10_countIn_14 : decode cX10_countIn 14 = .ok (.getfield 19, 3) := by decide +kernel
theorem dX10_countIn_17 : decode cX10_countIn 17 = .ok (.iload_n 3, 1) := by decide +kernel
theorem dX10_countIn_18 : decode cX10_countIn 18 = .ok (.iaload, 1) := by decide +kernel
theorem dX10_countIn_19 : decode cX10_countIn 19 = .ok (.iload_n 1, 1) := by decide +kernel
theorem dX10_countIn_20 : decode cX10_countIn 20 = .ok (.if_icmp .ne 7, 3) := by decide +kernel
theorem dX10_countIn_23 : decode cX10_countIn 23 = .ok (.iconst 1, 1) := by decide +kernel
theorem dX10_countIn_24 : decode cX10_countIn 24 = .ok (.goto 4, 3) := by decide +kernel
theorem dX10_countIn_27 : decode cX10_countIn 27 = .ok (.iconst 0, 1) := by decide +kernel
theorem dX10_countIn_28 : decode cX10_countIn 28 = .ok (.iadd, 1) := by decide +kernel
theorem dX10_countIn_29 : decode cX10_countIn 29 = .ok (.istore_n 2, 1) := by decide +kernel
theorem dX10_countIn_30 : decode cX10_countIn 30 = .ok (.iinc 3 1, 3) := by decide +kernel
theorem dX10_countIn_33 : decode cX10_countIn 33 = .ok (.goto (-29), 3) := by decide +kernel
theorem dX10_countIn_36 : decode cX10_countIn 36 = .ok (.iload_n 2, 1) := by decide +kernel
theorem dX10_countIn_37 : decode cX10_countIn 37 = .ok (.ireturn, 1) := by decide +kernel
theorem dX10_bagWeighs_0 : decode cX10_bagWeighs 0 = .ok (.iconst 0, 1) := by decide +kernel
theorem dX10_bagWeighs_1 : decode cX10_bagWeighs 1 = .ok (.istore_n 1, 1) := by decide +kernel
theorem dX10_bagWeighs_2 : decode cX10_bagWeighs 2 = .ok (.iconst 0, 1) := by decide +kernel
theorem dX10_bagWeighs_3 : decode cX10_bagWeighs 3 = .ok (.istore_n 2, 1) := by decide +kernel
theorem dX10_bagWeighs_4 : decode cX10_bagWeighs 4 = .ok (.iload_n 2, 1) := by decide +kernel
theorem dX10_bagWeighs_5 : decode cX10_bagWeighs 5 = .ok (.aload_n 0, 1) := by decide +kernel
theorem dX10_bagWeighs_6 : decode cX10_bagWeighs 6 = .ok (.getfield 83, 3) := by decide +kernel
theorem dX10_bagWeighs_9 : decode cX10_bagWeighs 9 = .ok (.if_icmp .ge 32, 3) := by decide +kernel
theorem dX10_bagWeighs_12 : decode cX10_bagWeighs 12 = .ok (.iload_n 1, 1) := by decide +kernel
theorem dX10_bagWeighs_13 : decode cX10_bagWeighs 13 = .ok (.aload_n 0, 1) := by decide +kernel
theorem dX10_bagWeighs_14 : decode cX10_bagWeighs 14 = .ok (.getfield 19, 3) := by decide +kernel
theorem dX10_bagWeighs_17 : decode cX10_bagWeighs 17 = .ok (.iload_n 2, 1) := by decide +kernel
theorem dX10_bagWeighs_18 : decode cX10_bagWeighs 18 = .ok (.iaload, 1) := by decide +kernel
theorem dX10_bagWeighs_19 : decode cX10_bagWeighs 19 = .ok (.bipush 6, 2) := by decide +kernel
theorem dX10_bagWeighs_21 : decode cX10_bagWeighs 21 = .ok (.if_icmp .ne 11, 3) := by decide +kernel
theorem dX10_bagWeighs_24 : decode cX10_bagWeighs 24 = .ok (.aload_n 0, 1) := by decide +kernel
theorem dX10_bagWeighs_25 : decode cX10_bagWeighs 25 = .ok (.iload_n 2, 1) := by decide +kernel
theorem dX10_bagWeighs_26 : decode cX10_bagWeighs 26 = .ok (.invokevirtual 97, 3) := by decide +kernel
theorem dX10_bagWeighs_29 : decode cX10_bagWeighs 29 = .ok (.goto 4, 3) := by decide +kernel
theorem dX10_bagWeighs_32 : decode cX10_bagWeighs 32 = .ok (.iconst 0, 1) := by decide +kernel
theorem dX10_bagWeighs_33 : decode cX10_bagWeighs 33 = .ok (.iadd, 1) := by decide +kernel
theorem dX10_bagWeighs_34 : decode cX10_bagWeighs 34 = .ok (.istore_n 1, 1) := by decide +kernel
theorem dX10_bagWeighs_35 : decode cX10_bagWeighs 35 = .ok (.iinc 2 1, 3) := by decide +kernel
theorem dX10_bagWeighs_38 : decode cX10_bagWeighs 38 = .ok (.goto (-34), 3) := by decide +kernel
theorem dX10_bagWeighs_41 : decode cX10_bagWeighs 41 = .ok (.iload_n 1, 1) := by decide +kernel
theorem dX10_bagWeighs_42 : decode cX10_bagWeighs 42 = .ok (.ireturn, 1) := by decide +kernel
theorem dX10_placesWeigh_0 : decode cX10_placesWeigh 0 = .ok (.iconst 0, 1) := by decide +kernel
theorem dX10_placesWeigh_1 : decode cX10_placesWeigh 1 = .ok (.istore_n 1, 1) := by decide +kernel
theorem dX10_placesWeigh_2 : decode cX10_placesWeigh 2 = .ok (.iconst 0, 1) := by decide +kernel
theorem dX10_placesWeigh_3 : decode cX10_placesWeigh 3 = .ok (.istore_n 2, 1) := by decide +kernel
theorem dX10_placesWeigh_4 : decode cX10_placesWeigh 4 = .ok (.iload_n 2, 1) := by decide +kernel
theorem dX10_placesWeigh_5 : decode cX10_placesWeigh 5 = .ok (.bipush 6, 2) := by decide +kernel
theorem dX10_placesWeigh_7 : decode cX10_placesWeigh 7 = .ok (.if_icmp .ge 17, 3) := by decide +kernel
theorem dX10_placesWeigh_10 : decode cX10_placesWeigh 10 = .ok (.iload_n 1, 1) := by decide +kernel
theorem dX10_placesWeigh_11 : decode cX10_placesWeigh 11 = .ok (.aload_n 0, 1) := by decide +kernel
theorem dX10_placesWeigh_12 : decode cX10_placesWeigh 12 = .ok (.iload_n 2, 1) := by decide +kernel
theorem dX10_placesWeigh_13 : decode cX10_placesWeigh 13 = .ok (.invokevirtual 127, 3) := by decide +kernel
theorem dX10_placesWeigh_16 : decode cX10_placesWeigh 16 = .ok (.iadd, 1) := by decide +kernel
theorem dX10_placesWeigh_17 : decode cX10_placesWeigh 17 = .ok (.istore_n 1, 1) := by decide +kernel
theorem dX10_placesWeigh_18 : decode cX10_placesWeigh 18 = .ok (.iinc 2 1, 3) := by decide +kernel
theorem dX10_placesWeigh_21 : decode cX10_placesWeigh 21 = .ok (.goto (-17), 3) := by decide +kernel
theorem dX10_placesWeigh_24 : decode cX10_placesWeigh 24 = .ok (.iload_n 1, 1) := by decide +kernel
theorem dX10_placesWeigh_25 : decode cX10_placesWeigh 25 = .ok (.ireturn, 1) := by decide +kernel
theorem dX10_count_0 : decode cX10_count 0 = .ok (.iload_n 1, 1) := by decide +kernel
theorem dX10_count_1 : decode cX10_count 1 = .ok (.tableswitch 73 0 5 #[39, 44, 51, 58, 63, 68], 39) := by decide +kernel
theorem dX10_count_40 : decode cX10_count 40 = .ok (.aload_n 0, 1) := by decide +kernel
theorem dX10_count_41 : decode cX10_count 41 = .ok (.getfield 83, 3) := by decide +kernel
theorem dX10_count_44 : decode cX10_count 44 = .ok (.ireturn, 1) := by decide +kernel
theorem dX10_count_45 : decode cX10_count 45 = .ok (.aload_n 0, 1) := by decide +kernel
theorem dX10_count_46 : decode cX10_count 46 = .ok (.bipush 6, 2) := by decide +kernel
theorem dX10_count_48 : decode cX10_count 48 = .ok (.invokevirtual 130, 3) := by decide +kernel
theorem dX10_count_51 : decode cX10_count 51 = .ok (.ireturn, 1) := by decide +kernel
theorem dX10_count_52 : decode cX10_count 52 = .ok (.aload_n 0, 1) := by decide +kernel
theorem dX10_count_53 : decode cX10_count 53 = .ok (.bipush 7, 2) := by decide +kernel
theorem dX10_count_55 : decode cX10_count 55 = .ok (.invokevirtual 130, 3) := by decide +kernel
theorem dX10_count_58 : decode cX10_count 58 = .ok (.ireturn, 1) := by decide +kernel
theorem dX10_count_59 : decode cX10_count 59 = .ok (.aload_n 0, 1) := by decide +kernel
theorem dX10_count_60 : decode cX10_count 60 = .ok (.getfield 133, 3) := by decide +kernel
theorem dX10_count_63 : decode cX10_count 63 = .ok (.ireturn, 1) := by decide +kernel
theorem dX10_count_64 : decode cX10_count 64 = .ok (.aload_n 0, 1) := by decide +kernel
theorem dX10_count_65 : decode cX10_count 65 = .ok (.invokevirtual 136, 3) := by decide +kernel
theorem dX10_count_68 : decode cX10_count 68 = .ok (.ireturn, 1) := by decide +kernel
theorem dX10_count_69 : decode cX10_count 69 = .ok (.aload_n 0, 1) := by decide +kernel
theorem dX10_count_70 : decode cX10_count 70 = .ok (.invokevirtual 140, 3) := by decide +kernel
theorem dX10_count_73 : decode cX10_count 73 = .ok (.ireturn, 1) := by decide +kernel
theorem dX10_count_74 : decode cX10_count 74 = .ok (.iconst (-1), 1) := by decide +kernel
theorem dX10_count_75 : decode cX10_count 75 = .ok (.ireturn, 1) := by decide +kernel
theorem dX10_type_0 : decode cX10_type 0 = .ok (.iload_n 3, 1) := by decide +kernel
theorem dX10_type_1 : decode cX10_type 1 = .ok (.i2l, 1) := by decide +kernel
theorem dX10_type_2 : decode cX10_type 2 = .ok (.lconst 1, 1) := by decide +kernel
theorem dX10_type_3 : decode cX10_type 3 = .ok (.ldc2_w 143, 3) := by decide +kernel
theorem dX10_type_6 : decode cX10_type 6 = .ok (.invokestatic 87, 3) := by decide +kernel
theorem dX10_type_9 : decode cX10_type 9 = .ok (.ifCond .ne 5, 3) := by decide +kernel
theorem dX10_type_12 : decode cX10_type 12 = .ok (.iconst (-1), 1) := by decide +kernel
theorem dX10_type_13 : decode cX10_type 13 = .ok (.ireturn, 1) := by decide +kernel
theorem dX10_type_14 : decode cX10_type 14 = .ok (.iconst 0, 1) := by decide +kernel
theorem dX10_type_15 : decode cX10_type 15 = .ok (.istore 4, 2) := by decide +kernel
theorem dX10_type_17 : decode cX10_type 17 = .ok (.iload 4, 2) := by decide +kernel
theorem dX10_type_19 : decode cX10_type 19 = .ok (.iload_n 3, 1) := by decide +kernel
theorem dX10_type_20 : decode cX10_type 20 = .ok (.if_icmp .ge 34, 3) := by decide +kernel
theorem dX10_type_23 : decode cX10_type 23 = .ok (.lload_n 1, 1) := by decide +kernel
theorem dX10_type_24 : decode cX10_type 24 = .ok (.bipush 8, 2) := by decide +kernel
theorem dX10_type_26 : decode cX10_type 26 = .ok (.iload 4, 2) := by decide +kernel
theorem dX10_type_28 : decode cX10_type 28 = .ok (.imul, 1) := by decide +kernel
theorem dX10_type_29 : decode cX10_type 29 = .ok (.lshr, 1) := by decide +kernel
theorem dX10_type_30 : decode cX10_type 30 = .ok (.ldc2_w 145, 3) := by decide +kernel
theorem dX10_type_33 : decode cX10_type 33 = .ok (.land, 1) := by decide +kernel
theorem dX10_type_34 : decode cX10_type 34 = .ok (.ldc2_w 147, 3) := by decide +kernel
theorem dX10_type_37 : decode cX10_type 37 = .ok (.ldc2_w 149, 3) := by decide +kernel
theorem dX10_type_40 : decode cX10_type 40 = .ok (.invokestatic 87, 3) := by decide +kernel
theorem dX10_type_43 : decode cX10_type 43 = .ok (.ifCond .ne 5, 3) := by decide +kernel
theorem dX10_type_46 : decode cX10_type 46 = .ok (.iconst (-1), 1) := by decide +kernel
theorem dX10_type_47 : decode cX10_type 47 = .ok (.ireturn, 1) := by decide +kernel
theorem dX10_type_48 : decode cX10_type 48 = .ok (.iinc 4 1, 3) := by decide +kernel
theorem dX10_type_51 : decode cX10_type 51 = .ok (.goto (-34), 3) := by decide +kernel
theorem dX10_type_54 : decode cX10_type 54 = .ok (.aload_n 0, 1) := by decide +kernel
theorem dX10_type_55 : decode cX10_type 55 = .ok (.getfield 151, 3) := by decide +kernel
theorem dX10_type_58 : decode cX10_type 58 = .ok (.iload_n 3, 1) := by decide +kernel
theorem dX10_type_59 : decode cX10_type 59 = .ok (.iadd, 1) := by decide +kernel
theorem dX10_type_60 : decode cX10_type 60 = .ok (.bipush 120, 2) := by decide +kernel
theorem dX10_type_62 : decode cX10_type 62 = .ok (.if_icmp .le 6, 3) := by decide +kernel
theorem dX10_type_65 : decode cX10_type 65 = .ok (.bipush (-3), 2) := by decide +kernel
theorem dX10_type_67 : decode cX10_type 67 = .ok (.ireturn, 1) := by decide +kernel
theorem dX10_type_68 : decode cX10_type 68 = .ok (.iload_n 3, 1) := by decide +kernel
theorem dX10_type_69 : decode cX10_type 69 = .ok (.iconst 1, 1) := by decide +kernel
theorem dX10_type_70 : decode cX10_type 70 = .ok (.isub, 1) := by decide +kernel
theorem dX10_type_71 : decode cX10_type 71 = .ok (.istore 4, 2) := by decide +kernel
theorem dX10_type_73 : decode cX10_type 73 = .ok (.iload 4, 2) := by decide +kernel
theorem dX10_type_75 : decode cX10_type 75 = .ok (.ifCond .lt 40, 3) := by decide +kernel
theorem dX10_type_78 : decode cX10_type 78 = .ok (.aload_n 0, 1) := by decide +kernel
theorem dX10_type_79 : decode cX10_type 79 = .ok (.getfield 31, 3) := by decide +kernel
theorem dX10_type_82 : decode cX10_type 82 = .ok (.aload_n 0, 1) := by decide +kernel
theorem dX10_type_83 : decode cX10_type 83 = .ok (.getfield 151, 3) := by decide +kernel
theorem dX10_type_86 : decode cX10_type 86 = .ok (.lload_n 1, 1) := by decide +kernel
theorem dX10_type_87 : decode cX10_type 87 = .ok (.bipush 8, 2) := by decide +kernel
theorem dX10_type_89 : decode cX10_type 89 = .ok (.iload 4, 2) := by decide +kernel
theorem dX10_type_91 : decode cX10_type 91 = .ok (.imul, 1) := by decide +kernel
theorem dX10_type_92 : decode cX10_type 92 = .ok (.lshr, 1) := by decide +kernel
theorem dX10_type_93 : decode cX10_type 93 = .ok (.ldc2_w 145, 3) := by decide +kernel
theorem dX10_type_96 : decode cX10_type 96 = .ok (.land, 1) := by decide +kernel
theorem dX10_type_97 : decode cX10_type 97 = .ok (.l2i, 1) := by decide +kernel
theorem dX10_type_98 : decode cX10_type 98 = .ok (.iastore, 1) := by decide +kernel
theorem dX10_type_99 : decode cX10_type 99 = .ok (.aload_n 0, 1) := by decide +kernel
theorem dX10_type_100 : decode cX10_type 100 = .ok (.dup, 1) := by decide +kernel
theorem dX10_type_101 : decode cX10_type 101 = .ok (.getfield 151, 3) := by decide +kernel
theorem dX10_type_104 : decode cX10_type 104 = .ok (.iconst 1, 1) := by decide +kernel
theorem dX10_type_105 : decode cX10_type 105 = .ok (.iadd, 1) := by decide +kernel
theorem dX10_type_106 : decode cX10_type 106 = .ok (.putfield 151, 3) := by decide +kernel
theorem dX10_type_109 : decode cX10_type 109 = .ok (.iinc 4 (-1), 3) := by decide +kernel
theorem dX10_type_112 : decode cX10_type 112 = .ok (.goto (-39), 3) := by decide +kernel
theorem dX10_type_115 : decode cX10_type 115 = .ok (.aload_n 0, 1) := by decide +kernel
theorem dX10_type_116 : decode cX10_type 116 = .ok (.getfield 151, 3) := by decide +kernel
theorem dX10_type_119 : decode cX10_type 119 = .ok (.ireturn, 1) := by decide +kernel
theorem dX10_here_0 : decode cX10_here 0 = .ok (.aload_n 0, 1) := by decide +kernel
theorem dX10_here_1 : decode cX10_here 1 = .ok (.getfield 154, 3) := by decide +kernel
theorem dX10_here_4 : decode cX10_here 4 = .ok (.aload_n 0, 1) := by decide +kernel
theorem dX10_here_5 : decode cX10_here 5 = .ok (.getfield 151, 3) := by decide +kernel
theorem dX10_here_8 : decode cX10_here 8 = .ok (.if_icmp .ge 30, 3) := by decide +kernel
theorem dX10_here_11 : decode cX10_here 11 = .ok (.aload_n 0, 1) := by decide +kernel
theorem dX10_here_12 : decode cX10_here 12 = .ok (.getfield 31, 3) := by decide +kernel
theorem dX10_here_15 : decode cX10_here 15 = .ok (.aload_n 0, 1) := by decide +kernel
theorem dX10_here_16 : decode cX10_here 16 = .ok (.getfield 154, 3) := by decide +kernel
theorem dX10_here_19 : decode cX10_here 19 = .ok (.iaload, 1) := by decide +kernel
theorem dX10_here_20 : decode cX10_here 20 = .ok (.bipush 32, 2) := by decide +kernel
theorem dX10_here_22 : decode cX10_here 22 = .ok (.if_icmp .ne 16, 3) := by decide +kernel
theorem dX10_here_25 : decode cX10_here 25 = .ok (.aload_n 0, 1) := by decide +kernel
theorem dX10_here_26 : decode cX10_here 26 = .ok (.dup, 1) := by decide +kernel
theorem dX10_here_27 : decode cX10_here 27 = .ok (.getfield 154, 3) := by decide +kernel
theorem dX10_here_30 : decode cX10_here 30 = .ok (.iconst 1, 1) := by decide +kernel
theorem dX10_here_31 : decode cX10_here 31 = .ok (.iadd, 1) := by decide +kernel
theorem dX10_here_32 : decode cX10_here 32 = .ok (.putfield 154, 3) := by decide +kernel
theorem dX10_here_35 : decode cX10_here 35 = .ok (.goto (-35), 3) := by decide +kernel
theorem dX10_here_38 : decode cX10_here 38 = .ok (.aload_n 0, 1) := by decide +kernel
theorem dX10_here_39 : decode cX10_here 39 = .ok (.getfield 154, 3) := by decide +kernel
theorem dX10_here_42 : decode cX10_here 42 = .ok (.aload_n 0, 1) := by decide +kernel
theorem dX10_here_43 : decode cX10_here 43 = .ok (.getfield 151, 3) := by decide +kernel
theorem dX10_here_46 : decode cX10_here 46 = .ok (.if_icmp .ge 15, 3) := by decide +kernel
theorem dX10_here_49 : decode cX10_here 49 = .ok (.aload_n 0, 1) := by decide +kernel
theorem dX10_here_50 : decode cX10_here 50 = .ok (.getfield 31, 3) := by decide +kernel
theorem dX10_here_53 : decode cX10_here 53 = .ok (.aload_n 0, 1) := by decide +kernel
theorem dX10_here_54 : decode cX10_here 54 = .ok (.getfield 154, 3) := by decide +kernel
theorem dX10_here_57 : decode cX10_here 57 = .ok (.iaload, 1) := by decide +kernel
theorem dX10_here_58 : decode cX10_here 58 = .ok (.goto 4, 3) := by decide +kernel
theorem dX10_here_61 : decode cX10_here 61 = .ok (.iconst (-1), 1) := by decide +kernel
theorem dX10_here_62 : decode cX10_here 62 = .ok (.ireturn, 1) := by decide +kernel
theorem dX10_fails_0 : decode cX10_fails 0 = .ok (.aload_n 0, 1) := by decide +kernel
theorem dX10_fails_1 : decode cX10_fails 1 = .ok (.aload_n 0, 1) := by decide +kernel
theorem dX10_fails_2 : decode cX10_fails 2 = .ok (.getfield 157, 3) := by decide +kernel
theorem dX10_fails_5 : decode cX10_fails 5 = .ok (.ifCond .ne 10, 3) := by decide +kernel
theorem dX10_fails_8 : decode cX10_fails 8 = .ok (.bipush (-20), 2) := by decide +kernel
theorem dX10_fails_10 : decode cX10_fails 10 = .ok (.iload_n 1, 1) := by decide +kernel
theorem dX10_fails_11 : decode cX10_fails 11 = .ok (.isub, 1) := by decide +kernel
theorem dX10_fails_12 : decode cX10_fails 12 = .ok (.goto 7, 3) := by decide +kernel
theorem dX10_fails_15 : decode cX10_fails 15 = .ok (.aload_n 0, 1) := by decide +kernel
theorem dX10_fails_16 : decode cX10_fails 16 = .ok (.getfield 157, 3) := by decide +kernel
theorem dX10_fails_19 : decode cX10_fails 19 = .ok (.putfield 157, 3) := by decide +kernel
theorem dX10_fails_22 : decode cX10_fails 22 = .ok (.return_, 1) := by decide +kernel
theorem dX10_take_0 : decode cX10_take 0 = .ok (.aload_n 0, 1) := by decide +kernel
theorem dX10_take_1 : decode cX10_take 1 = .ok (.invokevirtual 160, 3) := by decide +kernel
theorem dX10_take_4 : decode cX10_take 4 = .ok (.istore_n 3, 1) := by decide +kernel
theorem dX10_take_5 : decode cX10_take 5 = .ok (.aload_n 0, 1) := by decide +kernel
theorem dX10_take_6 : decode cX10_take 6 = .ok (.getfield 157, 3) := by decide +kernel
theorem dX10_take_9 : decode cX10_take 9 = .ok (.ifCond .ne 15, 3) := by decide +kernel
theorem dX10_take_12 : decode cX10_take 12 = .ok (.iload_n 3, 1) := by decide +kernel
theorem dX10_take_13 : decode cX10_take 13 = .ok (.i2l, 1) := by decide +kernel
theorem dX10_take_14 : decode cX10_take 14 = .ok (.iload_n 1, 1) := by decide +kernel
theorem dX10_take_15 : decode cX10_take 15 = .ok (.i2l, 1) := by decide +kernel
theorem dX10_take_16 : decode cX10_take 16 = .ok (.iload_n 2, 1) := by decide +kernel
theorem dX10_take_17 : decode cX10_take 17 = .ok (.i2l, 1) := by decide +kernel
theorem dX10_take_18 : decode cX10_take 18 = .ok (.invokestatic 87, 3) := by decide +kernel
theorem dX10_take_21 : decode cX10_take 21 = .ok (.ifCond .ne 13, 3) := by decide +kernel
theorem dX10_take_24 : decode cX10_take 24 = .ok (.aload_n 0, 1) := by decide +kernel
theorem dX10_take_25 : decode cX10_take 25 = .ok (.aload_n 0, 1) := by decide +kernel
theorem dX10_take_26 : decode cX10_take 26 = .ok (.getfield 154, 3) := by decide +kernel
theorem dX10_take_29 : decode cX10_take 29 = .ok (.invokevirtual 163, 3) := by decide +kernel
theorem dX10_take_32 : decode cX10_take 32 = .ok (.iconst 0, 1) := by decide +kernel
theorem dX10_take_33 : decode cX10_take 33 = .ok (.ireturn, 1) := by decide +kernel
theorem dX10_take_34 : decode cX10_take 34 = .ok (.aload_n 0, 1) := by decide +kernel
theorem dX10_take_35 : decode cX10_take 35 = .ok (.dup, 1) := by decide +kernel
theorem dX10_take_36 : decode cX10_take 36 = .ok (.getfield 154, 3) := by decide +kernel
theorem dX10_take_39 : decode cX10_take 39 = .ok (.iconst 1, 1) := by decide +kernel
theorem dX10_take_40 : decode cX10_take 40 = .ok (.iadd, 1) := by decide +kernel
theorem dX10_take_41 : decode cX10_take 41 = .ok (.putfield 154, 3) := by decide +kernel
theorem dX10_take_44 : decode cX10_take 44 = .ok (.iload_n 3, 1) := by decide +kernel
theorem dX10_take_45 : decode cX10_take 45 = .ok (.iload_n 1, 1) := by decide +kernel
theorem dX10_take_46 : decode cX10_take 46 = .ok (.isub, 1) := by decide +kernel
theorem dX10_take_47 : decode cX10_take 47 = .ok (.ireturn, 1) := by decide +kernel
theorem dX10_takeNumber_0 : decode cX10_takeNumber 0 = .ok (.aload_n 0, 1) := by decide +kernel
theorem dX10_takeNumber_1 : decode cX10_takeNumber 1 = .ok (.invokevirtual 160, 3) := by decide +kernel
theorem dX10_takeNumber_4 : decode cX10_takeNumber 4 = .ok (.istore_n 1, 1) := by decide +kernel
theorem dX10_takeNumber_5 : decode cX10_takeNumber 5 = .ok (.aload_n 0, 1) := by decide +kernel
theorem dX10_takeNumber_6 : decode cX10_takeNumber 6 = .ok (.getfield 154, 3) := by decide +kernel
theorem dX10_takeNumber_9 : decode cX10_takeNumber 9 = .ok (.istore_n 2, 1) := by decide +kernel
theorem dX10_takeNumber_10 : decode cX10_takeNumber 10 = .ok (.iconst 0, 1) := by decide +kernel
theorem dX10_takeNumber_11 : decode cX10_takeNumber 11 = .ok (.istore_n 3, 1) := by decide +kernel
theorem dX10_takeNumber_12 : decode cX10_takeNumber 12 = .ok (.aload_n 0, 1) := by decide +kernel
theorem dX10_takeNumber_13 : decode cX10_takeNumber 13 = .ok (.getfield 157, 3) := by decide +kernel
theorem dX10_takeNumber_16 : decode cX10_takeNumber 16 = .ok (.ifCond .ne 17, 3) := by decide +kernel
theorem dX10_takeNumber_19 : decode cX10_takeNumber 19 = .ok (.iload_n 1, 1) := by decide +kernel
theorem dX10_takeNumber_20 : decode cX10_takeNumber 20 = .ok (.i2l, 1) := by decide +kernel
theorem dX10_takeNumber_21 : decode cX10_takeNumber 21 = .ok (.ldc2_w 167, 3) := by decide +kernel
theorem dX10_takeNumber_24 : decode cX10_takeNumber 24 = .ok (.ldc2_w 169, 3) := by decide +kernel
theorem dX10_takeNumber_27 : decode cX10_takeNumber 27 = .ok (.invokestatic 87, 3) := by decide +kernel
theorem dX10_takeNumber_30 : decode cX10_takeNumber 30 = .ok (.ifCond .ne 13, 3) := by decide +kernel
theorem dX10_takeNumber_33 : decode cX10_takeNumber 33 = .ok (.aload_n 0, 1) := by decide +kernel
theorem dX10_takeNumber_34 : decode cX10_takeNumber 34 = .ok (.aload_n 0, 1) := by decide +kernel
theorem dX10_takeNumber_35 : decode cX10_takeNumber 35 = .ok (.getfield 154, 3) := by decide +kernel
theorem dX10_takeNumber_38 : decode cX10_takeNumber 38 = .ok (.invokevirtual 163, 3) := by decide +kernel
theorem dX10_takeNumber_41 : decode cX10_takeNumber 41 = .ok (.iconst 0, 1) := by decide +kernel
theorem dX10_takeNumber_42 : decode cX10_takeNumber 42 = .ok (.ireturn, 1) := by decide +kernel
theorem dX10_takeNumber_43 : decode cX10_takeNumber 43 = .ok (.aload_n 0, 1) := by decide +kernel
theorem dX10_takeNumber_44 : decode cX10_takeNumber 44 = .ok (.getfield 154, 3) := by decide +kernel
theorem dX10_takeNumber_47 : decode cX10_takeNumber 47 = .ok (.aload_n 0, 1) := by decide +kernel
theorem dX10_takeNumber_48 : decode cX10_takeNumber 48 = .ok (.getfield 151, 3) := by decide +kernel
theorem dX10_takeNumber_51 : decode cX10_takeNumber 51 = .ok (.if_icmp .ge 67, 3) := by decide +kernel
theorem dX10_takeNumber_54 : decode cX10_takeNumber 54 = .ok (.aload_n 0, 1) := by decide +kernel
theorem dX10_takeNumber_55 : decode cX10_takeNumber 55 = .ok (.getfield 31, 3) := by decide +kernel
theorem dX10_takeNumber_58 : decode cX10_takeNumber 58 = .ok (.aload_n 0, 1) := by decide +kernel
theorem dX10_takeNumber_59 : decode cX10_takeNumber 59 = .ok (.getfield 154, 3) := by decide +kernel
theorem dX10_takeNumber_62 : decode cX10_takeNumber 62 = .ok (.iaload, 1) := by decide +kernel
theorem dX10_takeNumber_63 : decode cX10_takeNumber 63 = .ok (.i2l, 1) := by decide +kernel
theorem dX10_takeNumber_64 : decode cX10_takeNumber 64 = .ok (.ldc2_w 167, 3) := by decide +kernel
theorem dX10_takeNumber_67 : decode cX10_takeNumber 67 = .ok (.ldc2_w 169, 3) := by decide +kernel
theorem dX10_takeNumber_70 : decode cX10_takeNumber 70 = .ok (.invokestatic 87, 3) := by decide +kernel
theorem dX10_takeNumber_73 : decode cX10_takeNumber 73 = .ok (.ifCond .eq 45, 3) := by decide +kernel
theorem dX10_takeNumber_76 : decode cX10_takeNumber 76 = .ok (.iload_n 3, 1) := by decide +kernel
theorem dX10_takeNumber_77 : decode cX10_takeNumber 77 = .ok (.sipush 1000, 3) := by decide +kernel
theorem dX10_takeNumber_80 : decode cX10_takeNumber 80 = .ok (.if_icmp .le 7, 3) := by decide +kernel
theorem dX10_takeNumber_83 : decode cX10_takeNumber 83 = .ok (.iload_n 3, 1) := by decide +kernel
theorem dX10_takeNumber_84 : decode cX10_takeNumber 84 = .ok (.goto 20, 3) := by decide +kernel
theorem dX10_takeNumber_87 : decode cX10_takeNumber 87 = .ok (.bipush 10, 2) := by decide +kernel
theorem dX10_takeNumber_89 : decode cX10_takeNumber 89 = .ok (.iload_n 3, 1) := by decide +kernel
theorem dX10_takeNumber_90 : decode cX10_takeNumber 90 = .ok (.imul, 1) := by decide +kernel
theorem dX10_takeNumber_91 : decode cX10_takeNumber 91 = .ok (.aload_n 0, 1) := by decide +kernel
theorem dX10_takeNumber_92 : decode cX10_takeNumber 92 = .ok (.getfield 31, 3) := by decide +kernel
theorem dX10_takeNumber_95 : decode cX10_takeNumber 95 = .ok (.aload_n 0, 1) := by decide +kernel
theorem dX10_takeNumber_96 : decode cX10_takeNumber 96 = .ok (.getfield 154, 3) := by decide +kernel
theorem dX10_takeNumber_99 : decode cX10_takeNumber 99 = .ok (.iaload, 1) := by decide +kernel
theorem dX10_takeNumber_100 : decode cX10_takeNumber 100 = .ok (.iadd, 1) := by decide +kernel
theorem dX10_takeNumber_101 : decode cX10_takeNumber 101 = .ok (.bipush 48, 2) := by decide +kernel
theorem dX10_takeNumber_103 : decode cX10_takeNumber 103 = .ok (.isub, 1) := by decide +kernel
theorem dX10_takeNumber_104 : decode cX10_takeNumber 104 = .ok (.istore_n 3, 1) := by decide +kernel
theorem dX10_takeNumber_105 : decode cX10_takeNumber 105 = .ok (.aload_n 0, 1) := by decide +kernel
theorem dX10_takeNumber_106 : decode cX10_takeNumber 106 = .ok (.dup, 1) := by decide +kernel
theorem dX10_takeNumber_107 : decode cX10_takeNumber 107 = .ok (.getfield 154, 3) := by decide +kernel
theorem dX10_takeNumber_110 : decode cX10_takeNumber 110 = .ok (.iconst 1, 1) := by decide +kernel
theorem dX10_takeNumber_111 : decode cX10_takeNumber 111 = .ok (.iadd, 1) := by decide +kernel
theorem dX10_takeNumber_112 : decode cX10_takeNumber 112 = .ok (.putfield 154, 3) := by decide +kernel
theorem dX10_takeNumber_115 : decode cX10_takeNumber 115 = .ok (.goto (-72), 3) := by decide +kernel
theorem dX10_takeNumber_118 : decode cX10_takeNumber 118 = .ok (.iload_n 3, 1) := by decide +kernel
theorem dX10_takeNumber_119 : decode cX10_takeNumber 119 = .ok (.i2l, 1) := by decide +kernel
theorem dX10_takeNumber_120 : decode cX10_takeNumber 120 = .ok (.lconst 1, 1) := by decide +kernel
theorem dX10_takeNumber_121 : decode cX10_takeNumber 121 = .ok (.ldc2_w 106, 3) := by decide +kernel
theorem dX10_takeNumber_124 : decode cX10_takeNumber 124 = .ok (.invokestatic 87, 3) := by decide +kernel
theorem dX10_takeNumber_127 : decode cX10_takeNumber 127 = .ok (.ifCond .ne 8, 3) := by decide +kernel
theorem dX10_takeNumber_130 : decode cX10_takeNumber 130 = .ok (.aload_n 0, 1) := by decide +kernel
theorem dX10_takeNumber_131 : decode cX10_takeNumber 131 = .ok (.iload_n 2, 1) := by decide +kernel
theorem dX10_takeNumber_132 : decode cX10_takeNumber 132 = .ok (.invokevirtual 163, 3) := by decide +kernel
theorem dX10_takeNumber_135 : decode cX10_takeNumber 135 = .ok (.iload_n 3, 1) := by decide +kernel
theorem dX10_takeNumber_136 : decode cX10_takeNumber 136 = .ok (.ireturn, 1) := by decide +kernel
theorem dX10_takePiece_0 : decode cX10_takePiece 0 = .ok (.aload_n 0, 1) := by decide +kernel
theorem dX10_takePiece_1 : decode cX10_takePiece 1 = .ok (.getfield 171, 3) := by decide +kernel
theorem dX10_takePiece_4 : decode cX10_takePiece 4 = .ok (.istore_n 1, 1) := by decide +kernel
theorem dX10_takePiece_5 : decode cX10_takePiece 5 = .ok (.aload_n 0, 1) := by decide +kernel
theorem dX10_takePiece_6 : decode cX10_takePiece 6 = .ok (.invokevirtual 160, 3) := by decide +kernel
theorem dX10_takePiece_9 : decode cX10_takePiece 9 = .ok (.istore_n 2, 1) := by decide +kernel
theorem dX10_takePiece_10 : decode cX10_takePiece 10 = .ok (.aload_n 0, 1) := by decide +kernel
theorem dX10_takePiece_11 : decode cX10_takePiece 11 = .ok (.getfield 34, 3) := by decide +kernel
theorem dX10_takePiece_14 : decode cX10_takePiece 14 = .ok (.iload_n 1, 1) := by decide +kernel
theorem dX10_takePiece_15 : decode cX10_takePiece 15 = .ok (.iload_n 2, 1) := by decide +kernel
theorem dX10_takePiece_16 : decode cX10_takePiece 16 = .ok (.bipush 99, 2) := by decide +kernel
theorem dX10_takePiece_18 : decode cX10_takePiece 18 = .ok (.if_icmp .ne 7, 3) := by decide +kernel
theorem dX10_takePiece_21 : decode cX10_takePiece 21 = .ok (.iconst 0, 1) := by decide +kernel
theorem dX10_takePiece_22 : decode cX10_takePiece 22 = .ok (.goto 34, 3) := by decide +kernel
theorem dX10_takePiece_25 : decode cX10_takePiece 25 = .ok (.iload_n 2, 1) := by decide +kernel
theorem dX10_takePiece_26 : decode cX10_takePiece 26 = .ok (.bipush 107, 2) := by decide +kernel
theorem dX10_takePiece_28 : decode cX10_takePiece 28 = .ok (.if_icmp .ne 7, 3) := by decide +kernel
theorem dX10_takePiece_31 : decode cX10_takePiece 31 = .ok (.iconst 1, 1) := by decide +kernel
theorem dX10_takePiece_32 : decode cX10_takePiece 32 = .ok (.goto 24, 3) := by decide +kernel
theorem dX10_takePiece_35 : decode cX10_takePiece 35 = .ok (.iload_n 2, 1) := by decide +kernel
theorem dX10_takePiece_36 : decode cX10_takePiece 36 = .ok (.bipush 108, 2) := by decide +kernel
theorem dX10_takePiece_38 : decode cX10_takePiece 38 = .ok (.if_icmp .ne 7, 3) := by decide +kernel
theorem dX10_takePiece_41 : decode cX10_takePiece 41 = .ok (.iconst 2, 1) := by decide +kernel
theorem dX10_takePiece_42 : decode cX10_takePiece 42 = .ok (.goto 14, 3) := by decide +kernel
theorem dX10_takePiece_45 : decode cX10_takePiece 45 = .ok (.iload_n 2, 1) := by decide +kernel
theorem dX10_takePiece_46 : decode cX10_takePiece 46 = .ok (.bipush 114, 2) := by decide +kernel
theorem dX10_takePiece_48 : decode cX10_takePiece 48 = .ok (.if_icmp .ne 7, 3) := by decide +kernel
theorem dX10_takePiece_51 : decode cX10_takePiece 51 = .ok (.iconst 3, 1) := by decide +kernel
theorem dX10_takePiece_52 : decode cX10_takePiece 52 = .ok (.goto 4, 3) := by decide +kernel
theorem dX10_takePiece_55 : decode cX10_takePiece 55 = .ok (.iconst (-1), 1) := by decide +kernel
theorem dX10_takePiece_56 : decode cX10_takePiece 56 = .ok (.iastore, 1) := by decide +kernel
theorem dX10_takePiece_57 : decode cX10_takePiece 57 = .ok (.aload_n 0, 1) := by decide +kernel
theorem dX10_takePiece_58 : decode cX10_takePiece 58 = .ok (.getfield 34, 3) := by decide +kernel
theorem dX10_takePiece_61 : decode cX10_takePiece 61 = .ok (.iload_n 1, 1) := by decide +kernel
theorem dX10_takePiece_62 : decode cX10_takePiece 62 = .ok (.iaload, 1) := by decide +kernel
theorem dX10_takePiece_63 : decode cX10_takePiece 63 = .ok (.ifCond .ge 12, 3) := by decide +kernel
theorem dX10_takePiece_66 : decode cX10_takePiece 66 = .ok (.aload_n 0, 1) := by decide +kernel
theorem dX10_takePiece_67 : decode cX10_takePiece 67 = .ok (.aload_n 0, 1) := by decide +kernel
theorem dX10_takePiece_68 : decode cX10_takePiece 68 = .ok (.getfield 154, 3) := by decide +kernel
theorem dX10_takePiece_71 : decode cX10_takePiece 71 = .ok (.invokevirtual 163, 3) := by decide +kernel
theorem dX10_takePiece_74 : decode cX10_takePiece 74 = .ok (.return_, 1) := by decide +kernel
theorem dX10_takePiece_75 : decode cX10_takePiece 75 = .ok (.aload_n 0, 1) := by decide +kernel
theorem dX10_takePiece_76 : decode cX10_takePiece 76 = .ok (.dup, 1) := by decide +kernel
theorem dX10_takePiece_77 : decode cX10_takePiece 77 = .ok (.getfield 154, 3) := by decide +kernel
theorem dX10_takePiece_80 : decode cX10_takePiece 80 = .ok (.iconst 1, 1) := by decide +kernel
theorem dX10_takePiece_81 : decode cX10_takePiece 81 = .ok (.iadd, 1) := by decide +kernel
theorem dX10_takePiece_82 : decode cX10_takePiece 82 = .ok (.putfield 154, 3) := by decide +kernel
theorem dX10_takePiece_85 : decode cX10_takePiece 85 = .ok (.aload_n 0, 1) := by decide +kernel
theorem dX10_takePiece_86 : decode cX10_takePiece 86 = .ok (.getfield 37, 3) := by decide +kernel
theorem dX10_takePiece_89 : decode cX10_takePiece 89 = .ok (.iload_n 1, 1) := by decide +kernel
theorem dX10_takePiece_90 : decode cX10_takePiece 90 = .ok (.aload_n 0, 1) := by decide +kernel
theorem dX10_takePiece_91 : decode cX10_takePiece 91 = .ok (.invokevirtual 174, 3) := by decide +kernel
theorem dX10_takePiece_94 : decode cX10_takePiece 94 = .ok (.iastore, 1) := by decide +kernel
theorem dX10_takePiece_95 : decode cX10_takePiece 95 = .ok (.aload_n 0, 1) := by decide +kernel
theorem dX10_takePiece_96 : decode cX10_takePiece 96 = .ok (.getfield 40, 3) := by decide +kernel
theorem dX10_takePiece_99 : decode cX10_takePiece 99 = .ok (.iload_n 1, 1) := by decide +kernel
theorem dX10_takePiece_100 : decode cX10_takePiece 100 = .ok (.iconst 0, 1) := by decide +kernel
theorem dX10_takePiece_101 : decode cX10_takePiece 101 = .ok (.iastore, 1) := by decide +kernel
theorem dX10_takePiece_102 : decode cX10_takePiece 102 = .ok (.aload_n 0, 1) := by decide +kernel
theorem dX10_takePiece_103 : decode cX10_takePiece 103 = .ok (.getfield 157, 3) := by decide +kernel
theorem dX10_takePiece_106 : decode cX10_takePiece 106 = .ok (.ifCond .ne 36, 3) := by decide +kernel
theorem dX10_takePiece_109 : decode cX10_takePiece 109 = .ok (.aload_n 0, 1) := by decide +kernel
theorem dX10_takePiece_110 : decode cX10_takePiece 110 = .ok (.invokevirtual 160, 3) := by decide +kernel
theorem dX10_takePiece_113 : decode cX10_takePiece 113 = .ok (.bipush 116, 2) := by decide +kernel
theorem dX10_takePiece_115 : decode cX10_takePiece 115 = .ok (.if_icmp .ne 27, 3) := by decide +kernel
theorem dX10_takePiece_118 : decode cX10_takePiece 118 = .ok (.aload_n 0, 1) := by decide +kernel
theorem dX10_takePiece_119 : decode cX10_takePiece 119 = .ok (.dup, 1) := by decide +kernel
theorem dX10_takePiece_120 : decode cX10_takePiece 120 = .ok (.getfield 154, 3) := by decide +kernel
theorem dX10_takePiece_123 : decode cX10_takePiece 123 = .ok (.iconst 1, 1) := by decide +kernel
theorem dX10_takePiece_124 : decode cX10_takePiece 124 = .ok (.iadd, 1) := by decide +kernel
theorem dX10_takePiece_125 : decode cX10_takePiece 125 = .ok (.putfield 154, 3) := by decide +kernel
theorem dX10_takePiece_128 : decode cX10_takePiece 128 = .ok (.aload_n 0, 1) := by decide +kernel
theorem dX10_takePiece_129 : decode cX10_takePiece 129 = .ok (.getfield 40, 3) := by decide +kernel
theorem dX10_takePiece_132 : decode cX10_takePiece 132 = .ok (.iload_n 1, 1) := by decide +kernel
theorem dX10_takePiece_133 : decode cX10_takePiece 133 = .ok (.aload_n 0, 1) := by decide +kernel
theorem dX10_takePiece_134 : decode cX10_takePiece 134 = .ok (.bipush 48, 2) := by decide +kernel
theorem dX10_takePiece_136 : decode cX10_takePiece 136 = .ok (.bipush 51, 2) := by decide +kernel
theorem dX10_takePiece_138 : decode cX10_takePiece 138 = .ok (.invokevirtual 177, 3) := by decide +kernel
theorem dX10_takePiece_141 : decode cX10_takePiece 141 = .ok (.iastore, 1) := by decide +kernel
theorem dX10_takePiece_142 : decode cX10_takePiece 142 = .ok (.aload_n 0, 1) := by decide +kernel
theorem dX10_takePiece_143 : decode cX10_takePiece 143 = .ok (.getfield 43, 3) := by decide +kernel
theorem dX10_takePiece_146 : decode cX10_takePiece 146 = .ok (.iload_n 1, 1) := by decide +kernel
theorem dX10_takePiece_147 : decode cX10_takePiece 147 = .ok (.bipush 6, 2) := by decide +kernel
theorem dX10_takePiece_149 : decode cX10_takePiece 149 = .ok (.iastore, 1) := by decide +kernel
theorem dX10_takePiece_150 : decode cX10_takePiece 150 = .ok (.aload_n 0, 1) := by decide +kernel
theorem dX10_takePiece_151 : decode cX10_takePiece 151 = .ok (.getfield 157, 3) := by decide +kernel
theorem dX10_takePiece_154 : decode cX10_takePiece 154 = .ok (.ifCond .ne 36, 3) := by decide +kernel
theorem dX10_takePiece_157 : decode cX10_takePiece 157 = .ok (.aload_n 0, 1) := by decide +kernel
theorem dX10_takePiece_158 : decode cX10_takePiece 158 = .ok (.invokevirtual 160, 3) := by decide +kernel
theorem dX10_takePiece_161 : decode cX10_takePiece 161 = .ok (.bipush 64, 2) := by decide +kernel
theorem dX10_takePiece_163 : decode cX10_takePiece 163 = .ok (.if_icmp .ne 27, 3) := by decide +kernel
theorem dX10_takePiece_166 : decode cX10_takePiece 166 = .ok (.aload_n 0, 1) := by decide +kernel
theorem dX10_takePiece_167 : decode cX10_takePiece 167 = .ok (.dup, 1) := by decide +kernel
theorem dX10_takePiece_168 : decode cX10_takePiece 168 = .ok (.getfield 154, 3) := by decide +kernel
theorem dX10_takePiece_171 : decode cX10_takePiece 171 = .ok (.iconst 1, 1) := by decide +kernel
theorem dX10_takePiece_172 : decode cX10_takePiece 172 = .ok (.iadd, 1) := by decide +kernel
theorem dX10_takePiece_173 : decode cX10_takePiece 173 = .ok (.putfield 154, 3) := by decide +kernel
theorem dX10_takePiece_176 : decode cX10_takePiece 176 = .ok (.aload_n 0, 1) := by decide +kernel
theorem dX10_takePiece_177 : decode cX10_takePiece 177 = .ok (.getfield 43, 3) := by decide +kernel
theorem dX10_takePiece_180 : decode cX10_takePiece 180 = .ok (.iload_n 1, 1) := by decide +kernel
theorem dX10_takePiece_181 : decode cX10_takePiece 181 = .ok (.aload_n 0, 1) := by decide +kernel
theorem dX10_takePiece_182 : decode cX10_takePiece 182 = .ok (.bipush 48, 2) := by decide +kernel
theorem dX10_takePiece_184 : decode cX10_takePiece 184 = .ok (.bipush 53, 2) := by decide +kernel
theorem dX10_takePiece_186 : decode cX10_takePiece 186 = .ok (.invokevirtual 177, 3) := by decide +kernel
theorem dX10_takePiece_189 : decode cX10_takePiece 189 = .ok (.iastore, 1) := by decide +kernel
theorem dX10_takePiece_190 : decode cX10_takePiece 190 = .ok (.aload_n 0, 1) := by decide +kernel
theorem dX10_takePiece_191 : decode cX10_takePiece 191 = .ok (.dup, 1) := by decide +kernel
theorem dX10_takePiece_192 : decode cX10_takePiece 192 = .ok (.getfield 171, 3) := by decide +kernel
theorem dX10_takePiece_195 : decode cX10_takePiece 195 = .ok (.iconst 1, 1) := by decide +kernel
theorem dX10_takePiece_196 : decode cX10_takePiece 196 = .ok (.iadd, 1) := by decide +kernel
theorem dX10_takePiece_197 : decode cX10_takePiece 197 = .ok (.putfield 171, 3) := by decide +kernel
theorem dX10_takePiece_200 : decode cX10_takePiece 200 = .ok (.return_, 1) := by decide +kernel
theorem dX10_heap_0 : decode cX10_heap 0 = .ok (.aload_n 0, 1) := by decide +kernel
theorem dX10_heap_1 : decode cX10_heap 1 = .ok (.iconst 0, 1) := by decide +kernel
theorem dX10_heap_2 : decode cX10_heap 2 = .ok (.putfield 154, 3) := by decide +kernel
theorem dX10_heap_5 : decode cX10_heap 5 = .ok (.aload_n 0, 1) := by decide +kernel
theorem dX10_heap_6 : decode cX10_heap 6 = .ok (.iconst 0, 1) := by decide +kernel
theorem dX10_heap_7 : decode cX10_heap 7 = .ok (.putfield 157, 3) := by decide +kernel
theorem dX10_heap_10 : decode cX10_heap 10 = .ok (.aload_n 0, 1) := by decide +kernel
theorem dX10_heap_11 : decode cX10_heap 11 = .ok (.iconst 0, 1) := by decide +kernel
theorem dX10_heap_12 : decode cX10_heap 12 = .ok (.putfield 171, 3) := by decide +kernel
theorem dX10_heap_15 : decode cX10_heap 15 = .ok (.aload_n 0, 1) := by decide +kernel
theorem dX10_heap_16 : decode cX10_heap 16 = .ok (.invokevirtual 181, 3) := by decide +kernel
theorem dX10_heap_19 : decode cX10_heap 19 = .ok (.aload_n 0, 1) := by decide +kernel
theorem dX10_heap_20 : decode cX10_heap 20 = .ok (.getfield 157, 3) := by decide +kernel
theorem dX10_heap_23 : decode cX10_heap 23 = .ok (.ifCond .ne 56, 3) := by decide +kernel
theorem dX10_heap_26 : decode cX10_heap 26 = .ok (.aload_n 0, 1) := by decide +kernel
theorem dX10_heap_27 : decode cX10_heap 27 = .ok (.invokevirtual 160, 3) := by decide +kernel
theorem dX10_heap_30 : decode cX10_heap 30 = .ok (.ifCond .lt 49, 3) := by decide +kernel
theorem dX10_heap_33 : decode cX10_heap 33 = .ok (.aload_n 0, 1) := by decide +kernel
theorem dX10_heap_34 : decode cX10_heap 34 = .ok (.invokevirtual 160, 3) := by decide +kernel
theorem dX10_heap_37 : decode cX10_heap 37 = .ok (.bipush 44, 2) := by decide +kernel
theorem dX10_heap_39 : decode cX10_heap 39 = .ok (.if_icmp .ne 12, 3) := by decide +kernel
theorem dX10_heap_42 : decode cX10_heap 42 = .ok (.aload_n 0, 1) := by decide +kernel
theorem dX10_heap_43 : decode cX10_heap 43 = .ok (.getfield 171, 3) := by decide +kernel
theorem dX10_heap_46 : decode cX10_heap 46 = .ok (.bipush 12, 2) := by decide +kernel
theorem dX10_heap_48 : decode cX10_heap 48 = .ok (.if_icmp .ne 14, 3) := by decide +kernel
theorem dX10_heap_51 : decode cX10_heap 51 = .ok (.aload_n 0, 1) := by decide +kernel
theorem dX10_heap_52 : decode cX10_heap 52 = .ok (.aload_n 0, 1) := by decide +kernel
theorem dX10_heap_53 : decode cX10_heap 53 = .ok (.getfield 154, 3) := by decide +kernel
theorem dX10_heap_56 : decode cX10_heap 56 = .ok (.invokevirtual 163, 3) := by decide +kernel
theorem dX10_heap_59 : decode cX10_heap 59 = .ok (.goto (-40), 3) := by decide +kernel
theorem dX10_heap_62 : decode cX10_heap 62 = .ok (.aload_n 0, 1) := by decide +kernel
theorem dX10_heap_63 : decode cX10_heap 63 = .ok (.dup, 1) := by decide +kernel
theorem dX10_heap_64 : decode cX10_heap 64 = .ok (.getfield 154, 3) := by decide +kernel
theorem dX10_heap_67 : decode cX10_heap 67 = .ok (.iconst 1, 1) := by decide +kernel
theorem dX10_heap_68 : decode cX10_heap 68 = .ok (.iadd, 1) := by decide +kernel
theorem dX10_heap_69 : decode cX10_heap 69 = .ok (.putfield 154, 3) := by decide +kernel
theorem dX10_heap_72 : decode cX10_heap 72 = .ok (.aload_n 0, 1) := by decide +kernel
theorem dX10_heap_73 : decode cX10_heap 73 = .ok (.invokevirtual 181, 3) := by decide +kernel
theorem dX10_heap_76 : decode cX10_heap 76 = .ok (.goto (-57), 3) := by decide +kernel
theorem dX10_heap_79 : decode cX10_heap 79 = .ok (.aload_n 0, 1) := by decide +kernel
theorem dX10_heap_80 : decode cX10_heap 80 = .ok (.iconst 0, 1) := by decide +kernel
theorem dX10_heap_81 : decode cX10_heap 81 = .ok (.putfield 151, 3) := by decide +kernel
theorem dX10_heap_84 : decode cX10_heap 84 = .ok (.aload_n 0, 1) := by decide +kernel
theorem dX10_heap_85 : decode cX10_heap 85 = .ok (.getfield 157, 3) := by decide +kernel
theorem dX10_heap_88 : decode cX10_heap 88 = .ok (.ifCond .eq 8, 3) := by decide +kernel
theorem dX10_heap_91 : decode cX10_heap 91 = .ok (.aload_n 0, 1) := by decide +kernel
theorem dX10_heap_92 : decode cX10_heap 92 = .ok (.getfield 157, 3) := by decide +kernel
theorem dX10_heap_95 : decode cX10_heap 95 = .ok (.ireturn, 1) := by decide +kernel
theorem dX10_heap_96 : decode cX10_heap 96 = .ok (.aload_n 0, 1) := by decide +kernel
theorem dX10_heap_97 : decode cX10_heap 97 = .ok (.iconst 0, 1) := by decide +kernel
theorem dX10_heap_98 : decode cX10_heap 98 = .ok (.putfield 83, 3) := by decide +kernel
theorem dX10_heap_101 : decode cX10_heap 101 = .ok (.iconst 0, 1) := by decide +kernel
theorem dX10_heap_102 : decode cX10_heap 102 = .ok (.istore_n 1, 1) := by decide +kernel
theorem dX10_heap_103 : decode cX10_heap 103 = .ok (.iload_n 1, 1) := by decide +kernel
theorem dX10_heap_104 : decode cX10_heap 104 = .ok (.bipush 6, 2) := by decide +kernel
theorem dX10_heap_106 : decode cX10_heap 106 = .ok (.if_icmp .ge 16, 3) := by decide +kernel
theorem dX10_heap_109 : decode cX10_heap 109 = .ok (.aload_n 0, 1) := by decide +kernel
theorem dX10_heap_110 : decode cX10_heap 110 = .ok (.getfield 22, 3) := by decide +kernel
theorem dX10_heap_113 : decode cX10_heap 113 = .ok (.iload_n 1, 1) := by decide +kernel
theorem dX10_heap_114 : decode cX10_heap 114 = .ok (.iconst 0, 1) := by decide +kernel
theorem dX10_heap_115 : decode cX10_heap 115 = .ok (.iastore, 1) := by decide +kernel
theorem dX10_heap_116 : decode cX10_heap 116 = .ok (.iinc 1 1, 3) := by decide +kernel
theorem dX10_heap_119 : decode cX10_heap 119 = .ok (.goto (-16), 3) := by decide +kernel
theorem dX10_heap_122 : decode cX10_heap 122 = .ok (.iconst 0, 1) := by decide +kernel
theorem dX10_heap_123 : decode cX10_heap 123 = .ok (.istore_n 1, 1) := by decide +kernel
theorem dX10_heap_124 : decode cX10_heap 124 = .ok (.iload_n 1, 1) := by decide +kernel
theorem dX10_heap_125 : decode cX10_heap 125 = .ok (.aload_n 0, 1) := by decide +kernel
theorem dX10_heap_126 : decode cX10_heap 126 = .ok (.getfield 171, 3) := by decide +kernel
theorem dX10_heap_129 : decode cX10_heap 129 = .ok (.if_icmp .ge 37, 3) := by decide +kernel
theorem dX10_heap_132 : decode cX10_heap 132 = .ok (.aload_n 0, 1) := by decide +kernel
theorem dX10_heap_133 : decode cX10_heap 133 = .ok (.aload_n 0, 1) := by decide +kernel
theorem dX10_heap_134 : decode cX10_heap 134 = .ok (.getfield 34, 3) := by decide +kernel
theorem dX10_heap_137 : decode cX10_heap 137 = .ok (.iload_n 1, 1) := by decide +kernel
theorem dX10_heap_138 : decode cX10_heap 138 = .ok (.iaload, 1) := by decide +kernel
theorem dX10_heap_139 : decode cX10_heap 139 = .ok (.aload_n 0, 1) := by decide +kernel
theorem dX10_heap_140 : decode cX10_heap 140 = .ok (.getfield 37, 3) := by decide +kernel
theorem dX10_heap_143 : decode cX10_heap 143 = .ok (.iload_n 1, 1) := by decide +kernel
theorem dX10_heap_144 : decode cX10_heap 144 = .ok (.iaload, 1) := by decide +kernel
theorem dX10_heap_145 : decode cX10_heap 145 = .ok (.aload_n 0, 1) := by decide +kernel
theorem dX10_heap_146 : decode cX10_heap 146 = .ok (.getfield 40, 3) := by decide +kernel
theorem dX10_heap_149 : decode cX10_heap 149 = .ok (.iload_n 1, 1) := by decide +kernel
theorem dX10_heap_150 : decode cX10_heap 150 = .ok (.iaload, 1) := by decide +kernel
theorem dX10_heap_151 : decode cX10_heap 151 = .ok (.aload_n 0, 1) := by decide +kernel
theorem dX10_heap_152 : decode cX10_heap 152 = .ok (.getfield 43, 3) := by decide +kernel
theorem dX10_heap_155 : decode cX10_heap 155 = .ok (.iload_n 1, 1) := by decide +kernel
theorem dX10_heap_156 : decode cX10_heap 156 = .ok (.iaload, 1) := by decide +kernel
theorem dX10_heap_157 : decode cX10_heap 157 = .ok (.invokevirtual 110, 3) := by decide +kernel
theorem dX10_heap_160 : decode cX10_heap 160 = .ok (.iinc 1 1, 3) := by decide +kernel
theorem dX10_heap_163 : decode cX10_heap 163 = .ok (.goto (-39), 3) := by decide +kernel
theorem dX10_heap_166 : decode cX10_heap 166 = .ok (.aload_n 0, 1) := by decide +kernel
theorem dX10_heap_167 : decode cX10_heap 167 = .ok (.getfield 83, 3) := by decide +kernel
theorem dX10_heap_170 : decode cX10_heap 170 = .ok (.ireturn, 1) := by decide +kernel
theorem dX10_takeLetter_0 : decode cX10_takeLetter 0 = .ok (.aload_n 0, 1) := by decide +kernel
theorem dX10_takeLetter_1 : decode cX10_takeLetter 1 = .ok (.invokevirtual 160, 3) := by decide +kernel
theorem dX10_takeLetter_4 : decode cX10_takeLetter 4 = .ok (.istore_n 1, 1) := by decide +kernel
theorem dX10_takeLetter_5 : decode cX10_takeLetter 5 = .ok (.aload_n 0, 1) := by decide +kernel
theorem dX10_takeLetter_6 : decode cX10_takeLetter 6 = .ok (.getfield 157, 3) := by decide +kernel
theorem dX10_takeLetter_9 : decode cX10_takeLetter 9 = .ok (.ifCond .ne 30, 3) := by decide +kernel
theorem dX10_takeLetter_12 : decode cX10_takeLetter 12 = .ok (.iload_n 1, 1) := by decide +kernel
theorem dX10_takeLetter_13 : decode cX10_takeLetter 13 = .ok (.bipush 97, 2) := by decide +kernel
theorem dX10_takeLetter_15 : decode cX10_takeLetter 15 = .ok (.isub, 1) := by decide +kernel
theorem dX10_takeLetter_16 : decode cX10_takeLetter 16 = .ok (.i2l, 1) := by decide +kernel
theorem dX10_takeLetter_17 : decode cX10_takeLetter 17 = .ok (.lconst 0, 1) := by decide +kernel
theorem dX10_takeLetter_18 : decode cX10_takeLetter 18 = .ok (.aload_n 0, 1) := by decide +kernel
theorem dX10_takeLetter_19 : decode cX10_takeLetter 19 = .ok (.getfield 83, 3) := by decide +kernel
theorem dX10_takeLetter_22 : decode cX10_takeLetter 22 = .ok (.iconst 1, 1) := by decide +kernel
theorem dX10_takeLetter_23 : decode cX10_takeLetter 23 = .ok (.isub, 1) := by decide +kernel
theorem dX10_takeLetter_24 : decode cX10_takeLetter 24 = .ok (.i2l, 1) := by decide +kernel
theorem dX10_takeLetter_25 : decode cX10_takeLetter 25 = .ok (.invokestatic 87, 3) := by decide +kernel
theorem dX10_takeLetter_28 : decode cX10_takeLetter 28 = .ok (.ifCond .ne 11, 3) := by decide +kernel
theorem dX10_takeLetter_31 : decode cX10_takeLetter 31 = .ok (.aload_n 0, 1) := by decide +kernel
theorem dX10_takeLetter_32 : decode cX10_takeLetter 32 = .ok (.aload_n 0, 1) := by decide +kernel
theorem dX10_takeLetter_33 : decode cX10_takeLetter 33 = .ok (.getfield 154, 3) := by decide +kernel
theorem dX10_takeLetter_36 : decode cX10_takeLetter 36 = .ok (.invokevirtual 163, 3) := by decide +kernel
theorem dX10_takeLetter_39 : decode cX10_takeLetter 39 = .ok (.aload_n 0, 1) := by decide +kernel
theorem dX10_takeLetter_40 : decode cX10_takeLetter 40 = .ok (.bipush 97, 2) := by decide +kernel
theorem dX10_takeLetter_42 : decode cX10_takeLetter 42 = .ok (.bipush 108, 2) := by decide +kernel
theorem dX10_takeLetter_44 : decode cX10_takeLetter 44 = .ok (.invokevirtual 177, 3) := by decide +kernel
theorem dX10_takeLetter_47 : decode cX10_takeLetter 47 = .ok (.ireturn, 1) := by decide +kernel
theorem dX10_takeMark_0 : decode cX10_takeMark 0 = .ok (.aload_n 0, 1) := by decide +kernel
theorem dX10_takeMark_1 : decode cX10_takeMark 1 = .ok (.iload_n 1, 1) := by decide +kernel
theorem dX10_takeMark_2 : decode cX10_takeMark 2 = .ok (.iload_n 1, 1) := by decide +kernel
theorem dX10_takeMark_3 : decode cX10_takeMark 3 = .ok (.invokevirtual 177, 3) := by decide +kernel
theorem dX10_takeMark_6 : decode cX10_takeMark 6 = .ok (.istore_n 2, 1) := by decide +kernel
theorem dX10_takeMark_7 : decode cX10_takeMark 7 = .ok (.return_, 1) := by decide +kernel
theorem dX10_takeAct_0 : decode cX10_takeAct 0 = .ok (.aload_n 0, 1) := by decide +kernel
theorem dX10_takeAct_1 : decode cX10_takeAct 1 = .ok (.invokevirtual 160, 3) := by decide +kernel
theorem dX10_takeAct_4 : decode cX10_takeAct 4 = .ok (.istore_n 1, 1) := by decide +kernel
theorem dX10_takeAct_5 : decode cX10_takeAct 5 = .ok (.iconst 0, 1) := by decide +kernel
theorem dX10_takeAct_6 : decode cX10_takeAct 6 = .ok (.istore_n 2, 1) := by decide +kernel
theorem dX10_takeAct_7 : decode cX10_takeAct 7 = .ok (.aload_n 0, 1) := by decide +kernel
theorem dX10_takeAct_8 : decode cX10_takeAct 8 = .ok (.dup, 1) := by decide +kernel
theorem dX10_takeAct_9 : decode cX10_takeAct 9 = .ok (.getfield 154, 3) := by decide +kernel
theorem dX10_takeAct_12 : decode cX10_takeAct 12 = .ok (.iconst 1, 1) := by decide +kernel
theorem dX10_takeAct_13 : decode cX10_takeAct 13 = .ok (.iadd, 1) := by decide +kernel
theorem dX10_takeAct_14 : decode cX10_takeAct 14 = .ok (.putfield 154, 3) := by decide +kernel
theorem dX10_takeAct_17 : decode cX10_takeAct 17 = .ok (.iload_n 1, 1) := by decide +kernel
theorem dX10_takeAct_18 : decode cX10_takeAct 18 = .ok (.bipush 108, 2) := by decide +kernel
theorem dX10_takeAct_20 : decode cX10_takeAct 20 = .ok (.if_icmp .ne 18, 3) := by decide +kernel
theorem dX10_takeAct_23 : decode cX10_takeAct 23 = .ok (.bipush 100, 2) := by decide +kernel
theorem dX10_takeAct_25 : decode cX10_takeAct 25 = .ok (.aload_n 0, 1) := by decide +kernel
theorem dX10_takeAct_26 : decode cX10_takeAct 26 = .ok (.bipush 48, 2) := by decide +kernel
theorem dX10_takeAct_28 : decode cX10_takeAct 28 = .ok (.bipush 53, 2) := by decide +kernel
theorem dX10_takeAct_30 : decode cX10_takeAct 30 = .ok (.invokevirtual 177, 3) := by decide +kernel
theorem dX10_takeAct_33 : decode cX10_takeAct 33 = .ok (.imul, 1) := by decide +kernel
theorem dX10_takeAct_34 : decode cX10_takeAct 34 = .ok (.istore_n 2, 1) := by decide +kernel
theorem dX10_takeAct_35 : decode cX10_takeAct 35 = .ok (.goto 198, 3) := by decide +kernel
theorem dX10_takeAct_38 : decode cX10_takeAct 38 = .ok (.iload_n 1, 1) := by decide +kernel
theorem dX10_takeAct_39 : decode cX10_takeAct 39 = .ok (.bipush 100, 2) := by decide +kernel
theorem dX10_takeAct_41 : decode cX10_takeAct 41 = .ok (.if_icmp .ne 35, 3) := by decide +kernel
theorem dX10_takeAct_44 : decode cX10_takeAct 44 = .ok (.aload_n 0, 1) := by decide +kernel
theorem dX10_takeAct_45 : decode cX10_takeAct 45 = .ok (.invokevirtual 184, 3) := by decide +kernel
theorem dX10_takeAct_48 : decode cX10_takeAct 48 = .ok (.istore_n 3, 1) := by decide +kernel
theorem dX10_takeAct_49 : decode cX10_takeAct 49 = .ok (.aload_n 0, 1) := by decide +kernel
theorem dX10_takeAct_50 : decode cX10_takeAct 50 = .ok (.bipush 62, 2) := by decide +kernel
theorem dX10_takeAct_52 : decode cX10_takeAct 52 = .ok (.invokevirtual 187, 3) := by decide +kernel
theorem dX10_takeAct_55 : decode cX10_takeAct 55 = .ok (.sipush 1000, 3) := by decide +kernel
theorem dX10_takeAct_58 : decode cX10_takeAct 58 = .ok (.bipush 100, 2) := by decide +kernel
theorem dX10_takeAct_60 : decode cX10_takeAct 60 = .ok (.aload_n 0, 1) := by decide +kernel
theorem dX10_takeAct_61 : decode cX10_takeAct 61 = .ok (.bipush 48, 2) := by decide +kernel
theorem dX10_takeAct_63 : decode cX10_takeAct 63 = .ok (.bipush 53, 2) := by decide +kernel
theorem dX10_takeAct_65 : decode cX10_takeAct 65 = .ok (.invokevirtual 177, 3) := by decide +kernel
theorem dX10_takeAct_68 : decode cX10_takeAct 68 = .ok (.imul, 1) := by decide +kernel
theorem dX10_takeAct_69 : decode cX10_takeAct 69 = .ok (.iadd, 1) := by decide +kernel
theorem dX10_takeAct_70 : decode cX10_takeAct 70 = .ok (.iload_n 3, 1) := by decide +kernel
theorem dX10_takeAct_71 : decode cX10_takeAct 71 = .ok (.iadd, 1) := by decide +kernel
theorem dX10_takeAct_72 : decode cX10_takeAct 72 = .ok (.istore_n 2, 1) := by decide +kernel
theorem dX10_takeAct_73 : decode cX10_takeAct 73 = .ok (.goto 160, 3) := by decide +kernel
theorem dX10_takeAct_76 : decode cX10_takeAct 76 = .ok (.iload_n 1, 1) := by decide +kernel
theorem dX10_takeAct_77 : decode cX10_takeAct 77 = .ok (.bipush 115, 2) := by decide +kernel
theorem dX10_takeAct_79 : decode cX10_takeAct 79 = .ok (.if_icmp .ne 35, 3) := by decide +kernel
theorem dX10_takeAct_82 : decode cX10_takeAct 82 = .ok (.aload_n 0, 1) := by decide +kernel
theorem dX10_takeAct_83 : decode cX10_takeAct 83 = .ok (.bipush 48, 2) := by decide +kernel
theorem dX10_takeAct_85 : decode cX10_takeAct 85 = .ok (.bipush 53, 2) := by decide +kernel
theorem dX10_takeAct_87 : decode cX10_takeAct 87 = .ok (.invokevirtual 177, 3) := by decide +kernel
theorem dX10_takeAct_90 : decode cX10_takeAct 90 = .ok (.istore_n 3, 1) := by decide +kernel
theorem dX10_takeAct_91 : decode cX10_takeAct 91 = .ok (.aload_n 0, 1) := by decide +kernel
theorem dX10_takeAct_92 : decode cX10_takeAct 92 = .ok (.bipush 61, 2) := by decide +kernel
theorem dX10_takeAct_94 : decode cX10_takeAct 94 = .ok (.invokevirtual 187, 3) := by decide +kernel
theorem dX10_takeAct_97 : decode cX10_takeAct 97 = .ok (.sipush 2000, 3) := by decide +kernel
theorem dX10_takeAct_100 : decode cX10_takeAct 100 = .ok (.bipush 100, 2) := by decide +kernel
theorem dX10_takeAct_102 : decode cX10_takeAct 102 = .ok (.iload_n 3, 1) := by decide +kernel
theorem dX10_takeAct_103 : decode cX10_takeAct 103 = .ok (.imul, 1) := by decide +kernel
theorem dX10_takeAct_104 : decode cX10_takeAct 104 = .ok (.iadd, 1) := by decide +kernel
theorem dX10_takeAct_105 : decode cX10_takeAct 105 = .ok (.aload_n 0, 1) := by decide +kernel
theorem dX10_takeAct_106 : decode cX10_takeAct 106 = .ok (.invokevirtual 184, 3) := by decide +kernel
theorem dX10_takeAct_109 : decode cX10_takeAct 109 = .ok (.iadd, 1) := by decide +kernel
theorem dX10_takeAct_110 : decode cX10_takeAct 110 = .ok (.istore_n 2, 1) := by decide +kernel
theorem dX10_takeAct_111 : decode cX10_takeAct 111 = .ok (.goto 122, 3) := by decide +kernel
theorem dX10_takeAct_114 : decode cX10_takeAct 114 = .ok (.iload_n 1, 1) := by decide +kernel
theorem dX10_takeAct_115 : decode cX10_takeAct 115 = .ok (.bipush 112, 2) := by decide +kernel
theorem dX10_takeAct_117 : decode cX10_takeAct 117 = .ok (.if_icmp .ne 74, 3) := by decide +kernel
theorem dX10_takeAct_120 : decode cX10_takeAct 120 = .ok (.aload_n 0, 1) := by decide +kernel
theorem dX10_takeAct_121 : decode cX10_takeAct 121 = .ok (.bipush 48, 2) := by decide +kernel
theorem dX10_takeAct_123 : decode cX10_takeAct 123 = .ok (.bipush 53, 2) := by decide +kernel
theorem dX10_takeAct_125 : decode cX10_takeAct 125 = .ok (.invokevirtual 177, 3) := by decide +kernel
theorem dX10_takeAct_128 : decode cX10_takeAct 128 = .ok (.istore_n 3, 1) := by decide +kernel
theorem dX10_takeAct_129 : decode cX10_takeAct 129 = .ok (.aload_n 0, 1) := by decide +kernel
theorem dX10_takeAct_130 : decode cX10_takeAct 130 = .ok (.bipush 62, 2) := by decide +kernel
theorem dX10_takeAct_132 : decode cX10_takeAct 132 = .ok (.invokevirtual 187, 3) := by decide +kernel
theorem dX10_takeAct_135 : decode cX10_takeAct 135 = .ok (.aload_n 0, 1) := by decide +kernel
theorem dX10_takeAct_136 : decode cX10_takeAct 136 = .ok (.invokevirtual 160, 3) := by decide +kernel
theorem dX10_takeAct_139 : decode cX10_takeAct 139 = .ok (.istore 4, 2) := by decide +kernel
theorem dX10_takeAct_141 : decode cX10_takeAct 141 = .ok (.aload_n 0, 1) := by decide +kernel
theorem dX10_takeAct_142 : decode cX10_takeAct 142 = .ok (.getfield 154, 3) := by decide +kernel
theorem dX10_takeAct_145 : decode cX10_takeAct 145 = .ok (.istore 5, 2) := by decide +kernel
theorem dX10_takeAct_147 : decode cX10_takeAct 147 = .ok (.aload_n 0, 1) := by decide +kernel
theorem dX10_takeAct_148 : decode cX10_takeAct 148 = .ok (.bipush 48, 2) := by decide +kernel
theorem dX10_takeAct_150 : decode cX10_takeAct 150 = .ok (.bipush 53, 2) := by decide +kernel
theorem dX10_takeAct_152 : decode cX10_takeAct 152 = .ok (.invokevirtual 177, 3) := by decide +kernel
theorem dX10_takeAct_155 : decode cX10_takeAct 155 = .ok (.istore 6, 2) := by decide +kernel
theorem dX10_takeAct_157 : decode cX10_takeAct 157 = .ok (.aload_n 0, 1) := by decide +kernel
theorem dX10_takeAct_158 : decode cX10_takeAct 158 = .ok (.getfield 157, 3) := by decide +kernel
theorem dX10_takeAct_161 : decode cX10_takeAct 161 = .ok (.ifCond .ne 15, 3) := by decide +kernel
theorem dX10_takeAct_164 : decode cX10_takeAct 164 = .ok (.iload 6, 2) := by decide +kernel
theorem dX10_takeAct_166 : decode cX10_takeAct 166 = .ok (.iload_n 3, 1) := by decide +kernel
theorem dX10_takeAct_167 : decode cX10_takeAct 167 = .ok (.if_icmp .ne 9, 3) := by decide +kernel
theorem dX10_takeAct_170 : decode cX10_takeAct 170 = .ok (.aload_n 0, 1) := by decide +kernel
theorem dX10_takeAct_171 : decode cX10_takeAct 171 = .ok (.iload 5, 2) := by decide +kernel
theorem dX10_takeAct_173 : decode cX10_takeAct 173 = .ok (.invokevirtual 163, 3) := by decide +kernel
theorem dX10_takeAct_176 : decode cX10_takeAct 176 = .ok (.sipush 3000, 3) := by decide +kernel
theorem dX10_takeAct_179 : decode cX10_takeAct 179 = .ok (.bipush 100, 2) := by decide +kernel
theorem dX10_takeAct_181 : decode cX10_takeAct 181 = .ok (.iload_n 3, 1) := by decide +kernel
theorem dX10_takeAct_182 : decode cX10_takeAct 182 = .ok (.imul, 1) := by decide +kernel
theorem dX10_takeAct_183 : decode cX10_takeAct 183 = .ok (.iadd, 1) := by decide +kernel
theorem dX10_takeAct_184 : decode cX10_takeAct 184 = .ok (.iload 6, 2) := by decide +kernel
theorem dX10_takeAct_186 : decode cX10_takeAct 186 = .ok (.iadd, 1) := by decide +kernel
theorem dX10_takeAct_187 : decode cX10_takeAct 187 = .ok (.istore_n 2, 1) := by decide +kernel
theorem dX10_takeAct_188 : decode cX10_takeAct 188 = .ok (.goto 45, 3) := by decide +kernel
theorem dX10_takeAct_191 : decode cX10_takeAct 191 = .ok (.aload_n 0, 1) := by decide +kernel
theorem dX10_takeAct_192 : decode cX10_takeAct 192 = .ok (.iload_n 1, 1) := by decide +kernel
theorem dX10_takeAct_193 : decode cX10_takeAct 193 = .ok (.ifCond .ge 12, 3) := by decide +kernel
theorem dX10_takeAct_196 : decode cX10_takeAct 196 = .ok (.aload_n 0, 1) := by decide +kernel
theorem dX10_takeAct_197 : decode cX10_takeAct 197 = .ok (.getfield 154, 3) := by decide +kernel
theorem dX10_takeAct_200 : decode cX10_takeAct 200 = .ok (.iconst 1, 1) := by decide +kernel
theorem dX10_takeAct_201 : decode cX10_takeAct 201 = .ok (.isub, 1) := by decide +kernel
theorem dX10_takeAct_202 : decode cX10_takeAct 202 = .ok (.goto 7, 3) := by decide +kernel
theorem dX10_takeAct_205 : decode cX10_takeAct 205 = .ok (.aload_n 0, 1) := by decide +kernel
theorem dX10_takeAct_206 : decode cX10_takeAct 206 = .ok (.getfield 154, 3) := by decide +kernel
theorem dX10_takeAct_209 : decode cX10_takeAct 209 = .ok (.putfield 154, 3) := by decide +kernel
theorem dX10_takeAct_212 : decode cX10_takeAct 212 = .ok (.aload_n 0, 1) := by decide +kernel
theorem dX10_takeAct_213 : decode cX10_takeAct 213 = .ok (.iload_n 1, 1) := by decide +kernel
theorem dX10_takeAct_214 : decode cX10_takeAct 214 = .ok (.ifCond .ge 10, 3) := by decide +kernel
theorem dX10_takeAct_217 : decode cX10_takeAct 217 = .ok (.aload_n 0, 1) := by decide +kernel
theorem dX10_takeAct_218 : decode cX10_takeAct 218 = .ok (.getfield 154, 3) := by decide +kernel
theorem dX10_takeAct_221 : decode cX10_takeAct 221 = .ok (.goto 9, 3) := by decide +kernel
theorem dX10_takeAct_224 : decode cX10_takeAct 224 = .ok (.aload_n 0, 1) := by decide +kernel
theorem dX10_takeAct_225 : decode cX10_takeAct 225 = .ok (.getfield 154, 3) := by decide +kernel
theorem dX10_takeAct_228 : decode cX10_takeAct 228 = .ok (.iconst 1, 1) := by decide +kernel
theorem dX10_takeAct_229 : decode cX10_takeAct 229 = .ok (.isub, 1) := by decide +kernel
theorem dX10_takeAct_230 : decode cX10_takeAct 230 = .ok (.invokevirtual 163, 3) := by decide +kernel
theorem dX10_takeAct_233 : decode cX10_takeAct 233 = .ok (.aload_n 0, 1) := by decide +kernel
theorem dX10_takeAct_234 : decode cX10_takeAct 234 = .ok (.getfield 157, 3) := by decide +kernel
theorem dX10_takeAct_237 : decode cX10_takeAct 237 = .ok (.ifCond .ne 23, 3) := by decide +kernel
theorem dX10_takeAct_240 : decode cX10_takeAct 240 = .ok (.aload_n 0, 1) := by decide +kernel
theorem dX10_takeAct_241 : decode cX10_takeAct 241 = .ok (.getfield 46, 3) := by decide +kernel
theorem dX10_takeAct_244 : decode cX10_takeAct 244 = .ok (.aload_n 0, 1) := by decide +kernel
theorem dX10_takeAct_245 : decode cX10_takeAct 245 = .ok (.getfield 190, 3) := by decide +kernel
theorem dX10_takeAct_248 : decode cX10_takeAct 248 = .ok (.iload_n 2, 1) := by decide +kernel
theorem dX10_takeAct_249 : decode cX10_takeAct 249 = .ok (.iastore, 1) := by decide +kernel
theorem dX10_takeAct_250 : decode cX10_takeAct 250 = .ok (.aload_n 0, 1) := by decide +kernel
theorem dX10_takeAct_251 : decode cX10_takeAct 251 = .ok (.dup, 1) := by decide +kernel
theorem dX10_takeAct_252 : decode cX10_takeAct 252 = .ok (.getfield 190, 3) := by decide +kernel
theorem dX10_takeAct_255 : decode cX10_takeAct 255 = .ok (.iconst 1, 1) := by decide +kernel
theorem dX10_takeAct_256 : decode cX10_takeAct 256 = .ok (.iadd, 1) := by decide +kernel
theorem dX10_takeAct_257 : decode cX10_takeAct 257 = .ok (.putfield 190, 3) := by decide +kernel
theorem dX10_takeAct_260 : decode cX10_takeAct 260 = .ok (.return_, 1) := by decide +kernel
theorem dX10_night_0 : decode cX10_night 0 = .ok (.aload_n 0, 1) := by decide +kernel
theorem dX10_night_1 : decode cX10_night 1 = .ok (.iconst 0, 1) := by decide +kernel
theorem dX10_night_2 : decode cX10_night 2 = .ok (.putfield 154, 3) := by decide +kernel
theorem dX10_night_5 : decode cX10_night 5 = .ok (.aload_n 0, 1) := by decide +kernel
theorem dX10_night_6 : decode cX10_night 6 = .ok (.iconst 0, 1) := by decide +kernel
theorem dX10_night_7 : decode cX10_night 7 = .ok (.putfield 157, 3) := by decide +kernel
theorem dX10_night_10 : decode cX10_night 10 = .ok (.aload_n 0, 1) := by decide +kernel
theorem dX10_night_11 : decode cX10_night 11 = .ok (.iconst 0, 1) := by decide +kernel
theorem dX10_night_12 : decode cX10_night 12 = .ok (.putfield 190, 3) := by decide +kernel
theorem dX10_night_15 : decode cX10_night 15 = .ok (.aload_n 0, 1) := by decide +kernel
theorem dX10_night_16 : decode cX10_night 16 = .ok (.invokevirtual 193, 3) := by decide +kernel
theorem dX10_night_19 : decode cX10_night 19 = .ok (.aload_n 0, 1) := by decide +kernel
theorem dX10_night_20 : decode cX10_night 20 = .ok (.getfield 157, 3) := by decide +kernel
theorem dX10_night_23 : decode cX10_night 23 = .ok (.ifCond .ne 30, 3) := by decide +kernel
theorem dX10_night_26 : decode cX10_night 26 = .ok (.aload_n 0, 1) := by decide +kernel
theorem dX10_night_27 : decode cX10_night 27 = .ok (.invokevirtual 160, 3) := by decide +kernel
theorem dX10_night_30 : decode cX10_night 30 = .ok (.ifCond .lt 23, 3) := by decide +kernel
theorem dX10_night_33 : decode cX10_night 33 = .ok (.aload_n 0, 1) := by decide +kernel
theorem dX10_night_34 : decode cX10_night 34 = .ok (.bipush 59, 2) := by decide +kernel
theorem dX10_night_36 : decode cX10_night 36 = .ok (.invokevirtual 187, 3) := by decide +kernel
theorem dX10_night_39 : decode cX10_night 39 = .ok (.aload_n 0, 1) := by decide +kernel
theorem dX10_night_40 : decode cX10_night 40 = .ok (.getfield 157, 3) := by decide +kernel
theorem dX10_night_43 : decode cX10_night 43 = .ok (.ifCond .ne (-24), 3) := by decide +kernel
theorem dX10_night_46 : decode cX10_night 46 = .ok (.aload_n 0, 1) := by decide +kernel
theorem dX10_night_47 : decode cX10_night 47 = .ok (.invokevirtual 193, 3) := by decide +kernel
theorem dX10_night_50 : decode cX10_night 50 = .ok (.goto (-31), 3) := by decide +kernel
theorem dX10_night_53 : decode cX10_night 53 = .ok (.aload_n 0, 1) := by decide +kernel
theorem dX10_night_54 : decode cX10_night 54 = .ok (.iconst 0, 1) := by decide +kernel
theorem dX10_night_55 : decode cX10_night 55 = .ok (.putfield 151, 3) := by decide +kernel
theorem dX10_night_58 : decode cX10_night 58 = .ok (.aload_n 0, 1) := by decide +kernel
theorem dX10_night_59 : decode cX10_night 59 = .ok (.getfield 157, 3) := by decide +kernel
theorem dX10_night_62 : decode cX10_night 62 = .ok (.ifCond .eq 8, 3) := by decide +kernel
theorem dX10_night_65 : decode cX10_night 65 = .ok (.aload_n 0, 1) := by decide +kernel
theorem dX10_night_66 : decode cX10_night 66 = .ok (.getfield 157, 3) := by decide +kernel
theorem dX10_night_69 : decode cX10_night 69 = .ok (.ireturn, 1) := by decide +kernel
theorem dX10_night_70 : decode cX10_night 70 = .ok (.iconst 0, 1) := by decide +kernel
theorem dX10_night_71 : decode cX10_night 71 = .ok (.istore_n 1, 1) := by decide +kernel
theorem dX10_night_72 : decode cX10_night 72 = .ok (.iload_n 1, 1) := by decide +kernel
theorem dX10_night_73 : decode cX10_night 73 = .ok (.aload_n 0, 1) := by decide +kernel
theorem dX10_night_74 : decode cX10_night 74 = .ok (.getfield 190, 3) := by decide +kernel
theorem dX10_night_77 : decode cX10_night 77 = .ok (.if_icmp .ge 35, 3) := by decide +kernel
theorem dX10_night_80 : decode cX10_night 80 = .ok (.aload_n 0, 1) := by decide +kernel
theorem dX10_night_81 : decode cX10_night 81 = .ok (.aload_n 0, 1) := by decide +kernel
theorem dX10_night_82 : decode cX10_night 82 = .ok (.getfield 46, 3) := by decide +kernel
theorem dX10_night_85 : decode cX10_night 85 = .ok (.iload_n 1, 1) := by decide +kernel
theorem dX10_night_86 : decode cX10_night 86 = .ok (.iaload, 1) := by decide +kernel
theorem dX10_night_87 : decode cX10_night 87 = .ok (.invokevirtual 196, 3) := by decide +kernel
theorem dX10_night_90 : decode cX10_night 90 = .ok (.ifCond .eq 22, 3) := by decide +kernel
theorem dX10_night_93 : decode cX10_night 93 = .ok (.aload_n 0, 1) := by decide +kernel
theorem dX10_night_94 : decode cX10_night 94 = .ok (.aload_n 0, 1) := by decide +kernel
theorem dX10_night_95 : decode cX10_night 95 = .ok (.getfield 46, 3) := by decide +kernel
theorem dX10_night_98 : decode cX10_night 98 = .ok (.iload_n 1, 1) := by decide +kernel
theorem dX10_night_99 : decode cX10_night 99 = .ok (.iaload, 1) := by decide +kernel
theorem dX10_night_100 : decode cX10_night 100 = .ok (.invokevirtual 199, 3) := by decide +kernel
theorem dX10_night_103 : decode cX10_night 103 = .ok (.ifCond .eq 9, 3) := by decide +kernel
theorem dX10_night_106 : decode cX10_night 106 = .ok (.iinc 1 1, 3) := by decide +kernel
theorem dX10_night_109 : decode cX10_night 109 = .ok (.goto (-37), 3) := by decide +kernel
theorem dX10_night_112 : decode cX10_night 112 = .ok (.iload_n 1, 1) := by decide +kernel
theorem dX10_night_113 : decode cX10_night 113 = .ok (.ireturn, 1) := by decide +kernel
theorem dX10_kindOf_0 : decode cX10_kindOf 0 = .ok (.iload_n 0, 1) := by decide +kernel
theorem dX10_kindOf_1 : decode cX10_kindOf 1 = .ok (.sipush 1000, 3) := by decide +kernel
theorem dX10_kindOf_4 : decode cX10_kindOf 4 = .ok (.idiv, 1) := by decide +kernel
theorem dX10_kindOf_5 : decode cX10_kindOf 5 = .ok (.ireturn, 1) := by decide +kernel
theorem dX10_placeOf_0 : decode cX10_placeOf 0 = .ok (.iload_n 0, 1) := by decide +kernel
theorem dX10_placeOf_1 : decode cX10_placeOf 1 = .ok (.bipush 100, 2) := by decide +kernel
theorem dX10_placeOf_3 : decode cX10_placeOf 3 = .ok (.idiv, 1) := by decide +kernel
theorem dX10_placeOf_4 : decode cX10_placeOf 4 = .ok (.bipush 10, 2) := by decide +kernel
theorem dX10_placeOf_6 : decode cX10_placeOf 6 = .ok (.irem, 1) := by decide +kernel
theorem dX10_placeOf_7 : decode cX10_placeOf 7 = .ok (.ireturn, 1) := by decide +kernel
theorem dX10_otherOf_0 : decode cX10_otherOf 0 = .ok (.iload_n 0, 1) := by decide +kernel
theorem dX10_otherOf_1 : decode cX10_otherOf 1 = .ok (.bipush 100, 2) := by decide +kernel
theorem dX10_otherOf_3 : decode cX10_otherOf 3 = .ok (.irem, 1) := by decide +kernel
theorem dX10_otherOf_4 : decode cX10_otherOf 4 = .ok (.ireturn, 1) := by decide +kernel
theorem dX10_canBe_0 : decode cX10_canBe 0 = .ok (.iload_n 1, 1) := by decide +kernel
theorem dX10_canBe_1 : decode cX10_canBe 1 = .ok (.invokestatic 202, 3) := by decide +kernel
theorem dX10_canBe_4 : decode cX10_canBe 4 = .ok (.istore_n 2, 1) := by decide +kernel
theorem dX10_canBe_5 : decode cX10_canBe 5 = .ok (.iload_n 1, 1) := by decide +kernel
theorem dX10_canBe_6 : decode cX10_canBe 6 = .ok (.invokestatic 205, 3) := by decide +kernel
theorem dX10_canBe_9 : decode cX10_canBe 9 = .ok (.istore_n 3, 1) := by decide +kernel
theorem dX10_canBe_10 : decode cX10_canBe 10 = .ok (.iload_n 1, 1) := by decide +kernel
theorem dX10_canBe_11 : decode cX10_canBe 11 = .ok (.invokestatic 208, 3) := by decide +kernel
theorem dX10_canBe_14 : decode cX10_canBe 14 = .ok (.istore 4, 2) := by decide +kernel
theorem dX10_canBe_16 : decode cX10_canBe 16 = .ok (.iload 4, 2) := by decide +kernel
theorem dX10_canBe_18 : decode cX10_canBe 18 = .ok (.iconst 1, 1) := by decide +kernel
theorem dX10_canBe_19 : decode cX10_canBe 19 = .ok (.if_icmp .eq 12, 3) := by decide +kernel
theorem dX10_canBe_22 : decode cX10_canBe 22 = .ok (.aload_n 0, 1) := by decide +kernel
theorem dX10_canBe_23 : decode cX10_canBe 23 = .ok (.getfield 22, 3) := by decide +kernel
theorem dX10_canBe_26 : decode cX10_canBe 26 = .ok (.iload_n 2, 1) := by decide +kernel
theorem dX10_canBe_27 : decode cX10_canBe 27 = .ok (.iaload, 1) := by decide +kernel
theorem dX10_canBe_28 : decode cX10_canBe 28 = .ok (.ifCond .le 7, 3) := by decide +kernel
theorem dX10_canBe_31 : decode cX10_canBe 31 = .ok (.iconst 1, 1) := by decide +kernel
theorem dX10_canBe_32 : decode cX10_canBe 32 = .ok (.goto 4, 3) := by decide +kernel
theorem dX10_canBe_35 : decode cX10_canBe 35 = .ok (.iconst 0, 1) := by decide +kernel
theorem dX10_canBe_36 : decode cX10_canBe 36 = .ok (.istore 5, 2) := by decide +kernel
theorem dX10_canBe_38 : decode cX10_canBe 38 = .ok (.iload 4, 2) := by decide +kernel
theorem dX10_canBe_40 : decode cX10_canBe 40 = .ok (.iconst 1, 1) := by decide +kernel
theorem dX10_canBe_41 : decode cX10_canBe 41 = .ok (.if_icmp .eq 9, 3) := by decide +kernel
theorem dX10_canBe_44 : decode cX10_canBe 44 = .ok (.iload 4, 2) := by decide +kernel
theorem dX10_canBe_46 : decode cX10_canBe 46 = .ok (.iconst 2, 1) := by decide +kernel
theorem dX10_canBe_47 : decode cX10_canBe 47 = .ok (.if_icmp .ne 22, 3) := by decide +kernel
theorem dX10_canBe_50 : decode cX10_canBe 50 = .ok (.iload_n 3, 1) := by decide +kernel
theorem dX10_canBe_51 : decode cX10_canBe 51 = .ok (.aload_n 0, 1) := by decide +kernel
theorem dX10_canBe_52 : decode cX10_canBe 52 = .ok (.getfield 83, 3) := by decide +kernel
theorem dX10_canBe_55 : decode cX10_canBe 55 = .ok (.if_icmp .ge 18, 3) := by decide +kernel
theorem dX10_canBe_58 : decode cX10_canBe 58 = .ok (.aload_n 0, 1) := by decide +kernel
theorem dX10_canBe_59 : decode cX10_canBe 59 = .ok (.getfield 19, 3) := by decide +kernel
theorem dX10_canBe_62 : decode cX10_canBe 62 = .ok (.iload_n 3, 1) := by decide +kernel
theorem dX10_canBe_63 : decode cX10_canBe 63 = .ok (.iaload, 1) := by decide +kernel
theorem dX10_canBe_64 : decode cX10_canBe 64 = .ok (.bipush 6, 2) := by decide +kernel
theorem dX10_canBe_66 : decode cX10_canBe 66 = .ok (.if_icmp .ne 7, 3) := by decide +kernel
theorem dX10_canBe_69 : decode cX10_canBe 69 = .ok (.iconst 1, 1) := by decide +kernel
theorem dX10_canBe_70 : decode cX10_canBe 70 = .ok (.goto 4, 3) := by decide +kernel
theorem dX10_canBe_73 : decode cX10_canBe 73 = .ok (.iconst 0, 1) := by decide +kernel
theorem dX10_canBe_74 : decode cX10_canBe 74 = .ok (.istore 6, 2) := by decide +kernel
theorem dX10_canBe_76 : decode cX10_canBe 76 = .ok (.iload 5, 2) := by decide +kernel
theorem dX10_canBe_78 : decode cX10_canBe 78 = .ok (.ifCond .eq 23, 3) := by decide +kernel
theorem dX10_canBe_81 : decode cX10_canBe 81 = .ok (.iload 6, 2) := by decide +kernel
theorem dX10_canBe_83 : decode cX10_canBe 83 = .ok (.ifCond .eq 18, 3) := by decide +kernel
theorem dX10_canBe_86 : decode cX10_canBe 86 = .ok (.iload 4, 2) := by decide +kernel
theorem dX10_canBe_88 : decode cX10_canBe 88 = .ok (.iconst 3, 1) := by decide +kernel
theorem dX10_canBe_89 : decode cX10_canBe 89 = .ok (.if_icmp .ne 8, 3) := by decide +kernel
theorem dX10_canBe_92 : decode cX10_canBe 92 = .ok (.iload_n 2, 1) := by decide +kernel
theorem dX10_canBe_93 : decode cX10_canBe 93 = .ok (.iload_n 3, 1) := by decide +kernel
theorem dX10_canBe_94 : decode cX10_canBe 94 = .ok (.if_icmp .eq 7, 3) := by decide +kernel
theorem dX10_canBe_97 : decode cX10_canBe 97 = .ok (.iconst 1, 1) := by decide +kernel
theorem dX10_canBe_98 : decode cX10_canBe 98 = .ok (.goto 4, 3) := by decide +kernel
theorem dX10_canBe_101 : decode cX10_canBe 101 = .ok (.iconst 0, 1) := by decide +kernel
theorem dX10_canBe_102 : decode cX10_canBe 102 = .ok (.ireturn, 1) := by decide +kernel
theorem dX10_size_0 : decode cX10_size 0 = .ok (.iload_n 0, 1) := by decide +kernel
theorem dX10_size_1 : decode cX10_size 1 = .ok (.ifCond .ge 8, 3) := by decide +kernel
theorem dX10_size_4 : decode cX10_size 4 = .ok (.iload_n 0, 1) := by decide +kernel
theorem dX10_size_5 : decode cX10_size 5 = .ok (.ineg, 1) := by decide +kernel
theorem dX10_size_6 : decode cX10_size 6 = .ok (.goto 4, 3) := by decide +kernel
theorem dX10_size_9 : decode cX10_size 9 = .ok (.iload_n 0, 1) := by decide +kernel
theorem dX10_size_10 : decode cX10_size 10 = .ok (.ireturn, 1) := by decide +kernel
theorem dX10_isFelt_0 : decode cX10_isFelt 0 = .ok (.iload_n 1, 1) := by decide +kernel
theorem dX10_isFelt_1 : decode cX10_isFelt 1 = .ok (.invokestatic 202, 3) := by decide +kernel
theorem dX10_isFelt_4 : decode cX10_isFelt 4 = .ok (.istore_n 2, 1) := by decide +kernel
theorem dX10_isFelt_5 : decode cX10_isFelt 5 = .ok (.iload_n 1, 1) := by decide +kernel
theorem dX10_isFelt_6 : decode cX10_isFelt 6 = .ok (.invokestatic 205, 3) := by decide +kernel
theorem dX10_isFelt_9 : decode cX10_isFelt 9 = .ok (.istore_n 3, 1) := by decide +kernel
theorem dX10_isFelt_10 : decode cX10_isFelt 10 = .ok (.iload_n 1, 1) := by decide +kernel
theorem dX10_isFelt_11 : decode cX10_isFelt 11 = .ok (.invokestatic 208, 3) := by decide +kernel
theorem dX10_isFelt_14 : decode cX10_isFelt 14 = .ok (.iconst 1, 1) := by decide +kernel
theorem dX10_isFelt_15 : decode cX10_isFelt 15 = .ok (.if_icmp .ne 7, 3) := by decide +kernel
theorem dX10_isFelt_18 : decode cX10_isFelt 18 = .ok (.iconst 0, 1) := by decide +kernel
theorem dX10_isFelt_19 : decode cX10_isFelt 19 = .ok (.goto 12, 3) := by decide +kernel
theorem dX10_isFelt_22 : decode cX10_isFelt 22 = .ok (.aload_n 0, 1) := by decide +kernel
theorem dX10_isFelt_23 : decode cX10_isFelt 23 = .ok (.aload_n 0, 1) := by decide +kernel
theorem dX10_isFelt_24 : decode cX10_isFelt 24 = .ok (.iload_n 2, 1) := by decide +kernel
theorem dX10_isFelt_25 : decode cX10_isFelt 25 = .ok (.invokevirtual 93, 3) := by decide +kernel
theorem dX10_isFelt_28 : decode cX10_isFelt 28 = .ok (.invokevirtual 97, 3) := by decide +kernel
theorem dX10_isFelt_31 : decode cX10_isFelt 31 = .ok (.istore 4, 2) := by decide +kernel
theorem dX10_isFelt_33 : decode cX10_isFelt 33 = .ok (.iload_n 1, 1) := by decide +kernel
theorem dX10_isFelt_34 : decode cX10_isFelt 34 = .ok (.invokestatic 208, 3) := by decide +kernel
theorem dX10_isFelt_37 : decode cX10_isFelt 37 = .ok (.iconst 1, 1) := by decide +kernel
theorem dX10_isFelt_38 : decode cX10_isFelt 38 = .ok (.if_icmp .eq 11, 3) := by decide +kernel
theorem dX10_isFelt_41 : decode cX10_isFelt 41 = .ok (.iload_n 1, 1) := by decide +kernel
theorem dX10_isFelt_42 : decode cX10_isFelt 42 = .ok (.invokestatic 208, 3) := by decide +kernel
theorem dX10_isFelt_45 : decode cX10_isFelt 45 = .ok (.iconst 2, 1) := by decide +kernel
theorem dX10_isFelt_46 : decode cX10_isFelt 46 = .ok (.if_icmp .ne 11, 3) := by decide +kernel
theorem dX10_isFelt_49 : decode cX10_isFelt 49 = .ok (.aload_n 0, 1) := by decide +kernel
theorem dX10_isFelt_50 : decode cX10_isFelt 50 = .ok (.iload_n 3, 1) := by decide +kernel
theorem dX10_isFelt_51 : decode cX10_isFelt 51 = .ok (.invokevirtual 97, 3) := by decide +kernel
theorem dX10_isFelt_54 : decode cX10_isFelt 54 = .ok (.goto 4, 3) := by decide +kernel
theorem dX10_isFelt_57 : decode cX10_isFelt 57 = .ok (.iconst 0, 1) := by decide +kernel
theorem dX10_isFelt_58 : decode cX10_isFelt 58 = .ok (.istore 5, 2) := by decide +kernel
theorem dX10_isFelt_60 : decode cX10_isFelt 60 = .ok (.iload 4, 2) := by decide +kernel
theorem dX10_isFelt_62 : decode cX10_isFelt 62 = .ok (.iload 5, 2) := by decide +kernel
theorem dX10_isFelt_64 : decode cX10_isFelt 64 = .ok (.isub, 1) := by decide +kernel
theorem dX10_isFelt_65 : decode cX10_isFelt 65 = .ok (.invokestatic 211, 3) := by decide +kernel
theorem dX10_isFelt_68 : decode cX10_isFelt 68 = .ok (.aload_n 0, 1) := by decide +kernel
theorem dX10_isFelt_69 : decode cX10_isFelt 69 = .ok (.getfield 28, 3) := by decide +kernel
theorem dX10_isFelt_72 : decode cX10_isFelt 72 = .ok (.iload_n 2, 1) := by decide +kernel
theorem dX10_isFelt_73 : decode cX10_isFelt 73 = .ok (.iaload, 1) := by decide +kernel
theorem dX10_isFelt_74 : decode cX10_isFelt 74 = .ok (.if_icmp .gt 22, 3) := by decide +kernel
theorem dX10_isFelt_77 : decode cX10_isFelt 77 = .ok (.iload_n 1, 1) := by decide +kernel
theorem dX10_isFelt_78 : decode cX10_isFelt 78 = .ok (.invokestatic 208, 3) := by decide +kernel
theorem dX10_isFelt_81 : decode cX10_isFelt 81 = .ok (.iconst 3, 1) := by decide +kernel
theorem dX10_isFelt_82 : decode cX10_isFelt 82 = .ok (.if_icmp .ne 18, 3) := by decide +kernel
theorem dX10_isFelt_85 : decode cX10_isFelt 85 = .ok (.iload 4, 2) := by decide +kernel
theorem dX10_isFelt_87 : decode cX10_isFelt 87 = .ok (.aload_n 0, 1) := by decide +kernel
theorem dX10_isFelt_88 : decode cX10_isFelt 88 = .ok (.getfield 28, 3) := by decide +kernel
theorem dX10_isFelt_91 : decode cX10_isFelt 91 = .ok (.iload_n 3, 1) := by decide +kernel
theorem dX10_isFelt_92 : decode cX10_isFelt 92 = .ok (.iaload, 1) := by decide +kernel
theorem dX10_isFelt_93 : decode cX10_isFelt 93 = .ok (.if_icmp .le 7, 3) := by decide +kernel
theorem dX10_isFelt_96 : decode cX10_isFelt 96 = .ok (.iconst 1, 1) := by decide +kernel
theorem dX10_isFelt_97 : decode cX10_isFelt 97 = .ok (.goto 4, 3) := by decide +kernel
theorem dX10_isFelt_100 : decode cX10_isFelt 100 = .ok (.iconst 0, 1) := by decide +kernel
theorem dX10_isFelt_101 : decode cX10_isFelt 101 = .ok (.ireturn, 1) := by decide +kernel
theorem dX10_doAct_0 : decode cX10_doAct 0 = .ok (.iload_n 1, 1) := by decide +kernel
theorem dX10_doAct_1 : decode cX10_doAct 1 = .ok (.invokestatic 202, 3) := by decide +kernel
theorem dX10_doAct_4 : decode cX10_doAct 4 = .ok (.istore_n 2, 1) := by decide +kernel
theorem dX10_doAct_5 : decode cX10_doAct 5 = .ok (.iload_n 1, 1) := by decide +kernel
theorem dX10_doAct_6 : decode cX10_doAct 6 = .ok (.invokestatic 205, 3) := by decide +kernel
theorem dX10_doAct_9 : decode cX10_doAct 9 = .ok (.istore_n 3, 1) := by decide +kernel
theorem dX10_doAct_10 : decode cX10_doAct 10 = .ok (.iload_n 1, 1) := by decide +kernel
theorem dX10_doAct_11 : decode cX10_doAct 11 = .ok (.invokestatic 208, 3) := by decide +kernel
theorem dX10_doAct_14 : decode cX10_doAct 14 = .ok (.iconst 1, 1) := by decide +kernel
theorem dX10_doAct_15 : decode cX10_doAct 15 = .ok (.if_icmp .ne 7, 3) := by decide +kernel
theorem dX10_doAct_18 : decode cX10_doAct 18 = .ok (.iload_n 3, 1) := by decide +kernel
theorem dX10_doAct_19 : decode cX10_doAct 19 = .ok (.goto 8, 3) := by decide +kernel
theorem dX10_doAct_22 : decode cX10_doAct 22 = .ok (.aload_n 0, 1) := by decide +kernel
theorem dX10_doAct_23 : decode cX10_doAct 23 = .ok (.iload_n 2, 1) := by decide +kernel
theorem dX10_doAct_24 : decode cX10_doAct 24 = .ok (.invokevirtual 214, 3) := by decide +kernel
theorem dX10_doAct_27 : decode cX10_doAct 27 = .ok (.istore 4, 2) := by decide +kernel
theorem dX10_doAct_29 : decode cX10_doAct 29 = .ok (.iload_n 1, 1) := by decide +kernel
theorem dX10_doAct_30 : decode cX10_doAct 30 = .ok (.invokestatic 208, 3) := by decide +kernel
theorem dX10_doAct_33 : decode cX10_doAct 33 = .ok (.iconst 1, 1) := by decide +kernel
theorem dX10_doAct_34 : decode cX10_doAct 34 = .ok (.if_icmp .eq 11, 3) := by decide +kernel
theorem dX10_doAct_37 : decode cX10_doAct 37 = .ok (.iload_n 1, 1) := by decide +kernel
theorem dX10_doAct_38 : decode cX10_doAct 38 = .ok (.invokestatic 208, 3) := by decide +kernel
theorem dX10_doAct_41 : decode cX10_doAct 41 = .ok (.iconst 2, 1) := by decide +kernel
theorem dX10_doAct_42 : decode cX10_doAct 42 = .ok (.if_icmp .ne 9, 3) := by decide +kernel
theorem dX10_doAct_45 : decode cX10_doAct 45 = .ok (.aload_n 0, 1) := by decide +kernel
theorem dX10_doAct_46 : decode cX10_doAct 46 = .ok (.iload_n 3, 1) := by decide +kernel
theorem dX10_doAct_47 : decode cX10_doAct 47 = .ok (.iload_n 2, 1) := by decide +kernel
theorem dX10_doAct_48 : decode cX10_doAct 48 = .ok (.invokevirtual 100, 3) := by decide +kernel
theorem dX10_doAct_51 : decode cX10_doAct 51 = .ok (.iload_n 1, 1) := by decide +kernel
theorem dX10_doAct_52 : decode cX10_doAct 52 = .ok (.invokestatic 208, 3) := by decide +kernel
theorem dX10_doAct_55 : decode cX10_doAct 55 = .ok (.iconst 3, 1) := by decide +kernel
theorem dX10_doAct_56 : decode cX10_doAct 56 = .ok (.if_icmp .ne 10, 3) := by decide +kernel
theorem dX10_doAct_59 : decode cX10_doAct 59 = .ok (.aload_n 0, 1) := by decide +kernel
theorem dX10_doAct_60 : decode cX10_doAct 60 = .ok (.iload 4, 2) := by decide +kernel
theorem dX10_doAct_62 : decode cX10_doAct 62 = .ok (.iload_n 3, 1) := by decide +kernel
theorem dX10_doAct_63 : decode cX10_doAct 63 = .ok (.invokevirtual 100, 3) := by decide +kernel
theorem dX10_doAct_66 : decode cX10_doAct 66 = .ok (.iload 4, 2) := by decide +kernel
theorem dX10_doAct_68 : decode cX10_doAct 68 = .ok (.ireturn, 1) := by decide +kernel
theorem dX10_wake_0 : decode cX10_wake 0 = .ok (.aload_n 0, 1) := by decide +kernel
theorem dX10_wake_1 : decode cX10_wake 1 = .ok (.dup, 1) := by decide +kernel
theorem dX10_wake_2 : decode cX10_wake 2 = .ok (.getfield 133, 3) := by decide +kernel
theorem dX10_wake_5 : decode cX10_wake 5 = .ok (.iconst 1, 1) := by decide +kernel
theorem dX10_wake_6 : decode cX10_wake 6 = .ok (.iadd, 1) := by decide +kernel
theorem dX10_wake_7 : decode cX10_wake 7 = .ok (.putfield 133, 3) := by decide +kernel
theorem dX10_wake_10 : decode cX10_wake 10 = .ok (.iconst (-1), 1) := by decide +kernel
theorem dX10_wake_11 : decode cX10_wake 11 = .ok (.istore_n 1, 1) := by decide +kernel
theorem dX10_wake_12 : decode cX10_wake 12 = .ok (.iconst 0, 1) := by decide +kernel
theorem dX10_wake_13 : decode cX10_wake 13 = .ok (.istore_n 2, 1) := by decide +kernel
theorem dX10_wake_14 : decode cX10_wake 14 = .ok (.iload_n 2, 1) := by decide +kernel
theorem dX10_wake_15 : decode cX10_wake 15 = .ok (.aload_n 0, 1) := by decide +kernel
theorem dX10_wake_16 : decode cX10_wake 16 = .ok (.getfield 83, 3) := by decide +kernel
theorem dX10_wake_19 : decode cX10_wake 19 = .ok (.if_icmp .ge 63, 3) := by decide +kernel
theorem dX10_wake_22 : decode cX10_wake 22 = .ok (.aload_n 0, 1) := by decide +kernel
theorem dX10_wake_23 : decode cX10_wake 23 = .ok (.getfield 19, 3) := by decide +kernel
theorem dX10_wake_26 : decode cX10_wake 26 = .ok (.iload_n 2, 1) := by decide +kernel
theorem dX10_wake_27 : decode cX10_wake 27 = .ok (.iaload, 1) := by decide +kernel
theorem dX10_wake_28 : decode cX10_wake 28 = .ok (.bipush 6, 2) := by decide +kernel
theorem dX10_wake_30 : decode cX10_wake 30 = .ok (.if_icmp .ne 17, 3) := by decide +kernel
theorem dX10_wake_33 : decode cX10_wake 33 = .ok (.aload_n 0, 1) := by decide +kernel
theorem dX10_wake_34 : decode cX10_wake 34 = .ok (.getfield 7, 3) := by decide +kernel
theorem dX10_wake_37 : decode cX10_wake 37 = .ok (.iload_n 2, 1) := by decide +kernel
theorem dX10_wake_38 : decode cX10_wake 38 = .ok (.iaload, 1) := by decide +kernel
theorem dX10_wake_39 : decode cX10_wake 39 = .ok (.iconst 3, 1) := by decide +kernel
theorem dX10_wake_40 : decode cX10_wake 40 = .ok (.if_icmp .eq 7, 3) := by decide +kernel
theorem dX10_wake_43 : decode cX10_wake 43 = .ok (.iconst 1, 1) := by decide +kernel
theorem dX10_wake_44 : decode cX10_wake 44 = .ok (.goto 4, 3) := by decide +kernel
theorem dX10_wake_47 : decode cX10_wake 47 = .ok (.iconst 0, 1) := by decide +kernel
theorem dX10_wake_48 : decode cX10_wake 48 = .ok (.istore_n 3, 1) := by decide +kernel
theorem dX10_wake_49 : decode cX10_wake 49 = .ok (.iload_n 3, 1) := by decide +kernel
theorem dX10_wake_50 : decode cX10_wake 50 = .ok (.ifCond .eq 24, 3) := by decide +kernel
theorem dX10_wake_53 : decode cX10_wake 53 = .ok (.iload_n 1, 1) := by decide +kernel
theorem dX10_wake_54 : decode cX10_wake 54 = .ok (.ifCond .lt 16, 3) := by decide +kernel
theorem dX10_wake_57 : decode cX10_wake 57 = .ok (.aload_n 0, 1) := by decide +kernel
theorem dX10_wake_58 : decode cX10_wake 58 = .ok (.iload_n 2, 1) := by decide +kernel
theorem dX10_wake_59 : decode cX10_wake 59 = .ok (.invokevirtual 97, 3) := by decide +kernel
theorem dX10_wake_62 : decode cX10_wake 62 = .ok (.aload_n 0, 1) := by decide +kernel
theorem dX10_wake_63 : decode cX10_wake 63 = .ok (.iload_n 1, 1) := by decide +kernel
theorem dX10_wake_64 : decode cX10_wake 64 = .ok (.invokevirtual 97, 3) := by decide +kernel
theorem dX10_wake_67 : decode cX10_wake 67 = .ok (.if_icmp .ge 7, 3) := by decide +kernel
theorem dX10_wake_70 : decode cX10_wake 70 = .ok (.iload_n 2, 1) := by decide +kernel
theorem dX10_wake_71 : decode cX10_wake 71 = .ok (.goto 4, 3) := by decide +kernel
theorem dX10_wake_74 : decode cX10_wake 74 = .ok (.iload_n 1, 1) := by decide +kernel
theorem dX10_wake_75 : decode cX10_wake 75 = .ok (.istore_n 1, 1) := by decide +kernel
theorem dX10_wake_76 : decode cX10_wake 76 = .ok (.iinc 2 1, 3) := by decide +kernel
theorem dX10_wake_79 : decode cX10_wake 79 = .ok (.goto (-65), 3) := by decide +kernel
theorem dX10_wake_82 : decode cX10_wake 82 = .ok (.iload_n 1, 1) := by decide +kernel
theorem dX10_wake_83 : decode cX10_wake 83 = .ok (.ifCond .lt 11, 3) := by decide +kernel
theorem dX10_wake_86 : decode cX10_wake 86 = .ok (.aload_n 0, 1) := by decide +kernel
theorem dX10_wake_87 : decode cX10_wake 87 = .ok (.getfield 19, 3) := by decide +kernel
theorem dX10_wake_90 : decode cX10_wake 90 = .ok (.iload_n 1, 1) := by decide +kernel
theorem dX10_wake_91 : decode cX10_wake 91 = .ok (.bipush 7, 2) := by decide +kernel
theorem dX10_wake_93 : decode cX10_wake 93 = .ok (.iastore, 1) := by decide +kernel
theorem dX10_wake_94 : decode cX10_wake 94 = .ok (.return_, 1) := by decide +kernel
theorem dX10_goes_0 : decode cX10_goes 0 = .ok (.aload_n 0, 1) := by decide +kernel
theorem dX10_goes_1 : decode cX10_goes 1 = .ok (.iload_n 1, 1) := by decide +kernel
theorem dX10_goes_2 : decode cX10_goes 2 = .ok (.invokevirtual 217, 3) := by decide +kernel
theorem dX10_goes_5 : decode cX10_goes 5 = .ok (.ifCond .eq 9, 3) := by decide +kernel
theorem dX10_goes_8 : decode cX10_goes 8 = .ok (.aload_n 0, 1) := by decide +kernel
theorem dX10_goes_9 : decode cX10_goes 9 = .ok (.invokevirtual 220, 3) := by decide +kernel
theorem dX10_goes_12 : decode cX10_goes 12 = .ok (.iconst 0, 1) := by decide +kernel
theorem dX10_goes_13 : decode cX10_goes 13 = .ok (.ireturn, 1) := by decide +kernel
theorem dX10_goes_14 : decode cX10_goes 14 = .ok (.aload_n 0, 1) := by decide +kernel
theorem dX10_goes_15 : decode cX10_goes 15 = .ok (.iload_n 1, 1) := by decide +kernel
theorem dX10_goes_16 : decode cX10_goes 16 = .ok (.invokevirtual 223, 3) := by decide +kernel
theorem dX10_goes_19 : decode cX10_goes 19 = .ok (.istore_n 2, 1) := by decide +kernel
theorem dX10_goes_20 : decode cX10_goes 20 = .ok (.iconst 1, 1) := by decide +kernel
theorem dX10_goes_21 : decode cX10_goes 21 = .ok (.ireturn, 1) := by decide +kernel
theorem dX10_tryAct_0 : decode cX10_tryAct 0 = .ok (.aload_n 0, 1) := by decide +kernel
theorem dX10_tryAct_1 : decode cX10_tryAct 1 = .ok (.iload_n 1, 1) := by decide +kernel
theorem dX10_tryAct_2 : decode cX10_tryAct 2 = .ok (.invokevirtual 196, 3) := by decide +kernel
theorem dX10_tryAct_5 : decode cX10_tryAct 5 = .ok (.ifCond .ne 6, 3) := by decide +kernel
theorem dX10_tryAct_8 : decode cX10_tryAct 8 = .ok (.bipush (-2), 2) := by decide +kernel
theorem dX10_tryAct_10 : decode cX10_tryAct 10 = .ok (.ireturn, 1) := by decide +kernel
theorem dX10_tryAct_11 : decode cX10_tryAct 11 = .ok (.aload_n 0, 1) := by decide +kernel
theorem dX10_tryAct_12 : decode cX10_tryAct 12 = .ok (.iload_n 1, 1) := by decide +kernel
theorem dX10_tryAct_13 : decode cX10_tryAct 13 = .ok (.invokevirtual 217, 3) := by decide +kernel
theorem dX10_tryAct_16 : decode cX10_tryAct 16 = .ok (.ifCond .eq 10, 3) := by decide +kernel
theorem dX10_tryAct_19 : decode cX10_tryAct 19 = .ok (.aload_n 0, 1) := by decide +kernel
theorem dX10_tryAct_20 : decode cX10_tryAct 20 = .ok (.invokevirtual 220, 3) := by decide +kernel
theorem dX10_tryAct_23 : decode cX10_tryAct 23 = .ok (.bipush (-3), 2) := by decide +kernel
theorem dX10_tryAct_25 : decode cX10_tryAct 25 = .ok (.ireturn, 1) := by decide +kernel
theorem dX10_tryAct_26 : decode cX10_tryAct 26 = .ok (.aload_n 0, 1) := by decide +kernel
theorem dX10_tryAct_27 : decode cX10_tryAct 27 = .ok (.iload_n 1, 1) := by decide +kernel
theorem dX10_tryAct_28 : decode cX10_tryAct 28 = .ok (.invokevirtual 223, 3) := by decide +kernel
theorem dX10_tryAct_31 : decode cX10_tryAct 31 = .ok (.ireturn, 1) := by decide +kernel
theorem dX10_lift_0 : decode cX10_lift 0 = .ok (.iload_n 1, 1) := by decide +kernel
theorem dX10_lift_1 : decode cX10_lift 1 = .ok (.invokestatic 124, 3) := by decide +kernel
theorem dX10_lift_4 : decode cX10_lift 4 = .ok (.ifCond .eq 14, 3) := by decide +kernel
theorem dX10_lift_7 : decode cX10_lift 7 = .ok (.aload_n 0, 1) := by decide +kernel
theorem dX10_lift_8 : decode cX10_lift 8 = .ok (.bipush 100, 2) := by decide +kernel
theorem dX10_lift_10 : decode cX10_lift 10 = .ok (.iload_n 1, 1) := by decide +kernel
theorem dX10_lift_11 : decode cX10_lift 11 = .ok (.imul, 1) := by decide +kernel
theorem dX10_lift_12 : decode cX10_lift 12 = .ok (.invokevirtual 226, 3) := by decide +kernel
theorem dX10_lift_15 : decode cX10_lift 15 = .ok (.goto 4, 3) := by decide +kernel
theorem dX10_lift_18 : decode cX10_lift 18 = .ok (.iconst (-1), 1) := by decide +kernel
theorem dX10_lift_19 : decode cX10_lift 19 = .ok (.ireturn, 1) := by decide +kernel
theorem dX10_lay_0 : decode cX10_lay 0 = .ok (.aload_n 0, 1) := by decide +kernel
theorem dX10_lay_1 : decode cX10_lay 1 = .ok (.iload_n 1, 1) := by decide +kernel
theorem dX10_lay_2 : decode cX10_lay 2 = .ok (.invokevirtual 114, 3) := by decide +kernel
theorem dX10_lay_5 : decode cX10_lay 5 = .ok (.ifCond .eq 10, 3) := by decide +kernel
theorem dX10_lay_8 : decode cX10_lay 8 = .ok (.iload_n 2, 1) := by decide +kernel
theorem dX10_lay_9 : decode cX10_lay 9 = .ok (.invokestatic 124, 3) := by decide +kernel
theorem dX10_lay_12 : decode cX10_lay 12 = .ok (.ifCond .ne 5, 3) := by decide +kernel
theorem dX10_lay_15 : decode cX10_lay 15 = .ok (.iconst (-1), 1) := by decide +kernel
theorem dX10_lay_16 : decode cX10_lay 16 = .ok (.ireturn, 1) := by decide +kernel
theorem dX10_lay_17 : decode cX10_lay 17 = .ok (.aload_n 0, 1) := by decide +kernel
theorem dX10_lay_18 : decode cX10_lay 18 = .ok (.sipush 1000, 3) := by decide +kernel
theorem dX10_lay_21 : decode cX10_lay 21 = .ok (.bipush 100, 2) := by decide +kernel
theorem dX10_lay_23 : decode cX10_lay 23 = .ok (.iload_n 2, 1) := by decide +kernel
theorem dX10_lay_24 : decode cX10_lay 24 = .ok (.imul, 1) := by decide +kernel
theorem dX10_lay_25 : decode cX10_lay 25 = .ok (.iadd, 1) := by decide +kernel
theorem dX10_lay_26 : decode cX10_lay 26 = .ok (.iload_n 1, 1) := by decide +kernel
theorem dX10_lay_27 : decode cX10_lay 27 = .ok (.iadd, 1) := by decide +kernel
theorem dX10_lay_28 : decode cX10_lay 28 = .ok (.invokevirtual 226, 3) := by decide +kernel
theorem dX10_lay_31 : decode cX10_lay 31 = .ok (.istore_n 3, 1) := by decide +kernel
theorem dX10_lay_32 : decode cX10_lay 32 = .ok (.iload_n 3, 1) := by decide +kernel
theorem dX10_lay_33 : decode cX10_lay 33 = .ok (.ifCond .ge 7, 3) := by decide +kernel
theorem dX10_lay_36 : decode cX10_lay 36 = .ok (.iload_n 3, 1) := by decide +kernel
theorem dX10_lay_37 : decode cX10_lay 37 = .ok (.goto 8, 3) := by decide +kernel
theorem dX10_lay_40 : decode cX10_lay 40 = .ok (.aload_n 0, 1) := by decide +kernel
theorem dX10_lay_41 : decode cX10_lay 41 = .ok (.iload_n 2, 1) := by decide +kernel
theorem dX10_lay_42 : decode cX10_lay 42 = .ok (.invokevirtual 127, 3) := by decide +kernel
theorem dX10_lay_45 : decode cX10_lay 45 = .ok (.ireturn, 1) := by decide +kernel
theorem dX10_swap_0 : decode cX10_swap 0 = .ok (.aload_n 0, 1) := by decide +kernel
theorem dX10_swap_1 : decode cX10_swap 1 = .ok (.iload_n 2, 1) := by decide +kernel
theorem dX10_swap_2 : decode cX10_swap 2 = .ok (.invokevirtual 114, 3) := by decide +kernel
theorem dX10_swap_5 : decode cX10_swap 5 = .ok (.ifCond .eq 27, 3) := by decide +kernel
theorem dX10_swap_8 : decode cX10_swap 8 = .ok (.iload_n 1, 1) := by decide +kernel
theorem dX10_swap_9 : decode cX10_swap 9 = .ok (.invokestatic 124, 3) := by decide +kernel
theorem dX10_swap_12 : decode cX10_swap 12 = .ok (.ifCond .eq 20, 3) := by decide +kernel
theorem dX10_swap_15 : decode cX10_swap 15 = .ok (.aload_n 0, 1) := by decide +kernel
theorem dX10_swap_16 : decode cX10_swap 16 = .ok (.sipush 2000, 3) := by decide +kernel
theorem dX10_swap_19 : decode cX10_swap 19 = .ok (.bipush 100, 2) := by decide +kernel
theorem dX10_swap_21 : decode cX10_swap 21 = .ok (.iload_n 1, 1) := by decide +kernel
theorem dX10_swap_22 : decode cX10_swap 22 = .ok (.imul, 1) := by decide +kernel
theorem dX10_swap_23 : decode cX10_swap 23 = .ok (.iadd, 1) := by decide +kernel
theorem dX10_swap_24 : decode cX10_swap 24 = .ok (.iload_n 2, 1) := by decide +kernel
theorem dX10_swap_25 : decode cX10_swap 25 = .ok (.iadd, 1) := by decide +kernel
theorem dX10_swap_26 : decode cX10_swap 26 = .ok (.invokevirtual 226, 3) := by decide +kernel
theorem dX10_swap_29 : decode cX10_swap 29 = .ok (.goto 4, 3) := by decide +kernel
theorem dX10_swap_32 : decode cX10_swap 32 = .ok (.iconst (-1), 1) := by decide +kernel
theorem dX10_swap_33 : decode cX10_swap 33 = .ok (.ireturn, 1) := by decide +kernel
theorem dX10_push_0 : decode cX10_push 0 = .ok (.iload_n 1, 1) := by decide +kernel
theorem dX10_push_1 : decode cX10_push 1 = .ok (.invokestatic 124, 3) := by decide +kernel
theorem dX10_push_4 : decode cX10_push 4 = .ok (.ifCond .eq 32, 3) := by decide +kernel
theorem dX10_push_7 : decode cX10_push 7 = .ok (.iload_n 2, 1) := by decide +kernel
theorem dX10_push_8 : decode cX10_push 8 = .ok (.invokestatic 124, 3) := by decide +kernel
theorem dX10_push_11 : decode cX10_push 11 = .ok (.ifCond .eq 25, 3) := by decide +kernel
theorem dX10_push_14 : decode cX10_push 14 = .ok (.iload_n 1, 1) := by decide +kernel
theorem dX10_push_15 : decode cX10_push 15 = .ok (.iload_n 2, 1) := by decide +kernel
theorem dX10_push_16 : decode cX10_push 16 = .ok (.if_icmp .eq 20, 3) := by decide +kernel
theorem dX10_push_19 : decode cX10_push 19 = .ok (.aload_n 0, 1) := by decide +kernel
theorem dX10_push_20 : decode cX10_push 20 = .ok (.sipush 3000, 3) := by decide +kernel
theorem dX10_push_23 : decode cX10_push 23 = .ok (.bipush 100, 2) := by decide +kernel
theorem dX10_push_25 : decode cX10_push 25 = .ok (.iload_n 1, 1) := by decide +kernel
theorem dX10_push_26 : decode cX10_push 26 = .ok (.imul, 1) := by decide +kernel
theorem dX10_push_27 : decode cX10_push 27 = .ok (.iadd, 1) := by decide +kernel
theorem dX10_push_28 : decode cX10_push 28 = .ok (.iload_n 2, 1) := by decide +kernel
theorem dX10_push_29 : decode cX10_push 29 = .ok (.iadd, 1) := by decide +kernel
theorem dX10_push_30 : decode cX10_push 30 = .ok (.invokevirtual 226, 3) := by decide +kernel
theorem dX10_push_33 : decode cX10_push 33 = .ok (.goto 4, 3) := by decide +kernel
theorem dX10_push_36 : decode cX10_push 36 = .ok (.iconst (-1), 1) := by decide +kernel
theorem dX10_push_37 : decode cX10_push 37 = .ok (.ireturn, 1) := by decide +kernel
theorem dX10_turn_0 : decode cX10_turn 0 = .ok (.iconst 0, 1) := by decide +kernel
theorem dX10_turn_1 : decode cX10_turn 1 = .ok (.istore_n 1, 1) := by decide +kernel
theorem dX10_turn_2 : decode cX10_turn 2 = .ok (.iconst 0, 1) := by decide +kernel
theorem dX10_turn_3 : decode cX10_turn 3 = .ok (.istore_n 2, 1) := by decide +kernel
theorem dX10_turn_4 : decode cX10_turn 4 = .ok (.iload_n 2, 1) := by decide +kernel
theorem dX10_turn_5 : decode cX10_turn 5 = .ok (.bipush 72, 2) := by decide +kernel
theorem dX10_turn_7 : decode cX10_turn 7 = .ok (.if_icmp .ge 21, 3) := by decide +kernel
theorem dX10_turn_10 : decode cX10_turn 10 = .ok (.aload_n 0, 1) := by decide +kernel
theorem dX10_turn_11 : decode cX10_turn 11 = .ok (.getfield 49, 3) := by decide +kernel
theorem dX10_turn_14 : decode cX10_turn 14 = .ok (.iload_n 2, 1) := by decide +kernel
theorem dX10_turn_15 : decode cX10_turn 15 = .ok (.aload_n 0, 1) := by decide +kernel
theorem dX10_turn_16 : decode cX10_turn 16 = .ok (.getfield 25, 3) := by decide +kernel
theorem dX10_turn_19 : decode cX10_turn 19 = .ok (.iload_n 2, 1) := by decide +kernel
theorem dX10_turn_20 : decode cX10_turn 20 = .ok (.iaload, 1) := by decide +kernel
theorem dX10_turn_21 : decode cX10_turn 21 = .ok (.iastore, 1) := by decide +kernel
theorem dX10_turn_22 : decode cX10_turn 22 = .ok (.iinc 2 1, 3) := by decide +kernel
theorem dX10_turn_25 : decode cX10_turn 25 = .ok (.goto (-21), 3) := by decide +kernel
theorem dX10_turn_28 : decode cX10_turn 28 = .ok (.iconst 0, 1) := by decide +kernel
theorem dX10_turn_29 : decode cX10_turn 29 = .ok (.istore_n 2, 1) := by decide +kernel
theorem dX10_turn_30 : decode cX10_turn 30 = .ok (.iload_n 2, 1) := by decide +kernel
theorem dX10_turn_31 : decode cX10_turn 31 = .ok (.bipush 6, 2) := by decide +kernel
theorem dX10_turn_33 : decode cX10_turn 33 = .ok (.if_icmp .ge 30, 3) := by decide +kernel
theorem dX10_turn_36 : decode cX10_turn 36 = .ok (.aload_n 0, 1) := by decide +kernel
theorem dX10_turn_37 : decode cX10_turn 37 = .ok (.getfield 52, 3) := by decide +kernel
theorem dX10_turn_40 : decode cX10_turn 40 = .ok (.iload_n 2, 1) := by decide +kernel
theorem dX10_turn_41 : decode cX10_turn 41 = .ok (.aload_n 0, 1) := by decide +kernel
theorem dX10_turn_42 : decode cX10_turn 42 = .ok (.getfield 22, 3) := by decide +kernel
theorem dX10_turn_45 : decode cX10_turn 45 = .ok (.iload_n 2, 1) := by decide +kernel
theorem dX10_turn_46 : decode cX10_turn 46 = .ok (.iaload, 1) := by decide +kernel
theorem dX10_turn_47 : decode cX10_turn 47 = .ok (.iastore, 1) := by decide +kernel
theorem dX10_turn_48 : decode cX10_turn 48 = .ok (.iload_n 1, 1) := by decide +kernel
theorem dX10_turn_49 : decode cX10_turn 49 = .ok (.aload_n 0, 1) := by decide +kernel
theorem dX10_turn_50 : decode cX10_turn 50 = .ok (.getfield 22, 3) := by decide +kernel
theorem dX10_turn_53 : decode cX10_turn 53 = .ok (.iload_n 2, 1) := by decide +kernel
theorem dX10_turn_54 : decode cX10_turn 54 = .ok (.iaload, 1) := by decide +kernel
theorem dX10_turn_55 : decode cX10_turn 55 = .ok (.iadd, 1) := by decide +kernel
theorem dX10_turn_56 : decode cX10_turn 56 = .ok (.istore_n 1, 1) := by decide +kernel
theorem dX10_turn_57 : decode cX10_turn 57 = .ok (.iinc 2 1, 3) := by decide +kernel
theorem dX10_turn_60 : decode cX10_turn 60 = .ok (.goto (-30), 3) := by decide +kernel
theorem dX10_turn_63 : decode cX10_turn 63 = .ok (.iconst 0, 1) := by decide +kernel
theorem dX10_turn_64 : decode cX10_turn 64 = .ok (.istore_n 2, 1) := by decide +kernel
theorem dX10_turn_65 : decode cX10_turn 65 = .ok (.iload_n 2, 1) := by decide +kernel
theorem dX10_turn_66 : decode cX10_turn 66 = .ok (.bipush 6, 2) := by decide +kernel
theorem dX10_turn_68 : decode cX10_turn 68 = .ok (.if_icmp .ge 55, 3) := by decide +kernel
theorem dX10_turn_71 : decode cX10_turn 71 = .ok (.aload_n 0, 1) := by decide +kernel
theorem dX10_turn_72 : decode cX10_turn 72 = .ok (.getfield 22, 3) := by decide +kernel
theorem dX10_turn_75 : decode cX10_turn 75 = .ok (.iload_n 2, 1) := by decide +kernel
theorem dX10_turn_76 : decode cX10_turn 76 = .ok (.iconst 0, 1) := by decide +kernel
theorem dX10_turn_77 : decode cX10_turn 77 = .ok (.iastore, 1) := by decide +kernel
theorem dX10_turn_78 : decode cX10_turn 78 = .ok (.aload_n 0, 1) := by decide +kernel
theorem dX10_turn_79 : decode cX10_turn 79 = .ok (.getfield 52, 3) := by decide +kernel
theorem dX10_turn_82 : decode cX10_turn 82 = .ok (.iconst 5, 1) := by decide +kernel
theorem dX10_turn_83 : decode cX10_turn 83 = .ok (.iload_n 2, 1) := by decide +kernel
theorem dX10_turn_84 : decode cX10_turn 84 = .ok (.isub, 1) := by decide +kernel
theorem dX10_turn_85 : decode cX10_turn 85 = .ok (.iaload, 1) := by decide +kernel
theorem dX10_turn_86 : decode cX10_turn 86 = .ok (.iconst 1, 1) := by decide +kernel
theorem dX10_turn_87 : decode cX10_turn 87 = .ok (.isub, 1) := by decide +kernel
theorem dX10_turn_88 : decode cX10_turn 88 = .ok (.istore_n 3, 1) := by decide +kernel
theorem dX10_turn_89 : decode cX10_turn 89 = .ok (.iload_n 3, 1) := by decide +kernel
theorem dX10_turn_90 : decode cX10_turn 90 = .ok (.ifCond .lt 27, 3) := by decide +kernel
theorem dX10_turn_93 : decode cX10_turn 93 = .ok (.aload_n 0, 1) := by decide +kernel
theorem dX10_turn_94 : decode cX10_turn 94 = .ok (.aload_n 0, 1) := by decide +kernel
theorem dX10_turn_95 : decode cX10_turn 95 = .ok (.getfield 49, 3) := by decide +kernel
theorem dX10_turn_98 : decode cX10_turn 98 = .ok (.bipush 12, 2) := by decide +kernel
theorem dX10_turn_100 : decode cX10_turn 100 = .ok (.iconst 5, 1) := by decide +kernel
theorem dX10_turn_101 : decode cX10_turn 101 = .ok (.iload_n 2, 1) := by decide +kernel
theorem dX10_turn_102 : decode cX10_turn 102 = .ok (.isub, 1) := by decide +kernel
theorem dX10_turn_103 : decode cX10_turn 103 = .ok (.imul, 1) := by decide +kernel
theorem dX10_turn_104 : decode cX10_turn 104 = .ok (.iload_n 3, 1) := by decide +kernel
theorem dX10_turn_105 : decode cX10_turn 105 = .ok (.iadd, 1) := by decide +kernel
theorem dX10_turn_106 : decode cX10_turn 106 = .ok (.iaload, 1) := by decide +kernel
theorem dX10_turn_107 : decode cX10_turn 107 = .ok (.iload_n 2, 1) := by decide +kernel
theorem dX10_turn_108 : decode cX10_turn 108 = .ok (.invokevirtual 100, 3) := by decide +kernel
theorem dX10_turn_111 : decode cX10_turn 111 = .ok (.iinc 3 (-1), 3) := by decide +kernel
theorem dX10_turn_114 : decode cX10_turn 114 = .ok (.goto (-25), 3) := by decide +kernel
theorem dX10_turn_117 : decode cX10_turn 117 = .ok (.iinc 2 1, 3) := by decide +kernel
theorem dX10_turn_120 : decode cX10_turn 120 = .ok (.goto (-55), 3) := by decide +kernel
theorem dX10_turn_123 : decode cX10_turn 123 = .ok (.iload_n 1, 1) := by decide +kernel
theorem dX10_turn_124 : decode cX10_turn 124 = .ok (.ireturn, 1) := by decide +kernel
theorem dX10_save_0 : decode cX10_save 0 = .ok (.iconst 0, 1) := by decide +kernel
theorem dX10_save_1 : decode cX10_save 1 = .ok (.istore_n 2, 1) := by decide +kernel
theorem dX10_save_2 : decode cX10_save 2 = .ok (.iload_n 2, 1) := by decide +kernel
theorem dX10_save_3 : decode cX10_save 3 = .ok (.bipush 12, 2) := by decide +kernel
theorem dX10_save_5 : decode cX10_save 5 = .ok (.if_icmp .ge 26, 3) := by decide +kernel
theorem dX10_save_8 : decode cX10_save 8 = .ok (.aload_n 0, 1) := by decide +kernel
theorem dX10_save_9 : decode cX10_save 9 = .ok (.getfield 55, 3) := by decide +kernel
theorem dX10_save_12 : decode cX10_save 12 = .ok (.bipush 12, 2) := by decide +kernel
theorem dX10_save_14 : decode cX10_save 14 = .ok (.iload_n 1, 1) := by decide +kernel
theorem dX10_save_15 : decode cX10_save 15 = .ok (.imul, 1) := by decide +kernel
theorem dX10_save_16 : decode cX10_save 16 = .ok (.iload_n 2, 1) := by decide +kernel
theorem dX10_save_17 : decode cX10_save 17 = .ok (.iadd, 1) := by decide +kernel
theorem dX10_save_18 : decode cX10_save 18 = .ok (.aload_n 0, 1) := by decide +kernel
theorem dX10_save_19 : decode cX10_save 19 = .ok (.getfield 19, 3) := by decide +kernel
theorem dX10_save_22 : decode cX10_save 22 = .ok (.iload_n 2, 1) := by decide +kernel
theorem dX10_save_23 : decode cX10_save 23 = .ok (.iaload, 1) := by decide +kernel
theorem dX10_save_24 : decode cX10_save 24 = .ok (.iastore, 1) := by decide +kernel
theorem dX10_save_25 : decode cX10_save 25 = .ok (.iinc 2 1, 3) := by decide +kernel
theorem dX10_save_28 : decode cX10_save 28 = .ok (.goto (-26), 3) := by decide +kernel
theorem dX10_save_31 : decode cX10_save 31 = .ok (.iconst 0, 1) := by decide +kernel
theorem dX10_save_32 : decode cX10_save 32 = .ok (.istore_n 2, 1) := by decide +kernel
theorem dX10_save_33 : decode cX10_save 33 = .ok (.iload_n 2, 1) := by decide +kernel
theorem dX10_save_34 : decode cX10_save 34 = .ok (.bipush 6, 2) := by decide +kernel
theorem dX10_save_36 : decode cX10_save 36 = .ok (.if_icmp .ge 26, 3) := by decide +kernel
theorem dX10_save_39 : decode cX10_save 39 = .ok (.aload_n 0, 1) := by decide +kernel
theorem dX10_save_40 : decode cX10_save 40 = .ok (.getfield 58, 3) := by decide +kernel
theorem dX10_save_43 : decode cX10_save 43 = .ok (.bipush 6, 2) := by decide +kernel
theorem dX10_save_45 : decode cX10_save 45 = .ok (.iload_n 1, 1) := by decide +kernel
theorem dX10_save_46 : decode cX10_save 46 = .ok (.imul, 1) := by decide +kernel
theorem dX10_save_47 : decode cX10_save 47 = .ok (.iload_n 2, 1) := by decide +kernel
theorem dX10_save_48 : decode cX10_save 48 = .ok (.iadd, 1) := by decide +kernel
theorem dX10_save_49 : decode cX10_save 49 = .ok (.aload_n 0, 1) := by decide +kernel
theorem dX10_save_50 : decode cX10_save 50 = .ok (.getfield 22, 3) := by decide +kernel
theorem dX10_save_53 : decode cX10_save 53 = .ok (.iload_n 2, 1) := by decide +kernel
theorem dX10_save_54 : decode cX10_save 54 = .ok (.iaload, 1) := by decide +kernel
theorem dX10_save_55 : decode cX10_save 55 = .ok (.iastore, 1) := by decide +kernel
theorem dX10_save_56 : decode cX10_save 56 = .ok (.iinc 2 1, 3) := by decide +kernel
theorem dX10_save_59 : decode cX10_save 59 = .ok (.goto (-26), 3) := by decide +kernel
theorem dX10_save_62 : decode cX10_save 62 = .ok (.iconst 0, 1) := by decide +kernel
theorem dX10_save_63 : decode cX10_save 63 = .ok (.istore_n 2, 1) := by decide +kernel
theorem dX10_save_64 : decode cX10_save 64 = .ok (.iload_n 2, 1) := by decide +kernel
theorem dX10_save_65 : decode cX10_save 65 = .ok (.bipush 72, 2) := by decide +kernel
theorem dX10_save_67 : decode cX10_save 67 = .ok (.if_icmp .ge 26, 3) := by decide +kernel
theorem dX10_save_70 : decode cX10_save 70 = .ok (.aload_n 0, 1) := by decide +kernel
theorem dX10_save_71 : decode cX10_save 71 = .ok (.getfield 61, 3) := by decide +kernel
theorem dX10_save_74 : decode cX10_save 74 = .ok (.bipush 72, 2) := by decide +kernel
theorem dX10_save_76 : decode cX10_save 76 = .ok (.iload_n 1, 1) := by decide +kernel
theorem dX10_save_77 : decode cX10_save 77 = .ok (.imul, 1) := by decide +kernel
theorem dX10_save_78 : decode cX10_save 78 = .ok (.iload_n 2, 1) := by decide +kernel
theorem dX10_save_79 : decode cX10_save 79 = .ok (.iadd, 1) := by decide +kernel
theorem dX10_save_80 : decode cX10_save 80 = .ok (.aload_n 0, 1) := by decide +kernel
theorem dX10_save_81 : decode cX10_save 81 = .ok (.getfield 25, 3) := by decide +kernel
theorem dX10_save_84 : decode cX10_save 84 = .ok (.iload_n 2, 1) := by decide +kernel
theorem dX10_save_85 : decode cX10_save 85 = .ok (.iaload, 1) := by decide +kernel
theorem dX10_save_86 : decode cX10_save 86 = .ok (.iastore, 1) := by decide +kernel
theorem dX10_save_87 : decode cX10_save 87 = .ok (.iinc 2 1, 3) := by decide +kernel
theorem dX10_save_90 : decode cX10_save 90 = .ok (.goto (-26), 3) := by decide +kernel
theorem dX10_save_93 : decode cX10_save 93 = .ok (.return_, 1) := by decide +kernel
theorem dX10_load_0 : decode cX10_load 0 = .ok (.iconst 0, 1) := by decide +kernel
theorem dX10_load_1 : decode cX10_load 1 = .ok (.istore_n 2, 1) := by decide +kernel
theorem dX10_load_2 : decode cX10_load 2 = .ok (.iload_n 2, 1) := by decide +kernel
theorem dX10_load_3 : decode cX10_load 3 = .ok (.bipush 12, 2) := by decide +kernel
theorem dX10_load_5 : decode cX10_load 5 = .ok (.if_icmp .ge 26, 3) := by decide +kernel
theorem dX10_load_8 : decode cX10_load 8 = .ok (.aload_n 0, 1) := by decide +kernel
theorem dX10_load_9 : decode cX10_load 9 = .ok (.getfield 19, 3) := by decide +kernel
theorem dX10_load_12 : decode cX10_load 12 = .ok (.iload_n 2, 1) := by decide +kernel
theorem dX10_load_13 : decode cX10_load 13 = .ok (.aload_n 0, 1) := by decide +kernel
theorem dX10_load_14 : decode cX10_load 14 = .ok (.getfield 55, 3) := by decide +kernel
theorem dX10_load_17 : decode cX10_load 17 = .ok (.bipush 12, 2) := by decide +kernel
theorem dX10_load_19 : decode cX10_load 19 = .ok (.iload_n 1, 1) := by decide +kernel
theorem dX10_load_20 : decode cX10_load 20 = .ok (.imul, 1) := by decide +kernel
theorem dX10_load_21 : decode cX10_load 21 = .ok (.iload_n 2, 1) := by decide +kernel
theorem dX10_load_22 : decode cX10_load 22 = .ok (.iadd, 1) := by decide +kernel
theorem dX10_load_23 : decode cX10_load 23 = .ok (.iaload, 1) := by decide +kernel
theorem dX10_load_24 : decode cX10_load 24 = .ok (.iastore, 1) := by decide +kernel
theorem dX10_load_25 : decode cX10_load 25 = .ok (.iinc 2 1, 3) := by decide +kernel
theorem dX10_load_28 : decode cX10_load 28 = .ok (.goto (-26), 3) := by decide +kernel
theorem dX10_load_31 : decode cX10_load 31 = .ok (.iconst 0, 1) := by decide +kernel
theorem dX10_load_32 : decode cX10_load 32 = .ok (.istore_n 2, 1) := by decide +kernel
theorem dX10_load_33 : decode cX10_load 33 = .ok (.iload_n 2, 1) := by decide +kernel
theorem dX10_load_34 : decode cX10_load 34 = .ok (.bipush 6, 2) := by decide +kernel
theorem dX10_load_36 : decode cX10_load 36 = .ok (.if_icmp .ge 26, 3) := by decide +kernel
theorem dX10_load_39 : decode cX10_load 39 = .ok (.aload_n 0, 1) := by decide +kernel
theorem dX10_load_40 : decode cX10_load 40 = .ok (.getfield 22, 3) := by decide +kernel
theorem dX10_load_43 : decode cX10_load 43 = .ok (.iload_n 2, 1) := by decide +kernel
theorem dX10_load_44 : decode cX10_load 44 = .ok (.aload_n 0, 1) := by decide +kernel
theorem dX10_load_45 : decode cX10_load 45 = .ok (.getfield 58, 3) := by decide +kernel
theorem dX10_load_48 : decode cX10_load 48 = .ok (.bipush 6, 2) := by decide +kernel
theorem dX10_load_50 : decode cX10_load 50 = .ok (.iload_n 1, 1) := by decide +kernel
theorem dX10_load_51 : decode cX10_load 51 = .ok (.imul, 1) := by decide +kernel
theorem dX10_load_52 : decode cX10_load 52 = .ok (.iload_n 2, 1) := by decide +kernel
theorem dX10_load_53 : decode cX10_load 53 = .ok (.iadd, 1) := by decide +kernel
theorem dX10_load_54 : decode cX10_load 54 = .ok (.iaload, 1) := by decide +kernel
theorem dX10_load_55 : decode cX10_load 55 = .ok (.iastore, 1) := by decide +kernel
theorem dX10_load_56 : decode cX10_load 56 = .ok (.iinc 2 1, 3) := by decide +kernel
theorem dX10_load_59 : decode cX10_load 59 = .ok (.goto (-26), 3) := by decide +kernel
theorem dX10_load_62 : decode cX10_load 62 = .ok (.iconst 0, 1) := by decide +kernel
theorem dX10_load_63 : decode cX10_load 63 = .ok (.istore_n 2, 1) := by decide +kernel
theorem dX10_load_64 : decode cX10_load 64 = .ok (.iload_n 2, 1) := by decide +kernel
theorem dX10_load_65 : decode cX10_load 65 = .ok (.bipush 72, 2) := by decide +kernel
theorem dX10_load_67 : decode cX10_load 67 = .ok (.if_icmp .ge 26, 3) := by decide +kernel
theorem dX10_load_70 : decode cX10_load 70 = .ok (.aload_n 0, 1) := by decide +kernel
theorem dX10_load_71 : decode cX10_load 71 = .ok (.getfield 25, 3) := by decide +kernel
theorem dX10_load_74 : decode cX10_load 74 = .ok (.iload_n 2, 1) := by decide +kernel
theorem dX10_load_75 : decode cX10_load 75 = .ok (.aload_n 0, 1) := by decide +kernel
theorem dX10_load_76 : decode cX10_load 76 = .ok (.getfield 61, 3) := by decide +kernel
theorem dX10_load_79 : decode cX10_load 79 = .ok (.bipush 72, 2) := by decide +kernel
theorem dX10_load_81 : decode cX10_load 81 = .ok (.iload_n 1, 1) := by decide +kernel
theorem dX10_load_82 : decode cX10_load 82 = .ok (.imul, 1) := by decide +kernel
theorem dX10_load_83 : decode cX10_load 83 = .ok (.iload_n 2, 1) := by decide +kernel
theorem dX10_load_84 : decode cX10_load 84 = .ok (.iadd, 1) := by decide +kernel
theorem dX10_load_85 : decode cX10_load 85 = .ok (.iaload, 1) := by decide +kernel
theorem dX10_load_86 : decode cX10_load 86 = .ok (.iastore, 1) := by decide +kernel
theorem dX10_load_87 : decode cX10_load 87 = .ok (.iinc 2 1, 3) := by decide +kernel
theorem dX10_load_90 : decode cX10_load 90 = .ok (.goto (-26), 3) := by decide +kernel
theorem dX10_load_93 : decode cX10_load 93 = .ok (.return_, 1) := by decide +kernel
theorem dX10_nextAct_0 : decode cX10_nextAct 0 = .ok (.iload_n 1, 1) := by decide +kernel
theorem dX10_nextAct_1 : decode cX10_nextAct 1 = .ok (.istore_n 2, 1) := by decide +kernel
theorem dX10_nextAct_2 : decode cX10_nextAct 2 = .ok (.iload_n 2, 1) := by decide +kernel
theorem dX10_nextAct_3 : decode cX10_nextAct 3 = .ok (.sipush 3600, 3) := by decide +kernel
theorem dX10_nextAct_6 : decode cX10_nextAct 6 = .ok (.if_icmp .ge 33, 3) := by decide +kernel
theorem dX10_nextAct_9 : decode cX10_nextAct 9 = .ok (.aload_n 0, 1) := by decide +kernel
theorem dX10_nextAct_10 : decode cX10_nextAct 10 = .ok (.iload_n 2, 1) := by decide +kernel
theorem dX10_nextAct_11 : decode cX10_nextAct 11 = .ok (.invokevirtual 229, 3) := by decide +kernel
theorem dX10_nextAct_14 : decode cX10_nextAct 14 = .ok (.ifCond .eq 19, 3) := by decide +kernel
theorem dX10_nextAct_17 : decode cX10_nextAct 17 = .ok (.aload_n 0, 1) := by decide +kernel
theorem dX10_nextAct_18 : decode cX10_nextAct 18 = .ok (.iload_n 2, 1) := by decide +kernel
theorem dX10_nextAct_19 : decode cX10_nextAct 19 = .ok (.invokevirtual 196, 3) := by decide +kernel
theorem dX10_nextAct_22 : decode cX10_nextAct 22 = .ok (.ifCond .eq 11, 3) := by decide +kernel
theorem dX10_nextAct_25 : decode cX10_nextAct 25 = .ok (.aload_n 0, 1) := by decide +kernel
theorem dX10_nextAct_26 : decode cX10_nextAct 26 = .ok (.iload_n 2, 1) := by decide +kernel
theorem dX10_nextAct_27 : decode cX10_nextAct 27 = .ok (.invokevirtual 217, 3) := by decide +kernel
theorem dX10_nextAct_30 : decode cX10_nextAct 30 = .ok (.ifCond .eq 9, 3) := by decide +kernel
theorem dX10_nextAct_33 : decode cX10_nextAct 33 = .ok (.iinc 2 1, 3) := by decide +kernel
theorem dX10_nextAct_36 : decode cX10_nextAct 36 = .ok (.goto (-34), 3) := by decide +kernel
theorem dX10_nextAct_39 : decode cX10_nextAct 39 = .ok (.iload_n 2, 1) := by decide +kernel
theorem dX10_nextAct_40 : decode cX10_nextAct 40 = .ok (.ireturn, 1) := by decide +kernel
theorem dX10_isCode_0 : decode cX10_isCode 0 = .ok (.iload_n 1, 1) := by decide +kernel
theorem dX10_isCode_1 : decode cX10_isCode 1 = .ok (.invokestatic 205, 3) := by decide +kernel
theorem dX10_isCode_4 : decode cX10_isCode 4 = .ok (.istore_n 2, 1) := by decide +kernel
theorem dX10_isCode_5 : decode cX10_isCode 5 = .ok (.iload_n 1, 1) := by decide +kernel
theorem dX10_isCode_6 : decode cX10_isCode 6 = .ok (.invokestatic 208, 3) := by decide +kernel
theorem dX10_isCode_9 : decode cX10_isCode 9 = .ok (.ifCond .ne 15, 3) := by decide +kernel
theorem dX10_isCode_12 : decode cX10_isCode 12 = .ok (.iload_n 2, 1) := by decide +kernel
theorem dX10_isCode_13 : decode cX10_isCode 13 = .ok (.ifCond .ne 7, 3) := by decide +kernel
theorem dX10_isCode_16 : decode cX10_isCode 16 = .ok (.iconst 1, 1) := by decide +kernel
theorem dX10_isCode_17 : decode cX10_isCode 17 = .ok (.goto 42, 3) := by decide +kernel
theorem dX10_isCode_20 : decode cX10_isCode 20 = .ok (.iconst 0, 1) := by decide +kernel
theorem dX10_isCode_21 : decode cX10_isCode 21 = .ok (.goto 38, 3) := by decide +kernel
theorem dX10_isCode_24 : decode cX10_isCode 24 = .ok (.iload_n 1, 1) := by decide +kernel
theorem dX10_isCode_25 : decode cX10_isCode 25 = .ok (.invokestatic 208, 3) := by decide +kernel
theorem dX10_isCode_28 : decode cX10_isCode 28 = .ok (.iconst 3, 1) := by decide +kernel
theorem dX10_isCode_29 : decode cX10_isCode 29 = .ok (.if_icmp .ne 17, 3) := by decide +kernel
theorem dX10_isCode_32 : decode cX10_isCode 32 = .ok (.iload_n 2, 1) := by decide +kernel
theorem dX10_isCode_33 : decode cX10_isCode 33 = .ok (.bipush 6, 2) := by decide +kernel
theorem dX10_isCode_35 : decode cX10_isCode 35 = .ok (.if_icmp .ge 7, 3) := by decide +kernel
theorem dX10_isCode_38 : decode cX10_isCode 38 = .ok (.iconst 1, 1) := by decide +kernel
theorem dX10_isCode_39 : decode cX10_isCode 39 = .ok (.goto 20, 3) := by decide +kernel
theorem dX10_isCode_42 : decode cX10_isCode 42 = .ok (.iconst 0, 1) := by decide +kernel
theorem dX10_isCode_43 : decode cX10_isCode 43 = .ok (.goto 16, 3) := by decide +kernel
theorem dX10_isCode_46 : decode cX10_isCode 46 = .ok (.iload_n 2, 1) := by decide +kernel
theorem dX10_isCode_47 : decode cX10_isCode 47 = .ok (.aload_n 0, 1) := by decide +kernel
theorem dX10_isCode_48 : decode cX10_isCode 48 = .ok (.getfield 83, 3) := by decide +kernel
theorem dX10_isCode_51 : decode cX10_isCode 51 = .ok (.if_icmp .ge 7, 3) := by decide +kernel
theorem dX10_isCode_54 : decode cX10_isCode 54 = .ok (.iconst 1, 1) := by decide +kernel
theorem dX10_isCode_55 : decode cX10_isCode 55 = .ok (.goto 4, 3) := by decide +kernel
theorem dX10_isCode_58 : decode cX10_isCode 58 = .ok (.iconst 0, 1) := by decide +kernel
theorem dX10_isCode_59 : decode cX10_isCode 59 = .ok (.istore_n 3, 1) := by decide +kernel
theorem dX10_isCode_60 : decode cX10_isCode 60 = .ok (.iload_n 3, 1) := by decide +kernel
theorem dX10_isCode_61 : decode cX10_isCode 61 = .ok (.ifCond .eq 16, 3) := by decide +kernel
theorem dX10_isCode_64 : decode cX10_isCode 64 = .ok (.iload_n 1, 1) := by decide +kernel
theorem dX10_isCode_65 : decode cX10_isCode 65 = .ok (.invokestatic 202, 3) := by decide +kernel
theorem dX10_isCode_68 : decode cX10_isCode 68 = .ok (.bipush 6, 2) := by decide +kernel
theorem dX10_isCode_70 : decode cX10_isCode 70 = .ok (.if_icmp .ge 7, 3) := by decide +kernel
theorem dX10_isCode_73 : decode cX10_isCode 73 = .ok (.iconst 1, 1) := by decide +kernel
theorem dX10_isCode_74 : decode cX10_isCode 74 = .ok (.goto 4, 3) := by decide +kernel
theorem dX10_isCode_77 : decode cX10_isCode 77 = .ok (.iconst 0, 1) := by decide +kernel
theorem dX10_isCode_78 : decode cX10_isCode 78 = .ok (.ireturn, 1) := by decide +kernel
theorem dX10_lastAct_0 : decode cX10_lastAct 0 = .ok (.aload_n 0, 1) := by decide +kernel
theorem dX10_lastAct_1 : decode cX10_lastAct 1 = .ok (.getfield 19, 3) := by decide +kernel
theorem dX10_lastAct_4 : decode cX10_lastAct 4 = .ok (.iload_n 1, 1) := by decide +kernel
theorem dX10_lastAct_5 : decode cX10_lastAct 5 = .ok (.iaload, 1) := by decide +kernel
theorem dX10_lastAct_6 : decode cX10_lastAct 6 = .ok (.bipush 6, 2) := by decide +kernel
theorem dX10_lastAct_8 : decode cX10_lastAct 8 = .ok (.if_icmp .ge 17, 3) := by decide +kernel
theorem dX10_lastAct_11 : decode cX10_lastAct 11 = .ok (.aload_n 0, 1) := by decide +kernel
theorem dX10_lastAct_12 : decode cX10_lastAct 12 = .ok (.aload_n 0, 1) := by decide +kernel
theorem dX10_lastAct_13 : decode cX10_lastAct 13 = .ok (.getfield 19, 3) := by decide +kernel
theorem dX10_lastAct_16 : decode cX10_lastAct 16 = .ok (.iload_n 1, 1) := by decide +kernel
theorem dX10_lastAct_17 : decode cX10_lastAct 17 = .ok (.iaload, 1) := by decide +kernel
theorem dX10_lastAct_18 : decode cX10_lastAct 18 = .ok (.invokevirtual 93, 3) := by decide +kernel
theorem dX10_lastAct_21 : decode cX10_lastAct 21 = .ok (.iload_n 1, 1) := by decide +kernel
theorem dX10_lastAct_22 : decode cX10_lastAct 22 = .ok (.if_icmp .eq 5, 3) := by decide +kernel
theorem dX10_lastAct_25 : decode cX10_lastAct 25 = .ok (.iconst (-1), 1) := by decide +kernel
theorem dX10_lastAct_26 : decode cX10_lastAct 26 = .ok (.ireturn, 1) := by decide +kernel
theorem dX10_lastAct_27 : decode cX10_lastAct 27 = .ok (.aload_n 0, 1) := by decide +kernel
theorem dX10_lastAct_28 : decode cX10_lastAct 28 = .ok (.bipush 100, 2) := by decide +kernel
theorem dX10_lastAct_30 : decode cX10_lastAct 30 = .ok (.aload_n 0, 1) := by decide +kernel
theorem dX10_lastAct_31 : decode cX10_lastAct 31 = .ok (.getfield 19, 3) := by decide +kernel
theorem dX10_lastAct_34 : decode cX10_lastAct 34 = .ok (.iload_n 1, 1) := by decide +kernel
theorem dX10_lastAct_35 : decode cX10_lastAct 35 = .ok (.iaload, 1) := by decide +kernel
theorem dX10_lastAct_36 : decode cX10_lastAct 36 = .ok (.imul, 1) := by decide +kernel
theorem dX10_lastAct_37 : decode cX10_lastAct 37 = .ok (.invokevirtual 217, 3) := by decide +kernel
theorem dX10_lastAct_40 : decode cX10_lastAct 40 = .ok (.ifCond .ne 13, 3) := by decide +kernel
theorem dX10_lastAct_43 : decode cX10_lastAct 43 = .ok (.bipush 100, 2) := by decide +kernel
theorem dX10_lastAct_45 : decode cX10_lastAct 45 = .ok (.aload_n 0, 1) := by decide +kernel
theorem dX10_lastAct_46 : decode cX10_lastAct 46 = .ok (.getfield 19, 3) := by decide +kernel
theorem dX10_lastAct_49 : decode cX10_lastAct 49 = .ok (.iload_n 1, 1) := by decide +kernel
theorem dX10_lastAct_50 : decode cX10_lastAct 50 = .ok (.iaload, 1) := by decide +kernel
theorem dX10_lastAct_51 : decode cX10_lastAct 51 = .ok (.imul, 1) := by decide +kernel
theorem dX10_lastAct_52 : decode cX10_lastAct 52 = .ok (.ireturn, 1) := by decide +kernel
theorem dX10_lastAct_53 : decode cX10_lastAct 53 = .ok (.iconst 0, 1) := by decide +kernel
theorem dX10_lastAct_54 : decode cX10_lastAct 54 = .ok (.istore_n 2, 1) := by decide +kernel
theorem dX10_lastAct_55 : decode cX10_lastAct 55 = .ok (.iload_n 2, 1) := by decide +kernel
theorem dX10_lastAct_56 : decode cX10_lastAct 56 = .ok (.aload_n 0, 1) := by decide +kernel
theorem dX10_lastAct_57 : decode cX10_lastAct 57 = .ok (.getfield 83, 3) := by decide +kernel
theorem dX10_lastAct_60 : decode cX10_lastAct 60 = .ok (.if_icmp .ge 43, 3) := by decide +kernel
theorem dX10_lastAct_63 : decode cX10_lastAct 63 = .ok (.sipush 2000, 3) := by decide +kernel
theorem dX10_lastAct_66 : decode cX10_lastAct 66 = .ok (.bipush 100, 2) := by decide +kernel
theorem dX10_lastAct_68 : decode cX10_lastAct 68 = .ok (.aload_n 0, 1) := by decide +kernel
theorem dX10_lastAct_69 : decode cX10_lastAct 69 = .ok (.getfield 19, 3) := by decide +kernel
theorem dX10_lastAct_72 : decode cX10_lastAct 72 = .ok (.iload_n 1, 1) := by decide +kernel
theorem dX10_lastAct_73 : decode cX10_lastAct 73 = .ok (.iaload, 1) := by decide +kernel
theorem dX10_lastAct_74 : decode cX10_lastAct 74 = .ok (.imul, 1) := by decide +kernel
theorem dX10_lastAct_75 : decode cX10_lastAct 75 = .ok (.iadd, 1) := by decide +kernel
theorem dX10_lastAct_76 : decode cX10_lastAct 76 = .ok (.iload_n 2, 1) := by decide +kernel
theorem dX10_lastAct_77 : decode cX10_lastAct 77 = .ok (.iadd, 1) := by decide +kernel
theorem dX10_lastAct_78 : decode cX10_lastAct 78 = .ok (.istore_n 3, 1) := by decide +kernel
theorem dX10_lastAct_79 : decode cX10_lastAct 79 = .ok (.aload_n 0, 1) := by decide +kernel
theorem dX10_lastAct_80 : decode cX10_lastAct 80 = .ok (.iload_n 3, 1) := by decide +kernel
theorem dX10_lastAct_81 : decode cX10_lastAct 81 = .ok (.invokevirtual 196, 3) := by decide +kernel
theorem dX10_lastAct_84 : decode cX10_lastAct 84 = .ok (.ifCond .eq 13, 3) := by decide +kernel
theorem dX10_lastAct_87 : decode cX10_lastAct 87 = .ok (.aload_n 0, 1) := by decide +kernel
theorem dX10_lastAct_88 : decode cX10_lastAct 88 = .ok (.iload_n 3, 1) := by decide +kernel
theorem dX10_lastAct_89 : decode cX10_lastAct 89 = .ok (.invokevirtual 217, 3) := by decide +kernel
theorem dX10_lastAct_92 : decode cX10_lastAct 92 = .ok (.ifCond .ne 5, 3) := by decide +kernel
theorem dX10_lastAct_95 : decode cX10_lastAct 95 = .ok (.iload_n 3, 1) := by decide +kernel
theorem dX10_lastAct_96 : decode cX10_lastAct 96 = .ok (.ireturn, 1) := by decide +kernel
theorem dX10_lastAct_97 : decode cX10_lastAct 97 = .ok (.iinc 2 1, 3) := by decide +kernel
theorem dX10_lastAct_100 : decode cX10_lastAct 100 = .ok (.goto (-45), 3) := by decide +kernel
theorem dX10_lastAct_103 : decode cX10_lastAct 103 = .ok (.iconst (-1), 1) := by decide +kernel
theorem dX10_lastAct_104 : decode cX10_lastAct 104 = .ok (.ireturn, 1) := by decide +kernel
theorem dX10_find_0 : decode cX10_find 0 = .ok (.aload_n 0, 1) := by decide +kernel
theorem dX10_find_1 : decode cX10_find 1 = .ok (.getfield 19, 3) := by decide +kernel
theorem dX10_find_4 : decode cX10_find 4 = .ok (.iload_n 1, 1) := by decide +kernel
theorem dX10_find_5 : decode cX10_find 5 = .ok (.iaload, 1) := by decide +kernel
theorem dX10_find_6 : decode cX10_find 6 = .ok (.bipush 6, 2) := by decide +kernel
theorem dX10_find_8 : decode cX10_find 8 = .ok (.if_icmp .ne 5, 3) := by decide +kernel
theorem dX10_find_11 : decode cX10_find 11 = .ok (.iconst 0, 1) := by decide +kernel
theorem dX10_find_12 : decode cX10_find 12 = .ok (.ireturn, 1) := by decide +kernel
theorem dX10_find_13 : decode cX10_find 13 = .ok (.aload_n 0, 1) := by decide +kernel
theorem dX10_find_14 : decode cX10_find 14 = .ok (.getfield 64, 3) := by decide +kernel
theorem dX10_find_17 : decode cX10_find 17 = .ok (.iconst 0, 1) := by decide +kernel
theorem dX10_find_18 : decode cX10_find 18 = .ok (.aload_n 0, 1) := by decide +kernel
theorem dX10_find_19 : decode cX10_find 19 = .ok (.iload_n 1, 1) := by decide +kernel
theorem dX10_find_20 : decode cX10_find 20 = .ok (.invokevirtual 232, 3) := by decide +kernel
theorem dX10_find_23 : decode cX10_find 23 = .ok (.iastore, 1) := by decide +kernel
theorem dX10_find_24 : decode cX10_find 24 = .ok (.aload_n 0, 1) := by decide +kernel
theorem dX10_find_25 : decode cX10_find 25 = .ok (.getfield 64, 3) := by decide +kernel
theorem dX10_find_28 : decode cX10_find 28 = .ok (.iconst 0, 1) := by decide +kernel
theorem dX10_find_29 : decode cX10_find 29 = .ok (.iaload, 1) := by decide +kernel
theorem dX10_find_30 : decode cX10_find 30 = .ok (.ifCond .lt 5, 3) := by decide +kernel
theorem dX10_find_33 : decode cX10_find 33 = .ok (.iconst 1, 1) := by decide +kernel
theorem dX10_find_34 : decode cX10_find 34 = .ok (.ireturn, 1) := by decide +kernel
theorem dX10_find_35 : decode cX10_find 35 = .ok (.aload_n 0, 1) := by decide +kernel
theorem dX10_find_36 : decode cX10_find 36 = .ok (.iconst 0, 1) := by decide +kernel
theorem dX10_find_37 : decode cX10_find 37 = .ok (.invokevirtual 235, 3) := by decide +kernel
theorem dX10_find_40 : decode cX10_find 40 = .ok (.aload_n 0, 1) := by decide +kernel
theorem dX10_find_41 : decode cX10_find 41 = .ok (.iconst 0, 1) := by decide +kernel
theorem dX10_find_42 : decode cX10_find 42 = .ok (.invokevirtual 238, 3) := by decide +kernel
theorem dX10_find_45 : decode cX10_find 45 = .ok (.istore_n 2, 1) := by decide +kernel
theorem dX10_find_46 : decode cX10_find 46 = .ok (.iload_n 2, 1) := by decide +kernel
theorem dX10_find_47 : decode cX10_find 47 = .ok (.sipush 3600, 3) := by decide +kernel
theorem dX10_find_50 : decode cX10_find 50 = .ok (.if_icmp .ge 54, 3) := by decide +kernel
theorem dX10_find_53 : decode cX10_find 53 = .ok (.aload_n 0, 1) := by decide +kernel
theorem dX10_find_54 : decode cX10_find 54 = .ok (.iload_n 2, 1) := by decide +kernel
theorem dX10_find_55 : decode cX10_find 55 = .ok (.invokevirtual 223, 3) := by decide +kernel
theorem dX10_find_58 : decode cX10_find 58 = .ok (.istore_n 3, 1) := by decide +kernel
theorem dX10_find_59 : decode cX10_find 59 = .ok (.aload_n 0, 1) := by decide +kernel
theorem dX10_find_60 : decode cX10_find 60 = .ok (.getfield 64, 3) := by decide +kernel
theorem dX10_find_63 : decode cX10_find 63 = .ok (.iconst 0, 1) := by decide +kernel
theorem dX10_find_64 : decode cX10_find 64 = .ok (.iload_n 2, 1) := by decide +kernel
theorem dX10_find_65 : decode cX10_find 65 = .ok (.iastore, 1) := by decide +kernel
theorem dX10_find_66 : decode cX10_find 66 = .ok (.aload_n 0, 1) := by decide +kernel
theorem dX10_find_67 : decode cX10_find 67 = .ok (.getfield 64, 3) := by decide +kernel
theorem dX10_find_70 : decode cX10_find 70 = .ok (.iconst 1, 1) := by decide +kernel
theorem dX10_find_71 : decode cX10_find 71 = .ok (.aload_n 0, 1) := by decide +kernel
theorem dX10_find_72 : decode cX10_find 72 = .ok (.iload_n 1, 1) := by decide +kernel
theorem dX10_find_73 : decode cX10_find 73 = .ok (.invokevirtual 232, 3) := by decide +kernel
theorem dX10_find_76 : decode cX10_find 76 = .ok (.iastore, 1) := by decide +kernel
theorem dX10_find_77 : decode cX10_find 77 = .ok (.aload_n 0, 1) := by decide +kernel
theorem dX10_find_78 : decode cX10_find 78 = .ok (.iconst 0, 1) := by decide +kernel
theorem dX10_find_79 : decode cX10_find 79 = .ok (.invokevirtual 241, 3) := by decide +kernel
theorem dX10_find_82 : decode cX10_find 82 = .ok (.aload_n 0, 1) := by decide +kernel
theorem dX10_find_83 : decode cX10_find 83 = .ok (.getfield 64, 3) := by decide +kernel
theorem dX10_find_86 : decode cX10_find 86 = .ok (.iconst 1, 1) := by decide +kernel
theorem dX10_find_87 : decode cX10_find 87 = .ok (.iaload, 1) := by decide +kernel
theorem dX10_find_88 : decode cX10_find 88 = .ok (.ifCond .lt 5, 3) := by decide +kernel
theorem dX10_find_91 : decode cX10_find 91 = .ok (.iconst 2, 1) := by decide +kernel
theorem dX10_find_92 : decode cX10_find 92 = .ok (.ireturn, 1) := by decide +kernel
theorem dX10_find_93 : decode cX10_find 93 = .ok (.aload_n 0, 1) := by decide +kernel
theorem dX10_find_94 : decode cX10_find 94 = .ok (.iload_n 2, 1) := by decide +kernel
theorem dX10_find_95 : decode cX10_find 95 = .ok (.iconst 1, 1) := by decide +kernel
theorem dX10_find_96 : decode cX10_find 96 = .ok (.iadd, 1) := by decide +kernel
theorem dX10_find_97 : decode cX10_find 97 = .ok (.invokevirtual 238, 3) := by decide +kernel
theorem dX10_find_100 : decode cX10_find 100 = .ok (.istore_n 2, 1) := by decide +kernel
theorem dX10_find_101 : decode cX10_find 101 = .ok (.goto (-55), 3) := by decide +kernel
theorem dX10_find_104 : decode cX10_find 104 = .ok (.aload_n 0, 1) := by decide +kernel
theorem dX10_find_105 : decode cX10_find 105 = .ok (.iconst 0, 1) := by decide +kernel
theorem dX10_find_106 : decode cX10_find 106 = .ok (.invokevirtual 238, 3) := by decide +kernel
theorem dX10_find_109 : decode cX10_find 109 = .ok (.istore_n 2, 1) := by decide +kernel
theorem dX10_find_110 : decode cX10_find 110 = .ok (.iload_n 2, 1) := by decide +kernel
theorem dX10_find_111 : decode cX10_find 111 = .ok (.sipush 3600, 3) := by decide +kernel
theorem dX10_find_114 : decode cX10_find 114 = .ok (.if_icmp .ge 113, 3) := by decide +kernel
theorem dX10_find_117 : decode cX10_find 117 = .ok (.aload_n 0, 1) := by decide +kernel
theorem dX10_find_118 : decode cX10_find 118 = .ok (.iload_n 2, 1) := by decide +kernel
theorem dX10_find_119 : decode cX10_find 119 = .ok (.invokevirtual 223, 3) := by decide +kernel
theorem dX10_find_122 : decode cX10_find 122 = .ok (.istore_n 3, 1) := by decide +kernel
theorem dX10_find_123 : decode cX10_find 123 = .ok (.aload_n 0, 1) := by decide +kernel
theorem dX10_find_124 : decode cX10_find 124 = .ok (.iconst 1, 1) := by decide +kernel
theorem dX10_find_125 : decode cX10_find 125 = .ok (.invokevirtual 235, 3) := by decide +kernel
theorem dX10_find_128 : decode cX10_find 128 = .ok (.aload_n 0, 1) := by decide +kernel
theorem dX10_find_129 : decode cX10_find 129 = .ok (.iconst 0, 1) := by decide +kernel
theorem dX10_find_130 : decode cX10_find 130 = .ok (.invokevirtual 238, 3) := by decide +kernel
theorem dX10_find_133 : decode cX10_find 133 = .ok (.istore 4, 2) := by decide +kernel
theorem dX10_find_135 : decode cX10_find 135 = .ok (.iload 4, 2) := by decide +kernel
theorem dX10_find_137 : decode cX10_find 137 = .ok (.sipush 3600, 3) := by decide +kernel
theorem dX10_find_140 : decode cX10_find 140 = .ok (.if_icmp .ge 71, 3) := by decide +kernel
theorem dX10_find_143 : decode cX10_find 143 = .ok (.aload_n 0, 1) := by decide +kernel
theorem dX10_find_144 : decode cX10_find 144 = .ok (.iload 4, 2) := by decide +kernel
theorem dX10_find_146 : decode cX10_find 146 = .ok (.invokevirtual 223, 3) := by decide +kernel
theorem dX10_find_149 : decode cX10_find 149 = .ok (.istore 5, 2) := by decide +kernel
theorem dX10_find_151 : decode cX10_find 151 = .ok (.aload_n 0, 1) := by decide +kernel
theorem dX10_find_152 : decode cX10_find 152 = .ok (.getfield 64, 3) := by decide +kernel
theorem dX10_find_155 : decode cX10_find 155 = .ok (.iconst 0, 1) := by decide +kernel
theorem dX10_find_156 : decode cX10_find 156 = .ok (.iload_n 2, 1) := by decide +kernel
theorem dX10_find_157 : decode cX10_find 157 = .ok (.iastore, 1) := by decide +kernel
theorem dX10_find_158 : decode cX10_find 158 = .ok (.aload_n 0, 1) := by decide +kernel
theorem dX10_find_159 : decode cX10_find 159 = .ok (.getfield 64, 3) := by decide +kernel
theorem dX10_find_162 : decode cX10_find 162 = .ok (.iconst 1, 1) := by decide +kernel
theorem dX10_find_163 : decode cX10_find 163 = .ok (.iload 4, 2) := by decide +kernel
theorem dX10_find_165 : decode cX10_find 165 = .ok (.iastore, 1) := by decide +kernel
theorem dX10_find_166 : decode cX10_find 166 = .ok (.aload_n 0, 1) := by decide +kernel
theorem dX10_find_167 : decode cX10_find 167 = .ok (.getfield 64, 3) := by decide +kernel
theorem dX10_find_170 : decode cX10_find 170 = .ok (.iconst 2, 1) := by decide +kernel
theorem dX10_find_171 : decode cX10_find 171 = .ok (.aload_n 0, 1) := by decide +kernel
theorem dX10_find_172 : decode cX10_find 172 = .ok (.iload_n 1, 1) := by decide +kernel
theorem dX10_find_173 : decode cX10_find 173 = .ok (.invokevirtual 232, 3) := by decide +kernel
theorem dX10_find_176 : decode cX10_find 176 = .ok (.iastore, 1) := by decide +kernel
theorem dX10_find_177 : decode cX10_find 177 = .ok (.aload_n 0, 1) := by decide +kernel
theorem dX10_find_178 : decode cX10_find 178 = .ok (.iconst 1, 1) := by decide +kernel
theorem dX10_find_179 : decode cX10_find 179 = .ok (.invokevirtual 241, 3) := by decide +kernel
theorem dX10_find_182 : decode cX10_find 182 = .ok (.aload_n 0, 1) := by decide +kernel
theorem dX10_find_183 : decode cX10_find 183 = .ok (.getfield 64, 3) := by decide +kernel
theorem dX10_find_186 : decode cX10_find 186 = .ok (.iconst 2, 1) := by decide +kernel
theorem dX10_find_187 : decode cX10_find 187 = .ok (.iaload, 1) := by decide +kernel
theorem dX10_find_188 : decode cX10_find 188 = .ok (.ifCond .lt 10, 3) := by decide +kernel
theorem dX10_find_191 : decode cX10_find 191 = .ok (.aload_n 0, 1) := by decide +kernel
theorem dX10_find_192 : decode cX10_find 192 = .ok (.iconst 0, 1) := by decide +kernel
theorem dX10_find_193 : decode cX10_find 193 = .ok (.invokevirtual 241, 3) := by decide +kernel
theorem dX10_find_196 : decode cX10_find 196 = .ok (.iconst 3, 1) := by decide +kernel
theorem dX10_find_197 : decode cX10_find 197 = .ok (.ireturn, 1) := by decide +kernel
theorem dX10_find_198 : decode cX10_find 198 = .ok (.aload_n 0, 1) := by decide +kernel
theorem dX10_find_199 : decode cX10_find 199 = .ok (.iload 4, 2) := by decide +kernel
theorem dX10_find_201 : decode cX10_find 201 = .ok (.iconst 1, 1) := by decide +kernel
theorem dX10_find_202 : decode cX10_find 202 = .ok (.iadd, 1) := by decide +kernel
theorem dX10_find_203 : decode cX10_find 203 = .ok (.invokevirtual 238, 3) := by decide +kernel
theorem dX10_find_206 : decode cX10_find 206 = .ok (.istore 4, 2) := by decide +kernel
theorem dX10_find_208 : decode cX10_find 208 = .ok (.goto (-73), 3) := by decide +kernel
theorem dX10_find_211 : decode cX10_find 211 = .ok (.aload_n 0, 1) := by decide +kernel
theorem dX10_find_212 : decode cX10_find 212 = .ok (.iconst 0, 1) := by decide +kernel
theorem dX10_find_213 : decode cX10_find 213 = .ok (.invokevirtual 241, 3) := by decide +kernel
theorem dX10_find_216 : decode cX10_find 216 = .ok (.aload_n 0, 1) := by decide +kernel
theorem dX10_find_217 : decode cX10_find 217 = .ok (.iload_n 2, 1) := by decide +kernel
theorem dX10_find_218 : decode cX10_find 218 = .ok (.iconst 1, 1) := by decide +kernel
theorem dX10_find_219 : decode cX10_find 219 = .ok (.iadd, 1) := by decide +kernel
theorem dX10_find_220 : decode cX10_find 220 = .ok (.invokevirtual 238, 3) := by decide +kernel
theorem dX10_find_223 : decode cX10_find 223 = .ok (.istore_n 2, 1) := by decide +kernel
theorem dX10_find_224 : decode cX10_find 224 = .ok (.goto (-114), 3) := by decide +kernel
theorem dX10_find_227 : decode cX10_find 227 = .ok (.iconst 4, 1) := by decide +kernel
theorem dX10_find_228 : decode cX10_find 228 = .ok (.ireturn, 1) := by decide +kernel
theorem dX10_had_0 : decode cX10_had 0 = .ok (.aload_n 0, 1) := by decide +kernel
theorem dX10_had_1 : decode cX10_had 1 = .ok (.iload_n 1, 1) := by decide +kernel
theorem dX10_had_2 : decode cX10_had 2 = .ok (.invokevirtual 114, 3) := by decide +kernel
theorem dX10_had_5 : decode cX10_had 5 = .ok (.ifCond .eq 17, 3) := by decide +kernel
theorem dX10_had_8 : decode cX10_had 8 = .ok (.iload_n 2, 1) := by decide +kernel
theorem dX10_had_9 : decode cX10_had 9 = .ok (.i2l, 1) := by decide +kernel
theorem dX10_had_10 : decode cX10_had 10 = .ok (.ldc2_w 244, 3) := by decide +kernel
theorem dX10_had_13 : decode cX10_had 13 = .ok (.ldc2_w 246, 3) := by decide +kernel
theorem dX10_had_16 : decode cX10_had 16 = .ok (.invokestatic 87, 3) := by decide +kernel
theorem dX10_had_19 : decode cX10_had 19 = .ok (.ifCond .ne 5, 3) := by decide +kernel
theorem dX10_had_22 : decode cX10_had 22 = .ok (.iconst (-1), 1) := by decide +kernel
theorem dX10_had_23 : decode cX10_had 23 = .ok (.ireturn, 1) := by decide +kernel
theorem dX10_had_24 : decode cX10_had 24 = .ok (.aload_n 0, 1) := by decide +kernel
theorem dX10_had_25 : decode cX10_had 25 = .ok (.getfield 19, 3) := by decide +kernel
theorem dX10_had_28 : decode cX10_had 28 = .ok (.iload_n 1, 1) := by decide +kernel
theorem dX10_had_29 : decode cX10_had 29 = .ok (.iaload, 1) := by decide +kernel
theorem dX10_had_30 : decode cX10_had 30 = .ok (.bipush 7, 2) := by decide +kernel
theorem dX10_had_32 : decode cX10_had 32 = .ok (.if_icmp .ne 6, 3) := by decide +kernel
theorem dX10_had_35 : decode cX10_had 35 = .ok (.bipush (-2), 2) := by decide +kernel
theorem dX10_had_37 : decode cX10_had 37 = .ok (.ireturn, 1) := by decide +kernel
theorem dX10_had_38 : decode cX10_had 38 = .ok (.aload_n 0, 1) := by decide +kernel
theorem dX10_had_39 : decode cX10_had 39 = .ok (.iload_n 1, 1) := by decide +kernel
theorem dX10_had_40 : decode cX10_had 40 = .ok (.invokevirtual 248, 3) := by decide +kernel
theorem dX10_had_43 : decode cX10_had 43 = .ok (.istore_n 3, 1) := by decide +kernel
theorem dX10_had_44 : decode cX10_had 44 = .ok (.iload_n 3, 1) := by decide +kernel
theorem dX10_had_45 : decode cX10_had 45 = .ok (.iconst 4, 1) := by decide +kernel
theorem dX10_had_46 : decode cX10_had 46 = .ok (.if_icmp .eq 8, 3) := by decide +kernel
theorem dX10_had_49 : decode cX10_had 49 = .ok (.iload_n 2, 1) := by decide +kernel
theorem dX10_had_50 : decode cX10_had 50 = .ok (.iload_n 3, 1) := by decide +kernel
theorem dX10_had_51 : decode cX10_had 51 = .ok (.if_icmp .lt 6, 3) := by decide +kernel
theorem dX10_had_54 : decode cX10_had 54 = .ok (.bipush (-4), 2) := by decide +kernel
theorem dX10_had_56 : decode cX10_had 56 = .ok (.ireturn, 1) := by decide +kernel
theorem dX10_had_57 : decode cX10_had 57 = .ok (.iload_n 2, 1) := by decide +kernel
theorem dX10_had_58 : decode cX10_had 58 = .ok (.iconst (-1), 1) := by decide +kernel
theorem dX10_had_59 : decode cX10_had 59 = .ok (.if_icmp .ne 7, 3) := by decide +kernel
theorem dX10_had_62 : decode cX10_had 62 = .ok (.iload_n 3, 1) := by decide +kernel
theorem dX10_had_63 : decode cX10_had 63 = .ok (.goto 9, 3) := by decide +kernel
theorem dX10_had_66 : decode cX10_had 66 = .ok (.aload_n 0, 1) := by decide +kernel
theorem dX10_had_67 : decode cX10_had 67 = .ok (.getfield 64, 3) := by decide +kernel
theorem dX10_had_70 : decode cX10_had 70 = .ok (.iload_n 2, 1) := by decide +kernel
theorem dX10_had_71 : decode cX10_had 71 = .ok (.iaload, 1) := by decide +kernel
theorem dX10_had_72 : decode cX10_had 72 = .ok (.ireturn, 1) := by decide +kernel
theorem dX10_under_0 : decode cX10_under 0 = .ok (.iload_n 1, 1) := by decide +kernel
theorem dX10_under_1 : decode cX10_under 1 = .ok (.i2l, 1) := by decide +kernel
theorem dX10_under_2 : decode cX10_under 2 = .ok (.lconst 0, 1) := by decide +kernel
theorem dX10_under_3 : decode cX10_under 3 = .ok (.ldc2_w 104, 3) := by decide +kernel
theorem dX10_under_6 : decode cX10_under 6 = .ok (.invokestatic 87, 3) := by decide +kernel
theorem dX10_under_9 : decode cX10_under 9 = .ok (.ifCond .ne 5, 3) := by decide +kernel
theorem dX10_under_12 : decode cX10_under 12 = .ok (.iconst (-1), 1) := by decide +kernel
theorem dX10_under_13 : decode cX10_under 13 = .ok (.ireturn, 1) := by decide +kernel
theorem dX10_under_14 : decode cX10_under 14 = .ok (.iconst 0, 1) := by decide +kernel
theorem dX10_under_15 : decode cX10_under 15 = .ok (.istore_n 2, 1) := by decide +kernel
theorem dX10_under_16 : decode cX10_under 16 = .ok (.iconst 0, 1) := by decide +kernel
theorem dX10_under_17 : decode cX10_under 17 = .ok (.istore_n 3, 1) := by decide +kernel
theorem dX10_under_18 : decode cX10_under 18 = .ok (.iload_n 3, 1) := by decide +kernel
theorem dX10_under_19 : decode cX10_under 19 = .ok (.bipush 6, 2) := by decide +kernel
theorem dX10_under_21 : decode cX10_under 21 = .ok (.if_icmp .ge 110, 3) := by decide +kernel
theorem dX10_under_24 : decode cX10_under 24 = .ok (.iconst 0, 1) := by decide +kernel
theorem dX10_under_25 : decode cX10_under 25 = .ok (.istore 4, 2) := by decide +kernel
theorem dX10_under_27 : decode cX10_under 27 = .ok (.iload 4, 2) := by decide +kernel
theorem dX10_under_29 : decode cX10_under 29 = .ok (.aload_n 0, 1) := by decide +kernel
theorem dX10_under_30 : decode cX10_under 30 = .ok (.getfield 22, 3) := by decide +kernel
theorem dX10_under_33 : decode cX10_under 33 = .ok (.iload_n 3, 1) := by decide +kernel
theorem dX10_under_34 : decode cX10_under 34 = .ok (.iaload, 1) := by decide +kernel
theorem dX10_under_35 : decode cX10_under 35 = .ok (.if_icmp .ge 90, 3) := by decide +kernel
theorem dX10_under_38 : decode cX10_under 38 = .ok (.iload 4, 2) := by decide +kernel
theorem dX10_under_40 : decode cX10_under 40 = .ok (.iconst 1, 1) := by decide +kernel
theorem dX10_under_41 : decode cX10_under 41 = .ok (.iadd, 1) := by decide +kernel
theorem dX10_under_42 : decode cX10_under 42 = .ok (.istore 5, 2) := by decide +kernel
theorem dX10_under_44 : decode cX10_under 44 = .ok (.iload 5, 2) := by decide +kernel
theorem dX10_under_46 : decode cX10_under 46 = .ok (.aload_n 0, 1) := by decide +kernel
theorem dX10_under_47 : decode cX10_under 47 = .ok (.getfield 22, 3) := by decide +kernel
theorem dX10_under_50 : decode cX10_under 50 = .ok (.iload_n 3, 1) := by decide +kernel
theorem dX10_under_51 : decode cX10_under 51 = .ok (.iaload, 1) := by decide +kernel
theorem dX10_under_52 : decode cX10_under 52 = .ok (.if_icmp .ge 67, 3) := by decide +kernel
theorem dX10_under_55 : decode cX10_under 55 = .ok (.aload_n 0, 1) := by decide +kernel
theorem dX10_under_56 : decode cX10_under 56 = .ok (.aload_n 0, 1) := by decide +kernel
theorem dX10_under_57 : decode cX10_under 57 = .ok (.getfield 25, 3) := by decide +kernel
theorem dX10_under_60 : decode cX10_under 60 = .ok (.bipush 12, 2) := by decide +kernel
theorem dX10_under_62 : decode cX10_under 62 = .ok (.iload_n 3, 1) := by decide +kernel
theorem dX10_under_63 : decode cX10_under 63 = .ok (.imul, 1) := by decide +kernel
theorem dX10_under_64 : decode cX10_under 64 = .ok (.iload 5, 2) := by decide +kernel
theorem dX10_under_66 : decode cX10_under 66 = .ok (.iadd, 1) := by decide +kernel
theorem dX10_under_67 : decode cX10_under 67 = .ok (.iaload, 1) := by decide +kernel
theorem dX10_under_68 : decode cX10_under 68 = .ok (.invokevirtual 118, 3) := by decide +kernel
theorem dX10_under_71 : decode cX10_under 71 = .ok (.istore 6, 2) := by decide +kernel
theorem dX10_under_73 : decode cX10_under 73 = .ok (.iload_n 2, 1) := by decide +kernel
theorem dX10_under_74 : decode cX10_under 74 = .ok (.aload_n 0, 1) := by decide +kernel
theorem dX10_under_75 : decode cX10_under 75 = .ok (.aload_n 0, 1) := by decide +kernel
theorem dX10_under_76 : decode cX10_under 76 = .ok (.getfield 25, 3) := by decide +kernel
theorem dX10_under_79 : decode cX10_under 79 = .ok (.bipush 12, 2) := by decide +kernel
theorem dX10_under_81 : decode cX10_under 81 = .ok (.iload_n 3, 1) := by decide +kernel
theorem dX10_under_82 : decode cX10_under 82 = .ok (.imul, 1) := by decide +kernel
theorem dX10_under_83 : decode cX10_under 83 = .ok (.iload 4, 2) := by decide +kernel
theorem dX10_under_85 : decode cX10_under 85 = .ok (.iadd, 1) := by decide +kernel
theorem dX10_under_86 : decode cX10_under 86 = .ok (.iaload, 1) := by decide +kernel
theorem dX10_under_87 : decode cX10_under 87 = .ok (.invokevirtual 118, 3) := by decide +kernel
theorem dX10_under_90 : decode cX10_under 90 = .ok (.iload_n 1, 1) := by decide +kernel
theorem dX10_under_91 : decode cX10_under 91 = .ok (.if_icmp .ne 19, 3) := by decide +kernel
theorem dX10_under_94 : decode cX10_under 94 = .ok (.iload 6, 2) := by decide +kernel
theorem dX10_under_96 : decode cX10_under 96 = .ok (.iload_n 1, 1) := by decide +kernel
theorem dX10_under_97 : decode cX10_under 97 = .ok (.if_icmp .eq 13, 3) := by decide +kernel
theorem dX10_under_100 : decode cX10_under 100 = .ok (.iload 6, 2) := by decide +kernel
theorem dX10_under_102 : decode cX10_under 102 = .ok (.iconst 4, 1) := by decide +kernel
theorem dX10_under_103 : decode cX10_under 103 = .ok (.if_icmp .eq 7, 3) := by decide +kernel
theorem dX10_under_106 : decode cX10_under 106 = .ok (.iconst 1, 1) := by decide +kernel
theorem dX10_under_107 : decode cX10_under 107 = .ok (.goto 4, 3) := by decide +kernel
theorem dX10_under_110 : decode cX10_under 110 = .ok (.iconst 0, 1) := by decide +kernel
theorem dX10_under_111 : decode cX10_under 111 = .ok (.iadd, 1) := by decide +kernel
theorem dX10_under_112 : decode cX10_under 112 = .ok (.istore_n 2, 1) := by decide +kernel
theorem dX10_under_113 : decode cX10_under 113 = .ok (.iinc 5 1, 3) := by decide +kernel
theorem dX10_under_116 : decode cX10_under 116 = .ok (.goto (-72), 3) := by decide +kernel
theorem dX10_under_119 : decode cX10_under 119 = .ok (.iinc 4 1, 3) := by decide +kernel
theorem dX10_under_122 : decode cX10_under 122 = .ok (.goto (-95), 3) := by decide +kernel
theorem dX10_under_125 : decode cX10_under 125 = .ok (.iinc 3 1, 3) := by decide +kernel
theorem dX10_under_128 : decode cX10_under 128 = .ok (.goto (-110), 3) := by decide +kernel
theorem dX10_under_131 : decode cX10_under 131 = .ok (.iload_n 2, 1) := by decide +kernel
theorem dX10_under_132 : decode cX10_under 132 = .ok (.ireturn, 1) := by decide +kernel
theorem dX10_townsThatLie_0 : decode cX10_townsThatLie 0 = .ok (.iconst 0, 1) := by decide +kernel
theorem dX10_townsThatLie_1 : decode cX10_townsThatLie 1 = .ok (.istore_n 1, 1) := by decide +kernel
theorem dX10_townsThatLie_2 : decode cX10_townsThatLie 2 = .ok (.iconst 0, 1) := by decide +kernel
theorem dX10_townsThatLie_3 : decode cX10_townsThatLie 3 = .ok (.istore_n 2, 1) := by decide +kernel
theorem dX10_townsThatLie_4 : decode cX10_townsThatLie 4 = .ok (.iload_n 2, 1) := by decide +kernel
theorem dX10_townsThatLie_5 : decode cX10_townsThatLie 5 = .ok (.aload_n 0, 1) := by decide +kernel
theorem dX10_townsThatLie_6 : decode cX10_townsThatLie 6 = .ok (.getfield 83, 3) := by decide +kernel
theorem dX10_townsThatLie_9 : decode cX10_townsThatLie 9 = .ok (.if_icmp .ge 44, 3) := by decide +kernel
theorem dX10_townsThatLie_12 : decode cX10_townsThatLie 12 = .ok (.iload_n 1, 1) := by decide +kernel
theorem dX10_townsThatLie_13 : decode cX10_townsThatLie 13 = .ok (.aload_n 0, 1) := by decide +kernel
theorem dX10_townsThatLie_14 : decode cX10_townsThatLie 14 = .ok (.getfield 19, 3) := by decide +kernel
theorem dX10_townsThatLie_17 : decode cX10_townsThatLie 17 = .ok (.iload_n 2, 1) := by decide +kernel
theorem dX10_townsThatLie_18 : decode cX10_townsThatLie 18 = .ok (.iaload, 1) := by decide +kernel
theorem dX10_townsThatLie_19 : decode cX10_townsThatLie 19 = .ok (.bipush 6, 2) := by decide +kernel
theorem dX10_townsThatLie_21 : decode cX10_townsThatLie 21 = .ok (.if_icmp .ge 23, 3) := by decide +kernel
theorem dX10_townsThatLie_24 : decode cX10_townsThatLie 24 = .ok (.aload_n 0, 1) := by decide +kernel
theorem dX10_townsThatLie_25 : decode cX10_townsThatLie 25 = .ok (.iload_n 2, 1) := by decide +kernel
theorem dX10_townsThatLie_26 : decode cX10_townsThatLie 26 = .ok (.invokevirtual 118, 3) := by decide +kernel
theorem dX10_townsThatLie_29 : decode cX10_townsThatLie 29 = .ok (.iconst 4, 1) := by decide +kernel
theorem dX10_townsThatLie_30 : decode cX10_townsThatLie 30 = .ok (.if_icmp .ge 14, 3) := by decide +kernel
theorem dX10_townsThatLie_33 : decode cX10_townsThatLie 33 = .ok (.iconst 1, 1) := by decide +kernel
theorem dX10_townsThatLie_34 : decode cX10_townsThatLie 34 = .ok (.aload_n 0, 1) := by decide +kernel
theorem dX10_townsThatLie_35 : decode cX10_townsThatLie 35 = .ok (.getfield 16, 3) := by decide +kernel
theorem dX10_townsThatLie_38 : decode cX10_townsThatLie 38 = .ok (.iload_n 2, 1) := by decide +kernel
theorem dX10_townsThatLie_39 : decode cX10_townsThatLie 39 = .ok (.iaload, 1) := by decide +kernel
theorem dX10_townsThatLie_40 : decode cX10_townsThatLie 40 = .ok (.ishl, 1) := by decide +kernel
theorem dX10_townsThatLie_41 : decode cX10_townsThatLie 41 = .ok (.goto 4, 3) := by decide +kernel
theorem dX10_townsThatLie_44 : decode cX10_townsThatLie 44 = .ok (.iconst 0, 1) := by decide +kernel
theorem dX10_townsThatLie_45 : decode cX10_townsThatLie 45 = .ok (.ior, 1) := by decide +kernel
theorem dX10_townsThatLie_46 : decode cX10_townsThatLie 46 = .ok (.istore_n 1, 1) := by decide +kernel
theorem dX10_townsThatLie_47 : decode cX10_townsThatLie 47 = .ok (.iinc 2 1, 3) := by decide +kernel
theorem dX10_townsThatLie_50 : decode cX10_townsThatLie 50 = .ok (.goto (-46), 3) := by decide +kernel
theorem dX10_townsThatLie_53 : decode cX10_townsThatLie 53 = .ok (.iload_n 1, 1) := by decide +kernel
theorem dX10_townsThatLie_54 : decode cX10_townsThatLie 54 = .ok (.ireturn, 1) := by decide +kernel
theorem dX10_own_0 : decode cX10_own 0 = .ok (.aload_n 0, 1) := by decide +kernel
theorem dX10_own_1 : decode cX10_own 1 = .ok (.invokevirtual 251, 3) := by decide +kernel
theorem dX10_own_4 : decode cX10_own 4 = .ok (.istore_n 1, 1) := by decide +kernel
theorem dX10_own_5 : decode cX10_own 5 = .ok (.bipush 12, 2) := by decide +kernel
theorem dX10_own_7 : decode cX10_own 7 = .ok (.istore_n 2, 1) := by decide +kernel
theorem dX10_own_8 : decode cX10_own 8 = .ok (.iconst 0, 1) := by decide +kernel
theorem dX10_own_9 : decode cX10_own 9 = .ok (.istore_n 3, 1) := by decide +kernel
theorem dX10_own_10 : decode cX10_own 10 = .ok (.iload_n 3, 1) := by decide +kernel
theorem dX10_own_11 : decode cX10_own 11 = .ok (.sipush 4096, 3) := by decide +kernel
theorem dX10_own_14 : decode cX10_own 14 = .ok (.if_icmp .ge 141, 3) := by decide +kernel
theorem dX10_own_17 : decode cX10_own 17 = .ok (.iconst 0, 1) := by decide +kernel
theorem dX10_own_18 : decode cX10_own 18 = .ok (.istore 4, 2) := by decide +kernel
theorem dX10_own_20 : decode cX10_own 20 = .ok (.iconst 0, 1) := by decide +kernel
theorem dX10_own_21 : decode cX10_own 21 = .ok (.istore 5, 2) := by decide +kernel
theorem dX10_own_23 : decode cX10_own 23 = .ok (.iload 5, 2) := by decide +kernel
theorem dX10_own_25 : decode cX10_own 25 = .ok (.bipush 6, 2) := by decide +kernel
theorem dX10_own_27 : decode cX10_own 27 = .ok (.if_icmp .ge 24, 3) := by decide +kernel
theorem dX10_own_30 : decode cX10_own 30 = .ok (.iload 4, 2) := by decide +kernel
theorem dX10_own_32 : decode cX10_own 32 = .ok (.iconst 1, 1) := by decide +kernel
theorem dX10_own_33 : decode cX10_own 33 = .ok (.iload_n 3, 1) := by decide +kernel
theorem dX10_own_34 : decode cX10_own 34 = .ok (.iconst 2, 1) := by decide +kernel
theorem dX10_own_35 : decode cX10_own 35 = .ok (.iload 5, 2) := by decide +kernel
theorem dX10_own_37 : decode cX10_own 37 = .ok (.imul, 1) := by decide +kernel
theorem dX10_own_38 : decode cX10_own 38 = .ok (.ishr, 1) := by decide +kernel
theorem dX10_own_39 : decode cX10_own 39 = .ok (.iconst 3, 1) := by decide +kernel
theorem dX10_own_40 : decode cX10_own 40 = .ok (.iand, 1) := by decide +kernel
theorem dX10_own_41 : decode cX10_own 41 = .ok (.ishl, 1) := by decide +kernel
theorem dX10_own_42 : decode cX10_own 42 = .ok (.ior, 1) := by decide +kernel
theorem dX10_own_43 : decode cX10_own 43 = .ok (.istore 4, 2) := by decide +kernel
theorem dX10_own_45 : decode cX10_own 45 = .ok (.iinc 5 1, 3) := by decide +kernel
theorem dX10_own_48 : decode cX10_own 48 = .ok (.goto (-25), 3) := by decide +kernel
theorem dX10_own_51 : decode cX10_own 51 = .ok (.iconst 0, 1) := by decide +kernel
theorem dX10_own_52 : decode cX10_own 52 = .ok (.istore 5, 2) := by decide +kernel
theorem dX10_own_54 : decode cX10_own 54 = .ok (.iconst 0, 1) := by decide +kernel
theorem dX10_own_55 : decode cX10_own 55 = .ok (.istore 6, 2) := by decide +kernel
theorem dX10_own_57 : decode cX10_own 57 = .ok (.iload 6, 2) := by decide +kernel
theorem dX10_own_59 : decode cX10_own 59 = .ok (.aload_n 0, 1) := by decide +kernel
theorem dX10_own_60 : decode cX10_own 60 = .ok (.getfield 83, 3) := by decide +kernel
theorem dX10_own_63 : decode cX10_own 63 = .ok (.if_icmp .ge 64, 3) := by decide +kernel
theorem dX10_own_66 : decode cX10_own 66 = .ok (.iload 5, 2) := by decide +kernel
theorem dX10_own_68 : decode cX10_own 68 = .ok (.aload_n 0, 1) := by decide +kernel
theorem dX10_own_69 : decode cX10_own 69 = .ok (.getfield 19, 3) := by decide +kernel
theorem dX10_own_72 : decode cX10_own 72 = .ok (.iload 6, 2) := by decide +kernel
theorem dX10_own_74 : decode cX10_own 74 = .ok (.iaload, 1) := by decide +kernel
theorem dX10_own_75 : decode cX10_own 75 = .ok (.bipush 6, 2) := by decide +kernel
theorem dX10_own_77 : decode cX10_own 77 = .ok (.if_icmp .ge 40, 3) := by decide +kernel
theorem dX10_own_80 : decode cX10_own 80 = .ok (.aload_n 0, 1) := by decide +kernel
theorem dX10_own_81 : decode cX10_own 81 = .ok (.iload 6, 2) := by decide +kernel
theorem dX10_own_83 : decode cX10_own 83 = .ok (.invokevirtual 118, 3) := by decide +kernel
theorem dX10_own_86 : decode cX10_own 86 = .ok (.iconst 4, 1) := by decide +kernel
theorem dX10_own_87 : decode cX10_own 87 = .ok (.if_icmp .ge 30, 3) := by decide +kernel
theorem dX10_own_90 : decode cX10_own 90 = .ok (.iload_n 3, 1) := by decide +kernel
theorem dX10_own_91 : decode cX10_own 91 = .ok (.iconst 2, 1) := by decide +kernel
theorem dX10_own_92 : decode cX10_own 92 = .ok (.aload_n 0, 1) := by decide +kernel
theorem dX10_own_93 : decode cX10_own 93 = .ok (.getfield 19, 3) := by decide +kernel
theorem dX10_own_96 : decode cX10_own 96 = .ok (.iload 6, 2) := by decide +kernel
theorem dX10_own_98 : decode cX10_own 98 = .ok (.iaload, 1) := by decide +kernel
theorem dX10_own_99 : decode cX10_own 99 = .ok (.imul, 1) := by decide +kernel
theorem dX10_own_100 : decode cX10_own 100 = .ok (.ishr, 1) := by decide +kernel
theorem dX10_own_101 : decode cX10_own 101 = .ok (.iconst 3, 1) := by decide +kernel
theorem dX10_own_102 : decode cX10_own 102 = .ok (.iand, 1) := by decide +kernel
theorem dX10_own_103 : decode cX10_own 103 = .ok (.aload_n 0, 1) := by decide +kernel
theorem dX10_own_104 : decode cX10_own 104 = .ok (.getfield 16, 3) := by decide +kernel
theorem dX10_own_107 : decode cX10_own 107 = .ok (.iload 6, 2) := by decide +kernel
theorem dX10_own_109 : decode cX10_own 109 = .ok (.iaload, 1) := by decide +kernel
theorem dX10_own_110 : decode cX10_own 110 = .ok (.if_icmp .eq 7, 3) := by decide +kernel
theorem dX10_own_113 : decode cX10_own 113 = .ok (.iconst 1, 1) := by decide +kernel
theorem dX10_own_114 : decode cX10_own 114 = .ok (.goto 4, 3) := by decide +kernel
theorem dX10_own_117 : decode cX10_own 117 = .ok (.iconst 0, 1) := by decide +kernel
theorem dX10_own_118 : decode cX10_own 118 = .ok (.iadd, 1) := by decide +kernel
theorem dX10_own_119 : decode cX10_own 119 = .ok (.istore 5, 2) := by decide +kernel
theorem dX10_own_121 : decode cX10_own 121 = .ok (.iinc 6 1, 3) := by decide +kernel
theorem dX10_own_124 : decode cX10_own 124 = .ok (.goto (-67), 3) := by decide +kernel
theorem dX10_own_127 : decode cX10_own 127 = .ok (.iload_n 1, 1) := by decide +kernel
theorem dX10_own_128 : decode cX10_own 128 = .ok (.iload 4, 2) := by decide +kernel
theorem dX10_own_130 : decode cX10_own 130 = .ok (.iconst (-1), 1) := by decide +kernel
theorem dX10_own_131 : decode cX10_own 131 = .ok (.ixor, 1) := by decide +kernel
theorem dX10_own_132 : decode cX10_own 132 = .ok (.iand, 1) := by decide +kernel
theorem dX10_own_133 : decode cX10_own 133 = .ok (.ifCond .ne 14, 3) := by decide +kernel
theorem dX10_own_136 : decode cX10_own 136 = .ok (.iload 5, 2) := by decide +kernel
theorem dX10_own_138 : decode cX10_own 138 = .ok (.iload_n 2, 1) := by decide +kernel
theorem dX10_own_139 : decode cX10_own 139 = .ok (.if_icmp .ge 8, 3) := by decide +kernel
theorem dX10_own_142 : decode cX10_own 142 = .ok (.iload 5, 2) := by decide +kernel
theorem dX10_own_144 : decode cX10_own 144 = .ok (.goto 4, 3) := by decide +kernel
theorem dX10_own_147 : decode cX10_own 147 = .ok (.iload_n 2, 1) := by decide +kernel
theorem dX10_own_148 : decode cX10_own 148 = .ok (.istore_n 2, 1) := by decide +kernel
theorem dX10_own_149 : decode cX10_own 149 = .ok (.iinc 3 1, 3) := by decide +kernel
theorem dX10_own_152 : decode cX10_own 152 = .ok (.goto (-142), 3) := by decide +kernel
theorem dX10_own_155 : decode cX10_own 155 = .ok (.iload_n 2, 1) := by decide +kernel
theorem dX10_own_156 : decode cX10_own 156 = .ok (.ireturn, 1) := by decide +kernel
theorem dX10_divisor_0 : decode cX10_divisor 0 = .ok (.iload_n 0, 1) := by decide +kernel
theorem dX10_divisor_1 : decode cX10_divisor 1 = .ok (.istore_n 2, 1) := by decide +kernel
theorem dX10_divisor_2 : decode cX10_divisor 2 = .ok (.iload_n 1, 1) := by decide +kernel
theorem dX10_divisor_3 : decode cX10_divisor 3 = .ok (.istore_n 3, 1) := by decide +kernel
theorem dX10_divisor_4 : decode cX10_divisor 4 = .ok (.iload_n 3, 1) := by decide +kernel
theorem dX10_divisor_5 : decode cX10_divisor 5 = .ok (.ifCond .eq 16, 3) := by decide +kernel
theorem dX10_divisor_8 : decode cX10_divisor 8 = .ok (.iload_n 2, 1) := by decide +kernel
theorem dX10_divisor_9 : decode cX10_divisor 9 = .ok (.iload_n 3, 1) := by decide +kernel
theorem dX10_divisor_10 : decode cX10_divisor 10 = .ok (.irem, 1) := by decide +kernel
theorem dX10_divisor_11 : decode cX10_divisor 11 = .ok (.istore 4, 2) := by decide +kernel
theorem dX10_divisor_13 : decode cX10_divisor 13 = .ok (.iload_n 3, 1) := by decide +kernel
theorem dX10_divisor_14 : decode cX10_divisor 14 = .ok (.istore_n 2, 1) := by decide +kernel
theorem dX10_divisor_15 : decode cX10_divisor 15 = .ok (.iload 4, 2) := by decide +kernel
theorem dX10_divisor_17 : decode cX10_divisor 17 = .ok (.istore_n 3, 1) := by decide +kernel
theorem dX10_divisor_18 : decode cX10_divisor 18 = .ok (.goto (-14), 3) := by decide +kernel
theorem dX10_divisor_21 : decode cX10_divisor 21 = .ok (.iload_n 2, 1) := by decide +kernel
theorem dX10_divisor_22 : decode cX10_divisor 22 = .ok (.ireturn, 1) := by decide +kernel
theorem dX10_partOf_0 : decode cX10_partOf 0 = .ok (.iload_n 0, 1) := by decide +kernel
theorem dX10_partOf_1 : decode cX10_partOf 1 = .ok (.iload_n 1, 1) := by decide +kernel
theorem dX10_partOf_2 : decode cX10_partOf 2 = .ok (.invokestatic 254, 3) := by decide +kernel
theorem dX10_partOf_5 : decode cX10_partOf 5 = .ok (.istore_n 3, 1) := by decide +kernel
theorem dX10_partOf_6 : decode cX10_partOf 6 = .ok (.iload_n 2, 1) := by decide +kernel
theorem dX10_partOf_7 : decode cX10_partOf 7 = .ok (.ifCond .ne 9, 3) := by decide +kernel
theorem dX10_partOf_10 : decode cX10_partOf 10 = .ok (.iload_n 0, 1) := by decide +kernel
theorem dX10_partOf_11 : decode cX10_partOf 11 = .ok (.iload_n 3, 1) := by decide +kernel
theorem dX10_partOf_12 : decode cX10_partOf 12 = .ok (.idiv, 1) := by decide +kernel
theorem dX10_partOf_13 : decode cX10_partOf 13 = .ok (.goto 6, 3) := by decide +kernel
theorem dX10_partOf_16 : decode cX10_partOf 16 = .ok (.iload_n 1, 1) := by decide +kernel
theorem dX10_partOf_17 : decode cX10_partOf 17 = .ok (.iload_n 3, 1) := by decide +kernel
theorem dX10_partOf_18 : decode cX10_partOf 18 = .ok (.idiv, 1) := by decide +kernel
theorem dX10_partOf_19 : decode cX10_partOf 19 = .ok (.ireturn, 1) := by decide +kernel
theorem dX10_odds_0 : decode cX10_odds 0 = .ok (.iload_n 1, 1) := by decide +kernel
theorem dX10_odds_1 : decode cX10_odds 1 = .ok (.invokestatic 124, 3) := by decide +kernel
theorem dX10_odds_4 : decode cX10_odds 4 = .ok (.ifCond .eq 51, 3) := by decide +kernel
theorem dX10_odds_7 : decode cX10_odds 7 = .ok (.iload_n 2, 1) := by decide +kernel
theorem dX10_odds_8 : decode cX10_odds 8 = .ok (.i2l, 1) := by decide +kernel
theorem dX10_odds_9 : decode cX10_odds 9 = .ok (.lconst 0, 1) := by decide +kernel
theorem dX10_odds_10 : decode cX10_odds 10 = .ok (.ldc2_w 106, 3) := by decide +kernel
theorem dX10_odds_13 : decode cX10_odds 13 = .ok (.invokestatic 87, 3) := by decide +kernel
theorem dX10_odds_16 : decode cX10_odds 16 = .ok (.ifCond .eq 39, 3) := by decide +kernel
theorem dX10_odds_19 : decode cX10_odds 19 = .ok (.iload_n 3, 1) := by decide +kernel
theorem dX10_odds_20 : decode cX10_odds 20 = .ok (.i2l, 1) := by decide +kernel
theorem dX10_odds_21 : decode cX10_odds 21 = .ok (.lconst 1, 1) := by decide +kernel
theorem dX10_odds_22 : decode cX10_odds 22 = .ok (.ldc2_w 108, 3) := by decide +kernel
theorem dX10_odds_25 : decode cX10_odds 25 = .ok (.invokestatic 87, 3) := by decide +kernel
theorem dX10_odds_28 : decode cX10_odds 28 = .ok (.ifCond .eq 27, 3) := by decide +kernel
theorem dX10_odds_31 : decode cX10_odds 31 = .ok (.iload 4, 2) := by decide +kernel
theorem dX10_odds_33 : decode cX10_odds 33 = .ok (.i2l, 1) := by decide +kernel
theorem dX10_odds_34 : decode cX10_odds 34 = .ok (.lconst 0, 1) := by decide +kernel
theorem dX10_odds_35 : decode cX10_odds 35 = .ok (.ldc2_w 143, 3) := by decide +kernel
theorem dX10_odds_38 : decode cX10_odds 38 = .ok (.invokestatic 87, 3) := by decide +kernel
theorem dX10_odds_41 : decode cX10_odds 41 = .ok (.ifCond .eq 14, 3) := by decide +kernel
theorem dX10_odds_44 : decode cX10_odds 44 = .ok (.iload 5, 2) := by decide +kernel
theorem dX10_odds_46 : decode cX10_odds 46 = .ok (.i2l, 1) := by decide +kernel
theorem dX10_odds_47 : decode cX10_odds 47 = .ok (.lconst 0, 1) := by decide +kernel
theorem dX10_odds_48 : decode cX10_odds 48 = .ok (.lconst 1, 1) := by decide +kernel
theorem dX10_odds_49 : decode cX10_odds 49 = .ok (.invokestatic 87, 3) := by decide +kernel
theorem dX10_odds_52 : decode cX10_odds 52 = .ok (.ifCond .ne 5, 3) := by decide +kernel
theorem dX10_odds_55 : decode cX10_odds 55 = .ok (.iconst (-1), 1) := by decide +kernel
theorem dX10_odds_56 : decode cX10_odds 56 = .ok (.ireturn, 1) := by decide +kernel
theorem dX10_odds_57 : decode cX10_odds 57 = .ok (.iconst 1, 1) := by decide +kernel
theorem dX10_odds_58 : decode cX10_odds 58 = .ok (.istore 6, 2) := by decide +kernel
theorem dX10_odds_60 : decode cX10_odds 60 = .ok (.iconst 1, 1) := by decide +kernel
theorem dX10_odds_61 : decode cX10_odds 61 = .ok (.istore 7, 2) := by decide +kernel
theorem dX10_odds_63 : decode cX10_odds 63 = .ok (.iconst 0, 1) := by decide +kernel
theorem dX10_odds_64 : decode cX10_odds 64 = .ok (.istore 8, 2) := by decide +kernel
theorem dX10_odds_66 : decode cX10_odds 66 = .ok (.iload 8, 2) := by decide +kernel
theorem dX10_odds_68 : decode cX10_odds 68 = .ok (.iload_n 3, 1) := by decide +kernel
theorem dX10_odds_69 : decode cX10_odds 69 = .ok (.if_icmp .ge 36, 3) := by decide +kernel
theorem dX10_odds_72 : decode cX10_odds 72 = .ok (.iload_n 2, 1) := by decide +kernel
theorem dX10_odds_73 : decode cX10_odds 73 = .ok (.aload_n 0, 1) := by decide +kernel
theorem dX10_odds_74 : decode cX10_odds 74 = .ok (.getfield 28, 3) := by decide +kernel
theorem dX10_odds_77 : decode cX10_odds 77 = .ok (.iload_n 1, 1) := by decide +kernel
theorem dX10_odds_78 : decode cX10_odds 78 = .ok (.iaload, 1) := by decide +kernel
theorem dX10_odds_79 : decode cX10_odds 79 = .ok (.if_icmp .le 26, 3) := by decide +kernel
theorem dX10_odds_82 : decode cX10_odds 82 = .ok (.iload 6, 2) := by decide +kernel
theorem dX10_odds_84 : decode cX10_odds 84 = .ok (.bipush 8, 2) := by decide +kernel
theorem dX10_odds_86 : decode cX10_odds 86 = .ok (.iload 4, 2) := by decide +kernel
theorem dX10_odds_88 : decode cX10_odds 88 = .ok (.isub, 1) := by decide +kernel
theorem dX10_odds_89 : decode cX10_odds 89 = .ok (.imul, 1) := by decide +kernel
theorem dX10_odds_90 : decode cX10_odds 90 = .ok (.istore 6, 2) := by decide +kernel
theorem dX10_odds_92 : decode cX10_odds 92 = .ok (.iload 7, 2) := by decide +kernel
theorem dX10_odds_94 : decode cX10_odds 94 = .ok (.bipush 8, 2) := by decide +kernel
theorem dX10_odds_96 : decode cX10_odds 96 = .ok (.imul, 1) := by decide +kernel
theorem dX10_odds_97 : decode cX10_odds 97 = .ok (.istore 7, 2) := by decide +kernel
theorem dX10_odds_99 : decode cX10_odds 99 = .ok (.iinc 8 1, 3) := by decide +kernel
theorem dX10_odds_102 : decode cX10_odds 102 = .ok (.goto (-36), 3) := by decide +kernel
theorem dX10_odds_105 : decode cX10_odds 105 = .ok (.iload 6, 2) := by decide +kernel
theorem dX10_odds_107 : decode cX10_odds 107 = .ok (.iload 7, 2) := by decide +kernel
theorem dX10_odds_109 : decode cX10_odds 109 = .ok (.iload 5, 2) := by decide +kernel
theorem dX10_odds_111 : decode cX10_odds 111 = .ok (.invokestatic 257, 3) := by decide +kernel
theorem dX10_odds_114 : decode cX10_odds 114 = .ok (.ireturn, 1) := by decide +kernel
theorem dX10_has_0 : decode cX10_has 0 = .ok (.iload_n 0, 1) := by decide +kernel
theorem dX10_has_1 : decode cX10_has 1 = .ok (.iload_n 1, 1) := by decide +kernel
theorem dX10_has_2 : decode cX10_has 2 = .ok (.ishr, 1) := by decide +kernel
theorem dX10_has_3 : decode cX10_has 3 = .ok (.iconst 1, 1) := by decide +kernel
theorem dX10_has_4 : decode cX10_has 4 = .ok (.iand, 1) := by decide +kernel
theorem dX10_has_5 : decode cX10_has 5 = .ok (.iconst 1, 1) := by decide +kernel
theorem dX10_has_6 : decode cX10_has 6 = .ok (.if_icmp .ne 7, 3) := by decide +kernel
theorem dX10_has_9 : decode cX10_has 9 = .ok (.iconst 1, 1) := by decide +kernel
theorem dX10_has_10 : decode cX10_has 10 = .ok (.goto 4, 3) := by decide +kernel
theorem dX10_has_13 : decode cX10_has 13 = .ok (.iconst 0, 1) := by decide +kernel
theorem dX10_has_14 : decode cX10_has 14 = .ok (.ireturn, 1) := by decide +kernel
theorem dX10_share_0 : decode cX10_share 0 = .ok (.iload_n 1, 1) := by decide +kernel
theorem dX10_share_1 : decode cX10_share 1 = .ok (.i2l, 1) := by decide +kernel
theorem dX10_share_2 : decode cX10_share 2 = .ok (.lconst 0, 1) := by decide +kernel
theorem dX10_share_3 : decode cX10_share 3 = .ok (.ldc2_w 104, 3) := by decide +kernel
theorem dX10_share_6 : decode cX10_share 6 = .ok (.invokestatic 87, 3) := by decide +kernel
theorem dX10_share_9 : decode cX10_share 9 = .ok (.ifCond .eq 33, 3) := by decide +kernel
theorem dX10_share_12 : decode cX10_share 12 = .ok (.iload_n 2, 1) := by decide +kernel
theorem dX10_share_13 : decode cX10_share 13 = .ok (.i2l, 1) := by decide +kernel
theorem dX10_share_14 : decode cX10_share 14 = .ok (.lconst 0, 1) := by decide +kernel
theorem dX10_share_15 : decode cX10_share 15 = .ok (.ldc2_w 261, 3) := by decide +kernel
theorem dX10_share_18 : decode cX10_share 18 = .ok (.invokestatic 87, 3) := by decide +kernel
theorem dX10_share_21 : decode cX10_share 21 = .ok (.ifCond .eq 21, 3) := by decide +kernel
theorem dX10_share_24 : decode cX10_share 24 = .ok (.iload_n 2, 1) := by decide +kernel
theorem dX10_share_25 : decode cX10_share 25 = .ok (.iload_n 1, 1) := by decide +kernel
theorem dX10_share_26 : decode cX10_share 26 = .ok (.invokestatic 263, 3) := by decide +kernel
theorem dX10_share_29 : decode cX10_share 29 = .ok (.ifCond .eq 13, 3) := by decide +kernel
theorem dX10_share_32 : decode cX10_share 32 = .ok (.iload_n 3, 1) := by decide +kernel
theorem dX10_share_33 : decode cX10_share 33 = .ok (.i2l, 1) := by decide +kernel
theorem dX10_share_34 : decode cX10_share 34 = .ok (.lconst 0, 1) := by decide +kernel
theorem dX10_share_35 : decode cX10_share 35 = .ok (.lconst 1, 1) := by decide +kernel
theorem dX10_share_36 : decode cX10_share 36 = .ok (.invokestatic 87, 3) := by decide +kernel
theorem dX10_share_39 : decode cX10_share 39 = .ok (.ifCond .ne 5, 3) := by decide +kernel
theorem dX10_share_42 : decode cX10_share 42 = .ok (.iconst (-1), 1) := by decide +kernel
theorem dX10_share_43 : decode cX10_share 43 = .ok (.ireturn, 1) := by decide +kernel
theorem dX10_share_44 : decode cX10_share 44 = .ok (.iconst 0, 1) := by decide +kernel
theorem dX10_share_45 : decode cX10_share 45 = .ok (.istore 4, 2) := by decide +kernel
theorem dX10_share_47 : decode cX10_share 47 = .ok (.iconst 0, 1) := by decide +kernel
theorem dX10_share_48 : decode cX10_share 48 = .ok (.istore 5, 2) := by decide +kernel
theorem dX10_share_50 : decode cX10_share 50 = .ok (.iload 5, 2) := by decide +kernel
theorem dX10_share_52 : decode cX10_share 52 = .ok (.iconst 4, 1) := by decide +kernel
theorem dX10_share_53 : decode cX10_share 53 = .ok (.if_icmp .ge 28, 3) := by decide +kernel
theorem dX10_share_56 : decode cX10_share 56 = .ok (.iload 4, 2) := by decide +kernel
theorem dX10_share_58 : decode cX10_share 58 = .ok (.iload_n 2, 1) := by decide +kernel
theorem dX10_share_59 : decode cX10_share 59 = .ok (.iload 5, 2) := by decide +kernel
theorem dX10_share_61 : decode cX10_share 61 = .ok (.invokestatic 263, 3) := by decide +kernel
theorem dX10_share_64 : decode cX10_share 64 = .ok (.ifCond .eq 7, 3) := by decide +kernel
theorem dX10_share_67 : decode cX10_share 67 = .ok (.iconst 1, 1) := by decide +kernel
theorem dX10_share_68 : decode cX10_share 68 = .ok (.goto 4, 3) := by decide +kernel
theorem dX10_share_71 : decode cX10_share 71 = .ok (.iconst 0, 1) := by decide +kernel
theorem dX10_share_72 : decode cX10_share 72 = .ok (.iadd, 1) := by decide +kernel
theorem dX10_share_73 : decode cX10_share 73 = .ok (.istore 4, 2) := by decide +kernel
theorem dX10_share_75 : decode cX10_share 75 = .ok (.iinc 5 1, 3) := by decide +kernel
theorem dX10_share_78 : decode cX10_share 78 = .ok (.goto (-28), 3) := by decide +kernel
theorem dX10_share_81 : decode cX10_share 81 = .ok (.iconst 0, 1) := by decide +kernel
theorem dX10_share_82 : decode cX10_share 82 = .ok (.istore 5, 2) := by decide +kernel
theorem dX10_share_84 : decode cX10_share 84 = .ok (.iconst 0, 1) := by decide +kernel
theorem dX10_share_85 : decode cX10_share 85 = .ok (.istore 6, 2) := by decide +kernel
theorem dX10_share_87 : decode cX10_share 87 = .ok (.iconst 0, 1) := by decide +kernel
theorem dX10_share_88 : decode cX10_share 88 = .ok (.istore 7, 2) := by decide +kernel
theorem dX10_share_90 : decode cX10_share 90 = .ok (.iload 7, 2) := by decide +kernel
theorem dX10_share_92 : decode cX10_share 92 = .ok (.aload_n 0, 1) := by decide +kernel
theorem dX10_share_93 : decode cX10_share 93 = .ok (.getfield 83, 3) := by decide +kernel
theorem dX10_share_96 : decode cX10_share 96 = .ok (.if_icmp .ge 120, 3) := by decide +kernel
theorem dX10_share_99 : decode cX10_share 99 = .ok (.aload_n 0, 1) := by decide +kernel
theorem dX10_share_100 : decode cX10_share 100 = .ok (.getfield 19, 3) := by decide +kernel
theorem dX10_share_103 : decode cX10_share 103 = .ok (.iload 7, 2) := by decide +kernel
theorem dX10_share_105 : decode cX10_share 105 = .ok (.iaload, 1) := by decide +kernel
theorem dX10_share_106 : decode cX10_share 106 = .ok (.bipush 6, 2) := by decide +kernel
theorem dX10_share_108 : decode cX10_share 108 = .ok (.if_icmp .ne 7, 3) := by decide +kernel
theorem dX10_share_111 : decode cX10_share 111 = .ok (.iconst 1, 1) := by decide +kernel
theorem dX10_share_112 : decode cX10_share 112 = .ok (.goto 4, 3) := by decide +kernel
theorem dX10_share_115 : decode cX10_share 115 = .ok (.iconst 0, 1) := by decide +kernel
theorem dX10_share_116 : decode cX10_share 116 = .ok (.istore 8, 2) := by decide +kernel
theorem dX10_share_118 : decode cX10_share 118 = .ok (.aload_n 0, 1) := by decide +kernel
theorem dX10_share_119 : decode cX10_share 119 = .ok (.iload 7, 2) := by decide +kernel
theorem dX10_share_121 : decode cX10_share 121 = .ok (.invokevirtual 118, 3) := by decide +kernel
theorem dX10_share_124 : decode cX10_share 124 = .ok (.iconst 4, 1) := by decide +kernel
theorem dX10_share_125 : decode cX10_share 125 = .ok (.if_icmp .eq 17, 3) := by decide +kernel
theorem dX10_share_128 : decode cX10_share 128 = .ok (.iload_n 2, 1) := by decide +kernel
theorem dX10_share_129 : decode cX10_share 129 = .ok (.aload_n 0, 1) := by decide +kernel
theorem dX10_share_130 : decode cX10_share 130 = .ok (.getfield 16, 3) := by decide +kernel
theorem dX10_share_133 : decode cX10_share 133 = .ok (.iload 7, 2) := by decide +kernel
theorem dX10_share_135 : decode cX10_share 135 = .ok (.iaload, 1) := by decide +kernel
theorem dX10_share_136 : decode cX10_share 136 = .ok (.invokestatic 263, 3) := by decide +kernel
theorem dX10_share_139 : decode cX10_share 139 = .ok (.ifCond .ne 7, 3) := by decide +kernel
theorem dX10_share_142 : decode cX10_share 142 = .ok (.iconst 1, 1) := by decide +kernel
theorem dX10_share_143 : decode cX10_share 143 = .ok (.goto 4, 3) := by decide +kernel
theorem dX10_share_146 : decode cX10_share 146 = .ok (.iconst 0, 1) := by decide +kernel
theorem dX10_share_147 : decode cX10_share 147 = .ok (.istore 9, 2) := by decide +kernel
theorem dX10_share_149 : decode cX10_share 149 = .ok (.iload 5, 2) := by decide +kernel
theorem dX10_share_151 : decode cX10_share 151 = .ok (.iload 8, 2) := by decide +kernel
theorem dX10_share_153 : decode cX10_share 153 = .ok (.ifCond .eq 28, 3) := by decide +kernel
theorem dX10_share_156 : decode cX10_share 156 = .ok (.iload 9, 2) := by decide +kernel
theorem dX10_share_158 : decode cX10_share 158 = .ok (.ifCond .ne 23, 3) := by decide +kernel
theorem dX10_share_161 : decode cX10_share 161 = .ok (.aload_n 0, 1) := by decide +kernel
theorem dX10_share_162 : decode cX10_share 162 = .ok (.getfield 16, 3) := by decide +kernel
theorem dX10_share_165 : decode cX10_share 165 = .ok (.iload 7, 2) := by decide +kernel
theorem dX10_share_167 : decode cX10_share 167 = .ok (.iaload, 1) := by decide +kernel
theorem dX10_share_168 : decode cX10_share 168 = .ok (.iload_n 1, 1) := by decide +kernel
theorem dX10_share_169 : decode cX10_share 169 = .ok (.if_icmp .ne 12, 3) := by decide +kernel
theorem dX10_share_172 : decode cX10_share 172 = .ok (.aload_n 0, 1) := by decide +kernel
theorem dX10_share_173 : decode cX10_share 173 = .ok (.iload 7, 2) := by decide +kernel
theorem dX10_share_175 : decode cX10_share 175 = .ok (.invokevirtual 97, 3) := by decide +kernel
theorem dX10_share_178 : decode cX10_share 178 = .ok (.goto 4, 3) := by decide +kernel
theorem dX10_share_181 : decode cX10_share 181 = .ok (.iconst 0, 1) := by decide +kernel
theorem dX10_share_182 : decode cX10_share 182 = .ok (.iadd, 1) := by decide +kernel
theorem dX10_share_183 : decode cX10_share 183 = .ok (.istore 5, 2) := by decide +kernel
theorem dX10_share_185 : decode cX10_share 185 = .ok (.iload 6, 2) := by decide +kernel
theorem dX10_share_187 : decode cX10_share 187 = .ok (.iload 8, 2) := by decide +kernel
theorem dX10_share_189 : decode cX10_share 189 = .ok (.ifCond .eq 17, 3) := by decide +kernel
theorem dX10_share_192 : decode cX10_share 192 = .ok (.iload 9, 2) := by decide +kernel
theorem dX10_share_194 : decode cX10_share 194 = .ok (.ifCond .eq 12, 3) := by decide +kernel
theorem dX10_share_197 : decode cX10_share 197 = .ok (.aload_n 0, 1) := by decide +kernel
theorem dX10_share_198 : decode cX10_share 198 = .ok (.iload 7, 2) := by decide +kernel
theorem dX10_share_200 : decode cX10_share 200 = .ok (.invokevirtual 97, 3) := by decide +kernel
theorem dX10_share_203 : decode cX10_share 203 = .ok (.goto 4, 3) := by decide +kernel
theorem dX10_share_206 : decode cX10_share 206 = .ok (.iconst 0, 1) := by decide +kernel
theorem dX10_share_207 : decode cX10_share 207 = .ok (.iadd, 1) := by decide +kernel
theorem dX10_share_208 : decode cX10_share 208 = .ok (.istore 6, 2) := by decide +kernel
theorem dX10_share_210 : decode cX10_share 210 = .ok (.iinc 7 1, 3) := by decide +kernel
theorem dX10_share_213 : decode cX10_share 213 = .ok (.goto (-123), 3) := by decide +kernel
theorem dX10_share_216 : decode cX10_share 216 = .ok (.iload 5, 2) := by decide +kernel
theorem dX10_share_218 : decode cX10_share 218 = .ok (.iload 4, 2) := by decide +kernel
theorem dX10_share_220 : decode cX10_share 220 = .ok (.imul, 1) := by decide +kernel
theorem dX10_share_221 : decode cX10_share 221 = .ok (.iload 6, 2) := by decide +kernel
theorem dX10_share_223 : decode cX10_share 223 = .ok (.iadd, 1) := by decide +kernel
theorem dX10_share_224 : decode cX10_share 224 = .ok (.iload 4, 2) := by decide +kernel
theorem dX10_share_226 : decode cX10_share 226 = .ok (.iload_n 3, 1) := by decide +kernel
theorem dX10_share_227 : decode cX10_share 227 = .ok (.invokestatic 257, 3) := by decide +kernel
theorem dX10_share_230 : decode cX10_share 230 = .ok (.ireturn, 1) := by decide +kernel
theorem dX10_image_0 : decode cX10_image 0 = .ok (.aload_n 0, 1) := by decide +kernel
theorem dX10_image_1 : decode cX10_image 1 = .ok (.iconst 1, 1) := by decide +kernel
theorem dX10_image_2 : decode cX10_image 2 = .ok (.putfield 267, 3) := by decide +kernel
theorem dX10_image_5 : decode cX10_image 5 = .ok (.aload_n 0, 1) := by decide +kernel
theorem dX10_image_6 : decode cX10_image 6 = .ok (.aload_n 0, 1) := by decide +kernel
theorem dX10_image_7 : decode cX10_image 7 = .ok (.getfield 83, 3) := by decide +kernel
theorem dX10_image_10 : decode cX10_image 10 = .ok (.putfield 271, 3) := by decide +kernel
theorem dX10_image_13 : decode cX10_image 13 = .ok (.aload_n 0, 1) := by decide +kernel
theorem dX10_image_14 : decode cX10_image 14 = .ok (.aload_n 0, 1) := by decide +kernel
theorem dX10_image_15 : decode cX10_image 15 = .ok (.getfield 133, 3) := by decide +kernel
theorem dX10_image_18 : decode cX10_image 18 = .ok (.putfield 274, 3) := by decide +kernel
theorem dX10_image_21 : decode cX10_image 21 = .ok (.iconst 0, 1) := by decide +kernel
theorem dX10_image_22 : decode cX10_image 22 = .ok (.istore_n 1, 1) := by decide +kernel
theorem dX10_image_23 : decode cX10_image 23 = .ok (.iload_n 1, 1) := by decide +kernel
theorem dX10_image_24 : decode cX10_image 24 = .ok (.bipush 12, 2) := by decide +kernel
theorem dX10_image_26 : decode cX10_image 26 = .ok (.if_icmp .ge 66, 3) := by decide +kernel
theorem dX10_image_29 : decode cX10_image 29 = .ok (.aload_n 0, 1) := by decide +kernel
theorem dX10_image_30 : decode cX10_image 30 = .ok (.getfield 67, 3) := by decide +kernel
theorem dX10_image_33 : decode cX10_image 33 = .ok (.iload_n 1, 1) := by decide +kernel
theorem dX10_image_34 : decode cX10_image 34 = .ok (.aload_n 0, 1) := by decide +kernel
theorem dX10_image_35 : decode cX10_image 35 = .ok (.getfield 7, 3) := by decide +kernel
theorem dX10_image_38 : decode cX10_image 38 = .ok (.iload_n 1, 1) := by decide +kernel
theorem dX10_image_39 : decode cX10_image 39 = .ok (.iaload, 1) := by decide +kernel
theorem dX10_image_40 : decode cX10_image 40 = .ok (.iastore, 1) := by decide +kernel
theorem dX10_image_41 : decode cX10_image 41 = .ok (.aload_n 0, 1) := by decide +kernel
theorem dX10_image_42 : decode cX10_image 42 = .ok (.getfield 67, 3) := by decide +kernel
theorem dX10_image_45 : decode cX10_image 45 = .ok (.bipush 12, 2) := by decide +kernel
theorem dX10_image_47 : decode cX10_image 47 = .ok (.iload_n 1, 1) := by decide +kernel
theorem dX10_image_48 : decode cX10_image 48 = .ok (.iadd, 1) := by decide +kernel
theorem dX10_image_49 : decode cX10_image 49 = .ok (.aload_n 0, 1) := by decide +kernel
theorem dX10_image_50 : decode cX10_image 50 = .ok (.getfield 13, 3) := by decide +kernel
theorem dX10_image_53 : decode cX10_image 53 = .ok (.iload_n 1, 1) := by decide +kernel
theorem dX10_image_54 : decode cX10_image 54 = .ok (.iaload, 1) := by decide +kernel
theorem dX10_image_55 : decode cX10_image 55 = .ok (.iastore, 1) := by decide +kernel
theorem dX10_image_56 : decode cX10_image 56 = .ok (.aload_n 0, 1) := by decide +kernel
theorem dX10_image_57 : decode cX10_image 57 = .ok (.getfield 67, 3) := by decide +kernel
theorem dX10_image_60 : decode cX10_image 60 = .ok (.bipush 24, 2) := by decide +kernel
theorem dX10_image_62 : decode cX10_image 62 = .ok (.iload_n 1, 1) := by decide +kernel
theorem dX10_image_63 : decode cX10_image 63 = .ok (.iadd, 1) := by decide +kernel
theorem dX10_image_64 : decode cX10_image 64 = .ok (.aload_n 0, 1) := by decide +kernel
theorem dX10_image_65 : decode cX10_image 65 = .ok (.getfield 16, 3) := by decide +kernel
theorem dX10_image_68 : decode cX10_image 68 = .ok (.iload_n 1, 1) := by decide +kernel
theorem dX10_image_69 : decode cX10_image 69 = .ok (.iaload, 1) := by decide +kernel
theorem dX10_image_70 : decode cX10_image 70 = .ok (.iastore, 1) := by decide +kernel
theorem dX10_image_71 : decode cX10_image 71 = .ok (.aload_n 0, 1) := by decide +kernel
theorem dX10_image_72 : decode cX10_image 72 = .ok (.getfield 67, 3) := by decide +kernel
theorem dX10_image_75 : decode cX10_image 75 = .ok (.bipush 36, 2) := by decide +kernel
theorem dX10_image_77 : decode cX10_image 77 = .ok (.iload_n 1, 1) := by decide +kernel
theorem dX10_image_78 : decode cX10_image 78 = .ok (.iadd, 1) := by decide +kernel
theorem dX10_image_79 : decode cX10_image 79 = .ok (.aload_n 0, 1) := by decide +kernel
theorem dX10_image_80 : decode cX10_image 80 = .ok (.getfield 19, 3) := by decide +kernel
theorem dX10_image_83 : decode cX10_image 83 = .ok (.iload_n 1, 1) := by decide +kernel
theorem dX10_image_84 : decode cX10_image 84 = .ok (.iaload, 1) := by decide +kernel
theorem dX10_image_85 : decode cX10_image 85 = .ok (.iastore, 1) := by decide +kernel
theorem dX10_image_86 : decode cX10_image 86 = .ok (.iinc 1 1, 3) := by decide +kernel
theorem dX10_image_89 : decode cX10_image 89 = .ok (.goto (-66), 3) := by decide +kernel
theorem dX10_image_92 : decode cX10_image 92 = .ok (.iconst 0, 1) := by decide +kernel
theorem dX10_image_93 : decode cX10_image 93 = .ok (.istore_n 1, 1) := by decide +kernel
theorem dX10_image_94 : decode cX10_image 94 = .ok (.iload_n 1, 1) := by decide +kernel
theorem dX10_image_95 : decode cX10_image 95 = .ok (.bipush 6, 2) := by decide +kernel
theorem dX10_image_97 : decode cX10_image 97 = .ok (.if_icmp .ge 39, 3) := by decide +kernel
theorem dX10_image_100 : decode cX10_image 100 = .ok (.aload_n 0, 1) := by decide +kernel
theorem dX10_image_101 : decode cX10_image 101 = .ok (.getfield 67, 3) := by decide +kernel
theorem dX10_image_104 : decode cX10_image 104 = .ok (.bipush 48, 2) := by decide +kernel
theorem dX10_image_106 : decode cX10_image 106 = .ok (.iload_n 1, 1) := by decide +kernel
theorem dX10_image_107 : decode cX10_image 107 = .ok (.iadd, 1) := by decide +kernel
theorem dX10_image_108 : decode cX10_image 108 = .ok (.aload_n 0, 1) := by decide +kernel
theorem dX10_image_109 : decode cX10_image 109 = .ok (.getfield 22, 3) := by decide +kernel
theorem dX10_image_112 : decode cX10_image 112 = .ok (.iload_n 1, 1) := by decide +kernel
theorem dX10_image_113 : decode cX10_image 113 = .ok (.iaload, 1) := by decide +kernel
theorem dX10_image_114 : decode cX10_image 114 = .ok (.iastore, 1) := by decide +kernel
theorem dX10_image_115 : decode cX10_image 115 = .ok (.aload_n 0, 1) := by decide +kernel
theorem dX10_image_116 : decode cX10_image 116 = .ok (.getfield 67, 3) := by decide +kernel
theorem dX10_image_119 : decode cX10_image 119 = .ok (.bipush 54, 2) := by decide +kernel
theorem dX10_image_121 : decode cX10_image 121 = .ok (.iload_n 1, 1) := by decide +kernel
theorem dX10_image_122 : decode cX10_image 122 = .ok (.iadd, 1) := by decide +kernel
theorem dX10_image_123 : decode cX10_image 123 = .ok (.aload_n 0, 1) := by decide +kernel
theorem dX10_image_124 : decode cX10_image 124 = .ok (.getfield 28, 3) := by decide +kernel
theorem dX10_image_127 : decode cX10_image 127 = .ok (.iload_n 1, 1) := by decide +kernel
theorem dX10_image_128 : decode cX10_image 128 = .ok (.iaload, 1) := by decide +kernel
theorem dX10_image_129 : decode cX10_image 129 = .ok (.iastore, 1) := by decide +kernel
theorem dX10_image_130 : decode cX10_image 130 = .ok (.iinc 1 1, 3) := by decide +kernel
theorem dX10_image_133 : decode cX10_image 133 = .ok (.goto (-39), 3) := by decide +kernel
theorem dX10_image_136 : decode cX10_image 136 = .ok (.iconst 0, 1) := by decide +kernel
theorem dX10_image_137 : decode cX10_image 137 = .ok (.istore_n 1, 1) := by decide +kernel
theorem dX10_image_138 : decode cX10_image 138 = .ok (.iload_n 1, 1) := by decide +kernel
theorem dX10_image_139 : decode cX10_image 139 = .ok (.bipush 72, 2) := by decide +kernel
theorem dX10_image_141 : decode cX10_image 141 = .ok (.if_icmp .ge 24, 3) := by decide +kernel
theorem dX10_image_144 : decode cX10_image 144 = .ok (.aload_n 0, 1) := by decide +kernel
theorem dX10_image_145 : decode cX10_image 145 = .ok (.getfield 67, 3) := by decide +kernel
theorem dX10_image_148 : decode cX10_image 148 = .ok (.bipush 60, 2) := by decide +kernel
theorem dX10_image_150 : decode cX10_image 150 = .ok (.iload_n 1, 1) := by decide +kernel
theorem dX10_image_151 : decode cX10_image 151 = .ok (.iadd, 1) := by decide +kernel
theorem dX10_image_152 : decode cX10_image 152 = .ok (.aload_n 0, 1) := by decide +kernel
theorem dX10_image_153 : decode cX10_image 153 = .ok (.getfield 25, 3) := by decide +kernel
theorem dX10_image_156 : decode cX10_image 156 = .ok (.iload_n 1, 1) := by decide +kernel
theorem dX10_image_157 : decode cX10_image 157 = .ok (.iaload, 1) := by decide +kernel
theorem dX10_image_158 : decode cX10_image 158 = .ok (.iastore, 1) := by decide +kernel
theorem dX10_image_159 : decode cX10_image 159 = .ok (.iinc 1 1, 3) := by decide +kernel
theorem dX10_image_162 : decode cX10_image 162 = .ok (.goto (-24), 3) := by decide +kernel
theorem dX10_image_165 : decode cX10_image 165 = .ok (.iconst 1, 1) := by decide +kernel
theorem dX10_image_166 : decode cX10_image 166 = .ok (.ireturn, 1) := by decide +kernel
theorem dX10_restore_0 : decode cX10_restore 0 = .ok (.aload_n 0, 1) := by decide +kernel
theorem dX10_restore_1 : decode cX10_restore 1 = .ok (.getfield 267, 3) := by decide +kernel
theorem dX10_restore_4 : decode cX10_restore 4 = .ok (.ifCond .ne 6, 3) := by decide +kernel
theorem dX10_restore_7 : decode cX10_restore 7 = .ok (.bipush (-4), 2) := by decide +kernel
theorem dX10_restore_9 : decode cX10_restore 9 = .ok (.ireturn, 1) := by decide +kernel
theorem dX10_restore_10 : decode cX10_restore 10 = .ok (.aload_n 0, 1) := by decide +kernel
theorem dX10_restore_11 : decode cX10_restore 11 = .ok (.aload_n 0, 1) := by decide +kernel
theorem dX10_restore_12 : decode cX10_restore 12 = .ok (.getfield 271, 3) := by decide +kernel
theorem dX10_restore_15 : decode cX10_restore 15 = .ok (.putfield 83, 3) := by decide +kernel
theorem dX10_restore_18 : decode cX10_restore 18 = .ok (.aload_n 0, 1) := by decide +kernel
theorem dX10_restore_19 : decode cX10_restore 19 = .ok (.aload_n 0, 1) := by decide +kernel
theorem dX10_restore_20 : decode cX10_restore 20 = .ok (.getfield 274, 3) := by decide +kernel
theorem dX10_restore_23 : decode cX10_restore 23 = .ok (.putfield 133, 3) := by decide +kernel
theorem dX10_restore_26 : decode cX10_restore 26 = .ok (.iconst 0, 1) := by decide +kernel
theorem dX10_restore_27 : decode cX10_restore 27 = .ok (.istore_n 1, 1) := by decide +kernel
theorem dX10_restore_28 : decode cX10_restore 28 = .ok (.iload_n 1, 1) := by decide +kernel
theorem dX10_restore_29 : decode cX10_restore 29 = .ok (.bipush 12, 2) := by decide +kernel
theorem dX10_restore_31 : decode cX10_restore 31 = .ok (.if_icmp .ge 66, 3) := by decide +kernel
theorem dX10_restore_34 : decode cX10_restore 34 = .ok (.aload_n 0, 1) := by decide +kernel
theorem dX10_restore_35 : decode cX10_restore 35 = .ok (.getfield 7, 3) := by decide +kernel
theorem dX10_restore_38 : decode cX10_restore 38 = .ok (.iload_n 1, 1) := by decide +kernel
theorem dX10_restore_39 : decode cX10_restore 39 = .ok (.aload_n 0, 1) := by decide +kernel
theorem dX10_restore_40 : decode cX10_restore 40 = .ok (.getfield 67, 3) := by decide +kernel
theorem dX10_restore_43 : decode cX10_restore 43 = .ok (.iload_n 1, 1) := by decide +kernel
theorem dX10_restore_44 : decode cX10_restore 44 = .ok (.iaload, 1) := by decide +kernel
theorem dX10_restore_45 : decode cX10_restore 45 = .ok (.iastore, 1) := by decide +kernel
theorem dX10_restore_46 : decode cX10_restore 46 = .ok (.aload_n 0, 1) := by decide +kernel
theorem dX10_restore_47 : decode cX10_restore 47 = .ok (.getfield 13, 3) := by decide +kernel
theorem dX10_restore_50 : decode cX10_restore 50 = .ok (.iload_n 1, 1) := by decide +kernel
theorem dX10_restore_51 : decode cX10_restore 51 = .ok (.aload_n 0, 1) := by decide +kernel
theorem dX10_restore_52 : decode cX10_restore 52 = .ok (.getfield 67, 3) := by decide +kernel
theorem dX10_restore_55 : decode cX10_restore 55 = .ok (.bipush 12, 2) := by decide +kernel
theorem dX10_restore_57 : decode cX10_restore 57 = .ok (.iload_n 1, 1) := by decide +kernel
theorem dX10_restore_58 : decode cX10_restore 58 = .ok (.iadd, 1) := by decide +kernel
theorem dX10_restore_59 : decode cX10_restore 59 = .ok (.iaload, 1) := by decide +kernel
theorem dX10_restore_60 : decode cX10_restore 60 = .ok (.iastore, 1) := by decide +kernel
theorem dX10_restore_61 : decode cX10_restore 61 = .ok (.aload_n 0, 1) := by decide +kernel
theorem dX10_restore_62 : decode cX10_restore 62 = .ok (.getfield 16, 3) := by decide +kernel
theorem dX10_restore_65 : decode cX10_restore 65 = .ok (.iload_n 1, 1) := by decide +kernel
theorem dX10_restore_66 : decode cX10_restore 66 = .ok (.aload_n 0, 1) := by decide +kernel
theorem dX10_restore_67 : decode cX10_restore 67 = .ok (.getfield 67, 3) := by decide +kernel
theorem dX10_restore_70 : decode cX10_restore 70 = .ok (.bipush 24, 2) := by decide +kernel
theorem dX10_restore_72 : decode cX10_restore 72 = .ok (.iload_n 1, 1) := by decide +kernel
theorem dX10_restore_73 : decode cX10_restore 73 = .ok (.iadd, 1) := by decide +kernel
theorem dX10_restore_74 : decode cX10_restore 74 = .ok (.iaload, 1) := by decide +kernel
theorem dX10_restore_75 : decode cX10_restore 75 = .ok (.iastore, 1) := by decide +kernel
theorem dX10_restore_76 : decode cX10_restore 76 = .ok (.aload_n 0, 1) := by decide +kernel
theorem dX10_restore_77 : decode cX10_restore 77 = .ok (.getfield 19, 3) := by decide +kernel
theorem dX10_restore_80 : decode cX10_restore 80 = .ok (.iload_n 1, 1) := by decide +kernel
theorem dX10_restore_81 : decode cX10_restore 81 = .ok (.aload_n 0, 1) := by decide +kernel
theorem dX10_restore_82 : decode cX10_restore 82 = .ok (.getfield 67, 3) := by decide +kernel
theorem dX10_restore_85 : decode cX10_restore 85 = .ok (.bipush 36, 2) := by decide +kernel
theorem dX10_restore_87 : decode cX10_restore 87 = .ok (.iload_n 1, 1) := by decide +kernel
theorem dX10_restore_88 : decode cX10_restore 88 = .ok (.iadd, 1) := by decide +kernel
theorem dX10_restore_89 : decode cX10_restore 89 = .ok (.iaload, 1) := by decide +kernel
theorem dX10_restore_90 : decode cX10_restore 90 = .ok (.iastore, 1) := by decide +kernel
theorem dX10_restore_91 : decode cX10_restore 91 = .ok (.iinc 1 1, 3) := by decide +kernel
theorem dX10_restore_94 : decode cX10_restore 94 = .ok (.goto (-66), 3) := by decide +kernel
theorem dX10_restore_97 : decode cX10_restore 97 = .ok (.iconst 0, 1) := by decide +kernel
theorem dX10_restore_98 : decode cX10_restore 98 = .ok (.istore_n 1, 1) := by decide +kernel
theorem dX10_restore_99 : decode cX10_restore 99 = .ok (.iload_n 1, 1) := by decide +kernel
theorem dX10_restore_100 : decode cX10_restore 100 = .ok (.bipush 6, 2) := by decide +kernel
theorem dX10_restore_102 : decode cX10_restore 102 = .ok (.if_icmp .ge 39, 3) := by decide +kernel
theorem dX10_restore_105 : decode cX10_restore 105 = .ok (.aload_n 0, 1) := by decide +kernel
theorem dX10_restore_106 : decode cX10_restore 106 = .ok (.getfield 22, 3) := by decide +kernel
theorem dX10_restore_109 : decode cX10_restore 109 = .ok (.iload_n 1, 1) := by decide +kernel
theorem dX10_restore_110 : decode cX10_restore 110 = .ok (.aload_n 0, 1) := by decide +kernel
theorem dX10_restore_111 : decode cX10_restore 111 = .ok (.getfield 67, 3) := by decide +kernel
theorem dX10_restore_114 : decode cX10_restore 114 = .ok (.bipush 48, 2) := by decide +kernel
theorem dX10_restore_116 : decode cX10_restore 116 = .ok (.iload_n 1, 1) := by decide +kernel
theorem dX10_restore_117 : decode cX10_restore 117 = .ok (.iadd, 1) := by decide +kernel
theorem dX10_restore_118 : decode cX10_restore 118 = .ok (.iaload, 1) := by decide +kernel
theorem dX10_restore_119 : decode cX10_restore 119 = .ok (.iastore, 1) := by decide +kernel
theorem dX10_restore_120 : decode cX10_restore 120 = .ok (.aload_n 0, 1) := by decide +kernel
theorem dX10_restore_121 : decode cX10_restore 121 = .ok (.getfield 28, 3) := by decide +kernel
theorem dX10_restore_124 : decode cX10_restore 124 = .ok (.iload_n 1, 1) := by decide +kernel
theorem dX10_restore_125 : decode cX10_restore 125 = .ok (.aload_n 0, 1) := by decide +kernel
theorem dX10_restore_126 : decode cX10_restore 126 = .ok (.getfield 67, 3) := by decide +kernel
theorem dX10_restore_129 : decode cX10_restore 129 = .ok (.bipush 54, 2) := by decide +kernel
theorem dX10_restore_131 : decode cX10_restore 131 = .ok (.iload_n 1, 1) := by decide +kernel
theorem dX10_restore_132 : decode cX10_restore 132 = .ok (.iadd, 1) := by decide +kernel
theorem dX10_restore_133 : decode cX10_restore 133 = .ok (.iaload, 1) := by decide +kernel
theorem dX10_restore_134 : decode cX10_restore 134 = .ok (.iastore, 1) := by decide +kernel
theorem dX10_restore_135 : decode cX10_restore 135 = .ok (.iinc 1 1, 3) := by decide +kernel
theorem dX10_restore_138 : decode cX10_restore 138 = .ok (.goto (-39), 3) := by decide +kernel
theorem dX10_restore_141 : decode cX10_restore 141 = .ok (.iconst 0, 1) := by decide +kernel
theorem dX10_restore_142 : decode cX10_restore 142 = .ok (.istore_n 1, 1) := by decide +kernel
theorem dX10_restore_143 : decode cX10_restore 143 = .ok (.iload_n 1, 1) := by decide +kernel
theorem dX10_restore_144 : decode cX10_restore 144 = .ok (.bipush 72, 2) := by decide +kernel
theorem dX10_restore_146 : decode cX10_restore 146 = .ok (.if_icmp .ge 24, 3) := by decide +kernel
theorem dX10_restore_149 : decode cX10_restore 149 = .ok (.aload_n 0, 1) := by decide +kernel
theorem dX10_restore_150 : decode cX10_restore 150 = .ok (.getfield 25, 3) := by decide +kernel
theorem dX10_restore_153 : decode cX10_restore 153 = .ok (.iload_n 1, 1) := by decide +kernel
theorem dX10_restore_154 : decode cX10_restore 154 = .ok (.aload_n 0, 1) := by decide +kernel
theorem dX10_restore_155 : decode cX10_restore 155 = .ok (.getfield 67, 3) := by decide +kernel
theorem dX10_restore_158 : decode cX10_restore 158 = .ok (.bipush 60, 2) := by decide +kernel
theorem dX10_restore_160 : decode cX10_restore 160 = .ok (.iload_n 1, 1) := by decide +kernel
theorem dX10_restore_161 : decode cX10_restore 161 = .ok (.iadd, 1) := by decide +kernel
theorem dX10_restore_162 : decode cX10_restore 162 = .ok (.iaload, 1) := by decide +kernel
theorem dX10_restore_163 : decode cX10_restore 163 = .ok (.iastore, 1) := by decide +kernel
theorem dX10_restore_164 : decode cX10_restore 164 = .ok (.iinc 1 1, 3) := by decide +kernel
theorem dX10_restore_167 : decode cX10_restore 167 = .ok (.goto (-24), 3) := by decide +kernel
theorem dX10_restore_170 : decode cX10_restore 170 = .ok (.iconst 1, 1) := by decide +kernel
theorem dX10_restore_171 : decode cX10_restore 171 = .ok (.ireturn, 1) := by decide +kernel
theorem dX10_isSheet_0 : decode cX10_isSheet 0 = .ok (.iload_n 0, 1) := by decide +kernel
theorem dX10_isSheet_1 : decode cX10_isSheet 1 = .ok (.i2l, 1) := by decide +kernel
theorem dX10_isSheet_2 : decode cX10_isSheet 2 = .ok (.lconst 0, 1) := by decide +kernel
theorem dX10_isSheet_3 : decode cX10_isSheet 3 = .ok (.ldc2_w 104, 3) := by decide +kernel
theorem dX10_isSheet_6 : decode cX10_isSheet 6 = .ok (.invokestatic 87, 3) := by decide +kernel
theorem dX10_isSheet_9 : decode cX10_isSheet 9 = .ok (.ireturn, 1) := by decide +kernel
theorem dX10_low_0 : decode cX10_low 0 = .ok (.iload_n 0, 1) := by decide +kernel
theorem dX10_low_1 : decode cX10_low 1 = .ok (.ifCond .ne 10, 3) := by decide +kernel
theorem dX10_low_4 : decode cX10_low 4 = .ok (.lload_n 1, 1) := by decide +kernel
theorem dX10_low_5 : decode cX10_low 5 = .ok (.l2i, 1) := by decide +kernel
theorem dX10_low_6 : decode cX10_low 6 = .ok (.i2b, 1) := by decide +kernel
theorem dX10_low_7 : decode cX10_low 7 = .ok (.i2l, 1) := by decide +kernel
theorem dX10_low_8 : decode cX10_low 8 = .ok (.goto 15, 3) := by decide +kernel
theorem dX10_low_11 : decode cX10_low 11 = .ok (.iload_n 0, 1) := by decide +kernel
theorem dX10_low_12 : decode cX10_low 12 = .ok (.iconst 1, 1) := by decide +kernel
theorem dX10_low_13 : decode cX10_low 13 = .ok (.if_icmp .ne 9, 3) := by decide +kernel
theorem dX10_low_16 : decode cX10_low 16 = .ok (.lload_n 1, 1) := by decide +kernel
theorem dX10_low_17 : decode cX10_low 17 = .ok (.l2i, 1) := by decide +kernel
theorem dX10_low_18 : decode cX10_low 18 = .ok (.i2l, 1) := by decide +kernel
theorem dX10_low_19 : decode cX10_low 19 = .ok (.goto 4, 3) := by decide +kernel
theorem dX10_low_22 : decode cX10_low 22 = .ok (.lload_n 1, 1) := by decide +kernel
theorem dX10_low_23 : decode cX10_low 23 = .ok (.lreturn, 1) := by decide +kernel
theorem dX10_against_0 : decode cX10_against 0 = .ok (.aload_n 0, 1) := by decide +kernel
theorem dX10_against_1 : decode cX10_against 1 = .ok (.getfield 70, 3) := by decide +kernel
theorem dX10_against_4 : decode cX10_against 4 = .ok (.iload_n 1, 1) := by decide +kernel
theorem dX10_against_5 : decode cX10_against 5 = .ok (.iaload, 1) := by decide +kernel
theorem dX10_against_6 : decode cX10_against 6 = .ok (.ifCond .ge 6, 3) := by decide +kernel
theorem dX10_against_9 : decode cX10_against 9 = .ok (.bipush (-11), 2) := by decide +kernel
theorem dX10_against_11 : decode cX10_against 11 = .ok (.ireturn, 1) := by decide +kernel
theorem dX10_against_12 : decode cX10_against 12 = .ok (.aload_n 0, 1) := by decide +kernel
theorem dX10_against_13 : decode cX10_against 13 = .ok (.getfield 70, 3) := by decide +kernel
theorem dX10_against_16 : decode cX10_against 16 = .ok (.iload_n 1, 1) := by decide +kernel
theorem dX10_against_17 : decode cX10_against 17 = .ok (.iaload, 1) := by decide +kernel
theorem dX10_against_18 : decode cX10_against 18 = .ok (.iload_n 2, 1) := by decide +kernel
theorem dX10_against_19 : decode cX10_against 19 = .ok (.if_icmp .eq 6, 3) := by decide +kernel
theorem dX10_against_22 : decode cX10_against 22 = .ok (.bipush (-12), 2) := by decide +kernel
theorem dX10_against_24 : decode cX10_against 24 = .ok (.ireturn, 1) := by decide +kernel
theorem dX10_against_25 : decode cX10_against 25 = .ok (.iload_n 3, 1) := by decide +kernel
theorem dX10_against_26 : decode cX10_against 26 = .ok (.ifCond .lt 16, 3) := by decide +kernel
theorem dX10_against_29 : decode cX10_against 29 = .ok (.iload_n 3, 1) := by decide +kernel
theorem dX10_against_30 : decode cX10_against 30 = .ok (.aload_n 0, 1) := by decide +kernel
theorem dX10_against_31 : decode cX10_against 31 = .ok (.getfield 73, 3) := by decide +kernel
theorem dX10_against_34 : decode cX10_against 34 = .ok (.iload_n 1, 1) := by decide +kernel
theorem dX10_against_35 : decode cX10_against 35 = .ok (.iaload, 1) := by decide +kernel
theorem dX10_against_36 : decode cX10_against 36 = .ok (.iload 4, 2) := by decide +kernel
theorem dX10_against_38 : decode cX10_against 38 = .ok (.isub, 1) := by decide +kernel
theorem dX10_against_39 : decode cX10_against 39 = .ok (.if_icmp .le 8, 3) := by decide +kernel
theorem dX10_against_42 : decode cX10_against 42 = .ok (.bipush (-13), 2) := by decide +kernel
theorem dX10_against_44 : decode cX10_against 44 = .ok (.goto 4, 3) := by decide +kernel
theorem dX10_against_47 : decode cX10_against 47 = .ok (.iconst 0, 1) := by decide +kernel
theorem dX10_against_48 : decode cX10_against 48 = .ok (.ireturn, 1) := by decide +kernel
theorem dX10_sumIn_0 : decode cX10_sumIn 0 = .ok (.iconst 0, 1) := by decide +kernel
theorem dX10_sumIn_1 : decode cX10_sumIn 1 = .ok (.istore_n 3, 1) := by decide +kernel
theorem dX10_sumIn_2 : decode cX10_sumIn 2 = .ok (.iconst 0, 1) := by decide +kernel
theorem dX10_sumIn_3 : decode cX10_sumIn 3 = .ok (.istore 4, 2) := by decide +kernel
theorem dX10_sumIn_5 : decode cX10_sumIn 5 = .ok (.iload 4, 2) := by decide +kernel
theorem dX10_sumIn_7 : decode cX10_sumIn 7 = .ok (.aload_n 0, 1) := by decide +kernel
theorem dX10_sumIn_8 : decode cX10_sumIn 8 = .ok (.getfield 22, 3) := by decide +kernel
theorem dX10_sumIn_11 : decode cX10_sumIn 11 = .ok (.iload_n 1, 1) := by decide +kernel
theorem dX10_sumIn_12 : decode cX10_sumIn 12 = .ok (.iaload, 1) := by decide +kernel
theorem dX10_sumIn_13 : decode cX10_sumIn 13 = .ok (.if_icmp .ge 51, 3) := by decide +kernel
theorem dX10_sumIn_16 : decode cX10_sumIn 16 = .ok (.iload_n 3, 1) := by decide +kernel
theorem dX10_sumIn_17 : decode cX10_sumIn 17 = .ok (.iload_n 2, 1) := by decide +kernel
theorem dX10_sumIn_18 : decode cX10_sumIn 18 = .ok (.aload_n 0, 1) := by decide +kernel
theorem dX10_sumIn_19 : decode cX10_sumIn 19 = .ok (.getfield 25, 3) := by decide +kernel
theorem dX10_sumIn_22 : decode cX10_sumIn 22 = .ok (.bipush 12, 2) := by decide +kernel
theorem dX10_sumIn_24 : decode cX10_sumIn 24 = .ok (.iload_n 1, 1) := by decide +kernel
theorem dX10_sumIn_25 : decode cX10_sumIn 25 = .ok (.imul, 1) := by decide +kernel
theorem dX10_sumIn_26 : decode cX10_sumIn 26 = .ok (.iload 4, 2) := by decide +kernel
theorem dX10_sumIn_28 : decode cX10_sumIn 28 = .ok (.iadd, 1) := by decide +kernel
theorem dX10_sumIn_29 : decode cX10_sumIn 29 = .ok (.iaload, 1) := by decide +kernel
theorem dX10_sumIn_30 : decode cX10_sumIn 30 = .ok (.invokestatic 263, 3) := by decide +kernel
theorem dX10_sumIn_33 : decode cX10_sumIn 33 = .ok (.ifCond .eq 22, 3) := by decide +kernel
theorem dX10_sumIn_36 : decode cX10_sumIn 36 = .ok (.aload_n 0, 1) := by decide +kernel
theorem dX10_sumIn_37 : decode cX10_sumIn 37 = .ok (.aload_n 0, 1) := by decide +kernel
theorem dX10_sumIn_38 : decode cX10_sumIn 38 = .ok (.getfield 25, 3) := by decide +kernel
theorem dX10_sumIn_41 : decode cX10_sumIn 41 = .ok (.bipush 12, 2) := by decide +kernel
theorem dX10_sumIn_43 : decode cX10_sumIn 43 = .ok (.iload_n 1, 1) := by decide +kernel
theorem dX10_sumIn_44 : decode cX10_sumIn 44 = .ok (.imul, 1) := by decide +kernel
theorem dX10_sumIn_45 : decode cX10_sumIn 45 = .ok (.iload 4, 2) := by decide +kernel
theorem dX10_sumIn_47 : decode cX10_sumIn 47 = .ok (.iadd, 1) := by decide +kernel
theorem dX10_sumIn_48 : decode cX10_sumIn 48 = .ok (.iaload, 1) := by decide +kernel
theorem dX10_sumIn_49 : decode cX10_sumIn 49 = .ok (.invokevirtual 97, 3) := by decide +kernel
theorem dX10_sumIn_52 : decode cX10_sumIn 52 = .ok (.goto 4, 3) := by decide +kernel
theorem dX10_sumIn_55 : decode cX10_sumIn 55 = .ok (.iconst 0, 1) := by decide +kernel
theorem dX10_sumIn_56 : decode cX10_sumIn 56 = .ok (.iadd, 1) := by decide +kernel
theorem dX10_sumIn_57 : decode cX10_sumIn 57 = .ok (.istore_n 3, 1) := by decide +kernel
theorem dX10_sumIn_58 : decode cX10_sumIn 58 = .ok (.iinc 4 1, 3) := by decide +kernel
theorem dX10_sumIn_61 : decode cX10_sumIn 61 = .ok (.goto (-56), 3) := by decide +kernel
theorem dX10_sumIn_64 : decode cX10_sumIn 64 = .ok (.iload_n 3, 1) := by decide +kernel
theorem dX10_sumIn_65 : decode cX10_sumIn 65 = .ok (.ireturn, 1) := by decide +kernel
theorem dX10_dents_0 : decode cX10_dents 0 = .ok (.iload_n 1, 1) := by decide +kernel
theorem dX10_dents_1 : decode cX10_dents 1 = .ok (.invokestatic 277, 3) := by decide +kernel
theorem dX10_dents_4 : decode cX10_dents 4 = .ok (.ifCond .eq 26, 3) := by decide +kernel
theorem dX10_dents_7 : decode cX10_dents 7 = .ok (.iload_n 2, 1) := by decide +kernel
theorem dX10_dents_8 : decode cX10_dents 8 = .ok (.i2l, 1) := by decide +kernel
theorem dX10_dents_9 : decode cX10_dents 9 = .ok (.lconst 0, 1) := by decide +kernel
theorem dX10_dents_10 : decode cX10_dents 10 = .ok (.ldc2_w 246, 3) := by decide +kernel
theorem dX10_dents_13 : decode cX10_dents 13 = .ok (.invokestatic 87, 3) := by decide +kernel
theorem dX10_dents_16 : decode cX10_dents 16 = .ok (.ifCond .eq 14, 3) := by decide +kernel
theorem dX10_dents_19 : decode cX10_dents 19 = .ok (.iload 4, 2) := by decide +kernel
theorem dX10_dents_21 : decode cX10_dents 21 = .ok (.i2l, 1) := by decide +kernel
theorem dX10_dents_22 : decode cX10_dents 22 = .ok (.lconst 0, 1) := by decide +kernel
theorem dX10_dents_23 : decode cX10_dents 23 = .ok (.lconst 1, 1) := by decide +kernel
theorem dX10_dents_24 : decode cX10_dents 24 = .ok (.invokestatic 87, 3) := by decide +kernel
theorem dX10_dents_27 : decode cX10_dents 27 = .ok (.ifCond .ne 5, 3) := by decide +kernel
theorem dX10_dents_30 : decode cX10_dents 30 = .ok (.iconst (-1), 1) := by decide +kernel
theorem dX10_dents_31 : decode cX10_dents 31 = .ok (.ireturn, 1) := by decide +kernel
theorem dX10_dents_32 : decode cX10_dents 32 = .ok (.aload_n 0, 1) := by decide +kernel
theorem dX10_dents_33 : decode cX10_dents 33 = .ok (.iload_n 1, 1) := by decide +kernel
theorem dX10_dents_34 : decode cX10_dents 34 = .ok (.iload_n 2, 1) := by decide +kernel
theorem dX10_dents_35 : decode cX10_dents 35 = .ok (.iload_n 3, 1) := by decide +kernel
theorem dX10_dents_36 : decode cX10_dents 36 = .ok (.bipush 6, 2) := by decide +kernel
theorem dX10_dents_38 : decode cX10_dents 38 = .ok (.invokevirtual 280, 3) := by decide +kernel
theorem dX10_dents_41 : decode cX10_dents 41 = .ok (.istore 5, 2) := by decide +kernel
theorem dX10_dents_43 : decode cX10_dents 43 = .ok (.iload 5, 2) := by decide +kernel
theorem dX10_dents_45 : decode cX10_dents 45 = .ok (.ifCond .eq 6, 3) := by decide +kernel
theorem dX10_dents_48 : decode cX10_dents 48 = .ok (.iload 5, 2) := by decide +kernel
theorem dX10_dents_50 : decode cX10_dents 50 = .ok (.ireturn, 1) := by decide +kernel
theorem dX10_dents_51 : decode cX10_dents 51 = .ok (.iconst 0, 1) := by decide +kernel
theorem dX10_dents_52 : decode cX10_dents 52 = .ok (.istore 6, 2) := by decide +kernel
theorem dX10_dents_54 : decode cX10_dents 54 = .ok (.iconst 0, 1) := by decide +kernel
theorem dX10_dents_55 : decode cX10_dents 55 = .ok (.istore 7, 2) := by decide +kernel
theorem dX10_dents_57 : decode cX10_dents 57 = .ok (.iload 7, 2) := by decide +kernel
theorem dX10_dents_59 : decode cX10_dents 59 = .ok (.aload_n 0, 1) := by decide +kernel
theorem dX10_dents_60 : decode cX10_dents 60 = .ok (.getfield 83, 3) := by decide +kernel
theorem dX10_dents_63 : decode cX10_dents 63 = .ok (.if_icmp .ge 34, 3) := by decide +kernel
theorem dX10_dents_66 : decode cX10_dents 66 = .ok (.iload 6, 2) := by decide +kernel
theorem dX10_dents_68 : decode cX10_dents 68 = .ok (.aload_n 0, 1) := by decide +kernel
theorem dX10_dents_69 : decode cX10_dents 69 = .ok (.getfield 19, 3) := by decide +kernel
theorem dX10_dents_72 : decode cX10_dents 72 = .ok (.iload 7, 2) := by decide +kernel
theorem dX10_dents_74 : decode cX10_dents 74 = .ok (.iaload, 1) := by decide +kernel
theorem dX10_dents_75 : decode cX10_dents 75 = .ok (.bipush 6, 2) := by decide +kernel
theorem dX10_dents_77 : decode cX10_dents 77 = .ok (.if_icmp .ge 10, 3) := by decide +kernel
theorem dX10_dents_80 : decode cX10_dents 80 = .ok (.iconst 1, 1) := by decide +kernel
theorem dX10_dents_81 : decode cX10_dents 81 = .ok (.iload 7, 2) := by decide +kernel
theorem dX10_dents_83 : decode cX10_dents 83 = .ok (.ishl, 1) := by decide +kernel
theorem dX10_dents_84 : decode cX10_dents 84 = .ok (.goto 4, 3) := by decide +kernel
theorem dX10_dents_87 : decode cX10_dents 87 = .ok (.iconst 0, 1) := by decide +kernel
theorem dX10_dents_88 : decode cX10_dents 88 = .ok (.ior, 1) := by decide +kernel
theorem dX10_dents_89 : decode cX10_dents 89 = .ok (.istore 6, 2) := by decide +kernel
theorem dX10_dents_91 : decode cX10_dents 91 = .ok (.iinc 7 1, 3) := by decide +kernel
theorem dX10_dents_94 : decode cX10_dents 94 = .ok (.goto (-37), 3) := by decide +kernel
theorem dX10_dents_97 : decode cX10_dents 97 = .ok (.iconst 0, 1) := by decide +kernel
theorem dX10_dents_98 : decode cX10_dents 98 = .ok (.istore 7, 2) := by decide +kernel
theorem dX10_dents_100 : decode cX10_dents 100 = .ok (.iconst 0, 1) := by decide +kernel
theorem dX10_dents_101 : decode cX10_dents 101 = .ok (.istore 8, 2) := by decide +kernel
theorem dX10_dents_103 : decode cX10_dents 103 = .ok (.iload 8, 2) := by decide +kernel
theorem dX10_dents_105 : decode cX10_dents 105 = .ok (.iload 6, 2) := by decide +kernel
theorem dX10_dents_107 : decode cX10_dents 107 = .ok (.if_icmp .gt 115, 3) := by decide +kernel
theorem dX10_dents_110 : decode cX10_dents 110 = .ok (.iload 8, 2) := by decide +kernel
theorem dX10_dents_112 : decode cX10_dents 112 = .ok (.iload 6, 2) := by decide +kernel
theorem dX10_dents_114 : decode cX10_dents 114 = .ok (.iconst (-1), 1) := by decide +kernel
theorem dX10_dents_115 : decode cX10_dents 115 = .ok (.ixor, 1) := by decide +kernel
theorem dX10_dents_116 : decode cX10_dents 116 = .ok (.iand, 1) := by decide +kernel
theorem dX10_dents_117 : decode cX10_dents 117 = .ok (.ifCond .ne 7, 3) := by decide +kernel
theorem dX10_dents_120 : decode cX10_dents 120 = .ok (.iconst 1, 1) := by decide +kernel
theorem dX10_dents_121 : decode cX10_dents 121 = .ok (.goto 4, 3) := by decide +kernel
theorem dX10_dents_124 : decode cX10_dents 124 = .ok (.iconst 0, 1) := by decide +kernel
theorem dX10_dents_125 : decode cX10_dents 125 = .ok (.istore 9, 2) := by decide +kernel
theorem dX10_dents_127 : decode cX10_dents 127 = .ok (.iconst 0, 1) := by decide +kernel
theorem dX10_dents_128 : decode cX10_dents 128 = .ok (.istore 10, 2) := by decide +kernel
theorem dX10_dents_130 : decode cX10_dents 130 = .ok (.iload 10, 2) := by decide +kernel
theorem dX10_dents_132 : decode cX10_dents 132 = .ok (.bipush 6, 2) := by decide +kernel
theorem dX10_dents_134 : decode cX10_dents 134 = .ok (.if_icmp .ge 48, 3) := by decide +kernel
theorem dX10_dents_137 : decode cX10_dents 137 = .ok (.iload 9, 2) := by decide +kernel
theorem dX10_dents_139 : decode cX10_dents 139 = .ok (.ifCond .eq 43, 3) := by decide +kernel
theorem dX10_dents_142 : decode cX10_dents 142 = .ok (.aload_n 0, 1) := by decide +kernel
theorem dX10_dents_143 : decode cX10_dents 143 = .ok (.iload 10, 2) := by decide +kernel
theorem dX10_dents_145 : decode cX10_dents 145 = .ok (.iload 8, 2) := by decide +kernel
theorem dX10_dents_147 : decode cX10_dents 147 = .ok (.invokevirtual 284, 3) := by decide +kernel
theorem dX10_dents_150 : decode cX10_dents 150 = .ok (.i2l, 1) := by decide +kernel
theorem dX10_dents_151 : decode cX10_dents 151 = .ok (.aload_n 0, 1) := by decide +kernel
theorem dX10_dents_152 : decode cX10_dents 152 = .ok (.getfield 76, 3) := by decide +kernel
theorem dX10_dents_155 : decode cX10_dents 155 = .ok (.bipush 24, 2) := by decide +kernel
theorem dX10_dents_157 : decode cX10_dents 157 = .ok (.iload_n 1, 1) := by decide +kernel
theorem dX10_dents_158 : decode cX10_dents 158 = .ok (.imul, 1) := by decide +kernel
theorem dX10_dents_159 : decode cX10_dents 159 = .ok (.iload_n 3, 1) := by decide +kernel
theorem dX10_dents_160 : decode cX10_dents 160 = .ok (.iadd, 1) := by decide +kernel
theorem dX10_dents_161 : decode cX10_dents 161 = .ok (.iload 10, 2) := by decide +kernel
theorem dX10_dents_163 : decode cX10_dents 163 = .ok (.iadd, 1) := by decide +kernel
theorem dX10_dents_164 : decode cX10_dents 164 = .ok (.laload, 1) := by decide +kernel
theorem dX10_dents_165 : decode cX10_dents 165 = .ok (.lcmp, 1) := by decide +kernel
theorem dX10_dents_166 : decode cX10_dents 166 = .ok (.ifCond .ne 7, 3) := by decide +kernel
theorem dX10_dents_169 : decode cX10_dents 169 = .ok (.iconst 1, 1) := by decide +kernel
theorem dX10_dents_170 : decode cX10_dents 170 = .ok (.goto 4, 3) := by decide +kernel
theorem dX10_dents_173 : decode cX10_dents 173 = .ok (.iconst 0, 1) := by decide +kernel
theorem dX10_dents_174 : decode cX10_dents 174 = .ok (.istore 9, 2) := by decide +kernel
theorem dX10_dents_176 : decode cX10_dents 176 = .ok (.iinc 10 1, 3) := by decide +kernel
theorem dX10_dents_179 : decode cX10_dents 179 = .ok (.goto (-49), 3) := by decide +kernel
theorem dX10_dents_182 : decode cX10_dents 182 = .ok (.iload 9, 2) := by decide +kernel
theorem dX10_dents_184 : decode cX10_dents 184 = .ok (.ifCond .eq 17, 3) := by decide +kernel
theorem dX10_dents_187 : decode cX10_dents 187 = .ok (.iload 7, 2) := by decide +kernel
theorem dX10_dents_189 : decode cX10_dents 189 = .ok (.ifCond .ne 12, 3) := by decide +kernel
theorem dX10_dents_192 : decode cX10_dents 192 = .ok (.iload 4, 2) := by decide +kernel
theorem dX10_dents_194 : decode cX10_dents 194 = .ok (.iconst 1, 1) := by decide +kernel
theorem dX10_dents_195 : decode cX10_dents 195 = .ok (.if_icmp .ne 6, 3) := by decide +kernel
theorem dX10_dents_198 : decode cX10_dents 198 = .ok (.iload 8, 2) := by decide +kernel
theorem dX10_dents_200 : decode cX10_dents 200 = .ok (.ireturn, 1) := by decide +kernel
theorem dX10_dents_201 : decode cX10_dents 201 = .ok (.iload 7, 2) := by decide +kernel
theorem dX10_dents_203 : decode cX10_dents 203 = .ok (.iload 9, 2) := by decide +kernel
theorem dX10_dents_205 : decode cX10_dents 205 = .ok (.ifCond .eq 7, 3) := by decide +kernel
theorem dX10_dents_208 : decode cX10_dents 208 = .ok (.iconst 1, 1) := by decide +kernel
theorem dX10_dents_209 : decode cX10_dents 209 = .ok (.goto 4, 3) := by decide +kernel
theorem dX10_dents_212 : decode cX10_dents 212 = .ok (.iconst 0, 1) := by decide +kernel
theorem dX10_dents_213 : decode cX10_dents 213 = .ok (.iadd, 1) := by decide +kernel
theorem dX10_dents_214 : decode cX10_dents 214 = .ok (.istore 7, 2) := by decide +kernel
theorem dX10_dents_216 : decode cX10_dents 216 = .ok (.iinc 8 1, 3) := by decide +kernel
theorem dX10_dents_219 : decode cX10_dents 219 = .ok (.goto (-116), 3) := by decide +kernel
theorem dX10_dents_222 : decode cX10_dents 222 = .ok (.iload 4, 2) := by decide +kernel
theorem dX10_dents_224 : decode cX10_dents 224 = .ok (.ifCond .ne 8, 3) := by decide +kernel
theorem dX10_dents_227 : decode cX10_dents 227 = .ok (.iload 7, 2) := by decide +kernel
theorem dX10_dents_229 : decode cX10_dents 229 = .ok (.goto 5, 3) := by decide +kernel
theorem dX10_dents_232 : decode cX10_dents 232 = .ok (.bipush (-4), 2) := by decide +kernel
theorem dX10_dents_234 : decode cX10_dents 234 = .ok (.ireturn, 1) := by decide +kernel
theorem dX10_tried_0 : decode cX10_tried 0 = .ok (.iload_n 1, 1) := by decide +kernel
theorem dX10_tried_1 : decode cX10_tried 1 = .ok (.invokestatic 277, 3) := by decide +kernel
theorem dX10_tried_4 : decode cX10_tried 4 = .ok (.ifCond .eq 41, 3) := by decide +kernel
theorem dX10_tried_7 : decode cX10_tried 7 = .ok (.iload_n 2, 1) := by decide +kernel
theorem dX10_tried_8 : decode cX10_tried 8 = .ok (.i2l, 1) := by decide +kernel
theorem dX10_tried_9 : decode cX10_tried 9 = .ok (.lconst 0, 1) := by decide +kernel
theorem dX10_tried_10 : decode cX10_tried 10 = .ok (.ldc2_w 246, 3) := by decide +kernel
theorem dX10_tried_13 : decode cX10_tried 13 = .ok (.invokestatic 87, 3) := by decide +kernel
theorem dX10_tried_16 : decode cX10_tried 16 = .ok (.ifCond .eq 29, 3) := by decide +kernel
theorem dX10_tried_19 : decode cX10_tried 19 = .ok (.iload 4, 2) := by decide +kernel
theorem dX10_tried_21 : decode cX10_tried 21 = .ok (.i2l, 1) := by decide +kernel
theorem dX10_tried_22 : decode cX10_tried 22 = .ok (.lconst 1, 1) := by decide +kernel
theorem dX10_tried_23 : decode cX10_tried 23 = .ok (.ldc2_w 143, 3) := by decide +kernel
theorem dX10_tried_26 : decode cX10_tried 26 = .ok (.invokestatic 87, 3) := by decide +kernel
theorem dX10_tried_29 : decode cX10_tried 29 = .ok (.ifCond .eq 16, 3) := by decide +kernel
theorem dX10_tried_32 : decode cX10_tried 32 = .ok (.iload 5, 2) := by decide +kernel
theorem dX10_tried_34 : decode cX10_tried 34 = .ok (.i2l, 1) := by decide +kernel
theorem dX10_tried_35 : decode cX10_tried 35 = .ok (.lconst 0, 1) := by decide +kernel
theorem dX10_tried_36 : decode cX10_tried 36 = .ok (.ldc2_w 246, 3) := by decide +kernel
theorem dX10_tried_39 : decode cX10_tried 39 = .ok (.invokestatic 87, 3) := by decide +kernel
theorem dX10_tried_42 : decode cX10_tried 42 = .ok (.ifCond .ne 5, 3) := by decide +kernel
theorem dX10_tried_45 : decode cX10_tried 45 = .ok (.iconst (-1), 1) := by decide +kernel
theorem dX10_tried_46 : decode cX10_tried 46 = .ok (.ireturn, 1) := by decide +kernel
theorem dX10_tried_47 : decode cX10_tried 47 = .ok (.aload_n 0, 1) := by decide +kernel
theorem dX10_tried_48 : decode cX10_tried 48 = .ok (.iload_n 1, 1) := by decide +kernel
theorem dX10_tried_49 : decode cX10_tried 49 = .ok (.iload_n 2, 1) := by decide +kernel
theorem dX10_tried_50 : decode cX10_tried 50 = .ok (.iload_n 3, 1) := by decide +kernel
theorem dX10_tried_51 : decode cX10_tried 51 = .ok (.iconst 2, 1) := by decide +kernel
theorem dX10_tried_52 : decode cX10_tried 52 = .ok (.iload 4, 2) := by decide +kernel
theorem dX10_tried_54 : decode cX10_tried 54 = .ok (.imul, 1) := by decide +kernel
theorem dX10_tried_55 : decode cX10_tried 55 = .ok (.invokevirtual 280, 3) := by decide +kernel
theorem dX10_tried_58 : decode cX10_tried 58 = .ok (.istore 6, 2) := by decide +kernel
theorem dX10_tried_60 : decode cX10_tried 60 = .ok (.iload 6, 2) := by decide +kernel
theorem dX10_tried_62 : decode cX10_tried 62 = .ok (.ifCond .eq 6, 3) := by decide +kernel
theorem dX10_tried_65 : decode cX10_tried 65 = .ok (.iload 6, 2) := by decide +kernel
theorem dX10_tried_67 : decode cX10_tried 67 = .ok (.ireturn, 1) := by decide +kernel
theorem dX10_tried_68 : decode cX10_tried 68 = .ok (.iconst 0, 1) := by decide +kernel
theorem dX10_tried_69 : decode cX10_tried 69 = .ok (.istore 7, 2) := by decide +kernel
theorem dX10_tried_71 : decode cX10_tried 71 = .ok (.bipush 99, 2) := by decide +kernel
theorem dX10_tried_73 : decode cX10_tried 73 = .ok (.istore 8, 2) := by decide +kernel
theorem dX10_tried_75 : decode cX10_tried 75 = .ok (.iconst 0, 1) := by decide +kernel
theorem dX10_tried_76 : decode cX10_tried 76 = .ok (.istore 9, 2) := by decide +kernel
theorem dX10_tried_78 : decode cX10_tried 78 = .ok (.iload 9, 2) := by decide +kernel
theorem dX10_tried_80 : decode cX10_tried 80 = .ok (.iload 4, 2) := by decide +kernel
theorem dX10_tried_82 : decode cX10_tried 82 = .ok (.if_icmp .ge 128, 3) := by decide +kernel
theorem dX10_tried_85 : decode cX10_tried 85 = .ok (.aload_n 0, 1) := by decide +kernel
theorem dX10_tried_86 : decode cX10_tried 86 = .ok (.getfield 76, 3) := by decide +kernel
theorem dX10_tried_89 : decode cX10_tried 89 = .ok (.bipush 24, 2) := by decide +kernel
theorem dX10_tried_91 : decode cX10_tried 91 = .ok (.iload_n 1, 1) := by decide +kernel
theorem dX10_tried_92 : decode cX10_tried 92 = .ok (.imul, 1) := by decide +kernel
theorem dX10_tried_93 : decode cX10_tried 93 = .ok (.iload_n 3, 1) := by decide +kernel
theorem dX10_tried_94 : decode cX10_tried 94 = .ok (.iadd, 1) := by decide +kernel
theorem dX10_tried_95 : decode cX10_tried 95 = .ok (.iconst 2, 1) := by decide +kernel
theorem dX10_tried_96 : decode cX10_tried 96 = .ok (.iload 9, 2) := by decide +kernel
theorem dX10_tried_98 : decode cX10_tried 98 = .ok (.imul, 1) := by decide +kernel
theorem dX10_tried_99 : decode cX10_tried 99 = .ok (.iadd, 1) := by decide +kernel
theorem dX10_tried_100 : decode cX10_tried 100 = .ok (.laload, 1) := by decide +kernel
theorem dX10_tried_101 : decode cX10_tried 101 = .ok (.lstore 10, 2) := by decide +kernel
theorem dX10_tried_103 : decode cX10_tried 103 = .ok (.aload_n 0, 1) := by decide +kernel
theorem dX10_tried_104 : decode cX10_tried 104 = .ok (.getfield 76, 3) := by decide +kernel
theorem dX10_tried_107 : decode cX10_tried 107 = .ok (.bipush 24, 2) := by decide +kernel
theorem dX10_tried_109 : decode cX10_tried 109 = .ok (.iload_n 1, 1) := by decide +kernel
theorem dX10_tried_110 : decode cX10_tried 110 = .ok (.imul, 1) := by decide +kernel
theorem dX10_tried_111 : decode cX10_tried 111 = .ok (.iload_n 3, 1) := by decide +kernel
theorem dX10_tried_112 : decode cX10_tried 112 = .ok (.iadd, 1) := by decide +kernel
theorem dX10_tried_113 : decode cX10_tried 113 = .ok (.iconst 2, 1) := by decide +kernel
theorem dX10_tried_114 : decode cX10_tried 114 = .ok (.iload 9, 2) := by decide +kernel
theorem dX10_tried_116 : decode cX10_tried 116 = .ok (.imul, 1) := by decide +kernel
theorem dX10_tried_117 : decode cX10_tried 117 = .ok (.iadd, 1) := by decide +kernel
theorem dX10_tried_118 : decode cX10_tried 118 = .ok (.iconst 1, 1) := by decide +kernel
theorem dX10_tried_119 : decode cX10_tried 119 = .ok (.iadd, 1) := by decide +kernel
theorem dX10_tried_120 : decode cX10_tried 120 = .ok (.laload, 1) := by decide +kernel
theorem dX10_tried_121 : decode cX10_tried 121 = .ok (.lstore 12, 2) := by decide +kernel
theorem dX10_tried_123 : decode cX10_tried 123 = .ok (.lload 10, 2) := by decide +kernel
theorem dX10_tried_125 : decode cX10_tried 125 = .ok (.lconst 0, 1) := by decide +kernel
theorem dX10_tried_126 : decode cX10_tried 126 = .ok (.ldc2_w 106, 3) := by decide +kernel
theorem dX10_tried_129 : decode cX10_tried 129 = .ok (.invokestatic 87, 3) := by decide +kernel
theorem dX10_tried_132 : decode cX10_tried 132 = .ok (.ifCond .eq 13, 3) := by decide +kernel
theorem dX10_tried_135 : decode cX10_tried 135 = .ok (.lload 12, 2) := by decide +kernel
theorem dX10_tried_137 : decode cX10_tried 137 = .ok (.lconst 0, 1) := by decide +kernel
theorem dX10_tried_138 : decode cX10_tried 138 = .ok (.lconst 1, 1) := by decide +kernel
theorem dX10_tried_139 : decode cX10_tried 139 = .ok (.invokestatic 87, 3) := by decide +kernel
theorem dX10_tried_142 : decode cX10_tried 142 = .ok (.ifCond .ne 6, 3) := by decide +kernel
theorem dX10_tried_145 : decode cX10_tried 145 = .ok (.bipush (-2), 2) := by decide +kernel
theorem dX10_tried_147 : decode cX10_tried 147 = .ok (.ireturn, 1) := by decide +kernel
theorem dX10_tried_148 : decode cX10_tried 148 = .ok (.lload 12, 2) := by decide +kernel
theorem dX10_tried_150 : decode cX10_tried 150 = .ok (.lconst 1, 1) := by decide +kernel
theorem dX10_tried_151 : decode cX10_tried 151 = .ok (.lcmp, 1) := by decide +kernel
theorem dX10_tried_152 : decode cX10_tried 152 = .ok (.ifCond .ne 22, 3) := by decide +kernel
theorem dX10_tried_155 : decode cX10_tried 155 = .ok (.lload 10, 2) := by decide +kernel
theorem dX10_tried_157 : decode cX10_tried 157 = .ok (.lconst 1, 1) := by decide +kernel
theorem dX10_tried_158 : decode cX10_tried 158 = .ok (.lsub, 1) := by decide +kernel
theorem dX10_tried_159 : decode cX10_tried 159 = .ok (.iload 8, 2) := by decide +kernel
theorem dX10_tried_161 : decode cX10_tried 161 = .ok (.i2l, 1) := by decide +kernel
theorem dX10_tried_162 : decode cX10_tried 162 = .ok (.lcmp, 1) := by decide +kernel
theorem dX10_tried_163 : decode cX10_tried 163 = .ok (.ifCond .ge 11, 3) := by decide +kernel
theorem dX10_tried_166 : decode cX10_tried 166 = .ok (.lload 10, 2) := by decide +kernel
theorem dX10_tried_168 : decode cX10_tried 168 = .ok (.l2i, 1) := by decide +kernel
theorem dX10_tried_169 : decode cX10_tried 169 = .ok (.iconst 1, 1) := by decide +kernel
theorem dX10_tried_170 : decode cX10_tried 170 = .ok (.isub, 1) := by decide +kernel
theorem dX10_tried_171 : decode cX10_tried 171 = .ok (.goto 5, 3) := by decide +kernel
theorem dX10_tried_174 : decode cX10_tried 174 = .ok (.iload 8, 2) := by decide +kernel
theorem dX10_tried_176 : decode cX10_tried 176 = .ok (.istore 8, 2) := by decide +kernel
theorem dX10_tried_178 : decode cX10_tried 178 = .ok (.lload 12, 2) := by decide +kernel
theorem dX10_tried_180 : decode cX10_tried 180 = .ok (.lconst 0, 1) := by decide +kernel
theorem dX10_tried_181 : decode cX10_tried 181 = .ok (.lcmp, 1) := by decide +kernel
theorem dX10_tried_182 : decode cX10_tried 182 = .ok (.ifCond .ne 18, 3) := by decide +kernel
theorem dX10_tried_185 : decode cX10_tried 185 = .ok (.lload 10, 2) := by decide +kernel
theorem dX10_tried_187 : decode cX10_tried 187 = .ok (.iload 7, 2) := by decide +kernel
theorem dX10_tried_189 : decode cX10_tried 189 = .ok (.i2l, 1) := by decide +kernel
theorem dX10_tried_190 : decode cX10_tried 190 = .ok (.lcmp, 1) := by decide +kernel
theorem dX10_tried_191 : decode cX10_tried 191 = .ok (.ifCond .le 9, 3) := by decide +kernel
theorem dX10_tried_194 : decode cX10_tried 194 = .ok (.lload 10, 2) := by decide +kernel
theorem dX10_tried_196 : decode cX10_tried 196 = .ok (.l2i, 1) := by decide +kernel
theorem dX10_tried_197 : decode cX10_tried 197 = .ok (.goto 5, 3) := by decide +kernel
theorem dX10_tried_200 : decode cX10_tried 200 = .ok (.iload 7, 2) := by decide +kernel
theorem dX10_tried_202 : decode cX10_tried 202 = .ok (.istore 7, 2) := by decide +kernel
theorem dX10_tried_204 : decode cX10_tried 204 = .ok (.iinc 9 1, 3) := by decide +kernel
theorem dX10_tried_207 : decode cX10_tried 207 = .ok (.goto (-129), 3) := by decide +kernel
theorem dX10_tried_210 : decode cX10_tried 210 = .ok (.iload 8, 2) := by decide +kernel
theorem dX10_tried_212 : decode cX10_tried 212 = .ok (.iload 7, 2) := by decide +kernel
theorem dX10_tried_214 : decode cX10_tried 214 = .ok (.isub, 1) := by decide +kernel
theorem dX10_tried_215 : decode cX10_tried 215 = .ok (.iconst 1, 1) := by decide +kernel
theorem dX10_tried_216 : decode cX10_tried 216 = .ok (.iadd, 1) := by decide +kernel
theorem dX10_tried_217 : decode cX10_tried 217 = .ok (.istore 9, 2) := by decide +kernel
theorem dX10_tried_219 : decode cX10_tried 219 = .ok (.iload 9, 2) := by decide +kernel
theorem dX10_tried_221 : decode cX10_tried 221 = .ok (.iconst 1, 1) := by decide +kernel
theorem dX10_tried_222 : decode cX10_tried 222 = .ok (.if_icmp .lt 15, 3) := by decide +kernel
theorem dX10_tried_225 : decode cX10_tried 225 = .ok (.iload 5, 2) := by decide +kernel
theorem dX10_tried_227 : decode cX10_tried 227 = .ok (.iconst 2, 1) := by decide +kernel
theorem dX10_tried_228 : decode cX10_tried 228 = .ok (.if_icmp .ne 12, 3) := by decide +kernel
theorem dX10_tried_231 : decode cX10_tried 231 = .ok (.iload 9, 2) := by decide +kernel
theorem dX10_tried_233 : decode cX10_tried 233 = .ok (.iconst 2, 1) := by decide +kernel
theorem dX10_tried_234 : decode cX10_tried 234 = .ok (.if_icmp .ge 6, 3) := by decide +kernel
theorem dX10_tried_237 : decode cX10_tried 237 = .ok (.bipush (-4), 2) := by decide +kernel
theorem dX10_tried_239 : decode cX10_tried 239 = .ok (.ireturn, 1) := by decide +kernel
theorem dX10_tried_240 : decode cX10_tried 240 = .ok (.iload 5, 2) := by decide +kernel
theorem dX10_tried_242 : decode cX10_tried 242 = .ok (.ifCond .ne 8, 3) := by decide +kernel
theorem dX10_tried_245 : decode cX10_tried 245 = .ok (.iload 7, 2) := by decide +kernel
theorem dX10_tried_247 : decode cX10_tried 247 = .ok (.goto 21, 3) := by decide +kernel
theorem dX10_tried_250 : decode cX10_tried 250 = .ok (.iload 5, 2) := by decide +kernel
theorem dX10_tried_252 : decode cX10_tried 252 = .ok (.iconst 1, 1) := by decide +kernel
theorem dX10_tried_253 : decode cX10_tried 253 = .ok (.if_icmp .ne 8, 3) := by decide +kernel
theorem dX10_tried_256 : decode cX10_tried 256 = .ok (.iload 8, 2) := by decide +kernel
theorem dX10_tried_258 : decode cX10_tried 258 = .ok (.goto 10, 3) := by decide +kernel
theorem dX10_tried_261 : decode cX10_tried 261 = .ok (.iload 7, 2) := by decide +kernel
theorem dX10_tried_263 : decode cX10_tried 263 = .ok (.iload 8, 2) := by decide +kernel
theorem dX10_tried_265 : decode cX10_tried 265 = .ok (.invokestatic 287, 3) := by decide +kernel
theorem dX10_tried_268 : decode cX10_tried 268 = .ok (.ireturn, 1) := by decide +kernel
theorem dX10_nextOf_0 : decode cX10_nextOf 0 = .ok (.iconst (-1), 1) := by decide +kernel
theorem dX10_nextOf_1 : decode cX10_nextOf 1 = .ok (.istore_n 2, 1) := by decide +kernel
theorem dX10_nextOf_2 : decode cX10_nextOf 2 = .ok (.iconst 0, 1) := by decide +kernel
theorem dX10_nextOf_3 : decode cX10_nextOf 3 = .ok (.istore_n 3, 1) := by decide +kernel
theorem dX10_nextOf_4 : decode cX10_nextOf 4 = .ok (.iconst 0, 1) := by decide +kernel
theorem dX10_nextOf_5 : decode cX10_nextOf 5 = .ok (.istore 4, 2) := by decide +kernel
theorem dX10_nextOf_7 : decode cX10_nextOf 7 = .ok (.iload 4, 2) := by decide +kernel
theorem dX10_nextOf_9 : decode cX10_nextOf 9 = .ok (.bipush 100, 2) := by decide +kernel
theorem dX10_nextOf_11 : decode cX10_nextOf 11 = .ok (.if_icmp .ge 106, 3) := by decide +kernel
theorem dX10_nextOf_14 : decode cX10_nextOf 14 = .ok (.iload 4, 2) := by decide +kernel
theorem dX10_nextOf_16 : decode cX10_nextOf 16 = .ok (.iload_n 0, 1) := by decide +kernel
theorem dX10_nextOf_17 : decode cX10_nextOf 17 = .ok (.if_icmp .gt 7, 3) := by decide +kernel
theorem dX10_nextOf_20 : decode cX10_nextOf 20 = .ok (.iconst 0, 1) := by decide +kernel
theorem dX10_nextOf_21 : decode cX10_nextOf 21 = .ok (.goto 21, 3) := by decide +kernel
theorem dX10_nextOf_24 : decode cX10_nextOf 24 = .ok (.iload 4, 2) := by decide +kernel
theorem dX10_nextOf_26 : decode cX10_nextOf 26 = .ok (.iload_n 1, 1) := by decide +kernel
theorem dX10_nextOf_27 : decode cX10_nextOf 27 = .ok (.if_icmp .le 11, 3) := by decide +kernel
theorem dX10_nextOf_30 : decode cX10_nextOf 30 = .ok (.iload_n 1, 1) := by decide +kernel
theorem dX10_nextOf_31 : decode cX10_nextOf 31 = .ok (.iload_n 0, 1) := by decide +kernel
theorem dX10_nextOf_32 : decode cX10_nextOf 32 = .ok (.isub, 1) := by decide +kernel
theorem dX10_nextOf_33 : decode cX10_nextOf 33 = .ok (.iconst 1, 1) := by decide +kernel
theorem dX10_nextOf_34 : decode cX10_nextOf 34 = .ok (.iadd, 1) := by decide +kernel
theorem dX10_nextOf_35 : decode cX10_nextOf 35 = .ok (.goto 7, 3) := by decide +kernel
theorem dX10_nextOf_38 : decode cX10_nextOf 38 = .ok (.iload 4, 2) := by decide +kernel
theorem dX10_nextOf_40 : decode cX10_nextOf 40 = .ok (.iload_n 0, 1) := by decide +kernel
theorem dX10_nextOf_41 : decode cX10_nextOf 41 = .ok (.isub, 1) := by decide +kernel
theorem dX10_nextOf_42 : decode cX10_nextOf 42 = .ok (.istore 5, 2) := by decide +kernel
theorem dX10_nextOf_44 : decode cX10_nextOf 44 = .ok (.iload_n 1, 1) := by decide +kernel
theorem dX10_nextOf_45 : decode cX10_nextOf 45 = .ok (.iload_n 0, 1) := by decide +kernel
theorem dX10_nextOf_46 : decode cX10_nextOf 46 = .ok (.isub, 1) := by decide +kernel
theorem dX10_nextOf_47 : decode cX10_nextOf 47 = .ok (.iconst 1, 1) := by decide +kernel
theorem dX10_nextOf_48 : decode cX10_nextOf 48 = .ok (.iadd, 1) := by decide +kernel
theorem dX10_nextOf_49 : decode cX10_nextOf 49 = .ok (.iload 5, 2) := by decide +kernel
theorem dX10_nextOf_51 : decode cX10_nextOf 51 = .ok (.isub, 1) := by decide +kernel
theorem dX10_nextOf_52 : decode cX10_nextOf 52 = .ok (.istore 6, 2) := by decide +kernel
theorem dX10_nextOf_54 : decode cX10_nextOf 54 = .ok (.iload 5, 2) := by decide +kernel
theorem dX10_nextOf_56 : decode cX10_nextOf 56 = .ok (.iload 6, 2) := by decide +kernel
theorem dX10_nextOf_58 : decode cX10_nextOf 58 = .ok (.if_icmp .le 8, 3) := by decide +kernel
theorem dX10_nextOf_61 : decode cX10_nextOf 61 = .ok (.iload 5, 2) := by decide +kernel
theorem dX10_nextOf_63 : decode cX10_nextOf 63 = .ok (.goto 5, 3) := by decide +kernel
theorem dX10_nextOf_66 : decode cX10_nextOf 66 = .ok (.iload 6, 2) := by decide +kernel
theorem dX10_nextOf_68 : decode cX10_nextOf 68 = .ok (.istore 7, 2) := by decide +kernel
theorem dX10_nextOf_70 : decode cX10_nextOf 70 = .ok (.iload_n 2, 1) := by decide +kernel
theorem dX10_nextOf_71 : decode cX10_nextOf 71 = .ok (.ifCond .lt 9, 3) := by decide +kernel
theorem dX10_nextOf_74 : decode cX10_nextOf 74 = .ok (.iload 7, 2) := by decide +kernel
theorem dX10_nextOf_76 : decode cX10_nextOf 76 = .ok (.iload_n 3, 1) := by decide +kernel
theorem dX10_nextOf_77 : decode cX10_nextOf 77 = .ok (.if_icmp .ge 7, 3) := by decide +kernel
theorem dX10_nextOf_80 : decode cX10_nextOf 80 = .ok (.iconst 1, 1) := by decide +kernel
theorem dX10_nextOf_81 : decode cX10_nextOf 81 = .ok (.goto 4, 3) := by decide +kernel
theorem dX10_nextOf_84 : decode cX10_nextOf 84 = .ok (.iconst 0, 1) := by decide +kernel
theorem dX10_nextOf_85 : decode cX10_nextOf 85 = .ok (.istore 8, 2) := by decide +kernel
theorem dX10_nextOf_87 : decode cX10_nextOf 87 = .ok (.iload 8, 2) := by decide +kernel
theorem dX10_nextOf_89 : decode cX10_nextOf 89 = .ok (.ifCond .eq 8, 3) := by decide +kernel
theorem dX10_nextOf_92 : decode cX10_nextOf 92 = .ok (.iload 4, 2) := by decide +kernel
theorem dX10_nextOf_94 : decode cX10_nextOf 94 = .ok (.goto 4, 3) := by decide +kernel
theorem dX10_nextOf_97 : decode cX10_nextOf 97 = .ok (.iload_n 2, 1) := by decide +kernel
theorem dX10_nextOf_98 : decode cX10_nextOf 98 = .ok (.istore_n 2, 1) := by decide +kernel
theorem dX10_nextOf_99 : decode cX10_nextOf 99 = .ok (.iload 8, 2) := by decide +kernel
theorem dX10_nextOf_101 : decode cX10_nextOf 101 = .ok (.ifCond .eq 8, 3) := by decide +kernel
theorem dX10_nextOf_104 : decode cX10_nextOf 104 = .ok (.iload 7, 2) := by decide +kernel
theorem dX10_nextOf_106 : decode cX10_nextOf 106 = .ok (.goto 4, 3) := by decide +kernel
theorem dX10_nextOf_109 : decode cX10_nextOf 109 = .ok (.iload_n 3, 1) := by decide +kernel
theorem dX10_nextOf_110 : decode cX10_nextOf 110 = .ok (.istore_n 3, 1) := by decide +kernel
theorem dX10_nextOf_111 : decode cX10_nextOf 111 = .ok (.iinc 4 1, 3) := by decide +kernel
theorem dX10_nextOf_114 : decode cX10_nextOf 114 = .ok (.goto (-107), 3) := by decide +kernel
theorem dX10_nextOf_117 : decode cX10_nextOf 117 = .ok (.iload_n 2, 1) := by decide +kernel
theorem dX10_nextOf_118 : decode cX10_nextOf 118 = .ok (.ireturn, 1) := by decide +kernel
theorem dX10_film_0 : decode cX10_film 0 = .ok (.iload_n 1, 1) := by decide +kernel
theorem dX10_film_1 : decode cX10_film 1 = .ok (.invokestatic 277, 3) := by decide +kernel
theorem dX10_film_4 : decode cX10_film 4 = .ok (.ifCond .eq 15, 3) := by decide +kernel
theorem dX10_film_7 : decode cX10_film 7 = .ok (.iload_n 2, 1) := by decide +kernel
theorem dX10_film_8 : decode cX10_film 8 = .ok (.i2l, 1) := by decide +kernel
theorem dX10_film_9 : decode cX10_film 9 = .ok (.lconst 0, 1) := by decide +kernel
theorem dX10_film_10 : decode cX10_film 10 = .ok (.ldc2_w 246, 3) := by decide +kernel
theorem dX10_film_13 : decode cX10_film 13 = .ok (.invokestatic 87, 3) := by decide +kernel
theorem dX10_film_16 : decode cX10_film 16 = .ok (.ifCond .ne 5, 3) := by decide +kernel
theorem dX10_film_19 : decode cX10_film 19 = .ok (.iconst (-1), 1) := by decide +kernel
theorem dX10_film_20 : decode cX10_film 20 = .ok (.ireturn, 1) := by decide +kernel
theorem dX10_film_21 : decode cX10_film 21 = .ok (.aload_n 0, 1) := by decide +kernel
theorem dX10_film_22 : decode cX10_film 22 = .ok (.iload_n 1, 1) := by decide +kernel
theorem dX10_film_23 : decode cX10_film 23 = .ok (.iload_n 2, 1) := by decide +kernel
theorem dX10_film_24 : decode cX10_film 24 = .ok (.iload_n 3, 1) := by decide +kernel
theorem dX10_film_25 : decode cX10_film 25 = .ok (.bipush 6, 2) := by decide +kernel
theorem dX10_film_27 : decode cX10_film 27 = .ok (.invokevirtual 280, 3) := by decide +kernel
theorem dX10_film_30 : decode cX10_film 30 = .ok (.istore 4, 2) := by decide +kernel
theorem dX10_film_32 : decode cX10_film 32 = .ok (.iload 4, 2) := by decide +kernel
theorem dX10_film_34 : decode cX10_film 34 = .ok (.ifCond .eq 6, 3) := by decide +kernel
theorem dX10_film_37 : decode cX10_film 37 = .ok (.iload 4, 2) := by decide +kernel
theorem dX10_film_39 : decode cX10_film 39 = .ok (.ireturn, 1) := by decide +kernel
theorem dX10_film_40 : decode cX10_film 40 = .ok (.iconst 0, 1) := by decide +kernel
theorem dX10_film_41 : decode cX10_film 41 = .ok (.istore 5, 2) := by decide +kernel
theorem dX10_film_43 : decode cX10_film 43 = .ok (.iload 5, 2) := by decide +kernel
theorem dX10_film_45 : decode cX10_film 45 = .ok (.bipush 6, 2) := by decide +kernel
theorem dX10_film_47 : decode cX10_film 47 = .ok (.if_icmp .ge 34, 3) := by decide +kernel
theorem dX10_film_50 : decode cX10_film 50 = .ok (.aload_n 0, 1) := by decide +kernel
theorem dX10_film_51 : decode cX10_film 51 = .ok (.getfield 76, 3) := by decide +kernel
theorem dX10_film_54 : decode cX10_film 54 = .ok (.bipush 24, 2) := by decide +kernel
theorem dX10_film_56 : decode cX10_film 56 = .ok (.iload_n 1, 1) := by decide +kernel
theorem dX10_film_57 : decode cX10_film 57 = .ok (.imul, 1) := by decide +kernel
theorem dX10_film_58 : decode cX10_film 58 = .ok (.iload_n 3, 1) := by decide +kernel
theorem dX10_film_59 : decode cX10_film 59 = .ok (.iadd, 1) := by decide +kernel
theorem dX10_film_60 : decode cX10_film 60 = .ok (.iload 5, 2) := by decide +kernel
theorem dX10_film_62 : decode cX10_film 62 = .ok (.iadd, 1) := by decide +kernel
theorem dX10_film_63 : decode cX10_film 63 = .ok (.iload_n 2, 1) := by decide +kernel
theorem dX10_film_64 : decode cX10_film 64 = .ok (.aload_n 0, 1) := by decide +kernel
theorem dX10_film_65 : decode cX10_film 65 = .ok (.iload 5, 2) := by decide +kernel
theorem dX10_film_67 : decode cX10_film 67 = .ok (.invokevirtual 127, 3) := by decide +kernel
theorem dX10_film_70 : decode cX10_film 70 = .ok (.i2l, 1) := by decide +kernel
theorem dX10_film_71 : decode cX10_film 71 = .ok (.invokestatic 290, 3) := by decide +kernel
theorem dX10_film_74 : decode cX10_film 74 = .ok (.lastore, 1) := by decide +kernel
theorem dX10_film_75 : decode cX10_film 75 = .ok (.iinc 5 1, 3) := by decide +kernel
theorem dX10_film_78 : decode cX10_film 78 = .ok (.goto (-35), 3) := by decide +kernel
theorem dX10_film_81 : decode cX10_film 81 = .ok (.bipush 6, 2) := by decide +kernel
theorem dX10_film_83 : decode cX10_film 83 = .ok (.ireturn, 1) := by decide +kernel
theorem dX10_sheet_0 : decode cX10_sheet 0 = .ok (.iload_n 1, 1) := by decide +kernel
theorem dX10_sheet_1 : decode cX10_sheet 1 = .ok (.invokestatic 277, 3) := by decide +kernel
theorem dX10_sheet_4 : decode cX10_sheet 4 = .ok (.ifCond .eq 21, 3) := by decide +kernel
theorem dX10_sheet_7 : decode cX10_sheet 7 = .ok (.iload_n 2, 1) := by decide +kernel
theorem dX10_sheet_8 : decode cX10_sheet 8 = .ok (.i2l, 1) := by decide +kernel
theorem dX10_sheet_9 : decode cX10_sheet 9 = .ok (.lconst 0, 1) := by decide +kernel
theorem dX10_sheet_10 : decode cX10_sheet 10 = .ok (.ldc2_w 246, 3) := by decide +kernel
theorem dX10_sheet_13 : decode cX10_sheet 13 = .ok (.invokestatic 87, 3) := by decide +kernel
theorem dX10_sheet_16 : decode cX10_sheet 16 = .ok (.ifCond .eq 9, 3) := by decide +kernel
theorem dX10_sheet_19 : decode cX10_sheet 19 = .ok (.iload_n 3, 1) := by decide +kernel
theorem dX10_sheet_20 : decode cX10_sheet 20 = .ok (.bipush 24, 2) := by decide +kernel
theorem dX10_sheet_22 : decode cX10_sheet 22 = .ok (.if_icmp .le 5, 3) := by decide +kernel
theorem dX10_sheet_25 : decode cX10_sheet 25 = .ok (.iconst (-1), 1) := by decide +kernel
theorem dX10_sheet_26 : decode cX10_sheet 26 = .ok (.ireturn, 1) := by decide +kernel
theorem dX10_sheet_27 : decode cX10_sheet 27 = .ok (.iload_n 3, 1) := by decide +kernel
theorem dX10_sheet_28 : decode cX10_sheet 28 = .ok (.ifCond .ge 6, 3) := by decide +kernel
theorem dX10_sheet_31 : decode cX10_sheet 31 = .ok (.bipush (-14), 2) := by decide +kernel
theorem dX10_sheet_33 : decode cX10_sheet 33 = .ok (.ireturn, 1) := by decide +kernel
theorem dX10_sheet_34 : decode cX10_sheet 34 = .ok (.aload_n 0, 1) := by decide +kernel
theorem dX10_sheet_35 : decode cX10_sheet 35 = .ok (.getfield 70, 3) := by decide +kernel
theorem dX10_sheet_38 : decode cX10_sheet 38 = .ok (.iload_n 1, 1) := by decide +kernel
theorem dX10_sheet_39 : decode cX10_sheet 39 = .ok (.iload_n 2, 1) := by decide +kernel
theorem dX10_sheet_40 : decode cX10_sheet 40 = .ok (.iastore, 1) := by decide +kernel
theorem dX10_sheet_41 : decode cX10_sheet 41 = .ok (.aload_n 0, 1) := by decide +kernel
theorem dX10_sheet_42 : decode cX10_sheet 42 = .ok (.getfield 73, 3) := by decide +kernel
theorem dX10_sheet_45 : decode cX10_sheet 45 = .ok (.iload_n 1, 1) := by decide +kernel
theorem dX10_sheet_46 : decode cX10_sheet 46 = .ok (.iload_n 3, 1) := by decide +kernel
theorem dX10_sheet_47 : decode cX10_sheet 47 = .ok (.iastore, 1) := by decide +kernel
theorem dX10_sheet_48 : decode cX10_sheet 48 = .ok (.iconst 0, 1) := by decide +kernel
theorem dX10_sheet_49 : decode cX10_sheet 49 = .ok (.istore 4, 2) := by decide +kernel
theorem dX10_sheet_51 : decode cX10_sheet 51 = .ok (.iload 4, 2) := by decide +kernel
theorem dX10_sheet_53 : decode cX10_sheet 53 = .ok (.bipush 24, 2) := by decide +kernel
theorem dX10_sheet_55 : decode cX10_sheet 55 = .ok (.if_icmp .ge 22, 3) := by decide +kernel
theorem dX10_sheet_58 : decode cX10_sheet 58 = .ok (.aload_n 0, 1) := by decide +kernel
theorem dX10_sheet_59 : decode cX10_sheet 59 = .ok (.getfield 76, 3) := by decide +kernel
theorem dX10_sheet_62 : decode cX10_sheet 62 = .ok (.bipush 24, 2) := by decide +kernel
theorem dX10_sheet_64 : decode cX10_sheet 64 = .ok (.iload_n 1, 1) := by decide +kernel
theorem dX10_sheet_65 : decode cX10_sheet 65 = .ok (.imul, 1) := by decide +kernel
theorem dX10_sheet_66 : decode cX10_sheet 66 = .ok (.iload 4, 2) := by decide +kernel
theorem dX10_sheet_68 : decode cX10_sheet 68 = .ok (.iadd, 1) := by decide +kernel
theorem dX10_sheet_69 : decode cX10_sheet 69 = .ok (.lconst 0, 1) := by decide +kernel
theorem dX10_sheet_70 : decode cX10_sheet 70 = .ok (.lastore, 1) := by decide +kernel
theorem dX10_sheet_71 : decode cX10_sheet 71 = .ok (.iinc 4 1, 3) := by decide +kernel
theorem dX10_sheet_74 : decode cX10_sheet 74 = .ok (.goto (-23), 3) := by decide +kernel
theorem dX10_sheet_77 : decode cX10_sheet 77 = .ok (.iload_n 3, 1) := by decide +kernel
theorem dX10_sheet_78 : decode cX10_sheet 78 = .ok (.ireturn, 1) := by decide +kernel
theorem dX10_drop_0 : decode cX10_drop 0 = .ok (.iload_n 1, 1) := by decide +kernel
theorem dX10_drop_1 : decode cX10_drop 1 = .ok (.invokestatic 277, 3) := by decide +kernel
theorem dX10_drop_4 : decode cX10_drop 4 = .ok (.ifCond .ne 5, 3) := by decide +kernel
theorem dX10_drop_7 : decode cX10_drop 7 = .ok (.iconst (-1), 1) := by decide +kernel
theorem dX10_drop_8 : decode cX10_drop 8 = .ok (.ireturn, 1) := by decide +kernel
theorem dX10_drop_9 : decode cX10_drop 9 = .ok (.aload_n 0, 1) := by decide +kernel
theorem dX10_drop_10 : decode cX10_drop 10 = .ok (.getfield 70, 3) := by decide +kernel
theorem dX10_drop_13 : decode cX10_drop 13 = .ok (.iload_n 1, 1) := by decide +kernel
theorem dX10_drop_14 : decode cX10_drop 14 = .ok (.iaload, 1) := by decide +kernel
theorem dX10_drop_15 : decode cX10_drop 15 = .ok (.ifCond .ge 6, 3) := by decide +kernel
theorem dX10_drop_18 : decode cX10_drop 18 = .ok (.bipush (-11), 2) := by decide +kernel
theorem dX10_drop_20 : decode cX10_drop 20 = .ok (.ireturn, 1) := by decide +kernel
theorem dX10_drop_21 : decode cX10_drop 21 = .ok (.aload_n 0, 1) := by decide +kernel
theorem dX10_drop_22 : decode cX10_drop 22 = .ok (.getfield 70, 3) := by decide +kernel
theorem dX10_drop_25 : decode cX10_drop 25 = .ok (.iload_n 1, 1) := by decide +kernel
theorem dX10_drop_26 : decode cX10_drop 26 = .ok (.iconst (-1), 1) := by decide +kernel
theorem dX10_drop_27 : decode cX10_drop 27 = .ok (.iastore, 1) := by decide +kernel
theorem dX10_drop_28 : decode cX10_drop 28 = .ok (.aload_n 0, 1) := by decide +kernel
theorem dX10_drop_29 : decode cX10_drop 29 = .ok (.getfield 73, 3) := by decide +kernel
theorem dX10_drop_32 : decode cX10_drop 32 = .ok (.iload_n 1, 1) := by decide +kernel
theorem dX10_drop_33 : decode cX10_drop 33 = .ok (.iaload, 1) := by decide +kernel
theorem dX10_drop_34 : decode cX10_drop 34 = .ok (.ireturn, 1) := by decide +kernel
theorem dX10_item_0 : decode cX10_item 0 = .ok (.iload_n 1, 1) := by decide +kernel
theorem dX10_item_1 : decode cX10_item 1 = .ok (.invokestatic 277, 3) := by decide +kernel
theorem dX10_item_4 : decode cX10_item 4 = .ok (.ifCond .eq 15, 3) := by decide +kernel
theorem dX10_item_7 : decode cX10_item 7 = .ok (.iload_n 2, 1) := by decide +kernel
theorem dX10_item_8 : decode cX10_item 8 = .ok (.i2l, 1) := by decide +kernel
theorem dX10_item_9 : decode cX10_item 9 = .ok (.lconst 0, 1) := by decide +kernel
theorem dX10_item_10 : decode cX10_item 10 = .ok (.ldc2_w 246, 3) := by decide +kernel
theorem dX10_item_13 : decode cX10_item 13 = .ok (.invokestatic 87, 3) := by decide +kernel
theorem dX10_item_16 : decode cX10_item 16 = .ok (.ifCond .ne 5, 3) := by decide +kernel
theorem dX10_item_19 : decode cX10_item 19 = .ok (.iconst (-1), 1) := by decide +kernel
theorem dX10_item_20 : decode cX10_item 20 = .ok (.ireturn, 1) := by decide +kernel
theorem dX10_item_21 : decode cX10_item 21 = .ok (.aload_n 0, 1) := by decide +kernel
theorem dX10_item_22 : decode cX10_item 22 = .ok (.iload_n 1, 1) := by decide +kernel
theorem dX10_item_23 : decode cX10_item 23 = .ok (.iload_n 2, 1) := by decide +kernel
theorem dX10_item_24 : decode cX10_item 24 = .ok (.iload_n 3, 1) := by decide +kernel
theorem dX10_item_25 : decode cX10_item 25 = .ok (.iconst 1, 1) := by decide +kernel
theorem dX10_item_26 : decode cX10_item 26 = .ok (.invokevirtual 280, 3) := by decide +kernel
theorem dX10_item_29 : decode cX10_item 29 = .ok (.istore 6, 2) := by decide +kernel
theorem dX10_item_31 : decode cX10_item 31 = .ok (.iload 6, 2) := by decide +kernel
theorem dX10_item_33 : decode cX10_item 33 = .ok (.ifCond .eq 6, 3) := by decide +kernel
theorem dX10_item_36 : decode cX10_item 36 = .ok (.iload 6, 2) := by decide +kernel
theorem dX10_item_38 : decode cX10_item 38 = .ok (.ireturn, 1) := by decide +kernel
theorem dX10_item_39 : decode cX10_item 39 = .ok (.aload_n 0, 1) := by decide +kernel
theorem dX10_item_40 : decode cX10_item 40 = .ok (.getfield 76, 3) := by decide +kernel
theorem dX10_item_43 : decode cX10_item 43 = .ok (.bipush 24, 2) := by decide +kernel
theorem dX10_item_45 : decode cX10_item 45 = .ok (.iload_n 1, 1) := by decide +kernel
theorem dX10_item_46 : decode cX10_item 46 = .ok (.imul, 1) := by decide +kernel
theorem dX10_item_47 : decode cX10_item 47 = .ok (.iload_n 3, 1) := by decide +kernel
theorem dX10_item_48 : decode cX10_item 48 = .ok (.iadd, 1) := by decide +kernel
theorem dX10_item_49 : decode cX10_item 49 = .ok (.iload_n 2, 1) := by decide +kernel
theorem dX10_item_50 : decode cX10_item 50 = .ok (.lload 4, 2) := by decide +kernel
theorem dX10_item_52 : decode cX10_item 52 = .ok (.invokestatic 290, 3) := by decide +kernel
theorem dX10_item_55 : decode cX10_item 55 = .ok (.lastore, 1) := by decide +kernel
theorem dX10_item_56 : decode cX10_item 56 = .ok (.iconst 1, 1) := by decide +kernel
theorem dX10_item_57 : decode cX10_item 57 = .ok (.ireturn, 1) := by decide +kernel
theorem dX10_copy_0 : decode cX10_copy 0 = .ok (.iload_n 1, 1) := by decide +kernel
theorem dX10_copy_1 : decode cX10_copy 1 = .ok (.invokestatic 277, 3) := by decide +kernel
theorem dX10_copy_4 : decode cX10_copy 4 = .ok (.ifCond .eq 10, 3) := by decide +kernel
theorem dX10_copy_7 : decode cX10_copy 7 = .ok (.iload_n 3, 1) := by decide +kernel
theorem dX10_copy_8 : decode cX10_copy 8 = .ok (.invokestatic 277, 3) := by decide +kernel
theorem dX10_copy_11 : decode cX10_copy 11 = .ok (.ifCond .ne 5, 3) := by decide +kernel
theorem dX10_copy_14 : decode cX10_copy 14 = .ok (.iconst (-1), 1) := by decide +kernel
theorem dX10_copy_15 : decode cX10_copy 15 = .ok (.ireturn, 1) := by decide +kernel
theorem dX10_copy_16 : decode cX10_copy 16 = .ok (.aload_n 0, 1) := by decide +kernel
theorem dX10_copy_17 : decode cX10_copy 17 = .ok (.getfield 70, 3) := by decide +kernel
theorem dX10_copy_20 : decode cX10_copy 20 = .ok (.iload_n 1, 1) := by decide +kernel
theorem dX10_copy_21 : decode cX10_copy 21 = .ok (.iaload, 1) := by decide +kernel
theorem dX10_copy_22 : decode cX10_copy 22 = .ok (.ifCond .lt 12, 3) := by decide +kernel
theorem dX10_copy_25 : decode cX10_copy 25 = .ok (.aload_n 0, 1) := by decide +kernel
theorem dX10_copy_26 : decode cX10_copy 26 = .ok (.getfield 70, 3) := by decide +kernel
theorem dX10_copy_29 : decode cX10_copy 29 = .ok (.iload_n 3, 1) := by decide +kernel
theorem dX10_copy_30 : decode cX10_copy 30 = .ok (.iaload, 1) := by decide +kernel
theorem dX10_copy_31 : decode cX10_copy 31 = .ok (.ifCond .ge 6, 3) := by decide +kernel
theorem dX10_copy_34 : decode cX10_copy 34 = .ok (.bipush (-11), 2) := by decide +kernel
theorem dX10_copy_36 : decode cX10_copy 36 = .ok (.ireturn, 1) := by decide +kernel
theorem dX10_copy_37 : decode cX10_copy 37 = .ok (.aload_n 0, 1) := by decide +kernel
theorem dX10_copy_38 : decode cX10_copy 38 = .ok (.getfield 70, 3) := by decide +kernel
theorem dX10_copy_41 : decode cX10_copy 41 = .ok (.iload_n 1, 1) := by decide +kernel
theorem dX10_copy_42 : decode cX10_copy 42 = .ok (.iaload, 1) := by decide +kernel
theorem dX10_copy_43 : decode cX10_copy 43 = .ok (.aload_n 0, 1) := by decide +kernel
theorem dX10_copy_44 : decode cX10_copy 44 = .ok (.getfield 70, 3) := by decide +kernel
theorem dX10_copy_47 : decode cX10_copy 47 = .ok (.iload_n 3, 1) := by decide +kernel
theorem dX10_copy_48 : decode cX10_copy 48 = .ok (.iaload, 1) := by decide +kernel
theorem dX10_copy_49 : decode cX10_copy 49 = .ok (.if_icmp .eq 6, 3) := by decide +kernel
theorem dX10_copy_52 : decode cX10_copy 52 = .ok (.bipush (-12), 2) := by decide +kernel
theorem dX10_copy_54 : decode cX10_copy 54 = .ok (.ireturn, 1) := by decide +kernel
theorem dX10_copy_55 : decode cX10_copy 55 = .ok (.iload 5, 2) := by decide +kernel
theorem dX10_copy_57 : decode cX10_copy 57 = .ok (.ifCond .lt 46, 3) := by decide +kernel
theorem dX10_copy_60 : decode cX10_copy 60 = .ok (.iload 5, 2) := by decide +kernel
theorem dX10_copy_62 : decode cX10_copy 62 = .ok (.bipush 24, 2) := by decide +kernel
theorem dX10_copy_64 : decode cX10_copy 64 = .ok (.if_icmp .gt 39, 3) := by decide +kernel
theorem dX10_copy_67 : decode cX10_copy 67 = .ok (.iload_n 2, 1) := by decide +kernel
theorem dX10_copy_68 : decode cX10_copy 68 = .ok (.ifCond .lt 35, 3) := by decide +kernel
theorem dX10_copy_71 : decode cX10_copy 71 = .ok (.iload 4, 2) := by decide +kernel
theorem dX10_copy_73 : decode cX10_copy 73 = .ok (.ifCond .lt 30, 3) := by decide +kernel
theorem dX10_copy_76 : decode cX10_copy 76 = .ok (.iload_n 2, 1) := by decide +kernel
theorem dX10_copy_77 : decode cX10_copy 77 = .ok (.aload_n 0, 1) := by decide +kernel
theorem dX10_copy_78 : decode cX10_copy 78 = .ok (.getfield 73, 3) := by decide +kernel
theorem dX10_copy_81 : decode cX10_copy 81 = .ok (.iload_n 1, 1) := by decide +kernel
theorem dX10_copy_82 : decode cX10_copy 82 = .ok (.iaload, 1) := by decide +kernel
theorem dX10_copy_83 : decode cX10_copy 83 = .ok (.iload 5, 2) := by decide +kernel
theorem dX10_copy_85 : decode cX10_copy 85 = .ok (.isub, 1) := by decide +kernel
theorem dX10_copy_86 : decode cX10_copy 86 = .ok (.if_icmp .gt 17, 3) := by decide +kernel
theorem dX10_copy_89 : decode cX10_copy 89 = .ok (.iload 4, 2) := by decide +kernel
theorem dX10_copy_91 : decode cX10_copy 91 = .ok (.aload_n 0, 1) := by decide +kernel
theorem dX10_copy_92 : decode cX10_copy 92 = .ok (.getfield 73, 3) := by decide +kernel
theorem dX10_copy_95 : decode cX10_copy 95 = .ok (.iload_n 3, 1) := by decide +kernel
theorem dX10_copy_96 : decode cX10_copy 96 = .ok (.iaload, 1) := by decide +kernel
theorem dX10_copy_97 : decode cX10_copy 97 = .ok (.iload 5, 2) := by decide +kernel
theorem dX10_copy_99 : decode cX10_copy 99 = .ok (.isub, 1) := by decide +kernel
theorem dX10_copy_100 : decode cX10_copy 100 = .ok (.if_icmp .le 6, 3) := by decide +kernel
theorem dX10_copy_103 : decode cX10_copy 103 = .ok (.bipush (-13), 2) := by decide +kernel
theorem dX10_copy_105 : decode cX10_copy 105 = .ok (.ireturn, 1) := by decide +kernel
theorem dX10_copy_106 : decode cX10_copy 106 = .ok (.iconst 0, 1) := by decide +kernel
theorem dX10_copy_107 : decode cX10_copy 107 = .ok (.istore 6, 2) := by decide +kernel
theorem dX10_copy_109 : decode cX10_copy 109 = .ok (.iload 6, 2) := by decide +kernel
theorem dX10_copy_111 : decode cX10_copy 111 = .ok (.iload 5, 2) := by decide +kernel
theorem dX10_copy_113 : decode cX10_copy 113 = .ok (.if_icmp .ge 30, 3) := by decide +kernel
theorem dX10_copy_116 : decode cX10_copy 116 = .ok (.aload_n 0, 1) := by decide +kernel
theorem dX10_copy_117 : decode cX10_copy 117 = .ok (.getfield 80, 3) := by decide +kernel
theorem dX10_copy_120 : decode cX10_copy 120 = .ok (.iload 6, 2) := by decide +kernel
theorem dX10_copy_122 : decode cX10_copy 122 = .ok (.aload_n 0, 1) := by decide +kernel
theorem dX10_copy_123 : decode cX10_copy 123 = .ok (.getfield 76, 3) := by decide +kernel
theorem dX10_copy_126 : decode cX10_copy 126 = .ok (.bipush 24, 2) := by decide +kernel
theorem dX10_copy_128 : decode cX10_copy 128 = .ok (.iload_n 1, 1) := by decide +kernel
theorem dX10_copy_129 : decode cX10_copy 129 = .ok (.imul, 1) := by decide +kernel
theorem dX10_copy_130 : decode cX10_copy 130 = .ok (.iload_n 2, 1) := by decide +kernel
theorem dX10_copy_131 : decode cX10_copy 131 = .ok (.iadd, 1) := by decide +kernel
theorem dX10_copy_132 : decode cX10_copy 132 = .ok (.iload 6, 2) := by decide +kernel
theorem dX10_copy_134 : decode cX10_copy 134 = .ok (.iadd, 1) := by decide +kernel
theorem dX10_copy_135 : decode cX10_copy 135 = .ok (.laload, 1) := by decide +kernel
theorem dX10_copy_136 : decode cX10_copy 136 = .ok (.lastore, 1) := by decide +kernel
theorem dX10_copy_137 : decode cX10_copy 137 = .ok (.iinc 6 1, 3) := by decide +kernel
theorem dX10_copy_140 : decode cX10_copy 140 = .ok (.goto (-31), 3) := by decide +kernel
theorem dX10_copy_143 : decode cX10_copy 143 = .ok (.iconst 0, 1) := by decide +kernel
theorem dX10_copy_144 : decode cX10_copy 144 = .ok (.istore 6, 2) := by decide +kernel
theorem dX10_copy_146 : decode cX10_copy 146 = .ok (.iload 6, 2) := by decide +kernel
theorem dX10_copy_148 : decode cX10_copy 148 = .ok (.iload 5, 2) := by decide +kernel
theorem dX10_copy_150 : decode cX10_copy 150 = .ok (.if_icmp .ge 31, 3) := by decide +kernel
theorem dX10_copy_153 : decode cX10_copy 153 = .ok (.aload_n 0, 1) := by decide +kernel
theorem dX10_copy_154 : decode cX10_copy 154 = .ok (.getfield 76, 3) := by decide +kernel
theorem dX10_copy_157 : decode cX10_copy 157 = .ok (.bipush 24, 2) := by decide +kernel
theorem dX10_copy_159 : decode cX10_copy 159 = .ok (.iload_n 3, 1) := by decide +kernel
theorem dX10_copy_160 : decode cX10_copy 160 = .ok (.imul, 1) := by decide +kernel
theorem dX10_copy_161 : decode cX10_copy 161 = .ok (.iload 4, 2) := by decide +kernel
theorem dX10_copy_163 : decode cX10_copy 163 = .ok (.iadd, 1) := by decide +kernel
theorem dX10_copy_164 : decode cX10_copy 164 = .ok (.iload 6, 2) := by decide +kernel
theorem dX10_copy_166 : decode cX10_copy 166 = .ok (.iadd, 1) := by decide +kernel
theorem dX10_copy_167 : decode cX10_copy 167 = .ok (.aload_n 0, 1) := by decide +kernel
theorem dX10_copy_168 : decode cX10_copy 168 = .ok (.getfield 80, 3) := by decide +kernel
theorem dX10_copy_171 : decode cX10_copy 171 = .ok (.iload 6, 2) := by decide +kernel
theorem dX10_copy_173 : decode cX10_copy 173 = .ok (.laload, 1) := by decide +kernel
theorem dX10_copy_174 : decode cX10_copy 174 = .ok (.lastore, 1) := by decide +kernel
theorem dX10_copy_175 : decode cX10_copy 175 = .ok (.iinc 6 1, 3) := by decide +kernel
theorem dX10_copy_178 : decode cX10_copy 178 = .ok (.goto (-32), 3) := by decide +kernel
theorem dX10_copy_181 : decode cX10_copy 181 = .ok (.iload 5, 2) := by decide +kernel
theorem dX10_copy_183 : decode cX10_copy 183 = .ok (.ireturn, 1) := by decide +kernel
theorem dL_law_0 : decode code 0 = .ok (.new 7, 3) := by decide +kernel
theorem dL_law_3 : decode code 3 = .ok (.dup, 1) := by decide +kernel
theorem dL_law_4 : decode code 4 = .ok (.invokespecial 9, 3) := by decide +kernel
theorem dL_law_7 : decode code 7 = .ok (.astore_n 1, 1) := by decide +kernel
theorem dL_law_8 : decode code 8 = .ok (.new 10, 3) := by decide +kernel
theorem dL_law_11 : decode code 11 = .ok (.dup, 1) := by decide +kernel
theorem dL_law_12 : decode code 12 = .ok (.invokespecial 12, 3) := by decide +kernel
theorem dL_law_15 : decode code 15 = .ok (.astore_n 2, 1) := by decide +kernel
theorem dL_law_16 : decode code 16 = .ok (.iconst 0, 1) := by decide +kernel
theorem dL_law_17 : decode code 17 = .ok (.istore_n 3, 1) := by decide +kernel
theorem dL_law_18 : decode code 18 = .ok (.iload_n 3, 1) := by decide +kernel
theorem dL_law_19 : decode code 19 = .ok (.aload_n 0, 1) := by decide +kernel
theorem dL_law_20 : decode code 20 = .ok (.arraylength, 1) := by decide +kernel
theorem dL_law_21 : decode code 21 = .ok (.bipush 6, 2) := by decide +kernel
theorem dL_law_23 : decode code 23 = .ok (.isub, 1) := by decide +kernel
theorem dL_law_24 : decode code 24 = .ok (.if_icmp .gt 1109, 3) := by decide +kernel
theorem dL_law_27 : decode code 27 = .ok (.aload_n 0, 1) := by decide +kernel
theorem dL_law_28 : decode code 28 = .ok (.iload_n 3, 1) := by decide +kernel
theorem dL_law_29 : decode code 29 = .ok (.iaload, 1) := by decide +kernel
theorem dL_law_30 : decode code 30 = .ok (.bipush 31, 2) := by decide +kernel
theorem dL_law_32 : decode code 32 = .ok (.iand, 1) := by decide +kernel
theorem dL_law_33 : decode code 33 = .ok (.tableswitch 1094 0 26 #[123, 176, 209, 242, 275, 338, 351, 364, 387, 410, 443, 476, 509, 522, 555, 578, 591, 654, 697, 710, 723, 776, 839, 882, 925, 948, 1031], 123) := by decide +kernel
theorem dL_law_156 : decode code 156 = .ok (.aload_n 1, 1) := by decide +kernel
theorem dL_law_157 : decode code 157 = .ok (.aload_n 0, 1) := by decide +kernel
theorem dL_law_158 : decode code 158 = .ok (.iload_n 3, 1) := by decide +kernel
theorem dL_law_159 : decode code 159 = .ok (.iconst 1, 1) := by decide +kernel
theorem dL_law_160 : decode code 160 = .ok (.iadd, 1) := by decide +kernel
theorem dL_law_161 : decode code 161 = .ok (.iaload, 1) := by decide +kernel
theorem dL_law_162 : decode code 162 = .ok (.aload_n 0, 1) := by decide +kernel
theorem dL_law_163 : decode code 163 = .ok (.iload_n 3, 1) := by decide +kernel
theorem dL_law_164 : decode code 164 = .ok (.iconst 2, 1) := by decide +kernel
theorem dL_law_165 : decode code 165 = .ok (.iadd, 1) := by decide +kernel
theorem dL_law_166 : decode code 166 = .ok (.iaload, 1) := by decide +kernel
theorem dL_law_167 : decode code 167 = .ok (.aload_n 0, 1) := by decide +kernel
theorem dL_law_168 : decode code 168 = .ok (.iload_n 3, 1) := by decide +kernel
theorem dL_law_169 : decode code 169 = .ok (.iconst 3, 1) := by decide +kernel
theorem dL_law_170 : decode code 170 = .ok (.iadd, 1) := by decide +kernel
theorem dL_law_171 : decode code 171 = .ok (.iaload, 1) := by decide +kernel
theorem dL_law_172 : decode code 172 = .ok (.aload_n 0, 1) := by decide +kernel
theorem dL_law_173 : decode code 173 = .ok (.iload_n 3, 1) := by decide +kernel
theorem dL_law_174 : decode code 174 = .ok (.iconst 4, 1) := by decide +kernel
theorem dL_law_175 : decode code 175 = .ok (.iadd, 1) := by decide +kernel
theorem dL_law_176 : decode code 176 = .ok (.iaload, 1) := by decide +kernel
theorem dL_law_177 : decode code 177 = .ok (.invokevirtual 13, 3) := by decide +kernel
theorem dL_law_180 : decode code 180 = .ok (.aload_n 2, 1) := by decide +kernel
theorem dL_law_181 : decode code 181 = .ok (.aload_n 0, 1) := by decide +kernel
theorem dL_law_182 : decode code 182 = .ok (.iload_n 3, 1) := by decide +kernel
theorem dL_law_183 : decode code 183 = .ok (.iconst 1, 1) := by decide +kernel
theorem dL_law_184 : decode code 184 = .ok (.iadd, 1) := by decide +kernel
theorem dL_law_185 : decode code 185 = .ok (.iaload, 1) := by decide +kernel
theorem dL_law_186 : decode code 186 = .ok (.aload_n 0, 1) := by decide +kernel
theorem dL_law_187 : decode code 187 = .ok (.iload_n 3, 1) := by decide +kernel
theorem dL_law_188 : decode code 188 = .ok (.iconst 2, 1) := by decide +kernel
theorem dL_law_189 : decode code 189 = .ok (.iadd, 1) := by decide +kernel
theorem dL_law_190 : decode code 190 = .ok (.iaload, 1) := by decide +kernel
theorem dL_law_191 : decode code 191 = .ok (.aload_n 0, 1) := by decide +kernel
theorem dL_law_192 : decode code 192 = .ok (.iload_n 3, 1) := by decide +kernel
theorem dL_law_193 : decode code 193 = .ok (.iconst 3, 1) := by decide +kernel
theorem dL_law_194 : decode code 194 = .ok (.iadd, 1) := by decide +kernel
theorem dL_law_195 : decode code 195 = .ok (.iaload, 1) := by decide +kernel
theorem dL_law_196 : decode code 196 = .ok (.aload_n 0, 1) := by decide +kernel
theorem dL_law_197 : decode code 197 = .ok (.iload_n 3, 1) := by decide +kernel
theorem dL_law_198 : decode code 198 = .ok (.iconst 4, 1) := by decide +kernel
theorem dL_law_199 : decode code 199 = .ok (.iadd, 1) := by decide +kernel
theorem dL_law_200 : decode code 200 = .ok (.iaload, 1) := by decide +kernel
theorem dL_law_201 : decode code 201 = .ok (.invokevirtual 17, 3) := by decide +kernel
theorem dL_law_204 : decode code 204 = .ok (.if_icmp .eq 923, 3) := by decide +kernel
theorem dL_law_207 : decode code 207 = .ok (.iconst 0, 1) := by decide +kernel
theorem dL_law_208 : decode code 208 = .ok (.ireturn, 1) := by decide +kernel
theorem dL_law_209 : decode code 209 = .ok (.aload_n 1, 1) := by decide +kernel
theorem dL_law_210 : decode code 210 = .ok (.aload_n 0, 1) := by decide +kernel
theorem dL_law_211 : decode code 211 = .ok (.iload_n 3, 1) := by decide +kernel
theorem dL_law_212 : decode code 212 = .ok (.iconst 1, 1) := by decide +kernel
theorem dL_law_213 : decode code 213 = .ok (.iadd, 1) := by decide +kernel
theorem dL_law_214 : decode code 214 = .ok (.iaload, 1) := by decide +kernel
theorem dL_law_215 : decode code 215 = .ok (.aload_n 0, 1) := by decide +kernel
theorem dL_law_216 : decode code 216 = .ok (.iload_n 3, 1) := by decide +kernel
theorem dL_law_217 : decode code 217 = .ok (.iconst 2, 1) := by decide +kernel
theorem dL_law_218 : decode code 218 = .ok (.iadd, 1) := by decide +kernel
theorem dL_law_219 : decode code 219 = .ok (.iaload, 1) := by decide +kernel
theorem dL_law_220 : decode code 220 = .ok (.invokevirtual 18, 3) := by decide +kernel
theorem dL_law_223 : decode code 223 = .ok (.aload_n 2, 1) := by decide +kernel
theorem dL_law_224 : decode code 224 = .ok (.aload_n 0, 1) := by decide +kernel
theorem dL_law_225 : decode code 225 = .ok (.iload_n 3, 1) := by decide +kernel
theorem dL_law_226 : decode code 226 = .ok (.iconst 1, 1) := by decide +kernel
theorem dL_law_227 : decode code 227 = .ok (.iadd, 1) := by decide +kernel
theorem dL_law_228 : decode code 228 = .ok (.iaload, 1) := by decide +kernel
theorem dL_law_229 : decode code 229 = .ok (.aload_n 0, 1) := by decide +kernel
theorem dL_law_230 : decode code 230 = .ok (.iload_n 3, 1) := by decide +kernel
theorem dL_law_231 : decode code 231 = .ok (.iconst 2, 1) := by decide +kernel
theorem dL_law_232 : decode code 232 = .ok (.iadd, 1) := by decide +kernel
theorem dL_law_233 : decode code 233 = .ok (.iaload, 1) := by decide +kernel
theorem dL_law_234 : decode code 234 = .ok (.invokevirtual 22, 3) := by decide +kernel
theorem dL_law_237 : decode code 237 = .ok (.if_icmp .eq 890, 3) := by decide +kernel
theorem dL_law_240 : decode code 240 = .ok (.iconst 0, 1) := by decide +kernel
theorem dL_law_241 : decode code 241 = .ok (.ireturn, 1) := by decide +kernel
theorem dL_law_242 : decode code 242 = .ok (.aload_n 1, 1) := by decide +kernel
theorem dL_law_243 : decode code 243 = .ok (.aload_n 0, 1) := by decide +kernel
theorem dL_law_244 : decode code 244 = .ok (.iload_n 3, 1) := by decide +kernel
theorem dL_law_245 : decode code 245 = .ok (.iconst 1, 1) := by decide +kernel
theorem dL_law_246 : decode code 246 = .ok (.iadd, 1) := by decide +kernel
theorem dL_law_247 : decode code 247 = .ok (.iaload, 1) := by decide +kernel
theorem dL_law_248 : decode code 248 = .ok (.aload_n 0, 1) := by decide +kernel
theorem dL_law_249 : decode code 249 = .ok (.iload_n 3, 1) := by decide +kernel
theorem dL_law_250 : decode code 250 = .ok (.iconst 2, 1) := by decide +kernel
theorem dL_law_251 : decode code 251 = .ok (.iadd, 1) := by decide +kernel
theorem dL_law_252 : decode code 252 = .ok (.iaload, 1) := by decide +kernel
theorem dL_law_253 : decode code 253 = .ok (.invokevirtual 23, 3) := by decide +kernel
theorem dL_law_256 : decode code 256 = .ok (.aload_n 2, 1) := by decide +kernel
theorem dL_law_257 : decode code 257 = .ok (.aload_n 0, 1) := by decide +kernel
theorem dL_law_258 : decode code 258 = .ok (.iload_n 3, 1) := by decide +kernel
theorem dL_law_259 : decode code 259 = .ok (.iconst 1, 1) := by decide +kernel
theorem dL_law_260 : decode code 260 = .ok (.iadd, 1) := by decide +kernel
theorem dL_law_261 : decode code 261 = .ok (.iaload, 1) := by decide +kernel
theorem dL_law_262 : decode code 262 = .ok (.aload_n 0, 1) := by decide +kernel
theorem dL_law_263 : decode code 263 = .ok (.iload_n 3, 1) := by decide +kernel
theorem dL_law_264 : decode code 264 = .ok (.iconst 2, 1) := by decide +kernel
theorem dL_law_265 : decode code 265 = .ok (.iadd, 1) := by decide +kernel
theorem dL_law_266 : decode code 266 = .ok (.iaload, 1) := by decide +kernel
theorem dL_law_267 : decode code 267 = .ok (.invokevirtual 26, 3) := by decide +kernel
theorem dL_law_270 : decode code 270 = .ok (.if_icmp .eq 857, 3) := by decide +kernel
theorem dL_law_273 : decode code 273 = .ok (.iconst 0, 1) := by decide +kernel
theorem dL_law_274 : decode code 274 = .ok (.ireturn, 1) := by decide +kernel
theorem dL_law_275 : decode code 275 = .ok (.aload_n 1, 1) := by decide +kernel
theorem dL_law_276 : decode code 276 = .ok (.aload_n 0, 1) := by decide +kernel
theorem dL_law_277 : decode code 277 = .ok (.iload_n 3, 1) := by decide +kernel
theorem dL_law_278 : decode code 278 = .ok (.iconst 1, 1) := by decide +kernel
theorem dL_law_279 : decode code 279 = .ok (.iadd, 1) := by decide +kernel
theorem dL_law_280 : decode code 280 = .ok (.iaload, 1) := by decide +kernel
theorem dL_law_281 : decode code 281 = .ok (.aload_n 0, 1) := by decide +kernel
theorem dL_law_282 : decode code 282 = .ok (.iload_n 3, 1) := by decide +kernel
theorem dL_law_283 : decode code 283 = .ok (.iconst 2, 1) := by decide +kernel
theorem dL_law_284 : decode code 284 = .ok (.iadd, 1) := by decide +kernel
theorem dL_law_285 : decode code 285 = .ok (.iaload, 1) := by decide +kernel
theorem dL_law_286 : decode code 286 = .ok (.invokevirtual 27, 3) := by decide +kernel
theorem dL_law_289 : decode code 289 = .ok (.aload_n 2, 1) := by decide +kernel
theorem dL_law_290 : decode code 290 = .ok (.aload_n 0, 1) := by decide +kernel
theorem dL_law_291 : decode code 291 = .ok (.iload_n 3, 1) := by decide +kernel
theorem dL_law_292 : decode code 292 = .ok (.iconst 1, 1) := by decide +kernel
theorem dL_law_293 : decode code 293 = .ok (.iadd, 1) := by decide +kernel
theorem dL_law_294 : decode code 294 = .ok (.iaload, 1) := by decide +kernel
theorem dL_law_295 : decode code 295 = .ok (.aload_n 0, 1) := by decide +kernel
theorem dL_law_296 : decode code 296 = .ok (.iload_n 3, 1) := by decide +kernel
theorem dL_law_297 : decode code 297 = .ok (.iconst 2, 1) := by decide +kernel
theorem dL_law_298 : decode code 298 = .ok (.iadd, 1) := by decide +kernel
theorem dL_law_299 : decode code 299 = .ok (.iaload, 1) := by decide +kernel
theorem dL_law_300 : decode code 300 = .ok (.invokevirtual 30, 3) := by decide +kernel
theorem dL_law_303 : decode code 303 = .ok (.if_icmp .eq 824, 3) := by decide +kernel
theorem dL_law_306 : decode code 306 = .ok (.iconst 0, 1) := by decide +kernel
theorem dL_law_307 : decode code 307 = .ok (.ireturn, 1) := by decide +kernel
theorem dL_law_308 : decode code 308 = .ok (.aload_n 1, 1) := by decide +kernel
theorem dL_law_309 : decode code 309 = .ok (.aload_n 0, 1) := by decide +kernel
theorem dL_law_310 : decode code 310 = .ok (.iload_n 3, 1) := by decide +kernel
theorem dL_law_311 : decode code 311 = .ok (.iconst 1, 1) := by decide +kernel
theorem dL_law_312 : decode code 312 = .ok (.iadd, 1) := by decide +kernel
theorem dL_law_313 : decode code 313 = .ok (.iaload, 1) := by decide +kernel
theorem dL_law_314 : decode code 314 = .ok (.i2l, 1) := by decide +kernel
theorem dL_law_315 : decode code 315 = .ok (.bipush 32, 2) := by decide +kernel
theorem dL_law_317 : decode code 317 = .ok (.lshl, 1) := by decide +kernel
theorem dL_law_318 : decode code 318 = .ok (.aload_n 0, 1) := by decide +kernel
theorem dL_law_319 : decode code 319 = .ok (.iload_n 3, 1) := by decide +kernel
theorem dL_law_320 : decode code 320 = .ok (.iconst 2, 1) := by decide +kernel
theorem dL_law_321 : decode code 321 = .ok (.iadd, 1) := by decide +kernel
theorem dL_law_322 : decode code 322 = .ok (.iaload, 1) := by decide +kernel
theorem dL_law_323 : decode code 323 = .ok (.i2l, 1) := by decide +kernel
theorem dL_law_324 : decode code 324 = .ok (.ldc2_w 31, 3) := by decide +kernel
theorem dL_law_327 : decode code 327 = .ok (.land, 1) := by decide +kernel
theorem dL_law_328 : decode code 328 = .ok (.lor, 1) := by decide +kernel
theorem dL_law_329 : decode code 329 = .ok (.aload_n 0, 1) := by decide +kernel
theorem dL_law_330 : decode code 330 = .ok (.iload_n 3, 1) := by decide +kernel
theorem dL_law_331 : decode code 331 = .ok (.iconst 3, 1) := by decide +kernel
theorem dL_law_332 : decode code 332 = .ok (.iadd, 1) := by decide +kernel
theorem dL_law_333 : decode code 333 = .ok (.iaload, 1) := by decide +kernel
theorem dL_law_334 : decode code 334 = .ok (.invokevirtual 33, 3) := by decide +kernel
theorem dL_law_337 : decode code 337 = .ok (.aload_n 2, 1) := by decide +kernel
theorem dL_law_338 : decode code 338 = .ok (.aload_n 0, 1) := by decide +kernel
theorem dL_law_339 : decode code 339 = .ok (.iload_n 3, 1) := by decide +kernel
theorem dL_law_340 : decode code 340 = .ok (.iconst 1, 1) := by decide +kernel
theorem dL_law_341 : decode code 341 = .ok (.iadd, 1) := by decide +kernel
theorem dL_law_342 : decode code 342 = .ok (.iaload, 1) := by decide +kernel
theorem dL_law_343 : decode code 343 = .ok (.i2l, 1) := by decide +kernel
theorem dL_law_344 : decode code 344 = .ok (.bipush 32, 2) := by decide +kernel
theorem dL_law_346 : decode code 346 = .ok (.lshl, 1) := by decide +kernel
theorem dL_law_347 : decode code 347 = .ok (.aload_n 0, 1) := by decide +kernel
theorem dL_law_348 : decode code 348 = .ok (.iload_n 3, 1) := by decide +kernel
theorem dL_law_349 : decode code 349 = .ok (.iconst 2, 1) := by decide +kernel
theorem dL_law_350 : decode code 350 = .ok (.iadd, 1) := by decide +kernel
theorem dL_law_351 : decode code 351 = .ok (.iaload, 1) := by decide +kernel
theorem dL_law_352 : decode code 352 = .ok (.i2l, 1) := by decide +kernel
theorem dL_law_353 : decode code 353 = .ok (.ldc2_w 31, 3) := by decide +kernel
theorem dL_law_356 : decode code 356 = .ok (.land, 1) := by decide +kernel
theorem dL_law_357 : decode code 357 = .ok (.lor, 1) := by decide +kernel
theorem dL_law_358 : decode code 358 = .ok (.aload_n 0, 1) := by decide +kernel
theorem dL_law_359 : decode code 359 = .ok (.iload_n 3, 1) := by decide +kernel
theorem dL_law_360 : decode code 360 = .ok (.iconst 3, 1) := by decide +kernel
theorem dL_law_361 : decode code 361 = .ok (.iadd, 1) := by decide +kernel
theorem dL_law_362 : decode code 362 = .ok (.iaload, 1) := by decide +kernel
theorem dL_law_363 : decode code 363 = .ok (.invokevirtual 37, 3) := by decide +kernel
theorem dL_law_366 : decode code 366 = .ok (.if_icmp .eq 761, 3) := by decide +kernel
theorem dL_law_369 : decode code 369 = .ok (.iconst 0, 1) := by decide +kernel
theorem dL_law_370 : decode code 370 = .ok (.ireturn, 1) := by decide +kernel
theorem dL_law_371 : decode code 371 = .ok (.aload_n 1, 1) := by decide +kernel
theorem dL_law_372 : decode code 372 = .ok (.invokevirtual 38, 3) := by decide +kernel
theorem dL_law_375 : decode code 375 = .ok (.aload_n 2, 1) := by decide +kernel
theorem dL_law_376 : decode code 376 = .ok (.invokevirtual 42, 3) := by decide +kernel
theorem dL_law_379 : decode code 379 = .ok (.if_icmp .eq 748, 3) := by decide +kernel
theorem dL_law_382 : decode code 382 = .ok (.iconst 0, 1) := by decide +kernel
theorem dL_law_383 : decode code 383 = .ok (.ireturn, 1) := by decide +kernel
theorem dL_law_384 : decode code 384 = .ok (.aload_n 1, 1) := by decide +kernel
theorem dL_law_385 : decode code 385 = .ok (.invokevirtual 43, 3) := by decide +kernel
theorem dL_law_388 : decode code 388 = .ok (.aload_n 2, 1) := by decide +kernel
theorem dL_law_389 : decode code 389 = .ok (.invokevirtual 46, 3) := by decide +kernel
theorem dL_law_392 : decode code 392 = .ok (.if_icmp .eq 735, 3) := by decide +kernel
theorem dL_law_395 : decode code 395 = .ok (.iconst 0, 1) := by decide +kernel
theorem dL_law_396 : decode code 396 = .ok (.ireturn, 1) := by decide +kernel
theorem dL_law_397 : decode code 397 = .ok (.aload_n 1, 1) := by decide +kernel
theorem dL_law_398 : decode code 398 = .ok (.aload_n 0, 1) := by decide +kernel
theorem dL_law_399 : decode code 399 = .ok (.iload_n 3, 1) := by decide +kernel
theorem dL_law_400 : decode code 400 = .ok (.iconst 1, 1) := by decide +kernel
theorem dL_law_401 : decode code 401 = .ok (.iadd, 1) := by decide +kernel
theorem dL_law_402 : decode code 402 = .ok (.iaload, 1) := by decide +kernel
theorem dL_law_403 : decode code 403 = .ok (.invokevirtual 47, 3) := by decide +kernel
theorem dL_law_406 : decode code 406 = .ok (.aload_n 2, 1) := by decide +kernel
theorem dL_law_407 : decode code 407 = .ok (.aload_n 0, 1) := by decide +kernel
theorem dL_law_408 : decode code 408 = .ok (.iload_n 3, 1) := by decide +kernel
theorem dL_law_409 : decode code 409 = .ok (.iconst 1, 1) := by decide +kernel
theorem dL_law_410 : decode code 410 = .ok (.iadd, 1) := by decide +kernel
theorem dL_law_411 : decode code 411 = .ok (.iaload, 1) := by decide +kernel
theorem dL_law_412 : decode code 412 = .ok (.invokevirtual 51, 3) := by decide +kernel
theorem dL_law_415 : decode code 415 = .ok (.if_icmp .eq 712, 3) := by decide +kernel
theorem dL_law_418 : decode code 418 = .ok (.iconst 0, 1) := by decide +kernel
theorem dL_law_419 : decode code 419 = .ok (.ireturn, 1) := by decide +kernel
theorem dL_law_420 : decode code 420 = .ok (.aload_n 1, 1) := by decide +kernel
theorem dL_law_421 : decode code 421 = .ok (.aload_n 0, 1) := by decide +kernel
theorem dL_law_422 : decode code 422 = .ok (.iload_n 3, 1) := by decide +kernel
theorem dL_law_423 : decode code 423 = .ok (.iconst 1, 1) := by decide +kernel
theorem dL_law_424 : decode code 424 = .ok (.iadd, 1) := by decide +kernel
theorem dL_law_425 : decode code 425 = .ok (.iaload, 1) := by decide +kernel
theorem dL_law_426 : decode code 426 = .ok (.invokevirtual 52, 3) := by decide +kernel
theorem dL_law_429 : decode code 429 = .ok (.aload_n 2, 1) := by decide +kernel
theorem dL_law_430 : decode code 430 = .ok (.aload_n 0, 1) := by decide +kernel
theorem dL_law_431 : decode code 431 = .ok (.iload_n 3, 1) := by decide +kernel
theorem dL_law_432 : decode code 432 = .ok (.iconst 1, 1) := by decide +kernel
theorem dL_law_433 : decode code 433 = .ok (.iadd, 1) := by decide +kernel
theorem dL_law_434 : decode code 434 = .ok (.iaload, 1) := by decide +kernel
theorem dL_law_435 : decode code 435 = .ok (.invokevirtual 55, 3) := by decide +kernel
theorem dL_law_438 : decode code 438 = .ok (.if_icmp .eq 689, 3) := by decide +kernel
theorem dL_law_441 : decode code 441 = .ok (.iconst 0, 1) := by decide +kernel
theorem dL_law_442 : decode code 442 = .ok (.ireturn, 1) := by decide +kernel
theorem dL_law_443 : decode code 443 = .ok (.aload_n 1, 1) := by decide +kernel
theorem dL_law_444 : decode code 444 = .ok (.aload_n 0, 1) := by decide +kernel
theorem dL_law_445 : decode code 445 = .ok (.iload_n 3, 1) := by decide +kernel
theorem dL_law_446 : decode code 446 = .ok (.iconst 1, 1) := by decide +kernel
theorem dL_law_447 : decode code 447 = .ok (.iadd, 1) := by decide +kernel
theorem dL_law_448 : decode code 448 = .ok (.iaload, 1) := by decide +kernel
theorem dL_law_449 : decode code 449 = .ok (.aload_n 0, 1) := by decide +kernel
theorem dL_law_450 : decode code 450 = .ok (.iload_n 3, 1) := by decide +kernel
theorem dL_law_451 : decode code 451 = .ok (.iconst 2, 1) := by decide +kernel
theorem dL_law_452 : decode code 452 = .ok (.iadd, 1) := by decide +kernel
theorem dL_law_453 : decode code 453 = .ok (.iaload, 1) := by decide +kernel
theorem dL_law_454 : decode code 454 = .ok (.invokevirtual 56, 3) := by decide +kernel
theorem dL_law_457 : decode code 457 = .ok (.aload_n 2, 1) := by decide +kernel
theorem dL_law_458 : decode code 458 = .ok (.aload_n 0, 1) := by decide +kernel
theorem dL_law_459 : decode code 459 = .ok (.iload_n 3, 1) := by decide +kernel
theorem dL_law_460 : decode code 460 = .ok (.iconst 1, 1) := by decide +kernel
theorem dL_law_461 : decode code 461 = .ok (.iadd, 1) := by decide +kernel
theorem dL_law_462 : decode code 462 = .ok (.iaload, 1) := by decide +kernel
theorem dL_law_463 : decode code 463 = .ok (.aload_n 0, 1) := by decide +kernel
theorem dL_law_464 : decode code 464 = .ok (.iload_n 3, 1) := by decide +kernel
theorem dL_law_465 : decode code 465 = .ok (.iconst 2, 1) := by decide +kernel
theorem dL_law_466 : decode code 466 = .ok (.iadd, 1) := by decide +kernel
theorem dL_law_467 : decode code 467 = .ok (.iaload, 1) := by decide +kernel
theorem dL_law_468 : decode code 468 = .ok (.invokevirtual 59, 3) := by decide +kernel
theorem dL_law_471 : decode code 471 = .ok (.if_icmp .eq 656, 3) := by decide +kernel
theorem dL_law_474 : decode code 474 = .ok (.iconst 0, 1) := by decide +kernel
theorem dL_law_475 : decode code 475 = .ok (.ireturn, 1) := by decide +kernel
theorem dL_law_476 : decode code 476 = .ok (.aload_n 1, 1) := by decide +kernel
theorem dL_law_477 : decode code 477 = .ok (.aload_n 0, 1) := by decide +kernel
theorem dL_law_478 : decode code 478 = .ok (.iload_n 3, 1) := by decide +kernel
theorem dL_law_479 : decode code 479 = .ok (.iconst 1, 1) := by decide +kernel
theorem dL_law_480 : decode code 480 = .ok (.iadd, 1) := by decide +kernel
theorem dL_law_481 : decode code 481 = .ok (.iaload, 1) := by decide +kernel
theorem dL_law_482 : decode code 482 = .ok (.aload_n 0, 1) := by decide +kernel
theorem dL_law_483 : decode code 483 = .ok (.iload_n 3, 1) := by decide +kernel
theorem dL_law_484 : decode code 484 = .ok (.iconst 2, 1) := by decide +kernel
theorem dL_law_485 : decode code 485 = .ok (.iadd, 1) := by decide +kernel
theorem dL_law_486 : decode code 486 = .ok (.iaload, 1) := by decide +kernel
theorem dL_law_487 : decode code 487 = .ok (.invokevirtual 60, 3) := by decide +kernel
theorem dL_law_490 : decode code 490 = .ok (.aload_n 2, 1) := by decide +kernel
theorem dL_law_491 : decode code 491 = .ok (.aload_n 0, 1) := by decide +kernel
theorem dL_law_492 : decode code 492 = .ok (.iload_n 3, 1) := by decide +kernel
theorem dL_law_493 : decode code 493 = .ok (.iconst 1, 1) := by decide +kernel
theorem dL_law_494 : decode code 494 = .ok (.iadd, 1) := by decide +kernel
theorem dL_law_495 : decode code 495 = .ok (.iaload, 1) := by decide +kernel
theorem dL_law_496 : decode code 496 = .ok (.aload_n 0, 1) := by decide +kernel
theorem dL_law_497 : decode code 497 = .ok (.iload_n 3, 1) := by decide +kernel
theorem dL_law_498 : decode code 498 = .ok (.iconst 2, 1) := by decide +kernel
theorem dL_law_499 : decode code 499 = .ok (.iadd, 1) := by decide +kernel
theorem dL_law_500 : decode code 500 = .ok (.iaload, 1) := by decide +kernel
theorem dL_law_501 : decode code 501 = .ok (.invokevirtual 63, 3) := by decide +kernel
theorem dL_law_504 : decode code 504 = .ok (.if_icmp .eq 623, 3) := by decide +kernel
theorem dL_law_507 : decode code 507 = .ok (.iconst 0, 1) := by decide +kernel
theorem dL_law_508 : decode code 508 = .ok (.ireturn, 1) := by decide +kernel
theorem dL_law_509 : decode code 509 = .ok (.aload_n 1, 1) := by decide +kernel
theorem dL_law_510 : decode code 510 = .ok (.aload_n 0, 1) := by decide +kernel
theorem dL_law_511 : decode code 511 = .ok (.iload_n 3, 1) := by decide +kernel
theorem dL_law_512 : decode code 512 = .ok (.iconst 1, 1) := by decide +kernel
theorem dL_law_513 : decode code 513 = .ok (.iadd, 1) := by decide +kernel
theorem dL_law_514 : decode code 514 = .ok (.iaload, 1) := by decide +kernel
theorem dL_law_515 : decode code 515 = .ok (.aload_n 0, 1) := by decide +kernel
theorem dL_law_516 : decode code 516 = .ok (.iload_n 3, 1) := by decide +kernel
theorem dL_law_517 : decode code 517 = .ok (.iconst 2, 1) := by decide +kernel
theorem dL_law_518 : decode code 518 = .ok (.iadd, 1) := by decide +kernel
theorem dL_law_519 : decode code 519 = .ok (.iaload, 1) := by decide +kernel
theorem dL_law_520 : decode code 520 = .ok (.invokevirtual 64, 3) := by decide +kernel
theorem dL_law_523 : decode code 523 = .ok (.aload_n 2, 1) := by decide +kernel
theorem dL_law_524 : decode code 524 = .ok (.aload_n 0, 1) := by decide +kernel
theorem dL_law_525 : decode code 525 = .ok (.iload_n 3, 1) := by decide +kernel
theorem dL_law_526 : decode code 526 = .ok (.iconst 1, 1) := by decide +kernel
theorem dL_law_527 : decode code 527 = .ok (.iadd, 1) := by decide +kernel
theorem dL_law_528 : decode code 528 = .ok (.iaload, 1) := by decide +kernel
theorem dL_law_529 : decode code 529 = .ok (.aload_n 0, 1) := by decide +kernel
theorem dL_law_530 : decode code 530 = .ok (.iload_n 3, 1) := by decide +kernel
theorem dL_law_531 : decode code 531 = .ok (.iconst 2, 1) := by decide +kernel
theorem dL_law_532 : decode code 532 = .ok (.iadd, 1) := by decide +kernel
theorem dL_law_533 : decode code 533 = .ok (.iaload, 1) := by decide +kernel
theorem dL_law_534 : decode code 534 = .ok (.invokevirtual 67, 3) := by decide +kernel
theorem dL_law_537 : decode code 537 = .ok (.if_icmp .eq 590, 3) := by decide +kernel
theorem dL_law_540 : decode code 540 = .ok (.iconst 0, 1) := by decide +kernel
theorem dL_law_541 : decode code 541 = .ok (.ireturn, 1) := by decide +kernel
theorem dL_law_542 : decode code 542 = .ok (.aload_n 1, 1) := by decide +kernel
theorem dL_law_543 : decode code 543 = .ok (.invokevirtual 68, 3) := by decide +kernel
theorem dL_law_546 : decode code 546 = .ok (.aload_n 2, 1) := by decide +kernel
theorem dL_law_547 : decode code 547 = .ok (.invokevirtual 71, 3) := by decide +kernel
theorem dL_law_550 : decode code 550 = .ok (.if_icmp .eq 577, 3) := by decide +kernel
theorem dL_law_553 : decode code 553 = .ok (.iconst 0, 1) := by decide +kernel
theorem dL_law_554 : decode code 554 = .ok (.ireturn, 1) := by decide +kernel
theorem dL_law_555 : decode code 555 = .ok (.aload_n 1, 1) := by decide +kernel
theorem dL_law_556 : decode code 556 = .ok (.aload_n 0, 1) := by decide +kernel
theorem dL_law_557 : decode code 557 = .ok (.iload_n 3, 1) := by decide +kernel
theorem dL_law_558 : decode code 558 = .ok (.iconst 1, 1) := by decide +kernel
theorem dL_law_559 : decode code 559 = .ok (.iadd, 1) := by decide +kernel
theorem dL_law_560 : decode code 560 = .ok (.iaload, 1) := by decide +kernel
theorem dL_law_561 : decode code 561 = .ok (.aload_n 0, 1) := by decide +kernel
theorem dL_law_562 : decode code 562 = .ok (.iload_n 3, 1) := by decide +kernel
theorem dL_law_563 : decode code 563 = .ok (.iconst 2, 1) := by decide +kernel
theorem dL_law_564 : decode code 564 = .ok (.iadd, 1) := by decide +kernel
theorem dL_law_565 : decode code 565 = .ok (.iaload, 1) := by decide +kernel
theorem dL_law_566 : decode code 566 = .ok (.invokevirtual 72, 3) := by decide +kernel
theorem dL_law_569 : decode code 569 = .ok (.aload_n 2, 1) := by decide +kernel
theorem dL_law_570 : decode code 570 = .ok (.aload_n 0, 1) := by decide +kernel
theorem dL_law_571 : decode code 571 = .ok (.iload_n 3, 1) := by decide +kernel
theorem dL_law_572 : decode code 572 = .ok (.iconst 1, 1) := by decide +kernel
theorem dL_law_573 : decode code 573 = .ok (.iadd, 1) := by decide +kernel
theorem dL_law_574 : decode code 574 = .ok (.iaload, 1) := by decide +kernel
theorem dL_law_575 : decode code 575 = .ok (.aload_n 0, 1) := by decide +kernel
theorem dL_law_576 : decode code 576 = .ok (.iload_n 3, 1) := by decide +kernel
theorem dL_law_577 : decode code 577 = .ok (.iconst 2, 1) := by decide +kernel
theorem dL_law_578 : decode code 578 = .ok (.iadd, 1) := by decide +kernel
theorem dL_law_579 : decode code 579 = .ok (.iaload, 1) := by decide +kernel
theorem dL_law_580 : decode code 580 = .ok (.invokevirtual 75, 3) := by decide +kernel
theorem dL_law_583 : decode code 583 = .ok (.if_icmp .eq 544, 3) := by decide +kernel
theorem dL_law_586 : decode code 586 = .ok (.iconst 0, 1) := by decide +kernel
theorem dL_law_587 : decode code 587 = .ok (.ireturn, 1) := by decide +kernel
theorem dL_law_588 : decode code 588 = .ok (.aload_n 1, 1) := by decide +kernel
theorem dL_law_589 : decode code 589 = .ok (.aload_n 0, 1) := by decide +kernel
theorem dL_law_590 : decode code 590 = .ok (.iload_n 3, 1) := by decide +kernel
theorem dL_law_591 : decode code 591 = .ok (.iconst 1, 1) := by decide +kernel
theorem dL_law_592 : decode code 592 = .ok (.iadd, 1) := by decide +kernel
theorem dL_law_593 : decode code 593 = .ok (.iaload, 1) := by decide +kernel
theorem dL_law_594 : decode code 594 = .ok (.invokevirtual 76, 3) := by decide +kernel
theorem dL_law_597 : decode code 597 = .ok (.aload_n 2, 1) := by decide +kernel
theorem dL_law_598 : decode code 598 = .ok (.aload_n 0, 1) := by decide +kernel
theorem dL_law_599 : decode code 599 = .ok (.iload_n 3, 1) := by decide +kernel
theorem dL_law_600 : decode code 600 = .ok (.iconst 1, 1) := by decide +kernel
theorem dL_law_601 : decode code 601 = .ok (.iadd, 1) := by decide +kernel
theorem dL_law_602 : decode code 602 = .ok (.iaload, 1) := by decide +kernel
theorem dL_law_603 : decode code 603 = .ok (.invokevirtual 79, 3) := by decide +kernel
theorem dL_law_606 : decode code 606 = .ok (.if_icmp .eq 521, 3) := by decide +kernel
theorem dL_law_609 : decode code 609 = .ok (.iconst 0, 1) := by decide +kernel
theorem dL_law_610 : decode code 610 = .ok (.ireturn, 1) := by decide +kernel
theorem dL_law_611 : decode code 611 = .ok (.aload_n 1, 1) := by decide +kernel
theorem dL_law_612 : decode code 612 = .ok (.invokevirtual 80, 3) := by decide +kernel
theorem dL_law_615 : decode code 615 = .ok (.aload_n 2, 1) := by decide +kernel
theorem dL_law_616 : decode code 616 = .ok (.invokevirtual 83, 3) := by decide +kernel
theorem dL_law_619 : decode code 619 = .ok (.if_icmp .eq 508, 3) := by decide +kernel
theorem dL_law_622 : decode code 622 = .ok (.iconst 0, 1) := by decide +kernel
theorem dL_law_623 : decode code 623 = .ok (.ireturn, 1) := by decide +kernel
theorem dL_law_624 : decode code 624 = .ok (.aload_n 1, 1) := by decide +kernel
theorem dL_law_625 : decode code 625 = .ok (.aload_n 0, 1) := by decide +kernel
theorem dL_law_626 : decode code 626 = .ok (.iload_n 3, 1) := by decide +kernel
theorem dL_law_627 : decode code 627 = .ok (.iconst 1, 1) := by decide +kernel
theorem dL_law_628 : decode code 628 = .ok (.iadd, 1) := by decide +kernel
theorem dL_law_629 : decode code 629 = .ok (.iaload, 1) := by decide +kernel
theorem dL_law_630 : decode code 630 = .ok (.aload_n 0, 1) := by decide +kernel
theorem dL_law_631 : decode code 631 = .ok (.iload_n 3, 1) := by decide +kernel
theorem dL_law_632 : decode code 632 = .ok (.iconst 2, 1) := by decide +kernel
theorem dL_law_633 : decode code 633 = .ok (.iadd, 1) := by decide +kernel
theorem dL_law_634 : decode code 634 = .ok (.iaload, 1) := by decide +kernel
theorem dL_law_635 : decode code 635 = .ok (.aload_n 0, 1) := by decide +kernel
theorem dL_law_636 : decode code 636 = .ok (.iload_n 3, 1) := by decide +kernel
theorem dL_law_637 : decode code 637 = .ok (.iconst 3, 1) := by decide +kernel
theorem dL_law_638 : decode code 638 = .ok (.iadd, 1) := by decide +kernel
theorem dL_law_639 : decode code 639 = .ok (.iaload, 1) := by decide +kernel
theorem dL_law_640 : decode code 640 = .ok (.aload_n 0, 1) := by decide +kernel
theorem dL_law_641 : decode code 641 = .ok (.iload_n 3, 1) := by decide +kernel
theorem dL_law_642 : decode code 642 = .ok (.iconst 4, 1) := by decide +kernel
theorem dL_law_643 : decode code 643 = .ok (.iadd, 1) := by decide +kernel
theorem dL_law_644 : decode code 644 = .ok (.iaload, 1) := by decide +kernel
theorem dL_law_645 : decode code 645 = .ok (.aload_n 0, 1) := by decide +kernel
theorem dL_law_646 : decode code 646 = .ok (.iload_n 3, 1) := by decide +kernel
theorem dL_law_647 : decode code 647 = .ok (.iconst 5, 1) := by decide +kernel
theorem dL_law_648 : decode code 648 = .ok (.iadd, 1) := by decide +kernel
theorem dL_law_649 : decode code 649 = .ok (.iaload, 1) := by decide +kernel
theorem dL_law_650 : decode code 650 = .ok (.invokevirtual 84, 3) := by decide +kernel
theorem dL_law_653 : decode code 653 = .ok (.aload_n 2, 1) := by decide +kernel
theorem dL_law_654 : decode code 654 = .ok (.aload_n 0, 1) := by decide +kernel
theorem dL_law_655 : decode code 655 = .ok (.iload_n 3, 1) := by decide +kernel
theorem dL_law_656 : decode code 656 = .ok (.iconst 1, 1) := by decide +kernel
theorem dL_law_657 : decode code 657 = .ok (.iadd, 1) := by decide +kernel
theorem dL_law_658 : decode code 658 = .ok (.iaload, 1) := by decide +kernel
theorem dL_law_659 : decode code 659 = .ok (.aload_n 0, 1) := by decide +kernel
theorem dL_law_660 : decode code 660 = .ok (.iload_n 3, 1) := by decide +kernel
theorem dL_law_661 : decode code 661 = .ok (.iconst 2, 1) := by decide +kernel
theorem dL_law_662 : decode code 662 = .ok (.iadd, 1) := by decide +kernel
theorem dL_law_663 : decode code 663 = .ok (.iaload, 1) := by decide +kernel
theorem dL_law_664 : decode code 664 = .ok (.aload_n 0, 1) := by decide +kernel
theorem dL_law_665 : decode code 665 = .ok (.iload_n 3, 1) := by decide +kernel
theorem dL_law_666 : decode code 666 = .ok (.iconst 3, 1) := by decide +kernel
theorem dL_law_667 : decode code 667 = .ok (.iadd, 1) := by decide +kernel
theorem dL_law_668 : decode code 668 = .ok (.iaload, 1) := by decide +kernel
theorem dL_law_669 : decode code 669 = .ok (.aload_n 0, 1) := by decide +kernel
theorem dL_law_670 : decode code 670 = .ok (.iload_n 3, 1) := by decide +kernel
theorem dL_law_671 : decode code 671 = .ok (.iconst 4, 1) := by decide +kernel
theorem dL_law_672 : decode code 672 = .ok (.iadd, 1) := by decide +kernel
theorem dL_law_673 : decode code 673 = .ok (.iaload, 1) := by decide +kernel
theorem dL_law_674 : decode code 674 = .ok (.aload_n 0, 1) := by decide +kernel
theorem dL_law_675 : decode code 675 = .ok (.iload_n 3, 1) := by decide +kernel
theorem dL_law_676 : decode code 676 = .ok (.iconst 5, 1) := by decide +kernel
theorem dL_law_677 : decode code 677 = .ok (.iadd, 1) := by decide +kernel
theorem dL_law_678 : decode code 678 = .ok (.iaload, 1) := by decide +kernel
theorem dL_law_679 : decode code 679 = .ok (.invokevirtual 88, 3) := by decide +kernel
theorem dL_law_682 : decode code 682 = .ok (.if_icmp .eq 445, 3) := by decide +kernel
theorem dL_law_685 : decode code 685 = .ok (.iconst 0, 1) := by decide +kernel
theorem dL_law_686 : decode code 686 = .ok (.ireturn, 1) := by decide +kernel
theorem dL_law_687 : decode code 687 = .ok (.aload_n 1, 1) := by decide +kernel
theorem dL_law_688 : decode code 688 = .ok (.aload_n 0, 1) := by decide +kernel
theorem dL_law_689 : decode code 689 = .ok (.iload_n 3, 1) := by decide +kernel
theorem dL_law_690 : decode code 690 = .ok (.iconst 1, 1) := by decide +kernel
theorem dL_law_691 : decode code 691 = .ok (.iadd, 1) := by decide +kernel
theorem dL_law_692 : decode code 692 = .ok (.iaload, 1) := by decide +kernel
theorem dL_law_693 : decode code 693 = .ok (.aload_n 0, 1) := by decide +kernel
theorem dL_law_694 : decode code 694 = .ok (.iload_n 3, 1) := by decide +kernel
theorem dL_law_695 : decode code 695 = .ok (.iconst 2, 1) := by decide +kernel
theorem dL_law_696 : decode code 696 = .ok (.iadd, 1) := by decide +kernel
theorem dL_law_697 : decode code 697 = .ok (.iaload, 1) := by decide +kernel
theorem dL_law_698 : decode code 698 = .ok (.aload_n 0, 1) := by decide +kernel
theorem dL_law_699 : decode code 699 = .ok (.iload_n 3, 1) := by decide +kernel
theorem dL_law_700 : decode code 700 = .ok (.iconst 3, 1) := by decide +kernel
theorem dL_law_701 : decode code 701 = .ok (.iadd, 1) := by decide +kernel
theorem dL_law_702 : decode code 702 = .ok (.iaload, 1) := by decide +kernel
theorem dL_law_703 : decode code 703 = .ok (.invokevirtual 89, 3) := by decide +kernel
theorem dL_law_706 : decode code 706 = .ok (.aload_n 2, 1) := by decide +kernel
theorem dL_law_707 : decode code 707 = .ok (.aload_n 0, 1) := by decide +kernel
theorem dL_law_708 : decode code 708 = .ok (.iload_n 3, 1) := by decide +kernel
theorem dL_law_709 : decode code 709 = .ok (.iconst 1, 1) := by decide +kernel
theorem dL_law_710 : decode code 710 = .ok (.iadd, 1) := by decide +kernel
theorem dL_law_711 : decode code 711 = .ok (.iaload, 1) := by decide +kernel
theorem dL_law_712 : decode code 712 = .ok (.aload_n 0, 1) := by decide +kernel
theorem dL_law_713 : decode code 713 = .ok (.iload_n 3, 1) := by decide +kernel
theorem dL_law_714 : decode code 714 = .ok (.iconst 2, 1) := by decide +kernel
theorem dL_law_715 : decode code 715 = .ok (.iadd, 1) := by decide +kernel
theorem dL_law_716 : decode code 716 = .ok (.iaload, 1) := by decide +kernel
theorem dL_law_717 : decode code 717 = .ok (.aload_n 0, 1) := by decide +kernel
theorem dL_law_718 : decode code 718 = .ok (.iload_n 3, 1) := by decide +kernel
theorem dL_law_719 : decode code 719 = .ok (.iconst 3, 1) := by decide +kernel
theorem dL_law_720 : decode code 720 = .ok (.iadd, 1) := by decide +kernel
theorem dL_law_721 : decode code 721 = .ok (.iaload, 1) := by decide +kernel
theorem dL_law_722 : decode code 722 = .ok (.invokevirtual 93, 3) := by decide +kernel
theorem dL_law_725 : decode code 725 = .ok (.if_icmp .eq 402, 3) := by decide +kernel
theorem dL_law_728 : decode code 728 = .ok (.iconst 0, 1) := by decide +kernel
theorem dL_law_729 : decode code 729 = .ok (.ireturn, 1) := by decide +kernel
theorem dL_law_730 : decode code 730 = .ok (.aload_n 1, 1) := by decide +kernel
theorem dL_law_731 : decode code 731 = .ok (.invokevirtual 94, 3) := by decide +kernel
theorem dL_law_734 : decode code 734 = .ok (.aload_n 2, 1) := by decide +kernel
theorem dL_law_735 : decode code 735 = .ok (.invokevirtual 97, 3) := by decide +kernel
theorem dL_law_738 : decode code 738 = .ok (.if_icmp .eq 389, 3) := by decide +kernel
theorem dL_law_741 : decode code 741 = .ok (.iconst 0, 1) := by decide +kernel
theorem dL_law_742 : decode code 742 = .ok (.ireturn, 1) := by decide +kernel
theorem dL_law_743 : decode code 743 = .ok (.aload_n 1, 1) := by decide +kernel
theorem dL_law_744 : decode code 744 = .ok (.invokevirtual 98, 3) := by decide +kernel
theorem dL_law_747 : decode code 747 = .ok (.aload_n 2, 1) := by decide +kernel
theorem dL_law_748 : decode code 748 = .ok (.invokevirtual 101, 3) := by decide +kernel
theorem dL_law_751 : decode code 751 = .ok (.if_icmp .eq 376, 3) := by decide +kernel
theorem dL_law_754 : decode code 754 = .ok (.iconst 0, 1) := by decide +kernel
theorem dL_law_755 : decode code 755 = .ok (.ireturn, 1) := by decide +kernel
theorem dL_law_756 : decode code 756 = .ok (.aload_n 1, 1) := by decide +kernel
theorem dL_law_757 : decode code 757 = .ok (.aload_n 0, 1) := by decide +kernel
theorem dL_law_758 : decode code 758 = .ok (.iload_n 3, 1) := by decide +kernel
theorem dL_law_759 : decode code 759 = .ok (.iconst 1, 1) := by decide +kernel
theorem dL_law_760 : decode code 760 = .ok (.iadd, 1) := by decide +kernel
theorem dL_law_761 : decode code 761 = .ok (.iaload, 1) := by decide +kernel
theorem dL_law_762 : decode code 762 = .ok (.aload_n 0, 1) := by decide +kernel
theorem dL_law_763 : decode code 763 = .ok (.iload_n 3, 1) := by decide +kernel
theorem dL_law_764 : decode code 764 = .ok (.iconst 2, 1) := by decide +kernel
theorem dL_law_765 : decode code 765 = .ok (.iadd, 1) := by decide +kernel
theorem dL_law_766 : decode code 766 = .ok (.iaload, 1) := by decide +kernel
theorem dL_law_767 : decode code 767 = .ok (.aload_n 0, 1) := by decide +kernel
theorem dL_law_768 : decode code 768 = .ok (.iload_n 3, 1) := by decide +kernel
theorem dL_law_769 : decode code 769 = .ok (.iconst 3, 1) := by decide +kernel
theorem dL_law_770 : decode code 770 = .ok (.iadd, 1) := by decide +kernel
theorem dL_law_771 : decode code 771 = .ok (.iaload, 1) := by decide +kernel
theorem dL_law_772 : decode code 772 = .ok (.aload_n 0, 1) := by decide +kernel
theorem dL_law_773 : decode code 773 = .ok (.iload_n 3, 1) := by decide +kernel
theorem dL_law_774 : decode code 774 = .ok (.iconst 4, 1) := by decide +kernel
theorem dL_law_775 : decode code 775 = .ok (.iadd, 1) := by decide +kernel
theorem dL_law_776 : decode code 776 = .ok (.iaload, 1) := by decide +kernel
theorem dL_law_777 : decode code 777 = .ok (.invokevirtual 102, 3) := by decide +kernel
theorem dL_law_780 : decode code 780 = .ok (.aload_n 2, 1) := by decide +kernel
theorem dL_law_781 : decode code 781 = .ok (.aload_n 0, 1) := by decide +kernel
theorem dL_law_782 : decode code 782 = .ok (.iload_n 3, 1) := by decide +kernel
theorem dL_law_783 : decode code 783 = .ok (.iconst 1, 1) := by decide +kernel
theorem dL_law_784 : decode code 784 = .ok (.iadd, 1) := by decide +kernel
theorem dL_law_785 : decode code 785 = .ok (.iaload, 1) := by decide +kernel
theorem dL_law_786 : decode code 786 = .ok (.aload_n 0, 1) := by decide +kernel
theorem dL_law_787 : decode code 787 = .ok (.iload_n 3, 1) := by decide +kernel
theorem dL_law_788 : decode code 788 = .ok (.iconst 2, 1) := by decide +kernel
theorem dL_law_789 : decode code 789 = .ok (.iadd, 1) := by decide +kernel
theorem dL_law_790 : decode code 790 = .ok (.iaload, 1) := by decide +kernel
theorem dL_law_791 : decode code 791 = .ok (.aload_n 0, 1) := by decide +kernel
theorem dL_law_792 : decode code 792 = .ok (.iload_n 3, 1) := by decide +kernel
theorem dL_law_793 : decode code 793 = .ok (.iconst 3, 1) := by decide +kernel
theorem dL_law_794 : decode code 794 = .ok (.iadd, 1) := by decide +kernel
theorem dL_law_795 : decode code 795 = .ok (.iaload, 1) := by decide +kernel
theorem dL_law_796 : decode code 796 = .ok (.aload_n 0, 1) := by decide +kernel
theorem dL_law_797 : decode code 797 = .ok (.iload_n 3, 1) := by decide +kernel
theorem dL_law_798 : decode code 798 = .ok (.iconst 4, 1) := by decide +kernel
theorem dL_law_799 : decode code 799 = .ok (.iadd, 1) := by decide +kernel
theorem dL_law_800 : decode code 800 = .ok (.iaload, 1) := by decide +kernel
theorem dL_law_801 : decode code 801 = .ok (.invokevirtual 105, 3) := by decide +kernel
theorem dL_law_804 : decode code 804 = .ok (.if_icmp .eq 323, 3) := by decide +kernel
theorem dL_law_807 : decode code 807 = .ok (.iconst 0, 1) := by decide +kernel
theorem dL_law_808 : decode code 808 = .ok (.ireturn, 1) := by decide +kernel
theorem dL_law_809 : decode code 809 = .ok (.aload_n 1, 1) := by decide +kernel
theorem dL_law_810 : decode code 810 = .ok (.aload_n 0, 1) := by decide +kernel
theorem dL_law_811 : decode code 811 = .ok (.iload_n 3, 1) := by decide +kernel
theorem dL_law_812 : decode code 812 = .ok (.iconst 1, 1) := by decide +kernel
theorem dL_law_813 : decode code 813 = .ok (.iadd, 1) := by decide +kernel
theorem dL_law_814 : decode code 814 = .ok (.iaload, 1) := by decide +kernel
theorem dL_law_815 : decode code 815 = .ok (.aload_n 0, 1) := by decide +kernel
theorem dL_law_816 : decode code 816 = .ok (.iload_n 3, 1) := by decide +kernel
theorem dL_law_817 : decode code 817 = .ok (.iconst 2, 1) := by decide +kernel
theorem dL_law_818 : decode code 818 = .ok (.iadd, 1) := by decide +kernel
theorem dL_law_819 : decode code 819 = .ok (.iaload, 1) := by decide +kernel
theorem dL_law_820 : decode code 820 = .ok (.aload_n 0, 1) := by decide +kernel
theorem dL_law_821 : decode code 821 = .ok (.iload_n 3, 1) := by decide +kernel
theorem dL_law_822 : decode code 822 = .ok (.iconst 3, 1) := by decide +kernel
theorem dL_law_823 : decode code 823 = .ok (.iadd, 1) := by decide +kernel
theorem dL_law_824 : decode code 824 = .ok (.iaload, 1) := by decide +kernel
theorem dL_law_825 : decode code 825 = .ok (.aload_n 0, 1) := by decide +kernel
theorem dL_law_826 : decode code 826 = .ok (.iload_n 3, 1) := by decide +kernel
theorem dL_law_827 : decode code 827 = .ok (.iconst 4, 1) := by decide +kernel
theorem dL_law_828 : decode code 828 = .ok (.iadd, 1) := by decide +kernel
theorem dL_law_829 : decode code 829 = .ok (.iaload, 1) := by decide +kernel
theorem dL_law_830 : decode code 830 = .ok (.aload_n 0, 1) := by decide +kernel
theorem dL_law_831 : decode code 831 = .ok (.iload_n 3, 1) := by decide +kernel
theorem dL_law_832 : decode code 832 = .ok (.iconst 5, 1) := by decide +kernel
theorem dL_law_833 : decode code 833 = .ok (.iadd, 1) := by decide +kernel
theorem dL_law_834 : decode code 834 = .ok (.iaload, 1) := by decide +kernel
theorem dL_law_835 : decode code 835 = .ok (.invokevirtual 106, 3) := by decide +kernel
theorem dL_law_838 : decode code 838 = .ok (.aload_n 2, 1) := by decide +kernel
theorem dL_law_839 : decode code 839 = .ok (.aload_n 0, 1) := by decide +kernel
theorem dL_law_840 : decode code 840 = .ok (.iload_n 3, 1) := by decide +kernel
theorem dL_law_841 : decode code 841 = .ok (.iconst 1, 1) := by decide +kernel
theorem dL_law_842 : decode code 842 = .ok (.iadd, 1) := by decide +kernel
theorem dL_law_843 : decode code 843 = .ok (.iaload, 1) := by decide +kernel
theorem dL_law_844 : decode code 844 = .ok (.aload_n 0, 1) := by decide +kernel
theorem dL_law_845 : decode code 845 = .ok (.iload_n 3, 1) := by decide +kernel
theorem dL_law_846 : decode code 846 = .ok (.iconst 2, 1) := by decide +kernel
theorem dL_law_847 : decode code 847 = .ok (.iadd, 1) := by decide +kernel
theorem dL_law_848 : decode code 848 = .ok (.iaload, 1) := by decide +kernel
theorem dL_law_849 : decode code 849 = .ok (.aload_n 0, 1) := by decide +kernel
theorem dL_law_850 : decode code 850 = .ok (.iload_n 3, 1) := by decide +kernel
theorem dL_law_851 : decode code 851 = .ok (.iconst 3, 1) := by decide +kernel
theorem dL_law_852 : decode code 852 = .ok (.iadd, 1) := by decide +kernel
theorem dL_law_853 : decode code 853 = .ok (.iaload, 1) := by decide +kernel
theorem dL_law_854 : decode code 854 = .ok (.aload_n 0, 1) := by decide +kernel
theorem dL_law_855 : decode code 855 = .ok (.iload_n 3, 1) := by decide +kernel
theorem dL_law_856 : decode code 856 = .ok (.iconst 4, 1) := by decide +kernel
theorem dL_law_857 : decode code 857 = .ok (.iadd, 1) := by decide +kernel
theorem dL_law_858 : decode code 858 = .ok (.iaload, 1) := by decide +kernel
theorem dL_law_859 : decode code 859 = .ok (.aload_n 0, 1) := by decide +kernel
theorem dL_law_860 : decode code 860 = .ok (.iload_n 3, 1) := by decide +kernel
theorem dL_law_861 : decode code 861 = .ok (.iconst 5, 1) := by decide +kernel
theorem dL_law_862 : decode code 862 = .ok (.iadd, 1) := by decide +kernel
theorem dL_law_863 : decode code 863 = .ok (.iaload, 1) := by decide +kernel
theorem dL_law_864 : decode code 864 = .ok (.invokevirtual 109, 3) := by decide +kernel
theorem dL_law_867 : decode code 867 = .ok (.if_icmp .eq 260, 3) := by decide +kernel
theorem dL_law_870 : decode code 870 = .ok (.iconst 0, 1) := by decide +kernel
theorem dL_law_871 : decode code 871 = .ok (.ireturn, 1) := by decide +kernel
theorem dL_law_872 : decode code 872 = .ok (.aload_n 1, 1) := by decide +kernel
theorem dL_law_873 : decode code 873 = .ok (.aload_n 0, 1) := by decide +kernel
theorem dL_law_874 : decode code 874 = .ok (.iload_n 3, 1) := by decide +kernel
theorem dL_law_875 : decode code 875 = .ok (.iconst 1, 1) := by decide +kernel
theorem dL_law_876 : decode code 876 = .ok (.iadd, 1) := by decide +kernel
theorem dL_law_877 : decode code 877 = .ok (.iaload, 1) := by decide +kernel
theorem dL_law_878 : decode code 878 = .ok (.aload_n 0, 1) := by decide +kernel
theorem dL_law_879 : decode code 879 = .ok (.iload_n 3, 1) := by decide +kernel
theorem dL_law_880 : decode code 880 = .ok (.iconst 2, 1) := by decide +kernel
theorem dL_law_881 : decode code 881 = .ok (.iadd, 1) := by decide +kernel
theorem dL_law_882 : decode code 882 = .ok (.iaload, 1) := by decide +kernel
theorem dL_law_883 : decode code 883 = .ok (.aload_n 0, 1) := by decide +kernel
theorem dL_law_884 : decode code 884 = .ok (.iload_n 3, 1) := by decide +kernel
theorem dL_law_885 : decode code 885 = .ok (.iconst 3, 1) := by decide +kernel
theorem dL_law_886 : decode code 886 = .ok (.iadd, 1) := by decide +kernel
theorem dL_law_887 : decode code 887 = .ok (.iaload, 1) := by decide +kernel
theorem dL_law_888 : decode code 888 = .ok (.invokevirtual 110, 3) := by decide +kernel
theorem dL_law_891 : decode code 891 = .ok (.aload_n 2, 1) := by decide +kernel
theorem dL_law_892 : decode code 892 = .ok (.aload_n 0, 1) := by decide +kernel
theorem dL_law_893 : decode code 893 = .ok (.iload_n 3, 1) := by decide +kernel
theorem dL_law_894 : decode code 894 = .ok (.iconst 1, 1) := by decide +kernel
theorem dL_law_895 : decode code 895 = .ok (.iadd, 1) := by decide +kernel
theorem dL_law_896 : decode code 896 = .ok (.iaload, 1) := by decide +kernel
theorem dL_law_897 : decode code 897 = .ok (.aload_n 0, 1) := by decide +kernel
theorem dL_law_898 : decode code 898 = .ok (.iload_n 3, 1) := by decide +kernel
theorem dL_law_899 : decode code 899 = .ok (.iconst 2, 1) := by decide +kernel
theorem dL_law_900 : decode code 900 = .ok (.iadd, 1) := by decide +kernel
theorem dL_law_901 : decode code 901 = .ok (.iaload, 1) := by decide +kernel
theorem dL_law_902 : decode code 902 = .ok (.aload_n 0, 1) := by decide +kernel
theorem dL_law_903 : decode code 903 = .ok (.iload_n 3, 1) := by decide +kernel
theorem dL_law_904 : decode code 904 = .ok (.iconst 3, 1) := by decide +kernel
theorem dL_law_905 : decode code 905 = .ok (.iadd, 1) := by decide +kernel
theorem dL_law_906 : decode code 906 = .ok (.iaload, 1) := by decide +kernel
theorem dL_law_907 : decode code 907 = .ok (.invokevirtual 113, 3) := by decide +kernel
theorem dL_law_910 : decode code 910 = .ok (.if_icmp .eq 217, 3) := by decide +kernel
theorem dL_law_913 : decode code 913 = .ok (.iconst 0, 1) := by decide +kernel
theorem dL_law_914 : decode code 914 = .ok (.ireturn, 1) := by decide +kernel
theorem dL_law_915 : decode code 915 = .ok (.aload_n 1, 1) := by decide +kernel
theorem dL_law_916 : decode code 916 = .ok (.aload_n 0, 1) := by decide +kernel
theorem dL_law_917 : decode code 917 = .ok (.iload_n 3, 1) := by decide +kernel
theorem dL_law_918 : decode code 918 = .ok (.iconst 1, 1) := by decide +kernel
theorem dL_law_919 : decode code 919 = .ok (.iadd, 1) := by decide +kernel
theorem dL_law_920 : decode code 920 = .ok (.iaload, 1) := by decide +kernel
theorem dL_law_921 : decode code 921 = .ok (.aload_n 0, 1) := by decide +kernel
theorem dL_law_922 : decode code 922 = .ok (.iload_n 3, 1) := by decide +kernel
theorem dL_law_923 : decode code 923 = .ok (.iconst 2, 1) := by decide +kernel
theorem dL_law_924 : decode code 924 = .ok (.iadd, 1) := by decide +kernel
theorem dL_law_925 : decode code 925 = .ok (.iaload, 1) := by decide +kernel
theorem dL_law_926 : decode code 926 = .ok (.aload_n 0, 1) := by decide +kernel
theorem dL_law_927 : decode code 927 = .ok (.iload_n 3, 1) := by decide +kernel
theorem dL_law_928 : decode code 928 = .ok (.iconst 3, 1) := by decide +kernel
theorem dL_law_929 : decode code 929 = .ok (.iadd, 1) := by decide +kernel
theorem dL_law_930 : decode code 930 = .ok (.iaload, 1) := by decide +kernel
theorem dL_law_931 : decode code 931 = .ok (.invokevirtual 114, 3) := by decide +kernel
theorem dL_law_934 : decode code 934 = .ok (.aload_n 2, 1) := by decide +kernel
theorem dL_law_935 : decode code 935 = .ok (.aload_n 0, 1) := by decide +kernel
theorem dL_law_936 : decode code 936 = .ok (.iload_n 3, 1) := by decide +kernel
theorem dL_law_937 : decode code 937 = .ok (.iconst 1, 1) := by decide +kernel
theorem dL_law_938 : decode code 938 = .ok (.iadd, 1) := by decide +kernel
theorem dL_law_939 : decode code 939 = .ok (.iaload, 1) := by decide +kernel
theorem dL_law_940 : decode code 940 = .ok (.aload_n 0, 1) := by decide +kernel
theorem dL_law_941 : decode code 941 = .ok (.iload_n 3, 1) := by decide +kernel
theorem dL_law_942 : decode code 942 = .ok (.iconst 2, 1) := by decide +kernel
theorem dL_law_943 : decode code 943 = .ok (.iadd, 1) := by decide +kernel
theorem dL_law_944 : decode code 944 = .ok (.iaload, 1) := by decide +kernel
theorem dL_law_945 : decode code 945 = .ok (.aload_n 0, 1) := by decide +kernel
theorem dL_law_946 : decode code 946 = .ok (.iload_n 3, 1) := by decide +kernel
theorem dL_law_947 : decode code 947 = .ok (.iconst 3, 1) := by decide +kernel
theorem dL_law_948 : decode code 948 = .ok (.iadd, 1) := by decide +kernel
theorem dL_law_949 : decode code 949 = .ok (.iaload, 1) := by decide +kernel
theorem dL_law_950 : decode code 950 = .ok (.invokevirtual 117, 3) := by decide +kernel
theorem dL_law_953 : decode code 953 = .ok (.if_icmp .eq 174, 3) := by decide +kernel
theorem dL_law_956 : decode code 956 = .ok (.iconst 0, 1) := by decide +kernel
theorem dL_law_957 : decode code 957 = .ok (.ireturn, 1) := by decide +kernel
theorem dL_law_958 : decode code 958 = .ok (.aload_n 1, 1) := by decide +kernel
theorem dL_law_959 : decode code 959 = .ok (.aload_n 0, 1) := by decide +kernel
theorem dL_law_960 : decode code 960 = .ok (.iload_n 3, 1) := by decide +kernel
theorem dL_law_961 : decode code 961 = .ok (.iconst 1, 1) := by decide +kernel
theorem dL_law_962 : decode code 962 = .ok (.iadd, 1) := by decide +kernel
theorem dL_law_963 : decode code 963 = .ok (.iaload, 1) := by decide +kernel
theorem dL_law_964 : decode code 964 = .ok (.invokevirtual 118, 3) := by decide +kernel
theorem dL_law_967 : decode code 967 = .ok (.aload_n 2, 1) := by decide +kernel
theorem dL_law_968 : decode code 968 = .ok (.aload_n 0, 1) := by decide +kernel
theorem dL_law_969 : decode code 969 = .ok (.iload_n 3, 1) := by decide +kernel
theorem dL_law_970 : decode code 970 = .ok (.iconst 1, 1) := by decide +kernel
theorem dL_law_971 : decode code 971 = .ok (.iadd, 1) := by decide +kernel
theorem dL_law_972 : decode code 972 = .ok (.iaload, 1) := by decide +kernel
theorem dL_law_973 : decode code 973 = .ok (.invokevirtual 121, 3) := by decide +kernel
theorem dL_law_976 : decode code 976 = .ok (.if_icmp .eq 151, 3) := by decide +kernel
theorem dL_law_979 : decode code 979 = .ok (.iconst 0, 1) := by decide +kernel
theorem dL_law_980 : decode code 980 = .ok (.ireturn, 1) := by decide +kernel
theorem dL_law_981 : decode code 981 = .ok (.aload_n 1, 1) := by decide +kernel
theorem dL_law_982 : decode code 982 = .ok (.aload_n 0, 1) := by decide +kernel
theorem dL_law_983 : decode code 983 = .ok (.iload_n 3, 1) := by decide +kernel
theorem dL_law_984 : decode code 984 = .ok (.iconst 1, 1) := by decide +kernel
theorem dL_law_985 : decode code 985 = .ok (.iadd, 1) := by decide +kernel
theorem dL_law_986 : decode code 986 = .ok (.iaload, 1) := by decide +kernel
theorem dL_law_987 : decode code 987 = .ok (.aload_n 0, 1) := by decide +kernel
theorem dL_law_988 : decode code 988 = .ok (.iload_n 3, 1) := by decide +kernel
theorem dL_law_989 : decode code 989 = .ok (.iconst 2, 1) := by decide +kernel
theorem dL_law_990 : decode code 990 = .ok (.iadd, 1) := by decide +kernel
theorem dL_law_991 : decode code 991 = .ok (.iaload, 1) := by decide +kernel
theorem dL_law_992 : decode code 992 = .ok (.aload_n 0, 1) := by decide +kernel
theorem dL_law_993 : decode code 993 = .ok (.iload_n 3, 1) := by decide +kernel
theorem dL_law_994 : decode code 994 = .ok (.iconst 3, 1) := by decide +kernel
theorem dL_law_995 : decode code 995 = .ok (.iadd, 1) := by decide +kernel
theorem dL_law_996 : decode code 996 = .ok (.iaload, 1) := by decide +kernel
theorem dL_law_997 : decode code 997 = .ok (.aload_n 0, 1) := by decide +kernel
theorem dL_law_998 : decode code 998 = .ok (.iload_n 3, 1) := by decide +kernel
theorem dL_law_999 : decode code 999 = .ok (.iconst 4, 1) := by decide +kernel
theorem dL_law_1000 : decode code 1000 = .ok (.iadd, 1) := by decide +kernel
theorem dL_law_1001 : decode code 1001 = .ok (.iaload, 1) := by decide +kernel
theorem dL_law_1002 : decode code 1002 = .ok (.i2l, 1) := by decide +kernel
theorem dL_law_1003 : decode code 1003 = .ok (.bipush 32, 2) := by decide +kernel
theorem dL_law_1005 : decode code 1005 = .ok (.lshl, 1) := by decide +kernel
theorem dL_law_1006 : decode code 1006 = .ok (.aload_n 0, 1) := by decide +kernel
theorem dL_law_1007 : decode code 1007 = .ok (.iload_n 3, 1) := by decide +kernel
theorem dL_law_1008 : decode code 1008 = .ok (.iconst 5, 1) := by decide +kernel
theorem dL_law_1009 : decode code 1009 = .ok (.iadd, 1) := by decide +kernel
theorem dL_law_1010 : decode code 1010 = .ok (.iaload, 1) := by decide +kernel
theorem dL_law_1011 : decode code 1011 = .ok (.i2l, 1) := by decide +kernel
theorem dL_law_1012 : decode code 1012 = .ok (.ldc2_w 31, 3) := by decide +kernel
theorem dL_law_1015 : decode code 1015 = .ok (.land, 1) := by decide +kernel
theorem dL_law_1016 : decode code 1016 = .ok (.lor, 1) := by decide +kernel
theorem dL_law_1017 : decode code 1017 = .ok (.invokevirtual 122, 3) := by decide +kernel
theorem dL_law_1020 : decode code 1020 = .ok (.aload_n 2, 1) := by decide +kernel
theorem dL_law_1021 : decode code 1021 = .ok (.aload_n 0, 1) := by decide +kernel
theorem dL_law_1022 : decode code 1022 = .ok (.iload_n 3, 1) := by decide +kernel
theorem dL_law_1023 : decode code 1023 = .ok (.iconst 1, 1) := by decide +kernel
theorem dL_law_1024 : decode code 1024 = .ok (.iadd, 1) := by decide +kernel
theorem dL_law_1025 : decode code 1025 = .ok (.iaload, 1) := by decide +kernel
theorem dL_law_1026 : decode code 1026 = .ok (.aload_n 0, 1) := by decide +kernel
theorem dL_law_1027 : decode code 1027 = .ok (.iload_n 3, 1) := by decide +kernel
theorem dL_law_1028 : decode code 1028 = .ok (.iconst 2, 1) := by decide +kernel
theorem dL_law_1029 : decode code 1029 = .ok (.iadd, 1) := by decide +kernel
theorem dL_law_1030 : decode code 1030 = .ok (.iaload, 1) := by decide +kernel
theorem dL_law_1031 : decode code 1031 = .ok (.aload_n 0, 1) := by decide +kernel
theorem dL_law_1032 : decode code 1032 = .ok (.iload_n 3, 1) := by decide +kernel
theorem dL_law_1033 : decode code 1033 = .ok (.iconst 3, 1) := by decide +kernel
theorem dL_law_1034 : decode code 1034 = .ok (.iadd, 1) := by decide +kernel
theorem dL_law_1035 : decode code 1035 = .ok (.iaload, 1) := by decide +kernel
theorem dL_law_1036 : decode code 1036 = .ok (.aload_n 0, 1) := by decide +kernel
theorem dL_law_1037 : decode code 1037 = .ok (.iload_n 3, 1) := by decide +kernel
theorem dL_law_1038 : decode code 1038 = .ok (.iconst 4, 1) := by decide +kernel
theorem dL_law_1039 : decode code 1039 = .ok (.iadd, 1) := by decide +kernel
theorem dL_law_1040 : decode code 1040 = .ok (.iaload, 1) := by decide +kernel
theorem dL_law_1041 : decode code 1041 = .ok (.i2l, 1) := by decide +kernel
theorem dL_law_1042 : decode code 1042 = .ok (.bipush 32, 2) := by decide +kernel
theorem dL_law_1044 : decode code 1044 = .ok (.lshl, 1) := by decide +kernel
theorem dL_law_1045 : decode code 1045 = .ok (.aload_n 0, 1) := by decide +kernel
theorem dL_law_1046 : decode code 1046 = .ok (.iload_n 3, 1) := by decide +kernel
theorem dL_law_1047 : decode code 1047 = .ok (.iconst 5, 1) := by decide +kernel
theorem dL_law_1048 : decode code 1048 = .ok (.iadd, 1) := by decide +kernel
theorem dL_law_1049 : decode code 1049 = .ok (.iaload, 1) := by decide +kernel
theorem dL_law_1050 : decode code 1050 = .ok (.i2l, 1) := by decide +kernel
theorem dL_law_1051 : decode code 1051 = .ok (.ldc2_w 31, 3) := by decide +kernel
theorem dL_law_1054 : decode code 1054 = .ok (.land, 1) := by decide +kernel
theorem dL_law_1055 : decode code 1055 = .ok (.lor, 1) := by decide +kernel
theorem dL_law_1056 : decode code 1056 = .ok (.invokevirtual 126, 3) := by decide +kernel
theorem dL_law_1059 : decode code 1059 = .ok (.if_icmp .eq 68, 3) := by decide +kernel
theorem dL_law_1062 : decode code 1062 = .ok (.iconst 0, 1) := by decide +kernel
theorem dL_law_1063 : decode code 1063 = .ok (.ireturn, 1) := by decide +kernel
theorem dL_law_1064 : decode code 1064 = .ok (.aload_n 1, 1) := by decide +kernel
theorem dL_law_1065 : decode code 1065 = .ok (.aload_n 0, 1) := by decide +kernel
theorem dL_law_1066 : decode code 1066 = .ok (.iload_n 3, 1) := by decide +kernel
theorem dL_law_1067 : decode code 1067 = .ok (.iconst 1, 1) := by decide +kernel
theorem dL_law_1068 : decode code 1068 = .ok (.iadd, 1) := by decide +kernel
theorem dL_law_1069 : decode code 1069 = .ok (.iaload, 1) := by decide +kernel
theorem dL_law_1070 : decode code 1070 = .ok (.aload_n 0, 1) := by decide +kernel
theorem dL_law_1071 : decode code 1071 = .ok (.iload_n 3, 1) := by decide +kernel
theorem dL_law_1072 : decode code 1072 = .ok (.iconst 2, 1) := by decide +kernel
theorem dL_law_1073 : decode code 1073 = .ok (.iadd, 1) := by decide +kernel
theorem dL_law_1074 : decode code 1074 = .ok (.iaload, 1) := by decide +kernel
theorem dL_law_1075 : decode code 1075 = .ok (.aload_n 0, 1) := by decide +kernel
theorem dL_law_1076 : decode code 1076 = .ok (.iload_n 3, 1) := by decide +kernel
theorem dL_law_1077 : decode code 1077 = .ok (.iconst 3, 1) := by decide +kernel
theorem dL_law_1078 : decode code 1078 = .ok (.iadd, 1) := by decide +kernel
theorem dL_law_1079 : decode code 1079 = .ok (.iaload, 1) := by decide +kernel
theorem dL_law_1080 : decode code 1080 = .ok (.aload_n 0, 1) := by decide +kernel
theorem dL_law_1081 : decode code 1081 = .ok (.iload_n 3, 1) := by decide +kernel
theorem dL_law_1082 : decode code 1082 = .ok (.iconst 4, 1) := by decide +kernel
theorem dL_law_1083 : decode code 1083 = .ok (.iadd, 1) := by decide +kernel
theorem dL_law_1084 : decode code 1084 = .ok (.iaload, 1) := by decide +kernel
theorem dL_law_1085 : decode code 1085 = .ok (.aload_n 0, 1) := by decide +kernel
theorem dL_law_1086 : decode code 1086 = .ok (.iload_n 3, 1) := by decide +kernel
theorem dL_law_1087 : decode code 1087 = .ok (.iconst 5, 1) := by decide +kernel
theorem dL_law_1088 : decode code 1088 = .ok (.iadd, 1) := by decide +kernel
theorem dL_law_1089 : decode code 1089 = .ok (.iaload, 1) := by decide +kernel
theorem dL_law_1090 : decode code 1090 = .ok (.invokevirtual 127, 3) := by decide +kernel
theorem dL_law_1093 : decode code 1093 = .ok (.aload_n 2, 1) := by decide +kernel
theorem dL_law_1094 : decode code 1094 = .ok (.aload_n 0, 1) := by decide +kernel
theorem dL_law_1095 : decode code 1095 = .ok (.iload_n 3, 1) := by decide +kernel
theorem dL_law_1096 : decode code 1096 = .ok (.iconst 1, 1) := by decide +kernel
theorem dL_law_1097 : decode code 1097 = .ok (.iadd, 1) := by decide +kernel
theorem dL_law_1098 : decode code 1098 = .ok (.iaload, 1) := by decide +kernel
theorem dL_law_1099 : decode code 1099 = .ok (.aload_n 0, 1) := by decide +kernel
theorem dL_law_1100 : decode code 1100 = .ok (.iload_n 3, 1) := by decide +kernel
theorem dL_law_1101 : decode code 1101 = .ok (.iconst 2, 1) := by decide +kernel
theorem dL_law_1102 : decode code 1102 = .ok (.iadd, 1) := by decide +kernel
theorem dL_law_1103 : decode code 1103 = .ok (.iaload, 1) := by decide +kernel
theorem dL_law_1104 : decode code 1104 = .ok (.aload_n 0, 1) := by decide +kernel
theorem dL_law_1105 : decode code 1105 = .ok (.iload_n 3, 1) := by decide +kernel
theorem dL_law_1106 : decode code 1106 = .ok (.iconst 3, 1) := by decide +kernel
theorem dL_law_1107 : decode code 1107 = .ok (.iadd, 1) := by decide +kernel
theorem dL_law_1108 : decode code 1108 = .ok (.iaload, 1) := by decide +kernel
theorem dL_law_1109 : decode code 1109 = .ok (.aload_n 0, 1) := by decide +kernel
theorem dL_law_1110 : decode code 1110 = .ok (.iload_n 3, 1) := by decide +kernel
theorem dL_law_1111 : decode code 1111 = .ok (.iconst 4, 1) := by decide +kernel
theorem dL_law_1112 : decode code 1112 = .ok (.iadd, 1) := by decide +kernel
theorem dL_law_1113 : decode code 1113 = .ok (.iaload, 1) := by decide +kernel
theorem dL_law_1114 : decode code 1114 = .ok (.aload_n 0, 1) := by decide +kernel
theorem dL_law_1115 : decode code 1115 = .ok (.iload_n 3, 1) := by decide +kernel
theorem dL_law_1116 : decode code 1116 = .ok (.iconst 5, 1) := by decide +kernel
theorem dL_law_1117 : decode code 1117 = .ok (.iadd, 1) := by decide +kernel
theorem dL_law_1118 : decode code 1118 = .ok (.iaload, 1) := by decide +kernel
theorem dL_law_1119 : decode code 1119 = .ok (.invokevirtual 130, 3) := by decide +kernel
theorem dL_law_1122 : decode code 1122 = .ok (.if_icmp .eq 5, 3) := by decide +kernel
theorem dL_law_1125 : decode code 1125 = .ok (.iconst 0, 1) := by decide +kernel
theorem dL_law_1126 : decode code 1126 = .ok (.ireturn, 1) := by decide +kernel
theorem dL_law_1127 : decode code 1127 = .ok (.iinc 3 6, 3) := by decide +kernel
theorem dL_law_1130 : decode code 1130 = .ok (.goto (-1112), 3) := by decide +kernel
theorem dL_law_1133 : decode code 1133 = .ok (.iconst 1, 1) := by decide +kernel
theorem dL_law_1134 : decode code 1134 = .ok (.ireturn, 1) := by decide +kernel
end
section
/-! A PURE MACHINE over the kit's rows. The heap of the run is named by small numbers (ids): the cell id lies at pm_z P + id; the shapes G say what each is (an object: its class' place in vwCl and its fields: a reference that is told, or a number; an array: 0 int, 1 char, 2 long, or references that are told); I holds the numbers (of fields and of arrays), L the longs. PW is the walk's judgement over it, PC a method's contract. -/
abbrev pm_S : Type := (Nat × List (Option (Option Nat))) ⊕ ((Nat × Nat) ⊕ List (Option Nat))
abbrev pm_I : Type := Nat → Nat → Int32
abbrev pm_L : Type := Nat → Nat → Int64
abbrev pm_E : Type := Nat × va_G × (Nat → ClassId) × ((Nat → Nat) × (Nat → Nat)) × (Nat × Nat × (Nat → Int32))
def pm_z (P : pm_E) : Nat := P.1
def pm_D (P : pm_E) : va_G := P.2.1
def pm_cs (P : pm_E) : Nat → ClassId := P.2.2.1
def pm_aK (P : pm_E) : Nat → Nat := P.2.2.2.1.1
def pm_aV (P : pm_E) : Nat → Nat := P.2.2.2.1.2
def pm_b (P : pm_E) : Nat := P.2.2.2.2.1
def pm_n (P : pm_E) : Nat := P.2.2.2.2.2.1
def pm_xs (P : pm_E) : Nat → Int32 := P.2.2.2.2.2.2
/-- the cells that may change -/
def pm_A (P : pm_E) : Nat → Prop := fun q => pm_z P ≤ q
def pm_ad (P : pm_E) (id : Nat) : Nat := if id < 1000 then pm_z P + id else if id < 2000 then pm_aK P (id - 1000) else pm_b P
def pm_v (P : pm_E) (v : Value) : Value := match v with
  | .ref id => .ref (pm_ad P id)
  | w => w
theorem pm_v_cat (P : pm_E) (v : Value) : (pm_v P v).category = v.category := by cases v <;> rfl
theorem pm_ad_lt {P : pm_E} {id : Nat} (h : id < 1000) : pm_ad P id = pm_z P + id := if_pos h
def pm_f (P : pm_E) (f : Nat → Int32) (q : Option (Option Nat) × Nat) : Value := match q.1 with
  | some (some r) => .ref (pm_ad P r)
  | some none => .null
  | none => .int (f q.2)
def pm_c (P : pm_E) (f : Nat → Int32) (g : Nat → Int64) (sh : pm_S) : va_E := match sh with
  | .inl o => .inr (o.1, o.2.zipIdx.map (pm_f P f))
  | .inr (.inl a) => if a.1 = 2 then .inl (pm_cs P 2, (a.2, .inr (.inl g))) else .inl (pm_cs P a.1, (a.2, .inl f))
  | .inr (.inr r) => .inl (pm_cs P 3, (r.length, .inr (.inr (.inr (.inr (fun k => (r.getD k none).map (pm_ad P)))))))
def pm_W (P : pm_E) (G : List pm_S) (I : pm_I) (L : pm_L) : va_W := G.zipIdx.map (fun q => (pm_z P + q.2, pm_c P (I q.2) (L q.2) q.1))
theorem pm_W_get {P : pm_E} {G : List pm_S} {I : pm_I} {L : pm_L} {id : Nat} {sh : pm_S} (h : G[id]? = some sh) : (pm_W P G I L)[id]? = some (pm_z P + id, pm_c P (I id) (L id) sh) := by
  simp [pm_W, List.getElem?_map, List.getElem?_zipIdx, h]
theorem pm_W_some {P : pm_E} {G : List pm_S} {I : pm_I} {L : pm_L} {k : Nat} {q : Nat × va_E} (h : (pm_W P G I L)[k]? = some q) : ∃ sh, G[k]? = some sh ∧ q = (pm_z P + k, pm_c P (I k) (L k) sh) := by
  rw [pm_W, List.getElem?_map, List.getElem?_zipIdx] at h
  cases hg : G[k]? with
  | none => rw [hg] at h; cases h
  | some sh =>
    rw [hg] at h
    refine ⟨sh, rfl, ?_⟩
    have h1 := Option.some.inj h
    rw [← h1]
    simp
theorem pm_W_len {P : pm_E} {G : List pm_S} {I : pm_I} {L : pm_L} : (pm_W P G I L).length = G.length := by simp [pm_W]
theorem pm_DD {P : pm_E} {G : List pm_S} {I : pm_I} {L : pm_L} : va_D (pm_A P) (pm_W P G I L) := by
  refine ⟨fun i j p q hi hj e => ?_, fun k q hk => ?_⟩
  · obtain ⟨s1, -, rfl⟩ := pm_W_some hi
    obtain ⟨s2, -, rfl⟩ := pm_W_some hj
    have : pm_z P + i = pm_z P + j := e
    omega
  · obtain ⟨s1, -, rfl⟩ := pm_W_some hk
    exact Nat.le_add_right _ _
/-- the heap holds the memory -/
def pm_H (P : pm_E) (G : List pm_S) (I : pm_I) (L : pm_L) (H : Heap) : Prop := va_P (pm_D P) vwCl (pm_W P G I L) H ∧ H.size = pm_z P + G.length ∧ G.length ≤ 1000
theorem pm_H.lt {P : pm_E} {G : List pm_S} {I : pm_I} {L : pm_L} {H : Heap} (h : pm_H P G I L H) {id : Nat} {sh : pm_S} (hg : G[id]? = some sh) : id < 1000 := Nat.lt_of_lt_of_le (List.getElem?_eq_some_iff.mp hg).1 h.2.2
theorem pm_H.ad {P : pm_E} {G : List pm_S} {I : pm_I} {L : pm_L} {H : Heap} (h : pm_H P G I L H) {id : Nat} {sh : pm_S} (hg : G[id]? = some sh) : pm_ad P id = pm_z P + id := pm_ad_lt (h.lt hg)
theorem pm_H.at {P : pm_E} {G : List pm_S} {I : pm_I} {L : pm_L} {H : Heap} (h : pm_H P G I L H) {id : Nat} {sh : pm_S} (hg : G[id]? = some sh) : (pm_W P G I L)[id]? = some (pm_ad P id, pm_c P (I id) (L id) sh) := by
  rw [h.ad hg]; exact pm_W_get hg
/-- another row in the place of one -/
def pm_u {α : Type} (I : Nat → Nat → α) (id : Nat) (f : Nat → α) : Nat → Nat → α := fun a => if a = id then f else I a
theorem pm_us {α : Type} {I : Nat → Nat → α} {id : Nat} {f : Nat → α} : pm_u I id f id = f := if_pos rfl
theorem pm_un {α : Type} {I : Nat → Nat → α} {id a : Nat} {f : Nat → α} (h : a ≠ id) : pm_u I id f a = I a := if_neg h
theorem pm_uu {α : Type} (I : Nat → Nat → α) (id : Nat) : pm_u I id (I id) = I := by
  funext a; by_cases h : a = id
  · subst h; exact pm_us
  · exact pm_un h
theorem pm_H.set {P : pm_E} {G : List pm_S} {I : pm_I} {L : pm_L} {H H1 : Heap} (h : pm_H P G I L H) {id : Nat} {sh : pm_S} (hg : G[id]? = some sh) (sh' : pm_S) (f : Nat → Int32) (g : Nat → Int64) (he : va_at (pm_D P) vwCl (pm_ad P id, pm_c P f g sh') H1) (hz : H1.size = H.size) (oq : ∀ q : Nat, q ≠ pm_ad P id → H1[q]? = H[q]?) : pm_H P (G.set id sh') (pm_u I id f) (pm_u L id g) H1 := by
  refine ⟨fun k q hk => ?_, by rw [hz, h.2.1, List.length_set], by rw [List.length_set]; exact h.2.2⟩
  obtain ⟨s1, h1, rfl⟩ := pm_W_some hk
  rw [h.ad hg] at he oq
  by_cases e : k = id
  · subst e
    rw [List.getElem?_set, if_pos rfl, if_pos (List.getElem?_eq_some_iff.mp hg).1] at h1
    cases h1
    rw [pm_us, pm_us]; exact he
  · rw [List.getElem?_set, if_neg (Ne.symm e)] at h1
    rw [pm_un e, pm_un e]
    exact (h.1 k _ (pm_W_get h1)).kept (oq _ (by show pm_z P + k ≠ _; omega))
theorem pm_H.set0 {P : pm_E} {G : List pm_S} {I : pm_I} {L : pm_L} {H H1 : Heap} (h : pm_H P G I L H) {id : Nat} {sh : pm_S} (hg : G[id]? = some sh) (f : Nat → Int32) (g : Nat → Int64) (he : va_at (pm_D P) vwCl (pm_ad P id, pm_c P f g sh) H1) (hz : H1.size = H.size) (oq : ∀ q : Nat, q ≠ pm_ad P id → H1[q]? = H[q]?) : pm_H P G (pm_u I id f) (pm_u L id g) H1 := by
  have h1 := h.set hg sh f g he hz oq
  have e : G.set id sh = G := by
    apply List.ext_getElem?
    intro i
    rw [List.getElem?_set]
    by_cases q : id = i
    · subst q; rw [if_pos rfl, if_pos (List.getElem?_eq_some_iff.mp hg).1, hg]
    · rw [if_neg q]
  rw [e] at h1; exact h1
theorem pm_H.push {P : pm_E} {G : List pm_S} {I : pm_I} {L : pm_L} {H H1 : Heap} (h : pm_H P G I L H) (hl : G.length < 1000) (sh : pm_S) (f : Nat → Int32) (g : Nat → Int64) (he : va_at (pm_D P) vwCl (H.size, pm_c P f g sh) H1) (hz : H1.size = H.size + 1) (oq : ∀ q : Nat, q < H.size → H1[q]? = H[q]?) : pm_H P (G ++ [sh]) (pm_u I G.length f) (pm_u L G.length g) H1 := by
  refine ⟨fun k q hk => ?_, by rw [hz, h.2.1, List.length_append]; rfl, by rw [List.length_append]; exact hl⟩
  obtain ⟨s1, h1, rfl⟩ := pm_W_some hk
  by_cases e : k < G.length
  · rw [List.getElem?_append_left e] at h1
    rw [pm_un (by omega), pm_un (by omega)]
    exact (h.1 k _ (pm_W_get h1)).kept (oq _ (by show pm_z P + k < _; rw [h.2.1]; omega))
  · rw [List.getElem?_append_right (by omega)] at h1
    have hk1 : k - G.length < 1 := (List.getElem?_eq_some_iff.mp h1).1
    have e1 : k = G.length := by omega
    subst e1
    rw [show G.length - G.length = 0 by omega] at h1
    cases h1
    rw [pm_us, pm_us, ← h.2.1]; exact he
/-! what lies round the memory and never changes: the tables, the constants' texts, the script -/
def pm_ty (P : pm_E) : List (ClassId × FieldType) := [(pm_cs P 0, .int), (pm_cs P 1, .char), (pm_cs P 2, .long), (pm_cs P 3, .object RX5)]
def NW : List (String × Nat × MethodName × String) := [(RX9, 21, yX7_init, RX9), (RX9, 28, yX8_init, RX9), (RX9, 35, yX6_init, RX9), (RX9, 42, yX3_init, RX9), (RX9, 49, yX4_init, RX9), (RX9, 60, yX5_init, RX9), (RX2, 57, yX9_isPlace, RX9), (RX6, 15, yX9_isIn, RX9), (RX8, 71, yX9_isPlace, RX9), (RX2, 80, yX9_holds, RX9)]
/-- the texts: class, entry, text, which of the different ones -/
def NT : List (String × Nat × String × Nat) := [(RX3, 24, ",", 0), (RX3, 44, "cklr", 1), (RX3, 49, "t", 2), (RX3, 51, "0123", 3), (RX3, 53, "@", 4), (RX3, 55, "012345", 5), (RX4, 17, ";", 6), (RX4, 35, "ldsp", 7), (RX4, 39, "abcdefghijkl", 8), (RX4, 44, ">", 9), (RX4, 46, "012345", 5), (RX4, 52, "=", 10)]
def NB : List (List Int32) := [[44], [99, 107, 108, 114], [116], [48, 49, 50, 51], [64], [48, 49, 50, 51, 52, 53], [59], [108, 100, 115, 112], [97, 98, 99, 100, 101, 102, 103, 104, 105, 106, 107, 108], [62], [61]]
def NL : List Nat := [1, 4, 1, 4, 1, 6, 1, 4, 12, 1, 1]
def pm_T (P : pm_E) (U : State) : Prop := va_K (pm_D P) vwCl (pm_ty P) U ∧ (∀ q ∈ NW, va_Nw (.methodLinkNest q.1 q.2.1 q.2.2.1 q.2.2.2) U) ∧ (∀ q ∈ NT, vk_R q.1 q.2.1 q.2.2.1 (pm_aK P q.2.2.2) U) ∧ va_AO RX5 U
theorem pm_T.warm {P : pm_E} {s U : State} (hW : s.WarmedH U.vm) (h : pm_T P s) : pm_T P U := ⟨va_K.moved hW.alike h.1, fun q hq => va_Nw.warmM hW (h.2.1 q hq), fun q hq => vk_R.warm hW (h.2.2.1 q hq), va_AO.moved hW.alike h.2.2.2⟩
theorem pm_T.same {P : pm_E} {s U : State} (hv : U.vm = s.vm) (h : pm_T P s) : pm_T P U := ⟨va_K.moved (by rw [hv]; exact Vm.Alike.refl s.vm) h.1, fun q hq => va_Nw.same rfl hv.symm (h.2.1 q hq), fun q hq => vk_R.same hv (h.2.2.1 q hq), va_AO.moved (by rw [hv]; exact Vm.Alike.refl s.vm) h.2.2.2⟩
def pm_X (P : pm_E) (U : State) (H : Heap) : Prop := vk_S 11 NL NB (pm_aK P) (pm_aV P) (pm_A P) U H ∧ va_Z "java/lang/String" "COMPACT_STRINGS" "Z" (.int 1) (pm_A P) U H ∧ va_X (pm_b P) (pm_n P) (pm_xs P) U H ∧ pm_b P < pm_z P ∧ pm_z P ≤ H.size
theorem pm_X.moved {P : pm_E} {u U : State} {H : Heap} (hvm : u.vm.Alike U.vm) (h : pm_X P u H) : pm_X P U H := ⟨h.1.moved hvm, h.2.1.moved hvm, h.2.2.1.moved hvm, h.2.2.2⟩
theorem pm_X.kept {P : pm_E} {U : State} {H H1 : Heap} (h : pm_X P U H) (hz : H.size ≤ H1.size) (hq : ∀ q : Nat, q < H.size → ¬ pm_A P q → H1[q]? = H[q]?) : pm_X P U H1 :=
  ⟨h.1.kept hq, h.2.1.kept hq, h.2.2.1.kept (hq _ (Nat.lt_of_lt_of_le h.2.2.2.1 h.2.2.2.2) (fun z => Nat.not_lt.mpr z h.2.2.2.1)), h.2.2.2.1, Nat.le_trans h.2.2.2.2 hz⟩
/-! the locals -/
def pm_LR (P : pm_E) (nL : Nat) (ls : List (Option Value)) (a : Array Slot) : Prop := a.size = nL ∧ lv_wf a ∧ ∀ (i : Nat) (v : Value), ls[i]? = some (some v) → a[i]? = some (.val (pm_v P v))
def pm_prs (P : pm_E) (ls : List (Option Value)) : List (Nat × Value) := ls.zipIdx.filterMap (fun q => q.1.map (fun v => (q.2, pm_v P v)))
theorem pm_prs_in {P : pm_E} {ls : List (Option Value)} {i : Nat} {v : Value} (h : ls[i]? = some (some v)) : (i, pm_v P v) ∈ pm_prs P ls := by
  refine List.mem_filterMap.mpr ⟨(some v, i), List.mem_of_getElem? (i := i) ?_, rfl⟩
  simp [List.getElem?_zipIdx, h]
theorem pm_LR.has {P : pm_E} {nL : Nat} {ls : List (Option Value)} {a : Array Slot} (h : pm_LR P nL ls a) : lv_has a nL (pm_prs P ls) := by
  refine ⟨h.1, h.2.1, fun q hq => ?_⟩
  obtain ⟨⟨o, j⟩, h1, h2⟩ := List.mem_filterMap.mp hq
  obtain ⟨k, hk⟩ := List.getElem?_of_mem h1
  rw [List.getElem?_zipIdx] at hk
  cases hl : ls[k]? with
  | none => rw [hl] at hk; cases hk
  | some o' =>
    rw [hl] at hk
    have h3 := Option.some.inj hk
    simp at h3
    obtain ⟨e1, e2⟩ := h3
    subst e1; subst e2
    cases o' with
    | none => cases h2
    | some v =>
      have h4 : (k, pm_v P v) = q := Option.some.inj h2
      rw [← h4]
      exact h.2.2 k v hl
/-- no long lies just ahead of a place -/
def pm_fr (ls : List (Option Value)) (i : Nat) : Bool := match i with
  | 0 => true
  | j + 1 => match ls.getD j none with
    | some v => v.category == 1
    | none => true
theorem pm_fr_ok {ls : List (Option Value)} {i j : Nat} {v : Value} (h : pm_fr ls i = true) (hj : ls[j]? = some (some v)) (e : j + 1 = i) : ¬ v.category = 2 := by
  subst e
  have h1 : pm_fr ls (j + 1) = (v.category == 1) := by simp [pm_fr, List.getD_eq_getElem?_getD, hj]
  rw [h1] at h
  have h2 : v.category = 1 := by simpa using h
  omega
theorem pm_st1 {P : pm_E} {nL : Nat} {ls : List (Option Value)} {i : Nat} {v : Value} (hf : pm_fr ls i = true) {a' : Array Slot} (h' : lv_has a' nL ((i, pm_v P v) :: (pm_prs P ls).filter (fun q => !(q.1 == i) && !(q.1 + 1 == i && q.2.category == 2)))) : pm_LR P nL (ls.set i (some v)) a' := by
  refine ⟨h'.1, h'.2.1, fun j w hj => ?_⟩
  rw [List.getElem?_set] at hj
  by_cases e : i = j
  · subst e
    rw [if_pos rfl] at hj
    split at hj
    · cases hj
      exact h'.2.2 (i, _) List.mem_cons_self
    · cases hj
  · rw [if_neg e] at hj
    refine h'.2.2 (j, _) (List.mem_cons_of_mem _ (List.mem_filter.mpr ⟨pm_prs_in hj, ?_⟩))
    have h1 : (j == i) = false := by simp; omega
    have h2 : (j + 1 == i && (pm_v P w).category == 2) = false := by
      by_cases e2 : j + 1 = i
      · rw [pm_v_cat]; simp; intro _; exact pm_fr_ok hf hj e2
      · simp; intro q; exact absurd q e2
    show (!(j == i) && !(j + 1 == i && (pm_v P w).category == 2)) = true
    rw [h1, h2]; rfl
theorem pm_st2 {P : pm_E} {nL : Nat} {ls : List (Option Value)} {i : Nat} {v : Value} (hf : pm_fr ls i = true) {a' : Array Slot} (h' : lv_has a' nL ((i, pm_v P v) :: (pm_prs P ls).filter (fun q => !(q.1 == i) && (!(q.1 == i + 1) && !(q.1 + 1 == i && q.2.category == 2))))) : pm_LR P nL ((ls.set i (some v)).set (i + 1) none) a' := by
  refine ⟨h'.1, h'.2.1, fun j w hj => ?_⟩
  rw [List.getElem?_set] at hj
  by_cases e0 : i + 1 = j
  · subst e0
    rw [if_pos rfl] at hj
    split at hj <;> cases hj
  · rw [if_neg e0, List.getElem?_set] at hj
    by_cases e : i = j
    · subst e
      rw [if_pos rfl] at hj
      split at hj
      · cases hj
        exact h'.2.2 (i, _) List.mem_cons_self
      · cases hj
    · rw [if_neg e] at hj
      refine h'.2.2 (j, _) (List.mem_cons_of_mem _ (List.mem_filter.mpr ⟨pm_prs_in hj, ?_⟩))
      have h1 : (j == i) = false := by simp; omega
      have h3 : (j == i + 1) = false := by simp; omega
      have h2 : (j + 1 == i && (pm_v P w).category == 2) = false := by
        by_cases e2 : j + 1 = i
        · rw [pm_v_cat]; simp; intro _; exact pm_fr_ok hf hj e2
        · simp; intro q; exact absurd q e2
      show (!(j == i) && (!(j == i + 1) && !(j + 1 == i && (pm_v P w).category == 2))) = true
      rw [h1, h2, h3]; rfl
/-! the judgement -/
def pm_C (y : MethodName) (cc : ByteArray) (nL : Nat) (ret : Option FieldType) (p : Program) (s : State) (m : MethodId) (args : Array Value) (meth : Method) (c : Code) : Prop :=
  p.tables.exec = Jvm.exec ∧ c.code = cc ∧ c.maxLocals = nL ∧ s.vm.findClass y.cls = some m.cls ∧ meth.name = y.name ∧ meth.sig.returnType = ret ∧ meth.locks = false ∧ ∀ w ∈ TB, w.before args s = true
def PW (l : Launch) (P : pm_E) (y : MethodName) (cc : ByteArray) (nL : Nat) (ret : Option FieldType) (R : Room) (Tg : List Frame → Array Value → State → State → Prop) (k n pc : Nat) (ls : List (Option Value)) (st : List Value) (G : List pm_S) (I : pm_I) (L : pm_L) : Prop :=
  ∀ (p : Program) (e : Env) (s : State) (m : MethodId) (args : Array Value) (below : List Frame) (meth : Method) (c : Code) (H : Heap) (locs : List Loc) (a : Array Slot),
    pm_C y cc nL ret p s m args meth c → pm_T P s → pm_X P s s.heap → pm_H P G I L H → va_S (pm_A P) s.heap H locs → pm_LR P nL ls a →
    W p l e R s m args below meth c H locs k n (Tg below args s) (F0 m pc a (st.map (pm_v P)))
def pm_rm (d K N : Nat) : Room := { frames := d, cells := K, slots := N, locals := 64 * d }
def pm_w (y : MethodName) (cc : ByteArray) (nL : Nat) (ret : Option FieldType) : List Cond := .code y cc nL ret :: TB
def pm_Pre (P : pm_E) (args : List Value) (G : List pm_S) (I : pm_I) (L : pm_L) : Array Value → State → Prop := fun v U => v = (args.map (pm_v P)).toArray ∧ pm_H P G I L U.heap ∧ pm_T P U ∧ pm_X P U U.heap
def pm_Q (P : pm_E) (Q : Option Value → List pm_S → pm_I → pm_L → Prop) : Array Value → State → Outcome → State → Prop := fun _ st o t => (∃ (v : Option Value) (G' : List pm_S) (I' : pm_I) (L' : pm_L), o = .returned (v.map (pm_v P)) ∧ Q v G' I' L' ∧ pm_H P G' I' L' t.heap) ∧ va_F (pm_A P) st t
/-- A METHOD'S CONTRACT: from the memory G, I, L and these arguments it returns v with the memory G', I', L' of which Q holds; depth d, K cells of N slots at most are made -/
def PC (d K N : Nat) (y : MethodName) (cc : ByteArray) (nL : Nat) (ret : Option FieldType) (args : List Value) (G : List pm_S) (I : pm_I) (L : pm_L) (Q : Option Value → List pm_S → pm_I → pm_L → Prop) : Prop :=
  ∀ (l : Launch) (P : pm_E), Met l y (pm_w y cc nL ret) (pm_rm d K N) (pm_Pre P args G I L) (pm_Q P Q) K N (pm_A P)
def pm_Tg (P : pm_E) (Q : Option Value → List pm_S → pm_I → pm_L → Prop) (K N : Nat) : List Frame → Array Value → State → State → Prop := fun below args s => MQ below (pm_Q P Q) args s K N (pm_A P)
/-- the locals of an entry -/
def pm_ent : List Value → List (Option Value)
  | [] => []
  | v :: vs => if v.category = 2 then some v :: none :: pm_ent vs else some v :: pm_ent vs
theorem pm_ent_in (P : pm_E) : ∀ (vs : List Value) (k i : Nat) (v : Value), (pm_ent vs)[i]? = some (some v) → (k + i, pm_v P v) ∈ lv_args k (vs.map (pm_v P))
  | [], k, i, v, h => by cases h
  | w :: vs, k, i, v, h => by
    rw [pm_ent] at h
    rw [List.map_cons, lv_args, pm_v_cat]
    by_cases hc : w.category = 2
    · rw [if_pos hc] at h ⊢
      match i, h with
      | 0, h => cases h; exact List.mem_cons_self
      | 1, h => cases h
      | j + 2, h =>
        have h2 := pm_ent_in P vs (k + 2) j v h
        rw [show k + (j + 2) = k + 2 + j by omega]
        exact List.mem_cons_of_mem _ h2
    · rw [if_neg hc] at h ⊢
      match i, h with
      | 0, h => cases h; exact List.mem_cons_self
      | j + 1, h =>
        have h2 := pm_ent_in P vs (k + 1) j v h
        rw [show k + (j + 1) = k + 1 + j by omega]
        exact List.mem_cons_of_mem _ h2
theorem pm_sl_len : ∀ (vs : List Value), (lg_sl vs).length = (pm_ent vs).length
  | [] => rfl
  | v :: vs => by
    have ih := pm_sl_len vs
    rw [pm_ent]
    by_cases hc : v.category = 2
    · rw [if_pos hc]; simp only [lg_sl, List.flatMap_cons, List.length_append] at ih ⊢; rw [ih, if_pos hc]; simp; omega
    · rw [if_neg hc]; simp only [lg_sl, List.flatMap_cons, List.length_append] at ih ⊢; rw [ih, if_neg hc]; simp; omega
theorem pm_ent_len (P : pm_E) : ∀ (vs : List Value), (pm_ent (vs.map (pm_v P))).length = (pm_ent vs).length
  | [] => rfl
  | v :: vs => by
    have ih := pm_ent_len P vs
    rw [List.map_cons, pm_ent, pm_ent, pm_v_cat]
    by_cases hc : v.category = 2
    · rw [if_pos hc, if_pos hc]; simp [ih]
    · rw [if_neg hc, if_neg hc]; simp [ih]
theorem pm_plain {y : MethodName} (h : plainName y.cls = true) : plainName y.cls = true := h
theorem PC.of {d K N : Nat} {y : MethodName} {cc : ByteArray} {nL : Nat} {ret : Option FieldType} {args : List Value} {G : List pm_S} {I : pm_I} {L : pm_L} {Q : Option Value → List pm_S → pm_I → pm_L → Prop} (ls : List (Option Value)) (hy : plainName y.cls = true) (hl : (pm_ent args).length ≤ nL) (he : pm_ent args ++ List.replicate (nL - (pm_ent args).length) none = ls)
    (body : ∀ (l : Launch) (P : pm_E), PW l P y cc nL ret (pm_rm d K N) (pm_Tg P Q K N) 0 0 0 ls [] G I L) : PC d K N y cc nL ret args G I L Q := by
  intro l P
  refine Met.ofW (cc := cc) (maxL := nL) (ret := ret) hy rfl ?_
  intro p e s m av below meth c s₁ B hml hv
  obtain ⟨rfl, hH, hT, hX⟩ := hv
  have hts := atoms_spec (ws := pm_w y cc nL ret) B.pre
  have hl2 : (lg_sl (args.map (pm_v P))).length ≤ nL := by rw [pm_sl_len, pm_ent_len]; exact hl
  have hh := lv_entry (args.map (pm_v P)) (n := nL) hl2
  rw [lg_entry_eq]
  refine body l P p e s m _ below meth c s.heap [] _ ⟨B.exec, B.bytes, hml, findClass_of_methodNamed B.named, (name_of_methodNamed B.named B.method).1, B.returns, B.notSynchronized, fun w hw => hts w (List.mem_cons_of_mem _ hw)⟩ hT hX hH va_S.rf ⟨hh.1, hh.2.1, fun i v hi => ?_⟩
  rw [← he] at hi
  have hi2 : (pm_ent args)[i]? = some (some v) := by
    by_cases h : i < (pm_ent args).length
    · rw [List.getElem?_append_left h] at hi; exact hi
    · rw [List.getElem?_append_right (by omega)] at hi
      have h2 := List.mem_of_getElem? hi
      have h3 := (List.mem_replicate.mp h2).2
      cases h3
  have h4 := pm_ent_in P args 0 i v hi2
  rw [Nat.zero_add] at h4
  exact hh.2.2 _ h4
section PMR
variable {l : Launch} {P : pm_E} {y : MethodName} {cc : ByteArray} {nL : Nat} {ret : Option FieldType} {R : Room} {Tg : List Frame → Array Value → State → State → Prop} {k n pc : Nat} {ls : List (Option Value)} {st : List Value} {G : List pm_S} {I : pm_I} {L : pm_L}
/-- fewer known locals -/
theorem pm_sub (ls' : List (Option Value)) (h : ∀ (i : Nat) (v : Value), ls'[i]? = some (some v) → ls[i]? = some (some v)) (kk : PW l P y cc nL ret R Tg k n pc ls' st G I L) : PW l P y cc nL ret R Tg k n pc ls st G I L := by
  intro p e s m args below meth c H locs a C hT hX hH hS hL
  exact kk p e s m args below meth c H locs a C hT hX hH hS ⟨hL.1, hL.2.1, fun i v hi => hL.2.2 i v (h i v hi)⟩
theorem pm_kill (j : Nat) (kk : PW l P y cc nL ret R Tg k n pc (ls.set j none) st G I L) : PW l P y cc nL ret R Tg k n pc ls st G I L := by
  refine pm_sub _ (fun i v hi => ?_) kk
  rw [List.getElem?_set] at hi
  split at hi
  · split at hi <;> cases hi
  · exact hi
theorem pm_eq {ls' : List (Option Value)} {st' : List Value} {G' : List pm_S} {I' : pm_I} {L' : pm_L} (h1 : ls = ls') (h2 : st = st') (h3 : G = G') (h4 : I = I') (h5 : L = L') (kk : PW l P y cc nL ret R Tg k n pc ls' st' G' I' L') : PW l P y cc nL ret R Tg k n pc ls st G I L := by subst h1; subst h2; subst h3; subst h4; subst h5; exact kk
theorem pm_widen {k' n' : Nat} (h1 : k ≤ k') (h2 : n ≤ n') (kk : PW l P y cc nL ret R Tg k' n' pc ls st G I L) : PW l P y cc nL ret R Tg k n pc ls st G I L := by
  intro p e s m args below meth c H locs a C hT hX hH hS hL
  exact W.widen h1 h2 (kk p e s m args below meth c H locs a C hT hX hH hS hL)
/-- fewer known longs, numbers: another memory that the heap holds as well -/
theorem pm_mem {G' : List pm_S} {I' : pm_I} {L' : pm_L} (h : ∀ H, pm_H P G I L H → pm_H P G' I' L' H) (kk : PW l P y cc nL ret R Tg k n pc ls st G' I' L') : PW l P y cc nL ret R Tg k n pc ls st G I L := by
  intro p e s m args below meth c H locs a C hT hX hH hS hL
  exact kk p e s m args below meth c H locs a C hT hX (h H hH) hS hL
theorem pm_iadd {x w : Int32} (hd : decode cc pc = .ok (.iadd, 1)) (kk : PW l P y cc nL ret R Tg k n (pc + 1) ls (.int (x + w) :: st) G I L) : PW l P y cc nL ret R Tg k n pc ls (.int w :: .int x :: st) G I L := by
  intro p e s m args below meth c H locs a C hT hX hH hS hL
  exact lv_iadd C.1 C.2.1 hd (kk p e s m args below meth c H locs a C hT hX hH hS hL)
theorem pm_isub {x w : Int32} (hd : decode cc pc = .ok (.isub, 1)) (kk : PW l P y cc nL ret R Tg k n (pc + 1) ls (.int (x - w) :: st) G I L) : PW l P y cc nL ret R Tg k n pc ls (.int w :: .int x :: st) G I L := by
  intro p e s m args below meth c H locs a C hT hX hH hS hL
  exact lv_isub C.1 C.2.1 hd (kk p e s m args below meth c H locs a C hT hX hH hS hL)
theorem pm_imul {x w : Int32} (hd : decode cc pc = .ok (.imul, 1)) (kk : PW l P y cc nL ret R Tg k n (pc + 1) ls (.int (x * w) :: st) G I L) : PW l P y cc nL ret R Tg k n pc ls (.int w :: .int x :: st) G I L := by
  intro p e s m args below meth c H locs a C hT hX hH hS hL
  exact lv_imul C.1 C.2.1 hd (kk p e s m args below meth c H locs a C hT hX hH hS hL)
theorem pm_iand {x w : Int32} (hd : decode cc pc = .ok (.iand, 1)) (kk : PW l P y cc nL ret R Tg k n (pc + 1) ls (.int (x &&& w) :: st) G I L) : PW l P y cc nL ret R Tg k n pc ls (.int w :: .int x :: st) G I L := by
  intro p e s m args below meth c H locs a C hT hX hH hS hL
  exact lv_iand C.1 C.2.1 hd (kk p e s m args below meth c H locs a C hT hX hH hS hL)
theorem pm_ior {x w : Int32} (hd : decode cc pc = .ok (.ior, 1)) (kk : PW l P y cc nL ret R Tg k n (pc + 1) ls (.int (x ||| w) :: st) G I L) : PW l P y cc nL ret R Tg k n pc ls (.int w :: .int x :: st) G I L := by
  intro p e s m args below meth c H locs a C hT hX hH hS hL
  exact lv_ior C.1 C.2.1 hd (kk p e s m args below meth c H locs a C hT hX hH hS hL)
theorem pm_ixor {x w : Int32} (hd : decode cc pc = .ok (.ixor, 1)) (kk : PW l P y cc nL ret R Tg k n (pc + 1) ls (.int (x ^^^ w) :: st) G I L) : PW l P y cc nL ret R Tg k n pc ls (.int w :: .int x :: st) G I L := by
  intro p e s m args below meth c H locs a C hT hX hH hS hL
  exact lv_ixor C.1 C.2.1 hd (kk p e s m args below meth c H locs a C hT hX hH hS hL)
theorem pm_ishl {x w : Int32} (hd : decode cc pc = .ok (.ishl, 1)) (kk : PW l P y cc nL ret R Tg k n (pc + 1) ls (.int (x <<< (w &&& 31)) :: st) G I L) : PW l P y cc nL ret R Tg k n pc ls (.int w :: .int x :: st) G I L := by
  intro p e s m args below meth c H locs a C hT hX hH hS hL
  exact lv_ishl C.1 C.2.1 hd (kk p e s m args below meth c H locs a C hT hX hH hS hL)
theorem pm_ishr {x w : Int32} (hd : decode cc pc = .ok (.ishr, 1)) (kk : PW l P y cc nL ret R Tg k n (pc + 1) ls (.int (x >>> (w &&& 31)) :: st) G I L) : PW l P y cc nL ret R Tg k n pc ls (.int w :: .int x :: st) G I L := by
  intro p e s m args below meth c H locs a C hT hX hH hS hL
  exact lv_ishr C.1 C.2.1 hd (kk p e s m args below meth c H locs a C hT hX hH hS hL)
theorem pm_idiv {x w : Int32} (hd : decode cc pc = .ok (.idiv, 1)) (hne : ¬ w = 0) (kk : PW l P y cc nL ret R Tg k n (pc + 1) ls (.int (x / w) :: st) G I L) : PW l P y cc nL ret R Tg k n pc ls (.int w :: .int x :: st) G I L := by
  intro p e s m args below meth c H locs a C hT hX hH hS hL
  exact lv_idiv C.1 C.2.1 hd hne (kk p e s m args below meth c H locs a C hT hX hH hS hL)
theorem pm_irem {x w : Int32} (hd : decode cc pc = .ok (.irem, 1)) (hne : ¬ w = 0) (kk : PW l P y cc nL ret R Tg k n (pc + 1) ls (.int (x - x / w * w) :: st) G I L) : PW l P y cc nL ret R Tg k n pc ls (.int w :: .int x :: st) G I L := by
  intro p e s m args below meth c H locs a C hT hX hH hS hL
  exact lv_irem C.1 C.2.1 hd hne (kk p e s m args below meth c H locs a C hT hX hH hS hL)
theorem pm_ineg {x : Int32} (hd : decode cc pc = .ok (.ineg, 1)) (kk : PW l P y cc nL ret R Tg k n (pc + 1) ls (.int (-x) :: st) G I L) : PW l P y cc nL ret R Tg k n pc ls (.int x :: st) G I L := by
  intro p e s m args below meth c H locs a C hT hX hH hS hL
  exact lv_ineg C.1 C.2.1 hd (kk p e s m args below meth c H locs a C hT hX hH hS hL)
theorem pm_land {x w : Int64} (hd : decode cc pc = .ok (.land, 1)) (kk : PW l P y cc nL ret R Tg k n (pc + 1) ls (.long (x &&& w) :: st) G I L) : PW l P y cc nL ret R Tg k n pc ls (.long w :: .long x :: st) G I L := by
  intro p e s m args below meth c H locs a C hT hX hH hS hL
  exact lv_land C.1 C.2.1 hd (kk p e s m args below meth c H locs a C hT hX hH hS hL)
theorem pm_lor {x w : Int64} (hd : decode cc pc = .ok (.lor, 1)) (kk : PW l P y cc nL ret R Tg k n (pc + 1) ls (.long (x ||| w) :: st) G I L) : PW l P y cc nL ret R Tg k n pc ls (.long w :: .long x :: st) G I L := by
  intro p e s m args below meth c H locs a C hT hX hH hS hL
  exact lv_lor C.1 C.2.1 hd (kk p e s m args below meth c H locs a C hT hX hH hS hL)
theorem pm_lsub {x w : Int64} (hd : decode cc pc = .ok (.lsub, 1)) (kk : PW l P y cc nL ret R Tg k n (pc + 1) ls (.long (x - w) :: st) G I L) : PW l P y cc nL ret R Tg k n pc ls (.long w :: .long x :: st) G I L := by
  intro p e s m args below meth c H locs a C hT hX hH hS hL
  exact lv_lsub C.1 C.2.1 hd (kk p e s m args below meth c H locs a C hT hX hH hS hL)
theorem pm_lxor {x w : Int64} (hd : decode cc pc = .ok (.lxor, 1)) (kk : PW l P y cc nL ret R Tg k n (pc + 1) ls (.long (x ^^^ w) :: st) G I L) : PW l P y cc nL ret R Tg k n pc ls (.long w :: .long x :: st) G I L := by
  intro p e s m args below meth c H locs a C hT hX hH hS hL
  exact lv_lxor C.1 C.2.1 hd (kk p e s m args below meth c H locs a C hT hX hH hS hL)
theorem pm_ladd {x w : Int64} (hd : decode cc pc = .ok (.ladd, 1)) (kk : PW l P y cc nL ret R Tg k n (pc + 1) ls (.long (x + w) :: st) G I L) : PW l P y cc nL ret R Tg k n pc ls (.long w :: .long x :: st) G I L := by
  intro p e s m args below meth c H locs a C hT hX hH hS hL
  exact lv_ladd C.1 C.2.1 hd (kk p e s m args below meth c H locs a C hT hX hH hS hL)
theorem pm_lcmp {x w : Int64} (hd : decode cc pc = .ok (.lcmp, 1)) (kk : PW l P y cc nL ret R Tg k n (pc + 1) ls (.int (lg_cmp x w) :: st) G I L) : PW l P y cc nL ret R Tg k n pc ls (.long w :: .long x :: st) G I L := by
  intro p e s m args below meth c H locs a C hT hX hH hS hL
  exact W.lcmp C.1 C.2.1 hd (kk p e s m args below meth c H locs a C hT hX hH hS hL)
theorem pm_lshl {x : Int64} {y1 : Int32} (hd : decode cc pc = .ok (.lshl, 1)) (kk : PW l P y cc nL ret R Tg k n (pc + 1) ls (.long (x <<< (y1.toInt64 &&& 63)) :: st) G I L) : PW l P y cc nL ret R Tg k n pc ls (.int y1 :: .long x :: st) G I L := by
  intro p e s m args below meth c H locs a C hT hX hH hS hL
  exact lv_lshl C.1 C.2.1 hd rfl (kk p e s m args below meth c H locs a C hT hX hH hS hL)
theorem pm_lshr {x : Int64} {y1 : Int32} (hd : decode cc pc = .ok (.lshr, 1)) (kk : PW l P y cc nL ret R Tg k n (pc + 1) ls (.long (x >>> (y1.toInt64 &&& 63)) :: st) G I L) : PW l P y cc nL ret R Tg k n pc ls (.int y1 :: .long x :: st) G I L := by
  intro p e s m args below meth c H locs a C hT hX hH hS hL
  exact lv_lshr C.1 C.2.1 hd rfl (kk p e s m args below meth c H locs a C hT hX hH hS hL)
theorem pm_i2l {x : Int32} (hd : decode cc pc = .ok (.i2l, 1)) (kk : PW l P y cc nL ret R Tg k n (pc + 1) ls (.long x.toInt64 :: st) G I L) : PW l P y cc nL ret R Tg k n pc ls (.int x :: st) G I L := by
  intro p e s m args below meth c H locs a C hT hX hH hS hL
  exact lv_i2l C.1 C.2.1 hd rfl (kk p e s m args below meth c H locs a C hT hX hH hS hL)
theorem pm_l2i {x : Int64} (hd : decode cc pc = .ok (.l2i, 1)) (kk : PW l P y cc nL ret R Tg k n (pc + 1) ls (.int x.toInt32 :: st) G I L) : PW l P y cc nL ret R Tg k n pc ls (.long x :: st) G I L := by
  intro p e s m args below meth c H locs a C hT hX hH hS hL
  exact lv_l2i C.1 C.2.1 hd rfl (kk p e s m args below meth c H locs a C hT hX hH hS hL)
theorem pm_i2b {x : Int32} (hd : decode cc pc = .ok (.i2b, 1)) (kk : PW l P y cc nL ret R Tg k n (pc + 1) ls (.int x.toInt8.toInt32 :: st) G I L) : PW l P y cc nL ret R Tg k n pc ls (.int x :: st) G I L := by
  intro p e s m args below meth c H locs a C hT hX hH hS hL
  exact lv_i2b C.1 C.2.1 hd rfl (kk p e s m args below meth c H locs a C hT hX hH hS hL)
theorem pm_i2c {x : Int32} (hd : decode cc pc = .ok (.i2c, 1)) (kk : PW l P y cc nL ret R Tg k n (pc + 1) ls (.int (x.toUInt32 % 65536).toInt32 :: st) G I L) : PW l P y cc nL ret R Tg k n pc ls (.int x :: st) G I L := by
  intro p e s m args below meth c H locs a C hT hX hH hS hL
  exact lv_i2c C.1 C.2.1 hd rfl (kk p e s m args below meth c H locs a C hT hX hH hS hL)
theorem pm_iconst {j : Int} {v : Int32} (hd : decode cc pc = .ok (.iconst j, 1)) (hv : Int32.ofInt j = v) (kk : PW l P y cc nL ret R Tg k n (pc + 1) ls (.int v :: st) G I L) : PW l P y cc nL ret R Tg k n pc ls (st) G I L := by
  intro p e s m args below meth c H locs a C hT hX hH hS hL
  exact lv_iconst C.1 C.2.1 hd hv (kk p e s m args below meth c H locs a C hT hX hH hS hL)
theorem pm_bipush {j : Int} {v : Int32} (hd : decode cc pc = .ok (.bipush j, 2)) (hv : (Int8.ofInt j).toInt32 = v) (kk : PW l P y cc nL ret R Tg k n (pc + 2) ls (.int v :: st) G I L) : PW l P y cc nL ret R Tg k n pc ls (st) G I L := by
  intro p e s m args below meth c H locs a C hT hX hH hS hL
  exact lv_bipush C.1 C.2.1 hd hv (kk p e s m args below meth c H locs a C hT hX hH hS hL)
theorem pm_sipush {j : Int} {v : Int32} (hd : decode cc pc = .ok (.sipush j, 3)) (hv : (Int16.ofInt j).toInt32 = v) (kk : PW l P y cc nL ret R Tg k n (pc + 3) ls (.int v :: st) G I L) : PW l P y cc nL ret R Tg k n pc ls (st) G I L := by
  intro p e s m args below meth c H locs a C hT hX hH hS hL
  exact lv_sipush C.1 C.2.1 hd hv (kk p e s m args below meth c H locs a C hT hX hH hS hL)
theorem pm_lconst {j : Fin 2} {v : Int64} (hd : decode cc pc = .ok (.lconst j, 1)) (hv : Int64.ofNat (j : Nat) = v) (kk : PW l P y cc nL ret R Tg k n (pc + 1) ls (.long v :: st) G I L) : PW l P y cc nL ret R Tg k n pc ls (st) G I L := by
  intro p e s m args below meth c H locs a C hT hX hH hS hL
  exact lv_lconst C.1 C.2.1 hd hv (kk p e s m args below meth c H locs a C hT hX hH hS hL)
theorem pm_null {u : Unit} (hd : decode cc pc = .ok (.aconst_null, 1)) (kk : PW l P y cc nL ret R Tg k n (pc + 1) ls (.null :: st) G I L) : PW l P y cc nL ret R Tg k n pc ls (st) G I L := by
  intro p e s m args below meth c H locs a C hT hX hH hS hL
  exact lv_null C.1 C.2.1 hd (kk p e s m args below meth c H locs a C hT hX hH hS hL)
theorem pm_pop {v : Value} (hd : decode cc pc = .ok (.pop, 1)) (hc : v.category = 1) (kk : PW l P y cc nL ret R Tg k n (pc + 1) ls (st) G I L) : PW l P y cc nL ret R Tg k n pc ls (v :: st) G I L := by
  intro p e s m args below meth c H locs a C hT hX hH hS hL
  exact lv_pop C.1 C.2.1 hd (by rw [pm_v_cat]; exact hc) (kk p e s m args below meth c H locs a C hT hX hH hS hL)
theorem pm_dup {v : Value} (hd : decode cc pc = .ok (.dup, 1)) (hc : v.category = 1) (kk : PW l P y cc nL ret R Tg k n (pc + 1) ls (v :: v :: st) G I L) : PW l P y cc nL ret R Tg k n pc ls (v :: st) G I L := by
  intro p e s m args below meth c H locs a C hT hX hH hS hL
  exact lv_dup C.1 C.2.1 hd (by rw [pm_v_cat]; exact hc) (kk p e s m args below meth c H locs a C hT hX hH hS hL)
theorem pm_dup2 {v w : Value} (hd : decode cc pc = .ok (.dup2, 1)) (hc : v.category = 1) (hc2 : w.category = 1) (kk : PW l P y cc nL ret R Tg k n (pc + 1) ls (v :: w :: v :: w :: st) G I L) : PW l P y cc nL ret R Tg k n pc ls (v :: w :: st) G I L := by
  intro p e s m args below meth c H locs a C hT hX hH hS hL
  exact lv_dup2_11 C.1 C.2.1 hd (by rw [pm_v_cat]; exact hc) (by rw [pm_v_cat]; exact hc2) (kk p e s m args below meth c H locs a C hT hX hH hS hL)
theorem pm_iload_n {j : Fin 4} {x : Int32} (hd : decode cc pc = .ok (.iload_n j, 1)) (hl : ls[(j : Nat)]? = some (some (.int x))) (kk : PW l P y cc nL ret R Tg k n (pc + 1) ls (.int x :: st) G I L) : PW l P y cc nL ret R Tg k n pc ls (st) G I L := by
  intro p e s m args below meth c H locs a C hT hX hH hS hL
  exact lv_iload_n C.1 C.2.1 hd rfl (hL.2.2 _ _ hl) (kk p e s m args below meth c H locs a C hT hX hH hS hL)
theorem pm_iload {j : Nat} {x : Int32} (hd : decode cc pc = .ok (.iload j, 2)) (hl : ls[j]? = some (some (.int x))) (kk : PW l P y cc nL ret R Tg k n (pc + 2) ls (.int x :: st) G I L) : PW l P y cc nL ret R Tg k n pc ls (st) G I L := by
  intro p e s m args below meth c H locs a C hT hX hH hS hL
  exact lv_iload C.1 C.2.1 hd (hL.2.2 _ _ hl) (kk p e s m args below meth c H locs a C hT hX hH hS hL)
theorem pm_lload_n {j : Fin 4} {x : Int64} (hd : decode cc pc = .ok (.lload_n j, 1)) (hl : ls[(j : Nat)]? = some (some (.long x))) (kk : PW l P y cc nL ret R Tg k n (pc + 1) ls (.long x :: st) G I L) : PW l P y cc nL ret R Tg k n pc ls (st) G I L := by
  intro p e s m args below meth c H locs a C hT hX hH hS hL
  exact lv_lload_n C.1 C.2.1 hd rfl (hL.2.2 _ _ hl) (kk p e s m args below meth c H locs a C hT hX hH hS hL)
theorem pm_lload {j : Nat} {x : Int64} (hd : decode cc pc = .ok (.lload j, 2)) (hl : ls[j]? = some (some (.long x))) (kk : PW l P y cc nL ret R Tg k n (pc + 2) ls (.long x :: st) G I L) : PW l P y cc nL ret R Tg k n pc ls (st) G I L := by
  intro p e s m args below meth c H locs a C hT hX hH hS hL
  exact lv_lload C.1 C.2.1 hd (hL.2.2 _ _ hl) (kk p e s m args below meth c H locs a C hT hX hH hS hL)
theorem pm_aload_n {j : Fin 4} {x : Nat} (hd : decode cc pc = .ok (.aload_n j, 1)) (hl : ls[(j : Nat)]? = some (some (.ref x))) (kk : PW l P y cc nL ret R Tg k n (pc + 1) ls (.ref x :: st) G I L) : PW l P y cc nL ret R Tg k n pc ls (st) G I L := by
  intro p e s m args below meth c H locs a C hT hX hH hS hL
  exact lv_aload_n C.1 C.2.1 hd rfl (hL.2.2 _ _ hl) (kk p e s m args below meth c H locs a C hT hX hH hS hL)
theorem pm_aload {j : Nat} {x : Nat} (hd : decode cc pc = .ok (.aload j, 2)) (hl : ls[j]? = some (some (.ref x))) (kk : PW l P y cc nL ret R Tg k n (pc + 2) ls (.ref x :: st) G I L) : PW l P y cc nL ret R Tg k n pc ls (st) G I L := by
  intro p e s m args below meth c H locs a C hT hX hH hS hL
  exact lv_aload C.1 C.2.1 hd (hL.2.2 _ _ hl) (kk p e s m args below meth c H locs a C hT hX hH hS hL)
theorem pm_aload_nN {j : Fin 4} (hd : decode cc pc = .ok (.aload_n j, 1)) (hl : ls[(j : Nat)]? = some (some .null)) (kk : PW l P y cc nL ret R Tg k n (pc + 1) ls (.null :: st) G I L) : PW l P y cc nL ret R Tg k n pc ls (st) G I L := by
  intro p e s m args below meth c H locs a C hT hX hH hS hL
  exact lv_aload_nN C.1 C.2.1 hd rfl (hL.2.2 _ _ hl) (kk p e s m args below meth c H locs a C hT hX hH hS hL)
theorem pm_aloadN {j : Nat} (hd : decode cc pc = .ok (.aload j, 2)) (hl : ls[j]? = some (some .null)) (kk : PW l P y cc nL ret R Tg k n (pc + 2) ls (.null :: st) G I L) : PW l P y cc nL ret R Tg k n pc ls (st) G I L := by
  intro p e s m args below meth c H locs a C hT hX hH hS hL
  exact lv_aloadN C.1 C.2.1 hd (hL.2.2 _ _ hl) (kk p e s m args below meth c H locs a C hT hX hH hS hL)
theorem pm_istore_n {j : Fin 4} {x : Int32} (hd : decode cc pc = .ok (.istore_n j, 1)) (hn : (j : Nat) < nL) (hf : pm_fr ls (j : Nat) = true) (kk : PW l P y cc nL ret R Tg k n (pc + 1) (ls.set (j : Nat) (some (.int x))) st G I L) : PW l P y cc nL ret R Tg k n pc ls (.int x :: st) G I L := by
  intro p e s m args below meth c H locs a C hT hX hH hS hL
  exact lv_istore_n C.1 C.2.1 hd rfl (hL.has) hn rfl (fun a' h' => kk p e s m args below meth c H locs a' C hT hX hH hS (pm_st1 (v := .int x) hf h'))
theorem pm_istore {j : Nat} {x : Int32} (hd : decode cc pc = .ok (.istore j, 2)) (hn : j < nL) (hf : pm_fr ls j = true) (kk : PW l P y cc nL ret R Tg k n (pc + 2) (ls.set j (some (.int x))) st G I L) : PW l P y cc nL ret R Tg k n pc ls (.int x :: st) G I L := by
  intro p e s m args below meth c H locs a C hT hX hH hS hL
  exact lv_istore C.1 C.2.1 hd (hL.has) hn rfl (fun a' h' => kk p e s m args below meth c H locs a' C hT hX hH hS (pm_st1 (v := .int x) hf h'))
theorem pm_astore_n {j : Fin 4} {x : Nat} (hd : decode cc pc = .ok (.astore_n j, 1)) (hn : (j : Nat) < nL) (hf : pm_fr ls (j : Nat) = true) (kk : PW l P y cc nL ret R Tg k n (pc + 1) (ls.set (j : Nat) (some (.ref x))) st G I L) : PW l P y cc nL ret R Tg k n pc ls (.ref x :: st) G I L := by
  intro p e s m args below meth c H locs a C hT hX hH hS hL
  exact lv_astore_n C.1 C.2.1 hd rfl (hL.has) hn rfl (fun a' h' => kk p e s m args below meth c H locs a' C hT hX hH hS (pm_st1 (v := .ref x) hf h'))
theorem pm_astore {j : Nat} {x : Nat} (hd : decode cc pc = .ok (.astore j, 2)) (hn : j < nL) (hf : pm_fr ls j = true) (kk : PW l P y cc nL ret R Tg k n (pc + 2) (ls.set j (some (.ref x))) st G I L) : PW l P y cc nL ret R Tg k n pc ls (.ref x :: st) G I L := by
  intro p e s m args below meth c H locs a C hT hX hH hS hL
  exact lv_astore C.1 C.2.1 hd (hL.has) hn rfl (fun a' h' => kk p e s m args below meth c H locs a' C hT hX hH hS (pm_st1 (v := .ref x) hf h'))
theorem pm_astore_nN {j : Fin 4} (hd : decode cc pc = .ok (.astore_n j, 1)) (hn : (j : Nat) < nL) (hf : pm_fr ls (j : Nat) = true) (kk : PW l P y cc nL ret R Tg k n (pc + 1) (ls.set (j : Nat) (some .null)) st G I L) : PW l P y cc nL ret R Tg k n pc ls (.null :: st) G I L := by
  intro p e s m args below meth c H locs a C hT hX hH hS hL
  exact lv_astore_nN C.1 C.2.1 hd rfl (hL.has) hn rfl (fun a' h' => kk p e s m args below meth c H locs a' C hT hX hH hS (pm_st1 (v := .null) hf h'))
theorem pm_lstore_n {j : Fin 4} {x : Int64} (hd : decode cc pc = .ok (.lstore_n j, 1)) (hn : (j : Nat) + 1 < nL) (hf : pm_fr ls (j : Nat) = true) (kk : PW l P y cc nL ret R Tg k n (pc + 1) ((ls.set (j : Nat) (some (.long x))).set ((j : Nat) + 1) none) st G I L) : PW l P y cc nL ret R Tg k n pc ls (.long x :: st) G I L := by
  intro p e s m args below meth c H locs a C hT hX hH hS hL
  exact lv_lstore_n C.1 C.2.1 hd rfl (hL.has) hn rfl (fun a' h' => kk p e s m args below meth c H locs a' C hT hX hH hS (pm_st2 (v := .long x) hf h'))
theorem pm_astoreN {j : Nat} (hd : decode cc pc = .ok (.astore j, 2)) (hn : j < nL) (hf : pm_fr ls j = true) (kk : PW l P y cc nL ret R Tg k n (pc + 2) (ls.set j (some .null)) st G I L) : PW l P y cc nL ret R Tg k n pc ls (.null :: st) G I L := by
  intro p e s m args below meth c H locs a C hT hX hH hS hL
  exact lv_astoreN C.1 C.2.1 hd (hL.has) hn rfl (fun a' h' => kk p e s m args below meth c H locs a' C hT hX hH hS (pm_st1 (v := .null) hf h'))
theorem pm_lstore {j : Nat} {x : Int64} (hd : decode cc pc = .ok (.lstore j, 2)) (hn : j + 1 < nL) (hf : pm_fr ls j = true) (kk : PW l P y cc nL ret R Tg k n (pc + 2) ((ls.set j (some (.long x))).set (j + 1) none) st G I L) : PW l P y cc nL ret R Tg k n pc ls (.long x :: st) G I L := by
  intro p e s m args below meth c H locs a C hT hX hH hS hL
  exact lv_lstore C.1 C.2.1 hd (hL.has) hn rfl (fun a' h' => kk p e s m args below meth c H locs a' C hT hX hH hS (pm_st2 (v := .long x) hf h'))
theorem pm_iinc {j : Nat} {q : Int} {x v : Int32} (hd : decode cc pc = .ok (.iinc j q, 3)) (hl : ls[j]? = some (some (.int x))) (hv : x + Int32.ofInt q = v) (hn : j < nL) (hf : pm_fr ls j = true) (kk : PW l P y cc nL ret R Tg k n (pc + 3) (ls.set j (some (.int v))) st G I L) : PW l P y cc nL ret R Tg k n pc ls st G I L := by
  intro p e s m args below meth c H locs a C hT hX hH hS hL
  obtain ⟨i9, h9⟩ := List.getElem?_of_mem (pm_prs_in (P := P) hl)
  exact lv_iinc C.1 C.2.1 hd (hL.has) h9 hv hn rfl (fun a' h' => kk p e s m args below meth c H locs a' C hT hX hH hS (pm_st1 (v := .int v) hf h'))
theorem pm_if_eq {x : Int32} {off : Int} {tgt : Nat} (hd : decode cc pc = .ok (.ifCond .eq off, 3)) (ht : (pc : Int) + off = (tgt : Int)) (kt : x = 0 → PW l P y cc nL ret R Tg k n tgt ls st G I L) (kf : ¬ x = 0 → PW l P y cc nL ret R Tg k n (pc + 3) ls st G I L) : PW l P y cc nL ret R Tg k n pc ls (.int x :: st) G I L := by
  intro p e s m args below meth c H locs a C hT hX hH hS hL
  exact lv_if_eq C.1 C.2.1 hd ht (fun q => kt q p e s m args below meth c H locs a C hT hX hH hS hL) (fun q => kf q p e s m args below meth c H locs a C hT hX hH hS hL)
theorem pm_if_ne {x : Int32} {off : Int} {tgt : Nat} (hd : decode cc pc = .ok (.ifCond .ne off, 3)) (ht : (pc : Int) + off = (tgt : Int)) (kt : ¬ x = 0 → PW l P y cc nL ret R Tg k n tgt ls st G I L) (kf : x = 0 → PW l P y cc nL ret R Tg k n (pc + 3) ls st G I L) : PW l P y cc nL ret R Tg k n pc ls (.int x :: st) G I L := by
  intro p e s m args below meth c H locs a C hT hX hH hS hL
  exact lv_if_ne C.1 C.2.1 hd ht (fun q => kt q p e s m args below meth c H locs a C hT hX hH hS hL) (fun q => kf q p e s m args below meth c H locs a C hT hX hH hS hL)
theorem pm_if_lt {x : Int32} {off : Int} {tgt : Nat} (hd : decode cc pc = .ok (.ifCond .lt off, 3)) (ht : (pc : Int) + off = (tgt : Int)) (kt : x < 0 → PW l P y cc nL ret R Tg k n tgt ls st G I L) (kf : ¬ x < 0 → PW l P y cc nL ret R Tg k n (pc + 3) ls st G I L) : PW l P y cc nL ret R Tg k n pc ls (.int x :: st) G I L := by
  intro p e s m args below meth c H locs a C hT hX hH hS hL
  exact lv_if_lt C.1 C.2.1 hd ht (fun q => kt q p e s m args below meth c H locs a C hT hX hH hS hL) (fun q => kf q p e s m args below meth c H locs a C hT hX hH hS hL)
theorem pm_if_ge {x : Int32} {off : Int} {tgt : Nat} (hd : decode cc pc = .ok (.ifCond .ge off, 3)) (ht : (pc : Int) + off = (tgt : Int)) (kt : 0 ≤ x → PW l P y cc nL ret R Tg k n tgt ls st G I L) (kf : ¬ 0 ≤ x → PW l P y cc nL ret R Tg k n (pc + 3) ls st G I L) : PW l P y cc nL ret R Tg k n pc ls (.int x :: st) G I L := by
  intro p e s m args below meth c H locs a C hT hX hH hS hL
  exact lv_if_ge C.1 C.2.1 hd ht (fun q => kt q p e s m args below meth c H locs a C hT hX hH hS hL) (fun q => kf q p e s m args below meth c H locs a C hT hX hH hS hL)
theorem pm_if_gt {x : Int32} {off : Int} {tgt : Nat} (hd : decode cc pc = .ok (.ifCond .gt off, 3)) (ht : (pc : Int) + off = (tgt : Int)) (kt : 0 < x → PW l P y cc nL ret R Tg k n tgt ls st G I L) (kf : ¬ 0 < x → PW l P y cc nL ret R Tg k n (pc + 3) ls st G I L) : PW l P y cc nL ret R Tg k n pc ls (.int x :: st) G I L := by
  intro p e s m args below meth c H locs a C hT hX hH hS hL
  exact lv_if_gt C.1 C.2.1 hd ht (fun q => kt q p e s m args below meth c H locs a C hT hX hH hS hL) (fun q => kf q p e s m args below meth c H locs a C hT hX hH hS hL)
theorem pm_if_le {x : Int32} {off : Int} {tgt : Nat} (hd : decode cc pc = .ok (.ifCond .le off, 3)) (ht : (pc : Int) + off = (tgt : Int)) (kt : x ≤ 0 → PW l P y cc nL ret R Tg k n tgt ls st G I L) (kf : ¬ x ≤ 0 → PW l P y cc nL ret R Tg k n (pc + 3) ls st G I L) : PW l P y cc nL ret R Tg k n pc ls (.int x :: st) G I L := by
  intro p e s m args below meth c H locs a C hT hX hH hS hL
  exact lv_if_le C.1 C.2.1 hd ht (fun q => kt q p e s m args below meth c H locs a C hT hX hH hS hL) (fun q => kf q p e s m args below meth c H locs a C hT hX hH hS hL)
theorem pm_icmp_eq {x y1 : Int32} {off : Int} {tgt : Nat} (hd : decode cc pc = .ok (.if_icmp .eq off, 3)) (ht : (pc : Int) + off = (tgt : Int)) (kt : x = y1 → PW l P y cc nL ret R Tg k n tgt ls st G I L) (kf : ¬ x = y1 → PW l P y cc nL ret R Tg k n (pc + 3) ls st G I L) : PW l P y cc nL ret R Tg k n pc ls (.int y1 :: .int x :: st) G I L := by
  intro p e s m args below meth c H locs a C hT hX hH hS hL
  exact lv_icmp_eq C.1 C.2.1 hd ht (fun q => kt q p e s m args below meth c H locs a C hT hX hH hS hL) (fun q => kf q p e s m args below meth c H locs a C hT hX hH hS hL)
theorem pm_icmp_ne {x y1 : Int32} {off : Int} {tgt : Nat} (hd : decode cc pc = .ok (.if_icmp .ne off, 3)) (ht : (pc : Int) + off = (tgt : Int)) (kt : ¬ x = y1 → PW l P y cc nL ret R Tg k n tgt ls st G I L) (kf : x = y1 → PW l P y cc nL ret R Tg k n (pc + 3) ls st G I L) : PW l P y cc nL ret R Tg k n pc ls (.int y1 :: .int x :: st) G I L := by
  intro p e s m args below meth c H locs a C hT hX hH hS hL
  exact lv_icmp_ne C.1 C.2.1 hd ht (fun q => kt q p e s m args below meth c H locs a C hT hX hH hS hL) (fun q => kf q p e s m args below meth c H locs a C hT hX hH hS hL)
theorem pm_icmp_lt {x y1 : Int32} {off : Int} {tgt : Nat} (hd : decode cc pc = .ok (.if_icmp .lt off, 3)) (ht : (pc : Int) + off = (tgt : Int)) (kt : x < y1 → PW l P y cc nL ret R Tg k n tgt ls st G I L) (kf : ¬ x < y1 → PW l P y cc nL ret R Tg k n (pc + 3) ls st G I L) : PW l P y cc nL ret R Tg k n pc ls (.int y1 :: .int x :: st) G I L := by
  intro p e s m args below meth c H locs a C hT hX hH hS hL
  exact lv_icmp_lt C.1 C.2.1 hd ht (fun q => kt q p e s m args below meth c H locs a C hT hX hH hS hL) (fun q => kf q p e s m args below meth c H locs a C hT hX hH hS hL)
theorem pm_icmp_ge {x y1 : Int32} {off : Int} {tgt : Nat} (hd : decode cc pc = .ok (.if_icmp .ge off, 3)) (ht : (pc : Int) + off = (tgt : Int)) (kt : y1 ≤ x → PW l P y cc nL ret R Tg k n tgt ls st G I L) (kf : ¬ y1 ≤ x → PW l P y cc nL ret R Tg k n (pc + 3) ls st G I L) : PW l P y cc nL ret R Tg k n pc ls (.int y1 :: .int x :: st) G I L := by
  intro p e s m args below meth c H locs a C hT hX hH hS hL
  exact lv_icmp_ge C.1 C.2.1 hd ht (fun q => kt q p e s m args below meth c H locs a C hT hX hH hS hL) (fun q => kf q p e s m args below meth c H locs a C hT hX hH hS hL)
theorem pm_icmp_gt {x y1 : Int32} {off : Int} {tgt : Nat} (hd : decode cc pc = .ok (.if_icmp .gt off, 3)) (ht : (pc : Int) + off = (tgt : Int)) (kt : y1 < x → PW l P y cc nL ret R Tg k n tgt ls st G I L) (kf : ¬ y1 < x → PW l P y cc nL ret R Tg k n (pc + 3) ls st G I L) : PW l P y cc nL ret R Tg k n pc ls (.int y1 :: .int x :: st) G I L := by
  intro p e s m args below meth c H locs a C hT hX hH hS hL
  exact lv_icmp_gt C.1 C.2.1 hd ht (fun q => kt q p e s m args below meth c H locs a C hT hX hH hS hL) (fun q => kf q p e s m args below meth c H locs a C hT hX hH hS hL)
theorem pm_icmp_le {x y1 : Int32} {off : Int} {tgt : Nat} (hd : decode cc pc = .ok (.if_icmp .le off, 3)) (ht : (pc : Int) + off = (tgt : Int)) (kt : x ≤ y1 → PW l P y cc nL ret R Tg k n tgt ls st G I L) (kf : ¬ x ≤ y1 → PW l P y cc nL ret R Tg k n (pc + 3) ls st G I L) : PW l P y cc nL ret R Tg k n pc ls (.int y1 :: .int x :: st) G I L := by
  intro p e s m args below meth c H locs a C hT hX hH hS hL
  exact lv_icmp_le C.1 C.2.1 hd ht (fun q => kt q p e s m args below meth c H locs a C hT hX hH hS hL) (fun q => kf q p e s m args below meth c H locs a C hT hX hH hS hL)
theorem pm_goto {off : Int} {tgt : Nat} (hd : decode cc pc = .ok (.goto off, 3)) (ht : (pc : Int) + off = (tgt : Int)) (kk : PW l P y cc nL ret R Tg k n tgt ls st G I L) : PW l P y cc nL ret R Tg k n pc ls st G I L := by
  intro p e s m args below meth c H locs a C hT hX hH hS hL
  exact lv_goto C.1 C.2.1 hd ht (kk p e s m args below meth c H locs a C hT hX hH hS hL)
theorem pm_ifnull {x : Nat} {off : Int} (hd : decode cc pc = .ok (.ifnull off, 3)) (kk : PW l P y cc nL ret R Tg k n (pc + 3) ls (st) G I L) : PW l P y cc nL ret R Tg k n pc ls (.ref x :: st) G I L := by
  intro p e s m args below meth c H locs a C hT hX hH hS hL
  exact lv_ifnull C.1 C.2.1 hd (kk p e s m args below meth c H locs a C hT hX hH hS hL)
theorem pm_ifnonnullN {off : Int} (hd : decode cc pc = .ok (.ifnonnull off, 3)) (kk : PW l P y cc nL ret R Tg k n (pc + 3) ls (st) G I L) : PW l P y cc nL ret R Tg k n pc ls (.null :: st) G I L := by
  intro p e s m args below meth c H locs a C hT hX hH hS hL
  exact lv_ifnonnullN C.1 C.2.1 hd (kk p e s m args below meth c H locs a C hT hX hH hS hL)
theorem pm_ifnonnull {x : Nat} {off : Int} {tgt : Nat} (hd : decode cc pc = .ok (.ifnonnull off, 3)) (ht : (pc : Int) + off = (tgt : Int)) (kk : PW l P y cc nL ret R Tg k n tgt ls st G I L) : PW l P y cc nL ret R Tg k n pc ls (.ref x :: st) G I L := by
  intro p e s m args below meth c H locs a C hT hX hH hS hL
  exact lv_ifnonnull C.1 C.2.1 hd ht (kk p e s m args below meth c H locs a C hT hX hH hS hL)
theorem pm_ifnullN {x : Nat} {off : Int} {tgt : Nat} (hd : decode cc pc = .ok (.ifnull off, 3)) (ht : (pc : Int) + off = (tgt : Int)) (kk : PW l P y cc nL ret R Tg k n tgt ls st G I L) : PW l P y cc nL ret R Tg k n pc ls (.null :: st) G I L := by
  intro p e s m args below meth c H locs a C hT hX hH hS hL
  exact lv_ifnullN C.1 C.2.1 hd ht (kk p e s m args below meth c H locs a C hT hX hH hS hL)
theorem pm_tableOut {dflt lo hi : Int} {offs : Array Int} {len : Nat} {x : Int32} {tgt : Nat} (hd : decode cc pc = .ok (.tableswitch dflt lo hi offs, len)) (h : x.toInt < lo ∨ hi < x.toInt) (ht : (pc : Int) + dflt = (tgt : Int)) (kk : PW l P y cc nL ret R Tg k n tgt ls st G I L) : PW l P y cc nL ret R Tg k n pc ls (.int x :: st) G I L := by
  intro p e s m args below meth c H locs a C hT hX hH hS hL
  exact lv_tableOut C.1 C.2.1 hd h ht (kk p e s m args below meth c H locs a C hT hX hH hS hL)
theorem pm_tableIn {dflt lo hi : Int} {offs : Array Int} {len : Nat} {x : Int32} {off : Int} {tgt : Nat} (hd : decode cc pc = .ok (.tableswitch dflt lo hi offs, len)) (h1 : ¬ x.toInt < lo) (h2 : ¬ hi < x.toInt) (ho : offs[(x.toInt - lo).toNat]? = some off) (ht : (pc : Int) + off = (tgt : Int)) (kk : PW l P y cc nL ret R Tg k n tgt ls st G I L) : PW l P y cc nL ret R Tg k n pc ls (.int x :: st) G I L := by
  intro p e s m args below meth c H locs a C hT hX hH hS hL
  exact lv_tableIn C.1 C.2.1 hd h1 h2 ho ht (kk p e s m args below meth c H locs a C hT hX hH hS hL)
theorem pm_lookup {dflt : Int} {ps : Array (Int × Int)} {len : Nat} {x : Int32} {off : Int} {tgt : Nat} (hd : decode cc pc = .ok (.lookupswitch dflt ps, len)) (hp : (ps.toList.zip (ps.toList.drop 1)).all (fun (a, next) => a.1 < next.1) = true) (ho : Op.lookupswitch.offset ps.toList dflt x.toInt = off) (ht : (pc : Int) + off = (tgt : Int)) (kk : PW l P y cc nL ret R Tg k n tgt ls st G I L) : PW l P y cc nL ret R Tg k n pc ls (.int x :: st) G I L := by
  intro p e s m args below meth c H locs a C hT hX hH hS hL
  exact lv_lookup C.1 C.2.1 hd hp ho ht (kk p e s m args below meth c H locs a C hT hX hH hS hL)
theorem pm_ldc {ix : Nat} {v : Int32} (hc : Cond.constant y.cls ix v ∈ TB) (hd : decode cc pc = .ok (.ldc ix, 2)) (kk : PW l P y cc nL ret R Tg k n (pc + 2) ls (.int v :: st) G I L) : PW l P y cc nL ret R Tg k n pc ls st G I L := by
  intro p e s m args below meth c H locs a C hT hX hH hS hL
  exact lv_ldc C.1 C.2.1 C.2.2.2.1 (C.2.2.2.2.2.2.2 _ hc) hd (kk p e s m args below meth c H locs a C hT hX hH hS hL)
theorem pm_ldcw {ix : Nat} {v : Int32} (hc : Cond.constant y.cls ix v ∈ TB) (hd : decode cc pc = .ok (.ldc_w ix, 3)) (kk : PW l P y cc nL ret R Tg k n (pc + 3) ls (.int v :: st) G I L) : PW l P y cc nL ret R Tg k n pc ls st G I L := by
  intro p e s m args below meth c H locs a C hT hX hH hS hL
  exact lv_ldcw C.1 C.2.1 C.2.2.2.1 (C.2.2.2.2.2.2.2 _ hc) hd (kk p e s m args below meth c H locs a C hT hX hH hS hL)
theorem pm_ldc2 {ix : Nat} {v : Int64} (hc : Cond.constantLong y.cls ix v ∈ TB) (hd : decode cc pc = .ok (.ldc2_w ix, 3)) (kk : PW l P y cc nL ret R Tg k n (pc + 3) ls (.long v :: st) G I L) : PW l P y cc nL ret R Tg k n pc ls st G I L := by
  intro p e s m args below meth c H locs a C hT hX hH hS hL
  exact lv_ldc2 C.1 C.2.1 C.2.2.2.1 (C.2.2.2.2.2.2.2 _ hc) hd (kk p e s m args below meth c H locs a C hT hX hH hS hL)
theorem pm_ldcS {ix : Nat} (q : String × Nat × String × Nat) (hq : q ∈ NT) (h1 : q.1 = y.cls) (h2 : q.2.1 = ix) (h3 : q.2.2.2 < 1000) (hd : decode cc pc = .ok (.ldc ix, 2)) (kk : PW l P y cc nL ret R Tg k n (pc + 2) ls (.ref (1000 + q.2.2.2) :: st) G I L) : PW l P y cc nL ret R Tg k n pc ls st G I L := by
  intro p e s m args below meth c H locs a C hT hX hH hS hL
  have hz := hT.2.2.1 q hq
  rw [h1, h2] at hz
  refine va_ldcS C.1 C.2.1 C.2.2.2.1 hz hd ?_
  have e1 : pm_ad P (1000 + q.2.2.2) = pm_aK P q.2.2.2 := by
    rw [pm_ad, if_neg (by omega), if_pos (by omega), Nat.add_sub_cancel_left]
  have k1 := kk p e s m args below meth c H locs a C hT hX hH hS hL
  rw [List.map_cons] at k1
  show W p l e R s m args below meth c H locs k n (Tg below args s) (F0 m (pc + 2) a (.ref (pm_aK P q.2.2.2) :: st.map (pm_v P)))
  rw [← e1]
  exact k1
theorem pm_fget {P : pm_E} {f : Nat → Int32} {fs : List (Option (Option Nat))} {j : Nat} {o : Option (Option Nat)} (h : fs[j]? = some o) : (fs.zipIdx.map (pm_f P f))[j]? = some (pm_f P f (o, j)) := by
  simp [List.getElem?_map, List.getElem?_zipIdx, h]
/-- a field of numbers -/
theorem pm_get {o ci j N ix : Nat} {C0 : String} {T : u_T} {fs : List (Option (Option Nat))} (hg : G[o]? = some (.inl (ci, fs))) (hc : vwCl[ci]? = some (C0, T, N)) (hin : ∀ w ∈ u_ws C0 T N, w ∈ TB) (hj : j < N) (hl : Cond.fieldLink y.cls ix (T j).1 (T j).2.1 (T j).2.2.1 ∈ TB) (hf : fs[j]? = some none) (hd : decode cc pc = .ok (.getfield ix, 3)) (kk : PW l P y cc nL ret R Tg k n (pc + 3) ls (.int (I o j) :: st) G I L) : PW l P y cc nL ret R Tg k n pc ls (.ref o :: st) G I L := by
  intro p e s m args below meth c H locs a C hT hX hH hS hL
  exact va_get (ref := (T j).1) (ci := ci) (C := C0) (T := T) (N := N) (v := .int (I o j)) C.1 C.2.1 C.2.2.2.2.2.2.2 hin C.2.2.2.1 hT.1 hH.1 o (hH.at hg) hc j hj (C.2.2.2.2.2.2.2 _ hl) (fun _ h => h) (pm_fget hf) hd (kk p e s m args below meth c H locs a C hT hX hH hS hL)
/-- a field that is a told reference -/
theorem pm_getr {o ci j N ix r : Nat} {C0 : String} {T : u_T} {fs : List (Option (Option Nat))} (hg : G[o]? = some (.inl (ci, fs))) (hc : vwCl[ci]? = some (C0, T, N)) (hin : ∀ w ∈ u_ws C0 T N, w ∈ TB) (hj : j < N) (hl : Cond.fieldLink y.cls ix (T j).1 (T j).2.1 (T j).2.2.1 ∈ TB) (hf : fs[j]? = some (some (some r))) (hd : decode cc pc = .ok (.getfield ix, 3)) (kk : PW l P y cc nL ret R Tg k n (pc + 3) ls (.ref r :: st) G I L) : PW l P y cc nL ret R Tg k n pc ls (.ref o :: st) G I L := by
  intro p e s m args below meth c H locs a C hT hX hH hS hL
  exact va_get (ref := (T j).1) (ci := ci) (C := C0) (T := T) (N := N) (v := .ref (pm_ad P r)) C.1 C.2.1 C.2.2.2.2.2.2.2 hin C.2.2.2.1 hT.1 hH.1 o (hH.at hg) hc j hj (C.2.2.2.2.2.2.2 _ hl) (fun _ h => h) (pm_fget hf) hd (kk p e s m args below meth c H locs a C hT hX hH hS hL)
theorem pm_fset {P : pm_E} {f : Nat → Int32} {fs : List (Option (Option Nat))} {j : Nat} {x : Int32} (h : fs[j]? = some none) : (fs.zipIdx.map (pm_f P f)).set j (.int x) = fs.zipIdx.map (pm_f P (upd f j x)) := by
  apply List.ext_getElem?
  intro i
  rw [List.getElem?_set, List.getElem?_map, List.getElem?_map, List.getElem?_zipIdx]
  by_cases e : j = i
  · subst e
    rw [if_pos rfl, if_pos (by simp; exact (List.getElem?_eq_some_iff.mp h).1), h]
    simp [pm_f, upd]
  · rw [if_neg e]
    cases hi : fs[i]? with
    | none => rfl
    | some o =>
      have : ¬ i = j := fun q => e q.symm
      cases o with
      | none => simp [pm_f, upd, this]
      | some r => cases r <;> simp [pm_f]
theorem pm_fsetr {P : pm_E} {f : Nat → Int32} {fs : List (Option (Option Nat))} {j r : Nat} (h : j < fs.length) : (fs.zipIdx.map (pm_f P f)).set j (.ref (pm_ad P r)) = (fs.set j (some (some r))).zipIdx.map (pm_f P f) := by
  apply List.ext_getElem?
  intro i
  rw [List.getElem?_set, List.getElem?_map, List.getElem?_map, List.getElem?_zipIdx, List.getElem?_zipIdx, List.getElem?_set]
  by_cases e : j = i
  · subst e
    rw [if_pos rfl, if_pos (by simp; exact h), if_pos rfl, if_pos h]
    simp [pm_f]
  · rw [if_neg e, if_neg e]
/-- behind a store into a cell of the world -/
theorem pm_S_put {P : pm_E} {H0 H H1 : Heap} {locs : List Loc} {G : List pm_S} {I : pm_I} {L : pm_L} (hH : pm_H P G I L H) {id i : Nat} {sh : pm_S} (hg : G[id]? = some sh) (h : va_S (pm_A P) H0 H locs) (z : H1.size = H.size) (oq : ∀ q : Nat, q ≠ pm_ad P id → H1[q]? = H[q]?) : va_S (pm_A P) H0 H1 (locs ++ [⟨pm_ad P id, i⟩]) := h.put z oq (by rw [hH.ad hg]; exact Nat.le_add_right _ _)
theorem pm_put {o ci j N ix : Nat} {C0 : String} {T : u_T} {fs : List (Option (Option Nat))} {x : Int32} {ty : FieldType} (hg : G[o]? = some (.inl (ci, fs))) (hc : vwCl[ci]? = some (C0, T, N)) (hin : ∀ w ∈ u_ws C0 T N, w ∈ TB) (ty0 : Nat → FieldType) (hty : ∀ k, k < N → parseFieldDescriptor (T k).2.2.1 = some (ty0 k)) (hnm : ∀ a, a < N → ∀ b, b < N → a ≠ b → (T a).2.1 ≠ (T b).2.1) (hj : j < N) (hl : Cond.fieldLink y.cls ix (T j).1 (T j).2.1 (T j).2.2.1 ∈ TB) (hf : fs[j]? = some none) (hfin : (T j).2.2.2 = false) (hdt : parseFieldDescriptor (T j).2.2.1 = some ty) (hn : narrow ty (.int x) = .int x) (hfit : fits ty (.int x) = true) (hd : decode cc pc = .ok (.putfield ix, 3)) (kk : PW l P y cc nL ret R Tg k n (pc + 3) ls st G (pm_u I o (upd (I o) j x)) L) : PW l P y cc nL ret R Tg k n pc ls (.int x :: .ref o :: st) G I L := by
  intro p e s m args below meth c H locs a C hT hX hH hS hL
  have hts := C.2.2.2.2.2.2.2
  have hK := hT.1
  have hown := C.2.2.2.1
  have hap := va_apart (own := y.cls) hts hin ty0 hty hnm hK hc
  have he := hH.at hg
  obtain ⟨r, h1, cell, q1, q2, q3, q4⟩ := hH.1 o _ he
  have hr : r = (C0, T, N) := Option.some.inj (h1.symm.trans hc)
  subst hr
  obtain ⟨hS1, hfc, kC, hkC, hkind⟩ := hK.1 ci _ hc
  obtain ⟨cf, kf, fi, f, hi, hsl⟩ := hS1 j hj
  have hlay := hts _ (hin _ (u_in_lay hj))
  unfold u_lay at hlay
  rw [if_neg (by rw [hfin]; decide)] at hlay
  have hst := (u_facts hfc hkC (u_lays hts hin hj) hi).1
  have h6 := u_store hfc hkC hkind hlay hi hdt hn hfit
  refine W.putK C.1 C.2.1 (f := f) (a := pm_ad P o) (v := .int x) ⟨hown, hts _ hl, ⟨_, _, _, hi⟩, hst⟩ (by rw [q2]; exact h6) q1 q3 (by rw [hsl]; exact k2_hasslot (q4 j hj)) rfl rfl hd fun H' e1 e2 e3 => ?_
  rw [hsl] at e1
  have hl9 : j < (fs.zipIdx.map (pm_f P (I o))).length := by simp; exact (List.getElem?_eq_some_iff.mp hf).1
  have hv : va_at (pm_D P) vwCl (pm_ad P o, pm_c P (upd (I o) j x) (L o) (.inl (ci, fs))) H' := by
    refine ⟨_, hc, ?_⟩
    have h7 := t_OB.to (V := updV (vp_V (fs.zipIdx.map (pm_f P (I o)))) j (.int x)) ⟨_, e1, q2, q3, t_set q4 hap hj (.int x)⟩ (fun i _ => vp_updV_set hl9 (.int x) i)
    rw [pm_fset hf] at h7
    exact h7
  have h8 := hH.set0 hg (upd (I o) j x) (L o) hv e2 e3
  rw [pm_uu] at h8
  exact kk p e s m args below meth c H' _ a C hT hX h8 (pm_S_put hH hg hS e2 e3) hL
theorem pm_iaload {o N : Nat} {i : Int32} (hg : G[o]? = some (.inr (.inl (0, N)))) (hi : vp_in i N) (hd : decode cc pc = .ok (.iaload, 1)) (kk : PW l P y cc nL ret R Tg k n (pc + 1) ls (.int (I o i.toNatClampNeg) :: st) G I L) : PW l P y cc nL ret R Tg k n pc ls (.int i :: .ref o :: st) G I L := by
  intro p e s m args below meth c H locs a C hT hX hH hS hL
  exact va_iald C.1 C.2.1 hT.1 hH.1 o 0 (hH.at hg) rfl hi hd (kk p e s m args below meth c H locs a C hT hX hH hS hL)
theorem pm_caload {o N : Nat} {i : Int32} (hg : G[o]? = some (.inr (.inl (1, N)))) (hi : vp_in i N) (hd : decode cc pc = .ok (.caload, 1)) (kk : PW l P y cc nL ret R Tg k n (pc + 1) ls (.int (I o i.toNatClampNeg) :: st) G I L) : PW l P y cc nL ret R Tg k n pc ls (.int i :: .ref o :: st) G I L := by
  intro p e s m args below meth c H locs a C hT hX hH hS hL
  exact va_cald C.1 C.2.1 hT.1 hH.1 o 1 (hH.at hg) rfl hi hd (kk p e s m args below meth c H locs a C hT hX hH hS hL)
theorem pm_laload {o N : Nat} {i : Int32} (hg : G[o]? = some (.inr (.inl (2, N)))) (hi : vp_in i N) (hd : decode cc pc = .ok (.laload, 1)) (kk : PW l P y cc nL ret R Tg k n (pc + 1) ls (.long (L o i.toNatClampNeg) :: st) G I L) : PW l P y cc nL ret R Tg k n pc ls (.int i :: .ref o :: st) G I L := by
  intro p e s m args below meth c H locs a C hT hX hH hS hL
  exact va_lald C.1 C.2.1 hT.1 hH.1 o 2 (hH.at hg) rfl hi hd (kk p e s m args below meth c H locs a C hT hX hH hS hL)
theorem pm_iastore {o N : Nat} {i : Int32} {x : Int32} (hg : G[o]? = some (.inr (.inl (0, N)))) (hi : vp_in i N) (hd : decode cc pc = .ok (.iastore, 1)) (kk : PW l P y cc nL ret R Tg k n (pc + 1) ls st G (pm_u I o (upd (I o) i.toNatClampNeg (x))) L) : PW l P y cc nL ret R Tg k n pc ls (.int x :: .int i :: .ref o :: st) G I L := by
  intro p e s m args below meth c H locs a C hT hX hH hS hL
  refine W.iast C.1 C.2.1 (a := pm_ad P o) (hH.1 o _ (hH.at hg)) ((hT.1.2 0 _ rfl).1 N (fun j => .int ((I o) j))) (fun q => by cases q) (by show ¬ (i < 0 ∨ (arrV _ _ _).slots.size ≤ _); rw [arrV_size]; exact hi) rfl rfl hd fun H1 e1 z oq => ?_
  have hv : va_at (pm_D P) vwCl (pm_ad P o, pm_c P (upd (I o) i.toNatClampNeg (x)) (L o) (.inr (.inl (0, N)))) H1 := by
    show H1[pm_ad P o]? = some (vp_cell _ _)
    rw [e1]
    show some ((vp_cell _ (N, .inl (I o))).setSlot _ _) = some (vp_cell _ _)
    rw [vp_cell_i, vp_cell_i, arrV_store]
    congr 2
    funext q
    by_cases hq : q = i.toNatClampNeg
    · subst hq
      simp [updV, upd]
    · simp [updV, upd, hq]
  have h8 := hH.set0 hg (upd (I o) i.toNatClampNeg (x)) (L o) hv z oq
  rw [pm_uu] at h8
  exact kk p e s m args below meth c H1 _ a C hT hX h8 (pm_S_put hH hg hS z oq) hL
theorem pm_castore {o N : Nat} {i : Int32} {x : Int32} (hg : G[o]? = some (.inr (.inl (1, N)))) (hi : vp_in i N) (hd : decode cc pc = .ok (.castore, 1)) (kk : PW l P y cc nL ret R Tg k n (pc + 1) ls st G (pm_u I o (upd (I o) i.toNatClampNeg (vp_nar .char x))) L) : PW l P y cc nL ret R Tg k n pc ls (.int x :: .int i :: .ref o :: st) G I L := by
  intro p e s m args below meth c H locs a C hT hX hH hS hL
  refine W.cast C.1 C.2.1 (a := pm_ad P o) (hH.1 o _ (hH.at hg)) ((hT.1.2 1 _ rfl).1 N (fun j => .int ((I o) j))) (fun q => by cases q) (by show ¬ (i < 0 ∨ (arrV _ _ _).slots.size ≤ _); rw [arrV_size]; exact hi) rfl rfl hd fun H1 e1 z oq => ?_
  have hv : va_at (pm_D P) vwCl (pm_ad P o, pm_c P (upd (I o) i.toNatClampNeg (vp_nar .char x)) (L o) (.inr (.inl (1, N)))) H1 := by
    show H1[pm_ad P o]? = some (vp_cell _ _)
    rw [e1]
    show some ((vp_cell _ (N, .inl (I o))).setSlot _ _) = some (vp_cell _ _)
    rw [vp_cell_i, vp_cell_i, arrV_store]
    congr 2
    funext q
    by_cases hq : q = i.toNatClampNeg
    · subst hq
      simp [updV, upd]
      rfl
    · simp [updV, upd, hq]
  have h8 := hH.set0 hg (upd (I o) i.toNatClampNeg (vp_nar .char x)) (L o) hv z oq
  rw [pm_uu] at h8
  exact kk p e s m args below meth c H1 _ a C hT hX h8 (pm_S_put hH hg hS z oq) hL
theorem pm_lastore {o N : Nat} {i : Int32} {x : Int64} (hg : G[o]? = some (.inr (.inl (2, N)))) (hi : vp_in i N) (hd : decode cc pc = .ok (.lastore, 1)) (kk : PW l P y cc nL ret R Tg k n (pc + 1) ls st G I (pm_u L o (vp_updL (L o) i.toNatClampNeg x))) : PW l P y cc nL ret R Tg k n pc ls (.long x :: .int i :: .ref o :: st) G I L := by
  intro p e s m args below meth c H locs a C hT hX hH hS hL
  refine W.last C.1 C.2.1 (a := pm_ad P o) (hH.1 o _ (hH.at hg)) ((hT.1.2 2 _ rfl).1 N (fun j => .long ((L o) j))) (fun q => by cases q) (by show ¬ (i < 0 ∨ (arrV _ _ _).slots.size ≤ _); rw [arrV_size]; exact hi) rfl rfl hd fun H1 e1 z oq => ?_
  have hv : va_at (pm_D P) vwCl (pm_ad P o, pm_c P (I o) (vp_updL (L o) i.toNatClampNeg x) (.inr (.inl (2, N)))) H1 := by
    show H1[pm_ad P o]? = some (vp_cell _ _)
    rw [e1]
    show some ((vp_cell _ (N, .inr (.inl (L o)))).setSlot _ _) = some (vp_cell _ _)
    rw [vp_cell_l, vp_cell_l, arrV_store]
    congr 2
    funext q
    by_cases hq : q = i.toNatClampNeg
    · subst hq
      simp [updV, vp_updL]
    · simp [updV, vp_updL, hq]
  have h8 := hH.set0 hg (I o) (vp_updL (L o) i.toNatClampNeg x) hv z oq
  rw [pm_uu] at h8
  exact kk p e s m args below meth c H1 _ a C hT hX h8 (pm_S_put hH hg hS z oq) hL
theorem pm_alen {o t N : Nat} {v : Int32} (hg : G[o]? = some (.inr (.inl (t, N)))) (ht : t < 3) (hv : Int32.ofNat N = v) (hd : decode cc pc = .ok (.arraylength, 1)) (kk : PW l P y cc nL ret R Tg k n (pc + 1) ls (.int v :: st) G I L) : PW l P y cc nL ret R Tg k n pc ls (.ref o :: st) G I L := by
  intro p e s m args below meth c H locs a C hT hX hH hS hL
  have h9 := hH.at hg
  rcases (show t = 0 ∨ t = 1 ∨ t = 2 by omega) with rfl | rfl | rfl
  · exact va_alen C.1 C.2.1 hT.1 hH.1 o 0 h9 rfl hv hd (kk p e s m args below meth c H locs a C hT hX hH hS hL)
  · exact va_alen C.1 C.2.1 hT.1 hH.1 o 1 h9 rfl hv hd (kk p e s m args below meth c H locs a C hT hX hH hS hL)
  · exact va_alen C.1 C.2.1 hT.1 hH.1 o 2 h9 rfl hv hd (kk p e s m args below meth c H locs a C hT hX hH hS hL)
theorem pm_alenR {o : Nat} {rs : List (Option Nat)} {v : Int32} (hg : G[o]? = some (.inr (.inr rs))) (hv : Int32.ofNat rs.length = v) (hd : decode cc pc = .ok (.arraylength, 1)) (kk : PW l P y cc nL ret R Tg k n (pc + 1) ls (.int v :: st) G I L) : PW l P y cc nL ret R Tg k n pc ls (.ref o :: st) G I L := by
  intro p e s m args below meth c H locs a C hT hX hH hS hL
  exact va_alen C.1 C.2.1 hT.1 hH.1 o 3 (hH.at hg) rfl hv hd (kk p e s m args below meth c H locs a C hT hX hH hS hL)
theorem pm_aaload {o r : Nat} {rs : List (Option Nat)} {i : Int32} (hg : G[o]? = some (.inr (.inr rs))) (hi : vp_in i rs.length) (hr : rs[i.toNatClampNeg]? = some (some r)) (hd : decode cc pc = .ok (.aaload, 1)) (kk : PW l P y cc nL ret R Tg k n (pc + 1) ls (.ref r :: st) G I L) : PW l P y cc nL ret R Tg k n pc ls (.int i :: .ref o :: st) G I L := by
  intro p e s m args below meth c H locs a C hT hX hH hS hL
  refine va_aldq C.1 C.2.1 hT.1 hH.1 o 3 (hH.at hg) rfl hi hd ?_
  have e1 : (rs.getD i.toNatClampNeg none).map (pm_ad P) = some (pm_ad P r) := by rw [List.getD_eq_getElem?_getD, hr]; rfl
  rw [e1]
  exact kk p e s m args below meth c H locs a C hT hX hH hS hL
/-- the script -/
theorem pm_sld {i : Int32} (hi : vp_in i (pm_n P)) (hd : decode cc pc = .ok (.iaload, 1)) (kk : PW l P y cc nL ret R Tg k n (pc + 1) ls (.int (pm_xs P i.toNatClampNeg) :: st) G I L) : PW l P y cc nL ret R Tg k n pc ls (.int i :: .ref 2000 :: st) G I L := by
  intro p e s m args below meth c H locs a C hT hX hH hS hL
  exact va_sld (b := pm_b P) C.1 C.2.1 hX.2.2.1 (Nat.lt_of_lt_of_le hX.2.2.2.1 hX.2.2.2.2) (fun z => Nat.not_lt.mpr z hX.2.2.2.1) hS hi hd (kk p e s m args below meth c H locs a C hT hX hH hS hL)
theorem pm_slen (hd : decode cc pc = .ok (.arraylength, 1)) (kk : PW l P y cc nL ret R Tg k n (pc + 1) ls (.int (Int32.ofNat (pm_n P)) :: st) G I L) : PW l P y cc nL ret R Tg k n pc ls (.ref 2000 :: st) G I L := by
  intro p e s m args below meth c H locs a C hT hX hH hS hL
  exact va_slen C.1 C.2.1 hX.2.2.1 (Nat.lt_of_lt_of_le hX.2.2.2.1 hX.2.2.2.2) (fun z => Nat.not_lt.mpr z hX.2.2.2.1) hS hd (kk p e s m args below meth c H locs a C hT hX hH hS hL)
theorem pm_iret {Q : Option Value → List pm_S → pm_I → pm_L → Prop} {K N : Nat} {x : Int32} (hr : ret = some .int) (hk : k ≤ K) (hn : n ≤ N) (hd : decode cc pc = .ok (.ireturn, 1)) (hQ : Q (some (.int x)) G I L) : PW l P y cc nL ret R (pm_Tg P Q K N) k n pc ls ([.int x]) G I L := by
  subst hr
  intro p e s m args below meth c H locs a C hT hX hH hS hL
  have hq : ∀ t : State, t.heap = H → s.WarmedH t.vm → pm_Q P Q args s (.returned (some (.int x))) t := fun t ht hW => ⟨⟨some (.int x), G, I, L, rfl, hQ, by rw [ht]; exact hH⟩, hS.F ht⟩
  refine W.widen hk hn ?_
  exact W.iret C.1 C.2.1 C.2.2.2.2.2.1 hq (fun q h => hS.2.2 q h) hd C.2.2.2.2.2.2.1
theorem pm_zret {Q : Option Value → List pm_S → pm_I → pm_L → Prop} {K N : Nat} {x : Int32} (hx : narrow .boolean (.int x) = .int x) (hr : ret = some .boolean) (hk : k ≤ K) (hn : n ≤ N) (hd : decode cc pc = .ok (.ireturn, 1)) (hQ : Q (some (.int x)) G I L) : PW l P y cc nL ret R (pm_Tg P Q K N) k n pc ls ([.int x]) G I L := by
  subst hr
  intro p e s m args below meth c H locs a C hT hX hH hS hL
  have hq : ∀ t : State, t.heap = H → s.WarmedH t.vm → pm_Q P Q args s (.returned (some (.int x))) t := fun t ht hW => ⟨⟨some (.int x), G, I, L, rfl, hQ, by rw [ht]; exact hH⟩, hS.F ht⟩
  refine W.widen hk hn ?_
  exact W.zret C.1 C.2.1 C.2.2.2.2.2.1 hx hq (fun q h => hS.2.2 q h) hd C.2.2.2.2.2.2.1
theorem pm_lret {Q : Option Value → List pm_S → pm_I → pm_L → Prop} {K N : Nat} {x : Int64} (hr : ret = some .long) (hk : k ≤ K) (hn : n ≤ N) (hd : decode cc pc = .ok (.lreturn, 1)) (hQ : Q (some (.long x)) G I L) : PW l P y cc nL ret R (pm_Tg P Q K N) k n pc ls ([.long x]) G I L := by
  subst hr
  intro p e s m args below meth c H locs a C hT hX hH hS hL
  have hq : ∀ t : State, t.heap = H → s.WarmedH t.vm → pm_Q P Q args s (.returned (some (.long x))) t := fun t ht hW => ⟨⟨some (.long x), G, I, L, rfl, hQ, by rw [ht]; exact hH⟩, hS.F ht⟩
  refine W.widen hk hn ?_
  exact W.lret C.1 C.2.1 C.2.2.2.2.2.1 hq (fun q h => hS.2.2 q h) hd C.2.2.2.2.2.2.1
theorem pm_vret {Q : Option Value → List pm_S → pm_I → pm_L → Prop} {K N : Nat} (hr : ret = none) (hk : k ≤ K) (hn : n ≤ N) (hd : decode cc pc = .ok (.return_, 1)) (hQ : Q (none) G I L) : PW l P y cc nL ret R (pm_Tg P Q K N) k n pc ls ([]) G I L := by
  subst hr
  intro p e s m args below meth c H locs a C hT hX hH hS hL
  have hq : ∀ t : State, t.heap = H → s.WarmedH t.vm → pm_Q P Q args s (.returned (none)) t := fun t ht hW => ⟨⟨none, G, I, L, rfl, hQ, by rw [ht]; exact hH⟩, hS.F ht⟩
  refine W.widen hk hn ?_
  exact W.vret C.1 C.2.1 C.2.2.2.2.2.1 hq (fun q h => hS.2.2 q h) hd C.2.2.2.2.2.2.1
theorem pm_aret {Q : Option Value → List pm_S → pm_I → pm_L → Prop} {K N : Nat} {x : Nat} {rt : FieldType} (hrt : (∃ n, rt = .object n) ∨ ∃ t, rt = .array t) (hr : ret = some rt) (hk : k ≤ K) (hn : n ≤ N) (hd : decode cc pc = .ok (.areturn, 1)) (hQ : Q (some (.ref x)) G I L) : PW l P y cc nL ret R (pm_Tg P Q K N) k n pc ls ([.ref x]) G I L := by
  subst hr
  intro p e s m args below meth c H locs a C hT hX hH hS hL
  have hq : ∀ t : State, t.heap = H → s.WarmedH t.vm → pm_Q P Q args s (.returned (some (.ref (pm_ad P x)))) t := fun t ht hW => ⟨⟨some (.ref x), G, I, L, rfl, hQ, by rw [ht]; exact hH⟩, hS.F ht⟩
  refine W.widen hk hn ?_
  exact W.aret C.1 C.2.1 C.2.2.2.2.2.1 hrt (Or.inr ⟨_, rfl⟩) hq (fun q h => hS.2.2 q h) hd C.2.2.2.2.2.2.1
theorem pm_aretN {Q : Option Value → List pm_S → pm_I → pm_L → Prop} {K N : Nat} {rt : FieldType} (hrt : (∃ n, rt = .object n) ∨ ∃ t, rt = .array t) (hr : ret = some rt) (hk : k ≤ K) (hn : n ≤ N) (hd : decode cc pc = .ok (.areturn, 1)) (hQ : Q (some .null) G I L) : PW l P y cc nL ret R (pm_Tg P Q K N) k n pc ls ([.null]) G I L := by
  subst hr
  intro p e s m args below meth c H locs a C hT hX hH hS hL
  have hq : ∀ t : State, t.heap = H → s.WarmedH t.vm → pm_Q P Q args s (.returned (some .null)) t := fun t ht hW => ⟨⟨some .null, G, I, L, rfl, hQ, by rw [ht]; exact hH⟩, hS.F ht⟩
  refine W.widen hk hn ?_
  exact W.aret C.1 C.2.1 C.2.2.2.2.2.1 hrt (Or.inl rfl) hq (fun q h => hS.2.2 q h) hd C.2.2.2.2.2.2.1
end PMR
end
section
/-! calls -/
theorem pm_wG {y : MethodName} {cc : ByteArray} {nL : Nat} {ret : Option FieldType} (h : Cond.code y cc nL ret ∈ TB) : GoodIn TB (pm_w y cc nL ret) := by
  intro w hw
  rcases List.mem_cons.mp hw with rfl | hw
  · exact ⟨h, TB_good _ h⟩
  · exact ⟨hw, TB_good _ hw⟩
/-- what the tables say of a callee: its code, its class, its number of arguments -/
def pm_k (y : MethodName) (cc : ByteArray) (nL : Nat) (ret : Option FieldType) (q : Nat) : Prop := Cond.code y cc nL ret ∈ TB ∧ Cond.initialized y.cls ∈ TB ∧ (y.cls ≠ "java/lang/invoke/MethodHandle" ∧ y.cls ≠ "java/lang/invoke/VarHandle" ∧ (parseMethodDescriptor y.desc).map (fun d => d.parameters.length) = some q)
theorem pm_blind {P : pm_E} {as : List Value} {G : List pm_S} {I : pm_I} {L : pm_L} : FrameBlind (pm_Pre P as G I L) := fun a U g mk q => ⟨q.1, q.2.1, pm_T.same rfl q.2.2.1, pm_X.moved (u := U) (Vm.Alike.refl U.vm) q.2.2.2⟩
theorem pm_X.now {P : pm_E} {s : State} {H : Heap} {locs : List Loc} (h : pm_X P s s.heap) (hS : va_S (pm_A P) s.heap H locs) : pm_X P s H := h.kept hS.1 hS.2.1
section PMC
variable {l : Launch} {P : pm_E} {y : MethodName} {cc : ByteArray} {nL : Nat} {ret : Option FieldType} {R : Room} {Tg : List Frame → Array Value → State → State → Prop} {k n pc : Nat} {ls : List (Option Value)} {st : List Value} {G : List pm_S} {I : pm_I} {L : pm_L}
/-- behind a call -/
theorem pm_back {p : Program} {e : Env} {s : State} {m : MethodId} {args : Array Value} {below : List Frame} {meth : Method} {c : Code} {H : Heap} {locs : List Loc} {a : Array Slot} {K N : Nat} {stk : List Value} {x : Array Value} {Q' : Option Value → List pm_S → pm_I → pm_L → Prop}
    (hr : va_Run p l e R s m args below meth c H locs k n K N (F0 m pc a stk) (st.map (pm_v P)) (pm_Q P Q' x) (pm_A P)) (C : pm_C y cc nL ret p s m args meth c) (hT : pm_T P s) (hX : pm_X P s s.heap) (hS : va_S (pm_A P) s.heap H locs) (hL : pm_LR P nL ls a)
    (kk : ∀ (v : Option Value) (G' : List pm_S) (I' : pm_I) (L' : pm_L), Q' v G' I' L' → PW l P y cc nL ret R Tg (k + K) (n + N) (pc + 3) ls (v.toList ++ st) G' I' L') : W p l e R s m args below meth c H locs k n (Tg below args s) (F0 m pc a stk) := by
  intro T hT' X
  obtain ⟨v, st₀, t, T', L0, h0, X', hL0, e1, e2, ⟨⟨v', G', I', L', hv, hq, hH'⟩, hF⟩, st9⟩ := hr T hT' X
  cases hv
  rw [← h0] at hS
  have hS' : va_S (pm_A P) s.heap t.heap (locs ++ L0) := ⟨Nat.le_trans hS.1 hF.1, fun q h1 h2 => by rw [hF.2 q (Nat.lt_of_lt_of_le h1 hS.1) h2]; exact hS.2.1 q h1 h2, fun q hq => by
    rcases List.mem_append.mp hq with h | h
    · exact hS.2.2 q h
    · exact hL0 q h⟩
  have k1 := kk v' G' I' L' hq p e s m args below meth c t.heap (locs ++ L0) a C hT hX hH' hS' hL T' e1 X'
  obtain ⟨t2, a1, b1⟩ := k1
  refine ⟨t2, st9 t2 ?_, b1⟩
  have e3 : (v'.toList ++ st).map (pm_v P) = (v'.map (pm_v P)).toList ++ st.map (pm_v P) := by cases v' <;> simp
  rw [e3] at a1
  exact a1
theorem pm_sum13 {st : List Value} (P : pm_E) (h : (st.map (·.category)).sum ≤ 8) : ((st.map (pm_v P)).map fun v => v.category).sum ≤ 8 := by
  have e1 : ((st.map (pm_v P)).map fun v => v.category) = st.map (·.category) := by
    rw [List.map_map]; apply List.map_congr_left; intro v _; exact pm_v_cat P v
  rw [e1]; exact h
theorem pm_pre {s : State} {H : Heap} {locs : List Loc} {as : List Value} (hT : pm_T P s) (hX : pm_X P s s.heap) (hH : pm_H P G I L H) (hS : va_S (pm_A P) s.heap H locs) : ∀ U : State, U.heap = H → s.WarmedH U.vm → pm_Pre P as G I L (as.map (pm_v P)).toArray U := fun U hU hW => ⟨rfl, by rw [hU]; exact hH, hT.warm hW, by rw [hU]; exact (hX.now hS).moved hW.alike⟩
variable {d K N ix : Nat} {y' : MethodName} {cc' : ByteArray} {nL' : Nat} {ret' : Option FieldType} {o : Nat} {as stk : List Value} {Q' : Option Value → List pm_S → pm_I → pm_L → Prop}
theorem pm_CB {p : Program} {s : State} {m : MethodId} {args : Array Value} {meth : Method} {c : Code} {q : Nat} (C : pm_C y cc nL ret p s m args meth c) (hw : pm_k y' cc' nL' ret' q) (hl : Cond.methodLink y.cls ix y' ∈ TB) (hR : d + 1 ≤ R.frames ∧ 8 + (nL' + 11) + 64 * d ≤ R.locals) : CallB R s args y.cls ix y' cc' nL' ret' (pm_w y' cc' nL' ret') (pm_rm d K N) K N q :=
  callB_of q C.2.2.2.2.2.2.2 (pm_wG hw.1) rfl rfl rfl (C.2.2.2.2.2.2.2 _ hw.2.1) (C.2.2.2.2.2.2.2 _ hl) hw.2.2 hR
/-- invokevirtual -/
theorem pm_cV (hd : decode cc pc = .ok (.invokevirtual ix, 3)) (hM : PC d K N y' cc' nL' ret' (.ref o :: as) G I L Q') (hw : pm_k y' cc' nL' ret' as.length) (hl : Cond.methodLink y.cls ix y' ∈ TB) (hi : Cond.instanceMethod y' ∈ TB) (hse : Cond.selects y'.cls y' y' ∈ TB)
    {ci N0 : Nat} {T : u_T} {fs : List (Option (Option Nat))} (hg : G[o]? = some (.inl (ci, fs))) (hc : vwCl[ci]? = some (y'.cls, T, N0)) (hR : d + 1 ≤ R.frames ∧ 8 + (nL' + 11) + 64 * d ≤ R.locals) (hk : k + K ≤ R.cells ∧ n + N ≤ R.slots) (hs : stk = as.reverse ++ .ref o :: st) (hcat : (st.map (·.category)).sum ≤ 8)
    (kk : ∀ (v : Option Value) (G' : List pm_S) (I' : pm_I) (L' : pm_L), Q' v G' I' L' → PW l P y cc nL ret R Tg (k + K) (n + N) (pc + 3) ls (v.toList ++ st) G' I' L') : PW l P y cc nL ret R Tg k n pc ls stk G I L := by
  intro p e s m args below meth c H locs a C hT hX hH hS hL
  have cb : CallB R s args y.cls ix y' cc' nL' ret' (pm_w y' cc' nL' ret') (pm_rm d K N) K N as.length := pm_CB C hw hl hR
  refine pm_back (va_runV (C := y'.cls) (As := as.map (pm_v P)) ⟨C.1, C.2.1, C.2.2.1, C.2.2.2.1, C.2.2.2.2.2.2.2⟩ (hM l P) ⟨cb, C.2.2.2.2.2.2.2 _ hi, C.2.2.2.2.2.2.2 _ hse⟩ ⟨pm_blind, va_recv hT.1 hH.1 hc (hH.at hg), pm_pre hT hX hH hS⟩ rfl (by simp) hL.1 ?_ (lv_room (pm_sum13 P hcat)) hd hk) C hT hX hS hL kk
  rw [hs]; simp; rfl
/-- invokestatic -/
theorem pm_cS (hd : decode cc pc = .ok (.invokestatic ix, 3)) (hM : PC d K N y' cc' nL' ret' as G I L Q') (hw : pm_k y' cc' nL' ret' as.length) (hl : Cond.methodLink y.cls ix y' ∈ TB) (hi : Cond.static y' ∈ TB)
    (hR : d + 1 ≤ R.frames ∧ 8 + (nL' + 11) + 64 * d ≤ R.locals) (hk : k + K ≤ R.cells ∧ n + N ≤ R.slots) (hs : stk = as.reverse ++ st) (hcat : (st.map (·.category)).sum ≤ 8)
    (kk : ∀ (v : Option Value) (G' : List pm_S) (I' : pm_I) (L' : pm_L), Q' v G' I' L' → PW l P y cc nL ret R Tg (k + K) (n + N) (pc + 3) ls (v.toList ++ st) G' I' L') : PW l P y cc nL ret R Tg k n pc ls stk G I L := by
  intro p e s m args below meth c H locs a C hT hX hH hS hL
  have cb : CallB R s args y.cls ix y' cc' nL' ret' (pm_w y' cc' nL' ret') (pm_rm d K N) K N as.length := pm_CB C hw hl hR
  refine pm_back (va_runS (As := as.map (pm_v P)) ⟨C.1, C.2.1, C.2.2.1, C.2.2.2.1, C.2.2.2.2.2.2.2⟩ (hM l P) ⟨cb, C.2.2.2.2.2.2.2 _ hi⟩ ⟨pm_blind, pm_pre hT hX hH hS⟩ rfl (by simp) hL.1 ?_ (lv_room (pm_sum13 P hcat)) hd hk) C hT hX hS hL kk
  rw [hs]; simp
/-- invokestatic of a nest mate's private method -/
theorem pm_cSN {hst : String} (hd : decode cc pc = .ok (.invokestatic ix, 3)) (hM : PC d K N y' cc' nL' ret' as G I L Q') (hw : pm_k y' cc' nL' ret' as.length) (hl : (y.cls, ix, y', hst) ∈ NW) (hi : Cond.static y' ∈ TB)
    (hR : d + 1 ≤ R.frames ∧ 8 + (nL' + 11) + 64 * d ≤ R.locals) (hk : k + K ≤ R.cells ∧ n + N ≤ R.slots) (hs : stk = as.reverse ++ st) (hcat : (st.map (·.category)).sum ≤ 8)
    (kk : ∀ (v : Option Value) (G' : List pm_S) (I' : pm_I) (L' : pm_L), Q' v G' I' L' → PW l P y cc nL ret R Tg (k + K) (n + N) (pc + 3) ls (v.toList ++ st) G' I' L') : PW l P y cc nL ret R Tg k n pc ls stk G I L := by
  intro p e s m args below meth c H locs a C hT hX hH hS hL
  have cb : va_CN R s args y.cls ix y' hst cc' nL' ret' (pm_w y' cc' nL' ret') (pm_rm d K N) K N as.length := va_cnB as.length C.2.2.2.2.2.2.2 (pm_wG hw.1) rfl rfl rfl (hT.2.1 _ hl) (C.2.2.2.2.2.2.2 _ hw.2.1) hw.2.2 hR
  refine pm_back (va_runSN (As := as.map (pm_v P)) ⟨C.1, C.2.1, C.2.2.1, C.2.2.2.1, C.2.2.2.2.2.2.2⟩ (hM l P) ⟨cb, C.2.2.2.2.2.2.2 _ hi, trivial⟩ ⟨pm_blind, pm_pre hT hX hH hS⟩ rfl (by simp) hL.1 ?_ (lv_room (pm_sum13 P hcat)) hd hk) C hT hX hS hL kk
  rw [hs]; simp
/-- invokespecial of a constructor -/
theorem pm_cI (hd : decode cc pc = .ok (.invokespecial ix, 3)) (hM : PC d K N y' cc' nL' none (.ref o :: as) G I L Q') (hw : pm_k y' cc' nL' none as.length) (hl : Cond.methodLink y.cls ix y' ∈ TB) (hi : Cond.instanceMethod y' ∈ TB) (hy : y'.name = "<init>")
    (hR : d + 1 ≤ R.frames ∧ 8 + (nL' + 11) + 64 * d ≤ R.locals) (hk : k + K ≤ R.cells ∧ n + N ≤ R.slots) (hs : stk = as.reverse ++ .ref o :: st) (hcat : (st.map (·.category)).sum ≤ 8)
    (kk : ∀ (v : Option Value) (G' : List pm_S) (I' : pm_I) (L' : pm_L), Q' v G' I' L' → PW l P y cc nL ret R Tg (k + K) (n + N) (pc + 3) ls (v.toList ++ st) G' I' L') : PW l P y cc nL ret R Tg k n pc ls stk G I L := by
  intro p e s m args below meth c H locs a C hT hX hH hS hL
  have cb : CallB R s args y.cls ix y' cc' nL' none (pm_w y' cc' nL' none) (pm_rm d K N) K N as.length := pm_CB C hw hl hR
  refine pm_back (va_runI (b := pm_ad P o) (As := as.map (pm_v P)) ⟨C.1, C.2.1, C.2.2.1, C.2.2.2.1, C.2.2.2.2.2.2.2⟩ (hM l P) ⟨cb, hy, C.2.2.2.2.2.2.2 _ hi⟩ ⟨pm_blind, pm_pre (as := .ref o :: as) hT hX hH hS⟩ rfl (by simp) hL.1 ?_ (lv_room (pm_sum13 P hcat)) hd hk) C hT hX hS hL kk
  rw [hs]; simp; rfl
/-- invokespecial of a nest mate's private constructor -/
theorem pm_cIN {hst : String} (hd : decode cc pc = .ok (.invokespecial ix, 3)) (hM : PC d K N y' cc' nL' none (.ref o :: as) G I L Q') (hw : pm_k y' cc' nL' none as.length) (hl : (y.cls, ix, y', hst) ∈ NW) (hi : Cond.instanceMethod y' ∈ TB) (hy : y'.name = "<init>")
    (hR : d + 1 ≤ R.frames ∧ 8 + (nL' + 11) + 64 * d ≤ R.locals) (hk : k + K ≤ R.cells ∧ n + N ≤ R.slots) (hs : stk = as.reverse ++ .ref o :: st) (hcat : (st.map (·.category)).sum ≤ 8)
    (kk : ∀ (v : Option Value) (G' : List pm_S) (I' : pm_I) (L' : pm_L), Q' v G' I' L' → PW l P y cc nL ret R Tg (k + K) (n + N) (pc + 3) ls (v.toList ++ st) G' I' L') : PW l P y cc nL ret R Tg k n pc ls stk G I L := by
  intro p e s m args below meth c H locs a C hT hX hH hS hL
  have cb : va_CN R s args y.cls ix y' hst cc' nL' none (pm_w y' cc' nL' none) (pm_rm d K N) K N as.length := va_cnB as.length C.2.2.2.2.2.2.2 (pm_wG hw.1) rfl rfl rfl (hT.2.1 _ hl) (C.2.2.2.2.2.2.2 _ hw.2.1) hw.2.2 hR
  refine pm_back (va_runIN (b := pm_ad P o) (As := as.map (pm_v P)) ⟨C.1, C.2.1, C.2.2.1, C.2.2.2.1, C.2.2.2.2.2.2.2⟩ (hM l P) ⟨cb, hy, C.2.2.2.2.2.2.2 _ hi⟩ ⟨pm_blind, pm_pre (as := .ref o :: as) hT hX hH hS⟩ rfl (by simp) hL.1 ?_ (lv_room (pm_sum13 P hcat)) hd hk) C hT hX hS hL kk
  rw [hs]; simp; rfl
/-- Object.<init> -/
theorem pm_obj (hd : decode cc pc = .ok (.invokespecial ix, 3)) (hl : Cond.methodLink y.cls ix objectInit ∈ TB) (hi : Cond.instanceMethod objectInit ∈ TB) (hc : Cond.code objectInit ⟨#[0xb1]⟩ 1 none ∈ TB) (hR : 1 ≤ R.frames ∧ 20 ≤ R.locals) (hcat : (st.map (·.category)).sum ≤ 8)
    (kk : PW l P y cc nL ret R Tg k n (pc + 3) ls st G I L) : PW l P y cc nL ret R Tg k n pc ls (.ref o :: st) G I L := by
  intro p e s m args below meth c H locs a C hT hX hH hS hL
  have hts := C.2.2.2.2.2.2.2
  have h2 := pm_sum13 P hcat
  refine W.objInit C.1 C.2.1 C.2.2.2.1 (hts _ hl) (hts _ hi) (hts _ hc) (a := pm_ad P o) (rest := st.map (pm_v P)) rfl (by rw [C.2.2.1]; exact hL.1) rfl hd hR.1 (by show 2 * 0 + _ + 12 ≤ _; omega) (kk p e s m args below meth c H locs a C hT hX hH hS hL)
/-! what is made -/
def pm_df (fs : List (Option (Option Nat))) (j : Nat) : Value := match fs.getD j (some none) with
  | none => .int 0
  | some _ => .null
theorem pm_new {ci M : Nat} {C0 : String} {T : u_T} {fs : List (Option (Option Nat))} (hc : vwCl[ci]? = some (C0, T, M)) (hin : ∀ w ∈ u_ws C0 T M, w ∈ TB) (ty0 : Nat → FieldType) (hty : ∀ k, k < M → parseFieldDescriptor (T k).2.2.1 = some (ty0 k)) (hcl : Cond.classLink y.cls ix C0 ∈ TB) (hins : Cond.instantiable C0 M ∈ TB) (hini : Cond.initialized C0 ∈ TB)
    (hfs : ∀ j, j < M → defaultValue (ty0 j) = pm_df fs j) (hfn : fs.all (fun q => decide (q = none ∨ q = some none)) = true) (hG : G.length < 1000) (hk : k + 1 ≤ R.cells ∧ n + M ≤ R.slots) (hd : decode cc pc = .ok (.new ix, 3))
    (kk : PW l P y cc nL ret R Tg (k + 1) (n + M) (pc + 3) ls (.ref G.length :: st) (G ++ [.inl (ci, fs)]) (pm_u I G.length (fun _ => 0)) (pm_u L G.length (fun _ => 0))) : PW l P y cc nL ret R Tg k n pc ls st G I L := by
  intro p e s m args below meth c H locs a C hT hX hH hS hL
  have hts := C.2.2.2.2.2.2.2
  have hKn := hT.1.1 ci _ hc
  refine W.newcK C.1 C.2.1 C.2.2.2.1 (hts _ hcl) (hts _ hins) (hts _ hini) rfl hd hk.1 hk.2 hKn.2.1 rfl fun H1 kC hkC e1 z1 o1 => ?_
  have he : va_at (pm_D P) vwCl (H.size, pm_c P (fun _ => 0) (fun _ => 0) (.inl (ci, fs))) H1 := by
    refine ⟨_, hc, (u_born ty0 hts hin hKn hkC e1 hty).to fun j hj => ?_⟩
    rw [hfs j hj, pm_df, vp_V, List.getD_eq_getElem?_getD, List.getD_eq_getElem?_getD, List.getElem?_map, List.getElem?_zipIdx]
    cases hj2 : fs[j]? with
    | none => rfl
    | some q =>
      have h1 := List.all_eq_true.mp hfn q (List.mem_of_getElem? hj2)
      rcases of_decide_eq_true h1 with rfl | rfl <;> rfl
  have h8 := hH.push hG _ _ _ he z1 o1
  have k1 := kk p e s m args below meth c H1 locs a C hT hX h8 ⟨Nat.le_trans hS.1 (by omega), fun x h1 h2 => (o1 x (Nat.lt_of_lt_of_le h1 hS.1)).trans (hS.2.1 x h1 h2), hS.2.2⟩ hL
  have e2 : pm_v P (.ref G.length) = .ref H.size := by
    show Value.ref (pm_ad P G.length) = _
    rw [pm_ad_lt hG, hH.2.1]
  rw [List.map_cons, e2] at k1
  exact k1
theorem pm_newa {at_ : ArrayType} {t M : Nat} {v : Int32} {ty : FieldType} (hty : newarray.typeOf at_ = ty) (ht : t = 0 ∧ ty = .int ∨ t = 1 ∧ ty = .char ∨ t = 2 ∧ ty = .long) (har : Cond.arrayClass ty ∈ TB) (hv : ¬ v < 0) (hM : v.toNatClampNeg = M) (hb : M * componentBytes ty ≤ 536870912) (hG : G.length < 1000) (hk : k + 1 ≤ R.cells ∧ n + M ≤ R.slots) (hd : decode cc pc = .ok (.newarray at_, 2))
    (kk : PW l P y cc nL ret R Tg (k + 1) (n + M) (pc + 2) ls (.ref G.length :: st) (G ++ [.inr (.inl (t, M))]) (pm_u I G.length (fun _ => 0)) (pm_u L G.length (fun _ => 0))) : PW l P y cc nL ret R Tg k n pc ls (.int v :: st) G I L := by
  subst hty
  intro p e s m args below meth c H locs a C hT hX hH hS hL
  have hts := C.2.2.2.2.2.2.2
  refine va_newaK C.1 C.2.1 (hts _ har) rfl hd rfl hv hM hb hk.1 hk.2 rfl fun H1 cA e1 z1 o1 hAr hNm => ?_
  have he : va_at (pm_D P) vwCl (H.size, pm_c P (fun _ => 0) (fun _ => 0) (.inr (.inl (t, M)))) H1 := by
    rcases ht with ⟨rfl, h2⟩ | ⟨rfl, h2⟩ | ⟨rfl, h2⟩
    · have h3 : s.vm.findClass _ = some (pm_cs P 0) := (hT.1.2 0 _ rfl).2
      rw [h2] at hNm e1
      have : cA = pm_cs P 0 := Option.some.inj (hNm.symm.trans h3)
      subst this
      exact e1
    · have h3 : s.vm.findClass _ = some (pm_cs P 1) := (hT.1.2 1 _ rfl).2
      rw [h2] at hNm e1
      have : cA = pm_cs P 1 := Option.some.inj (hNm.symm.trans h3)
      subst this
      exact e1
    · have h3 : s.vm.findClass _ = some (pm_cs P 2) := (hT.1.2 2 _ rfl).2
      rw [h2] at hNm e1
      have : cA = pm_cs P 2 := Option.some.inj (hNm.symm.trans h3)
      subst this
      exact e1
  have h8 := hH.push hG _ _ _ he z1 o1
  have k1 := kk p e s m args below meth c H1 locs a C hT hX h8 ⟨Nat.le_trans hS.1 (by omega), fun x h1 h2 => (o1 x (Nat.lt_of_lt_of_le h1 hS.1)).trans (hS.2.1 x h1 h2), hS.2.2⟩ hL
  have e2 : pm_v P (.ref G.length) = .ref H.size := by
    show Value.ref (pm_ad P G.length) = _
    rw [pm_ad_lt hG, hH.2.1]
  rw [List.map_cons, e2] at k1
  exact k1
theorem pm_anew {M : Nat} {v : Int32} (hcl : Cond.classLink y.cls ix RX5 ∈ TB) (hv : ¬ v < 0) (hM : v.toNatClampNeg = M) (hb : M * 4 ≤ 536870912) (hG : G.length < 1000) (hk : k + 1 ≤ R.cells ∧ n + M ≤ R.slots) (hd : decode cc pc = .ok (.anewarray ix, 3))
    (kk : PW l P y cc nL ret R Tg (k + 1) (n + M) (pc + 3) ls (.ref G.length :: st) (G ++ [.inr (.inr (List.replicate M none))]) (pm_u I G.length (fun _ => 0)) (pm_u L G.length (fun _ => 0))) : PW l P y cc nL ret R Tg k n pc ls (.int v :: st) G I L := by
  subst hM
  intro p e s m args below meth c H locs a C hT hX hH hS hL
  have hts := C.2.2.2.2.2.2.2
  refine W.anew C.1 C.2.1 C.2.2.2.1 (hts _ hcl) (va_AO.use hT.2.2.2) rfl hd rfl hv hb hk.1 hk.2 fun cA kA comp f1 f2 f3 f4 => ?_
  generalize hH1 : H.push ({ cls := cA, slots := Array.replicate v.toNatClampNeg .null, vm := .none } : Cell) = H1
  have z1 : H1.size = H.size + 1 := by rw [← hH1, Array.size_push]
  have e1 : H1[H.size]? = some (arrV cA v.toNatClampNeg (fun _ => .null)) := by rw [← hH1, Array.getElem?_push_size, ← arrV_new]
  have o1 : ∀ q : Nat, q < H.size → H1[q]? = H[q]? := fun q hq => by rw [← hH1, Array.getElem?_push, if_neg (Nat.ne_of_lt hq)]
  have he : va_at (pm_D P) vwCl (H.size, pm_c P (fun _ => 0) (fun _ => 0) (.inr (.inr (List.replicate v.toNatClampNeg none)))) H1 := by
    obtain ⟨_, _, -, -, -, h3⟩ := (hT.1.2 3 _ rfl).2
    have h4 : cA = pm_cs P 3 := Option.some.inj (f1.symm.trans h3)
    subst h4
    show H1[H.size]? = some (vp_cell _ _)
    rw [vp_cell_q, e1, List.length_replicate]
    congr 2
    funext j
    rw [List.getD_eq_getElem?_getD, List.getElem?_replicate]
    split <;> rfl
  have h8 := hH.push hG _ _ _ he z1 o1
  have k1 := kk p e s m args below meth c H1 locs a C hT hX h8 ⟨Nat.le_trans hS.1 (by omega), fun x h1 h2 => (o1 x (Nat.lt_of_lt_of_le h1 hS.1)).trans (hS.2.1 x h1 h2), hS.2.2⟩ hL
  have e2 : pm_v P (.ref G.length) = .ref H.size := by
    show Value.ref (pm_ad P G.length) = _
    rw [pm_ad_lt hG, hH.2.1]
  rw [List.map_cons, e2] at k1
  exact k1
theorem pm_aastore {r ci : Nat} {rs : List (Option Nat)} {fs : List (Option (Option Nat))} {i : Int32} {T : u_T} {M : Nat} (hg : G[o]? = some (.inr (.inr rs))) (hr : G[r]? = some (.inl (ci, fs))) (hc : vwCl[ci]? = some (RX5, T, M)) (hi : vp_in i rs.length) (hd : decode cc pc = .ok (.aastore, 1))
    (kk : PW l P y cc nL ret R Tg k n (pc + 1) ls st (G.set o (.inr (.inr (rs.set i.toNatClampNeg (some r))))) I L) : PW l P y cc nL ret R Tg k n pc ls (.ref r :: .int i :: .ref o :: st) G I L := by
  intro p e s m args below meth c H locs a C hT hX hH hS hL
  have hlt : i.toNatClampNeg < rs.length := Nat.not_le.mp fun q => hi (Or.inr q)
  have h0 : ¬ i < 0 := fun q => hi (Or.inl q)
  obtain ⟨r', hr', cellV, g1, g2, g3, -⟩ := hH.1 r _ (hH.at hr)
  have hcls := (hT.1.1 ci _ hc).2
  obtain ⟨kA, comp, k1, k2, k3, -⟩ := (hT.1.2 3 _ rfl).2
  have hcomp : comp = (pm_D P).1 ci := Option.some.inj (k3.symm.trans hcls.1)
  subst hcomp
  obtain ⟨kC, hkC, -⟩ := hcls.2
  refine W.aast C.1 C.2.1 (a := pm_ad P o) (v := pm_ad P r) (hH.1 o _ (hH.at hg)) (fun q h => by cases h) (fun h => by cases h) k1 k2 rfl hkC ⟨h0, by show _ < (arrV _ _ _).slots.size; rw [arrV_size]; exact hlt⟩ g1 (fun q h => by rw [g3] at h; cases h) (by rw [g2]; exact hkC) (by rw [g2]; exact va_assign hcls) rfl rfl hd fun H1 e1 z oq => ?_
  have hv : va_at (pm_D P) vwCl (pm_ad P o, pm_c P (I o) (L o) (.inr (.inr (rs.set i.toNatClampNeg (some r))))) H1 := by
    show H1[pm_ad P o]? = some (vp_cell _ _)
    rw [e1]
    show some ((vp_cell _ (rs.length, .inr (.inr (.inr (.inr (fun k => (rs.getD k none).map (pm_ad P))))))).setSlot _ _) = some (vp_cell _ _)
    rw [vp_cell_q, vp_cell_q, arrV_store, List.length_set]
    congr 2
    funext q
    by_cases hq : q = i.toNatClampNeg
    · subst hq
      simp [updV, va_rf, hlt, List.getD_eq_getElem?_getD, List.getElem?_set]
    · simp [updV, hq, Ne.symm hq, List.getD_eq_getElem?_getD, List.getElem?_set]
  have h8 := hH.set hg _ (I o) (L o) hv z oq
  rw [pm_uu, pm_uu] at h8
  exact kk p e s m args below meth c H1 _ a C hT hX h8 (pm_S_put hH hg hS z oq) hL
/-- a final field of the class itself, in its constructor: a reference -/
theorem pm_putr {ci j M r : Nat} {T : u_T} {fs : List (Option (Option Nat))} {ty : FieldType} (hg : G[o]? = some (.inl (ci, fs))) (hc : vwCl[ci]? = some (y.cls, T, M)) (hin : ∀ w ∈ u_ws y.cls T M, w ∈ TB) (ty0 : Nat → FieldType) (hty : ∀ k, k < M → parseFieldDescriptor (T k).2.2.1 = some (ty0 k)) (hnm : ∀ a, a < M → ∀ b, b < M → a ≠ b → (T a).2.1 ≠ (T b).2.1) (hj : j < M) (hl : Cond.fieldLink y.cls ix (T j).1 (T j).2.1 (T j).2.2.1 ∈ TB) (hjl : j < fs.length) (hfin : (T j).2.2.2 = true) (hy : y.name = "<init>") (hdecl : (T j).1 = y.cls) (hdt : parseFieldDescriptor (T j).2.2.1 = some ty) (hn : ∀ q : Nat, narrow ty (.ref q) = .ref q ∧ fits ty (.ref q) = true) (hd : decode cc pc = .ok (.putfield ix, 3))
    (kk : PW l P y cc nL ret R Tg k n (pc + 3) ls st (G.set o (.inl (ci, fs.set j (some (some r))))) I L) : PW l P y cc nL ret R Tg k n pc ls (.ref r :: .ref o :: st) G I L := by
  intro p e s m args below meth c H locs a C hT hX hH hS hL
  have hts := C.2.2.2.2.2.2.2
  have hK := hT.1
  have hown := C.2.2.2.1
  have hap := va_apart (own := y.cls) hts hin ty0 hty hnm hK hc
  have he := hH.at hg
  obtain ⟨r1, h1, cell, q1, q2, q3, q4⟩ := hH.1 o _ he
  have hr : r1 = (y.cls, T, M) := Option.some.inj (h1.symm.trans hc)
  subst hr
  obtain ⟨hS1, hfc, kC, hkC, hkind⟩ := hK.1 ci _ hc
  obtain ⟨cf, kf, fi, f, hi, hsl⟩ := hS1 j hj
  have hlay := hts _ (hin _ (u_in_lay hj))
  unfold u_lay at hlay
  rw [if_pos hfin] at hlay
  have hst := (u_facts hfc hkC (u_lays hts hin hj) hi).1
  have hcf : m.cls = cf := by
    obtain ⟨_, _, c', _, _, _, -, -, hf', -, -, -, hown2, -⟩ := Cond.laysFinal_spec hlay
    have e1 : c' = cf := by have := hi.symm.trans hf'; simp at this; exact this.1.symm
    rw [hdecl] at hown2
    rw [← e1]; exact Option.some.inj (hown.symm.trans hown2)
  have h6 := u_fits hfc hkC hkind (Or.inr hlay) hi hdt (hn (pm_ad P r)).1 (hn (pm_ad P r)).2
  refine W.putFinK C.1 C.2.1 (a := pm_ad P o) (v := .ref (pm_ad P r)) hown (hts _ hl) hi hst hcf (C.2.2.2.2.1.trans hy) (by rw [q2]; exact h6) q1 q3 (by rw [hsl]; exact k2_hasslot (q4 j hj)) rfl rfl hd fun H' e1 e2 e3 => ?_
  rw [hsl] at e1
  have hl9 : j < (fs.zipIdx.map (pm_f P (I o))).length := by simp; exact hjl
  have hv : va_at (pm_D P) vwCl (pm_ad P o, pm_c P (I o) (L o) (.inl (ci, fs.set j (some (some r))))) H' := by
    refine ⟨_, hc, ?_⟩
    have h7 := t_OB.to (V := updV (vp_V (fs.zipIdx.map (pm_f P (I o)))) j (.ref (pm_ad P r))) ⟨_, e1, q2, q3, t_set q4 hap hj (.ref (pm_ad P r))⟩ (fun i _ => vp_updV_set hl9 (.ref (pm_ad P r)) i)
    rw [pm_fsetr hjl] at h7
    exact h7
  have h8 := hH.set hg _ (I o) (L o) hv e2 e3
  rw [pm_uu, pm_uu] at h8
  exact kk p e s m args below meth c H' _ a C hT hX h8 (pm_S_put hH hg hS e2 e3) hL
/-! Math -/
def pm_RM (R : Room) (k n : Nat) : Prop := 1 ≤ R.frames ∧ 40 ≤ R.locals ∧ k ≤ R.cells ∧ n ≤ R.slots
theorem pm_mmax {x w : Int32} (hl : Cond.methodLink y.cls ix Lib.Math.max.name ∈ TB) (hs : Cond.static Lib.Math.max.name ∈ TB) (hi : Cond.initialized "java/lang/Math" ∈ TB) (hc : Cond.code Lib.Math.max.name Lib.Math.max.code 2 (some .int) ∈ TB) (hR : pm_RM R k n) (hcat : (st.map (·.category)).sum ≤ 8) (hd : decode cc pc = .ok (.invokestatic ix, 3))
    (kk : PW l P y cc nL ret R Tg k n (pc + 3) ls (.int (if x < w then w else x) :: st) G I L) : PW l P y cc nL ret R Tg k n pc ls (.int w :: .int x :: st) G I L := by
  intro p e s m args below meth c H locs a C hT hX hH hS hL
  have hts := C.2.2.2.2.2.2.2
  have h2 := pm_sum13 P hcat
  obtain ⟨r1, r2, r3, r4⟩ := hR
  exact va_mmax C.1 C.2.1 (C.2.2.1.trans hL.1.symm) C.2.2.2.1 (hts _ hl) (hts _ hs) (hts _ hi) (hts _ hc) r1 (by omega) r3 r4 hd (kk p e s m args below meth c H locs a C hT hX hH hS hL)
theorem pm_mmin {x w : Int32} (hl : Cond.methodLink y.cls ix Lib.Math.min.name ∈ TB) (hs : Cond.static Lib.Math.min.name ∈ TB) (hi : Cond.initialized "java/lang/Math" ∈ TB) (hc : Cond.code Lib.Math.min.name Lib.Math.min.code 2 (some .int) ∈ TB) (hR : pm_RM R k n) (hcat : (st.map (·.category)).sum ≤ 8) (hd : decode cc pc = .ok (.invokestatic ix, 3))
    (kk : PW l P y cc nL ret R Tg k n (pc + 3) ls (.int (if w < x then w else x) :: st) G I L) : PW l P y cc nL ret R Tg k n pc ls (.int w :: .int x :: st) G I L := by
  intro p e s m args below meth c H locs a C hT hX hH hS hL
  have hts := C.2.2.2.2.2.2.2
  have h2 := pm_sum13 P hcat
  obtain ⟨r1, r2, r3, r4⟩ := hR
  exact va_mmin C.1 C.2.1 (C.2.2.1.trans hL.1.symm) C.2.2.2.1 (hts _ hl) (hts _ hs) (hts _ hi) (hts _ hc) r1 (by omega) r3 r4 hd (kk p e s m args below meth c H locs a C hT hX hH hS hL)
theorem pm_mabs {x : Int32} (hl : Cond.methodLink y.cls ix Lib.Math.abs.name ∈ TB) (hs : Cond.static Lib.Math.abs.name ∈ TB) (hi : Cond.initialized "java/lang/Math" ∈ TB) (hc : Cond.code Lib.Math.abs.name Lib.Math.abs.code 1 (some .int) ∈ TB) (hR : pm_RM R k n) (hcat : (st.map (·.category)).sum ≤ 8) (hd : decode cc pc = .ok (.invokestatic ix, 3))
    (kk : PW l P y cc nL ret R Tg k n (pc + 3) ls (.int (if 0 ≤ x then x else 0 - x) :: st) G I L) : PW l P y cc nL ret R Tg k n pc ls (.int x :: st) G I L := by
  intro p e s m args below meth c H locs a C hT hX hH hS hL
  have hts := C.2.2.2.2.2.2.2
  have h2 := pm_sum13 P hcat
  obtain ⟨r1, r2, r3, r4⟩ := hR
  exact va_mabs C.1 C.2.1 (C.2.2.1.trans hL.1.symm) C.2.2.2.1 (hts _ hl) (hts _ hs) (hts _ hi) (hts _ hc) r1 (by omega) r3 r4 hd (kk p e s m args below meth c H locs a C hT hX hH hS hL)
theorem pm_copyi {o0 n0 n1 : Nat} {sp dp v : Int32} (hl : Cond.methodLink y.cls ix arraycopyName ∈ TB) (hnat : Cond.native arraycopyName ∈ TB) (hstat : Cond.static arraycopyName ∈ TB) (hini : Cond.initialized "java/lang/System" ∈ TB) (hg0 : G[o0]? = some (.inr (.inl (0, n0)))) (hg : G[o]? = some (.inr (.inl (0, n1)))) (h1 : ¬ sp < 0) (h2 : ¬ dp < 0) (h3 : ¬ v < 0) (h4 : sp.toNatClampNeg + v.toNatClampNeg ≤ n0) (h5 : dp.toNatClampNeg + v.toNatClampNeg ≤ n1) (hR : 1 ≤ R.frames ∧ 8 + (nativeFrameWords "java/lang/System" "arraycopy" 5 + 11) ≤ R.locals) (hcat : (st.map (·.category)).sum ≤ 8) (hd : decode cc pc = .ok (.invokestatic ix, 3))
    (kk : PW l P y cc nL ret R Tg k n (pc + 3) ls st G (pm_u I o (va_cpy (I o0) (I o) sp.toNatClampNeg dp.toNatClampNeg v.toNatClampNeg)) L) : PW l P y cc nL ret R Tg k n pc ls (.int v :: .int dp :: .ref o :: .int sp :: .ref o0 :: st) G I L := by
  intro p e s m args below meth c H locs a C hT hX hH hS hL
  have hts := C.2.2.2.2.2.2.2
  have hcat2 := pm_sum13 P hcat
  have nn : ∀ z : Int32, ¬ z < 0 → z.toInt = (z.toNatClampNeg : Int) := by
    intro z hz
    have hz0 : (0 : Int) ≤ z.toInt := by
      have := Int32.not_lt.mp hz
      simpa using Int32.le_iff_toInt_le.mp this
    show z.toInt = ((z.toInt.toNat : Nat) : Int)
    omega
  intro T hT' X
  have hc0 : H[pm_ad P o0]? = some (vp_cell (pm_cs P 0) (n0, .inl (I o0))) := hH.1 o0 _ (hH.at hg0)
  have hc1 : H[pm_ad P o]? = some (vp_cell (pm_cs P 0) (n1, .inl (I o))) := hH.1 o _ (hH.at hg)
  obtain ⟨-, k0, hk0, cm0, hkk0⟩ := (hT.1.2 0 _ rfl).1 n0 (fun j => .int ((I o0) j))
  obtain ⟨-, k1, hk1, cm1, hkk1⟩ := (hT.1.2 0 _ rfl).1 n1 (fun j => .int ((I o) j))
  obtain ⟨vm', X', step⟩ := X.arraycopy C.1 C.2.2.2.1 (hts _ hl) (hts _ hnat) (hts _ hstat) (hts _ hini) (src := pm_ad P o0) (dst := pm_ad P o) (cs := vp_cell (pm_cs P 0) (n0, .inl (I o0))) (cd := vp_cell (pm_cs P 0) (n1, .inl (I o))) (srcPos := sp) (destPos := dp) (n := v) (by rw [hT']; exact hc0) (by rw [hT']; exact hc1)
    (fun _ h => by cases h) (fun _ h => by cases h) (fun h => by cases h) (fun h => by cases h) hk0 hk1 hkk0 hkk1 (by simp [refKind]) h1 h2 h3
    (by rw [nn sp h1, nn v h3]; show ¬ _ > ((arrV (pm_cs P 0) n0 (fun j => .int ((I o0) j))).slots.size : Int); rw [arrV_size]; omega)
    (by rw [nn dp h2, nn v h3]; show ¬ _ > ((arrV (pm_cs P 0) n1 (fun j => .int ((I o) j))).slots.size : Int); rw [arrV_size]; omega)
    (fun vm₁ _ i hi => by
      have e : (vp_cell (pm_cs P 0) (n0, .inl (I o0))).slots.getD (sp.toNatClampNeg + i) .null = .int ((I o0) (sp.toNatClampNeg + i)) := by
        show (arrV (pm_cs P 0) n0 (fun j => .int ((I o0) j))).slots.getD _ _ = _
        rw [Array.getD_eq_getD_getElem?, arrV_read _ _ (by omega)]
        rfl
      refine ⟨?_, ?_⟩
      · rw [e]; rfl
      · rw [e]; exact trivial)
    (g := F0 m pc a (.int v :: .int dp :: .ref (pm_ad P o) :: .int sp :: .ref (pm_ad P o0) :: st.map (pm_v P))) rfl (by rw [C.2.2.1]; exact hL.1) (rest := st.map (pm_v P)) rfl (by rw [C.2.1]; exact hd) hR.1 (by have := hR.2; show 2 * 0 + _ + _ ≤ _; omega)
  have e1 : copied (vp_cell (pm_cs P 0) (n0, .inl (I o0))) (vp_cell (pm_cs P 0) (n1, .inl (I o))) sp dp v = vp_cell (pm_cs P 0) (n1, .inl (va_cpy (I o0) (I o) sp.toNatClampNeg dp.toNatClampNeg v.toNatClampNeg)) := va_copied (fun z => .int z) (pm_cs P 0) (pm_cs P 0) (I o0) (I o) h4
  rw [e1] at X' step
  have hlt : pm_ad P o < H.size := (Array.getElem?_eq_some_iff.mp hc1).1
  have hheap : ((T.setVm vm').setCell (pm_ad P o) (vp_cell (pm_cs P 0) (n1, .inl (va_cpy (I o0) (I o) sp.toNatClampNeg dp.toNatClampNeg v.toNatClampNeg)))).heap = H.setIfInBounds (pm_ad P o) (vp_cell (pm_cs P 0) (n1, .inl (va_cpy (I o0) (I o) sp.toNatClampNeg dp.toNatClampNeg v.toNatClampNeg))) := by rw [← hT']; rfl
  have oq : ∀ q : Nat, q ≠ pm_ad P o → (H.setIfInBounds (pm_ad P o) (vp_cell (pm_cs P 0) (n1, .inl (va_cpy (I o0) (I o) sp.toNatClampNeg dp.toNatClampNeg v.toNatClampNeg))))[q]? = H[q]? := fun q hq => by simp [Array.getElem?_setIfInBounds, Ne.symm hq]
  have hv : va_at (pm_D P) vwCl (pm_ad P o, pm_c P (va_cpy (I o0) (I o) sp.toNatClampNeg dp.toNatClampNeg v.toNatClampNeg) (L o) (.inr (.inl (0, n1)))) (H.setIfInBounds (pm_ad P o) (vp_cell (pm_cs P 0) (n1, .inl (va_cpy (I o0) (I o) sp.toNatClampNeg dp.toNatClampNeg v.toNatClampNeg)))) := by
    show (H.setIfInBounds _ _)[_]? = some (vp_cell _ _)
    simp [Array.getElem?_setIfInBounds, hlt]
  have h8 := hH.set0 hg (va_cpy (I o0) (I o) sp.toNatClampNeg dp.toNatClampNeg v.toNatClampNeg) (L o) hv (by simp) oq
  rw [pm_uu] at h8
  obtain ⟨t, a1, b1⟩ := kk p e s m args below meth c _ _ a C hT hX h8 ⟨by simp; exact hS.1, fun q g1 g2 => by
      rw [oq q (fun e => g2 (by rw [e, hH.ad hg]; exact Nat.le_add_right _ _))]
      exact hS.2.1 q g1 g2, fun q hq => by
      rcases List.mem_append.mp hq with h | h
      · exact hS.2.2 q h
      · obtain ⟨z, -, hz⟩ := List.mem_map.mp h
        rw [← hz, hH.ad hg]
        exact Nat.le_add_right _ _⟩ hL _ hheap X'
  exact ⟨t, step t a1, b1⟩
theorem pm_copyl {o0 n0 n1 : Nat} {sp dp v : Int32} (hl : Cond.methodLink y.cls ix arraycopyName ∈ TB) (hnat : Cond.native arraycopyName ∈ TB) (hstat : Cond.static arraycopyName ∈ TB) (hini : Cond.initialized "java/lang/System" ∈ TB) (hg0 : G[o0]? = some (.inr (.inl (2, n0)))) (hg : G[o]? = some (.inr (.inl (2, n1)))) (h1 : ¬ sp < 0) (h2 : ¬ dp < 0) (h3 : ¬ v < 0) (h4 : sp.toNatClampNeg + v.toNatClampNeg ≤ n0) (h5 : dp.toNatClampNeg + v.toNatClampNeg ≤ n1) (hR : 1 ≤ R.frames ∧ 8 + (nativeFrameWords "java/lang/System" "arraycopy" 5 + 11) ≤ R.locals) (hcat : (st.map (·.category)).sum ≤ 8) (hd : decode cc pc = .ok (.invokestatic ix, 3))
    (kk : PW l P y cc nL ret R Tg k n (pc + 3) ls st G I (pm_u L o (va_cpy (L o0) (L o) sp.toNatClampNeg dp.toNatClampNeg v.toNatClampNeg))) : PW l P y cc nL ret R Tg k n pc ls (.int v :: .int dp :: .ref o :: .int sp :: .ref o0 :: st) G I L := by
  intro p e s m args below meth c H locs a C hT hX hH hS hL
  have hts := C.2.2.2.2.2.2.2
  have hcat2 := pm_sum13 P hcat
  have nn : ∀ z : Int32, ¬ z < 0 → z.toInt = (z.toNatClampNeg : Int) := by
    intro z hz
    have hz0 : (0 : Int) ≤ z.toInt := by
      have := Int32.not_lt.mp hz
      simpa using Int32.le_iff_toInt_le.mp this
    show z.toInt = ((z.toInt.toNat : Nat) : Int)
    omega
  intro T hT' X
  have hc0 : H[pm_ad P o0]? = some (vp_cell (pm_cs P 2) (n0, .inr (.inl (L o0)))) := hH.1 o0 _ (hH.at hg0)
  have hc1 : H[pm_ad P o]? = some (vp_cell (pm_cs P 2) (n1, .inr (.inl (L o)))) := hH.1 o _ (hH.at hg)
  obtain ⟨-, k0, hk0, cm0, hkk0⟩ := (hT.1.2 2 _ rfl).1 n0 (fun j => .long ((L o0) j))
  obtain ⟨-, k1, hk1, cm1, hkk1⟩ := (hT.1.2 2 _ rfl).1 n1 (fun j => .long ((L o) j))
  obtain ⟨vm', X', step⟩ := X.arraycopy C.1 C.2.2.2.1 (hts _ hl) (hts _ hnat) (hts _ hstat) (hts _ hini) (src := pm_ad P o0) (dst := pm_ad P o) (cs := vp_cell (pm_cs P 2) (n0, .inr (.inl (L o0)))) (cd := vp_cell (pm_cs P 2) (n1, .inr (.inl (L o)))) (srcPos := sp) (destPos := dp) (n := v) (by rw [hT']; exact hc0) (by rw [hT']; exact hc1)
    (fun _ h => by cases h) (fun _ h => by cases h) (fun h => by cases h) (fun h => by cases h) hk0 hk1 hkk0 hkk1 (by simp [refKind]) h1 h2 h3
    (by rw [nn sp h1, nn v h3]; show ¬ _ > ((arrV (pm_cs P 2) n0 (fun j => .long ((L o0) j))).slots.size : Int); rw [arrV_size]; omega)
    (by rw [nn dp h2, nn v h3]; show ¬ _ > ((arrV (pm_cs P 2) n1 (fun j => .long ((L o) j))).slots.size : Int); rw [arrV_size]; omega)
    (fun vm₁ _ i hi => by
      have e : (vp_cell (pm_cs P 2) (n0, .inr (.inl (L o0)))).slots.getD (sp.toNatClampNeg + i) .null = .long ((L o0) (sp.toNatClampNeg + i)) := by
        show (arrV (pm_cs P 2) n0 (fun j => .long ((L o0) j))).slots.getD _ _ = _
        rw [Array.getD_eq_getD_getElem?, arrV_read _ _ (by omega)]
        rfl
      refine ⟨?_, ?_⟩
      · rw [e]; rfl
      · rw [e]; exact trivial)
    (g := F0 m pc a (.int v :: .int dp :: .ref (pm_ad P o) :: .int sp :: .ref (pm_ad P o0) :: st.map (pm_v P))) rfl (by rw [C.2.2.1]; exact hL.1) (rest := st.map (pm_v P)) rfl (by rw [C.2.1]; exact hd) hR.1 (by have := hR.2; show 2 * 0 + _ + _ ≤ _; omega)
  have e1 : copied (vp_cell (pm_cs P 2) (n0, .inr (.inl (L o0)))) (vp_cell (pm_cs P 2) (n1, .inr (.inl (L o)))) sp dp v = vp_cell (pm_cs P 2) (n1, .inr (.inl (va_cpy (L o0) (L o) sp.toNatClampNeg dp.toNatClampNeg v.toNatClampNeg))) := va_copied (fun z => .long z) (pm_cs P 2) (pm_cs P 2) (L o0) (L o) h4
  rw [e1] at X' step
  have hlt : pm_ad P o < H.size := (Array.getElem?_eq_some_iff.mp hc1).1
  have hheap : ((T.setVm vm').setCell (pm_ad P o) (vp_cell (pm_cs P 2) (n1, .inr (.inl (va_cpy (L o0) (L o) sp.toNatClampNeg dp.toNatClampNeg v.toNatClampNeg))))).heap = H.setIfInBounds (pm_ad P o) (vp_cell (pm_cs P 2) (n1, .inr (.inl (va_cpy (L o0) (L o) sp.toNatClampNeg dp.toNatClampNeg v.toNatClampNeg)))) := by rw [← hT']; rfl
  have oq : ∀ q : Nat, q ≠ pm_ad P o → (H.setIfInBounds (pm_ad P o) (vp_cell (pm_cs P 2) (n1, .inr (.inl (va_cpy (L o0) (L o) sp.toNatClampNeg dp.toNatClampNeg v.toNatClampNeg)))))[q]? = H[q]? := fun q hq => by simp [Array.getElem?_setIfInBounds, Ne.symm hq]
  have hv : va_at (pm_D P) vwCl (pm_ad P o, pm_c P (I o) (va_cpy (L o0) (L o) sp.toNatClampNeg dp.toNatClampNeg v.toNatClampNeg) (.inr (.inl (2, n1)))) (H.setIfInBounds (pm_ad P o) (vp_cell (pm_cs P 2) (n1, .inr (.inl (va_cpy (L o0) (L o) sp.toNatClampNeg dp.toNatClampNeg v.toNatClampNeg))))) := by
    show (H.setIfInBounds _ _)[_]? = some (vp_cell _ _)
    simp [Array.getElem?_setIfInBounds, hlt]
  have h8 := hH.set0 hg (I o) (va_cpy (L o0) (L o) sp.toNatClampNeg dp.toNatClampNeg v.toNatClampNeg) hv (by simp) oq
  rw [pm_uu] at h8
  obtain ⟨t, a1, b1⟩ := kk p e s m args below meth c _ _ a C hT hX h8 ⟨by simp; exact hS.1, fun q g1 g2 => by
      rw [oq q (fun e => g2 (by rw [e, hH.ad hg]; exact Nat.le_add_right _ _))]
      exact hS.2.1 q g1 g2, fun q hq => by
      rcases List.mem_append.mp hq with h | h
      · exact hS.2.2 q h
      · obtain ⟨z, -, hz⟩ := List.mem_map.mp h
        rw [← hz, hH.ad hg]
        exact Nat.le_add_right _ _⟩ hL _ hheap X'
  exact ⟨t, step t a1, b1⟩
end PMC
end
section
theorem wc_L_7 : Cond.classLink "WormHeapLaw" 7 RX9 ∈ TB := tb1 21 (by decide +kernel) rfl
theorem wn_X9 : Cond.instantiable RX9 9 ∈ TB := tb1 22 (by decide +kernel) rfl
theorem wm_L_9 : Cond.methodLink "WormHeapLaw" 9 yX9_init ∈ TB := tb1 23 (by decide +kernel) rfl
theorem wm_X9_1 : Cond.methodLink RX9 1 objectInit ∈ TB := tb1 26 (by decide +kernel) rfl
theorem wc_X9_7 : Cond.classLink RX9 7 RX2 ∈ TB := tb1 29 (by decide +kernel) rfl
theorem wn_X2 : Cond.instantiable RX2 9 ∈ TB := tb1 30 (by decide +kernel) rfl
theorem wm_X9_9 : Cond.methodLink RX9 9 yX2_init ∈ TB := tb1 31 (by decide +kernel) rfl
theorem wm_X2_3 : Cond.methodLink RX2 3 objectInit ∈ TB := tb1 34 (by decide +kernel) rfl
theorem wm_X2_33 : Cond.methodLink RX2 33 yJ7_fill_53178 ∈ TB := tb1 35 (by decide +kernel) rfl
theorem wf_X2_9 : Cond.fieldLink RX2 9 (TX2 0).1 (TX2 0).2.1 (TX2 0).2.2.1 ∈ TB := tb1 38 (by decide +kernel) rfl
theorem wf_X2_15 : Cond.fieldLink RX2 15 (TX2 1).1 (TX2 1).2.1 (TX2 1).2.2.1 ∈ TB := tb1 39 (by decide +kernel) rfl
theorem wf_X2_18 : Cond.fieldLink RX2 18 (TX2 2).1 (TX2 2).2.1 (TX2 2).2.2.1 ∈ TB := tb1 40 (by decide +kernel) rfl
theorem wf_X2_21 : Cond.fieldLink RX2 21 (TX2 3).1 (TX2 3).2.1 (TX2 3).2.2.1 ∈ TB := tb1 41 (by decide +kernel) rfl
theorem wf_X2_24 : Cond.fieldLink RX2 24 (TX2 4).1 (TX2 4).2.1 (TX2 4).2.2.1 ∈ TB := tb1 42 (by decide +kernel) rfl
theorem wf_X2_27 : Cond.fieldLink RX2 27 (TX2 5).1 (TX2 5).2.1 (TX2 5).2.2.1 ∈ TB := tb1 43 (by decide +kernel) rfl
theorem wf_X2_30 : Cond.fieldLink RX2 30 (TX2 6).1 (TX2 6).2.1 (TX2 6).2.2.1 ∈ TB := tb1 44 (by decide +kernel) rfl
theorem wf_X2_39 : Cond.fieldLink RX2 39 (TX2 7).1 (TX2 7).2.1 (TX2 7).2.2.1 ∈ TB := tb1 45 (by decide +kernel) rfl
theorem wf_X2_43 : Cond.fieldLink RX2 43 (TX2 8).1 (TX2 8).2.1 (TX2 8).2.2.1 ∈ TB := tb1 46 (by decide +kernel) rfl
theorem wa_int : Cond.arrayClass .int ∈ TB := tb1 66 (by decide +kernel) rfl
theorem wc_X9_19 : Cond.classLink RX9 19 RX7 ∈ TB := tb1 67 (by decide +kernel) rfl
theorem wn_X7 : Cond.instantiable RX7 1 ∈ TB := tb1 68 (by decide +kernel) rfl
theorem wm_X7_3 : Cond.methodLink RX7 3 objectInit ∈ TB := tb1 72 (by decide +kernel) rfl
theorem wf_X7_11 : Cond.fieldLink RX7 11 (TX7 0).1 (TX7 0).2.1 (TX7 0).2.2.1 ∈ TB := tb1 73 (by decide +kernel) rfl
theorem wc_X9_26 : Cond.classLink RX9 26 RX8 ∈ TB := tb1 77 (by decide +kernel) rfl
theorem wn_X8 : Cond.instantiable RX8 2 ∈ TB := tb1 78 (by decide +kernel) rfl
theorem wm_X8_3 : Cond.methodLink RX8 3 objectInit ∈ TB := tb1 82 (by decide +kernel) rfl
theorem wf_X8_9 : Cond.fieldLink RX8 9 (TX8 0).1 (TX8 0).2.1 (TX8 0).2.2.1 ∈ TB := tb1 83 (by decide +kernel) rfl
theorem wf_X8_15 : Cond.fieldLink RX8 15 (TX8 1).1 (TX8 1).2.1 (TX8 1).2.2.1 ∈ TB := tb1 84 (by decide +kernel) rfl
theorem wc_X9_33 : Cond.classLink RX9 33 RX6 ∈ TB := tb1 90 (by decide +kernel) rfl
theorem wn_X6 : Cond.instantiable RX6 3 ∈ TB := tb1 91 (by decide +kernel) rfl
theorem wm_X6_3 : Cond.methodLink RX6 3 objectInit ∈ TB := tb1 95 (by decide +kernel) rfl
theorem wf_X6_11 : Cond.fieldLink RX6 11 (TX6 0).1 (TX6 0).2.1 (TX6 0).2.2.1 ∈ TB := tb1 96 (by decide +kernel) rfl
theorem wf_X6_23 : Cond.fieldLink RX6 23 (TX6 1).1 (TX6 1).2.1 (TX6 1).2.2.1 ∈ TB := tb1 97 (by decide +kernel) rfl
theorem wf_X6_29 : Cond.fieldLink RX6 29 (TX6 2).1 (TX6 2).2.1 (TX6 2).2.2.1 ∈ TB := tb1 98 (by decide +kernel) rfl
theorem wa_char : Cond.arrayClass .char ∈ TB := tb1 106 (by decide +kernel) rfl
theorem wc_X9_40 : Cond.classLink RX9 40 RX3 ∈ TB := tb1 107 (by decide +kernel) rfl
theorem wn_X3 : Cond.instantiable RX3 4 ∈ TB := tb1 108 (by decide +kernel) rfl
theorem wm_X3_3 : Cond.methodLink RX3 3 objectInit ∈ TB := tb1 112 (by decide +kernel) rfl
theorem wf_X3_9 : Cond.fieldLink RX3 9 (TX3 0).1 (TX3 0).2.1 (TX3 0).2.2.1 ∈ TB := tb1 113 (by decide +kernel) rfl
theorem wf_X3_15 : Cond.fieldLink RX3 15 (TX3 1).1 (TX3 1).2.1 (TX3 1).2.2.1 ∈ TB := tb1 114 (by decide +kernel) rfl
theorem wf_X3_18 : Cond.fieldLink RX3 18 (TX3 2).1 (TX3 2).2.1 (TX3 2).2.2.1 ∈ TB := tb1 115 (by decide +kernel) rfl
theorem wf_X3_21 : Cond.fieldLink RX3 21 (TX3 3).1 (TX3 3).2.1 (TX3 3).2.2.1 ∈ TB := tb1 116 (by decide +kernel) rfl
theorem wc_X9_47 : Cond.classLink RX9 47 RX4 ∈ TB := tb1 126 (by decide +kernel) rfl
theorem wn_X4 : Cond.instantiable RX4 1 ∈ TB := tb1 127 (by decide +kernel) rfl
theorem wm_X4_3 : Cond.methodLink RX4 3 objectInit ∈ TB := tb1 131 (by decide +kernel) rfl
theorem wf_X4_11 : Cond.fieldLink RX4 11 (TX4 0).1 (TX4 0).2.1 (TX4 0).2.2.1 ∈ TB := tb1 132 (by decide +kernel) rfl
theorem wc_X9_54 : Cond.classLink RX9 54 RX5 ∈ TB := tb1 136 (by decide +kernel) rfl
theorem wn_X5 : Cond.instantiable RX5 3 ∈ TB := tb1 138 (by decide +kernel) rfl
theorem wm_X5_3 : Cond.methodLink RX5 3 objectInit ∈ TB := tb1 142 (by decide +kernel) rfl
theorem wf_X5_9 : Cond.fieldLink RX5 9 (TX5 0).1 (TX5 0).2.1 (TX5 0).2.2.1 ∈ TB := tb1 143 (by decide +kernel) rfl
theorem wf_X5_19 : Cond.fieldLink RX5 19 (TX5 1).1 (TX5 1).2.1 (TX5 1).2.2.1 ∈ TB := tb1 144 (by decide +kernel) rfl
theorem wf_X5_15 : Cond.fieldLink RX5 15 (TX5 2).1 (TX5 2).2.1 (TX5 2).2.2.1 ∈ TB := tb1 145 (by decide +kernel) rfl
theorem wa_long : Cond.arrayClass .long ∈ TB := tb1 153 (by decide +kernel) rfl
theorem wf_X9_10 : Cond.fieldLink RX9 10 (TX9 0).1 (TX9 0).2.1 (TX9 0).2.2.1 ∈ TB := tb1 154 (by decide +kernel) rfl
theorem wf_X9_16 : Cond.fieldLink RX9 16 (TX9 1).1 (TX9 1).2.1 (TX9 1).2.2.1 ∈ TB := tb1 155 (by decide +kernel) rfl
theorem wf_X9_200 : Cond.fieldLink RX9 200 (TX9 2).1 (TX9 2).2.1 (TX9 2).2.2.1 ∈ TB := tb1 156 (by decide +kernel) rfl
theorem wf_X9_22 : Cond.fieldLink RX9 22 (TX9 3).1 (TX9 3).2.1 (TX9 3).2.2.1 ∈ TB := tb1 157 (by decide +kernel) rfl
theorem wf_X9_29 : Cond.fieldLink RX9 29 (TX9 4).1 (TX9 4).2.1 (TX9 4).2.2.1 ∈ TB := tb1 158 (by decide +kernel) rfl
theorem wf_X9_36 : Cond.fieldLink RX9 36 (TX9 5).1 (TX9 5).2.1 (TX9 5).2.2.1 ∈ TB := tb1 159 (by decide +kernel) rfl
theorem wf_X9_43 : Cond.fieldLink RX9 43 (TX9 6).1 (TX9 6).2.1 (TX9 6).2.2.1 ∈ TB := tb1 160 (by decide +kernel) rfl
theorem wf_X9_50 : Cond.fieldLink RX9 50 (TX9 7).1 (TX9 7).2.1 (TX9 7).2.2.1 ∈ TB := tb1 161 (by decide +kernel) rfl
theorem wf_X9_56 : Cond.fieldLink RX9 56 (TX9 8).1 (TX9 8).2.1 (TX9 8).2.2.1 ∈ TB := tb1 162 (by decide +kernel) rfl
theorem wm_L_13 : Cond.methodLink "WormHeapLaw" 13 yX9_piece ∈ TB := tb1 182 (by decide +kernel) rfl
theorem wm_X9_61 : Cond.methodLink RX9 61 yX9_isIn ∈ TB := tb1 186 (by decide +kernel) rfl
theorem wm_X9_65 : Cond.methodLink RX9 65 yX9_isTown ∈ TB := tb1 189 (by decide +kernel) rfl
theorem wm_X9_69 : Cond.methodLink RX9 69 yX2_add ∈ TB := tb1 192 (by decide +kernel) rfl
theorem wm_X2_84 : Cond.methodLink RX2 84 yX2_put ∈ TB := tb1 196 (by decide +kernel) rfl
theorem wm_X2_46 : Cond.methodLink RX2 46 yX2_isPiece ∈ TB := tb1 200 (by decide +kernel) rfl
theorem wm_L_18 : Cond.methodLink "WormHeapLaw" 18 yX9_told ∈ TB := tb1 207 (by decide +kernel) rfl
theorem wm_X9_73 : Cond.methodLink RX9 73 yX2_isPiece ∈ TB := tb1 211 (by decide +kernel) rfl
theorem wm_X9_76 : Cond.methodLink RX9 76 yX2_kindOf ∈ TB := tb1 212 (by decide +kernel) rfl
theorem wm_X9_80 : Cond.methodLink RX9 80 yX2_weighs ∈ TB := tb1 216 (by decide +kernel) rfl
theorem wm_X9_83 : Cond.methodLink RX9 83 yX2_ownerOf ∈ TB := tb1 220 (by decide +kernel) rfl
theorem wm_X9_86 : Cond.methodLink RX9 86 yX2_placeOf ∈ TB := tb1 224 (by decide +kernel) rfl
theorem wm_X9_89 : Cond.methodLink RX9 89 yX2_offOf ∈ TB := tb1 228 (by decide +kernel) rfl
theorem wm_X2_50 : Cond.methodLink RX2 50 yX2_placeOf ∈ TB := tb1 232 (by decide +kernel) rfl
theorem wm_X2_54 : Cond.methodLink RX2 54 yX2_topOf ∈ TB := tb1 233 (by decide +kernel) rfl
theorem wm_L_23 : Cond.methodLink "WormHeapLaw" 23 yX9_of ∈ TB := tb1 237 (by decide +kernel) rfl
theorem wm_X9_92 : Cond.methodLink RX9 92 yX9_isPlace ∈ TB := tb2 1 (by decide +kernel) rfl
theorem wm_X9_95 : Cond.methodLink RX9 95 yX2_loadIn ∈ TB := tb2 2 (by decide +kernel) rfl
theorem wm_X2_60 : Cond.methodLink RX2 60 yX2_weighs ∈ TB := tb2 6 (by decide +kernel) rfl
theorem wm_X9_98 : Cond.methodLink RX9 98 yX2_piecesIn ∈ TB := tb2 7 (by decide +kernel) rfl
theorem wm_X2_69 : Cond.methodLink RX2 69 yX2_setIn ∈ TB := tb2 11 (by decide +kernel) rfl
theorem wm_X2_72 : Cond.methodLink RX2 72 yJ6_bitCount_0f7a4 ∈ TB := tb2 15 (by decide +kernel) rfl
theorem wk_J6_265 : Cond.constant RJ6 265 (1431655765) ∈ TB := tb2 18 (by decide +kernel) rfl
theorem wk_J6_266 : Cond.constant RJ6 266 (858993459) ∈ TB := tb2 19 (by decide +kernel) rfl
theorem wk_J6_267 : Cond.constant RJ6 267 (252645135) ∈ TB := tb2 20 (by decide +kernel) rfl
theorem wm_X9_101 : Cond.methodLink RX9 101 yX2_senseOf ∈ TB := tb2 21 (by decide +kernel) rfl
theorem wm_X9_104 : Cond.methodLink RX9 104 yX2_topOf ∈ TB := tb2 25 (by decide +kernel) rfl
theorem wm_L_27 : Cond.methodLink "WormHeapLaw" 27 yX9_sense ∈ TB := tb2 26 (by decide +kernel) rfl
theorem wm_X9_107 : Cond.methodLink RX9 107 yX2_becomeFine ∈ TB := tb2 30 (by decide +kernel) rfl
theorem wm_L_33 : Cond.methodLink "WormHeapLaw" 33 yX9_type ∈ TB := tb2 34 (by decide +kernel) rfl
theorem wm_X9_111 : Cond.methodLink RX9 111 yX6_append ∈ TB := tb2 38 (by decide +kernel) rfl
theorem wm_X6_19 : Cond.methodLink RX6 19 yX6_byteOf ∈ TB := tb2 43 (by decide +kernel) rfl
theorem wk_X6_27 : Cond.constantLong RX6 27 (255) ∈ TB := tb2 46 (by decide +kernel) rfl
theorem wm_L_38 : Cond.methodLink "WormHeapLaw" 38 yX9_heap ∈ TB := tb2 47 (by decide +kernel) rfl
theorem wm_X9_115 : Cond.methodLink RX9 115 yX3_read ∈ TB := tb2 51 (by decide +kernel) rfl
theorem wm_X3_26 : Cond.methodLink RX3 26 yX6_choice ∈ TB := tb2 56 (by decide +kernel) rfl
theorem wm_X6_35 : Cond.methodLink RX6 35 yJ0_length_8abf5 ∈ TB := tb2 60 (by decide +kernel) rfl
theorem wm_J0_335 : Cond.methodLink RJ0 335 yJ0_coder_7d493 ∈ TB := tb2 64 (by decide +kernel) rfl
theorem wm_X6_40 : Cond.methodLink RX6 40 yX6_choice_ ∈ TB := tb2 70 (by decide +kernel) rfl
theorem wm_X6_32 : Cond.methodLink RX6 32 yX6_skipBlanks ∈ TB := tb2 74 (by decide +kernel) rfl
theorem wm_X6_44 : Cond.methodLink RX6 44 yJ0_indexOf_0f7a4 ∈ TB := tb2 78 (by decide +kernel) rfl
theorem wm_J0_633 : Cond.methodLink RJ0 633 yJ0_indexOf_7cf53 ∈ TB := tb2 82 (by decide +kernel) rfl
theorem wm_J0_492 : Cond.methodLink RJ0 492 yJ0_isLatin1_aae02 ∈ TB := tb2 86 (by decide +kernel) rfl
theorem wm_J0_505 : Cond.methodLink RJ0 505 yJ0_length_8abf5 ∈ TB := tb2 90 (by decide +kernel) rfl
theorem wm_J0_637 : Cond.methodLink RJ0 637 yJ1_indexOf_4cfef ∈ TB := tb2 91 (by decide +kernel) rfl
theorem wm_J1_88 : Cond.methodLink RJ1 88 yJ1_canEncode_9a6ad ∈ TB := tb2 94 (by decide +kernel) rfl
theorem wm_J1_92 : Cond.methodLink RJ1 92 Lib.Math.max.name ∈ TB := tb2 97 (by decide +kernel) rfl
theorem wm_J1_38 : Cond.methodLink RJ1 38 Lib.Math.min.name ∈ TB := tb2 100 (by decide +kernel) rfl
theorem wm_J1_95 : Cond.methodLink RJ1 95 yJ1_indexOfChar_4cfef ∈ TB := tb2 103 (by decide +kernel) rfl
theorem wm_J0_640 : Cond.methodLink RJ0 640 yJ2_indexOf_4cfef ∈ TB := tb2 106 (by decide +kernel) rfl
theorem wk_J2_227 : Cond.constant RJ2 227 (65536) ∈ TB := tb2 111 (by decide +kernel) rfl
theorem wm_J0_1062 : Cond.methodLink RJ0 1062 yJ3_checkFromToIndex_8c36e ∈ TB := tb2 126 (by decide +kernel) rfl
theorem wk_J11_110 : Cond.constant RJ11 110 (55232) ∈ TB := tb2 150 (by decide +kernel) rfl
theorem wk_J11_76 : Cond.constant RJ11 76 (56320) ∈ TB := tb2 154 (by decide +kernel) rfl
theorem wm_X3_32 : Cond.methodLink RX3 32 yX3_readPiece ∈ TB := tb2 155 (by decide +kernel) rfl
theorem wm_X3_46 : Cond.methodLink RX3 46 yX6_number ∈ TB := tb2 160 (by decide +kernel) rfl
theorem wm_X6_48 : Cond.methodLink RX6 48 Lib.Math.min.name ∈ TB := tb2 164 (by decide +kernel) rfl
theorem wm_X3_36 : Cond.methodLink RX3 36 yX6_fault ∈ TB := tb2 169 (by decide +kernel) rfl
theorem wm_X3_40 : Cond.methodLink RX3 40 yX6_isAtEnd ∈ TB := tb2 173 (by decide +kernel) rfl
theorem wm_X9_119 : Cond.methodLink RX9 119 yX6_empty ∈ TB := tb2 177 (by decide +kernel) rfl
theorem wm_X9_122 : Cond.methodLink RX9 122 yX3_layOut ∈ TB := tb2 181 (by decide +kernel) rfl
theorem wm_X3_57 : Cond.methodLink RX3 57 yX2_clearPieces ∈ TB := tb2 185 (by decide +kernel) rfl
theorem wm_X3_62 : Cond.methodLink RX3 62 yX2_add ∈ TB := tb2 189 (by decide +kernel) rfl
theorem wa_byte : Cond.arrayClass .byte ∈ TB := tb2 190 (by decide +kernel) rfl
theorem wm_L_43 : Cond.methodLink "WormHeapLaw" 43 yX9_night ∈ TB := tb2 191 (by decide +kernel) rfl
theorem wm_X9_126 : Cond.methodLink RX9 126 yX2_pieces ∈ TB := tb2 195 (by decide +kernel) rfl
theorem wm_X9_130 : Cond.methodLink RX9 130 yX4_read ∈ TB := tb2 199 (by decide +kernel) rfl
theorem wm_X4_19 : Cond.methodLink RX4 19 yX6_choice ∈ TB := tb2 204 (by decide +kernel) rfl
theorem wm_X4_23 : Cond.methodLink RX4 23 yX4_readAct ∈ TB := tb2 205 (by decide +kernel) rfl
theorem wm_X4_41 : Cond.methodLink RX4 41 yX6_choice_ ∈ TB := tb2 210 (by decide +kernel) rfl
theorem wm_X4_48 : Cond.methodLink RX4 48 yX0_code ∈ TB := tb2 213 (by decide +kernel) rfl
theorem wm_X4_27 : Cond.methodLink RX4 27 yX6_fault ∈ TB := tb2 217 (by decide +kernel) rfl
theorem wm_X4_31 : Cond.methodLink RX4 31 yX6_isAtEnd ∈ TB := tb2 218 (by decide +kernel) rfl
theorem wm_X9_133 : Cond.methodLink RX9 133 yX4_act ∈ TB := tb2 219 (by decide +kernel) rfl
theorem wm_X4_54 : Cond.methodLink RX4 54 yX2_tryAct ∈ TB := tb2 223 (by decide +kernel) rfl
theorem wm_X2_97 : Cond.methodLink RX2 97 yX2_canBe ∈ TB := tb2 227 (by decide +kernel) rfl
theorem wm_X2_110 : Cond.methodLink RX2 110 yX0_how ∈ TB := tb2 231 (by decide +kernel) rfl
theorem wm_X2_115 : Cond.methodLink RX2 115 yX0_where ∈ TB := tb2 234 (by decide +kernel) rfl
theorem wm_X2_118 : Cond.methodLink RX2 118 yX0_other ∈ TB := tb2 237 (by decide +kernel) rfl
theorem wm_X2_100 : Cond.methodLink RX2 100 yX2_isFelt ∈ TB := tb3 0 (by decide +kernel) rfl
theorem wm_X2_121 : Cond.methodLink RX2 121 yX2_isAboveSense ∈ TB := tb3 4 (by decide +kernel) rfl
theorem wm_X2_124 : Cond.methodLink RX2 124 Lib.Math.abs.name ∈ TB := tb3 8 (by decide +kernel) rfl
theorem wm_X2_129 : Cond.methodLink RX2 129 yX2_senseOf ∈ TB := tb3 11 (by decide +kernel) rfl
theorem wm_X2_103 : Cond.methodLink RX2 103 yX2_eat ∈ TB := tb3 12 (by decide +kernel) rfl
theorem wm_X2_135 : Cond.methodLink RX2 135 yX2_kindOf ∈ TB := tb3 16 (by decide +kernel) rfl
theorem wm_X2_106 : Cond.methodLink RX2 106 yX2_doAct ∈ TB := tb3 17 (by decide +kernel) rfl
theorem wm_X2_132 : Cond.methodLink RX2 132 yX2_take ∈ TB := tb3 21 (by decide +kernel) rfl
theorem wm_L_47 : Cond.methodLink "WormHeapLaw" 47 yX9_count ∈ TB := tb3 25 (by decide +kernel) rfl
theorem wm_X9_137 : Cond.methodLink RX9 137 yX2_timesAwake ∈ TB := tb3 29 (by decide +kernel) rfl
theorem wm_X9_140 : Cond.methodLink RX9 140 yX2_loadInPlaces ∈ TB := tb3 33 (by decide +kernel) rfl
theorem wm_X2_63 : Cond.methodLink RX2 63 yX2_loadIn ∈ TB := tb3 37 (by decide +kernel) rfl
theorem wm_L_52 : Cond.methodLink "WormHeapLaw" 52 yX9_lift ∈ TB := tb3 38 (by decide +kernel) rfl
theorem wm_X9_145 : Cond.methodLink RX9 145 yX0_code ∈ TB := tb3 42 (by decide +kernel) rfl
theorem wm_X9_149 : Cond.methodLink RX9 149 yX2_tryAct ∈ TB := tb3 43 (by decide +kernel) rfl
theorem wm_L_56 : Cond.methodLink "WormHeapLaw" 56 yX9_lay ∈ TB := tb3 44 (by decide +kernel) rfl
theorem wm_L_60 : Cond.methodLink "WormHeapLaw" 60 yX9_swap ∈ TB := tb3 48 (by decide +kernel) rfl
theorem wm_L_64 : Cond.methodLink "WormHeapLaw" 64 yX9_push ∈ TB := tb3 52 (by decide +kernel) rfl
theorem wm_L_68 : Cond.methodLink "WormHeapLaw" 68 yX9_turn ∈ TB := tb3 56 (by decide +kernel) rfl
theorem wm_X9_152 : Cond.methodLink RX9 152 yX2_turnOver ∈ TB := tb3 60 (by decide +kernel) rfl
theorem wm_X2_94 : Cond.methodLink RX2 94 yX2_turned ∈ TB := tb3 64 (by decide +kernel) rfl
theorem wm_X9_155 : Cond.methodLink RX9 155 yX2_piecesInPlaces ∈ TB := tb3 68 (by decide +kernel) rfl
theorem wm_X2_77 : Cond.methodLink RX2 77 yX2_piecesIn ∈ TB := tb3 72 (by decide +kernel) rfl
theorem wm_L_72 : Cond.methodLink "WormHeapLaw" 72 yX9_had ∈ TB := tb3 73 (by decide +kernel) rfl
theorem wm_X9_158 : Cond.methodLink RX9 158 yX7_fewestActs ∈ TB := tb3 77 (by decide +kernel) rfl
theorem wm_X7_15 : Cond.methodLink RX7 15 yX2_placeOf ∈ TB := tb3 81 (by decide +kernel) rfl
theorem wm_X7_21 : Cond.methodLink RX7 21 yX7_search ∈ TB := tb3 82 (by decide +kernel) rfl
theorem wm_X7_25 : Cond.methodLink RX7 25 yX2_offOf ∈ TB := tb3 85 (by decide +kernel) rfl
theorem wm_X7_30 : Cond.methodLink RX7 30 yX7_canHelp ∈ TB := tb3 86 (by decide +kernel) rfl
theorem wm_X7_34 : Cond.methodLink RX7 34 yX7_othersOf ∈ TB := tb3 89 (by decide +kernel) rfl
theorem wm_X7_45 : Cond.methodLink RX7 45 yX2_pieces ∈ TB := tb3 92 (by decide +kernel) rfl
theorem wm_X7_38 : Cond.methodLink RX7 38 yX0_code ∈ TB := tb3 93 (by decide +kernel) rfl
theorem wm_X7_42 : Cond.methodLink RX7 42 yX7_leads ∈ TB := tb3 94 (by decide +kernel) rfl
theorem wm_X7_49 : Cond.methodLink RX7 49 yX2_canBe ∈ TB := tb3 97 (by decide +kernel) rfl
theorem wm_X7_53 : Cond.methodLink RX7 53 yX2_isFelt ∈ TB := tb3 98 (by decide +kernel) rfl
theorem wm_X7_56 : Cond.methodLink RX7 56 yX0_where ∈ TB := tb3 99 (by decide +kernel) rfl
theorem wm_X7_59 : Cond.methodLink RX7 59 yX2_topOf ∈ TB := tb3 100 (by decide +kernel) rfl
theorem wm_X7_62 : Cond.methodLink RX7 62 yX2_doAct ∈ TB := tb3 101 (by decide +kernel) rfl
theorem wm_X7_66 : Cond.methodLink RX7 66 yX0_back ∈ TB := tb3 102 (by decide +kernel) rfl
theorem wm_X0_7 : Cond.methodLink RX0 7 yX0_where ∈ TB := tb3 105 (by decide +kernel) rfl
theorem wm_X0_13 : Cond.methodLink RX0 13 yX0_how ∈ TB := tb3 106 (by decide +kernel) rfl
theorem wm_X0_16 : Cond.methodLink RX0 16 yX0_code ∈ TB := tb3 107 (by decide +kernel) rfl
theorem wm_X0_20 : Cond.methodLink RX0 20 yX0_other ∈ TB := tb3 108 (by decide +kernel) rfl
theorem wm_X9_161 : Cond.methodLink RX9 161 yX7_codeAt ∈ TB := tb3 109 (by decide +kernel) rfl
theorem wm_L_76 : Cond.methodLink "WormHeapLaw" 76 yX9_under ∈ TB := tb3 113 (by decide +kernel) rfl
theorem wm_X9_164 : Cond.methodLink RX9 164 yX8_pairsUnder ∈ TB := tb3 117 (by decide +kernel) rfl
theorem wm_X8_18 : Cond.methodLink RX8 18 yX2_topOf ∈ TB := tb3 120 (by decide +kernel) rfl
theorem wm_X8_24 : Cond.methodLink RX8 24 yX2_isPiece ∈ TB := tb3 121 (by decide +kernel) rfl
theorem wm_X8_28 : Cond.methodLink RX8 28 yX2_ownerOf ∈ TB := tb3 122 (by decide +kernel) rfl
theorem wm_X8_31 : Cond.methodLink RX8 31 yX2_belowOf ∈ TB := tb3 123 (by decide +kernel) rfl
theorem wm_L_80 : Cond.methodLink "WormHeapLaw" 80 yX9_own ∈ TB := tb3 127 (by decide +kernel) rfl
theorem wm_X9_167 : Cond.methodLink RX9 167 yX8_fewestAstray ∈ TB := tb3 131 (by decide +kernel) rfl
theorem wm_X8_34 : Cond.methodLink RX8 34 yJ7_fill_53178 ∈ TB := tb3 135 (by decide +kernel) rfl
theorem wm_X8_40 : Cond.methodLink RX8 40 yX8_give ∈ TB := tb3 136 (by decide +kernel) rfl
theorem wm_X8_54 : Cond.methodLink RX8 54 yX8_astrayIn ∈ TB := tb3 140 (by decide +kernel) rfl
theorem wm_X8_64 : Cond.methodLink RX8 64 yX2_pieces ∈ TB := tb3 143 (by decide +kernel) rfl
theorem wm_X8_68 : Cond.methodLink RX8 68 yX2_placeOf ∈ TB := tb3 144 (by decide +kernel) rfl
theorem wm_X8_48 : Cond.methodLink RX8 48 Lib.Math.min.name ∈ TB := tb3 145 (by decide +kernel) rfl
theorem wm_X8_58 : Cond.methodLink RX8 58 arraycopyName ∈ TB := tb3 146 (by decide +kernel) rfl
theorem wm_X8_44 : Cond.methodLink RX8 44 yX8_townsInPlaces ∈ TB := tb3 149 (by decide +kernel) rfl
theorem wm_L_84 : Cond.methodLink "WormHeapLaw" 84 yX9_odds ∈ TB := tb3 153 (by decide +kernel) rfl
theorem wm_X9_171 : Cond.methodLink RX9 171 yX9_isPart ∈ TB := tb3 157 (by decide +kernel) rfl
theorem wm_X9_174 : Cond.methodLink RX9 174 yX2_isAboveSense ∈ TB := tb3 160 (by decide +kernel) rfl
theorem wm_X9_178 : Cond.methodLink RX9 178 yX9_power ∈ TB := tb3 161 (by decide +kernel) rfl
theorem wm_X9_182 : Cond.methodLink RX9 182 yX9_partOf ∈ TB := tb3 164 (by decide +kernel) rfl
theorem wm_X9_265 : Cond.methodLink RX9 265 yX9_commonDivisor ∈ TB := tb3 167 (by decide +kernel) rfl
theorem wm_L_89 : Cond.methodLink "WormHeapLaw" 89 yX9_share ∈ TB := tb3 170 (by decide +kernel) rfl
theorem wm_X9_185 : Cond.methodLink RX9 185 yX9_holds ∈ TB := tb3 174 (by decide +kernel) rfl
theorem wm_X9_188 : Cond.methodLink RX9 188 yX2_loadInBagOf ∈ TB := tb3 177 (by decide +kernel) rfl
theorem wm_X2_66 : Cond.methodLink RX2 66 yX2_ownerOf ∈ TB := tb3 181 (by decide +kernel) rfl
theorem wm_X9_191 : Cond.methodLink RX9 191 yJ6_bitCount_0f7a4 ∈ TB := tb3 182 (by decide +kernel) rfl
theorem wm_L_94 : Cond.methodLink "WormHeapLaw" 94 yX9_image ∈ TB := tb3 183 (by decide +kernel) rfl
theorem wm_X9_196 : Cond.methodLink RX9 196 yX2_becomeLike ∈ TB := tb3 187 (by decide +kernel) rfl
theorem wm_X2_88 : Cond.methodLink RX2 88 arraycopyName ∈ TB := tb3 191 (by decide +kernel) rfl
theorem wm_L_98 : Cond.methodLink "WormHeapLaw" 98 yX9_restore ∈ TB := tb3 192 (by decide +kernel) rfl
theorem wm_L_102 : Cond.methodLink "WormHeapLaw" 102 yX9_dents ∈ TB := tb3 196 (by decide +kernel) rfl
theorem wm_X9_204 : Cond.methodLink RX9 204 yX9_sheetAt ∈ TB := tb3 200 (by decide +kernel) rfl
theorem wm_X9_208 : Cond.methodLink RX9 208 yX9_isLane ∈ TB := tb3 204 (by decide +kernel) rfl
theorem wm_X9_211 : Cond.methodLink RX9 211 yX5_refusal ∈ TB := tb3 207 (by decide +kernel) rfl
theorem wm_X5_22 : Cond.methodLink RX5 22 yX5_holdsRow ∈ TB := tb3 211 (by decide +kernel) rfl
theorem wm_X5_26 : Cond.methodLink RX5 26 yX5_hasItems ∈ TB := tb3 215 (by decide +kernel) rfl
theorem wm_X9_214 : Cond.methodLink RX9 214 yX5_itemAt ∈ TB := tb3 219 (by decide +kernel) rfl
theorem wm_X9_218 : Cond.methodLink RX9 218 yX1_setsBy ∈ TB := tb3 223 (by decide +kernel) rfl
theorem wm_X1_7 : Cond.methodLink RX1 7 yX2_setIn ∈ TB := tb3 226 (by decide +kernel) rfl
theorem wm_X1_13 : Cond.methodLink RX1 13 yJ6_bitCount_0f7a4 ∈ TB := tb3 227 (by decide +kernel) rfl
theorem wm_X1_18 : Cond.methodLink RX1 18 yX2_weighsSet ∈ TB := tb3 228 (by decide +kernel) rfl
theorem wm_X1_21 : Cond.methodLink RX1 21 yX1_nextSubset ∈ TB := tb3 233 (by decide +kernel) rfl
theorem wm_X9_224 : Cond.methodLink RX9 224 yX1_leastBy ∈ TB := tb3 236 (by decide +kernel) rfl
theorem wm_L_106 : Cond.methodLink "WormHeapLaw" 106 yX9_tried ∈ TB := tb3 239 (by decide +kernel) rfl
theorem wk_X9_227 : Cond.constantLong RX9 227 (99) ∈ TB := tb4 3 (by decide +kernel) rfl
theorem wm_X9_229 : Cond.methodLink RX9 229 Lib.Math.min.name ∈ TB := tb4 4 (by decide +kernel) rfl
theorem wm_X9_234 : Cond.methodLink RX9 234 Lib.Math.max.name ∈ TB := tb4 5 (by decide +kernel) rfl
theorem wm_X9_237 : Cond.methodLink RX9 237 yX9_amongSenses ∈ TB := tb4 6 (by decide +kernel) rfl
theorem wm_L_110 : Cond.methodLink "WormHeapLaw" 110 yX9_film ∈ TB := tb4 9 (by decide +kernel) rfl
theorem wm_X9_240 : Cond.methodLink RX9 240 yX5_becomeAt ∈ TB := tb4 13 (by decide +kernel) rfl
theorem wm_L_114 : Cond.methodLink "WormHeapLaw" 114 yX9_sheet ∈ TB := tb4 17 (by decide +kernel) rfl
theorem wm_X9_244 : Cond.methodLink RX9 244 yX5_renew ∈ TB := tb4 21 (by decide +kernel) rfl
theorem wm_X5_30 : Cond.methodLink RX5 30 Lib.Math.min.name ∈ TB := tb4 25 (by decide +kernel) rfl
theorem wm_X5_36 : Cond.methodLink RX5 36 yJ7_fill_d0a16 ∈ TB := tb4 26 (by decide +kernel) rfl
theorem wm_L_118 : Cond.methodLink "WormHeapLaw" 118 yX9_drop ∈ TB := tb4 29 (by decide +kernel) rfl
theorem wm_X9_247 : Cond.methodLink RX9 247 yX5_holdsRow ∈ TB := tb4 33 (by decide +kernel) rfl
theorem wm_X9_251 : Cond.methodLink RX9 251 yX5_clear ∈ TB := tb4 34 (by decide +kernel) rfl
theorem wm_L_122 : Cond.methodLink "WormHeapLaw" 122 yX9_item ∈ TB := tb4 38 (by decide +kernel) rfl
theorem wm_L_127 : Cond.methodLink "WormHeapLaw" 127 yX9_copy ∈ TB := tb4 42 (by decide +kernel) rfl
theorem wm_X9_254 : Cond.methodLink RX9 254 yX5_isOfLane ∈ TB := tb4 46 (by decide +kernel) rfl
theorem wm_X9_258 : Cond.methodLink RX9 258 yX5_hasItems ∈ TB := tb4 50 (by decide +kernel) rfl
theorem wm_X9_261 : Cond.methodLink RX9 261 yX5_takeItems ∈ TB := tb4 51 (by decide +kernel) rfl
theorem wm_X5_42 : Cond.methodLink RX5 42 arraycopyName ∈ TB := tb4 55 (by decide +kernel) rfl
theorem wc_L_10 : Cond.classLink "WormHeapLaw" 10 RX10 ∈ TB := tb4 56 (by decide +kernel) rfl
theorem wn_X10 : Cond.instantiable RX10 34 ∈ TB := tb4 57 (by decide +kernel) rfl
theorem wm_L_12 : Cond.methodLink "WormHeapLaw" 12 yX10_init ∈ TB := tb4 58 (by decide +kernel) rfl
theorem wm_X10_1 : Cond.methodLink RX10 1 objectInit ∈ TB := tb4 61 (by decide +kernel) rfl
theorem wf_X10_83 : Cond.fieldLink RX10 83 (TX10 0).1 (TX10 0).2.1 (TX10 0).2.2.1 ∈ TB := tb4 62 (by decide +kernel) rfl
theorem wf_X10_7 : Cond.fieldLink RX10 7 (TX10 1).1 (TX10 1).2.1 (TX10 1).2.2.1 ∈ TB := tb4 63 (by decide +kernel) rfl
theorem wf_X10_13 : Cond.fieldLink RX10 13 (TX10 2).1 (TX10 2).2.1 (TX10 2).2.2.1 ∈ TB := tb4 64 (by decide +kernel) rfl
theorem wf_X10_16 : Cond.fieldLink RX10 16 (TX10 3).1 (TX10 3).2.1 (TX10 3).2.2.1 ∈ TB := tb4 65 (by decide +kernel) rfl
theorem wf_X10_19 : Cond.fieldLink RX10 19 (TX10 4).1 (TX10 4).2.1 (TX10 4).2.2.1 ∈ TB := tb4 66 (by decide +kernel) rfl
theorem wf_X10_22 : Cond.fieldLink RX10 22 (TX10 5).1 (TX10 5).2.1 (TX10 5).2.2.1 ∈ TB := tb4 67 (by decide +kernel) rfl
theorem wf_X10_25 : Cond.fieldLink RX10 25 (TX10 6).1 (TX10 6).2.1 (TX10 6).2.2.1 ∈ TB := tb4 68 (by decide +kernel) rfl
theorem wf_X10_28 : Cond.fieldLink RX10 28 (TX10 7).1 (TX10 7).2.1 (TX10 7).2.2.1 ∈ TB := tb4 69 (by decide +kernel) rfl
theorem wf_X10_133 : Cond.fieldLink RX10 133 (TX10 8).1 (TX10 8).2.1 (TX10 8).2.2.1 ∈ TB := tb4 70 (by decide +kernel) rfl
theorem wf_X10_31 : Cond.fieldLink RX10 31 (TX10 9).1 (TX10 9).2.1 (TX10 9).2.2.1 ∈ TB := tb4 71 (by decide +kernel) rfl
theorem wf_X10_151 : Cond.fieldLink RX10 151 (TX10 10).1 (TX10 10).2.1 (TX10 10).2.2.1 ∈ TB := tb4 72 (by decide +kernel) rfl
theorem wf_X10_154 : Cond.fieldLink RX10 154 (TX10 11).1 (TX10 11).2.1 (TX10 11).2.2.1 ∈ TB := tb4 73 (by decide +kernel) rfl
theorem wf_X10_157 : Cond.fieldLink RX10 157 (TX10 12).1 (TX10 12).2.1 (TX10 12).2.2.1 ∈ TB := tb4 74 (by decide +kernel) rfl
theorem wf_X10_171 : Cond.fieldLink RX10 171 (TX10 13).1 (TX10 13).2.1 (TX10 13).2.2.1 ∈ TB := tb4 75 (by decide +kernel) rfl
theorem wf_X10_34 : Cond.fieldLink RX10 34 (TX10 14).1 (TX10 14).2.1 (TX10 14).2.2.1 ∈ TB := tb4 76 (by decide +kernel) rfl
theorem wf_X10_37 : Cond.fieldLink RX10 37 (TX10 15).1 (TX10 15).2.1 (TX10 15).2.2.1 ∈ TB := tb4 77 (by decide +kernel) rfl
theorem wf_X10_40 : Cond.fieldLink RX10 40 (TX10 16).1 (TX10 16).2.1 (TX10 16).2.2.1 ∈ TB := tb4 78 (by decide +kernel) rfl
theorem wf_X10_43 : Cond.fieldLink RX10 43 (TX10 17).1 (TX10 17).2.1 (TX10 17).2.2.1 ∈ TB := tb4 79 (by decide +kernel) rfl
theorem wf_X10_190 : Cond.fieldLink RX10 190 (TX10 18).1 (TX10 18).2.1 (TX10 18).2.2.1 ∈ TB := tb4 80 (by decide +kernel) rfl
theorem wf_X10_46 : Cond.fieldLink RX10 46 (TX10 19).1 (TX10 19).2.1 (TX10 19).2.2.1 ∈ TB := tb4 81 (by decide +kernel) rfl
theorem wf_X10_49 : Cond.fieldLink RX10 49 (TX10 20).1 (TX10 20).2.1 (TX10 20).2.2.1 ∈ TB := tb4 82 (by decide +kernel) rfl
theorem wf_X10_52 : Cond.fieldLink RX10 52 (TX10 21).1 (TX10 21).2.1 (TX10 21).2.2.1 ∈ TB := tb4 83 (by decide +kernel) rfl
theorem wf_X10_55 : Cond.fieldLink RX10 55 (TX10 22).1 (TX10 22).2.1 (TX10 22).2.2.1 ∈ TB := tb4 84 (by decide +kernel) rfl
theorem wf_X10_58 : Cond.fieldLink RX10 58 (TX10 23).1 (TX10 23).2.1 (TX10 23).2.2.1 ∈ TB := tb4 85 (by decide +kernel) rfl
theorem wf_X10_61 : Cond.fieldLink RX10 61 (TX10 24).1 (TX10 24).2.1 (TX10 24).2.2.1 ∈ TB := tb4 86 (by decide +kernel) rfl
theorem wf_X10_64 : Cond.fieldLink RX10 64 (TX10 25).1 (TX10 25).2.1 (TX10 25).2.2.1 ∈ TB := tb4 87 (by decide +kernel) rfl
theorem wf_X10_267 : Cond.fieldLink RX10 267 (TX10 26).1 (TX10 26).2.1 (TX10 26).2.2.1 ∈ TB := tb4 88 (by decide +kernel) rfl
theorem wf_X10_271 : Cond.fieldLink RX10 271 (TX10 27).1 (TX10 27).2.1 (TX10 27).2.2.1 ∈ TB := tb4 89 (by decide +kernel) rfl
theorem wf_X10_274 : Cond.fieldLink RX10 274 (TX10 28).1 (TX10 28).2.1 (TX10 28).2.2.1 ∈ TB := tb4 90 (by decide +kernel) rfl
theorem wf_X10_67 : Cond.fieldLink RX10 67 (TX10 29).1 (TX10 29).2.1 (TX10 29).2.2.1 ∈ TB := tb4 91 (by decide +kernel) rfl
theorem wf_X10_70 : Cond.fieldLink RX10 70 (TX10 30).1 (TX10 30).2.1 (TX10 30).2.2.1 ∈ TB := tb4 92 (by decide +kernel) rfl
theorem wf_X10_73 : Cond.fieldLink RX10 73 (TX10 31).1 (TX10 31).2.1 (TX10 31).2.2.1 ∈ TB := tb4 93 (by decide +kernel) rfl
theorem wf_X10_76 : Cond.fieldLink RX10 76 (TX10 32).1 (TX10 32).2.1 (TX10 32).2.2.1 ∈ TB := tb4 94 (by decide +kernel) rfl
theorem wf_X10_80 : Cond.fieldLink RX10 80 (TX10 33).1 (TX10 33).2.1 (TX10 33).2.2.1 ∈ TB := tb4 95 (by decide +kernel) rfl
theorem wm_L_17 : Cond.methodLink "WormHeapLaw" 17 yX10_piece ∈ TB := tb4 165 (by decide +kernel) rfl
theorem wk_X10_104 : Cond.constantLong RX10 104 (3) ∈ TB := tb4 169 (by decide +kernel) rfl
theorem wm_X10_87 : Cond.methodLink RX10 87 yX10_in ∈ TB := tb4 170 (by decide +kernel) rfl
theorem wk_X10_106 : Cond.constantLong RX10 106 (99) ∈ TB := tb4 173 (by decide +kernel) rfl
theorem wk_X10_108 : Cond.constantLong RX10 108 (6) ∈ TB := tb4 174 (by decide +kernel) rfl
theorem wm_X10_110 : Cond.methodLink RX10 110 yX10_addPiece ∈ TB := tb4 175 (by decide +kernel) rfl
theorem wm_X10_100 : Cond.methodLink RX10 100 yX10_put ∈ TB := tb4 179 (by decide +kernel) rfl
theorem wm_L_22 : Cond.methodLink "WormHeapLaw" 22 yX10_told ∈ TB := tb4 183 (by decide +kernel) rfl
theorem wm_X10_114 : Cond.methodLink RX10 114 yX10_isPiece ∈ TB := tb4 187 (by decide +kernel) rfl
theorem wm_X10_97 : Cond.methodLink RX10 97 yX10_weighs ∈ TB := tb4 191 (by decide +kernel) rfl
theorem wm_X10_118 : Cond.methodLink RX10 118 yX10_townOf ∈ TB := tb4 195 (by decide +kernel) rfl
theorem wm_X10_121 : Cond.methodLink RX10 121 yX10_offOf ∈ TB := tb4 199 (by decide +kernel) rfl
theorem wm_L_26 : Cond.methodLink "WormHeapLaw" 26 yX10_of ∈ TB := tb4 203 (by decide +kernel) rfl
theorem wm_X10_124 : Cond.methodLink RX10 124 yX10_isPlace ∈ TB := tb4 207 (by decide +kernel) rfl
theorem wk_X10_91 : Cond.constantLong RX10 91 (5) ∈ TB := tb4 210 (by decide +kernel) rfl
theorem wm_X10_127 : Cond.methodLink RX10 127 yX10_loadOf ∈ TB := tb4 211 (by decide +kernel) rfl
theorem wm_X10_93 : Cond.methodLink RX10 93 yX10_topOf ∈ TB := tb4 215 (by decide +kernel) rfl
theorem wm_L_30 : Cond.methodLink "WormHeapLaw" 30 yX10_sense ∈ TB := tb4 219 (by decide +kernel) rfl
theorem wm_L_51 : Cond.methodLink "WormHeapLaw" 51 yX10_count ∈ TB := tb4 223 (by decide +kernel) rfl
theorem wm_X10_130 : Cond.methodLink RX10 130 yX10_countIn ∈ TB := tb4 227 (by decide +kernel) rfl
theorem wm_X10_136 : Cond.methodLink RX10 136 yX10_placesWeigh ∈ TB := tb4 231 (by decide +kernel) rfl
theorem wm_X10_140 : Cond.methodLink RX10 140 yX10_bagWeighs ∈ TB := tb4 235 (by decide +kernel) rfl
theorem wm_L_37 : Cond.methodLink "WormHeapLaw" 37 yX10_type ∈ TB := tb4 239 (by decide +kernel) rfl
theorem wk_X10_143 : Cond.constantLong RX10 143 (8) ∈ TB := tb5 3 (by decide +kernel) rfl
theorem wk_X10_145 : Cond.constantLong RX10 145 (255) ∈ TB := tb5 4 (by decide +kernel) rfl
theorem wk_X10_147 : Cond.constantLong RX10 147 (32) ∈ TB := tb5 5 (by decide +kernel) rfl
theorem wk_X10_149 : Cond.constantLong RX10 149 (126) ∈ TB := tb5 6 (by decide +kernel) rfl
theorem wm_L_42 : Cond.methodLink "WormHeapLaw" 42 yX10_heap ∈ TB := tb5 7 (by decide +kernel) rfl
theorem wm_X10_181 : Cond.methodLink RX10 181 yX10_takePiece ∈ TB := tb5 11 (by decide +kernel) rfl
theorem wm_X10_160 : Cond.methodLink RX10 160 yX10_here ∈ TB := tb5 15 (by decide +kernel) rfl
theorem wm_X10_163 : Cond.methodLink RX10 163 yX10_fails ∈ TB := tb5 19 (by decide +kernel) rfl
theorem wm_X10_174 : Cond.methodLink RX10 174 yX10_takeNumber ∈ TB := tb5 23 (by decide +kernel) rfl
theorem wk_X10_167 : Cond.constantLong RX10 167 (48) ∈ TB := tb5 27 (by decide +kernel) rfl
theorem wk_X10_169 : Cond.constantLong RX10 169 (57) ∈ TB := tb5 28 (by decide +kernel) rfl
theorem wm_X10_177 : Cond.methodLink RX10 177 yX10_take ∈ TB := tb5 29 (by decide +kernel) rfl
theorem wm_L_46 : Cond.methodLink "WormHeapLaw" 46 yX10_night ∈ TB := tb5 33 (by decide +kernel) rfl
theorem wm_X10_193 : Cond.methodLink RX10 193 yX10_takeAct ∈ TB := tb5 37 (by decide +kernel) rfl
theorem wm_X10_184 : Cond.methodLink RX10 184 yX10_takeLetter ∈ TB := tb5 41 (by decide +kernel) rfl
theorem wm_X10_187 : Cond.methodLink RX10 187 yX10_takeMark ∈ TB := tb5 45 (by decide +kernel) rfl
theorem wm_X10_196 : Cond.methodLink RX10 196 yX10_canBe ∈ TB := tb5 49 (by decide +kernel) rfl
theorem wm_X10_202 : Cond.methodLink RX10 202 yX10_placeOf ∈ TB := tb5 53 (by decide +kernel) rfl
theorem wm_X10_205 : Cond.methodLink RX10 205 yX10_otherOf ∈ TB := tb5 56 (by decide +kernel) rfl
theorem wm_X10_208 : Cond.methodLink RX10 208 yX10_kindOf ∈ TB := tb5 59 (by decide +kernel) rfl
theorem wm_X10_199 : Cond.methodLink RX10 199 yX10_goes ∈ TB := tb5 62 (by decide +kernel) rfl
theorem wm_X10_217 : Cond.methodLink RX10 217 yX10_isFelt ∈ TB := tb5 66 (by decide +kernel) rfl
theorem wm_X10_211 : Cond.methodLink RX10 211 yX10_size ∈ TB := tb5 70 (by decide +kernel) rfl
theorem wm_X10_220 : Cond.methodLink RX10 220 yX10_wake ∈ TB := tb5 73 (by decide +kernel) rfl
theorem wm_X10_223 : Cond.methodLink RX10 223 yX10_doAct ∈ TB := tb5 77 (by decide +kernel) rfl
theorem wm_X10_214 : Cond.methodLink RX10 214 yX10_takeTop ∈ TB := tb5 81 (by decide +kernel) rfl
theorem wm_L_55 : Cond.methodLink "WormHeapLaw" 55 yX10_lift ∈ TB := tb5 85 (by decide +kernel) rfl
theorem wm_X10_226 : Cond.methodLink RX10 226 yX10_tryAct ∈ TB := tb5 89 (by decide +kernel) rfl
theorem wm_L_59 : Cond.methodLink "WormHeapLaw" 59 yX10_lay ∈ TB := tb5 93 (by decide +kernel) rfl
theorem wm_L_63 : Cond.methodLink "WormHeapLaw" 63 yX10_swap ∈ TB := tb5 97 (by decide +kernel) rfl
theorem wm_L_67 : Cond.methodLink "WormHeapLaw" 67 yX10_push ∈ TB := tb5 101 (by decide +kernel) rfl
theorem wm_L_71 : Cond.methodLink "WormHeapLaw" 71 yX10_turn ∈ TB := tb5 105 (by decide +kernel) rfl
theorem wm_L_75 : Cond.methodLink "WormHeapLaw" 75 yX10_had ∈ TB := tb5 109 (by decide +kernel) rfl
theorem wk_X10_244 : Cond.constantLong RX10 244 (-1) ∈ TB := tb5 113 (by decide +kernel) rfl
theorem wk_X10_246 : Cond.constantLong RX10 246 (2) ∈ TB := tb5 114 (by decide +kernel) rfl
theorem wm_X10_248 : Cond.methodLink RX10 248 yX10_find ∈ TB := tb5 115 (by decide +kernel) rfl
theorem wm_X10_232 : Cond.methodLink RX10 232 yX10_lastAct ∈ TB := tb5 119 (by decide +kernel) rfl
theorem wm_X10_235 : Cond.methodLink RX10 235 yX10_save ∈ TB := tb5 123 (by decide +kernel) rfl
theorem wm_X10_238 : Cond.methodLink RX10 238 yX10_nextAct ∈ TB := tb5 127 (by decide +kernel) rfl
theorem wm_X10_229 : Cond.methodLink RX10 229 yX10_isCode ∈ TB := tb5 131 (by decide +kernel) rfl
theorem wm_X10_241 : Cond.methodLink RX10 241 yX10_load ∈ TB := tb5 135 (by decide +kernel) rfl
theorem wm_L_79 : Cond.methodLink "WormHeapLaw" 79 yX10_under ∈ TB := tb5 139 (by decide +kernel) rfl
theorem wm_L_83 : Cond.methodLink "WormHeapLaw" 83 yX10_own ∈ TB := tb5 143 (by decide +kernel) rfl
theorem wm_X10_251 : Cond.methodLink RX10 251 yX10_townsThatLie ∈ TB := tb5 147 (by decide +kernel) rfl
theorem wm_L_88 : Cond.methodLink "WormHeapLaw" 88 yX10_odds ∈ TB := tb5 151 (by decide +kernel) rfl
theorem wm_X10_257 : Cond.methodLink RX10 257 yX10_partOf ∈ TB := tb5 155 (by decide +kernel) rfl
theorem wm_X10_254 : Cond.methodLink RX10 254 yX10_divisor ∈ TB := tb5 158 (by decide +kernel) rfl
theorem wm_L_93 : Cond.methodLink "WormHeapLaw" 93 yX10_share ∈ TB := tb5 161 (by decide +kernel) rfl
theorem wk_X10_261 : Cond.constantLong RX10 261 (15) ∈ TB := tb5 165 (by decide +kernel) rfl
theorem wm_X10_263 : Cond.methodLink RX10 263 yX10_has ∈ TB := tb5 166 (by decide +kernel) rfl
theorem wm_L_97 : Cond.methodLink "WormHeapLaw" 97 yX10_image ∈ TB := tb5 169 (by decide +kernel) rfl
theorem wm_L_101 : Cond.methodLink "WormHeapLaw" 101 yX10_restore ∈ TB := tb5 173 (by decide +kernel) rfl
theorem wm_L_105 : Cond.methodLink "WormHeapLaw" 105 yX10_dents ∈ TB := tb5 177 (by decide +kernel) rfl
theorem wm_X10_277 : Cond.methodLink RX10 277 yX10_isSheet ∈ TB := tb5 181 (by decide +kernel) rfl
theorem wm_X10_280 : Cond.methodLink RX10 280 yX10_against ∈ TB := tb5 184 (by decide +kernel) rfl
theorem wm_X10_284 : Cond.methodLink RX10 284 yX10_sumIn ∈ TB := tb5 188 (by decide +kernel) rfl
theorem wm_L_109 : Cond.methodLink "WormHeapLaw" 109 yX10_tried ∈ TB := tb5 192 (by decide +kernel) rfl
theorem wm_X10_287 : Cond.methodLink RX10 287 yX10_nextOf ∈ TB := tb5 196 (by decide +kernel) rfl
theorem wm_L_113 : Cond.methodLink "WormHeapLaw" 113 yX10_film ∈ TB := tb5 199 (by decide +kernel) rfl
theorem wm_X10_290 : Cond.methodLink RX10 290 yX10_low ∈ TB := tb5 203 (by decide +kernel) rfl
theorem wm_L_117 : Cond.methodLink "WormHeapLaw" 117 yX10_sheet ∈ TB := tb5 206 (by decide +kernel) rfl
theorem wm_L_121 : Cond.methodLink "WormHeapLaw" 121 yX10_drop ∈ TB := tb5 210 (by decide +kernel) rfl
theorem wm_L_126 : Cond.methodLink "WormHeapLaw" 126 yX10_item ∈ TB := tb5 214 (by decide +kernel) rfl
theorem wm_L_130 : Cond.methodLink "WormHeapLaw" 130 yX10_copy ∈ TB := tb5 218 (by decide +kernel) rfl
theorem wk_L_31 : Cond.constantLong "WormHeapLaw" 31 (4294967295) ∈ TB := tb5 222 (by decide +kernel) rfl
theorem wi_obj : Cond.instanceMethod objectInit ∈ TB := tb1 27 (by decide +kernel) rfl
theorem wo_obj : Cond.code objectInit ⟨#[0xb1]⟩ 1 none ∈ TB := tb1 28 (by decide +kernel) rfl
theorem wt_mmax : Cond.static Lib.Math.max.name ∈ TB := tb2 98 (by decide +kernel) rfl
theorem wo_mmax : Cond.code Lib.Math.max.name Lib.Math.max.code 2 (some .int) ∈ TB := tb2 99 (by decide +kernel) rfl
theorem wt_mmin : Cond.static Lib.Math.min.name ∈ TB := tb2 101 (by decide +kernel) rfl
theorem wo_mmin : Cond.code Lib.Math.min.name Lib.Math.min.code 2 (some .int) ∈ TB := tb2 102 (by decide +kernel) rfl
theorem wt_mabs : Cond.static Lib.Math.abs.name ∈ TB := tb3 9 (by decide +kernel) rfl
theorem wo_mabs : Cond.code Lib.Math.abs.name Lib.Math.abs.code 1 (some .int) ∈ TB := tb3 10 (by decide +kernel) rfl
theorem wz_math : Cond.initialized "java/lang/Math" ∈ TB := tb1 14 (by decide +kernel) rfl
theorem wna : Cond.native arraycopyName ∈ TB := tb3 148 (by decide +kernel) rfl
theorem wta : Cond.static arraycopyName ∈ TB := tb3 147 (by decide +kernel) rfl
theorem wz_sys : Cond.initialized "java/lang/System" ∈ TB := tb1 19 (by decide +kernel) rfl
theorem wq_X0_code : pm_k yX0_code cX0_code 3 (some (.int)) 3 := ⟨tb2 215 (by decide +kernel) rfl, tb1 18 (by decide +kernel) rfl, by decide +kernel, by decide +kernel, by decide +kernel⟩
theorem wt_X0_code : Cond.static yX0_code ∈ TB := tb2 214 (by decide +kernel) rfl
theorem wq_X0_how : pm_k yX0_how cX0_how 1 (some (.int)) 1 := ⟨tb2 233 (by decide +kernel) rfl, tb1 18 (by decide +kernel) rfl, by decide +kernel, by decide +kernel, by decide +kernel⟩
theorem wt_X0_how : Cond.static yX0_how ∈ TB := tb2 232 (by decide +kernel) rfl
theorem wq_X0_where : pm_k yX0_where cX0_where 1 (some (.int)) 1 := ⟨tb2 236 (by decide +kernel) rfl, tb1 18 (by decide +kernel) rfl, by decide +kernel, by decide +kernel, by decide +kernel⟩
theorem wt_X0_where : Cond.static yX0_where ∈ TB := tb2 235 (by decide +kernel) rfl
theorem wq_X0_other : pm_k yX0_other cX0_other 1 (some (.int)) 1 := ⟨tb2 239 (by decide +kernel) rfl, tb1 18 (by decide +kernel) rfl, by decide +kernel, by decide +kernel, by decide +kernel⟩
theorem wt_X0_other : Cond.static yX0_other ∈ TB := tb2 238 (by decide +kernel) rfl
theorem wq_X0_back : pm_k yX0_back cX0_back 3 (some (.int)) 2 := ⟨tb3 104 (by decide +kernel) rfl, tb1 18 (by decide +kernel) rfl, by decide +kernel, by decide +kernel, by decide +kernel⟩
theorem wt_X0_back : Cond.static yX0_back ∈ TB := tb3 103 (by decide +kernel) rfl
theorem wq_X1_setsBy : pm_k yX1_setsBy cX1_setsBy 9 (some (.int)) 3 := ⟨tb3 225 (by decide +kernel) rfl, tb1 20 (by decide +kernel) rfl, by decide +kernel, by decide +kernel, by decide +kernel⟩
theorem wt_X1_setsBy : Cond.static yX1_setsBy ∈ TB := tb3 224 (by decide +kernel) rfl
theorem wq_X1_leastBy : pm_k yX1_leastBy cX1_leastBy 8 (some (.int)) 3 := ⟨tb3 238 (by decide +kernel) rfl, tb1 20 (by decide +kernel) rfl, by decide +kernel, by decide +kernel, by decide +kernel⟩
theorem wt_X1_leastBy : Cond.static yX1_leastBy ∈ TB := tb3 237 (by decide +kernel) rfl
theorem wq_X1_nextSubset : pm_k yX1_nextSubset cX1_nextSubset 2 (some (.int)) 2 := ⟨tb3 235 (by decide +kernel) rfl, tb1 20 (by decide +kernel) rfl, by decide +kernel, by decide +kernel, by decide +kernel⟩
theorem wt_X1_nextSubset : Cond.static yX1_nextSubset ∈ TB := tb3 234 (by decide +kernel) rfl
theorem wq_X2_init : pm_k yX2_init cX2_init 1 none 0 := ⟨tb1 33 (by decide +kernel) rfl, tb1 2 (by decide +kernel) rfl, by decide +kernel, by decide +kernel, by decide +kernel⟩
theorem wi_X2_init : Cond.instanceMethod yX2_init ∈ TB := tb1 32 (by decide +kernel) rfl
theorem wq_X2_isPiece : pm_k yX2_isPiece cX2_isPiece 2 (some (.boolean)) 1 := ⟨tb1 203 (by decide +kernel) rfl, tb1 2 (by decide +kernel) rfl, by decide +kernel, by decide +kernel, by decide +kernel⟩
theorem wi_X2_isPiece : Cond.instanceMethod yX2_isPiece ∈ TB := tb1 201 (by decide +kernel) rfl
theorem ws_X2_isPiece : Cond.selects yX2_isPiece.cls yX2_isPiece yX2_isPiece ∈ TB := tb1 202 (by decide +kernel) rfl
theorem wq_X2_pieces : pm_k yX2_pieces cX2_pieces 1 (some (.int)) 0 := ⟨tb2 198 (by decide +kernel) rfl, tb1 2 (by decide +kernel) rfl, by decide +kernel, by decide +kernel, by decide +kernel⟩
theorem wi_X2_pieces : Cond.instanceMethod yX2_pieces ∈ TB := tb2 196 (by decide +kernel) rfl
theorem ws_X2_pieces : Cond.selects yX2_pieces.cls yX2_pieces yX2_pieces ∈ TB := tb2 197 (by decide +kernel) rfl
theorem wq_X2_timesAwake : pm_k yX2_timesAwake cX2_timesAwake 1 (some (.int)) 0 := ⟨tb3 32 (by decide +kernel) rfl, tb1 2 (by decide +kernel) rfl, by decide +kernel, by decide +kernel, by decide +kernel⟩
theorem wi_X2_timesAwake : Cond.instanceMethod yX2_timesAwake ∈ TB := tb3 30 (by decide +kernel) rfl
theorem ws_X2_timesAwake : Cond.selects yX2_timesAwake.cls yX2_timesAwake yX2_timesAwake ∈ TB := tb3 31 (by decide +kernel) rfl
theorem wq_X2_kindOf : pm_k yX2_kindOf cX2_kindOf 2 (some (.int)) 1 := ⟨tb1 215 (by decide +kernel) rfl, tb1 2 (by decide +kernel) rfl, by decide +kernel, by decide +kernel, by decide +kernel⟩
theorem wi_X2_kindOf : Cond.instanceMethod yX2_kindOf ∈ TB := tb1 213 (by decide +kernel) rfl
theorem ws_X2_kindOf : Cond.selects yX2_kindOf.cls yX2_kindOf yX2_kindOf ∈ TB := tb1 214 (by decide +kernel) rfl
theorem wq_X2_weighs : pm_k yX2_weighs cX2_weighs 2 (some (.int)) 1 := ⟨tb1 219 (by decide +kernel) rfl, tb1 2 (by decide +kernel) rfl, by decide +kernel, by decide +kernel, by decide +kernel⟩
theorem wi_X2_weighs : Cond.instanceMethod yX2_weighs ∈ TB := tb1 217 (by decide +kernel) rfl
theorem ws_X2_weighs : Cond.selects yX2_weighs.cls yX2_weighs yX2_weighs ∈ TB := tb1 218 (by decide +kernel) rfl
theorem wq_X2_ownerOf : pm_k yX2_ownerOf cX2_ownerOf 2 (some (.int)) 1 := ⟨tb1 223 (by decide +kernel) rfl, tb1 2 (by decide +kernel) rfl, by decide +kernel, by decide +kernel, by decide +kernel⟩
theorem wi_X2_ownerOf : Cond.instanceMethod yX2_ownerOf ∈ TB := tb1 221 (by decide +kernel) rfl
theorem ws_X2_ownerOf : Cond.selects yX2_ownerOf.cls yX2_ownerOf yX2_ownerOf ∈ TB := tb1 222 (by decide +kernel) rfl
theorem wq_X2_placeOf : pm_k yX2_placeOf cX2_placeOf 2 (some (.int)) 1 := ⟨tb1 227 (by decide +kernel) rfl, tb1 2 (by decide +kernel) rfl, by decide +kernel, by decide +kernel, by decide +kernel⟩
theorem wi_X2_placeOf : Cond.instanceMethod yX2_placeOf ∈ TB := tb1 225 (by decide +kernel) rfl
theorem ws_X2_placeOf : Cond.selects yX2_placeOf.cls yX2_placeOf yX2_placeOf ∈ TB := tb1 226 (by decide +kernel) rfl
theorem wq_X2_offOf : pm_k yX2_offOf cX2_offOf 4 (some (.int)) 1 := ⟨tb1 231 (by decide +kernel) rfl, tb1 2 (by decide +kernel) rfl, by decide +kernel, by decide +kernel, by decide +kernel⟩
theorem wi_X2_offOf : Cond.instanceMethod yX2_offOf ∈ TB := tb1 229 (by decide +kernel) rfl
theorem ws_X2_offOf : Cond.selects yX2_offOf.cls yX2_offOf yX2_offOf ∈ TB := tb1 230 (by decide +kernel) rfl
theorem wq_X2_belowOf : pm_k yX2_belowOf cX2_belowOf 2 (some (.int)) 1 := ⟨tb3 126 (by decide +kernel) rfl, tb1 2 (by decide +kernel) rfl, by decide +kernel, by decide +kernel, by decide +kernel⟩
theorem wi_X2_belowOf : Cond.instanceMethod yX2_belowOf ∈ TB := tb3 124 (by decide +kernel) rfl
theorem ws_X2_belowOf : Cond.selects yX2_belowOf.cls yX2_belowOf yX2_belowOf ∈ TB := tb3 125 (by decide +kernel) rfl
theorem wq_X2_topOf : pm_k yX2_topOf cX2_topOf 2 (some (.int)) 1 := ⟨tb1 236 (by decide +kernel) rfl, tb1 2 (by decide +kernel) rfl, by decide +kernel, by decide +kernel, by decide +kernel⟩
theorem wi_X2_topOf : Cond.instanceMethod yX2_topOf ∈ TB := tb1 234 (by decide +kernel) rfl
theorem ws_X2_topOf : Cond.selects yX2_topOf.cls yX2_topOf yX2_topOf ∈ TB := tb1 235 (by decide +kernel) rfl
theorem wq_X2_senseOf : pm_k yX2_senseOf cX2_senseOf 2 (some (.int)) 1 := ⟨tb2 24 (by decide +kernel) rfl, tb1 2 (by decide +kernel) rfl, by decide +kernel, by decide +kernel, by decide +kernel⟩
theorem wi_X2_senseOf : Cond.instanceMethod yX2_senseOf ∈ TB := tb2 22 (by decide +kernel) rfl
theorem ws_X2_senseOf : Cond.selects yX2_senseOf.cls yX2_senseOf yX2_senseOf ∈ TB := tb2 23 (by decide +kernel) rfl
theorem wq_X2_becomeFine : pm_k yX2_becomeFine cX2_becomeFine 3 none 2 := ⟨tb2 33 (by decide +kernel) rfl, tb1 2 (by decide +kernel) rfl, by decide +kernel, by decide +kernel, by decide +kernel⟩
theorem wi_X2_becomeFine : Cond.instanceMethod yX2_becomeFine ∈ TB := tb2 31 (by decide +kernel) rfl
theorem ws_X2_becomeFine : Cond.selects yX2_becomeFine.cls yX2_becomeFine yX2_becomeFine ∈ TB := tb2 32 (by decide +kernel) rfl
theorem wq_X2_loadIn : pm_k yX2_loadIn cX2_loadIn 4 (some (.int)) 1 := ⟨tb2 5 (by decide +kernel) rfl, tb1 2 (by decide +kernel) rfl, by decide +kernel, by decide +kernel, by decide +kernel⟩
theorem wi_X2_loadIn : Cond.instanceMethod yX2_loadIn ∈ TB := tb2 3 (by decide +kernel) rfl
theorem ws_X2_loadIn : Cond.selects yX2_loadIn.cls yX2_loadIn yX2_loadIn ∈ TB := tb2 4 (by decide +kernel) rfl
theorem wq_X2_loadInPlaces : pm_k yX2_loadInPlaces cX2_loadInPlaces 3 (some (.int)) 0 := ⟨tb3 36 (by decide +kernel) rfl, tb1 2 (by decide +kernel) rfl, by decide +kernel, by decide +kernel, by decide +kernel⟩
theorem wi_X2_loadInPlaces : Cond.instanceMethod yX2_loadInPlaces ∈ TB := tb3 34 (by decide +kernel) rfl
theorem ws_X2_loadInPlaces : Cond.selects yX2_loadInPlaces.cls yX2_loadInPlaces yX2_loadInPlaces ∈ TB := tb3 35 (by decide +kernel) rfl
theorem wq_X2_loadInBagOf : pm_k yX2_loadInBagOf cX2_loadInBagOf 4 (some (.int)) 1 := ⟨tb3 180 (by decide +kernel) rfl, tb1 2 (by decide +kernel) rfl, by decide +kernel, by decide +kernel, by decide +kernel⟩
theorem wi_X2_loadInBagOf : Cond.instanceMethod yX2_loadInBagOf ∈ TB := tb3 178 (by decide +kernel) rfl
theorem ws_X2_loadInBagOf : Cond.selects yX2_loadInBagOf.cls yX2_loadInBagOf yX2_loadInBagOf ∈ TB := tb3 179 (by decide +kernel) rfl
theorem wq_X2_setIn : pm_k yX2_setIn cX2_setIn 4 (some (.int)) 1 := ⟨tb2 14 (by decide +kernel) rfl, tb1 2 (by decide +kernel) rfl, by decide +kernel, by decide +kernel, by decide +kernel⟩
theorem wi_X2_setIn : Cond.instanceMethod yX2_setIn ∈ TB := tb2 12 (by decide +kernel) rfl
theorem ws_X2_setIn : Cond.selects yX2_setIn.cls yX2_setIn yX2_setIn ∈ TB := tb2 13 (by decide +kernel) rfl
theorem wq_X2_piecesIn : pm_k yX2_piecesIn cX2_piecesIn 2 (some (.int)) 1 := ⟨tb2 10 (by decide +kernel) rfl, tb1 2 (by decide +kernel) rfl, by decide +kernel, by decide +kernel, by decide +kernel⟩
theorem wi_X2_piecesIn : Cond.instanceMethod yX2_piecesIn ∈ TB := tb2 8 (by decide +kernel) rfl
theorem ws_X2_piecesIn : Cond.selects yX2_piecesIn.cls yX2_piecesIn yX2_piecesIn ∈ TB := tb2 9 (by decide +kernel) rfl
theorem wq_X2_piecesInPlaces : pm_k yX2_piecesInPlaces cX2_piecesInPlaces 1 (some (.int)) 0 := ⟨tb3 71 (by decide +kernel) rfl, tb1 2 (by decide +kernel) rfl, by decide +kernel, by decide +kernel, by decide +kernel⟩
theorem wi_X2_piecesInPlaces : Cond.instanceMethod yX2_piecesInPlaces ∈ TB := tb3 69 (by decide +kernel) rfl
theorem ws_X2_piecesInPlaces : Cond.selects yX2_piecesInPlaces.cls yX2_piecesInPlaces yX2_piecesInPlaces ∈ TB := tb3 70 (by decide +kernel) rfl
theorem wq_X2_weighsSet : pm_k yX2_weighsSet cX2_weighsSet 4 (some (.int)) 1 := ⟨tb3 231 (by decide +kernel) rfl, tb1 2 (by decide +kernel) rfl, by decide +kernel, by decide +kernel, by decide +kernel⟩
theorem wi_X2_weighsSet : Cond.instanceMethod yX2_weighsSet ∈ TB := tb3 229 (by decide +kernel) rfl
theorem ws_X2_weighsSet : Cond.selects yX2_weighsSet.cls yX2_weighsSet yX2_weighsSet ∈ TB := tb3 230 (by decide +kernel) rfl
theorem wq_X2_add : pm_k yX2_add cX2_add 6 (some (.int)) 4 := ⟨tb1 195 (by decide +kernel) rfl, tb1 2 (by decide +kernel) rfl, by decide +kernel, by decide +kernel, by decide +kernel⟩
theorem wi_X2_add : Cond.instanceMethod yX2_add ∈ TB := tb1 193 (by decide +kernel) rfl
theorem ws_X2_add : Cond.selects yX2_add.cls yX2_add yX2_add ∈ TB := tb1 194 (by decide +kernel) rfl
theorem wq_X2_clearPieces : pm_k yX2_clearPieces cX2_clearPieces 1 none 0 := ⟨tb2 188 (by decide +kernel) rfl, tb1 2 (by decide +kernel) rfl, by decide +kernel, by decide +kernel, by decide +kernel⟩
theorem wi_X2_clearPieces : Cond.instanceMethod yX2_clearPieces ∈ TB := tb2 186 (by decide +kernel) rfl
theorem ws_X2_clearPieces : Cond.selects yX2_clearPieces.cls yX2_clearPieces yX2_clearPieces ∈ TB := tb2 187 (by decide +kernel) rfl
theorem wq_X2_becomeLike : pm_k yX2_becomeLike cX2_becomeLike 2 none 1 := ⟨tb3 190 (by decide +kernel) rfl, tb1 2 (by decide +kernel) rfl, by decide +kernel, by decide +kernel, by decide +kernel⟩
theorem wi_X2_becomeLike : Cond.instanceMethod yX2_becomeLike ∈ TB := tb3 188 (by decide +kernel) rfl
theorem ws_X2_becomeLike : Cond.selects yX2_becomeLike.cls yX2_becomeLike yX2_becomeLike ∈ TB := tb3 189 (by decide +kernel) rfl
theorem wq_X2_put : pm_k yX2_put cX2_put 3 none 2 := ⟨tb1 199 (by decide +kernel) rfl, tb1 2 (by decide +kernel) rfl, by decide +kernel, by decide +kernel, by decide +kernel⟩
theorem wi_X2_put : Cond.instanceMethod yX2_put ∈ TB := tb1 198 (by decide +kernel) rfl
theorem ws_X2_put : Cond.selects yX2_put.cls yX2_put yX2_put ∈ TB := tbp 0 (by decide +kernel) rfl
theorem wq_X2_take : pm_k yX2_take cX2_take 3 (some (.int)) 1 := ⟨tb3 24 (by decide +kernel) rfl, tb1 2 (by decide +kernel) rfl, by decide +kernel, by decide +kernel, by decide +kernel⟩
theorem wi_X2_take : Cond.instanceMethod yX2_take ∈ TB := tb3 23 (by decide +kernel) rfl
theorem ws_X2_take : Cond.selects yX2_take.cls yX2_take yX2_take ∈ TB := tbp 4 (by decide +kernel) rfl
theorem wq_X2_turnOver : pm_k yX2_turnOver cX2_turnOver 4 none 0 := ⟨tb3 63 (by decide +kernel) rfl, tb1 2 (by decide +kernel) rfl, by decide +kernel, by decide +kernel, by decide +kernel⟩
theorem wi_X2_turnOver : Cond.instanceMethod yX2_turnOver ∈ TB := tb3 61 (by decide +kernel) rfl
theorem ws_X2_turnOver : Cond.selects yX2_turnOver.cls yX2_turnOver yX2_turnOver ∈ TB := tb3 62 (by decide +kernel) rfl
theorem wq_X2_turned : pm_k yX2_turned cX2_turned 6 (some (.int)) 1 := ⟨tb3 67 (by decide +kernel) rfl, tb1 2 (by decide +kernel) rfl, by decide +kernel, by decide +kernel, by decide +kernel⟩
theorem wi_X2_turned : Cond.instanceMethod yX2_turned ∈ TB := tb3 66 (by decide +kernel) rfl
theorem ws_X2_turned : Cond.selects yX2_turned.cls yX2_turned yX2_turned ∈ TB := tbp 5 (by decide +kernel) rfl
theorem wq_X2_tryAct : pm_k yX2_tryAct cX2_tryAct 2 (some (.int)) 1 := ⟨tb2 226 (by decide +kernel) rfl, tb1 2 (by decide +kernel) rfl, by decide +kernel, by decide +kernel, by decide +kernel⟩
theorem wi_X2_tryAct : Cond.instanceMethod yX2_tryAct ∈ TB := tb2 224 (by decide +kernel) rfl
theorem ws_X2_tryAct : Cond.selects yX2_tryAct.cls yX2_tryAct yX2_tryAct ∈ TB := tb2 225 (by decide +kernel) rfl
theorem wq_X2_canBe : pm_k yX2_canBe cX2_canBe 5 (some (.boolean)) 1 := ⟨tb2 230 (by decide +kernel) rfl, tb1 2 (by decide +kernel) rfl, by decide +kernel, by decide +kernel, by decide +kernel⟩
theorem wi_X2_canBe : Cond.instanceMethod yX2_canBe ∈ TB := tb2 228 (by decide +kernel) rfl
theorem ws_X2_canBe : Cond.selects yX2_canBe.cls yX2_canBe yX2_canBe ∈ TB := tb2 229 (by decide +kernel) rfl
theorem wq_X2_isFelt : pm_k yX2_isFelt cX2_isFelt 5 (some (.boolean)) 1 := ⟨tb3 3 (by decide +kernel) rfl, tb1 2 (by decide +kernel) rfl, by decide +kernel, by decide +kernel, by decide +kernel⟩
theorem wi_X2_isFelt : Cond.instanceMethod yX2_isFelt ∈ TB := tb3 1 (by decide +kernel) rfl
theorem ws_X2_isFelt : Cond.selects yX2_isFelt.cls yX2_isFelt yX2_isFelt ∈ TB := tb3 2 (by decide +kernel) rfl
theorem wq_X2_isAboveSense : pm_k yX2_isAboveSense cX2_isAboveSense 3 (some (.boolean)) 2 := ⟨tb3 7 (by decide +kernel) rfl, tb1 2 (by decide +kernel) rfl, by decide +kernel, by decide +kernel, by decide +kernel⟩
theorem wi_X2_isAboveSense : Cond.instanceMethod yX2_isAboveSense ∈ TB := tb3 5 (by decide +kernel) rfl
theorem ws_X2_isAboveSense : Cond.selects yX2_isAboveSense.cls yX2_isAboveSense yX2_isAboveSense ∈ TB := tb3 6 (by decide +kernel) rfl
theorem wq_X2_doAct : pm_k yX2_doAct cX2_doAct 4 none 1 := ⟨tb3 20 (by decide +kernel) rfl, tb1 2 (by decide +kernel) rfl, by decide +kernel, by decide +kernel, by decide +kernel⟩
theorem wi_X2_doAct : Cond.instanceMethod yX2_doAct ∈ TB := tb3 18 (by decide +kernel) rfl
theorem ws_X2_doAct : Cond.selects yX2_doAct.cls yX2_doAct yX2_doAct ∈ TB := tb3 19 (by decide +kernel) rfl
theorem wq_X2_eat : pm_k yX2_eat cX2_eat 4 none 0 := ⟨tb3 15 (by decide +kernel) rfl, tb1 2 (by decide +kernel) rfl, by decide +kernel, by decide +kernel, by decide +kernel⟩
theorem wi_X2_eat : Cond.instanceMethod yX2_eat ∈ TB := tb3 14 (by decide +kernel) rfl
theorem ws_X2_eat : Cond.selects yX2_eat.cls yX2_eat yX2_eat ∈ TB := tbp 3 (by decide +kernel) rfl
theorem wq_X3_init : pm_k yX3_init cX3_init 1 none 0 := ⟨tb1 111 (by decide +kernel) rfl, tb1 7 (by decide +kernel) rfl, by decide +kernel, by decide +kernel, by decide +kernel⟩
theorem wi_X3_init : Cond.instanceMethod yX3_init ∈ TB := tb1 110 (by decide +kernel) rfl
theorem wq_X3_read : pm_k yX3_read cX3_read 3 (some (.int)) 1 := ⟨tb2 54 (by decide +kernel) rfl, tb1 7 (by decide +kernel) rfl, by decide +kernel, by decide +kernel, by decide +kernel⟩
theorem wi_X3_read : Cond.instanceMethod yX3_read ∈ TB := tb2 52 (by decide +kernel) rfl
theorem ws_X3_read : Cond.selects yX3_read.cls yX3_read yX3_read ∈ TB := tb2 53 (by decide +kernel) rfl
theorem wq_X3_readPiece : pm_k yX3_readPiece cX3_readPiece 3 (some (.boolean)) 2 := ⟨tb2 158 (by decide +kernel) rfl, tb1 7 (by decide +kernel) rfl, by decide +kernel, by decide +kernel, by decide +kernel⟩
theorem wi_X3_readPiece : Cond.instanceMethod yX3_readPiece ∈ TB := tb2 157 (by decide +kernel) rfl
theorem ws_X3_readPiece : Cond.selects yX3_readPiece.cls yX3_readPiece yX3_readPiece ∈ TB := tbp 2 (by decide +kernel) rfl
theorem wq_X3_layOut : pm_k yX3_layOut cX3_layOut 4 none 2 := ⟨tb2 184 (by decide +kernel) rfl, tb1 7 (by decide +kernel) rfl, by decide +kernel, by decide +kernel, by decide +kernel⟩
theorem wi_X3_layOut : Cond.instanceMethod yX3_layOut ∈ TB := tb2 182 (by decide +kernel) rfl
theorem ws_X3_layOut : Cond.selects yX3_layOut.cls yX3_layOut yX3_layOut ∈ TB := tb2 183 (by decide +kernel) rfl
theorem wq_X4_init : pm_k yX4_init cX4_init 1 none 0 := ⟨tb1 130 (by decide +kernel) rfl, tb1 8 (by decide +kernel) rfl, by decide +kernel, by decide +kernel, by decide +kernel⟩
theorem wi_X4_init : Cond.instanceMethod yX4_init ∈ TB := tb1 129 (by decide +kernel) rfl
theorem wq_X4_read : pm_k yX4_read cX4_read 5 (some (.int)) 2 := ⟨tb2 202 (by decide +kernel) rfl, tb1 8 (by decide +kernel) rfl, by decide +kernel, by decide +kernel, by decide +kernel⟩
theorem wi_X4_read : Cond.instanceMethod yX4_read ∈ TB := tb2 200 (by decide +kernel) rfl
theorem ws_X4_read : Cond.selects yX4_read.cls yX4_read yX4_read ∈ TB := tb2 201 (by decide +kernel) rfl
theorem wq_X4_readAct : pm_k yX4_readAct cX4_readAct 5 (some (.int)) 2 := ⟨tb2 207 (by decide +kernel) rfl, tb1 8 (by decide +kernel) rfl, by decide +kernel, by decide +kernel, by decide +kernel⟩
theorem wt_X4_readAct : Cond.static yX4_readAct ∈ TB := tb2 206 (by decide +kernel) rfl
theorem wq_X4_act : pm_k yX4_act cX4_act 4 (some (.int)) 2 := ⟨tb2 222 (by decide +kernel) rfl, tb1 8 (by decide +kernel) rfl, by decide +kernel, by decide +kernel, by decide +kernel⟩
theorem wi_X4_act : Cond.instanceMethod yX4_act ∈ TB := tb2 220 (by decide +kernel) rfl
theorem ws_X4_act : Cond.selects yX4_act.cls yX4_act yX4_act ∈ TB := tb2 221 (by decide +kernel) rfl
theorem wq_X5_init : pm_k yX5_init cX5_init 1 none 0 := ⟨tb1 141 (by decide +kernel) rfl, tb1 9 (by decide +kernel) rfl, by decide +kernel, by decide +kernel, by decide +kernel⟩
theorem wi_X5_init : Cond.instanceMethod yX5_init ∈ TB := tb1 140 (by decide +kernel) rfl
theorem wq_X5_holdsRow : pm_k yX5_holdsRow cX5_holdsRow 1 (some (.boolean)) 0 := ⟨tb3 214 (by decide +kernel) rfl, tb1 9 (by decide +kernel) rfl, by decide +kernel, by decide +kernel, by decide +kernel⟩
theorem wi_X5_holdsRow : Cond.instanceMethod yX5_holdsRow ∈ TB := tb3 212 (by decide +kernel) rfl
theorem ws_X5_holdsRow : Cond.selects yX5_holdsRow.cls yX5_holdsRow yX5_holdsRow ∈ TB := tb3 213 (by decide +kernel) rfl
theorem wq_X5_isOfLane : pm_k yX5_isOfLane cX5_isOfLane 2 (some (.boolean)) 1 := ⟨tb4 49 (by decide +kernel) rfl, tb1 9 (by decide +kernel) rfl, by decide +kernel, by decide +kernel, by decide +kernel⟩
theorem wi_X5_isOfLane : Cond.instanceMethod yX5_isOfLane ∈ TB := tb4 47 (by decide +kernel) rfl
theorem ws_X5_isOfLane : Cond.selects yX5_isOfLane.cls yX5_isOfLane yX5_isOfLane ∈ TB := tb4 48 (by decide +kernel) rfl
theorem wq_X5_hasItems : pm_k yX5_hasItems cX5_hasItems 3 (some (.boolean)) 2 := ⟨tb3 218 (by decide +kernel) rfl, tb1 9 (by decide +kernel) rfl, by decide +kernel, by decide +kernel, by decide +kernel⟩
theorem wi_X5_hasItems : Cond.instanceMethod yX5_hasItems ∈ TB := tb3 216 (by decide +kernel) rfl
theorem ws_X5_hasItems : Cond.selects yX5_hasItems.cls yX5_hasItems yX5_hasItems ∈ TB := tb3 217 (by decide +kernel) rfl
theorem wq_X5_refusal : pm_k yX5_refusal cX5_refusal 4 (some (.int)) 3 := ⟨tb3 210 (by decide +kernel) rfl, tb1 9 (by decide +kernel) rfl, by decide +kernel, by decide +kernel, by decide +kernel⟩
theorem wi_X5_refusal : Cond.instanceMethod yX5_refusal ∈ TB := tb3 208 (by decide +kernel) rfl
theorem ws_X5_refusal : Cond.selects yX5_refusal.cls yX5_refusal yX5_refusal ∈ TB := tb3 209 (by decide +kernel) rfl
theorem wq_X5_renew : pm_k yX5_renew cX5_renew 3 none 2 := ⟨tb4 24 (by decide +kernel) rfl, tb1 9 (by decide +kernel) rfl, by decide +kernel, by decide +kernel, by decide +kernel⟩
theorem wi_X5_renew : Cond.instanceMethod yX5_renew ∈ TB := tb4 22 (by decide +kernel) rfl
theorem ws_X5_renew : Cond.selects yX5_renew.cls yX5_renew yX5_renew ∈ TB := tb4 23 (by decide +kernel) rfl
theorem wq_X5_clear : pm_k yX5_clear cX5_clear 2 (some (.int)) 0 := ⟨tb4 37 (by decide +kernel) rfl, tb1 9 (by decide +kernel) rfl, by decide +kernel, by decide +kernel, by decide +kernel⟩
theorem wi_X5_clear : Cond.instanceMethod yX5_clear ∈ TB := tb4 35 (by decide +kernel) rfl
theorem ws_X5_clear : Cond.selects yX5_clear.cls yX5_clear yX5_clear ∈ TB := tb4 36 (by decide +kernel) rfl
theorem wq_X5_itemAt : pm_k yX5_itemAt cX5_itemAt 2 (some (.long)) 1 := ⟨tb3 222 (by decide +kernel) rfl, tb1 9 (by decide +kernel) rfl, by decide +kernel, by decide +kernel, by decide +kernel⟩
theorem wi_X5_itemAt : Cond.instanceMethod yX5_itemAt ∈ TB := tb3 220 (by decide +kernel) rfl
theorem ws_X5_itemAt : Cond.selects yX5_itemAt.cls yX5_itemAt yX5_itemAt ∈ TB := tb3 221 (by decide +kernel) rfl
theorem wq_X5_becomeAt : pm_k yX5_becomeAt cX5_becomeAt 4 none 2 := ⟨tb4 16 (by decide +kernel) rfl, tb1 9 (by decide +kernel) rfl, by decide +kernel, by decide +kernel, by decide +kernel⟩
theorem wi_X5_becomeAt : Cond.instanceMethod yX5_becomeAt ∈ TB := tb4 14 (by decide +kernel) rfl
theorem ws_X5_becomeAt : Cond.selects yX5_becomeAt.cls yX5_becomeAt yX5_becomeAt ∈ TB := tb4 15 (by decide +kernel) rfl
theorem wq_X5_takeItems : pm_k yX5_takeItems cX5_takeItems 5 none 4 := ⟨tb4 54 (by decide +kernel) rfl, tb1 9 (by decide +kernel) rfl, by decide +kernel, by decide +kernel, by decide +kernel⟩
theorem wi_X5_takeItems : Cond.instanceMethod yX5_takeItems ∈ TB := tb4 52 (by decide +kernel) rfl
theorem ws_X5_takeItems : Cond.selects yX5_takeItems.cls yX5_takeItems yX5_takeItems ∈ TB := tb4 53 (by decide +kernel) rfl
theorem wq_X6_init : pm_k yX6_init cX6_init 1 none 0 := ⟨tb1 94 (by decide +kernel) rfl, tb1 6 (by decide +kernel) rfl, by decide +kernel, by decide +kernel, by decide +kernel⟩
theorem wi_X6_init : Cond.instanceMethod yX6_init ∈ TB := tb1 93 (by decide +kernel) rfl
theorem wq_X6_append : pm_k yX6_append cX6_append 5 (some (.int)) 2 := ⟨tb2 41 (by decide +kernel) rfl, tb1 6 (by decide +kernel) rfl, by decide +kernel, by decide +kernel, by decide +kernel⟩
theorem wi_X6_append : Cond.instanceMethod yX6_append ∈ TB := tb2 39 (by decide +kernel) rfl
theorem ws_X6_append : Cond.selects yX6_append.cls yX6_append yX6_append ∈ TB := tb2 40 (by decide +kernel) rfl
theorem wq_X6_byteOf : pm_k yX6_byteOf cX6_byteOf 3 (some (.int)) 2 := ⟨tb2 45 (by decide +kernel) rfl, tb1 6 (by decide +kernel) rfl, by decide +kernel, by decide +kernel, by decide +kernel⟩
theorem wt_X6_byteOf : Cond.static yX6_byteOf ∈ TB := tb2 44 (by decide +kernel) rfl
theorem wq_X6_empty : pm_k yX6_empty cX6_empty 1 none 0 := ⟨tb2 180 (by decide +kernel) rfl, tb1 6 (by decide +kernel) rfl, by decide +kernel, by decide +kernel, by decide +kernel⟩
theorem wi_X6_empty : Cond.instanceMethod yX6_empty ∈ TB := tb2 178 (by decide +kernel) rfl
theorem ws_X6_empty : Cond.selects yX6_empty.cls yX6_empty yX6_empty ∈ TB := tb2 179 (by decide +kernel) rfl
theorem wq_X6_fault : pm_k yX6_fault cX6_fault 1 (some (.int)) 0 := ⟨tb2 172 (by decide +kernel) rfl, tb1 6 (by decide +kernel) rfl, by decide +kernel, by decide +kernel, by decide +kernel⟩
theorem wi_X6_fault : Cond.instanceMethod yX6_fault ∈ TB := tb2 170 (by decide +kernel) rfl
theorem ws_X6_fault : Cond.selects yX6_fault.cls yX6_fault yX6_fault ∈ TB := tb2 171 (by decide +kernel) rfl
theorem wq_X6_isAtEnd : pm_k yX6_isAtEnd cX6_isAtEnd 1 (some (.boolean)) 0 := ⟨tb2 176 (by decide +kernel) rfl, tb1 6 (by decide +kernel) rfl, by decide +kernel, by decide +kernel, by decide +kernel⟩
theorem wi_X6_isAtEnd : Cond.instanceMethod yX6_isAtEnd ∈ TB := tb2 174 (by decide +kernel) rfl
theorem ws_X6_isAtEnd : Cond.selects yX6_isAtEnd.cls yX6_isAtEnd yX6_isAtEnd ∈ TB := tb2 175 (by decide +kernel) rfl
theorem wq_X6_skipBlanks : pm_k yX6_skipBlanks cX6_skipBlanks 1 none 0 := ⟨tb2 77 (by decide +kernel) rfl, tb1 6 (by decide +kernel) rfl, by decide +kernel, by decide +kernel, by decide +kernel⟩
theorem wi_X6_skipBlanks : Cond.instanceMethod yX6_skipBlanks ∈ TB := tb2 76 (by decide +kernel) rfl
theorem ws_X6_skipBlanks : Cond.selects yX6_skipBlanks.cls yX6_skipBlanks yX6_skipBlanks ∈ TB := tbp 1 (by decide +kernel) rfl
theorem wq_X6_choice : pm_k yX6_choice cX6_choice 2 (some (.int)) 1 := ⟨tb2 59 (by decide +kernel) rfl, tb1 6 (by decide +kernel) rfl, by decide +kernel, by decide +kernel, by decide +kernel⟩
theorem wi_X6_choice : Cond.instanceMethod yX6_choice ∈ TB := tb2 57 (by decide +kernel) rfl
theorem ws_X6_choice : Cond.selects yX6_choice.cls yX6_choice yX6_choice ∈ TB := tb2 58 (by decide +kernel) rfl
theorem wq_X6_choice_ : pm_k yX6_choice_ cX6_choice_ 5 (some (.int)) 3 := ⟨tb2 73 (by decide +kernel) rfl, tb1 6 (by decide +kernel) rfl, by decide +kernel, by decide +kernel, by decide +kernel⟩
theorem wi_X6_choice_ : Cond.instanceMethod yX6_choice_ ∈ TB := tb2 71 (by decide +kernel) rfl
theorem ws_X6_choice_ : Cond.selects yX6_choice_.cls yX6_choice_ yX6_choice_ ∈ TB := tb2 72 (by decide +kernel) rfl
theorem wq_X6_number : pm_k yX6_number cX6_number 3 (some (.int)) 0 := ⟨tb2 163 (by decide +kernel) rfl, tb1 6 (by decide +kernel) rfl, by decide +kernel, by decide +kernel, by decide +kernel⟩
theorem wi_X6_number : Cond.instanceMethod yX6_number ∈ TB := tb2 161 (by decide +kernel) rfl
theorem ws_X6_number : Cond.selects yX6_number.cls yX6_number yX6_number ∈ TB := tb2 162 (by decide +kernel) rfl
theorem wq_X7_init : pm_k yX7_init cX7_init 1 none 0 := ⟨tb1 71 (by decide +kernel) rfl, tb1 4 (by decide +kernel) rfl, by decide +kernel, by decide +kernel, by decide +kernel⟩
theorem wi_X7_init : Cond.instanceMethod yX7_init ∈ TB := tb1 70 (by decide +kernel) rfl
theorem wq_X7_fewestActs : pm_k yX7_fewestActs cX7_fewestActs 4 (some (.int)) 2 := ⟨tb3 80 (by decide +kernel) rfl, tb1 4 (by decide +kernel) rfl, by decide +kernel, by decide +kernel, by decide +kernel⟩
theorem wi_X7_fewestActs : Cond.instanceMethod yX7_fewestActs ∈ TB := tb3 78 (by decide +kernel) rfl
theorem ws_X7_fewestActs : Cond.selects yX7_fewestActs.cls yX7_fewestActs yX7_fewestActs ∈ TB := tb3 79 (by decide +kernel) rfl
theorem wq_X7_codeAt : pm_k yX7_codeAt cX7_codeAt 2 (some (.int)) 1 := ⟨tb3 112 (by decide +kernel) rfl, tb1 4 (by decide +kernel) rfl, by decide +kernel, by decide +kernel, by decide +kernel⟩
theorem wi_X7_codeAt : Cond.instanceMethod yX7_codeAt ∈ TB := tb3 110 (by decide +kernel) rfl
theorem ws_X7_codeAt : Cond.selects yX7_codeAt.cls yX7_codeAt yX7_codeAt ∈ TB := tb3 111 (by decide +kernel) rfl
theorem wq_X7_search : pm_k yX7_search cX7_search 11 (some (.boolean)) 5 := ⟨tb3 84 (by decide +kernel) rfl, tb1 4 (by decide +kernel) rfl, by decide +kernel, by decide +kernel, by decide +kernel⟩
theorem wt_X7_search : Cond.static yX7_search ∈ TB := tb3 83 (by decide +kernel) rfl
theorem wq_X7_canHelp : pm_k yX7_canHelp cX7_canHelp 3 (some (.boolean)) 3 := ⟨tb3 88 (by decide +kernel) rfl, tb1 4 (by decide +kernel) rfl, by decide +kernel, by decide +kernel, by decide +kernel⟩
theorem wt_X7_canHelp : Cond.static yX7_canHelp ∈ TB := tb3 87 (by decide +kernel) rfl
theorem wq_X7_othersOf : pm_k yX7_othersOf cX7_othersOf 2 (some (.int)) 2 := ⟨tb3 91 (by decide +kernel) rfl, tb1 4 (by decide +kernel) rfl, by decide +kernel, by decide +kernel, by decide +kernel⟩
theorem wt_X7_othersOf : Cond.static yX7_othersOf ∈ TB := tb3 90 (by decide +kernel) rfl
theorem wq_X7_leads : pm_k yX7_leads cX7_leads 8 (some (.boolean)) 5 := ⟨tb3 96 (by decide +kernel) rfl, tb1 4 (by decide +kernel) rfl, by decide +kernel, by decide +kernel, by decide +kernel⟩
theorem wt_X7_leads : Cond.static yX7_leads ∈ TB := tb3 95 (by decide +kernel) rfl
theorem wq_X8_init : pm_k yX8_init cX8_init 1 none 0 := ⟨tb1 81 (by decide +kernel) rfl, tb1 5 (by decide +kernel) rfl, by decide +kernel, by decide +kernel, by decide +kernel⟩
theorem wi_X8_init : Cond.instanceMethod yX8_init ∈ TB := tb1 80 (by decide +kernel) rfl
theorem wq_X8_pairsUnder : pm_k yX8_pairsUnder cX8_pairsUnder 8 (some (.int)) 2 := ⟨tb3 119 (by decide +kernel) rfl, tb1 5 (by decide +kernel) rfl, by decide +kernel, by decide +kernel, by decide +kernel⟩
theorem wt_X8_pairsUnder : Cond.static yX8_pairsUnder ∈ TB := tb3 118 (by decide +kernel) rfl
theorem wq_X8_fewestAstray : pm_k yX8_fewestAstray cX8_fewestAstray 5 (some (.int)) 1 := ⟨tb3 134 (by decide +kernel) rfl, tb1 5 (by decide +kernel) rfl, by decide +kernel, by decide +kernel, by decide +kernel⟩
theorem wi_X8_fewestAstray : Cond.instanceMethod yX8_fewestAstray ∈ TB := tb3 132 (by decide +kernel) rfl
theorem ws_X8_fewestAstray : Cond.selects yX8_fewestAstray.cls yX8_fewestAstray yX8_fewestAstray ∈ TB := tb3 133 (by decide +kernel) rfl
theorem wq_X8_give : pm_k yX8_give cX8_give 7 none 2 := ⟨tb3 139 (by decide +kernel) rfl, tb1 5 (by decide +kernel) rfl, by decide +kernel, by decide +kernel, by decide +kernel⟩
theorem wi_X8_give : Cond.instanceMethod yX8_give ∈ TB := tb3 138 (by decide +kernel) rfl
theorem ws_X8_give : Cond.selects yX8_give.cls yX8_give yX8_give ∈ TB := tbp 6 (by decide +kernel) rfl
theorem wq_X8_astrayIn : pm_k yX8_astrayIn cX8_astrayIn 6 (some (.int)) 3 := ⟨tb3 142 (by decide +kernel) rfl, tb1 5 (by decide +kernel) rfl, by decide +kernel, by decide +kernel, by decide +kernel⟩
theorem wt_X8_astrayIn : Cond.static yX8_astrayIn ∈ TB := tb3 141 (by decide +kernel) rfl
theorem wq_X8_townsInPlaces : pm_k yX8_townsInPlaces cX8_townsInPlaces 4 (some (.int)) 1 := ⟨tb3 151 (by decide +kernel) rfl, tb1 5 (by decide +kernel) rfl, by decide +kernel, by decide +kernel, by decide +kernel⟩
theorem wt_X8_townsInPlaces : Cond.static yX8_townsInPlaces ∈ TB := tb3 150 (by decide +kernel) rfl
theorem wq_X9_init : pm_k yX9_init cX9_init 2 none 0 := ⟨tb1 25 (by decide +kernel) rfl, tb1 1 (by decide +kernel) rfl, by decide +kernel, by decide +kernel, by decide +kernel⟩
theorem wi_X9_init : Cond.instanceMethod yX9_init ∈ TB := tb1 24 (by decide +kernel) rfl
theorem wq_X9_piece : pm_k yX9_piece cX9_piece 5 (some (.int)) 4 := ⟨tb1 185 (by decide +kernel) rfl, tb1 1 (by decide +kernel) rfl, by decide +kernel, by decide +kernel, by decide +kernel⟩
theorem wi_X9_piece : Cond.instanceMethod yX9_piece ∈ TB := tb1 183 (by decide +kernel) rfl
theorem ws_X9_piece : Cond.selects yX9_piece.cls yX9_piece yX9_piece ∈ TB := tb1 184 (by decide +kernel) rfl
theorem wq_X9_told : pm_k yX9_told cX9_told 3 (some (.int)) 2 := ⟨tb1 210 (by decide +kernel) rfl, tb1 1 (by decide +kernel) rfl, by decide +kernel, by decide +kernel, by decide +kernel⟩
theorem wi_X9_told : Cond.instanceMethod yX9_told ∈ TB := tb1 208 (by decide +kernel) rfl
theorem ws_X9_told : Cond.selects yX9_told.cls yX9_told yX9_told ∈ TB := tb1 209 (by decide +kernel) rfl
theorem wq_X9_of : pm_k yX9_of cX9_of 3 (some (.int)) 2 := ⟨tb2 0 (by decide +kernel) rfl, tb1 1 (by decide +kernel) rfl, by decide +kernel, by decide +kernel, by decide +kernel⟩
theorem wi_X9_of : Cond.instanceMethod yX9_of ∈ TB := tb1 238 (by decide +kernel) rfl
theorem ws_X9_of : Cond.selects yX9_of.cls yX9_of yX9_of ∈ TB := tb1 239 (by decide +kernel) rfl
theorem wq_X9_sense : pm_k yX9_sense cX9_sense 4 (some (.int)) 2 := ⟨tb2 29 (by decide +kernel) rfl, tb1 1 (by decide +kernel) rfl, by decide +kernel, by decide +kernel, by decide +kernel⟩
theorem wi_X9_sense : Cond.instanceMethod yX9_sense ∈ TB := tb2 27 (by decide +kernel) rfl
theorem ws_X9_sense : Cond.selects yX9_sense.cls yX9_sense yX9_sense ∈ TB := tb2 28 (by decide +kernel) rfl
theorem wq_X9_type : pm_k yX9_type cX9_type 4 (some (.int)) 2 := ⟨tb2 37 (by decide +kernel) rfl, tb1 1 (by decide +kernel) rfl, by decide +kernel, by decide +kernel, by decide +kernel⟩
theorem wi_X9_type : Cond.instanceMethod yX9_type ∈ TB := tb2 35 (by decide +kernel) rfl
theorem ws_X9_type : Cond.selects yX9_type.cls yX9_type yX9_type ∈ TB := tb2 36 (by decide +kernel) rfl
theorem wq_X9_heap : pm_k yX9_heap cX9_heap 2 (some (.int)) 0 := ⟨tb2 50 (by decide +kernel) rfl, tb1 1 (by decide +kernel) rfl, by decide +kernel, by decide +kernel, by decide +kernel⟩
theorem wi_X9_heap : Cond.instanceMethod yX9_heap ∈ TB := tb2 48 (by decide +kernel) rfl
theorem ws_X9_heap : Cond.selects yX9_heap.cls yX9_heap yX9_heap ∈ TB := tb2 49 (by decide +kernel) rfl
theorem wq_X9_night : pm_k yX9_night cX9_night 2 (some (.int)) 0 := ⟨tb2 194 (by decide +kernel) rfl, tb1 1 (by decide +kernel) rfl, by decide +kernel, by decide +kernel, by decide +kernel⟩
theorem wi_X9_night : Cond.instanceMethod yX9_night ∈ TB := tb2 192 (by decide +kernel) rfl
theorem ws_X9_night : Cond.selects yX9_night.cls yX9_night yX9_night ∈ TB := tb2 193 (by decide +kernel) rfl
theorem wq_X9_count : pm_k yX9_count cX9_count 2 (some (.int)) 1 := ⟨tb3 28 (by decide +kernel) rfl, tb1 1 (by decide +kernel) rfl, by decide +kernel, by decide +kernel, by decide +kernel⟩
theorem wi_X9_count : Cond.instanceMethod yX9_count ∈ TB := tb3 26 (by decide +kernel) rfl
theorem ws_X9_count : Cond.selects yX9_count.cls yX9_count yX9_count ∈ TB := tb3 27 (by decide +kernel) rfl
theorem wq_X9_lift : pm_k yX9_lift cX9_lift 4 (some (.int)) 1 := ⟨tb3 41 (by decide +kernel) rfl, tb1 1 (by decide +kernel) rfl, by decide +kernel, by decide +kernel, by decide +kernel⟩
theorem wi_X9_lift : Cond.instanceMethod yX9_lift ∈ TB := tb3 39 (by decide +kernel) rfl
theorem ws_X9_lift : Cond.selects yX9_lift.cls yX9_lift yX9_lift ∈ TB := tb3 40 (by decide +kernel) rfl
theorem wq_X9_lay : pm_k yX9_lay cX9_lay 4 (some (.int)) 2 := ⟨tb3 47 (by decide +kernel) rfl, tb1 1 (by decide +kernel) rfl, by decide +kernel, by decide +kernel, by decide +kernel⟩
theorem wi_X9_lay : Cond.instanceMethod yX9_lay ∈ TB := tb3 45 (by decide +kernel) rfl
theorem ws_X9_lay : Cond.selects yX9_lay.cls yX9_lay yX9_lay ∈ TB := tb3 46 (by decide +kernel) rfl
theorem wq_X9_swap : pm_k yX9_swap cX9_swap 5 (some (.int)) 2 := ⟨tb3 51 (by decide +kernel) rfl, tb1 1 (by decide +kernel) rfl, by decide +kernel, by decide +kernel, by decide +kernel⟩
theorem wi_X9_swap : Cond.instanceMethod yX9_swap ∈ TB := tb3 49 (by decide +kernel) rfl
theorem ws_X9_swap : Cond.selects yX9_swap.cls yX9_swap yX9_swap ∈ TB := tb3 50 (by decide +kernel) rfl
theorem wq_X9_push : pm_k yX9_push cX9_push 5 (some (.int)) 2 := ⟨tb3 55 (by decide +kernel) rfl, tb1 1 (by decide +kernel) rfl, by decide +kernel, by decide +kernel, by decide +kernel⟩
theorem wi_X9_push : Cond.instanceMethod yX9_push ∈ TB := tb3 53 (by decide +kernel) rfl
theorem ws_X9_push : Cond.selects yX9_push.cls yX9_push yX9_push ∈ TB := tb3 54 (by decide +kernel) rfl
theorem wq_X9_turn : pm_k yX9_turn cX9_turn 1 (some (.int)) 0 := ⟨tb3 59 (by decide +kernel) rfl, tb1 1 (by decide +kernel) rfl, by decide +kernel, by decide +kernel, by decide +kernel⟩
theorem wi_X9_turn : Cond.instanceMethod yX9_turn ∈ TB := tb3 57 (by decide +kernel) rfl
theorem ws_X9_turn : Cond.selects yX9_turn.cls yX9_turn yX9_turn ∈ TB := tb3 58 (by decide +kernel) rfl
theorem wq_X9_had : pm_k yX9_had cX9_had 4 (some (.int)) 2 := ⟨tb3 76 (by decide +kernel) rfl, tb1 1 (by decide +kernel) rfl, by decide +kernel, by decide +kernel, by decide +kernel⟩
theorem wi_X9_had : Cond.instanceMethod yX9_had ∈ TB := tb3 74 (by decide +kernel) rfl
theorem ws_X9_had : Cond.selects yX9_had.cls yX9_had yX9_had ∈ TB := tb3 75 (by decide +kernel) rfl
theorem wq_X9_under : pm_k yX9_under cX9_under 2 (some (.int)) 1 := ⟨tb3 116 (by decide +kernel) rfl, tb1 1 (by decide +kernel) rfl, by decide +kernel, by decide +kernel, by decide +kernel⟩
theorem wi_X9_under : Cond.instanceMethod yX9_under ∈ TB := tb3 114 (by decide +kernel) rfl
theorem ws_X9_under : Cond.selects yX9_under.cls yX9_under yX9_under ∈ TB := tb3 115 (by decide +kernel) rfl
theorem wq_X9_own : pm_k yX9_own cX9_own 1 (some (.int)) 0 := ⟨tb3 130 (by decide +kernel) rfl, tb1 1 (by decide +kernel) rfl, by decide +kernel, by decide +kernel, by decide +kernel⟩
theorem wi_X9_own : Cond.instanceMethod yX9_own ∈ TB := tb3 128 (by decide +kernel) rfl
theorem ws_X9_own : Cond.selects yX9_own.cls yX9_own yX9_own ∈ TB := tb3 129 (by decide +kernel) rfl
theorem wq_X9_odds : pm_k yX9_odds cX9_odds 7 (some (.int)) 5 := ⟨tb3 156 (by decide +kernel) rfl, tb1 1 (by decide +kernel) rfl, by decide +kernel, by decide +kernel, by decide +kernel⟩
theorem wi_X9_odds : Cond.instanceMethod yX9_odds ∈ TB := tb3 154 (by decide +kernel) rfl
theorem ws_X9_odds : Cond.selects yX9_odds.cls yX9_odds yX9_odds ∈ TB := tb3 155 (by decide +kernel) rfl
theorem wq_X9_share : pm_k yX9_share cX9_share 6 (some (.int)) 3 := ⟨tb3 173 (by decide +kernel) rfl, tb1 1 (by decide +kernel) rfl, by decide +kernel, by decide +kernel, by decide +kernel⟩
theorem wi_X9_share : Cond.instanceMethod yX9_share ∈ TB := tb3 171 (by decide +kernel) rfl
theorem ws_X9_share : Cond.selects yX9_share.cls yX9_share yX9_share ∈ TB := tb3 172 (by decide +kernel) rfl
theorem wq_X9_image : pm_k yX9_image cX9_image 1 (some (.int)) 0 := ⟨tb3 186 (by decide +kernel) rfl, tb1 1 (by decide +kernel) rfl, by decide +kernel, by decide +kernel, by decide +kernel⟩
theorem wi_X9_image : Cond.instanceMethod yX9_image ∈ TB := tb3 184 (by decide +kernel) rfl
theorem ws_X9_image : Cond.selects yX9_image.cls yX9_image yX9_image ∈ TB := tb3 185 (by decide +kernel) rfl
theorem wq_X9_restore : pm_k yX9_restore cX9_restore 1 (some (.int)) 0 := ⟨tb3 195 (by decide +kernel) rfl, tb1 1 (by decide +kernel) rfl, by decide +kernel, by decide +kernel, by decide +kernel⟩
theorem wi_X9_restore : Cond.instanceMethod yX9_restore ∈ TB := tb3 193 (by decide +kernel) rfl
theorem ws_X9_restore : Cond.selects yX9_restore.cls yX9_restore yX9_restore ∈ TB := tb3 194 (by decide +kernel) rfl
theorem wq_X9_dents : pm_k yX9_dents cX9_dents 12 (some (.int)) 4 := ⟨tb3 199 (by decide +kernel) rfl, tb1 1 (by decide +kernel) rfl, by decide +kernel, by decide +kernel, by decide +kernel⟩
theorem wi_X9_dents : Cond.instanceMethod yX9_dents ∈ TB := tb3 197 (by decide +kernel) rfl
theorem ws_X9_dents : Cond.selects yX9_dents.cls yX9_dents yX9_dents ∈ TB := tb3 198 (by decide +kernel) rfl
theorem wq_X9_tried : pm_k yX9_tried cX9_tried 15 (some (.int)) 5 := ⟨tb4 2 (by decide +kernel) rfl, tb1 1 (by decide +kernel) rfl, by decide +kernel, by decide +kernel, by decide +kernel⟩
theorem wi_X9_tried : Cond.instanceMethod yX9_tried ∈ TB := tb4 0 (by decide +kernel) rfl
theorem ws_X9_tried : Cond.selects yX9_tried.cls yX9_tried yX9_tried ∈ TB := tb4 1 (by decide +kernel) rfl
theorem wq_X9_film : pm_k yX9_film cX9_film 7 (some (.int)) 3 := ⟨tb4 12 (by decide +kernel) rfl, tb1 1 (by decide +kernel) rfl, by decide +kernel, by decide +kernel, by decide +kernel⟩
theorem wi_X9_film : Cond.instanceMethod yX9_film ∈ TB := tb4 10 (by decide +kernel) rfl
theorem ws_X9_film : Cond.selects yX9_film.cls yX9_film yX9_film ∈ TB := tb4 11 (by decide +kernel) rfl
theorem wq_X9_sheet : pm_k yX9_sheet cX9_sheet 5 (some (.int)) 3 := ⟨tb4 20 (by decide +kernel) rfl, tb1 1 (by decide +kernel) rfl, by decide +kernel, by decide +kernel, by decide +kernel⟩
theorem wi_X9_sheet : Cond.instanceMethod yX9_sheet ∈ TB := tb4 18 (by decide +kernel) rfl
theorem ws_X9_sheet : Cond.selects yX9_sheet.cls yX9_sheet yX9_sheet ∈ TB := tb4 19 (by decide +kernel) rfl
theorem wq_X9_drop : pm_k yX9_drop cX9_drop 3 (some (.int)) 1 := ⟨tb4 32 (by decide +kernel) rfl, tb1 1 (by decide +kernel) rfl, by decide +kernel, by decide +kernel, by decide +kernel⟩
theorem wi_X9_drop : Cond.instanceMethod yX9_drop ∈ TB := tb4 30 (by decide +kernel) rfl
theorem ws_X9_drop : Cond.selects yX9_drop.cls yX9_drop yX9_drop ∈ TB := tb4 31 (by decide +kernel) rfl
theorem wq_X9_item : pm_k yX9_item cX9_item 8 (some (.int)) 4 := ⟨tb4 41 (by decide +kernel) rfl, tb1 1 (by decide +kernel) rfl, by decide +kernel, by decide +kernel, by decide +kernel⟩
theorem wi_X9_item : Cond.instanceMethod yX9_item ∈ TB := tb4 39 (by decide +kernel) rfl
theorem ws_X9_item : Cond.selects yX9_item.cls yX9_item yX9_item ∈ TB := tb4 40 (by decide +kernel) rfl
theorem wq_X9_copy : pm_k yX9_copy cX9_copy 8 (some (.int)) 5 := ⟨tb4 45 (by decide +kernel) rfl, tb1 1 (by decide +kernel) rfl, by decide +kernel, by decide +kernel, by decide +kernel⟩
theorem wi_X9_copy : Cond.instanceMethod yX9_copy ∈ TB := tb4 43 (by decide +kernel) rfl
theorem ws_X9_copy : Cond.selects yX9_copy.cls yX9_copy yX9_copy ∈ TB := tb4 44 (by decide +kernel) rfl
theorem wq_X9_isIn : pm_k yX9_isIn cX9_isIn 3 (some (.boolean)) 3 := ⟨tb1 188 (by decide +kernel) rfl, tb1 1 (by decide +kernel) rfl, by decide +kernel, by decide +kernel, by decide +kernel⟩
theorem wt_X9_isIn : Cond.static yX9_isIn ∈ TB := tb1 187 (by decide +kernel) rfl
theorem wq_X9_isPlace : pm_k yX9_isPlace cX9_isPlace 1 (some (.boolean)) 1 := ⟨tb1 206 (by decide +kernel) rfl, tb1 1 (by decide +kernel) rfl, by decide +kernel, by decide +kernel, by decide +kernel⟩
theorem wt_X9_isPlace : Cond.static yX9_isPlace ∈ TB := tb1 205 (by decide +kernel) rfl
theorem wq_X9_isTown : pm_k yX9_isTown cX9_isTown 1 (some (.boolean)) 1 := ⟨tb1 191 (by decide +kernel) rfl, tb1 1 (by decide +kernel) rfl, by decide +kernel, by decide +kernel, by decide +kernel⟩
theorem wt_X9_isTown : Cond.static yX9_isTown ∈ TB := tb1 190 (by decide +kernel) rfl
theorem wq_X9_isLane : pm_k yX9_isLane cX9_isLane 1 (some (.boolean)) 1 := ⟨tb3 206 (by decide +kernel) rfl, tb1 1 (by decide +kernel) rfl, by decide +kernel, by decide +kernel, by decide +kernel⟩
theorem wt_X9_isLane : Cond.static yX9_isLane ∈ TB := tb3 205 (by decide +kernel) rfl
theorem wq_X9_isPart : pm_k yX9_isPart cX9_isPart 1 (some (.boolean)) 1 := ⟨tb3 159 (by decide +kernel) rfl, tb1 1 (by decide +kernel) rfl, by decide +kernel, by decide +kernel, by decide +kernel⟩
theorem wt_X9_isPart : Cond.static yX9_isPart ∈ TB := tb3 158 (by decide +kernel) rfl
theorem wq_X9_holds : pm_k yX9_holds cX9_holds 2 (some (.boolean)) 2 := ⟨tb3 176 (by decide +kernel) rfl, tb1 1 (by decide +kernel) rfl, by decide +kernel, by decide +kernel, by decide +kernel⟩
theorem wt_X9_holds : Cond.static yX9_holds ∈ TB := tb3 175 (by decide +kernel) rfl
theorem wq_X9_sheetAt : pm_k yX9_sheetAt cX9_sheetAt 2 (some (.object "WormHeap$Sheet")) 1 := ⟨tb3 203 (by decide +kernel) rfl, tb1 1 (by decide +kernel) rfl, by decide +kernel, by decide +kernel, by decide +kernel⟩
theorem wi_X9_sheetAt : Cond.instanceMethod yX9_sheetAt ∈ TB := tb3 202 (by decide +kernel) rfl
theorem ws_X9_sheetAt : Cond.selects yX9_sheetAt.cls yX9_sheetAt yX9_sheetAt ∈ TB := tbp 7 (by decide +kernel) rfl
theorem wq_X9_amongSenses : pm_k yX9_amongSenses cX9_amongSenses 4 (some (.int)) 3 := ⟨tb4 8 (by decide +kernel) rfl, tb1 1 (by decide +kernel) rfl, by decide +kernel, by decide +kernel, by decide +kernel⟩
theorem wt_X9_amongSenses : Cond.static yX9_amongSenses ∈ TB := tb4 7 (by decide +kernel) rfl
theorem wq_X9_power : pm_k yX9_power cX9_power 4 (some (.int)) 2 := ⟨tb3 163 (by decide +kernel) rfl, tb1 1 (by decide +kernel) rfl, by decide +kernel, by decide +kernel, by decide +kernel⟩
theorem wt_X9_power : Cond.static yX9_power ∈ TB := tb3 162 (by decide +kernel) rfl
theorem wq_X9_partOf : pm_k yX9_partOf cX9_partOf 5 (some (.int)) 3 := ⟨tb3 166 (by decide +kernel) rfl, tb1 1 (by decide +kernel) rfl, by decide +kernel, by decide +kernel, by decide +kernel⟩
theorem wt_X9_partOf : Cond.static yX9_partOf ∈ TB := tb3 165 (by decide +kernel) rfl
theorem wq_X9_commonDivisor : pm_k yX9_commonDivisor cX9_commonDivisor 6 (some (.int)) 2 := ⟨tb3 169 (by decide +kernel) rfl, tb1 1 (by decide +kernel) rfl, by decide +kernel, by decide +kernel, by decide +kernel⟩
theorem wt_X9_commonDivisor : Cond.static yX9_commonDivisor ∈ TB := tb3 168 (by decide +kernel) rfl
theorem wq_X10_init : pm_k yX10_init cX10_init 2 none 0 := ⟨tb4 60 (by decide +kernel) rfl, tb1 10 (by decide +kernel) rfl, by decide +kernel, by decide +kernel, by decide +kernel⟩
theorem wi_X10_init : Cond.instanceMethod yX10_init ∈ TB := tb4 59 (by decide +kernel) rfl
theorem wq_X10_in : pm_k yX10_in cX10_in 6 (some (.boolean)) 3 := ⟨tb4 172 (by decide +kernel) rfl, tb1 10 (by decide +kernel) rfl, by decide +kernel, by decide +kernel, by decide +kernel⟩
theorem wt_X10_in : Cond.static yX10_in ∈ TB := tb4 171 (by decide +kernel) rfl
theorem wq_X10_isPiece : pm_k yX10_isPiece cX10_isPiece 2 (some (.boolean)) 1 := ⟨tb4 190 (by decide +kernel) rfl, tb1 10 (by decide +kernel) rfl, by decide +kernel, by decide +kernel, by decide +kernel⟩
theorem wi_X10_isPiece : Cond.instanceMethod yX10_isPiece ∈ TB := tb4 189 (by decide +kernel) rfl
theorem ws_X10_isPiece : Cond.selects yX10_isPiece.cls yX10_isPiece yX10_isPiece ∈ TB := tbp 10 (by decide +kernel) rfl
theorem wq_X10_isPlace : pm_k yX10_isPlace cX10_isPlace 1 (some (.boolean)) 1 := ⟨tb4 209 (by decide +kernel) rfl, tb1 10 (by decide +kernel) rfl, by decide +kernel, by decide +kernel, by decide +kernel⟩
theorem wt_X10_isPlace : Cond.static yX10_isPlace ∈ TB := tb4 208 (by decide +kernel) rfl
theorem wq_X10_weighs : pm_k yX10_weighs cX10_weighs 2 (some (.int)) 1 := ⟨tb4 194 (by decide +kernel) rfl, tb1 10 (by decide +kernel) rfl, by decide +kernel, by decide +kernel, by decide +kernel⟩
theorem wi_X10_weighs : Cond.instanceMethod yX10_weighs ∈ TB := tb4 193 (by decide +kernel) rfl
theorem ws_X10_weighs : Cond.selects yX10_weighs.cls yX10_weighs yX10_weighs ∈ TB := tbp 11 (by decide +kernel) rfl
theorem wq_X10_townOf : pm_k yX10_townOf cX10_townOf 2 (some (.int)) 1 := ⟨tb4 198 (by decide +kernel) rfl, tb1 10 (by decide +kernel) rfl, by decide +kernel, by decide +kernel, by decide +kernel⟩
theorem wi_X10_townOf : Cond.instanceMethod yX10_townOf ∈ TB := tb4 197 (by decide +kernel) rfl
theorem ws_X10_townOf : Cond.selects yX10_townOf.cls yX10_townOf yX10_townOf ∈ TB := tbp 12 (by decide +kernel) rfl
theorem wq_X10_topOf : pm_k yX10_topOf cX10_topOf 2 (some (.int)) 1 := ⟨tb4 218 (by decide +kernel) rfl, tb1 10 (by decide +kernel) rfl, by decide +kernel, by decide +kernel, by decide +kernel⟩
theorem wi_X10_topOf : Cond.instanceMethod yX10_topOf ∈ TB := tb4 217 (by decide +kernel) rfl
theorem ws_X10_topOf : Cond.selects yX10_topOf.cls yX10_topOf yX10_topOf ∈ TB := tbp 15 (by decide +kernel) rfl
theorem wq_X10_put : pm_k yX10_put cX10_put 3 none 2 := ⟨tb4 182 (by decide +kernel) rfl, tb1 10 (by decide +kernel) rfl, by decide +kernel, by decide +kernel, by decide +kernel⟩
theorem wi_X10_put : Cond.instanceMethod yX10_put ∈ TB := tb4 181 (by decide +kernel) rfl
theorem ws_X10_put : Cond.selects yX10_put.cls yX10_put yX10_put ∈ TB := tbp 9 (by decide +kernel) rfl
theorem wq_X10_takeTop : pm_k yX10_takeTop cX10_takeTop 3 (some (.int)) 1 := ⟨tb5 84 (by decide +kernel) rfl, tb1 10 (by decide +kernel) rfl, by decide +kernel, by decide +kernel, by decide +kernel⟩
theorem wi_X10_takeTop : Cond.instanceMethod yX10_takeTop ∈ TB := tb5 83 (by decide +kernel) rfl
theorem ws_X10_takeTop : Cond.selects yX10_takeTop.cls yX10_takeTop yX10_takeTop ∈ TB := tbp 32 (by decide +kernel) rfl
theorem wq_X10_loadOf : pm_k yX10_loadOf cX10_loadOf 4 (some (.int)) 1 := ⟨tb4 214 (by decide +kernel) rfl, tb1 10 (by decide +kernel) rfl, by decide +kernel, by decide +kernel, by decide +kernel⟩
theorem wi_X10_loadOf : Cond.instanceMethod yX10_loadOf ∈ TB := tb4 213 (by decide +kernel) rfl
theorem ws_X10_loadOf : Cond.selects yX10_loadOf.cls yX10_loadOf yX10_loadOf ∈ TB := tbp 14 (by decide +kernel) rfl
theorem wq_X10_addPiece : pm_k yX10_addPiece cX10_addPiece 5 none 4 := ⟨tb4 178 (by decide +kernel) rfl, tb1 10 (by decide +kernel) rfl, by decide +kernel, by decide +kernel, by decide +kernel⟩
theorem wi_X10_addPiece : Cond.instanceMethod yX10_addPiece ∈ TB := tb4 177 (by decide +kernel) rfl
theorem ws_X10_addPiece : Cond.selects yX10_addPiece.cls yX10_addPiece yX10_addPiece ∈ TB := tbp 8 (by decide +kernel) rfl
theorem wq_X10_piece : pm_k yX10_piece cX10_piece 5 (some (.int)) 4 := ⟨tb4 168 (by decide +kernel) rfl, tb1 10 (by decide +kernel) rfl, by decide +kernel, by decide +kernel, by decide +kernel⟩
theorem wi_X10_piece : Cond.instanceMethod yX10_piece ∈ TB := tb4 166 (by decide +kernel) rfl
theorem ws_X10_piece : Cond.selects yX10_piece.cls yX10_piece yX10_piece ∈ TB := tb4 167 (by decide +kernel) rfl
theorem wq_X10_offOf : pm_k yX10_offOf cX10_offOf 5 (some (.int)) 1 := ⟨tb4 202 (by decide +kernel) rfl, tb1 10 (by decide +kernel) rfl, by decide +kernel, by decide +kernel, by decide +kernel⟩
theorem wi_X10_offOf : Cond.instanceMethod yX10_offOf ∈ TB := tb4 201 (by decide +kernel) rfl
theorem ws_X10_offOf : Cond.selects yX10_offOf.cls yX10_offOf yX10_offOf ∈ TB := tbp 13 (by decide +kernel) rfl
theorem wq_X10_told : pm_k yX10_told cX10_told 3 (some (.int)) 2 := ⟨tb4 186 (by decide +kernel) rfl, tb1 10 (by decide +kernel) rfl, by decide +kernel, by decide +kernel, by decide +kernel⟩
theorem wi_X10_told : Cond.instanceMethod yX10_told ∈ TB := tb4 184 (by decide +kernel) rfl
theorem ws_X10_told : Cond.selects yX10_told.cls yX10_told yX10_told ∈ TB := tb4 185 (by decide +kernel) rfl
theorem wq_X10_of : pm_k yX10_of cX10_of 3 (some (.int)) 2 := ⟨tb4 206 (by decide +kernel) rfl, tb1 10 (by decide +kernel) rfl, by decide +kernel, by decide +kernel, by decide +kernel⟩
theorem wi_X10_of : Cond.instanceMethod yX10_of ∈ TB := tb4 204 (by decide +kernel) rfl
theorem ws_X10_of : Cond.selects yX10_of.cls yX10_of yX10_of ∈ TB := tb4 205 (by decide +kernel) rfl
theorem wq_X10_sense : pm_k yX10_sense cX10_sense 4 (some (.int)) 2 := ⟨tb4 222 (by decide +kernel) rfl, tb1 10 (by decide +kernel) rfl, by decide +kernel, by decide +kernel, by decide +kernel⟩
theorem wi_X10_sense : Cond.instanceMethod yX10_sense ∈ TB := tb4 220 (by decide +kernel) rfl
theorem ws_X10_sense : Cond.selects yX10_sense.cls yX10_sense yX10_sense ∈ TB := tb4 221 (by decide +kernel) rfl
theorem wq_X10_countIn : pm_k yX10_countIn cX10_countIn 4 (some (.int)) 1 := ⟨tb4 230 (by decide +kernel) rfl, tb1 10 (by decide +kernel) rfl, by decide +kernel, by decide +kernel, by decide +kernel⟩
theorem wi_X10_countIn : Cond.instanceMethod yX10_countIn ∈ TB := tb4 229 (by decide +kernel) rfl
theorem ws_X10_countIn : Cond.selects yX10_countIn.cls yX10_countIn yX10_countIn ∈ TB := tbp 16 (by decide +kernel) rfl
theorem wq_X10_bagWeighs : pm_k yX10_bagWeighs cX10_bagWeighs 3 (some (.int)) 0 := ⟨tb4 238 (by decide +kernel) rfl, tb1 10 (by decide +kernel) rfl, by decide +kernel, by decide +kernel, by decide +kernel⟩
theorem wi_X10_bagWeighs : Cond.instanceMethod yX10_bagWeighs ∈ TB := tb4 237 (by decide +kernel) rfl
theorem ws_X10_bagWeighs : Cond.selects yX10_bagWeighs.cls yX10_bagWeighs yX10_bagWeighs ∈ TB := tbp 18 (by decide +kernel) rfl
theorem wq_X10_placesWeigh : pm_k yX10_placesWeigh cX10_placesWeigh 3 (some (.int)) 0 := ⟨tb4 234 (by decide +kernel) rfl, tb1 10 (by decide +kernel) rfl, by decide +kernel, by decide +kernel, by decide +kernel⟩
theorem wi_X10_placesWeigh : Cond.instanceMethod yX10_placesWeigh ∈ TB := tb4 233 (by decide +kernel) rfl
theorem ws_X10_placesWeigh : Cond.selects yX10_placesWeigh.cls yX10_placesWeigh yX10_placesWeigh ∈ TB := tbp 17 (by decide +kernel) rfl
theorem wq_X10_count : pm_k yX10_count cX10_count 2 (some (.int)) 1 := ⟨tb4 226 (by decide +kernel) rfl, tb1 10 (by decide +kernel) rfl, by decide +kernel, by decide +kernel, by decide +kernel⟩
theorem wi_X10_count : Cond.instanceMethod yX10_count ∈ TB := tb4 224 (by decide +kernel) rfl
theorem ws_X10_count : Cond.selects yX10_count.cls yX10_count yX10_count ∈ TB := tb4 225 (by decide +kernel) rfl
theorem wq_X10_type : pm_k yX10_type cX10_type 5 (some (.int)) 2 := ⟨tb5 2 (by decide +kernel) rfl, tb1 10 (by decide +kernel) rfl, by decide +kernel, by decide +kernel, by decide +kernel⟩
theorem wi_X10_type : Cond.instanceMethod yX10_type ∈ TB := tb5 0 (by decide +kernel) rfl
theorem ws_X10_type : Cond.selects yX10_type.cls yX10_type yX10_type ∈ TB := tb5 1 (by decide +kernel) rfl
theorem wq_X10_here : pm_k yX10_here cX10_here 1 (some (.int)) 0 := ⟨tb5 18 (by decide +kernel) rfl, tb1 10 (by decide +kernel) rfl, by decide +kernel, by decide +kernel, by decide +kernel⟩
theorem wi_X10_here : Cond.instanceMethod yX10_here ∈ TB := tb5 17 (by decide +kernel) rfl
theorem ws_X10_here : Cond.selects yX10_here.cls yX10_here yX10_here ∈ TB := tbp 20 (by decide +kernel) rfl
theorem wq_X10_fails : pm_k yX10_fails cX10_fails 2 none 1 := ⟨tb5 22 (by decide +kernel) rfl, tb1 10 (by decide +kernel) rfl, by decide +kernel, by decide +kernel, by decide +kernel⟩
theorem wi_X10_fails : Cond.instanceMethod yX10_fails ∈ TB := tb5 21 (by decide +kernel) rfl
theorem ws_X10_fails : Cond.selects yX10_fails.cls yX10_fails yX10_fails ∈ TB := tbp 21 (by decide +kernel) rfl
theorem wq_X10_take : pm_k yX10_take cX10_take 4 (some (.int)) 2 := ⟨tb5 32 (by decide +kernel) rfl, tb1 10 (by decide +kernel) rfl, by decide +kernel, by decide +kernel, by decide +kernel⟩
theorem wi_X10_take : Cond.instanceMethod yX10_take ∈ TB := tb5 31 (by decide +kernel) rfl
theorem ws_X10_take : Cond.selects yX10_take.cls yX10_take yX10_take ∈ TB := tbp 23 (by decide +kernel) rfl
theorem wq_X10_takeNumber : pm_k yX10_takeNumber cX10_takeNumber 4 (some (.int)) 0 := ⟨tb5 26 (by decide +kernel) rfl, tb1 10 (by decide +kernel) rfl, by decide +kernel, by decide +kernel, by decide +kernel⟩
theorem wi_X10_takeNumber : Cond.instanceMethod yX10_takeNumber ∈ TB := tb5 25 (by decide +kernel) rfl
theorem ws_X10_takeNumber : Cond.selects yX10_takeNumber.cls yX10_takeNumber yX10_takeNumber ∈ TB := tbp 22 (by decide +kernel) rfl
theorem wq_X10_takePiece : pm_k yX10_takePiece cX10_takePiece 3 none 0 := ⟨tb5 14 (by decide +kernel) rfl, tb1 10 (by decide +kernel) rfl, by decide +kernel, by decide +kernel, by decide +kernel⟩
theorem wi_X10_takePiece : Cond.instanceMethod yX10_takePiece ∈ TB := tb5 13 (by decide +kernel) rfl
theorem ws_X10_takePiece : Cond.selects yX10_takePiece.cls yX10_takePiece yX10_takePiece ∈ TB := tbp 19 (by decide +kernel) rfl
theorem wq_X10_heap : pm_k yX10_heap cX10_heap 2 (some (.int)) 0 := ⟨tb5 10 (by decide +kernel) rfl, tb1 10 (by decide +kernel) rfl, by decide +kernel, by decide +kernel, by decide +kernel⟩
theorem wi_X10_heap : Cond.instanceMethod yX10_heap ∈ TB := tb5 8 (by decide +kernel) rfl
theorem ws_X10_heap : Cond.selects yX10_heap.cls yX10_heap yX10_heap ∈ TB := tb5 9 (by decide +kernel) rfl
theorem wq_X10_takeLetter : pm_k yX10_takeLetter cX10_takeLetter 2 (some (.int)) 0 := ⟨tb5 44 (by decide +kernel) rfl, tb1 10 (by decide +kernel) rfl, by decide +kernel, by decide +kernel, by decide +kernel⟩
theorem wi_X10_takeLetter : Cond.instanceMethod yX10_takeLetter ∈ TB := tb5 43 (by decide +kernel) rfl
theorem ws_X10_takeLetter : Cond.selects yX10_takeLetter.cls yX10_takeLetter yX10_takeLetter ∈ TB := tbp 25 (by decide +kernel) rfl
theorem wq_X10_takeMark : pm_k yX10_takeMark cX10_takeMark 3 none 1 := ⟨tb5 48 (by decide +kernel) rfl, tb1 10 (by decide +kernel) rfl, by decide +kernel, by decide +kernel, by decide +kernel⟩
theorem wi_X10_takeMark : Cond.instanceMethod yX10_takeMark ∈ TB := tb5 47 (by decide +kernel) rfl
theorem ws_X10_takeMark : Cond.selects yX10_takeMark.cls yX10_takeMark yX10_takeMark ∈ TB := tbp 26 (by decide +kernel) rfl
theorem wq_X10_takeAct : pm_k yX10_takeAct cX10_takeAct 7 none 0 := ⟨tb5 40 (by decide +kernel) rfl, tb1 10 (by decide +kernel) rfl, by decide +kernel, by decide +kernel, by decide +kernel⟩
theorem wi_X10_takeAct : Cond.instanceMethod yX10_takeAct ∈ TB := tb5 39 (by decide +kernel) rfl
theorem ws_X10_takeAct : Cond.selects yX10_takeAct.cls yX10_takeAct yX10_takeAct ∈ TB := tbp 24 (by decide +kernel) rfl
theorem wq_X10_night : pm_k yX10_night cX10_night 2 (some (.int)) 0 := ⟨tb5 36 (by decide +kernel) rfl, tb1 10 (by decide +kernel) rfl, by decide +kernel, by decide +kernel, by decide +kernel⟩
theorem wi_X10_night : Cond.instanceMethod yX10_night ∈ TB := tb5 34 (by decide +kernel) rfl
theorem ws_X10_night : Cond.selects yX10_night.cls yX10_night yX10_night ∈ TB := tb5 35 (by decide +kernel) rfl
theorem wq_X10_kindOf : pm_k yX10_kindOf cX10_kindOf 1 (some (.int)) 1 := ⟨tb5 61 (by decide +kernel) rfl, tb1 10 (by decide +kernel) rfl, by decide +kernel, by decide +kernel, by decide +kernel⟩
theorem wt_X10_kindOf : Cond.static yX10_kindOf ∈ TB := tb5 60 (by decide +kernel) rfl
theorem wq_X10_placeOf : pm_k yX10_placeOf cX10_placeOf 1 (some (.int)) 1 := ⟨tb5 55 (by decide +kernel) rfl, tb1 10 (by decide +kernel) rfl, by decide +kernel, by decide +kernel, by decide +kernel⟩
theorem wt_X10_placeOf : Cond.static yX10_placeOf ∈ TB := tb5 54 (by decide +kernel) rfl
theorem wq_X10_otherOf : pm_k yX10_otherOf cX10_otherOf 1 (some (.int)) 1 := ⟨tb5 58 (by decide +kernel) rfl, tb1 10 (by decide +kernel) rfl, by decide +kernel, by decide +kernel, by decide +kernel⟩
theorem wt_X10_otherOf : Cond.static yX10_otherOf ∈ TB := tb5 57 (by decide +kernel) rfl
theorem wq_X10_canBe : pm_k yX10_canBe cX10_canBe 7 (some (.boolean)) 1 := ⟨tb5 52 (by decide +kernel) rfl, tb1 10 (by decide +kernel) rfl, by decide +kernel, by decide +kernel, by decide +kernel⟩
theorem wi_X10_canBe : Cond.instanceMethod yX10_canBe ∈ TB := tb5 51 (by decide +kernel) rfl
theorem ws_X10_canBe : Cond.selects yX10_canBe.cls yX10_canBe yX10_canBe ∈ TB := tbp 27 (by decide +kernel) rfl
theorem wq_X10_size : pm_k yX10_size cX10_size 1 (some (.int)) 1 := ⟨tb5 72 (by decide +kernel) rfl, tb1 10 (by decide +kernel) rfl, by decide +kernel, by decide +kernel, by decide +kernel⟩
theorem wt_X10_size : Cond.static yX10_size ∈ TB := tb5 71 (by decide +kernel) rfl
theorem wq_X10_isFelt : pm_k yX10_isFelt cX10_isFelt 6 (some (.boolean)) 1 := ⟨tb5 69 (by decide +kernel) rfl, tb1 10 (by decide +kernel) rfl, by decide +kernel, by decide +kernel, by decide +kernel⟩
theorem wi_X10_isFelt : Cond.instanceMethod yX10_isFelt ∈ TB := tb5 68 (by decide +kernel) rfl
theorem ws_X10_isFelt : Cond.selects yX10_isFelt.cls yX10_isFelt yX10_isFelt ∈ TB := tbp 29 (by decide +kernel) rfl
theorem wq_X10_doAct : pm_k yX10_doAct cX10_doAct 5 (some (.int)) 1 := ⟨tb5 80 (by decide +kernel) rfl, tb1 10 (by decide +kernel) rfl, by decide +kernel, by decide +kernel, by decide +kernel⟩
theorem wi_X10_doAct : Cond.instanceMethod yX10_doAct ∈ TB := tb5 79 (by decide +kernel) rfl
theorem ws_X10_doAct : Cond.selects yX10_doAct.cls yX10_doAct yX10_doAct ∈ TB := tbp 31 (by decide +kernel) rfl
theorem wq_X10_wake : pm_k yX10_wake cX10_wake 4 none 0 := ⟨tb5 76 (by decide +kernel) rfl, tb1 10 (by decide +kernel) rfl, by decide +kernel, by decide +kernel, by decide +kernel⟩
theorem wi_X10_wake : Cond.instanceMethod yX10_wake ∈ TB := tb5 75 (by decide +kernel) rfl
theorem ws_X10_wake : Cond.selects yX10_wake.cls yX10_wake yX10_wake ∈ TB := tbp 30 (by decide +kernel) rfl
theorem wq_X10_goes : pm_k yX10_goes cX10_goes 3 (some (.boolean)) 1 := ⟨tb5 65 (by decide +kernel) rfl, tb1 10 (by decide +kernel) rfl, by decide +kernel, by decide +kernel, by decide +kernel⟩
theorem wi_X10_goes : Cond.instanceMethod yX10_goes ∈ TB := tb5 64 (by decide +kernel) rfl
theorem ws_X10_goes : Cond.selects yX10_goes.cls yX10_goes yX10_goes ∈ TB := tbp 28 (by decide +kernel) rfl
theorem wq_X10_tryAct : pm_k yX10_tryAct cX10_tryAct 2 (some (.int)) 1 := ⟨tb5 92 (by decide +kernel) rfl, tb1 10 (by decide +kernel) rfl, by decide +kernel, by decide +kernel, by decide +kernel⟩
theorem wi_X10_tryAct : Cond.instanceMethod yX10_tryAct ∈ TB := tb5 91 (by decide +kernel) rfl
theorem ws_X10_tryAct : Cond.selects yX10_tryAct.cls yX10_tryAct yX10_tryAct ∈ TB := tbp 33 (by decide +kernel) rfl
theorem wq_X10_lift : pm_k yX10_lift cX10_lift 2 (some (.int)) 1 := ⟨tb5 88 (by decide +kernel) rfl, tb1 10 (by decide +kernel) rfl, by decide +kernel, by decide +kernel, by decide +kernel⟩
theorem wi_X10_lift : Cond.instanceMethod yX10_lift ∈ TB := tb5 86 (by decide +kernel) rfl
theorem ws_X10_lift : Cond.selects yX10_lift.cls yX10_lift yX10_lift ∈ TB := tb5 87 (by decide +kernel) rfl
theorem wq_X10_lay : pm_k yX10_lay cX10_lay 4 (some (.int)) 2 := ⟨tb5 96 (by decide +kernel) rfl, tb1 10 (by decide +kernel) rfl, by decide +kernel, by decide +kernel, by decide +kernel⟩
theorem wi_X10_lay : Cond.instanceMethod yX10_lay ∈ TB := tb5 94 (by decide +kernel) rfl
theorem ws_X10_lay : Cond.selects yX10_lay.cls yX10_lay yX10_lay ∈ TB := tb5 95 (by decide +kernel) rfl
theorem wq_X10_swap : pm_k yX10_swap cX10_swap 3 (some (.int)) 2 := ⟨tb5 100 (by decide +kernel) rfl, tb1 10 (by decide +kernel) rfl, by decide +kernel, by decide +kernel, by decide +kernel⟩
theorem wi_X10_swap : Cond.instanceMethod yX10_swap ∈ TB := tb5 98 (by decide +kernel) rfl
theorem ws_X10_swap : Cond.selects yX10_swap.cls yX10_swap yX10_swap ∈ TB := tb5 99 (by decide +kernel) rfl
theorem wq_X10_push : pm_k yX10_push cX10_push 3 (some (.int)) 2 := ⟨tb5 104 (by decide +kernel) rfl, tb1 10 (by decide +kernel) rfl, by decide +kernel, by decide +kernel, by decide +kernel⟩
theorem wi_X10_push : Cond.instanceMethod yX10_push ∈ TB := tb5 102 (by decide +kernel) rfl
theorem ws_X10_push : Cond.selects yX10_push.cls yX10_push yX10_push ∈ TB := tb5 103 (by decide +kernel) rfl
theorem wq_X10_turn : pm_k yX10_turn cX10_turn 4 (some (.int)) 0 := ⟨tb5 108 (by decide +kernel) rfl, tb1 10 (by decide +kernel) rfl, by decide +kernel, by decide +kernel, by decide +kernel⟩
theorem wi_X10_turn : Cond.instanceMethod yX10_turn ∈ TB := tb5 106 (by decide +kernel) rfl
theorem ws_X10_turn : Cond.selects yX10_turn.cls yX10_turn yX10_turn ∈ TB := tb5 107 (by decide +kernel) rfl
theorem wq_X10_save : pm_k yX10_save cX10_save 3 none 1 := ⟨tb5 126 (by decide +kernel) rfl, tb1 10 (by decide +kernel) rfl, by decide +kernel, by decide +kernel, by decide +kernel⟩
theorem wi_X10_save : Cond.instanceMethod yX10_save ∈ TB := tb5 125 (by decide +kernel) rfl
theorem ws_X10_save : Cond.selects yX10_save.cls yX10_save yX10_save ∈ TB := tbp 36 (by decide +kernel) rfl
theorem wq_X10_load : pm_k yX10_load cX10_load 3 none 1 := ⟨tb5 138 (by decide +kernel) rfl, tb1 10 (by decide +kernel) rfl, by decide +kernel, by decide +kernel, by decide +kernel⟩
theorem wi_X10_load : Cond.instanceMethod yX10_load ∈ TB := tb5 137 (by decide +kernel) rfl
theorem ws_X10_load : Cond.selects yX10_load.cls yX10_load yX10_load ∈ TB := tbp 39 (by decide +kernel) rfl
theorem wq_X10_nextAct : pm_k yX10_nextAct cX10_nextAct 3 (some (.int)) 1 := ⟨tb5 130 (by decide +kernel) rfl, tb1 10 (by decide +kernel) rfl, by decide +kernel, by decide +kernel, by decide +kernel⟩
theorem wi_X10_nextAct : Cond.instanceMethod yX10_nextAct ∈ TB := tb5 129 (by decide +kernel) rfl
theorem ws_X10_nextAct : Cond.selects yX10_nextAct.cls yX10_nextAct yX10_nextAct ∈ TB := tbp 37 (by decide +kernel) rfl
theorem wq_X10_isCode : pm_k yX10_isCode cX10_isCode 4 (some (.boolean)) 1 := ⟨tb5 134 (by decide +kernel) rfl, tb1 10 (by decide +kernel) rfl, by decide +kernel, by decide +kernel, by decide +kernel⟩
theorem wi_X10_isCode : Cond.instanceMethod yX10_isCode ∈ TB := tb5 133 (by decide +kernel) rfl
theorem ws_X10_isCode : Cond.selects yX10_isCode.cls yX10_isCode yX10_isCode ∈ TB := tbp 38 (by decide +kernel) rfl
theorem wq_X10_lastAct : pm_k yX10_lastAct cX10_lastAct 4 (some (.int)) 1 := ⟨tb5 122 (by decide +kernel) rfl, tb1 10 (by decide +kernel) rfl, by decide +kernel, by decide +kernel, by decide +kernel⟩
theorem wi_X10_lastAct : Cond.instanceMethod yX10_lastAct ∈ TB := tb5 121 (by decide +kernel) rfl
theorem ws_X10_lastAct : Cond.selects yX10_lastAct.cls yX10_lastAct yX10_lastAct ∈ TB := tbp 35 (by decide +kernel) rfl
theorem wq_X10_find : pm_k yX10_find cX10_find 6 (some (.int)) 1 := ⟨tb5 118 (by decide +kernel) rfl, tb1 10 (by decide +kernel) rfl, by decide +kernel, by decide +kernel, by decide +kernel⟩
theorem wi_X10_find : Cond.instanceMethod yX10_find ∈ TB := tb5 117 (by decide +kernel) rfl
theorem ws_X10_find : Cond.selects yX10_find.cls yX10_find yX10_find ∈ TB := tbp 34 (by decide +kernel) rfl
theorem wq_X10_had : pm_k yX10_had cX10_had 4 (some (.int)) 2 := ⟨tb5 112 (by decide +kernel) rfl, tb1 10 (by decide +kernel) rfl, by decide +kernel, by decide +kernel, by decide +kernel⟩
theorem wi_X10_had : Cond.instanceMethod yX10_had ∈ TB := tb5 110 (by decide +kernel) rfl
theorem ws_X10_had : Cond.selects yX10_had.cls yX10_had yX10_had ∈ TB := tb5 111 (by decide +kernel) rfl
theorem wq_X10_under : pm_k yX10_under cX10_under 7 (some (.int)) 1 := ⟨tb5 142 (by decide +kernel) rfl, tb1 10 (by decide +kernel) rfl, by decide +kernel, by decide +kernel, by decide +kernel⟩
theorem wi_X10_under : Cond.instanceMethod yX10_under ∈ TB := tb5 140 (by decide +kernel) rfl
theorem ws_X10_under : Cond.selects yX10_under.cls yX10_under yX10_under ∈ TB := tb5 141 (by decide +kernel) rfl
theorem wq_X10_townsThatLie : pm_k yX10_townsThatLie cX10_townsThatLie 3 (some (.int)) 0 := ⟨tb5 150 (by decide +kernel) rfl, tb1 10 (by decide +kernel) rfl, by decide +kernel, by decide +kernel, by decide +kernel⟩
theorem wi_X10_townsThatLie : Cond.instanceMethod yX10_townsThatLie ∈ TB := tb5 149 (by decide +kernel) rfl
theorem ws_X10_townsThatLie : Cond.selects yX10_townsThatLie.cls yX10_townsThatLie yX10_townsThatLie ∈ TB := tbp 40 (by decide +kernel) rfl
theorem wq_X10_own : pm_k yX10_own cX10_own 7 (some (.int)) 0 := ⟨tb5 146 (by decide +kernel) rfl, tb1 10 (by decide +kernel) rfl, by decide +kernel, by decide +kernel, by decide +kernel⟩
theorem wi_X10_own : Cond.instanceMethod yX10_own ∈ TB := tb5 144 (by decide +kernel) rfl
theorem ws_X10_own : Cond.selects yX10_own.cls yX10_own yX10_own ∈ TB := tb5 145 (by decide +kernel) rfl
theorem wq_X10_divisor : pm_k yX10_divisor cX10_divisor 5 (some (.int)) 2 := ⟨tb5 160 (by decide +kernel) rfl, tb1 10 (by decide +kernel) rfl, by decide +kernel, by decide +kernel, by decide +kernel⟩
theorem wt_X10_divisor : Cond.static yX10_divisor ∈ TB := tb5 159 (by decide +kernel) rfl
theorem wq_X10_partOf : pm_k yX10_partOf cX10_partOf 4 (some (.int)) 3 := ⟨tb5 157 (by decide +kernel) rfl, tb1 10 (by decide +kernel) rfl, by decide +kernel, by decide +kernel, by decide +kernel⟩
theorem wt_X10_partOf : Cond.static yX10_partOf ∈ TB := tb5 156 (by decide +kernel) rfl
theorem wq_X10_odds : pm_k yX10_odds cX10_odds 9 (some (.int)) 5 := ⟨tb5 154 (by decide +kernel) rfl, tb1 10 (by decide +kernel) rfl, by decide +kernel, by decide +kernel, by decide +kernel⟩
theorem wi_X10_odds : Cond.instanceMethod yX10_odds ∈ TB := tb5 152 (by decide +kernel) rfl
theorem ws_X10_odds : Cond.selects yX10_odds.cls yX10_odds yX10_odds ∈ TB := tb5 153 (by decide +kernel) rfl
theorem wq_X10_has : pm_k yX10_has cX10_has 2 (some (.boolean)) 2 := ⟨tb5 168 (by decide +kernel) rfl, tb1 10 (by decide +kernel) rfl, by decide +kernel, by decide +kernel, by decide +kernel⟩
theorem wt_X10_has : Cond.static yX10_has ∈ TB := tb5 167 (by decide +kernel) rfl
theorem wq_X10_share : pm_k yX10_share cX10_share 10 (some (.int)) 3 := ⟨tb5 164 (by decide +kernel) rfl, tb1 10 (by decide +kernel) rfl, by decide +kernel, by decide +kernel, by decide +kernel⟩
theorem wi_X10_share : Cond.instanceMethod yX10_share ∈ TB := tb5 162 (by decide +kernel) rfl
theorem ws_X10_share : Cond.selects yX10_share.cls yX10_share yX10_share ∈ TB := tb5 163 (by decide +kernel) rfl
theorem wq_X10_image : pm_k yX10_image cX10_image 2 (some (.int)) 0 := ⟨tb5 172 (by decide +kernel) rfl, tb1 10 (by decide +kernel) rfl, by decide +kernel, by decide +kernel, by decide +kernel⟩
theorem wi_X10_image : Cond.instanceMethod yX10_image ∈ TB := tb5 170 (by decide +kernel) rfl
theorem ws_X10_image : Cond.selects yX10_image.cls yX10_image yX10_image ∈ TB := tb5 171 (by decide +kernel) rfl
theorem wq_X10_restore : pm_k yX10_restore cX10_restore 2 (some (.int)) 0 := ⟨tb5 176 (by decide +kernel) rfl, tb1 10 (by decide +kernel) rfl, by decide +kernel, by decide +kernel, by decide +kernel⟩
theorem wi_X10_restore : Cond.instanceMethod yX10_restore ∈ TB := tb5 174 (by decide +kernel) rfl
theorem ws_X10_restore : Cond.selects yX10_restore.cls yX10_restore yX10_restore ∈ TB := tb5 175 (by decide +kernel) rfl
theorem wq_X10_isSheet : pm_k yX10_isSheet cX10_isSheet 1 (some (.boolean)) 1 := ⟨tb5 183 (by decide +kernel) rfl, tb1 10 (by decide +kernel) rfl, by decide +kernel, by decide +kernel, by decide +kernel⟩
theorem wt_X10_isSheet : Cond.static yX10_isSheet ∈ TB := tb5 182 (by decide +kernel) rfl
theorem wq_X10_low : pm_k yX10_low cX10_low 3 (some (.long)) 2 := ⟨tb5 205 (by decide +kernel) rfl, tb1 10 (by decide +kernel) rfl, by decide +kernel, by decide +kernel, by decide +kernel⟩
theorem wt_X10_low : Cond.static yX10_low ∈ TB := tb5 204 (by decide +kernel) rfl
theorem wq_X10_against : pm_k yX10_against cX10_against 5 (some (.int)) 4 := ⟨tb5 187 (by decide +kernel) rfl, tb1 10 (by decide +kernel) rfl, by decide +kernel, by decide +kernel, by decide +kernel⟩
theorem wi_X10_against : Cond.instanceMethod yX10_against ∈ TB := tb5 186 (by decide +kernel) rfl
theorem ws_X10_against : Cond.selects yX10_against.cls yX10_against yX10_against ∈ TB := tbp 41 (by decide +kernel) rfl
theorem wq_X10_sumIn : pm_k yX10_sumIn cX10_sumIn 5 (some (.int)) 2 := ⟨tb5 191 (by decide +kernel) rfl, tb1 10 (by decide +kernel) rfl, by decide +kernel, by decide +kernel, by decide +kernel⟩
theorem wi_X10_sumIn : Cond.instanceMethod yX10_sumIn ∈ TB := tb5 190 (by decide +kernel) rfl
theorem ws_X10_sumIn : Cond.selects yX10_sumIn.cls yX10_sumIn yX10_sumIn ∈ TB := tbp 42 (by decide +kernel) rfl
theorem wq_X10_dents : pm_k yX10_dents cX10_dents 11 (some (.int)) 4 := ⟨tb5 180 (by decide +kernel) rfl, tb1 10 (by decide +kernel) rfl, by decide +kernel, by decide +kernel, by decide +kernel⟩
theorem wi_X10_dents : Cond.instanceMethod yX10_dents ∈ TB := tb5 178 (by decide +kernel) rfl
theorem ws_X10_dents : Cond.selects yX10_dents.cls yX10_dents yX10_dents ∈ TB := tb5 179 (by decide +kernel) rfl
theorem wq_X10_tried : pm_k yX10_tried cX10_tried 14 (some (.int)) 5 := ⟨tb5 195 (by decide +kernel) rfl, tb1 10 (by decide +kernel) rfl, by decide +kernel, by decide +kernel, by decide +kernel⟩
theorem wi_X10_tried : Cond.instanceMethod yX10_tried ∈ TB := tb5 193 (by decide +kernel) rfl
theorem ws_X10_tried : Cond.selects yX10_tried.cls yX10_tried yX10_tried ∈ TB := tb5 194 (by decide +kernel) rfl
theorem wq_X10_nextOf : pm_k yX10_nextOf cX10_nextOf 9 (some (.int)) 2 := ⟨tb5 198 (by decide +kernel) rfl, tb1 10 (by decide +kernel) rfl, by decide +kernel, by decide +kernel, by decide +kernel⟩
theorem wt_X10_nextOf : Cond.static yX10_nextOf ∈ TB := tb5 197 (by decide +kernel) rfl
theorem wq_X10_film : pm_k yX10_film cX10_film 6 (some (.int)) 3 := ⟨tb5 202 (by decide +kernel) rfl, tb1 10 (by decide +kernel) rfl, by decide +kernel, by decide +kernel, by decide +kernel⟩
theorem wi_X10_film : Cond.instanceMethod yX10_film ∈ TB := tb5 200 (by decide +kernel) rfl
theorem ws_X10_film : Cond.selects yX10_film.cls yX10_film yX10_film ∈ TB := tb5 201 (by decide +kernel) rfl
theorem wq_X10_sheet : pm_k yX10_sheet cX10_sheet 5 (some (.int)) 3 := ⟨tb5 209 (by decide +kernel) rfl, tb1 10 (by decide +kernel) rfl, by decide +kernel, by decide +kernel, by decide +kernel⟩
theorem wi_X10_sheet : Cond.instanceMethod yX10_sheet ∈ TB := tb5 207 (by decide +kernel) rfl
theorem ws_X10_sheet : Cond.selects yX10_sheet.cls yX10_sheet yX10_sheet ∈ TB := tb5 208 (by decide +kernel) rfl
theorem wq_X10_drop : pm_k yX10_drop cX10_drop 2 (some (.int)) 1 := ⟨tb5 213 (by decide +kernel) rfl, tb1 10 (by decide +kernel) rfl, by decide +kernel, by decide +kernel, by decide +kernel⟩
theorem wi_X10_drop : Cond.instanceMethod yX10_drop ∈ TB := tb5 211 (by decide +kernel) rfl
theorem ws_X10_drop : Cond.selects yX10_drop.cls yX10_drop yX10_drop ∈ TB := tb5 212 (by decide +kernel) rfl
theorem wq_X10_item : pm_k yX10_item cX10_item 7 (some (.int)) 4 := ⟨tb5 217 (by decide +kernel) rfl, tb1 10 (by decide +kernel) rfl, by decide +kernel, by decide +kernel, by decide +kernel⟩
theorem wi_X10_item : Cond.instanceMethod yX10_item ∈ TB := tb5 215 (by decide +kernel) rfl
theorem ws_X10_item : Cond.selects yX10_item.cls yX10_item yX10_item ∈ TB := tb5 216 (by decide +kernel) rfl
theorem wq_X10_copy : pm_k yX10_copy cX10_copy 7 (some (.int)) 5 := ⟨tb5 221 (by decide +kernel) rfl, tb1 10 (by decide +kernel) rfl, by decide +kernel, by decide +kernel, by decide +kernel⟩
theorem wi_X10_copy : Cond.instanceMethod yX10_copy ∈ TB := tb5 219 (by decide +kernel) rfl
theorem ws_X10_copy : Cond.selects yX10_copy.cls yX10_copy yX10_copy ∈ TB := tb5 220 (by decide +kernel) rfl
theorem wq_J6_bitCount_0f7a4 : pm_k yJ6_bitCount_0f7a4 cJ6_bitCount_0f7a4 1 (some (.int)) 1 := ⟨tb2 17 (by decide +kernel) rfl, tb1 11 (by decide +kernel) rfl, by decide +kernel, by decide +kernel, by decide +kernel⟩
theorem wt_J6_bitCount_0f7a4 : Cond.static yJ6_bitCount_0f7a4 ∈ TB := tb2 16 (by decide +kernel) rfl
theorem wq_J0_length_8abf5 : pm_k yJ0_length_8abf5 cJ0_length_8abf5 1 (some (.int)) 0 := ⟨tb2 63 (by decide +kernel) rfl, tb1 12 (by decide +kernel) rfl, by decide +kernel, by decide +kernel, by decide +kernel⟩
theorem wi_J0_length_8abf5 : Cond.instanceMethod yJ0_length_8abf5 ∈ TB := tb2 61 (by decide +kernel) rfl
theorem ws_J0_length_8abf5 : Cond.selects yJ0_length_8abf5.cls yJ0_length_8abf5 yJ0_length_8abf5 ∈ TB := tb2 62 (by decide +kernel) rfl
theorem wq_J0_indexOf_0f7a4 : pm_k yJ0_indexOf_0f7a4 cJ0_indexOf_0f7a4 2 (some (.int)) 1 := ⟨tb2 81 (by decide +kernel) rfl, tb1 12 (by decide +kernel) rfl, by decide +kernel, by decide +kernel, by decide +kernel⟩
theorem wi_J0_indexOf_0f7a4 : Cond.instanceMethod yJ0_indexOf_0f7a4 ∈ TB := tb2 79 (by decide +kernel) rfl
theorem ws_J0_indexOf_0f7a4 : Cond.selects yJ0_indexOf_0f7a4.cls yJ0_indexOf_0f7a4 yJ0_indexOf_0f7a4 ∈ TB := tb2 80 (by decide +kernel) rfl
theorem wq_J0_indexOf_7cf53 : pm_k yJ0_indexOf_7cf53 cJ0_indexOf_7cf53 3 (some (.int)) 2 := ⟨tb2 85 (by decide +kernel) rfl, tb1 12 (by decide +kernel) rfl, by decide +kernel, by decide +kernel, by decide +kernel⟩
theorem wi_J0_indexOf_7cf53 : Cond.instanceMethod yJ0_indexOf_7cf53 ∈ TB := tb2 83 (by decide +kernel) rfl
theorem ws_J0_indexOf_7cf53 : Cond.selects yJ0_indexOf_7cf53.cls yJ0_indexOf_7cf53 yJ0_indexOf_7cf53 ∈ TB := tb2 84 (by decide +kernel) rfl
theorem wq_J0_coder_7d493 : pm_k yJ0_coder_7d493 cJ0_coder_7d493 1 (some (.byte)) 0 := ⟨tb2 67 (by decide +kernel) rfl, tb1 12 (by decide +kernel) rfl, by decide +kernel, by decide +kernel, by decide +kernel⟩
theorem wi_J0_coder_7d493 : Cond.instanceMethod yJ0_coder_7d493 ∈ TB := tb2 65 (by decide +kernel) rfl
theorem ws_J0_coder_7d493 : Cond.selects yJ0_coder_7d493.cls yJ0_coder_7d493 yJ0_coder_7d493 ∈ TB := tb2 66 (by decide +kernel) rfl
theorem wq_J0_isLatin1_aae02 : pm_k yJ0_isLatin1_aae02 cJ0_isLatin1_aae02 1 (some (.boolean)) 0 := ⟨tb2 89 (by decide +kernel) rfl, tb1 12 (by decide +kernel) rfl, by decide +kernel, by decide +kernel, by decide +kernel⟩
theorem wi_J0_isLatin1_aae02 : Cond.instanceMethod yJ0_isLatin1_aae02 ∈ TB := tb2 87 (by decide +kernel) rfl
theorem ws_J0_isLatin1_aae02 : Cond.selects yJ0_isLatin1_aae02.cls yJ0_isLatin1_aae02 yJ0_isLatin1_aae02 ∈ TB := tb2 88 (by decide +kernel) rfl
theorem wq_J1_canEncode_9a6ad : pm_k yJ1_canEncode_9a6ad cJ1_canEncode_9a6ad 1 (some (.boolean)) 1 := ⟨tb2 96 (by decide +kernel) rfl, tb1 13 (by decide +kernel) rfl, by decide +kernel, by decide +kernel, by decide +kernel⟩
theorem wt_J1_canEncode_9a6ad : Cond.static yJ1_canEncode_9a6ad ∈ TB := tb2 95 (by decide +kernel) rfl
theorem wq_J1_indexOf_4cfef : pm_k yJ1_indexOf_4cfef cJ1_indexOf_4cfef 4 (some (.int)) 4 := ⟨tb2 93 (by decide +kernel) rfl, tb1 13 (by decide +kernel) rfl, by decide +kernel, by decide +kernel, by decide +kernel⟩
theorem wt_J1_indexOf_4cfef : Cond.static yJ1_indexOf_4cfef ∈ TB := tb2 92 (by decide +kernel) rfl
theorem wq_J1_indexOfChar_4cfef : pm_k yJ1_indexOfChar_4cfef cJ1_indexOfChar_4cfef 6 (some (.int)) 4 := ⟨tb2 105 (by decide +kernel) rfl, tb1 13 (by decide +kernel) rfl, by decide +kernel, by decide +kernel, by decide +kernel⟩
theorem wt_J1_indexOfChar_4cfef : Cond.static yJ1_indexOfChar_4cfef ∈ TB := tb2 104 (by decide +kernel) rfl
theorem wq_J7_fill_d0a16 : pm_k yJ7_fill_d0a16 cJ7_fill_d0a16 5 none 2 := ⟨tb4 28 (by decide +kernel) rfl, tb1 3 (by decide +kernel) rfl, by decide +kernel, by decide +kernel, by decide +kernel⟩
theorem wt_J7_fill_d0a16 : Cond.static yJ7_fill_d0a16 ∈ TB := tb4 27 (by decide +kernel) rfl
theorem wq_J7_fill_53178 : pm_k yJ7_fill_53178 cJ7_fill_53178 4 none 2 := ⟨tb1 37 (by decide +kernel) rfl, tb1 3 (by decide +kernel) rfl, by decide +kernel, by decide +kernel, by decide +kernel⟩
theorem wt_J7_fill_53178 : Cond.static yJ7_fill_53178 ∈ TB := tb1 36 (by decide +kernel) rfl
theorem in_X2 : ∀ w ∈ u_ws RX2 TX2 9, w ∈ TB := fun w h => List.mem_filter.mpr ⟨(by decide +kernel : ∀ w ∈ u_ws RX2 TX2 9, w ∈ lw_tbl) w h, List.all_eq_true.mp (by decide +kernel : (u_ws RX2 TX2 9).all goodWord = true) w h⟩
theorem in_X3 : ∀ w ∈ u_ws RX3 TX3 4, w ∈ TB := fun w h => List.mem_filter.mpr ⟨(by decide +kernel : ∀ w ∈ u_ws RX3 TX3 4, w ∈ lw_tbl) w h, List.all_eq_true.mp (by decide +kernel : (u_ws RX3 TX3 4).all goodWord = true) w h⟩
theorem in_X4 : ∀ w ∈ u_ws RX4 TX4 1, w ∈ TB := fun w h => List.mem_filter.mpr ⟨(by decide +kernel : ∀ w ∈ u_ws RX4 TX4 1, w ∈ lw_tbl) w h, List.all_eq_true.mp (by decide +kernel : (u_ws RX4 TX4 1).all goodWord = true) w h⟩
theorem in_X5 : ∀ w ∈ u_ws RX5 TX5 3, w ∈ TB := fun w h => List.mem_filter.mpr ⟨(by decide +kernel : ∀ w ∈ u_ws RX5 TX5 3, w ∈ lw_tbl) w h, List.all_eq_true.mp (by decide +kernel : (u_ws RX5 TX5 3).all goodWord = true) w h⟩
theorem in_X6 : ∀ w ∈ u_ws RX6 TX6 3, w ∈ TB := fun w h => List.mem_filter.mpr ⟨(by decide +kernel : ∀ w ∈ u_ws RX6 TX6 3, w ∈ lw_tbl) w h, List.all_eq_true.mp (by decide +kernel : (u_ws RX6 TX6 3).all goodWord = true) w h⟩
theorem in_X7 : ∀ w ∈ u_ws RX7 TX7 1, w ∈ TB := fun w h => List.mem_filter.mpr ⟨(by decide +kernel : ∀ w ∈ u_ws RX7 TX7 1, w ∈ lw_tbl) w h, List.all_eq_true.mp (by decide +kernel : (u_ws RX7 TX7 1).all goodWord = true) w h⟩
theorem in_X8 : ∀ w ∈ u_ws RX8 TX8 2, w ∈ TB := fun w h => List.mem_filter.mpr ⟨(by decide +kernel : ∀ w ∈ u_ws RX8 TX8 2, w ∈ lw_tbl) w h, List.all_eq_true.mp (by decide +kernel : (u_ws RX8 TX8 2).all goodWord = true) w h⟩
theorem in_X9 : ∀ w ∈ u_ws RX9 TX9 9, w ∈ TB := fun w h => List.mem_filter.mpr ⟨(by decide +kernel : ∀ w ∈ u_ws RX9 TX9 9, w ∈ lw_tbl) w h, List.all_eq_true.mp (by decide +kernel : (u_ws RX9 TX9 9).all goodWord = true) w h⟩
theorem in_X10 : ∀ w ∈ u_ws RX10 TX10 34, w ∈ TB := fun w h => List.mem_filter.mpr ⟨(by decide +kernel : ∀ w ∈ u_ws RX10 TX10 34, w ∈ lw_tbl) w h, List.all_eq_true.mp (by decide +kernel : (u_ws RX10 TX10 34).all goodWord = true) w h⟩
end
section
/-- the shapes of the whole system: 0 .. 39 the class, 40 .. 64 the reference -/
def GX : List pm_S := [.inl (7, [some (some 1), some (some 9), none, some (some 17), some (some 19), some (some 22), some (some 24), some (some 29), some (some 31)]),
  .inl (0, [some (some 2), some (some 3), some (some 4), some (some 5), some (some 6), some (some 7), some (some 8), none, none]),
  .inr (.inl (0, 12)),
  .inr (.inl (0, 12)),
  .inr (.inl (0, 12)),
  .inr (.inl (0, 12)),
  .inr (.inl (0, 12)),
  .inr (.inl (0, 6)),
  .inr (.inl (0, 6)),
  .inl (0, [some (some 10), some (some 11), some (some 12), some (some 13), some (some 14), some (some 15), some (some 16), none, none]),
  .inr (.inl (0, 12)),
  .inr (.inl (0, 12)),
  .inr (.inl (0, 12)),
  .inr (.inl (0, 12)),
  .inr (.inl (0, 12)),
  .inr (.inl (0, 6)),
  .inr (.inl (0, 6)),
  .inl (5, [some (some 18)]),
  .inr (.inl (0, 3)),
  .inl (6, [some (some 20), some (some 21)]),
  .inr (.inl (0, 16)),
  .inr (.inl (0, 16)),
  .inl (4, [some (some 23), none, none]),
  .inr (.inl (1, 120)),
  .inl (1, [some (some 25), some (some 26), some (some 27), some (some 28)]),
  .inr (.inl (0, 12)),
  .inr (.inl (0, 12)),
  .inr (.inl (0, 12)),
  .inr (.inl (0, 12)),
  .inl (2, [some (some 30)]),
  .inr (.inl (0, 60)),
  .inr (.inr [some 32, some 34, some 36, some 38]),
  .inl (3, [some (some 33), none, none]),
  .inr (.inl (2, 24)),
  .inl (3, [some (some 35), none, none]),
  .inr (.inl (2, 24)),
  .inl (3, [some (some 37), none, none]),
  .inr (.inl (2, 24)),
  .inl (3, [some (some 39), none, none]),
  .inr (.inl (2, 24))]
def GM : List pm_S := [.inl (8, [none, some (some 41), some (some 42), some (some 43), some (some 44), some (some 45), some (some 46), some (some 47), none, some (some 48), none, none, none, none, some (some 49), some (some 50), some (some 51), some (some 52), none, some (some 53), some (some 54), some (some 55), some (some 56), some (some 57), some (some 58), some (some 59), none, none, none, some (some 60), some (some 61), some (some 62), some (some 63), some (some 64)]),
  .inr (.inl (0, 12)),
  .inr (.inl (0, 12)),
  .inr (.inl (0, 12)),
  .inr (.inl (0, 12)),
  .inr (.inl (0, 6)),
  .inr (.inl (0, 72)),
  .inr (.inl (0, 6)),
  .inr (.inl (0, 120)),
  .inr (.inl (0, 12)),
  .inr (.inl (0, 12)),
  .inr (.inl (0, 12)),
  .inr (.inl (0, 12)),
  .inr (.inl (0, 60)),
  .inr (.inl (0, 72)),
  .inr (.inl (0, 6)),
  .inr (.inl (0, 36)),
  .inr (.inl (0, 18)),
  .inr (.inl (0, 216)),
  .inr (.inl (0, 3)),
  .inr (.inl (0, 138)),
  .inr (.inl (0, 4)),
  .inr (.inl (0, 4)),
  .inr (.inl (2, 96)),
  .inr (.inl (2, 24))]
def GG : List pm_S := [.inl (7, [some (some 1), some (some 9), none, some (some 17), some (some 19), some (some 22), some (some 24), some (some 29), some (some 31)]),
  .inl (0, [some (some 2), some (some 3), some (some 4), some (some 5), some (some 6), some (some 7), some (some 8), none, none]),
  .inr (.inl (0, 12)),
  .inr (.inl (0, 12)),
  .inr (.inl (0, 12)),
  .inr (.inl (0, 12)),
  .inr (.inl (0, 12)),
  .inr (.inl (0, 6)),
  .inr (.inl (0, 6)),
  .inl (0, [some (some 10), some (some 11), some (some 12), some (some 13), some (some 14), some (some 15), some (some 16), none, none]),
  .inr (.inl (0, 12)),
  .inr (.inl (0, 12)),
  .inr (.inl (0, 12)),
  .inr (.inl (0, 12)),
  .inr (.inl (0, 12)),
  .inr (.inl (0, 6)),
  .inr (.inl (0, 6)),
  .inl (5, [some (some 18)]),
  .inr (.inl (0, 3)),
  .inl (6, [some (some 20), some (some 21)]),
  .inr (.inl (0, 16)),
  .inr (.inl (0, 16)),
  .inl (4, [some (some 23), none, none]),
  .inr (.inl (1, 120)),
  .inl (1, [some (some 25), some (some 26), some (some 27), some (some 28)]),
  .inr (.inl (0, 12)),
  .inr (.inl (0, 12)),
  .inr (.inl (0, 12)),
  .inr (.inl (0, 12)),
  .inl (2, [some (some 30)]),
  .inr (.inl (0, 60)),
  .inr (.inr [some 32, some 34, some 36, some 38]),
  .inl (3, [some (some 33), none, none]),
  .inr (.inl (2, 24)),
  .inl (3, [some (some 35), none, none]),
  .inr (.inl (2, 24)),
  .inl (3, [some (some 37), none, none]),
  .inr (.inl (2, 24)),
  .inl (3, [some (some 39), none, none]),
  .inr (.inl (2, 24)),
  .inl (8, [none, some (some 41), some (some 42), some (some 43), some (some 44), some (some 45), some (some 46), some (some 47), none, some (some 48), none, none, none, none, some (some 49), some (some 50), some (some 51), some (some 52), none, some (some 53), some (some 54), some (some 55), some (some 56), some (some 57), some (some 58), some (some 59), none, none, none, some (some 60), some (some 61), some (some 62), some (some 63), some (some 64)]),
  .inr (.inl (0, 12)),
  .inr (.inl (0, 12)),
  .inr (.inl (0, 12)),
  .inr (.inl (0, 12)),
  .inr (.inl (0, 6)),
  .inr (.inl (0, 72)),
  .inr (.inl (0, 6)),
  .inr (.inl (0, 120)),
  .inr (.inl (0, 12)),
  .inr (.inl (0, 12)),
  .inr (.inl (0, 12)),
  .inr (.inl (0, 12)),
  .inr (.inl (0, 60)),
  .inr (.inl (0, 72)),
  .inr (.inl (0, 6)),
  .inr (.inl (0, 36)),
  .inr (.inl (0, 18)),
  .inr (.inl (0, 216)),
  .inr (.inl (0, 3)),
  .inr (.inl (0, 138)),
  .inr (.inl (0, 4)),
  .inr (.inl (0, 4)),
  .inr (.inl (2, 96)),
  .inr (.inl (2, 24))]
theorem GG_app : GX ++ GM = GG := rfl
theorem gg_sheet {s : Nat} (h : s < 4) : GG[32 + 2 * s]? = some (.inl (3, [some (some (33 + 2 * s)), none, none])) := by
  rcases (show s = 0 ∨ s = 1 ∨ s = 2 ∨ s = 3 by omega) with rfl | rfl | rfl | rfl <;> rfl
theorem gg_row {s : Nat} (h : s < 4) : GG[33 + 2 * s]? = some (.inr (.inl (2, 24))) := by
  rcases (show s = 0 ∨ s = 1 ∨ s = 2 ∨ s = 3 by omega) with rfl | rfl | rfl | rfl <;> rfl
/-! ends of calls: QR reads a number, QL a long, QA a cell; QI a number and another memory, QV another memory -/
abbrev pm_QT : Type := Option Value → List pm_S → pm_I → pm_L → Prop
def QR (G : List pm_S) (I : pm_I) (L : pm_L) (r : Int32) : pm_QT := fun v G' I' L' => v = some (.int r) ∧ G' = G ∧ I' = I ∧ L' = L
def QL (G : List pm_S) (I : pm_I) (L : pm_L) (r : Int64) : pm_QT := fun v G' I' L' => v = some (.long r) ∧ G' = G ∧ I' = I ∧ L' = L
def QA (G : List pm_S) (I : pm_I) (L : pm_L) (r : Value) : pm_QT := fun v G' I' L' => v = some r ∧ G' = G ∧ I' = I ∧ L' = L
def QI (G : List pm_S) (post : Int32 → pm_I → pm_L → Prop) : pm_QT := fun v G' I' L' => ∃ r, v = some (.int r) ∧ G' = G ∧ post r I' L'
def QV (G : List pm_S) (post : pm_I → pm_L → Prop) : pm_QT := fun v G' I' L' => v = none ∧ G' = G ∧ post I' L'
theorem QR.r {G : List pm_S} {I : pm_I} {L : pm_L} {r r' : Int32} (h : r' = r) : QR G I L r (some (.int r')) G I L := ⟨by rw [h], rfl, rfl, rfl⟩
theorem QI.r {G : List pm_S} {I : pm_I} {L : pm_L} {r : Int32} {post : Int32 → pm_I → pm_L → Prop} (h : post r I L) : QI G post (some (.int r)) G I L := ⟨r, rfl, rfl, h⟩
theorem QV.r {G : List pm_S} {I : pm_I} {L : pm_L} {post : pm_I → pm_L → Prop} (h : post I L) : QV G post none G I L := ⟨rfl, rfl, h⟩
theorem QL.r {G : List pm_S} {I : pm_I} {L : pm_L} {r r' : Int64} (h : r' = r) : QL G I L r (some (.long r')) G I L := ⟨by rw [h], rfl, rfl, rfl⟩
section PMV
variable {l : Launch} {P : pm_E} {y : MethodName} {cc : ByteArray} {nL : Nat} {ret : Option FieldType} {R : Room} {Tg : List Frame → Array Value → State → State → Prop} {k n pc : Nat} {ls : List (Option Value)} {st : List Value} {G : List pm_S} {I : pm_I} {L : pm_L}
variable {d ix : Nat} {y' : MethodName} {cc' : ByteArray} {nL' : Nat} {ret' : Option FieldType} {o : Nat} {as stk : List Value}
theorem pm_iald {N j : Nat} (hg : G[o]? = some (.inr (.inl (0, N)))) (hj : j < N) (hN : N < 2 ^ 31) (hd : decode cc pc = .ok (.iaload, 1)) (kk : PW l P y cc nL ret R Tg k n (pc + 1) ls (.int (I o j) :: st) G I L) : PW l P y cc nL ret R Tg k n pc ls (.int (nI j) :: .ref o :: st) G I L :=
  pm_iaload hg (vp_in_nI hj hN) hd (by rw [nI_clamp (Nat.lt_trans hj hN)]; exact kk)
theorem pm_cald {N j : Nat} (hg : G[o]? = some (.inr (.inl (1, N)))) (hj : j < N) (hN : N < 2 ^ 31) (hd : decode cc pc = .ok (.caload, 1)) (kk : PW l P y cc nL ret R Tg k n (pc + 1) ls (.int (I o j) :: st) G I L) : PW l P y cc nL ret R Tg k n pc ls (.int (nI j) :: .ref o :: st) G I L :=
  pm_caload hg (vp_in_nI hj hN) hd (by rw [nI_clamp (Nat.lt_trans hj hN)]; exact kk)
theorem pm_lald {N j : Nat} (hg : G[o]? = some (.inr (.inl (2, N)))) (hj : j < N) (hN : N < 2 ^ 31) (hd : decode cc pc = .ok (.laload, 1)) (kk : PW l P y cc nL ret R Tg k n (pc + 1) ls (.long (L o j) :: st) G I L) : PW l P y cc nL ret R Tg k n pc ls (.int (nI j) :: .ref o :: st) G I L :=
  pm_laload hg (vp_in_nI hj hN) hd (by rw [nI_clamp (Nat.lt_trans hj hN)]; exact kk)
theorem pm_iast {N j : Nat} {x : Int32} (hg : G[o]? = some (.inr (.inl (0, N)))) (hj : j < N) (hN : N < 2 ^ 31) (hd : decode cc pc = .ok (.iastore, 1)) (kk : PW l P y cc nL ret R Tg k n (pc + 1) ls st G (pm_u I o (upd (I o) j x)) L) : PW l P y cc nL ret R Tg k n pc ls (.int x :: .int (nI j) :: .ref o :: st) G I L :=
  pm_iastore hg (vp_in_nI hj hN) hd (by rw [nI_clamp (Nat.lt_trans hj hN)]; exact kk)
theorem pm_cast {N j : Nat} {x : Int32} (hg : G[o]? = some (.inr (.inl (1, N)))) (hj : j < N) (hN : N < 2 ^ 31) (hd : decode cc pc = .ok (.castore, 1)) (kk : PW l P y cc nL ret R Tg k n (pc + 1) ls st G (pm_u I o (upd (I o) j (vp_nar .char x))) L) : PW l P y cc nL ret R Tg k n pc ls (.int x :: .int (nI j) :: .ref o :: st) G I L :=
  pm_castore hg (vp_in_nI hj hN) hd (by rw [nI_clamp (Nat.lt_trans hj hN)]; exact kk)
theorem pm_last {N j : Nat} {x : Int64} (hg : G[o]? = some (.inr (.inl (2, N)))) (hj : j < N) (hN : N < 2 ^ 31) (hd : decode cc pc = .ok (.lastore, 1)) (kk : PW l P y cc nL ret R Tg k n (pc + 1) ls st G I (pm_u L o (vp_updL (L o) j x))) : PW l P y cc nL ret R Tg k n pc ls (.long x :: .int (nI j) :: .ref o :: st) G I L :=
  pm_lastore hg (vp_in_nI hj hN) hd (by rw [nI_clamp (Nat.lt_trans hj hN)]; exact kk)
theorem pm_cVR {r : Int32} (hd : decode cc pc = .ok (.invokevirtual ix, 3)) (hM : PC d 0 0 y' cc' nL' ret' (.ref o :: as) G I L (QR G I L r)) (hw : pm_k y' cc' nL' ret' as.length) (hl : Cond.methodLink y.cls ix y' ∈ TB) (hi : Cond.instanceMethod y' ∈ TB) (hse : Cond.selects y'.cls y' y' ∈ TB) {ci N0 : Nat} {T : u_T} {fs : List (Option (Option Nat))} (hg : G[o]? = some (.inl (ci, fs))) (hc : vwCl[ci]? = some (y'.cls, T, N0)) (hR : d + 1 ≤ R.frames ∧ 8 + (nL' + 11) + 64 * d ≤ R.locals) (hk : k ≤ R.cells ∧ n ≤ R.slots) (hs : stk = as.reverse ++ .ref o :: st) (hcat : (st.map (·.category)).sum ≤ 8) (kk : PW l P y cc nL ret R Tg k n (pc + 3) ls (.int r :: st) G I L) : PW l P y cc nL ret R Tg k n pc ls stk G I L :=
  pm_cV hd hM hw hl hi hse hg hc hR hk hs hcat (fun v G' I' L' h => by obtain ⟨rfl, rfl, rfl, rfl⟩ := h; exact kk)
theorem pm_cVL {r : Int64} (hd : decode cc pc = .ok (.invokevirtual ix, 3)) (hM : PC d 0 0 y' cc' nL' ret' (.ref o :: as) G I L (QL G I L r)) (hw : pm_k y' cc' nL' ret' as.length) (hl : Cond.methodLink y.cls ix y' ∈ TB) (hi : Cond.instanceMethod y' ∈ TB) (hse : Cond.selects y'.cls y' y' ∈ TB) {ci N0 : Nat} {T : u_T} {fs : List (Option (Option Nat))} (hg : G[o]? = some (.inl (ci, fs))) (hc : vwCl[ci]? = some (y'.cls, T, N0)) (hR : d + 1 ≤ R.frames ∧ 8 + (nL' + 11) + 64 * d ≤ R.locals) (hk : k ≤ R.cells ∧ n ≤ R.slots) (hs : stk = as.reverse ++ .ref o :: st) (hcat : (st.map (·.category)).sum ≤ 8) (kk : PW l P y cc nL ret R Tg k n (pc + 3) ls (.long r :: st) G I L) : PW l P y cc nL ret R Tg k n pc ls stk G I L :=
  pm_cV hd hM hw hl hi hse hg hc hR hk hs hcat (fun v G' I' L' h => by obtain ⟨rfl, rfl, rfl, rfl⟩ := h; exact kk)
theorem pm_cVA {r : Value} (hd : decode cc pc = .ok (.invokevirtual ix, 3)) (hM : PC d 0 0 y' cc' nL' ret' (.ref o :: as) G I L (QA G I L r)) (hw : pm_k y' cc' nL' ret' as.length) (hl : Cond.methodLink y.cls ix y' ∈ TB) (hi : Cond.instanceMethod y' ∈ TB) (hse : Cond.selects y'.cls y' y' ∈ TB) {ci N0 : Nat} {T : u_T} {fs : List (Option (Option Nat))} (hg : G[o]? = some (.inl (ci, fs))) (hc : vwCl[ci]? = some (y'.cls, T, N0)) (hR : d + 1 ≤ R.frames ∧ 8 + (nL' + 11) + 64 * d ≤ R.locals) (hk : k ≤ R.cells ∧ n ≤ R.slots) (hs : stk = as.reverse ++ .ref o :: st) (hcat : (st.map (·.category)).sum ≤ 8) (kk : PW l P y cc nL ret R Tg k n (pc + 3) ls (r :: st) G I L) : PW l P y cc nL ret R Tg k n pc ls stk G I L :=
  pm_cV hd hM hw hl hi hse hg hc hR hk hs hcat (fun v G' I' L' h => by obtain ⟨rfl, rfl, rfl, rfl⟩ := h; exact kk)
theorem pm_cVI {post : Int32 → pm_I → pm_L → Prop} (hd : decode cc pc = .ok (.invokevirtual ix, 3)) (hM : PC d 0 0 y' cc' nL' ret' (.ref o :: as) G I L (QI G post)) (hw : pm_k y' cc' nL' ret' as.length) (hl : Cond.methodLink y.cls ix y' ∈ TB) (hi : Cond.instanceMethod y' ∈ TB) (hse : Cond.selects y'.cls y' y' ∈ TB) {ci N0 : Nat} {T : u_T} {fs : List (Option (Option Nat))} (hg : G[o]? = some (.inl (ci, fs))) (hc : vwCl[ci]? = some (y'.cls, T, N0)) (hR : d + 1 ≤ R.frames ∧ 8 + (nL' + 11) + 64 * d ≤ R.locals) (hk : k ≤ R.cells ∧ n ≤ R.slots) (hs : stk = as.reverse ++ .ref o :: st) (hcat : (st.map (·.category)).sum ≤ 8) (kk : ∀ (r : Int32) (I' : pm_I) (L' : pm_L), post r I' L' → PW l P y cc nL ret R Tg k n (pc + 3) ls (.int r :: st) G I' L') : PW l P y cc nL ret R Tg k n pc ls stk G I L :=
  pm_cV hd hM hw hl hi hse hg hc hR hk hs hcat (fun v G' I' L' h => by obtain ⟨r, rfl, rfl, h⟩ := h; exact kk r I' L' h)
theorem pm_cVV {post : pm_I → pm_L → Prop} (hd : decode cc pc = .ok (.invokevirtual ix, 3)) (hM : PC d 0 0 y' cc' nL' ret' (.ref o :: as) G I L (QV G post)) (hw : pm_k y' cc' nL' ret' as.length) (hl : Cond.methodLink y.cls ix y' ∈ TB) (hi : Cond.instanceMethod y' ∈ TB) (hse : Cond.selects y'.cls y' y' ∈ TB) {ci N0 : Nat} {T : u_T} {fs : List (Option (Option Nat))} (hg : G[o]? = some (.inl (ci, fs))) (hc : vwCl[ci]? = some (y'.cls, T, N0)) (hR : d + 1 ≤ R.frames ∧ 8 + (nL' + 11) + 64 * d ≤ R.locals) (hk : k ≤ R.cells ∧ n ≤ R.slots) (hs : stk = as.reverse ++ .ref o :: st) (hcat : (st.map (·.category)).sum ≤ 8) (kk : ∀ (I' : pm_I) (L' : pm_L), post I' L' → PW l P y cc nL ret R Tg k n (pc + 3) ls st G I' L') : PW l P y cc nL ret R Tg k n pc ls stk G I L :=
  pm_cV hd hM hw hl hi hse hg hc hR hk hs hcat (fun v G' I' L' h => by obtain ⟨rfl, rfl, h⟩ := h; exact kk I' L' h)
theorem pm_cSR {r : Int32} (hd : decode cc pc = .ok (.invokestatic ix, 3)) (hM : PC d 0 0 y' cc' nL' ret' as G I L (QR G I L r)) (hw : pm_k y' cc' nL' ret' as.length) (hl : Cond.methodLink y.cls ix y' ∈ TB) (hi : Cond.static y' ∈ TB) (hR : d + 1 ≤ R.frames ∧ 8 + (nL' + 11) + 64 * d ≤ R.locals) (hk : k ≤ R.cells ∧ n ≤ R.slots) (hs : stk = as.reverse ++ st) (hcat : (st.map (·.category)).sum ≤ 8) (kk : PW l P y cc nL ret R Tg k n (pc + 3) ls (.int r :: st) G I L) : PW l P y cc nL ret R Tg k n pc ls stk G I L :=
  pm_cS hd hM hw hl hi hR hk hs hcat (fun v G' I' L' h => by obtain ⟨rfl, rfl, rfl, rfl⟩ := h; exact kk)
theorem pm_cSL {r : Int64} (hd : decode cc pc = .ok (.invokestatic ix, 3)) (hM : PC d 0 0 y' cc' nL' ret' as G I L (QL G I L r)) (hw : pm_k y' cc' nL' ret' as.length) (hl : Cond.methodLink y.cls ix y' ∈ TB) (hi : Cond.static y' ∈ TB) (hR : d + 1 ≤ R.frames ∧ 8 + (nL' + 11) + 64 * d ≤ R.locals) (hk : k ≤ R.cells ∧ n ≤ R.slots) (hs : stk = as.reverse ++ st) (hcat : (st.map (·.category)).sum ≤ 8) (kk : PW l P y cc nL ret R Tg k n (pc + 3) ls (.long r :: st) G I L) : PW l P y cc nL ret R Tg k n pc ls stk G I L :=
  pm_cS hd hM hw hl hi hR hk hs hcat (fun v G' I' L' h => by obtain ⟨rfl, rfl, rfl, rfl⟩ := h; exact kk)
theorem pm_cSA {r : Value} (hd : decode cc pc = .ok (.invokestatic ix, 3)) (hM : PC d 0 0 y' cc' nL' ret' as G I L (QA G I L r)) (hw : pm_k y' cc' nL' ret' as.length) (hl : Cond.methodLink y.cls ix y' ∈ TB) (hi : Cond.static y' ∈ TB) (hR : d + 1 ≤ R.frames ∧ 8 + (nL' + 11) + 64 * d ≤ R.locals) (hk : k ≤ R.cells ∧ n ≤ R.slots) (hs : stk = as.reverse ++ st) (hcat : (st.map (·.category)).sum ≤ 8) (kk : PW l P y cc nL ret R Tg k n (pc + 3) ls (r :: st) G I L) : PW l P y cc nL ret R Tg k n pc ls stk G I L :=
  pm_cS hd hM hw hl hi hR hk hs hcat (fun v G' I' L' h => by obtain ⟨rfl, rfl, rfl, rfl⟩ := h; exact kk)
theorem pm_cSI {post : Int32 → pm_I → pm_L → Prop} (hd : decode cc pc = .ok (.invokestatic ix, 3)) (hM : PC d 0 0 y' cc' nL' ret' as G I L (QI G post)) (hw : pm_k y' cc' nL' ret' as.length) (hl : Cond.methodLink y.cls ix y' ∈ TB) (hi : Cond.static y' ∈ TB) (hR : d + 1 ≤ R.frames ∧ 8 + (nL' + 11) + 64 * d ≤ R.locals) (hk : k ≤ R.cells ∧ n ≤ R.slots) (hs : stk = as.reverse ++ st) (hcat : (st.map (·.category)).sum ≤ 8) (kk : ∀ (r : Int32) (I' : pm_I) (L' : pm_L), post r I' L' → PW l P y cc nL ret R Tg k n (pc + 3) ls (.int r :: st) G I' L') : PW l P y cc nL ret R Tg k n pc ls stk G I L :=
  pm_cS hd hM hw hl hi hR hk hs hcat (fun v G' I' L' h => by obtain ⟨r, rfl, rfl, h⟩ := h; exact kk r I' L' h)
theorem pm_cSV {post : pm_I → pm_L → Prop} (hd : decode cc pc = .ok (.invokestatic ix, 3)) (hM : PC d 0 0 y' cc' nL' ret' as G I L (QV G post)) (hw : pm_k y' cc' nL' ret' as.length) (hl : Cond.methodLink y.cls ix y' ∈ TB) (hi : Cond.static y' ∈ TB) (hR : d + 1 ≤ R.frames ∧ 8 + (nL' + 11) + 64 * d ≤ R.locals) (hk : k ≤ R.cells ∧ n ≤ R.slots) (hs : stk = as.reverse ++ st) (hcat : (st.map (·.category)).sum ≤ 8) (kk : ∀ (I' : pm_I) (L' : pm_L), post I' L' → PW l P y cc nL ret R Tg k n (pc + 3) ls st G I' L') : PW l P y cc nL ret R Tg k n pc ls stk G I L :=
  pm_cS hd hM hw hl hi hR hk hs hcat (fun v G' I' L' h => by obtain ⟨rfl, rfl, h⟩ := h; exact kk I' L' h)
theorem pm_cSNR {r : Int32} (hd : decode cc pc = .ok (.invokestatic ix, 3)) (hM : PC d 0 0 y' cc' nL' ret' as G I L (QR G I L r)) (hw : pm_k y' cc' nL' ret' as.length) {hst : String} (hl : (y.cls, ix, y', hst) ∈ NW) (hi : Cond.static y' ∈ TB) (hR : d + 1 ≤ R.frames ∧ 8 + (nL' + 11) + 64 * d ≤ R.locals) (hk : k ≤ R.cells ∧ n ≤ R.slots) (hs : stk = as.reverse ++ st) (hcat : (st.map (·.category)).sum ≤ 8) (kk : PW l P y cc nL ret R Tg k n (pc + 3) ls (.int r :: st) G I L) : PW l P y cc nL ret R Tg k n pc ls stk G I L :=
  pm_cSN hd hM hw hl hi hR hk hs hcat (fun v G' I' L' h => by obtain ⟨rfl, rfl, rfl, rfl⟩ := h; exact kk)
theorem pm_cSNL {r : Int64} (hd : decode cc pc = .ok (.invokestatic ix, 3)) (hM : PC d 0 0 y' cc' nL' ret' as G I L (QL G I L r)) (hw : pm_k y' cc' nL' ret' as.length) {hst : String} (hl : (y.cls, ix, y', hst) ∈ NW) (hi : Cond.static y' ∈ TB) (hR : d + 1 ≤ R.frames ∧ 8 + (nL' + 11) + 64 * d ≤ R.locals) (hk : k ≤ R.cells ∧ n ≤ R.slots) (hs : stk = as.reverse ++ st) (hcat : (st.map (·.category)).sum ≤ 8) (kk : PW l P y cc nL ret R Tg k n (pc + 3) ls (.long r :: st) G I L) : PW l P y cc nL ret R Tg k n pc ls stk G I L :=
  pm_cSN hd hM hw hl hi hR hk hs hcat (fun v G' I' L' h => by obtain ⟨rfl, rfl, rfl, rfl⟩ := h; exact kk)
theorem pm_cSNA {r : Value} (hd : decode cc pc = .ok (.invokestatic ix, 3)) (hM : PC d 0 0 y' cc' nL' ret' as G I L (QA G I L r)) (hw : pm_k y' cc' nL' ret' as.length) {hst : String} (hl : (y.cls, ix, y', hst) ∈ NW) (hi : Cond.static y' ∈ TB) (hR : d + 1 ≤ R.frames ∧ 8 + (nL' + 11) + 64 * d ≤ R.locals) (hk : k ≤ R.cells ∧ n ≤ R.slots) (hs : stk = as.reverse ++ st) (hcat : (st.map (·.category)).sum ≤ 8) (kk : PW l P y cc nL ret R Tg k n (pc + 3) ls (r :: st) G I L) : PW l P y cc nL ret R Tg k n pc ls stk G I L :=
  pm_cSN hd hM hw hl hi hR hk hs hcat (fun v G' I' L' h => by obtain ⟨rfl, rfl, rfl, rfl⟩ := h; exact kk)
theorem pm_cSNI {post : Int32 → pm_I → pm_L → Prop} (hd : decode cc pc = .ok (.invokestatic ix, 3)) (hM : PC d 0 0 y' cc' nL' ret' as G I L (QI G post)) (hw : pm_k y' cc' nL' ret' as.length) {hst : String} (hl : (y.cls, ix, y', hst) ∈ NW) (hi : Cond.static y' ∈ TB) (hR : d + 1 ≤ R.frames ∧ 8 + (nL' + 11) + 64 * d ≤ R.locals) (hk : k ≤ R.cells ∧ n ≤ R.slots) (hs : stk = as.reverse ++ st) (hcat : (st.map (·.category)).sum ≤ 8) (kk : ∀ (r : Int32) (I' : pm_I) (L' : pm_L), post r I' L' → PW l P y cc nL ret R Tg k n (pc + 3) ls (.int r :: st) G I' L') : PW l P y cc nL ret R Tg k n pc ls stk G I L :=
  pm_cSN hd hM hw hl hi hR hk hs hcat (fun v G' I' L' h => by obtain ⟨r, rfl, rfl, h⟩ := h; exact kk r I' L' h)
theorem pm_cSNV {post : pm_I → pm_L → Prop} (hd : decode cc pc = .ok (.invokestatic ix, 3)) (hM : PC d 0 0 y' cc' nL' ret' as G I L (QV G post)) (hw : pm_k y' cc' nL' ret' as.length) {hst : String} (hl : (y.cls, ix, y', hst) ∈ NW) (hi : Cond.static y' ∈ TB) (hR : d + 1 ≤ R.frames ∧ 8 + (nL' + 11) + 64 * d ≤ R.locals) (hk : k ≤ R.cells ∧ n ≤ R.slots) (hs : stk = as.reverse ++ st) (hcat : (st.map (·.category)).sum ≤ 8) (kk : ∀ (I' : pm_I) (L' : pm_L), post I' L' → PW l P y cc nL ret R Tg k n (pc + 3) ls st G I' L') : PW l P y cc nL ret R Tg k n pc ls stk G I L :=
  pm_cSN hd hM hw hl hi hR hk hs hcat (fun v G' I' L' h => by obtain ⟨rfl, rfl, h⟩ := h; exact kk I' L' h)
end PMV
end
