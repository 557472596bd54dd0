section
-- ===== PART A: goes FIRST, ahead of the names: the tables' words, and 'selects' of the private methods out of them =====
/-- a private method of a class that the tables say can be made, by its rows of tables_1 -/
def lw_okq (q : MethodName × Nat) : Prop := (q.1.cls ≠ "java/lang/invoke/MethodHandle" ∧ q.1.cls ≠ "java/lang/invoke/VarHandle") ∧ Cond.instantiable q.1.cls q.2 ∈ tables_1 ∧ Cond.privateMethod q.1 ∈ tables_1 ∧ Cond.instanceMethod q.1 ∈ tables_1
theorem lw_p0 : lw_okq (⟨"WormHeap$Gold", "put", "(II)V"⟩, 9) := ⟨⟨by decide +kernel, by decide +kernel⟩, List.mem_of_getElem? (i := 30) (by decide +kernel), List.mem_of_getElem? (i := 197) (by decide +kernel), List.mem_of_getElem? (i := 198) (by decide +kernel)⟩
theorem lw_p1 : lw_okq (⟨"WormHeap$Tape", "skipBlanks", "()V"⟩, 3) := ⟨⟨by decide +kernel, by decide +kernel⟩, List.mem_of_getElem? (i := 91) (by decide +kernel), List.mem_of_getElem? (i := 315) (by decide +kernel), List.mem_of_getElem? (i := 316) (by decide +kernel)⟩
theorem lw_p2 : lw_okq (⟨"WormHeap$HeapText", "readPiece", "(LWormHeap$Tape;I)Z"⟩, 4) := ⟨⟨by decide +kernel, by decide +kernel⟩, List.mem_of_getElem? (i := 108) (by decide +kernel), List.mem_of_getElem? (i := 396) (by decide +kernel), List.mem_of_getElem? (i := 397) (by decide +kernel)⟩
theorem lw_p3 : lw_okq (⟨"WormHeap$Gold", "eat", "()V"⟩, 9) := ⟨⟨by decide +kernel, by decide +kernel⟩, List.mem_of_getElem? (i := 30) (by decide +kernel), List.mem_of_getElem? (i := 493) (by decide +kernel), List.mem_of_getElem? (i := 494) (by decide +kernel)⟩
theorem lw_p4 : lw_okq (⟨"WormHeap$Gold", "take", "(I)I"⟩, 9) := ⟨⟨by decide +kernel, by decide +kernel⟩, List.mem_of_getElem? (i := 30) (by decide +kernel), List.mem_of_getElem? (i := 502) (by decide +kernel), List.mem_of_getElem? (i := 503) (by decide +kernel)⟩
theorem lw_p5 : lw_okq (⟨"WormHeap$Gold", "turned", "(I)I"⟩, 9) := ⟨⟨by decide +kernel, by decide +kernel⟩, List.mem_of_getElem? (i := 30) (by decide +kernel), List.mem_of_getElem? (i := 545) (by decide +kernel), List.mem_of_getElem? (i := 546) (by decide +kernel)⟩
theorem lw_p6 : lw_okq (⟨"WormHeap$Towns", "give", "(LWormHeap$Gold;I)V"⟩, 2) := ⟨⟨by decide +kernel, by decide +kernel⟩, List.mem_of_getElem? (i := 78) (by decide +kernel), List.mem_of_getElem? (i := 617) (by decide +kernel), List.mem_of_getElem? (i := 618) (by decide +kernel)⟩
theorem lw_p7 : lw_okq (⟨"WormHeap", "sheetAt", "(I)LWormHeap$Sheet;"⟩, 9) := ⟨⟨by decide +kernel, by decide +kernel⟩, List.mem_of_getElem? (i := 22) (by decide +kernel), List.mem_of_getElem? (i := 681) (by decide +kernel), List.mem_of_getElem? (i := 682) (by decide +kernel)⟩
theorem lw_p8 : lw_okq (⟨"WormHeapModel", "addPiece", "(IIII)V"⟩, 34) := ⟨⟨by decide +kernel, by decide +kernel⟩, List.mem_of_getElem? (i := 777) (by decide +kernel), List.mem_of_getElem? (i := 896) (by decide +kernel), List.mem_of_getElem? (i := 897) (by decide +kernel)⟩
theorem lw_p9 : lw_okq (⟨"WormHeapModel", "put", "(II)V"⟩, 34) := ⟨⟨by decide +kernel, by decide +kernel⟩, List.mem_of_getElem? (i := 777) (by decide +kernel), List.mem_of_getElem? (i := 900) (by decide +kernel), List.mem_of_getElem? (i := 901) (by decide +kernel)⟩
theorem lw_p10 : lw_okq (⟨"WormHeapModel", "isPiece", "(I)Z"⟩, 34) := ⟨⟨by decide +kernel, by decide +kernel⟩, List.mem_of_getElem? (i := 777) (by decide +kernel), List.mem_of_getElem? (i := 908) (by decide +kernel), List.mem_of_getElem? (i := 909) (by decide +kernel)⟩
theorem lw_p11 : lw_okq (⟨"WormHeapModel", "weighs", "(I)I"⟩, 34) := ⟨⟨by decide +kernel, by decide +kernel⟩, List.mem_of_getElem? (i := 777) (by decide +kernel), List.mem_of_getElem? (i := 912) (by decide +kernel), List.mem_of_getElem? (i := 913) (by decide +kernel)⟩
theorem lw_p12 : lw_okq (⟨"WormHeapModel", "townOf", "(I)I"⟩, 34) := ⟨⟨by decide +kernel, by decide +kernel⟩, List.mem_of_getElem? (i := 777) (by decide +kernel), List.mem_of_getElem? (i := 916) (by decide +kernel), List.mem_of_getElem? (i := 917) (by decide +kernel)⟩
theorem lw_p13 : lw_okq (⟨"WormHeapModel", "offOf", "(I)I"⟩, 34) := ⟨⟨by decide +kernel, by decide +kernel⟩, List.mem_of_getElem? (i := 777) (by decide +kernel), List.mem_of_getElem? (i := 920) (by decide +kernel), List.mem_of_getElem? (i := 921) (by decide +kernel)⟩
theorem lw_p14 : lw_okq (⟨"WormHeapModel", "loadOf", "(I)I"⟩, 34) := ⟨⟨by decide +kernel, by decide +kernel⟩, List.mem_of_getElem? (i := 777) (by decide +kernel), List.mem_of_getElem? (i := 932) (by decide +kernel), List.mem_of_getElem? (i := 933) (by decide +kernel)⟩
theorem lw_p15 : lw_okq (⟨"WormHeapModel", "topOf", "(I)I"⟩, 34) := ⟨⟨by decide +kernel, by decide +kernel⟩, List.mem_of_getElem? (i := 777) (by decide +kernel), List.mem_of_getElem? (i := 936) (by decide +kernel), List.mem_of_getElem? (i := 937) (by decide +kernel)⟩
def lw_privs_1 : List (MethodName × Nat) := [(⟨"WormHeap$Gold", "put", "(II)V"⟩, 9), (⟨"WormHeap$Tape", "skipBlanks", "()V"⟩, 3), (⟨"WormHeap$HeapText", "readPiece", "(LWormHeap$Tape;I)Z"⟩, 4), (⟨"WormHeap$Gold", "eat", "()V"⟩, 9), (⟨"WormHeap$Gold", "take", "(I)I"⟩, 9), (⟨"WormHeap$Gold", "turned", "(I)I"⟩, 9), (⟨"WormHeap$Towns", "give", "(LWormHeap$Gold;I)V"⟩, 2), (⟨"WormHeap", "sheetAt", "(I)LWormHeap$Sheet;"⟩, 9), (⟨"WormHeapModel", "addPiece", "(IIII)V"⟩, 34), (⟨"WormHeapModel", "put", "(II)V"⟩, 34), (⟨"WormHeapModel", "isPiece", "(I)Z"⟩, 34), (⟨"WormHeapModel", "weighs", "(I)I"⟩, 34), (⟨"WormHeapModel", "townOf", "(I)I"⟩, 34), (⟨"WormHeapModel", "offOf", "(I)I"⟩, 34), (⟨"WormHeapModel", "loadOf", "(I)I"⟩, 34), (⟨"WormHeapModel", "topOf", "(I)I"⟩, 34)]
theorem lw_r1 : ∀ q ∈ lw_privs_1, lw_okq q := List.forall_mem_cons.mpr ⟨lw_p0, List.forall_mem_cons.mpr ⟨lw_p1, List.forall_mem_cons.mpr ⟨lw_p2, List.forall_mem_cons.mpr ⟨lw_p3, List.forall_mem_cons.mpr ⟨lw_p4, List.forall_mem_cons.mpr ⟨lw_p5, List.forall_mem_cons.mpr ⟨lw_p6, List.forall_mem_cons.mpr ⟨lw_p7, List.forall_mem_cons.mpr ⟨lw_p8, List.forall_mem_cons.mpr ⟨lw_p9, List.forall_mem_cons.mpr ⟨lw_p10, List.forall_mem_cons.mpr ⟨lw_p11, List.forall_mem_cons.mpr ⟨lw_p12, List.forall_mem_cons.mpr ⟨lw_p13, List.forall_mem_cons.mpr ⟨lw_p14, List.forall_mem_cons.mpr ⟨lw_p15, fun _ h => absurd h List.not_mem_nil⟩⟩⟩⟩⟩⟩⟩⟩⟩⟩⟩⟩⟩⟩⟩⟩
theorem lw_p16 : lw_okq (⟨"WormHeapModel", "countIn", "(I)I"⟩, 34) := ⟨⟨by decide +kernel, by decide +kernel⟩, List.mem_of_getElem? (i := 777) (by decide +kernel), List.mem_of_getElem? (i := 948) (by decide +kernel), List.mem_of_getElem? (i := 949) (by decide +kernel)⟩
theorem lw_p17 : lw_okq (⟨"WormHeapModel", "placesWeigh", "()I"⟩, 34) := ⟨⟨by decide +kernel, by decide +kernel⟩, List.mem_of_getElem? (i := 777) (by decide +kernel), List.mem_of_getElem? (i := 952) (by decide +kernel), List.mem_of_getElem? (i := 953) (by decide +kernel)⟩
theorem lw_p18 : lw_okq (⟨"WormHeapModel", "bagWeighs", "()I"⟩, 34) := ⟨⟨by decide +kernel, by decide +kernel⟩, List.mem_of_getElem? (i := 777) (by decide +kernel), List.mem_of_getElem? (i := 956) (by decide +kernel), List.mem_of_getElem? (i := 957) (by decide +kernel)⟩
theorem lw_p19 : lw_okq (⟨"WormHeapModel", "takePiece", "()V"⟩, 34) := ⟨⟨by decide +kernel, by decide +kernel⟩, List.mem_of_getElem? (i := 777) (by decide +kernel), List.mem_of_getElem? (i := 972) (by decide +kernel), List.mem_of_getElem? (i := 973) (by decide +kernel)⟩
theorem lw_p20 : lw_okq (⟨"WormHeapModel", "here", "()I"⟩, 34) := ⟨⟨by decide +kernel, by decide +kernel⟩, List.mem_of_getElem? (i := 777) (by decide +kernel), List.mem_of_getElem? (i := 976) (by decide +kernel), List.mem_of_getElem? (i := 977) (by decide +kernel)⟩
theorem lw_p21 : lw_okq (⟨"WormHeapModel", "fails", "(I)V"⟩, 34) := ⟨⟨by decide +kernel, by decide +kernel⟩, List.mem_of_getElem? (i := 777) (by decide +kernel), List.mem_of_getElem? (i := 980) (by decide +kernel), List.mem_of_getElem? (i := 981) (by decide +kernel)⟩
theorem lw_p22 : lw_okq (⟨"WormHeapModel", "takeNumber", "()I"⟩, 34) := ⟨⟨by decide +kernel, by decide +kernel⟩, List.mem_of_getElem? (i := 777) (by decide +kernel), List.mem_of_getElem? (i := 984) (by decide +kernel), List.mem_of_getElem? (i := 985) (by decide +kernel)⟩
theorem lw_p23 : lw_okq (⟨"WormHeapModel", "take", "(II)I"⟩, 34) := ⟨⟨by decide +kernel, by decide +kernel⟩, List.mem_of_getElem? (i := 777) (by decide +kernel), List.mem_of_getElem? (i := 990) (by decide +kernel), List.mem_of_getElem? (i := 991) (by decide +kernel)⟩
theorem lw_p24 : lw_okq (⟨"WormHeapModel", "takeAct", "()V"⟩, 34) := ⟨⟨by decide +kernel, by decide +kernel⟩, List.mem_of_getElem? (i := 777) (by decide +kernel), List.mem_of_getElem? (i := 998) (by decide +kernel), List.mem_of_getElem? (i := 999) (by decide +kernel)⟩
theorem lw_p25 : lw_okq (⟨"WormHeapModel", "takeLetter", "()I"⟩, 34) := ⟨⟨by decide +kernel, by decide +kernel⟩, List.mem_of_getElem? (i := 777) (by decide +kernel), List.mem_of_getElem? (i := 1002) (by decide +kernel), List.mem_of_getElem? (i := 1003) (by decide +kernel)⟩
theorem lw_p26 : lw_okq (⟨"WormHeapModel", "takeMark", "(I)V"⟩, 34) := ⟨⟨by decide +kernel, by decide +kernel⟩, List.mem_of_getElem? (i := 777) (by decide +kernel), List.mem_of_getElem? (i := 1006) (by decide +kernel), List.mem_of_getElem? (i := 1007) (by decide +kernel)⟩
theorem lw_p27 : lw_okq (⟨"WormHeapModel", "canBe", "(I)Z"⟩, 34) := ⟨⟨by decide +kernel, by decide +kernel⟩, List.mem_of_getElem? (i := 777) (by decide +kernel), List.mem_of_getElem? (i := 1010) (by decide +kernel), List.mem_of_getElem? (i := 1011) (by decide +kernel)⟩
theorem lw_p28 : lw_okq (⟨"WormHeapModel", "goes", "(I)Z"⟩, 34) := ⟨⟨by decide +kernel, by decide +kernel⟩, List.mem_of_getElem? (i := 777) (by decide +kernel), List.mem_of_getElem? (i := 1023) (by decide +kernel), List.mem_of_getElem? (i := 1024) (by decide +kernel)⟩
theorem lw_p29 : lw_okq (⟨"WormHeapModel", "isFelt", "(I)Z"⟩, 34) := ⟨⟨by decide +kernel, by decide +kernel⟩, List.mem_of_getElem? (i := 777) (by decide +kernel), List.mem_of_getElem? (i := 1027) (by decide +kernel), List.mem_of_getElem? (i := 1028) (by decide +kernel)⟩
theorem lw_p30 : lw_okq (⟨"WormHeapModel", "wake", "()V"⟩, 34) := ⟨⟨by decide +kernel, by decide +kernel⟩, List.mem_of_getElem? (i := 777) (by decide +kernel), List.mem_of_getElem? (i := 1034) (by decide +kernel), List.mem_of_getElem? (i := 1035) (by decide +kernel)⟩
theorem lw_p31 : lw_okq (⟨"WormHeapModel", "doAct", "(I)I"⟩, 34) := ⟨⟨by decide +kernel, by decide +kernel⟩, List.mem_of_getElem? (i := 777) (by decide +kernel), List.mem_of_getElem? (i := 1038) (by decide +kernel), List.mem_of_getElem? (i := 1039) (by decide +kernel)⟩
def lw_privs_2 : List (MethodName × Nat) := [(⟨"WormHeapModel", "countIn", "(I)I"⟩, 34), (⟨"WormHeapModel", "placesWeigh", "()I"⟩, 34), (⟨"WormHeapModel", "bagWeighs", "()I"⟩, 34), (⟨"WormHeapModel", "takePiece", "()V"⟩, 34), (⟨"WormHeapModel", "here", "()I"⟩, 34), (⟨"WormHeapModel", "fails", "(I)V"⟩, 34), (⟨"WormHeapModel", "takeNumber", "()I"⟩, 34), (⟨"WormHeapModel", "take", "(II)I"⟩, 34), (⟨"WormHeapModel", "takeAct", "()V"⟩, 34), (⟨"WormHeapModel", "takeLetter", "()I"⟩, 34), (⟨"WormHeapModel", "takeMark", "(I)V"⟩, 34), (⟨"WormHeapModel", "canBe", "(I)Z"⟩, 34), (⟨"WormHeapModel", "goes", "(I)Z"⟩, 34), (⟨"WormHeapModel", "isFelt", "(I)Z"⟩, 34), (⟨"WormHeapModel", "wake", "()V"⟩, 34), (⟨"WormHeapModel", "doAct", "(I)I"⟩, 34)]
theorem lw_r2 : ∀ q ∈ lw_privs_2, lw_okq q := List.forall_mem_cons.mpr ⟨lw_p16, List.forall_mem_cons.mpr ⟨lw_p17, List.forall_mem_cons.mpr ⟨lw_p18, List.forall_mem_cons.mpr ⟨lw_p19, List.forall_mem_cons.mpr ⟨lw_p20, List.forall_mem_cons.mpr ⟨lw_p21, List.forall_mem_cons.mpr ⟨lw_p22, List.forall_mem_cons.mpr ⟨lw_p23, List.forall_mem_cons.mpr ⟨lw_p24, List.forall_mem_cons.mpr ⟨lw_p25, List.forall_mem_cons.mpr ⟨lw_p26, List.forall_mem_cons.mpr ⟨lw_p27, List.forall_mem_cons.mpr ⟨lw_p28, List.forall_mem_cons.mpr ⟨lw_p29, List.forall_mem_cons.mpr ⟨lw_p30, List.forall_mem_cons.mpr ⟨lw_p31, fun _ h => absurd h List.not_mem_nil⟩⟩⟩⟩⟩⟩⟩⟩⟩⟩⟩⟩⟩⟩⟩⟩
theorem lw_p32 : lw_okq (⟨"WormHeapModel", "takeTop", "(I)I"⟩, 34) := ⟨⟨by decide +kernel, by decide +kernel⟩, List.mem_of_getElem? (i := 777) (by decide +kernel), List.mem_of_getElem? (i := 1042) (by decide +kernel), List.mem_of_getElem? (i := 1043) (by decide +kernel)⟩
theorem lw_p33 : lw_okq (⟨"WormHeapModel", "tryAct", "(I)I"⟩, 34) := ⟨⟨by decide +kernel, by decide +kernel⟩, List.mem_of_getElem? (i := 777) (by decide +kernel), List.mem_of_getElem? (i := 1050) (by decide +kernel), List.mem_of_getElem? (i := 1051) (by decide +kernel)⟩
theorem lw_p34 : lw_okq (⟨"WormHeapModel", "find", "(I)I"⟩, 34) := ⟨⟨by decide +kernel, by decide +kernel⟩, List.mem_of_getElem? (i := 777) (by decide +kernel), List.mem_of_getElem? (i := 1076) (by decide +kernel), List.mem_of_getElem? (i := 1077) (by decide +kernel)⟩
theorem lw_p35 : lw_okq (⟨"WormHeapModel", "lastAct", "(I)I"⟩, 34) := ⟨⟨by decide +kernel, by decide +kernel⟩, List.mem_of_getElem? (i := 777) (by decide +kernel), List.mem_of_getElem? (i := 1080) (by decide +kernel), List.mem_of_getElem? (i := 1081) (by decide +kernel)⟩
theorem lw_p36 : lw_okq (⟨"WormHeapModel", "save", "(I)V"⟩, 34) := ⟨⟨by decide +kernel, by decide +kernel⟩, List.mem_of_getElem? (i := 777) (by decide +kernel), List.mem_of_getElem? (i := 1084) (by decide +kernel), List.mem_of_getElem? (i := 1085) (by decide +kernel)⟩
theorem lw_p37 : lw_okq (⟨"WormHeapModel", "nextAct", "(I)I"⟩, 34) := ⟨⟨by decide +kernel, by decide +kernel⟩, List.mem_of_getElem? (i := 777) (by decide +kernel), List.mem_of_getElem? (i := 1088) (by decide +kernel), List.mem_of_getElem? (i := 1089) (by decide +kernel)⟩
theorem lw_p38 : lw_okq (⟨"WormHeapModel", "isCode", "(I)Z"⟩, 34) := ⟨⟨by decide +kernel, by decide +kernel⟩, List.mem_of_getElem? (i := 777) (by decide +kernel), List.mem_of_getElem? (i := 1092) (by decide +kernel), List.mem_of_getElem? (i := 1093) (by decide +kernel)⟩
theorem lw_p39 : lw_okq (⟨"WormHeapModel", "load", "(I)V"⟩, 34) := ⟨⟨by decide +kernel, by decide +kernel⟩, List.mem_of_getElem? (i := 777) (by decide +kernel), List.mem_of_getElem? (i := 1096) (by decide +kernel), List.mem_of_getElem? (i := 1097) (by decide +kernel)⟩
theorem lw_p40 : lw_okq (⟨"WormHeapModel", "townsThatLie", "()I"⟩, 34) := ⟨⟨by decide +kernel, by decide +kernel⟩, List.mem_of_getElem? (i := 777) (by decide +kernel), List.mem_of_getElem? (i := 1108) (by decide +kernel), List.mem_of_getElem? (i := 1109) (by decide +kernel)⟩
theorem lw_p41 : lw_okq (⟨"WormHeapModel", "against", "(IIII)I"⟩, 34) := ⟨⟨by decide +kernel, by decide +kernel⟩, List.mem_of_getElem? (i := 777) (by decide +kernel), List.mem_of_getElem? (i := 1145) (by decide +kernel), List.mem_of_getElem? (i := 1146) (by decide +kernel)⟩
theorem lw_p42 : lw_okq (⟨"WormHeapModel", "sumIn", "(II)I"⟩, 34) := ⟨⟨by decide +kernel, by decide +kernel⟩, List.mem_of_getElem? (i := 777) (by decide +kernel), List.mem_of_getElem? (i := 1149) (by decide +kernel), List.mem_of_getElem? (i := 1150) (by decide +kernel)⟩
def lw_privs_3 : List (MethodName × Nat) := [(⟨"WormHeapModel", "takeTop", "(I)I"⟩, 34), (⟨"WormHeapModel", "tryAct", "(I)I"⟩, 34), (⟨"WormHeapModel", "find", "(I)I"⟩, 34), (⟨"WormHeapModel", "lastAct", "(I)I"⟩, 34), (⟨"WormHeapModel", "save", "(I)V"⟩, 34), (⟨"WormHeapModel", "nextAct", "(I)I"⟩, 34), (⟨"WormHeapModel", "isCode", "(I)Z"⟩, 34), (⟨"WormHeapModel", "load", "(I)V"⟩, 34), (⟨"WormHeapModel", "townsThatLie", "()I"⟩, 34), (⟨"WormHeapModel", "against", "(IIII)I"⟩, 34), (⟨"WormHeapModel", "sumIn", "(II)I"⟩, 34)]
theorem lw_r3 : ∀ q ∈ lw_privs_3, lw_okq q := List.forall_mem_cons.mpr ⟨lw_p32, List.forall_mem_cons.mpr ⟨lw_p33, List.forall_mem_cons.mpr ⟨lw_p34, List.forall_mem_cons.mpr ⟨lw_p35, List.forall_mem_cons.mpr ⟨lw_p36, List.forall_mem_cons.mpr ⟨lw_p37, List.forall_mem_cons.mpr ⟨lw_p38, List.forall_mem_cons.mpr ⟨lw_p39, List.forall_mem_cons.mpr ⟨lw_p40, List.forall_mem_cons.mpr ⟨lw_p41, List.forall_mem_cons.mpr ⟨lw_p42, fun _ h => absurd h List.not_mem_nil⟩⟩⟩⟩⟩⟩⟩⟩⟩⟩⟩
def lw_privs : List (MethodName × Nat) := lw_privs_1 ++ (lw_privs_2 ++ (lw_privs_3))
def lw_tbl : List Cond := k2_sels lw_privs ++ tables_1
theorem lw_privs_ok : ∀ q ∈ lw_privs, lw_okq q := by
  show ∀ q ∈ lw_privs_1 ++ (lw_privs_2 ++ (lw_privs_3)), lw_okq q
  exact List.forall_mem_append.mpr ⟨lw_r1, List.forall_mem_append.mpr ⟨lw_r2, lw_r3⟩⟩
-- ===== end of PART A; then your names; then what follows =====
def RX0 : String := "WormHeap$Act"
def TX0 : u_T := fun k => match k with
  | _ => ("", "", "", false)
def tyX0 : Nat → FieldType := fun k => match k with
  | _ => .int
theorem nmX0 : ∀ a, a < 0 → ∀ b, b < 0 → a ≠ b → (TX0 a).2.1 ≠ (TX0 b).2.1 := by decide +kernel
theorem tyX0_ok : ∀ k, k < 0 → parseFieldDescriptor (TX0 k).2.2.1 = some (tyX0 k) := by decide +kernel
abbrev cX0_code : ByteArray := prog_2_method_2_code
def yX0_code : MethodName := ⟨RX0, "code", "(III)I"⟩
abbrev cX0_how : ByteArray := prog_2_method_3_code
def yX0_how : MethodName := ⟨RX0, "how", "(I)I"⟩
abbrev cX0_where : ByteArray := prog_2_method_4_code
def yX0_where : MethodName := ⟨RX0, "where", "(I)I"⟩
abbrev cX0_other : ByteArray := prog_2_method_5_code
def yX0_other : MethodName := ⟨RX0, "other", "(I)I"⟩
abbrev cX0_back : ByteArray := prog_2_method_6_code
def yX0_back : MethodName := ⟨RX0, "back", "(II)I"⟩
def RX1 : String := "WormHeap$Dent"
def TX1 : u_T := fun k => match k with
  | _ => ("", "", "", false)
def tyX1 : Nat → FieldType := fun k => match k with
  | _ => .int
theorem nmX1 : ∀ a, a < 0 → ∀ b, b < 0 → a ≠ b → (TX1 a).2.1 ≠ (TX1 b).2.1 := by decide +kernel
theorem tyX1_ok : ∀ k, k < 0 → parseFieldDescriptor (TX1 k).2.2.1 = some (tyX1 k) := by decide +kernel
abbrev cX1_setsBy : ByteArray := prog_3_method_2_code
def yX1_setsBy : MethodName := ⟨RX1, "setsBy", "(LWormHeap$Gold;IJ)I"⟩
abbrev cX1_leastBy : ByteArray := prog_3_method_3_code
def yX1_leastBy : MethodName := ⟨RX1, "leastBy", "(LWormHeap$Gold;IJ)I"⟩
abbrev cX1_nextSubset : ByteArray := prog_3_method_4_code
def yX1_nextSubset : MethodName := ⟨RX1, "nextSubset", "(II)I"⟩
def RX2 : String := "WormHeap$Gold"
def TX2 : u_T := fun k => match k with
  | 0 => ("WormHeap$Gold", "kind", "[I", true)
  | 1 => ("WormHeap$Gold", "weight", "[I", true)
  | 2 => ("WormHeap$Gold", "town", "[I", true)
  | 3 => ("WormHeap$Gold", "place", "[I", true)
  | 4 => ("WormHeap$Gold", "below", "[I", true)
  | 5 => ("WormHeap$Gold", "top", "[I", true)
  | 6 => ("WormHeap$Gold", "sense", "[I", true)
  | 7 => ("WormHeap$Gold", "pieces", "I", false)
  | _ => ("WormHeap$Gold", "awake", "I", false)
def tyX2 : Nat → FieldType := fun k => match k with
  | 0 => .array .int
  | 1 => .array .int
  | 2 => .array .int
  | 3 => .array .int
  | 4 => .array .int
  | 5 => .array .int
  | 6 => .array .int
  | 7 => .int
  | _ => .int
theorem nmX2 : ∀ a, a < 9 → ∀ b, b < 9 → a ≠ b → (TX2 a).2.1 ≠ (TX2 b).2.1 := by decide +kernel
theorem tyX2_ok : ∀ k, k < 9 → parseFieldDescriptor (TX2 k).2.2.1 = some (tyX2 k) := by decide +kernel
abbrev cX2_init : ByteArray := prog_4_method_1_code
def yX2_init : MethodName := ⟨RX2, "<init>", "()V"⟩
abbrev cX2_isPiece : ByteArray := prog_4_method_2_code
def yX2_isPiece : MethodName := ⟨RX2, "isPiece", "(I)Z"⟩
abbrev cX2_pieces : ByteArray := prog_4_method_3_code
def yX2_pieces : MethodName := ⟨RX2, "pieces", "()I"⟩
abbrev cX2_timesAwake : ByteArray := prog_4_method_4_code
def yX2_timesAwake : MethodName := ⟨RX2, "timesAwake", "()I"⟩
abbrev cX2_kindOf : ByteArray := prog_4_method_5_code
def yX2_kindOf : MethodName := ⟨RX2, "kindOf", "(I)I"⟩
abbrev cX2_weighs : ByteArray := prog_4_method_6_code
def yX2_weighs : MethodName := ⟨RX2, "weighs", "(I)I"⟩
abbrev cX2_ownerOf : ByteArray := prog_4_method_7_code
def yX2_ownerOf : MethodName := ⟨RX2, "ownerOf", "(I)I"⟩
abbrev cX2_placeOf : ByteArray := prog_4_method_8_code
def yX2_placeOf : MethodName := ⟨RX2, "placeOf", "(I)I"⟩
abbrev cX2_offOf : ByteArray := prog_4_method_9_code
def yX2_offOf : MethodName := ⟨RX2, "offOf", "(I)I"⟩
abbrev cX2_belowOf : ByteArray := prog_4_method_10_code
def yX2_belowOf : MethodName := ⟨RX2, "belowOf", "(I)I"⟩
abbrev cX2_topOf : ByteArray := prog_4_method_11_code
def yX2_topOf : MethodName := ⟨RX2, "topOf", "(I)I"⟩
abbrev cX2_senseOf : ByteArray := prog_4_method_12_code
def yX2_senseOf : MethodName := ⟨RX2, "senseOf", "(I)I"⟩
abbrev cX2_becomeFine : ByteArray := prog_4_method_13_code
def yX2_becomeFine : MethodName := ⟨RX2, "becomeFine", "(II)V"⟩
abbrev cX2_loadIn : ByteArray := prog_4_method_14_code
def yX2_loadIn : MethodName := ⟨RX2, "loadIn", "(I)I"⟩
abbrev cX2_loadInPlaces : ByteArray := prog_4_method_15_code
def yX2_loadInPlaces : MethodName := ⟨RX2, "loadInPlaces", "()I"⟩
abbrev cX2_loadInBagOf : ByteArray := prog_4_method_16_code
def yX2_loadInBagOf : MethodName := ⟨RX2, "loadInBagOf", "(I)I"⟩
abbrev cX2_setIn : ByteArray := prog_4_method_17_code
def yX2_setIn : MethodName := ⟨RX2, "setIn", "(I)I"⟩
abbrev cX2_piecesIn : ByteArray := prog_4_method_18_code
def yX2_piecesIn : MethodName := ⟨RX2, "piecesIn", "(I)I"⟩
abbrev cX2_piecesInPlaces : ByteArray := prog_4_method_19_code
def yX2_piecesInPlaces : MethodName := ⟨RX2, "piecesInPlaces", "()I"⟩
abbrev cX2_weighsSet : ByteArray := prog_4_method_20_code
def yX2_weighsSet : MethodName := ⟨RX2, "weighsSet", "(I)I"⟩
abbrev cX2_add : ByteArray := prog_4_method_21_code
def yX2_add : MethodName := ⟨RX2, "add", "(IIII)I"⟩
abbrev cX2_clearPieces : ByteArray := prog_4_method_22_code
def yX2_clearPieces : MethodName := ⟨RX2, "clearPieces", "()V"⟩
abbrev cX2_becomeLike : ByteArray := prog_4_method_23_code
def yX2_becomeLike : MethodName := ⟨RX2, "becomeLike", "(LWormHeap$Gold;)V"⟩
abbrev cX2_put : ByteArray := prog_4_method_24_code
def yX2_put : MethodName := ⟨RX2, "put", "(II)V"⟩
abbrev cX2_take : ByteArray := prog_4_method_25_code
def yX2_take : MethodName := ⟨RX2, "take", "(I)I"⟩
abbrev cX2_turnOver : ByteArray := prog_4_method_26_code
def yX2_turnOver : MethodName := ⟨RX2, "turnOver", "()V"⟩
abbrev cX2_turned : ByteArray := prog_4_method_27_code
def yX2_turned : MethodName := ⟨RX2, "turned", "(I)I"⟩
abbrev cX2_tryAct : ByteArray := prog_4_method_28_code
def yX2_tryAct : MethodName := ⟨RX2, "tryAct", "(I)I"⟩
abbrev cX2_canBe : ByteArray := prog_4_method_29_code
def yX2_canBe : MethodName := ⟨RX2, "canBe", "(I)Z"⟩
abbrev cX2_isFelt : ByteArray := prog_4_method_30_code
def yX2_isFelt : MethodName := ⟨RX2, "isFelt", "(I)Z"⟩
abbrev cX2_isAboveSense : ByteArray := prog_4_method_31_code
def yX2_isAboveSense : MethodName := ⟨RX2, "isAboveSense", "(II)Z"⟩
abbrev cX2_doAct : ByteArray := prog_4_method_32_code
def yX2_doAct : MethodName := ⟨RX2, "doAct", "(I)V"⟩
abbrev cX2_eat : ByteArray := prog_4_method_33_code
def yX2_eat : MethodName := ⟨RX2, "eat", "()V"⟩
def RX3 : String := "WormHeap$HeapText"
def TX3 : u_T := fun k => match k with
  | 0 => ("WormHeap$HeapText", "kind", "[I", true)
  | 1 => ("WormHeap$HeapText", "weight", "[I", true)
  | 2 => ("WormHeap$HeapText", "town", "[I", true)
  | _ => ("WormHeap$HeapText", "place", "[I", true)
def tyX3 : Nat → FieldType := fun k => match k with
  | 0 => .array .int
  | 1 => .array .int
  | 2 => .array .int
  | _ => .array .int
theorem nmX3 : ∀ a, a < 4 → ∀ b, b < 4 → a ≠ b → (TX3 a).2.1 ≠ (TX3 b).2.1 := by decide +kernel
theorem tyX3_ok : ∀ k, k < 4 → parseFieldDescriptor (TX3 k).2.2.1 = some (tyX3 k) := by decide +kernel
abbrev cX3_init : ByteArray := prog_5_method_1_code
def yX3_init : MethodName := ⟨RX3, "<init>", "()V"⟩
abbrev cX3_read : ByteArray := prog_5_method_2_code
def yX3_read : MethodName := ⟨RX3, "read", "(LWormHeap$Tape;)I"⟩
abbrev cX3_readPiece : ByteArray := prog_5_method_3_code
def yX3_readPiece : MethodName := ⟨RX3, "readPiece", "(LWormHeap$Tape;I)Z"⟩
abbrev cX3_layOut : ByteArray := prog_5_method_4_code
def yX3_layOut : MethodName := ⟨RX3, "layOut", "(LWormHeap$Gold;I)V"⟩
def RX4 : String := "WormHeap$NightText"
def TX4 : u_T := fun k => match k with
  | _ => ("WormHeap$NightText", "acts", "[I", true)
def tyX4 : Nat → FieldType := fun k => match k with
  | _ => .array .int
theorem nmX4 : ∀ a, a < 1 → ∀ b, b < 1 → a ≠ b → (TX4 a).2.1 ≠ (TX4 b).2.1 := by decide +kernel
theorem tyX4_ok : ∀ k, k < 1 → parseFieldDescriptor (TX4 k).2.2.1 = some (tyX4 k) := by decide +kernel
abbrev cX4_init : ByteArray := prog_6_method_1_code
def yX4_init : MethodName := ⟨RX4, "<init>", "()V"⟩
abbrev cX4_read : ByteArray := prog_6_method_2_code
def yX4_read : MethodName := ⟨RX4, "read", "(LWormHeap$Tape;I)I"⟩
abbrev cX4_readAct : ByteArray := prog_6_method_3_code
def yX4_readAct : MethodName := ⟨RX4, "readAct", "(LWormHeap$Tape;I)I"⟩
abbrev cX4_act : ByteArray := prog_6_method_4_code
def yX4_act : MethodName := ⟨RX4, "act", "(LWormHeap$Gold;I)I"⟩
def RX5 : String := "WormHeap$Sheet"
def TX5 : u_T := fun k => match k with
  | 0 => ("WormHeap$Sheet", "row", "[J", true)
  | 1 => ("WormHeap$Sheet", "lane", "I", false)
  | _ => ("WormHeap$Sheet", "size", "I", false)
def tyX5 : Nat → FieldType := fun k => match k with
  | 0 => .array .long
  | 1 => .int
  | _ => .int
theorem nmX5 : ∀ a, a < 3 → ∀ b, b < 3 → a ≠ b → (TX5 a).2.1 ≠ (TX5 b).2.1 := by decide +kernel
theorem tyX5_ok : ∀ k, k < 3 → parseFieldDescriptor (TX5 k).2.2.1 = some (tyX5 k) := by decide +kernel
abbrev cX5_init : ByteArray := prog_7_method_1_code
def yX5_init : MethodName := ⟨RX5, "<init>", "()V"⟩
abbrev cX5_holdsRow : ByteArray := prog_7_method_2_code
def yX5_holdsRow : MethodName := ⟨RX5, "holdsRow", "()Z"⟩
abbrev cX5_isOfLane : ByteArray := prog_7_method_3_code
def yX5_isOfLane : MethodName := ⟨RX5, "isOfLane", "(LWormHeap$Sheet;)Z"⟩
abbrev cX5_hasItems : ByteArray := prog_7_method_4_code
def yX5_hasItems : MethodName := ⟨RX5, "hasItems", "(II)Z"⟩
abbrev cX5_refusal : ByteArray := prog_7_method_5_code
def yX5_refusal : MethodName := ⟨RX5, "refusal", "(III)I"⟩
abbrev cX5_renew : ByteArray := prog_7_method_6_code
def yX5_renew : MethodName := ⟨RX5, "renew", "(II)V"⟩
abbrev cX5_clear : ByteArray := prog_7_method_7_code
def yX5_clear : MethodName := ⟨RX5, "clear", "()I"⟩
abbrev cX5_itemAt : ByteArray := prog_7_method_8_code
def yX5_itemAt : MethodName := ⟨RX5, "itemAt", "(I)J"⟩
abbrev cX5_becomeAt : ByteArray := prog_7_method_9_code
def yX5_becomeAt : MethodName := ⟨RX5, "becomeAt", "(IJ)V"⟩
abbrev cX5_takeItems : ByteArray := prog_7_method_10_code
def yX5_takeItems : MethodName := ⟨RX5, "takeItems", "(ILWormHeap$Sheet;II)V"⟩
def RX6 : String := "WormHeap$Tape"
def TX6 : u_T := fun k => match k with
  | 0 => ("WormHeap$Tape", "bytes", "[C", true)
  | 1 => ("WormHeap$Tape", "length", "I", false)
  | _ => ("WormHeap$Tape", "at", "I", false)
def tyX6 : Nat → FieldType := fun k => match k with
  | 0 => .array .char
  | 1 => .int
  | _ => .int
theorem nmX6 : ∀ a, a < 3 → ∀ b, b < 3 → a ≠ b → (TX6 a).2.1 ≠ (TX6 b).2.1 := by decide +kernel
theorem tyX6_ok : ∀ k, k < 3 → parseFieldDescriptor (TX6 k).2.2.1 = some (tyX6 k) := by decide +kernel
abbrev cX6_init : ByteArray := prog_8_method_1_code
def yX6_init : MethodName := ⟨RX6, "<init>", "()V"⟩
abbrev cX6_append : ByteArray := prog_8_method_2_code
def yX6_append : MethodName := ⟨RX6, "append", "(JI)I"⟩
abbrev cX6_byteOf : ByteArray := prog_8_method_3_code
def yX6_byteOf : MethodName := ⟨RX6, "byteOf", "(JI)I"⟩
abbrev cX6_empty : ByteArray := prog_8_method_4_code
def yX6_empty : MethodName := ⟨RX6, "empty", "()V"⟩
abbrev cX6_fault : ByteArray := prog_8_method_5_code
def yX6_fault : MethodName := ⟨RX6, "fault", "()I"⟩
abbrev cX6_isAtEnd : ByteArray := prog_8_method_6_code
def yX6_isAtEnd : MethodName := ⟨RX6, "isAtEnd", "()Z"⟩
abbrev cX6_skipBlanks : ByteArray := prog_8_method_7_code
def yX6_skipBlanks : MethodName := ⟨RX6, "skipBlanks", "()V"⟩
abbrev cX6_choice : ByteArray := prog_8_method_8_code
def yX6_choice : MethodName := ⟨RX6, "choice", "(Ljava/lang/String;)I"⟩
abbrev cX6_choice_ : ByteArray := prog_8_method_9_code
def yX6_choice_ : MethodName := ⟨RX6, "choice", "(Ljava/lang/String;II)I"⟩
abbrev cX6_number : ByteArray := prog_8_method_10_code
def yX6_number : MethodName := ⟨RX6, "number", "()I"⟩
def RX7 : String := "WormHeap$Thief"
def TX7 : u_T := fun k => match k with
  | _ => ("WormHeap$Thief", "row", "[I", true)
def tyX7 : Nat → FieldType := fun k => match k with
  | _ => .array .int
theorem nmX7 : ∀ a, a < 1 → ∀ b, b < 1 → a ≠ b → (TX7 a).2.1 ≠ (TX7 b).2.1 := by decide +kernel
theorem tyX7_ok : ∀ k, k < 1 → parseFieldDescriptor (TX7 k).2.2.1 = some (tyX7 k) := by decide +kernel
abbrev cX7_init : ByteArray := prog_9_method_1_code
def yX7_init : MethodName := ⟨RX7, "<init>", "()V"⟩
abbrev cX7_fewestActs : ByteArray := prog_9_method_2_code
def yX7_fewestActs : MethodName := ⟨RX7, "fewestActs", "(LWormHeap$Gold;I)I"⟩
abbrev cX7_codeAt : ByteArray := prog_9_method_3_code
def yX7_codeAt : MethodName := ⟨RX7, "codeAt", "(I)I"⟩
abbrev cX7_search : ByteArray := prog_9_method_4_code
def yX7_search : MethodName := ⟨RX7, "search", "(LWormHeap$Gold;I[III)Z"⟩
abbrev cX7_canHelp : ByteArray := prog_9_method_5_code
def yX7_canHelp : MethodName := ⟨RX7, "canHelp", "(IZI)Z"⟩
abbrev cX7_othersOf : ByteArray := prog_9_method_6_code
def yX7_othersOf : MethodName := ⟨RX7, "othersOf", "(LWormHeap$Gold;I)I"⟩
abbrev cX7_leads : ByteArray := prog_9_method_7_code
def yX7_leads : MethodName := ⟨RX7, "leads", "(LWormHeap$Gold;I[III)Z"⟩
def RX8 : String := "WormHeap$Towns"
def TX8 : u_T := fun k => match k with
  | 0 => ("WormHeap$Towns", "fewest", "[I", true)
  | _ => ("WormHeap$Towns", "next", "[I", true)
def tyX8 : Nat → FieldType := fun k => match k with
  | 0 => .array .int
  | _ => .array .int
theorem nmX8 : ∀ a, a < 2 → ∀ b, b < 2 → a ≠ b → (TX8 a).2.1 ≠ (TX8 b).2.1 := by decide +kernel
theorem tyX8_ok : ∀ k, k < 2 → parseFieldDescriptor (TX8 k).2.2.1 = some (tyX8 k) := by decide +kernel
abbrev cX8_init : ByteArray := prog_10_method_1_code
def yX8_init : MethodName := ⟨RX8, "<init>", "()V"⟩
abbrev cX8_pairsUnder : ByteArray := prog_10_method_2_code
def yX8_pairsUnder : MethodName := ⟨RX8, "pairsUnder", "(LWormHeap$Gold;I)I"⟩
abbrev cX8_fewestAstray : ByteArray := prog_10_method_3_code
def yX8_fewestAstray : MethodName := ⟨RX8, "fewestAstray", "(LWormHeap$Gold;)I"⟩
abbrev cX8_give : ByteArray := prog_10_method_4_code
def yX8_give : MethodName := ⟨RX8, "give", "(LWormHeap$Gold;I)V"⟩
abbrev cX8_astrayIn : ByteArray := prog_10_method_5_code
def yX8_astrayIn : MethodName := ⟨RX8, "astrayIn", "(LWormHeap$Gold;II)I"⟩
abbrev cX8_townsInPlaces : ByteArray := prog_10_method_6_code
def yX8_townsInPlaces : MethodName := ⟨RX8, "townsInPlaces", "(LWormHeap$Gold;)I"⟩
def RX9 : String := "WormHeap"
def TX9 : u_T := fun k => match k with
  | 0 => ("WormHeap", "gold", "LWormHeap$Gold;", true)
  | 1 => ("WormHeap", "kept", "LWormHeap$Gold;", true)
  | 2 => ("WormHeap", "hasImage", "Z", false)
  | 3 => ("WormHeap", "thief", "LWormHeap$Thief;", true)
  | 4 => ("WormHeap", "towns", "LWormHeap$Towns;", true)
  | 5 => ("WormHeap", "tape", "LWormHeap$Tape;", true)
  | 6 => ("WormHeap", "heapText", "LWormHeap$HeapText;", true)
  | 7 => ("WormHeap", "nightText", "LWormHeap$NightText;", true)
  | _ => ("WormHeap", "sheets", "[LWormHeap$Sheet;", true)
def tyX9 : Nat → FieldType := fun k => match k with
  | 0 => .object "WormHeap$Gold"
  | 1 => .object "WormHeap$Gold"
  | 2 => .boolean
  | 3 => .object "WormHeap$Thief"
  | 4 => .object "WormHeap$Towns"
  | 5 => .object "WormHeap$Tape"
  | 6 => .object "WormHeap$HeapText"
  | 7 => .object "WormHeap$NightText"
  | _ => .array (.object "WormHeap$Sheet")
theorem nmX9 : ∀ a, a < 9 → ∀ b, b < 9 → a ≠ b → (TX9 a).2.1 ≠ (TX9 b).2.1 := by decide +kernel
theorem tyX9_ok : ∀ k, k < 9 → parseFieldDescriptor (TX9 k).2.2.1 = some (tyX9 k) := by decide +kernel
abbrev cX9_init : ByteArray := prog_1_method_1_code
def yX9_init : MethodName := ⟨RX9, "<init>", "()V"⟩
abbrev cX9_piece : ByteArray := prog_1_method_2_code
def yX9_piece : MethodName := ⟨RX9, "piece", "(IIII)I"⟩
abbrev cX9_told : ByteArray := prog_1_method_3_code
def yX9_told : MethodName := ⟨RX9, "told", "(II)I"⟩
abbrev cX9_of : ByteArray := prog_1_method_4_code
def yX9_of : MethodName := ⟨RX9, "of", "(II)I"⟩
abbrev cX9_sense : ByteArray := prog_1_method_5_code
def yX9_sense : MethodName := ⟨RX9, "sense", "(II)I"⟩
abbrev cX9_type : ByteArray := prog_1_method_6_code
def yX9_type : MethodName := ⟨RX9, "type", "(JI)I"⟩
abbrev cX9_heap : ByteArray := prog_1_method_7_code
def yX9_heap : MethodName := ⟨RX9, "heap", "()I"⟩
abbrev cX9_night : ByteArray := prog_1_method_8_code
def yX9_night : MethodName := ⟨RX9, "night", "()I"⟩
abbrev cX9_count : ByteArray := prog_1_method_9_code
def yX9_count : MethodName := ⟨RX9, "count", "(I)I"⟩
abbrev cX9_lift : ByteArray := prog_1_method_10_code
def yX9_lift : MethodName := ⟨RX9, "lift", "(I)I"⟩
abbrev cX9_lay : ByteArray := prog_1_method_11_code
def yX9_lay : MethodName := ⟨RX9, "lay", "(II)I"⟩
abbrev cX9_swap : ByteArray := prog_1_method_12_code
def yX9_swap : MethodName := ⟨RX9, "swap", "(II)I"⟩
abbrev cX9_push : ByteArray := prog_1_method_13_code
def yX9_push : MethodName := ⟨RX9, "push", "(II)I"⟩
abbrev cX9_turn : ByteArray := prog_1_method_14_code
def yX9_turn : MethodName := ⟨RX9, "turn", "()I"⟩
abbrev cX9_had : ByteArray := prog_1_method_15_code
def yX9_had : MethodName := ⟨RX9, "had", "(II)I"⟩
abbrev cX9_under : ByteArray := prog_1_method_16_code
def yX9_under : MethodName := ⟨RX9, "under", "(I)I"⟩
abbrev cX9_own : ByteArray := prog_1_method_17_code
def yX9_own : MethodName := ⟨RX9, "own", "()I"⟩
abbrev cX9_odds : ByteArray := prog_1_method_18_code
def yX9_odds : MethodName := ⟨RX9, "odds", "(IIIII)I"⟩
abbrev cX9_share : ByteArray := prog_1_method_19_code
def yX9_share : MethodName := ⟨RX9, "share", "(III)I"⟩
abbrev cX9_image : ByteArray := prog_1_method_20_code
def yX9_image : MethodName := ⟨RX9, "image", "()I"⟩
abbrev cX9_restore : ByteArray := prog_1_method_21_code
def yX9_restore : MethodName := ⟨RX9, "restore", "()I"⟩
abbrev cX9_dents : ByteArray := prog_1_method_22_code
def yX9_dents : MethodName := ⟨RX9, "dents", "(IIII)I"⟩
abbrev cX9_tried : ByteArray := prog_1_method_23_code
def yX9_tried : MethodName := ⟨RX9, "tried", "(IIIII)I"⟩
abbrev cX9_film : ByteArray := prog_1_method_24_code
def yX9_film : MethodName := ⟨RX9, "film", "(III)I"⟩
abbrev cX9_sheet : ByteArray := prog_1_method_25_code
def yX9_sheet : MethodName := ⟨RX9, "sheet", "(III)I"⟩
abbrev cX9_drop : ByteArray := prog_1_method_26_code
def yX9_drop : MethodName := ⟨RX9, "drop", "(I)I"⟩
abbrev cX9_item : ByteArray := prog_1_method_27_code
def yX9_item : MethodName := ⟨RX9, "item", "(IIIJ)I"⟩
abbrev cX9_copy : ByteArray := prog_1_method_28_code
def yX9_copy : MethodName := ⟨RX9, "copy", "(IIIII)I"⟩
abbrev cX9_isIn : ByteArray := prog_1_method_29_code
def yX9_isIn : MethodName := ⟨RX9, "isIn", "(III)Z"⟩
abbrev cX9_isPlace : ByteArray := prog_1_method_30_code
def yX9_isPlace : MethodName := ⟨RX9, "isPlace", "(I)Z"⟩
abbrev cX9_isTown : ByteArray := prog_1_method_31_code
def yX9_isTown : MethodName := ⟨RX9, "isTown", "(I)Z"⟩
abbrev cX9_isLane : ByteArray := prog_1_method_32_code
def yX9_isLane : MethodName := ⟨RX9, "isLane", "(I)Z"⟩
abbrev cX9_isPart : ByteArray := prog_1_method_33_code
def yX9_isPart : MethodName := ⟨RX9, "isPart", "(I)Z"⟩
abbrev cX9_holds : ByteArray := prog_1_method_34_code
def yX9_holds : MethodName := ⟨RX9, "holds", "(II)Z"⟩
abbrev cX9_sheetAt : ByteArray := prog_1_method_35_code
def yX9_sheetAt : MethodName := ⟨RX9, "sheetAt", "(I)LWormHeap$Sheet;"⟩
abbrev cX9_amongSenses : ByteArray := prog_1_method_36_code
def yX9_amongSenses : MethodName := ⟨RX9, "amongSenses", "(III)I"⟩
abbrev cX9_power : ByteArray := prog_1_method_37_code
def yX9_power : MethodName := ⟨RX9, "power", "(II)I"⟩
abbrev cX9_partOf : ByteArray := prog_1_method_38_code
def yX9_partOf : MethodName := ⟨RX9, "partOf", "(III)I"⟩
abbrev cX9_commonDivisor : ByteArray := prog_1_method_39_code
def yX9_commonDivisor : MethodName := ⟨RX9, "commonDivisor", "(II)I"⟩
def RX10 : String := "WormHeapModel"
def TX10 : u_T := fun k => match k with
  | 0 => ("WormHeapModel", "pieces", "I", false)
  | 1 => ("WormHeapModel", "kind", "[I", true)
  | 2 => ("WormHeapModel", "weight", "[I", true)
  | 3 => ("WormHeapModel", "town", "[I", true)
  | 4 => ("WormHeapModel", "where", "[I", true)
  | 5 => ("WormHeapModel", "many", "[I", true)
  | 6 => ("WormHeapModel", "pile", "[I", true)
  | 7 => ("WormHeapModel", "sense", "[I", true)
  | 8 => ("WormHeapModel", "awake", "I", false)
  | 9 => ("WormHeapModel", "tape", "[I", true)
  | 10 => ("WormHeapModel", "taped", "I", false)
  | 11 => ("WormHeapModel", "at0", "I", false)
  | 12 => ("WormHeapModel", "fault", "I", false)
  | 13 => ("WormHeapModel", "readPieces", "I", false)
  | 14 => ("WormHeapModel", "readKind", "[I", true)
  | 15 => ("WormHeapModel", "readWeight", "[I", true)
  | 16 => ("WormHeapModel", "readTown", "[I", true)
  | 17 => ("WormHeapModel", "readPlace", "[I", true)
  | 18 => ("WormHeapModel", "acts", "I", false)
  | 19 => ("WormHeapModel", "act", "[I", true)
  | 20 => ("WormHeapModel", "turned", "[I", true)
  | 21 => ("WormHeapModel", "turnedMany", "[I", true)
  | 22 => ("WormHeapModel", "stateWhere", "[I", true)
  | 23 => ("WormHeapModel", "stateMany", "[I", true)
  | 24 => ("WormHeapModel", "statePile", "[I", true)
  | 25 => ("WormHeapModel", "row", "[I", true)
  | 26 => ("WormHeapModel", "isImage", "Z", false)
  | 27 => ("WormHeapModel", "imagePieces", "I", false)
  | 28 => ("WormHeapModel", "imageAwake", "I", false)
  | 29 => ("WormHeapModel", "image", "[I", true)
  | 30 => ("WormHeapModel", "lane", "[I", true)
  | 31 => ("WormHeapModel", "items", "[I", true)
  | 32 => ("WormHeapModel", "item", "[J", true)
  | _ => ("WormHeapModel", "copied", "[J", true)
def tyX10 : Nat → FieldType := fun k => match k with
  | 0 => .int
  | 1 => .array .int
  | 2 => .array .int
  | 3 => .array .int
  | 4 => .array .int
  | 5 => .array .int
  | 6 => .array .int
  | 7 => .array .int
  | 8 => .int
  | 9 => .array .int
  | 10 => .int
  | 11 => .int
  | 12 => .int
  | 13 => .int
  | 14 => .array .int
  | 15 => .array .int
  | 16 => .array .int
  | 17 => .array .int
  | 18 => .int
  | 19 => .array .int
  | 20 => .array .int
  | 21 => .array .int
  | 22 => .array .int
  | 23 => .array .int
  | 24 => .array .int
  | 25 => .array .int
  | 26 => .boolean
  | 27 => .int
  | 28 => .int
  | 29 => .array .int
  | 30 => .array .int
  | 31 => .array .int
  | 32 => .array .long
  | _ => .array .long
theorem nmX10 : ∀ a, a < 34 → ∀ b, b < 34 → a ≠ b → (TX10 a).2.1 ≠ (TX10 b).2.1 := by decide +kernel
theorem tyX10_ok : ∀ k, k < 34 → parseFieldDescriptor (TX10 k).2.2.1 = some (tyX10 k) := by decide +kernel
abbrev cX10_init : ByteArray := prog_12_method_1_code
def yX10_init : MethodName := ⟨RX10, "<init>", "()V"⟩
abbrev cX10_in : ByteArray := prog_12_method_3_code
def yX10_in : MethodName := ⟨RX10, "in", "(JJJ)Z"⟩
abbrev cX10_isPiece : ByteArray := prog_12_method_4_code
def yX10_isPiece : MethodName := ⟨RX10, "isPiece", "(I)Z"⟩
abbrev cX10_isPlace : ByteArray := prog_12_method_5_code
def yX10_isPlace : MethodName := ⟨RX10, "isPlace", "(I)Z"⟩
abbrev cX10_weighs : ByteArray := prog_12_method_6_code
def yX10_weighs : MethodName := ⟨RX10, "weighs", "(I)I"⟩
abbrev cX10_townOf : ByteArray := prog_12_method_7_code
def yX10_townOf : MethodName := ⟨RX10, "townOf", "(I)I"⟩
abbrev cX10_topOf : ByteArray := prog_12_method_8_code
def yX10_topOf : MethodName := ⟨RX10, "topOf", "(I)I"⟩
abbrev cX10_put : ByteArray := prog_12_method_9_code
def yX10_put : MethodName := ⟨RX10, "put", "(II)V"⟩
abbrev cX10_takeTop : ByteArray := prog_12_method_10_code
def yX10_takeTop : MethodName := ⟨RX10, "takeTop", "(I)I"⟩
abbrev cX10_loadOf : ByteArray := prog_12_method_11_code
def yX10_loadOf : MethodName := ⟨RX10, "loadOf", "(I)I"⟩
abbrev cX10_addPiece : ByteArray := prog_12_method_12_code
def yX10_addPiece : MethodName := ⟨RX10, "addPiece", "(IIII)V"⟩
abbrev cX10_piece : ByteArray := prog_12_method_13_code
def yX10_piece : MethodName := ⟨RX10, "piece", "(IIII)I"⟩
abbrev cX10_offOf : ByteArray := prog_12_method_14_code
def yX10_offOf : MethodName := ⟨RX10, "offOf", "(I)I"⟩
abbrev cX10_told : ByteArray := prog_12_method_15_code
def yX10_told : MethodName := ⟨RX10, "told", "(II)I"⟩
abbrev cX10_of : ByteArray := prog_12_method_16_code
def yX10_of : MethodName := ⟨RX10, "of", "(II)I"⟩
abbrev cX10_sense : ByteArray := prog_12_method_17_code
def yX10_sense : MethodName := ⟨RX10, "sense", "(II)I"⟩
abbrev cX10_countIn : ByteArray := prog_12_method_18_code
def yX10_countIn : MethodName := ⟨RX10, "countIn", "(I)I"⟩
abbrev cX10_bagWeighs : ByteArray := prog_12_method_19_code
def yX10_bagWeighs : MethodName := ⟨RX10, "bagWeighs", "()I"⟩
abbrev cX10_placesWeigh : ByteArray := prog_12_method_20_code
def yX10_placesWeigh : MethodName := ⟨RX10, "placesWeigh", "()I"⟩
abbrev cX10_count : ByteArray := prog_12_method_21_code
def yX10_count : MethodName := ⟨RX10, "count", "(I)I"⟩
abbrev cX10_type : ByteArray := prog_12_method_22_code
def yX10_type : MethodName := ⟨RX10, "type", "(JI)I"⟩
abbrev cX10_here : ByteArray := prog_12_method_23_code
def yX10_here : MethodName := ⟨RX10, "here", "()I"⟩
abbrev cX10_fails : ByteArray := prog_12_method_24_code
def yX10_fails : MethodName := ⟨RX10, "fails", "(I)V"⟩
abbrev cX10_take : ByteArray := prog_12_method_25_code
def yX10_take : MethodName := ⟨RX10, "take", "(II)I"⟩
abbrev cX10_takeNumber : ByteArray := prog_12_method_26_code
def yX10_takeNumber : MethodName := ⟨RX10, "takeNumber", "()I"⟩
abbrev cX10_takePiece : ByteArray := prog_12_method_27_code
def yX10_takePiece : MethodName := ⟨RX10, "takePiece", "()V"⟩
abbrev cX10_heap : ByteArray := prog_12_method_28_code
def yX10_heap : MethodName := ⟨RX10, "heap", "()I"⟩
abbrev cX10_takeLetter : ByteArray := prog_12_method_29_code
def yX10_takeLetter : MethodName := ⟨RX10, "takeLetter", "()I"⟩
abbrev cX10_takeMark : ByteArray := prog_12_method_30_code
def yX10_takeMark : MethodName := ⟨RX10, "takeMark", "(I)V"⟩
abbrev cX10_takeAct : ByteArray := prog_12_method_31_code
def yX10_takeAct : MethodName := ⟨RX10, "takeAct", "()V"⟩
abbrev cX10_night : ByteArray := prog_12_method_32_code
def yX10_night : MethodName := ⟨RX10, "night", "()I"⟩
abbrev cX10_kindOf : ByteArray := prog_12_method_33_code
def yX10_kindOf : MethodName := ⟨RX10, "kindOf", "(I)I"⟩
abbrev cX10_placeOf : ByteArray := prog_12_method_34_code
def yX10_placeOf : MethodName := ⟨RX10, "placeOf", "(I)I"⟩
abbrev cX10_otherOf : ByteArray := prog_12_method_35_code
def yX10_otherOf : MethodName := ⟨RX10, "otherOf", "(I)I"⟩
abbrev cX10_canBe : ByteArray := prog_12_method_36_code
def yX10_canBe : MethodName := ⟨RX10, "canBe", "(I)Z"⟩
abbrev cX10_size : ByteArray := prog_12_method_37_code
def yX10_size : MethodName := ⟨RX10, "size", "(I)I"⟩
abbrev cX10_isFelt : ByteArray := prog_12_method_38_code
def yX10_isFelt : MethodName := ⟨RX10, "isFelt", "(I)Z"⟩
abbrev cX10_doAct : ByteArray := prog_12_method_39_code
def yX10_doAct : MethodName := ⟨RX10, "doAct", "(I)I"⟩
abbrev cX10_wake : ByteArray := prog_12_method_40_code
def yX10_wake : MethodName := ⟨RX10, "wake", "()V"⟩
abbrev cX10_goes : ByteArray := prog_12_method_41_code
def yX10_goes : MethodName := ⟨RX10, "goes", "(I)Z"⟩
abbrev cX10_tryAct : ByteArray := prog_12_method_42_code
def yX10_tryAct : MethodName := ⟨RX10, "tryAct", "(I)I"⟩
abbrev cX10_lift : ByteArray := prog_12_method_43_code
def yX10_lift : MethodName := ⟨RX10, "lift", "(I)I"⟩
abbrev cX10_lay : ByteArray := prog_12_method_44_code
def yX10_lay : MethodName := ⟨RX10, "lay", "(II)I"⟩
abbrev cX10_swap : ByteArray := prog_12_method_45_code
def yX10_swap : MethodName := ⟨RX10, "swap", "(II)I"⟩
abbrev cX10_push : ByteArray := prog_12_method_46_code
def yX10_push : MethodName := ⟨RX10, "push", "(II)I"⟩
abbrev cX10_turn : ByteArray := prog_12_method_47_code
def yX10_turn : MethodName := ⟨RX10, "turn", "()I"⟩
abbrev cX10_save : ByteArray := prog_12_method_48_code
def yX10_save : MethodName := ⟨RX10, "save", "(I)V"⟩
abbrev cX10_load : ByteArray := prog_12_method_49_code
def yX10_load : MethodName := ⟨RX10, "load", "(I)V"⟩
abbrev cX10_nextAct : ByteArray := prog_12_method_50_code
def yX10_nextAct : MethodName := ⟨RX10, "nextAct", "(I)I"⟩
abbrev cX10_isCode : ByteArray := prog_12_method_51_code
def yX10_isCode : MethodName := ⟨RX10, "isCode", "(I)Z"⟩
abbrev cX10_lastAct : ByteArray := prog_12_method_52_code
def yX10_lastAct : MethodName := ⟨RX10, "lastAct", "(I)I"⟩
abbrev cX10_find : ByteArray := prog_12_method_53_code
def yX10_find : MethodName := ⟨RX10, "find", "(I)I"⟩
abbrev cX10_had : ByteArray := prog_12_method_54_code
def yX10_had : MethodName := ⟨RX10, "had", "(II)I"⟩
abbrev cX10_under : ByteArray := prog_12_method_55_code
def yX10_under : MethodName := ⟨RX10, "under", "(I)I"⟩
abbrev cX10_townsThatLie : ByteArray := prog_12_method_56_code
def yX10_townsThatLie : MethodName := ⟨RX10, "townsThatLie", "()I"⟩
abbrev cX10_own : ByteArray := prog_12_method_57_code
def yX10_own : MethodName := ⟨RX10, "own", "()I"⟩
abbrev cX10_divisor : ByteArray := prog_12_method_58_code
def yX10_divisor : MethodName := ⟨RX10, "divisor", "(II)I"⟩
abbrev cX10_partOf : ByteArray := prog_12_method_59_code
def yX10_partOf : MethodName := ⟨RX10, "partOf", "(III)I"⟩
abbrev cX10_odds : ByteArray := prog_12_method_60_code
def yX10_odds : MethodName := ⟨RX10, "odds", "(IIIII)I"⟩
abbrev cX10_has : ByteArray := prog_12_method_61_code
def yX10_has : MethodName := ⟨RX10, "has", "(II)Z"⟩
abbrev cX10_share : ByteArray := prog_12_method_62_code
def yX10_share : MethodName := ⟨RX10, "share", "(III)I"⟩
abbrev cX10_image : ByteArray := prog_12_method_63_code
def yX10_image : MethodName := ⟨RX10, "image", "()I"⟩
abbrev cX10_restore : ByteArray := prog_12_method_64_code
def yX10_restore : MethodName := ⟨RX10, "restore", "()I"⟩
abbrev cX10_isSheet : ByteArray := prog_12_method_65_code
def yX10_isSheet : MethodName := ⟨RX10, "isSheet", "(I)Z"⟩
abbrev cX10_low : ByteArray := prog_12_method_66_code
def yX10_low : MethodName := ⟨RX10, "low", "(IJ)J"⟩
abbrev cX10_against : ByteArray := prog_12_method_67_code
def yX10_against : MethodName := ⟨RX10, "against", "(IIII)I"⟩
abbrev cX10_sumIn : ByteArray := prog_12_method_68_code
def yX10_sumIn : MethodName := ⟨RX10, "sumIn", "(II)I"⟩
abbrev cX10_dents : ByteArray := prog_12_method_69_code
def yX10_dents : MethodName := ⟨RX10, "dents", "(IIII)I"⟩
abbrev cX10_tried : ByteArray := prog_12_method_70_code
def yX10_tried : MethodName := ⟨RX10, "tried", "(IIIII)I"⟩
abbrev cX10_nextOf : ByteArray := prog_12_method_71_code
def yX10_nextOf : MethodName := ⟨RX10, "nextOf", "(II)I"⟩
abbrev cX10_film : ByteArray := prog_12_method_72_code
def yX10_film : MethodName := ⟨RX10, "film", "(III)I"⟩
abbrev cX10_sheet : ByteArray := prog_12_method_73_code
def yX10_sheet : MethodName := ⟨RX10, "sheet", "(III)I"⟩
abbrev cX10_drop : ByteArray := prog_12_method_74_code
def yX10_drop : MethodName := ⟨RX10, "drop", "(I)I"⟩
abbrev cX10_item : ByteArray := prog_12_method_75_code
def yX10_item : MethodName := ⟨RX10, "item", "(IIIJ)I"⟩
abbrev cX10_copy : ByteArray := prog_12_method_76_code
def yX10_copy : MethodName := ⟨RX10, "copy", "(IIIII)I"⟩
def RJx145de : String := "java/io/Serializable"
def TJx145de : u_T := fun k => match k with
  | _ => ("", "", "", false)
def tyJx145de : Nat → FieldType := fun k => match k with
  | _ => .int
def RJx9f9b0 : String := "java/lang/CharSequence"
def TJx9f9b0 : u_T := fun k => match k with
  | _ => ("", "", "", false)
def tyJx9f9b0 : Nat → FieldType := fun k => match k with
  | _ => .int
def RJ11 : String := "java/lang/Character"
def TJ11 : u_T := fun k => match k with
  | _ => ("", "", "", false)
def tyJ11 : Nat → FieldType := fun k => match k with
  | _ => .int
abbrev cJ11_isValidCodePoint_9a6ad : ByteArray := prog_13_method_11_code
def yJ11_isValidCodePoint_9a6ad : MethodName := ⟨RJ11, "isValidCodePoint", "(I)Z"⟩
abbrev cJ11_highSurrogate_5068e : ByteArray := prog_13_method_28_code
def yJ11_highSurrogate_5068e : MethodName := ⟨RJ11, "highSurrogate", "(I)C"⟩
abbrev cJ11_lowSurrogate_5068e : ByteArray := prog_13_method_29_code
def yJ11_lowSurrogate_5068e : MethodName := ⟨RJ11, "lowSurrogate", "(I)C"⟩
def RJxb160c : String := "java/lang/Comparable"
def TJxb160c : u_T := fun k => match k with
  | _ => ("", "", "", false)
def tyJxb160c : Nat → FieldType := fun k => match k with
  | _ => .int
def RJ6 : String := "java/lang/Integer"
def TJ6 : u_T := fun k => match k with
  | _ => ("", "", "", false)
def tyJ6 : Nat → FieldType := fun k => match k with
  | _ => .int
abbrev cJ6_bitCount_0f7a4 : ByteArray := prog_14_method_49_code
def yJ6_bitCount_0f7a4 : MethodName := ⟨RJ6, "bitCount", "(I)I"⟩
def RJ9 : String := "java/lang/Math"
def TJ9 : u_T := fun k => match k with
  | _ => ("", "", "", false)
def tyJ9 : Nat → FieldType := fun k => match k with
  | _ => .int
abbrev cJ9_abs_0f7a4 : ByteArray := prog_15_method_59_code
def yJ9_abs_0f7a4 : MethodName := ⟨RJ9, "abs", "(I)I"⟩
abbrev cJ9_max_7cf53 : ByteArray := prog_15_method_65_code
def yJ9_max_7cf53 : MethodName := ⟨RJ9, "max", "(II)I"⟩
abbrev cJ9_min_7cf53 : ByteArray := prog_15_method_69_code
def yJ9_min_7cf53 : MethodName := ⟨RJ9, "min", "(II)I"⟩
def RJ0 : String := "java/lang/String"
def TJ0 : u_T := fun k => match k with
  | _ => ("", "", "", false)
def tyJ0 : Nat → FieldType := fun k => match k with
  | _ => .int
abbrev cJ0_length_8abf5 : ByteArray := prog_16_method_54_code
def yJ0_length_8abf5 : MethodName := ⟨RJ0, "length", "()I"⟩
abbrev cJ0_indexOf_0f7a4 : ByteArray := prog_16_method_79_code
def yJ0_indexOf_0f7a4 : MethodName := ⟨RJ0, "indexOf", "(I)I"⟩
abbrev cJ0_indexOf_7cf53 : ByteArray := prog_16_method_80_code
def yJ0_indexOf_7cf53 : MethodName := ⟨RJ0, "indexOf", "(II)I"⟩
abbrev cJ0_coder_7d493 : ByteArray := prog_16_method_152_code
def yJ0_coder_7d493 : MethodName := ⟨RJ0, "coder", "()B"⟩
abbrev cJ0_isLatin1_aae02 : ByteArray := prog_16_method_154_code
def yJ0_isLatin1_aae02 : MethodName := ⟨RJ0, "isLatin1", "()Z"⟩
abbrev cJ0_checkBoundsBeginEnd_23922 : ByteArray := prog_16_method_158_code
def yJ0_checkBoundsBeginEnd_23922 : MethodName := ⟨RJ0, "checkBoundsBeginEnd", "(III)V"⟩
def RJ1 : String := "java/lang/StringLatin1"
def TJ1 : u_T := fun k => match k with
  | _ => ("", "", "", false)
def tyJ1 : Nat → FieldType := fun k => match k with
  | _ => .int
abbrev cJ1_canEncode_9a6ad : ByteArray := prog_17_method_4_code
def yJ1_canEncode_9a6ad : MethodName := ⟨RJ1, "canEncode", "(I)Z"⟩
abbrev cJ1_indexOf_4cfef : ByteArray := prog_17_method_22_code
def yJ1_indexOf_4cfef : MethodName := ⟨RJ1, "indexOf", "([BIII)I"⟩
abbrev cJ1_indexOfChar_4cfef : ByteArray := prog_17_method_23_code
def yJ1_indexOfChar_4cfef : MethodName := ⟨RJ1, "indexOfChar", "([BIII)I"⟩
def RJ2 : String := "java/lang/StringUTF16"
def TJ2 : u_T := fun k => match k with
  | _ => ("", "", "", false)
def tyJ2 : Nat → FieldType := fun k => match k with
  | _ => .int
abbrev cJ2_getChar_3b067 : ByteArray := prog_18_method_5_code
def yJ2_getChar_3b067 : MethodName := ⟨RJ2, "getChar", "([BI)C"⟩
abbrev cJ2_length_9d52b : ByteArray := prog_18_method_6_code
def yJ2_length_9d52b : MethodName := ⟨RJ2, "length", "([B)I"⟩
abbrev cJ2_indexOf_4cfef : ByteArray := prog_18_method_40_code
def yJ2_indexOf_4cfef : MethodName := ⟨RJ2, "indexOf", "([BIII)I"⟩
abbrev cJ2_indexOfChar_4cfef : ByteArray := prog_18_method_47_code
def yJ2_indexOfChar_4cfef : MethodName := ⟨RJ2, "indexOfChar", "([BIII)I"⟩
abbrev cJ2_indexOfCharUnsafe_4cfef : ByteArray := prog_18_method_48_code
def yJ2_indexOfCharUnsafe_4cfef : MethodName := ⟨RJ2, "indexOfCharUnsafe", "([BIII)I"⟩
abbrev cJ2_indexOfSupplementary_4cfef : ByteArray := prog_18_method_49_code
def yJ2_indexOfSupplementary_4cfef : MethodName := ⟨RJ2, "indexOfSupplementary", "([BIII)I"⟩
abbrev cJ2_checkBoundsBeginEnd_d044e : ByteArray := prog_18_method_93_code
def yJ2_checkBoundsBeginEnd_d044e : MethodName := ⟨RJ2, "checkBoundsBeginEnd", "(II[B)V"⟩
def RJ10 : String := "java/lang/System"
def TJ10 : u_T := fun k => match k with
  | _ => ("", "", "", false)
def tyJ10 : Nat → FieldType := fun k => match k with
  | _ => .int
def RJxfd54e : String := "java/lang/constant/Constable"
def TJxfd54e : u_T := fun k => match k with
  | _ => ("", "", "", false)
def tyJxfd54e : Nat → FieldType := fun k => match k with
  | _ => .int
def RJx3cf43 : String := "java/lang/constant/ConstantDesc"
def TJx3cf43 : u_T := fun k => match k with
  | _ => ("", "", "", false)
def tyJx3cf43 : Nat → FieldType := fun k => match k with
  | _ => .int
def RJ7 : String := "java/util/Arrays"
def TJ7 : u_T := fun k => match k with
  | _ => ("", "", "", false)
def tyJ7 : Nat → FieldType := fun k => match k with
  | _ => .int
abbrev cJ7_fill_d0a16 : ByteArray := prog_20_method_101_code
def yJ7_fill_d0a16 : MethodName := ⟨RJ7, "fill", "([JJ)V"⟩
abbrev cJ7_fill_53178 : ByteArray := prog_20_method_103_code
def yJ7_fill_53178 : MethodName := ⟨RJ7, "fill", "([II)V"⟩
def RJ3 : String := "jdk/internal/util/Preconditions"
def TJ3 : u_T := fun k => match k with
  | _ => ("", "", "", false)
def tyJ3 : Nat → FieldType := fun k => match k with
  | _ => .int
abbrev cJ3_checkFromToIndex_8c36e : ByteArray := prog_21_method_12_code
def yJ3_checkFromToIndex_8c36e : MethodName := ⟨RJ3, "checkFromToIndex", "(IIILjava/util/function/BiFunction;)I"⟩
abbrev vwCl : List vw_C := [(RX2, TX2, 9), (RX3, TX3, 4), (RX4, TX4, 1), (RX5, TX5, 3), (RX6, TX6, 3), (RX7, TX7, 1), (RX8, TX8, 2), (RX9, TX9, 9), (RX10, TX10, 34)]
/-- the good words of the tables: those that a caller hands on to its callees -/
def TB : List Cond := lw_tbl.filter goodWord
theorem TB_good : ∀ w ∈ TB, (w.onTables && w.keeps) = true ∨ ∃ ty, w = .arrayClass ty := fun w h => good_of_word (List.mem_filter.mp h).2
theorem TB_in : ∀ w ∈ TB, w ∈ lw_tbl := fun w h => (List.mem_filter.mp h).1
theorem TB_t {w : Cond} (h : w ∈ tables_1) (g : goodWord w = true) : w ∈ TB := List.mem_filter.mpr ⟨List.mem_append_right _ h, g⟩
theorem TB_p {w : Cond} (h : w ∈ k2_sels lw_privs) (g : goodWord w = true) : w ∈ TB := List.mem_filter.mpr ⟨List.mem_append_left _ h, g⟩
theorem tb1 {w : Cond} (i : Nat) (h : tables_1_1[i]? = some w) (g : goodWord w = true) : w ∈ TB := TB_t (List.mem_append_left _ (List.mem_of_getElem? h)) g
theorem tb2 {w : Cond} (i : Nat) (h : tables_1_2[i]? = some w) (g : goodWord w = true) : w ∈ TB := TB_t (List.mem_append_right _ (List.mem_append_left _ (List.mem_of_getElem? h))) g
theorem tb3 {w : Cond} (i : Nat) (h : tables_1_3[i]? = some w) (g : goodWord w = true) : w ∈ TB := TB_t (List.mem_append_right _ (List.mem_append_right _ (List.mem_append_left _ (List.mem_of_getElem? h)))) g
theorem tb4 {w : Cond} (i : Nat) (h : tables_1_4[i]? = some w) (g : goodWord w = true) : w ∈ TB := TB_t (List.mem_append_right _ (List.mem_append_right _ (List.mem_append_right _ (List.mem_append_left _ (List.mem_of_getElem? h))))) g
theorem tb5 {w : Cond} (i : Nat) (h : tables_1_5[i]? = some w) (g : goodWord w = true) : w ∈ TB := TB_t (List.mem_append_right _ (List.mem_append_right _ (List.mem_append_right _ (List.mem_append_right _ (List.mem_of_getElem? h))))) g
theorem tbp {w : Cond} (i : Nat) (h : (k2_sels lw_privs)[i]? = some w) (g : goodWord w = true) : w ∈ TB := TB_p (List.mem_of_getElem? h) g
end
section
/-! A PURE MACHINE over the kit's rows. The heap of the run is named by small numbers (ids): the cell id lies at pm_z P + id; the shapes G say what each is (an object: its class' place in vwCl and its fields: a reference that is told, or a number; an array: 0 int, 1 char, 2 long, or references that are told); I holds the numbers (of fields and of arrays), L the longs. PW is the walk's judgement over it, PC a method's contract. -/
abbrev pm_S : Type := (Nat × List (Option (Option Nat))) ⊕ ((Nat × Nat) ⊕ List (Option Nat))
abbrev pm_I : Type := Nat → Nat → Int32
abbrev pm_L : Type := Nat → Nat → Int64
abbrev pm_E : Type := Nat × va_G × (Nat → ClassId) × ((Nat → Nat) × (Nat → Nat)) × (Nat × Nat × (Nat → Int32))
def pm_z (P : pm_E) : Nat := P.1
def pm_D (P : pm_E) : va_G := P.2.1
def pm_cs (P : pm_E) : Nat → ClassId := P.2.2.1
def pm_aK (P : pm_E) : Nat → Nat := P.2.2.2.1.1
def pm_aV (P : pm_E) : Nat → Nat := P.2.2.2.1.2
def pm_b (P : pm_E) : Nat := P.2.2.2.2.1
def pm_n (P : pm_E) : Nat := P.2.2.2.2.2.1
def pm_xs (P : pm_E) : Nat → Int32 := P.2.2.2.2.2.2
/-- the cells that may change -/
def pm_A (P : pm_E) : Nat → Prop := fun q => pm_z P ≤ q
def pm_ad (P : pm_E) (id : Nat) : Nat := if id < 1000 then pm_z P + id else if id < 2000 then pm_aK P (id - 1000) else pm_b P
def pm_v (P : pm_E) (v : Value) : Value := match v with
  | .ref id => .ref (pm_ad P id)
  | w => w
theorem pm_v_cat (P : pm_E) (v : Value) : (pm_v P v).category = v.category := by cases v <;> rfl
theorem pm_ad_lt {P : pm_E} {id : Nat} (h : id < 1000) : pm_ad P id = pm_z P + id := if_pos h
def pm_f (P : pm_E) (f : Nat → Int32) (q : Option (Option Nat) × Nat) : Value := match q.1 with
  | some (some r) => .ref (pm_ad P r)
  | some none => .null
  | none => .int (f q.2)
def pm_c (P : pm_E) (f : Nat → Int32) (g : Nat → Int64) (sh : pm_S) : va_E := match sh with
  | .inl o => .inr (o.1, o.2.zipIdx.map (pm_f P f))
  | .inr (.inl a) => if a.1 = 2 then .inl (pm_cs P 2, (a.2, .inr (.inl g))) else .inl (pm_cs P a.1, (a.2, .inl f))
  | .inr (.inr r) => .inl (pm_cs P 3, (r.length, .inr (.inr (.inr (.inr (fun k => (r.getD k none).map (pm_ad P)))))))
def pm_W (P : pm_E) (G : List pm_S) (I : pm_I) (L : pm_L) : va_W := G.zipIdx.map (fun q => (pm_z P + q.2, pm_c P (I q.2) (L q.2) q.1))
theorem pm_W_get {P : pm_E} {G : List pm_S} {I : pm_I} {L : pm_L} {id : Nat} {sh : pm_S} (h : G[id]? = some sh) : (pm_W P G I L)[id]? = some (pm_z P + id, pm_c P (I id) (L id) sh) := by
  simp [pm_W, List.getElem?_map, List.getElem?_zipIdx, h]
theorem pm_W_some {P : pm_E} {G : List pm_S} {I : pm_I} {L : pm_L} {k : Nat} {q : Nat × va_E} (h : (pm_W P G I L)[k]? = some q) : ∃ sh, G[k]? = some sh ∧ q = (pm_z P + k, pm_c P (I k) (L k) sh) := by
  rw [pm_W, List.getElem?_map, List.getElem?_zipIdx] at h
  cases hg : G[k]? with
  | none => rw [hg] at h; cases h
  | some sh =>
    rw [hg] at h
    refine ⟨sh, rfl, ?_⟩
    have h1 := Option.some.inj h
    rw [← h1]
    simp
theorem pm_W_len {P : pm_E} {G : List pm_S} {I : pm_I} {L : pm_L} : (pm_W P G I L).length = G.length := by simp [pm_W]
theorem pm_DD {P : pm_E} {G : List pm_S} {I : pm_I} {L : pm_L} : va_D (pm_A P) (pm_W P G I L) := by
  refine ⟨fun i j p q hi hj e => ?_, fun k q hk => ?_⟩
  · obtain ⟨s1, -, rfl⟩ := pm_W_some hi
    obtain ⟨s2, -, rfl⟩ := pm_W_some hj
    have : pm_z P + i = pm_z P + j := e
    omega
  · obtain ⟨s1, -, rfl⟩ := pm_W_some hk
    exact Nat.le_add_right _ _
/-- the heap holds the memory -/
def pm_H (P : pm_E) (G : List pm_S) (I : pm_I) (L : pm_L) (H : Heap) : Prop := va_P (pm_D P) vwCl (pm_W P G I L) H ∧ H.size = pm_z P + G.length ∧ G.length ≤ 1000
theorem pm_H.lt {P : pm_E} {G : List pm_S} {I : pm_I} {L : pm_L} {H : Heap} (h : pm_H P G I L H) {id : Nat} {sh : pm_S} (hg : G[id]? = some sh) : id < 1000 := Nat.lt_of_lt_of_le (List.getElem?_eq_some_iff.mp hg).1 h.2.2
theorem pm_H.ad {P : pm_E} {G : List pm_S} {I : pm_I} {L : pm_L} {H : Heap} (h : pm_H P G I L H) {id : Nat} {sh : pm_S} (hg : G[id]? = some sh) : pm_ad P id = pm_z P + id := pm_ad_lt (h.lt hg)
theorem pm_H.at {P : pm_E} {G : List pm_S} {I : pm_I} {L : pm_L} {H : Heap} (h : pm_H P G I L H) {id : Nat} {sh : pm_S} (hg : G[id]? = some sh) : (pm_W P G I L)[id]? = some (pm_ad P id, pm_c P (I id) (L id) sh) := by
  rw [h.ad hg]; exact pm_W_get hg
/-- another row in the place of one -/
def pm_u {α : Type} (I : Nat → Nat → α) (id : Nat) (f : Nat → α) : Nat → Nat → α := fun a => if a = id then f else I a
theorem pm_us {α : Type} {I : Nat → Nat → α} {id : Nat} {f : Nat → α} : pm_u I id f id = f := if_pos rfl
theorem pm_un {α : Type} {I : Nat → Nat → α} {id a : Nat} {f : Nat → α} (h : a ≠ id) : pm_u I id f a = I a := if_neg h
theorem pm_uu {α : Type} (I : Nat → Nat → α) (id : Nat) : pm_u I id (I id) = I := by
  funext a; by_cases h : a = id
  · subst h; exact pm_us
  · exact pm_un h
theorem pm_H.set {P : pm_E} {G : List pm_S} {I : pm_I} {L : pm_L} {H H1 : Heap} (h : pm_H P G I L H) {id : Nat} {sh : pm_S} (hg : G[id]? = some sh) (sh' : pm_S) (f : Nat → Int32) (g : Nat → Int64) (he : va_at (pm_D P) vwCl (pm_ad P id, pm_c P f g sh') H1) (hz : H1.size = H.size) (oq : ∀ q : Nat, q ≠ pm_ad P id → H1[q]? = H[q]?) : pm_H P (G.set id sh') (pm_u I id f) (pm_u L id g) H1 := by
  refine ⟨fun k q hk => ?_, by rw [hz, h.2.1, List.length_set], by rw [List.length_set]; exact h.2.2⟩
  obtain ⟨s1, h1, rfl⟩ := pm_W_some hk
  rw [h.ad hg] at he oq
  by_cases e : k = id
  · subst e
    rw [List.getElem?_set, if_pos rfl, if_pos (List.getElem?_eq_some_iff.mp hg).1] at h1
    cases h1
    rw [pm_us, pm_us]; exact he
  · rw [List.getElem?_set, if_neg (Ne.symm e)] at h1
    rw [pm_un e, pm_un e]
    exact (h.1 k _ (pm_W_get h1)).kept (oq _ (by show pm_z P + k ≠ _; omega))
theorem pm_H.set0 {P : pm_E} {G : List pm_S} {I : pm_I} {L : pm_L} {H H1 : Heap} (h : pm_H P G I L H) {id : Nat} {sh : pm_S} (hg : G[id]? = some sh) (f : Nat → Int32) (g : Nat → Int64) (he : va_at (pm_D P) vwCl (pm_ad P id, pm_c P f g sh) H1) (hz : H1.size = H.size) (oq : ∀ q : Nat, q ≠ pm_ad P id → H1[q]? = H[q]?) : pm_H P G (pm_u I id f) (pm_u L id g) H1 := by
  have h1 := h.set hg sh f g he hz oq
  have e : G.set id sh = G := by
    apply List.ext_getElem?
    intro i
    rw [List.getElem?_set]
    by_cases q : id = i
    · subst q; rw [if_pos rfl, if_pos (List.getElem?_eq_some_iff.mp hg).1, hg]
    · rw [if_neg q]
  rw [e] at h1; exact h1
theorem pm_H.push {P : pm_E} {G : List pm_S} {I : pm_I} {L : pm_L} {H H1 : Heap} (h : pm_H P G I L H) (hl : G.length < 1000) (sh : pm_S) (f : Nat → Int32) (g : Nat → Int64) (he : va_at (pm_D P) vwCl (H.size, pm_c P f g sh) H1) (hz : H1.size = H.size + 1) (oq : ∀ q : Nat, q < H.size → H1[q]? = H[q]?) : pm_H P (G ++ [sh]) (pm_u I G.length f) (pm_u L G.length g) H1 := by
  refine ⟨fun k q hk => ?_, by rw [hz, h.2.1, List.length_append]; rfl, by rw [List.length_append]; exact hl⟩
  obtain ⟨s1, h1, rfl⟩ := pm_W_some hk
  by_cases e : k < G.length
  · rw [List.getElem?_append_left e] at h1
    rw [pm_un (by omega), pm_un (by omega)]
    exact (h.1 k _ (pm_W_get h1)).kept (oq _ (by show pm_z P + k < _; rw [h.2.1]; omega))
  · rw [List.getElem?_append_right (by omega)] at h1
    have hk1 : k - G.length < 1 := (List.getElem?_eq_some_iff.mp h1).1
    have e1 : k = G.length := by omega
    subst e1
    rw [show G.length - G.length = 0 by omega] at h1
    cases h1
    rw [pm_us, pm_us, ← h.2.1]; exact he
/-! what lies round the memory and never changes: the tables, the constants' texts, the script -/
def pm_ty (P : pm_E) : List (ClassId × FieldType) := [(pm_cs P 0, .int), (pm_cs P 1, .char), (pm_cs P 2, .long), (pm_cs P 3, .object RX5)]
def NW : List (String × Nat × MethodName × String) := [(RX9, 21, yX7_init, RX9), (RX9, 28, yX8_init, RX9), (RX9, 35, yX6_init, RX9), (RX9, 42, yX3_init, RX9), (RX9, 49, yX4_init, RX9), (RX9, 60, yX5_init, RX9), (RX2, 57, yX9_isPlace, RX9), (RX6, 15, yX9_isIn, RX9), (RX8, 71, yX9_isPlace, RX9), (RX2, 80, yX9_holds, RX9)]
/-- the texts: class, entry, text, which of the different ones -/
def NT : List (String × Nat × String × Nat) := [(RX3, 24, ",", 0), (RX3, 44, "cklr", 1), (RX3, 49, "t", 2), (RX3, 51, "0123", 3), (RX3, 53, "@", 4), (RX3, 55, "012345", 5), (RX4, 17, ";", 6), (RX4, 35, "ldsp", 7), (RX4, 39, "abcdefghijkl", 8), (RX4, 44, ">", 9), (RX4, 46, "012345", 5), (RX4, 52, "=", 10)]
def NB : List (List Int32) := [[44], [99, 107, 108, 114], [116], [48, 49, 50, 51], [64], [48, 49, 50, 51, 52, 53], [59], [108, 100, 115, 112], [97, 98, 99, 100, 101, 102, 103, 104, 105, 106, 107, 108], [62], [61]]
def NL : List Nat := [1, 4, 1, 4, 1, 6, 1, 4, 12, 1, 1]
def pm_T (P : pm_E) (U : State) : Prop := va_K (pm_D P) vwCl (pm_ty P) U ∧ (∀ q ∈ NW, va_Nw (.methodLinkNest q.1 q.2.1 q.2.2.1 q.2.2.2) U) ∧ (∀ q ∈ NT, vk_R q.1 q.2.1 q.2.2.1 (pm_aK P q.2.2.2) U) ∧ va_AO RX5 U
theorem pm_T.warm {P : pm_E} {s U : State} (hW : s.WarmedH U.vm) (h : pm_T P s) : pm_T P U := ⟨va_K.moved hW.alike h.1, fun q hq => va_Nw.warmM hW (h.2.1 q hq), fun q hq => vk_R.warm hW (h.2.2.1 q hq), va_AO.moved hW.alike h.2.2.2⟩
theorem pm_T.same {P : pm_E} {s U : State} (hv : U.vm = s.vm) (h : pm_T P s) : pm_T P U := ⟨va_K.moved (by rw [hv]; exact Vm.Alike.refl s.vm) h.1, fun q hq => va_Nw.same rfl hv.symm (h.2.1 q hq), fun q hq => vk_R.same hv (h.2.2.1 q hq), va_AO.moved (by rw [hv]; exact Vm.Alike.refl s.vm) h.2.2.2⟩
def pm_X (P : pm_E) (U : State) (H : Heap) : Prop := vk_S 11 NL NB (pm_aK P) (pm_aV P) (pm_A P) U H ∧ va_Z "java/lang/String" "COMPACT_STRINGS" "Z" (.int 1) (pm_A P) U H ∧ va_X (pm_b P) (pm_n P) (pm_xs P) U H ∧ pm_b P < pm_z P ∧ pm_z P ≤ H.size
theorem pm_X.moved {P : pm_E} {u U : State} {H : Heap} (hvm : u.vm.Alike U.vm) (h : pm_X P u H) : pm_X P U H := ⟨h.1.moved hvm, h.2.1.moved hvm, h.2.2.1.moved hvm, h.2.2.2⟩
theorem pm_X.kept {P : pm_E} {U : State} {H H1 : Heap} (h : pm_X P U H) (hz : H.size ≤ H1.size) (hq : ∀ q : Nat, q < H.size → ¬ pm_A P q → H1[q]? = H[q]?) : pm_X P U H1 :=
  ⟨h.1.kept hq, h.2.1.kept hq, h.2.2.1.kept (hq _ (Nat.lt_of_lt_of_le h.2.2.2.1 h.2.2.2.2) (fun z => Nat.not_lt.mpr z h.2.2.2.1)), h.2.2.2.1, Nat.le_trans h.2.2.2.2 hz⟩
/-! the locals -/
def pm_LR (P : pm_E) (nL : Nat) (ls : List (Option Value)) (a : Array Slot) : Prop := a.size = nL ∧ lv_wf a ∧ ∀ (i : Nat) (v : Value), ls[i]? = some (some v) → a[i]? = some (.val (pm_v P v))
def pm_prs (P : pm_E) (ls : List (Option Value)) : List (Nat × Value) := ls.zipIdx.filterMap (fun q => q.1.map (fun v => (q.2, pm_v P v)))
theorem pm_prs_in {P : pm_E} {ls : List (Option Value)} {i : Nat} {v : Value} (h : ls[i]? = some (some v)) : (i, pm_v P v) ∈ pm_prs P ls := by
  refine List.mem_filterMap.mpr ⟨(some v, i), List.mem_of_getElem? (i := i) ?_, rfl⟩
  simp [List.getElem?_zipIdx, h]
theorem pm_LR.has {P : pm_E} {nL : Nat} {ls : List (Option Value)} {a : Array Slot} (h : pm_LR P nL ls a) : lv_has a nL (pm_prs P ls) := by
  refine ⟨h.1, h.2.1, fun q hq => ?_⟩
  obtain ⟨⟨o, j⟩, h1, h2⟩ := List.mem_filterMap.mp hq
  obtain ⟨k, hk⟩ := List.getElem?_of_mem h1
  rw [List.getElem?_zipIdx] at hk
  cases hl : ls[k]? with
  | none => rw [hl] at hk; cases hk
  | some o' =>
    rw [hl] at hk
    have h3 := Option.some.inj hk
    simp at h3
    obtain ⟨e1, e2⟩ := h3
    subst e1; subst e2
    cases o' with
    | none => cases h2
    | some v =>
      have h4 : (k, pm_v P v) = q := Option.some.inj h2
      rw [← h4]
      exact h.2.2 k v hl
/-- no long lies just ahead of a place -/
def pm_fr (ls : List (Option Value)) (i : Nat) : Bool := match i with
  | 0 => true
  | j + 1 => match ls.getD j none with
    | some v => v.category == 1
    | none => true
theorem pm_fr_ok {ls : List (Option Value)} {i j : Nat} {v : Value} (h : pm_fr ls i = true) (hj : ls[j]? = some (some v)) (e : j + 1 = i) : ¬ v.category = 2 := by
  subst e
  have h1 : pm_fr ls (j + 1) = (v.category == 1) := by simp [pm_fr, List.getD_eq_getElem?_getD, hj]
  rw [h1] at h
  have h2 : v.category = 1 := by simpa using h
  omega
theorem pm_st1 {P : pm_E} {nL : Nat} {ls : List (Option Value)} {i : Nat} {v : Value} (hf : pm_fr ls i = true) {a' : Array Slot} (h' : lv_has a' nL ((i, pm_v P v) :: (pm_prs P ls).filter (fun q => !(q.1 == i) && !(q.1 + 1 == i && q.2.category == 2)))) : pm_LR P nL (ls.set i (some v)) a' := by
  refine ⟨h'.1, h'.2.1, fun j w hj => ?_⟩
  rw [List.getElem?_set] at hj
  by_cases e : i = j
  · subst e
    rw [if_pos rfl] at hj
    split at hj
    · cases hj
      exact h'.2.2 (i, _) List.mem_cons_self
    · cases hj
  · rw [if_neg e] at hj
    refine h'.2.2 (j, _) (List.mem_cons_of_mem _ (List.mem_filter.mpr ⟨pm_prs_in hj, ?_⟩))
    have h1 : (j == i) = false := by simp; omega
    have h2 : (j + 1 == i && (pm_v P w).category == 2) = false := by
      by_cases e2 : j + 1 = i
      · rw [pm_v_cat]; simp; intro _; exact pm_fr_ok hf hj e2
      · simp; intro q; exact absurd q e2
    show (!(j == i) && !(j + 1 == i && (pm_v P w).category == 2)) = true
    rw [h1, h2]; rfl
theorem pm_st2 {P : pm_E} {nL : Nat} {ls : List (Option Value)} {i : Nat} {v : Value} (hf : pm_fr ls i = true) {a' : Array Slot} (h' : lv_has a' nL ((i, pm_v P v) :: (pm_prs P ls).filter (fun q => !(q.1 == i) && (!(q.1 == i + 1) && !(q.1 + 1 == i && q.2.category == 2))))) : pm_LR P nL ((ls.set i (some v)).set (i + 1) none) a' := by
  refine ⟨h'.1, h'.2.1, fun j w hj => ?_⟩
  rw [List.getElem?_set] at hj
  by_cases e0 : i + 1 = j
  · subst e0
    rw [if_pos rfl] at hj
    split at hj <;> cases hj
  · rw [if_neg e0, List.getElem?_set] at hj
    by_cases e : i = j
    · subst e
      rw [if_pos rfl] at hj
      split at hj
      · cases hj
        exact h'.2.2 (i, _) List.mem_cons_self
      · cases hj
    · rw [if_neg e] at hj
      refine h'.2.2 (j, _) (List.mem_cons_of_mem _ (List.mem_filter.mpr ⟨pm_prs_in hj, ?_⟩))
      have h1 : (j == i) = false := by simp; omega
      have h3 : (j == i + 1) = false := by simp; omega
      have h2 : (j + 1 == i && (pm_v P w).category == 2) = false := by
        by_cases e2 : j + 1 = i
        · rw [pm_v_cat]; simp; intro _; exact pm_fr_ok hf hj e2
        · simp; intro q; exact absurd q e2
      show (!(j == i) && (!(j == i + 1) && !(j + 1 == i && (pm_v P w).category == 2))) = true
      rw [h1, h2, h3]; rfl
/-! the judgement -/
def pm_C (y : MethodName) (cc : ByteArray) (nL : Nat) (ret : Option FieldType) (p : Program) (s : State) (m : MethodId) (args : Array Value) (meth : Method) (c : Code) : Prop :=
  p.tables.exec = Jvm.exec ∧ c.code = cc ∧ c.maxLocals = nL ∧ s.vm.findClass y.cls = some m.cls ∧ meth.name = y.name ∧ meth.sig.returnType = ret ∧ meth.locks = false ∧ ∀ w ∈ TB, w.before args s = true
def PW (l : Launch) (P : pm_E) (y : MethodName) (cc : ByteArray) (nL : Nat) (ret : Option FieldType) (R : Room) (Tg : List Frame → Array Value → State → State → Prop) (k n pc : Nat) (ls : List (Option Value)) (st : List Value) (G : List pm_S) (I : pm_I) (L : pm_L) : Prop :=
  ∀ (p : Program) (e : Env) (s : State) (m : MethodId) (args : Array Value) (below : List Frame) (meth : Method) (c : Code) (H : Heap) (locs : List Loc) (a : Array Slot),
    pm_C y cc nL ret p s m args meth c → pm_T P s → pm_X P s s.heap → pm_H P G I L H → va_S (pm_A P) s.heap H locs → pm_LR P nL ls a →
    W p l e R s m args below meth c H locs k n (Tg below args s) (F0 m pc a (st.map (pm_v P)))
def pm_rm (d K N : Nat) : Room := { frames := d, cells := K, slots := N, locals := 64 * d }
def pm_w (y : MethodName) (cc : ByteArray) (nL : Nat) (ret : Option FieldType) : List Cond := .code y cc nL ret :: TB
def pm_Pre (P : pm_E) (args : List Value) (G : List pm_S) (I : pm_I) (L : pm_L) : Array Value → State → Prop := fun v U => v = (args.map (pm_v P)).toArray ∧ pm_H P G I L U.heap ∧ pm_T P U ∧ pm_X P U U.heap
def pm_Q (P : pm_E) (Q : Option Value → List pm_S → pm_I → pm_L → Prop) : Array Value → State → Outcome → State → Prop := fun _ st o t => (∃ (v : Option Value) (G' : List pm_S) (I' : pm_I) (L' : pm_L), o = .returned (v.map (pm_v P)) ∧ Q v G' I' L' ∧ pm_H P G' I' L' t.heap) ∧ va_F (pm_A P) st t
/-- A METHOD'S CONTRACT: from the memory G, I, L and these arguments it returns v with the memory G', I', L' of which Q holds; depth d, K cells of N slots at most are made -/
def PC (d K N : Nat) (y : MethodName) (cc : ByteArray) (nL : Nat) (ret : Option FieldType) (args : List Value) (G : List pm_S) (I : pm_I) (L : pm_L) (Q : Option Value → List pm_S → pm_I → pm_L → Prop) : Prop :=
  ∀ (l : Launch) (P : pm_E), Met l y (pm_w y cc nL ret) (pm_rm d K N) (pm_Pre P args G I L) (pm_Q P Q) K N (pm_A P)
def pm_Tg (P : pm_E) (Q : Option Value → List pm_S → pm_I → pm_L → Prop) (K N : Nat) : List Frame → Array Value → State → State → Prop := fun below args s => MQ below (pm_Q P Q) args s K N (pm_A P)
/-- the locals of an entry -/
def pm_ent : List Value → List (Option Value)
  | [] => []
  | v :: vs => if v.category = 2 then some v :: none :: pm_ent vs else some v :: pm_ent vs
theorem pm_ent_in (P : pm_E) : ∀ (vs : List Value) (k i : Nat) (v : Value), (pm_ent vs)[i]? = some (some v) → (k + i, pm_v P v) ∈ lv_args k (vs.map (pm_v P))
  | [], k, i, v, h => by cases h
  | w :: vs, k, i, v, h => by
    rw [pm_ent] at h
    rw [List.map_cons, lv_args, pm_v_cat]
    by_cases hc : w.category = 2
    · rw [if_pos hc] at h ⊢
      match i, h with
      | 0, h => cases h; exact List.mem_cons_self
      | 1, h => cases h
      | j + 2, h =>
        have h2 := pm_ent_in P vs (k + 2) j v h
        rw [show k + (j + 2) = k + 2 + j by omega]
        exact List.mem_cons_of_mem _ h2
    · rw [if_neg hc] at h ⊢
      match i, h with
      | 0, h => cases h; exact List.mem_cons_self
      | j + 1, h =>
        have h2 := pm_ent_in P vs (k + 1) j v h
        rw [show k + (j + 1) = k + 1 + j by omega]
        exact List.mem_cons_of_mem _ h2
theorem pm_sl_len : ∀ (vs : List Value), (lg_sl vs).length = (pm_ent vs).length
  | [] => rfl
  | v :: vs => by
    have ih := pm_sl_len vs
    rw [pm_ent]
    by_cases hc : v.category = 2
    · rw [if_pos hc]; simp only [lg_sl, List.flatMap_cons, List.length_append] at ih ⊢; rw [ih, if_pos hc]; simp; omega
    · rw [if_neg hc]; simp only [lg_sl, List.flatMap_cons, List.length_append] at ih ⊢; rw [ih, if_neg hc]; simp; omega
theorem pm_ent_len (P : pm_E) : ∀ (vs : List Value), (pm_ent (vs.map (pm_v P))).length = (pm_ent vs).length
  | [] => rfl
  | v :: vs => by
    have ih := pm_ent_len P vs
    rw [List.map_cons, pm_ent, pm_ent, pm_v_cat]
    by_cases hc : v.category = 2
    · rw [if_pos hc, if_pos hc]; simp [ih]
    · rw [if_neg hc, if_neg hc]; simp [ih]
theorem pm_plain {y : MethodName} (h : plainName y.cls = true) : plainName y.cls = true := h
theorem PC.of {d K N : Nat} {y : MethodName} {cc : ByteArray} {nL : Nat} {ret : Option FieldType} {args : List Value} {G : List pm_S} {I : pm_I} {L : pm_L} {Q : Option Value → List pm_S → pm_I → pm_L → Prop} (ls : List (Option Value)) (hy : plainName y.cls = true) (hl : (pm_ent args).length ≤ nL) (he : pm_ent args ++ List.replicate (nL - (pm_ent args).length) none = ls)
    (body : ∀ (l : Launch) (P : pm_E), PW l P y cc nL ret (pm_rm d K N) (pm_Tg P Q K N) 0 0 0 ls [] G I L) : PC d K N y cc nL ret args G I L Q := by
  intro l P
  refine Met.ofW (cc := cc) (maxL := nL) (ret := ret) hy rfl ?_
  intro p e s m av below meth c s₁ B hml hv
  obtain ⟨rfl, hH, hT, hX⟩ := hv
  have hts := atoms_spec (ws := pm_w y cc nL ret) B.pre
  have hl2 : (lg_sl (args.map (pm_v P))).length ≤ nL := by rw [pm_sl_len, pm_ent_len]; exact hl
  have hh := lv_entry (args.map (pm_v P)) (n := nL) hl2
  rw [lg_entry_eq]
  refine body l P p e s m _ below meth c s.heap [] _ ⟨B.exec, B.bytes, hml, findClass_of_methodNamed B.named, (name_of_methodNamed B.named B.method).1, B.returns, B.notSynchronized, fun w hw => hts w (List.mem_cons_of_mem _ hw)⟩ hT hX hH va_S.rf ⟨hh.1, hh.2.1, fun i v hi => ?_⟩
  rw [← he] at hi
  have hi2 : (pm_ent args)[i]? = some (some v) := by
    by_cases h : i < (pm_ent args).length
    · rw [List.getElem?_append_left h] at hi; exact hi
    · rw [List.getElem?_append_right (by omega)] at hi
      have h2 := List.mem_of_getElem? hi
      have h3 := (List.mem_replicate.mp h2).2
      cases h3
  have h4 := pm_ent_in P args 0 i v hi2
  rw [Nat.zero_add] at h4
  exact hh.2.2 _ h4
section PMR
variable {l : Launch} {P : pm_E} {y : MethodName} {cc : ByteArray} {nL : Nat} {ret : Option FieldType} {R : Room} {Tg : List Frame → Array Value → State → State → Prop} {k n pc : Nat} {ls : List (Option Value)} {st : List Value} {G : List pm_S} {I : pm_I} {L : pm_L}
/-- fewer known locals -/
theorem pm_sub (ls' : List (Option Value)) (h : ∀ (i : Nat) (v : Value), ls'[i]? = some (some v) → ls[i]? = some (some v)) (kk : PW l P y cc nL ret R Tg k n pc ls' st G I L) : PW l P y cc nL ret R Tg k n pc ls st G I L := by
  intro p e s m args below meth c H locs a C hT hX hH hS hL
  exact kk p e s m args below meth c H locs a C hT hX hH hS ⟨hL.1, hL.2.1, fun i v hi => hL.2.2 i v (h i v hi)⟩
theorem pm_kill (j : Nat) (kk : PW l P y cc nL ret R Tg k n pc (ls.set j none) st G I L) : PW l P y cc nL ret R Tg k n pc ls st G I L := by
  refine pm_sub _ (fun i v hi => ?_) kk
  rw [List.getElem?_set] at hi
  split at hi
  · split at hi <;> cases hi
  · exact hi
theorem pm_eq {ls' : List (Option Value)} {st' : List Value} {G' : List pm_S} {I' : pm_I} {L' : pm_L} (h1 : ls = ls') (h2 : st = st') (h3 : G = G') (h4 : I = I') (h5 : L = L') (kk : PW l P y cc nL ret R Tg k n pc ls' st' G' I' L') : PW l P y cc nL ret R Tg k n pc ls st G I L := by subst h1; subst h2; subst h3; subst h4; subst h5; exact kk
theorem pm_widen {k' n' : Nat} (h1 : k ≤ k') (h2 : n ≤ n') (kk : PW l P y cc nL ret R Tg k' n' pc ls st G I L) : PW l P y cc nL ret R Tg k n pc ls st G I L := by
  intro p e s m args below meth c H locs a C hT hX hH hS hL
  exact W.widen h1 h2 (kk p e s m args below meth c H locs a C hT hX hH hS hL)
/-- fewer known longs, numbers: another memory that the heap holds as well -/
theorem pm_mem {G' : List pm_S} {I' : pm_I} {L' : pm_L} (h : ∀ H, pm_H P G I L H → pm_H P G' I' L' H) (kk : PW l P y cc nL ret R Tg k n pc ls st G' I' L') : PW l P y cc nL ret R Tg k n pc ls st G I L := by
  intro p e s m args below meth c H locs a C hT hX hH hS hL
  exact kk p e s m args below meth c H locs a C hT hX (h H hH) hS hL
theorem pm_iadd {x w : Int32} (hd : decode cc pc = .ok (.iadd, 1)) (kk : PW l P y cc nL ret R Tg k n (pc + 1) ls (.int (x + w) :: st) G I L) : PW l P y cc nL ret R Tg k n pc ls (.int w :: .int x :: st) G I L := by
  intro p e s m args below meth c H locs a C hT hX hH hS hL
  exact lv_iadd C.1 C.2.1 hd (kk p e s m args below meth c H locs a C hT hX hH hS hL)
theorem pm_isub {x w : Int32} (hd : decode cc pc = .ok (.isub, 1)) (kk : PW l P y cc nL ret R Tg k n (pc + 1) ls (.int (x - w) :: st) G I L) : PW l P y cc nL ret R Tg k n pc ls (.int w :: .int x :: st) G I L := by
  intro p e s m args below meth c H locs a C hT hX hH hS hL
  exact lv_isub C.1 C.2.1 hd (kk p e s m args below meth c H locs a C hT hX hH hS hL)
theorem pm_imul {x w : Int32} (hd : decode cc pc = .ok (.imul, 1)) (kk : PW l P y cc nL ret R Tg k n (pc + 1) ls (.int (x * w) :: st) G I L) : PW l P y cc nL ret R Tg k n pc ls (.int w :: .int x :: st) G I L := by
  intro p e s m args below meth c H locs a C hT hX hH hS hL
  exact lv_imul C.1 C.2.1 hd (kk p e s m args below meth c H locs a C hT hX hH hS hL)
theorem pm_iand {x w : Int32} (hd : decode cc pc = .ok (.iand, 1)) (kk : PW l P y cc nL ret R Tg k n (pc + 1) ls (.int (x &&& w) :: st) G I L) : PW l P y cc nL ret R Tg k n pc ls (.int w :: .int x :: st) G I L := by
  intro p e s m args below meth c H locs a C hT hX hH hS hL
  exact lv_iand C.1 C.2.1 hd (kk p e s m args below meth c H locs a C hT hX hH hS hL)
theorem pm_ior {x w : Int32} (hd : decode cc pc = .ok (.ior, 1)) (kk : PW l P y cc nL ret R Tg k n (pc + 1) ls (.int (x ||| w) :: st) G I L) : PW l P y cc nL ret R Tg k n pc ls (.int w :: .int x :: st) G I L := by
  intro p e s m args below meth c H locs a C hT hX hH hS hL
  exact lv_ior C.1 C.2.1 hd (kk p e s m args below meth c H locs a C hT hX hH hS hL)
theorem pm_ixor {x w : Int32} (hd : decode cc pc = .ok (.ixor, 1)) (kk : PW l P y cc nL ret R Tg k n (pc + 1) ls (.int (x ^^^ w) :: st) G I L) : PW l P y cc nL ret R Tg k n pc ls (.int w :: .int x :: st) G I L := by
  intro p e s m args below meth c H locs a C hT hX hH hS hL
  exact lv_ixor C.1 C.2.1 hd (kk p e s m args below meth c H locs a C hT hX hH hS hL)
theorem pm_ishl {x w : Int32} (hd : decode cc pc = .ok (.ishl, 1)) (kk : PW l P y cc nL ret R Tg k n (pc + 1) ls (.int (x <<< (w &&& 31)) :: st) G I L) : PW l P y cc nL ret R Tg k n pc ls (.int w :: .int x :: st) G I L := by
  intro p e s m args below meth c H locs a C hT hX hH hS hL
  exact lv_ishl C.1 C.2.1 hd (kk p e s m args below meth c H locs a C hT hX hH hS hL)
theorem pm_ishr {x w : Int32} (hd : decode cc pc = .ok (.ishr, 1)) (kk : PW l P y cc nL ret R Tg k n (pc + 1) ls (.int (x >>> (w &&& 31)) :: st) G I L) : PW l P y cc nL ret R Tg k n pc ls (.int w :: .int x :: st) G I L := by
  intro p e s m args below meth c H locs a C hT hX hH hS hL
  exact lv_ishr C.1 C.2.1 hd (kk p e s m args below meth c H locs a C hT hX hH hS hL)
theorem pm_idiv {x w : Int32} (hd : decode cc pc = .ok (.idiv, 1)) (hne : ¬ w = 0) (kk : PW l P y cc nL ret R Tg k n (pc + 1) ls (.int (x / w) :: st) G I L) : PW l P y cc nL ret R Tg k n pc ls (.int w :: .int x :: st) G I L := by
  intro p e s m args below meth c H locs a C hT hX hH hS hL
  exact lv_idiv C.1 C.2.1 hd hne (kk p e s m args below meth c H locs a C hT hX hH hS hL)
theorem pm_irem {x w : Int32} (hd : decode cc pc = .ok (.irem, 1)) (hne : ¬ w = 0) (kk : PW l P y cc nL ret R Tg k n (pc + 1) ls (.int (x - x / w * w) :: st) G I L) : PW l P y cc nL ret R Tg k n pc ls (.int w :: .int x :: st) G I L := by
  intro p e s m args below meth c H locs a C hT hX hH hS hL
  exact lv_irem C.1 C.2.1 hd hne (kk p e s m args below meth c H locs a C hT hX hH hS hL)
theorem pm_ineg {x : Int32} (hd : decode cc pc = .ok (.ineg, 1)) (kk : PW l P y cc nL ret R Tg k n (pc + 1) ls (.int (-x) :: st) G I L) : PW l P y cc nL ret R Tg k n pc ls (.int x :: st) G I L := by
  intro p e s m args below meth c H locs a C hT hX hH hS hL
  exact lv_ineg C.1 C.2.1 hd (kk p e s m args below meth c H locs a C hT hX hH hS hL)
theorem pm_land {x w : Int64} (hd : decode cc pc = .ok (.land, 1)) (kk : PW l P y cc nL ret R Tg k n (pc + 1) ls (.long (x &&& w) :: st) G I L) : PW l P y cc nL ret R Tg k n pc ls (.long w :: .long x :: st) G I L := by
  intro p e s m args below meth c H locs a C hT hX hH hS hL
  exact lv_land C.1 C.2.1 hd (kk p e s m args below meth c H locs a C hT hX hH hS hL)
theorem pm_lor {x w : Int64} (hd : decode cc pc = .ok (.lor, 1)) (kk : PW l P y cc nL ret R Tg k n (pc + 1) ls (.long (x ||| w) :: st) G I L) : PW l P y cc nL ret R Tg k n pc ls (.long w :: .long x :: st) G I L := by
  intro p e s m args below meth c H locs a C hT hX hH hS hL
  exact lv_lor C.1 C.2.1 hd (kk p e s m args below meth c H locs a C hT hX hH hS hL)
theorem pm_lsub {x w : Int64} (hd : decode cc pc = .ok (.lsub, 1)) (kk : PW l P y cc nL ret R Tg k n (pc + 1) ls (.long (x - w) :: st) G I L) : PW l P y cc nL ret R Tg k n pc ls (.long w :: .long x :: st) G I L := by
  intro p e s m args below meth c H locs a C hT hX hH hS hL
  exact lv_lsub C.1 C.2.1 hd (kk p e s m args below meth c H locs a C hT hX hH hS hL)
theorem pm_lxor {x w : Int64} (hd : decode cc pc = .ok (.lxor, 1)) (kk : PW l P y cc nL ret R Tg k n (pc + 1) ls (.long (x ^^^ w) :: st) G I L) : PW l P y cc nL ret R Tg k n pc ls (.long w :: .long x :: st) G I L := by
  intro p e s m args below meth c H locs a C hT hX hH hS hL
  exact lv_lxor C.1 C.2.1 hd (kk p e s m args below meth c H locs a C hT hX hH hS hL)
theorem pm_ladd {x w : Int64} (hd : decode cc pc = .ok (.ladd, 1)) (kk : PW l P y cc nL ret R Tg k n (pc + 1) ls (.long (x + w) :: st) G I L) : PW l P y cc nL ret R Tg k n pc ls (.long w :: .long x :: st) G I L := by
  intro p e s m args below meth c H locs a C hT hX hH hS hL
  exact lv_ladd C.1 C.2.1 hd (kk p e s m args below meth c H locs a C hT hX hH hS hL)
theorem pm_lcmp {x w : Int64} (hd : decode cc pc = .ok (.lcmp, 1)) (kk : PW l P y cc nL ret R Tg k n (pc + 1) ls (.int (lg_cmp x w) :: st) G I L) : PW l P y cc nL ret R Tg k n pc ls (.long w :: .long x :: st) G I L := by
  intro p e s m args below meth c H locs a C hT hX hH hS hL
  exact W.lcmp C.1 C.2.1 hd (kk p e s m args below meth c H locs a C hT hX hH hS hL)
theorem pm_lshl {x : Int64} {y1 : Int32} (hd : decode cc pc = .ok (.lshl, 1)) (kk : PW l P y cc nL ret R Tg k n (pc + 1) ls (.long (x <<< (y1.toInt64 &&& 63)) :: st) G I L) : PW l P y cc nL ret R Tg k n pc ls (.int y1 :: .long x :: st) G I L := by
  intro p e s m args below meth c H locs a C hT hX hH hS hL
  exact lv_lshl C.1 C.2.1 hd rfl (kk p e s m args below meth c H locs a C hT hX hH hS hL)
theorem pm_lshr {x : Int64} {y1 : Int32} (hd : decode cc pc = .ok (.lshr, 1)) (kk : PW l P y cc nL ret R Tg k n (pc + 1) ls (.long (x >>> (y1.toInt64 &&& 63)) :: st) G I L) : PW l P y cc nL ret R Tg k n pc ls (.int y1 :: .long x :: st) G I L := by
  intro p e s m args below meth c H locs a C hT hX hH hS hL
  exact lv_lshr C.1 C.2.1 hd rfl (kk p e s m args below meth c H locs a C hT hX hH hS hL)
theorem pm_i2l {x : Int32} (hd : decode cc pc = .ok (.i2l, 1)) (kk : PW l P y cc nL ret R Tg k n (pc + 1) ls (.long x.toInt64 :: st) G I L) : PW l P y cc nL ret R Tg k n pc ls (.int x :: st) G I L := by
  intro p e s m args below meth c H locs a C hT hX hH hS hL
  exact lv_i2l C.1 C.2.1 hd rfl (kk p e s m args below meth c H locs a C hT hX hH hS hL)
theorem pm_l2i {x : Int64} (hd : decode cc pc = .ok (.l2i, 1)) (kk : PW l P y cc nL ret R Tg k n (pc + 1) ls (.int x.toInt32 :: st) G I L) : PW l P y cc nL ret R Tg k n pc ls (.long x :: st) G I L := by
  intro p e s m args below meth c H locs a C hT hX hH hS hL
  exact lv_l2i C.1 C.2.1 hd rfl (kk p e s m args below meth c H locs a C hT hX hH hS hL)
theorem pm_i2b {x : Int32} (hd : decode cc pc = .ok (.i2b, 1)) (kk : PW l P y cc nL ret R Tg k n (pc + 1) ls (.int x.toInt8.toInt32 :: st) G I L) : PW l P y cc nL ret R Tg k n pc ls (.int x :: st) G I L := by
  intro p e s m args below meth c H locs a C hT hX hH hS hL
  exact lv_i2b C.1 C.2.1 hd rfl (kk p e s m args below meth c H locs a C hT hX hH hS hL)
theorem pm_i2c {x : Int32} (hd : decode cc pc = .ok (.i2c, 1)) (kk : PW l P y cc nL ret R Tg k n (pc + 1) ls (.int (x.toUInt32 % 65536).toInt32 :: st) G I L) : PW l P y cc nL ret R Tg k n pc ls (.int x :: st) G I L := by
  intro p e s m args below meth c H locs a C hT hX hH hS hL
  exact lv_i2c C.1 C.2.1 hd rfl (kk p e s m args below meth c H locs a C hT hX hH hS hL)
theorem pm_iconst {j : Int} {v : Int32} (hd : decode cc pc = .ok (.iconst j, 1)) (hv : Int32.ofInt j = v) (kk : PW l P y cc nL ret R Tg k n (pc + 1) ls (.int v :: st) G I L) : PW l P y cc nL ret R Tg k n pc ls (st) G I L := by
  intro p e s m args below meth c H locs a C hT hX hH hS hL
  exact lv_iconst C.1 C.2.1 hd hv (kk p e s m args below meth c H locs a C hT hX hH hS hL)
theorem pm_bipush {j : Int} {v : Int32} (hd : decode cc pc = .ok (.bipush j, 2)) (hv : (Int8.ofInt j).toInt32 = v) (kk : PW l P y cc nL ret R Tg k n (pc + 2) ls (.int v :: st) G I L) : PW l P y cc nL ret R Tg k n pc ls (st) G I L := by
  intro p e s m args below meth c H locs a C hT hX hH hS hL
  exact lv_bipush C.1 C.2.1 hd hv (kk p e s m args below meth c H locs a C hT hX hH hS hL)
theorem pm_sipush {j : Int} {v : Int32} (hd : decode cc pc = .ok (.sipush j, 3)) (hv : (Int16.ofInt j).toInt32 = v) (kk : PW l P y cc nL ret R Tg k n (pc + 3) ls (.int v :: st) G I L) : PW l P y cc nL ret R Tg k n pc ls (st) G I L := by
  intro p e s m args below meth c H locs a C hT hX hH hS hL
  exact lv_sipush C.1 C.2.1 hd hv (kk p e s m args below meth c H locs a C hT hX hH hS hL)
theorem pm_lconst {j : Fin 2} {v : Int64} (hd : decode cc pc = .ok (.lconst j, 1)) (hv : Int64.ofNat (j : Nat) = v) (kk : PW l P y cc nL ret R Tg k n (pc + 1) ls (.long v :: st) G I L) : PW l P y cc nL ret R Tg k n pc ls (st) G I L := by
  intro p e s m args below meth c H locs a C hT hX hH hS hL
  exact lv_lconst C.1 C.2.1 hd hv (kk p e s m args below meth c H locs a C hT hX hH hS hL)
theorem pm_null {u : Unit} (hd : decode cc pc = .ok (.aconst_null, 1)) (kk : PW l P y cc nL ret R Tg k n (pc + 1) ls (.null :: st) G I L) : PW l P y cc nL ret R Tg k n pc ls (st) G I L := by
  intro p e s m args below meth c H locs a C hT hX hH hS hL
  exact lv_null C.1 C.2.1 hd (kk p e s m args below meth c H locs a C hT hX hH hS hL)
theorem pm_pop {v : Value} (hd : decode cc pc = .ok (.pop, 1)) (hc : v.category = 1) (kk : PW l P y cc nL ret R Tg k n (pc + 1) ls (st) G I L) : PW l P y cc nL ret R Tg k n pc ls (v :: st) G I L := by
  intro p e s m args below meth c H locs a C hT hX hH hS hL
  exact lv_pop C.1 C.2.1 hd (by rw [pm_v_cat]; exact hc) (kk p e s m args below meth c H locs a C hT hX hH hS hL)
theorem pm_dup {v : Value} (hd : decode cc pc = .ok (.dup, 1)) (hc : v.category = 1) (kk : PW l P y cc nL ret R Tg k n (pc + 1) ls (v :: v :: st) G I L) : PW l P y cc nL ret R Tg k n pc ls (v :: st) G I L := by
  intro p e s m args below meth c H locs a C hT hX hH hS hL
  exact lv_dup C.1 C.2.1 hd (by rw [pm_v_cat]; exact hc) (kk p e s m args below meth c H locs a C hT hX hH hS hL)
theorem pm_dup2 {v w : Value} (hd : decode cc pc = .ok (.dup2, 1)) (hc : v.category = 1) (hc2 : w.category = 1) (kk : PW l P y cc nL ret R Tg k n (pc + 1) ls (v :: w :: v :: w :: st) G I L) : PW l P y cc nL ret R Tg k n pc ls (v :: w :: st) G I L := by
  intro p e s m args below meth c H locs a C hT hX hH hS hL
  exact lv_dup2_11 C.1 C.2.1 hd (by rw [pm_v_cat]; exact hc) (by rw [pm_v_cat]; exact hc2) (kk p e s m args below meth c H locs a C hT hX hH hS hL)
theorem pm_iload_n {j : Fin 4} {x : Int32} (hd : decode cc pc = .ok (.iload_n j, 1)) (hl : ls[(j : Nat)]? = some (some (.int x))) (kk : PW l P y cc nL ret R Tg k n (pc + 1) ls (.int x :: st) G I L) : PW l P y cc nL ret R Tg k n pc ls (st) G I L := by
  intro p e s m args below meth c H locs a C hT hX hH hS hL
  exact lv_iload_n C.1 C.2.1 hd rfl (hL.2.2 _ _ hl) (kk p e s m args below meth c H locs a C hT hX hH hS hL)
theorem pm_iload {j : Nat} {x : Int32} (hd : decode cc pc = .ok (.iload j, 2)) (hl : ls[j]? = some (some (.int x))) (kk : PW l P y cc nL ret R Tg k n (pc + 2) ls (.int x :: st) G I L) : PW l P y cc nL ret R Tg k n pc ls (st) G I L := by
  intro p e s m args below meth c H locs a C hT hX hH hS hL
  exact lv_iload C.1 C.2.1 hd (hL.2.2 _ _ hl) (kk p e s m args below meth c H locs a C hT hX hH hS hL)
theorem pm_lload_n {j : Fin 4} {x : Int64} (hd : decode cc pc = .ok (.lload_n j, 1)) (hl : ls[(j : Nat)]? = some (some (.long x))) (kk : PW l P y cc nL ret R Tg k n (pc + 1) ls (.long x :: st) G I L) : PW l P y cc nL ret R Tg k n pc ls (st) G I L := by
  intro p e s m args below meth c H locs a C hT hX hH hS hL
  exact lv_lload_n C.1 C.2.1 hd rfl (hL.2.2 _ _ hl) (kk p e s m args below meth c H locs a C hT hX hH hS hL)
theorem pm_lload {j : Nat} {x : Int64} (hd : decode cc pc = .ok (.lload j, 2)) (hl : ls[j]? = some (some (.long x))) (kk : PW l P y cc nL ret R Tg k n (pc + 2) ls (.long x :: st) G I L) : PW l P y cc nL ret R Tg k n pc ls (st) G I L := by
  intro p e s m args below meth c H locs a C hT hX hH hS hL
  exact lv_lload C.1 C.2.1 hd (hL.2.2 _ _ hl) (kk p e s m args below meth c H locs a C hT hX hH hS hL)
theorem pm_aload_n {j : Fin 4} {x : Nat} (hd : decode cc pc = .ok (.aload_n j, 1)) (hl : ls[(j : Nat)]? = some (some (.ref x))) (kk : PW l P y cc nL ret R Tg k n (pc + 1) ls (.ref x :: st) G I L) : PW l P y cc nL ret R Tg k n pc ls (st) G I L := by
  intro p e s m args below meth c H locs a C hT hX hH hS hL
  exact lv_aload_n C.1 C.2.1 hd rfl (hL.2.2 _ _ hl) (kk p e s m args below meth c H locs a C hT hX hH hS hL)
theorem pm_aload {j : Nat} {x : Nat} (hd : decode cc pc = .ok (.aload j, 2)) (hl : ls[j]? = some (some (.ref x))) (kk : PW l P y cc nL ret R Tg k n (pc + 2) ls (.ref x :: st) G I L) : PW l P y cc nL ret R Tg k n pc ls (st) G I L := by
  intro p e s m args below meth c H locs a C hT hX hH hS hL
  exact lv_aload C.1 C.2.1 hd (hL.2.2 _ _ hl) (kk p e s m args below meth c H locs a C hT hX hH hS hL)
theorem pm_aload_nN {j : Fin 4} (hd : decode cc pc = .ok (.aload_n j, 1)) (hl : ls[(j : Nat)]? = some (some .null)) (kk : PW l P y cc nL ret R Tg k n (pc + 1) ls (.null :: st) G I L) : PW l P y cc nL ret R Tg k n pc ls (st) G I L := by
  intro p e s m args below meth c H locs a C hT hX hH hS hL
  exact lv_aload_nN C.1 C.2.1 hd rfl (hL.2.2 _ _ hl) (kk p e s m args below meth c H locs a C hT hX hH hS hL)
theorem pm_aloadN {j : Nat} (hd : decode cc pc = .ok (.aload j, 2)) (hl : ls[j]? = some (some .null)) (kk : PW l P y cc nL ret R Tg k n (pc + 2) ls (.null :: st) G I L) : PW l P y cc nL ret R Tg k n pc ls (st) G I L := by
  intro p e s m args below meth c H locs a C hT hX hH hS hL
  exact lv_aloadN C.1 C.2.1 hd (hL.2.2 _ _ hl) (kk p e s m args below meth c H locs a C hT hX hH hS hL)
theorem pm_istore_n {j : Fin 4} {x : Int32} (hd : decode cc pc = .ok (.istore_n j, 1)) (hn : (j : Nat) < nL) (hf : pm_fr ls (j : Nat) = true) (kk : PW l P y cc nL ret R Tg k n (pc + 1) (ls.set (j : Nat) (some (.int x))) st G I L) : PW l P y cc nL ret R Tg k n pc ls (.int x :: st) G I L := by
  intro p e s m args below meth c H locs a C hT hX hH hS hL
  exact lv_istore_n C.1 C.2.1 hd rfl (hL.has) hn rfl (fun a' h' => kk p e s m args below meth c H locs a' C hT hX hH hS (pm_st1 (v := .int x) hf h'))
theorem pm_istore {j : Nat} {x : Int32} (hd : decode cc pc = .ok (.istore j, 2)) (hn : j < nL) (hf : pm_fr ls j = true) (kk : PW l P y cc nL ret R Tg k n (pc + 2) (ls.set j (some (.int x))) st G I L) : PW l P y cc nL ret R Tg k n pc ls (.int x :: st) G I L := by
  intro p e s m args below meth c H locs a C hT hX hH hS hL
  exact lv_istore C.1 C.2.1 hd (hL.has) hn rfl (fun a' h' => kk p e s m args below meth c H locs a' C hT hX hH hS (pm_st1 (v := .int x) hf h'))
theorem pm_astore_n {j : Fin 4} {x : Nat} (hd : decode cc pc = .ok (.astore_n j, 1)) (hn : (j : Nat) < nL) (hf : pm_fr ls (j : Nat) = true) (kk : PW l P y cc nL ret R Tg k n (pc + 1) (ls.set (j : Nat) (some (.ref x))) st G I L) : PW l P y cc nL ret R Tg k n pc ls (.ref x :: st) G I L := by
  intro p e s m args below meth c H locs a C hT hX hH hS hL
  exact lv_astore_n C.1 C.2.1 hd rfl (hL.has) hn rfl (fun a' h' => kk p e s m args below meth c H locs a' C hT hX hH hS (pm_st1 (v := .ref x) hf h'))
theorem pm_astore {j : Nat} {x : Nat} (hd : decode cc pc = .ok (.astore j, 2)) (hn : j < nL) (hf : pm_fr ls j = true) (kk : PW l P y cc nL ret R Tg k n (pc + 2) (ls.set j (some (.ref x))) st G I L) : PW l P y cc nL ret R Tg k n pc ls (.ref x :: st) G I L := by
  intro p e s m args below meth c H locs a C hT hX hH hS hL
  exact lv_astore C.1 C.2.1 hd (hL.has) hn rfl (fun a' h' => kk p e s m args below meth c H locs a' C hT hX hH hS (pm_st1 (v := .ref x) hf h'))
theorem pm_astore_nN {j : Fin 4} (hd : decode cc pc = .ok (.astore_n j, 1)) (hn : (j : Nat) < nL) (hf : pm_fr ls (j : Nat) = true) (kk : PW l P y cc nL ret R Tg k n (pc + 1) (ls.set (j : Nat) (some .null)) st G I L) : PW l P y cc nL ret R Tg k n pc ls (.null :: st) G I L := by
  intro p e s m args below meth c H locs a C hT hX hH hS hL
  exact lv_astore_nN C.1 C.2.1 hd rfl (hL.has) hn rfl (fun a' h' => kk p e s m args below meth c H locs a' C hT hX hH hS (pm_st1 (v := .null) hf h'))
theorem pm_lstore_n {j : Fin 4} {x : Int64} (hd : decode cc pc = .ok (.lstore_n j, 1)) (hn : (j : Nat) + 1 < nL) (hf : pm_fr ls (j : Nat) = true) (kk : PW l P y cc nL ret R Tg k n (pc + 1) ((ls.set (j : Nat) (some (.long x))).set ((j : Nat) + 1) none) st G I L) : PW l P y cc nL ret R Tg k n pc ls (.long x :: st) G I L := by
  intro p e s m args below meth c H locs a C hT hX hH hS hL
  exact lv_lstore_n C.1 C.2.1 hd rfl (hL.has) hn rfl (fun a' h' => kk p e s m args below meth c H locs a' C hT hX hH hS (pm_st2 (v := .long x) hf h'))
theorem pm_astoreN {j : Nat} (hd : decode cc pc = .ok (.astore j, 2)) (hn : j < nL) (hf : pm_fr ls j = true) (kk : PW l P y cc nL ret R Tg k n (pc + 2) (ls.set j (some .null)) st G I L) : PW l P y cc nL ret R Tg k n pc ls (.null :: st) G I L := by
  intro p e s m args below meth c H locs a C hT hX hH hS hL
  exact lv_astoreN C.1 C.2.1 hd (hL.has) hn rfl (fun a' h' => kk p e s m args below meth c H locs a' C hT hX hH hS (pm_st1 (v := .null) hf h'))
theorem pm_lstore {j : Nat} {x : Int64} (hd : decode cc pc = .ok (.lstore j, 2)) (hn : j + 1 < nL) (hf : pm_fr ls j = true) (kk : PW l P y cc nL ret R Tg k n (pc + 2) ((ls.set j (some (.long x))).set (j + 1) none) st G I L) : PW l P y cc nL ret R Tg k n pc ls (.long x :: st) G I L := by
  intro p e s m args below meth c H locs a C hT hX hH hS hL
  exact lv_lstore C.1 C.2.1 hd (hL.has) hn rfl (fun a' h' => kk p e s m args below meth c H locs a' C hT hX hH hS (pm_st2 (v := .long x) hf h'))
theorem pm_iinc {j : Nat} {q : Int} {x v : Int32} (hd : decode cc pc = .ok (.iinc j q, 3)) (hl : ls[j]? = some (some (.int x))) (hv : x + Int32.ofInt q = v) (hn : j < nL) (hf : pm_fr ls j = true) (kk : PW l P y cc nL ret R Tg k n (pc + 3) (ls.set j (some (.int v))) st G I L) : PW l P y cc nL ret R Tg k n pc ls st G I L := by
  intro p e s m args below meth c H locs a C hT hX hH hS hL
  obtain ⟨i9, h9⟩ := List.getElem?_of_mem (pm_prs_in (P := P) hl)
  exact lv_iinc C.1 C.2.1 hd (hL.has) h9 hv hn rfl (fun a' h' => kk p e s m args below meth c H locs a' C hT hX hH hS (pm_st1 (v := .int v) hf h'))
theorem pm_if_eq {x : Int32} {off : Int} {tgt : Nat} (hd : decode cc pc = .ok (.ifCond .eq off, 3)) (ht : (pc : Int) + off = (tgt : Int)) (kt : x = 0 → PW l P y cc nL ret R Tg k n tgt ls st G I L) (kf : ¬ x = 0 → PW l P y cc nL ret R Tg k n (pc + 3) ls st G I L) : PW l P y cc nL ret R Tg k n pc ls (.int x :: st) G I L := by
  intro p e s m args below meth c H locs a C hT hX hH hS hL
  exact lv_if_eq C.1 C.2.1 hd ht (fun q => kt q p e s m args below meth c H locs a C hT hX hH hS hL) (fun q => kf q p e s m args below meth c H locs a C hT hX hH hS hL)
theorem pm_if_ne {x : Int32} {off : Int} {tgt : Nat} (hd : decode cc pc = .ok (.ifCond .ne off, 3)) (ht : (pc : Int) + off = (tgt : Int)) (kt : ¬ x = 0 → PW l P y cc nL ret R Tg k n tgt ls st G I L) (kf : x = 0 → PW l P y cc nL ret R Tg k n (pc + 3) ls st G I L) : PW l P y cc nL ret R Tg k n pc ls (.int x :: st) G I L := by
  intro p e s m args below meth c H locs a C hT hX hH hS hL
  exact lv_if_ne C.1 C.2.1 hd ht (fun q => kt q p e s m args below meth c H locs a C hT hX hH hS hL) (fun q => kf q p e s m args below meth c H locs a C hT hX hH hS hL)
theorem pm_if_lt {x : Int32} {off : Int} {tgt : Nat} (hd : decode cc pc = .ok (.ifCond .lt off, 3)) (ht : (pc : Int) + off = (tgt : Int)) (kt : x < 0 → PW l P y cc nL ret R Tg k n tgt ls st G I L) (kf : ¬ x < 0 → PW l P y cc nL ret R Tg k n (pc + 3) ls st G I L) : PW l P y cc nL ret R Tg k n pc ls (.int x :: st) G I L := by
  intro p e s m args below meth c H locs a C hT hX hH hS hL
  exact lv_if_lt C.1 C.2.1 hd ht (fun q => kt q p e s m args below meth c H locs a C hT hX hH hS hL) (fun q => kf q p e s m args below meth c H locs a C hT hX hH hS hL)
theorem pm_if_ge {x : Int32} {off : Int} {tgt : Nat} (hd : decode cc pc = .ok (.ifCond .ge off, 3)) (ht : (pc : Int) + off = (tgt : Int)) (kt : 0 ≤ x → PW l P y cc nL ret R Tg k n tgt ls st G I L) (kf : ¬ 0 ≤ x → PW l P y cc nL ret R Tg k n (pc + 3) ls st G I L) : PW l P y cc nL ret R Tg k n pc ls (.int x :: st) G I L := by
  intro p e s m args below meth c H locs a C hT hX hH hS hL
  exact lv_if_ge C.1 C.2.1 hd ht (fun q => kt q p e s m args below meth c H locs a C hT hX hH hS hL) (fun q => kf q p e s m args below meth c H locs a C hT hX hH hS hL)
theorem pm_if_gt {x : Int32} {off : Int} {tgt : Nat} (hd : decode cc pc = .ok (.ifCond .gt off, 3)) (ht : (pc : Int) + off = (tgt : Int)) (kt : 0 < x → PW l P y cc nL ret R Tg k n tgt ls st G I L) (kf : ¬ 0 < x → PW l P y cc nL ret R Tg k n (pc + 3) ls st G I L) : PW l P y cc nL ret R Tg k n pc ls (.int x :: st) G I L := by
  intro p e s m args below meth c H locs a C hT hX hH hS hL
  exact lv_if_gt C.1 C.2.1 hd ht (fun q => kt q p e s m args below meth c H locs a C hT hX hH hS hL) (fun q => kf q p e s m args below meth c H locs a C hT hX hH hS hL)
theorem pm_if_le {x : Int32} {off : Int} {tgt : Nat} (hd : decode cc pc = .ok (.ifCond .le off, 3)) (ht : (pc : Int) + off = (tgt : Int)) (kt : x ≤ 0 → PW l P y cc nL ret R Tg k n tgt ls st G I L) (kf : ¬ x ≤ 0 → PW l P y cc nL ret R Tg k n (pc + 3) ls st G I L) : PW l P y cc nL ret R Tg k n pc ls (.int x :: st) G I L := by
  intro p e s m args below meth c H locs a C hT hX hH hS hL
  exact lv_if_le C.1 C.2.1 hd ht (fun q => kt q p e s m args below meth c H locs a C hT hX hH hS hL) (fun q => kf q p e s m args below meth c H locs a C hT hX hH hS hL)
theorem pm_icmp_eq {x y1 : Int32} {off : Int} {tgt : Nat} (hd : decode cc pc = .ok (.if_icmp .eq off, 3)) (ht : (pc : Int) + off = (tgt : Int)) (kt : x = y1 → PW l P y cc nL ret R Tg k n tgt ls st G I L) (kf : ¬ x = y1 → PW l P y cc nL ret R Tg k n (pc + 3) ls st G I L) : PW l P y cc nL ret R Tg k n pc ls (.int y1 :: .int x :: st) G I L := by
  intro p e s m args below meth c H locs a C hT hX hH hS hL
  exact lv_icmp_eq C.1 C.2.1 hd ht (fun q => kt q p e s m args below meth c H locs a C hT hX hH hS hL) (fun q => kf q p e s m args below meth c H locs a C hT hX hH hS hL)
theorem pm_icmp_ne {x y1 : Int32} {off : Int} {tgt : Nat} (hd : decode cc pc = .ok (.if_icmp .ne off, 3)) (ht : (pc : Int) + off = (tgt : Int)) (kt : ¬ x = y1 → PW l P y cc nL ret R Tg k n tgt ls st G I L) (kf : x = y1 → PW l P y cc nL ret R Tg k n (pc + 3) ls st G I L) : PW l P y cc nL ret R Tg k n pc ls (.int y1 :: .int x :: st) G I L := by
  intro p e s m args below meth c H locs a C hT hX hH hS hL
  exact lv_icmp_ne C.1 C.2.1 hd ht (fun q => kt q p e s m args below meth c H locs a C hT hX hH hS hL) (fun q => kf q p e s m args below meth c H locs a C hT hX hH hS hL)
theorem pm_icmp_lt {x y1 : Int32} {off : Int} {tgt : Nat} (hd : decode cc pc = .ok (.if_icmp .lt off, 3)) (ht : (pc : Int) + off = (tgt : Int)) (kt : x < y1 → PW l P y cc nL ret R Tg k n tgt ls st G I L) (kf : ¬ x < y1 → PW l P y cc nL ret R Tg k n (pc + 3) ls st G I L) : PW l P y cc nL ret R Tg k n pc ls (.int y1 :: .int x :: st) G I L := by
  intro p e s m args below meth c H locs a C hT hX hH hS hL
  exact lv_icmp_lt C.1 C.2.1 hd ht (fun q => kt q p e s m args below meth c H locs a C hT hX hH hS hL) (fun q => kf q p e s m args below meth c H locs a C hT hX hH hS hL)
theorem pm_icmp_ge {x y1 : Int32} {off : Int} {tgt : Nat} (hd : decode cc pc = .ok (.if_icmp .ge off, 3)) (ht : (pc : Int) + off = (tgt : Int)) (kt : y1 ≤ x → PW l P y cc nL ret R Tg k n tgt ls st G I L) (kf : ¬ y1 ≤ x → PW l P y cc nL ret R Tg k n (pc + 3) ls st G I L) : PW l P y cc nL ret R Tg k n pc ls (.int y1 :: .int x :: st) G I L := by
  intro p e s m args below meth c H locs a C hT hX hH hS hL
  exact lv_icmp_ge C.1 C.2.1 hd ht (fun q => kt q p e s m args below meth c H locs a C hT hX hH hS hL) (fun q => kf q p e s m args below meth c H locs a C hT hX hH hS hL)
theorem pm_icmp_gt {x y1 : Int32} {off : Int} {tgt : Nat} (hd : decode cc pc = .ok (.if_icmp .gt off, 3)) (ht : (pc : Int) + off = (tgt : Int)) (kt : y1 < x → PW l P y cc nL ret R Tg k n tgt ls st G I L) (kf : ¬ y1 < x → PW l P y cc nL ret R Tg k n (pc + 3) ls st G I L) : PW l P y cc nL ret R Tg k n pc ls (.int y1 :: .int x :: st) G I L := by
  intro p e s m args below meth c H locs a C hT hX hH hS hL
  exact lv_icmp_gt C.1 C.2.1 hd ht (fun q => kt q p e s m args below meth c H locs a C hT hX hH hS hL) (fun q => kf q p e s m args below meth c H locs a C hT hX hH hS hL)
theorem pm_icmp_le {x y1 : Int32} {off : Int} {tgt : Nat} (hd : decode cc pc = .ok (.if_icmp .le off, 3)) (ht : (pc : Int) + off = (tgt : Int)) (kt : x ≤ y1 → PW l P y cc nL ret R Tg k n tgt ls st G I L) (kf : ¬ x ≤ y1 → PW l P y cc nL ret R Tg k n (pc + 3) ls st G I L) : PW l P y cc nL ret R Tg k n pc ls (.int y1 :: .int x :: st) G I L := by
  intro p e s m args below meth c H locs a C hT hX hH hS hL
  exact lv_icmp_le C.1 C.2.1 hd ht (fun q => kt q p e s m args below meth c H locs a C hT hX hH hS hL) (fun q => kf q p e s m args below meth c H locs a C hT hX hH hS hL)
theorem pm_goto {off : Int} {tgt : Nat} (hd : decode cc pc = .ok (.goto off, 3)) (ht : (pc : Int) + off = (tgt : Int)) (kk : PW l P y cc nL ret R Tg k n tgt ls st G I L) : PW l P y cc nL ret R Tg k n pc ls st G I L := by
  intro p e s m args below meth c H locs a C hT hX hH hS hL
  exact lv_goto C.1 C.2.1 hd ht (kk p e s m args below meth c H locs a C hT hX hH hS hL)
theorem pm_ifnull {x : Nat} {off : Int} (hd : decode cc pc = .ok (.ifnull off, 3)) (kk : PW l P y cc nL ret R Tg k n (pc + 3) ls (st) G I L) : PW l P y cc nL ret R Tg k n pc ls (.ref x :: st) G I L := by
  intro p e s m args below meth c H locs a C hT hX hH hS hL
  exact lv_ifnull C.1 C.2.1 hd (kk p e s m args below meth c H locs a C hT hX hH hS hL)
theorem pm_ifnonnullN {off : Int} (hd : decode cc pc = .ok (.ifnonnull off, 3)) (kk : PW l P y cc nL ret R Tg k n (pc + 3) ls (st) G I L) : PW l P y cc nL ret R Tg k n pc ls (.null :: st) G I L := by
  intro p e s m args below meth c H locs a C hT hX hH hS hL
  exact lv_ifnonnullN C.1 C.2.1 hd (kk p e s m args below meth c H locs a C hT hX hH hS hL)
theorem pm_ifnonnull {x : Nat} {off : Int} {tgt : Nat} (hd : decode cc pc = .ok (.ifnonnull off, 3)) (ht : (pc : Int) + off = (tgt : Int)) (kk : PW l P y cc nL ret R Tg k n tgt ls st G I L) : PW l P y cc nL ret R Tg k n pc ls (.ref x :: st) G I L := by
  intro p e s m args below meth c H locs a C hT hX hH hS hL
  exact lv_ifnonnull C.1 C.2.1 hd ht (kk p e s m args below meth c H locs a C hT hX hH hS hL)
theorem pm_ifnullN {x : Nat} {off : Int} {tgt : Nat} (hd : decode cc pc = .ok (.ifnull off, 3)) (ht : (pc : Int) + off = (tgt : Int)) (kk : PW l P y cc nL ret R Tg k n tgt ls st G I L) : PW l P y cc nL ret R Tg k n pc ls (.null :: st) G I L := by
  intro p e s m args below meth c H locs a C hT hX hH hS hL
  exact lv_ifnullN C.1 C.2.1 hd ht (kk p e s m args below meth c H locs a C hT hX hH hS hL)
theorem pm_tableOut {dflt lo hi : Int} {offs : Array Int} {len : Nat} {x : Int32} {tgt : Nat} (hd : decode cc pc = .ok (.tableswitch dflt lo hi offs, len)) (h : x.toInt < lo ∨ hi < x.toInt) (ht : (pc : Int) + dflt = (tgt : Int)) (kk : PW l P y cc nL ret R Tg k n tgt ls st G I L) : PW l P y cc nL ret R Tg k n pc ls (.int x :: st) G I L := by
  intro p e s m args below meth c H locs a C hT hX hH hS hL
  exact lv_tableOut C.1 C.2.1 hd h ht (kk p e s m args below meth c H locs a C hT hX hH hS hL)
theorem pm_tableIn {dflt lo hi : Int} {offs : Array Int} {len : Nat} {x : Int32} {off : Int} {tgt : Nat} (hd : decode cc pc = .ok (.tableswitch dflt lo hi offs, len)) (h1 : ¬ x.toInt < lo) (h2 : ¬ hi < x.toInt) (ho : offs[(x.toInt - lo).toNat]? = some off) (ht : (pc : Int) + off = (tgt : Int)) (kk : PW l P y cc nL ret R Tg k n tgt ls st G I L) : PW l P y cc nL ret R Tg k n pc ls (.int x :: st) G I L := by
  intro p e s m args below meth c H locs a C hT hX hH hS hL
  exact lv_tableIn C.1 C.2.1 hd h1 h2 ho ht (kk p e s m args below meth c H locs a C hT hX hH hS hL)
theorem pm_lookup {dflt : Int} {ps : Array (Int × Int)} {len : Nat} {x : Int32} {off : Int} {tgt : Nat} (hd : decode cc pc = .ok (.lookupswitch dflt ps, len)) (hp : (ps.toList.zip (ps.toList.drop 1)).all (fun (a, next) => a.1 < next.1) = true) (ho : Op.lookupswitch.offset ps.toList dflt x.toInt = off) (ht : (pc : Int) + off = (tgt : Int)) (kk : PW l P y cc nL ret R Tg k n tgt ls st G I L) : PW l P y cc nL ret R Tg k n pc ls (.int x :: st) G I L := by
  intro p e s m args below meth c H locs a C hT hX hH hS hL
  exact lv_lookup C.1 C.2.1 hd hp ho ht (kk p e s m args below meth c H locs a C hT hX hH hS hL)
theorem pm_ldc {ix : Nat} {v : Int32} (hc : Cond.constant y.cls ix v ∈ TB) (hd : decode cc pc = .ok (.ldc ix, 2)) (kk : PW l P y cc nL ret R Tg k n (pc + 2) ls (.int v :: st) G I L) : PW l P y cc nL ret R Tg k n pc ls st G I L := by
  intro p e s m args below meth c H locs a C hT hX hH hS hL
  exact lv_ldc C.1 C.2.1 C.2.2.2.1 (C.2.2.2.2.2.2.2 _ hc) hd (kk p e s m args below meth c H locs a C hT hX hH hS hL)
theorem pm_ldcw {ix : Nat} {v : Int32} (hc : Cond.constant y.cls ix v ∈ TB) (hd : decode cc pc = .ok (.ldc_w ix, 3)) (kk : PW l P y cc nL ret R Tg k n (pc + 3) ls (.int v :: st) G I L) : PW l P y cc nL ret R Tg k n pc ls st G I L := by
  intro p e s m args below meth c H locs a C hT hX hH hS hL
  exact lv_ldcw C.1 C.2.1 C.2.2.2.1 (C.2.2.2.2.2.2.2 _ hc) hd (kk p e s m args below meth c H locs a C hT hX hH hS hL)
theorem pm_ldc2 {ix : Nat} {v : Int64} (hc : Cond.constantLong y.cls ix v ∈ TB) (hd : decode cc pc = .ok (.ldc2_w ix, 3)) (kk : PW l P y cc nL ret R Tg k n (pc + 3) ls (.long v :: st) G I L) : PW l P y cc nL ret R Tg k n pc ls st G I L := by
  intro p e s m args below meth c H locs a C hT hX hH hS hL
  exact lv_ldc2 C.1 C.2.1 C.2.2.2.1 (C.2.2.2.2.2.2.2 _ hc) hd (kk p e s m args below meth c H locs a C hT hX hH hS hL)
theorem pm_ldcS {ix : Nat} (q : String × Nat × String × Nat) (hq : q ∈ NT) (h1 : q.1 = y.cls) (h2 : q.2.1 = ix) (h3 : q.2.2.2 < 1000) (hd : decode cc pc = .ok (.ldc ix, 2)) (kk : PW l P y cc nL ret R Tg k n (pc + 2) ls (.ref (1000 + q.2.2.2) :: st) G I L) : PW l P y cc nL ret R Tg k n pc ls st G I L := by
  intro p e s m args below meth c H locs a C hT hX hH hS hL
  have hz := hT.2.2.1 q hq
  rw [h1, h2] at hz
  refine va_ldcS C.1 C.2.1 C.2.2.2.1 hz hd ?_
  have e1 : pm_ad P (1000 + q.2.2.2) = pm_aK P q.2.2.2 := by
    rw [pm_ad, if_neg (by omega), if_pos (by omega), Nat.add_sub_cancel_left]
  have k1 := kk p e s m args below meth c H locs a C hT hX hH hS hL
  rw [List.map_cons] at k1
  show W p l e R s m args below meth c H locs k n (Tg below args s) (F0 m (pc + 2) a (.ref (pm_aK P q.2.2.2) :: st.map (pm_v P)))
  rw [← e1]
  exact k1
theorem pm_fget {P : pm_E} {f : Nat → Int32} {fs : List (Option (Option Nat))} {j : Nat} {o : Option (Option Nat)} (h : fs[j]? = some o) : (fs.zipIdx.map (pm_f P f))[j]? = some (pm_f P f (o, j)) := by
  simp [List.getElem?_map, List.getElem?_zipIdx, h]
/-- a field of numbers -/
theorem pm_get {o ci j N ix : Nat} {C0 : String} {T : u_T} {fs : List (Option (Option Nat))} (hg : G[o]? = some (.inl (ci, fs))) (hc : vwCl[ci]? = some (C0, T, N)) (hin : ∀ w ∈ u_ws C0 T N, w ∈ TB) (hj : j < N) (hl : Cond.fieldLink y.cls ix (T j).1 (T j).2.1 (T j).2.2.1 ∈ TB) (hf : fs[j]? = some none) (hd : decode cc pc = .ok (.getfield ix, 3)) (kk : PW l P y cc nL ret R Tg k n (pc + 3) ls (.int (I o j) :: st) G I L) : PW l P y cc nL ret R Tg k n pc ls (.ref o :: st) G I L := by
  intro p e s m args below meth c H locs a C hT hX hH hS hL
  exact va_get (ref := (T j).1) (ci := ci) (C := C0) (T := T) (N := N) (v := .int (I o j)) C.1 C.2.1 C.2.2.2.2.2.2.2 hin C.2.2.2.1 hT.1 hH.1 o (hH.at hg) hc j hj (C.2.2.2.2.2.2.2 _ hl) (fun _ h => h) (pm_fget hf) hd (kk p e s m args below meth c H locs a C hT hX hH hS hL)
/-- a field that is a told reference -/
theorem pm_getr {o ci j N ix r : Nat} {C0 : String} {T : u_T} {fs : List (Option (Option Nat))} (hg : G[o]? = some (.inl (ci, fs))) (hc : vwCl[ci]? = some (C0, T, N)) (hin : ∀ w ∈ u_ws C0 T N, w ∈ TB) (hj : j < N) (hl : Cond.fieldLink y.cls ix (T j).1 (T j).2.1 (T j).2.2.1 ∈ TB) (hf : fs[j]? = some (some (some r))) (hd : decode cc pc = .ok (.getfield ix, 3)) (kk : PW l P y cc nL ret R Tg k n (pc + 3) ls (.ref r :: st) G I L) : PW l P y cc nL ret R Tg k n pc ls (.ref o :: st) G I L := by
  intro p e s m args below meth c H locs a C hT hX hH hS hL
  exact va_get (ref := (T j).1) (ci := ci) (C := C0) (T := T) (N := N) (v := .ref (pm_ad P r)) C.1 C.2.1 C.2.2.2.2.2.2.2 hin C.2.2.2.1 hT.1 hH.1 o (hH.at hg) hc j hj (C.2.2.2.2.2.2.2 _ hl) (fun _ h => h) (pm_fget hf) hd (kk p e s m args below meth c H locs a C hT hX hH hS hL)
theorem pm_fset {P : pm_E} {f : Nat → Int32} {fs : List (Option (Option Nat))} {j : Nat} {x : Int32} (h : fs[j]? = some none) : (fs.zipIdx.map (pm_f P f)).set j (.int x) = fs.zipIdx.map (pm_f P (upd f j x)) := by
  apply List.ext_getElem?
  intro i
  rw [List.getElem?_set, List.getElem?_map, List.getElem?_map, List.getElem?_zipIdx]
  by_cases e : j = i
  · subst e
    rw [if_pos rfl, if_pos (by simp; exact (List.getElem?_eq_some_iff.mp h).1), h]
    simp [pm_f, upd]
  · rw [if_neg e]
    cases hi : fs[i]? with
    | none => rfl
    | some o =>
      have : ¬ i = j := fun q => e q.symm
      cases o with
      | none => simp [pm_f, upd, this]
      | some r => cases r <;> simp [pm_f]
theorem pm_fsetr {P : pm_E} {f : Nat → Int32} {fs : List (Option (Option Nat))} {j r : Nat} (h : j < fs.length) : (fs.zipIdx.map (pm_f P f)).set j (.ref (pm_ad P r)) = (fs.set j (some (some r))).zipIdx.map (pm_f P f) := by
  apply List.ext_getElem?
  intro i
  rw [List.getElem?_set, List.getElem?_map, List.getElem?_map, List.getElem?_zipIdx, List.getElem?_zipIdx, List.getElem?_set]
  by_cases e : j = i
  · subst e
    rw [if_pos rfl, if_pos (by simp; exact h), if_pos rfl, if_pos h]
    simp [pm_f]
  · rw [if_neg e, if_neg e]
/-- behind a store into a cell of the world -/
theorem pm_S_put {P : pm_E} {H0 H H1 : Heap} {locs : List Loc} {G : List pm_S} {I : pm_I} {L : pm_L} (hH : pm_H P G I L H) {id i : Nat} {sh : pm_S} (hg : G[id]? = some sh) (h : va_S (pm_A P) H0 H locs) (z : H1.size = H.size) (oq : ∀ q : Nat, q ≠ pm_ad P id → H1[q]? = H[q]?) : va_S (pm_A P) H0 H1 (locs ++ [⟨pm_ad P id, i⟩]) := h.put z oq (by rw [hH.ad hg]; exact Nat.le_add_right _ _)
theorem pm_put {o ci j N ix : Nat} {C0 : String} {T : u_T} {fs : List (Option (Option Nat))} {x : Int32} {ty : FieldType} (hg : G[o]? = some (.inl (ci, fs))) (hc : vwCl[ci]? = some (C0, T, N)) (hin : ∀ w ∈ u_ws C0 T N, w ∈ TB) (ty0 : Nat → FieldType) (hty : ∀ k, k < N → parseFieldDescriptor (T k).2.2.1 = some (ty0 k)) (hnm : ∀ a, a < N → ∀ b, b < N → a ≠ b → (T a).2.1 ≠ (T b).2.1) (hj : j < N) (hl : Cond.fieldLink y.cls ix (T j).1 (T j).2.1 (T j).2.2.1 ∈ TB) (hf : fs[j]? = some none) (hfin : (T j).2.2.2 = false) (hdt : parseFieldDescriptor (T j).2.2.1 = some ty) (hn : narrow ty (.int x) = .int x) (hfit : fits ty (.int x) = true) (hd : decode cc pc = .ok (.putfield ix, 3)) (kk : PW l P y cc nL ret R Tg k n (pc + 3) ls st G (pm_u I o (upd (I o) j x)) L) : PW l P y cc nL ret R Tg k n pc ls (.int x :: .ref o :: st) G I L := by
  intro p e s m args below meth c H locs a C hT hX hH hS hL
  have hts := C.2.2.2.2.2.2.2
  have hK := hT.1
  have hown := C.2.2.2.1
  have hap := va_apart (own := y.cls) hts hin ty0 hty hnm hK hc
  have he := hH.at hg
  obtain ⟨r, h1, cell, q1, q2, q3, q4⟩ := hH.1 o _ he
  have hr : r = (C0, T, N) := Option.some.inj (h1.symm.trans hc)
  subst hr
  obtain ⟨hS1, hfc, kC, hkC, hkind⟩ := hK.1 ci _ hc
  obtain ⟨cf, kf, fi, f, hi, hsl⟩ := hS1 j hj
  have hlay := hts _ (hin _ (u_in_lay hj))
  unfold u_lay at hlay
  rw [if_neg (by rw [hfin]; decide)] at hlay
  have hst := (u_facts hfc hkC (u_lays hts hin hj) hi).1
  have h6 := u_store hfc hkC hkind hlay hi hdt hn hfit
  refine W.putK C.1 C.2.1 (f := f) (a := pm_ad P o) (v := .int x) ⟨hown, hts _ hl, ⟨_, _, _, hi⟩, hst⟩ (by rw [q2]; exact h6) q1 q3 (by rw [hsl]; exact k2_hasslot (q4 j hj)) rfl rfl hd fun H' e1 e2 e3 => ?_
  rw [hsl] at e1
  have hl9 : j < (fs.zipIdx.map (pm_f P (I o))).length := by simp; exact (List.getElem?_eq_some_iff.mp hf).1
  have hv : va_at (pm_D P) vwCl (pm_ad P o, pm_c P (upd (I o) j x) (L o) (.inl (ci, fs))) H' := by
    refine ⟨_, hc, ?_⟩
    have h7 := t_OB.to (V := updV (vp_V (fs.zipIdx.map (pm_f P (I o)))) j (.int x)) ⟨_, e1, q2, q3, t_set q4 hap hj (.int x)⟩ (fun i _ => vp_updV_set hl9 (.int x) i)
    rw [pm_fset hf] at h7
    exact h7
  have h8 := hH.set0 hg (upd (I o) j x) (L o) hv e2 e3
  rw [pm_uu] at h8
  exact kk p e s m args below meth c H' _ a C hT hX h8 (pm_S_put hH hg hS e2 e3) hL
theorem pm_iaload {o N : Nat} {i : Int32} (hg : G[o]? = some (.inr (.inl (0, N)))) (hi : vp_in i N) (hd : decode cc pc = .ok (.iaload, 1)) (kk : PW l P y cc nL ret R Tg k n (pc + 1) ls (.int (I o i.toNatClampNeg) :: st) G I L) : PW l P y cc nL ret R Tg k n pc ls (.int i :: .ref o :: st) G I L := by
  intro p e s m args below meth c H locs a C hT hX hH hS hL
  exact va_iald C.1 C.2.1 hT.1 hH.1 o 0 (hH.at hg) rfl hi hd (kk p e s m args below meth c H locs a C hT hX hH hS hL)
theorem pm_caload {o N : Nat} {i : Int32} (hg : G[o]? = some (.inr (.inl (1, N)))) (hi : vp_in i N) (hd : decode cc pc = .ok (.caload, 1)) (kk : PW l P y cc nL ret R Tg k n (pc + 1) ls (.int (I o i.toNatClampNeg) :: st) G I L) : PW l P y cc nL ret R Tg k n pc ls (.int i :: .ref o :: st) G I L := by
  intro p e s m args below meth c H locs a C hT hX hH hS hL
  exact va_cald C.1 C.2.1 hT.1 hH.1 o 1 (hH.at hg) rfl hi hd (kk p e s m args below meth c H locs a C hT hX hH hS hL)
theorem pm_laload {o N : Nat} {i : Int32} (hg : G[o]? = some (.inr (.inl (2, N)))) (hi : vp_in i N) (hd : decode cc pc = .ok (.laload, 1)) (kk : PW l P y cc nL ret R Tg k n (pc + 1) ls (.long (L o i.toNatClampNeg) :: st) G I L) : PW l P y cc nL ret R Tg k n pc ls (.int i :: .ref o :: st) G I L := by
  intro p e s m args below meth c H locs a C hT hX hH hS hL
  exact va_lald C.1 C.2.1 hT.1 hH.1 o 2 (hH.at hg) rfl hi hd (kk p e s m args below meth c H locs a C hT hX hH hS hL)
theorem pm_iastore {o N : Nat} {i : Int32} {x : Int32} (hg : G[o]? = some (.inr (.inl (0, N)))) (hi : vp_in i N) (hd : decode cc pc = .ok (.iastore, 1)) (kk : PW l P y cc nL ret R Tg k n (pc + 1) ls st G (pm_u I o (upd (I o) i.toNatClampNeg (x))) L) : PW l P y cc nL ret R Tg k n pc ls (.int x :: .int i :: .ref o :: st) G I L := by
  intro p e s m args below meth c H locs a C hT hX hH hS hL
  refine W.iast C.1 C.2.1 (a := pm_ad P o) (hH.1 o _ (hH.at hg)) ((hT.1.2 0 _ rfl).1 N (fun j => .int ((I o) j))) (fun q => by cases q) (by show ¬ (i < 0 ∨ (arrV _ _ _).slots.size ≤ _); rw [arrV_size]; exact hi) rfl rfl hd fun H1 e1 z oq => ?_
  have hv : va_at (pm_D P) vwCl (pm_ad P o, pm_c P (upd (I o) i.toNatClampNeg (x)) (L o) (.inr (.inl (0, N)))) H1 := by
    show H1[pm_ad P o]? = some (vp_cell _ _)
    rw [e1]
    show some ((vp_cell _ (N, .inl (I o))).setSlot _ _) = some (vp_cell _ _)
    rw [vp_cell_i, vp_cell_i, arrV_store]
    congr 2
    funext q
    by_cases hq : q = i.toNatClampNeg
    · subst hq
      simp [updV, upd]
    · simp [updV, upd, hq]
  have h8 := hH.set0 hg (upd (I o) i.toNatClampNeg (x)) (L o) hv z oq
  rw [pm_uu] at h8
  exact kk p e s m args below meth c H1 _ a C hT hX h8 (pm_S_put hH hg hS z oq) hL
theorem pm_castore {o N : Nat} {i : Int32} {x : Int32} (hg : G[o]? = some (.inr (.inl (1, N)))) (hi : vp_in i N) (hd : decode cc pc = .ok (.castore, 1)) (kk : PW l P y cc nL ret R Tg k n (pc + 1) ls st G (pm_u I o (upd (I o) i.toNatClampNeg (vp_nar .char x))) L) : PW l P y cc nL ret R Tg k n pc ls (.int x :: .int i :: .ref o :: st) G I L := by
  intro p e s m args below meth c H locs a C hT hX hH hS hL
  refine W.cast C.1 C.2.1 (a := pm_ad P o) (hH.1 o _ (hH.at hg)) ((hT.1.2 1 _ rfl).1 N (fun j => .int ((I o) j))) (fun q => by cases q) (by show ¬ (i < 0 ∨ (arrV _ _ _).slots.size ≤ _); rw [arrV_size]; exact hi) rfl rfl hd fun H1 e1 z oq => ?_
  have hv : va_at (pm_D P) vwCl (pm_ad P o, pm_c P (upd (I o) i.toNatClampNeg (vp_nar .char x)) (L o) (.inr (.inl (1, N)))) H1 := by
    show H1[pm_ad P o]? = some (vp_cell _ _)
    rw [e1]
    show some ((vp_cell _ (N, .inl (I o))).setSlot _ _) = some (vp_cell _ _)
    rw [vp_cell_i, vp_cell_i, arrV_store]
    congr 2
    funext q
    by_cases hq : q = i.toNatClampNeg
    · subst hq
      simp [updV, upd]
      rfl
    · simp [updV, upd, hq]
  have h8 := hH.set0 hg (upd (I o) i.toNatClampNeg (vp_nar .char x)) (L o) hv z oq
  rw [pm_uu] at h8
  exact kk p e s m args below meth c H1 _ a C hT hX h8 (pm_S_put hH hg hS z oq) hL
theorem pm_lastore {o N : Nat} {i : Int32} {x : Int64} (hg : G[o]? = some (.inr (.inl (2, N)))) (hi : vp_in i N) (hd : decode cc pc = .ok (.lastore, 1)) (kk : PW l P y cc nL ret R Tg k n (pc + 1) ls st G I (pm_u L o (vp_updL (L o) i.toNatClampNeg x))) : PW l P y cc nL ret R Tg k n pc ls (.long x :: .int i :: .ref o :: st) G I L := by
  intro p e s m args below meth c H locs a C hT hX hH hS hL
  refine W.last C.1 C.2.1 (a := pm_ad P o) (hH.1 o _ (hH.at hg)) ((hT.1.2 2 _ rfl).1 N (fun j => .long ((L o) j))) (fun q => by cases q) (by show ¬ (i < 0 ∨ (arrV _ _ _).slots.size ≤ _); rw [arrV_size]; exact hi) rfl rfl hd fun H1 e1 z oq => ?_
  have hv : va_at (pm_D P) vwCl (pm_ad P o, pm_c P (I o) (vp_updL (L o) i.toNatClampNeg x) (.inr (.inl (2, N)))) H1 := by
    show H1[pm_ad P o]? = some (vp_cell _ _)
    rw [e1]
    show some ((vp_cell _ (N, .inr (.inl (L o)))).setSlot _ _) = some (vp_cell _ _)
    rw [vp_cell_l, vp_cell_l, arrV_store]
    congr 2
    funext q
    by_cases hq : q = i.toNatClampNeg
    · subst hq
      simp [updV, vp_updL]
    · simp [updV, vp_updL, hq]
  have h8 := hH.set0 hg (I o) (vp_updL (L o) i.toNatClampNeg x) hv z oq
  rw [pm_uu] at h8
  exact kk p e s m args below meth c H1 _ a C hT hX h8 (pm_S_put hH hg hS z oq) hL
theorem pm_alen {o t N : Nat} {v : Int32} (hg : G[o]? = some (.inr (.inl (t, N)))) (ht : t < 3) (hv : Int32.ofNat N = v) (hd : decode cc pc = .ok (.arraylength, 1)) (kk : PW l P y cc nL ret R Tg k n (pc + 1) ls (.int v :: st) G I L) : PW l P y cc nL ret R Tg k n pc ls (.ref o :: st) G I L := by
  intro p e s m args below meth c H locs a C hT hX hH hS hL
  have h9 := hH.at hg
  rcases (show t = 0 ∨ t = 1 ∨ t = 2 by omega) with rfl | rfl | rfl
  · exact va_alen C.1 C.2.1 hT.1 hH.1 o 0 h9 rfl hv hd (kk p e s m args below meth c H locs a C hT hX hH hS hL)
  · exact va_alen C.1 C.2.1 hT.1 hH.1 o 1 h9 rfl hv hd (kk p e s m args below meth c H locs a C hT hX hH hS hL)
  · exact va_alen C.1 C.2.1 hT.1 hH.1 o 2 h9 rfl hv hd (kk p e s m args below meth c H locs a C hT hX hH hS hL)
theorem pm_alenR {o : Nat} {rs : List (Option Nat)} {v : Int32} (hg : G[o]? = some (.inr (.inr rs))) (hv : Int32.ofNat rs.length = v) (hd : decode cc pc = .ok (.arraylength, 1)) (kk : PW l P y cc nL ret R Tg k n (pc + 1) ls (.int v :: st) G I L) : PW l P y cc nL ret R Tg k n pc ls (.ref o :: st) G I L := by
  intro p e s m args below meth c H locs a C hT hX hH hS hL
  exact va_alen C.1 C.2.1 hT.1 hH.1 o 3 (hH.at hg) rfl hv hd (kk p e s m args below meth c H locs a C hT hX hH hS hL)
theorem pm_aaload {o r : Nat} {rs : List (Option Nat)} {i : Int32} (hg : G[o]? = some (.inr (.inr rs))) (hi : vp_in i rs.length) (hr : rs[i.toNatClampNeg]? = some (some r)) (hd : decode cc pc = .ok (.aaload, 1)) (kk : PW l P y cc nL ret R Tg k n (pc + 1) ls (.ref r :: st) G I L) : PW l P y cc nL ret R Tg k n pc ls (.int i :: .ref o :: st) G I L := by
  intro p e s m args below meth c H locs a C hT hX hH hS hL
  refine va_aldq C.1 C.2.1 hT.1 hH.1 o 3 (hH.at hg) rfl hi hd ?_
  have e1 : (rs.getD i.toNatClampNeg none).map (pm_ad P) = some (pm_ad P r) := by rw [List.getD_eq_getElem?_getD, hr]; rfl
  rw [e1]
  exact kk p e s m args below meth c H locs a C hT hX hH hS hL
/-- the script -/
theorem pm_sld {i : Int32} (hi : vp_in i (pm_n P)) (hd : decode cc pc = .ok (.iaload, 1)) (kk : PW l P y cc nL ret R Tg k n (pc + 1) ls (.int (pm_xs P i.toNatClampNeg) :: st) G I L) : PW l P y cc nL ret R Tg k n pc ls (.int i :: .ref 2000 :: st) G I L := by
  intro p e s m args below meth c H locs a C hT hX hH hS hL
  exact va_sld (b := pm_b P) C.1 C.2.1 hX.2.2.1 (Nat.lt_of_lt_of_le hX.2.2.2.1 hX.2.2.2.2) (fun z => Nat.not_lt.mpr z hX.2.2.2.1) hS hi hd (kk p e s m args below meth c H locs a C hT hX hH hS hL)
theorem pm_slen (hd : decode cc pc = .ok (.arraylength, 1)) (kk : PW l P y cc nL ret R Tg k n (pc + 1) ls (.int (Int32.ofNat (pm_n P)) :: st) G I L) : PW l P y cc nL ret R Tg k n pc ls (.ref 2000 :: st) G I L := by
  intro p e s m args below meth c H locs a C hT hX hH hS hL
  exact va_slen C.1 C.2.1 hX.2.2.1 (Nat.lt_of_lt_of_le hX.2.2.2.1 hX.2.2.2.2) (fun z => Nat.not_lt.mpr z hX.2.2.2.1) hS hd (kk p e s m args below meth c H locs a C hT hX hH hS hL)
theorem pm_iret {Q : Option Value → List pm_S → pm_I → pm_L → Prop} {K N : Nat} {x : Int32} (hr : ret = some .int) (hk : k ≤ K) (hn : n ≤ N) (hd : decode cc pc = .ok (.ireturn, 1)) (hQ : Q (some (.int x)) G I L) : PW l P y cc nL ret R (pm_Tg P Q K N) k n pc ls ([.int x]) G I L := by
  subst hr
  intro p e s m args below meth c H locs a C hT hX hH hS hL
  have hq : ∀ t : State, t.heap = H → s.WarmedH t.vm → pm_Q P Q args s (.returned (some (.int x))) t := fun t ht hW => ⟨⟨some (.int x), G, I, L, rfl, hQ, by rw [ht]; exact hH⟩, hS.F ht⟩
  refine W.widen hk hn ?_
  exact W.iret C.1 C.2.1 C.2.2.2.2.2.1 hq (fun q h => hS.2.2 q h) hd C.2.2.2.2.2.2.1
theorem pm_zret {Q : Option Value → List pm_S → pm_I → pm_L → Prop} {K N : Nat} {x : Int32} (hx : narrow .boolean (.int x) = .int x) (hr : ret = some .boolean) (hk : k ≤ K) (hn : n ≤ N) (hd : decode cc pc = .ok (.ireturn, 1)) (hQ : Q (some (.int x)) G I L) : PW l P y cc nL ret R (pm_Tg P Q K N) k n pc ls ([.int x]) G I L := by
  subst hr
  intro p e s m args below meth c H locs a C hT hX hH hS hL
  have hq : ∀ t : State, t.heap = H → s.WarmedH t.vm → pm_Q P Q args s (.returned (some (.int x))) t := fun t ht hW => ⟨⟨some (.int x), G, I, L, rfl, hQ, by rw [ht]; exact hH⟩, hS.F ht⟩
  refine W.widen hk hn ?_
  exact W.zret C.1 C.2.1 C.2.2.2.2.2.1 hx hq (fun q h => hS.2.2 q h) hd C.2.2.2.2.2.2.1
theorem pm_lret {Q : Option Value → List pm_S → pm_I → pm_L → Prop} {K N : Nat} {x : Int64} (hr : ret = some .long) (hk : k ≤ K) (hn : n ≤ N) (hd : decode cc pc = .ok (.lreturn, 1)) (hQ : Q (some (.long x)) G I L) : PW l P y cc nL ret R (pm_Tg P Q K N) k n pc ls ([.long x]) G I L := by
  subst hr
  intro p e s m args below meth c H locs a C hT hX hH hS hL
  have hq : ∀ t : State, t.heap = H → s.WarmedH t.vm → pm_Q P Q args s (.returned (some (.long x))) t := fun t ht hW => ⟨⟨some (.long x), G, I, L, rfl, hQ, by rw [ht]; exact hH⟩, hS.F ht⟩
  refine W.widen hk hn ?_
  exact W.lret C.1 C.2.1 C.2.2.2.2.2.1 hq (fun q h => hS.2.2 q h) hd C.2.2.2.2.2.2.1
theorem pm_vret {Q : Option Value → List pm_S → pm_I → pm_L → Prop} {K N : Nat} (hr : ret = none) (hk : k ≤ K) (hn : n ≤ N) (hd : decode cc pc = .ok (.return_, 1)) (hQ : Q (none) G I L) : PW l P y cc nL ret R (pm_Tg P Q K N) k n pc ls ([]) G I L := by
  subst hr
  intro p e s m args below meth c H locs a C hT hX hH hS hL
  have hq : ∀ t : State, t.heap = H → s.WarmedH t.vm → pm_Q P Q args s (.returned (none)) t := fun t ht hW => ⟨⟨none, G, I, L, rfl, hQ, by rw [ht]; exact hH⟩, hS.F ht⟩
  refine W.widen hk hn ?_
  exact W.vret C.1 C.2.1 C.2.2.2.2.2.1 hq (fun q h => hS.2.2 q h) hd C.2.2.2.2.2.2.1
theorem pm_aret {Q : Option Value → List pm_S → pm_I → pm_L → Prop} {K N : Nat} {x : Nat} {rt : FieldType} (hrt : (∃ n, rt = .object n) ∨ ∃ t, rt = .array t) (hr : ret = some rt) (hk : k ≤ K) (hn : n ≤ N) (hd : decode cc pc = .ok (.areturn, 1)) (hQ : Q (some (.ref x)) G I L) : PW l P y cc nL ret R (pm_Tg P Q K N) k n pc ls ([.ref x]) G I L := by
  subst hr
  intro p e s m args below meth c H locs a C hT hX hH hS hL
  have hq : ∀ t : State, t.heap = H → s.WarmedH t.vm → pm_Q P Q args s (.returned (some (.ref (pm_ad P x)))) t := fun t ht hW => ⟨⟨some (.ref x), G, I, L, rfl, hQ, by rw [ht]; exact hH⟩, hS.F ht⟩
  refine W.widen hk hn ?_
  exact W.aret C.1 C.2.1 C.2.2.2.2.2.1 hrt (Or.inr ⟨_, rfl⟩) hq (fun q h => hS.2.2 q h) hd C.2.2.2.2.2.2.1
theorem pm_aretN {Q : Option Value → List pm_S → pm_I → pm_L → Prop} {K N : Nat} {rt : FieldType} (hrt : (∃ n, rt = .object n) ∨ ∃ t, rt = .array t) (hr : ret = some rt) (hk : k ≤ K) (hn : n ≤ N) (hd : decode cc pc = .ok (.areturn, 1)) (hQ : Q (some .null) G I L) : PW l P y cc nL ret R (pm_Tg P Q K N) k n pc ls ([.null]) G I L := by
  subst hr
  intro p e s m args below meth c H locs a C hT hX hH hS hL
  have hq : ∀ t : State, t.heap = H → s.WarmedH t.vm → pm_Q P Q args s (.returned (some .null)) t := fun t ht hW => ⟨⟨some .null, G, I, L, rfl, hQ, by rw [ht]; exact hH⟩, hS.F ht⟩
  refine W.widen hk hn ?_
  exact W.aret C.1 C.2.1 C.2.2.2.2.2.1 hrt (Or.inl rfl) hq (fun q h => hS.2.2 q h) hd C.2.2.2.2.2.2.1
end PMR
end
section
/-! calls -/
theorem pm_wG {y : MethodName} {cc : ByteArray} {nL : Nat} {ret : Option FieldType} (h : Cond.code y cc nL ret ∈ TB) : GoodIn TB (pm_w y cc nL ret) := by
  intro w hw
  rcases List.mem_cons.mp hw with rfl | hw
  · exact ⟨h, TB_good _ h⟩
  · exact ⟨hw, TB_good _ hw⟩
/-- what the tables say of a callee: its code, its class, its number of arguments -/
def pm_k (y : MethodName) (cc : ByteArray) (nL : Nat) (ret : Option FieldType) (q : Nat) : Prop := Cond.code y cc nL ret ∈ TB ∧ Cond.initialized y.cls ∈ TB ∧ (y.cls ≠ "java/lang/invoke/MethodHandle" ∧ y.cls ≠ "java/lang/invoke/VarHandle" ∧ (parseMethodDescriptor y.desc).map (fun d => d.parameters.length) = some q)
theorem pm_blind {P : pm_E} {as : List Value} {G : List pm_S} {I : pm_I} {L : pm_L} : FrameBlind (pm_Pre P as G I L) := fun a U g mk q => ⟨q.1, q.2.1, pm_T.same rfl q.2.2.1, pm_X.moved (u := U) (Vm.Alike.refl U.vm) q.2.2.2⟩
theorem pm_X.now {P : pm_E} {s : State} {H : Heap} {locs : List Loc} (h : pm_X P s s.heap) (hS : va_S (pm_A P) s.heap H locs) : pm_X P s H := h.kept hS.1 hS.2.1
section PMC
variable {l : Launch} {P : pm_E} {y : MethodName} {cc : ByteArray} {nL : Nat} {ret : Option FieldType} {R : Room} {Tg : List Frame → Array Value → State → State → Prop} {k n pc : Nat} {ls : List (Option Value)} {st : List Value} {G : List pm_S} {I : pm_I} {L : pm_L}
/-- behind a call -/
theorem pm_back {p : Program} {e : Env} {s : State} {m : MethodId} {args : Array Value} {below : List Frame} {meth : Method} {c : Code} {H : Heap} {locs : List Loc} {a : Array Slot} {K N : Nat} {stk : List Value} {x : Array Value} {Q' : Option Value → List pm_S → pm_I → pm_L → Prop}
    (hr : va_Run p l e R s m args below meth c H locs k n K N (F0 m pc a stk) (st.map (pm_v P)) (pm_Q P Q' x) (pm_A P)) (C : pm_C y cc nL ret p s m args meth c) (hT : pm_T P s) (hX : pm_X P s s.heap) (hS : va_S (pm_A P) s.heap H locs) (hL : pm_LR P nL ls a)
    (kk : ∀ (v : Option Value) (G' : List pm_S) (I' : pm_I) (L' : pm_L), Q' v G' I' L' → PW l P y cc nL ret R Tg (k + K) (n + N) (pc + 3) ls (v.toList ++ st) G' I' L') : W p l e R s m args below meth c H locs k n (Tg below args s) (F0 m pc a stk) := by
  intro T hT' X
  obtain ⟨v, st₀, t, T', L0, h0, X', hL0, e1, e2, ⟨⟨v', G', I', L', hv, hq, hH'⟩, hF⟩, st9⟩ := hr T hT' X
  cases hv
  rw [← h0] at hS
  have hS' : va_S (pm_A P) s.heap t.heap (locs ++ L0) := ⟨Nat.le_trans hS.1 hF.1, fun q h1 h2 => by rw [hF.2 q (Nat.lt_of_lt_of_le h1 hS.1) h2]; exact hS.2.1 q h1 h2, fun q hq => by
    rcases List.mem_append.mp hq with h | h
    · exact hS.2.2 q h
    · exact hL0 q h⟩
  have k1 := kk v' G' I' L' hq p e s m args below meth c t.heap (locs ++ L0) a C hT hX hH' hS' hL T' e1 X'
  obtain ⟨t2, a1, b1⟩ := k1
  refine ⟨t2, st9 t2 ?_, b1⟩
  have e3 : (v'.toList ++ st).map (pm_v P) = (v'.map (pm_v P)).toList ++ st.map (pm_v P) := by cases v' <;> simp
  rw [e3] at a1
  exact a1
theorem pm_sum13 {st : List Value} (P : pm_E) (h : (st.map (·.category)).sum ≤ 8) : ((st.map (pm_v P)).map fun v => v.category).sum ≤ 8 := by
  have e1 : ((st.map (pm_v P)).map fun v => v.category) = st.map (·.category) := by
    rw [List.map_map]; apply List.map_congr_left; intro v _; exact pm_v_cat P v
  rw [e1]; exact h
theorem pm_pre {s : State} {H : Heap} {locs : List Loc} {as : List Value} (hT : pm_T P s) (hX : pm_X P s s.heap) (hH : pm_H P G I L H) (hS : va_S (pm_A P) s.heap H locs) : ∀ U : State, U.heap = H → s.WarmedH U.vm → pm_Pre P as G I L (as.map (pm_v P)).toArray U := fun U hU hW => ⟨rfl, by rw [hU]; exact hH, hT.warm hW, by rw [hU]; exact (hX.now hS).moved hW.alike⟩
variable {d K N ix : Nat} {y' : MethodName} {cc' : ByteArray} {nL' : Nat} {ret' : Option FieldType} {o : Nat} {as stk : List Value} {Q' : Option Value → List pm_S → pm_I → pm_L → Prop}
theorem pm_CB {p : Program} {s : State} {m : MethodId} {args : Array Value} {meth : Method} {c : Code} {q : Nat} (C : pm_C y cc nL ret p s m args meth c) (hw : pm_k y' cc' nL' ret' q) (hl : Cond.methodLink y.cls ix y' ∈ TB) (hR : d + 1 ≤ R.frames ∧ 8 + (nL' + 11) + 64 * d ≤ R.locals) : CallB R s args y.cls ix y' cc' nL' ret' (pm_w y' cc' nL' ret') (pm_rm d K N) K N q :=
  callB_of q C.2.2.2.2.2.2.2 (pm_wG hw.1) rfl rfl rfl (C.2.2.2.2.2.2.2 _ hw.2.1) (C.2.2.2.2.2.2.2 _ hl) hw.2.2 hR
/-- invokevirtual -/
theorem pm_cV (hd : decode cc pc = .ok (.invokevirtual ix, 3)) (hM : PC d K N y' cc' nL' ret' (.ref o :: as) G I L Q') (hw : pm_k y' cc' nL' ret' as.length) (hl : Cond.methodLink y.cls ix y' ∈ TB) (hi : Cond.instanceMethod y' ∈ TB) (hse : Cond.selects y'.cls y' y' ∈ TB)
    {ci N0 : Nat} {T : u_T} {fs : List (Option (Option Nat))} (hg : G[o]? = some (.inl (ci, fs))) (hc : vwCl[ci]? = some (y'.cls, T, N0)) (hR : d + 1 ≤ R.frames ∧ 8 + (nL' + 11) + 64 * d ≤ R.locals) (hk : k + K ≤ R.cells ∧ n + N ≤ R.slots) (hs : stk = as.reverse ++ .ref o :: st) (hcat : (st.map (·.category)).sum ≤ 8)
    (kk : ∀ (v : Option Value) (G' : List pm_S) (I' : pm_I) (L' : pm_L), Q' v G' I' L' → PW l P y cc nL ret R Tg (k + K) (n + N) (pc + 3) ls (v.toList ++ st) G' I' L') : PW l P y cc nL ret R Tg k n pc ls stk G I L := by
  intro p e s m args below meth c H locs a C hT hX hH hS hL
  have cb : CallB R s args y.cls ix y' cc' nL' ret' (pm_w y' cc' nL' ret') (pm_rm d K N) K N as.length := pm_CB C hw hl hR
  refine pm_back (va_runV (C := y'.cls) (As := as.map (pm_v P)) ⟨C.1, C.2.1, C.2.2.1, C.2.2.2.1, C.2.2.2.2.2.2.2⟩ (hM l P) ⟨cb, C.2.2.2.2.2.2.2 _ hi, C.2.2.2.2.2.2.2 _ hse⟩ ⟨pm_blind, va_recv hT.1 hH.1 hc (hH.at hg), pm_pre hT hX hH hS⟩ rfl (by simp) hL.1 ?_ (lv_room (pm_sum13 P hcat)) hd hk) C hT hX hS hL kk
  rw [hs]; simp; rfl
/-- invokestatic -/
theorem pm_cS (hd : decode cc pc = .ok (.invokestatic ix, 3)) (hM : PC d K N y' cc' nL' ret' as G I L Q') (hw : pm_k y' cc' nL' ret' as.length) (hl : Cond.methodLink y.cls ix y' ∈ TB) (hi : Cond.static y' ∈ TB)
    (hR : d + 1 ≤ R.frames ∧ 8 + (nL' + 11) + 64 * d ≤ R.locals) (hk : k + K ≤ R.cells ∧ n + N ≤ R.slots) (hs : stk = as.reverse ++ st) (hcat : (st.map (·.category)).sum ≤ 8)
    (kk : ∀ (v : Option Value) (G' : List pm_S) (I' : pm_I) (L' : pm_L), Q' v G' I' L' → PW l P y cc nL ret R Tg (k + K) (n + N) (pc + 3) ls (v.toList ++ st) G' I' L') : PW l P y cc nL ret R Tg k n pc ls stk G I L := by
  intro p e s m args below meth c H locs a C hT hX hH hS hL
  have cb : CallB R s args y.cls ix y' cc' nL' ret' (pm_w y' cc' nL' ret') (pm_rm d K N) K N as.length := pm_CB C hw hl hR
  refine pm_back (va_runS (As := as.map (pm_v P)) ⟨C.1, C.2.1, C.2.2.1, C.2.2.2.1, C.2.2.2.2.2.2.2⟩ (hM l P) ⟨cb, C.2.2.2.2.2.2.2 _ hi⟩ ⟨pm_blind, pm_pre hT hX hH hS⟩ rfl (by simp) hL.1 ?_ (lv_room (pm_sum13 P hcat)) hd hk) C hT hX hS hL kk
  rw [hs]; simp
/-- invokestatic of a nest mate's private method -/
theorem pm_cSN {hst : String} (hd : decode cc pc = .ok (.invokestatic ix, 3)) (hM : PC d K N y' cc' nL' ret' as G I L Q') (hw : pm_k y' cc' nL' ret' as.length) (hl : (y.cls, ix, y', hst) ∈ NW) (hi : Cond.static y' ∈ TB)
    (hR : d + 1 ≤ R.frames ∧ 8 + (nL' + 11) + 64 * d ≤ R.locals) (hk : k + K ≤ R.cells ∧ n + N ≤ R.slots) (hs : stk = as.reverse ++ st) (hcat : (st.map (·.category)).sum ≤ 8)
    (kk : ∀ (v : Option Value) (G' : List pm_S) (I' : pm_I) (L' : pm_L), Q' v G' I' L' → PW l P y cc nL ret R Tg (k + K) (n + N) (pc + 3) ls (v.toList ++ st) G' I' L') : PW l P y cc nL ret R Tg k n pc ls stk G I L := by
  intro p e s m args below meth c H locs a C hT hX hH hS hL
  have cb : va_CN R s args y.cls ix y' hst cc' nL' ret' (pm_w y' cc' nL' ret') (pm_rm d K N) K N as.length := va_cnB as.length C.2.2.2.2.2.2.2 (pm_wG hw.1) rfl rfl rfl (hT.2.1 _ hl) (C.2.2.2.2.2.2.2 _ hw.2.1) hw.2.2 hR
  refine pm_back (va_runSN (As := as.map (pm_v P)) ⟨C.1, C.2.1, C.2.2.1, C.2.2.2.1, C.2.2.2.2.2.2.2⟩ (hM l P) ⟨cb, C.2.2.2.2.2.2.2 _ hi, trivial⟩ ⟨pm_blind, pm_pre hT hX hH hS⟩ rfl (by simp) hL.1 ?_ (lv_room (pm_sum13 P hcat)) hd hk) C hT hX hS hL kk
  rw [hs]; simp
/-- invokespecial of a constructor -/
theorem pm_cI (hd : decode cc pc = .ok (.invokespecial ix, 3)) (hM : PC d K N y' cc' nL' none (.ref o :: as) G I L Q') (hw : pm_k y' cc' nL' none as.length) (hl : Cond.methodLink y.cls ix y' ∈ TB) (hi : Cond.instanceMethod y' ∈ TB) (hy : y'.name = "<init>")
    (hR : d + 1 ≤ R.frames ∧ 8 + (nL' + 11) + 64 * d ≤ R.locals) (hk : k + K ≤ R.cells ∧ n + N ≤ R.slots) (hs : stk = as.reverse ++ .ref o :: st) (hcat : (st.map (·.category)).sum ≤ 8)
    (kk : ∀ (v : Option Value) (G' : List pm_S) (I' : pm_I) (L' : pm_L), Q' v G' I' L' → PW l P y cc nL ret R Tg (k + K) (n + N) (pc + 3) ls (v.toList ++ st) G' I' L') : PW l P y cc nL ret R Tg k n pc ls stk G I L := by
  intro p e s m args below meth c H locs a C hT hX hH hS hL
  have cb : CallB R s args y.cls ix y' cc' nL' none (pm_w y' cc' nL' none) (pm_rm d K N) K N as.length := pm_CB C hw hl hR
  refine pm_back (va_runI (b := pm_ad P o) (As := as.map (pm_v P)) ⟨C.1, C.2.1, C.2.2.1, C.2.2.2.1, C.2.2.2.2.2.2.2⟩ (hM l P) ⟨cb, hy, C.2.2.2.2.2.2.2 _ hi⟩ ⟨pm_blind, pm_pre (as := .ref o :: as) hT hX hH hS⟩ rfl (by simp) hL.1 ?_ (lv_room (pm_sum13 P hcat)) hd hk) C hT hX hS hL kk
  rw [hs]; simp; rfl
/-- invokespecial of a nest mate's private constructor -/
theorem pm_cIN {hst : String} (hd : decode cc pc = .ok (.invokespecial ix, 3)) (hM : PC d K N y' cc' nL' none (.ref o :: as) G I L Q') (hw : pm_k y' cc' nL' none as.length) (hl : (y.cls, ix, y', hst) ∈ NW) (hi : Cond.instanceMethod y' ∈ TB) (hy : y'.name = "<init>")
    (hR : d + 1 ≤ R.frames ∧ 8 + (nL' + 11) + 64 * d ≤ R.locals) (hk : k + K ≤ R.cells ∧ n + N ≤ R.slots) (hs : stk = as.reverse ++ .ref o :: st) (hcat : (st.map (·.category)).sum ≤ 8)
    (kk : ∀ (v : Option Value) (G' : List pm_S) (I' : pm_I) (L' : pm_L), Q' v G' I' L' → PW l P y cc nL ret R Tg (k + K) (n + N) (pc + 3) ls (v.toList ++ st) G' I' L') : PW l P y cc nL ret R Tg k n pc ls stk G I L := by
  intro p e s m args below meth c H locs a C hT hX hH hS hL
  have cb : va_CN R s args y.cls ix y' hst cc' nL' none (pm_w y' cc' nL' none) (pm_rm d K N) K N as.length := va_cnB as.length C.2.2.2.2.2.2.2 (pm_wG hw.1) rfl rfl rfl (hT.2.1 _ hl) (C.2.2.2.2.2.2.2 _ hw.2.1) hw.2.2 hR
  refine pm_back (va_runIN (b := pm_ad P o) (As := as.map (pm_v P)) ⟨C.1, C.2.1, C.2.2.1, C.2.2.2.1, C.2.2.2.2.2.2.2⟩ (hM l P) ⟨cb, hy, C.2.2.2.2.2.2.2 _ hi⟩ ⟨pm_blind, pm_pre (as := .ref o :: as) hT hX hH hS⟩ rfl (by simp) hL.1 ?_ (lv_room (pm_sum13 P hcat)) hd hk) C hT hX hS hL kk
  rw [hs]; simp; rfl
/-- Object.<init> -/
theorem pm_obj (hd : decode cc pc = .ok (.invokespecial ix, 3)) (hl : Cond.methodLink y.cls ix objectInit ∈ TB) (hi : Cond.instanceMethod objectInit ∈ TB) (hc : Cond.code objectInit ⟨#[0xb1]⟩ 1 none ∈ TB) (hR : 1 ≤ R.frames ∧ 20 ≤ R.locals) (hcat : (st.map (·.category)).sum ≤ 8)
    (kk : PW l P y cc nL ret R Tg k n (pc + 3) ls st G I L) : PW l P y cc nL ret R Tg k n pc ls (.ref o :: st) G I L := by
  intro p e s m args below meth c H locs a C hT hX hH hS hL
  have hts := C.2.2.2.2.2.2.2
  have h2 := pm_sum13 P hcat
  refine W.objInit C.1 C.2.1 C.2.2.2.1 (hts _ hl) (hts _ hi) (hts _ hc) (a := pm_ad P o) (rest := st.map (pm_v P)) rfl (by rw [C.2.2.1]; exact hL.1) rfl hd hR.1 (by show 2 * 0 + _ + 12 ≤ _; omega) (kk p e s m args below meth c H locs a C hT hX hH hS hL)
/-! what is made -/
def pm_df (fs : List (Option (Option Nat))) (j : Nat) : Value := match fs.getD j (some none) with
  | none => .int 0
  | some _ => .null
theorem pm_new {ci M : Nat} {C0 : String} {T : u_T} {fs : List (Option (Option Nat))} (hc : vwCl[ci]? = some (C0, T, M)) (hin : ∀ w ∈ u_ws C0 T M, w ∈ TB) (ty0 : Nat → FieldType) (hty : ∀ k, k < M → parseFieldDescriptor (T k).2.2.1 = some (ty0 k)) (hcl : Cond.classLink y.cls ix C0 ∈ TB) (hins : Cond.instantiable C0 M ∈ TB) (hini : Cond.initialized C0 ∈ TB)
    (hfs : ∀ j, j < M → defaultValue (ty0 j) = pm_df fs j) (hfn : fs.all (fun q => decide (q = none ∨ q = some none)) = true) (hG : G.length < 1000) (hk : k + 1 ≤ R.cells ∧ n + M ≤ R.slots) (hd : decode cc pc = .ok (.new ix, 3))
    (kk : PW l P y cc nL ret R Tg (k + 1) (n + M) (pc + 3) ls (.ref G.length :: st) (G ++ [.inl (ci, fs)]) (pm_u I G.length (fun _ => 0)) (pm_u L G.length (fun _ => 0))) : PW l P y cc nL ret R Tg k n pc ls st G I L := by
  intro p e s m args below meth c H locs a C hT hX hH hS hL
  have hts := C.2.2.2.2.2.2.2
  have hKn := hT.1.1 ci _ hc
  refine W.newcK C.1 C.2.1 C.2.2.2.1 (hts _ hcl) (hts _ hins) (hts _ hini) rfl hd hk.1 hk.2 hKn.2.1 rfl fun H1 kC hkC e1 z1 o1 => ?_
  have he : va_at (pm_D P) vwCl (H.size, pm_c P (fun _ => 0) (fun _ => 0) (.inl (ci, fs))) H1 := by
    refine ⟨_, hc, (u_born ty0 hts hin hKn hkC e1 hty).to fun j hj => ?_⟩
    rw [hfs j hj, pm_df, vp_V, List.getD_eq_getElem?_getD, List.getD_eq_getElem?_getD, List.getElem?_map, List.getElem?_zipIdx]
    cases hj2 : fs[j]? with
    | none => rfl
    | some q =>
      have h1 := List.all_eq_true.mp hfn q (List.mem_of_getElem? hj2)
      rcases of_decide_eq_true h1 with rfl | rfl <;> rfl
  have h8 := hH.push hG _ _ _ he z1 o1
  have k1 := kk p e s m args below meth c H1 locs a C hT hX h8 ⟨Nat.le_trans hS.1 (by omega), fun x h1 h2 => (o1 x (Nat.lt_of_lt_of_le h1 hS.1)).trans (hS.2.1 x h1 h2), hS.2.2⟩ hL
  have e2 : pm_v P (.ref G.length) = .ref H.size := by
    show Value.ref (pm_ad P G.length) = _
    rw [pm_ad_lt hG, hH.2.1]
  rw [List.map_cons, e2] at k1
  exact k1
theorem pm_newa {at_ : ArrayType} {t M : Nat} {v : Int32} {ty : FieldType} (hty : newarray.typeOf at_ = ty) (ht : t = 0 ∧ ty = .int ∨ t = 1 ∧ ty = .char ∨ t = 2 ∧ ty = .long) (har : Cond.arrayClass ty ∈ TB) (hv : ¬ v < 0) (hM : v.toNatClampNeg = M) (hb : M * componentBytes ty ≤ 536870912) (hG : G.length < 1000) (hk : k + 1 ≤ R.cells ∧ n + M ≤ R.slots) (hd : decode cc pc = .ok (.newarray at_, 2))
    (kk : PW l P y cc nL ret R Tg (k + 1) (n + M) (pc + 2) ls (.ref G.length :: st) (G ++ [.inr (.inl (t, M))]) (pm_u I G.length (fun _ => 0)) (pm_u L G.length (fun _ => 0))) : PW l P y cc nL ret R Tg k n pc ls (.int v :: st) G I L := by
  subst hty
  intro p e s m args below meth c H locs a C hT hX hH hS hL
  have hts := C.2.2.2.2.2.2.2
  refine va_newaK C.1 C.2.1 (hts _ har) rfl hd rfl hv hM hb hk.1 hk.2 rfl fun H1 cA e1 z1 o1 hAr hNm => ?_
  have he : va_at (pm_D P) vwCl (H.size, pm_c P (fun _ => 0) (fun _ => 0) (.inr (.inl (t, M)))) H1 := by
    rcases ht with ⟨rfl, h2⟩ | ⟨rfl, h2⟩ | ⟨rfl, h2⟩
    · have h3 : s.vm.findClass _ = some (pm_cs P 0) := (hT.1.2 0 _ rfl).2
      rw [h2] at hNm e1
      have : cA = pm_cs P 0 := Option.some.inj (hNm.symm.trans h3)
      subst this
      exact e1
    · have h3 : s.vm.findClass _ = some (pm_cs P 1) := (hT.1.2 1 _ rfl).2
      rw [h2] at hNm e1
      have : cA = pm_cs P 1 := Option.some.inj (hNm.symm.trans h3)
      subst this
      exact e1
    · have h3 : s.vm.findClass _ = some (pm_cs P 2) := (hT.1.2 2 _ rfl).2
      rw [h2] at hNm e1
      have : cA = pm_cs P 2 := Option.some.inj (hNm.symm.trans h3)
      subst this
      exact e1
  have h8 := hH.push hG _ _ _ he z1 o1
  have k1 := kk p e s m args below meth c H1 locs a C hT hX h8 ⟨Nat.le_trans hS.1 (by omega), fun x h1 h2 => (o1 x (Nat.lt_of_lt_of_le h1 hS.1)).trans (hS.2.1 x h1 h2), hS.2.2⟩ hL
  have e2 : pm_v P (.ref G.length) = .ref H.size := by
    show Value.ref (pm_ad P G.length) = _
    rw [pm_ad_lt hG, hH.2.1]
  rw [List.map_cons, e2] at k1
  exact k1
theorem pm_anew {M : Nat} {v : Int32} (hcl : Cond.classLink y.cls ix RX5 ∈ TB) (hv : ¬ v < 0) (hM : v.toNatClampNeg = M) (hb : M * 4 ≤ 536870912) (hG : G.length < 1000) (hk : k + 1 ≤ R.cells ∧ n + M ≤ R.slots) (hd : decode cc pc = .ok (.anewarray ix, 3))
    (kk : PW l P y cc nL ret R Tg (k + 1) (n + M) (pc + 3) ls (.ref G.length :: st) (G ++ [.inr (.inr (List.replicate M none))]) (pm_u I G.length (fun _ => 0)) (pm_u L G.length (fun _ => 0))) : PW l P y cc nL ret R Tg k n pc ls (.int v :: st) G I L := by
  subst hM
  intro p e s m args below meth c H locs a C hT hX hH hS hL
  have hts := C.2.2.2.2.2.2.2
  refine W.anew C.1 C.2.1 C.2.2.2.1 (hts _ hcl) (va_AO.use hT.2.2.2) rfl hd rfl hv hb hk.1 hk.2 fun cA kA comp f1 f2 f3 f4 => ?_
  generalize hH1 : H.push ({ cls := cA, slots := Array.replicate v.toNatClampNeg .null, vm := .none } : Cell) = H1
  have z1 : H1.size = H.size + 1 := by rw [← hH1, Array.size_push]
  have e1 : H1[H.size]? = some (arrV cA v.toNatClampNeg (fun _ => .null)) := by rw [← hH1, Array.getElem?_push_size, ← arrV_new]
  have o1 : ∀ q : Nat, q < H.size → H1[q]? = H[q]? := fun q hq => by rw [← hH1, Array.getElem?_push, if_neg (Nat.ne_of_lt hq)]
  have he : va_at (pm_D P) vwCl (H.size, pm_c P (fun _ => 0) (fun _ => 0) (.inr (.inr (List.replicate v.toNatClampNeg none)))) H1 := by
    obtain ⟨_, _, -, -, -, h3⟩ := (hT.1.2 3 _ rfl).2
    have h4 : cA = pm_cs P 3 := Option.some.inj (f1.symm.trans h3)
    subst h4
    show H1[H.size]? = some (vp_cell _ _)
    rw [vp_cell_q, e1, List.length_replicate]
    congr 2
    funext j
    rw [List.getD_eq_getElem?_getD, List.getElem?_replicate]
    split <;> rfl
  have h8 := hH.push hG _ _ _ he z1 o1
  have k1 := kk p e s m args below meth c H1 locs a C hT hX h8 ⟨Nat.le_trans hS.1 (by omega), fun x h1 h2 => (o1 x (Nat.lt_of_lt_of_le h1 hS.1)).trans (hS.2.1 x h1 h2), hS.2.2⟩ hL
  have e2 : pm_v P (.ref G.length) = .ref H.size := by
    show Value.ref (pm_ad P G.length) = _
    rw [pm_ad_lt hG, hH.2.1]
  rw [List.map_cons, e2] at k1
  exact k1
theorem pm_aastore {r ci : Nat} {rs : List (Option Nat)} {fs : List (Option (Option Nat))} {i : Int32} {T : u_T} {M : Nat} (hg : G[o]? = some (.inr (.inr rs))) (hr : G[r]? = some (.inl (ci, fs))) (hc : vwCl[ci]? = some (RX5, T, M)) (hi : vp_in i rs.length) (hd : decode cc pc = .ok (.aastore, 1))
    (kk : PW l P y cc nL ret R Tg k n (pc + 1) ls st (G.set o (.inr (.inr (rs.set i.toNatClampNeg (some r))))) I L) : PW l P y cc nL ret R Tg k n pc ls (.ref r :: .int i :: .ref o :: st) G I L := by
  intro p e s m args below meth c H locs a C hT hX hH hS hL
  have hlt : i.toNatClampNeg < rs.length := Nat.not_le.mp fun q => hi (Or.inr q)
  have h0 : ¬ i < 0 := fun q => hi (Or.inl q)
  obtain ⟨r', hr', cellV, g1, g2, g3, -⟩ := hH.1 r _ (hH.at hr)
  have hcls := (hT.1.1 ci _ hc).2
  obtain ⟨kA, comp, k1, k2, k3, -⟩ := (hT.1.2 3 _ rfl).2
  have hcomp : comp = (pm_D P).1 ci := Option.some.inj (k3.symm.trans hcls.1)
  subst hcomp
  obtain ⟨kC, hkC, -⟩ := hcls.2
  refine W.aast C.1 C.2.1 (a := pm_ad P o) (v := pm_ad P r) (hH.1 o _ (hH.at hg)) (fun q h => by cases h) (fun h => by cases h) k1 k2 rfl hkC ⟨h0, by show _ < (arrV _ _ _).slots.size; rw [arrV_size]; exact hlt⟩ g1 (fun q h => by rw [g3] at h; cases h) (by rw [g2]; exact hkC) (by rw [g2]; exact va_assign hcls) rfl rfl hd fun H1 e1 z oq => ?_
  have hv : va_at (pm_D P) vwCl (pm_ad P o, pm_c P (I o) (L o) (.inr (.inr (rs.set i.toNatClampNeg (some r))))) H1 := by
    show H1[pm_ad P o]? = some (vp_cell _ _)
    rw [e1]
    show some ((vp_cell _ (rs.length, .inr (.inr (.inr (.inr (fun k => (rs.getD k none).map (pm_ad P))))))).setSlot _ _) = some (vp_cell _ _)
    rw [vp_cell_q, vp_cell_q, arrV_store, List.length_set]
    congr 2
    funext q
    by_cases hq : q = i.toNatClampNeg
    · subst hq
      simp [updV, va_rf, hlt, List.getD_eq_getElem?_getD, List.getElem?_set]
    · simp [updV, hq, Ne.symm hq, List.getD_eq_getElem?_getD, List.getElem?_set]
  have h8 := hH.set hg _ (I o) (L o) hv z oq
  rw [pm_uu, pm_uu] at h8
  exact kk p e s m args below meth c H1 _ a C hT hX h8 (pm_S_put hH hg hS z oq) hL
/-- a final field of the class itself, in its constructor: a reference -/
theorem pm_putr {ci j M r : Nat} {T : u_T} {fs : List (Option (Option Nat))} {ty : FieldType} (hg : G[o]? = some (.inl (ci, fs))) (hc : vwCl[ci]? = some (y.cls, T, M)) (hin : ∀ w ∈ u_ws y.cls T M, w ∈ TB) (ty0 : Nat → FieldType) (hty : ∀ k, k < M → parseFieldDescriptor (T k).2.2.1 = some (ty0 k)) (hnm : ∀ a, a < M → ∀ b, b < M → a ≠ b → (T a).2.1 ≠ (T b).2.1) (hj : j < M) (hl : Cond.fieldLink y.cls ix (T j).1 (T j).2.1 (T j).2.2.1 ∈ TB) (hjl : j < fs.length) (hfin : (T j).2.2.2 = true) (hy : y.name = "<init>") (hdecl : (T j).1 = y.cls) (hdt : parseFieldDescriptor (T j).2.2.1 = some ty) (hn : ∀ q : Nat, narrow ty (.ref q) = .ref q ∧ fits ty (.ref q) = true) (hd : decode cc pc = .ok (.putfield ix, 3))
    (kk : PW l P y cc nL ret R Tg k n (pc + 3) ls st (G.set o (.inl (ci, fs.set j (some (some r))))) I L) : PW l P y cc nL ret R Tg k n pc ls (.ref r :: .ref o :: st) G I L := by
  intro p e s m args below meth c H locs a C hT hX hH hS hL
  have hts := C.2.2.2.2.2.2.2
  have hK := hT.1
  have hown := C.2.2.2.1
  have hap := va_apart (own := y.cls) hts hin ty0 hty hnm hK hc
  have he := hH.at hg
  obtain ⟨r1, h1, cell, q1, q2, q3, q4⟩ := hH.1 o _ he
  have hr : r1 = (y.cls, T, M) := Option.some.inj (h1.symm.trans hc)
  subst hr
  obtain ⟨hS1, hfc, kC, hkC, hkind⟩ := hK.1 ci _ hc
  obtain ⟨cf, kf, fi, f, hi, hsl⟩ := hS1 j hj
  have hlay := hts _ (hin _ (u_in_lay hj))
  unfold u_lay at hlay
  rw [if_pos hfin] at hlay
  have hst := (u_facts hfc hkC (u_lays hts hin hj) hi).1
  have hcf : m.cls = cf := by
    obtain ⟨_, _, c', _, _, _, -, -, hf', -, -, -, hown2, -⟩ := Cond.laysFinal_spec hlay
    have e1 : c' = cf := by have := hi.symm.trans hf'; simp at this; exact this.1.symm
    rw [hdecl] at hown2
    rw [← e1]; exact Option.some.inj (hown.symm.trans hown2)
  have h6 := u_fits hfc hkC hkind (Or.inr hlay) hi hdt (hn (pm_ad P r)).1 (hn (pm_ad P r)).2
  refine W.putFinK C.1 C.2.1 (a := pm_ad P o) (v := .ref (pm_ad P r)) hown (hts _ hl) hi hst hcf (C.2.2.2.2.1.trans hy) (by rw [q2]; exact h6) q1 q3 (by rw [hsl]; exact k2_hasslot (q4 j hj)) rfl rfl hd fun H' e1 e2 e3 => ?_
  rw [hsl] at e1
  have hl9 : j < (fs.zipIdx.map (pm_f P (I o))).length := by simp; exact hjl
  have hv : va_at (pm_D P) vwCl (pm_ad P o, pm_c P (I o) (L o) (.inl (ci, fs.set j (some (some r))))) H' := by
    refine ⟨_, hc, ?_⟩
    have h7 := t_OB.to (V := updV (vp_V (fs.zipIdx.map (pm_f P (I o)))) j (.ref (pm_ad P r))) ⟨_, e1, q2, q3, t_set q4 hap hj (.ref (pm_ad P r))⟩ (fun i _ => vp_updV_set hl9 (.ref (pm_ad P r)) i)
    rw [pm_fsetr hjl] at h7
    exact h7
  have h8 := hH.set hg _ (I o) (L o) hv e2 e3
  rw [pm_uu, pm_uu] at h8
  exact kk p e s m args below meth c H' _ a C hT hX h8 (pm_S_put hH hg hS e2 e3) hL
/-! Math -/
def pm_RM (R : Room) (k n : Nat) : Prop := 1 ≤ R.frames ∧ 40 ≤ R.locals ∧ k ≤ R.cells ∧ n ≤ R.slots
theorem pm_mmax {x w : Int32} (hl : Cond.methodLink y.cls ix Lib.Math.max.name ∈ TB) (hs : Cond.static Lib.Math.max.name ∈ TB) (hi : Cond.initialized "java/lang/Math" ∈ TB) (hc : Cond.code Lib.Math.max.name Lib.Math.max.code 2 (some .int) ∈ TB) (hR : pm_RM R k n) (hcat : (st.map (·.category)).sum ≤ 8) (hd : decode cc pc = .ok (.invokestatic ix, 3))
    (kk : PW l P y cc nL ret R Tg k n (pc + 3) ls (.int (if x < w then w else x) :: st) G I L) : PW l P y cc nL ret R Tg k n pc ls (.int w :: .int x :: st) G I L := by
  intro p e s m args below meth c H locs a C hT hX hH hS hL
  have hts := C.2.2.2.2.2.2.2
  have h2 := pm_sum13 P hcat
  obtain ⟨r1, r2, r3, r4⟩ := hR
  exact va_mmax C.1 C.2.1 (C.2.2.1.trans hL.1.symm) C.2.2.2.1 (hts _ hl) (hts _ hs) (hts _ hi) (hts _ hc) r1 (by omega) r3 r4 hd (kk p e s m args below meth c H locs a C hT hX hH hS hL)
theorem pm_mmin {x w : Int32} (hl : Cond.methodLink y.cls ix Lib.Math.min.name ∈ TB) (hs : Cond.static Lib.Math.min.name ∈ TB) (hi : Cond.initialized "java/lang/Math" ∈ TB) (hc : Cond.code Lib.Math.min.name Lib.Math.min.code 2 (some .int) ∈ TB) (hR : pm_RM R k n) (hcat : (st.map (·.category)).sum ≤ 8) (hd : decode cc pc = .ok (.invokestatic ix, 3))
    (kk : PW l P y cc nL ret R Tg k n (pc + 3) ls (.int (if w < x then w else x) :: st) G I L) : PW l P y cc nL ret R Tg k n pc ls (.int w :: .int x :: st) G I L := by
  intro p e s m args below meth c H locs a C hT hX hH hS hL
  have hts := C.2.2.2.2.2.2.2
  have h2 := pm_sum13 P hcat
  obtain ⟨r1, r2, r3, r4⟩ := hR
  exact va_mmin C.1 C.2.1 (C.2.2.1.trans hL.1.symm) C.2.2.2.1 (hts _ hl) (hts _ hs) (hts _ hi) (hts _ hc) r1 (by omega) r3 r4 hd (kk p e s m args below meth c H locs a C hT hX hH hS hL)
theorem pm_mabs {x : Int32} (hl : Cond.methodLink y.cls ix Lib.Math.abs.name ∈ TB) (hs : Cond.static Lib.Math.abs.name ∈ TB) (hi : Cond.initialized "java/lang/Math" ∈ TB) (hc : Cond.code Lib.Math.abs.name Lib.Math.abs.code 1 (some .int) ∈ TB) (hR : pm_RM R k n) (hcat : (st.map (·.category)).sum ≤ 8) (hd : decode cc pc = .ok (.invokestatic ix, 3))
    (kk : PW l P y cc nL ret R Tg k n (pc + 3) ls (.int (if 0 ≤ x then x else 0 - x) :: st) G I L) : PW l P y cc nL ret R Tg k n pc ls (.int x :: st) G I L := by
  intro p e s m args below meth c H locs a C hT hX hH hS hL
  have hts := C.2.2.2.2.2.2.2
  have h2 := pm_sum13 P hcat
  obtain ⟨r1, r2, r3, r4⟩ := hR
  exact va_mabs C.1 C.2.1 (C.2.2.1.trans hL.1.symm) C.2.2.2.1 (hts _ hl) (hts _ hs) (hts _ hi) (hts _ hc) r1 (by omega) r3 r4 hd (kk p e s m args below meth c H locs a C hT hX hH hS hL)
theorem pm_copyi {o0 n0 n1 : Nat} {sp dp v : Int32} (hl : Cond.methodLink y.cls ix arraycopyName ∈ TB) (hnat : Cond.native arraycopyName ∈ TB) (hstat : Cond.static arraycopyName ∈ TB) (hini : Cond.initialized "java/lang/System" ∈ TB) (hg0 : G[o0]? = some (.inr (.inl (0, n0)))) (hg : G[o]? = some (.inr (.inl (0, n1)))) (h1 : ¬ sp < 0) (h2 : ¬ dp < 0) (h3 : ¬ v < 0) (h4 : sp.toNatClampNeg + v.toNatClampNeg ≤ n0) (h5 : dp.toNatClampNeg + v.toNatClampNeg ≤ n1) (hR : 1 ≤ R.frames ∧ 8 + (nativeFrameWords "java/lang/System" "arraycopy" 5 + 11) ≤ R.locals) (hcat : (st.map (·.category)).sum ≤ 8) (hd : decode cc pc = .ok (.invokestatic ix, 3))
    (kk : PW l P y cc nL ret R Tg k n (pc + 3) ls st G (pm_u I o (va_cpy (I o0) (I o) sp.toNatClampNeg dp.toNatClampNeg v.toNatClampNeg)) L) : PW l P y cc nL ret R Tg k n pc ls (.int v :: .int dp :: .ref o :: .int sp :: .ref o0 :: st) G I L := by
  intro p e s m args below meth c H locs a C hT hX hH hS hL
  have hts := C.2.2.2.2.2.2.2
  have hcat2 := pm_sum13 P hcat
  have nn : ∀ z : Int32, ¬ z < 0 → z.toInt = (z.toNatClampNeg : Int) := by
    intro z hz
    have hz0 : (0 : Int) ≤ z.toInt := by
      have := Int32.not_lt.mp hz
      simpa using Int32.le_iff_toInt_le.mp this
    show z.toInt = ((z.toInt.toNat : Nat) : Int)
    omega
  intro T hT' X
  have hc0 : H[pm_ad P o0]? = some (vp_cell (pm_cs P 0) (n0, .inl (I o0))) := hH.1 o0 _ (hH.at hg0)
  have hc1 : H[pm_ad P o]? = some (vp_cell (pm_cs P 0) (n1, .inl (I o))) := hH.1 o _ (hH.at hg)
  obtain ⟨-, k0, hk0, cm0, hkk0⟩ := (hT.1.2 0 _ rfl).1 n0 (fun j => .int ((I o0) j))
  obtain ⟨-, k1, hk1, cm1, hkk1⟩ := (hT.1.2 0 _ rfl).1 n1 (fun j => .int ((I o) j))
  obtain ⟨vm', X', step⟩ := X.arraycopy C.1 C.2.2.2.1 (hts _ hl) (hts _ hnat) (hts _ hstat) (hts _ hini) (src := pm_ad P o0) (dst := pm_ad P o) (cs := vp_cell (pm_cs P 0) (n0, .inl (I o0))) (cd := vp_cell (pm_cs P 0) (n1, .inl (I o))) (srcPos := sp) (destPos := dp) (n := v) (by rw [hT']; exact hc0) (by rw [hT']; exact hc1)
    (fun _ h => by cases h) (fun _ h => by cases h) (fun h => by cases h) (fun h => by cases h) hk0 hk1 hkk0 hkk1 (by simp [refKind]) h1 h2 h3
    (by rw [nn sp h1, nn v h3]; show ¬ _ > ((arrV (pm_cs P 0) n0 (fun j => .int ((I o0) j))).slots.size : Int); rw [arrV_size]; omega)
    (by rw [nn dp h2, nn v h3]; show ¬ _ > ((arrV (pm_cs P 0) n1 (fun j => .int ((I o) j))).slots.size : Int); rw [arrV_size]; omega)
    (fun vm₁ _ i hi => by
      have e : (vp_cell (pm_cs P 0) (n0, .inl (I o0))).slots.getD (sp.toNatClampNeg + i) .null = .int ((I o0) (sp.toNatClampNeg + i)) := by
        show (arrV (pm_cs P 0) n0 (fun j => .int ((I o0) j))).slots.getD _ _ = _
        rw [Array.getD_eq_getD_getElem?, arrV_read _ _ (by omega)]
        rfl
      refine ⟨?_, ?_⟩
      · rw [e]; rfl
      · rw [e]; exact trivial)
    (g := F0 m pc a (.int v :: .int dp :: .ref (pm_ad P o) :: .int sp :: .ref (pm_ad P o0) :: st.map (pm_v P))) rfl (by rw [C.2.2.1]; exact hL.1) (rest := st.map (pm_v P)) rfl (by rw [C.2.1]; exact hd) hR.1 (by have := hR.2; show 2 * 0 + _ + _ ≤ _; omega)
  have e1 : copied (vp_cell (pm_cs P 0) (n0, .inl (I o0))) (vp_cell (pm_cs P 0) (n1, .inl (I o))) sp dp v = vp_cell (pm_cs P 0) (n1, .inl (va_cpy (I o0) (I o) sp.toNatClampNeg dp.toNatClampNeg v.toNatClampNeg)) := va_copied (fun z => .int z) (pm_cs P 0) (pm_cs P 0) (I o0) (I o) h4
  rw [e1] at X' step
  have hlt : pm_ad P o < H.size := (Array.getElem?_eq_some_iff.mp hc1).1
  have hheap : ((T.setVm vm').setCell (pm_ad P o) (vp_cell (pm_cs P 0) (n1, .inl (va_cpy (I o0) (I o) sp.toNatClampNeg dp.toNatClampNeg v.toNatClampNeg)))).heap = H.setIfInBounds (pm_ad P o) (vp_cell (pm_cs P 0) (n1, .inl (va_cpy (I o0) (I o) sp.toNatClampNeg dp.toNatClampNeg v.toNatClampNeg))) := by rw [← hT']; rfl
  have oq : ∀ q : Nat, q ≠ pm_ad P o → (H.setIfInBounds (pm_ad P o) (vp_cell (pm_cs P 0) (n1, .inl (va_cpy (I o0) (I o) sp.toNatClampNeg dp.toNatClampNeg v.toNatClampNeg))))[q]? = H[q]? := fun q hq => by simp [Array.getElem?_setIfInBounds, Ne.symm hq]
  have hv : va_at (pm_D P) vwCl (pm_ad P o, pm_c P (va_cpy (I o0) (I o) sp.toNatClampNeg dp.toNatClampNeg v.toNatClampNeg) (L o) (.inr (.inl (0, n1)))) (H.setIfInBounds (pm_ad P o) (vp_cell (pm_cs P 0) (n1, .inl (va_cpy (I o0) (I o) sp.toNatClampNeg dp.toNatClampNeg v.toNatClampNeg)))) := by
    show (H.setIfInBounds _ _)[_]? = some (vp_cell _ _)
    simp [Array.getElem?_setIfInBounds, hlt]
  have h8 := hH.set0 hg (va_cpy (I o0) (I o) sp.toNatClampNeg dp.toNatClampNeg v.toNatClampNeg) (L o) hv (by simp) oq
  rw [pm_uu] at h8
  obtain ⟨t, a1, b1⟩ := kk p e s m args below meth c _ _ a C hT hX h8 ⟨by simp; exact hS.1, fun q g1 g2 => by
      rw [oq q (fun e => g2 (by rw [e, hH.ad hg]; exact Nat.le_add_right _ _))]
      exact hS.2.1 q g1 g2, fun q hq => by
      rcases List.mem_append.mp hq with h | h
      · exact hS.2.2 q h
      · obtain ⟨z, -, hz⟩ := List.mem_map.mp h
        rw [← hz, hH.ad hg]
        exact Nat.le_add_right _ _⟩ hL _ hheap X'
  exact ⟨t, step t a1, b1⟩
theorem pm_copyl {o0 n0 n1 : Nat} {sp dp v : Int32} (hl : Cond.methodLink y.cls ix arraycopyName ∈ TB) (hnat : Cond.native arraycopyName ∈ TB) (hstat : Cond.static arraycopyName ∈ TB) (hini : Cond.initialized "java/lang/System" ∈ TB) (hg0 : G[o0]? = some (.inr (.inl (2, n0)))) (hg : G[o]? = some (.inr (.inl (2, n1)))) (h1 : ¬ sp < 0) (h2 : ¬ dp < 0) (h3 : ¬ v < 0) (h4 : sp.toNatClampNeg + v.toNatClampNeg ≤ n0) (h5 : dp.toNatClampNeg + v.toNatClampNeg ≤ n1) (hR : 1 ≤ R.frames ∧ 8 + (nativeFrameWords "java/lang/System" "arraycopy" 5 + 11) ≤ R.locals) (hcat : (st.map (·.category)).sum ≤ 8) (hd : decode cc pc = .ok (.invokestatic ix, 3))
    (kk : PW l P y cc nL ret R Tg k n (pc + 3) ls st G I (pm_u L o (va_cpy (L o0) (L o) sp.toNatClampNeg dp.toNatClampNeg v.toNatClampNeg))) : PW l P y cc nL ret R Tg k n pc ls (.int v :: .int dp :: .ref o :: .int sp :: .ref o0 :: st) G I L := by
  intro p e s m args below meth c H locs a C hT hX hH hS hL
  have hts := C.2.2.2.2.2.2.2
  have hcat2 := pm_sum13 P hcat
  have nn : ∀ z : Int32, ¬ z < 0 → z.toInt = (z.toNatClampNeg : Int) := by
    intro z hz
    have hz0 : (0 : Int) ≤ z.toInt := by
      have := Int32.not_lt.mp hz
      simpa using Int32.le_iff_toInt_le.mp this
    show z.toInt = ((z.toInt.toNat : Nat) : Int)
    omega
  intro T hT' X
  have hc0 : H[pm_ad P o0]? = some (vp_cell (pm_cs P 2) (n0, .inr (.inl (L o0)))) := hH.1 o0 _ (hH.at hg0)
  have hc1 : H[pm_ad P o]? = some (vp_cell (pm_cs P 2) (n1, .inr (.inl (L o)))) := hH.1 o _ (hH.at hg)
  obtain ⟨-, k0, hk0, cm0, hkk0⟩ := (hT.1.2 2 _ rfl).1 n0 (fun j => .long ((L o0) j))
  obtain ⟨-, k1, hk1, cm1, hkk1⟩ := (hT.1.2 2 _ rfl).1 n1 (fun j => .long ((L o) j))
  obtain ⟨vm', X', step⟩ := X.arraycopy C.1 C.2.2.2.1 (hts _ hl) (hts _ hnat) (hts _ hstat) (hts _ hini) (src := pm_ad P o0) (dst := pm_ad P o) (cs := vp_cell (pm_cs P 2) (n0, .inr (.inl (L o0)))) (cd := vp_cell (pm_cs P 2) (n1, .inr (.inl (L o)))) (srcPos := sp) (destPos := dp) (n := v) (by rw [hT']; exact hc0) (by rw [hT']; exact hc1)
    (fun _ h => by cases h) (fun _ h => by cases h) (fun h => by cases h) (fun h => by cases h) hk0 hk1 hkk0 hkk1 (by simp [refKind]) h1 h2 h3
    (by rw [nn sp h1, nn v h3]; show ¬ _ > ((arrV (pm_cs P 2) n0 (fun j => .long ((L o0) j))).slots.size : Int); rw [arrV_size]; omega)
    (by rw [nn dp h2, nn v h3]; show ¬ _ > ((arrV (pm_cs P 2) n1 (fun j => .long ((L o) j))).slots.size : Int); rw [arrV_size]; omega)
    (fun vm₁ _ i hi => by
      have e : (vp_cell (pm_cs P 2) (n0, .inr (.inl (L o0)))).slots.getD (sp.toNatClampNeg + i) .null = .long ((L o0) (sp.toNatClampNeg + i)) := by
        show (arrV (pm_cs P 2) n0 (fun j => .long ((L o0) j))).slots.getD _ _ = _
        rw [Array.getD_eq_getD_getElem?, arrV_read _ _ (by omega)]
        rfl
      refine ⟨?_, ?_⟩
      · rw [e]; rfl
      · rw [e]; exact trivial)
    (g := F0 m pc a (.int v :: .int dp :: .ref (pm_ad P o) :: .int sp :: .ref (pm_ad P o0) :: st.map (pm_v P))) rfl (by rw [C.2.2.1]; exact hL.1) (rest := st.map (pm_v P)) rfl (by rw [C.2.1]; exact hd) hR.1 (by have := hR.2; show 2 * 0 + _ + _ ≤ _; omega)
  have e1 : copied (vp_cell (pm_cs P 2) (n0, .inr (.inl (L o0)))) (vp_cell (pm_cs P 2) (n1, .inr (.inl (L o)))) sp dp v = vp_cell (pm_cs P 2) (n1, .inr (.inl (va_cpy (L o0) (L o) sp.toNatClampNeg dp.toNatClampNeg v.toNatClampNeg))) := va_copied (fun z => .long z) (pm_cs P 2) (pm_cs P 2) (L o0) (L o) h4
  rw [e1] at X' step
  have hlt : pm_ad P o < H.size := (Array.getElem?_eq_some_iff.mp hc1).1
  have hheap : ((T.setVm vm').setCell (pm_ad P o) (vp_cell (pm_cs P 2) (n1, .inr (.inl (va_cpy (L o0) (L o) sp.toNatClampNeg dp.toNatClampNeg v.toNatClampNeg))))).heap = H.setIfInBounds (pm_ad P o) (vp_cell (pm_cs P 2) (n1, .inr (.inl (va_cpy (L o0) (L o) sp.toNatClampNeg dp.toNatClampNeg v.toNatClampNeg)))) := by rw [← hT']; rfl
  have oq : ∀ q : Nat, q ≠ pm_ad P o → (H.setIfInBounds (pm_ad P o) (vp_cell (pm_cs P 2) (n1, .inr (.inl (va_cpy (L o0) (L o) sp.toNatClampNeg dp.toNatClampNeg v.toNatClampNeg)))))[q]? = H[q]? := fun q hq => by simp [Array.getElem?_setIfInBounds, Ne.symm hq]
  have hv : va_at (pm_D P) vwCl (pm_ad P o, pm_c P (I o) (va_cpy (L o0) (L o) sp.toNatClampNeg dp.toNatClampNeg v.toNatClampNeg) (.inr (.inl (2, n1)))) (H.setIfInBounds (pm_ad P o) (vp_cell (pm_cs P 2) (n1, .inr (.inl (va_cpy (L o0) (L o) sp.toNatClampNeg dp.toNatClampNeg v.toNatClampNeg))))) := by
    show (H.setIfInBounds _ _)[_]? = some (vp_cell _ _)
    simp [Array.getElem?_setIfInBounds, hlt]
  have h8 := hH.set0 hg (I o) (va_cpy (L o0) (L o) sp.toNatClampNeg dp.toNatClampNeg v.toNatClampNeg) hv (by simp) oq
  rw [pm_uu] at h8
  obtain ⟨t, a1, b1⟩ := kk p e s m args below meth c _ _ a C hT hX h8 ⟨by simp; exact hS.1, fun q g1 g2 => by
      rw [oq q (fun e => g2 (by rw [e, hH.ad hg]; exact Nat.le_add_right _ _))]
      exact hS.2.1 q g1 g2, fun q hq => by
      rcases List.mem_append.mp hq with h | h
      · exact hS.2.2 q h
      · obtain ⟨z, -, hz⟩ := List.mem_map.mp h
        rw [← hz, hH.ad hg]
        exact Nat.le_add_right _ _⟩ hL _ hheap X'
  exact ⟨t, step t a1, b1⟩
end PMC
end
