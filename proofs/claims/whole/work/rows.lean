section
-- ===== PART A: goes FIRST, ahead of the names: the tables' words, and 'selects' of the private methods out of them =====
/-- a private method of a class that the tables say can be made, by its rows of tables_1 -/
def lw_okq (q : MethodName × Nat) : Prop := (q.1.cls ≠ "java/lang/invoke/MethodHandle" ∧ q.1.cls ≠ "java/lang/invoke/VarHandle") ∧ Cond.instantiable q.1.cls q.2 ∈ tables_1 ∧ Cond.privateMethod q.1 ∈ tables_1 ∧ Cond.instanceMethod q.1 ∈ tables_1
theorem lw_p0 : lw_okq (⟨"FaceFlips$Heap", "arc", "(I)I"⟩, 2) := ⟨⟨by decide +kernel, by decide +kernel⟩, List.mem_of_getElem? (i := 27) (by decide +kernel), List.mem_of_getElem? (i := 269) (by decide +kernel), List.mem_of_getElem? (i := 270) (by decide +kernel)⟩
theorem lw_p1 : lw_okq (⟨"FaceFlips$Heap", "addArcs", "(I)V"⟩, 2) := ⟨⟨by decide +kernel, by decide +kernel⟩, List.mem_of_getElem? (i := 27) (by decide +kernel), List.mem_of_getElem? (i := 281) (by decide +kernel), List.mem_of_getElem? (i := 282) (by decide +kernel)⟩
theorem lw_p2 : lw_okq (⟨"FaceFlips$Heap", "addCross", "()V"⟩, 2) := ⟨⟨by decide +kernel, by decide +kernel⟩, List.mem_of_getElem? (i := 27) (by decide +kernel), List.mem_of_getElem? (i := 285) (by decide +kernel), List.mem_of_getElem? (i := 286) (by decide +kernel)⟩
theorem lw_p3 : lw_okq (⟨"FaceFlips$Ways", "spread", "(I)V"⟩, 6) := ⟨⟨by decide +kernel, by decide +kernel⟩, List.mem_of_getElem? (i := 83) (by decide +kernel), List.mem_of_getElem? (i := 357) (by decide +kernel), List.mem_of_getElem? (i := 358) (by decide +kernel)⟩
theorem lw_p4 : lw_okq (⟨"FaceFlips$Ways", "beside", "(II)Z"⟩, 6) := ⟨⟨by decide +kernel, by decide +kernel⟩, List.mem_of_getElem? (i := 83) (by decide +kernel), List.mem_of_getElem? (i := 361) (by decide +kernel), List.mem_of_getElem? (i := 362) (by decide +kernel)⟩
theorem lw_p5 : lw_okq (⟨"FaceFlips$Ways", "sameSign", "(II)Z"⟩, 6) := ⟨⟨by decide +kernel, by decide +kernel⟩, List.mem_of_getElem? (i := 83) (by decide +kernel), List.mem_of_getElem? (i := 366) (by decide +kernel), List.mem_of_getElem? (i := 367) (by decide +kernel)⟩
theorem lw_p6 : lw_okq (⟨"FaceFlips$Ways", "bodyAt", "(I)I"⟩, 6) := ⟨⟨by decide +kernel, by decide +kernel⟩, List.mem_of_getElem? (i := 83) (by decide +kernel), List.mem_of_getElem? (i := 434) (by decide +kernel), List.mem_of_getElem? (i := 435) (by decide +kernel)⟩
theorem lw_p7 : lw_okq (⟨"FaceFlips$Search", "gap", "()I"⟩, 4) := ⟨⟨by decide +kernel, by decide +kernel⟩, List.mem_of_getElem? (i := 108) (by decide +kernel), List.mem_of_getElem? (i := 541) (by decide +kernel), List.mem_of_getElem? (i := 542) (by decide +kernel)⟩
theorem lw_p8 : lw_okq (⟨"FaceFlips$Search", "widened", "(I)I"⟩, 4) := ⟨⟨by decide +kernel, by decide +kernel⟩, List.mem_of_getElem? (i := 108) (by decide +kernel), List.mem_of_getElem? (i := 550) (by decide +kernel), List.mem_of_getElem? (i := 551) (by decide +kernel)⟩
theorem lw_p9 : lw_okq (⟨"FaceFlips$Names", "agrees", "(II)Z"⟩, 3) := ⟨⟨by decide +kernel, by decide +kernel⟩, List.mem_of_getElem? (i := 130) (by decide +kernel), List.mem_of_getElem? (i := 568) (by decide +kernel), List.mem_of_getElem? (i := 569) (by decide +kernel)⟩
theorem lw_p10 : lw_okq (⟨"FaceFlips$Text", "behind", "(III)I"⟩, 6) := ⟨⟨by decide +kernel, by decide +kernel⟩, List.mem_of_getElem? (i := 159) (by decide +kernel), List.mem_of_getElem? (i := 601) (by decide +kernel), List.mem_of_getElem? (i := 602) (by decide +kernel)⟩
theorem lw_p11 : lw_okq (⟨"FaceFlips$Text", "wordAt", "(II)I"⟩, 6) := ⟨⟨by decide +kernel, by decide +kernel⟩, List.mem_of_getElem? (i := 159) (by decide +kernel), List.mem_of_getElem? (i := 605) (by decide +kernel), List.mem_of_getElem? (i := 606) (by decide +kernel)⟩
theorem lw_p12 : lw_okq (⟨"FaceFlips$Text", "stands", "(Ljava/lang/String;II)Z"⟩, 6) := ⟨⟨by decide +kernel, by decide +kernel⟩, List.mem_of_getElem? (i := 159) (by decide +kernel), List.mem_of_getElem? (i := 624) (by decide +kernel), List.mem_of_getElem? (i := 625) (by decide +kernel)⟩
theorem lw_p13 : lw_okq (⟨"FaceFlips", "obey", "(I)I"⟩, 15) := ⟨⟨by decide +kernel, by decide +kernel⟩, List.mem_of_getElem? (i := 19) (by decide +kernel), List.mem_of_getElem? (i := 680) (by decide +kernel), List.mem_of_getElem? (i := 681) (by decide +kernel)⟩
theorem lw_p14 : lw_okq (⟨"FaceFlips", "write", "(I)V"⟩, 15) := ⟨⟨by decide +kernel, by decide +kernel⟩, List.mem_of_getElem? (i := 19) (by decide +kernel), List.mem_of_getElem? (i := 702) (by decide +kernel), List.mem_of_getElem? (i := 703) (by decide +kernel)⟩
theorem lw_p15 : lw_okq (⟨"FaceFlips", "writePoints", "(I)V"⟩, 15) := ⟨⟨by decide +kernel, by decide +kernel⟩, List.mem_of_getElem? (i := 19) (by decide +kernel), List.mem_of_getElem? (i := 706) (by decide +kernel), List.mem_of_getElem? (i := 707) (by decide +kernel)⟩
def lw_privs_1 : List (MethodName × Nat) := [(⟨"FaceFlips$Heap", "arc", "(I)I"⟩, 2), (⟨"FaceFlips$Heap", "addArcs", "(I)V"⟩, 2), (⟨"FaceFlips$Heap", "addCross", "()V"⟩, 2), (⟨"FaceFlips$Ways", "spread", "(I)V"⟩, 6), (⟨"FaceFlips$Ways", "beside", "(II)Z"⟩, 6), (⟨"FaceFlips$Ways", "sameSign", "(II)Z"⟩, 6), (⟨"FaceFlips$Ways", "bodyAt", "(I)I"⟩, 6), (⟨"FaceFlips$Search", "gap", "()I"⟩, 4), (⟨"FaceFlips$Search", "widened", "(I)I"⟩, 4), (⟨"FaceFlips$Names", "agrees", "(II)Z"⟩, 3), (⟨"FaceFlips$Text", "behind", "(III)I"⟩, 6), (⟨"FaceFlips$Text", "wordAt", "(II)I"⟩, 6), (⟨"FaceFlips$Text", "stands", "(Ljava/lang/String;II)Z"⟩, 6), (⟨"FaceFlips", "obey", "(I)I"⟩, 15), (⟨"FaceFlips", "write", "(I)V"⟩, 15), (⟨"FaceFlips", "writePoints", "(I)V"⟩, 15)]
theorem lw_r1 : ∀ q ∈ lw_privs_1, lw_okq q := List.forall_mem_cons.mpr ⟨lw_p0, List.forall_mem_cons.mpr ⟨lw_p1, List.forall_mem_cons.mpr ⟨lw_p2, List.forall_mem_cons.mpr ⟨lw_p3, List.forall_mem_cons.mpr ⟨lw_p4, List.forall_mem_cons.mpr ⟨lw_p5, List.forall_mem_cons.mpr ⟨lw_p6, List.forall_mem_cons.mpr ⟨lw_p7, List.forall_mem_cons.mpr ⟨lw_p8, List.forall_mem_cons.mpr ⟨lw_p9, List.forall_mem_cons.mpr ⟨lw_p10, List.forall_mem_cons.mpr ⟨lw_p11, List.forall_mem_cons.mpr ⟨lw_p12, List.forall_mem_cons.mpr ⟨lw_p13, List.forall_mem_cons.mpr ⟨lw_p14, List.forall_mem_cons.mpr ⟨lw_p15, fun _ h => absurd h List.not_mem_nil⟩⟩⟩⟩⟩⟩⟩⟩⟩⟩⟩⟩⟩⟩⟩⟩
theorem lw_p16 : lw_okq (⟨"FaceFlipsModel", "remembers", "()V"⟩, 34) := ⟨⟨by decide +kernel, by decide +kernel⟩, List.mem_of_getElem? (i := 753) (by decide +kernel), List.mem_of_getElem? (i := 878) (by decide +kernel), List.mem_of_getElem? (i := 879) (by decide +kernel)⟩
theorem lw_p17 : lw_okq (⟨"FaceFlipsModel", "isCross", "(I)Z"⟩, 34) := ⟨⟨by decide +kernel, by decide +kernel⟩, List.mem_of_getElem? (i := 753) (by decide +kernel), List.mem_of_getElem? (i := 890) (by decide +kernel), List.mem_of_getElem? (i := 891) (by decide +kernel)⟩
theorem lw_p18 : lw_okq (⟨"FaceFlipsModel", "run", "(I)I"⟩, 34) := ⟨⟨by decide +kernel, by decide +kernel⟩, List.mem_of_getElem? (i := 753) (by decide +kernel), List.mem_of_getElem? (i := 897) (by decide +kernel), List.mem_of_getElem? (i := 898) (by decide +kernel)⟩
theorem lw_p19 : lw_okq (⟨"FaceFlipsModel", "isBody", "(I)Z"⟩, 34) := ⟨⟨by decide +kernel, by decide +kernel⟩, List.mem_of_getElem? (i := 753) (by decide +kernel), List.mem_of_getElem? (i := 908) (by decide +kernel), List.mem_of_getElem? (i := 909) (by decide +kernel)⟩
theorem lw_p20 : lw_okq (⟨"FaceFlipsModel", "layFaces", "([Z)V"⟩, 34) := ⟨⟨by decide +kernel, by decide +kernel⟩, List.mem_of_getElem? (i := 753) (by decide +kernel), List.mem_of_getElem? (i := 923) (by decide +kernel), List.mem_of_getElem? (i := 924) (by decide +kernel)⟩
theorem lw_p21 : lw_okq (⟨"FaceFlipsModel", "walls", "(I)I"⟩, 34) := ⟨⟨by decide +kernel, by decide +kernel⟩, List.mem_of_getElem? (i := 753) (by decide +kernel), List.mem_of_getElem? (i := 927) (by decide +kernel), List.mem_of_getElem? (i := 928) (by decide +kernel)⟩
theorem lw_p22 : lw_okq (⟨"FaceFlipsModel", "isWall", "(II)Z"⟩, 34) := ⟨⟨by decide +kernel, by decide +kernel⟩, List.mem_of_getElem? (i := 753) (by decide +kernel), List.mem_of_getElem? (i := 931) (by decide +kernel), List.mem_of_getElem? (i := 932) (by decide +kernel)⟩
theorem lw_p23 : lw_okq (⟨"FaceFlipsModel", "right", "()I"⟩, 34) := ⟨⟨by decide +kernel, by decide +kernel⟩, List.mem_of_getElem? (i := 753) (by decide +kernel), List.mem_of_getElem? (i := 935) (by decide +kernel), List.mem_of_getElem? (i := 936) (by decide +kernel)⟩
theorem lw_p24 : lw_okq (⟨"FaceFlipsModel", "euler", "()I"⟩, 34) := ⟨⟨by decide +kernel, by decide +kernel⟩, List.mem_of_getElem? (i := 753) (by decide +kernel), List.mem_of_getElem? (i := 939) (by decide +kernel), List.mem_of_getElem? (i := 940) (by decide +kernel)⟩
theorem lw_p25 : lw_okq (⟨"FaceFlipsModel", "facesOf", "(I)I"⟩, 34) := ⟨⟨by decide +kernel, by decide +kernel⟩, List.mem_of_getElem? (i := 753) (by decide +kernel), List.mem_of_getElem? (i := 943) (by decide +kernel), List.mem_of_getElem? (i := 944) (by decide +kernel)⟩
theorem lw_p26 : lw_okq (⟨"FaceFlipsModel", "parts", "()I"⟩, 34) := ⟨⟨by decide +kernel, by decide +kernel⟩, List.mem_of_getElem? (i := 753) (by decide +kernel), List.mem_of_getElem? (i := 947) (by decide +kernel), List.mem_of_getElem? (i := 948) (by decide +kernel)⟩
theorem lw_p27 : lw_okq (⟨"FaceFlipsModel", "spreads", "(I)V"⟩, 34) := ⟨⟨by decide +kernel, by decide +kernel⟩, List.mem_of_getElem? (i := 753) (by decide +kernel), List.mem_of_getElem? (i := 951) (by decide +kernel), List.mem_of_getElem? (i := 952) (by decide +kernel)⟩
theorem lw_p28 : lw_okq (⟨"FaceFlipsModel", "areBeside", "(II)Z"⟩, 34) := ⟨⟨by decide +kernel, by decide +kernel⟩, List.mem_of_getElem? (i := 753) (by decide +kernel), List.mem_of_getElem? (i := 955) (by decide +kernel), List.mem_of_getElem? (i := 956) (by decide +kernel)⟩
theorem lw_p29 : lw_okq (⟨"FaceFlipsModel", "isTwoSided", "()Z"⟩, 34) := ⟨⟨by decide +kernel, by decide +kernel⟩, List.mem_of_getElem? (i := 753) (by decide +kernel), List.mem_of_getElem? (i := 959) (by decide +kernel), List.mem_of_getElem? (i := 960) (by decide +kernel)⟩
theorem lw_p30 : lw_okq (⟨"FaceFlipsModel", "areAgreed", "(I)Z"⟩, 34) := ⟨⟨by decide +kernel, by decide +kernel⟩, List.mem_of_getElem? (i := 753) (by decide +kernel), List.mem_of_getElem? (i := 963) (by decide +kernel), List.mem_of_getElem? (i := 964) (by decide +kernel)⟩
theorem lw_p31 : lw_okq (⟨"FaceFlipsModel", "areSigned", "(II)Z"⟩, 34) := ⟨⟨by decide +kernel, by decide +kernel⟩, List.mem_of_getElem? (i := 753) (by decide +kernel), List.mem_of_getElem? (i := 967) (by decide +kernel), List.mem_of_getElem? (i := 968) (by decide +kernel)⟩
def lw_privs_2 : List (MethodName × Nat) := [(⟨"FaceFlipsModel", "remembers", "()V"⟩, 34), (⟨"FaceFlipsModel", "isCross", "(I)Z"⟩, 34), (⟨"FaceFlipsModel", "run", "(I)I"⟩, 34), (⟨"FaceFlipsModel", "isBody", "(I)Z"⟩, 34), (⟨"FaceFlipsModel", "layFaces", "([Z)V"⟩, 34), (⟨"FaceFlipsModel", "walls", "(I)I"⟩, 34), (⟨"FaceFlipsModel", "isWall", "(II)Z"⟩, 34), (⟨"FaceFlipsModel", "right", "()I"⟩, 34), (⟨"FaceFlipsModel", "euler", "()I"⟩, 34), (⟨"FaceFlipsModel", "facesOf", "(I)I"⟩, 34), (⟨"FaceFlipsModel", "parts", "()I"⟩, 34), (⟨"FaceFlipsModel", "spreads", "(I)V"⟩, 34), (⟨"FaceFlipsModel", "areBeside", "(II)Z"⟩, 34), (⟨"FaceFlipsModel", "isTwoSided", "()Z"⟩, 34), (⟨"FaceFlipsModel", "areAgreed", "(I)Z"⟩, 34), (⟨"FaceFlipsModel", "areSigned", "(II)Z"⟩, 34)]
theorem lw_r2 : ∀ q ∈ lw_privs_2, lw_okq q := List.forall_mem_cons.mpr ⟨lw_p16, List.forall_mem_cons.mpr ⟨lw_p17, List.forall_mem_cons.mpr ⟨lw_p18, List.forall_mem_cons.mpr ⟨lw_p19, List.forall_mem_cons.mpr ⟨lw_p20, List.forall_mem_cons.mpr ⟨lw_p21, List.forall_mem_cons.mpr ⟨lw_p22, List.forall_mem_cons.mpr ⟨lw_p23, List.forall_mem_cons.mpr ⟨lw_p24, List.forall_mem_cons.mpr ⟨lw_p25, List.forall_mem_cons.mpr ⟨lw_p26, List.forall_mem_cons.mpr ⟨lw_p27, List.forall_mem_cons.mpr ⟨lw_p28, List.forall_mem_cons.mpr ⟨lw_p29, List.forall_mem_cons.mpr ⟨lw_p30, List.forall_mem_cons.mpr ⟨lw_p31, fun _ h => absurd h List.not_mem_nil⟩⟩⟩⟩⟩⟩⟩⟩⟩⟩⟩⟩⟩⟩⟩⟩
theorem lw_p32 : lw_okq (⟨"FaceFlipsModel", "below", "(II)I"⟩, 34) := ⟨⟨by decide +kernel, by decide +kernel⟩, List.mem_of_getElem? (i := 753) (by decide +kernel), List.mem_of_getElem? (i := 971) (by decide +kernel), List.mem_of_getElem? (i := 972) (by decide +kernel)⟩
theorem lw_p33 : lw_okq (⟨"FaceFlipsModel", "bodyAt", "(I)I"⟩, 34) := ⟨⟨by decide +kernel, by decide +kernel⟩, List.mem_of_getElem? (i := 753) (by decide +kernel), List.mem_of_getElem? (i := 979) (by decide +kernel), List.mem_of_getElem? (i := 980) (by decide +kernel)⟩
theorem lw_p34 : lw_okq (⟨"FaceFlipsModel", "linkOf", "(I)I"⟩, 34) := ⟨⟨by decide +kernel, by decide +kernel⟩, List.mem_of_getElem? (i := 753) (by decide +kernel), List.mem_of_getElem? (i := 996) (by decide +kernel), List.mem_of_getElem? (i := 997) (by decide +kernel)⟩
theorem lw_p35 : lw_okq (⟨"FaceFlipsModel", "linked", "(I)I"⟩, 34) := ⟨⟨by decide +kernel, by decide +kernel⟩, List.mem_of_getElem? (i := 753) (by decide +kernel), List.mem_of_getElem? (i := 1000) (by decide +kernel), List.mem_of_getElem? (i := 1001) (by decide +kernel)⟩
theorem lw_p36 : lw_okq (⟨"FaceFlipsModel", "layFlips", "([ZI)V"⟩, 34) := ⟨⟨by decide +kernel, by decide +kernel⟩, List.mem_of_getElem? (i := 753) (by decide +kernel), List.mem_of_getElem? (i := 1012) (by decide +kernel), List.mem_of_getElem? (i := 1013) (by decide +kernel)⟩
theorem lw_p37 : lw_okq (⟨"FaceFlipsModel", "forWhat", "(I)I"⟩, 34) := ⟨⟨by decide +kernel, by decide +kernel⟩, List.mem_of_getElem? (i := 753) (by decide +kernel), List.mem_of_getElem? (i := 1016) (by decide +kernel), List.mem_of_getElem? (i := 1017) (by decide +kernel)⟩
theorem lw_p38 : lw_okq (⟨"FaceFlipsModel", "find", "(II)I"⟩, 34) := ⟨⟨by decide +kernel, by decide +kernel⟩, List.mem_of_getElem? (i := 753) (by decide +kernel), List.mem_of_getElem? (i := 1028) (by decide +kernel), List.mem_of_getElem? (i := 1029) (by decide +kernel)⟩
theorem lw_p39 : lw_okq (⟨"FaceFlipsModel", "does", "([ZII)V"⟩, 34) := ⟨⟨by decide +kernel, by decide +kernel⟩, List.mem_of_getElem? (i := 753) (by decide +kernel), List.mem_of_getElem? (i := 1036) (by decide +kernel), List.mem_of_getElem? (i := 1037) (by decide +kernel)⟩
theorem lw_p40 : lw_okq (⟨"FaceFlipsModel", "isKept", "(I)Z"⟩, 34) := ⟨⟨by decide +kernel, by decide +kernel⟩, List.mem_of_getElem? (i := 753) (by decide +kernel), List.mem_of_getElem? (i := 1056) (by decide +kernel), List.mem_of_getElem? (i := 1057) (by decide +kernel)⟩
theorem lw_p41 : lw_okq (⟨"FaceFlipsModel", "leads", "(II[ZI)Z"⟩, 34) := ⟨⟨by decide +kernel, by decide +kernel⟩, List.mem_of_getElem? (i := 753) (by decide +kernel), List.mem_of_getElem? (i := 1068) (by decide +kernel), List.mem_of_getElem? (i := 1069) (by decide +kernel)⟩
theorem lw_p42 : lw_okq (⟨"FaceFlipsModel", "canName", "(II[Z[Z)Z"⟩, 34) := ⟨⟨by decide +kernel, by decide +kernel⟩, List.mem_of_getElem? (i := 753) (by decide +kernel), List.mem_of_getElem? (i := 1079) (by decide +kernel), List.mem_of_getElem? (i := 1080) (by decide +kernel)⟩
theorem lw_p43 : lw_okq (⟨"FaceFlipsModel", "named", "(I)I"⟩, 34) := ⟨⟨by decide +kernel, by decide +kernel⟩, List.mem_of_getElem? (i := 753) (by decide +kernel), List.mem_of_getElem? (i := 1086) (by decide +kernel), List.mem_of_getElem? (i := 1087) (by decide +kernel)⟩
theorem lw_p44 : lw_okq (⟨"FaceFlipsModel", "firstFewer", "()I"⟩, 34) := ⟨⟨by decide +kernel, by decide +kernel⟩, List.mem_of_getElem? (i := 753) (by decide +kernel), List.mem_of_getElem? (i := 1098) (by decide +kernel), List.mem_of_getElem? (i := 1099) (by decide +kernel)⟩
theorem lw_p45 : lw_okq (⟨"FaceFlipsModel", "takesAll", "()Z"⟩, 34) := ⟨⟨by decide +kernel, by decide +kernel⟩, List.mem_of_getElem? (i := 753) (by decide +kernel), List.mem_of_getElem? (i := 1116) (by decide +kernel), List.mem_of_getElem? (i := 1117) (by decide +kernel)⟩
theorem lw_p46 : lw_okq (⟨"FaceFlipsModel", "takesWord", "()Z"⟩, 34) := ⟨⟨by decide +kernel, by decide +kernel⟩, List.mem_of_getElem? (i := 753) (by decide +kernel), List.mem_of_getElem? (i := 1120) (by decide +kernel), List.mem_of_getElem? (i := 1121) (by decide +kernel)⟩
theorem lw_p47 : lw_okq (⟨"FaceFlipsModel", "isLetter", "(I)Z"⟩, 34) := ⟨⟨by decide +kernel, by decide +kernel⟩, List.mem_of_getElem? (i := 753) (by decide +kernel), List.mem_of_getElem? (i := 1124) (by decide +kernel), List.mem_of_getElem? (i := 1125) (by decide +kernel)⟩
def lw_privs_3 : List (MethodName × Nat) := [(⟨"FaceFlipsModel", "below", "(II)I"⟩, 34), (⟨"FaceFlipsModel", "bodyAt", "(I)I"⟩, 34), (⟨"FaceFlipsModel", "linkOf", "(I)I"⟩, 34), (⟨"FaceFlipsModel", "linked", "(I)I"⟩, 34), (⟨"FaceFlipsModel", "layFlips", "([ZI)V"⟩, 34), (⟨"FaceFlipsModel", "forWhat", "(I)I"⟩, 34), (⟨"FaceFlipsModel", "find", "(II)I"⟩, 34), (⟨"FaceFlipsModel", "does", "([ZII)V"⟩, 34), (⟨"FaceFlipsModel", "isKept", "(I)Z"⟩, 34), (⟨"FaceFlipsModel", "leads", "(II[ZI)Z"⟩, 34), (⟨"FaceFlipsModel", "canName", "(II[Z[Z)Z"⟩, 34), (⟨"FaceFlipsModel", "named", "(I)I"⟩, 34), (⟨"FaceFlipsModel", "firstFewer", "()I"⟩, 34), (⟨"FaceFlipsModel", "takesAll", "()Z"⟩, 34), (⟨"FaceFlipsModel", "takesWord", "()Z"⟩, 34), (⟨"FaceFlipsModel", "isLetter", "(I)Z"⟩, 34)]
theorem lw_r3 : ∀ q ∈ lw_privs_3, lw_okq q := List.forall_mem_cons.mpr ⟨lw_p32, List.forall_mem_cons.mpr ⟨lw_p33, List.forall_mem_cons.mpr ⟨lw_p34, List.forall_mem_cons.mpr ⟨lw_p35, List.forall_mem_cons.mpr ⟨lw_p36, List.forall_mem_cons.mpr ⟨lw_p37, List.forall_mem_cons.mpr ⟨lw_p38, List.forall_mem_cons.mpr ⟨lw_p39, List.forall_mem_cons.mpr ⟨lw_p40, List.forall_mem_cons.mpr ⟨lw_p41, List.forall_mem_cons.mpr ⟨lw_p42, List.forall_mem_cons.mpr ⟨lw_p43, List.forall_mem_cons.mpr ⟨lw_p44, List.forall_mem_cons.mpr ⟨lw_p45, List.forall_mem_cons.mpr ⟨lw_p46, List.forall_mem_cons.mpr ⟨lw_p47, fun _ h => absurd h List.not_mem_nil⟩⟩⟩⟩⟩⟩⟩⟩⟩⟩⟩⟩⟩⟩⟩⟩
theorem lw_p48 : lw_okq (⟨"FaceFlipsModel", "isWord", "(Ljava/lang/String;I)Z"⟩, 34) := ⟨⟨by decide +kernel, by decide +kernel⟩, List.mem_of_getElem? (i := 753) (by decide +kernel), List.mem_of_getElem? (i := 1143) (by decide +kernel), List.mem_of_getElem? (i := 1144) (by decide +kernel)⟩
theorem lw_p49 : lw_okq (⟨"FaceFlipsModel", "isDigit", "(I)Z"⟩, 34) := ⟨⟨by decide +kernel, by decide +kernel⟩, List.mem_of_getElem? (i := 753) (by decide +kernel), List.mem_of_getElem? (i := 1149) (by decide +kernel), List.mem_of_getElem? (i := 1150) (by decide +kernel)⟩
theorem lw_p50 : lw_okq (⟨"FaceFlipsModel", "setOf", "(II)I"⟩, 34) := ⟨⟨by decide +kernel, by decide +kernel⟩, List.mem_of_getElem? (i := 753) (by decide +kernel), List.mem_of_getElem? (i := 1156) (by decide +kernel), List.mem_of_getElem? (i := 1157) (by decide +kernel)⟩
theorem lw_p51 : lw_okq (⟨"FaceFlipsModel", "numberOf", "(II)I"⟩, 34) := ⟨⟨by decide +kernel, by decide +kernel⟩, List.mem_of_getElem? (i := 753) (by decide +kernel), List.mem_of_getElem? (i := 1160) (by decide +kernel), List.mem_of_getElem? (i := 1161) (by decide +kernel)⟩
theorem lw_p52 : lw_okq (⟨"FaceFlipsModel", "isDone", "(I)Z"⟩, 34) := ⟨⟨by decide +kernel, by decide +kernel⟩, List.mem_of_getElem? (i := 753) (by decide +kernel), List.mem_of_getElem? (i := 1164) (by decide +kernel), List.mem_of_getElem? (i := 1165) (by decide +kernel)⟩
theorem lw_p53 : lw_okq (⟨"FaceFlipsModel", "writes", "(I)V"⟩, 34) := ⟨⟨by decide +kernel, by decide +kernel⟩, List.mem_of_getElem? (i := 753) (by decide +kernel), List.mem_of_getElem? (i := 1178) (by decide +kernel), List.mem_of_getElem? (i := 1179) (by decide +kernel)⟩
theorem lw_p54 : lw_okq (⟨"FaceFlipsModel", "isAgain", "(II)Z"⟩, 34) := ⟨⟨by decide +kernel, by decide +kernel⟩, List.mem_of_getElem? (i := 753) (by decide +kernel), List.mem_of_getElem? (i := 1197) (by decide +kernel), List.mem_of_getElem? (i := 1198) (by decide +kernel)⟩
theorem lw_p55 : lw_okq (⟨"FaceFlipsModel", "isFit", "(III)Z"⟩, 34) := ⟨⟨by decide +kernel, by decide +kernel⟩, List.mem_of_getElem? (i := 753) (by decide +kernel), List.mem_of_getElem? (i := 1201) (by decide +kernel), List.mem_of_getElem? (i := 1202) (by decide +kernel)⟩
theorem lw_p56 : lw_okq (⟨"FaceFlipsModel", "isPlace", "(II)Z"⟩, 34) := ⟨⟨by decide +kernel, by decide +kernel⟩, List.mem_of_getElem? (i := 753) (by decide +kernel), List.mem_of_getElem? (i := 1217) (by decide +kernel), List.mem_of_getElem? (i := 1218) (by decide +kernel)⟩
theorem lw_p57 : lw_okq (⟨"FaceFlipsModel", "isSpan", "(III)Z"⟩, 34) := ⟨⟨by decide +kernel, by decide +kernel⟩, List.mem_of_getElem? (i := 753) (by decide +kernel), List.mem_of_getElem? (i := 1230) (by decide +kernel), List.mem_of_getElem? (i := 1231) (by decide +kernel)⟩
def lw_privs_4 : List (MethodName × Nat) := [(⟨"FaceFlipsModel", "isWord", "(Ljava/lang/String;I)Z"⟩, 34), (⟨"FaceFlipsModel", "isDigit", "(I)Z"⟩, 34), (⟨"FaceFlipsModel", "setOf", "(II)I"⟩, 34), (⟨"FaceFlipsModel", "numberOf", "(II)I"⟩, 34), (⟨"FaceFlipsModel", "isDone", "(I)Z"⟩, 34), (⟨"FaceFlipsModel", "writes", "(I)V"⟩, 34), (⟨"FaceFlipsModel", "isAgain", "(II)Z"⟩, 34), (⟨"FaceFlipsModel", "isFit", "(III)Z"⟩, 34), (⟨"FaceFlipsModel", "isPlace", "(II)Z"⟩, 34), (⟨"FaceFlipsModel", "isSpan", "(III)Z"⟩, 34)]
theorem lw_r4 : ∀ q ∈ lw_privs_4, lw_okq q := List.forall_mem_cons.mpr ⟨lw_p48, List.forall_mem_cons.mpr ⟨lw_p49, List.forall_mem_cons.mpr ⟨lw_p50, List.forall_mem_cons.mpr ⟨lw_p51, List.forall_mem_cons.mpr ⟨lw_p52, List.forall_mem_cons.mpr ⟨lw_p53, List.forall_mem_cons.mpr ⟨lw_p54, List.forall_mem_cons.mpr ⟨lw_p55, List.forall_mem_cons.mpr ⟨lw_p56, List.forall_mem_cons.mpr ⟨lw_p57, fun _ h => absurd h List.not_mem_nil⟩⟩⟩⟩⟩⟩⟩⟩⟩⟩
def lw_privs : List (MethodName × Nat) := lw_privs_1 ++ (lw_privs_2 ++ (lw_privs_3 ++ (lw_privs_4)))
def lw_tbl : List Cond := k2_sels lw_privs ++ tables_1
theorem lw_privs_ok : ∀ q ∈ lw_privs, lw_okq q := by
  show ∀ q ∈ lw_privs_1 ++ (lw_privs_2 ++ (lw_privs_3 ++ (lw_privs_4))), lw_okq q
  exact List.forall_mem_append.mpr ⟨lw_r1, List.forall_mem_append.mpr ⟨lw_r2, List.forall_mem_append.mpr ⟨lw_r3, lw_r4⟩⟩⟩
-- ===== end of PART A; then your names; then what follows =====
end
section
/-! ===== BEGIN words of one list among another's, by their places ===== -/
theorem goodIn_r {big : List Cond} (ws : List Cond) (ps : List Nat) (hp : ws = ps.filterMap (fun i => big[i]?)) (h : ws.all goodWord = true) : GoodIn big ws := by
  intro w hw
  have h1 := List.all_eq_true.mp h w hw
  rw [hp] at hw
  obtain ⟨i, -, hi⟩ := List.mem_filterMap.mp hw
  have hm : w ∈ big := by first | exact List.mem_of_getElem? hi | exact List.getElem?_mem hi
  exact ⟨hm, good_of_word h1⟩
theorem goodIn_app {big a b : List Cond} (ha : GoodIn big a) (hb : GoodIn big b) : GoodIn big (a ++ b) := fun w h => (List.mem_append.mp h).elim (ha w) (hb w)
theorem goodIn_ca {big a b : List Cond} {c : Cond} (ha : GoodIn big (c :: a)) (hb : GoodIn big b) : GoodIn big (c :: (a ++ b)) := fun w h => (List.mem_cons.mp h).elim (fun e => ha w (List.mem_cons.mpr (Or.inl e))) (fun h => (List.mem_append.mp h).elim (fun h => ha w (List.mem_cons.mpr (Or.inr h))) (hb w))
theorem goodIn_sub {big ws : List Cond} (hm : ∀ w ∈ ws, w ∈ big) (h : ws.all goodWord = true) : GoodIn big ws := fun w hw => ⟨hm w hw, good_of_word (List.all_eq_true.mp h w hw)⟩
/-! ===== END ===== -/

/-! ===== BEGIN new T[n][m]: the outer array a place, the inner ones among the pooled ===== -/
/-! ===== END ===== -/

/-! ===== BEGIN printed: names, fields, word lists, decode rows ===== -/
def RX0 : String := "FaceFlips$Heap"
def TX0 : u_T := fun k => match k with
  | 0 => ("FaceFlips$Heap", "k", "I", false)
  | _ => ("FaceFlips$Heap", "within", "[I", true)
def tyX0 : Nat → FieldType := fun k => match k with
  | 0 => .int
  | _ => .array .int
abbrev wsX00 : List Cond := u_ws RX0 TX0 2
theorem nmX0 : ∀ a, a < 2 → ∀ b, b < 2 → a ≠ b → (TX0 a).2.1 ≠ (TX0 b).2.1 := by decide +kernel
theorem tyX0_ok : ∀ k, k < 2 → parseFieldDescriptor (TX0 k).2.2.1 = some (tyX0 k) := by decide +kernel
abbrev cX0_init : ByteArray := prog_2_method_1_code
def yX0_init : MethodName := ⟨RX0, "<init>", "()V"⟩
abbrev cX0_empty : ByteArray := prog_2_method_2_code
def yX0_empty : MethodName := ⟨RX0, "empty", "(I)V"⟩
abbrev cX0_copyOf : ByteArray := prog_2_method_3_code
def yX0_copyOf : MethodName := ⟨RX0, "copyOf", "(LFaceFlips$Heap;)V"⟩
abbrev cX0_total : ByteArray := prog_2_method_4_code
def yX0_total : MethodName := ⟨RX0, "total", "()I"⟩
abbrev cX0_holders : ByteArray := prog_2_method_5_code
def yX0_holders : MethodName := ⟨RX0, "holders", "(I)I"⟩
abbrev cX0_isBody : ByteArray := prog_2_method_6_code
def yX0_isBody : MethodName := ⟨RX0, "isBody", "(I)Z"⟩
abbrev cX0_isWall : ByteArray := prog_2_method_7_code
def yX0_isWall : MethodName := ⟨RX0, "isWall", "(I)Z"⟩
abbrev cX0_toggle : ByteArray := prog_2_method_8_code
def yX0_toggle : MethodName := ⟨RX0, "toggle", "(I)V"⟩
abbrev cX0_toggleAround : ByteArray := prog_2_method_9_code
def yX0_toggleAround : MethodName := ⟨RX0, "toggleAround", "(I)V"⟩
abbrev cX0_become : ByteArray := prog_2_method_10_code
def yX0_become : MethodName := ⟨RX0, "become", "(I)V"⟩
abbrev cX0_arc : ByteArray := prog_2_method_11_code
def yX0_arc : MethodName := ⟨RX0, "arc", "(I)I"⟩
abbrev cX0_addArcs : ByteArray := prog_2_method_12_code
def yX0_addArcs : MethodName := ⟨RX0, "addArcs", "(I)V"⟩
abbrev cX0_addCross : ByteArray := prog_2_method_13_code
def yX0_addCross : MethodName := ⟨RX0, "addCross", "()V"⟩
abbrev cX0_setAt : ByteArray := prog_2_method_14_code
def yX0_setAt : MethodName := ⟨RX0, "setAt", "(III)I"⟩
abbrev cX0_there : ByteArray := prog_2_method_15_code
def yX0_there : MethodName := ⟨RX0, "there", "()I"⟩
abbrev cX0_linkPoints : ByteArray := prog_2_method_16_code
def yX0_linkPoints : MethodName := ⟨RX0, "linkPoints", "(I)I"⟩
abbrev cX0_linkSets : ByteArray := prog_2_method_17_code
def yX0_linkSets : MethodName := ⟨RX0, "linkSets", "(I)I"⟩
abbrev cX0_facesOf : ByteArray := prog_2_method_18_code
def yX0_facesOf : MethodName := ⟨RX0, "facesOf", "(I)I"⟩
abbrev cX0_euler : ByteArray := prog_2_method_19_code
def yX0_euler : MethodName := ⟨RX0, "euler", "()I"⟩
abbrev cX0_walls : ByteArray := prog_2_method_20_code
def yX0_walls : MethodName := ⟨RX0, "walls", "()I"⟩
abbrev cX0_isRight : ByteArray := prog_2_method_21_code
def yX0_isRight : MethodName := ⟨RX0, "isRight", "()Z"⟩
abbrev cX0_partner : ByteArray := prog_2_method_22_code
def yX0_partner : MethodName := ⟨RX0, "partner", "(I)I"⟩
abbrev cX0_gather : ByteArray := prog_2_method_23_code
def yX0_gather : MethodName := ⟨RX0, "gather", "([I)I"⟩
abbrev cX0_numberOf : ByteArray := prog_2_method_24_code
def yX0_numberOf : MethodName := ⟨RX0, "numberOf", "(I)I"⟩
abbrev cX0_flipAt : ByteArray := prog_2_method_25_code
def yX0_flipAt : MethodName := ⟨RX0, "flipAt", "(I)V"⟩
abbrev cX0_firstFewer : ByteArray := prog_2_method_26_code
def yX0_firstFewer : MethodName := ⟨RX0, "firstFewer", "()I"⟩
def RX1 : String := "FaceFlips$Names"
def TX1 : u_T := fun k => match k with
  | 0 => ("FaceFlips$Names", "renamed", "[I", true)
  | 1 => ("FaceFlips$Names", "one", "LFaceFlips$Heap;", false)
  | _ => ("FaceFlips$Names", "other", "LFaceFlips$Heap;", false)
def tyX1 : Nat → FieldType := fun k => match k with
  | 0 => .array .int
  | 1 => .object "FaceFlips$Heap"
  | _ => .object "FaceFlips$Heap"
abbrev wsX10 : List Cond := u_ws RX1 TX1 3
theorem nmX1 : ∀ a, a < 3 → ∀ b, b < 3 → a ≠ b → (TX1 a).2.1 ≠ (TX1 b).2.1 := by decide +kernel
theorem tyX1_ok : ∀ k, k < 3 → parseFieldDescriptor (TX1 k).2.2.1 = some (tyX1 k) := by decide +kernel
abbrev cX1_init : ByteArray := prog_3_method_1_code
def yX1_init : MethodName := ⟨RX1, "<init>", "()V"⟩
abbrev cX1_fit : ByteArray := prog_3_method_2_code
def yX1_fit : MethodName := ⟨RX1, "fit", "(LFaceFlips$Heap;LFaceFlips$Heap;)Z"⟩
abbrev cX1_name : ByteArray := prog_3_method_3_code
def yX1_name : MethodName := ⟨RX1, "name", "(LFaceFlips$Names;I)Z"⟩
abbrev cX1_agrees : ByteArray := prog_3_method_4_code
def yX1_agrees : MethodName := ⟨RX1, "agrees", "(II)Z"⟩
def RX2 : String := "FaceFlips$Past"
def TX2 : u_T := fun k => match k with
  | 0 => ("FaceFlips$Past", "steps", "[LFaceFlips$Heap;", true)
  | 1 => ("FaceFlips$Past", "next", "I", false)
  | _ => ("FaceFlips$Past", "known", "I", false)
def tyX2 : Nat → FieldType := fun k => match k with
  | 0 => .array (.object "FaceFlips$Heap")
  | 1 => .int
  | _ => .int
abbrev wsX20 : List Cond := u_ws RX2 TX2 3
theorem nmX2 : ∀ a, a < 3 → ∀ b, b < 3 → a ≠ b → (TX2 a).2.1 ≠ (TX2 b).2.1 := by decide +kernel
theorem tyX2_ok : ∀ k, k < 3 → parseFieldDescriptor (TX2 k).2.2.1 = some (tyX2 k) := by decide +kernel
abbrev cX2_init : ByteArray := prog_4_method_1_code
def yX2_init : MethodName := ⟨RX2, "<init>", "()V"⟩
abbrev cX2_note : ByteArray := prog_4_method_2_code
def yX2_note : MethodName := ⟨RX2, "note", "(LFaceFlips$Heap;)V"⟩
abbrev cX2_restore : ByteArray := prog_4_method_3_code
def yX2_restore : MethodName := ⟨RX2, "restore", "(LFaceFlips$Heap;)V"⟩
abbrev cX2_forget : ByteArray := prog_4_method_4_code
def yX2_forget : MethodName := ⟨RX2, "forget", "()V"⟩
def RX3 : String := "FaceFlips$Rows"
def TX3 : u_T := fun k => match k with
  | 0 => ("FaceFlips$Rows", "cells", "[I", true)
  | _ => ("FaceFlips$Rows", "sizes", "[I", true)
def tyX3 : Nat → FieldType := fun k => match k with
  | 0 => .array .int
  | _ => .array .int
abbrev wsX30 : List Cond := u_ws RX3 TX3 2
theorem nmX3 : ∀ a, a < 2 → ∀ b, b < 2 → a ≠ b → (TX3 a).2.1 ≠ (TX3 b).2.1 := by decide +kernel
theorem tyX3_ok : ∀ k, k < 2 → parseFieldDescriptor (TX3 k).2.2.1 = some (tyX3 k) := by decide +kernel
abbrev cX3_init : ByteArray := prog_5_method_1_code
def yX3_init : MethodName := ⟨RX3, "<init>", "()V"⟩
abbrev cX3_isList : ByteArray := prog_5_method_2_code
def yX3_isList : MethodName := ⟨RX3, "isList", "(I)Z"⟩
abbrev cX3_state : ByteArray := prog_5_method_3_code
def yX3_state : MethodName := ⟨RX3, "state", "(I)I"⟩
abbrev cX3_sizeOf : ByteArray := prog_5_method_4_code
def yX3_sizeOf : MethodName := ⟨RX3, "sizeOf", "(I)I"⟩
abbrev cX3_at : ByteArray := prog_5_method_5_code
def yX3_at : MethodName := ⟨RX3, "at", "(II)I"⟩
abbrev cX3_set : ByteArray := prog_5_method_6_code
def yX3_set : MethodName := ⟨RX3, "set", "(III)V"⟩
abbrev cX3_start : ByteArray := prog_5_method_7_code
def yX3_start : MethodName := ⟨RX3, "start", "(II)V"⟩
abbrev cX3_move : ByteArray := prog_5_method_8_code
def yX3_move : MethodName := ⟨RX3, "move", "(IIIII)V"⟩
def RX4 : String := "FaceFlips$Search"
def TX4 : u_T := fun k => match k with
  | 0 => ("FaceFlips$Search", "heap", "LFaceFlips$Heap;", true)
  | 1 => ("FaceFlips$Search", "path", "[I", true)
  | 2 => ("FaceFlips$Search", "goal", "LFaceFlips$Heap;", false)
  | _ => ("FaceFlips$Search", "least", "I", false)
def tyX4 : Nat → FieldType := fun k => match k with
  | 0 => .object "FaceFlips$Heap"
  | 1 => .array .int
  | 2 => .object "FaceFlips$Heap"
  | _ => .int
abbrev wsX40 : List Cond := u_ws RX4 TX4 4
theorem nmX4 : ∀ a, a < 4 → ∀ b, b < 4 → a ≠ b → (TX4 a).2.1 ≠ (TX4 b).2.1 := by decide +kernel
theorem tyX4_ok : ∀ k, k < 4 → parseFieldDescriptor (TX4 k).2.2.1 = some (tyX4 k) := by decide +kernel
abbrev cX4_init : ByteArray := prog_6_method_1_code
def yX4_init : MethodName := ⟨RX4, "<init>", "()V"⟩
abbrev cX4_fewest : ByteArray := prog_6_method_2_code
def yX4_fewest : MethodName := ⟨RX4, "fewest", "(LFaceFlips$Heap;LFaceFlips$Heap;I)I"⟩
abbrev cX4_gap : ByteArray := prog_6_method_3_code
def yX4_gap : MethodName := ⟨RX4, "gap", "()I"⟩
abbrev cX4_widened : ByteArray := prog_6_method_4_code
def yX4_widened : MethodName := ⟨RX4, "widened", "(I)I"⟩
abbrev cX4_reach : ByteArray := prog_6_method_5_code
def yX4_reach : MethodName := ⟨RX4, "reach", "(LFaceFlips$Search;III)Z"⟩
def RX5 : String := "FaceFlips$Shelf"
def TX5 : u_T := fun k => match k with
  | 0 => ("FaceFlips$Shelf", "heaps", "[LFaceFlips$Heap;", true)
  | _ => ("FaceFlips$Shelf", "used", "I", false)
def tyX5 : Nat → FieldType := fun k => match k with
  | 0 => .array (.object "FaceFlips$Heap")
  | _ => .int
abbrev wsX50 : List Cond := u_ws RX5 TX5 2
theorem nmX5 : ∀ a, a < 2 → ∀ b, b < 2 → a ≠ b → (TX5 a).2.1 ≠ (TX5 b).2.1 := by decide +kernel
theorem tyX5_ok : ∀ k, k < 2 → parseFieldDescriptor (TX5 k).2.2.1 = some (tyX5 k) := by decide +kernel
abbrev cX5_init : ByteArray := prog_7_method_1_code
def yX5_init : MethodName := ⟨RX5, "<init>", "()V"⟩
abbrev cX5_add : ByteArray := prog_7_method_2_code
def yX5_add : MethodName := ⟨RX5, "add", "(LFaceFlips$Heap;)Z"⟩
abbrev cX5_at : ByteArray := prog_7_method_3_code
def yX5_at : MethodName := ⟨RX5, "at", "(I)LFaceFlips$Heap;"⟩
def RX6 : String := "FaceFlips$Text"
def TX6 : u_T := fun k => match k with
  | 0 => ("FaceFlips$Text", "signs", "[B", true)
  | 1 => ("FaceFlips$Text", "size", "I", false)
  | 2 => ("FaceFlips$Text", "word", "[I", true)
  | 3 => ("FaceFlips$Text", "digits", "[I", true)
  | 4 => ("FaceFlips$Text", "end", "[I", true)
  | _ => ("FaceFlips$Text", "words", "I", false)
def tyX6 : Nat → FieldType := fun k => match k with
  | 0 => .array .byte
  | 1 => .int
  | 2 => .array .int
  | 3 => .array .int
  | 4 => .array .int
  | _ => .int
abbrev wsX60 : List Cond := u_ws RX6 TX6 6
theorem nmX6 : ∀ a, a < 6 → ∀ b, b < 6 → a ≠ b → (TX6 a).2.1 ≠ (TX6 b).2.1 := by decide +kernel
theorem tyX6_ok : ∀ k, k < 6 → parseFieldDescriptor (TX6 k).2.2.1 = some (tyX6 k) := by decide +kernel
abbrev cX6_init : ByteArray := prog_8_method_1_code
def yX6_init : MethodName := ⟨RX6, "<init>", "()V"⟩
abbrev cX6_add : ByteArray := prog_8_method_2_code
def yX6_add : MethodName := ⟨RX6, "add", "(I)Z"⟩
abbrev cX6_split : ByteArray := prog_8_method_3_code
def yX6_split : MethodName := ⟨RX6, "split", "()I"⟩
abbrev cX6_behind : ByteArray := prog_8_method_4_code
def yX6_behind : MethodName := ⟨RX6, "behind", "(III)I"⟩
abbrev cX6_wordAt : ByteArray := prog_8_method_5_code
def yX6_wordAt : MethodName := ⟨RX6, "wordAt", "(II)I"⟩
abbrev cX6_stands : ByteArray := prog_8_method_6_code
def yX6_stands : MethodName := ⟨RX6, "stands", "(Ljava/lang/String;II)Z"⟩
abbrev cX6_wordOf : ByteArray := prog_8_method_7_code
def yX6_wordOf : MethodName := ⟨RX6, "wordOf", "(I)Ljava/lang/String;"⟩
abbrev cX6_value : ByteArray := prog_8_method_8_code
def yX6_value : MethodName := ⟨RX6, "value", "(I)I"⟩
abbrev cX6_pointSet : ByteArray := prog_8_method_9_code
def yX6_pointSet : MethodName := ⟨RX6, "pointSet", "(I)I"⟩
def RX7 : String := "FaceFlips$Ways"
def TX7 : u_T := fun k => match k with
  | 0 => ("FaceFlips$Ways", "bodies", "[I", true)
  | 1 => ("FaceFlips$Ways", "steps", "[I", true)
  | 2 => ("FaceFlips$Ways", "sign", "[I", true)
  | 3 => ("FaceFlips$Ways", "queue", "[I", true)
  | 4 => ("FaceFlips$Ways", "size", "I", false)
  | _ => ("FaceFlips$Ways", "k", "I", false)
def tyX7 : Nat → FieldType := fun k => match k with
  | 0 => .array .int
  | 1 => .array .int
  | 2 => .array .int
  | 3 => .array .int
  | 4 => .int
  | _ => .int
abbrev wsX70 : List Cond := u_ws RX7 TX7 6
theorem nmX7 : ∀ a, a < 6 → ∀ b, b < 6 → a ≠ b → (TX7 a).2.1 ≠ (TX7 b).2.1 := by decide +kernel
theorem tyX7_ok : ∀ k, k < 6 → parseFieldDescriptor (TX7 k).2.2.1 = some (tyX7 k) := by decide +kernel
abbrev cX7_init : ByteArray := prog_9_method_1_code
def yX7_init : MethodName := ⟨RX7, "<init>", "()V"⟩
abbrev cX7_load : ByteArray := prog_9_method_2_code
def yX7_load : MethodName := ⟨RX7, "load", "(LFaceFlips$Heap;)V"⟩
abbrev cX7_bodyAt : ByteArray := prog_9_method_3_code
def yX7_bodyAt : MethodName := ⟨RX7, "bodyAt", "(I)I"⟩
abbrev cX7_beside : ByteArray := prog_9_method_4_code
def yX7_beside : MethodName := ⟨RX7, "beside", "(II)Z"⟩
abbrev cX7_sameSign : ByteArray := prog_9_method_5_code
def yX7_sameSign : MethodName := ⟨RX7, "sameSign", "(II)Z"⟩
abbrev cX7_spread : ByteArray := prog_9_method_6_code
def yX7_spread : MethodName := ⟨RX7, "spread", "(I)V"⟩
abbrev cX7_parts : ByteArray := prog_9_method_7_code
def yX7_parts : MethodName := ⟨RX7, "parts", "(LFaceFlips$Heap;)I"⟩
abbrev cX7_twoSided : ByteArray := prog_9_method_8_code
def yX7_twoSided : MethodName := ⟨RX7, "twoSided", "(LFaceFlips$Heap;)Z"⟩
abbrev cX7_between : ByteArray := prog_9_method_9_code
def yX7_between : MethodName := ⟨RX7, "between", "(LFaceFlips$Heap;II)I"⟩
abbrev cX7_fits : ByteArray := prog_9_method_10_code
def yX7_fits : MethodName := ⟨RX7, "fits", "(LFaceFlips$Rows;II)Z"⟩
def RX8 : String := "FaceFlips"
def TX8 : u_T := fun k => match k with
  | 0 => ("FaceFlips", "now", "LFaceFlips$Heap;", true)
  | 1 => ("FaceFlips", "thought", "LFaceFlips$Heap;", true)
  | 2 => ("FaceFlips", "found", "[I", true)
  | 3 => ("FaceFlips", "past", "LFaceFlips$Past;", true)
  | 4 => ("FaceFlips", "shelf", "LFaceFlips$Shelf;", true)
  | 5 => ("FaceFlips", "oldHeap", "LFaceFlips$Heap;", true)
  | 6 => ("FaceFlips", "oldUsed", "I", false)
  | 7 => ("FaceFlips", "imaged", "Z", false)
  | 8 => ("FaceFlips", "ways", "LFaceFlips$Ways;", true)
  | 9 => ("FaceFlips", "search", "LFaceFlips$Search;", true)
  | 10 => ("FaceFlips", "names", "LFaceFlips$Names;", true)
  | 11 => ("FaceFlips", "rows", "LFaceFlips$Rows;", true)
  | 12 => ("FaceFlips", "text", "LFaceFlips$Text;", true)
  | 13 => ("FaceFlips", "spelled", "[B", true)
  | _ => ("FaceFlips", "spelledSize", "I", false)
def tyX8 : Nat → FieldType := fun k => match k with
  | 0 => .object "FaceFlips$Heap"
  | 1 => .object "FaceFlips$Heap"
  | 2 => .array .int
  | 3 => .object "FaceFlips$Past"
  | 4 => .object "FaceFlips$Shelf"
  | 5 => .object "FaceFlips$Heap"
  | 6 => .int
  | 7 => .boolean
  | 8 => .object "FaceFlips$Ways"
  | 9 => .object "FaceFlips$Search"
  | 10 => .object "FaceFlips$Names"
  | 11 => .object "FaceFlips$Rows"
  | 12 => .object "FaceFlips$Text"
  | 13 => .array .byte
  | _ => .int
abbrev wsX80 : List Cond := u_ws RX8 TX8 15
theorem nmX8 : ∀ a, a < 15 → ∀ b, b < 15 → a ≠ b → (TX8 a).2.1 ≠ (TX8 b).2.1 := by decide +kernel
theorem tyX8_ok : ∀ k, k < 15 → parseFieldDescriptor (TX8 k).2.2.1 = some (tyX8 k) := by decide +kernel
abbrev cX8_init : ByteArray := prog_1_method_1_code
def yX8_init : MethodName := ⟨RX8, "<init>", "()V"⟩
abbrev cX8_bodies : ByteArray := prog_1_method_2_code
def yX8_bodies : MethodName := ⟨RX8, "bodies", "(I)I"⟩
abbrev cX8_make : ByteArray := prog_1_method_3_code
def yX8_make : MethodName := ⟨RX8, "make", "(I)I"⟩
abbrev cX8_body : ByteArray := prog_1_method_4_code
def yX8_body : MethodName := ⟨RX8, "body", "(I)I"⟩
abbrev cX8_bodyOf : ByteArray := prog_1_method_5_code
def yX8_bodyOf : MethodName := ⟨RX8, "bodyOf", "(I)I"⟩
abbrev cX8_heap : ByteArray := prog_1_method_6_code
def yX8_heap : MethodName := ⟨RX8, "heap", "(I)I"⟩
abbrev cX8_faces : ByteArray := prog_1_method_7_code
def yX8_faces : MethodName := ⟨RX8, "faces", "(I)I"⟩
abbrev cX8_face : ByteArray := prog_1_method_8_code
def yX8_face : MethodName := ⟨RX8, "face", "(II)I"⟩
abbrev cX8_wall : ByteArray := prog_1_method_9_code
def yX8_wall : MethodName := ⟨RX8, "wall", "(I)I"⟩
abbrev cX8_apart : ByteArray := prog_1_method_10_code
def yX8_apart : MethodName := ⟨RX8, "apart", "(II)I"⟩
abbrev cX8_shelled : ByteArray := prog_1_method_11_code
def yX8_shelled : MethodName := ⟨RX8, "shelled", "(I)I"⟩
abbrev cX8_cone : ByteArray := prog_1_method_12_code
def yX8_cone : MethodName := ⟨RX8, "cone", "(I)I"⟩
abbrev cX8_flips : ByteArray := prog_1_method_13_code
def yX8_flips : MethodName := ⟨RX8, "flips", "(I)I"⟩
abbrev cX8_flipOf : ByteArray := prog_1_method_14_code
def yX8_flipOf : MethodName := ⟨RX8, "flipOf", "(II)I"⟩
abbrev cX8_number : ByteArray := prog_1_method_15_code
def yX8_number : MethodName := ⟨RX8, "number", "(I)I"⟩
abbrev cX8_flip : ByteArray := prog_1_method_16_code
def yX8_flip : MethodName := ⟨RX8, "flip", "(I)I"⟩
abbrev cX8_other : ByteArray := prog_1_method_17_code
def yX8_other : MethodName := ⟨RX8, "other", "(I)I"⟩
abbrev cX8_plan : ByteArray := prog_1_method_18_code
def yX8_plan : MethodName := ⟨RX8, "plan", "(II)I"⟩
abbrev cX8_fewer : ByteArray := prog_1_method_19_code
def yX8_fewer : MethodName := ⟨RX8, "fewer", "(I)I"⟩
abbrev cX8_walk : ByteArray := prog_1_method_20_code
def yX8_walk : MethodName := ⟨RX8, "walk", "(III)I"⟩
abbrev cX8_back : ByteArray := prog_1_method_21_code
def yX8_back : MethodName := ⟨RX8, "back", "()I"⟩
abbrev cX8_keep : ByteArray := prog_1_method_22_code
def yX8_keep : MethodName := ⟨RX8, "keep", "()I"⟩
abbrev cX8_take : ByteArray := prog_1_method_23_code
def yX8_take : MethodName := ⟨RX8, "take", "(I)I"⟩
abbrev cX8_kept : ByteArray := prog_1_method_24_code
def yX8_kept : MethodName := ⟨RX8, "kept", "(II)I"⟩
abbrev cX8_chain : ByteArray := prog_1_method_25_code
def yX8_chain : MethodName := ⟨RX8, "chain", "(III)I"⟩
abbrev cX8_alike : ByteArray := prog_1_method_26_code
def yX8_alike : MethodName := ⟨RX8, "alike", "(II)I"⟩
abbrev cX8_common : ByteArray := prog_1_method_27_code
def yX8_common : MethodName := ⟨RX8, "common", "(II)I"⟩
abbrev cX8_image : ByteArray := prog_1_method_28_code
def yX8_image : MethodName := ⟨RX8, "image", "()I"⟩
abbrev cX8_undo : ByteArray := prog_1_method_29_code
def yX8_undo : MethodName := ⟨RX8, "undo", "()I"⟩
abbrev cX8_feed : ByteArray := prog_1_method_30_code
def yX8_feed : MethodName := ⟨RX8, "feed", "(I)I"⟩
abbrev cX8_read : ByteArray := prog_1_method_31_code
def yX8_read : MethodName := ⟨RX8, "read", "()I"⟩
abbrev cX8_spell : ByteArray := prog_1_method_32_code
def yX8_spell : MethodName := ⟨RX8, "spell", "()I"⟩
abbrev cX8_paper : ByteArray := prog_1_method_33_code
def yX8_paper : MethodName := ⟨RX8, "paper", "(I)I"⟩
abbrev cX8_judge : ByteArray := prog_1_method_34_code
def yX8_judge : MethodName := ⟨RX8, "judge", "(I)I"⟩
abbrev cX8_list : ByteArray := prog_1_method_35_code
def yX8_list : MethodName := ⟨RX8, "list", "(II)I"⟩
abbrev cX8_put : ByteArray := prog_1_method_36_code
def yX8_put : MethodName := ⟨RX8, "put", "(III)I"⟩
abbrev cX8_get : ByteArray := prog_1_method_37_code
def yX8_get : MethodName := ⟨RX8, "get", "(II)J"⟩
abbrev cX8_copy : ByteArray := prog_1_method_38_code
def yX8_copy : MethodName := ⟨RX8, "copy", "(IIIII)I"⟩
abbrev cX8_count : ByteArray := prog_1_method_39_code
def yX8_count : MethodName := ⟨RX8, "count", "(I)I"⟩
abbrev cX8_isSet : ByteArray := prog_1_method_40_code
def yX8_isSet : MethodName := ⟨RX8, "isSet", "(I)Z"⟩
abbrev cX8_obey : ByteArray := prog_1_method_41_code
def yX8_obey : MethodName := ⟨RX8, "obey", "(I)I"⟩
abbrev cX8_writePoints : ByteArray := prog_1_method_42_code
def yX8_writePoints : MethodName := ⟨RX8, "writePoints", "(I)V"⟩
abbrev cX8_write : ByteArray := prog_1_method_43_code
def yX8_write : MethodName := ⟨RX8, "write", "(I)V"⟩
def RX9 : String := "FaceFlipsModel"
def TX9 : u_T := fun k => match k with
  | 0 => ("FaceFlipsModel", "size", "I", false)
  | 1 => ("FaceFlipsModel", "heap", "[Z", true)
  | 2 => ("FaceFlipsModel", "isFace", "[Z", true)
  | 3 => ("FaceFlipsModel", "within", "[I", true)
  | 4 => ("FaceFlipsModel", "there", "I", false)
  | 5 => ("FaceFlipsModel", "steps", "[[Z", true)
  | 6 => ("FaceFlipsModel", "stepped", "I", false)
  | 7 => ("FaceFlipsModel", "far", "[I", true)
  | 8 => ("FaceFlipsModel", "pile", "[I", true)
  | 9 => ("FaceFlipsModel", "flipA", "[[I", true)
  | 10 => ("FaceFlipsModel", "flipB", "[[I", true)
  | 11 => ("FaceFlipsModel", "flipped", "[I", true)
  | 12 => ("FaceFlipsModel", "thought", "[[Z", true)
  | 13 => ("FaceFlipsModel", "keptHeaps", "[[Z", true)
  | 14 => ("FaceFlipsModel", "keptSizes", "[I", true)
  | 15 => ("FaceFlipsModel", "kept", "I", false)
  | 16 => ("FaceFlipsModel", "row", "[I", true)
  | 17 => ("FaceFlipsModel", "names", "[I", true)
  | 18 => ("FaceFlipsModel", "text", "[B", true)
  | 19 => ("FaceFlipsModel", "texted", "I", false)
  | 20 => ("FaceFlipsModel", "at", "I", false)
  | 21 => ("FaceFlipsModel", "worded", "I", false)
  | 22 => ("FaceFlipsModel", "words", "[I", true)
  | 23 => ("FaceFlipsModel", "numbers", "[I", true)
  | 24 => ("FaceFlipsModel", "paper", "[B", true)
  | 25 => ("FaceFlipsModel", "spelled", "I", false)
  | 26 => ("FaceFlipsModel", "lengths", "[I", true)
  | 27 => ("FaceFlipsModel", "lists", "[[I", true)
  | 28 => ("FaceFlipsModel", "isImage", "Z", false)
  | 29 => ("FaceFlipsModel", "imageSize", "I", false)
  | 30 => ("FaceFlipsModel", "imageKept", "I", false)
  | 31 => ("FaceFlipsModel", "imageHeap", "[Z", true)
  | 32 => ("FaceFlipsModel", "imageHeaps", "[[Z", true)
  | _ => ("FaceFlipsModel", "imageSizes", "[I", true)
def tyX9 : Nat → FieldType := fun k => match k with
  | 0 => .int
  | 1 => .array .boolean
  | 2 => .array .boolean
  | 3 => .array .int
  | 4 => .int
  | 5 => .array (.array .boolean)
  | 6 => .int
  | 7 => .array .int
  | 8 => .array .int
  | 9 => .array (.array .int)
  | 10 => .array (.array .int)
  | 11 => .array .int
  | 12 => .array (.array .boolean)
  | 13 => .array (.array .boolean)
  | 14 => .array .int
  | 15 => .int
  | 16 => .array .int
  | 17 => .array .int
  | 18 => .array .byte
  | 19 => .int
  | 20 => .int
  | 21 => .int
  | 22 => .array .int
  | 23 => .array .int
  | 24 => .array .byte
  | 25 => .int
  | 26 => .array .int
  | 27 => .array (.array .int)
  | 28 => .boolean
  | 29 => .int
  | 30 => .int
  | 31 => .array .boolean
  | 32 => .array (.array .boolean)
  | _ => .array .int
abbrev wsX90 : List Cond := u_ws RX9 TX9 34
theorem nmX9 : ∀ a, a < 34 → ∀ b, b < 34 → a ≠ b → (TX9 a).2.1 ≠ (TX9 b).2.1 := by decide +kernel
theorem tyX9_ok : ∀ k, k < 34 → parseFieldDescriptor (TX9 k).2.2.1 = some (tyX9 k) := by decide +kernel
abbrev cX9_init : ByteArray := prog_11_method_1_code
def yX9_init : MethodName := ⟨RX9, "<init>", "()V"⟩
abbrev cX9_in : ByteArray := prog_11_method_2_code
def yX9_in : MethodName := ⟨RX9, "in", "(III)Z"⟩
abbrev cX9_isSet : ByteArray := prog_11_method_3_code
def yX9_isSet : MethodName := ⟨RX9, "isSet", "(I)Z"⟩
abbrev cX9_many : ByteArray := prog_11_method_4_code
def yX9_many : MethodName := ⟨RX9, "many", "(I)I"⟩
abbrev cX9_bodiesOf : ByteArray := prog_11_method_5_code
def yX9_bodiesOf : MethodName := ⟨RX9, "bodiesOf", "([Z)I"⟩
abbrev cX9_lays : ByteArray := prog_11_method_6_code
def yX9_lays : MethodName := ⟨RX9, "lays", "([Z[Z)V"⟩
abbrev cX9_layFaces : ByteArray := prog_11_method_7_code
def yX9_layFaces : MethodName := ⟨RX9, "layFaces", "([Z)V"⟩
abbrev cX9_linkOf : ByteArray := prog_11_method_8_code
def yX9_linkOf : MethodName := ⟨RX9, "linkOf", "(I)I"⟩
abbrev cX9_linked : ByteArray := prog_11_method_9_code
def yX9_linked : MethodName := ⟨RX9, "linked", "(I)I"⟩
abbrev cX9_facesOf : ByteArray := prog_11_method_10_code
def yX9_facesOf : MethodName := ⟨RX9, "facesOf", "(I)I"⟩
abbrev cX9_euler : ByteArray := prog_11_method_11_code
def yX9_euler : MethodName := ⟨RX9, "euler", "()I"⟩
abbrev cX9_isWall : ByteArray := prog_11_method_12_code
def yX9_isWall : MethodName := ⟨RX9, "isWall", "(II)Z"⟩
abbrev cX9_walls : ByteArray := prog_11_method_13_code
def yX9_walls : MethodName := ⟨RX9, "walls", "(I)I"⟩
abbrev cX9_right : ByteArray := prog_11_method_14_code
def yX9_right : MethodName := ⟨RX9, "right", "()I"⟩
abbrev cX9_remembers : ByteArray := prog_11_method_15_code
def yX9_remembers : MethodName := ⟨RX9, "remembers", "()V"⟩
abbrev cX9_bodies : ByteArray := prog_11_method_16_code
def yX9_bodies : MethodName := ⟨RX9, "bodies", "(I)I"⟩
abbrev cX9_isOne : ByteArray := prog_11_method_17_code
def yX9_isOne : MethodName := ⟨RX9, "isOne", "(II)Z"⟩
abbrev cX9_isCross : ByteArray := prog_11_method_18_code
def yX9_isCross : MethodName := ⟨RX9, "isCross", "(I)Z"⟩
abbrev cX9_run : ByteArray := prog_11_method_19_code
def yX9_run : MethodName := ⟨RX9, "run", "(I)I"⟩
abbrev cX9_make : ByteArray := prog_11_method_20_code
def yX9_make : MethodName := ⟨RX9, "make", "(I)I"⟩
abbrev cX9_isBody : ByteArray := prog_11_method_21_code
def yX9_isBody : MethodName := ⟨RX9, "isBody", "(I)Z"⟩
abbrev cX9_body : ByteArray := prog_11_method_22_code
def yX9_body : MethodName := ⟨RX9, "body", "(I)I"⟩
abbrev cX9_bodyOf : ByteArray := prog_11_method_23_code
def yX9_bodyOf : MethodName := ⟨RX9, "bodyOf", "(I)I"⟩
abbrev cX9_heap : ByteArray := prog_11_method_24_code
def yX9_heap : MethodName := ⟨RX9, "heap", "(I)I"⟩
abbrev cX9_areBeside : ByteArray := prog_11_method_25_code
def yX9_areBeside : MethodName := ⟨RX9, "areBeside", "(II)Z"⟩
abbrev cX9_spreads : ByteArray := prog_11_method_26_code
def yX9_spreads : MethodName := ⟨RX9, "spreads", "(I)V"⟩
abbrev cX9_parts : ByteArray := prog_11_method_27_code
def yX9_parts : MethodName := ⟨RX9, "parts", "()I"⟩
abbrev cX9_bodyAt : ByteArray := prog_11_method_28_code
def yX9_bodyAt : MethodName := ⟨RX9, "bodyAt", "(I)I"⟩
abbrev cX9_apart : ByteArray := prog_11_method_29_code
def yX9_apart : MethodName := ⟨RX9, "apart", "(II)I"⟩
abbrev cX9_below : ByteArray := prog_11_method_30_code
def yX9_below : MethodName := ⟨RX9, "below", "(II)I"⟩
abbrev cX9_areSigned : ByteArray := prog_11_method_31_code
def yX9_areSigned : MethodName := ⟨RX9, "areSigned", "(II)Z"⟩
abbrev cX9_isTwoSided : ByteArray := prog_11_method_32_code
def yX9_isTwoSided : MethodName := ⟨RX9, "isTwoSided", "()Z"⟩
abbrev cX9_areAgreed : ByteArray := prog_11_method_33_code
def yX9_areAgreed : MethodName := ⟨RX9, "areAgreed", "(I)Z"⟩
abbrev cX9_cone : ByteArray := prog_11_method_34_code
def yX9_cone : MethodName := ⟨RX9, "cone", "(I)I"⟩
abbrev cX9_faces : ByteArray := prog_11_method_35_code
def yX9_faces : MethodName := ⟨RX9, "faces", "(I)I"⟩
abbrev cX9_face : ByteArray := prog_11_method_36_code
def yX9_face : MethodName := ⟨RX9, "face", "(II)I"⟩
abbrev cX9_wall : ByteArray := prog_11_method_37_code
def yX9_wall : MethodName := ⟨RX9, "wall", "(I)I"⟩
abbrev cX9_forWhat : ByteArray := prog_11_method_38_code
def yX9_forWhat : MethodName := ⟨RX9, "forWhat", "(I)I"⟩
abbrev cX9_layFlips : ByteArray := prog_11_method_39_code
def yX9_layFlips : MethodName := ⟨RX9, "layFlips", "([ZI)V"⟩
abbrev cX9_does : ByteArray := prog_11_method_40_code
def yX9_does : MethodName := ⟨RX9, "does", "([ZII)V"⟩
abbrev cX9_find : ByteArray := prog_11_method_41_code
def yX9_find : MethodName := ⟨RX9, "find", "(II)I"⟩
abbrev cX9_flips : ByteArray := prog_11_method_42_code
def yX9_flips : MethodName := ⟨RX9, "flips", "(I)I"⟩
abbrev cX9_flipOf : ByteArray := prog_11_method_43_code
def yX9_flipOf : MethodName := ⟨RX9, "flipOf", "(II)I"⟩
abbrev cX9_number : ByteArray := prog_11_method_44_code
def yX9_number : MethodName := ⟨RX9, "number", "(I)I"⟩
abbrev cX9_flip : ByteArray := prog_11_method_45_code
def yX9_flip : MethodName := ⟨RX9, "flip", "(I)I"⟩
abbrev cX9_other : ByteArray := prog_11_method_46_code
def yX9_other : MethodName := ⟨RX9, "other", "(I)I"⟩
abbrev cX9_back : ByteArray := prog_11_method_47_code
def yX9_back : MethodName := ⟨RX9, "back", "()I"⟩
abbrev cX9_isKept : ByteArray := prog_11_method_48_code
def yX9_isKept : MethodName := ⟨RX9, "isKept", "(I)Z"⟩
abbrev cX9_keep : ByteArray := prog_11_method_49_code
def yX9_keep : MethodName := ⟨RX9, "keep", "()I"⟩
abbrev cX9_take : ByteArray := prog_11_method_50_code
def yX9_take : MethodName := ⟨RX9, "take", "(I)I"⟩
abbrev cX9_kept : ByteArray := prog_11_method_51_code
def yX9_kept : MethodName := ⟨RX9, "kept", "(II)I"⟩
abbrev cX9_areSame : ByteArray := prog_11_method_52_code
def yX9_areSame : MethodName := ⟨RX9, "areSame", "([Z[Z)Z"⟩
abbrev cX9_leads : ByteArray := prog_11_method_53_code
def yX9_leads : MethodName := ⟨RX9, "leads", "(II[ZI)Z"⟩
abbrev cX9_chain : ByteArray := prog_11_method_54_code
def yX9_chain : MethodName := ⟨RX9, "chain", "(III)I"⟩
abbrev cX9_named : ByteArray := prog_11_method_55_code
def yX9_named : MethodName := ⟨RX9, "named", "(I)I"⟩
abbrev cX9_areNamed : ByteArray := prog_11_method_56_code
def yX9_areNamed : MethodName := ⟨RX9, "areNamed", "(II)Z"⟩
abbrev cX9_canName : ByteArray := prog_11_method_57_code
def yX9_canName : MethodName := ⟨RX9, "canName", "(II[Z[Z)Z"⟩
abbrev cX9_alike : ByteArray := prog_11_method_58_code
def yX9_alike : MethodName := ⟨RX9, "alike", "(II)I"⟩
abbrev cX9_common : ByteArray := prog_11_method_59_code
def yX9_common : MethodName := ⟨RX9, "common", "(II)I"⟩
abbrev cX9_firstFewer : ByteArray := prog_11_method_60_code
def yX9_firstFewer : MethodName := ⟨RX9, "firstFewer", "()I"⟩
abbrev cX9_fewer : ByteArray := prog_11_method_61_code
def yX9_fewer : MethodName := ⟨RX9, "fewer", "(I)I"⟩
abbrev cX9_walk : ByteArray := prog_11_method_62_code
def yX9_walk : MethodName := ⟨RX9, "walk", "(III)I"⟩
abbrev cX9_feed : ByteArray := prog_11_method_63_code
def yX9_feed : MethodName := ⟨RX9, "feed", "(I)I"⟩
abbrev cX9_wordOf : ByteArray := prog_11_method_64_code
def yX9_wordOf : MethodName := ⟨RX9, "wordOf", "(I)Ljava/lang/String;"⟩
abbrev cX9_areDigits : ByteArray := prog_11_method_65_code
def yX9_areDigits : MethodName := ⟨RX9, "areDigits", "(II)Z"⟩
abbrev cX9_isLetter : ByteArray := prog_11_method_66_code
def yX9_isLetter : MethodName := ⟨RX9, "isLetter", "(I)Z"⟩
abbrev cX9_isDigit : ByteArray := prog_11_method_67_code
def yX9_isDigit : MethodName := ⟨RX9, "isDigit", "(I)Z"⟩
abbrev cX9_isWord : ByteArray := prog_11_method_68_code
def yX9_isWord : MethodName := ⟨RX9, "isWord", "(Ljava/lang/String;I)Z"⟩
abbrev cX9_takesWord : ByteArray := prog_11_method_69_code
def yX9_takesWord : MethodName := ⟨RX9, "takesWord", "()Z"⟩
abbrev cX9_numberOf : ByteArray := prog_11_method_70_code
def yX9_numberOf : MethodName := ⟨RX9, "numberOf", "(II)I"⟩
abbrev cX9_setOf : ByteArray := prog_11_method_71_code
def yX9_setOf : MethodName := ⟨RX9, "setOf", "(II)I"⟩
abbrev cX9_takesAll : ByteArray := prog_11_method_72_code
def yX9_takesAll : MethodName := ⟨RX9, "takesAll", "()Z"⟩
abbrev cX9_isDone : ByteArray := prog_11_method_73_code
def yX9_isDone : MethodName := ⟨RX9, "isDone", "(I)Z"⟩
abbrev cX9_read : ByteArray := prog_11_method_74_code
def yX9_read : MethodName := ⟨RX9, "read", "()I"⟩
abbrev cX9_writes : ByteArray := prog_11_method_75_code
def yX9_writes : MethodName := ⟨RX9, "writes", "(I)V"⟩
abbrev cX9_spell : ByteArray := prog_11_method_76_code
def yX9_spell : MethodName := ⟨RX9, "spell", "()I"⟩
abbrev cX9_paper : ByteArray := prog_11_method_77_code
def yX9_paper : MethodName := ⟨RX9, "paper", "(I)I"⟩
abbrev cX9_isList : ByteArray := prog_11_method_78_code
def yX9_isList : MethodName := ⟨RX9, "isList", "(I)Z"⟩
abbrev cX9_judge : ByteArray := prog_11_method_79_code
def yX9_judge : MethodName := ⟨RX9, "judge", "(I)I"⟩
abbrev cX9_isFit : ByteArray := prog_11_method_80_code
def yX9_isFit : MethodName := ⟨RX9, "isFit", "(III)Z"⟩
abbrev cX9_isAgain : ByteArray := prog_11_method_81_code
def yX9_isAgain : MethodName := ⟨RX9, "isAgain", "(II)Z"⟩
abbrev cX9_shelled : ByteArray := prog_11_method_82_code
def yX9_shelled : MethodName := ⟨RX9, "shelled", "(I)I"⟩
abbrev cX9_plan : ByteArray := prog_11_method_83_code
def yX9_plan : MethodName := ⟨RX9, "plan", "(II)I"⟩
abbrev cX9_list : ByteArray := prog_11_method_84_code
def yX9_list : MethodName := ⟨RX9, "list", "(II)I"⟩
abbrev cX9_isPlace : ByteArray := prog_11_method_85_code
def yX9_isPlace : MethodName := ⟨RX9, "isPlace", "(II)Z"⟩
abbrev cX9_put : ByteArray := prog_11_method_86_code
def yX9_put : MethodName := ⟨RX9, "put", "(III)I"⟩
abbrev cX9_get : ByteArray := prog_11_method_87_code
def yX9_get : MethodName := ⟨RX9, "get", "(II)J"⟩
abbrev cX9_isSpan : ByteArray := prog_11_method_88_code
def yX9_isSpan : MethodName := ⟨RX9, "isSpan", "(III)Z"⟩
abbrev cX9_copy : ByteArray := prog_11_method_89_code
def yX9_copy : MethodName := ⟨RX9, "copy", "(IIIII)I"⟩
abbrev cX9_image : ByteArray := prog_11_method_90_code
def yX9_image : MethodName := ⟨RX9, "image", "()I"⟩
abbrev cX9_undo : ByteArray := prog_11_method_91_code
def yX9_undo : MethodName := ⟨RX9, "undo", "()I"⟩
abbrev cX9_count : ByteArray := prog_11_method_92_code
def yX9_count : MethodName := ⟨RX9, "count", "(I)I"⟩
def RJ6 : String := "java/lang/Integer"
def TJ6 : u_T := fun k => match k with
  | _ => ("", "", "", false)
def tyJ6 : Nat → FieldType := fun k => match k with
  | _ => .int
abbrev wsJ60 : List Cond := u_ws RJ6 TJ6 0
theorem nmJ6 : ∀ a, a < 0 → ∀ b, b < 0 → a ≠ b → (TJ6 a).2.1 ≠ (TJ6 b).2.1 := by decide +kernel
theorem tyJ6_ok : ∀ k, k < 0 → parseFieldDescriptor (TJ6 k).2.2.1 = some (tyJ6 k) := by decide +kernel
abbrev cJ6_bitCount_0f7a4 : ByteArray := prog_12_method_49_code
def yJ6_bitCount_0f7a4 : MethodName := ⟨RJ6, "bitCount", "(I)I"⟩
def RJ9 : String := "java/lang/Math"
def TJ9 : u_T := fun k => match k with
  | _ => ("", "", "", false)
def tyJ9 : Nat → FieldType := fun k => match k with
  | _ => .int
abbrev wsJ90 : List Cond := u_ws RJ9 TJ9 0
theorem nmJ9 : ∀ a, a < 0 → ∀ b, b < 0 → a ≠ b → (TJ9 a).2.1 ≠ (TJ9 b).2.1 := by decide +kernel
theorem tyJ9_ok : ∀ k, k < 0 → parseFieldDescriptor (TJ9 k).2.2.1 = some (tyJ9 k) := by decide +kernel
abbrev cJ9_min_7cf53 : ByteArray := prog_13_method_69_code
def yJ9_min_7cf53 : MethodName := ⟨RJ9, "min", "(II)I"⟩
def RJ0 : String := "java/lang/String"
def TJ0 : u_T := fun k => match k with
  | _ => ("", "", "", false)
def tyJ0 : Nat → FieldType := fun k => match k with
  | _ => .int
abbrev wsJ00 : List Cond := u_ws RJ0 TJ0 0
theorem nmJ0 : ∀ a, a < 0 → ∀ b, b < 0 → a ≠ b → (TJ0 a).2.1 ≠ (TJ0 b).2.1 := by decide +kernel
theorem tyJ0_ok : ∀ k, k < 0 → parseFieldDescriptor (TJ0 k).2.2.1 = some (tyJ0 k) := by decide +kernel
abbrev cJ0_length_8abf5 : ByteArray := prog_14_method_54_code
def yJ0_length_8abf5 : MethodName := ⟨RJ0, "length", "()I"⟩
abbrev cJ0_charAt_5068e : ByteArray := prog_14_method_56_code
def yJ0_charAt_5068e : MethodName := ⟨RJ0, "charAt", "(I)C"⟩
abbrev cJ0_coder_7d493 : ByteArray := prog_14_method_152_code
def yJ0_coder_7d493 : MethodName := ⟨RJ0, "coder", "()B"⟩
abbrev cJ0_isLatin1_aae02 : ByteArray := prog_14_method_154_code
def yJ0_isLatin1_aae02 : MethodName := ⟨RJ0, "isLatin1", "()Z"⟩
abbrev cJ0_checkIndex_df160 : ByteArray := prog_14_method_155_code
def yJ0_checkIndex_df160 : MethodName := ⟨RJ0, "checkIndex", "(II)V"⟩
def RJ1 : String := "java/lang/StringLatin1"
def TJ1 : u_T := fun k => match k with
  | _ => ("", "", "", false)
def tyJ1 : Nat → FieldType := fun k => match k with
  | _ => .int
abbrev wsJ10 : List Cond := u_ws RJ1 TJ1 0
theorem nmJ1 : ∀ a, a < 0 → ∀ b, b < 0 → a ≠ b → (TJ1 a).2.1 ≠ (TJ1 b).2.1 := by decide +kernel
theorem tyJ1_ok : ∀ k, k < 0 → parseFieldDescriptor (TJ1 k).2.2.1 = some (tyJ1 k) := by decide +kernel
abbrev cJ1_charAt_3b067 : ByteArray := prog_15_method_2_code
def yJ1_charAt_3b067 : MethodName := ⟨RJ1, "charAt", "([BI)C"⟩
def RJ2 : String := "java/lang/StringUTF16"
def TJ2 : u_T := fun k => match k with
  | _ => ("", "", "", false)
def tyJ2 : Nat → FieldType := fun k => match k with
  | _ => .int
abbrev wsJ20 : List Cond := u_ws RJ2 TJ2 0
theorem nmJ2 : ∀ a, a < 0 → ∀ b, b < 0 → a ≠ b → (TJ2 a).2.1 ≠ (TJ2 b).2.1 := by decide +kernel
theorem tyJ2_ok : ∀ k, k < 0 → parseFieldDescriptor (TJ2 k).2.2.1 = some (tyJ2 k) := by decide +kernel
abbrev cJ2_getChar_3b067 : ByteArray := prog_16_method_5_code
def yJ2_getChar_3b067 : MethodName := ⟨RJ2, "getChar", "([BI)C"⟩
abbrev cJ2_length_9d52b : ByteArray := prog_16_method_6_code
def yJ2_length_9d52b : MethodName := ⟨RJ2, "length", "([B)I"⟩
abbrev cJ2_charAt_3b067 : ByteArray := prog_16_method_83_code
def yJ2_charAt_3b067 : MethodName := ⟨RJ2, "charAt", "([BI)C"⟩
abbrev cJ2_checkIndex_2214a : ByteArray := prog_16_method_91_code
def yJ2_checkIndex_2214a : MethodName := ⟨RJ2, "checkIndex", "(I[B)V"⟩
def RJ10 : String := "java/lang/System"
def TJ10 : u_T := fun k => match k with
  | _ => ("", "", "", false)
def tyJ10 : Nat → FieldType := fun k => match k with
  | _ => .int
abbrev wsJ100 : List Cond := u_ws RJ10 TJ10 0
theorem nmJ10 : ∀ a, a < 0 → ∀ b, b < 0 → a ≠ b → (TJ10 a).2.1 ≠ (TJ10 b).2.1 := by decide +kernel
theorem tyJ10_ok : ∀ k, k < 0 → parseFieldDescriptor (TJ10 k).2.2.1 = some (tyJ10 k) := by decide +kernel
def RJ3 : String := "jdk/internal/util/Preconditions"
def TJ3 : u_T := fun k => match k with
  | _ => ("", "", "", false)
def tyJ3 : Nat → FieldType := fun k => match k with
  | _ => .int
abbrev wsJ30 : List Cond := u_ws RJ3 TJ3 0
theorem nmJ3 : ∀ a, a < 0 → ∀ b, b < 0 → a ≠ b → (TJ3 a).2.1 ≠ (TJ3 b).2.1 := by decide +kernel
theorem tyJ3_ok : ∀ k, k < 0 → parseFieldDescriptor (TJ3 k).2.2.1 = some (tyJ3 k) := by decide +kernel
abbrev cJ3_checkIndex_8e157 : ByteArray := prog_18_method_11_code
def yJ3_checkIndex_8e157 : MethodName := ⟨RJ3, "checkIndex", "(IILjava/util/function/BiFunction;)I"⟩
def RL : String := "FaceFlipsLaw"
abbrev cL_law : ByteArray := code
def yL_law : MethodName := ⟨RL, "law", "([I)Z"⟩
def wsL_law_r1 : List Cond := [Cond.classLink RL 7 RX8, Cond.instantiable RX8 15, Cond.initialized RX8, Cond.classLink RL 10 RX9, Cond.instantiable RX9 34, Cond.initialized RX9, Cond.methodLink RL 9 yX8_init, Cond.instanceMethod yX8_init, Cond.code yX8_init cX8_init 1 none, Cond.methodLink RX8 3 objectInit, Cond.instanceMethod objectInit, Cond.code objectInit ⟨#[0xb1]⟩ 1 none, Cond.classLink RX8 9 RX0, Cond.instantiable RX0 2, Cond.initialized RX0, Cond.fieldLink RX8 12 "FaceFlips" "now" "LFaceFlips$Heap;", Cond.fieldLink RX8 18 "FaceFlips" "thought" "LFaceFlips$Heap;", Cond.arrayClass .int, Cond.fieldLink RX8 21 "FaceFlips" "found" "[I", Cond.classLink RX8 25 RX2, Cond.instantiable RX2 3, Cond.initialized RX2, Cond.fieldLink RX8 28 "FaceFlips" "past" "LFaceFlips$Past;", Cond.classLink RX8 32 RX5]
def wsL_law_r2 : List Cond := [Cond.instantiable RX5 2, Cond.initialized RX5, Cond.fieldLink RX8 35 "FaceFlips" "shelf" "LFaceFlips$Shelf;", Cond.fieldLink RX8 39 "FaceFlips" "oldHeap" "LFaceFlips$Heap;", Cond.classLink RX8 42 RX7, Cond.instantiable RX7 6, Cond.initialized RX7, Cond.fieldLink RX8 45 "FaceFlips" "ways" "LFaceFlips$Ways;", Cond.classLink RX8 49 RX4, Cond.instantiable RX4 4, Cond.initialized RX4, Cond.fieldLink RX8 52 "FaceFlips" "search" "LFaceFlips$Search;", Cond.classLink RX8 56 RX1, Cond.instantiable RX1 3, Cond.initialized RX1, Cond.fieldLink RX8 59 "FaceFlips" "names" "LFaceFlips$Names;", Cond.classLink RX8 63 RX3, Cond.instantiable RX3 2, Cond.initialized RX3, Cond.fieldLink RX8 66 "FaceFlips" "rows" "LFaceFlips$Rows;", Cond.classLink RX8 70 RX6, Cond.instantiable RX6 6, Cond.initialized RX6, Cond.fieldLink RX8 73 "FaceFlips" "text" "LFaceFlips$Text;"]
def wsL_law_r3 : List Cond := [Cond.arrayClass .byte, Cond.fieldLink RX8 77 "FaceFlips" "spelled" "[B", Cond.methodLink RX8 11 yX0_init, Cond.instanceMethod yX0_init, Cond.code yX0_init cX0_init 1 none, Cond.methodLink RX0 3 objectInit, Cond.fieldLink RX0 9 "FaceFlips$Heap" "k" "I", Cond.fieldLink RX0 15 "FaceFlips$Heap" "within" "[I", Cond.methodLink RX8 27 yX2_init, Cond.instanceMethod yX2_init, Cond.code yX2_init cX2_init 2 none, Cond.methodLink RX2 3 objectInit, Cond.classLink RX2 9 RX0, Cond.fieldLink RX2 11 "FaceFlips$Past" "steps" "[LFaceFlips$Heap;", Cond.methodLink RX2 17 yX0_init, Cond.methodLink RX8 34 yX5_init, Cond.instanceMethod yX5_init, Cond.code yX5_init cX5_init 2 none, Cond.methodLink RX5 3 objectInit, Cond.classLink RX5 9 RX0, Cond.fieldLink RX5 11 "FaceFlips$Shelf" "heaps" "[LFaceFlips$Heap;", Cond.methodLink RX5 17 yX0_init, Cond.instanceMethod yX7_init, Cond.code yX7_init cX7_init 1 none]
def wsL_law_r4 : List Cond := [Cond.methodLink RX7 3 objectInit, Cond.fieldLink RX7 9 "FaceFlips$Ways" "bodies" "[I", Cond.fieldLink RX7 15 "FaceFlips$Ways" "steps" "[I", Cond.fieldLink RX7 18 "FaceFlips$Ways" "sign" "[I", Cond.fieldLink RX7 21 "FaceFlips$Ways" "queue" "[I", Cond.instanceMethod yX4_init, Cond.code yX4_init cX4_init 1 none, Cond.methodLink RX4 3 objectInit, Cond.classLink RX4 9 RX0, Cond.fieldLink RX4 12 "FaceFlips$Search" "heap" "LFaceFlips$Heap;", Cond.fieldLink RX4 18 "FaceFlips$Search" "path" "[I", Cond.methodLink RX4 11 yX0_init, Cond.instanceMethod yX1_init, Cond.code yX1_init cX1_init 1 none, Cond.methodLink RX1 3 objectInit, Cond.fieldLink RX1 9 "FaceFlips$Names" "renamed" "[I", Cond.methodLink RX8 65 yX3_init, Cond.instanceMethod yX3_init, Cond.code yX3_init cX3_init 2 none, Cond.methodLink RX3 3 objectInit, Cond.fieldLink RX3 9 "FaceFlips$Rows" "cells" "[I", Cond.fieldLink RX3 15 "FaceFlips$Rows" "sizes" "[I", Cond.instanceMethod yX6_init, Cond.code yX6_init cX6_init 1 none]
def wsL_law_r5 : List Cond := [Cond.methodLink RX6 3 objectInit, Cond.fieldLink RX6 9 "FaceFlips$Text" "signs" "[B", Cond.fieldLink RX6 15 "FaceFlips$Text" "word" "[I", Cond.fieldLink RX6 19 "FaceFlips$Text" "digits" "[I", Cond.fieldLink RX6 22 "FaceFlips$Text" "end" "[I", Cond.methodLink RL 12 yX9_init, Cond.instanceMethod yX9_init, Cond.code yX9_init cX9_init 2 none, Cond.methodLink RX9 3 objectInit, Cond.fieldLink RX9 9 "FaceFlipsModel" "size" "I", Cond.arrayClass .boolean, Cond.fieldLink RX9 15 "FaceFlipsModel" "heap" "[Z", Cond.fieldLink RX9 19 "FaceFlipsModel" "isFace" "[Z", Cond.fieldLink RX9 22 "FaceFlipsModel" "within" "[I", Cond.classLink RX9 26 "[[Z", Cond.fieldLink RX9 28 "FaceFlipsModel" "steps" "[[Z", Cond.fieldLink RX9 31 "FaceFlipsModel" "far" "[I", Cond.fieldLink RX9 34 "FaceFlipsModel" "pile" "[I", Cond.classLink RX9 37 "[[I", Cond.fieldLink RX9 39 "FaceFlipsModel" "flipA" "[[I", Cond.fieldLink RX9 42 "FaceFlipsModel" "flipB" "[[I", Cond.fieldLink RX9 45 "FaceFlipsModel" "flipped" "[I", Cond.fieldLink RX9 48 "FaceFlipsModel" "thought" "[[Z", Cond.fieldLink RX9 51 "FaceFlipsModel" "keptHeaps" "[[Z"]
def wsL_law_r6 : List Cond := [Cond.fieldLink RX9 54 "FaceFlipsModel" "keptSizes" "[I", Cond.fieldLink RX9 57 "FaceFlipsModel" "row" "[I", Cond.fieldLink RX9 60 "FaceFlipsModel" "names" "[I", Cond.fieldLink RX9 63 "FaceFlipsModel" "text" "[B", Cond.fieldLink RX9 67 "FaceFlipsModel" "words" "[I", Cond.fieldLink RX9 70 "FaceFlipsModel" "numbers" "[I", Cond.fieldLink RX9 73 "FaceFlipsModel" "paper" "[B", Cond.fieldLink RX9 76 "FaceFlipsModel" "lengths" "[I", Cond.fieldLink RX9 79 "FaceFlipsModel" "lists" "[[I", Cond.fieldLink RX9 82 "FaceFlipsModel" "imageHeap" "[Z", Cond.fieldLink RX9 85 "FaceFlipsModel" "imageHeaps" "[[Z", Cond.fieldLink RX9 88 "FaceFlipsModel" "imageSizes" "[I", Cond.methodLink RL 13 yX8_bodies, Cond.instanceMethod yX8_bodies, Cond.selects RX8 yX8_bodies yX8_bodies, Cond.code yX8_bodies cX8_bodies 3 (some .int), Cond.methodLink RX8 85 yX0_empty, Cond.instanceMethod yX0_empty, Cond.selects RX0 yX0_empty yX0_empty, Cond.code yX0_empty cX0_empty 3 none, Cond.methodLink RX8 89 yX2_forget, Cond.instanceMethod yX2_forget, Cond.selects RX2 yX2_forget yX2_forget, Cond.code yX2_forget cX2_forget 1 none]
def wsL_law_r7 : List Cond := [Cond.fieldLink RX2 26 "FaceFlips$Past" "known" "I", Cond.methodLink RL 17 yX9_bodies, Cond.instanceMethod yX9_bodies, Cond.selects RX9 yX9_bodies yX9_bodies, Cond.code yX9_bodies cX9_bodies 4 (some .int), Cond.fieldLink RX9 120 "FaceFlipsModel" "stepped" "I", Cond.methodLink RX9 91 yX9_in, Cond.static yX9_in, Cond.code yX9_in cX9_in 3 (some .boolean), Cond.methodLink RL 18 yX8_make, Cond.instanceMethod yX8_make, Cond.selects RX8 yX8_make yX8_make, Cond.code yX8_make cX8_make 2 (some .int), Cond.methodLink RX8 92 yX2_note, Cond.instanceMethod yX2_note, Cond.selects RX2 yX2_note yX2_note, Cond.code yX2_note cX2_note 2 none, Cond.fieldLink RX2 18 "FaceFlips$Past" "next" "I", Cond.methodLink RX2 29 Lib.Math.min.name, Cond.static Lib.Math.min.name, Cond.initialized "java/lang/Math", Cond.code Lib.Math.min.name Lib.Math.min.code 2 (some .int), Cond.methodLink RX2 22 yX0_copyOf, Cond.instanceMethod yX0_copyOf]
def wsL_law_r8 : List Cond := [Cond.selects RX0 yX0_copyOf yX0_copyOf, Cond.code yX0_copyOf cX0_copyOf 2 none, Cond.methodLink RX0 19 arraycopyName, Cond.native arraycopyName, Cond.static arraycopyName, Cond.initialized "java/lang/System", Cond.methodLink RX8 96 yX0_become, Cond.instanceMethod yX0_become, Cond.selects RX0 yX0_become yX0_become, Cond.code yX0_become cX0_become 2 none, Cond.methodLink RX0 35 yX0_empty, Cond.methodLink RX0 38 yX0_arc, Cond.instanceMethod yX0_arc, Cond.selects RX0 yX0_arc yX0_arc, Cond.code yX0_arc cX0_arc 3 (some .int), Cond.methodLink RX0 31 yX0_toggle, Cond.instanceMethod yX0_toggle, Cond.selects RX0 yX0_toggle yX0_toggle, Cond.code yX0_toggle cX0_toggle 6 none, Cond.methodLink RX0 41 yX0_toggleAround, Cond.instanceMethod yX0_toggleAround, Cond.selects RX0 yX0_toggleAround yX0_toggleAround, Cond.code yX0_toggleAround cX0_toggleAround 3 none, Cond.methodLink RX0 44 yX0_addArcs]
def wsL_law_r9 : List Cond := [Cond.instanceMethod yX0_addArcs, Cond.selects RX0 yX0_addArcs yX0_addArcs, Cond.code yX0_addArcs cX0_addArcs 3 none, Cond.methodLink RX0 47 yX0_addCross, Cond.instanceMethod yX0_addCross, Cond.selects RX0 yX0_addCross yX0_addCross, Cond.code yX0_addCross cX0_addCross 4 none, Cond.methodLink RX8 99 yX0_total, Cond.instanceMethod yX0_total, Cond.selects RX0 yX0_total yX0_total, Cond.code yX0_total cX0_total 1 (some .int), Cond.methodLink RL 21 yX9_make, Cond.instanceMethod yX9_make, Cond.selects RX9 yX9_make yX9_make, Cond.code yX9_make cX9_make 3 (some .int), Cond.methodLink RX9 130 yX9_remembers, Cond.instanceMethod yX9_remembers, Cond.selects RX9 yX9_remembers yX9_remembers, Cond.code yX9_remembers cX9_remembers 2 none, Cond.methodLink RX9 123 yX9_lays, Cond.static yX9_lays, Cond.code yX9_lays cX9_lays 2 none, Cond.methodLink RX9 101 arraycopyName, Cond.methodLink RX9 110 yX9_many]
def wsL_law_r10 : List Cond := [Cond.static yX9_many, Cond.code yX9_many cX9_many 1 (some .int), Cond.methodLink RX9 95 yJ6_bitCount_0f7a4, Cond.static yJ6_bitCount_0f7a4, Cond.initialized RJ6, Cond.code yJ6_bitCount_0f7a4 cJ6_bitCount_0f7a4 1 (some .int), Cond.constant RJ6 265 (1431655765), Cond.constant RJ6 266 (858993459), Cond.constant RJ6 267 (252645135), Cond.methodLink RX9 133 yX9_isCross, Cond.instanceMethod yX9_isCross, Cond.selects RX9 yX9_isCross yX9_isCross, Cond.code yX9_isCross cX9_isCross 4 (some .boolean), Cond.methodLink RX9 127 yX9_isOne, Cond.static yX9_isOne, Cond.code yX9_isOne cX9_isOne 2 (some .boolean), Cond.methodLink RX9 137 yX9_run, Cond.instanceMethod yX9_run, Cond.selects RX9 yX9_run yX9_run, Cond.code yX9_run cX9_run 4 (some .int), Cond.methodLink RX9 140 yX9_bodiesOf, Cond.static yX9_bodiesOf, Cond.code yX9_bodiesOf cX9_bodiesOf 3 (some .int), Cond.methodLink RL 22 yX8_body]
def wsL_law_r11 : List Cond := [Cond.instanceMethod yX8_body, Cond.selects RX8 yX8_body yX8_body, Cond.code yX8_body cX8_body 2 (some .int), Cond.methodLink RX8 103 yJ6_bitCount_0f7a4, Cond.methodLink RX8 109 yX0_toggle, Cond.methodLink RL 25 yX9_body, Cond.instanceMethod yX9_body, Cond.selects RX9 yX9_body yX9_body, Cond.code yX9_body cX9_body 2 (some .int), Cond.methodLink RX9 147 yX9_isBody, Cond.instanceMethod yX9_isBody, Cond.selects RX9 yX9_isBody yX9_isBody, Cond.code yX9_isBody cX9_isBody 2 (some .boolean), Cond.methodLink RX9 144 yX9_isSet, Cond.static yX9_isSet, Cond.code yX9_isSet cX9_isSet 1 (some .boolean), Cond.methodLink RL 26 yX8_bodyOf, Cond.instanceMethod yX8_bodyOf, Cond.selects RX8 yX8_bodyOf yX8_bodyOf, Cond.code yX8_bodyOf cX8_bodyOf 2 (some .int), Cond.methodLink RX8 112 yX0_setAt, Cond.instanceMethod yX0_setAt, Cond.selects RX0 yX0_setAt yX0_setAt, Cond.code yX0_setAt cX0_setAt 6 (some .int)]
def wsL_law_r12 : List Cond := [Cond.methodLink RX0 25 yJ6_bitCount_0f7a4, Cond.methodLink RL 29 yX9_bodyOf, Cond.instanceMethod yX9_bodyOf, Cond.selects RX9 yX9_bodyOf yX9_bodyOf, Cond.code yX9_bodyOf cX9_bodyOf 4 (some .int), Cond.methodLink RL 30 yX8_heap, Cond.instanceMethod yX8_heap, Cond.selects RX8 yX8_heap yX8_heap, Cond.code yX8_heap cX8_heap 2 (some .int), Cond.methodLink RX8 116 yX0_there, Cond.instanceMethod yX0_there, Cond.selects RX0 yX0_there yX0_there, Cond.code yX0_there cX0_there 1 (some .int), Cond.methodLink RX0 50 yX0_linkPoints, Cond.instanceMethod yX0_linkPoints, Cond.selects RX0 yX0_linkPoints yX0_linkPoints, Cond.code yX0_linkPoints cX0_linkPoints 5 (some .int), Cond.methodLink RX8 119 yX0_walls, Cond.instanceMethod yX0_walls, Cond.selects RX0 yX0_walls yX0_walls, Cond.code yX0_walls cX0_walls 3 (some .int), Cond.methodLink RX0 56 yX0_isWall, Cond.instanceMethod yX0_isWall, Cond.selects RX0 yX0_isWall yX0_isWall]
def wsL_law_r13 : List Cond := [Cond.code yX0_isWall cX0_isWall 2 (some .boolean), Cond.methodLink RX8 122 yX0_isRight, Cond.instanceMethod yX0_isRight, Cond.selects RX0 yX0_isRight yX0_isRight, Cond.code yX0_isRight cX0_isRight 2 (some .boolean), Cond.methodLink RX8 126 yX0_euler, Cond.instanceMethod yX0_euler, Cond.selects RX0 yX0_euler yX0_euler, Cond.code yX0_euler cX0_euler 1 (some .int), Cond.methodLink RX0 53 yX0_facesOf, Cond.instanceMethod yX0_facesOf, Cond.selects RX0 yX0_facesOf yX0_facesOf, Cond.code yX0_facesOf cX0_facesOf 4 (some .int), Cond.methodLink RX8 129 yX7_parts, Cond.instanceMethod yX7_parts, Cond.selects RX7 yX7_parts yX7_parts, Cond.code yX7_parts cX7_parts 4 (some .int), Cond.fieldLink RX7 31 "FaceFlips$Ways" "size" "I", Cond.methodLink RX7 51 yX7_load, Cond.instanceMethod yX7_load, Cond.selects RX7 yX7_load yX7_load, Cond.code yX7_load cX7_load 3 none, Cond.fieldLink RX7 30 "FaceFlips$Ways" "k" "I", Cond.methodLink RX7 34 yX0_isBody]
def wsL_law_r14 : List Cond := [Cond.instanceMethod yX0_isBody, Cond.selects RX0 yX0_isBody yX0_isBody, Cond.code yX0_isBody cX0_isBody 2 (some .boolean), Cond.methodLink RX7 55 yX7_spread, Cond.instanceMethod yX7_spread, Cond.selects RX7 yX7_spread yX7_spread, Cond.code yX7_spread cX7_spread 6 none, Cond.methodLink RX7 44 yX7_beside, Cond.instanceMethod yX7_beside, Cond.selects RX7 yX7_beside yX7_beside, Cond.code yX7_beside cX7_beside 3 (some .boolean), Cond.methodLink RX7 38 yJ6_bitCount_0f7a4, Cond.methodLink RX7 48 yX7_sameSign, Cond.instanceMethod yX7_sameSign, Cond.selects RX7 yX7_sameSign yX7_sameSign, Cond.code yX7_sameSign cX7_sameSign 6 (some .boolean), Cond.methodLink RX8 133 yX7_twoSided, Cond.instanceMethod yX7_twoSided, Cond.selects RX7 yX7_twoSided yX7_twoSided, Cond.code yX7_twoSided cX7_twoSided 4 (some .boolean), Cond.methodLink RX7 59 yX7_parts, Cond.methodLink RL 33 yX9_heap, Cond.instanceMethod yX9_heap, Cond.selects RX9 yX9_heap yX9_heap]
def wsL_law_r15 : List Cond := [Cond.code yX9_heap cX9_heap 2 (some .int), Cond.fieldLink RX9 107 "FaceFlipsModel" "there" "I", Cond.methodLink RX9 150 yX9_layFaces, Cond.instanceMethod yX9_layFaces, Cond.selects RX9 yX9_layFaces yX9_layFaces, Cond.code yX9_layFaces cX9_layFaces 4 none, Cond.methodLink RX9 154 yX9_walls, Cond.instanceMethod yX9_walls, Cond.selects RX9 yX9_walls yX9_walls, Cond.code yX9_walls cX9_walls 4 (some .int), Cond.methodLink RX9 116 yX9_isWall, Cond.instanceMethod yX9_isWall, Cond.selects RX9 yX9_isWall yX9_isWall, Cond.code yX9_isWall cX9_isWall 3 (some .boolean), Cond.methodLink RX9 157 yX9_right, Cond.instanceMethod yX9_right, Cond.selects RX9 yX9_right yX9_right, Cond.code yX9_right cX9_right 2 (some .int), Cond.methodLink RX9 161 yX9_euler, Cond.instanceMethod yX9_euler, Cond.selects RX9 yX9_euler yX9_euler, Cond.code yX9_euler cX9_euler 1 (some .int), Cond.methodLink RX9 113 yX9_facesOf, Cond.instanceMethod yX9_facesOf]
def wsL_law_r16 : List Cond := [Cond.selects RX9 yX9_facesOf yX9_facesOf, Cond.code yX9_facesOf cX9_facesOf 4 (some .int), Cond.methodLink RX9 164 yX9_parts, Cond.instanceMethod yX9_parts, Cond.selects RX9 yX9_parts yX9_parts, Cond.code yX9_parts cX9_parts 3 (some .int), Cond.methodLink RX9 174 yX9_spreads, Cond.instanceMethod yX9_spreads, Cond.selects RX9 yX9_spreads yX9_spreads, Cond.code yX9_spreads cX9_spreads 5 none, Cond.methodLink RX9 171 yX9_areBeside, Cond.instanceMethod yX9_areBeside, Cond.selects RX9 yX9_areBeside yX9_areBeside, Cond.code yX9_areBeside cX9_areBeside 3 (some .boolean), Cond.methodLink RX9 167 yX9_isTwoSided, Cond.instanceMethod yX9_isTwoSided, Cond.selects RX9 yX9_isTwoSided yX9_isTwoSided, Cond.code yX9_isTwoSided cX9_isTwoSided 2 (some .boolean), Cond.methodLink RX9 188 yX9_areAgreed, Cond.instanceMethod yX9_areAgreed, Cond.selects RX9 yX9_areAgreed yX9_areAgreed, Cond.code yX9_areAgreed cX9_areAgreed 6 (some .boolean), Cond.methodLink RX9 191 yX9_areSigned, Cond.instanceMethod yX9_areSigned]
def wsL_law_r17 : List Cond := [Cond.selects RX9 yX9_areSigned yX9_areSigned, Cond.code yX9_areSigned cX9_areSigned 3 (some .boolean), Cond.methodLink RX9 184 yX9_below, Cond.instanceMethod yX9_below, Cond.selects RX9 yX9_below yX9_below, Cond.code yX9_below cX9_below 4 (some .int), Cond.methodLink RL 34 yX8_faces, Cond.instanceMethod yX8_faces, Cond.selects RX8 yX8_faces yX8_faces, Cond.code yX8_faces cX8_faces 2 (some .int), Cond.methodLink RX8 137 yX0_facesOf, Cond.methodLink RL 37 yX9_faces, Cond.instanceMethod yX9_faces, Cond.selects RX9 yX9_faces yX9_faces, Cond.code yX9_faces cX9_faces 2 (some .int), Cond.methodLink RL 38 yX8_face, Cond.instanceMethod yX8_face, Cond.selects RX8 yX8_face yX8_face, Cond.code yX8_face cX8_face 3 (some .int), Cond.methodLink RX8 140 yX8_isSet, Cond.static yX8_isSet, Cond.code yX8_isSet cX8_isSet 1 (some .boolean), Cond.methodLink RX8 144 yX0_holders, Cond.instanceMethod yX0_holders]
def wsL_law_r18 : List Cond := [Cond.selects RX0 yX0_holders yX0_holders, Cond.code yX0_holders cX0_holders 2 (some .int), Cond.methodLink RX8 147 yX0_linkSets, Cond.instanceMethod yX0_linkSets, Cond.selects RX0 yX0_linkSets yX0_linkSets, Cond.code yX0_linkSets cX0_linkSets 4 (some .int), Cond.methodLink RX8 150 yX0_linkPoints, Cond.methodLink RL 42 yX9_face, Cond.instanceMethod yX9_face, Cond.selects RX9 yX9_face yX9_face, Cond.code yX9_face cX9_face 3 (some .int), Cond.methodLink RX9 194 yX9_linkOf, Cond.instanceMethod yX9_linkOf, Cond.selects RX9 yX9_linkOf yX9_linkOf, Cond.code yX9_linkOf cX9_linkOf 4 (some .int), Cond.methodLink RX9 197 yX9_linked, Cond.instanceMethod yX9_linked, Cond.selects RX9 yX9_linked yX9_linked, Cond.code yX9_linked cX9_linked 4 (some .int), Cond.methodLink RL 43 yX8_wall, Cond.instanceMethod yX8_wall, Cond.selects RX8 yX8_wall yX8_wall, Cond.code yX8_wall cX8_wall 2 (some .int), Cond.methodLink RL 46 yX9_wall]
def wsL_law_r19 : List Cond := [Cond.instanceMethod yX9_wall, Cond.selects RX9 yX9_wall yX9_wall, Cond.code yX9_wall cX9_wall 4 (some .int), Cond.methodLink RL 47 yX8_apart, Cond.instanceMethod yX8_apart, Cond.selects RX8 yX8_apart yX8_apart, Cond.code yX8_apart cX8_apart 4 (some .int), Cond.methodLink RX8 153 yX7_between, Cond.instanceMethod yX7_between, Cond.selects RX7 yX7_between yX7_between, Cond.code yX7_between cX7_between 4 (some .int), Cond.methodLink RL 50 yX9_apart, Cond.instanceMethod yX9_apart, Cond.selects RX9 yX9_apart yX9_apart, Cond.code yX9_apart cX9_apart 6 (some .int), Cond.methodLink RX9 181 yX9_bodyAt, Cond.instanceMethod yX9_bodyAt, Cond.selects RX9 yX9_bodyAt yX9_bodyAt, Cond.code yX9_bodyAt cX9_bodyAt 2 (some .int), Cond.methodLink RX9 178 yX9_bodyOf, Cond.methodLink RL 51 yX8_shelled, Cond.instanceMethod yX8_shelled, Cond.selects RX8 yX8_shelled yX8_shelled, Cond.code yX8_shelled cX8_shelled 4 (some .int)]
def wsL_law_r20 : List Cond := [Cond.methodLink RX8 157 yX3_state, Cond.instanceMethod yX3_state, Cond.selects RX3 yX3_state yX3_state, Cond.code yX3_state cX3_state 2 (some .int), Cond.methodLink RX3 22 Lib.Math.min.name, Cond.methodLink RX3 18 yX3_isList, Cond.instanceMethod yX3_isList, Cond.selects RX3 yX3_isList yX3_isList, Cond.code yX3_isList cX3_isList 2 (some .boolean), Cond.methodLink RX8 160 yX7_load, Cond.methodLink RX8 163 yX3_sizeOf, Cond.instanceMethod yX3_sizeOf, Cond.selects RX3 yX3_sizeOf yX3_sizeOf, Cond.code yX3_sizeOf cX3_sizeOf 2 (some .int), Cond.methodLink RX8 166 yX7_fits, Cond.instanceMethod yX7_fits, Cond.selects RX7 yX7_fits yX7_fits, Cond.code yX7_fits cX7_fits 8 (some .boolean), Cond.methodLink RX7 63 yX3_at, Cond.instanceMethod yX3_at, Cond.selects RX3 yX3_at yX3_at, Cond.code yX3_at cX3_at 3 (some .int), Cond.methodLink RX7 69 yX7_bodyAt, Cond.instanceMethod yX7_bodyAt]
def wsL_law_r21 : List Cond := [Cond.selects RX7 yX7_bodyAt yX7_bodyAt, Cond.code yX7_bodyAt cX7_bodyAt 2 (some .int), Cond.methodLink RL 54 yX9_shelled, Cond.instanceMethod yX9_shelled, Cond.selects RX9 yX9_shelled yX9_shelled, Cond.code yX9_shelled cX9_shelled 4 (some .int), Cond.methodLink RX9 336 yX9_isList, Cond.static yX9_isList, Cond.code yX9_isList cX9_isList 1 (some .boolean), Cond.methodLink RX9 339 yX9_isAgain, Cond.instanceMethod yX9_isAgain, Cond.selects RX9 yX9_isAgain yX9_isAgain, Cond.code yX9_isAgain cX9_isAgain 4 (some .boolean), Cond.methodLink RX9 342 yX9_isFit, Cond.instanceMethod yX9_isFit, Cond.selects RX9 yX9_isFit yX9_isFit, Cond.code yX9_isFit cX9_isFit 9 (some .boolean), Cond.methodLink RL 55 yX8_flips, Cond.instanceMethod yX8_flips, Cond.selects RX8 yX8_flips yX8_flips, Cond.code yX8_flips cX8_flips 5 (some .int), Cond.methodLink RX8 176 yX0_gather, Cond.instanceMethod yX0_gather, Cond.selects RX0 yX0_gather yX0_gather]
def wsL_law_r22 : List Cond := [Cond.code yX0_gather cX0_gather 4 (some .int), Cond.methodLink RX0 64 yX0_partner, Cond.instanceMethod yX0_partner, Cond.selects RX0 yX0_partner yX0_partner, Cond.code yX0_partner cX0_partner 4 (some .int), Cond.methodLink RX0 60 yX0_there, Cond.methodLink RL 58 yX9_flips, Cond.instanceMethod yX9_flips, Cond.selects RX9 yX9_flips yX9_flips, Cond.code yX9_flips cX9_flips 4 (some .int), Cond.methodLink RX9 203 yX9_layFlips, Cond.instanceMethod yX9_layFlips, Cond.selects RX9 yX9_layFlips yX9_layFlips, Cond.code yX9_layFlips cX9_layFlips 6 none, Cond.methodLink RX9 200 yX9_forWhat, Cond.instanceMethod yX9_forWhat, Cond.selects RX9 yX9_forWhat yX9_forWhat, Cond.code yX9_forWhat cX9_forWhat 4 (some .int), Cond.methodLink RL 59 yX8_flipOf, Cond.instanceMethod yX8_flipOf, Cond.selects RX8 yX8_flipOf yX8_flipOf, Cond.code yX8_flipOf cX8_flipOf 4 (some .int), Cond.methodLink RX8 180 yX0_partner, Cond.methodLink RL 62 yX9_flipOf]
def wsL_law_r23 : List Cond := [Cond.instanceMethod yX9_flipOf, Cond.selects RX9 yX9_flipOf yX9_flipOf, Cond.code yX9_flipOf cX9_flipOf 3 (some .int), Cond.methodLink RL 63 yX8_number, Cond.instanceMethod yX8_number, Cond.selects RX8 yX8_number yX8_number, Cond.code yX8_number cX8_number 2 (some .int), Cond.methodLink RX8 183 yX0_numberOf, Cond.instanceMethod yX0_numberOf, Cond.selects RX0 yX0_numberOf yX0_numberOf, Cond.code yX0_numberOf cX0_numberOf 4 (some .int), Cond.methodLink RL 66 yX9_number, Cond.instanceMethod yX9_number, Cond.selects RX9 yX9_number yX9_number, Cond.code yX9_number cX9_number 2 (some .int), Cond.methodLink RX9 207 yX9_find, Cond.instanceMethod yX9_find, Cond.selects RX9 yX9_find yX9_find, Cond.code yX9_find cX9_find 4 (some .int), Cond.methodLink RL 67 yX8_flip, Cond.instanceMethod yX8_flip, Cond.selects RX8 yX8_flip yX8_flip, Cond.code yX8_flip cX8_flip 3 (some .int), Cond.methodLink RX8 186 yX0_flipAt]
def wsL_law_r24 : List Cond := [Cond.instanceMethod yX0_flipAt, Cond.selects RX0 yX0_flipAt yX0_flipAt, Cond.code yX0_flipAt cX0_flipAt 3 none, Cond.methodLink RL 70 yX9_flip, Cond.instanceMethod yX9_flip, Cond.selects RX9 yX9_flip yX9_flip, Cond.code yX9_flip cX9_flip 2 (some .int), Cond.methodLink RX9 210 yX9_does, Cond.instanceMethod yX9_does, Cond.selects RX9 yX9_does yX9_does, Cond.code yX9_does cX9_does 5 none, Cond.methodLink RL 71 yX8_other, Cond.instanceMethod yX8_other, Cond.selects RX8 yX8_other yX8_other, Cond.code yX8_other cX8_other 3 (some .int), Cond.methodLink RX8 170 yX0_copyOf, Cond.methodLink RL 74 yX9_other, Cond.instanceMethod yX9_other, Cond.selects RX9 yX9_other yX9_other, Cond.code yX9_other cX9_other 5 (some .int), Cond.methodLink RL 75 yX8_plan, Cond.instanceMethod yX8_plan, Cond.selects RX8 yX8_plan yX8_plan, Cond.code yX8_plan cX8_plan 7 (some .int)]
def wsL_law_r25 : List Cond := [Cond.methodLink RX8 189 yX3_isList, Cond.methodLink RX8 192 yX3_at, Cond.methodLink RL 78 yX9_plan, Cond.instanceMethod yX9_plan, Cond.selects RX9 yX9_plan yX9_plan, Cond.code yX9_plan cX9_plan 5 (some .int), Cond.methodLink RL 79 yX8_cone, Cond.instanceMethod yX8_cone, Cond.selects RX8 yX8_cone yX8_cone, Cond.code yX8_cone cX8_cone 4 (some .int), Cond.methodLink RX8 173 yX0_isWall, Cond.methodLink RL 82 yX9_cone, Cond.instanceMethod yX9_cone, Cond.selects RX9 yX9_cone yX9_cone, Cond.code yX9_cone cX9_cone 3 (some .int), Cond.methodLink RL 83 yX8_back, Cond.instanceMethod yX8_back, Cond.selects RX8 yX8_back yX8_back, Cond.code yX8_back cX8_back 1 (some .int), Cond.methodLink RX8 205 yX2_restore, Cond.instanceMethod yX2_restore, Cond.selects RX2 yX2_restore yX2_restore, Cond.code yX2_restore cX2_restore 2 none, Cond.methodLink RL 87 yX9_back]
def wsL_law_r26 : List Cond := [Cond.instanceMethod yX9_back, Cond.selects RX9 yX9_back yX9_back, Cond.code yX9_back cX9_back 1 (some .int), Cond.methodLink RL 88 yX8_keep, Cond.instanceMethod yX8_keep, Cond.selects RX8 yX8_keep yX8_keep, Cond.code yX8_keep cX8_keep 1 (some .int), Cond.methodLink RX8 208 yX5_add, Cond.instanceMethod yX5_add, Cond.selects RX5 yX5_add yX5_add, Cond.code yX5_add cX5_add 2 (some .boolean), Cond.fieldLink RX5 18 "FaceFlips$Shelf" "used" "I", Cond.methodLink RX5 22 yX0_copyOf, Cond.methodLink RL 91 yX9_keep, Cond.instanceMethod yX9_keep, Cond.selects RX9 yX9_keep yX9_keep, Cond.code yX9_keep cX9_keep 1 (some .int), Cond.fieldLink RX9 214 "FaceFlipsModel" "kept" "I", Cond.methodLink RL 92 yX8_take, Cond.instanceMethod yX8_take, Cond.selects RX8 yX8_take yX8_take, Cond.code yX8_take cX8_take 3 (some .int), Cond.methodLink RX8 214 yX5_at, Cond.instanceMethod yX5_at]
def wsL_law_r27 : List Cond := [Cond.selects RX5 yX5_at yX5_at, Cond.code yX5_at cX5_at 2 (some (.object "FaceFlips$Heap")), Cond.methodLink RL 95 yX9_take, Cond.instanceMethod yX9_take, Cond.selects RX9 yX9_take yX9_take, Cond.code yX9_take cX9_take 2 (some .int), Cond.methodLink RX9 217 yX9_isKept, Cond.instanceMethod yX9_isKept, Cond.selects RX9 yX9_isKept yX9_isKept, Cond.code yX9_isKept cX9_isKept 2 (some .boolean), Cond.methodLink RL 96 yX8_kept, Cond.instanceMethod yX8_kept, Cond.selects RX8 yX8_kept yX8_kept, Cond.code yX8_kept cX8_kept 4 (some .int), Cond.methodLink RL 99 yX9_kept, Cond.instanceMethod yX9_kept, Cond.selects RX9 yX9_kept yX9_kept, Cond.code yX9_kept cX9_kept 3 (some .int), Cond.methodLink RL 100 yX8_chain, Cond.instanceMethod yX8_chain, Cond.selects RX8 yX8_chain yX8_chain, Cond.code yX8_chain cX8_chain 6 (some .int), Cond.methodLink RX8 217 yX4_fewest, Cond.instanceMethod yX4_fewest]
def wsL_law_r28 : List Cond := [Cond.selects RX4 yX4_fewest yX4_fewest, Cond.code yX4_fewest cX4_fewest 6 (some .int), Cond.fieldLink RX4 26 "FaceFlips$Search" "goal" "LFaceFlips$Heap;", Cond.fieldLink RX4 29 "FaceFlips$Search" "least" "I", Cond.methodLink RX4 22 yX0_copyOf, Cond.methodLink RX4 33 yX4_gap, Cond.instanceMethod yX4_gap, Cond.selects RX4 yX4_gap yX4_gap, Cond.code yX4_gap cX4_gap 3 (some .int), Cond.methodLink RX4 41 yX0_isBody, Cond.methodLink RX4 37 yX4_reach, Cond.static yX4_reach, Cond.code yX4_reach cX4_reach 10 (some .boolean), Cond.methodLink RX4 51 yX0_partner, Cond.methodLink RX4 55 yX4_widened, Cond.instanceMethod yX4_widened, Cond.selects RX4 yX4_widened yX4_widened, Cond.code yX4_widened cX4_widened 5 (some .int), Cond.methodLink RX4 58 yJ6_bitCount_0f7a4, Cond.methodLink RX4 63 yX0_toggleAround, Cond.methodLink RL 104 yX9_chain, Cond.instanceMethod yX9_chain, Cond.selects RX9 yX9_chain yX9_chain, Cond.code yX9_chain cX9_chain 5 (some .int)]
def wsL_law_r29 : List Cond := [Cond.methodLink RX9 224 yX9_leads, Cond.instanceMethod yX9_leads, Cond.selects RX9 yX9_leads yX9_leads, Cond.code yX9_leads cX9_leads 6 (some .boolean), Cond.methodLink RX9 220 yX9_areSame, Cond.static yX9_areSame, Cond.code yX9_areSame cX9_areSame 3 (some .boolean), Cond.methodLink RL 105 yX8_alike, Cond.instanceMethod yX8_alike, Cond.selects RX8 yX8_alike yX8_alike, Cond.code yX8_alike cX8_alike 5 (some .int), Cond.methodLink RX8 224 yX1_fit, Cond.instanceMethod yX1_fit, Cond.selects RX1 yX1_fit yX1_fit, Cond.code yX1_fit cX1_fit 3 (some .boolean), Cond.fieldLink RX1 25 "FaceFlips$Names" "one" "LFaceFlips$Heap;", Cond.fieldLink RX1 29 "FaceFlips$Names" "other" "LFaceFlips$Heap;", Cond.methodLink RX1 21 yX0_total, Cond.methodLink RX1 32 yX1_name, Cond.static yX1_name, Cond.code yX1_name cX1_name 4 (some .boolean), Cond.methodLink RX1 36 yX1_agrees, Cond.instanceMethod yX1_agrees, Cond.selects RX1 yX1_agrees yX1_agrees]
def wsL_law_r30 : List Cond := [Cond.code yX1_agrees cX1_agrees 6 (some .boolean), Cond.methodLink RL 108 yX9_alike, Cond.instanceMethod yX9_alike, Cond.selects RX9 yX9_alike yX9_alike, Cond.code yX9_alike cX9_alike 3 (some .int), Cond.methodLink RX9 234 yX9_canName, Cond.instanceMethod yX9_canName, Cond.selects RX9 yX9_canName yX9_canName, Cond.code yX9_canName cX9_canName 7 (some .boolean), Cond.methodLink RX9 228 yX9_areNamed, Cond.static yX9_areNamed, Cond.code yX9_areNamed cX9_areNamed 2 (some .boolean), Cond.methodLink RX9 231 yX9_named, Cond.instanceMethod yX9_named, Cond.selects RX9 yX9_named yX9_named, Cond.code yX9_named cX9_named 4 (some .int), Cond.methodLink RL 109 yX8_common, Cond.instanceMethod yX8_common, Cond.selects RX8 yX8_common yX8_common, Cond.code yX8_common cX8_common 7 (some .int), Cond.methodLink RX8 228 yX0_isBody, Cond.methodLink RL 112 yX9_common, Cond.instanceMethod yX9_common, Cond.selects RX9 yX9_common yX9_common]
def wsL_law_r31 : List Cond := [Cond.code yX9_common cX9_common 5 (some .int), Cond.methodLink RL 113 yX8_fewer, Cond.instanceMethod yX8_fewer, Cond.selects RX8 yX8_fewer yX8_fewer, Cond.code yX8_fewer cX8_fewer 5 (some .int), Cond.methodLink RX8 196 yX0_firstFewer, Cond.instanceMethod yX0_firstFewer, Cond.selects RX0 yX0_firstFewer yX0_firstFewer, Cond.code yX0_firstFewer cX0_firstFewer 2 (some .int), Cond.methodLink RL 116 yX9_fewer, Cond.instanceMethod yX9_fewer, Cond.selects RX9 yX9_fewer yX9_fewer, Cond.code yX9_fewer cX9_fewer 4 (some .int), Cond.methodLink RX9 238 yX9_firstFewer, Cond.instanceMethod yX9_firstFewer, Cond.selects RX9 yX9_firstFewer yX9_firstFewer, Cond.code yX9_firstFewer cX9_firstFewer 2 (some .int), Cond.methodLink RL 117 yX8_walk, Cond.instanceMethod yX8_walk, Cond.selects RX8 yX8_walk yX8_walk, Cond.code yX8_walk cX8_walk 8 (some .int), Cond.constant RX8 199 (1103515245), Cond.constant RX8 200 (2147483647), Cond.constant RX8 201 (65536)]
def wsL_law_r32 : List Cond := [Cond.methodLink RL 120 yX9_walk, Cond.instanceMethod yX9_walk, Cond.selects RX9 yX9_walk yX9_walk, Cond.code yX9_walk cX9_walk 7 (some .int), Cond.constant RX9 241 (1103515245), Cond.constant RX9 242 (2147483647), Cond.methodLink RL 121 yX8_feed, Cond.instanceMethod yX8_feed, Cond.selects RX8 yX8_feed yX8_feed, Cond.code yX8_feed cX8_feed 2 (some .int), Cond.methodLink RX8 238 yX6_add, Cond.instanceMethod yX6_add, Cond.selects RX6 yX6_add yX6_add, Cond.code yX6_add cX6_add 2 (some .boolean), Cond.fieldLink RX6 25 "FaceFlips$Text" "size" "I", Cond.methodLink RL 124 yX9_feed, Cond.instanceMethod yX9_feed, Cond.selects RX9 yX9_feed yX9_feed, Cond.code yX9_feed cX9_feed 2 (some .int), Cond.fieldLink RX9 243 "FaceFlipsModel" "texted" "I", Cond.methodLink RL 125 yX8_read, Cond.instanceMethod yX8_read, Cond.selects RX8 yX8_read yX8_read, Cond.code yX8_read cX8_read 4 (some .int)]
def wsL_law_r33 : List Cond := [Cond.methodLink RX8 243 yX6_split, Cond.instanceMethod yX6_split, Cond.selects RX6 yX6_split yX6_split, Cond.code yX6_split cX6_split 6 (some .int), Cond.fieldLink RX6 29 "FaceFlips$Text" "words" "I", Cond.methodLink RX6 32 yX6_behind, Cond.instanceMethod yX6_behind, Cond.selects RX6 yX6_behind yX6_behind, Cond.code yX6_behind cX6_behind 5 (some .int), Cond.methodLink RX6 36 yX6_wordAt, Cond.instanceMethod yX6_wordAt, Cond.selects RX6 yX6_wordAt yX6_wordAt, Cond.code yX6_wordAt cX6_wordAt 4 (some .int), Cond.methodLink RX6 46 yX6_wordOf, Cond.static yX6_wordOf, Cond.code yX6_wordOf cX6_wordOf 1 (some (.object "java/lang/String")), Cond.methodLink RX6 50 yX6_stands, Cond.instanceMethod yX6_stands, Cond.selects RX6 yX6_stands yX6_stands, Cond.code yX6_stands cX6_stands 5 (some .boolean), Cond.methodLink RX6 54 yJ0_length_8abf5, Cond.instanceMethod yJ0_length_8abf5, Cond.selects RJ0 yJ0_length_8abf5 yJ0_length_8abf5, Cond.initialized RJ0]
def wsL_law_r34 : List Cond := [Cond.code yJ0_length_8abf5 cJ0_length_8abf5 1 (some .int), Cond.fieldLink RJ0 9 "java/lang/String" "value" "[B", Cond.methodLink RJ0 335 yJ0_coder_7d493, Cond.instanceMethod yJ0_coder_7d493, Cond.selects RJ0 yJ0_coder_7d493 yJ0_coder_7d493, Cond.code yJ0_coder_7d493 cJ0_coder_7d493 1 (some .byte), Cond.fieldLink RJ0 38 "java/lang/String" "COMPACT_STRINGS" "Z", Cond.fieldLink RJ0 15 "java/lang/String" "coder" "B", Cond.methodLink RX6 60 yJ0_charAt_5068e, Cond.instanceMethod yJ0_charAt_5068e, Cond.selects RJ0 yJ0_charAt_5068e yJ0_charAt_5068e, Cond.code yJ0_charAt_5068e cJ0_charAt_5068e 2 (some .char), Cond.methodLink RJ0 492 yJ0_isLatin1_aae02, Cond.instanceMethod yJ0_isLatin1_aae02, Cond.selects RJ0 yJ0_isLatin1_aae02 yJ0_isLatin1_aae02, Cond.code yJ0_isLatin1_aae02 cJ0_isLatin1_aae02 1 (some .boolean), Cond.methodLink RJ0 495 yJ1_charAt_3b067, Cond.static yJ1_charAt_3b067, Cond.initialized RJ1, Cond.code yJ1_charAt_3b067 cJ1_charAt_3b067 2 (some .char), Cond.methodLink RJ1 9 yJ0_checkIndex_df160, Cond.static yJ0_checkIndex_df160, Cond.code yJ0_checkIndex_df160 cJ0_checkIndex_df160 2 none, Cond.fieldLink RJ0 1053 "jdk/internal/util/Preconditions" "SIOOBE_FORMATTER" "Ljava/util/function/BiFunction;"]
def wsL_law_r35 : List Cond := [Cond.methodLink RJ0 1059 yJ3_checkIndex_8e157, Cond.static yJ3_checkIndex_8e157, Cond.initialized RJ3, Cond.code yJ3_checkIndex_8e157 cJ3_checkIndex_8e157 3 (some .int), Cond.methodLink RJ0 498 yJ2_charAt_3b067, Cond.static yJ2_charAt_3b067, Cond.initialized RJ2, Cond.code yJ2_charAt_3b067 cJ2_charAt_3b067 2 (some .char), Cond.methodLink RJ2 67 yJ2_checkIndex_2214a, Cond.static yJ2_checkIndex_2214a, Cond.code yJ2_checkIndex_2214a cJ2_checkIndex_2214a 2 none, Cond.methodLink RJ2 48 yJ2_length_9d52b, Cond.static yJ2_length_9d52b, Cond.code yJ2_length_9d52b cJ2_length_9d52b 1 (some .int), Cond.methodLink RJ2 414 yJ0_checkIndex_df160, Cond.methodLink RJ2 71 yJ2_getChar_3b067, Cond.static yJ2_getChar_3b067, Cond.code yJ2_getChar_3b067 cJ2_getChar_3b067 2 (some .char), Cond.fieldLink RJ2 44 "java/lang/StringUTF16" "$assertionsDisabled" "Z", Cond.fieldLink RJ2 59 "java/lang/StringUTF16" "HI_BYTE_SHIFT" "I", Cond.fieldLink RJ2 63 "java/lang/StringUTF16" "LO_BYTE_SHIFT" "I", Cond.methodLink RX8 249 yX8_obey, Cond.instanceMethod yX8_obey, Cond.selects RX8 yX8_obey yX8_obey]
def wsL_law_r36 : List Cond := [Cond.code yX8_obey cX8_obey 3 (some .int), Cond.methodLink RX8 278 yX8_make, Cond.methodLink RX8 281 yX8_bodies, Cond.methodLink RX8 284 yX6_value, Cond.instanceMethod yX6_value, Cond.selects RX6 yX6_value yX6_value, Cond.code yX6_value cX6_value 4 (some .int), Cond.methodLink RX8 287 yX8_flip, Cond.methodLink RX8 290 yX8_keep, Cond.methodLink RX8 293 yX8_take, Cond.methodLink RX8 296 yX6_pointSet, Cond.instanceMethod yX6_pointSet, Cond.selects RX6 yX6_pointSet yX6_pointSet, Cond.code yX6_pointSet cX6_pointSet 5 (some .int), Cond.methodLink RX8 299 yX8_body, Cond.methodLink RL 128 yX9_read, Cond.instanceMethod yX9_read, Cond.selects RX9 yX9_read yX9_read, Cond.code yX9_read cX9_read 4 (some .int), Cond.fieldLink RX9 269 "FaceFlipsModel" "at" "I", Cond.fieldLink RX9 298 "FaceFlipsModel" "worded" "I", Cond.methodLink RX9 324 yX9_takesAll, Cond.instanceMethod yX9_takesAll, Cond.selects RX9 yX9_takesAll yX9_takesAll]
def wsL_law_r37 : List Cond := [Cond.code yX9_takesAll cX9_takesAll 1 (some .boolean), Cond.methodLink RX9 307 yX9_takesWord, Cond.instanceMethod yX9_takesWord, Cond.selects RX9 yX9_takesWord yX9_takesWord, Cond.code yX9_takesWord cX9_takesWord 4 (some .boolean), Cond.methodLink RX9 281 yX9_isLetter, Cond.instanceMethod yX9_isLetter, Cond.selects RX9 yX9_isLetter yX9_isLetter, Cond.code yX9_isLetter cX9_isLetter 2 (some .boolean), Cond.methodLink RX9 284 yX9_wordOf, Cond.static yX9_wordOf, Cond.code yX9_wordOf cX9_wordOf 1 (some (.object "java/lang/String")), Cond.methodLink RX9 288 yX9_isWord, Cond.instanceMethod yX9_isWord, Cond.selects RX9 yX9_isWord yX9_isWord, Cond.code yX9_isWord cX9_isWord 5 (some .boolean), Cond.methodLink RX9 272 yJ0_length_8abf5, Cond.methodLink RX9 277 yJ0_charAt_5068e, Cond.methodLink RX9 292 yX9_isDigit, Cond.instanceMethod yX9_isDigit, Cond.selects RX9 yX9_isDigit yX9_isDigit, Cond.code yX9_isDigit cX9_isDigit 2 (some .boolean), Cond.methodLink RX9 295 yX9_areDigits, Cond.static yX9_areDigits]
def wsL_law_r38 : List Cond := [Cond.code yX9_areDigits cX9_areDigits 2 (some .boolean), Cond.methodLink RX9 301 yX9_setOf, Cond.instanceMethod yX9_setOf, Cond.selects RX9 yX9_setOf yX9_setOf, Cond.code yX9_setOf cX9_setOf 5 (some .int), Cond.methodLink RX9 304 yX9_numberOf, Cond.instanceMethod yX9_numberOf, Cond.selects RX9 yX9_numberOf yX9_numberOf, Cond.code yX9_numberOf cX9_numberOf 5 (some .int), Cond.methodLink RX9 327 yX9_isDone, Cond.instanceMethod yX9_isDone, Cond.selects RX9 yX9_isDone yX9_isDone, Cond.code yX9_isDone cX9_isDone 3 (some .boolean), Cond.methodLink RX9 310 yX9_make, Cond.methodLink RX9 313 yX9_bodies, Cond.methodLink RX9 316 yX9_keep, Cond.methodLink RX9 318 yX9_flip, Cond.methodLink RX9 320 yX9_take, Cond.methodLink RX9 322 yX9_body, Cond.methodLink RL 129 yX8_spell, Cond.instanceMethod yX8_spell, Cond.selects RX8 yX8_spell yX8_spell, Cond.code yX8_spell cX8_spell 2 (some .int), Cond.fieldLink RX8 252 "FaceFlips" "spelledSize" "I"]
def wsL_law_r39 : List Cond := [Cond.methodLink RX8 255 yX8_write, Cond.instanceMethod yX8_write, Cond.selects RX8 yX8_write yX8_write, Cond.code yX8_write cX8_write 2 none, Cond.methodLink RX8 258 yX8_writePoints, Cond.instanceMethod yX8_writePoints, Cond.selects RX8 yX8_writePoints yX8_writePoints, Cond.code yX8_writePoints cX8_writePoints 3 none, Cond.methodLink RL 132 yX9_spell, Cond.instanceMethod yX9_spell, Cond.selects RX9 yX9_spell yX9_spell, Cond.code yX9_spell cX9_spell 3 (some .int), Cond.fieldLink RX9 330 "FaceFlipsModel" "spelled" "I", Cond.methodLink RX9 333 yX9_writes, Cond.instanceMethod yX9_writes, Cond.selects RX9 yX9_writes yX9_writes, Cond.code yX9_writes cX9_writes 2 none, Cond.methodLink RL 133 yX8_paper, Cond.instanceMethod yX8_paper, Cond.selects RX8 yX8_paper yX8_paper, Cond.code yX8_paper cX8_paper 2 (some .int), Cond.methodLink RL 136 yX9_paper, Cond.instanceMethod yX9_paper, Cond.selects RX9 yX9_paper yX9_paper]
def wsL_law_r40 : List Cond := [Cond.code yX9_paper cX9_paper 2 (some .int), Cond.methodLink RL 137 yX8_judge, Cond.instanceMethod yX8_judge, Cond.selects RX8 yX8_judge yX8_judge, Cond.code yX8_judge cX8_judge 6 (some .int), Cond.methodLink RL 140 yX9_judge, Cond.instanceMethod yX9_judge, Cond.selects RX9 yX9_judge yX9_judge, Cond.code yX9_judge cX9_judge 4 (some .int), Cond.methodLink RL 141 yX8_list, Cond.instanceMethod yX8_list, Cond.selects RX8 yX8_list yX8_list, Cond.code yX8_list cX8_list 3 (some .int), Cond.methodLink RX8 261 yX3_start, Cond.instanceMethod yX3_start, Cond.selects RX3 yX3_start yX3_start, Cond.code yX3_start cX3_start 4 none, Cond.methodLink RX3 28 yX3_set, Cond.instanceMethod yX3_set, Cond.selects RX3 yX3_set yX3_set, Cond.code yX3_set cX3_set 4 none, Cond.methodLink RL 144 yX9_list, Cond.instanceMethod yX9_list, Cond.selects RX9 yX9_list yX9_list]
def wsL_law_r41 : List Cond := [Cond.code yX9_list cX9_list 4 (some .int), Cond.methodLink RL 145 yX8_put, Cond.instanceMethod yX8_put, Cond.selects RX8 yX8_put yX8_put, Cond.code yX8_put cX8_put 5 (some .int), Cond.methodLink RX8 265 yX3_set, Cond.methodLink RL 148 yX9_put, Cond.instanceMethod yX9_put, Cond.selects RX9 yX9_put yX9_put, Cond.code yX9_put cX9_put 4 (some .int), Cond.methodLink RX9 345 yX9_isPlace, Cond.instanceMethod yX9_isPlace, Cond.selects RX9 yX9_isPlace yX9_isPlace, Cond.code yX9_isPlace cX9_isPlace 3 (some .boolean), Cond.methodLink RL 149 yX8_get, Cond.instanceMethod yX8_get, Cond.selects RX8 yX8_get yX8_get, Cond.code yX8_get cX8_get 3 (some .long), Cond.constantLong RX8 269 (-9223372036854775808), Cond.methodLink RL 153 yX9_get, Cond.instanceMethod yX9_get, Cond.selects RX9 yX9_get yX9_get, Cond.code yX9_get cX9_get 3 (some .long), Cond.constantLong RX9 348 (-9223372036854775808)]
def wsL_law_r42 : List Cond := [Cond.methodLink RL 154 yX8_copy, Cond.instanceMethod yX8_copy, Cond.selects RX8 yX8_copy yX8_copy, Cond.code yX8_copy cX8_copy 6 (some .int), Cond.methodLink RX8 271 yX3_move, Cond.instanceMethod yX3_move, Cond.selects RX3 yX3_move yX3_move, Cond.code yX3_move cX3_move 6 none, Cond.methodLink RX3 32 arraycopyName, Cond.methodLink RL 158 yX9_copy, Cond.instanceMethod yX9_copy, Cond.selects RX9 yX9_copy yX9_copy, Cond.code yX9_copy cX9_copy 6 (some .int), Cond.methodLink RX9 350 yX9_isSpan, Cond.instanceMethod yX9_isSpan, Cond.selects RX9 yX9_isSpan yX9_isSpan, Cond.code yX9_isSpan cX9_isSpan 4 (some .boolean), Cond.methodLink RL 159 yX8_image, Cond.instanceMethod yX8_image, Cond.selects RX8 yX8_image yX8_image, Cond.code yX8_image cX8_image 1 (some .int), Cond.fieldLink RX8 231 "FaceFlips" "oldUsed" "I", Cond.fieldLink RX8 234 "FaceFlips" "imaged" "Z", Cond.methodLink RL 162 yX9_image]
def wsL_law_r43 : List Cond := [Cond.instanceMethod yX9_image, Cond.selects RX9 yX9_image yX9_image, Cond.code yX9_image cX9_image 2 (some .int), Cond.fieldLink RX9 353 "FaceFlipsModel" "isImage" "Z", Cond.fieldLink RX9 357 "FaceFlipsModel" "imageSize" "I", Cond.fieldLink RX9 360 "FaceFlipsModel" "imageKept" "I", Cond.methodLink RL 163 yX8_undo, Cond.instanceMethod yX8_undo, Cond.selects RX8 yX8_undo yX8_undo, Cond.code yX8_undo cX8_undo 1 (some .int), Cond.methodLink RL 166 yX9_undo, Cond.instanceMethod yX9_undo, Cond.selects RX9 yX9_undo yX9_undo, Cond.code yX9_undo cX9_undo 2 (some .int), Cond.methodLink RL 167 yX8_count, Cond.instanceMethod yX8_count, Cond.selects RX8 yX8_count yX8_count, Cond.code yX8_count cX8_count 2 (some .int), Cond.methodLink RL 170 yX9_count, Cond.instanceMethod yX9_count, Cond.selects RX9 yX9_count yX9_count, Cond.code yX9_count cX9_count 2 (some .int)]
def wsL_law : List Cond := (wsL_law_r1 ++ (wsL_law_r2 ++ (wsL_law_r3 ++ (wsL_law_r4 ++ (wsL_law_r5 ++ (wsL_law_r6 ++ (wsL_law_r7 ++ (wsL_law_r8 ++ (wsL_law_r9 ++ (wsL_law_r10 ++ (wsL_law_r11 ++ (wsL_law_r12 ++ (wsL_law_r13 ++ (wsL_law_r14 ++ (wsL_law_r15 ++ (wsL_law_r16 ++ (wsL_law_r17 ++ (wsL_law_r18 ++ (wsL_law_r19 ++ (wsL_law_r20 ++ (wsL_law_r21 ++ (wsL_law_r22 ++ (wsL_law_r23 ++ (wsL_law_r24 ++ (wsL_law_r25 ++ (wsL_law_r26 ++ (wsL_law_r27 ++ (wsL_law_r28 ++ (wsL_law_r29 ++ (wsL_law_r30 ++ (wsL_law_r31 ++ (wsL_law_r32 ++ (wsL_law_r33 ++ (wsL_law_r34 ++ (wsL_law_r35 ++ (wsL_law_r36 ++ (wsL_law_r37 ++ (wsL_law_r38 ++ (wsL_law_r39 ++ (wsL_law_r40 ++ (wsL_law_r41 ++ (wsL_law_r42 ++ wsL_law_r43)))))))))))))))))))))))))))))))))))))))))) ++ wsX80 ++ wsX90 ++ wsX00 ++ wsX20 ++ wsX50 ++ wsX70 ++ wsX40 ++ wsX10 ++ wsX30 ++ wsX60 ++ ([] : List Cond)
theorem inlX0 : ∀ w ∈ wsX00, w ∈ wsL_law := fun _ h => List.mem_append_left _ (List.mem_append_left _ (List.mem_append_left _ (List.mem_append_left _ (List.mem_append_left _ (List.mem_append_left _ (List.mem_append_left _ (List.mem_append_left _ (List.mem_append_right _ h))))))))
theorem inlX1 : ∀ w ∈ wsX10, w ∈ wsL_law := fun _ h => List.mem_append_left _ (List.mem_append_left _ (List.mem_append_left _ (List.mem_append_right _ h)))
theorem inlX2 : ∀ w ∈ wsX20, w ∈ wsL_law := fun _ h => List.mem_append_left _ (List.mem_append_left _ (List.mem_append_left _ (List.mem_append_left _ (List.mem_append_left _ (List.mem_append_left _ (List.mem_append_left _ (List.mem_append_right _ h)))))))
theorem inlX3 : ∀ w ∈ wsX30, w ∈ wsL_law := fun _ h => List.mem_append_left _ (List.mem_append_left _ (List.mem_append_right _ h))
theorem inlX4 : ∀ w ∈ wsX40, w ∈ wsL_law := fun _ h => List.mem_append_left _ (List.mem_append_left _ (List.mem_append_left _ (List.mem_append_left _ (List.mem_append_right _ h))))
theorem inlX5 : ∀ w ∈ wsX50, w ∈ wsL_law := fun _ h => List.mem_append_left _ (List.mem_append_left _ (List.mem_append_left _ (List.mem_append_left _ (List.mem_append_left _ (List.mem_append_left _ (List.mem_append_right _ h))))))
theorem inlX6 : ∀ w ∈ wsX60, w ∈ wsL_law := fun _ h => List.mem_append_left _ (List.mem_append_right _ h)
theorem inlX7 : ∀ w ∈ wsX70, w ∈ wsL_law := fun _ h => List.mem_append_left _ (List.mem_append_left _ (List.mem_append_left _ (List.mem_append_left _ (List.mem_append_left _ (List.mem_append_right _ h)))))
theorem inlX8 : ∀ w ∈ wsX80, w ∈ wsL_law := fun _ h => List.mem_append_left _ (List.mem_append_left _ (List.mem_append_left _ (List.mem_append_left _ (List.mem_append_left _ (List.mem_append_left _ (List.mem_append_left _ (List.mem_append_left _ (List.mem_append_left _ (List.mem_append_left _ (List.mem_append_right _ h))))))))))
theorem inlX9 : ∀ w ∈ wsX90, w ∈ wsL_law := fun _ h => List.mem_append_left _ (List.mem_append_left _ (List.mem_append_left _ (List.mem_append_left _ (List.mem_append_left _ (List.mem_append_left _ (List.mem_append_left _ (List.mem_append_left _ (List.mem_append_left _ (List.mem_append_right _ h)))))))))
abbrev vwCl : List vw_C := [(RX0, TX0, 2), (RX1, TX1, 3), (RX2, TX2, 3), (RX3, TX3, 2), (RX4, TX4, 4), (RX5, TX5, 2), (RX6, TX6, 6), (RX7, TX7, 6), (RX8, TX8, 15), (RX9, TX9, 34)]
end
section
/-! THE FRAME: memory of ints by (cell, place); which cell is what is fixed (ff_sh); a frame's judgement TT over it; a contract CC over it -/
abbrev Mem : Type := Nat → Nat → Int32
def mset (μ : Mem) (i : Nat) (f : Nat → Int32) : Mem := fun j => if j = i then f else μ j
theorem mset_eq {μ : Mem} {i : Nat} {f : Nat → Int32} : mset μ i f i = f := if_pos rfl
theorem mset_ne {μ : Mem} {i j : Nat} {f : Nat → Int32} (h : j ≠ i) : mset μ i f j = μ j := if_neg h
/-- a cell: an object (class, fields: (0, _) an int, (1, r) the cell r for good, (2, _) a cell by its number or null), or an array (type, length, of ints; or of cells for good) -/
abbrev Shp : Type := (Nat × List (Nat × Nat)) ⊕ (Nat × Nat × Option (Nat → Nat))
def ff_shA : Nat → Shp
  | 0 => .inl (8, [(1, 40), (1, 42), (1, 1), (1, 2), (1, 4), (1, 44), (0, 0), (0, 0), (1, 6), (1, 11), (1, 13), (1, 15), (1, 18), (1, 23), (0, 0)])
  | 1 => .inr (0, 256, none)
  | 2 => .inl (2, [(1, 3), (0, 0), (0, 0)])
  | 3 => .inr (3, 8, some (fun j => 48 + 2 * j))
  | 4 => .inl (5, [(1, 5), (0, 0)])
  | 5 => .inr (3, 4, some (fun j => 64 + 2 * j))
  | 6 => .inl (7, [(1, 7), (1, 8), (1, 9), (1, 10), (0, 0), (0, 0)])
  | 7 => .inr (0, 70, none)
  | 8 => .inr (0, 70, none)
  | 9 => .inr (0, 70, none)
  | 10 => .inr (0, 70, none)
  | 11 => .inl (4, [(1, 46), (1, 12), (2, 0), (0, 0)])
  | 12 => .inr (0, 3, none)
  | 13 => .inl (1, [(1, 14), (2, 0), (2, 0)])
  | 14 => .inr (0, 256, none)
  | 15 => .inl (3, [(1, 16), (1, 17)])
  | 16 => .inr (0, 160, none)
  | 17 => .inr (0, 4, none)
  | 18 => .inl (6, [(1, 19), (0, 0), (1, 20), (1, 21), (1, 22), (0, 0)])
  | 19 => .inr (2, 120, none)
  | 20 => .inr (0, 12, none)
  | 21 => .inr (0, 12, none)
  | 22 => .inr (0, 12, none)
  | 23 => .inr (2, 349, none)
  | 24 => .inl (9, [(0, 0), (1, 77), (1, 78), (1, 26), (0, 0), (1, 27), (0, 0), (1, 28), (1, 29), (1, 30), (1, 31), (1, 32), (1, 33), (1, 34), (1, 35), (0, 0), (1, 36), (1, 37), (1, 38), (0, 0), (0, 0), (0, 0), (1, 39), (1, 25), (1, 72), (0, 0), (1, 73), (1, 74), (0, 0), (0, 0), (0, 0), (1, 95), (1, 75), (1, 76)])
  | 25 => .inr (0, 12, none)
  | 26 => .inr (0, 256, none)
  | 27 => .inr (4, 8, some (fun j => 79 + j))
  | 28 => .inr (0, 256, none)
  | 29 => .inr (0, 256, none)
  | 30 => .inr (5, 4, some (fun j => 100 + j))
  | 31 => .inr (5, 4, some (fun j => 104 + j))
  | 32 => .inr (0, 4, none)
  | 33 => .inr (4, 4, some (fun j => 87 + j))
  | 34 => .inr (4, 4, some (fun j => 91 + j))
  | 35 => .inr (0, 4, none)
  | 36 => .inr (0, 3, none)
  | 37 => .inr (0, 8, none)
  | 38 => .inr (2, 120, none)
  | 39 => .inr (0, 12, none)
  | 72 => .inr (2, 1280, none)
  | 73 => .inr (0, 4, none)
  | 74 => .inr (5, 4, some (fun j => 108 + j))
  | 75 => .inr (4, 4, some (fun j => 96 + j))
  | _ => .inr (0, 4, none)
def ff_sh (i : Nat) : Shp := if i < 40 then ff_shA i else if i < 72 then (if i % 2 = 0 then .inl (0, [(0, 0), (1, i + 1)]) else .inr (0, 256, none)) else if i < 77 then ff_shA i else if i < 100 then .inr (1, 256, none) else if i < 108 then .inr (0, 256, none) else .inr (0, 40, none)
theorem sh_ho {j : Nat} (h : j < 16) : ff_sh (40 + 2 * j) = .inl (0, [(0, 0), (1, 40 + 2 * j + 1)]) := by
  unfold ff_sh
  rw [if_neg (by omega), if_pos (by omega), if_pos (by omega)]
theorem sh_hw {j : Nat} (h : j < 16) : ff_sh (40 + 2 * j + 1) = .inr (0, 256, none) := by
  unfold ff_sh
  rw [if_neg (by omega), if_pos (by omega), if_neg (by omega)]
theorem sh_bo {j : Nat} (h : j < 23) : ff_sh (77 + j) = .inr (1, 256, none) := by
  unfold ff_sh
  rw [if_neg (by omega), if_neg (by omega), if_neg (by omega), if_pos (by omega)]
theorem sh_fl {j : Nat} (h : j < 8) : ff_sh (100 + j) = .inr (0, 256, none) := by
  unfold ff_sh
  rw [if_neg (by omega), if_neg (by omega), if_neg (by omega), if_neg (by omega), if_pos (by omega)]
theorem sh_li {j : Nat} : ff_sh (108 + j) = .inr (0, 40, none) := by
  unfold ff_sh
  rw [if_neg (by omega), if_neg (by omega), if_neg (by omega), if_neg (by omega), if_neg (by omega)]
/-- where the cells are: the classes' numbers, their slots, the addresses, the array classes -/
abbrev Geo : Type := (Nat → ClassId) × (Nat → Nat → Nat) × (Nat → Nat) × (Nat → ClassId)
abbrev gD (g : Geo) : va_G := (g.1, g.2.1)
def tv (g : Geo) : Value → Value
  | .ref i => .ref (g.2.2.1 i)
  | v => v
def fval (g : Geo) (f : Nat → Int32) (k : Nat) (d : Nat × Nat) : Value := match d.1 with
  | 0 => .int (f k)
  | 1 => .ref (g.2.2.1 d.2)
  | _ => if f k < 0 then .null else .ref (g.2.2.1 (f k).toNatClampNeg)
def wcell (g : Geo) (sh : Shp) (f : Nat → Int32) : va_E := match sh with
  | .inl (ci, fs) => .inr (ci, fs.mapIdx (fun k d => fval g f k d))
  | .inr (t, n, none) => .inl (g.2.2.2 t, n, .inl f)
  | .inr (t, n, some r) => .inl (g.2.2.2 t, n, .inr (.inr (.inr (.inr (fun j => some (g.2.2.1 (r j)))))))
def wls (g : Geo) (μ : Mem) : va_W := (List.range 112).map (fun i => (g.2.2.1 i, wcell g (ff_sh i) (μ i)))
theorem wls_at (g : Geo) (μ : Mem) {i : Nat} (h : i < 112) : (wls g μ)[i]? = some (g.2.2.1 i, wcell g (ff_sh i) (μ i)) := by
  simp [wls, h]
theorem wls_set (g : Geo) (μ : Mem) {i : Nat} (h : i < 112) (f : Nat → Int32) : (wls g μ).set i (g.2.2.1 i, wcell g (ff_sh i) f) = wls g (mset μ i f) := by
  apply List.ext_getElem?
  intro k
  by_cases hk : k < 112
  · rw [wls_at g _ hk]
    by_cases e : k = i
    · subst e
      rw [List.getElem?_set_self (by simp [wls, h]), mset_eq]
    · rw [List.getElem?_set_ne (Ne.symm e), wls_at g _ hk, mset_ne e]
  · rw [List.getElem?_eq_none (by simp [wls]; omega), List.getElem?_eq_none (by simp [wls]; omega)]
def tyL : List FieldType := [.int, .boolean, .byte, .object "FaceFlips$Heap", .array .boolean, .array .int]
def tysG (g : Geo) : List (ClassId × FieldType) := tyL.mapIdx (fun k t => (g.2.2.2 k, t))
theorem tysG_at {g : Geo} {t : Nat} {ty : FieldType} (h : tyL[t]? = some ty) : (tysG g)[t]? = some (g.2.2.2 t, ty) := by
  simp [tysG, h]
/-- the cells that a frame may change -/
def AA (g : Geo) (sz : Nat) : Nat → Prop := fun q => (∃ i : Nat, i < 112 ∧ q = g.2.2.1 i) ∨ sz ≤ q
def GOK (g : Geo) : Prop := ∀ i j : Nat, i < 112 → j < 112 → g.2.2.1 i = g.2.2.1 j → i = j
theorem wls_D {g : Geo} (hg : GOK g) (μ : Mem) (sz : Nat) : va_D (AA g sz) (wls g μ) := by
  have key : ∀ (k : Nat) (q : Nat × va_E), (wls g μ)[k]? = some q → k < 112 ∧ q.1 = g.2.2.1 k := by
    intro k q h
    by_cases hk : k < 112
    · rw [wls_at g μ hk] at h
      cases h
      exact ⟨hk, rfl⟩
    · rw [List.getElem?_eq_none (by simp [wls]; omega)] at h
      cases h
  refine ⟨fun i j p q hi hj e => ?_, fun k q hk => ?_⟩
  · obtain ⟨h1, h2⟩ := key i p hi
    obtain ⟨h3, h4⟩ := key j q hj
    exact hg i j h1 h3 (by rw [← h2, ← h4, e])
  · obtain ⟨h1, h2⟩ := key k q hk
    exact Or.inl ⟨k, h1, h2⟩
/-- the literals: their texts' bytes -/
def litT : List String := ["nothing", "ball", "sphere", "row", "round", "cross", "three", "four", "flip", "keep", "take", "body"]
def litB : List (List Int32) := [[110, 111, 116, 104, 105, 110, 103], [98, 97, 108, 108], [115, 112, 104, 101, 114, 101], [114, 111, 119], [114, 111, 117, 110, 100], [99, 114, 111, 115, 115], [116, 104, 114, 101, 101], [102, 111, 117, 114], [102, 108, 105, 112], [107, 101, 101, 112], [116, 97, 107, 101], [98, 111, 100, 121]]
def litL : List Nat := litB.map List.length
end
section
/-! THE JUDGEMENT OF A FRAME (TT) AND THE CONTRACT OF A METHOD (CC) -/
def nestL : List Cond := [.fieldLinkNest "FaceFlips" 202 "FaceFlips$Past" "known" "I" "FaceFlips", .fieldLinkNest "FaceFlips" 211 "FaceFlips$Shelf" "used" "I" "FaceFlips", .fieldLinkNest "FaceFlips" 221 "FaceFlips$Search" "path" "[I" "FaceFlips", .fieldLinkNest "FaceFlips" 240 "FaceFlips$Text" "size" "I" "FaceFlips", .fieldLinkNest "FaceFlips" 246 "FaceFlips$Text" "words" "I" "FaceFlips", .fieldLinkNest "FaceFlips" 275 "FaceFlips$Text" "word" "[I" "FaceFlips", .fieldLinkNest "FaceFlips" 81 "FaceFlips$Heap" "k" "I" "FaceFlips", .fieldLinkNest "FaceFlips$Names" 15 "FaceFlips$Heap" "k" "I" "FaceFlips", .fieldLinkNest "FaceFlips$Names" 40 "FaceFlips$Heap" "within" "[I" "FaceFlips", .fieldLinkNest "FaceFlips$Search" 45 "FaceFlips$Heap" "within" "[I" "FaceFlips", .fieldLinkNest "FaceFlips$Search" 48 "FaceFlips$Heap" "k" "I" "FaceFlips", .fieldLinkNest "FaceFlips$Text" 40 "FaceFlips" "FEWEST_DIGITS" "[I" "FaceFlips", .fieldLinkNest "FaceFlips$Text" 43 "FaceFlips" "MOST_DIGITS" "[I" "FaceFlips", .fieldLinkNest "FaceFlips$Ways" 24 "FaceFlips$Heap" "k" "I" "FaceFlips"]
def NK (U : State) : Prop := ∀ w ∈ nestL, va_Nw w U
theorem NK.warm {s U : State} (hW : s.WarmedH U.vm) (h : NK s) : NK U := by
  intro w hw
  have h1 := h w hw
  simp only [nestL, List.mem_cons, List.not_mem_nil, or_false] at hw
  rcases hw with rfl | rfl | rfl | rfl | rfl | rfl | rfl | rfl | rfl | rfl | rfl | rfl | rfl | rfl <;> exact va_Nw.warmF hW h1
theorem NK.same {u U : State} (hv : u.vm = U.vm) (h : NK u) : NK U := by
  intro w hw
  have h1 := h w hw
  simp only [nestL, List.mem_cons, List.not_mem_nil, or_false] at hw
  rcases hw with rfl | rfl | rfl | rfl | rfl | rfl | rfl | rfl | rfl | rfl | rfl | rfl | rfl | rfl <;> exact va_Nw.same rfl hv h1
/-- which literal stands at which place of which class -/
def litR : List (String × Nat × Nat) := [("FaceFlips$Text", 64, 0), ("FaceFlips$Text", 66, 1), ("FaceFlips$Text", 68, 2), ("FaceFlips$Text", 70, 3), ("FaceFlips$Text", 72, 4), ("FaceFlips$Text", 74, 5), ("FaceFlips$Text", 76, 6), ("FaceFlips$Text", 78, 7), ("FaceFlips$Text", 80, 8), ("FaceFlips$Text", 82, 9), ("FaceFlips$Text", 84, 10), ("FaceFlips$Text", 86, 11), ("FaceFlipsModel", 246, 0), ("FaceFlipsModel", 248, 1), ("FaceFlipsModel", 250, 2), ("FaceFlipsModel", 252, 3), ("FaceFlipsModel", 253, 4), ("FaceFlipsModel", 255, 5), ("FaceFlipsModel", 257, 6), ("FaceFlipsModel", 259, 7), ("FaceFlipsModel", 261, 9), ("FaceFlipsModel", 263, 8), ("FaceFlipsModel", 265, 10), ("FaceFlipsModel", 267, 11)]
def SK (g : Geo) (U : State) : Prop := ∀ q ∈ litR, vk_R q.1 q.2.1 (litT.getD q.2.2 "") (g.2.2.1 (112 + 2 * q.2.2)) U
/-- what never changes of the tables -/
def KK (g : Geo) (U : State) : Prop := va_K (gD g) vwCl (tysG g) U ∧ NK U ∧ SK g U
theorem KK.warm {g : Geo} {s U : State} (hW : s.WarmedH U.vm) (h : KK g s) : KK g U := ⟨va_K.moved hW.alike h.1, NK.warm hW h.2.1, fun q hq => vk_R.warm hW (h.2.2 q hq)⟩
theorem KK.same {g : Geo} {u U : State} (hv : U.vm = u.vm) (h : KK g u) : KK g U := ⟨va_K.moved (by rw [hv]; exact Vm.Alike.refl u.vm) h.1, NK.same hv.symm h.2.1, fun q hq => vk_R.same hv (h.2.2 q hq)⟩
/-- the rows of digits -/
def fewD (j : Nat) : Int32 := [0, 0, 0, 0, 0, 0, 0, 0, 1, 0, 1, 1].getD j 0
def mostD (j : Nat) : Int32 := [0, 0, 0, 0, 0, 0, 0, 0, 2, 0, 1, 8].getD j 0
/-- what never changes of the heap: the literals, the rows of digits, two numbers of the JDK -/
def SS (g : Geo) (A : Nat → Prop) (U : State) (H : Heap) : Prop := vk_S 12 litL litB (fun w => g.2.2.1 (112 + 2 * w)) (fun w => g.2.2.1 (113 + 2 * w)) A U H ∧ (va_Z "FaceFlips" "FEWEST_DIGITS" "[I" (.ref (g.2.2.1 136)) A U H ∧ va_T .int (g.2.2.1 136) 12 (fun j => .int (fewD j)) A U H) ∧ (va_Z "FaceFlips" "MOST_DIGITS" "[I" (.ref (g.2.2.1 137)) A U H ∧ va_T .int (g.2.2.1 137) 12 (fun j => .int (mostD j)) A U H) ∧ va_Z "java/lang/String" "COMPACT_STRINGS" "Z" (.int 1) A U H ∧ va_Zq "jdk/internal/util/Preconditions" "SIOOBE_FORMATTER" "Ljava/util/function/BiFunction;" A U H
theorem SS.moved {g : Geo} {A : Nat → Prop} {u U : State} {H : Heap} (hvm : u.vm.Alike U.vm) (h : SS g A u H) : SS g A U H := ⟨h.1.moved hvm, ⟨h.2.1.1.moved hvm, h.2.1.2.moved hvm⟩, ⟨h.2.2.1.1.moved hvm, h.2.2.1.2.moved hvm⟩, h.2.2.2.1.moved hvm, h.2.2.2.2.moved hvm⟩
theorem SS.kept {g : Geo} {A : Nat → Prop} {U : State} {H H1 : Heap} (h : SS g A U H) (hq : ∀ a : Nat, a < H.size → ¬ A a → H1[a]? = H[a]?) : SS g A U H1 := ⟨h.1.kept hq, ⟨h.2.1.1.kept hq, h.2.1.2.kept hq⟩, ⟨h.2.2.1.1.kept hq, h.2.2.1.2.kept hq⟩, h.2.2.2.1.kept hq, h.2.2.2.2.kept hq⟩
theorem SS.narrow {g : Geo} {A B : Nat → Prop} {U : State} {H : Heap} (h : SS g A U H) (hAB : ∀ q, B q → A q) : SS g B U H := ⟨h.1.narrow hAB, ⟨h.2.1.1.narrow hAB, h.2.1.2.narrow hAB⟩, ⟨h.2.2.1.1.narrow hAB, h.2.2.1.2.narrow hAB⟩, h.2.2.2.1.narrow hAB, h.2.2.2.2.narrow hAB⟩
/-- a method: its name, bytes, locals, answer's type, class -/
abbrev MD : Type := MethodName × ByteArray × Nat × Option FieldType × String
def mws (M : MD) : List Cond := .code M.1 M.2.1 M.2.2.1 M.2.2.2.1 :: wsL_law
def rmd (d : Nat) : Room := { frames := d, cells := 0, slots := 0, locals := 40 * d }
def QQ (g : Geo) (Q : Option Value → Mem → Prop) (A : Nat → Prop) : Array Value → State → Outcome → State → Prop := fun _ st oc t => (∃ (r : Option Value) (μ : Mem), oc = .returned (r.map (tv g)) ∧ Q r μ ∧ va_P (gD g) vwCl (wls g μ) t.heap) ∧ va_F A st t
/-- THE CONTRACT: from any state whose memory is μ, with room for d frames below, the method returns, and Q holds of its answer and the memory then -/
def CC (l : Launch) (d : Nat) (M : MD) (as : List Value) (μ : Mem) (Q : Option Value → Mem → Prop) : Prop :=
  ∀ (g : Geo) (sz : Nat), GOK g → Met l M.1 (mws M) (rmd d) (va_Pc (as.map (tv g)) (fun U => U.heap.size = sz ∧ KK g U ∧ va_P (gD g) vwCl (wls g μ) U.heap ∧ SS g (AA g sz) U U.heap)) (QQ g Q (AA g sz)) 0 0 (AA g sz)
/-- a frame: program, launch, env, room, state at its start, method, arguments, below, method, code, what is wanted, cells, slots used -/
abbrev XT : Type := Program × Launch × Env × Room × State × MethodId × Array Value × List Frame × Method × Code × (State → Prop) × Nat × Nat × Geo × MD × Nat
def okv : Value → Bool
  | .int _ => true
  | .ref _ => true
  | .null => true
  | _ => false
/-- the locals that are told, from place i on (a long stands for 'nothing told') -/
def tl (g : Geo) : Nat → List Value → List (Nat × Value)
  | _, [] => []
  | i, v :: L => if okv v then (i, tv g v) :: tl g (i + 1) L else tl g (i + 1) L
abbrev TTof (p : Program) (l : Launch) (e : Env) (R : Room) (s : State) (m : MethodId) (args : Array Value) (below : List Frame) (meth : Method) (c : Code) (Z : State → Prop) (ce sl : Nat) (g : Geo) (nL : Nat) (pc : Nat) (L S : List Value) (μ : Mem) : Prop :=
  ∀ (H : Heap) (locs : List Loc) (ls : Array Slot), va_P (gD g) vwCl (wls g μ) H → va_S (AA g s.heap.size) s.heap H locs → lv_has ls nL (tl g 0 L) → W p l e R s m args below meth c H locs ce sl Z (F0 m pc ls (S.map (tv g)))
def TT (X : XT) (pc : Nat) (L S : List Value) (μ : Mem) : Prop :=
  match X with | (p, l, e, R, s, m, args, below, meth, c, Z, ce, sl, g, M, _) => TTof p l e R s m args below meth c Z ce sl g M.2.2.1 pc L S μ
/-- what holds of the frame all along; d: how many frames may stand above it -/
def Cx (X : XT) (l0 : Launch) (d : Nat) (M : MD) : Prop :=
  match X with | (p, l, e, R, s, m, args, below, meth, c, Z, ce, sl, g, M', n) => l = l0 ∧ n = 0 ∧ M' = M ∧ p.tables.exec = Jvm.exec ∧ c.code = M.2.1 ∧ c.maxLocals = M.2.2.1 ∧ s.vm.findClass M.2.2.2.2 = some m.cls ∧ (∀ w ∈ wsL_law, w.before args s = true) ∧ KK g s ∧ SS g (AA g s.heap.size) s s.heap ∧ GOK g ∧ d ≤ R.frames ∧ 40 * d ≤ R.locals ∧ ce ≤ R.cells ∧ sl ≤ R.slots
/-- a method's own frame: and what is wanted at its end -/
def Cm (X : XT) (l0 : Launch) (d : Nat) (M : MD) (Q : Option Value → Mem → Prop) : Prop :=
  Cx X l0 d M ∧ match X with | (p, l, e, R, s, m, args, below, meth, c, Z, ce, sl, g, M', n) => meth.locks = false ∧ meth.sig.returnType = M.2.2.2.1 ∧ ce = 0 ∧ sl = 0 ∧ Z = MQ below (QQ g Q (AA g s.heap.size)) args s 0 0 (AA g s.heap.size)
theorem Cm.cx {X : XT} {l0 : Launch} {d : Nat} {M : MD} {Q : Option Value → Mem → Prop} (h : Cm X l0 d M Q) : Cx X l0 d M := h.1
theorem tl_entry (g : Geo) : ∀ (vs : List Value) (i n : Nat), (∀ v ∈ vs, okv v = true) → lv_args i (vs.map (tv g)) = tl g i (vs ++ List.replicate n (.long 0))
  | [], i, 0, _ => rfl
  | [], i, n + 1, h => by
    show [] = tl g i (.long 0 :: List.replicate n (.long 0))
    have := tl_entry g [] (i + 1) n h
    simp only [List.map_nil, List.nil_append] at this
    simp only [tl, okv]
    exact this
  | v :: vs, i, n, h => by
    have hv := h v List.mem_cons_self
    have h2 := fun w hw => h w (List.mem_cons_of_mem v hw)
    have hc : (tv g v).category = 1 := by cases v <;> first | rfl | cases hv
    simp only [List.map_cons, lv_args, List.cons_append, tl, hv, hc, if_true]
    rw [if_neg (by decide), tl_entry g vs (i + 1) n h2]
theorem sl_len (g : Geo) : ∀ (vs : List Value), (∀ v ∈ vs, okv v = true) → (lg_sl (vs.map (tv g))).length = vs.length
  | [], _ => rfl
  | v :: vs, h => by
    have hv := h v List.mem_cons_self
    have hc : (tv g v).category = 1 := by cases v <;> first | rfl | cases hv
    have := sl_len g vs (fun w hw => h w (List.mem_cons_of_mem v hw))
    simp only [lg_sl, List.map_cons, List.flatMap_cons, hc] at this ⊢
    simp [this]
/-- a method's contract out of its frame's judgement -/
theorem CC.of {l : Launch} {d : Nat} {M : MD} {as : List Value} {μ : Mem} {Q : Option Value → Mem → Prop} (hy : plainName M.1.cls = true) (hown : M.1.cls = M.2.2.2.2) (hok : ∀ v ∈ as, okv v = true) (hn : as.length ≤ M.2.2.1)
    (h : ∀ X : XT, Cm X l d M Q → TT X 0 (as ++ List.replicate (M.2.2.1 - as.length) (.long 0)) [] μ) : CC l d M as μ Q := by
  intro g sz hg
  refine Met.ofW (cc := M.2.1) (maxL := M.2.2.1) (ret := M.2.2.2.1) hy rfl ?_
  intro p e s m args below meth c s₁ B hml hv
  obtain ⟨rfl, hsz, hK, hP, hS⟩ := hv
  subst hsz
  have hts := atoms_spec (ws := mws M) B.pre
  have hcl : s.vm.findClass M.2.2.2.2 = some m.cls := by rw [← hown]; exact findClass_of_methodNamed B.named
  have hl := lv_entry (as.map (tv g)) (n := M.2.2.1) (by rw [sl_len g as hok]; exact hn)
  rw [lg_entry_eq]
  generalize (lg_sl (as.map (tv g)) ++ List.replicate (M.2.2.1 - (lg_sl (as.map (tv g))).length) Slot.unset).toArray = ls at hl ⊢
  rw [tl_entry g as 0 (M.2.2.1 - as.length) hok] at hl
  exact h (p, l, e, rmd d, s, m, (as.map (tv g)).toArray, below, meth, c, _, 0, 0, g, M, 0) ⟨⟨rfl, rfl, rfl, B.exec, B.bytes, hml, hcl, fun w hw => hts w (List.mem_cons_of_mem _ hw), hK, hS, hg, Nat.le_refl _, Nat.le_refl _, Nat.le_refl _, Nat.le_refl _⟩, B.notSynchronized, B.returns, rfl, rfl, rfl⟩ s.heap [] ls hP va_S.rf hl
end
section
/-! THE ROWS OF THE JUDGEMENT (written by wip/whole/gen/rows.py) -/
theorem Cx.mono {X : XT} {l : Launch} {d d' : Nat} {M : MD} (hX : Cx X l d M) (h : d' ≤ d) : Cx X l d' M := by
  obtain ⟨p, l', e, R, s, m, args, below, meth, c, Z, ce, sl, g, M', n0⟩ := X
  obtain ⟨a1, a2, a3, a4, a5, a6, a7, a8, a9, b1, b2, b3, b4, b5⟩ := hX
  exact ⟨a1, a2, a3, a4, a5, a6, a7, a8, a9, b1, b2, by omega, by omega, b5⟩
theorem tl_mem (g : Geo) : ∀ (L : List Value) (j i : Nat) (v : Value), L[i]? = some v → okv v = true → (j + i, tv g v) ∈ tl g j L
  | [], j, i, v, h, _ => by simp at h
  | w :: L, j, 0, v, h, hv => by
    simp only [List.getElem?_cons_zero, Option.some.injEq] at h
    subst h
    simp [tl, hv]
  | w :: L, j, i + 1, v, h, hv => by
    simp only [List.getElem?_cons_succ] at h
    have := tl_mem g L (j + 1) i v h hv
    rw [show j + (i + 1) = j + 1 + i by omega]
    simp only [tl]
    split
    · exact List.mem_cons_of_mem _ this
    · exact this
theorem tl_of (g : Geo) : ∀ (L : List Value) (j : Nat) (q : Nat × Value), q ∈ tl g j L → ∃ (i : Nat) (v : Value), q = (j + i, tv g v) ∧ L[i]? = some v ∧ okv v = true
  | [], j, q, h => by simp [tl] at h
  | w :: L, j, q, h => by
    simp only [tl] at h
    have rest : q ∈ tl g (j + 1) L → ∃ (i : Nat) (v : Value), q = (j + i, tv g v) ∧ (w :: L)[i]? = some v ∧ okv v = true := fun h => by
      obtain ⟨i, v, h1, h2, h3⟩ := tl_of g L (j + 1) q h
      exact ⟨i + 1, v, by rw [h1]; congr 1; omega, by simpa using h2, h3⟩
    split at h
    · rcases List.mem_cons.mp h with h | h
      · exact ⟨0, w, by rw [h]; rfl, rfl, by assumption⟩
      · exact rest h
    · exact rest h
theorem tv_cat {g : Geo} {v : Value} (h : okv v = true) : (tv g v).category = 1 := by cases v <;> first | rfl | cases h
theorem lv_mono {ls : Array Slot} {nL : Nat} {l1 l2 : List (Nat × Value)} (h : lv_has ls nL l1) (hs : ∀ q ∈ l2, q ∈ l1) : lv_has ls nL l2 := ⟨h.1, h.2.1, fun q hq => h.2.2 q (hs q hq)⟩
theorem tl_set {g : Geo} {L : List Value} {i : Nat} {v : Value} (q : Nat × Value) (h : q ∈ tl g 0 (L.set i v)) : q ∈ (i, tv g v) :: (tl g 0 L).filter (fun q => !(q.1 == i) && !(q.1 + 1 == i && q.2.category == 2)) := by
  obtain ⟨k, w, h1, h2, h3⟩ := tl_of g _ _ _ h
  by_cases e : k = i
  · subst e
    have hl : k < L.length := by
      rcases Nat.lt_or_ge k L.length with z | z
      · exact z
      · rw [List.getElem?_eq_none (by simpa using z)] at h2
        cases h2
    rw [List.getElem?_set_self hl] at h2
    cases h2
    rw [h1, Nat.zero_add]
    exact List.mem_cons_self
  · rw [List.getElem?_set_ne (Ne.symm e)] at h2
    refine List.mem_cons_of_mem _ (List.mem_filter.mpr ⟨?_, ?_⟩)
    · rw [h1]
      exact tl_mem g L 0 k w h2 h3
    · have hc := tv_cat (g := g) h3
      rw [h1]
      simp only [Nat.zero_add]
      rw [hc]
      simp [e]
theorem tl_ld {g : Geo} {ls : Array Slot} {nL : Nat} {L : List Value} (hl : lv_has ls nL (tl g 0 L)) {i : Nat} {v : Value} (h : L[i]? = some v) (hv : okv v = true) : ls[i]? = some (.val (tv g v)) := by
  have := hl.2.2 _ (tl_mem g L 0 i v h hv)
  simpa using this
theorem nI_ofInt (n : Nat) : Int32.ofInt (n : Int) = nI n := rfl
theorem tt_iconst {X : XT} {l : Launch} {d : Nat} {M : MD} (hX : Cx X l d M) {pc q : Nat} {L S : List Value} {μ : Mem} {n : Int} {v : Int32} (hv : Int32.ofInt n = v) (hd : decode M.2.1 pc = .ok (.iconst n, 1)) (hq : pc + 1 = q) (k : TT X q L (.int v :: S) μ) : TT X pc L (S) μ := by
  obtain ⟨p, l', e, R, s, m, args, below, meth, c, Z, ce, sl, g, M', n0⟩ := X
  obtain ⟨rfl, rfl, rfl, hx, hb, hml, ho, hts, hK, hSS, hg, hfr, hlo, hce, hsl⟩ := hX
  subst hq
  intro H locs ls hP hS hl
  exact lv_iconst hx hb hd hv (k H locs ls hP hS hl)
theorem tt_bipush {X : XT} {l : Launch} {d : Nat} {M : MD} (hX : Cx X l d M) {pc q : Nat} {L S : List Value} {μ : Mem} {n : Int} {v : Int32} (hv : (Int8.ofInt n).toInt32 = v) (hd : decode M.2.1 pc = .ok (.bipush n, 2)) (hq : pc + 2 = q) (k : TT X q L (.int v :: S) μ) : TT X pc L (S) μ := by
  obtain ⟨p, l', e, R, s, m, args, below, meth, c, Z, ce, sl, g, M', n0⟩ := X
  obtain ⟨rfl, rfl, rfl, hx, hb, hml, ho, hts, hK, hSS, hg, hfr, hlo, hce, hsl⟩ := hX
  subst hq
  intro H locs ls hP hS hl
  exact lv_bipush hx hb hd hv (k H locs ls hP hS hl)
theorem tt_sipush {X : XT} {l : Launch} {d : Nat} {M : MD} (hX : Cx X l d M) {pc q : Nat} {L S : List Value} {μ : Mem} {n : Int} {v : Int32} (hv : (Int16.ofInt n).toInt32 = v) (hd : decode M.2.1 pc = .ok (.sipush n, 3)) (hq : pc + 3 = q) (k : TT X q L (.int v :: S) μ) : TT X pc L (S) μ := by
  obtain ⟨p, l', e, R, s, m, args, below, meth, c, Z, ce, sl, g, M', n0⟩ := X
  obtain ⟨rfl, rfl, rfl, hx, hb, hml, ho, hts, hK, hSS, hg, hfr, hlo, hce, hsl⟩ := hX
  subst hq
  intro H locs ls hP hS hl
  exact lv_sipush hx hb hd hv (k H locs ls hP hS hl)
theorem tt_iadd {X : XT} {l : Launch} {d : Nat} {M : MD} (hX : Cx X l d M) {pc q : Nat} {L S : List Value} {μ : Mem} {x y : Int32} (hd : decode M.2.1 pc = .ok (.iadd, 1)) (hq : pc + 1 = q) (k : TT X q L (.int (x + y) :: S) μ) : TT X pc L (.int y :: .int x :: S) μ := by
  obtain ⟨p, l', e, R, s, m, args, below, meth, c, Z, ce, sl, g, M', n0⟩ := X
  obtain ⟨rfl, rfl, rfl, hx, hb, hml, ho, hts, hK, hSS, hg, hfr, hlo, hce, hsl⟩ := hX
  subst hq
  intro H locs ls hP hS hl
  exact lv_iadd hx hb hd  (k H locs ls hP hS hl)
theorem tt_isub {X : XT} {l : Launch} {d : Nat} {M : MD} (hX : Cx X l d M) {pc q : Nat} {L S : List Value} {μ : Mem} {x y : Int32} (hd : decode M.2.1 pc = .ok (.isub, 1)) (hq : pc + 1 = q) (k : TT X q L (.int (x - y) :: S) μ) : TT X pc L (.int y :: .int x :: S) μ := by
  obtain ⟨p, l', e, R, s, m, args, below, meth, c, Z, ce, sl, g, M', n0⟩ := X
  obtain ⟨rfl, rfl, rfl, hx, hb, hml, ho, hts, hK, hSS, hg, hfr, hlo, hce, hsl⟩ := hX
  subst hq
  intro H locs ls hP hS hl
  exact lv_isub hx hb hd  (k H locs ls hP hS hl)
theorem tt_imul {X : XT} {l : Launch} {d : Nat} {M : MD} (hX : Cx X l d M) {pc q : Nat} {L S : List Value} {μ : Mem} {x y : Int32} (hd : decode M.2.1 pc = .ok (.imul, 1)) (hq : pc + 1 = q) (k : TT X q L (.int (x * y) :: S) μ) : TT X pc L (.int y :: .int x :: S) μ := by
  obtain ⟨p, l', e, R, s, m, args, below, meth, c, Z, ce, sl, g, M', n0⟩ := X
  obtain ⟨rfl, rfl, rfl, hx, hb, hml, ho, hts, hK, hSS, hg, hfr, hlo, hce, hsl⟩ := hX
  subst hq
  intro H locs ls hP hS hl
  exact lv_imul hx hb hd  (k H locs ls hP hS hl)
theorem tt_iand {X : XT} {l : Launch} {d : Nat} {M : MD} (hX : Cx X l d M) {pc q : Nat} {L S : List Value} {μ : Mem} {x y : Int32} (hd : decode M.2.1 pc = .ok (.iand, 1)) (hq : pc + 1 = q) (k : TT X q L (.int (x &&& y) :: S) μ) : TT X pc L (.int y :: .int x :: S) μ := by
  obtain ⟨p, l', e, R, s, m, args, below, meth, c, Z, ce, sl, g, M', n0⟩ := X
  obtain ⟨rfl, rfl, rfl, hx, hb, hml, ho, hts, hK, hSS, hg, hfr, hlo, hce, hsl⟩ := hX
  subst hq
  intro H locs ls hP hS hl
  exact lv_iand hx hb hd  (k H locs ls hP hS hl)
theorem tt_ior {X : XT} {l : Launch} {d : Nat} {M : MD} (hX : Cx X l d M) {pc q : Nat} {L S : List Value} {μ : Mem} {x y : Int32} (hd : decode M.2.1 pc = .ok (.ior, 1)) (hq : pc + 1 = q) (k : TT X q L (.int (x ||| y) :: S) μ) : TT X pc L (.int y :: .int x :: S) μ := by
  obtain ⟨p, l', e, R, s, m, args, below, meth, c, Z, ce, sl, g, M', n0⟩ := X
  obtain ⟨rfl, rfl, rfl, hx, hb, hml, ho, hts, hK, hSS, hg, hfr, hlo, hce, hsl⟩ := hX
  subst hq
  intro H locs ls hP hS hl
  exact lv_ior hx hb hd  (k H locs ls hP hS hl)
theorem tt_ixor {X : XT} {l : Launch} {d : Nat} {M : MD} (hX : Cx X l d M) {pc q : Nat} {L S : List Value} {μ : Mem} {x y : Int32} (hd : decode M.2.1 pc = .ok (.ixor, 1)) (hq : pc + 1 = q) (k : TT X q L (.int (x ^^^ y) :: S) μ) : TT X pc L (.int y :: .int x :: S) μ := by
  obtain ⟨p, l', e, R, s, m, args, below, meth, c, Z, ce, sl, g, M', n0⟩ := X
  obtain ⟨rfl, rfl, rfl, hx, hb, hml, ho, hts, hK, hSS, hg, hfr, hlo, hce, hsl⟩ := hX
  subst hq
  intro H locs ls hP hS hl
  exact lv_ixor hx hb hd  (k H locs ls hP hS hl)
theorem tt_ishl {X : XT} {l : Launch} {d : Nat} {M : MD} (hX : Cx X l d M) {pc q : Nat} {L S : List Value} {μ : Mem} {x y : Int32} (hd : decode M.2.1 pc = .ok (.ishl, 1)) (hq : pc + 1 = q) (k : TT X q L (.int (x <<< (y &&& 31)) :: S) μ) : TT X pc L (.int y :: .int x :: S) μ := by
  obtain ⟨p, l', e, R, s, m, args, below, meth, c, Z, ce, sl, g, M', n0⟩ := X
  obtain ⟨rfl, rfl, rfl, hx, hb, hml, ho, hts, hK, hSS, hg, hfr, hlo, hce, hsl⟩ := hX
  subst hq
  intro H locs ls hP hS hl
  exact lv_ishl hx hb hd  (k H locs ls hP hS hl)
theorem tt_ishr {X : XT} {l : Launch} {d : Nat} {M : MD} (hX : Cx X l d M) {pc q : Nat} {L S : List Value} {μ : Mem} {x y : Int32} (hd : decode M.2.1 pc = .ok (.ishr, 1)) (hq : pc + 1 = q) (k : TT X q L (.int (x >>> (y &&& 31)) :: S) μ) : TT X pc L (.int y :: .int x :: S) μ := by
  obtain ⟨p, l', e, R, s, m, args, below, meth, c, Z, ce, sl, g, M', n0⟩ := X
  obtain ⟨rfl, rfl, rfl, hx, hb, hml, ho, hts, hK, hSS, hg, hfr, hlo, hce, hsl⟩ := hX
  subst hq
  intro H locs ls hP hS hl
  exact lv_ishr hx hb hd  (k H locs ls hP hS hl)
theorem tt_iushr {X : XT} {l : Launch} {d : Nat} {M : MD} (hX : Cx X l d M) {pc q : Nat} {L S : List Value} {μ : Mem} {x y v : Int32} (hv : (x.toUInt32 >>> (y.toUInt32 &&& Int32.toUInt32 31)).toInt32 = v) (hd : decode M.2.1 pc = .ok (.iushr, 1)) (hq : pc + 1 = q) (k : TT X q L (.int v :: S) μ) : TT X pc L (.int y :: .int x :: S) μ := by
  obtain ⟨p, l', e, R, s, m, args, below, meth, c, Z, ce, sl, g, M', n0⟩ := X
  obtain ⟨rfl, rfl, rfl, hx, hb, hml, ho, hts, hK, hSS, hg, hfr, hlo, hce, hsl⟩ := hX
  subst hq
  intro H locs ls hP hS hl
  exact lv_iushr hx hb hd hv (k H locs ls hP hS hl)
theorem tt_irem {X : XT} {l : Launch} {d : Nat} {M : MD} (hX : Cx X l d M) {pc q : Nat} {L S : List Value} {μ : Mem} {x y : Int32} (hne : ¬ y = 0) (hd : decode M.2.1 pc = .ok (.irem, 1)) (hq : pc + 1 = q) (k : TT X q L (.int (x - x / y * y) :: S) μ) : TT X pc L (.int y :: .int x :: S) μ := by
  obtain ⟨p, l', e, R, s, m, args, below, meth, c, Z, ce, sl, g, M', n0⟩ := X
  obtain ⟨rfl, rfl, rfl, hx, hb, hml, ho, hts, hK, hSS, hg, hfr, hlo, hce, hsl⟩ := hX
  subst hq
  intro H locs ls hP hS hl
  exact lv_irem hx hb hd hne (k H locs ls hP hS hl)
theorem tt_idiv {X : XT} {l : Launch} {d : Nat} {M : MD} (hX : Cx X l d M) {pc q : Nat} {L S : List Value} {μ : Mem} {x y : Int32} (hne : ¬ y = 0) (hd : decode M.2.1 pc = .ok (.idiv, 1)) (hq : pc + 1 = q) (k : TT X q L (.int (x / y) :: S) μ) : TT X pc L (.int y :: .int x :: S) μ := by
  obtain ⟨p, l', e, R, s, m, args, below, meth, c, Z, ce, sl, g, M', n0⟩ := X
  obtain ⟨rfl, rfl, rfl, hx, hb, hml, ho, hts, hK, hSS, hg, hfr, hlo, hce, hsl⟩ := hX
  subst hq
  intro H locs ls hP hS hl
  exact lv_idiv hx hb hd hne (k H locs ls hP hS hl)
theorem tt_ineg {X : XT} {l : Launch} {d : Nat} {M : MD} (hX : Cx X l d M) {pc q : Nat} {L S : List Value} {μ : Mem} {x : Int32} (hd : decode M.2.1 pc = .ok (.ineg, 1)) (hq : pc + 1 = q) (k : TT X q L (.int (-x) :: S) μ) : TT X pc L (.int x :: S) μ := by
  obtain ⟨p, l', e, R, s, m, args, below, meth, c, Z, ce, sl, g, M', n0⟩ := X
  obtain ⟨rfl, rfl, rfl, hx, hb, hml, ho, hts, hK, hSS, hg, hfr, hlo, hce, hsl⟩ := hX
  subst hq
  intro H locs ls hP hS hl
  exact lv_ineg hx hb hd  (k H locs ls hP hS hl)
theorem tt_i2b {X : XT} {l : Launch} {d : Nat} {M : MD} (hX : Cx X l d M) {pc q : Nat} {L S : List Value} {μ : Mem} {x v : Int32} (hv : x.toInt8.toInt32 = v) (hd : decode M.2.1 pc = .ok (.i2b, 1)) (hq : pc + 1 = q) (k : TT X q L (.int v :: S) μ) : TT X pc L (.int x :: S) μ := by
  obtain ⟨p, l', e, R, s, m, args, below, meth, c, Z, ce, sl, g, M', n0⟩ := X
  obtain ⟨rfl, rfl, rfl, hx, hb, hml, ho, hts, hK, hSS, hg, hfr, hlo, hce, hsl⟩ := hX
  subst hq
  intro H locs ls hP hS hl
  exact lv_i2b hx hb hd hv (k H locs ls hP hS hl)
theorem tt_i2l {X : XT} {l : Launch} {d : Nat} {M : MD} (hX : Cx X l d M) {pc q : Nat} {L S : List Value} {μ : Mem} {x : Int32} {v : Int64} (hv : x.toInt64 = v) (hd : decode M.2.1 pc = .ok (.i2l, 1)) (hq : pc + 1 = q) (k : TT X q L (.long v :: S) μ) : TT X pc L (.int x :: S) μ := by
  obtain ⟨p, l', e, R, s, m, args, below, meth, c, Z, ce, sl, g, M', n0⟩ := X
  obtain ⟨rfl, rfl, rfl, hx, hb, hml, ho, hts, hK, hSS, hg, hfr, hlo, hce, hsl⟩ := hX
  subst hq
  intro H locs ls hP hS hl
  exact lv_i2l hx hb hd hv (k H locs ls hP hS hl)
theorem tt_dup {X : XT} {l : Launch} {d : Nat} {M : MD} (hX : Cx X l d M) {pc q : Nat} {L S : List Value} {μ : Mem} {v : Value} (hv : okv v = true) (hd : decode M.2.1 pc = .ok (.dup, 1)) (hq : pc + 1 = q) (k : TT X q L (v :: v :: S) μ) : TT X pc L (v :: S) μ := by
  obtain ⟨p, l', e, R, s, m, args, below, meth, c, Z, ce, sl, g, M', n0⟩ := X
  obtain ⟨rfl, rfl, rfl, hx, hb, hml, ho, hts, hK, hSS, hg, hfr, hlo, hce, hsl⟩ := hX
  subst hq
  intro H locs ls hP hS hl
  exact lv_dup hx hb hd (tv_cat hv) (k H locs ls hP hS hl)
theorem tt_pop {X : XT} {l : Launch} {d : Nat} {M : MD} (hX : Cx X l d M) {pc q : Nat} {L S : List Value} {μ : Mem} {v : Value} (hv : okv v = true) (hd : decode M.2.1 pc = .ok (.pop, 1)) (hq : pc + 1 = q) (k : TT X q L S μ) : TT X pc L (v :: S) μ := by
  obtain ⟨p, l', e, R, s, m, args, below, meth, c, Z, ce, sl, g, M', n0⟩ := X
  obtain ⟨rfl, rfl, rfl, hx, hb, hml, ho, hts, hK, hSS, hg, hfr, hlo, hce, hsl⟩ := hX
  subst hq
  intro H locs ls hP hS hl
  exact lv_pop hx hb hd (tv_cat hv) (k H locs ls hP hS hl)
theorem tt_dup2 {X : XT} {l : Launch} {d : Nat} {M : MD} (hX : Cx X l d M) {pc q : Nat} {L S : List Value} {μ : Mem} {v w : Value} (hv : okv v = true) (hw : okv w = true) (hd : decode M.2.1 pc = .ok (.dup2, 1)) (hq : pc + 1 = q) (k : TT X q L (w :: v :: w :: v :: S) μ) : TT X pc L (w :: v :: S) μ := by
  obtain ⟨p, l', e, R, s, m, args, below, meth, c, Z, ce, sl, g, M', n0⟩ := X
  obtain ⟨rfl, rfl, rfl, hx, hb, hml, ho, hts, hK, hSS, hg, hfr, hlo, hce, hsl⟩ := hX
  subst hq
  intro H locs ls hP hS hl
  exact lv_dup2_11 hx hb hd (tv_cat hw) (tv_cat hv) (k H locs ls hP hS hl)
theorem tt_il0 {X : XT} {l : Launch} {d : Nat} {M : MD} (hX : Cx X l d M) {pc q : Nat} {L S : List Value} {μ : Mem}  {x : Int32} (hd : decode M.2.1 pc = .ok (.iload_n 0, 1)) (hq : pc + 1 = q) (k : TT X q (.int x :: L) (.int x :: S) μ) : TT X pc (.int x :: L) S μ := by
  obtain ⟨p, l', e, R, s, m, args, below, meth, c, Z, ce, sl, g, M', n0⟩ := X
  obtain ⟨rfl, rfl, rfl, hx, hb, hml, ho, hts, hK, hSS, hg, hfr, hlo, hce, hsl⟩ := hX
  subst hq
  intro H locs ls hP hS hl
  exact lv_iload_n hx hb hd rfl (tl_ld hl (i := 0) (v := .int x) rfl rfl) (k H locs ls hP hS hl)
theorem tt_is0 {X : XT} {l : Launch} {d : Nat} {M : MD} (hX : Cx X l d M) {pc q : Nat} {L S : List Value} {μ : Mem}  {w : Value} {x : Int32} (hd : decode M.2.1 pc = .ok (.istore_n 0, 1)) (hq : pc + 1 = q) (hn : 0 < M.2.2.1) (k : TT X q (.int x :: L) S μ) : TT X pc (w :: L) (.int x :: S) μ := by
  obtain ⟨p, l', e, R, s, m, args, below, meth, c, Z, ce, sl, g, M', n0⟩ := X
  obtain ⟨rfl, rfl, rfl, hx, hb, hml, ho, hts, hK, hSS, hg, hfr, hlo, hce, hsl⟩ := hX
  subst hq
  intro H locs ls hP hS hl
  exact lv_istore_n hx hb hd rfl hl hn rfl (fun ls' hl' => k H locs ls' hP hS (lv_mono hl' (tl_set (L := w :: L) (i := 0) (v := .int x))))
theorem tt_al0 {X : XT} {l : Launch} {d : Nat} {M : MD} (hX : Cx X l d M) {pc q : Nat} {L S : List Value} {μ : Mem}  {x : Nat} (hd : decode M.2.1 pc = .ok (.aload_n 0, 1)) (hq : pc + 1 = q) (k : TT X q (.ref x :: L) (.ref x :: S) μ) : TT X pc (.ref x :: L) S μ := by
  obtain ⟨p, l', e, R, s, m, args, below, meth, c, Z, ce, sl, g, M', n0⟩ := X
  obtain ⟨rfl, rfl, rfl, hx, hb, hml, ho, hts, hK, hSS, hg, hfr, hlo, hce, hsl⟩ := hX
  subst hq
  intro H locs ls hP hS hl
  exact lv_aload_n hx hb hd rfl (tl_ld hl (i := 0) (v := .ref x) rfl rfl) (k H locs ls hP hS hl)
theorem tt_as0 {X : XT} {l : Launch} {d : Nat} {M : MD} (hX : Cx X l d M) {pc q : Nat} {L S : List Value} {μ : Mem}  {w : Value} {x : Nat} (hd : decode M.2.1 pc = .ok (.astore_n 0, 1)) (hq : pc + 1 = q) (hn : 0 < M.2.2.1) (k : TT X q (.ref x :: L) S μ) : TT X pc (w :: L) (.ref x :: S) μ := by
  obtain ⟨p, l', e, R, s, m, args, below, meth, c, Z, ce, sl, g, M', n0⟩ := X
  obtain ⟨rfl, rfl, rfl, hx, hb, hml, ho, hts, hK, hSS, hg, hfr, hlo, hce, hsl⟩ := hX
  subst hq
  intro H locs ls hP hS hl
  exact lv_astore_n hx hb hd rfl hl hn rfl (fun ls' hl' => k H locs ls' hP hS (lv_mono hl' (tl_set (L := w :: L) (i := 0) (v := .ref x))))
theorem tt_inc0 {X : XT} {l : Launch} {d : Nat} {M : MD} (hX : Cx X l d M) {pc q : Nat} {L S : List Value} {μ : Mem}  {x v : Int32} {n : Int} (hd : decode M.2.1 pc = .ok (.iinc 0 n, 3)) (hq : pc + 3 = q) (hn : 0 < M.2.2.1) (hv : x + Int32.ofInt n = v) (k : TT X q (.int v :: L) S μ) : TT X pc (.int x :: L) S μ := by
  obtain ⟨p, l', e, R, s, m, args, below, meth, c, Z, ce, sl, g, M', n0⟩ := X
  obtain ⟨rfl, rfl, rfl, hx, hb, hml, ho, hts, hK, hSS, hg, hfr, hlo, hce, hsl⟩ := hX
  subst hq
  intro H locs ls hP hS hl
  have h9 := tl_mem g (.int x :: L) 0 0 (.int x) rfl rfl
  obtain ⟨k9, h8⟩ := List.getElem?_of_mem h9
  exact lv_iinc hx hb hd hl h8 hv hn rfl (fun ls' hl' => k H locs ls' hP hS (lv_mono hl' (tl_set (L := .int x :: L) (i := 0) (v := .int v))))
theorem tt_il1 {X : XT} {l : Launch} {d : Nat} {M : MD} (hX : Cx X l d M) {pc q : Nat} {L S : List Value} {μ : Mem} {u0 : Value} {x : Int32} (hd : decode M.2.1 pc = .ok (.iload_n 1, 1)) (hq : pc + 1 = q) (k : TT X q (u0 :: .int x :: L) (.int x :: S) μ) : TT X pc (u0 :: .int x :: L) S μ := by
  obtain ⟨p, l', e, R, s, m, args, below, meth, c, Z, ce, sl, g, M', n0⟩ := X
  obtain ⟨rfl, rfl, rfl, hx, hb, hml, ho, hts, hK, hSS, hg, hfr, hlo, hce, hsl⟩ := hX
  subst hq
  intro H locs ls hP hS hl
  exact lv_iload_n hx hb hd rfl (tl_ld hl (i := 1) (v := .int x) rfl rfl) (k H locs ls hP hS hl)
theorem tt_is1 {X : XT} {l : Launch} {d : Nat} {M : MD} (hX : Cx X l d M) {pc q : Nat} {L S : List Value} {μ : Mem} {u0 : Value} {w : Value} {x : Int32} (hd : decode M.2.1 pc = .ok (.istore_n 1, 1)) (hq : pc + 1 = q) (hn : 1 < M.2.2.1) (k : TT X q (u0 :: .int x :: L) S μ) : TT X pc (u0 :: w :: L) (.int x :: S) μ := by
  obtain ⟨p, l', e, R, s, m, args, below, meth, c, Z, ce, sl, g, M', n0⟩ := X
  obtain ⟨rfl, rfl, rfl, hx, hb, hml, ho, hts, hK, hSS, hg, hfr, hlo, hce, hsl⟩ := hX
  subst hq
  intro H locs ls hP hS hl
  exact lv_istore_n hx hb hd rfl hl hn rfl (fun ls' hl' => k H locs ls' hP hS (lv_mono hl' (tl_set (L := u0 :: w :: L) (i := 1) (v := .int x))))
theorem tt_al1 {X : XT} {l : Launch} {d : Nat} {M : MD} (hX : Cx X l d M) {pc q : Nat} {L S : List Value} {μ : Mem} {u0 : Value} {x : Nat} (hd : decode M.2.1 pc = .ok (.aload_n 1, 1)) (hq : pc + 1 = q) (k : TT X q (u0 :: .ref x :: L) (.ref x :: S) μ) : TT X pc (u0 :: .ref x :: L) S μ := by
  obtain ⟨p, l', e, R, s, m, args, below, meth, c, Z, ce, sl, g, M', n0⟩ := X
  obtain ⟨rfl, rfl, rfl, hx, hb, hml, ho, hts, hK, hSS, hg, hfr, hlo, hce, hsl⟩ := hX
  subst hq
  intro H locs ls hP hS hl
  exact lv_aload_n hx hb hd rfl (tl_ld hl (i := 1) (v := .ref x) rfl rfl) (k H locs ls hP hS hl)
theorem tt_as1 {X : XT} {l : Launch} {d : Nat} {M : MD} (hX : Cx X l d M) {pc q : Nat} {L S : List Value} {μ : Mem} {u0 : Value} {w : Value} {x : Nat} (hd : decode M.2.1 pc = .ok (.astore_n 1, 1)) (hq : pc + 1 = q) (hn : 1 < M.2.2.1) (k : TT X q (u0 :: .ref x :: L) S μ) : TT X pc (u0 :: w :: L) (.ref x :: S) μ := by
  obtain ⟨p, l', e, R, s, m, args, below, meth, c, Z, ce, sl, g, M', n0⟩ := X
  obtain ⟨rfl, rfl, rfl, hx, hb, hml, ho, hts, hK, hSS, hg, hfr, hlo, hce, hsl⟩ := hX
  subst hq
  intro H locs ls hP hS hl
  exact lv_astore_n hx hb hd rfl hl hn rfl (fun ls' hl' => k H locs ls' hP hS (lv_mono hl' (tl_set (L := u0 :: w :: L) (i := 1) (v := .ref x))))
theorem tt_inc1 {X : XT} {l : Launch} {d : Nat} {M : MD} (hX : Cx X l d M) {pc q : Nat} {L S : List Value} {μ : Mem} {u0 : Value} {x v : Int32} {n : Int} (hd : decode M.2.1 pc = .ok (.iinc 1 n, 3)) (hq : pc + 3 = q) (hn : 1 < M.2.2.1) (hv : x + Int32.ofInt n = v) (k : TT X q (u0 :: .int v :: L) S μ) : TT X pc (u0 :: .int x :: L) S μ := by
  obtain ⟨p, l', e, R, s, m, args, below, meth, c, Z, ce, sl, g, M', n0⟩ := X
  obtain ⟨rfl, rfl, rfl, hx, hb, hml, ho, hts, hK, hSS, hg, hfr, hlo, hce, hsl⟩ := hX
  subst hq
  intro H locs ls hP hS hl
  have h9 := tl_mem g (u0 :: .int x :: L) 0 1 (.int x) rfl rfl
  obtain ⟨k9, h8⟩ := List.getElem?_of_mem h9
  exact lv_iinc hx hb hd hl h8 hv hn rfl (fun ls' hl' => k H locs ls' hP hS (lv_mono hl' (tl_set (L := u0 :: .int x :: L) (i := 1) (v := .int v))))
theorem tt_il2 {X : XT} {l : Launch} {d : Nat} {M : MD} (hX : Cx X l d M) {pc q : Nat} {L S : List Value} {μ : Mem} {u0 u1 : Value} {x : Int32} (hd : decode M.2.1 pc = .ok (.iload_n 2, 1)) (hq : pc + 1 = q) (k : TT X q (u0 :: u1 :: .int x :: L) (.int x :: S) μ) : TT X pc (u0 :: u1 :: .int x :: L) S μ := by
  obtain ⟨p, l', e, R, s, m, args, below, meth, c, Z, ce, sl, g, M', n0⟩ := X
  obtain ⟨rfl, rfl, rfl, hx, hb, hml, ho, hts, hK, hSS, hg, hfr, hlo, hce, hsl⟩ := hX
  subst hq
  intro H locs ls hP hS hl
  exact lv_iload_n hx hb hd rfl (tl_ld hl (i := 2) (v := .int x) rfl rfl) (k H locs ls hP hS hl)
theorem tt_is2 {X : XT} {l : Launch} {d : Nat} {M : MD} (hX : Cx X l d M) {pc q : Nat} {L S : List Value} {μ : Mem} {u0 u1 : Value} {w : Value} {x : Int32} (hd : decode M.2.1 pc = .ok (.istore_n 2, 1)) (hq : pc + 1 = q) (hn : 2 < M.2.2.1) (k : TT X q (u0 :: u1 :: .int x :: L) S μ) : TT X pc (u0 :: u1 :: w :: L) (.int x :: S) μ := by
  obtain ⟨p, l', e, R, s, m, args, below, meth, c, Z, ce, sl, g, M', n0⟩ := X
  obtain ⟨rfl, rfl, rfl, hx, hb, hml, ho, hts, hK, hSS, hg, hfr, hlo, hce, hsl⟩ := hX
  subst hq
  intro H locs ls hP hS hl
  exact lv_istore_n hx hb hd rfl hl hn rfl (fun ls' hl' => k H locs ls' hP hS (lv_mono hl' (tl_set (L := u0 :: u1 :: w :: L) (i := 2) (v := .int x))))
theorem tt_al2 {X : XT} {l : Launch} {d : Nat} {M : MD} (hX : Cx X l d M) {pc q : Nat} {L S : List Value} {μ : Mem} {u0 u1 : Value} {x : Nat} (hd : decode M.2.1 pc = .ok (.aload_n 2, 1)) (hq : pc + 1 = q) (k : TT X q (u0 :: u1 :: .ref x :: L) (.ref x :: S) μ) : TT X pc (u0 :: u1 :: .ref x :: L) S μ := by
  obtain ⟨p, l', e, R, s, m, args, below, meth, c, Z, ce, sl, g, M', n0⟩ := X
  obtain ⟨rfl, rfl, rfl, hx, hb, hml, ho, hts, hK, hSS, hg, hfr, hlo, hce, hsl⟩ := hX
  subst hq
  intro H locs ls hP hS hl
  exact lv_aload_n hx hb hd rfl (tl_ld hl (i := 2) (v := .ref x) rfl rfl) (k H locs ls hP hS hl)
theorem tt_as2 {X : XT} {l : Launch} {d : Nat} {M : MD} (hX : Cx X l d M) {pc q : Nat} {L S : List Value} {μ : Mem} {u0 u1 : Value} {w : Value} {x : Nat} (hd : decode M.2.1 pc = .ok (.astore_n 2, 1)) (hq : pc + 1 = q) (hn : 2 < M.2.2.1) (k : TT X q (u0 :: u1 :: .ref x :: L) S μ) : TT X pc (u0 :: u1 :: w :: L) (.ref x :: S) μ := by
  obtain ⟨p, l', e, R, s, m, args, below, meth, c, Z, ce, sl, g, M', n0⟩ := X
  obtain ⟨rfl, rfl, rfl, hx, hb, hml, ho, hts, hK, hSS, hg, hfr, hlo, hce, hsl⟩ := hX
  subst hq
  intro H locs ls hP hS hl
  exact lv_astore_n hx hb hd rfl hl hn rfl (fun ls' hl' => k H locs ls' hP hS (lv_mono hl' (tl_set (L := u0 :: u1 :: w :: L) (i := 2) (v := .ref x))))
theorem tt_inc2 {X : XT} {l : Launch} {d : Nat} {M : MD} (hX : Cx X l d M) {pc q : Nat} {L S : List Value} {μ : Mem} {u0 u1 : Value} {x v : Int32} {n : Int} (hd : decode M.2.1 pc = .ok (.iinc 2 n, 3)) (hq : pc + 3 = q) (hn : 2 < M.2.2.1) (hv : x + Int32.ofInt n = v) (k : TT X q (u0 :: u1 :: .int v :: L) S μ) : TT X pc (u0 :: u1 :: .int x :: L) S μ := by
  obtain ⟨p, l', e, R, s, m, args, below, meth, c, Z, ce, sl, g, M', n0⟩ := X
  obtain ⟨rfl, rfl, rfl, hx, hb, hml, ho, hts, hK, hSS, hg, hfr, hlo, hce, hsl⟩ := hX
  subst hq
  intro H locs ls hP hS hl
  have h9 := tl_mem g (u0 :: u1 :: .int x :: L) 0 2 (.int x) rfl rfl
  obtain ⟨k9, h8⟩ := List.getElem?_of_mem h9
  exact lv_iinc hx hb hd hl h8 hv hn rfl (fun ls' hl' => k H locs ls' hP hS (lv_mono hl' (tl_set (L := u0 :: u1 :: .int x :: L) (i := 2) (v := .int v))))
theorem tt_il3 {X : XT} {l : Launch} {d : Nat} {M : MD} (hX : Cx X l d M) {pc q : Nat} {L S : List Value} {μ : Mem} {u0 u1 u2 : Value} {x : Int32} (hd : decode M.2.1 pc = .ok (.iload_n 3, 1)) (hq : pc + 1 = q) (k : TT X q (u0 :: u1 :: u2 :: .int x :: L) (.int x :: S) μ) : TT X pc (u0 :: u1 :: u2 :: .int x :: L) S μ := by
  obtain ⟨p, l', e, R, s, m, args, below, meth, c, Z, ce, sl, g, M', n0⟩ := X
  obtain ⟨rfl, rfl, rfl, hx, hb, hml, ho, hts, hK, hSS, hg, hfr, hlo, hce, hsl⟩ := hX
  subst hq
  intro H locs ls hP hS hl
  exact lv_iload_n hx hb hd rfl (tl_ld hl (i := 3) (v := .int x) rfl rfl) (k H locs ls hP hS hl)
theorem tt_is3 {X : XT} {l : Launch} {d : Nat} {M : MD} (hX : Cx X l d M) {pc q : Nat} {L S : List Value} {μ : Mem} {u0 u1 u2 : Value} {w : Value} {x : Int32} (hd : decode M.2.1 pc = .ok (.istore_n 3, 1)) (hq : pc + 1 = q) (hn : 3 < M.2.2.1) (k : TT X q (u0 :: u1 :: u2 :: .int x :: L) S μ) : TT X pc (u0 :: u1 :: u2 :: w :: L) (.int x :: S) μ := by
  obtain ⟨p, l', e, R, s, m, args, below, meth, c, Z, ce, sl, g, M', n0⟩ := X
  obtain ⟨rfl, rfl, rfl, hx, hb, hml, ho, hts, hK, hSS, hg, hfr, hlo, hce, hsl⟩ := hX
  subst hq
  intro H locs ls hP hS hl
  exact lv_istore_n hx hb hd rfl hl hn rfl (fun ls' hl' => k H locs ls' hP hS (lv_mono hl' (tl_set (L := u0 :: u1 :: u2 :: w :: L) (i := 3) (v := .int x))))
theorem tt_al3 {X : XT} {l : Launch} {d : Nat} {M : MD} (hX : Cx X l d M) {pc q : Nat} {L S : List Value} {μ : Mem} {u0 u1 u2 : Value} {x : Nat} (hd : decode M.2.1 pc = .ok (.aload_n 3, 1)) (hq : pc + 1 = q) (k : TT X q (u0 :: u1 :: u2 :: .ref x :: L) (.ref x :: S) μ) : TT X pc (u0 :: u1 :: u2 :: .ref x :: L) S μ := by
  obtain ⟨p, l', e, R, s, m, args, below, meth, c, Z, ce, sl, g, M', n0⟩ := X
  obtain ⟨rfl, rfl, rfl, hx, hb, hml, ho, hts, hK, hSS, hg, hfr, hlo, hce, hsl⟩ := hX
  subst hq
  intro H locs ls hP hS hl
  exact lv_aload_n hx hb hd rfl (tl_ld hl (i := 3) (v := .ref x) rfl rfl) (k H locs ls hP hS hl)
theorem tt_as3 {X : XT} {l : Launch} {d : Nat} {M : MD} (hX : Cx X l d M) {pc q : Nat} {L S : List Value} {μ : Mem} {u0 u1 u2 : Value} {w : Value} {x : Nat} (hd : decode M.2.1 pc = .ok (.astore_n 3, 1)) (hq : pc + 1 = q) (hn : 3 < M.2.2.1) (k : TT X q (u0 :: u1 :: u2 :: .ref x :: L) S μ) : TT X pc (u0 :: u1 :: u2 :: w :: L) (.ref x :: S) μ := by
  obtain ⟨p, l', e, R, s, m, args, below, meth, c, Z, ce, sl, g, M', n0⟩ := X
  obtain ⟨rfl, rfl, rfl, hx, hb, hml, ho, hts, hK, hSS, hg, hfr, hlo, hce, hsl⟩ := hX
  subst hq
  intro H locs ls hP hS hl
  exact lv_astore_n hx hb hd rfl hl hn rfl (fun ls' hl' => k H locs ls' hP hS (lv_mono hl' (tl_set (L := u0 :: u1 :: u2 :: w :: L) (i := 3) (v := .ref x))))
theorem tt_inc3 {X : XT} {l : Launch} {d : Nat} {M : MD} (hX : Cx X l d M) {pc q : Nat} {L S : List Value} {μ : Mem} {u0 u1 u2 : Value} {x v : Int32} {n : Int} (hd : decode M.2.1 pc = .ok (.iinc 3 n, 3)) (hq : pc + 3 = q) (hn : 3 < M.2.2.1) (hv : x + Int32.ofInt n = v) (k : TT X q (u0 :: u1 :: u2 :: .int v :: L) S μ) : TT X pc (u0 :: u1 :: u2 :: .int x :: L) S μ := by
  obtain ⟨p, l', e, R, s, m, args, below, meth, c, Z, ce, sl, g, M', n0⟩ := X
  obtain ⟨rfl, rfl, rfl, hx, hb, hml, ho, hts, hK, hSS, hg, hfr, hlo, hce, hsl⟩ := hX
  subst hq
  intro H locs ls hP hS hl
  have h9 := tl_mem g (u0 :: u1 :: u2 :: .int x :: L) 0 3 (.int x) rfl rfl
  obtain ⟨k9, h8⟩ := List.getElem?_of_mem h9
  exact lv_iinc hx hb hd hl h8 hv hn rfl (fun ls' hl' => k H locs ls' hP hS (lv_mono hl' (tl_set (L := u0 :: u1 :: u2 :: .int x :: L) (i := 3) (v := .int v))))
theorem tt_il4 {X : XT} {l : Launch} {d : Nat} {M : MD} (hX : Cx X l d M) {pc q : Nat} {L S : List Value} {μ : Mem} {u0 u1 u2 u3 : Value} {x : Int32} (hd : decode M.2.1 pc = .ok (.iload 4, 2)) (hq : pc + 2 = q) (k : TT X q (u0 :: u1 :: u2 :: u3 :: .int x :: L) (.int x :: S) μ) : TT X pc (u0 :: u1 :: u2 :: u3 :: .int x :: L) S μ := by
  obtain ⟨p, l', e, R, s, m, args, below, meth, c, Z, ce, sl, g, M', n0⟩ := X
  obtain ⟨rfl, rfl, rfl, hx, hb, hml, ho, hts, hK, hSS, hg, hfr, hlo, hce, hsl⟩ := hX
  subst hq
  intro H locs ls hP hS hl
  exact lv_iload hx hb hd (tl_ld hl (i := 4) (v := .int x) rfl rfl) (k H locs ls hP hS hl)
theorem tt_is4 {X : XT} {l : Launch} {d : Nat} {M : MD} (hX : Cx X l d M) {pc q : Nat} {L S : List Value} {μ : Mem} {u0 u1 u2 u3 : Value} {w : Value} {x : Int32} (hd : decode M.2.1 pc = .ok (.istore 4, 2)) (hq : pc + 2 = q) (hn : 4 < M.2.2.1) (k : TT X q (u0 :: u1 :: u2 :: u3 :: .int x :: L) S μ) : TT X pc (u0 :: u1 :: u2 :: u3 :: w :: L) (.int x :: S) μ := by
  obtain ⟨p, l', e, R, s, m, args, below, meth, c, Z, ce, sl, g, M', n0⟩ := X
  obtain ⟨rfl, rfl, rfl, hx, hb, hml, ho, hts, hK, hSS, hg, hfr, hlo, hce, hsl⟩ := hX
  subst hq
  intro H locs ls hP hS hl
  exact lv_istore hx hb hd hl hn rfl (fun ls' hl' => k H locs ls' hP hS (lv_mono hl' (tl_set (L := u0 :: u1 :: u2 :: u3 :: w :: L) (i := 4) (v := .int x))))
theorem tt_al4 {X : XT} {l : Launch} {d : Nat} {M : MD} (hX : Cx X l d M) {pc q : Nat} {L S : List Value} {μ : Mem} {u0 u1 u2 u3 : Value} {x : Nat} (hd : decode M.2.1 pc = .ok (.aload 4, 2)) (hq : pc + 2 = q) (k : TT X q (u0 :: u1 :: u2 :: u3 :: .ref x :: L) (.ref x :: S) μ) : TT X pc (u0 :: u1 :: u2 :: u3 :: .ref x :: L) S μ := by
  obtain ⟨p, l', e, R, s, m, args, below, meth, c, Z, ce, sl, g, M', n0⟩ := X
  obtain ⟨rfl, rfl, rfl, hx, hb, hml, ho, hts, hK, hSS, hg, hfr, hlo, hce, hsl⟩ := hX
  subst hq
  intro H locs ls hP hS hl
  exact lv_aload hx hb hd (tl_ld hl (i := 4) (v := .ref x) rfl rfl) (k H locs ls hP hS hl)
theorem tt_as4 {X : XT} {l : Launch} {d : Nat} {M : MD} (hX : Cx X l d M) {pc q : Nat} {L S : List Value} {μ : Mem} {u0 u1 u2 u3 : Value} {w : Value} {x : Nat} (hd : decode M.2.1 pc = .ok (.astore 4, 2)) (hq : pc + 2 = q) (hn : 4 < M.2.2.1) (k : TT X q (u0 :: u1 :: u2 :: u3 :: .ref x :: L) S μ) : TT X pc (u0 :: u1 :: u2 :: u3 :: w :: L) (.ref x :: S) μ := by
  obtain ⟨p, l', e, R, s, m, args, below, meth, c, Z, ce, sl, g, M', n0⟩ := X
  obtain ⟨rfl, rfl, rfl, hx, hb, hml, ho, hts, hK, hSS, hg, hfr, hlo, hce, hsl⟩ := hX
  subst hq
  intro H locs ls hP hS hl
  exact lv_astore hx hb hd hl hn rfl (fun ls' hl' => k H locs ls' hP hS (lv_mono hl' (tl_set (L := u0 :: u1 :: u2 :: u3 :: w :: L) (i := 4) (v := .ref x))))
theorem tt_inc4 {X : XT} {l : Launch} {d : Nat} {M : MD} (hX : Cx X l d M) {pc q : Nat} {L S : List Value} {μ : Mem} {u0 u1 u2 u3 : Value} {x v : Int32} {n : Int} (hd : decode M.2.1 pc = .ok (.iinc 4 n, 3)) (hq : pc + 3 = q) (hn : 4 < M.2.2.1) (hv : x + Int32.ofInt n = v) (k : TT X q (u0 :: u1 :: u2 :: u3 :: .int v :: L) S μ) : TT X pc (u0 :: u1 :: u2 :: u3 :: .int x :: L) S μ := by
  obtain ⟨p, l', e, R, s, m, args, below, meth, c, Z, ce, sl, g, M', n0⟩ := X
  obtain ⟨rfl, rfl, rfl, hx, hb, hml, ho, hts, hK, hSS, hg, hfr, hlo, hce, hsl⟩ := hX
  subst hq
  intro H locs ls hP hS hl
  have h9 := tl_mem g (u0 :: u1 :: u2 :: u3 :: .int x :: L) 0 4 (.int x) rfl rfl
  obtain ⟨k9, h8⟩ := List.getElem?_of_mem h9
  exact lv_iinc hx hb hd hl h8 hv hn rfl (fun ls' hl' => k H locs ls' hP hS (lv_mono hl' (tl_set (L := u0 :: u1 :: u2 :: u3 :: .int x :: L) (i := 4) (v := .int v))))
theorem tt_il5 {X : XT} {l : Launch} {d : Nat} {M : MD} (hX : Cx X l d M) {pc q : Nat} {L S : List Value} {μ : Mem} {u0 u1 u2 u3 u4 : Value} {x : Int32} (hd : decode M.2.1 pc = .ok (.iload 5, 2)) (hq : pc + 2 = q) (k : TT X q (u0 :: u1 :: u2 :: u3 :: u4 :: .int x :: L) (.int x :: S) μ) : TT X pc (u0 :: u1 :: u2 :: u3 :: u4 :: .int x :: L) S μ := by
  obtain ⟨p, l', e, R, s, m, args, below, meth, c, Z, ce, sl, g, M', n0⟩ := X
  obtain ⟨rfl, rfl, rfl, hx, hb, hml, ho, hts, hK, hSS, hg, hfr, hlo, hce, hsl⟩ := hX
  subst hq
  intro H locs ls hP hS hl
  exact lv_iload hx hb hd (tl_ld hl (i := 5) (v := .int x) rfl rfl) (k H locs ls hP hS hl)
theorem tt_is5 {X : XT} {l : Launch} {d : Nat} {M : MD} (hX : Cx X l d M) {pc q : Nat} {L S : List Value} {μ : Mem} {u0 u1 u2 u3 u4 : Value} {w : Value} {x : Int32} (hd : decode M.2.1 pc = .ok (.istore 5, 2)) (hq : pc + 2 = q) (hn : 5 < M.2.2.1) (k : TT X q (u0 :: u1 :: u2 :: u3 :: u4 :: .int x :: L) S μ) : TT X pc (u0 :: u1 :: u2 :: u3 :: u4 :: w :: L) (.int x :: S) μ := by
  obtain ⟨p, l', e, R, s, m, args, below, meth, c, Z, ce, sl, g, M', n0⟩ := X
  obtain ⟨rfl, rfl, rfl, hx, hb, hml, ho, hts, hK, hSS, hg, hfr, hlo, hce, hsl⟩ := hX
  subst hq
  intro H locs ls hP hS hl
  exact lv_istore hx hb hd hl hn rfl (fun ls' hl' => k H locs ls' hP hS (lv_mono hl' (tl_set (L := u0 :: u1 :: u2 :: u3 :: u4 :: w :: L) (i := 5) (v := .int x))))
theorem tt_al5 {X : XT} {l : Launch} {d : Nat} {M : MD} (hX : Cx X l d M) {pc q : Nat} {L S : List Value} {μ : Mem} {u0 u1 u2 u3 u4 : Value} {x : Nat} (hd : decode M.2.1 pc = .ok (.aload 5, 2)) (hq : pc + 2 = q) (k : TT X q (u0 :: u1 :: u2 :: u3 :: u4 :: .ref x :: L) (.ref x :: S) μ) : TT X pc (u0 :: u1 :: u2 :: u3 :: u4 :: .ref x :: L) S μ := by
  obtain ⟨p, l', e, R, s, m, args, below, meth, c, Z, ce, sl, g, M', n0⟩ := X
  obtain ⟨rfl, rfl, rfl, hx, hb, hml, ho, hts, hK, hSS, hg, hfr, hlo, hce, hsl⟩ := hX
  subst hq
  intro H locs ls hP hS hl
  exact lv_aload hx hb hd (tl_ld hl (i := 5) (v := .ref x) rfl rfl) (k H locs ls hP hS hl)
theorem tt_as5 {X : XT} {l : Launch} {d : Nat} {M : MD} (hX : Cx X l d M) {pc q : Nat} {L S : List Value} {μ : Mem} {u0 u1 u2 u3 u4 : Value} {w : Value} {x : Nat} (hd : decode M.2.1 pc = .ok (.astore 5, 2)) (hq : pc + 2 = q) (hn : 5 < M.2.2.1) (k : TT X q (u0 :: u1 :: u2 :: u3 :: u4 :: .ref x :: L) S μ) : TT X pc (u0 :: u1 :: u2 :: u3 :: u4 :: w :: L) (.ref x :: S) μ := by
  obtain ⟨p, l', e, R, s, m, args, below, meth, c, Z, ce, sl, g, M', n0⟩ := X
  obtain ⟨rfl, rfl, rfl, hx, hb, hml, ho, hts, hK, hSS, hg, hfr, hlo, hce, hsl⟩ := hX
  subst hq
  intro H locs ls hP hS hl
  exact lv_astore hx hb hd hl hn rfl (fun ls' hl' => k H locs ls' hP hS (lv_mono hl' (tl_set (L := u0 :: u1 :: u2 :: u3 :: u4 :: w :: L) (i := 5) (v := .ref x))))
theorem tt_inc5 {X : XT} {l : Launch} {d : Nat} {M : MD} (hX : Cx X l d M) {pc q : Nat} {L S : List Value} {μ : Mem} {u0 u1 u2 u3 u4 : Value} {x v : Int32} {n : Int} (hd : decode M.2.1 pc = .ok (.iinc 5 n, 3)) (hq : pc + 3 = q) (hn : 5 < M.2.2.1) (hv : x + Int32.ofInt n = v) (k : TT X q (u0 :: u1 :: u2 :: u3 :: u4 :: .int v :: L) S μ) : TT X pc (u0 :: u1 :: u2 :: u3 :: u4 :: .int x :: L) S μ := by
  obtain ⟨p, l', e, R, s, m, args, below, meth, c, Z, ce, sl, g, M', n0⟩ := X
  obtain ⟨rfl, rfl, rfl, hx, hb, hml, ho, hts, hK, hSS, hg, hfr, hlo, hce, hsl⟩ := hX
  subst hq
  intro H locs ls hP hS hl
  have h9 := tl_mem g (u0 :: u1 :: u2 :: u3 :: u4 :: .int x :: L) 0 5 (.int x) rfl rfl
  obtain ⟨k9, h8⟩ := List.getElem?_of_mem h9
  exact lv_iinc hx hb hd hl h8 hv hn rfl (fun ls' hl' => k H locs ls' hP hS (lv_mono hl' (tl_set (L := u0 :: u1 :: u2 :: u3 :: u4 :: .int x :: L) (i := 5) (v := .int v))))
theorem tt_il6 {X : XT} {l : Launch} {d : Nat} {M : MD} (hX : Cx X l d M) {pc q : Nat} {L S : List Value} {μ : Mem} {u0 u1 u2 u3 u4 u5 : Value} {x : Int32} (hd : decode M.2.1 pc = .ok (.iload 6, 2)) (hq : pc + 2 = q) (k : TT X q (u0 :: u1 :: u2 :: u3 :: u4 :: u5 :: .int x :: L) (.int x :: S) μ) : TT X pc (u0 :: u1 :: u2 :: u3 :: u4 :: u5 :: .int x :: L) S μ := by
  obtain ⟨p, l', e, R, s, m, args, below, meth, c, Z, ce, sl, g, M', n0⟩ := X
  obtain ⟨rfl, rfl, rfl, hx, hb, hml, ho, hts, hK, hSS, hg, hfr, hlo, hce, hsl⟩ := hX
  subst hq
  intro H locs ls hP hS hl
  exact lv_iload hx hb hd (tl_ld hl (i := 6) (v := .int x) rfl rfl) (k H locs ls hP hS hl)
theorem tt_is6 {X : XT} {l : Launch} {d : Nat} {M : MD} (hX : Cx X l d M) {pc q : Nat} {L S : List Value} {μ : Mem} {u0 u1 u2 u3 u4 u5 : Value} {w : Value} {x : Int32} (hd : decode M.2.1 pc = .ok (.istore 6, 2)) (hq : pc + 2 = q) (hn : 6 < M.2.2.1) (k : TT X q (u0 :: u1 :: u2 :: u3 :: u4 :: u5 :: .int x :: L) S μ) : TT X pc (u0 :: u1 :: u2 :: u3 :: u4 :: u5 :: w :: L) (.int x :: S) μ := by
  obtain ⟨p, l', e, R, s, m, args, below, meth, c, Z, ce, sl, g, M', n0⟩ := X
  obtain ⟨rfl, rfl, rfl, hx, hb, hml, ho, hts, hK, hSS, hg, hfr, hlo, hce, hsl⟩ := hX
  subst hq
  intro H locs ls hP hS hl
  exact lv_istore hx hb hd hl hn rfl (fun ls' hl' => k H locs ls' hP hS (lv_mono hl' (tl_set (L := u0 :: u1 :: u2 :: u3 :: u4 :: u5 :: w :: L) (i := 6) (v := .int x))))
theorem tt_al6 {X : XT} {l : Launch} {d : Nat} {M : MD} (hX : Cx X l d M) {pc q : Nat} {L S : List Value} {μ : Mem} {u0 u1 u2 u3 u4 u5 : Value} {x : Nat} (hd : decode M.2.1 pc = .ok (.aload 6, 2)) (hq : pc + 2 = q) (k : TT X q (u0 :: u1 :: u2 :: u3 :: u4 :: u5 :: .ref x :: L) (.ref x :: S) μ) : TT X pc (u0 :: u1 :: u2 :: u3 :: u4 :: u5 :: .ref x :: L) S μ := by
  obtain ⟨p, l', e, R, s, m, args, below, meth, c, Z, ce, sl, g, M', n0⟩ := X
  obtain ⟨rfl, rfl, rfl, hx, hb, hml, ho, hts, hK, hSS, hg, hfr, hlo, hce, hsl⟩ := hX
  subst hq
  intro H locs ls hP hS hl
  exact lv_aload hx hb hd (tl_ld hl (i := 6) (v := .ref x) rfl rfl) (k H locs ls hP hS hl)
theorem tt_as6 {X : XT} {l : Launch} {d : Nat} {M : MD} (hX : Cx X l d M) {pc q : Nat} {L S : List Value} {μ : Mem} {u0 u1 u2 u3 u4 u5 : Value} {w : Value} {x : Nat} (hd : decode M.2.1 pc = .ok (.astore 6, 2)) (hq : pc + 2 = q) (hn : 6 < M.2.2.1) (k : TT X q (u0 :: u1 :: u2 :: u3 :: u4 :: u5 :: .ref x :: L) S μ) : TT X pc (u0 :: u1 :: u2 :: u3 :: u4 :: u5 :: w :: L) (.ref x :: S) μ := by
  obtain ⟨p, l', e, R, s, m, args, below, meth, c, Z, ce, sl, g, M', n0⟩ := X
  obtain ⟨rfl, rfl, rfl, hx, hb, hml, ho, hts, hK, hSS, hg, hfr, hlo, hce, hsl⟩ := hX
  subst hq
  intro H locs ls hP hS hl
  exact lv_astore hx hb hd hl hn rfl (fun ls' hl' => k H locs ls' hP hS (lv_mono hl' (tl_set (L := u0 :: u1 :: u2 :: u3 :: u4 :: u5 :: w :: L) (i := 6) (v := .ref x))))
theorem tt_inc6 {X : XT} {l : Launch} {d : Nat} {M : MD} (hX : Cx X l d M) {pc q : Nat} {L S : List Value} {μ : Mem} {u0 u1 u2 u3 u4 u5 : Value} {x v : Int32} {n : Int} (hd : decode M.2.1 pc = .ok (.iinc 6 n, 3)) (hq : pc + 3 = q) (hn : 6 < M.2.2.1) (hv : x + Int32.ofInt n = v) (k : TT X q (u0 :: u1 :: u2 :: u3 :: u4 :: u5 :: .int v :: L) S μ) : TT X pc (u0 :: u1 :: u2 :: u3 :: u4 :: u5 :: .int x :: L) S μ := by
  obtain ⟨p, l', e, R, s, m, args, below, meth, c, Z, ce, sl, g, M', n0⟩ := X
  obtain ⟨rfl, rfl, rfl, hx, hb, hml, ho, hts, hK, hSS, hg, hfr, hlo, hce, hsl⟩ := hX
  subst hq
  intro H locs ls hP hS hl
  have h9 := tl_mem g (u0 :: u1 :: u2 :: u3 :: u4 :: u5 :: .int x :: L) 0 6 (.int x) rfl rfl
  obtain ⟨k9, h8⟩ := List.getElem?_of_mem h9
  exact lv_iinc hx hb hd hl h8 hv hn rfl (fun ls' hl' => k H locs ls' hP hS (lv_mono hl' (tl_set (L := u0 :: u1 :: u2 :: u3 :: u4 :: u5 :: .int x :: L) (i := 6) (v := .int v))))
theorem tt_il7 {X : XT} {l : Launch} {d : Nat} {M : MD} (hX : Cx X l d M) {pc q : Nat} {L S : List Value} {μ : Mem} {u0 u1 u2 u3 u4 u5 u6 : Value} {x : Int32} (hd : decode M.2.1 pc = .ok (.iload 7, 2)) (hq : pc + 2 = q) (k : TT X q (u0 :: u1 :: u2 :: u3 :: u4 :: u5 :: u6 :: .int x :: L) (.int x :: S) μ) : TT X pc (u0 :: u1 :: u2 :: u3 :: u4 :: u5 :: u6 :: .int x :: L) S μ := by
  obtain ⟨p, l', e, R, s, m, args, below, meth, c, Z, ce, sl, g, M', n0⟩ := X
  obtain ⟨rfl, rfl, rfl, hx, hb, hml, ho, hts, hK, hSS, hg, hfr, hlo, hce, hsl⟩ := hX
  subst hq
  intro H locs ls hP hS hl
  exact lv_iload hx hb hd (tl_ld hl (i := 7) (v := .int x) rfl rfl) (k H locs ls hP hS hl)
theorem tt_is7 {X : XT} {l : Launch} {d : Nat} {M : MD} (hX : Cx X l d M) {pc q : Nat} {L S : List Value} {μ : Mem} {u0 u1 u2 u3 u4 u5 u6 : Value} {w : Value} {x : Int32} (hd : decode M.2.1 pc = .ok (.istore 7, 2)) (hq : pc + 2 = q) (hn : 7 < M.2.2.1) (k : TT X q (u0 :: u1 :: u2 :: u3 :: u4 :: u5 :: u6 :: .int x :: L) S μ) : TT X pc (u0 :: u1 :: u2 :: u3 :: u4 :: u5 :: u6 :: w :: L) (.int x :: S) μ := by
  obtain ⟨p, l', e, R, s, m, args, below, meth, c, Z, ce, sl, g, M', n0⟩ := X
  obtain ⟨rfl, rfl, rfl, hx, hb, hml, ho, hts, hK, hSS, hg, hfr, hlo, hce, hsl⟩ := hX
  subst hq
  intro H locs ls hP hS hl
  exact lv_istore hx hb hd hl hn rfl (fun ls' hl' => k H locs ls' hP hS (lv_mono hl' (tl_set (L := u0 :: u1 :: u2 :: u3 :: u4 :: u5 :: u6 :: w :: L) (i := 7) (v := .int x))))
theorem tt_al7 {X : XT} {l : Launch} {d : Nat} {M : MD} (hX : Cx X l d M) {pc q : Nat} {L S : List Value} {μ : Mem} {u0 u1 u2 u3 u4 u5 u6 : Value} {x : Nat} (hd : decode M.2.1 pc = .ok (.aload 7, 2)) (hq : pc + 2 = q) (k : TT X q (u0 :: u1 :: u2 :: u3 :: u4 :: u5 :: u6 :: .ref x :: L) (.ref x :: S) μ) : TT X pc (u0 :: u1 :: u2 :: u3 :: u4 :: u5 :: u6 :: .ref x :: L) S μ := by
  obtain ⟨p, l', e, R, s, m, args, below, meth, c, Z, ce, sl, g, M', n0⟩ := X
  obtain ⟨rfl, rfl, rfl, hx, hb, hml, ho, hts, hK, hSS, hg, hfr, hlo, hce, hsl⟩ := hX
  subst hq
  intro H locs ls hP hS hl
  exact lv_aload hx hb hd (tl_ld hl (i := 7) (v := .ref x) rfl rfl) (k H locs ls hP hS hl)
theorem tt_as7 {X : XT} {l : Launch} {d : Nat} {M : MD} (hX : Cx X l d M) {pc q : Nat} {L S : List Value} {μ : Mem} {u0 u1 u2 u3 u4 u5 u6 : Value} {w : Value} {x : Nat} (hd : decode M.2.1 pc = .ok (.astore 7, 2)) (hq : pc + 2 = q) (hn : 7 < M.2.2.1) (k : TT X q (u0 :: u1 :: u2 :: u3 :: u4 :: u5 :: u6 :: .ref x :: L) S μ) : TT X pc (u0 :: u1 :: u2 :: u3 :: u4 :: u5 :: u6 :: w :: L) (.ref x :: S) μ := by
  obtain ⟨p, l', e, R, s, m, args, below, meth, c, Z, ce, sl, g, M', n0⟩ := X
  obtain ⟨rfl, rfl, rfl, hx, hb, hml, ho, hts, hK, hSS, hg, hfr, hlo, hce, hsl⟩ := hX
  subst hq
  intro H locs ls hP hS hl
  exact lv_astore hx hb hd hl hn rfl (fun ls' hl' => k H locs ls' hP hS (lv_mono hl' (tl_set (L := u0 :: u1 :: u2 :: u3 :: u4 :: u5 :: u6 :: w :: L) (i := 7) (v := .ref x))))
theorem tt_inc7 {X : XT} {l : Launch} {d : Nat} {M : MD} (hX : Cx X l d M) {pc q : Nat} {L S : List Value} {μ : Mem} {u0 u1 u2 u3 u4 u5 u6 : Value} {x v : Int32} {n : Int} (hd : decode M.2.1 pc = .ok (.iinc 7 n, 3)) (hq : pc + 3 = q) (hn : 7 < M.2.2.1) (hv : x + Int32.ofInt n = v) (k : TT X q (u0 :: u1 :: u2 :: u3 :: u4 :: u5 :: u6 :: .int v :: L) S μ) : TT X pc (u0 :: u1 :: u2 :: u3 :: u4 :: u5 :: u6 :: .int x :: L) S μ := by
  obtain ⟨p, l', e, R, s, m, args, below, meth, c, Z, ce, sl, g, M', n0⟩ := X
  obtain ⟨rfl, rfl, rfl, hx, hb, hml, ho, hts, hK, hSS, hg, hfr, hlo, hce, hsl⟩ := hX
  subst hq
  intro H locs ls hP hS hl
  have h9 := tl_mem g (u0 :: u1 :: u2 :: u3 :: u4 :: u5 :: u6 :: .int x :: L) 0 7 (.int x) rfl rfl
  obtain ⟨k9, h8⟩ := List.getElem?_of_mem h9
  exact lv_iinc hx hb hd hl h8 hv hn rfl (fun ls' hl' => k H locs ls' hP hS (lv_mono hl' (tl_set (L := u0 :: u1 :: u2 :: u3 :: u4 :: u5 :: u6 :: .int x :: L) (i := 7) (v := .int v))))
theorem tt_il8 {X : XT} {l : Launch} {d : Nat} {M : MD} (hX : Cx X l d M) {pc q : Nat} {L S : List Value} {μ : Mem} {u0 u1 u2 u3 u4 u5 u6 u7 : Value} {x : Int32} (hd : decode M.2.1 pc = .ok (.iload 8, 2)) (hq : pc + 2 = q) (k : TT X q (u0 :: u1 :: u2 :: u3 :: u4 :: u5 :: u6 :: u7 :: .int x :: L) (.int x :: S) μ) : TT X pc (u0 :: u1 :: u2 :: u3 :: u4 :: u5 :: u6 :: u7 :: .int x :: L) S μ := by
  obtain ⟨p, l', e, R, s, m, args, below, meth, c, Z, ce, sl, g, M', n0⟩ := X
  obtain ⟨rfl, rfl, rfl, hx, hb, hml, ho, hts, hK, hSS, hg, hfr, hlo, hce, hsl⟩ := hX
  subst hq
  intro H locs ls hP hS hl
  exact lv_iload hx hb hd (tl_ld hl (i := 8) (v := .int x) rfl rfl) (k H locs ls hP hS hl)
theorem tt_is8 {X : XT} {l : Launch} {d : Nat} {M : MD} (hX : Cx X l d M) {pc q : Nat} {L S : List Value} {μ : Mem} {u0 u1 u2 u3 u4 u5 u6 u7 : Value} {w : Value} {x : Int32} (hd : decode M.2.1 pc = .ok (.istore 8, 2)) (hq : pc + 2 = q) (hn : 8 < M.2.2.1) (k : TT X q (u0 :: u1 :: u2 :: u3 :: u4 :: u5 :: u6 :: u7 :: .int x :: L) S μ) : TT X pc (u0 :: u1 :: u2 :: u3 :: u4 :: u5 :: u6 :: u7 :: w :: L) (.int x :: S) μ := by
  obtain ⟨p, l', e, R, s, m, args, below, meth, c, Z, ce, sl, g, M', n0⟩ := X
  obtain ⟨rfl, rfl, rfl, hx, hb, hml, ho, hts, hK, hSS, hg, hfr, hlo, hce, hsl⟩ := hX
  subst hq
  intro H locs ls hP hS hl
  exact lv_istore hx hb hd hl hn rfl (fun ls' hl' => k H locs ls' hP hS (lv_mono hl' (tl_set (L := u0 :: u1 :: u2 :: u3 :: u4 :: u5 :: u6 :: u7 :: w :: L) (i := 8) (v := .int x))))
theorem tt_al8 {X : XT} {l : Launch} {d : Nat} {M : MD} (hX : Cx X l d M) {pc q : Nat} {L S : List Value} {μ : Mem} {u0 u1 u2 u3 u4 u5 u6 u7 : Value} {x : Nat} (hd : decode M.2.1 pc = .ok (.aload 8, 2)) (hq : pc + 2 = q) (k : TT X q (u0 :: u1 :: u2 :: u3 :: u4 :: u5 :: u6 :: u7 :: .ref x :: L) (.ref x :: S) μ) : TT X pc (u0 :: u1 :: u2 :: u3 :: u4 :: u5 :: u6 :: u7 :: .ref x :: L) S μ := by
  obtain ⟨p, l', e, R, s, m, args, below, meth, c, Z, ce, sl, g, M', n0⟩ := X
  obtain ⟨rfl, rfl, rfl, hx, hb, hml, ho, hts, hK, hSS, hg, hfr, hlo, hce, hsl⟩ := hX
  subst hq
  intro H locs ls hP hS hl
  exact lv_aload hx hb hd (tl_ld hl (i := 8) (v := .ref x) rfl rfl) (k H locs ls hP hS hl)
theorem tt_as8 {X : XT} {l : Launch} {d : Nat} {M : MD} (hX : Cx X l d M) {pc q : Nat} {L S : List Value} {μ : Mem} {u0 u1 u2 u3 u4 u5 u6 u7 : Value} {w : Value} {x : Nat} (hd : decode M.2.1 pc = .ok (.astore 8, 2)) (hq : pc + 2 = q) (hn : 8 < M.2.2.1) (k : TT X q (u0 :: u1 :: u2 :: u3 :: u4 :: u5 :: u6 :: u7 :: .ref x :: L) S μ) : TT X pc (u0 :: u1 :: u2 :: u3 :: u4 :: u5 :: u6 :: u7 :: w :: L) (.ref x :: S) μ := by
  obtain ⟨p, l', e, R, s, m, args, below, meth, c, Z, ce, sl, g, M', n0⟩ := X
  obtain ⟨rfl, rfl, rfl, hx, hb, hml, ho, hts, hK, hSS, hg, hfr, hlo, hce, hsl⟩ := hX
  subst hq
  intro H locs ls hP hS hl
  exact lv_astore hx hb hd hl hn rfl (fun ls' hl' => k H locs ls' hP hS (lv_mono hl' (tl_set (L := u0 :: u1 :: u2 :: u3 :: u4 :: u5 :: u6 :: u7 :: w :: L) (i := 8) (v := .ref x))))
theorem tt_inc8 {X : XT} {l : Launch} {d : Nat} {M : MD} (hX : Cx X l d M) {pc q : Nat} {L S : List Value} {μ : Mem} {u0 u1 u2 u3 u4 u5 u6 u7 : Value} {x v : Int32} {n : Int} (hd : decode M.2.1 pc = .ok (.iinc 8 n, 3)) (hq : pc + 3 = q) (hn : 8 < M.2.2.1) (hv : x + Int32.ofInt n = v) (k : TT X q (u0 :: u1 :: u2 :: u3 :: u4 :: u5 :: u6 :: u7 :: .int v :: L) S μ) : TT X pc (u0 :: u1 :: u2 :: u3 :: u4 :: u5 :: u6 :: u7 :: .int x :: L) S μ := by
  obtain ⟨p, l', e, R, s, m, args, below, meth, c, Z, ce, sl, g, M', n0⟩ := X
  obtain ⟨rfl, rfl, rfl, hx, hb, hml, ho, hts, hK, hSS, hg, hfr, hlo, hce, hsl⟩ := hX
  subst hq
  intro H locs ls hP hS hl
  have h9 := tl_mem g (u0 :: u1 :: u2 :: u3 :: u4 :: u5 :: u6 :: u7 :: .int x :: L) 0 8 (.int x) rfl rfl
  obtain ⟨k9, h8⟩ := List.getElem?_of_mem h9
  exact lv_iinc hx hb hd hl h8 hv hn rfl (fun ls' hl' => k H locs ls' hP hS (lv_mono hl' (tl_set (L := u0 :: u1 :: u2 :: u3 :: u4 :: u5 :: u6 :: u7 :: .int x :: L) (i := 8) (v := .int v))))
theorem tt_il9 {X : XT} {l : Launch} {d : Nat} {M : MD} (hX : Cx X l d M) {pc q : Nat} {L S : List Value} {μ : Mem} {u0 u1 u2 u3 u4 u5 u6 u7 u8 : Value} {x : Int32} (hd : decode M.2.1 pc = .ok (.iload 9, 2)) (hq : pc + 2 = q) (k : TT X q (u0 :: u1 :: u2 :: u3 :: u4 :: u5 :: u6 :: u7 :: u8 :: .int x :: L) (.int x :: S) μ) : TT X pc (u0 :: u1 :: u2 :: u3 :: u4 :: u5 :: u6 :: u7 :: u8 :: .int x :: L) S μ := by
  obtain ⟨p, l', e, R, s, m, args, below, meth, c, Z, ce, sl, g, M', n0⟩ := X
  obtain ⟨rfl, rfl, rfl, hx, hb, hml, ho, hts, hK, hSS, hg, hfr, hlo, hce, hsl⟩ := hX
  subst hq
  intro H locs ls hP hS hl
  exact lv_iload hx hb hd (tl_ld hl (i := 9) (v := .int x) rfl rfl) (k H locs ls hP hS hl)
theorem tt_is9 {X : XT} {l : Launch} {d : Nat} {M : MD} (hX : Cx X l d M) {pc q : Nat} {L S : List Value} {μ : Mem} {u0 u1 u2 u3 u4 u5 u6 u7 u8 : Value} {w : Value} {x : Int32} (hd : decode M.2.1 pc = .ok (.istore 9, 2)) (hq : pc + 2 = q) (hn : 9 < M.2.2.1) (k : TT X q (u0 :: u1 :: u2 :: u3 :: u4 :: u5 :: u6 :: u7 :: u8 :: .int x :: L) S μ) : TT X pc (u0 :: u1 :: u2 :: u3 :: u4 :: u5 :: u6 :: u7 :: u8 :: w :: L) (.int x :: S) μ := by
  obtain ⟨p, l', e, R, s, m, args, below, meth, c, Z, ce, sl, g, M', n0⟩ := X
  obtain ⟨rfl, rfl, rfl, hx, hb, hml, ho, hts, hK, hSS, hg, hfr, hlo, hce, hsl⟩ := hX
  subst hq
  intro H locs ls hP hS hl
  exact lv_istore hx hb hd hl hn rfl (fun ls' hl' => k H locs ls' hP hS (lv_mono hl' (tl_set (L := u0 :: u1 :: u2 :: u3 :: u4 :: u5 :: u6 :: u7 :: u8 :: w :: L) (i := 9) (v := .int x))))
theorem tt_al9 {X : XT} {l : Launch} {d : Nat} {M : MD} (hX : Cx X l d M) {pc q : Nat} {L S : List Value} {μ : Mem} {u0 u1 u2 u3 u4 u5 u6 u7 u8 : Value} {x : Nat} (hd : decode M.2.1 pc = .ok (.aload 9, 2)) (hq : pc + 2 = q) (k : TT X q (u0 :: u1 :: u2 :: u3 :: u4 :: u5 :: u6 :: u7 :: u8 :: .ref x :: L) (.ref x :: S) μ) : TT X pc (u0 :: u1 :: u2 :: u3 :: u4 :: u5 :: u6 :: u7 :: u8 :: .ref x :: L) S μ := by
  obtain ⟨p, l', e, R, s, m, args, below, meth, c, Z, ce, sl, g, M', n0⟩ := X
  obtain ⟨rfl, rfl, rfl, hx, hb, hml, ho, hts, hK, hSS, hg, hfr, hlo, hce, hsl⟩ := hX
  subst hq
  intro H locs ls hP hS hl
  exact lv_aload hx hb hd (tl_ld hl (i := 9) (v := .ref x) rfl rfl) (k H locs ls hP hS hl)
theorem tt_as9 {X : XT} {l : Launch} {d : Nat} {M : MD} (hX : Cx X l d M) {pc q : Nat} {L S : List Value} {μ : Mem} {u0 u1 u2 u3 u4 u5 u6 u7 u8 : Value} {w : Value} {x : Nat} (hd : decode M.2.1 pc = .ok (.astore 9, 2)) (hq : pc + 2 = q) (hn : 9 < M.2.2.1) (k : TT X q (u0 :: u1 :: u2 :: u3 :: u4 :: u5 :: u6 :: u7 :: u8 :: .ref x :: L) S μ) : TT X pc (u0 :: u1 :: u2 :: u3 :: u4 :: u5 :: u6 :: u7 :: u8 :: w :: L) (.ref x :: S) μ := by
  obtain ⟨p, l', e, R, s, m, args, below, meth, c, Z, ce, sl, g, M', n0⟩ := X
  obtain ⟨rfl, rfl, rfl, hx, hb, hml, ho, hts, hK, hSS, hg, hfr, hlo, hce, hsl⟩ := hX
  subst hq
  intro H locs ls hP hS hl
  exact lv_astore hx hb hd hl hn rfl (fun ls' hl' => k H locs ls' hP hS (lv_mono hl' (tl_set (L := u0 :: u1 :: u2 :: u3 :: u4 :: u5 :: u6 :: u7 :: u8 :: w :: L) (i := 9) (v := .ref x))))
theorem tt_inc9 {X : XT} {l : Launch} {d : Nat} {M : MD} (hX : Cx X l d M) {pc q : Nat} {L S : List Value} {μ : Mem} {u0 u1 u2 u3 u4 u5 u6 u7 u8 : Value} {x v : Int32} {n : Int} (hd : decode M.2.1 pc = .ok (.iinc 9 n, 3)) (hq : pc + 3 = q) (hn : 9 < M.2.2.1) (hv : x + Int32.ofInt n = v) (k : TT X q (u0 :: u1 :: u2 :: u3 :: u4 :: u5 :: u6 :: u7 :: u8 :: .int v :: L) S μ) : TT X pc (u0 :: u1 :: u2 :: u3 :: u4 :: u5 :: u6 :: u7 :: u8 :: .int x :: L) S μ := by
  obtain ⟨p, l', e, R, s, m, args, below, meth, c, Z, ce, sl, g, M', n0⟩ := X
  obtain ⟨rfl, rfl, rfl, hx, hb, hml, ho, hts, hK, hSS, hg, hfr, hlo, hce, hsl⟩ := hX
  subst hq
  intro H locs ls hP hS hl
  have h9 := tl_mem g (u0 :: u1 :: u2 :: u3 :: u4 :: u5 :: u6 :: u7 :: u8 :: .int x :: L) 0 9 (.int x) rfl rfl
  obtain ⟨k9, h8⟩ := List.getElem?_of_mem h9
  exact lv_iinc hx hb hd hl h8 hv hn rfl (fun ls' hl' => k H locs ls' hP hS (lv_mono hl' (tl_set (L := u0 :: u1 :: u2 :: u3 :: u4 :: u5 :: u6 :: u7 :: u8 :: .int x :: L) (i := 9) (v := .int v))))
theorem tt_ifeq {X : XT} {l : Launch} {d : Nat} {M : MD} (hX : Cx X l d M) {pc q : Nat} {L S : List Value} {μ : Mem} {x : Int32} {off : Int} {t : Nat} (hd : decode M.2.1 pc = .ok (.ifCond .eq off, 3)) (hq : pc + 3 = q) (ht : (pc : Int) + off = (t : Int)) (kt : x = 0 → TT X t L S μ) (kf : ¬ (x = 0) → TT X q L S μ) : TT X pc L (.int x :: S) μ := by
  obtain ⟨p, l', e, R, s, m, args, below, meth, c, Z, ce, sl, g, M', n0⟩ := X
  obtain ⟨rfl, rfl, rfl, hx, hb, hml, ho, hts, hK, hSS, hg, hfr, hlo, hce, hsl⟩ := hX
  subst hq
  intro H locs ls hP hS hl
  exact lv_if_eq hx hb hd ht (fun h => kt h H locs ls hP hS hl) (fun h => kf h H locs ls hP hS hl)
theorem tt_ifne {X : XT} {l : Launch} {d : Nat} {M : MD} (hX : Cx X l d M) {pc q : Nat} {L S : List Value} {μ : Mem} {x : Int32} {off : Int} {t : Nat} (hd : decode M.2.1 pc = .ok (.ifCond .ne off, 3)) (hq : pc + 3 = q) (ht : (pc : Int) + off = (t : Int)) (kt : ¬ x = 0 → TT X t L S μ) (kf : x = 0 → TT X q L S μ) : TT X pc L (.int x :: S) μ := by
  obtain ⟨p, l', e, R, s, m, args, below, meth, c, Z, ce, sl, g, M', n0⟩ := X
  obtain ⟨rfl, rfl, rfl, hx, hb, hml, ho, hts, hK, hSS, hg, hfr, hlo, hce, hsl⟩ := hX
  subst hq
  intro H locs ls hP hS hl
  exact lv_if_ne hx hb hd ht (fun h => kt h H locs ls hP hS hl) (fun h => kf h H locs ls hP hS hl)
theorem tt_iflt {X : XT} {l : Launch} {d : Nat} {M : MD} (hX : Cx X l d M) {pc q : Nat} {L S : List Value} {μ : Mem} {x : Int32} {off : Int} {t : Nat} (hd : decode M.2.1 pc = .ok (.ifCond .lt off, 3)) (hq : pc + 3 = q) (ht : (pc : Int) + off = (t : Int)) (kt : x < 0 → TT X t L S μ) (kf : ¬ (x < 0) → TT X q L S μ) : TT X pc L (.int x :: S) μ := by
  obtain ⟨p, l', e, R, s, m, args, below, meth, c, Z, ce, sl, g, M', n0⟩ := X
  obtain ⟨rfl, rfl, rfl, hx, hb, hml, ho, hts, hK, hSS, hg, hfr, hlo, hce, hsl⟩ := hX
  subst hq
  intro H locs ls hP hS hl
  exact lv_if_lt hx hb hd ht (fun h => kt h H locs ls hP hS hl) (fun h => kf h H locs ls hP hS hl)
theorem tt_ifge {X : XT} {l : Launch} {d : Nat} {M : MD} (hX : Cx X l d M) {pc q : Nat} {L S : List Value} {μ : Mem} {x : Int32} {off : Int} {t : Nat} (hd : decode M.2.1 pc = .ok (.ifCond .ge off, 3)) (hq : pc + 3 = q) (ht : (pc : Int) + off = (t : Int)) (kt : 0 ≤ x → TT X t L S μ) (kf : ¬ (0 ≤ x) → TT X q L S μ) : TT X pc L (.int x :: S) μ := by
  obtain ⟨p, l', e, R, s, m, args, below, meth, c, Z, ce, sl, g, M', n0⟩ := X
  obtain ⟨rfl, rfl, rfl, hx, hb, hml, ho, hts, hK, hSS, hg, hfr, hlo, hce, hsl⟩ := hX
  subst hq
  intro H locs ls hP hS hl
  exact lv_if_ge hx hb hd ht (fun h => kt h H locs ls hP hS hl) (fun h => kf h H locs ls hP hS hl)
theorem tt_ifgt {X : XT} {l : Launch} {d : Nat} {M : MD} (hX : Cx X l d M) {pc q : Nat} {L S : List Value} {μ : Mem} {x : Int32} {off : Int} {t : Nat} (hd : decode M.2.1 pc = .ok (.ifCond .gt off, 3)) (hq : pc + 3 = q) (ht : (pc : Int) + off = (t : Int)) (kt : 0 < x → TT X t L S μ) (kf : ¬ (0 < x) → TT X q L S μ) : TT X pc L (.int x :: S) μ := by
  obtain ⟨p, l', e, R, s, m, args, below, meth, c, Z, ce, sl, g, M', n0⟩ := X
  obtain ⟨rfl, rfl, rfl, hx, hb, hml, ho, hts, hK, hSS, hg, hfr, hlo, hce, hsl⟩ := hX
  subst hq
  intro H locs ls hP hS hl
  exact lv_if_gt hx hb hd ht (fun h => kt h H locs ls hP hS hl) (fun h => kf h H locs ls hP hS hl)
theorem tt_ifle {X : XT} {l : Launch} {d : Nat} {M : MD} (hX : Cx X l d M) {pc q : Nat} {L S : List Value} {μ : Mem} {x : Int32} {off : Int} {t : Nat} (hd : decode M.2.1 pc = .ok (.ifCond .le off, 3)) (hq : pc + 3 = q) (ht : (pc : Int) + off = (t : Int)) (kt : x ≤ 0 → TT X t L S μ) (kf : ¬ (x ≤ 0) → TT X q L S μ) : TT X pc L (.int x :: S) μ := by
  obtain ⟨p, l', e, R, s, m, args, below, meth, c, Z, ce, sl, g, M', n0⟩ := X
  obtain ⟨rfl, rfl, rfl, hx, hb, hml, ho, hts, hK, hSS, hg, hfr, hlo, hce, hsl⟩ := hX
  subst hq
  intro H locs ls hP hS hl
  exact lv_if_le hx hb hd ht (fun h => kt h H locs ls hP hS hl) (fun h => kf h H locs ls hP hS hl)
theorem tt_iceq {X : XT} {l : Launch} {d : Nat} {M : MD} (hX : Cx X l d M) {pc q : Nat} {L S : List Value} {μ : Mem} {x y : Int32} {off : Int} {t : Nat} (hd : decode M.2.1 pc = .ok (.if_icmp .eq off, 3)) (hq : pc + 3 = q) (ht : (pc : Int) + off = (t : Int)) (kt : x = y → TT X t L S μ) (kf : ¬ (x = y) → TT X q L S μ) : TT X pc L (.int y :: .int x :: S) μ := by
  obtain ⟨p, l', e, R, s, m, args, below, meth, c, Z, ce, sl, g, M', n0⟩ := X
  obtain ⟨rfl, rfl, rfl, hx, hb, hml, ho, hts, hK, hSS, hg, hfr, hlo, hce, hsl⟩ := hX
  subst hq
  intro H locs ls hP hS hl
  exact lv_icmp_eq hx hb hd ht (fun h => kt h H locs ls hP hS hl) (fun h => kf h H locs ls hP hS hl)
theorem tt_icne {X : XT} {l : Launch} {d : Nat} {M : MD} (hX : Cx X l d M) {pc q : Nat} {L S : List Value} {μ : Mem} {x y : Int32} {off : Int} {t : Nat} (hd : decode M.2.1 pc = .ok (.if_icmp .ne off, 3)) (hq : pc + 3 = q) (ht : (pc : Int) + off = (t : Int)) (kt : ¬ x = y → TT X t L S μ) (kf : x = y → TT X q L S μ) : TT X pc L (.int y :: .int x :: S) μ := by
  obtain ⟨p, l', e, R, s, m, args, below, meth, c, Z, ce, sl, g, M', n0⟩ := X
  obtain ⟨rfl, rfl, rfl, hx, hb, hml, ho, hts, hK, hSS, hg, hfr, hlo, hce, hsl⟩ := hX
  subst hq
  intro H locs ls hP hS hl
  exact lv_icmp_ne hx hb hd ht (fun h => kt h H locs ls hP hS hl) (fun h => kf h H locs ls hP hS hl)
theorem tt_iclt {X : XT} {l : Launch} {d : Nat} {M : MD} (hX : Cx X l d M) {pc q : Nat} {L S : List Value} {μ : Mem} {x y : Int32} {off : Int} {t : Nat} (hd : decode M.2.1 pc = .ok (.if_icmp .lt off, 3)) (hq : pc + 3 = q) (ht : (pc : Int) + off = (t : Int)) (kt : x < y → TT X t L S μ) (kf : ¬ (x < y) → TT X q L S μ) : TT X pc L (.int y :: .int x :: S) μ := by
  obtain ⟨p, l', e, R, s, m, args, below, meth, c, Z, ce, sl, g, M', n0⟩ := X
  obtain ⟨rfl, rfl, rfl, hx, hb, hml, ho, hts, hK, hSS, hg, hfr, hlo, hce, hsl⟩ := hX
  subst hq
  intro H locs ls hP hS hl
  exact lv_icmp_lt hx hb hd ht (fun h => kt h H locs ls hP hS hl) (fun h => kf h H locs ls hP hS hl)
theorem tt_icge {X : XT} {l : Launch} {d : Nat} {M : MD} (hX : Cx X l d M) {pc q : Nat} {L S : List Value} {μ : Mem} {x y : Int32} {off : Int} {t : Nat} (hd : decode M.2.1 pc = .ok (.if_icmp .ge off, 3)) (hq : pc + 3 = q) (ht : (pc : Int) + off = (t : Int)) (kt : y ≤ x → TT X t L S μ) (kf : ¬ (y ≤ x) → TT X q L S μ) : TT X pc L (.int y :: .int x :: S) μ := by
  obtain ⟨p, l', e, R, s, m, args, below, meth, c, Z, ce, sl, g, M', n0⟩ := X
  obtain ⟨rfl, rfl, rfl, hx, hb, hml, ho, hts, hK, hSS, hg, hfr, hlo, hce, hsl⟩ := hX
  subst hq
  intro H locs ls hP hS hl
  exact lv_icmp_ge hx hb hd ht (fun h => kt h H locs ls hP hS hl) (fun h => kf h H locs ls hP hS hl)
theorem tt_icgt {X : XT} {l : Launch} {d : Nat} {M : MD} (hX : Cx X l d M) {pc q : Nat} {L S : List Value} {μ : Mem} {x y : Int32} {off : Int} {t : Nat} (hd : decode M.2.1 pc = .ok (.if_icmp .gt off, 3)) (hq : pc + 3 = q) (ht : (pc : Int) + off = (t : Int)) (kt : y < x → TT X t L S μ) (kf : ¬ (y < x) → TT X q L S μ) : TT X pc L (.int y :: .int x :: S) μ := by
  obtain ⟨p, l', e, R, s, m, args, below, meth, c, Z, ce, sl, g, M', n0⟩ := X
  obtain ⟨rfl, rfl, rfl, hx, hb, hml, ho, hts, hK, hSS, hg, hfr, hlo, hce, hsl⟩ := hX
  subst hq
  intro H locs ls hP hS hl
  exact lv_icmp_gt hx hb hd ht (fun h => kt h H locs ls hP hS hl) (fun h => kf h H locs ls hP hS hl)
theorem tt_icle {X : XT} {l : Launch} {d : Nat} {M : MD} (hX : Cx X l d M) {pc q : Nat} {L S : List Value} {μ : Mem} {x y : Int32} {off : Int} {t : Nat} (hd : decode M.2.1 pc = .ok (.if_icmp .le off, 3)) (hq : pc + 3 = q) (ht : (pc : Int) + off = (t : Int)) (kt : x ≤ y → TT X t L S μ) (kf : ¬ (x ≤ y) → TT X q L S μ) : TT X pc L (.int y :: .int x :: S) μ := by
  obtain ⟨p, l', e, R, s, m, args, below, meth, c, Z, ce, sl, g, M', n0⟩ := X
  obtain ⟨rfl, rfl, rfl, hx, hb, hml, ho, hts, hK, hSS, hg, hfr, hlo, hce, hsl⟩ := hX
  subst hq
  intro H locs ls hP hS hl
  exact lv_icmp_le hx hb hd ht (fun h => kt h H locs ls hP hS hl) (fun h => kf h H locs ls hP hS hl)
theorem tt_goto {X : XT} {l : Launch} {d : Nat} {M : MD} (hX : Cx X l d M) {pc t : Nat} {L S : List Value} {μ : Mem} {off : Int} (hd : decode M.2.1 pc = .ok (.goto off, 3)) (ht : (pc : Int) + off = (t : Int)) (k : TT X t L S μ) : TT X pc L S μ := by
  obtain ⟨p, l', e, R, s, m, args, below, meth, c, Z, ce, sl, g, M', n0⟩ := X
  obtain ⟨rfl, rfl, rfl, hx, hb, hml, ho, hts, hK, hSS, hg, hfr, hlo, hce, hsl⟩ := hX
  intro H locs ls hP hS hl
  exact lv_goto hx hb hd ht (k H locs ls hP hS hl)
theorem tt_ifnull {X : XT} {l : Launch} {d : Nat} {M : MD} (hX : Cx X l d M) {pc q : Nat} {L S : List Value} {μ : Mem} {x : Nat} {off : Int} (hd : decode M.2.1 pc = .ok (.ifnull off, 3)) (hq : pc + 3 = q) (k : TT X q L S μ) : TT X pc L (.ref x :: S) μ := by
  obtain ⟨p, l', e, R, s, m, args, below, meth, c, Z, ce, sl, g, M', n0⟩ := X
  obtain ⟨rfl, rfl, rfl, hx, hb, hml, ho, hts, hK, hSS, hg, hfr, hlo, hce, hsl⟩ := hX
  subst hq
  intro H locs ls hP hS hl
  exact lv_ifnull hx hb hd (k H locs ls hP hS hl)
theorem tt_ifnonnull {X : XT} {l : Launch} {d : Nat} {M : MD} (hX : Cx X l d M) {pc t : Nat} {L S : List Value} {μ : Mem} {x : Nat} {off : Int} (hd : decode M.2.1 pc = .ok (.ifnonnull off, 3)) (ht : (pc : Int) + off = (t : Int)) (k : TT X t L S μ) : TT X pc L (.ref x :: S) μ := by
  obtain ⟨p, l', e, R, s, m, args, below, meth, c, Z, ce, sl, g, M', n0⟩ := X
  obtain ⟨rfl, rfl, rfl, hx, hb, hml, ho, hts, hK, hSS, hg, hfr, hlo, hce, hsl⟩ := hX
  intro H locs ls hP hS hl
  exact lv_ifnonnull hx hb hd ht (k H locs ls hP hS hl)
theorem tt_ifnullN {X : XT} {l : Launch} {d : Nat} {M : MD} (hX : Cx X l d M) {pc t : Nat} {L S : List Value} {μ : Mem} {off : Int} (hd : decode M.2.1 pc = .ok (.ifnull off, 3)) (ht : (pc : Int) + off = (t : Int)) (k : TT X t L S μ) : TT X pc L (.null :: S) μ := by
  obtain ⟨p, l', e, R, s, m, args, below, meth, c, Z, ce, sl, g, M', n0⟩ := X
  obtain ⟨rfl, rfl, rfl, hx, hb, hml, ho, hts, hK, hSS, hg, hfr, hlo, hce, hsl⟩ := hX
  intro H locs ls hP hS hl
  exact lv_ifnullN hx hb hd ht (k H locs ls hP hS hl)
theorem tt_ifnonnullN {X : XT} {l : Launch} {d : Nat} {M : MD} (hX : Cx X l d M) {pc q : Nat} {L S : List Value} {μ : Mem} {off : Int} (hd : decode M.2.1 pc = .ok (.ifnonnull off, 3)) (hq : pc + 3 = q) (k : TT X q L S μ) : TT X pc L (.null :: S) μ := by
  obtain ⟨p, l', e, R, s, m, args, below, meth, c, Z, ce, sl, g, M', n0⟩ := X
  obtain ⟨rfl, rfl, rfl, hx, hb, hml, ho, hts, hK, hSS, hg, hfr, hlo, hce, hsl⟩ := hX
  subst hq
  intro H locs ls hP hS hl
  exact lv_ifnonnullN hx hb hd (k H locs ls hP hS hl)
theorem tt_tswI {X : XT} {l : Launch} {d : Nat} {M : MD} (hX : Cx X l d M) {pc t : Nat} {L S : List Value} {μ : Mem} {dflt lo hi : Int} {offs : Array Int} {len : Nat} {x : Int32} {off : Int} (hd : decode M.2.1 pc = .ok (.tableswitch dflt lo hi offs, len)) (h1 : ¬ x.toInt < lo) (h2 : ¬ hi < x.toInt) (ho : offs[(x.toInt - lo).toNat]? = some off) (ht : (pc : Int) + off = (t : Int)) (k : TT X t L S μ) : TT X pc L (.int x :: S) μ := by
  obtain ⟨p, l', e, R, s, m, args, below, meth, c, Z, ce, sl, g, M', n0⟩ := X
  obtain ⟨rfl, rfl, rfl, hx, hb, hml, hoo, hts, hK, hSS, hg, hfr, hlo, hce, hsl⟩ := hX
  intro H locs ls hP hS hl
  exact lv_tableIn hx hb hd h1 h2 ho ht (k H locs ls hP hS hl)
theorem tt_tswO {X : XT} {l : Launch} {d : Nat} {M : MD} (hX : Cx X l d M) {pc t : Nat} {L S : List Value} {μ : Mem} {dflt lo hi : Int} {offs : Array Int} {len : Nat} {x : Int32} (hd : decode M.2.1 pc = .ok (.tableswitch dflt lo hi offs, len)) (h : x.toInt < lo ∨ hi < x.toInt) (ht : (pc : Int) + dflt = (t : Int)) (k : TT X t L S μ) : TT X pc L (.int x :: S) μ := by
  obtain ⟨p, l', e, R, s, m, args, below, meth, c, Z, ce, sl, g, M', n0⟩ := X
  obtain ⟨rfl, rfl, rfl, hx, hb, hml, ho, hts, hK, hSS, hg, hfr, hlo, hce, hsl⟩ := hX
  intro H locs ls hP hS hl
  exact lv_tableOut hx hb hd h ht (k H locs ls hP hS hl)
end
section
/-! FIELDS, ARRAYS, CALLS -/
def HI (a ci k : Nat) : Prop := a < 112 ∧ ∃ fs, ff_sh a = .inl (ci, fs) ∧ ∃ z, fs[k]? = some (0, z)
def HR (a ci k r : Nat) : Prop := a < 112 ∧ ∃ fs, ff_sh a = .inl (ci, fs) ∧ fs[k]? = some (1, r)
def HD (a ci k : Nat) : Prop := a < 112 ∧ ∃ fs, ff_sh a = .inl (ci, fs) ∧ ∃ z, fs[k]? = some (2, z)
def HO (a ci : Nat) : Prop := a < 112 ∧ ∃ fs, ff_sh a = .inl (ci, fs)
def HA (a t n : Nat) : Prop := a < 112 ∧ ff_sh a = .inr (t, n, none) ∧ n < 2 ^ 31
def HQ (a t n : Nat) (r : Nat → Nat) : Prop := a < 112 ∧ ff_sh a = .inr (t, n, some r) ∧ n < 2 ^ 31
theorem HI.o {a ci k : Nat} (h : HI a ci k) : HO a ci := ⟨h.1, h.2.choose, h.2.choose_spec.1⟩
theorem HR.o {a ci k r : Nat} (h : HR a ci k r) : HO a ci := ⟨h.1, h.2.choose, h.2.choose_spec.1⟩
/-- a field's link: of class 'own', entry 'idx': field k of class ci -/
def FLK (own : String) (idx ci k : Nat) : Prop := ∃ (C : String) (T : u_T) (N : Nat), vwCl[ci]? = some (C, T, N) ∧ k < N ∧ (∀ w ∈ u_ws C T N, w ∈ wsL_law) ∧ ((Cond.fieldLink own idx (T k).1 (T k).2.1 (T k).2.2.1) ∈ wsL_law ∨ (Cond.fieldLinkNest own idx (T k).1 (T k).2.1 (T k).2.2.1 "FaceFlips") ∈ nestL)
/-- a field's link for writing: its type -/
def FLP (own : String) (idx ci k : Nat) (ty : FieldType) : Prop := ∃ (C : String) (T : u_T) (N : Nat), vwCl[ci]? = some (C, T, N) ∧ k < N ∧ (∀ w ∈ u_ws C T N, w ∈ wsL_law) ∧ ((Cond.fieldLink own idx (T k).1 (T k).2.1 (T k).2.2.1) ∈ wsL_law ∨ (Cond.fieldLinkNest own idx (T k).1 (T k).2.1 (T k).2.2.1 "FaceFlips") ∈ nestL) ∧ (∃ ty0 : Nat → FieldType, ∀ k, k < N → parseFieldDescriptor (T k).2.2.1 = some (ty0 k)) ∧ (∀ a, a < N → ∀ b, b < N → a ≠ b → (T a).2.1 ≠ (T b).2.1) ∧ (T k).2.2.2 = false ∧ parseFieldDescriptor (T k).2.2.1 = some ty
theorem fvalI {g : Geo} {f : Nat → Int32} {k z : Nat} : fval g f k (0, z) = .int (f k) := rfl
theorem fvalR {g : Geo} {f : Nat → Int32} {k z : Nat} : fval g f k (1, z) = .ref (g.2.2.1 z) := rfl
theorem fvalD {g : Geo} {f : Nat → Int32} {k z r : Nat} (hf : f k = nI r) (hr : r < 2 ^ 31) : fval g f k (2, z) = .ref (g.2.2.1 r) := by
  show (if f k < 0 then Value.null else .ref (g.2.2.1 (f k).toNatClampNeg)) = _
  rw [hf, if_neg (nI_pos hr), nI_clamp hr]
theorem nest_use {w : Cond} {s : State} {args : Array Value} (hN : NK s) (h : w ∈ nestL) (hw : w.onTables = true) : w.before args s = true := va_Nw.use hw (hN w h)
section GP
variable {X : XT} {l : Launch} {d : Nat} {M : MD}
theorem tt_getV (hX : Cx X l d M) {pc q : Nat} {L S : List Value} {μ : Mem} {idx ci k a : Nat} (hF : FLK M.2.2.2.2 idx ci k) {fs : List (Nat × Nat)} (ha : a < 112) (hs : ff_sh a = .inl (ci, fs)) {dd : Nat × Nat} (hk : fs[k]? = some dd) {v : Value} (hv : ∀ g : Geo, fval g (μ a) k dd = tv g v) (hd : decode M.2.1 pc = .ok (.getfield idx, 3)) (hq : pc + 3 = q) (kk : TT X q L (v :: S) μ) : TT X pc L (.ref a :: S) μ := by
  obtain ⟨p, l', e, R, s, m, args, below, meth, c, Z, ce, sl, g, M', n0⟩ := X
  obtain ⟨rfl, rfl, rfl, hx, hb, hml, ho, hts, hK, hSS, hg, hfr, hlo, hce, hsl⟩ := hX
  subst hq
  intro H locs ls hP hS hl
  obtain ⟨C, T, N, h1, h2, h3, h4⟩ := hF
  have hw : (wls g μ)[a]? = some (g.2.2.1 a, .inr (ci, fs.mapIdx (fun k d => fval g (μ a) k d))) := by
    rw [wls_at g μ ha, hs]
    rfl
  have hf : (fs.mapIdx (fun k d => fval g (μ a) k d))[k]? = some (tv g v) := by
    rw [List.getElem?_mapIdx, hk, ← hv g]
    rfl
  rcases h4 with h4 | h4
  · exact va_get (D := gD g) (ci := ci) (ref := (T k).1) hx hb hts h3 ho hK.1 hP a hw h1 k h2 (hts _ h4) (fun _ z => z) hf hd (kk H locs ls hP hS hl)
  · exact va_getN (D := gD g) (ci := ci) (ref := (T k).1) hx hb hts h3 ho hK.1 hP a hw h1 k h2 (nest_use hK.2.1 h4 rfl) (fun _ z => z) hf hd (kk H locs ls hP hS hl)
theorem tt_getI (hX : Cx X l d M) {pc q : Nat} {L S : List Value} {μ : Mem} {idx ci k a : Nat} (hF : FLK M.2.2.2.2 idx ci k) (hs : HI a ci k) (hd : decode M.2.1 pc = .ok (.getfield idx, 3)) (hq : pc + 3 = q) (kk : TT X q L (.int (μ a k) :: S) μ) : TT X pc L (.ref a :: S) μ := by
  obtain ⟨ha, fs, h1, z, h2⟩ := hs
  exact tt_getV hX hF ha h1 h2 (fun g => rfl) hd hq kk
theorem tt_getR (hX : Cx X l d M) {pc q : Nat} {L S : List Value} {μ : Mem} {idx ci k a r : Nat} (hF : FLK M.2.2.2.2 idx ci k) (hs : HR a ci k r) (hd : decode M.2.1 pc = .ok (.getfield idx, 3)) (hq : pc + 3 = q) (kk : TT X q L (.ref r :: S) μ) : TT X pc L (.ref a :: S) μ := by
  obtain ⟨ha, fs, h1, h2⟩ := hs
  exact tt_getV hX hF ha h1 h2 (fun g => rfl) hd hq kk
theorem tt_getD (hX : Cx X l d M) {pc q : Nat} {L S : List Value} {μ : Mem} {idx ci k a r : Nat} (hF : FLK M.2.2.2.2 idx ci k) (hs : HD a ci k) (hf : μ a k = nI r) (hr : r < 2 ^ 31) (hd : decode M.2.1 pc = .ok (.getfield idx, 3)) (hq : pc + 3 = q) (kk : TT X q L (.ref r :: S) μ) : TT X pc L (.ref a :: S) μ := by
  obtain ⟨ha, fs, h1, z, h2⟩ := hs
  exact tt_getV hX hF ha h1 h2 (fun g => fvalD hf hr) hd hq kk
theorem mapIdx_set {g : Geo} {f : Nat → Int32} {fs : List (Nat × Nat)} {k : Nat} {dd : Nat × Nat} {v : Value} {x : Int32} (hk : fs[k]? = some dd) (hv : fval g (upd f k x) k dd = v) : (fs.mapIdx (fun k d => fval g f k d)).set k v = fs.mapIdx (fun j d => fval g (upd f k x) j d) := by
  apply List.ext_getElem?
  intro j
  by_cases e : j = k
  · subst e
    rw [List.getElem?_set_self (by simpa using (List.getElem?_eq_some_iff.mp hk).1), List.getElem?_mapIdx, hk, ← hv]
    rfl
  · rw [List.getElem?_set_ne (Ne.symm e), List.getElem?_mapIdx, List.getElem?_mapIdx]
    congr 1
    funext dd
    have hu : upd f k x j = f j := pk_un e
    simp only [fval, hu]
theorem tt_putV (hX : Cx X l d M) {pc q : Nat} {L S : List Value} {μ : Mem} {idx ci k a : Nat} {ty : FieldType} (hF : FLP M.2.2.2.2 idx ci k ty) {fs : List (Nat × Nat)} (ha : a < 112) (hs : ff_sh a = .inl (ci, fs)) {dd : Nat × Nat} (hk : fs[k]? = some dd) {v : Value} {x : Int32} (hv : ∀ g : Geo, fval g (upd (μ a) k x) k dd = tv g v) (hn : ∀ g : Geo, narrow ty (tv g v) = tv g v) (hfit : ∀ g : Geo, fits ty (tv g v) = true) (hd : decode M.2.1 pc = .ok (.putfield idx, 3)) (hq : pc + 3 = q) (kk : TT X q L S (mset μ a (upd (μ a) k x))) : TT X pc L (v :: .ref a :: S) μ := by
  obtain ⟨p, l', e, R, s, m, args, below, meth, c, Z, ce, sl, g, M', n0⟩ := X
  obtain ⟨rfl, rfl, rfl, hx, hb, hml, ho, hts, hK, hSS, hg, hfr, hlo, hce, hsl⟩ := hX
  subst hq
  intro H locs ls hP hS hl
  obtain ⟨C, T, N, h1, h2, h3, h4, ⟨ty0, h5⟩, h6, h7, h8⟩ := hF
  have hw : (wls g μ)[a]? = some (g.2.2.1 a, .inr (ci, fs.mapIdx (fun k d => fval g (μ a) k d))) := by
    rw [wls_at g μ ha, hs]
    rfl
  have hlt : k < (fs.mapIdx (fun k d => fval g (μ a) k d)).length := by
    rw [List.length_mapIdx]
    exact (List.getElem?_eq_some_iff.mp hk).1
  have hset : (wls g μ).set a (g.2.2.1 a, .inr (ci, (fs.mapIdx (fun k d => fval g (μ a) k d)).set k (tv g v))) = wls g (mset μ a (upd (μ a) k x)) := by
    rw [mapIdx_set hk (hv g), ← wls_set g μ ha, hs]
    rfl
  have kk' := fun (H1 : Heap) (locs1 : List Loc) (hP1 : va_P (gD g) vwCl ((wls g μ).set a (g.2.2.1 a, .inr (ci, (fs.mapIdx (fun k d => fval g (μ a) k d)).set k (tv g v)))) H1) (_ : va_D (AA g s.heap.size) ((wls g μ).set a (g.2.2.1 a, .inr (ci, (fs.mapIdx (fun k d => fval g (μ a) k d)).set k (tv g v))))) (hS1 : va_S (AA g s.heap.size) s.heap H1 locs1) => kk H1 locs1 ls (by rw [← hset]; exact hP1) hS1 hl
  rcases h4 with h4 | h4
  · exact va_put (D := gD g) (ci := ci) (ref := (T k).1) hx hb hts h3 ty0 h5 h6 ho hK.1 hP (wls_D hg μ _) hS a hw h1 k h2 (hts _ h4) (fun _ z => z) h7 h8 (hn g) (hfit g) hlt hd kk'
  · exact va_putN (D := gD g) (ci := ci) (ref := (T k).1) hx hb hts h3 ty0 h5 h6 ho hK.1 hP (wls_D hg μ _) hS a hw h1 k h2 (nest_use hK.2.1 h4 rfl) (fun _ z => z) h7 h8 (hn g) (hfit g) hlt hd kk'
theorem tt_putI (hX : Cx X l d M) {pc q : Nat} {L S : List Value} {μ : Mem} {idx ci k a : Nat} (hF : FLP M.2.2.2.2 idx ci k .int) (hs : HI a ci k) {x : Int32} (hd : decode M.2.1 pc = .ok (.putfield idx, 3)) (hq : pc + 3 = q) (kk : TT X q L S (mset μ a (upd (μ a) k x))) : TT X pc L (.int x :: .ref a :: S) μ := by
  obtain ⟨ha, fs, h1, z, h2⟩ := hs
  exact tt_putV hX hF ha h1 h2 (x := x) (fun g => by show Value.int _ = Value.int _; rw [pk_us]) (fun g => rfl) (fun g => rfl) hd hq kk
theorem tt_putZ (hX : Cx X l d M) {pc q : Nat} {L S : List Value} {μ : Mem} {idx ci k a : Nat} (hF : FLP M.2.2.2.2 idx ci k .boolean) (hs : HI a ci k) {x : Int32} (hx : x = 0 ∨ x = 1) (hd : decode M.2.1 pc = .ok (.putfield idx, 3)) (hq : pc + 3 = q) (kk : TT X q L S (mset μ a (upd (μ a) k x))) : TT X pc L (.int x :: .ref a :: S) μ := by
  obtain ⟨ha, fs, h1, z, h2⟩ := hs
  exact tt_putV hX hF ha h1 h2 (x := x) (fun g => by show Value.int _ = Value.int _; rw [pk_us]) (fun g => by rcases hx with rfl | rfl <;> rfl) (fun g => by rcases hx with rfl | rfl <;> rfl) hd hq kk
theorem tt_putD (hX : Cx X l d M) {pc q : Nat} {L S : List Value} {μ : Mem} {idx ci k a r : Nat} {C : String} (hF : FLP M.2.2.2.2 idx ci k (.object C)) (hs : HD a ci k) (hr : r < 2 ^ 31) (hd : decode M.2.1 pc = .ok (.putfield idx, 3)) (hq : pc + 3 = q) (kk : TT X q L S (mset μ a (upd (μ a) k (nI r)))) : TT X pc L (.ref r :: .ref a :: S) μ := by
  obtain ⟨ha, fs, h1, z, h2⟩ := hs
  exact tt_putV hX hF ha h1 h2 (x := nI r) (fun g => fvalD pk_us hr) (fun g => rfl) (fun g => rfl) hd hq kk
theorem inb_nI {i n : Nat} (h : i < n) (hn : n < 2 ^ 31) : vp_in (nI i) n := vp_in_nI h hn
theorem HA.w {a t n : Nat} (h : HA a t n) (g : Geo) (μ : Mem) : (wls g μ)[a]? = some (g.2.2.1 a, .inl (g.2.2.2 t, n, .inl (μ a))) := by
  rw [wls_at g μ h.1, h.2.1]
  rfl
theorem HA.set {a t n : Nat} (h : HA a t n) (g : Geo) (μ : Mem) (f : Nat → Int32) : (wls g μ).set a (g.2.2.1 a, .inl (g.2.2.2 t, n, .inl f)) = wls g (mset μ a f) := by
  rw [← wls_set g μ h.1, h.2.1]
  rfl
theorem HQ.w {a t n : Nat} {r : Nat → Nat} (h : HQ a t n r) (g : Geo) (μ : Mem) : (wls g μ)[a]? = some (g.2.2.1 a, .inl (g.2.2.2 t, n, .inr (.inr (.inr (.inr (fun j => some (g.2.2.1 (r j)))))))) := by
  rw [wls_at g μ h.1, h.2.1]
  rfl
theorem tt_iald (hX : Cx X l d M) {pc q : Nat} {L S : List Value} {μ : Mem} {a n i : Nat} (hA : HA a 0 n) (hi : i < n) (hd : decode M.2.1 pc = .ok (.iaload, 1)) (hq : pc + 1 = q) (kk : TT X q L (.int (μ a i) :: S) μ) : TT X pc L (.int (nI i) :: .ref a :: S) μ := by
  obtain ⟨p, l', e, R, s, m, args, below, meth, c, Z, ce, sl, g, M', n0⟩ := X
  obtain ⟨rfl, rfl, rfl, hx, hb, hml, ho, hts, hK, hSS, hg, hfr, hlo, hce, hsl⟩ := hX
  subst hq
  intro H locs ls hP hS hl
  have k2 := kk H locs ls hP hS hl
  refine va_iald (D := gD g) hx hb hK.1 hP a 0 (hA.w g μ) (tysG_at (t := 0) rfl) (inb_nI hi hA.2.2) hd ?_
  rw [nI_clamp (Nat.lt_trans hi hA.2.2)]
  exact k2
theorem tt_zald (hX : Cx X l d M) {pc q : Nat} {L S : List Value} {μ : Mem} {a n i : Nat} (hA : HA a 1 n) (hi : i < n) (hd : decode M.2.1 pc = .ok (.baload, 1)) (hq : pc + 1 = q) (kk : TT X q L (.int (μ a i) :: S) μ) : TT X pc L (.int (nI i) :: .ref a :: S) μ := by
  obtain ⟨p, l', e, R, s, m, args, below, meth, c, Z, ce, sl, g, M', n0⟩ := X
  obtain ⟨rfl, rfl, rfl, hx, hb, hml, ho, hts, hK, hSS, hg, hfr, hlo, hce, hsl⟩ := hX
  subst hq
  intro H locs ls hP hS hl
  have k2 := kk H locs ls hP hS hl
  refine va_zald (D := gD g) hx hb hK.1 hP a 1 (hA.w g μ) (tysG_at (t := 1) rfl) (inb_nI hi hA.2.2) hd ?_
  rw [nI_clamp (Nat.lt_trans hi hA.2.2)]
  exact k2
theorem tt_bald (hX : Cx X l d M) {pc q : Nat} {L S : List Value} {μ : Mem} {a n i : Nat} (hA : HA a 2 n) (hi : i < n) (hd : decode M.2.1 pc = .ok (.baload, 1)) (hq : pc + 1 = q) (kk : TT X q L (.int (μ a i) :: S) μ) : TT X pc L (.int (nI i) :: .ref a :: S) μ := by
  obtain ⟨p, l', e, R, s, m, args, below, meth, c, Z, ce, sl, g, M', n0⟩ := X
  obtain ⟨rfl, rfl, rfl, hx, hb, hml, ho, hts, hK, hSS, hg, hfr, hlo, hce, hsl⟩ := hX
  subst hq
  intro H locs ls hP hS hl
  have k2 := kk H locs ls hP hS hl
  refine va_bald (D := gD g) hx hb hK.1 hP a 2 (hA.w g μ) (tysG_at (t := 2) rfl) (inb_nI hi hA.2.2) hd ?_
  rw [nI_clamp (Nat.lt_trans hi hA.2.2)]
  exact k2
theorem tt_iast (hX : Cx X l d M) {pc q : Nat} {L S : List Value} {μ : Mem} {a n i : Nat} {v : Int32} (hA : HA a 0 n) (hi : i < n) (hd : decode M.2.1 pc = .ok (.iastore, 1)) (hq : pc + 1 = q) (kk : TT X q L S (mset μ a (upd (μ a) i v))) : TT X pc L (.int v :: .int (nI i) :: .ref a :: S) μ := by
  obtain ⟨p, l', e, R, s, m, args, below, meth, c, Z, ce, sl, g, M', n0⟩ := X
  obtain ⟨rfl, rfl, rfl, hx, hb, hml, ho, hts, hK, hSS, hg, hfr, hlo, hce, hsl⟩ := hX
  subst hq
  intro H locs ls hP hS hl
  refine va_iast (D := gD g) hx hb hK.1 hP (wls_D hg μ _) hS a 0 (hA.w g μ) (tysG_at (t := 0) rfl) (inb_nI hi hA.2.2) hd (fun H1 locs1 hP1 _ hS1 => ?_)
  rw [nI_clamp (Nat.lt_trans hi hA.2.2), hA.set g μ] at hP1
  exact kk H1 locs1 ls hP1 hS1 hl
theorem tt_zast (hX : Cx X l d M) {pc q : Nat} {L S : List Value} {μ : Mem} {a n i : Nat} {v : Int32} (hA : HA a 1 n) (hi : i < n) (hv : v = 0 ∨ v = 1) (hd : decode M.2.1 pc = .ok (.bastore, 1)) (hq : pc + 1 = q) (kk : TT X q L S (mset μ a (upd (μ a) i v))) : TT X pc L (.int v :: .int (nI i) :: .ref a :: S) μ := by
  obtain ⟨p, l', e, R, s, m, args, below, meth, c, Z, ce, sl, g, M', n0⟩ := X
  obtain ⟨rfl, rfl, rfl, hx, hb, hml, ho, hts, hK, hSS, hg, hfr, hlo, hce, hsl⟩ := hX
  subst hq
  intro H locs ls hP hS hl
  have hnar : vp_nar .boolean v = v := by rcases hv with rfl | rfl <;> rfl
  refine va_zast (D := gD g) hx hb hK.1 hP (wls_D hg μ _) hS a 1 (hA.w g μ) (tysG_at (t := 1) rfl) (inb_nI hi hA.2.2) hd (fun H1 locs1 hP1 _ hS1 => ?_)
  rw [nI_clamp (Nat.lt_trans hi hA.2.2), hnar, hA.set g μ] at hP1
  exact kk H1 locs1 ls hP1 hS1 hl
theorem tt_bast (hX : Cx X l d M) {pc q : Nat} {L S : List Value} {μ : Mem} {a n i : Nat} {v : Int32} (hA : HA a 2 n) (hi : i < n) (hv : v.toInt8.toInt32 = v) (hd : decode M.2.1 pc = .ok (.bastore, 1)) (hq : pc + 1 = q) (kk : TT X q L S (mset μ a (upd (μ a) i v))) : TT X pc L (.int v :: .int (nI i) :: .ref a :: S) μ := by
  obtain ⟨p, l', e, R, s, m, args, below, meth, c, Z, ce, sl, g, M', n0⟩ := X
  obtain ⟨rfl, rfl, rfl, hx, hb, hml, ho, hts, hK, hSS, hg, hfr, hlo, hce, hsl⟩ := hX
  subst hq
  intro H locs ls hP hS hl
  have hnar : vp_nar .byte v = v := by rw [vp_nar_byte]; exact hv
  refine va_bast (D := gD g) hx hb hK.1 hP (wls_D hg μ _) hS a 2 (hA.w g μ) (tysG_at (t := 2) rfl) (inb_nI hi hA.2.2) hd (fun H1 locs1 hP1 _ hS1 => ?_)
  rw [nI_clamp (Nat.lt_trans hi hA.2.2), hnar, hA.set g μ] at hP1
  exact kk H1 locs1 ls hP1 hS1 hl
theorem tt_aald (hX : Cx X l d M) {pc q : Nat} {L S : List Value} {μ : Mem} {a t n i : Nat} {r : Nat → Nat} (hA : HQ a t n r) (ht : t = 3 ∨ t = 4 ∨ t = 5) (hi : i < n) (hd : decode M.2.1 pc = .ok (.aaload, 1)) (hq : pc + 1 = q) (kk : TT X q L (.ref (r i) :: S) μ) : TT X pc L (.int (nI i) :: .ref a :: S) μ := by
  obtain ⟨p, l', e, R, s, m, args, below, meth, c, Z, ce, sl, g, M', n0⟩ := X
  obtain ⟨rfl, rfl, rfl, hx, hb, hml, ho, hts, hK, hSS, hg, hfr, hlo, hce, hsl⟩ := hX
  subst hq
  intro H locs ls hP hS hl
  have k2 := kk H locs ls hP hS hl
  have hlt : (nI i).toNatClampNeg < n := by rw [nI_clamp (Nat.lt_trans hi hA.2.2)]; exact hi
  have ha := hP a _ (hA.w g μ)
  obtain ⟨ty, hty, hrk⟩ : ∃ ty, tyL[t]? = some ty ∧ refKind ty = true := by
    rcases ht with rfl | rfl | rfl <;> exact ⟨_, rfl, rfl⟩
  have hcl := nI_clamp (Nat.lt_trans hi hA.2.2)
  refine W.aald (v := va_rf (some (g.2.2.1 (r i)))) (ty := ty) hx hb ha ((hK.1.2 t _ (tysG_at hty)).1 n (fun j => va_rf (some (g.2.2.1 (r j))))) hrk (fun q => by cases q) (by show ¬ (nI i < 0 ∨ (arrV _ _ _).slots.size ≤ _); rw [arrV_size]; exact inb_nI hi hA.2.2) (by show (arrV _ _ _).slots[_]? = _; rw [arrV_read _ _ hlt, hcl]) rfl rfl hd k2
theorem tt_alen (hX : Cx X l d M) {pc q : Nat} {L S : List Value} {μ : Mem} {a t n : Nat} (hA : HA a t n) (ht : t < 6) (hd : decode M.2.1 pc = .ok (.arraylength, 1)) (hq : pc + 1 = q) (kk : TT X q L (.int (nI n) :: S) μ) : TT X pc L (.ref a :: S) μ := by
  obtain ⟨p, l', e, R, s, m, args, below, meth, c, Z, ce, sl, g, M', n0⟩ := X
  obtain ⟨rfl, rfl, rfl, hx, hb, hml, ho, hts, hK, hSS, hg, hfr, hlo, hce, hsl⟩ := hX
  subst hq
  intro H locs ls hP hS hl
  obtain ⟨ty, hty⟩ : ∃ ty, tyL[t]? = some ty := ⟨_, List.getElem?_eq_getElem (h := ht)⟩
  exact va_alen (D := gD g) hx hb hK.1 hP a t (hA.w g μ) (tysG_at hty) rfl hd (kk H locs ls hP hS hl)
theorem tt_ldc (hX : Cx X l d M) {pc q : Nat} {L S : List Value} {μ : Mem} {idx : Nat} {v : Int32} (hw : Cond.constant M.2.2.2.2 idx v ∈ wsL_law) (hd : decode M.2.1 pc = .ok (.ldc idx, 2)) (hq : pc + 2 = q) (kk : TT X q L (.int v :: S) μ) : TT X pc L S μ := by
  obtain ⟨p, l', e, R, s, m, args, below, meth, c, Z, ce, sl, g, M', n0⟩ := X
  obtain ⟨rfl, rfl, rfl, hx, hb, hml, ho, hts, hK, hSS, hg, hfr, hlo, hce, hsl⟩ := hX
  subst hq
  intro H locs ls hP hS hl
  exact lv_ldc hx hb ho (hts _ hw) hd (kk H locs ls hP hS hl)
theorem tt_ldcw (hX : Cx X l d M) {pc q : Nat} {L S : List Value} {μ : Mem} {idx : Nat} {v : Int32} (hw : Cond.constant M.2.2.2.2 idx v ∈ wsL_law) (hd : decode M.2.1 pc = .ok (.ldc_w idx, 3)) (hq : pc + 3 = q) (kk : TT X q L (.int v :: S) μ) : TT X pc L S μ := by
  obtain ⟨p, l', e, R, s, m, args, below, meth, c, Z, ce, sl, g, M', n0⟩ := X
  obtain ⟨rfl, rfl, rfl, hx, hb, hml, ho, hts, hK, hSS, hg, hfr, hlo, hce, hsl⟩ := hX
  subst hq
  intro H locs ls hP hS hl
  exact lv_ldcw hx hb ho (hts _ hw) hd (kk H locs ls hP hS hl)
theorem tt_ldc2 (hX : Cx X l d M) {pc q : Nat} {L S : List Value} {μ : Mem} {idx : Nat} {v : Int64} (hw : Cond.constantLong M.2.2.2.2 idx v ∈ wsL_law) (hd : decode M.2.1 pc = .ok (.ldc2_w idx, 3)) (hq : pc + 3 = q) (kk : TT X q L (.long v :: S) μ) : TT X pc L S μ := by
  obtain ⟨p, l', e, R, s, m, args, below, meth, c, Z, ce, sl, g, M', n0⟩ := X
  obtain ⟨rfl, rfl, rfl, hx, hb, hml, ho, hts, hK, hSS, hg, hfr, hlo, hce, hsl⟩ := hX
  subst hq
  intro H locs ls hP hS hl
  exact lv_ldc2 hx hb ho (hts _ hw) hd (kk H locs ls hP hS hl)
theorem tt_ldcS (hX : Cx X l d M) {pc q : Nat} {L S : List Value} {μ : Mem} {idx w : Nat} (hw : (M.2.2.2.2, idx, w) ∈ litR) (hd : decode M.2.1 pc = .ok (.ldc idx, 2)) (hq : pc + 2 = q) (kk : TT X q L (.ref (112 + 2 * w) :: S) μ) : TT X pc L S μ := by
  obtain ⟨p, l', e, R, s, m, args, below, meth, c, Z, ce, sl, g, M', n0⟩ := X
  obtain ⟨rfl, rfl, rfl, hx, hb, hml, ho, hts, hK, hSS, hg, hfr, hlo, hce, hsl⟩ := hX
  subst hq
  intro H locs ls hP hS hl
  exact va_ldcS hx hb ho (hK.2.2 _ hw) hd (kk H locs ls hP hS hl)
end GP
/-- a method that is called: where its words stand -/
def MKV (M : MD) (n : Nat) : Prop := Cond.code M.1 M.2.1 M.2.2.1 M.2.2.2.1 ∈ wsL_law ∧ Cond.initialized M.2.2.2.2 ∈ wsL_law ∧ Cond.instanceMethod M.1 ∈ wsL_law ∧ Cond.selects M.2.2.2.2 M.1 M.1 ∈ wsL_law ∧ (M.1.cls ≠ "java/lang/invoke/MethodHandle" ∧ M.1.cls ≠ "java/lang/invoke/VarHandle" ∧ (parseMethodDescriptor M.1.desc).map (fun d => d.parameters.length) = some n) ∧ M.2.2.1 ≤ 21 ∧ M.1.cls = M.2.2.2.2
def MKS (M : MD) (n : Nat) : Prop := Cond.code M.1 M.2.1 M.2.2.1 M.2.2.2.1 ∈ wsL_law ∧ Cond.initialized M.2.2.2.2 ∈ wsL_law ∧ Cond.static M.1 ∈ wsL_law ∧ (M.1.cls ≠ "java/lang/invoke/MethodHandle" ∧ M.1.cls ≠ "java/lang/invoke/VarHandle" ∧ (parseMethodDescriptor M.1.desc).map (fun d => d.parameters.length) = some n) ∧ M.2.2.1 ≤ 21 ∧ M.1.cls = M.2.2.2.2
def MKI (M : MD) (n : Nat) : Prop := Cond.code M.1 M.2.1 M.2.2.1 M.2.2.2.1 ∈ wsL_law ∧ Cond.initialized M.2.2.2.2 ∈ wsL_law ∧ Cond.instanceMethod M.1 ∈ wsL_law ∧ (M.1.cls ≠ "java/lang/invoke/MethodHandle" ∧ M.1.cls ≠ "java/lang/invoke/VarHandle" ∧ (parseMethodDescriptor M.1.desc).map (fun d => d.parameters.length) = some n) ∧ M.2.2.1 ≤ 21 ∧ M.1.cls = M.2.2.2.2
theorem goodL : GoodIn wsL_law wsL_law := fun w hw => ⟨hw, good_of_word (List.all_eq_true.mp (show wsL_law.all goodWord = true by decide +kernel) w hw)⟩
end
section
/-! METHODS AND LINKS (written by wip/whole/gen/meths.py) -/
theorem lk_r1 : ∀ w ∈ wsL_law_r1, w ∈ wsL_law := fun w h => List.mem_append_left _ (List.mem_append_left _ (List.mem_append_left _ (List.mem_append_left _ (List.mem_append_left _ (List.mem_append_left _ (List.mem_append_left _ (List.mem_append_left _ (List.mem_append_left _ (List.mem_append_left _ (List.mem_append_left _ (List.mem_append_left _ h)))))))))))
theorem lk_r2 : ∀ w ∈ wsL_law_r2, w ∈ wsL_law := fun w h => List.mem_append_left _ (List.mem_append_left _ (List.mem_append_left _ (List.mem_append_left _ (List.mem_append_left _ (List.mem_append_left _ (List.mem_append_left _ (List.mem_append_left _ (List.mem_append_left _ (List.mem_append_left _ (List.mem_append_left _ (List.mem_append_right _ (List.mem_append_left _ h))))))))))))
theorem lk_r3 : ∀ w ∈ wsL_law_r3, w ∈ wsL_law := fun w h => List.mem_append_left _ (List.mem_append_left _ (List.mem_append_left _ (List.mem_append_left _ (List.mem_append_left _ (List.mem_append_left _ (List.mem_append_left _ (List.mem_append_left _ (List.mem_append_left _ (List.mem_append_left _ (List.mem_append_left _ (List.mem_append_right _ (List.mem_append_right _ (List.mem_append_left _ h)))))))))))))
theorem lk_r4 : ∀ w ∈ wsL_law_r4, w ∈ wsL_law := fun w h => List.mem_append_left _ (List.mem_append_left _ (List.mem_append_left _ (List.mem_append_left _ (List.mem_append_left _ (List.mem_append_left _ (List.mem_append_left _ (List.mem_append_left _ (List.mem_append_left _ (List.mem_append_left _ (List.mem_append_left _ (List.mem_append_right _ (List.mem_append_right _ (List.mem_append_right _ (List.mem_append_left _ h))))))))))))))
theorem lk_r5 : ∀ w ∈ wsL_law_r5, w ∈ wsL_law := fun w h => List.mem_append_left _ (List.mem_append_left _ (List.mem_append_left _ (List.mem_append_left _ (List.mem_append_left _ (List.mem_append_left _ (List.mem_append_left _ (List.mem_append_left _ (List.mem_append_left _ (List.mem_append_left _ (List.mem_append_left _ (List.mem_append_right _ (List.mem_append_right _ (List.mem_append_right _ (List.mem_append_right _ (List.mem_append_left _ h)))))))))))))))
theorem lk_r6 : ∀ w ∈ wsL_law_r6, w ∈ wsL_law := fun w h => List.mem_append_left _ (List.mem_append_left _ (List.mem_append_left _ (List.mem_append_left _ (List.mem_append_left _ (List.mem_append_left _ (List.mem_append_left _ (List.mem_append_left _ (List.mem_append_left _ (List.mem_append_left _ (List.mem_append_left _ (List.mem_append_right _ (List.mem_append_right _ (List.mem_append_right _ (List.mem_append_right _ (List.mem_append_right _ (List.mem_append_left _ h))))))))))))))))
theorem lk_r7 : ∀ w ∈ wsL_law_r7, w ∈ wsL_law := fun w h => List.mem_append_left _ (List.mem_append_left _ (List.mem_append_left _ (List.mem_append_left _ (List.mem_append_left _ (List.mem_append_left _ (List.mem_append_left _ (List.mem_append_left _ (List.mem_append_left _ (List.mem_append_left _ (List.mem_append_left _ (List.mem_append_right _ (List.mem_append_right _ (List.mem_append_right _ (List.mem_append_right _ (List.mem_append_right _ (List.mem_append_right _ (List.mem_append_left _ h)))))))))))))))))
theorem lk_r8 : ∀ w ∈ wsL_law_r8, w ∈ wsL_law := fun w h => List.mem_append_left _ (List.mem_append_left _ (List.mem_append_left _ (List.mem_append_left _ (List.mem_append_left _ (List.mem_append_left _ (List.mem_append_left _ (List.mem_append_left _ (List.mem_append_left _ (List.mem_append_left _ (List.mem_append_left _ (List.mem_append_right _ (List.mem_append_right _ (List.mem_append_right _ (List.mem_append_right _ (List.mem_append_right _ (List.mem_append_right _ (List.mem_append_right _ (List.mem_append_left _ h))))))))))))))))))
theorem lk_r9 : ∀ w ∈ wsL_law_r9, w ∈ wsL_law := fun w h => List.mem_append_left _ (List.mem_append_left _ (List.mem_append_left _ (List.mem_append_left _ (List.mem_append_left _ (List.mem_append_left _ (List.mem_append_left _ (List.mem_append_left _ (List.mem_append_left _ (List.mem_append_left _ (List.mem_append_left _ (List.mem_append_right _ (List.mem_append_right _ (List.mem_append_right _ (List.mem_append_right _ (List.mem_append_right _ (List.mem_append_right _ (List.mem_append_right _ (List.mem_append_right _ (List.mem_append_left _ h)))))))))))))))))))
theorem lk_r10 : ∀ w ∈ wsL_law_r10, w ∈ wsL_law := fun w h => List.mem_append_left _ (List.mem_append_left _ (List.mem_append_left _ (List.mem_append_left _ (List.mem_append_left _ (List.mem_append_left _ (List.mem_append_left _ (List.mem_append_left _ (List.mem_append_left _ (List.mem_append_left _ (List.mem_append_left _ (List.mem_append_right _ (List.mem_append_right _ (List.mem_append_right _ (List.mem_append_right _ (List.mem_append_right _ (List.mem_append_right _ (List.mem_append_right _ (List.mem_append_right _ (List.mem_append_right _ (List.mem_append_left _ h))))))))))))))))))))
theorem lk_r11 : ∀ w ∈ wsL_law_r11, w ∈ wsL_law := fun w h => List.mem_append_left _ (List.mem_append_left _ (List.mem_append_left _ (List.mem_append_left _ (List.mem_append_left _ (List.mem_append_left _ (List.mem_append_left _ (List.mem_append_left _ (List.mem_append_left _ (List.mem_append_left _ (List.mem_append_left _ (List.mem_append_right _ (List.mem_append_right _ (List.mem_append_right _ (List.mem_append_right _ (List.mem_append_right _ (List.mem_append_right _ (List.mem_append_right _ (List.mem_append_right _ (List.mem_append_right _ (List.mem_append_right _ (List.mem_append_left _ h)))))))))))))))))))))
theorem lk_r12 : ∀ w ∈ wsL_law_r12, w ∈ wsL_law := fun w h => List.mem_append_left _ (List.mem_append_left _ (List.mem_append_left _ (List.mem_append_left _ (List.mem_append_left _ (List.mem_append_left _ (List.mem_append_left _ (List.mem_append_left _ (List.mem_append_left _ (List.mem_append_left _ (List.mem_append_left _ (List.mem_append_right _ (List.mem_append_right _ (List.mem_append_right _ (List.mem_append_right _ (List.mem_append_right _ (List.mem_append_right _ (List.mem_append_right _ (List.mem_append_right _ (List.mem_append_right _ (List.mem_append_right _ (List.mem_append_right _ (List.mem_append_left _ h))))))))))))))))))))))
theorem lk_r13 : ∀ w ∈ wsL_law_r13, w ∈ wsL_law := fun w h => List.mem_append_left _ (List.mem_append_left _ (List.mem_append_left _ (List.mem_append_left _ (List.mem_append_left _ (List.mem_append_left _ (List.mem_append_left _ (List.mem_append_left _ (List.mem_append_left _ (List.mem_append_left _ (List.mem_append_left _ (List.mem_append_right _ (List.mem_append_right _ (List.mem_append_right _ (List.mem_append_right _ (List.mem_append_right _ (List.mem_append_right _ (List.mem_append_right _ (List.mem_append_right _ (List.mem_append_right _ (List.mem_append_right _ (List.mem_append_right _ (List.mem_append_right _ (List.mem_append_left _ h)))))))))))))))))))))))
theorem lk_r14 : ∀ w ∈ wsL_law_r14, w ∈ wsL_law := fun w h => List.mem_append_left _ (List.mem_append_left _ (List.mem_append_left _ (List.mem_append_left _ (List.mem_append_left _ (List.mem_append_left _ (List.mem_append_left _ (List.mem_append_left _ (List.mem_append_left _ (List.mem_append_left _ (List.mem_append_left _ (List.mem_append_right _ (List.mem_append_right _ (List.mem_append_right _ (List.mem_append_right _ (List.mem_append_right _ (List.mem_append_right _ (List.mem_append_right _ (List.mem_append_right _ (List.mem_append_right _ (List.mem_append_right _ (List.mem_append_right _ (List.mem_append_right _ (List.mem_append_right _ (List.mem_append_left _ h))))))))))))))))))))))))
theorem lk_r15 : ∀ w ∈ wsL_law_r15, w ∈ wsL_law := fun w h => List.mem_append_left _ (List.mem_append_left _ (List.mem_append_left _ (List.mem_append_left _ (List.mem_append_left _ (List.mem_append_left _ (List.mem_append_left _ (List.mem_append_left _ (List.mem_append_left _ (List.mem_append_left _ (List.mem_append_left _ (List.mem_append_right _ (List.mem_append_right _ (List.mem_append_right _ (List.mem_append_right _ (List.mem_append_right _ (List.mem_append_right _ (List.mem_append_right _ (List.mem_append_right _ (List.mem_append_right _ (List.mem_append_right _ (List.mem_append_right _ (List.mem_append_right _ (List.mem_append_right _ (List.mem_append_right _ (List.mem_append_left _ h)))))))))))))))))))))))))
theorem lk_r16 : ∀ w ∈ wsL_law_r16, w ∈ wsL_law := fun w h => List.mem_append_left _ (List.mem_append_left _ (List.mem_append_left _ (List.mem_append_left _ (List.mem_append_left _ (List.mem_append_left _ (List.mem_append_left _ (List.mem_append_left _ (List.mem_append_left _ (List.mem_append_left _ (List.mem_append_left _ (List.mem_append_right _ (List.mem_append_right _ (List.mem_append_right _ (List.mem_append_right _ (List.mem_append_right _ (List.mem_append_right _ (List.mem_append_right _ (List.mem_append_right _ (List.mem_append_right _ (List.mem_append_right _ (List.mem_append_right _ (List.mem_append_right _ (List.mem_append_right _ (List.mem_append_right _ (List.mem_append_right _ (List.mem_append_left _ h))))))))))))))))))))))))))
theorem lk_r17 : ∀ w ∈ wsL_law_r17, w ∈ wsL_law := fun w h => List.mem_append_left _ (List.mem_append_left _ (List.mem_append_left _ (List.mem_append_left _ (List.mem_append_left _ (List.mem_append_left _ (List.mem_append_left _ (List.mem_append_left _ (List.mem_append_left _ (List.mem_append_left _ (List.mem_append_left _ (List.mem_append_right _ (List.mem_append_right _ (List.mem_append_right _ (List.mem_append_right _ (List.mem_append_right _ (List.mem_append_right _ (List.mem_append_right _ (List.mem_append_right _ (List.mem_append_right _ (List.mem_append_right _ (List.mem_append_right _ (List.mem_append_right _ (List.mem_append_right _ (List.mem_append_right _ (List.mem_append_right _ (List.mem_append_right _ (List.mem_append_left _ h)))))))))))))))))))))))))))
theorem lk_r18 : ∀ w ∈ wsL_law_r18, w ∈ wsL_law := fun w h => List.mem_append_left _ (List.mem_append_left _ (List.mem_append_left _ (List.mem_append_left _ (List.mem_append_left _ (List.mem_append_left _ (List.mem_append_left _ (List.mem_append_left _ (List.mem_append_left _ (List.mem_append_left _ (List.mem_append_left _ (List.mem_append_right _ (List.mem_append_right _ (List.mem_append_right _ (List.mem_append_right _ (List.mem_append_right _ (List.mem_append_right _ (List.mem_append_right _ (List.mem_append_right _ (List.mem_append_right _ (List.mem_append_right _ (List.mem_append_right _ (List.mem_append_right _ (List.mem_append_right _ (List.mem_append_right _ (List.mem_append_right _ (List.mem_append_right _ (List.mem_append_right _ (List.mem_append_left _ h))))))))))))))))))))))))))))
theorem lk_r19 : ∀ w ∈ wsL_law_r19, w ∈ wsL_law := fun w h => List.mem_append_left _ (List.mem_append_left _ (List.mem_append_left _ (List.mem_append_left _ (List.mem_append_left _ (List.mem_append_left _ (List.mem_append_left _ (List.mem_append_left _ (List.mem_append_left _ (List.mem_append_left _ (List.mem_append_left _ (List.mem_append_right _ (List.mem_append_right _ (List.mem_append_right _ (List.mem_append_right _ (List.mem_append_right _ (List.mem_append_right _ (List.mem_append_right _ (List.mem_append_right _ (List.mem_append_right _ (List.mem_append_right _ (List.mem_append_right _ (List.mem_append_right _ (List.mem_append_right _ (List.mem_append_right _ (List.mem_append_right _ (List.mem_append_right _ (List.mem_append_right _ (List.mem_append_right _ (List.mem_append_left _ h)))))))))))))))))))))))))))))
theorem lk_r20 : ∀ w ∈ wsL_law_r20, w ∈ wsL_law := fun w h => List.mem_append_left _ (List.mem_append_left _ (List.mem_append_left _ (List.mem_append_left _ (List.mem_append_left _ (List.mem_append_left _ (List.mem_append_left _ (List.mem_append_left _ (List.mem_append_left _ (List.mem_append_left _ (List.mem_append_left _ (List.mem_append_right _ (List.mem_append_right _ (List.mem_append_right _ (List.mem_append_right _ (List.mem_append_right _ (List.mem_append_right _ (List.mem_append_right _ (List.mem_append_right _ (List.mem_append_right _ (List.mem_append_right _ (List.mem_append_right _ (List.mem_append_right _ (List.mem_append_right _ (List.mem_append_right _ (List.mem_append_right _ (List.mem_append_right _ (List.mem_append_right _ (List.mem_append_right _ (List.mem_append_right _ (List.mem_append_left _ h))))))))))))))))))))))))))))))
theorem lk_r21 : ∀ w ∈ wsL_law_r21, w ∈ wsL_law := fun w h => List.mem_append_left _ (List.mem_append_left _ (List.mem_append_left _ (List.mem_append_left _ (List.mem_append_left _ (List.mem_append_left _ (List.mem_append_left _ (List.mem_append_left _ (List.mem_append_left _ (List.mem_append_left _ (List.mem_append_left _ (List.mem_append_right _ (List.mem_append_right _ (List.mem_append_right _ (List.mem_append_right _ (List.mem_append_right _ (List.mem_append_right _ (List.mem_append_right _ (List.mem_append_right _ (List.mem_append_right _ (List.mem_append_right _ (List.mem_append_right _ (List.mem_append_right _ (List.mem_append_right _ (List.mem_append_right _ (List.mem_append_right _ (List.mem_append_right _ (List.mem_append_right _ (List.mem_append_right _ (List.mem_append_right _ (List.mem_append_right _ (List.mem_append_left _ h)))))))))))))))))))))))))))))))
theorem lk_r22 : ∀ w ∈ wsL_law_r22, w ∈ wsL_law := fun w h => List.mem_append_left _ (List.mem_append_left _ (List.mem_append_left _ (List.mem_append_left _ (List.mem_append_left _ (List.mem_append_left _ (List.mem_append_left _ (List.mem_append_left _ (List.mem_append_left _ (List.mem_append_left _ (List.mem_append_left _ (List.mem_append_right _ (List.mem_append_right _ (List.mem_append_right _ (List.mem_append_right _ (List.mem_append_right _ (List.mem_append_right _ (List.mem_append_right _ (List.mem_append_right _ (List.mem_append_right _ (List.mem_append_right _ (List.mem_append_right _ (List.mem_append_right _ (List.mem_append_right _ (List.mem_append_right _ (List.mem_append_right _ (List.mem_append_right _ (List.mem_append_right _ (List.mem_append_right _ (List.mem_append_right _ (List.mem_append_right _ (List.mem_append_right _ (List.mem_append_left _ h))))))))))))))))))))))))))))))))
theorem lk_r23 : ∀ w ∈ wsL_law_r23, w ∈ wsL_law := fun w h => List.mem_append_left _ (List.mem_append_left _ (List.mem_append_left _ (List.mem_append_left _ (List.mem_append_left _ (List.mem_append_left _ (List.mem_append_left _ (List.mem_append_left _ (List.mem_append_left _ (List.mem_append_left _ (List.mem_append_left _ (List.mem_append_right _ (List.mem_append_right _ (List.mem_append_right _ (List.mem_append_right _ (List.mem_append_right _ (List.mem_append_right _ (List.mem_append_right _ (List.mem_append_right _ (List.mem_append_right _ (List.mem_append_right _ (List.mem_append_right _ (List.mem_append_right _ (List.mem_append_right _ (List.mem_append_right _ (List.mem_append_right _ (List.mem_append_right _ (List.mem_append_right _ (List.mem_append_right _ (List.mem_append_right _ (List.mem_append_right _ (List.mem_append_right _ (List.mem_append_right _ (List.mem_append_left _ h)))))))))))))))))))))))))))))))))
theorem lk_r24 : ∀ w ∈ wsL_law_r24, w ∈ wsL_law := fun w h => List.mem_append_left _ (List.mem_append_left _ (List.mem_append_left _ (List.mem_append_left _ (List.mem_append_left _ (List.mem_append_left _ (List.mem_append_left _ (List.mem_append_left _ (List.mem_append_left _ (List.mem_append_left _ (List.mem_append_left _ (List.mem_append_right _ (List.mem_append_right _ (List.mem_append_right _ (List.mem_append_right _ (List.mem_append_right _ (List.mem_append_right _ (List.mem_append_right _ (List.mem_append_right _ (List.mem_append_right _ (List.mem_append_right _ (List.mem_append_right _ (List.mem_append_right _ (List.mem_append_right _ (List.mem_append_right _ (List.mem_append_right _ (List.mem_append_right _ (List.mem_append_right _ (List.mem_append_right _ (List.mem_append_right _ (List.mem_append_right _ (List.mem_append_right _ (List.mem_append_right _ (List.mem_append_right _ (List.mem_append_left _ h))))))))))))))))))))))))))))))))))
theorem lk_r25 : ∀ w ∈ wsL_law_r25, w ∈ wsL_law := fun w h => List.mem_append_left _ (List.mem_append_left _ (List.mem_append_left _ (List.mem_append_left _ (List.mem_append_left _ (List.mem_append_left _ (List.mem_append_left _ (List.mem_append_left _ (List.mem_append_left _ (List.mem_append_left _ (List.mem_append_left _ (List.mem_append_right _ (List.mem_append_right _ (List.mem_append_right _ (List.mem_append_right _ (List.mem_append_right _ (List.mem_append_right _ (List.mem_append_right _ (List.mem_append_right _ (List.mem_append_right _ (List.mem_append_right _ (List.mem_append_right _ (List.mem_append_right _ (List.mem_append_right _ (List.mem_append_right _ (List.mem_append_right _ (List.mem_append_right _ (List.mem_append_right _ (List.mem_append_right _ (List.mem_append_right _ (List.mem_append_right _ (List.mem_append_right _ (List.mem_append_right _ (List.mem_append_right _ (List.mem_append_right _ (List.mem_append_left _ h)))))))))))))))))))))))))))))))))))
theorem lk_r26 : ∀ w ∈ wsL_law_r26, w ∈ wsL_law := fun w h => List.mem_append_left _ (List.mem_append_left _ (List.mem_append_left _ (List.mem_append_left _ (List.mem_append_left _ (List.mem_append_left _ (List.mem_append_left _ (List.mem_append_left _ (List.mem_append_left _ (List.mem_append_left _ (List.mem_append_left _ (List.mem_append_right _ (List.mem_append_right _ (List.mem_append_right _ (List.mem_append_right _ (List.mem_append_right _ (List.mem_append_right _ (List.mem_append_right _ (List.mem_append_right _ (List.mem_append_right _ (List.mem_append_right _ (List.mem_append_right _ (List.mem_append_right _ (List.mem_append_right _ (List.mem_append_right _ (List.mem_append_right _ (List.mem_append_right _ (List.mem_append_right _ (List.mem_append_right _ (List.mem_append_right _ (List.mem_append_right _ (List.mem_append_right _ (List.mem_append_right _ (List.mem_append_right _ (List.mem_append_right _ (List.mem_append_right _ (List.mem_append_left _ h))))))))))))))))))))))))))))))))))))
theorem lk_r27 : ∀ w ∈ wsL_law_r27, w ∈ wsL_law := fun w h => List.mem_append_left _ (List.mem_append_left _ (List.mem_append_left _ (List.mem_append_left _ (List.mem_append_left _ (List.mem_append_left _ (List.mem_append_left _ (List.mem_append_left _ (List.mem_append_left _ (List.mem_append_left _ (List.mem_append_left _ (List.mem_append_right _ (List.mem_append_right _ (List.mem_append_right _ (List.mem_append_right _ (List.mem_append_right _ (List.mem_append_right _ (List.mem_append_right _ (List.mem_append_right _ (List.mem_append_right _ (List.mem_append_right _ (List.mem_append_right _ (List.mem_append_right _ (List.mem_append_right _ (List.mem_append_right _ (List.mem_append_right _ (List.mem_append_right _ (List.mem_append_right _ (List.mem_append_right _ (List.mem_append_right _ (List.mem_append_right _ (List.mem_append_right _ (List.mem_append_right _ (List.mem_append_right _ (List.mem_append_right _ (List.mem_append_right _ (List.mem_append_right _ (List.mem_append_left _ h)))))))))))))))))))))))))))))))))))))
theorem lk_r28 : ∀ w ∈ wsL_law_r28, w ∈ wsL_law := fun w h => List.mem_append_left _ (List.mem_append_left _ (List.mem_append_left _ (List.mem_append_left _ (List.mem_append_left _ (List.mem_append_left _ (List.mem_append_left _ (List.mem_append_left _ (List.mem_append_left _ (List.mem_append_left _ (List.mem_append_left _ (List.mem_append_right _ (List.mem_append_right _ (List.mem_append_right _ (List.mem_append_right _ (List.mem_append_right _ (List.mem_append_right _ (List.mem_append_right _ (List.mem_append_right _ (List.mem_append_right _ (List.mem_append_right _ (List.mem_append_right _ (List.mem_append_right _ (List.mem_append_right _ (List.mem_append_right _ (List.mem_append_right _ (List.mem_append_right _ (List.mem_append_right _ (List.mem_append_right _ (List.mem_append_right _ (List.mem_append_right _ (List.mem_append_right _ (List.mem_append_right _ (List.mem_append_right _ (List.mem_append_right _ (List.mem_append_right _ (List.mem_append_right _ (List.mem_append_right _ (List.mem_append_left _ h))))))))))))))))))))))))))))))))))))))
theorem lk_r29 : ∀ w ∈ wsL_law_r29, w ∈ wsL_law := fun w h => List.mem_append_left _ (List.mem_append_left _ (List.mem_append_left _ (List.mem_append_left _ (List.mem_append_left _ (List.mem_append_left _ (List.mem_append_left _ (List.mem_append_left _ (List.mem_append_left _ (List.mem_append_left _ (List.mem_append_left _ (List.mem_append_right _ (List.mem_append_right _ (List.mem_append_right _ (List.mem_append_right _ (List.mem_append_right _ (List.mem_append_right _ (List.mem_append_right _ (List.mem_append_right _ (List.mem_append_right _ (List.mem_append_right _ (List.mem_append_right _ (List.mem_append_right _ (List.mem_append_right _ (List.mem_append_right _ (List.mem_append_right _ (List.mem_append_right _ (List.mem_append_right _ (List.mem_append_right _ (List.mem_append_right _ (List.mem_append_right _ (List.mem_append_right _ (List.mem_append_right _ (List.mem_append_right _ (List.mem_append_right _ (List.mem_append_right _ (List.mem_append_right _ (List.mem_append_right _ (List.mem_append_right _ (List.mem_append_left _ h)))))))))))))))))))))))))))))))))))))))
theorem lk_r30 : ∀ w ∈ wsL_law_r30, w ∈ wsL_law := fun w h => List.mem_append_left _ (List.mem_append_left _ (List.mem_append_left _ (List.mem_append_left _ (List.mem_append_left _ (List.mem_append_left _ (List.mem_append_left _ (List.mem_append_left _ (List.mem_append_left _ (List.mem_append_left _ (List.mem_append_left _ (List.mem_append_right _ (List.mem_append_right _ (List.mem_append_right _ (List.mem_append_right _ (List.mem_append_right _ (List.mem_append_right _ (List.mem_append_right _ (List.mem_append_right _ (List.mem_append_right _ (List.mem_append_right _ (List.mem_append_right _ (List.mem_append_right _ (List.mem_append_right _ (List.mem_append_right _ (List.mem_append_right _ (List.mem_append_right _ (List.mem_append_right _ (List.mem_append_right _ (List.mem_append_right _ (List.mem_append_right _ (List.mem_append_right _ (List.mem_append_right _ (List.mem_append_right _ (List.mem_append_right _ (List.mem_append_right _ (List.mem_append_right _ (List.mem_append_right _ (List.mem_append_right _ (List.mem_append_right _ (List.mem_append_left _ h))))))))))))))))))))))))))))))))))))))))
theorem lk_r31 : ∀ w ∈ wsL_law_r31, w ∈ wsL_law := fun w h => List.mem_append_left _ (List.mem_append_left _ (List.mem_append_left _ (List.mem_append_left _ (List.mem_append_left _ (List.mem_append_left _ (List.mem_append_left _ (List.mem_append_left _ (List.mem_append_left _ (List.mem_append_left _ (List.mem_append_left _ (List.mem_append_right _ (List.mem_append_right _ (List.mem_append_right _ (List.mem_append_right _ (List.mem_append_right _ (List.mem_append_right _ (List.mem_append_right _ (List.mem_append_right _ (List.mem_append_right _ (List.mem_append_right _ (List.mem_append_right _ (List.mem_append_right _ (List.mem_append_right _ (List.mem_append_right _ (List.mem_append_right _ (List.mem_append_right _ (List.mem_append_right _ (List.mem_append_right _ (List.mem_append_right _ (List.mem_append_right _ (List.mem_append_right _ (List.mem_append_right _ (List.mem_append_right _ (List.mem_append_right _ (List.mem_append_right _ (List.mem_append_right _ (List.mem_append_right _ (List.mem_append_right _ (List.mem_append_right _ (List.mem_append_right _ (List.mem_append_left _ h)))))))))))))))))))))))))))))))))))))))))
theorem lk_r32 : ∀ w ∈ wsL_law_r32, w ∈ wsL_law := fun w h => List.mem_append_left _ (List.mem_append_left _ (List.mem_append_left _ (List.mem_append_left _ (List.mem_append_left _ (List.mem_append_left _ (List.mem_append_left _ (List.mem_append_left _ (List.mem_append_left _ (List.mem_append_left _ (List.mem_append_left _ (List.mem_append_right _ (List.mem_append_right _ (List.mem_append_right _ (List.mem_append_right _ (List.mem_append_right _ (List.mem_append_right _ (List.mem_append_right _ (List.mem_append_right _ (List.mem_append_right _ (List.mem_append_right _ (List.mem_append_right _ (List.mem_append_right _ (List.mem_append_right _ (List.mem_append_right _ (List.mem_append_right _ (List.mem_append_right _ (List.mem_append_right _ (List.mem_append_right _ (List.mem_append_right _ (List.mem_append_right _ (List.mem_append_right _ (List.mem_append_right _ (List.mem_append_right _ (List.mem_append_right _ (List.mem_append_right _ (List.mem_append_right _ (List.mem_append_right _ (List.mem_append_right _ (List.mem_append_right _ (List.mem_append_right _ (List.mem_append_right _ (List.mem_append_left _ h))))))))))))))))))))))))))))))))))))))))))
theorem lk_r33 : ∀ w ∈ wsL_law_r33, w ∈ wsL_law := fun w h => List.mem_append_left _ (List.mem_append_left _ (List.mem_append_left _ (List.mem_append_left _ (List.mem_append_left _ (List.mem_append_left _ (List.mem_append_left _ (List.mem_append_left _ (List.mem_append_left _ (List.mem_append_left _ (List.mem_append_left _ (List.mem_append_right _ (List.mem_append_right _ (List.mem_append_right _ (List.mem_append_right _ (List.mem_append_right _ (List.mem_append_right _ (List.mem_append_right _ (List.mem_append_right _ (List.mem_append_right _ (List.mem_append_right _ (List.mem_append_right _ (List.mem_append_right _ (List.mem_append_right _ (List.mem_append_right _ (List.mem_append_right _ (List.mem_append_right _ (List.mem_append_right _ (List.mem_append_right _ (List.mem_append_right _ (List.mem_append_right _ (List.mem_append_right _ (List.mem_append_right _ (List.mem_append_right _ (List.mem_append_right _ (List.mem_append_right _ (List.mem_append_right _ (List.mem_append_right _ (List.mem_append_right _ (List.mem_append_right _ (List.mem_append_right _ (List.mem_append_right _ (List.mem_append_right _ (List.mem_append_left _ h)))))))))))))))))))))))))))))))))))))))))))
theorem lk_r34 : ∀ w ∈ wsL_law_r34, w ∈ wsL_law := fun w h => List.mem_append_left _ (List.mem_append_left _ (List.mem_append_left _ (List.mem_append_left _ (List.mem_append_left _ (List.mem_append_left _ (List.mem_append_left _ (List.mem_append_left _ (List.mem_append_left _ (List.mem_append_left _ (List.mem_append_left _ (List.mem_append_right _ (List.mem_append_right _ (List.mem_append_right _ (List.mem_append_right _ (List.mem_append_right _ (List.mem_append_right _ (List.mem_append_right _ (List.mem_append_right _ (List.mem_append_right _ (List.mem_append_right _ (List.mem_append_right _ (List.mem_append_right _ (List.mem_append_right _ (List.mem_append_right _ (List.mem_append_right _ (List.mem_append_right _ (List.mem_append_right _ (List.mem_append_right _ (List.mem_append_right _ (List.mem_append_right _ (List.mem_append_right _ (List.mem_append_right _ (List.mem_append_right _ (List.mem_append_right _ (List.mem_append_right _ (List.mem_append_right _ (List.mem_append_right _ (List.mem_append_right _ (List.mem_append_right _ (List.mem_append_right _ (List.mem_append_right _ (List.mem_append_right _ (List.mem_append_right _ (List.mem_append_left _ h))))))))))))))))))))))))))))))))))))))))))))
theorem lk_r35 : ∀ w ∈ wsL_law_r35, w ∈ wsL_law := fun w h => List.mem_append_left _ (List.mem_append_left _ (List.mem_append_left _ (List.mem_append_left _ (List.mem_append_left _ (List.mem_append_left _ (List.mem_append_left _ (List.mem_append_left _ (List.mem_append_left _ (List.mem_append_left _ (List.mem_append_left _ (List.mem_append_right _ (List.mem_append_right _ (List.mem_append_right _ (List.mem_append_right _ (List.mem_append_right _ (List.mem_append_right _ (List.mem_append_right _ (List.mem_append_right _ (List.mem_append_right _ (List.mem_append_right _ (List.mem_append_right _ (List.mem_append_right _ (List.mem_append_right _ (List.mem_append_right _ (List.mem_append_right _ (List.mem_append_right _ (List.mem_append_right _ (List.mem_append_right _ (List.mem_append_right _ (List.mem_append_right _ (List.mem_append_right _ (List.mem_append_right _ (List.mem_append_right _ (List.mem_append_right _ (List.mem_append_right _ (List.mem_append_right _ (List.mem_append_right _ (List.mem_append_right _ (List.mem_append_right _ (List.mem_append_right _ (List.mem_append_right _ (List.mem_append_right _ (List.mem_append_right _ (List.mem_append_right _ (List.mem_append_left _ h)))))))))))))))))))))))))))))))))))))))))))))
theorem lk_r36 : ∀ w ∈ wsL_law_r36, w ∈ wsL_law := fun w h => List.mem_append_left _ (List.mem_append_left _ (List.mem_append_left _ (List.mem_append_left _ (List.mem_append_left _ (List.mem_append_left _ (List.mem_append_left _ (List.mem_append_left _ (List.mem_append_left _ (List.mem_append_left _ (List.mem_append_left _ (List.mem_append_right _ (List.mem_append_right _ (List.mem_append_right _ (List.mem_append_right _ (List.mem_append_right _ (List.mem_append_right _ (List.mem_append_right _ (List.mem_append_right _ (List.mem_append_right _ (List.mem_append_right _ (List.mem_append_right _ (List.mem_append_right _ (List.mem_append_right _ (List.mem_append_right _ (List.mem_append_right _ (List.mem_append_right _ (List.mem_append_right _ (List.mem_append_right _ (List.mem_append_right _ (List.mem_append_right _ (List.mem_append_right _ (List.mem_append_right _ (List.mem_append_right _ (List.mem_append_right _ (List.mem_append_right _ (List.mem_append_right _ (List.mem_append_right _ (List.mem_append_right _ (List.mem_append_right _ (List.mem_append_right _ (List.mem_append_right _ (List.mem_append_right _ (List.mem_append_right _ (List.mem_append_right _ (List.mem_append_right _ (List.mem_append_left _ h))))))))))))))))))))))))))))))))))))))))))))))
theorem lk_r37 : ∀ w ∈ wsL_law_r37, w ∈ wsL_law := fun w h => List.mem_append_left _ (List.mem_append_left _ (List.mem_append_left _ (List.mem_append_left _ (List.mem_append_left _ (List.mem_append_left _ (List.mem_append_left _ (List.mem_append_left _ (List.mem_append_left _ (List.mem_append_left _ (List.mem_append_left _ (List.mem_append_right _ (List.mem_append_right _ (List.mem_append_right _ (List.mem_append_right _ (List.mem_append_right _ (List.mem_append_right _ (List.mem_append_right _ (List.mem_append_right _ (List.mem_append_right _ (List.mem_append_right _ (List.mem_append_right _ (List.mem_append_right _ (List.mem_append_right _ (List.mem_append_right _ (List.mem_append_right _ (List.mem_append_right _ (List.mem_append_right _ (List.mem_append_right _ (List.mem_append_right _ (List.mem_append_right _ (List.mem_append_right _ (List.mem_append_right _ (List.mem_append_right _ (List.mem_append_right _ (List.mem_append_right _ (List.mem_append_right _ (List.mem_append_right _ (List.mem_append_right _ (List.mem_append_right _ (List.mem_append_right _ (List.mem_append_right _ (List.mem_append_right _ (List.mem_append_right _ (List.mem_append_right _ (List.mem_append_right _ (List.mem_append_right _ (List.mem_append_left _ h)))))))))))))))))))))))))))))))))))))))))))))))
theorem lk_r38 : ∀ w ∈ wsL_law_r38, w ∈ wsL_law := fun w h => List.mem_append_left _ (List.mem_append_left _ (List.mem_append_left _ (List.mem_append_left _ (List.mem_append_left _ (List.mem_append_left _ (List.mem_append_left _ (List.mem_append_left _ (List.mem_append_left _ (List.mem_append_left _ (List.mem_append_left _ (List.mem_append_right _ (List.mem_append_right _ (List.mem_append_right _ (List.mem_append_right _ (List.mem_append_right _ (List.mem_append_right _ (List.mem_append_right _ (List.mem_append_right _ (List.mem_append_right _ (List.mem_append_right _ (List.mem_append_right _ (List.mem_append_right _ (List.mem_append_right _ (List.mem_append_right _ (List.mem_append_right _ (List.mem_append_right _ (List.mem_append_right _ (List.mem_append_right _ (List.mem_append_right _ (List.mem_append_right _ (List.mem_append_right _ (List.mem_append_right _ (List.mem_append_right _ (List.mem_append_right _ (List.mem_append_right _ (List.mem_append_right _ (List.mem_append_right _ (List.mem_append_right _ (List.mem_append_right _ (List.mem_append_right _ (List.mem_append_right _ (List.mem_append_right _ (List.mem_append_right _ (List.mem_append_right _ (List.mem_append_right _ (List.mem_append_right _ (List.mem_append_right _ (List.mem_append_left _ h))))))))))))))))))))))))))))))))))))))))))))))))
theorem lk_r39 : ∀ w ∈ wsL_law_r39, w ∈ wsL_law := fun w h => List.mem_append_left _ (List.mem_append_left _ (List.mem_append_left _ (List.mem_append_left _ (List.mem_append_left _ (List.mem_append_left _ (List.mem_append_left _ (List.mem_append_left _ (List.mem_append_left _ (List.mem_append_left _ (List.mem_append_left _ (List.mem_append_right _ (List.mem_append_right _ (List.mem_append_right _ (List.mem_append_right _ (List.mem_append_right _ (List.mem_append_right _ (List.mem_append_right _ (List.mem_append_right _ (List.mem_append_right _ (List.mem_append_right _ (List.mem_append_right _ (List.mem_append_right _ (List.mem_append_right _ (List.mem_append_right _ (List.mem_append_right _ (List.mem_append_right _ (List.mem_append_right _ (List.mem_append_right _ (List.mem_append_right _ (List.mem_append_right _ (List.mem_append_right _ (List.mem_append_right _ (List.mem_append_right _ (List.mem_append_right _ (List.mem_append_right _ (List.mem_append_right _ (List.mem_append_right _ (List.mem_append_right _ (List.mem_append_right _ (List.mem_append_right _ (List.mem_append_right _ (List.mem_append_right _ (List.mem_append_right _ (List.mem_append_right _ (List.mem_append_right _ (List.mem_append_right _ (List.mem_append_right _ (List.mem_append_right _ (List.mem_append_left _ h)))))))))))))))))))))))))))))))))))))))))))))))))
theorem lk_r40 : ∀ w ∈ wsL_law_r40, w ∈ wsL_law := fun w h => List.mem_append_left _ (List.mem_append_left _ (List.mem_append_left _ (List.mem_append_left _ (List.mem_append_left _ (List.mem_append_left _ (List.mem_append_left _ (List.mem_append_left _ (List.mem_append_left _ (List.mem_append_left _ (List.mem_append_left _ (List.mem_append_right _ (List.mem_append_right _ (List.mem_append_right _ (List.mem_append_right _ (List.mem_append_right _ (List.mem_append_right _ (List.mem_append_right _ (List.mem_append_right _ (List.mem_append_right _ (List.mem_append_right _ (List.mem_append_right _ (List.mem_append_right _ (List.mem_append_right _ (List.mem_append_right _ (List.mem_append_right _ (List.mem_append_right _ (List.mem_append_right _ (List.mem_append_right _ (List.mem_append_right _ (List.mem_append_right _ (List.mem_append_right _ (List.mem_append_right _ (List.mem_append_right _ (List.mem_append_right _ (List.mem_append_right _ (List.mem_append_right _ (List.mem_append_right _ (List.mem_append_right _ (List.mem_append_right _ (List.mem_append_right _ (List.mem_append_right _ (List.mem_append_right _ (List.mem_append_right _ (List.mem_append_right _ (List.mem_append_right _ (List.mem_append_right _ (List.mem_append_right _ (List.mem_append_right _ (List.mem_append_right _ (List.mem_append_left _ h))))))))))))))))))))))))))))))))))))))))))))))))))
theorem lk_r41 : ∀ w ∈ wsL_law_r41, w ∈ wsL_law := fun w h => List.mem_append_left _ (List.mem_append_left _ (List.mem_append_left _ (List.mem_append_left _ (List.mem_append_left _ (List.mem_append_left _ (List.mem_append_left _ (List.mem_append_left _ (List.mem_append_left _ (List.mem_append_left _ (List.mem_append_left _ (List.mem_append_right _ (List.mem_append_right _ (List.mem_append_right _ (List.mem_append_right _ (List.mem_append_right _ (List.mem_append_right _ (List.mem_append_right _ (List.mem_append_right _ (List.mem_append_right _ (List.mem_append_right _ (List.mem_append_right _ (List.mem_append_right _ (List.mem_append_right _ (List.mem_append_right _ (List.mem_append_right _ (List.mem_append_right _ (List.mem_append_right _ (List.mem_append_right _ (List.mem_append_right _ (List.mem_append_right _ (List.mem_append_right _ (List.mem_append_right _ (List.mem_append_right _ (List.mem_append_right _ (List.mem_append_right _ (List.mem_append_right _ (List.mem_append_right _ (List.mem_append_right _ (List.mem_append_right _ (List.mem_append_right _ (List.mem_append_right _ (List.mem_append_right _ (List.mem_append_right _ (List.mem_append_right _ (List.mem_append_right _ (List.mem_append_right _ (List.mem_append_right _ (List.mem_append_right _ (List.mem_append_right _ (List.mem_append_right _ (List.mem_append_left _ h)))))))))))))))))))))))))))))))))))))))))))))))))))
theorem lk_r42 : ∀ w ∈ wsL_law_r42, w ∈ wsL_law := fun w h => List.mem_append_left _ (List.mem_append_left _ (List.mem_append_left _ (List.mem_append_left _ (List.mem_append_left _ (List.mem_append_left _ (List.mem_append_left _ (List.mem_append_left _ (List.mem_append_left _ (List.mem_append_left _ (List.mem_append_left _ (List.mem_append_right _ (List.mem_append_right _ (List.mem_append_right _ (List.mem_append_right _ (List.mem_append_right _ (List.mem_append_right _ (List.mem_append_right _ (List.mem_append_right _ (List.mem_append_right _ (List.mem_append_right _ (List.mem_append_right _ (List.mem_append_right _ (List.mem_append_right _ (List.mem_append_right _ (List.mem_append_right _ (List.mem_append_right _ (List.mem_append_right _ (List.mem_append_right _ (List.mem_append_right _ (List.mem_append_right _ (List.mem_append_right _ (List.mem_append_right _ (List.mem_append_right _ (List.mem_append_right _ (List.mem_append_right _ (List.mem_append_right _ (List.mem_append_right _ (List.mem_append_right _ (List.mem_append_right _ (List.mem_append_right _ (List.mem_append_right _ (List.mem_append_right _ (List.mem_append_right _ (List.mem_append_right _ (List.mem_append_right _ (List.mem_append_right _ (List.mem_append_right _ (List.mem_append_right _ (List.mem_append_right _ (List.mem_append_right _ (List.mem_append_right _ (List.mem_append_left _ h))))))))))))))))))))))))))))))))))))))))))))))))))))
theorem lk_r43 : ∀ w ∈ wsL_law_r43, w ∈ wsL_law := fun w h => List.mem_append_left _ (List.mem_append_left _ (List.mem_append_left _ (List.mem_append_left _ (List.mem_append_left _ (List.mem_append_left _ (List.mem_append_left _ (List.mem_append_left _ (List.mem_append_left _ (List.mem_append_left _ (List.mem_append_left _ (List.mem_append_right _ (List.mem_append_right _ (List.mem_append_right _ (List.mem_append_right _ (List.mem_append_right _ (List.mem_append_right _ (List.mem_append_right _ (List.mem_append_right _ (List.mem_append_right _ (List.mem_append_right _ (List.mem_append_right _ (List.mem_append_right _ (List.mem_append_right _ (List.mem_append_right _ (List.mem_append_right _ (List.mem_append_right _ (List.mem_append_right _ (List.mem_append_right _ (List.mem_append_right _ (List.mem_append_right _ (List.mem_append_right _ (List.mem_append_right _ (List.mem_append_right _ (List.mem_append_right _ (List.mem_append_right _ (List.mem_append_right _ (List.mem_append_right _ (List.mem_append_right _ (List.mem_append_right _ (List.mem_append_right _ (List.mem_append_right _ (List.mem_append_right _ (List.mem_append_right _ (List.mem_append_right _ (List.mem_append_right _ (List.mem_append_right _ (List.mem_append_right _ (List.mem_append_right _ (List.mem_append_right _ (List.mem_append_right _ (List.mem_append_right _ (List.mem_append_right _ (h)))))))))))))))))))))))))))))))))))))))))))))))))))))

abbrev mX8_init : MD := (yX8_init, cX8_init, 1, none, RX8)
theorem kmX8_init : MKI mX8_init 0 := ⟨(lk_r1 _ (List.mem_of_getElem? (i := 8) rfl)), (lk_r1 _ (List.mem_of_getElem? (i := 2) rfl)), (lk_r1 _ (List.mem_of_getElem? (i := 7) rfl)), by decide +kernel, by decide, rfl⟩
abbrev mX0_init : MD := (yX0_init, cX0_init, 1, none, RX0)
theorem kmX0_init : MKI mX0_init 0 := ⟨(lk_r3 _ (List.mem_of_getElem? (i := 4) rfl)), (lk_r1 _ (List.mem_of_getElem? (i := 14) rfl)), (lk_r3 _ (List.mem_of_getElem? (i := 3) rfl)), by decide +kernel, by decide, rfl⟩
abbrev mX2_init : MD := (yX2_init, cX2_init, 2, none, RX2)
theorem kmX2_init : MKI mX2_init 0 := ⟨(lk_r3 _ (List.mem_of_getElem? (i := 10) rfl)), (lk_r1 _ (List.mem_of_getElem? (i := 21) rfl)), (lk_r3 _ (List.mem_of_getElem? (i := 9) rfl)), by decide +kernel, by decide, rfl⟩
abbrev mX5_init : MD := (yX5_init, cX5_init, 2, none, RX5)
theorem kmX5_init : MKI mX5_init 0 := ⟨(lk_r3 _ (List.mem_of_getElem? (i := 17) rfl)), (lk_r2 _ (List.mem_of_getElem? (i := 1) rfl)), (lk_r3 _ (List.mem_of_getElem? (i := 16) rfl)), by decide +kernel, by decide, rfl⟩
abbrev mX7_init : MD := (yX7_init, cX7_init, 1, none, RX7)
theorem kmX7_init : MKI mX7_init 0 := ⟨(lk_r3 _ (List.mem_of_getElem? (i := 23) rfl)), (lk_r2 _ (List.mem_of_getElem? (i := 6) rfl)), (lk_r3 _ (List.mem_of_getElem? (i := 22) rfl)), by decide +kernel, by decide, rfl⟩
abbrev mX4_init : MD := (yX4_init, cX4_init, 1, none, RX4)
theorem kmX4_init : MKI mX4_init 0 := ⟨(lk_r4 _ (List.mem_of_getElem? (i := 6) rfl)), (lk_r2 _ (List.mem_of_getElem? (i := 10) rfl)), (lk_r4 _ (List.mem_of_getElem? (i := 5) rfl)), by decide +kernel, by decide, rfl⟩
abbrev mX1_init : MD := (yX1_init, cX1_init, 1, none, RX1)
theorem kmX1_init : MKI mX1_init 0 := ⟨(lk_r4 _ (List.mem_of_getElem? (i := 13) rfl)), (lk_r2 _ (List.mem_of_getElem? (i := 14) rfl)), (lk_r4 _ (List.mem_of_getElem? (i := 12) rfl)), by decide +kernel, by decide, rfl⟩
abbrev mX3_init : MD := (yX3_init, cX3_init, 2, none, RX3)
theorem kmX3_init : MKI mX3_init 0 := ⟨(lk_r4 _ (List.mem_of_getElem? (i := 18) rfl)), (lk_r2 _ (List.mem_of_getElem? (i := 18) rfl)), (lk_r4 _ (List.mem_of_getElem? (i := 17) rfl)), by decide +kernel, by decide, rfl⟩
abbrev mX6_init : MD := (yX6_init, cX6_init, 1, none, RX6)
theorem kmX6_init : MKI mX6_init 0 := ⟨(lk_r4 _ (List.mem_of_getElem? (i := 23) rfl)), (lk_r2 _ (List.mem_of_getElem? (i := 22) rfl)), (lk_r4 _ (List.mem_of_getElem? (i := 22) rfl)), by decide +kernel, by decide, rfl⟩
abbrev mX9_init : MD := (yX9_init, cX9_init, 2, none, RX9)
theorem kmX9_init : MKI mX9_init 0 := ⟨(lk_r5 _ (List.mem_of_getElem? (i := 7) rfl)), (lk_r1 _ (List.mem_of_getElem? (i := 5) rfl)), (lk_r5 _ (List.mem_of_getElem? (i := 6) rfl)), by decide +kernel, by decide, rfl⟩
abbrev mX8_bodies : MD := (yX8_bodies, cX8_bodies, 3, (some .int), RX8)
theorem kmX8_bodies : MKV mX8_bodies 1 := ⟨(lk_r6 _ (List.mem_of_getElem? (i := 15) rfl)), (lk_r1 _ (List.mem_of_getElem? (i := 2) rfl)), (lk_r6 _ (List.mem_of_getElem? (i := 13) rfl)), (lk_r6 _ (List.mem_of_getElem? (i := 14) rfl)), by decide +kernel, by decide, rfl⟩
abbrev mX0_empty : MD := (yX0_empty, cX0_empty, 3, none, RX0)
theorem kmX0_empty : MKV mX0_empty 1 := ⟨(lk_r6 _ (List.mem_of_getElem? (i := 19) rfl)), (lk_r1 _ (List.mem_of_getElem? (i := 14) rfl)), (lk_r6 _ (List.mem_of_getElem? (i := 17) rfl)), (lk_r6 _ (List.mem_of_getElem? (i := 18) rfl)), by decide +kernel, by decide, rfl⟩
abbrev mX2_forget : MD := (yX2_forget, cX2_forget, 1, none, RX2)
theorem kmX2_forget : MKV mX2_forget 0 := ⟨(lk_r6 _ (List.mem_of_getElem? (i := 23) rfl)), (lk_r1 _ (List.mem_of_getElem? (i := 21) rfl)), (lk_r6 _ (List.mem_of_getElem? (i := 21) rfl)), (lk_r6 _ (List.mem_of_getElem? (i := 22) rfl)), by decide +kernel, by decide, rfl⟩
abbrev mX9_bodies : MD := (yX9_bodies, cX9_bodies, 4, (some .int), RX9)
theorem kmX9_bodies : MKV mX9_bodies 1 := ⟨(lk_r7 _ (List.mem_of_getElem? (i := 4) rfl)), (lk_r1 _ (List.mem_of_getElem? (i := 5) rfl)), (lk_r7 _ (List.mem_of_getElem? (i := 2) rfl)), (lk_r7 _ (List.mem_of_getElem? (i := 3) rfl)), by decide +kernel, by decide, rfl⟩
abbrev mX9_in : MD := (yX9_in, cX9_in, 3, (some .boolean), RX9)
theorem kmX9_in : MKS mX9_in 3 := ⟨(lk_r7 _ (List.mem_of_getElem? (i := 8) rfl)), (lk_r1 _ (List.mem_of_getElem? (i := 5) rfl)), (lk_r7 _ (List.mem_of_getElem? (i := 7) rfl)), by decide +kernel, by decide, rfl⟩
abbrev mX8_make : MD := (yX8_make, cX8_make, 2, (some .int), RX8)
theorem kmX8_make : MKV mX8_make 1 := ⟨(lk_r7 _ (List.mem_of_getElem? (i := 12) rfl)), (lk_r1 _ (List.mem_of_getElem? (i := 2) rfl)), (lk_r7 _ (List.mem_of_getElem? (i := 10) rfl)), (lk_r7 _ (List.mem_of_getElem? (i := 11) rfl)), by decide +kernel, by decide, rfl⟩
abbrev mX2_note : MD := (yX2_note, cX2_note, 2, none, RX2)
theorem kmX2_note : MKV mX2_note 1 := ⟨(lk_r7 _ (List.mem_of_getElem? (i := 16) rfl)), (lk_r1 _ (List.mem_of_getElem? (i := 21) rfl)), (lk_r7 _ (List.mem_of_getElem? (i := 14) rfl)), (lk_r7 _ (List.mem_of_getElem? (i := 15) rfl)), by decide +kernel, by decide, rfl⟩
abbrev mX0_copyOf : MD := (yX0_copyOf, cX0_copyOf, 2, none, RX0)
theorem kmX0_copyOf : MKV mX0_copyOf 1 := ⟨(lk_r8 _ (List.mem_of_getElem? (i := 1) rfl)), (lk_r1 _ (List.mem_of_getElem? (i := 14) rfl)), (lk_r7 _ (List.mem_of_getElem? (i := 23) rfl)), (lk_r8 _ (List.mem_of_getElem? (i := 0) rfl)), by decide +kernel, by decide, rfl⟩
abbrev mX0_become : MD := (yX0_become, cX0_become, 2, none, RX0)
theorem kmX0_become : MKV mX0_become 1 := ⟨(lk_r8 _ (List.mem_of_getElem? (i := 9) rfl)), (lk_r1 _ (List.mem_of_getElem? (i := 14) rfl)), (lk_r8 _ (List.mem_of_getElem? (i := 7) rfl)), (lk_r8 _ (List.mem_of_getElem? (i := 8) rfl)), by decide +kernel, by decide, rfl⟩
abbrev mX0_arc : MD := (yX0_arc, cX0_arc, 3, (some .int), RX0)
theorem kmX0_arc : MKV mX0_arc 1 := ⟨(lk_r8 _ (List.mem_of_getElem? (i := 14) rfl)), (lk_r1 _ (List.mem_of_getElem? (i := 14) rfl)), (lk_r8 _ (List.mem_of_getElem? (i := 12) rfl)), (lk_r8 _ (List.mem_of_getElem? (i := 13) rfl)), by decide +kernel, by decide, rfl⟩
abbrev mX0_toggle : MD := (yX0_toggle, cX0_toggle, 6, none, RX0)
theorem kmX0_toggle : MKV mX0_toggle 1 := ⟨(lk_r8 _ (List.mem_of_getElem? (i := 18) rfl)), (lk_r1 _ (List.mem_of_getElem? (i := 14) rfl)), (lk_r8 _ (List.mem_of_getElem? (i := 16) rfl)), (lk_r8 _ (List.mem_of_getElem? (i := 17) rfl)), by decide +kernel, by decide, rfl⟩
abbrev mX0_toggleAround : MD := (yX0_toggleAround, cX0_toggleAround, 3, none, RX0)
theorem kmX0_toggleAround : MKV mX0_toggleAround 1 := ⟨(lk_r8 _ (List.mem_of_getElem? (i := 22) rfl)), (lk_r1 _ (List.mem_of_getElem? (i := 14) rfl)), (lk_r8 _ (List.mem_of_getElem? (i := 20) rfl)), (lk_r8 _ (List.mem_of_getElem? (i := 21) rfl)), by decide +kernel, by decide, rfl⟩
abbrev mX0_addArcs : MD := (yX0_addArcs, cX0_addArcs, 3, none, RX0)
theorem kmX0_addArcs : MKV mX0_addArcs 1 := ⟨(lk_r9 _ (List.mem_of_getElem? (i := 2) rfl)), (lk_r1 _ (List.mem_of_getElem? (i := 14) rfl)), (lk_r9 _ (List.mem_of_getElem? (i := 0) rfl)), (lk_r9 _ (List.mem_of_getElem? (i := 1) rfl)), by decide +kernel, by decide, rfl⟩
abbrev mX0_addCross : MD := (yX0_addCross, cX0_addCross, 4, none, RX0)
theorem kmX0_addCross : MKV mX0_addCross 0 := ⟨(lk_r9 _ (List.mem_of_getElem? (i := 6) rfl)), (lk_r1 _ (List.mem_of_getElem? (i := 14) rfl)), (lk_r9 _ (List.mem_of_getElem? (i := 4) rfl)), (lk_r9 _ (List.mem_of_getElem? (i := 5) rfl)), by decide +kernel, by decide, rfl⟩
abbrev mX0_total : MD := (yX0_total, cX0_total, 1, (some .int), RX0)
theorem kmX0_total : MKV mX0_total 0 := ⟨(lk_r9 _ (List.mem_of_getElem? (i := 10) rfl)), (lk_r1 _ (List.mem_of_getElem? (i := 14) rfl)), (lk_r9 _ (List.mem_of_getElem? (i := 8) rfl)), (lk_r9 _ (List.mem_of_getElem? (i := 9) rfl)), by decide +kernel, by decide, rfl⟩
abbrev mX9_make : MD := (yX9_make, cX9_make, 3, (some .int), RX9)
theorem kmX9_make : MKV mX9_make 1 := ⟨(lk_r9 _ (List.mem_of_getElem? (i := 14) rfl)), (lk_r1 _ (List.mem_of_getElem? (i := 5) rfl)), (lk_r9 _ (List.mem_of_getElem? (i := 12) rfl)), (lk_r9 _ (List.mem_of_getElem? (i := 13) rfl)), by decide +kernel, by decide, rfl⟩
abbrev mX9_remembers : MD := (yX9_remembers, cX9_remembers, 2, none, RX9)
theorem kmX9_remembers : MKV mX9_remembers 0 := ⟨(lk_r9 _ (List.mem_of_getElem? (i := 18) rfl)), (lk_r1 _ (List.mem_of_getElem? (i := 5) rfl)), (lk_r9 _ (List.mem_of_getElem? (i := 16) rfl)), (lk_r9 _ (List.mem_of_getElem? (i := 17) rfl)), by decide +kernel, by decide, rfl⟩
abbrev mX9_lays : MD := (yX9_lays, cX9_lays, 2, none, RX9)
theorem kmX9_lays : MKS mX9_lays 2 := ⟨(lk_r9 _ (List.mem_of_getElem? (i := 21) rfl)), (lk_r1 _ (List.mem_of_getElem? (i := 5) rfl)), (lk_r9 _ (List.mem_of_getElem? (i := 20) rfl)), by decide +kernel, by decide, rfl⟩
abbrev mX9_many : MD := (yX9_many, cX9_many, 1, (some .int), RX9)
theorem kmX9_many : MKS mX9_many 1 := ⟨(lk_r10 _ (List.mem_of_getElem? (i := 1) rfl)), (lk_r1 _ (List.mem_of_getElem? (i := 5) rfl)), (lk_r10 _ (List.mem_of_getElem? (i := 0) rfl)), by decide +kernel, by decide, rfl⟩
abbrev mJ6_bitCount_0f7a4 : MD := (yJ6_bitCount_0f7a4, cJ6_bitCount_0f7a4, 1, (some .int), RJ6)
theorem kmJ6_bitCount_0f7a4 : MKS mJ6_bitCount_0f7a4 1 := ⟨(lk_r10 _ (List.mem_of_getElem? (i := 5) rfl)), (lk_r10 _ (List.mem_of_getElem? (i := 4) rfl)), (lk_r10 _ (List.mem_of_getElem? (i := 3) rfl)), by decide +kernel, by decide, rfl⟩
abbrev mX9_isCross : MD := (yX9_isCross, cX9_isCross, 4, (some .boolean), RX9)
theorem kmX9_isCross : MKV mX9_isCross 1 := ⟨(lk_r10 _ (List.mem_of_getElem? (i := 12) rfl)), (lk_r1 _ (List.mem_of_getElem? (i := 5) rfl)), (lk_r10 _ (List.mem_of_getElem? (i := 10) rfl)), (lk_r10 _ (List.mem_of_getElem? (i := 11) rfl)), by decide +kernel, by decide, rfl⟩
abbrev mX9_isOne : MD := (yX9_isOne, cX9_isOne, 2, (some .boolean), RX9)
theorem kmX9_isOne : MKS mX9_isOne 2 := ⟨(lk_r10 _ (List.mem_of_getElem? (i := 15) rfl)), (lk_r1 _ (List.mem_of_getElem? (i := 5) rfl)), (lk_r10 _ (List.mem_of_getElem? (i := 14) rfl)), by decide +kernel, by decide, rfl⟩
abbrev mX9_run : MD := (yX9_run, cX9_run, 4, (some .int), RX9)
theorem kmX9_run : MKV mX9_run 1 := ⟨(lk_r10 _ (List.mem_of_getElem? (i := 19) rfl)), (lk_r1 _ (List.mem_of_getElem? (i := 5) rfl)), (lk_r10 _ (List.mem_of_getElem? (i := 17) rfl)), (lk_r10 _ (List.mem_of_getElem? (i := 18) rfl)), by decide +kernel, by decide, rfl⟩
abbrev mX9_bodiesOf : MD := (yX9_bodiesOf, cX9_bodiesOf, 3, (some .int), RX9)
theorem kmX9_bodiesOf : MKS mX9_bodiesOf 1 := ⟨(lk_r10 _ (List.mem_of_getElem? (i := 22) rfl)), (lk_r1 _ (List.mem_of_getElem? (i := 5) rfl)), (lk_r10 _ (List.mem_of_getElem? (i := 21) rfl)), by decide +kernel, by decide, rfl⟩
abbrev mX8_body : MD := (yX8_body, cX8_body, 2, (some .int), RX8)
theorem kmX8_body : MKV mX8_body 1 := ⟨(lk_r11 _ (List.mem_of_getElem? (i := 2) rfl)), (lk_r1 _ (List.mem_of_getElem? (i := 2) rfl)), (lk_r11 _ (List.mem_of_getElem? (i := 0) rfl)), (lk_r11 _ (List.mem_of_getElem? (i := 1) rfl)), by decide +kernel, by decide, rfl⟩
abbrev mX9_body : MD := (yX9_body, cX9_body, 2, (some .int), RX9)
theorem kmX9_body : MKV mX9_body 1 := ⟨(lk_r11 _ (List.mem_of_getElem? (i := 8) rfl)), (lk_r1 _ (List.mem_of_getElem? (i := 5) rfl)), (lk_r11 _ (List.mem_of_getElem? (i := 6) rfl)), (lk_r11 _ (List.mem_of_getElem? (i := 7) rfl)), by decide +kernel, by decide, rfl⟩
abbrev mX9_isBody : MD := (yX9_isBody, cX9_isBody, 2, (some .boolean), RX9)
theorem kmX9_isBody : MKV mX9_isBody 1 := ⟨(lk_r11 _ (List.mem_of_getElem? (i := 12) rfl)), (lk_r1 _ (List.mem_of_getElem? (i := 5) rfl)), (lk_r11 _ (List.mem_of_getElem? (i := 10) rfl)), (lk_r11 _ (List.mem_of_getElem? (i := 11) rfl)), by decide +kernel, by decide, rfl⟩
abbrev mX9_isSet : MD := (yX9_isSet, cX9_isSet, 1, (some .boolean), RX9)
theorem kmX9_isSet : MKS mX9_isSet 1 := ⟨(lk_r11 _ (List.mem_of_getElem? (i := 15) rfl)), (lk_r1 _ (List.mem_of_getElem? (i := 5) rfl)), (lk_r11 _ (List.mem_of_getElem? (i := 14) rfl)), by decide +kernel, by decide, rfl⟩
abbrev mX8_bodyOf : MD := (yX8_bodyOf, cX8_bodyOf, 2, (some .int), RX8)
theorem kmX8_bodyOf : MKV mX8_bodyOf 1 := ⟨(lk_r11 _ (List.mem_of_getElem? (i := 19) rfl)), (lk_r1 _ (List.mem_of_getElem? (i := 2) rfl)), (lk_r11 _ (List.mem_of_getElem? (i := 17) rfl)), (lk_r11 _ (List.mem_of_getElem? (i := 18) rfl)), by decide +kernel, by decide, rfl⟩
abbrev mX0_setAt : MD := (yX0_setAt, cX0_setAt, 6, (some .int), RX0)
theorem kmX0_setAt : MKV mX0_setAt 3 := ⟨(lk_r11 _ (List.mem_of_getElem? (i := 23) rfl)), (lk_r1 _ (List.mem_of_getElem? (i := 14) rfl)), (lk_r11 _ (List.mem_of_getElem? (i := 21) rfl)), (lk_r11 _ (List.mem_of_getElem? (i := 22) rfl)), by decide +kernel, by decide, rfl⟩
abbrev mX9_bodyOf : MD := (yX9_bodyOf, cX9_bodyOf, 4, (some .int), RX9)
theorem kmX9_bodyOf : MKV mX9_bodyOf 1 := ⟨(lk_r12 _ (List.mem_of_getElem? (i := 4) rfl)), (lk_r1 _ (List.mem_of_getElem? (i := 5) rfl)), (lk_r12 _ (List.mem_of_getElem? (i := 2) rfl)), (lk_r12 _ (List.mem_of_getElem? (i := 3) rfl)), by decide +kernel, by decide, rfl⟩
abbrev mX8_heap : MD := (yX8_heap, cX8_heap, 2, (some .int), RX8)
theorem kmX8_heap : MKV mX8_heap 1 := ⟨(lk_r12 _ (List.mem_of_getElem? (i := 8) rfl)), (lk_r1 _ (List.mem_of_getElem? (i := 2) rfl)), (lk_r12 _ (List.mem_of_getElem? (i := 6) rfl)), (lk_r12 _ (List.mem_of_getElem? (i := 7) rfl)), by decide +kernel, by decide, rfl⟩
abbrev mX0_there : MD := (yX0_there, cX0_there, 1, (some .int), RX0)
theorem kmX0_there : MKV mX0_there 0 := ⟨(lk_r12 _ (List.mem_of_getElem? (i := 12) rfl)), (lk_r1 _ (List.mem_of_getElem? (i := 14) rfl)), (lk_r12 _ (List.mem_of_getElem? (i := 10) rfl)), (lk_r12 _ (List.mem_of_getElem? (i := 11) rfl)), by decide +kernel, by decide, rfl⟩
abbrev mX0_linkPoints : MD := (yX0_linkPoints, cX0_linkPoints, 5, (some .int), RX0)
theorem kmX0_linkPoints : MKV mX0_linkPoints 1 := ⟨(lk_r12 _ (List.mem_of_getElem? (i := 16) rfl)), (lk_r1 _ (List.mem_of_getElem? (i := 14) rfl)), (lk_r12 _ (List.mem_of_getElem? (i := 14) rfl)), (lk_r12 _ (List.mem_of_getElem? (i := 15) rfl)), by decide +kernel, by decide, rfl⟩
abbrev mX0_walls : MD := (yX0_walls, cX0_walls, 3, (some .int), RX0)
theorem kmX0_walls : MKV mX0_walls 0 := ⟨(lk_r12 _ (List.mem_of_getElem? (i := 20) rfl)), (lk_r1 _ (List.mem_of_getElem? (i := 14) rfl)), (lk_r12 _ (List.mem_of_getElem? (i := 18) rfl)), (lk_r12 _ (List.mem_of_getElem? (i := 19) rfl)), by decide +kernel, by decide, rfl⟩
abbrev mX0_isWall : MD := (yX0_isWall, cX0_isWall, 2, (some .boolean), RX0)
theorem kmX0_isWall : MKV mX0_isWall 1 := ⟨(lk_r13 _ (List.mem_of_getElem? (i := 0) rfl)), (lk_r1 _ (List.mem_of_getElem? (i := 14) rfl)), (lk_r12 _ (List.mem_of_getElem? (i := 22) rfl)), (lk_r12 _ (List.mem_of_getElem? (i := 23) rfl)), by decide +kernel, by decide, rfl⟩
abbrev mX0_isRight : MD := (yX0_isRight, cX0_isRight, 2, (some .boolean), RX0)
theorem kmX0_isRight : MKV mX0_isRight 0 := ⟨(lk_r13 _ (List.mem_of_getElem? (i := 4) rfl)), (lk_r1 _ (List.mem_of_getElem? (i := 14) rfl)), (lk_r13 _ (List.mem_of_getElem? (i := 2) rfl)), (lk_r13 _ (List.mem_of_getElem? (i := 3) rfl)), by decide +kernel, by decide, rfl⟩
abbrev mX0_euler : MD := (yX0_euler, cX0_euler, 1, (some .int), RX0)
theorem kmX0_euler : MKV mX0_euler 0 := ⟨(lk_r13 _ (List.mem_of_getElem? (i := 8) rfl)), (lk_r1 _ (List.mem_of_getElem? (i := 14) rfl)), (lk_r13 _ (List.mem_of_getElem? (i := 6) rfl)), (lk_r13 _ (List.mem_of_getElem? (i := 7) rfl)), by decide +kernel, by decide, rfl⟩
abbrev mX0_facesOf : MD := (yX0_facesOf, cX0_facesOf, 4, (some .int), RX0)
theorem kmX0_facesOf : MKV mX0_facesOf 1 := ⟨(lk_r13 _ (List.mem_of_getElem? (i := 12) rfl)), (lk_r1 _ (List.mem_of_getElem? (i := 14) rfl)), (lk_r13 _ (List.mem_of_getElem? (i := 10) rfl)), (lk_r13 _ (List.mem_of_getElem? (i := 11) rfl)), by decide +kernel, by decide, rfl⟩
abbrev mX7_parts : MD := (yX7_parts, cX7_parts, 4, (some .int), RX7)
theorem kmX7_parts : MKV mX7_parts 1 := ⟨(lk_r13 _ (List.mem_of_getElem? (i := 16) rfl)), (lk_r2 _ (List.mem_of_getElem? (i := 6) rfl)), (lk_r13 _ (List.mem_of_getElem? (i := 14) rfl)), (lk_r13 _ (List.mem_of_getElem? (i := 15) rfl)), by decide +kernel, by decide, rfl⟩
abbrev mX7_load : MD := (yX7_load, cX7_load, 3, none, RX7)
theorem kmX7_load : MKV mX7_load 1 := ⟨(lk_r13 _ (List.mem_of_getElem? (i := 21) rfl)), (lk_r2 _ (List.mem_of_getElem? (i := 6) rfl)), (lk_r13 _ (List.mem_of_getElem? (i := 19) rfl)), (lk_r13 _ (List.mem_of_getElem? (i := 20) rfl)), by decide +kernel, by decide, rfl⟩
abbrev mX0_isBody : MD := (yX0_isBody, cX0_isBody, 2, (some .boolean), RX0)
theorem kmX0_isBody : MKV mX0_isBody 1 := ⟨(lk_r14 _ (List.mem_of_getElem? (i := 2) rfl)), (lk_r1 _ (List.mem_of_getElem? (i := 14) rfl)), (lk_r14 _ (List.mem_of_getElem? (i := 0) rfl)), (lk_r14 _ (List.mem_of_getElem? (i := 1) rfl)), by decide +kernel, by decide, rfl⟩
abbrev mX7_spread : MD := (yX7_spread, cX7_spread, 6, none, RX7)
theorem kmX7_spread : MKV mX7_spread 1 := ⟨(lk_r14 _ (List.mem_of_getElem? (i := 6) rfl)), (lk_r2 _ (List.mem_of_getElem? (i := 6) rfl)), (lk_r14 _ (List.mem_of_getElem? (i := 4) rfl)), (lk_r14 _ (List.mem_of_getElem? (i := 5) rfl)), by decide +kernel, by decide, rfl⟩
abbrev mX7_beside : MD := (yX7_beside, cX7_beside, 3, (some .boolean), RX7)
theorem kmX7_beside : MKV mX7_beside 2 := ⟨(lk_r14 _ (List.mem_of_getElem? (i := 10) rfl)), (lk_r2 _ (List.mem_of_getElem? (i := 6) rfl)), (lk_r14 _ (List.mem_of_getElem? (i := 8) rfl)), (lk_r14 _ (List.mem_of_getElem? (i := 9) rfl)), by decide +kernel, by decide, rfl⟩
abbrev mX7_sameSign : MD := (yX7_sameSign, cX7_sameSign, 6, (some .boolean), RX7)
theorem kmX7_sameSign : MKV mX7_sameSign 2 := ⟨(lk_r14 _ (List.mem_of_getElem? (i := 15) rfl)), (lk_r2 _ (List.mem_of_getElem? (i := 6) rfl)), (lk_r14 _ (List.mem_of_getElem? (i := 13) rfl)), (lk_r14 _ (List.mem_of_getElem? (i := 14) rfl)), by decide +kernel, by decide, rfl⟩
abbrev mX7_twoSided : MD := (yX7_twoSided, cX7_twoSided, 4, (some .boolean), RX7)
theorem kmX7_twoSided : MKV mX7_twoSided 1 := ⟨(lk_r14 _ (List.mem_of_getElem? (i := 19) rfl)), (lk_r2 _ (List.mem_of_getElem? (i := 6) rfl)), (lk_r14 _ (List.mem_of_getElem? (i := 17) rfl)), (lk_r14 _ (List.mem_of_getElem? (i := 18) rfl)), by decide +kernel, by decide, rfl⟩
abbrev mX9_heap : MD := (yX9_heap, cX9_heap, 2, (some .int), RX9)
theorem kmX9_heap : MKV mX9_heap 1 := ⟨(lk_r15 _ (List.mem_of_getElem? (i := 0) rfl)), (lk_r1 _ (List.mem_of_getElem? (i := 5) rfl)), (lk_r14 _ (List.mem_of_getElem? (i := 22) rfl)), (lk_r14 _ (List.mem_of_getElem? (i := 23) rfl)), by decide +kernel, by decide, rfl⟩
abbrev mX9_layFaces : MD := (yX9_layFaces, cX9_layFaces, 4, none, RX9)
theorem kmX9_layFaces : MKV mX9_layFaces 1 := ⟨(lk_r15 _ (List.mem_of_getElem? (i := 5) rfl)), (lk_r1 _ (List.mem_of_getElem? (i := 5) rfl)), (lk_r15 _ (List.mem_of_getElem? (i := 3) rfl)), (lk_r15 _ (List.mem_of_getElem? (i := 4) rfl)), by decide +kernel, by decide, rfl⟩
abbrev mX9_walls : MD := (yX9_walls, cX9_walls, 4, (some .int), RX9)
theorem kmX9_walls : MKV mX9_walls 1 := ⟨(lk_r15 _ (List.mem_of_getElem? (i := 9) rfl)), (lk_r1 _ (List.mem_of_getElem? (i := 5) rfl)), (lk_r15 _ (List.mem_of_getElem? (i := 7) rfl)), (lk_r15 _ (List.mem_of_getElem? (i := 8) rfl)), by decide +kernel, by decide, rfl⟩
abbrev mX9_isWall : MD := (yX9_isWall, cX9_isWall, 3, (some .boolean), RX9)
theorem kmX9_isWall : MKV mX9_isWall 2 := ⟨(lk_r15 _ (List.mem_of_getElem? (i := 13) rfl)), (lk_r1 _ (List.mem_of_getElem? (i := 5) rfl)), (lk_r15 _ (List.mem_of_getElem? (i := 11) rfl)), (lk_r15 _ (List.mem_of_getElem? (i := 12) rfl)), by decide +kernel, by decide, rfl⟩
abbrev mX9_right : MD := (yX9_right, cX9_right, 2, (some .int), RX9)
theorem kmX9_right : MKV mX9_right 0 := ⟨(lk_r15 _ (List.mem_of_getElem? (i := 17) rfl)), (lk_r1 _ (List.mem_of_getElem? (i := 5) rfl)), (lk_r15 _ (List.mem_of_getElem? (i := 15) rfl)), (lk_r15 _ (List.mem_of_getElem? (i := 16) rfl)), by decide +kernel, by decide, rfl⟩
abbrev mX9_euler : MD := (yX9_euler, cX9_euler, 1, (some .int), RX9)
theorem kmX9_euler : MKV mX9_euler 0 := ⟨(lk_r15 _ (List.mem_of_getElem? (i := 21) rfl)), (lk_r1 _ (List.mem_of_getElem? (i := 5) rfl)), (lk_r15 _ (List.mem_of_getElem? (i := 19) rfl)), (lk_r15 _ (List.mem_of_getElem? (i := 20) rfl)), by decide +kernel, by decide, rfl⟩
abbrev mX9_facesOf : MD := (yX9_facesOf, cX9_facesOf, 4, (some .int), RX9)
theorem kmX9_facesOf : MKV mX9_facesOf 1 := ⟨(lk_r16 _ (List.mem_of_getElem? (i := 1) rfl)), (lk_r1 _ (List.mem_of_getElem? (i := 5) rfl)), (lk_r15 _ (List.mem_of_getElem? (i := 23) rfl)), (lk_r16 _ (List.mem_of_getElem? (i := 0) rfl)), by decide +kernel, by decide, rfl⟩
abbrev mX9_parts : MD := (yX9_parts, cX9_parts, 3, (some .int), RX9)
theorem kmX9_parts : MKV mX9_parts 0 := ⟨(lk_r16 _ (List.mem_of_getElem? (i := 5) rfl)), (lk_r1 _ (List.mem_of_getElem? (i := 5) rfl)), (lk_r16 _ (List.mem_of_getElem? (i := 3) rfl)), (lk_r16 _ (List.mem_of_getElem? (i := 4) rfl)), by decide +kernel, by decide, rfl⟩
abbrev mX9_spreads : MD := (yX9_spreads, cX9_spreads, 5, none, RX9)
theorem kmX9_spreads : MKV mX9_spreads 1 := ⟨(lk_r16 _ (List.mem_of_getElem? (i := 9) rfl)), (lk_r1 _ (List.mem_of_getElem? (i := 5) rfl)), (lk_r16 _ (List.mem_of_getElem? (i := 7) rfl)), (lk_r16 _ (List.mem_of_getElem? (i := 8) rfl)), by decide +kernel, by decide, rfl⟩
abbrev mX9_areBeside : MD := (yX9_areBeside, cX9_areBeside, 3, (some .boolean), RX9)
theorem kmX9_areBeside : MKV mX9_areBeside 2 := ⟨(lk_r16 _ (List.mem_of_getElem? (i := 13) rfl)), (lk_r1 _ (List.mem_of_getElem? (i := 5) rfl)), (lk_r16 _ (List.mem_of_getElem? (i := 11) rfl)), (lk_r16 _ (List.mem_of_getElem? (i := 12) rfl)), by decide +kernel, by decide, rfl⟩
abbrev mX9_isTwoSided : MD := (yX9_isTwoSided, cX9_isTwoSided, 2, (some .boolean), RX9)
theorem kmX9_isTwoSided : MKV mX9_isTwoSided 0 := ⟨(lk_r16 _ (List.mem_of_getElem? (i := 17) rfl)), (lk_r1 _ (List.mem_of_getElem? (i := 5) rfl)), (lk_r16 _ (List.mem_of_getElem? (i := 15) rfl)), (lk_r16 _ (List.mem_of_getElem? (i := 16) rfl)), by decide +kernel, by decide, rfl⟩
abbrev mX9_areAgreed : MD := (yX9_areAgreed, cX9_areAgreed, 6, (some .boolean), RX9)
theorem kmX9_areAgreed : MKV mX9_areAgreed 1 := ⟨(lk_r16 _ (List.mem_of_getElem? (i := 21) rfl)), (lk_r1 _ (List.mem_of_getElem? (i := 5) rfl)), (lk_r16 _ (List.mem_of_getElem? (i := 19) rfl)), (lk_r16 _ (List.mem_of_getElem? (i := 20) rfl)), by decide +kernel, by decide, rfl⟩
abbrev mX9_areSigned : MD := (yX9_areSigned, cX9_areSigned, 3, (some .boolean), RX9)
theorem kmX9_areSigned : MKV mX9_areSigned 2 := ⟨(lk_r17 _ (List.mem_of_getElem? (i := 1) rfl)), (lk_r1 _ (List.mem_of_getElem? (i := 5) rfl)), (lk_r16 _ (List.mem_of_getElem? (i := 23) rfl)), (lk_r17 _ (List.mem_of_getElem? (i := 0) rfl)), by decide +kernel, by decide, rfl⟩
abbrev mX9_below : MD := (yX9_below, cX9_below, 4, (some .int), RX9)
theorem kmX9_below : MKV mX9_below 2 := ⟨(lk_r17 _ (List.mem_of_getElem? (i := 5) rfl)), (lk_r1 _ (List.mem_of_getElem? (i := 5) rfl)), (lk_r17 _ (List.mem_of_getElem? (i := 3) rfl)), (lk_r17 _ (List.mem_of_getElem? (i := 4) rfl)), by decide +kernel, by decide, rfl⟩
abbrev mX8_faces : MD := (yX8_faces, cX8_faces, 2, (some .int), RX8)
theorem kmX8_faces : MKV mX8_faces 1 := ⟨(lk_r17 _ (List.mem_of_getElem? (i := 9) rfl)), (lk_r1 _ (List.mem_of_getElem? (i := 2) rfl)), (lk_r17 _ (List.mem_of_getElem? (i := 7) rfl)), (lk_r17 _ (List.mem_of_getElem? (i := 8) rfl)), by decide +kernel, by decide, rfl⟩
abbrev mX9_faces : MD := (yX9_faces, cX9_faces, 2, (some .int), RX9)
theorem kmX9_faces : MKV mX9_faces 1 := ⟨(lk_r17 _ (List.mem_of_getElem? (i := 14) rfl)), (lk_r1 _ (List.mem_of_getElem? (i := 5) rfl)), (lk_r17 _ (List.mem_of_getElem? (i := 12) rfl)), (lk_r17 _ (List.mem_of_getElem? (i := 13) rfl)), by decide +kernel, by decide, rfl⟩
abbrev mX8_face : MD := (yX8_face, cX8_face, 3, (some .int), RX8)
theorem kmX8_face : MKV mX8_face 2 := ⟨(lk_r17 _ (List.mem_of_getElem? (i := 18) rfl)), (lk_r1 _ (List.mem_of_getElem? (i := 2) rfl)), (lk_r17 _ (List.mem_of_getElem? (i := 16) rfl)), (lk_r17 _ (List.mem_of_getElem? (i := 17) rfl)), by decide +kernel, by decide, rfl⟩
abbrev mX8_isSet : MD := (yX8_isSet, cX8_isSet, 1, (some .boolean), RX8)
theorem kmX8_isSet : MKS mX8_isSet 1 := ⟨(lk_r17 _ (List.mem_of_getElem? (i := 21) rfl)), (lk_r1 _ (List.mem_of_getElem? (i := 2) rfl)), (lk_r17 _ (List.mem_of_getElem? (i := 20) rfl)), by decide +kernel, by decide, rfl⟩
abbrev mX0_holders : MD := (yX0_holders, cX0_holders, 2, (some .int), RX0)
theorem kmX0_holders : MKV mX0_holders 1 := ⟨(lk_r18 _ (List.mem_of_getElem? (i := 1) rfl)), (lk_r1 _ (List.mem_of_getElem? (i := 14) rfl)), (lk_r17 _ (List.mem_of_getElem? (i := 23) rfl)), (lk_r18 _ (List.mem_of_getElem? (i := 0) rfl)), by decide +kernel, by decide, rfl⟩
abbrev mX0_linkSets : MD := (yX0_linkSets, cX0_linkSets, 4, (some .int), RX0)
theorem kmX0_linkSets : MKV mX0_linkSets 1 := ⟨(lk_r18 _ (List.mem_of_getElem? (i := 5) rfl)), (lk_r1 _ (List.mem_of_getElem? (i := 14) rfl)), (lk_r18 _ (List.mem_of_getElem? (i := 3) rfl)), (lk_r18 _ (List.mem_of_getElem? (i := 4) rfl)), by decide +kernel, by decide, rfl⟩
abbrev mX9_face : MD := (yX9_face, cX9_face, 3, (some .int), RX9)
theorem kmX9_face : MKV mX9_face 2 := ⟨(lk_r18 _ (List.mem_of_getElem? (i := 10) rfl)), (lk_r1 _ (List.mem_of_getElem? (i := 5) rfl)), (lk_r18 _ (List.mem_of_getElem? (i := 8) rfl)), (lk_r18 _ (List.mem_of_getElem? (i := 9) rfl)), by decide +kernel, by decide, rfl⟩
abbrev mX9_linkOf : MD := (yX9_linkOf, cX9_linkOf, 4, (some .int), RX9)
theorem kmX9_linkOf : MKV mX9_linkOf 1 := ⟨(lk_r18 _ (List.mem_of_getElem? (i := 14) rfl)), (lk_r1 _ (List.mem_of_getElem? (i := 5) rfl)), (lk_r18 _ (List.mem_of_getElem? (i := 12) rfl)), (lk_r18 _ (List.mem_of_getElem? (i := 13) rfl)), by decide +kernel, by decide, rfl⟩
abbrev mX9_linked : MD := (yX9_linked, cX9_linked, 4, (some .int), RX9)
theorem kmX9_linked : MKV mX9_linked 1 := ⟨(lk_r18 _ (List.mem_of_getElem? (i := 18) rfl)), (lk_r1 _ (List.mem_of_getElem? (i := 5) rfl)), (lk_r18 _ (List.mem_of_getElem? (i := 16) rfl)), (lk_r18 _ (List.mem_of_getElem? (i := 17) rfl)), by decide +kernel, by decide, rfl⟩
abbrev mX8_wall : MD := (yX8_wall, cX8_wall, 2, (some .int), RX8)
theorem kmX8_wall : MKV mX8_wall 1 := ⟨(lk_r18 _ (List.mem_of_getElem? (i := 22) rfl)), (lk_r1 _ (List.mem_of_getElem? (i := 2) rfl)), (lk_r18 _ (List.mem_of_getElem? (i := 20) rfl)), (lk_r18 _ (List.mem_of_getElem? (i := 21) rfl)), by decide +kernel, by decide, rfl⟩
abbrev mX9_wall : MD := (yX9_wall, cX9_wall, 4, (some .int), RX9)
theorem kmX9_wall : MKV mX9_wall 1 := ⟨(lk_r19 _ (List.mem_of_getElem? (i := 2) rfl)), (lk_r1 _ (List.mem_of_getElem? (i := 5) rfl)), (lk_r19 _ (List.mem_of_getElem? (i := 0) rfl)), (lk_r19 _ (List.mem_of_getElem? (i := 1) rfl)), by decide +kernel, by decide, rfl⟩
abbrev mX8_apart : MD := (yX8_apart, cX8_apart, 4, (some .int), RX8)
theorem kmX8_apart : MKV mX8_apart 2 := ⟨(lk_r19 _ (List.mem_of_getElem? (i := 6) rfl)), (lk_r1 _ (List.mem_of_getElem? (i := 2) rfl)), (lk_r19 _ (List.mem_of_getElem? (i := 4) rfl)), (lk_r19 _ (List.mem_of_getElem? (i := 5) rfl)), by decide +kernel, by decide, rfl⟩
abbrev mX7_between : MD := (yX7_between, cX7_between, 4, (some .int), RX7)
theorem kmX7_between : MKV mX7_between 3 := ⟨(lk_r19 _ (List.mem_of_getElem? (i := 10) rfl)), (lk_r2 _ (List.mem_of_getElem? (i := 6) rfl)), (lk_r19 _ (List.mem_of_getElem? (i := 8) rfl)), (lk_r19 _ (List.mem_of_getElem? (i := 9) rfl)), by decide +kernel, by decide, rfl⟩
abbrev mX9_apart : MD := (yX9_apart, cX9_apart, 6, (some .int), RX9)
theorem kmX9_apart : MKV mX9_apart 2 := ⟨(lk_r19 _ (List.mem_of_getElem? (i := 14) rfl)), (lk_r1 _ (List.mem_of_getElem? (i := 5) rfl)), (lk_r19 _ (List.mem_of_getElem? (i := 12) rfl)), (lk_r19 _ (List.mem_of_getElem? (i := 13) rfl)), by decide +kernel, by decide, rfl⟩
abbrev mX9_bodyAt : MD := (yX9_bodyAt, cX9_bodyAt, 2, (some .int), RX9)
theorem kmX9_bodyAt : MKV mX9_bodyAt 1 := ⟨(lk_r19 _ (List.mem_of_getElem? (i := 18) rfl)), (lk_r1 _ (List.mem_of_getElem? (i := 5) rfl)), (lk_r19 _ (List.mem_of_getElem? (i := 16) rfl)), (lk_r19 _ (List.mem_of_getElem? (i := 17) rfl)), by decide +kernel, by decide, rfl⟩
abbrev mX8_shelled : MD := (yX8_shelled, cX8_shelled, 4, (some .int), RX8)
theorem kmX8_shelled : MKV mX8_shelled 1 := ⟨(lk_r19 _ (List.mem_of_getElem? (i := 23) rfl)), (lk_r1 _ (List.mem_of_getElem? (i := 2) rfl)), (lk_r19 _ (List.mem_of_getElem? (i := 21) rfl)), (lk_r19 _ (List.mem_of_getElem? (i := 22) rfl)), by decide +kernel, by decide, rfl⟩
abbrev mX3_state : MD := (yX3_state, cX3_state, 2, (some .int), RX3)
theorem kmX3_state : MKV mX3_state 1 := ⟨(lk_r20 _ (List.mem_of_getElem? (i := 3) rfl)), (lk_r2 _ (List.mem_of_getElem? (i := 18) rfl)), (lk_r20 _ (List.mem_of_getElem? (i := 1) rfl)), (lk_r20 _ (List.mem_of_getElem? (i := 2) rfl)), by decide +kernel, by decide, rfl⟩
abbrev mX3_isList : MD := (yX3_isList, cX3_isList, 2, (some .boolean), RX3)
theorem kmX3_isList : MKV mX3_isList 1 := ⟨(lk_r20 _ (List.mem_of_getElem? (i := 8) rfl)), (lk_r2 _ (List.mem_of_getElem? (i := 18) rfl)), (lk_r20 _ (List.mem_of_getElem? (i := 6) rfl)), (lk_r20 _ (List.mem_of_getElem? (i := 7) rfl)), by decide +kernel, by decide, rfl⟩
abbrev mX3_sizeOf : MD := (yX3_sizeOf, cX3_sizeOf, 2, (some .int), RX3)
theorem kmX3_sizeOf : MKV mX3_sizeOf 1 := ⟨(lk_r20 _ (List.mem_of_getElem? (i := 13) rfl)), (lk_r2 _ (List.mem_of_getElem? (i := 18) rfl)), (lk_r20 _ (List.mem_of_getElem? (i := 11) rfl)), (lk_r20 _ (List.mem_of_getElem? (i := 12) rfl)), by decide +kernel, by decide, rfl⟩
abbrev mX7_fits : MD := (yX7_fits, cX7_fits, 8, (some .boolean), RX7)
theorem kmX7_fits : MKV mX7_fits 3 := ⟨(lk_r20 _ (List.mem_of_getElem? (i := 17) rfl)), (lk_r2 _ (List.mem_of_getElem? (i := 6) rfl)), (lk_r20 _ (List.mem_of_getElem? (i := 15) rfl)), (lk_r20 _ (List.mem_of_getElem? (i := 16) rfl)), by decide +kernel, by decide, rfl⟩
abbrev mX3_at : MD := (yX3_at, cX3_at, 3, (some .int), RX3)
theorem kmX3_at : MKV mX3_at 2 := ⟨(lk_r20 _ (List.mem_of_getElem? (i := 21) rfl)), (lk_r2 _ (List.mem_of_getElem? (i := 18) rfl)), (lk_r20 _ (List.mem_of_getElem? (i := 19) rfl)), (lk_r20 _ (List.mem_of_getElem? (i := 20) rfl)), by decide +kernel, by decide, rfl⟩
abbrev mX7_bodyAt : MD := (yX7_bodyAt, cX7_bodyAt, 2, (some .int), RX7)
theorem kmX7_bodyAt : MKV mX7_bodyAt 1 := ⟨(lk_r21 _ (List.mem_of_getElem? (i := 1) rfl)), (lk_r2 _ (List.mem_of_getElem? (i := 6) rfl)), (lk_r20 _ (List.mem_of_getElem? (i := 23) rfl)), (lk_r21 _ (List.mem_of_getElem? (i := 0) rfl)), by decide +kernel, by decide, rfl⟩
abbrev mX9_shelled : MD := (yX9_shelled, cX9_shelled, 4, (some .int), RX9)
theorem kmX9_shelled : MKV mX9_shelled 1 := ⟨(lk_r21 _ (List.mem_of_getElem? (i := 5) rfl)), (lk_r1 _ (List.mem_of_getElem? (i := 5) rfl)), (lk_r21 _ (List.mem_of_getElem? (i := 3) rfl)), (lk_r21 _ (List.mem_of_getElem? (i := 4) rfl)), by decide +kernel, by decide, rfl⟩
abbrev mX9_isList : MD := (yX9_isList, cX9_isList, 1, (some .boolean), RX9)
theorem kmX9_isList : MKS mX9_isList 1 := ⟨(lk_r21 _ (List.mem_of_getElem? (i := 8) rfl)), (lk_r1 _ (List.mem_of_getElem? (i := 5) rfl)), (lk_r21 _ (List.mem_of_getElem? (i := 7) rfl)), by decide +kernel, by decide, rfl⟩
abbrev mX9_isAgain : MD := (yX9_isAgain, cX9_isAgain, 4, (some .boolean), RX9)
theorem kmX9_isAgain : MKV mX9_isAgain 2 := ⟨(lk_r21 _ (List.mem_of_getElem? (i := 12) rfl)), (lk_r1 _ (List.mem_of_getElem? (i := 5) rfl)), (lk_r21 _ (List.mem_of_getElem? (i := 10) rfl)), (lk_r21 _ (List.mem_of_getElem? (i := 11) rfl)), by decide +kernel, by decide, rfl⟩
abbrev mX9_isFit : MD := (yX9_isFit, cX9_isFit, 9, (some .boolean), RX9)
theorem kmX9_isFit : MKV mX9_isFit 3 := ⟨(lk_r21 _ (List.mem_of_getElem? (i := 16) rfl)), (lk_r1 _ (List.mem_of_getElem? (i := 5) rfl)), (lk_r21 _ (List.mem_of_getElem? (i := 14) rfl)), (lk_r21 _ (List.mem_of_getElem? (i := 15) rfl)), by decide +kernel, by decide, rfl⟩
abbrev mX8_flips : MD := (yX8_flips, cX8_flips, 5, (some .int), RX8)
theorem kmX8_flips : MKV mX8_flips 1 := ⟨(lk_r21 _ (List.mem_of_getElem? (i := 20) rfl)), (lk_r1 _ (List.mem_of_getElem? (i := 2) rfl)), (lk_r21 _ (List.mem_of_getElem? (i := 18) rfl)), (lk_r21 _ (List.mem_of_getElem? (i := 19) rfl)), by decide +kernel, by decide, rfl⟩
abbrev mX0_gather : MD := (yX0_gather, cX0_gather, 4, (some .int), RX0)
theorem kmX0_gather : MKV mX0_gather 1 := ⟨(lk_r22 _ (List.mem_of_getElem? (i := 0) rfl)), (lk_r1 _ (List.mem_of_getElem? (i := 14) rfl)), (lk_r21 _ (List.mem_of_getElem? (i := 22) rfl)), (lk_r21 _ (List.mem_of_getElem? (i := 23) rfl)), by decide +kernel, by decide, rfl⟩
abbrev mX0_partner : MD := (yX0_partner, cX0_partner, 4, (some .int), RX0)
theorem kmX0_partner : MKV mX0_partner 1 := ⟨(lk_r22 _ (List.mem_of_getElem? (i := 4) rfl)), (lk_r1 _ (List.mem_of_getElem? (i := 14) rfl)), (lk_r22 _ (List.mem_of_getElem? (i := 2) rfl)), (lk_r22 _ (List.mem_of_getElem? (i := 3) rfl)), by decide +kernel, by decide, rfl⟩
abbrev mX9_flips : MD := (yX9_flips, cX9_flips, 4, (some .int), RX9)
theorem kmX9_flips : MKV mX9_flips 1 := ⟨(lk_r22 _ (List.mem_of_getElem? (i := 9) rfl)), (lk_r1 _ (List.mem_of_getElem? (i := 5) rfl)), (lk_r22 _ (List.mem_of_getElem? (i := 7) rfl)), (lk_r22 _ (List.mem_of_getElem? (i := 8) rfl)), by decide +kernel, by decide, rfl⟩
abbrev mX9_layFlips : MD := (yX9_layFlips, cX9_layFlips, 6, none, RX9)
theorem kmX9_layFlips : MKV mX9_layFlips 2 := ⟨(lk_r22 _ (List.mem_of_getElem? (i := 13) rfl)), (lk_r1 _ (List.mem_of_getElem? (i := 5) rfl)), (lk_r22 _ (List.mem_of_getElem? (i := 11) rfl)), (lk_r22 _ (List.mem_of_getElem? (i := 12) rfl)), by decide +kernel, by decide, rfl⟩
abbrev mX9_forWhat : MD := (yX9_forWhat, cX9_forWhat, 4, (some .int), RX9)
theorem kmX9_forWhat : MKV mX9_forWhat 1 := ⟨(lk_r22 _ (List.mem_of_getElem? (i := 17) rfl)), (lk_r1 _ (List.mem_of_getElem? (i := 5) rfl)), (lk_r22 _ (List.mem_of_getElem? (i := 15) rfl)), (lk_r22 _ (List.mem_of_getElem? (i := 16) rfl)), by decide +kernel, by decide, rfl⟩
abbrev mX8_flipOf : MD := (yX8_flipOf, cX8_flipOf, 4, (some .int), RX8)
theorem kmX8_flipOf : MKV mX8_flipOf 2 := ⟨(lk_r22 _ (List.mem_of_getElem? (i := 21) rfl)), (lk_r1 _ (List.mem_of_getElem? (i := 2) rfl)), (lk_r22 _ (List.mem_of_getElem? (i := 19) rfl)), (lk_r22 _ (List.mem_of_getElem? (i := 20) rfl)), by decide +kernel, by decide, rfl⟩
abbrev mX9_flipOf : MD := (yX9_flipOf, cX9_flipOf, 3, (some .int), RX9)
theorem kmX9_flipOf : MKV mX9_flipOf 2 := ⟨(lk_r23 _ (List.mem_of_getElem? (i := 2) rfl)), (lk_r1 _ (List.mem_of_getElem? (i := 5) rfl)), (lk_r23 _ (List.mem_of_getElem? (i := 0) rfl)), (lk_r23 _ (List.mem_of_getElem? (i := 1) rfl)), by decide +kernel, by decide, rfl⟩
abbrev mX8_number : MD := (yX8_number, cX8_number, 2, (some .int), RX8)
theorem kmX8_number : MKV mX8_number 1 := ⟨(lk_r23 _ (List.mem_of_getElem? (i := 6) rfl)), (lk_r1 _ (List.mem_of_getElem? (i := 2) rfl)), (lk_r23 _ (List.mem_of_getElem? (i := 4) rfl)), (lk_r23 _ (List.mem_of_getElem? (i := 5) rfl)), by decide +kernel, by decide, rfl⟩
abbrev mX0_numberOf : MD := (yX0_numberOf, cX0_numberOf, 4, (some .int), RX0)
theorem kmX0_numberOf : MKV mX0_numberOf 1 := ⟨(lk_r23 _ (List.mem_of_getElem? (i := 10) rfl)), (lk_r1 _ (List.mem_of_getElem? (i := 14) rfl)), (lk_r23 _ (List.mem_of_getElem? (i := 8) rfl)), (lk_r23 _ (List.mem_of_getElem? (i := 9) rfl)), by decide +kernel, by decide, rfl⟩
abbrev mX9_number : MD := (yX9_number, cX9_number, 2, (some .int), RX9)
theorem kmX9_number : MKV mX9_number 1 := ⟨(lk_r23 _ (List.mem_of_getElem? (i := 14) rfl)), (lk_r1 _ (List.mem_of_getElem? (i := 5) rfl)), (lk_r23 _ (List.mem_of_getElem? (i := 12) rfl)), (lk_r23 _ (List.mem_of_getElem? (i := 13) rfl)), by decide +kernel, by decide, rfl⟩
abbrev mX9_find : MD := (yX9_find, cX9_find, 4, (some .int), RX9)
theorem kmX9_find : MKV mX9_find 2 := ⟨(lk_r23 _ (List.mem_of_getElem? (i := 18) rfl)), (lk_r1 _ (List.mem_of_getElem? (i := 5) rfl)), (lk_r23 _ (List.mem_of_getElem? (i := 16) rfl)), (lk_r23 _ (List.mem_of_getElem? (i := 17) rfl)), by decide +kernel, by decide, rfl⟩
abbrev mX8_flip : MD := (yX8_flip, cX8_flip, 3, (some .int), RX8)
theorem kmX8_flip : MKV mX8_flip 1 := ⟨(lk_r23 _ (List.mem_of_getElem? (i := 22) rfl)), (lk_r1 _ (List.mem_of_getElem? (i := 2) rfl)), (lk_r23 _ (List.mem_of_getElem? (i := 20) rfl)), (lk_r23 _ (List.mem_of_getElem? (i := 21) rfl)), by decide +kernel, by decide, rfl⟩
abbrev mX0_flipAt : MD := (yX0_flipAt, cX0_flipAt, 3, none, RX0)
theorem kmX0_flipAt : MKV mX0_flipAt 1 := ⟨(lk_r24 _ (List.mem_of_getElem? (i := 2) rfl)), (lk_r1 _ (List.mem_of_getElem? (i := 14) rfl)), (lk_r24 _ (List.mem_of_getElem? (i := 0) rfl)), (lk_r24 _ (List.mem_of_getElem? (i := 1) rfl)), by decide +kernel, by decide, rfl⟩
abbrev mX9_flip : MD := (yX9_flip, cX9_flip, 2, (some .int), RX9)
theorem kmX9_flip : MKV mX9_flip 1 := ⟨(lk_r24 _ (List.mem_of_getElem? (i := 6) rfl)), (lk_r1 _ (List.mem_of_getElem? (i := 5) rfl)), (lk_r24 _ (List.mem_of_getElem? (i := 4) rfl)), (lk_r24 _ (List.mem_of_getElem? (i := 5) rfl)), by decide +kernel, by decide, rfl⟩
abbrev mX9_does : MD := (yX9_does, cX9_does, 5, none, RX9)
theorem kmX9_does : MKV mX9_does 3 := ⟨(lk_r24 _ (List.mem_of_getElem? (i := 10) rfl)), (lk_r1 _ (List.mem_of_getElem? (i := 5) rfl)), (lk_r24 _ (List.mem_of_getElem? (i := 8) rfl)), (lk_r24 _ (List.mem_of_getElem? (i := 9) rfl)), by decide +kernel, by decide, rfl⟩
abbrev mX8_other : MD := (yX8_other, cX8_other, 3, (some .int), RX8)
theorem kmX8_other : MKV mX8_other 1 := ⟨(lk_r24 _ (List.mem_of_getElem? (i := 14) rfl)), (lk_r1 _ (List.mem_of_getElem? (i := 2) rfl)), (lk_r24 _ (List.mem_of_getElem? (i := 12) rfl)), (lk_r24 _ (List.mem_of_getElem? (i := 13) rfl)), by decide +kernel, by decide, rfl⟩
abbrev mX9_other : MD := (yX9_other, cX9_other, 5, (some .int), RX9)
theorem kmX9_other : MKV mX9_other 1 := ⟨(lk_r24 _ (List.mem_of_getElem? (i := 19) rfl)), (lk_r1 _ (List.mem_of_getElem? (i := 5) rfl)), (lk_r24 _ (List.mem_of_getElem? (i := 17) rfl)), (lk_r24 _ (List.mem_of_getElem? (i := 18) rfl)), by decide +kernel, by decide, rfl⟩
abbrev mX8_plan : MD := (yX8_plan, cX8_plan, 7, (some .int), RX8)
theorem kmX8_plan : MKV mX8_plan 2 := ⟨(lk_r24 _ (List.mem_of_getElem? (i := 23) rfl)), (lk_r1 _ (List.mem_of_getElem? (i := 2) rfl)), (lk_r24 _ (List.mem_of_getElem? (i := 21) rfl)), (lk_r24 _ (List.mem_of_getElem? (i := 22) rfl)), by decide +kernel, by decide, rfl⟩
abbrev mX9_plan : MD := (yX9_plan, cX9_plan, 5, (some .int), RX9)
theorem kmX9_plan : MKV mX9_plan 2 := ⟨(lk_r25 _ (List.mem_of_getElem? (i := 5) rfl)), (lk_r1 _ (List.mem_of_getElem? (i := 5) rfl)), (lk_r25 _ (List.mem_of_getElem? (i := 3) rfl)), (lk_r25 _ (List.mem_of_getElem? (i := 4) rfl)), by decide +kernel, by decide, rfl⟩
abbrev mX8_cone : MD := (yX8_cone, cX8_cone, 4, (some .int), RX8)
theorem kmX8_cone : MKV mX8_cone 1 := ⟨(lk_r25 _ (List.mem_of_getElem? (i := 9) rfl)), (lk_r1 _ (List.mem_of_getElem? (i := 2) rfl)), (lk_r25 _ (List.mem_of_getElem? (i := 7) rfl)), (lk_r25 _ (List.mem_of_getElem? (i := 8) rfl)), by decide +kernel, by decide, rfl⟩
abbrev mX9_cone : MD := (yX9_cone, cX9_cone, 3, (some .int), RX9)
theorem kmX9_cone : MKV mX9_cone 1 := ⟨(lk_r25 _ (List.mem_of_getElem? (i := 14) rfl)), (lk_r1 _ (List.mem_of_getElem? (i := 5) rfl)), (lk_r25 _ (List.mem_of_getElem? (i := 12) rfl)), (lk_r25 _ (List.mem_of_getElem? (i := 13) rfl)), by decide +kernel, by decide, rfl⟩
abbrev mX8_back : MD := (yX8_back, cX8_back, 1, (some .int), RX8)
theorem kmX8_back : MKV mX8_back 0 := ⟨(lk_r25 _ (List.mem_of_getElem? (i := 18) rfl)), (lk_r1 _ (List.mem_of_getElem? (i := 2) rfl)), (lk_r25 _ (List.mem_of_getElem? (i := 16) rfl)), (lk_r25 _ (List.mem_of_getElem? (i := 17) rfl)), by decide +kernel, by decide, rfl⟩
abbrev mX2_restore : MD := (yX2_restore, cX2_restore, 2, none, RX2)
theorem kmX2_restore : MKV mX2_restore 1 := ⟨(lk_r25 _ (List.mem_of_getElem? (i := 22) rfl)), (lk_r1 _ (List.mem_of_getElem? (i := 21) rfl)), (lk_r25 _ (List.mem_of_getElem? (i := 20) rfl)), (lk_r25 _ (List.mem_of_getElem? (i := 21) rfl)), by decide +kernel, by decide, rfl⟩
abbrev mX9_back : MD := (yX9_back, cX9_back, 1, (some .int), RX9)
theorem kmX9_back : MKV mX9_back 0 := ⟨(lk_r26 _ (List.mem_of_getElem? (i := 2) rfl)), (lk_r1 _ (List.mem_of_getElem? (i := 5) rfl)), (lk_r26 _ (List.mem_of_getElem? (i := 0) rfl)), (lk_r26 _ (List.mem_of_getElem? (i := 1) rfl)), by decide +kernel, by decide, rfl⟩
abbrev mX8_keep : MD := (yX8_keep, cX8_keep, 1, (some .int), RX8)
theorem kmX8_keep : MKV mX8_keep 0 := ⟨(lk_r26 _ (List.mem_of_getElem? (i := 6) rfl)), (lk_r1 _ (List.mem_of_getElem? (i := 2) rfl)), (lk_r26 _ (List.mem_of_getElem? (i := 4) rfl)), (lk_r26 _ (List.mem_of_getElem? (i := 5) rfl)), by decide +kernel, by decide, rfl⟩
abbrev mX5_add : MD := (yX5_add, cX5_add, 2, (some .boolean), RX5)
theorem kmX5_add : MKV mX5_add 1 := ⟨(lk_r26 _ (List.mem_of_getElem? (i := 10) rfl)), (lk_r2 _ (List.mem_of_getElem? (i := 1) rfl)), (lk_r26 _ (List.mem_of_getElem? (i := 8) rfl)), (lk_r26 _ (List.mem_of_getElem? (i := 9) rfl)), by decide +kernel, by decide, rfl⟩
abbrev mX9_keep : MD := (yX9_keep, cX9_keep, 1, (some .int), RX9)
theorem kmX9_keep : MKV mX9_keep 0 := ⟨(lk_r26 _ (List.mem_of_getElem? (i := 16) rfl)), (lk_r1 _ (List.mem_of_getElem? (i := 5) rfl)), (lk_r26 _ (List.mem_of_getElem? (i := 14) rfl)), (lk_r26 _ (List.mem_of_getElem? (i := 15) rfl)), by decide +kernel, by decide, rfl⟩
abbrev mX8_take : MD := (yX8_take, cX8_take, 3, (some .int), RX8)
theorem kmX8_take : MKV mX8_take 1 := ⟨(lk_r26 _ (List.mem_of_getElem? (i := 21) rfl)), (lk_r1 _ (List.mem_of_getElem? (i := 2) rfl)), (lk_r26 _ (List.mem_of_getElem? (i := 19) rfl)), (lk_r26 _ (List.mem_of_getElem? (i := 20) rfl)), by decide +kernel, by decide, rfl⟩
abbrev mX5_at : MD := (yX5_at, cX5_at, 2, (some (.object "FaceFlips$Heap")), RX5)
theorem kmX5_at : MKV mX5_at 1 := ⟨(lk_r27 _ (List.mem_of_getElem? (i := 1) rfl)), (lk_r2 _ (List.mem_of_getElem? (i := 1) rfl)), (lk_r26 _ (List.mem_of_getElem? (i := 23) rfl)), (lk_r27 _ (List.mem_of_getElem? (i := 0) rfl)), by decide +kernel, by decide, rfl⟩
abbrev mX9_take : MD := (yX9_take, cX9_take, 2, (some .int), RX9)
theorem kmX9_take : MKV mX9_take 1 := ⟨(lk_r27 _ (List.mem_of_getElem? (i := 5) rfl)), (lk_r1 _ (List.mem_of_getElem? (i := 5) rfl)), (lk_r27 _ (List.mem_of_getElem? (i := 3) rfl)), (lk_r27 _ (List.mem_of_getElem? (i := 4) rfl)), by decide +kernel, by decide, rfl⟩
abbrev mX9_isKept : MD := (yX9_isKept, cX9_isKept, 2, (some .boolean), RX9)
theorem kmX9_isKept : MKV mX9_isKept 1 := ⟨(lk_r27 _ (List.mem_of_getElem? (i := 9) rfl)), (lk_r1 _ (List.mem_of_getElem? (i := 5) rfl)), (lk_r27 _ (List.mem_of_getElem? (i := 7) rfl)), (lk_r27 _ (List.mem_of_getElem? (i := 8) rfl)), by decide +kernel, by decide, rfl⟩
abbrev mX8_kept : MD := (yX8_kept, cX8_kept, 4, (some .int), RX8)
theorem kmX8_kept : MKV mX8_kept 2 := ⟨(lk_r27 _ (List.mem_of_getElem? (i := 13) rfl)), (lk_r1 _ (List.mem_of_getElem? (i := 2) rfl)), (lk_r27 _ (List.mem_of_getElem? (i := 11) rfl)), (lk_r27 _ (List.mem_of_getElem? (i := 12) rfl)), by decide +kernel, by decide, rfl⟩
abbrev mX9_kept : MD := (yX9_kept, cX9_kept, 3, (some .int), RX9)
theorem kmX9_kept : MKV mX9_kept 2 := ⟨(lk_r27 _ (List.mem_of_getElem? (i := 17) rfl)), (lk_r1 _ (List.mem_of_getElem? (i := 5) rfl)), (lk_r27 _ (List.mem_of_getElem? (i := 15) rfl)), (lk_r27 _ (List.mem_of_getElem? (i := 16) rfl)), by decide +kernel, by decide, rfl⟩
abbrev mX8_chain : MD := (yX8_chain, cX8_chain, 6, (some .int), RX8)
theorem kmX8_chain : MKV mX8_chain 3 := ⟨(lk_r27 _ (List.mem_of_getElem? (i := 21) rfl)), (lk_r1 _ (List.mem_of_getElem? (i := 2) rfl)), (lk_r27 _ (List.mem_of_getElem? (i := 19) rfl)), (lk_r27 _ (List.mem_of_getElem? (i := 20) rfl)), by decide +kernel, by decide, rfl⟩
abbrev mX4_fewest : MD := (yX4_fewest, cX4_fewest, 6, (some .int), RX4)
theorem kmX4_fewest : MKV mX4_fewest 3 := ⟨(lk_r28 _ (List.mem_of_getElem? (i := 1) rfl)), (lk_r2 _ (List.mem_of_getElem? (i := 10) rfl)), (lk_r27 _ (List.mem_of_getElem? (i := 23) rfl)), (lk_r28 _ (List.mem_of_getElem? (i := 0) rfl)), by decide +kernel, by decide, rfl⟩
abbrev mX4_gap : MD := (yX4_gap, cX4_gap, 3, (some .int), RX4)
theorem kmX4_gap : MKV mX4_gap 0 := ⟨(lk_r28 _ (List.mem_of_getElem? (i := 8) rfl)), (lk_r2 _ (List.mem_of_getElem? (i := 10) rfl)), (lk_r28 _ (List.mem_of_getElem? (i := 6) rfl)), (lk_r28 _ (List.mem_of_getElem? (i := 7) rfl)), by decide +kernel, by decide, rfl⟩
abbrev mX4_reach : MD := (yX4_reach, cX4_reach, 10, (some .boolean), RX4)
theorem kmX4_reach : MKS mX4_reach 4 := ⟨(lk_r28 _ (List.mem_of_getElem? (i := 12) rfl)), (lk_r2 _ (List.mem_of_getElem? (i := 10) rfl)), (lk_r28 _ (List.mem_of_getElem? (i := 11) rfl)), by decide +kernel, by decide, rfl⟩
abbrev mX4_widened : MD := (yX4_widened, cX4_widened, 5, (some .int), RX4)
theorem kmX4_widened : MKV mX4_widened 1 := ⟨(lk_r28 _ (List.mem_of_getElem? (i := 17) rfl)), (lk_r2 _ (List.mem_of_getElem? (i := 10) rfl)), (lk_r28 _ (List.mem_of_getElem? (i := 15) rfl)), (lk_r28 _ (List.mem_of_getElem? (i := 16) rfl)), by decide +kernel, by decide, rfl⟩
abbrev mX9_chain : MD := (yX9_chain, cX9_chain, 5, (some .int), RX9)
theorem kmX9_chain : MKV mX9_chain 3 := ⟨(lk_r28 _ (List.mem_of_getElem? (i := 23) rfl)), (lk_r1 _ (List.mem_of_getElem? (i := 5) rfl)), (lk_r28 _ (List.mem_of_getElem? (i := 21) rfl)), (lk_r28 _ (List.mem_of_getElem? (i := 22) rfl)), by decide +kernel, by decide, rfl⟩
abbrev mX9_leads : MD := (yX9_leads, cX9_leads, 6, (some .boolean), RX9)
theorem kmX9_leads : MKV mX9_leads 4 := ⟨(lk_r29 _ (List.mem_of_getElem? (i := 3) rfl)), (lk_r1 _ (List.mem_of_getElem? (i := 5) rfl)), (lk_r29 _ (List.mem_of_getElem? (i := 1) rfl)), (lk_r29 _ (List.mem_of_getElem? (i := 2) rfl)), by decide +kernel, by decide, rfl⟩
abbrev mX9_areSame : MD := (yX9_areSame, cX9_areSame, 3, (some .boolean), RX9)
theorem kmX9_areSame : MKS mX9_areSame 2 := ⟨(lk_r29 _ (List.mem_of_getElem? (i := 6) rfl)), (lk_r1 _ (List.mem_of_getElem? (i := 5) rfl)), (lk_r29 _ (List.mem_of_getElem? (i := 5) rfl)), by decide +kernel, by decide, rfl⟩
abbrev mX8_alike : MD := (yX8_alike, cX8_alike, 5, (some .int), RX8)
theorem kmX8_alike : MKV mX8_alike 2 := ⟨(lk_r29 _ (List.mem_of_getElem? (i := 10) rfl)), (lk_r1 _ (List.mem_of_getElem? (i := 2) rfl)), (lk_r29 _ (List.mem_of_getElem? (i := 8) rfl)), (lk_r29 _ (List.mem_of_getElem? (i := 9) rfl)), by decide +kernel, by decide, rfl⟩
abbrev mX1_fit : MD := (yX1_fit, cX1_fit, 3, (some .boolean), RX1)
theorem kmX1_fit : MKV mX1_fit 2 := ⟨(lk_r29 _ (List.mem_of_getElem? (i := 14) rfl)), (lk_r2 _ (List.mem_of_getElem? (i := 14) rfl)), (lk_r29 _ (List.mem_of_getElem? (i := 12) rfl)), (lk_r29 _ (List.mem_of_getElem? (i := 13) rfl)), by decide +kernel, by decide, rfl⟩
abbrev mX1_name : MD := (yX1_name, cX1_name, 4, (some .boolean), RX1)
theorem kmX1_name : MKS mX1_name 2 := ⟨(lk_r29 _ (List.mem_of_getElem? (i := 20) rfl)), (lk_r2 _ (List.mem_of_getElem? (i := 14) rfl)), (lk_r29 _ (List.mem_of_getElem? (i := 19) rfl)), by decide +kernel, by decide, rfl⟩
abbrev mX1_agrees : MD := (yX1_agrees, cX1_agrees, 6, (some .boolean), RX1)
theorem kmX1_agrees : MKV mX1_agrees 2 := ⟨(lk_r30 _ (List.mem_of_getElem? (i := 0) rfl)), (lk_r2 _ (List.mem_of_getElem? (i := 14) rfl)), (lk_r29 _ (List.mem_of_getElem? (i := 22) rfl)), (lk_r29 _ (List.mem_of_getElem? (i := 23) rfl)), by decide +kernel, by decide, rfl⟩
abbrev mX9_alike : MD := (yX9_alike, cX9_alike, 3, (some .int), RX9)
theorem kmX9_alike : MKV mX9_alike 2 := ⟨(lk_r30 _ (List.mem_of_getElem? (i := 4) rfl)), (lk_r1 _ (List.mem_of_getElem? (i := 5) rfl)), (lk_r30 _ (List.mem_of_getElem? (i := 2) rfl)), (lk_r30 _ (List.mem_of_getElem? (i := 3) rfl)), by decide +kernel, by decide, rfl⟩
abbrev mX9_canName : MD := (yX9_canName, cX9_canName, 7, (some .boolean), RX9)
theorem kmX9_canName : MKV mX9_canName 4 := ⟨(lk_r30 _ (List.mem_of_getElem? (i := 8) rfl)), (lk_r1 _ (List.mem_of_getElem? (i := 5) rfl)), (lk_r30 _ (List.mem_of_getElem? (i := 6) rfl)), (lk_r30 _ (List.mem_of_getElem? (i := 7) rfl)), by decide +kernel, by decide, rfl⟩
abbrev mX9_areNamed : MD := (yX9_areNamed, cX9_areNamed, 2, (some .boolean), RX9)
theorem kmX9_areNamed : MKS mX9_areNamed 2 := ⟨(lk_r30 _ (List.mem_of_getElem? (i := 11) rfl)), (lk_r1 _ (List.mem_of_getElem? (i := 5) rfl)), (lk_r30 _ (List.mem_of_getElem? (i := 10) rfl)), by decide +kernel, by decide, rfl⟩
abbrev mX9_named : MD := (yX9_named, cX9_named, 4, (some .int), RX9)
theorem kmX9_named : MKV mX9_named 1 := ⟨(lk_r30 _ (List.mem_of_getElem? (i := 15) rfl)), (lk_r1 _ (List.mem_of_getElem? (i := 5) rfl)), (lk_r30 _ (List.mem_of_getElem? (i := 13) rfl)), (lk_r30 _ (List.mem_of_getElem? (i := 14) rfl)), by decide +kernel, by decide, rfl⟩
abbrev mX8_common : MD := (yX8_common, cX8_common, 7, (some .int), RX8)
theorem kmX8_common : MKV mX8_common 2 := ⟨(lk_r30 _ (List.mem_of_getElem? (i := 19) rfl)), (lk_r1 _ (List.mem_of_getElem? (i := 2) rfl)), (lk_r30 _ (List.mem_of_getElem? (i := 17) rfl)), (lk_r30 _ (List.mem_of_getElem? (i := 18) rfl)), by decide +kernel, by decide, rfl⟩
abbrev mX9_common : MD := (yX9_common, cX9_common, 5, (some .int), RX9)
theorem kmX9_common : MKV mX9_common 2 := ⟨(lk_r31 _ (List.mem_of_getElem? (i := 0) rfl)), (lk_r1 _ (List.mem_of_getElem? (i := 5) rfl)), (lk_r30 _ (List.mem_of_getElem? (i := 22) rfl)), (lk_r30 _ (List.mem_of_getElem? (i := 23) rfl)), by decide +kernel, by decide, rfl⟩
abbrev mX8_fewer : MD := (yX8_fewer, cX8_fewer, 5, (some .int), RX8)
theorem kmX8_fewer : MKV mX8_fewer 1 := ⟨(lk_r31 _ (List.mem_of_getElem? (i := 4) rfl)), (lk_r1 _ (List.mem_of_getElem? (i := 2) rfl)), (lk_r31 _ (List.mem_of_getElem? (i := 2) rfl)), (lk_r31 _ (List.mem_of_getElem? (i := 3) rfl)), by decide +kernel, by decide, rfl⟩
abbrev mX0_firstFewer : MD := (yX0_firstFewer, cX0_firstFewer, 2, (some .int), RX0)
theorem kmX0_firstFewer : MKV mX0_firstFewer 0 := ⟨(lk_r31 _ (List.mem_of_getElem? (i := 8) rfl)), (lk_r1 _ (List.mem_of_getElem? (i := 14) rfl)), (lk_r31 _ (List.mem_of_getElem? (i := 6) rfl)), (lk_r31 _ (List.mem_of_getElem? (i := 7) rfl)), by decide +kernel, by decide, rfl⟩
abbrev mX9_fewer : MD := (yX9_fewer, cX9_fewer, 4, (some .int), RX9)
theorem kmX9_fewer : MKV mX9_fewer 1 := ⟨(lk_r31 _ (List.mem_of_getElem? (i := 12) rfl)), (lk_r1 _ (List.mem_of_getElem? (i := 5) rfl)), (lk_r31 _ (List.mem_of_getElem? (i := 10) rfl)), (lk_r31 _ (List.mem_of_getElem? (i := 11) rfl)), by decide +kernel, by decide, rfl⟩
abbrev mX9_firstFewer : MD := (yX9_firstFewer, cX9_firstFewer, 2, (some .int), RX9)
theorem kmX9_firstFewer : MKV mX9_firstFewer 0 := ⟨(lk_r31 _ (List.mem_of_getElem? (i := 16) rfl)), (lk_r1 _ (List.mem_of_getElem? (i := 5) rfl)), (lk_r31 _ (List.mem_of_getElem? (i := 14) rfl)), (lk_r31 _ (List.mem_of_getElem? (i := 15) rfl)), by decide +kernel, by decide, rfl⟩
abbrev mX8_walk : MD := (yX8_walk, cX8_walk, 8, (some .int), RX8)
theorem kmX8_walk : MKV mX8_walk 3 := ⟨(lk_r31 _ (List.mem_of_getElem? (i := 20) rfl)), (lk_r1 _ (List.mem_of_getElem? (i := 2) rfl)), (lk_r31 _ (List.mem_of_getElem? (i := 18) rfl)), (lk_r31 _ (List.mem_of_getElem? (i := 19) rfl)), by decide +kernel, by decide, rfl⟩
abbrev mX9_walk : MD := (yX9_walk, cX9_walk, 7, (some .int), RX9)
theorem kmX9_walk : MKV mX9_walk 3 := ⟨(lk_r32 _ (List.mem_of_getElem? (i := 3) rfl)), (lk_r1 _ (List.mem_of_getElem? (i := 5) rfl)), (lk_r32 _ (List.mem_of_getElem? (i := 1) rfl)), (lk_r32 _ (List.mem_of_getElem? (i := 2) rfl)), by decide +kernel, by decide, rfl⟩
abbrev mX8_feed : MD := (yX8_feed, cX8_feed, 2, (some .int), RX8)
theorem kmX8_feed : MKV mX8_feed 1 := ⟨(lk_r32 _ (List.mem_of_getElem? (i := 9) rfl)), (lk_r1 _ (List.mem_of_getElem? (i := 2) rfl)), (lk_r32 _ (List.mem_of_getElem? (i := 7) rfl)), (lk_r32 _ (List.mem_of_getElem? (i := 8) rfl)), by decide +kernel, by decide, rfl⟩
abbrev mX6_add : MD := (yX6_add, cX6_add, 2, (some .boolean), RX6)
theorem kmX6_add : MKV mX6_add 1 := ⟨(lk_r32 _ (List.mem_of_getElem? (i := 13) rfl)), (lk_r2 _ (List.mem_of_getElem? (i := 22) rfl)), (lk_r32 _ (List.mem_of_getElem? (i := 11) rfl)), (lk_r32 _ (List.mem_of_getElem? (i := 12) rfl)), by decide +kernel, by decide, rfl⟩
abbrev mX9_feed : MD := (yX9_feed, cX9_feed, 2, (some .int), RX9)
theorem kmX9_feed : MKV mX9_feed 1 := ⟨(lk_r32 _ (List.mem_of_getElem? (i := 18) rfl)), (lk_r1 _ (List.mem_of_getElem? (i := 5) rfl)), (lk_r32 _ (List.mem_of_getElem? (i := 16) rfl)), (lk_r32 _ (List.mem_of_getElem? (i := 17) rfl)), by decide +kernel, by decide, rfl⟩
abbrev mX8_read : MD := (yX8_read, cX8_read, 4, (some .int), RX8)
theorem kmX8_read : MKV mX8_read 0 := ⟨(lk_r32 _ (List.mem_of_getElem? (i := 23) rfl)), (lk_r1 _ (List.mem_of_getElem? (i := 2) rfl)), (lk_r32 _ (List.mem_of_getElem? (i := 21) rfl)), (lk_r32 _ (List.mem_of_getElem? (i := 22) rfl)), by decide +kernel, by decide, rfl⟩
abbrev mX6_split : MD := (yX6_split, cX6_split, 6, (some .int), RX6)
theorem kmX6_split : MKV mX6_split 0 := ⟨(lk_r33 _ (List.mem_of_getElem? (i := 3) rfl)), (lk_r2 _ (List.mem_of_getElem? (i := 22) rfl)), (lk_r33 _ (List.mem_of_getElem? (i := 1) rfl)), (lk_r33 _ (List.mem_of_getElem? (i := 2) rfl)), by decide +kernel, by decide, rfl⟩
abbrev mX6_behind : MD := (yX6_behind, cX6_behind, 5, (some .int), RX6)
theorem kmX6_behind : MKV mX6_behind 3 := ⟨(lk_r33 _ (List.mem_of_getElem? (i := 8) rfl)), (lk_r2 _ (List.mem_of_getElem? (i := 22) rfl)), (lk_r33 _ (List.mem_of_getElem? (i := 6) rfl)), (lk_r33 _ (List.mem_of_getElem? (i := 7) rfl)), by decide +kernel, by decide, rfl⟩
abbrev mX6_wordAt : MD := (yX6_wordAt, cX6_wordAt, 4, (some .int), RX6)
theorem kmX6_wordAt : MKV mX6_wordAt 2 := ⟨(lk_r33 _ (List.mem_of_getElem? (i := 12) rfl)), (lk_r2 _ (List.mem_of_getElem? (i := 22) rfl)), (lk_r33 _ (List.mem_of_getElem? (i := 10) rfl)), (lk_r33 _ (List.mem_of_getElem? (i := 11) rfl)), by decide +kernel, by decide, rfl⟩
abbrev mX6_wordOf : MD := (yX6_wordOf, cX6_wordOf, 1, (some (.object "java/lang/String")), RX6)
theorem kmX6_wordOf : MKS mX6_wordOf 1 := ⟨(lk_r33 _ (List.mem_of_getElem? (i := 15) rfl)), (lk_r2 _ (List.mem_of_getElem? (i := 22) rfl)), (lk_r33 _ (List.mem_of_getElem? (i := 14) rfl)), by decide +kernel, by decide, rfl⟩
abbrev mX6_stands : MD := (yX6_stands, cX6_stands, 5, (some .boolean), RX6)
theorem kmX6_stands : MKV mX6_stands 3 := ⟨(lk_r33 _ (List.mem_of_getElem? (i := 19) rfl)), (lk_r2 _ (List.mem_of_getElem? (i := 22) rfl)), (lk_r33 _ (List.mem_of_getElem? (i := 17) rfl)), (lk_r33 _ (List.mem_of_getElem? (i := 18) rfl)), by decide +kernel, by decide, rfl⟩
abbrev mJ0_length_8abf5 : MD := (yJ0_length_8abf5, cJ0_length_8abf5, 1, (some .int), RJ0)
theorem kmJ0_length_8abf5 : MKV mJ0_length_8abf5 0 := ⟨(lk_r34 _ (List.mem_of_getElem? (i := 0) rfl)), (lk_r33 _ (List.mem_of_getElem? (i := 23) rfl)), (lk_r33 _ (List.mem_of_getElem? (i := 21) rfl)), (lk_r33 _ (List.mem_of_getElem? (i := 22) rfl)), by decide +kernel, by decide, rfl⟩
abbrev mJ0_coder_7d493 : MD := (yJ0_coder_7d493, cJ0_coder_7d493, 1, (some .byte), RJ0)
theorem kmJ0_coder_7d493 : MKV mJ0_coder_7d493 0 := ⟨(lk_r34 _ (List.mem_of_getElem? (i := 5) rfl)), (lk_r33 _ (List.mem_of_getElem? (i := 23) rfl)), (lk_r34 _ (List.mem_of_getElem? (i := 3) rfl)), (lk_r34 _ (List.mem_of_getElem? (i := 4) rfl)), by decide +kernel, by decide, rfl⟩
abbrev mJ0_charAt_5068e : MD := (yJ0_charAt_5068e, cJ0_charAt_5068e, 2, (some .char), RJ0)
theorem kmJ0_charAt_5068e : MKV mJ0_charAt_5068e 1 := ⟨(lk_r34 _ (List.mem_of_getElem? (i := 11) rfl)), (lk_r33 _ (List.mem_of_getElem? (i := 23) rfl)), (lk_r34 _ (List.mem_of_getElem? (i := 9) rfl)), (lk_r34 _ (List.mem_of_getElem? (i := 10) rfl)), by decide +kernel, by decide, rfl⟩
abbrev mJ0_isLatin1_aae02 : MD := (yJ0_isLatin1_aae02, cJ0_isLatin1_aae02, 1, (some .boolean), RJ0)
theorem kmJ0_isLatin1_aae02 : MKV mJ0_isLatin1_aae02 0 := ⟨(lk_r34 _ (List.mem_of_getElem? (i := 15) rfl)), (lk_r33 _ (List.mem_of_getElem? (i := 23) rfl)), (lk_r34 _ (List.mem_of_getElem? (i := 13) rfl)), (lk_r34 _ (List.mem_of_getElem? (i := 14) rfl)), by decide +kernel, by decide, rfl⟩
abbrev mJ1_charAt_3b067 : MD := (yJ1_charAt_3b067, cJ1_charAt_3b067, 2, (some .char), RJ1)
theorem kmJ1_charAt_3b067 : MKS mJ1_charAt_3b067 2 := ⟨(lk_r34 _ (List.mem_of_getElem? (i := 19) rfl)), (lk_r34 _ (List.mem_of_getElem? (i := 18) rfl)), (lk_r34 _ (List.mem_of_getElem? (i := 17) rfl)), by decide +kernel, by decide, rfl⟩
abbrev mJ0_checkIndex_df160 : MD := (yJ0_checkIndex_df160, cJ0_checkIndex_df160, 2, none, RJ0)
theorem kmJ0_checkIndex_df160 : MKS mJ0_checkIndex_df160 2 := ⟨(lk_r34 _ (List.mem_of_getElem? (i := 22) rfl)), (lk_r33 _ (List.mem_of_getElem? (i := 23) rfl)), (lk_r34 _ (List.mem_of_getElem? (i := 21) rfl)), by decide +kernel, by decide, rfl⟩
abbrev mJ3_checkIndex_8e157 : MD := (yJ3_checkIndex_8e157, cJ3_checkIndex_8e157, 3, (some .int), RJ3)
theorem kmJ3_checkIndex_8e157 : MKS mJ3_checkIndex_8e157 3 := ⟨(lk_r35 _ (List.mem_of_getElem? (i := 3) rfl)), (lk_r35 _ (List.mem_of_getElem? (i := 2) rfl)), (lk_r35 _ (List.mem_of_getElem? (i := 1) rfl)), by decide +kernel, by decide, rfl⟩
abbrev mJ2_charAt_3b067 : MD := (yJ2_charAt_3b067, cJ2_charAt_3b067, 2, (some .char), RJ2)
theorem kmJ2_charAt_3b067 : MKS mJ2_charAt_3b067 2 := ⟨(lk_r35 _ (List.mem_of_getElem? (i := 7) rfl)), (lk_r35 _ (List.mem_of_getElem? (i := 6) rfl)), (lk_r35 _ (List.mem_of_getElem? (i := 5) rfl)), by decide +kernel, by decide, rfl⟩
abbrev mJ2_checkIndex_2214a : MD := (yJ2_checkIndex_2214a, cJ2_checkIndex_2214a, 2, none, RJ2)
theorem kmJ2_checkIndex_2214a : MKS mJ2_checkIndex_2214a 2 := ⟨(lk_r35 _ (List.mem_of_getElem? (i := 10) rfl)), (lk_r35 _ (List.mem_of_getElem? (i := 6) rfl)), (lk_r35 _ (List.mem_of_getElem? (i := 9) rfl)), by decide +kernel, by decide, rfl⟩
abbrev mJ2_length_9d52b : MD := (yJ2_length_9d52b, cJ2_length_9d52b, 1, (some .int), RJ2)
theorem kmJ2_length_9d52b : MKS mJ2_length_9d52b 1 := ⟨(lk_r35 _ (List.mem_of_getElem? (i := 13) rfl)), (lk_r35 _ (List.mem_of_getElem? (i := 6) rfl)), (lk_r35 _ (List.mem_of_getElem? (i := 12) rfl)), by decide +kernel, by decide, rfl⟩
abbrev mJ2_getChar_3b067 : MD := (yJ2_getChar_3b067, cJ2_getChar_3b067, 2, (some .char), RJ2)
theorem kmJ2_getChar_3b067 : MKS mJ2_getChar_3b067 2 := ⟨(lk_r35 _ (List.mem_of_getElem? (i := 17) rfl)), (lk_r35 _ (List.mem_of_getElem? (i := 6) rfl)), (lk_r35 _ (List.mem_of_getElem? (i := 16) rfl)), by decide +kernel, by decide, rfl⟩
abbrev mX8_obey : MD := (yX8_obey, cX8_obey, 3, (some .int), RX8)
theorem kmX8_obey : MKV mX8_obey 1 := ⟨(lk_r36 _ (List.mem_of_getElem? (i := 0) rfl)), (lk_r1 _ (List.mem_of_getElem? (i := 2) rfl)), (lk_r35 _ (List.mem_of_getElem? (i := 22) rfl)), (lk_r35 _ (List.mem_of_getElem? (i := 23) rfl)), by decide +kernel, by decide, rfl⟩
abbrev mX6_value : MD := (yX6_value, cX6_value, 4, (some .int), RX6)
theorem kmX6_value : MKV mX6_value 1 := ⟨(lk_r36 _ (List.mem_of_getElem? (i := 6) rfl)), (lk_r2 _ (List.mem_of_getElem? (i := 22) rfl)), (lk_r36 _ (List.mem_of_getElem? (i := 4) rfl)), (lk_r36 _ (List.mem_of_getElem? (i := 5) rfl)), by decide +kernel, by decide, rfl⟩
abbrev mX6_pointSet : MD := (yX6_pointSet, cX6_pointSet, 5, (some .int), RX6)
theorem kmX6_pointSet : MKV mX6_pointSet 1 := ⟨(lk_r36 _ (List.mem_of_getElem? (i := 13) rfl)), (lk_r2 _ (List.mem_of_getElem? (i := 22) rfl)), (lk_r36 _ (List.mem_of_getElem? (i := 11) rfl)), (lk_r36 _ (List.mem_of_getElem? (i := 12) rfl)), by decide +kernel, by decide, rfl⟩
abbrev mX9_read : MD := (yX9_read, cX9_read, 4, (some .int), RX9)
theorem kmX9_read : MKV mX9_read 0 := ⟨(lk_r36 _ (List.mem_of_getElem? (i := 18) rfl)), (lk_r1 _ (List.mem_of_getElem? (i := 5) rfl)), (lk_r36 _ (List.mem_of_getElem? (i := 16) rfl)), (lk_r36 _ (List.mem_of_getElem? (i := 17) rfl)), by decide +kernel, by decide, rfl⟩
abbrev mX9_takesAll : MD := (yX9_takesAll, cX9_takesAll, 1, (some .boolean), RX9)
theorem kmX9_takesAll : MKV mX9_takesAll 0 := ⟨(lk_r37 _ (List.mem_of_getElem? (i := 0) rfl)), (lk_r1 _ (List.mem_of_getElem? (i := 5) rfl)), (lk_r36 _ (List.mem_of_getElem? (i := 22) rfl)), (lk_r36 _ (List.mem_of_getElem? (i := 23) rfl)), by decide +kernel, by decide, rfl⟩
abbrev mX9_takesWord : MD := (yX9_takesWord, cX9_takesWord, 4, (some .boolean), RX9)
theorem kmX9_takesWord : MKV mX9_takesWord 0 := ⟨(lk_r37 _ (List.mem_of_getElem? (i := 4) rfl)), (lk_r1 _ (List.mem_of_getElem? (i := 5) rfl)), (lk_r37 _ (List.mem_of_getElem? (i := 2) rfl)), (lk_r37 _ (List.mem_of_getElem? (i := 3) rfl)), by decide +kernel, by decide, rfl⟩
abbrev mX9_isLetter : MD := (yX9_isLetter, cX9_isLetter, 2, (some .boolean), RX9)
theorem kmX9_isLetter : MKV mX9_isLetter 1 := ⟨(lk_r37 _ (List.mem_of_getElem? (i := 8) rfl)), (lk_r1 _ (List.mem_of_getElem? (i := 5) rfl)), (lk_r37 _ (List.mem_of_getElem? (i := 6) rfl)), (lk_r37 _ (List.mem_of_getElem? (i := 7) rfl)), by decide +kernel, by decide, rfl⟩
abbrev mX9_wordOf : MD := (yX9_wordOf, cX9_wordOf, 1, (some (.object "java/lang/String")), RX9)
theorem kmX9_wordOf : MKS mX9_wordOf 1 := ⟨(lk_r37 _ (List.mem_of_getElem? (i := 11) rfl)), (lk_r1 _ (List.mem_of_getElem? (i := 5) rfl)), (lk_r37 _ (List.mem_of_getElem? (i := 10) rfl)), by decide +kernel, by decide, rfl⟩
abbrev mX9_isWord : MD := (yX9_isWord, cX9_isWord, 5, (some .boolean), RX9)
theorem kmX9_isWord : MKV mX9_isWord 2 := ⟨(lk_r37 _ (List.mem_of_getElem? (i := 15) rfl)), (lk_r1 _ (List.mem_of_getElem? (i := 5) rfl)), (lk_r37 _ (List.mem_of_getElem? (i := 13) rfl)), (lk_r37 _ (List.mem_of_getElem? (i := 14) rfl)), by decide +kernel, by decide, rfl⟩
abbrev mX9_isDigit : MD := (yX9_isDigit, cX9_isDigit, 2, (some .boolean), RX9)
theorem kmX9_isDigit : MKV mX9_isDigit 1 := ⟨(lk_r37 _ (List.mem_of_getElem? (i := 21) rfl)), (lk_r1 _ (List.mem_of_getElem? (i := 5) rfl)), (lk_r37 _ (List.mem_of_getElem? (i := 19) rfl)), (lk_r37 _ (List.mem_of_getElem? (i := 20) rfl)), by decide +kernel, by decide, rfl⟩
abbrev mX9_areDigits : MD := (yX9_areDigits, cX9_areDigits, 2, (some .boolean), RX9)
theorem kmX9_areDigits : MKS mX9_areDigits 2 := ⟨(lk_r38 _ (List.mem_of_getElem? (i := 0) rfl)), (lk_r1 _ (List.mem_of_getElem? (i := 5) rfl)), (lk_r37 _ (List.mem_of_getElem? (i := 23) rfl)), by decide +kernel, by decide, rfl⟩
abbrev mX9_setOf : MD := (yX9_setOf, cX9_setOf, 5, (some .int), RX9)
theorem kmX9_setOf : MKV mX9_setOf 2 := ⟨(lk_r38 _ (List.mem_of_getElem? (i := 4) rfl)), (lk_r1 _ (List.mem_of_getElem? (i := 5) rfl)), (lk_r38 _ (List.mem_of_getElem? (i := 2) rfl)), (lk_r38 _ (List.mem_of_getElem? (i := 3) rfl)), by decide +kernel, by decide, rfl⟩
abbrev mX9_numberOf : MD := (yX9_numberOf, cX9_numberOf, 5, (some .int), RX9)
theorem kmX9_numberOf : MKV mX9_numberOf 2 := ⟨(lk_r38 _ (List.mem_of_getElem? (i := 8) rfl)), (lk_r1 _ (List.mem_of_getElem? (i := 5) rfl)), (lk_r38 _ (List.mem_of_getElem? (i := 6) rfl)), (lk_r38 _ (List.mem_of_getElem? (i := 7) rfl)), by decide +kernel, by decide, rfl⟩
abbrev mX9_isDone : MD := (yX9_isDone, cX9_isDone, 3, (some .boolean), RX9)
theorem kmX9_isDone : MKV mX9_isDone 1 := ⟨(lk_r38 _ (List.mem_of_getElem? (i := 12) rfl)), (lk_r1 _ (List.mem_of_getElem? (i := 5) rfl)), (lk_r38 _ (List.mem_of_getElem? (i := 10) rfl)), (lk_r38 _ (List.mem_of_getElem? (i := 11) rfl)), by decide +kernel, by decide, rfl⟩
abbrev mX8_spell : MD := (yX8_spell, cX8_spell, 2, (some .int), RX8)
theorem kmX8_spell : MKV mX8_spell 0 := ⟨(lk_r38 _ (List.mem_of_getElem? (i := 22) rfl)), (lk_r1 _ (List.mem_of_getElem? (i := 2) rfl)), (lk_r38 _ (List.mem_of_getElem? (i := 20) rfl)), (lk_r38 _ (List.mem_of_getElem? (i := 21) rfl)), by decide +kernel, by decide, rfl⟩
abbrev mX8_write : MD := (yX8_write, cX8_write, 2, none, RX8)
theorem kmX8_write : MKV mX8_write 1 := ⟨(lk_r39 _ (List.mem_of_getElem? (i := 3) rfl)), (lk_r1 _ (List.mem_of_getElem? (i := 2) rfl)), (lk_r39 _ (List.mem_of_getElem? (i := 1) rfl)), (lk_r39 _ (List.mem_of_getElem? (i := 2) rfl)), by decide +kernel, by decide, rfl⟩
abbrev mX8_writePoints : MD := (yX8_writePoints, cX8_writePoints, 3, none, RX8)
theorem kmX8_writePoints : MKV mX8_writePoints 1 := ⟨(lk_r39 _ (List.mem_of_getElem? (i := 7) rfl)), (lk_r1 _ (List.mem_of_getElem? (i := 2) rfl)), (lk_r39 _ (List.mem_of_getElem? (i := 5) rfl)), (lk_r39 _ (List.mem_of_getElem? (i := 6) rfl)), by decide +kernel, by decide, rfl⟩
abbrev mX9_spell : MD := (yX9_spell, cX9_spell, 3, (some .int), RX9)
theorem kmX9_spell : MKV mX9_spell 0 := ⟨(lk_r39 _ (List.mem_of_getElem? (i := 11) rfl)), (lk_r1 _ (List.mem_of_getElem? (i := 5) rfl)), (lk_r39 _ (List.mem_of_getElem? (i := 9) rfl)), (lk_r39 _ (List.mem_of_getElem? (i := 10) rfl)), by decide +kernel, by decide, rfl⟩
abbrev mX9_writes : MD := (yX9_writes, cX9_writes, 2, none, RX9)
theorem kmX9_writes : MKV mX9_writes 1 := ⟨(lk_r39 _ (List.mem_of_getElem? (i := 16) rfl)), (lk_r1 _ (List.mem_of_getElem? (i := 5) rfl)), (lk_r39 _ (List.mem_of_getElem? (i := 14) rfl)), (lk_r39 _ (List.mem_of_getElem? (i := 15) rfl)), by decide +kernel, by decide, rfl⟩
abbrev mX8_paper : MD := (yX8_paper, cX8_paper, 2, (some .int), RX8)
theorem kmX8_paper : MKV mX8_paper 1 := ⟨(lk_r39 _ (List.mem_of_getElem? (i := 20) rfl)), (lk_r1 _ (List.mem_of_getElem? (i := 2) rfl)), (lk_r39 _ (List.mem_of_getElem? (i := 18) rfl)), (lk_r39 _ (List.mem_of_getElem? (i := 19) rfl)), by decide +kernel, by decide, rfl⟩
abbrev mX9_paper : MD := (yX9_paper, cX9_paper, 2, (some .int), RX9)
theorem kmX9_paper : MKV mX9_paper 1 := ⟨(lk_r40 _ (List.mem_of_getElem? (i := 0) rfl)), (lk_r1 _ (List.mem_of_getElem? (i := 5) rfl)), (lk_r39 _ (List.mem_of_getElem? (i := 22) rfl)), (lk_r39 _ (List.mem_of_getElem? (i := 23) rfl)), by decide +kernel, by decide, rfl⟩
abbrev mX8_judge : MD := (yX8_judge, cX8_judge, 6, (some .int), RX8)
theorem kmX8_judge : MKV mX8_judge 1 := ⟨(lk_r40 _ (List.mem_of_getElem? (i := 4) rfl)), (lk_r1 _ (List.mem_of_getElem? (i := 2) rfl)), (lk_r40 _ (List.mem_of_getElem? (i := 2) rfl)), (lk_r40 _ (List.mem_of_getElem? (i := 3) rfl)), by decide +kernel, by decide, rfl⟩
abbrev mX9_judge : MD := (yX9_judge, cX9_judge, 4, (some .int), RX9)
theorem kmX9_judge : MKV mX9_judge 1 := ⟨(lk_r40 _ (List.mem_of_getElem? (i := 8) rfl)), (lk_r1 _ (List.mem_of_getElem? (i := 5) rfl)), (lk_r40 _ (List.mem_of_getElem? (i := 6) rfl)), (lk_r40 _ (List.mem_of_getElem? (i := 7) rfl)), by decide +kernel, by decide, rfl⟩
abbrev mX8_list : MD := (yX8_list, cX8_list, 3, (some .int), RX8)
theorem kmX8_list : MKV mX8_list 2 := ⟨(lk_r40 _ (List.mem_of_getElem? (i := 12) rfl)), (lk_r1 _ (List.mem_of_getElem? (i := 2) rfl)), (lk_r40 _ (List.mem_of_getElem? (i := 10) rfl)), (lk_r40 _ (List.mem_of_getElem? (i := 11) rfl)), by decide +kernel, by decide, rfl⟩
abbrev mX3_start : MD := (yX3_start, cX3_start, 4, none, RX3)
theorem kmX3_start : MKV mX3_start 2 := ⟨(lk_r40 _ (List.mem_of_getElem? (i := 16) rfl)), (lk_r2 _ (List.mem_of_getElem? (i := 18) rfl)), (lk_r40 _ (List.mem_of_getElem? (i := 14) rfl)), (lk_r40 _ (List.mem_of_getElem? (i := 15) rfl)), by decide +kernel, by decide, rfl⟩
abbrev mX3_set : MD := (yX3_set, cX3_set, 4, none, RX3)
theorem kmX3_set : MKV mX3_set 3 := ⟨(lk_r40 _ (List.mem_of_getElem? (i := 20) rfl)), (lk_r2 _ (List.mem_of_getElem? (i := 18) rfl)), (lk_r40 _ (List.mem_of_getElem? (i := 18) rfl)), (lk_r40 _ (List.mem_of_getElem? (i := 19) rfl)), by decide +kernel, by decide, rfl⟩
abbrev mX9_list : MD := (yX9_list, cX9_list, 4, (some .int), RX9)
theorem kmX9_list : MKV mX9_list 2 := ⟨(lk_r41 _ (List.mem_of_getElem? (i := 0) rfl)), (lk_r1 _ (List.mem_of_getElem? (i := 5) rfl)), (lk_r40 _ (List.mem_of_getElem? (i := 22) rfl)), (lk_r40 _ (List.mem_of_getElem? (i := 23) rfl)), by decide +kernel, by decide, rfl⟩
abbrev mX8_put : MD := (yX8_put, cX8_put, 5, (some .int), RX8)
theorem kmX8_put : MKV mX8_put 3 := ⟨(lk_r41 _ (List.mem_of_getElem? (i := 4) rfl)), (lk_r1 _ (List.mem_of_getElem? (i := 2) rfl)), (lk_r41 _ (List.mem_of_getElem? (i := 2) rfl)), (lk_r41 _ (List.mem_of_getElem? (i := 3) rfl)), by decide +kernel, by decide, rfl⟩
abbrev mX9_put : MD := (yX9_put, cX9_put, 4, (some .int), RX9)
theorem kmX9_put : MKV mX9_put 3 := ⟨(lk_r41 _ (List.mem_of_getElem? (i := 9) rfl)), (lk_r1 _ (List.mem_of_getElem? (i := 5) rfl)), (lk_r41 _ (List.mem_of_getElem? (i := 7) rfl)), (lk_r41 _ (List.mem_of_getElem? (i := 8) rfl)), by decide +kernel, by decide, rfl⟩
abbrev mX9_isPlace : MD := (yX9_isPlace, cX9_isPlace, 3, (some .boolean), RX9)
theorem kmX9_isPlace : MKV mX9_isPlace 2 := ⟨(lk_r41 _ (List.mem_of_getElem? (i := 13) rfl)), (lk_r1 _ (List.mem_of_getElem? (i := 5) rfl)), (lk_r41 _ (List.mem_of_getElem? (i := 11) rfl)), (lk_r41 _ (List.mem_of_getElem? (i := 12) rfl)), by decide +kernel, by decide, rfl⟩
abbrev mX8_get : MD := (yX8_get, cX8_get, 3, (some .long), RX8)
theorem kmX8_get : MKV mX8_get 2 := ⟨(lk_r41 _ (List.mem_of_getElem? (i := 17) rfl)), (lk_r1 _ (List.mem_of_getElem? (i := 2) rfl)), (lk_r41 _ (List.mem_of_getElem? (i := 15) rfl)), (lk_r41 _ (List.mem_of_getElem? (i := 16) rfl)), by decide +kernel, by decide, rfl⟩
abbrev mX9_get : MD := (yX9_get, cX9_get, 3, (some .long), RX9)
theorem kmX9_get : MKV mX9_get 2 := ⟨(lk_r41 _ (List.mem_of_getElem? (i := 22) rfl)), (lk_r1 _ (List.mem_of_getElem? (i := 5) rfl)), (lk_r41 _ (List.mem_of_getElem? (i := 20) rfl)), (lk_r41 _ (List.mem_of_getElem? (i := 21) rfl)), by decide +kernel, by decide, rfl⟩
abbrev mX8_copy : MD := (yX8_copy, cX8_copy, 6, (some .int), RX8)
theorem kmX8_copy : MKV mX8_copy 5 := ⟨(lk_r42 _ (List.mem_of_getElem? (i := 3) rfl)), (lk_r1 _ (List.mem_of_getElem? (i := 2) rfl)), (lk_r42 _ (List.mem_of_getElem? (i := 1) rfl)), (lk_r42 _ (List.mem_of_getElem? (i := 2) rfl)), by decide +kernel, by decide, rfl⟩
abbrev mX3_move : MD := (yX3_move, cX3_move, 6, none, RX3)
theorem kmX3_move : MKV mX3_move 5 := ⟨(lk_r42 _ (List.mem_of_getElem? (i := 7) rfl)), (lk_r2 _ (List.mem_of_getElem? (i := 18) rfl)), (lk_r42 _ (List.mem_of_getElem? (i := 5) rfl)), (lk_r42 _ (List.mem_of_getElem? (i := 6) rfl)), by decide +kernel, by decide, rfl⟩
abbrev mX9_copy : MD := (yX9_copy, cX9_copy, 6, (some .int), RX9)
theorem kmX9_copy : MKV mX9_copy 5 := ⟨(lk_r42 _ (List.mem_of_getElem? (i := 12) rfl)), (lk_r1 _ (List.mem_of_getElem? (i := 5) rfl)), (lk_r42 _ (List.mem_of_getElem? (i := 10) rfl)), (lk_r42 _ (List.mem_of_getElem? (i := 11) rfl)), by decide +kernel, by decide, rfl⟩
abbrev mX9_isSpan : MD := (yX9_isSpan, cX9_isSpan, 4, (some .boolean), RX9)
theorem kmX9_isSpan : MKV mX9_isSpan 3 := ⟨(lk_r42 _ (List.mem_of_getElem? (i := 16) rfl)), (lk_r1 _ (List.mem_of_getElem? (i := 5) rfl)), (lk_r42 _ (List.mem_of_getElem? (i := 14) rfl)), (lk_r42 _ (List.mem_of_getElem? (i := 15) rfl)), by decide +kernel, by decide, rfl⟩
abbrev mX8_image : MD := (yX8_image, cX8_image, 1, (some .int), RX8)
theorem kmX8_image : MKV mX8_image 0 := ⟨(lk_r42 _ (List.mem_of_getElem? (i := 20) rfl)), (lk_r1 _ (List.mem_of_getElem? (i := 2) rfl)), (lk_r42 _ (List.mem_of_getElem? (i := 18) rfl)), (lk_r42 _ (List.mem_of_getElem? (i := 19) rfl)), by decide +kernel, by decide, rfl⟩
abbrev mX9_image : MD := (yX9_image, cX9_image, 2, (some .int), RX9)
theorem kmX9_image : MKV mX9_image 0 := ⟨(lk_r43 _ (List.mem_of_getElem? (i := 2) rfl)), (lk_r1 _ (List.mem_of_getElem? (i := 5) rfl)), (lk_r43 _ (List.mem_of_getElem? (i := 0) rfl)), (lk_r43 _ (List.mem_of_getElem? (i := 1) rfl)), by decide +kernel, by decide, rfl⟩
abbrev mX8_undo : MD := (yX8_undo, cX8_undo, 1, (some .int), RX8)
theorem kmX8_undo : MKV mX8_undo 0 := ⟨(lk_r43 _ (List.mem_of_getElem? (i := 9) rfl)), (lk_r1 _ (List.mem_of_getElem? (i := 2) rfl)), (lk_r43 _ (List.mem_of_getElem? (i := 7) rfl)), (lk_r43 _ (List.mem_of_getElem? (i := 8) rfl)), by decide +kernel, by decide, rfl⟩
abbrev mX9_undo : MD := (yX9_undo, cX9_undo, 2, (some .int), RX9)
theorem kmX9_undo : MKV mX9_undo 0 := ⟨(lk_r43 _ (List.mem_of_getElem? (i := 13) rfl)), (lk_r1 _ (List.mem_of_getElem? (i := 5) rfl)), (lk_r43 _ (List.mem_of_getElem? (i := 11) rfl)), (lk_r43 _ (List.mem_of_getElem? (i := 12) rfl)), by decide +kernel, by decide, rfl⟩
abbrev mX8_count : MD := (yX8_count, cX8_count, 2, (some .int), RX8)
theorem kmX8_count : MKV mX8_count 1 := ⟨(lk_r43 _ (List.mem_of_getElem? (i := 17) rfl)), (lk_r1 _ (List.mem_of_getElem? (i := 2) rfl)), (lk_r43 _ (List.mem_of_getElem? (i := 15) rfl)), (lk_r43 _ (List.mem_of_getElem? (i := 16) rfl)), by decide +kernel, by decide, rfl⟩
abbrev mX9_count : MD := (yX9_count, cX9_count, 2, (some .int), RX9)
theorem kmX9_count : MKV mX9_count 1 := ⟨(lk_r43 _ (List.mem_of_getElem? (i := 21) rfl)), (lk_r1 _ (List.mem_of_getElem? (i := 5) rfl)), (lk_r43 _ (List.mem_of_getElem? (i := 19) rfl)), (lk_r43 _ (List.mem_of_getElem? (i := 20) rfl)), by decide +kernel, by decide, rfl⟩
theorem ml_L_9 : Cond.methodLink RL 9 yX8_init ∈ wsL_law := (lk_r1 _ (List.mem_of_getElem? (i := 6) rfl))
theorem ml_X8_11 : Cond.methodLink RX8 11 yX0_init ∈ wsL_law := (lk_r3 _ (List.mem_of_getElem? (i := 2) rfl))
theorem ml_X8_27 : Cond.methodLink RX8 27 yX2_init ∈ wsL_law := (lk_r3 _ (List.mem_of_getElem? (i := 8) rfl))
theorem ml_X2_17 : Cond.methodLink RX2 17 yX0_init ∈ wsL_law := (lk_r3 _ (List.mem_of_getElem? (i := 14) rfl))
theorem ml_X8_34 : Cond.methodLink RX8 34 yX5_init ∈ wsL_law := (lk_r3 _ (List.mem_of_getElem? (i := 15) rfl))
theorem ml_X5_17 : Cond.methodLink RX5 17 yX0_init ∈ wsL_law := (lk_r3 _ (List.mem_of_getElem? (i := 21) rfl))
theorem ml_X4_11 : Cond.methodLink RX4 11 yX0_init ∈ wsL_law := (lk_r4 _ (List.mem_of_getElem? (i := 11) rfl))
theorem ml_X8_65 : Cond.methodLink RX8 65 yX3_init ∈ wsL_law := (lk_r4 _ (List.mem_of_getElem? (i := 16) rfl))
theorem ml_L_12 : Cond.methodLink RL 12 yX9_init ∈ wsL_law := (lk_r5 _ (List.mem_of_getElem? (i := 5) rfl))
theorem ml_L_13 : Cond.methodLink RL 13 yX8_bodies ∈ wsL_law := (lk_r6 _ (List.mem_of_getElem? (i := 12) rfl))
theorem ml_X8_85 : Cond.methodLink RX8 85 yX0_empty ∈ wsL_law := (lk_r6 _ (List.mem_of_getElem? (i := 16) rfl))
theorem ml_X8_89 : Cond.methodLink RX8 89 yX2_forget ∈ wsL_law := (lk_r6 _ (List.mem_of_getElem? (i := 20) rfl))
theorem ml_L_17 : Cond.methodLink RL 17 yX9_bodies ∈ wsL_law := (lk_r7 _ (List.mem_of_getElem? (i := 1) rfl))
theorem ml_X9_91 : Cond.methodLink RX9 91 yX9_in ∈ wsL_law := (lk_r7 _ (List.mem_of_getElem? (i := 6) rfl))
theorem ml_L_18 : Cond.methodLink RL 18 yX8_make ∈ wsL_law := (lk_r7 _ (List.mem_of_getElem? (i := 9) rfl))
theorem ml_X8_92 : Cond.methodLink RX8 92 yX2_note ∈ wsL_law := (lk_r7 _ (List.mem_of_getElem? (i := 13) rfl))
theorem ml_X2_22 : Cond.methodLink RX2 22 yX0_copyOf ∈ wsL_law := (lk_r7 _ (List.mem_of_getElem? (i := 22) rfl))
theorem ml_X8_96 : Cond.methodLink RX8 96 yX0_become ∈ wsL_law := (lk_r8 _ (List.mem_of_getElem? (i := 6) rfl))
theorem ml_X0_35 : Cond.methodLink RX0 35 yX0_empty ∈ wsL_law := (lk_r8 _ (List.mem_of_getElem? (i := 10) rfl))
theorem ml_X0_38 : Cond.methodLink RX0 38 yX0_arc ∈ wsL_law := (lk_r8 _ (List.mem_of_getElem? (i := 11) rfl))
theorem ml_X0_31 : Cond.methodLink RX0 31 yX0_toggle ∈ wsL_law := (lk_r8 _ (List.mem_of_getElem? (i := 15) rfl))
theorem ml_X0_41 : Cond.methodLink RX0 41 yX0_toggleAround ∈ wsL_law := (lk_r8 _ (List.mem_of_getElem? (i := 19) rfl))
theorem ml_X0_44 : Cond.methodLink RX0 44 yX0_addArcs ∈ wsL_law := (lk_r8 _ (List.mem_of_getElem? (i := 23) rfl))
theorem ml_X0_47 : Cond.methodLink RX0 47 yX0_addCross ∈ wsL_law := (lk_r9 _ (List.mem_of_getElem? (i := 3) rfl))
theorem ml_X8_99 : Cond.methodLink RX8 99 yX0_total ∈ wsL_law := (lk_r9 _ (List.mem_of_getElem? (i := 7) rfl))
theorem ml_L_21 : Cond.methodLink RL 21 yX9_make ∈ wsL_law := (lk_r9 _ (List.mem_of_getElem? (i := 11) rfl))
theorem ml_X9_130 : Cond.methodLink RX9 130 yX9_remembers ∈ wsL_law := (lk_r9 _ (List.mem_of_getElem? (i := 15) rfl))
theorem ml_X9_123 : Cond.methodLink RX9 123 yX9_lays ∈ wsL_law := (lk_r9 _ (List.mem_of_getElem? (i := 19) rfl))
theorem ml_X9_110 : Cond.methodLink RX9 110 yX9_many ∈ wsL_law := (lk_r9 _ (List.mem_of_getElem? (i := 23) rfl))
theorem ml_X9_95 : Cond.methodLink RX9 95 yJ6_bitCount_0f7a4 ∈ wsL_law := (lk_r10 _ (List.mem_of_getElem? (i := 2) rfl))
theorem ml_X9_133 : Cond.methodLink RX9 133 yX9_isCross ∈ wsL_law := (lk_r10 _ (List.mem_of_getElem? (i := 9) rfl))
theorem ml_X9_127 : Cond.methodLink RX9 127 yX9_isOne ∈ wsL_law := (lk_r10 _ (List.mem_of_getElem? (i := 13) rfl))
theorem ml_X9_137 : Cond.methodLink RX9 137 yX9_run ∈ wsL_law := (lk_r10 _ (List.mem_of_getElem? (i := 16) rfl))
theorem ml_X9_140 : Cond.methodLink RX9 140 yX9_bodiesOf ∈ wsL_law := (lk_r10 _ (List.mem_of_getElem? (i := 20) rfl))
theorem ml_L_22 : Cond.methodLink RL 22 yX8_body ∈ wsL_law := (lk_r10 _ (List.mem_of_getElem? (i := 23) rfl))
theorem ml_X8_103 : Cond.methodLink RX8 103 yJ6_bitCount_0f7a4 ∈ wsL_law := (lk_r11 _ (List.mem_of_getElem? (i := 3) rfl))
theorem ml_X8_109 : Cond.methodLink RX8 109 yX0_toggle ∈ wsL_law := (lk_r11 _ (List.mem_of_getElem? (i := 4) rfl))
theorem ml_L_25 : Cond.methodLink RL 25 yX9_body ∈ wsL_law := (lk_r11 _ (List.mem_of_getElem? (i := 5) rfl))
theorem ml_X9_147 : Cond.methodLink RX9 147 yX9_isBody ∈ wsL_law := (lk_r11 _ (List.mem_of_getElem? (i := 9) rfl))
theorem ml_X9_144 : Cond.methodLink RX9 144 yX9_isSet ∈ wsL_law := (lk_r11 _ (List.mem_of_getElem? (i := 13) rfl))
theorem ml_L_26 : Cond.methodLink RL 26 yX8_bodyOf ∈ wsL_law := (lk_r11 _ (List.mem_of_getElem? (i := 16) rfl))
theorem ml_X8_112 : Cond.methodLink RX8 112 yX0_setAt ∈ wsL_law := (lk_r11 _ (List.mem_of_getElem? (i := 20) rfl))
theorem ml_X0_25 : Cond.methodLink RX0 25 yJ6_bitCount_0f7a4 ∈ wsL_law := (lk_r12 _ (List.mem_of_getElem? (i := 0) rfl))
theorem ml_L_29 : Cond.methodLink RL 29 yX9_bodyOf ∈ wsL_law := (lk_r12 _ (List.mem_of_getElem? (i := 1) rfl))
theorem ml_L_30 : Cond.methodLink RL 30 yX8_heap ∈ wsL_law := (lk_r12 _ (List.mem_of_getElem? (i := 5) rfl))
theorem ml_X8_116 : Cond.methodLink RX8 116 yX0_there ∈ wsL_law := (lk_r12 _ (List.mem_of_getElem? (i := 9) rfl))
theorem ml_X0_50 : Cond.methodLink RX0 50 yX0_linkPoints ∈ wsL_law := (lk_r12 _ (List.mem_of_getElem? (i := 13) rfl))
theorem ml_X8_119 : Cond.methodLink RX8 119 yX0_walls ∈ wsL_law := (lk_r12 _ (List.mem_of_getElem? (i := 17) rfl))
theorem ml_X0_56 : Cond.methodLink RX0 56 yX0_isWall ∈ wsL_law := (lk_r12 _ (List.mem_of_getElem? (i := 21) rfl))
theorem ml_X8_122 : Cond.methodLink RX8 122 yX0_isRight ∈ wsL_law := (lk_r13 _ (List.mem_of_getElem? (i := 1) rfl))
theorem ml_X8_126 : Cond.methodLink RX8 126 yX0_euler ∈ wsL_law := (lk_r13 _ (List.mem_of_getElem? (i := 5) rfl))
theorem ml_X0_53 : Cond.methodLink RX0 53 yX0_facesOf ∈ wsL_law := (lk_r13 _ (List.mem_of_getElem? (i := 9) rfl))
theorem ml_X8_129 : Cond.methodLink RX8 129 yX7_parts ∈ wsL_law := (lk_r13 _ (List.mem_of_getElem? (i := 13) rfl))
theorem ml_X7_51 : Cond.methodLink RX7 51 yX7_load ∈ wsL_law := (lk_r13 _ (List.mem_of_getElem? (i := 18) rfl))
theorem ml_X7_34 : Cond.methodLink RX7 34 yX0_isBody ∈ wsL_law := (lk_r13 _ (List.mem_of_getElem? (i := 23) rfl))
theorem ml_X7_55 : Cond.methodLink RX7 55 yX7_spread ∈ wsL_law := (lk_r14 _ (List.mem_of_getElem? (i := 3) rfl))
theorem ml_X7_44 : Cond.methodLink RX7 44 yX7_beside ∈ wsL_law := (lk_r14 _ (List.mem_of_getElem? (i := 7) rfl))
theorem ml_X7_38 : Cond.methodLink RX7 38 yJ6_bitCount_0f7a4 ∈ wsL_law := (lk_r14 _ (List.mem_of_getElem? (i := 11) rfl))
theorem ml_X7_48 : Cond.methodLink RX7 48 yX7_sameSign ∈ wsL_law := (lk_r14 _ (List.mem_of_getElem? (i := 12) rfl))
theorem ml_X8_133 : Cond.methodLink RX8 133 yX7_twoSided ∈ wsL_law := (lk_r14 _ (List.mem_of_getElem? (i := 16) rfl))
theorem ml_X7_59 : Cond.methodLink RX7 59 yX7_parts ∈ wsL_law := (lk_r14 _ (List.mem_of_getElem? (i := 20) rfl))
theorem ml_L_33 : Cond.methodLink RL 33 yX9_heap ∈ wsL_law := (lk_r14 _ (List.mem_of_getElem? (i := 21) rfl))
theorem ml_X9_150 : Cond.methodLink RX9 150 yX9_layFaces ∈ wsL_law := (lk_r15 _ (List.mem_of_getElem? (i := 2) rfl))
theorem ml_X9_154 : Cond.methodLink RX9 154 yX9_walls ∈ wsL_law := (lk_r15 _ (List.mem_of_getElem? (i := 6) rfl))
theorem ml_X9_116 : Cond.methodLink RX9 116 yX9_isWall ∈ wsL_law := (lk_r15 _ (List.mem_of_getElem? (i := 10) rfl))
theorem ml_X9_157 : Cond.methodLink RX9 157 yX9_right ∈ wsL_law := (lk_r15 _ (List.mem_of_getElem? (i := 14) rfl))
theorem ml_X9_161 : Cond.methodLink RX9 161 yX9_euler ∈ wsL_law := (lk_r15 _ (List.mem_of_getElem? (i := 18) rfl))
theorem ml_X9_113 : Cond.methodLink RX9 113 yX9_facesOf ∈ wsL_law := (lk_r15 _ (List.mem_of_getElem? (i := 22) rfl))
theorem ml_X9_164 : Cond.methodLink RX9 164 yX9_parts ∈ wsL_law := (lk_r16 _ (List.mem_of_getElem? (i := 2) rfl))
theorem ml_X9_174 : Cond.methodLink RX9 174 yX9_spreads ∈ wsL_law := (lk_r16 _ (List.mem_of_getElem? (i := 6) rfl))
theorem ml_X9_171 : Cond.methodLink RX9 171 yX9_areBeside ∈ wsL_law := (lk_r16 _ (List.mem_of_getElem? (i := 10) rfl))
theorem ml_X9_167 : Cond.methodLink RX9 167 yX9_isTwoSided ∈ wsL_law := (lk_r16 _ (List.mem_of_getElem? (i := 14) rfl))
theorem ml_X9_188 : Cond.methodLink RX9 188 yX9_areAgreed ∈ wsL_law := (lk_r16 _ (List.mem_of_getElem? (i := 18) rfl))
theorem ml_X9_191 : Cond.methodLink RX9 191 yX9_areSigned ∈ wsL_law := (lk_r16 _ (List.mem_of_getElem? (i := 22) rfl))
theorem ml_X9_184 : Cond.methodLink RX9 184 yX9_below ∈ wsL_law := (lk_r17 _ (List.mem_of_getElem? (i := 2) rfl))
theorem ml_L_34 : Cond.methodLink RL 34 yX8_faces ∈ wsL_law := (lk_r17 _ (List.mem_of_getElem? (i := 6) rfl))
theorem ml_X8_137 : Cond.methodLink RX8 137 yX0_facesOf ∈ wsL_law := (lk_r17 _ (List.mem_of_getElem? (i := 10) rfl))
theorem ml_L_37 : Cond.methodLink RL 37 yX9_faces ∈ wsL_law := (lk_r17 _ (List.mem_of_getElem? (i := 11) rfl))
theorem ml_L_38 : Cond.methodLink RL 38 yX8_face ∈ wsL_law := (lk_r17 _ (List.mem_of_getElem? (i := 15) rfl))
theorem ml_X8_140 : Cond.methodLink RX8 140 yX8_isSet ∈ wsL_law := (lk_r17 _ (List.mem_of_getElem? (i := 19) rfl))
theorem ml_X8_144 : Cond.methodLink RX8 144 yX0_holders ∈ wsL_law := (lk_r17 _ (List.mem_of_getElem? (i := 22) rfl))
theorem ml_X8_147 : Cond.methodLink RX8 147 yX0_linkSets ∈ wsL_law := (lk_r18 _ (List.mem_of_getElem? (i := 2) rfl))
theorem ml_X8_150 : Cond.methodLink RX8 150 yX0_linkPoints ∈ wsL_law := (lk_r18 _ (List.mem_of_getElem? (i := 6) rfl))
theorem ml_L_42 : Cond.methodLink RL 42 yX9_face ∈ wsL_law := (lk_r18 _ (List.mem_of_getElem? (i := 7) rfl))
theorem ml_X9_194 : Cond.methodLink RX9 194 yX9_linkOf ∈ wsL_law := (lk_r18 _ (List.mem_of_getElem? (i := 11) rfl))
theorem ml_X9_197 : Cond.methodLink RX9 197 yX9_linked ∈ wsL_law := (lk_r18 _ (List.mem_of_getElem? (i := 15) rfl))
theorem ml_L_43 : Cond.methodLink RL 43 yX8_wall ∈ wsL_law := (lk_r18 _ (List.mem_of_getElem? (i := 19) rfl))
theorem ml_L_46 : Cond.methodLink RL 46 yX9_wall ∈ wsL_law := (lk_r18 _ (List.mem_of_getElem? (i := 23) rfl))
theorem ml_L_47 : Cond.methodLink RL 47 yX8_apart ∈ wsL_law := (lk_r19 _ (List.mem_of_getElem? (i := 3) rfl))
theorem ml_X8_153 : Cond.methodLink RX8 153 yX7_between ∈ wsL_law := (lk_r19 _ (List.mem_of_getElem? (i := 7) rfl))
theorem ml_L_50 : Cond.methodLink RL 50 yX9_apart ∈ wsL_law := (lk_r19 _ (List.mem_of_getElem? (i := 11) rfl))
theorem ml_X9_181 : Cond.methodLink RX9 181 yX9_bodyAt ∈ wsL_law := (lk_r19 _ (List.mem_of_getElem? (i := 15) rfl))
theorem ml_X9_178 : Cond.methodLink RX9 178 yX9_bodyOf ∈ wsL_law := (lk_r19 _ (List.mem_of_getElem? (i := 19) rfl))
theorem ml_L_51 : Cond.methodLink RL 51 yX8_shelled ∈ wsL_law := (lk_r19 _ (List.mem_of_getElem? (i := 20) rfl))
theorem ml_X8_157 : Cond.methodLink RX8 157 yX3_state ∈ wsL_law := (lk_r20 _ (List.mem_of_getElem? (i := 0) rfl))
theorem ml_X3_18 : Cond.methodLink RX3 18 yX3_isList ∈ wsL_law := (lk_r20 _ (List.mem_of_getElem? (i := 5) rfl))
theorem ml_X8_160 : Cond.methodLink RX8 160 yX7_load ∈ wsL_law := (lk_r20 _ (List.mem_of_getElem? (i := 9) rfl))
theorem ml_X8_163 : Cond.methodLink RX8 163 yX3_sizeOf ∈ wsL_law := (lk_r20 _ (List.mem_of_getElem? (i := 10) rfl))
theorem ml_X8_166 : Cond.methodLink RX8 166 yX7_fits ∈ wsL_law := (lk_r20 _ (List.mem_of_getElem? (i := 14) rfl))
theorem ml_X7_63 : Cond.methodLink RX7 63 yX3_at ∈ wsL_law := (lk_r20 _ (List.mem_of_getElem? (i := 18) rfl))
theorem ml_X7_69 : Cond.methodLink RX7 69 yX7_bodyAt ∈ wsL_law := (lk_r20 _ (List.mem_of_getElem? (i := 22) rfl))
theorem ml_L_54 : Cond.methodLink RL 54 yX9_shelled ∈ wsL_law := (lk_r21 _ (List.mem_of_getElem? (i := 2) rfl))
theorem ml_X9_336 : Cond.methodLink RX9 336 yX9_isList ∈ wsL_law := (lk_r21 _ (List.mem_of_getElem? (i := 6) rfl))
theorem ml_X9_339 : Cond.methodLink RX9 339 yX9_isAgain ∈ wsL_law := (lk_r21 _ (List.mem_of_getElem? (i := 9) rfl))
theorem ml_X9_342 : Cond.methodLink RX9 342 yX9_isFit ∈ wsL_law := (lk_r21 _ (List.mem_of_getElem? (i := 13) rfl))
theorem ml_L_55 : Cond.methodLink RL 55 yX8_flips ∈ wsL_law := (lk_r21 _ (List.mem_of_getElem? (i := 17) rfl))
theorem ml_X8_176 : Cond.methodLink RX8 176 yX0_gather ∈ wsL_law := (lk_r21 _ (List.mem_of_getElem? (i := 21) rfl))
theorem ml_X0_64 : Cond.methodLink RX0 64 yX0_partner ∈ wsL_law := (lk_r22 _ (List.mem_of_getElem? (i := 1) rfl))
theorem ml_X0_60 : Cond.methodLink RX0 60 yX0_there ∈ wsL_law := (lk_r22 _ (List.mem_of_getElem? (i := 5) rfl))
theorem ml_L_58 : Cond.methodLink RL 58 yX9_flips ∈ wsL_law := (lk_r22 _ (List.mem_of_getElem? (i := 6) rfl))
theorem ml_X9_203 : Cond.methodLink RX9 203 yX9_layFlips ∈ wsL_law := (lk_r22 _ (List.mem_of_getElem? (i := 10) rfl))
theorem ml_X9_200 : Cond.methodLink RX9 200 yX9_forWhat ∈ wsL_law := (lk_r22 _ (List.mem_of_getElem? (i := 14) rfl))
theorem ml_L_59 : Cond.methodLink RL 59 yX8_flipOf ∈ wsL_law := (lk_r22 _ (List.mem_of_getElem? (i := 18) rfl))
theorem ml_X8_180 : Cond.methodLink RX8 180 yX0_partner ∈ wsL_law := (lk_r22 _ (List.mem_of_getElem? (i := 22) rfl))
theorem ml_L_62 : Cond.methodLink RL 62 yX9_flipOf ∈ wsL_law := (lk_r22 _ (List.mem_of_getElem? (i := 23) rfl))
theorem ml_L_63 : Cond.methodLink RL 63 yX8_number ∈ wsL_law := (lk_r23 _ (List.mem_of_getElem? (i := 3) rfl))
theorem ml_X8_183 : Cond.methodLink RX8 183 yX0_numberOf ∈ wsL_law := (lk_r23 _ (List.mem_of_getElem? (i := 7) rfl))
theorem ml_L_66 : Cond.methodLink RL 66 yX9_number ∈ wsL_law := (lk_r23 _ (List.mem_of_getElem? (i := 11) rfl))
theorem ml_X9_207 : Cond.methodLink RX9 207 yX9_find ∈ wsL_law := (lk_r23 _ (List.mem_of_getElem? (i := 15) rfl))
theorem ml_L_67 : Cond.methodLink RL 67 yX8_flip ∈ wsL_law := (lk_r23 _ (List.mem_of_getElem? (i := 19) rfl))
theorem ml_X8_186 : Cond.methodLink RX8 186 yX0_flipAt ∈ wsL_law := (lk_r23 _ (List.mem_of_getElem? (i := 23) rfl))
theorem ml_L_70 : Cond.methodLink RL 70 yX9_flip ∈ wsL_law := (lk_r24 _ (List.mem_of_getElem? (i := 3) rfl))
theorem ml_X9_210 : Cond.methodLink RX9 210 yX9_does ∈ wsL_law := (lk_r24 _ (List.mem_of_getElem? (i := 7) rfl))
theorem ml_L_71 : Cond.methodLink RL 71 yX8_other ∈ wsL_law := (lk_r24 _ (List.mem_of_getElem? (i := 11) rfl))
theorem ml_X8_170 : Cond.methodLink RX8 170 yX0_copyOf ∈ wsL_law := (lk_r24 _ (List.mem_of_getElem? (i := 15) rfl))
theorem ml_L_74 : Cond.methodLink RL 74 yX9_other ∈ wsL_law := (lk_r24 _ (List.mem_of_getElem? (i := 16) rfl))
theorem ml_L_75 : Cond.methodLink RL 75 yX8_plan ∈ wsL_law := (lk_r24 _ (List.mem_of_getElem? (i := 20) rfl))
theorem ml_X8_189 : Cond.methodLink RX8 189 yX3_isList ∈ wsL_law := (lk_r25 _ (List.mem_of_getElem? (i := 0) rfl))
theorem ml_X8_192 : Cond.methodLink RX8 192 yX3_at ∈ wsL_law := (lk_r25 _ (List.mem_of_getElem? (i := 1) rfl))
theorem ml_L_78 : Cond.methodLink RL 78 yX9_plan ∈ wsL_law := (lk_r25 _ (List.mem_of_getElem? (i := 2) rfl))
theorem ml_L_79 : Cond.methodLink RL 79 yX8_cone ∈ wsL_law := (lk_r25 _ (List.mem_of_getElem? (i := 6) rfl))
theorem ml_X8_173 : Cond.methodLink RX8 173 yX0_isWall ∈ wsL_law := (lk_r25 _ (List.mem_of_getElem? (i := 10) rfl))
theorem ml_L_82 : Cond.methodLink RL 82 yX9_cone ∈ wsL_law := (lk_r25 _ (List.mem_of_getElem? (i := 11) rfl))
theorem ml_L_83 : Cond.methodLink RL 83 yX8_back ∈ wsL_law := (lk_r25 _ (List.mem_of_getElem? (i := 15) rfl))
theorem ml_X8_205 : Cond.methodLink RX8 205 yX2_restore ∈ wsL_law := (lk_r25 _ (List.mem_of_getElem? (i := 19) rfl))
theorem ml_L_87 : Cond.methodLink RL 87 yX9_back ∈ wsL_law := (lk_r25 _ (List.mem_of_getElem? (i := 23) rfl))
theorem ml_L_88 : Cond.methodLink RL 88 yX8_keep ∈ wsL_law := (lk_r26 _ (List.mem_of_getElem? (i := 3) rfl))
theorem ml_X8_208 : Cond.methodLink RX8 208 yX5_add ∈ wsL_law := (lk_r26 _ (List.mem_of_getElem? (i := 7) rfl))
theorem ml_X5_22 : Cond.methodLink RX5 22 yX0_copyOf ∈ wsL_law := (lk_r26 _ (List.mem_of_getElem? (i := 12) rfl))
theorem ml_L_91 : Cond.methodLink RL 91 yX9_keep ∈ wsL_law := (lk_r26 _ (List.mem_of_getElem? (i := 13) rfl))
theorem ml_L_92 : Cond.methodLink RL 92 yX8_take ∈ wsL_law := (lk_r26 _ (List.mem_of_getElem? (i := 18) rfl))
theorem ml_X8_214 : Cond.methodLink RX8 214 yX5_at ∈ wsL_law := (lk_r26 _ (List.mem_of_getElem? (i := 22) rfl))
theorem ml_L_95 : Cond.methodLink RL 95 yX9_take ∈ wsL_law := (lk_r27 _ (List.mem_of_getElem? (i := 2) rfl))
theorem ml_X9_217 : Cond.methodLink RX9 217 yX9_isKept ∈ wsL_law := (lk_r27 _ (List.mem_of_getElem? (i := 6) rfl))
theorem ml_L_96 : Cond.methodLink RL 96 yX8_kept ∈ wsL_law := (lk_r27 _ (List.mem_of_getElem? (i := 10) rfl))
theorem ml_L_99 : Cond.methodLink RL 99 yX9_kept ∈ wsL_law := (lk_r27 _ (List.mem_of_getElem? (i := 14) rfl))
theorem ml_L_100 : Cond.methodLink RL 100 yX8_chain ∈ wsL_law := (lk_r27 _ (List.mem_of_getElem? (i := 18) rfl))
theorem ml_X8_217 : Cond.methodLink RX8 217 yX4_fewest ∈ wsL_law := (lk_r27 _ (List.mem_of_getElem? (i := 22) rfl))
theorem ml_X4_22 : Cond.methodLink RX4 22 yX0_copyOf ∈ wsL_law := (lk_r28 _ (List.mem_of_getElem? (i := 4) rfl))
theorem ml_X4_33 : Cond.methodLink RX4 33 yX4_gap ∈ wsL_law := (lk_r28 _ (List.mem_of_getElem? (i := 5) rfl))
theorem ml_X4_41 : Cond.methodLink RX4 41 yX0_isBody ∈ wsL_law := (lk_r28 _ (List.mem_of_getElem? (i := 9) rfl))
theorem ml_X4_37 : Cond.methodLink RX4 37 yX4_reach ∈ wsL_law := (lk_r28 _ (List.mem_of_getElem? (i := 10) rfl))
theorem ml_X4_51 : Cond.methodLink RX4 51 yX0_partner ∈ wsL_law := (lk_r28 _ (List.mem_of_getElem? (i := 13) rfl))
theorem ml_X4_55 : Cond.methodLink RX4 55 yX4_widened ∈ wsL_law := (lk_r28 _ (List.mem_of_getElem? (i := 14) rfl))
theorem ml_X4_58 : Cond.methodLink RX4 58 yJ6_bitCount_0f7a4 ∈ wsL_law := (lk_r28 _ (List.mem_of_getElem? (i := 18) rfl))
theorem ml_X4_63 : Cond.methodLink RX4 63 yX0_toggleAround ∈ wsL_law := (lk_r28 _ (List.mem_of_getElem? (i := 19) rfl))
theorem ml_L_104 : Cond.methodLink RL 104 yX9_chain ∈ wsL_law := (lk_r28 _ (List.mem_of_getElem? (i := 20) rfl))
theorem ml_X9_224 : Cond.methodLink RX9 224 yX9_leads ∈ wsL_law := (lk_r29 _ (List.mem_of_getElem? (i := 0) rfl))
theorem ml_X9_220 : Cond.methodLink RX9 220 yX9_areSame ∈ wsL_law := (lk_r29 _ (List.mem_of_getElem? (i := 4) rfl))
theorem ml_L_105 : Cond.methodLink RL 105 yX8_alike ∈ wsL_law := (lk_r29 _ (List.mem_of_getElem? (i := 7) rfl))
theorem ml_X8_224 : Cond.methodLink RX8 224 yX1_fit ∈ wsL_law := (lk_r29 _ (List.mem_of_getElem? (i := 11) rfl))
theorem ml_X1_21 : Cond.methodLink RX1 21 yX0_total ∈ wsL_law := (lk_r29 _ (List.mem_of_getElem? (i := 17) rfl))
theorem ml_X1_32 : Cond.methodLink RX1 32 yX1_name ∈ wsL_law := (lk_r29 _ (List.mem_of_getElem? (i := 18) rfl))
theorem ml_X1_36 : Cond.methodLink RX1 36 yX1_agrees ∈ wsL_law := (lk_r29 _ (List.mem_of_getElem? (i := 21) rfl))
theorem ml_L_108 : Cond.methodLink RL 108 yX9_alike ∈ wsL_law := (lk_r30 _ (List.mem_of_getElem? (i := 1) rfl))
theorem ml_X9_234 : Cond.methodLink RX9 234 yX9_canName ∈ wsL_law := (lk_r30 _ (List.mem_of_getElem? (i := 5) rfl))
theorem ml_X9_228 : Cond.methodLink RX9 228 yX9_areNamed ∈ wsL_law := (lk_r30 _ (List.mem_of_getElem? (i := 9) rfl))
theorem ml_X9_231 : Cond.methodLink RX9 231 yX9_named ∈ wsL_law := (lk_r30 _ (List.mem_of_getElem? (i := 12) rfl))
theorem ml_L_109 : Cond.methodLink RL 109 yX8_common ∈ wsL_law := (lk_r30 _ (List.mem_of_getElem? (i := 16) rfl))
theorem ml_X8_228 : Cond.methodLink RX8 228 yX0_isBody ∈ wsL_law := (lk_r30 _ (List.mem_of_getElem? (i := 20) rfl))
theorem ml_L_112 : Cond.methodLink RL 112 yX9_common ∈ wsL_law := (lk_r30 _ (List.mem_of_getElem? (i := 21) rfl))
theorem ml_L_113 : Cond.methodLink RL 113 yX8_fewer ∈ wsL_law := (lk_r31 _ (List.mem_of_getElem? (i := 1) rfl))
theorem ml_X8_196 : Cond.methodLink RX8 196 yX0_firstFewer ∈ wsL_law := (lk_r31 _ (List.mem_of_getElem? (i := 5) rfl))
theorem ml_L_116 : Cond.methodLink RL 116 yX9_fewer ∈ wsL_law := (lk_r31 _ (List.mem_of_getElem? (i := 9) rfl))
theorem ml_X9_238 : Cond.methodLink RX9 238 yX9_firstFewer ∈ wsL_law := (lk_r31 _ (List.mem_of_getElem? (i := 13) rfl))
theorem ml_L_117 : Cond.methodLink RL 117 yX8_walk ∈ wsL_law := (lk_r31 _ (List.mem_of_getElem? (i := 17) rfl))
theorem ml_L_120 : Cond.methodLink RL 120 yX9_walk ∈ wsL_law := (lk_r32 _ (List.mem_of_getElem? (i := 0) rfl))
theorem ml_L_121 : Cond.methodLink RL 121 yX8_feed ∈ wsL_law := (lk_r32 _ (List.mem_of_getElem? (i := 6) rfl))
theorem ml_X8_238 : Cond.methodLink RX8 238 yX6_add ∈ wsL_law := (lk_r32 _ (List.mem_of_getElem? (i := 10) rfl))
theorem ml_L_124 : Cond.methodLink RL 124 yX9_feed ∈ wsL_law := (lk_r32 _ (List.mem_of_getElem? (i := 15) rfl))
theorem ml_L_125 : Cond.methodLink RL 125 yX8_read ∈ wsL_law := (lk_r32 _ (List.mem_of_getElem? (i := 20) rfl))
theorem ml_X8_243 : Cond.methodLink RX8 243 yX6_split ∈ wsL_law := (lk_r33 _ (List.mem_of_getElem? (i := 0) rfl))
theorem ml_X6_32 : Cond.methodLink RX6 32 yX6_behind ∈ wsL_law := (lk_r33 _ (List.mem_of_getElem? (i := 5) rfl))
theorem ml_X6_36 : Cond.methodLink RX6 36 yX6_wordAt ∈ wsL_law := (lk_r33 _ (List.mem_of_getElem? (i := 9) rfl))
theorem ml_X6_46 : Cond.methodLink RX6 46 yX6_wordOf ∈ wsL_law := (lk_r33 _ (List.mem_of_getElem? (i := 13) rfl))
theorem ml_X6_50 : Cond.methodLink RX6 50 yX6_stands ∈ wsL_law := (lk_r33 _ (List.mem_of_getElem? (i := 16) rfl))
theorem ml_X6_54 : Cond.methodLink RX6 54 yJ0_length_8abf5 ∈ wsL_law := (lk_r33 _ (List.mem_of_getElem? (i := 20) rfl))
theorem ml_J0_335 : Cond.methodLink RJ0 335 yJ0_coder_7d493 ∈ wsL_law := (lk_r34 _ (List.mem_of_getElem? (i := 2) rfl))
theorem ml_X6_60 : Cond.methodLink RX6 60 yJ0_charAt_5068e ∈ wsL_law := (lk_r34 _ (List.mem_of_getElem? (i := 8) rfl))
theorem ml_J0_492 : Cond.methodLink RJ0 492 yJ0_isLatin1_aae02 ∈ wsL_law := (lk_r34 _ (List.mem_of_getElem? (i := 12) rfl))
theorem ml_J0_495 : Cond.methodLink RJ0 495 yJ1_charAt_3b067 ∈ wsL_law := (lk_r34 _ (List.mem_of_getElem? (i := 16) rfl))
theorem ml_J1_9 : Cond.methodLink RJ1 9 yJ0_checkIndex_df160 ∈ wsL_law := (lk_r34 _ (List.mem_of_getElem? (i := 20) rfl))
theorem ml_J0_1059 : Cond.methodLink RJ0 1059 yJ3_checkIndex_8e157 ∈ wsL_law := (lk_r35 _ (List.mem_of_getElem? (i := 0) rfl))
theorem ml_J0_498 : Cond.methodLink RJ0 498 yJ2_charAt_3b067 ∈ wsL_law := (lk_r35 _ (List.mem_of_getElem? (i := 4) rfl))
theorem ml_J2_67 : Cond.methodLink RJ2 67 yJ2_checkIndex_2214a ∈ wsL_law := (lk_r35 _ (List.mem_of_getElem? (i := 8) rfl))
theorem ml_J2_48 : Cond.methodLink RJ2 48 yJ2_length_9d52b ∈ wsL_law := (lk_r35 _ (List.mem_of_getElem? (i := 11) rfl))
theorem ml_J2_414 : Cond.methodLink RJ2 414 yJ0_checkIndex_df160 ∈ wsL_law := (lk_r35 _ (List.mem_of_getElem? (i := 14) rfl))
theorem ml_J2_71 : Cond.methodLink RJ2 71 yJ2_getChar_3b067 ∈ wsL_law := (lk_r35 _ (List.mem_of_getElem? (i := 15) rfl))
theorem ml_X8_249 : Cond.methodLink RX8 249 yX8_obey ∈ wsL_law := (lk_r35 _ (List.mem_of_getElem? (i := 21) rfl))
theorem ml_X8_278 : Cond.methodLink RX8 278 yX8_make ∈ wsL_law := (lk_r36 _ (List.mem_of_getElem? (i := 1) rfl))
theorem ml_X8_281 : Cond.methodLink RX8 281 yX8_bodies ∈ wsL_law := (lk_r36 _ (List.mem_of_getElem? (i := 2) rfl))
theorem ml_X8_284 : Cond.methodLink RX8 284 yX6_value ∈ wsL_law := (lk_r36 _ (List.mem_of_getElem? (i := 3) rfl))
theorem ml_X8_287 : Cond.methodLink RX8 287 yX8_flip ∈ wsL_law := (lk_r36 _ (List.mem_of_getElem? (i := 7) rfl))
theorem ml_X8_290 : Cond.methodLink RX8 290 yX8_keep ∈ wsL_law := (lk_r36 _ (List.mem_of_getElem? (i := 8) rfl))
theorem ml_X8_293 : Cond.methodLink RX8 293 yX8_take ∈ wsL_law := (lk_r36 _ (List.mem_of_getElem? (i := 9) rfl))
theorem ml_X8_296 : Cond.methodLink RX8 296 yX6_pointSet ∈ wsL_law := (lk_r36 _ (List.mem_of_getElem? (i := 10) rfl))
theorem ml_X8_299 : Cond.methodLink RX8 299 yX8_body ∈ wsL_law := (lk_r36 _ (List.mem_of_getElem? (i := 14) rfl))
theorem ml_L_128 : Cond.methodLink RL 128 yX9_read ∈ wsL_law := (lk_r36 _ (List.mem_of_getElem? (i := 15) rfl))
theorem ml_X9_324 : Cond.methodLink RX9 324 yX9_takesAll ∈ wsL_law := (lk_r36 _ (List.mem_of_getElem? (i := 21) rfl))
theorem ml_X9_307 : Cond.methodLink RX9 307 yX9_takesWord ∈ wsL_law := (lk_r37 _ (List.mem_of_getElem? (i := 1) rfl))
theorem ml_X9_281 : Cond.methodLink RX9 281 yX9_isLetter ∈ wsL_law := (lk_r37 _ (List.mem_of_getElem? (i := 5) rfl))
theorem ml_X9_284 : Cond.methodLink RX9 284 yX9_wordOf ∈ wsL_law := (lk_r37 _ (List.mem_of_getElem? (i := 9) rfl))
theorem ml_X9_288 : Cond.methodLink RX9 288 yX9_isWord ∈ wsL_law := (lk_r37 _ (List.mem_of_getElem? (i := 12) rfl))
theorem ml_X9_272 : Cond.methodLink RX9 272 yJ0_length_8abf5 ∈ wsL_law := (lk_r37 _ (List.mem_of_getElem? (i := 16) rfl))
theorem ml_X9_277 : Cond.methodLink RX9 277 yJ0_charAt_5068e ∈ wsL_law := (lk_r37 _ (List.mem_of_getElem? (i := 17) rfl))
theorem ml_X9_292 : Cond.methodLink RX9 292 yX9_isDigit ∈ wsL_law := (lk_r37 _ (List.mem_of_getElem? (i := 18) rfl))
theorem ml_X9_295 : Cond.methodLink RX9 295 yX9_areDigits ∈ wsL_law := (lk_r37 _ (List.mem_of_getElem? (i := 22) rfl))
theorem ml_X9_301 : Cond.methodLink RX9 301 yX9_setOf ∈ wsL_law := (lk_r38 _ (List.mem_of_getElem? (i := 1) rfl))
theorem ml_X9_304 : Cond.methodLink RX9 304 yX9_numberOf ∈ wsL_law := (lk_r38 _ (List.mem_of_getElem? (i := 5) rfl))
theorem ml_X9_327 : Cond.methodLink RX9 327 yX9_isDone ∈ wsL_law := (lk_r38 _ (List.mem_of_getElem? (i := 9) rfl))
theorem ml_X9_310 : Cond.methodLink RX9 310 yX9_make ∈ wsL_law := (lk_r38 _ (List.mem_of_getElem? (i := 13) rfl))
theorem ml_X9_313 : Cond.methodLink RX9 313 yX9_bodies ∈ wsL_law := (lk_r38 _ (List.mem_of_getElem? (i := 14) rfl))
theorem ml_X9_316 : Cond.methodLink RX9 316 yX9_keep ∈ wsL_law := (lk_r38 _ (List.mem_of_getElem? (i := 15) rfl))
theorem ml_X9_318 : Cond.methodLink RX9 318 yX9_flip ∈ wsL_law := (lk_r38 _ (List.mem_of_getElem? (i := 16) rfl))
theorem ml_X9_320 : Cond.methodLink RX9 320 yX9_take ∈ wsL_law := (lk_r38 _ (List.mem_of_getElem? (i := 17) rfl))
theorem ml_X9_322 : Cond.methodLink RX9 322 yX9_body ∈ wsL_law := (lk_r38 _ (List.mem_of_getElem? (i := 18) rfl))
theorem ml_L_129 : Cond.methodLink RL 129 yX8_spell ∈ wsL_law := (lk_r38 _ (List.mem_of_getElem? (i := 19) rfl))
theorem ml_X8_255 : Cond.methodLink RX8 255 yX8_write ∈ wsL_law := (lk_r39 _ (List.mem_of_getElem? (i := 0) rfl))
theorem ml_X8_258 : Cond.methodLink RX8 258 yX8_writePoints ∈ wsL_law := (lk_r39 _ (List.mem_of_getElem? (i := 4) rfl))
theorem ml_L_132 : Cond.methodLink RL 132 yX9_spell ∈ wsL_law := (lk_r39 _ (List.mem_of_getElem? (i := 8) rfl))
theorem ml_X9_333 : Cond.methodLink RX9 333 yX9_writes ∈ wsL_law := (lk_r39 _ (List.mem_of_getElem? (i := 13) rfl))
theorem ml_L_133 : Cond.methodLink RL 133 yX8_paper ∈ wsL_law := (lk_r39 _ (List.mem_of_getElem? (i := 17) rfl))
theorem ml_L_136 : Cond.methodLink RL 136 yX9_paper ∈ wsL_law := (lk_r39 _ (List.mem_of_getElem? (i := 21) rfl))
theorem ml_L_137 : Cond.methodLink RL 137 yX8_judge ∈ wsL_law := (lk_r40 _ (List.mem_of_getElem? (i := 1) rfl))
theorem ml_L_140 : Cond.methodLink RL 140 yX9_judge ∈ wsL_law := (lk_r40 _ (List.mem_of_getElem? (i := 5) rfl))
theorem ml_L_141 : Cond.methodLink RL 141 yX8_list ∈ wsL_law := (lk_r40 _ (List.mem_of_getElem? (i := 9) rfl))
theorem ml_X8_261 : Cond.methodLink RX8 261 yX3_start ∈ wsL_law := (lk_r40 _ (List.mem_of_getElem? (i := 13) rfl))
theorem ml_X3_28 : Cond.methodLink RX3 28 yX3_set ∈ wsL_law := (lk_r40 _ (List.mem_of_getElem? (i := 17) rfl))
theorem ml_L_144 : Cond.methodLink RL 144 yX9_list ∈ wsL_law := (lk_r40 _ (List.mem_of_getElem? (i := 21) rfl))
theorem ml_L_145 : Cond.methodLink RL 145 yX8_put ∈ wsL_law := (lk_r41 _ (List.mem_of_getElem? (i := 1) rfl))
theorem ml_X8_265 : Cond.methodLink RX8 265 yX3_set ∈ wsL_law := (lk_r41 _ (List.mem_of_getElem? (i := 5) rfl))
theorem ml_L_148 : Cond.methodLink RL 148 yX9_put ∈ wsL_law := (lk_r41 _ (List.mem_of_getElem? (i := 6) rfl))
theorem ml_X9_345 : Cond.methodLink RX9 345 yX9_isPlace ∈ wsL_law := (lk_r41 _ (List.mem_of_getElem? (i := 10) rfl))
theorem ml_L_149 : Cond.methodLink RL 149 yX8_get ∈ wsL_law := (lk_r41 _ (List.mem_of_getElem? (i := 14) rfl))
theorem ml_L_153 : Cond.methodLink RL 153 yX9_get ∈ wsL_law := (lk_r41 _ (List.mem_of_getElem? (i := 19) rfl))
theorem ml_L_154 : Cond.methodLink RL 154 yX8_copy ∈ wsL_law := (lk_r42 _ (List.mem_of_getElem? (i := 0) rfl))
theorem ml_X8_271 : Cond.methodLink RX8 271 yX3_move ∈ wsL_law := (lk_r42 _ (List.mem_of_getElem? (i := 4) rfl))
theorem ml_L_158 : Cond.methodLink RL 158 yX9_copy ∈ wsL_law := (lk_r42 _ (List.mem_of_getElem? (i := 9) rfl))
theorem ml_X9_350 : Cond.methodLink RX9 350 yX9_isSpan ∈ wsL_law := (lk_r42 _ (List.mem_of_getElem? (i := 13) rfl))
theorem ml_L_159 : Cond.methodLink RL 159 yX8_image ∈ wsL_law := (lk_r42 _ (List.mem_of_getElem? (i := 17) rfl))
theorem ml_L_162 : Cond.methodLink RL 162 yX9_image ∈ wsL_law := (lk_r42 _ (List.mem_of_getElem? (i := 23) rfl))
theorem ml_L_163 : Cond.methodLink RL 163 yX8_undo ∈ wsL_law := (lk_r43 _ (List.mem_of_getElem? (i := 6) rfl))
theorem ml_L_166 : Cond.methodLink RL 166 yX9_undo ∈ wsL_law := (lk_r43 _ (List.mem_of_getElem? (i := 10) rfl))
theorem ml_L_167 : Cond.methodLink RL 167 yX8_count ∈ wsL_law := (lk_r43 _ (List.mem_of_getElem? (i := 14) rfl))
theorem ml_L_170 : Cond.methodLink RL 170 yX9_count ∈ wsL_law := (lk_r43 _ (List.mem_of_getElem? (i := 18) rfl))
theorem fl_X8_12 : FLK RX8 12 8 0 := ⟨RX8, TX8, 15, rfl, by decide, inlX8, Or.inl (lk_r1 _ (List.mem_of_getElem? (i := 15) rfl))⟩
theorem fl_X8_18 : FLK RX8 18 8 1 := ⟨RX8, TX8, 15, rfl, by decide, inlX8, Or.inl (lk_r1 _ (List.mem_of_getElem? (i := 16) rfl))⟩
theorem fl_X8_21 : FLK RX8 21 8 2 := ⟨RX8, TX8, 15, rfl, by decide, inlX8, Or.inl (lk_r1 _ (List.mem_of_getElem? (i := 18) rfl))⟩
theorem fl_X8_28 : FLK RX8 28 8 3 := ⟨RX8, TX8, 15, rfl, by decide, inlX8, Or.inl (lk_r1 _ (List.mem_of_getElem? (i := 22) rfl))⟩
theorem fl_X8_35 : FLK RX8 35 8 4 := ⟨RX8, TX8, 15, rfl, by decide, inlX8, Or.inl (lk_r2 _ (List.mem_of_getElem? (i := 2) rfl))⟩
theorem fl_X8_39 : FLK RX8 39 8 5 := ⟨RX8, TX8, 15, rfl, by decide, inlX8, Or.inl (lk_r2 _ (List.mem_of_getElem? (i := 3) rfl))⟩
theorem fl_X8_45 : FLK RX8 45 8 8 := ⟨RX8, TX8, 15, rfl, by decide, inlX8, Or.inl (lk_r2 _ (List.mem_of_getElem? (i := 7) rfl))⟩
theorem fl_X8_52 : FLK RX8 52 8 9 := ⟨RX8, TX8, 15, rfl, by decide, inlX8, Or.inl (lk_r2 _ (List.mem_of_getElem? (i := 11) rfl))⟩
theorem fl_X8_59 : FLK RX8 59 8 10 := ⟨RX8, TX8, 15, rfl, by decide, inlX8, Or.inl (lk_r2 _ (List.mem_of_getElem? (i := 15) rfl))⟩
theorem fl_X8_66 : FLK RX8 66 8 11 := ⟨RX8, TX8, 15, rfl, by decide, inlX8, Or.inl (lk_r2 _ (List.mem_of_getElem? (i := 19) rfl))⟩
theorem fl_X8_73 : FLK RX8 73 8 12 := ⟨RX8, TX8, 15, rfl, by decide, inlX8, Or.inl (lk_r2 _ (List.mem_of_getElem? (i := 23) rfl))⟩
theorem fl_X8_77 : FLK RX8 77 8 13 := ⟨RX8, TX8, 15, rfl, by decide, inlX8, Or.inl (lk_r3 _ (List.mem_of_getElem? (i := 1) rfl))⟩
theorem fl_X0_9 : FLK RX0 9 0 0 := ⟨RX0, TX0, 2, rfl, by decide, inlX0, Or.inl (lk_r3 _ (List.mem_of_getElem? (i := 6) rfl))⟩
theorem fp_X0_9 : FLP RX0 9 0 0 .int := ⟨RX0, TX0, 2, rfl, by decide, inlX0, Or.inl (lk_r3 _ (List.mem_of_getElem? (i := 6) rfl)), ⟨tyX0, tyX0_ok⟩, nmX0, rfl, by decide +kernel⟩
theorem fl_X0_15 : FLK RX0 15 0 1 := ⟨RX0, TX0, 2, rfl, by decide, inlX0, Or.inl (lk_r3 _ (List.mem_of_getElem? (i := 7) rfl))⟩
theorem fl_X2_11 : FLK RX2 11 2 0 := ⟨RX2, TX2, 3, rfl, by decide, inlX2, Or.inl (lk_r3 _ (List.mem_of_getElem? (i := 13) rfl))⟩
theorem fl_X5_11 : FLK RX5 11 5 0 := ⟨RX5, TX5, 2, rfl, by decide, inlX5, Or.inl (lk_r3 _ (List.mem_of_getElem? (i := 20) rfl))⟩
theorem fl_X7_9 : FLK RX7 9 7 0 := ⟨RX7, TX7, 6, rfl, by decide, inlX7, Or.inl (lk_r4 _ (List.mem_of_getElem? (i := 1) rfl))⟩
theorem fl_X7_15 : FLK RX7 15 7 1 := ⟨RX7, TX7, 6, rfl, by decide, inlX7, Or.inl (lk_r4 _ (List.mem_of_getElem? (i := 2) rfl))⟩
theorem fl_X7_18 : FLK RX7 18 7 2 := ⟨RX7, TX7, 6, rfl, by decide, inlX7, Or.inl (lk_r4 _ (List.mem_of_getElem? (i := 3) rfl))⟩
theorem fl_X7_21 : FLK RX7 21 7 3 := ⟨RX7, TX7, 6, rfl, by decide, inlX7, Or.inl (lk_r4 _ (List.mem_of_getElem? (i := 4) rfl))⟩
theorem fl_X4_12 : FLK RX4 12 4 0 := ⟨RX4, TX4, 4, rfl, by decide, inlX4, Or.inl (lk_r4 _ (List.mem_of_getElem? (i := 9) rfl))⟩
theorem fl_X4_18 : FLK RX4 18 4 1 := ⟨RX4, TX4, 4, rfl, by decide, inlX4, Or.inl (lk_r4 _ (List.mem_of_getElem? (i := 10) rfl))⟩
theorem fl_X1_9 : FLK RX1 9 1 0 := ⟨RX1, TX1, 3, rfl, by decide, inlX1, Or.inl (lk_r4 _ (List.mem_of_getElem? (i := 15) rfl))⟩
theorem fl_X3_9 : FLK RX3 9 3 0 := ⟨RX3, TX3, 2, rfl, by decide, inlX3, Or.inl (lk_r4 _ (List.mem_of_getElem? (i := 20) rfl))⟩
theorem fl_X3_15 : FLK RX3 15 3 1 := ⟨RX3, TX3, 2, rfl, by decide, inlX3, Or.inl (lk_r4 _ (List.mem_of_getElem? (i := 21) rfl))⟩
theorem fl_X6_9 : FLK RX6 9 6 0 := ⟨RX6, TX6, 6, rfl, by decide, inlX6, Or.inl (lk_r5 _ (List.mem_of_getElem? (i := 1) rfl))⟩
theorem fl_X6_15 : FLK RX6 15 6 2 := ⟨RX6, TX6, 6, rfl, by decide, inlX6, Or.inl (lk_r5 _ (List.mem_of_getElem? (i := 2) rfl))⟩
theorem fl_X6_19 : FLK RX6 19 6 3 := ⟨RX6, TX6, 6, rfl, by decide, inlX6, Or.inl (lk_r5 _ (List.mem_of_getElem? (i := 3) rfl))⟩
theorem fl_X6_22 : FLK RX6 22 6 4 := ⟨RX6, TX6, 6, rfl, by decide, inlX6, Or.inl (lk_r5 _ (List.mem_of_getElem? (i := 4) rfl))⟩
theorem fl_X9_9 : FLK RX9 9 9 0 := ⟨RX9, TX9, 34, rfl, by decide, inlX9, Or.inl (lk_r5 _ (List.mem_of_getElem? (i := 9) rfl))⟩
theorem fp_X9_9 : FLP RX9 9 9 0 .int := ⟨RX9, TX9, 34, rfl, by decide, inlX9, Or.inl (lk_r5 _ (List.mem_of_getElem? (i := 9) rfl)), ⟨tyX9, tyX9_ok⟩, nmX9, rfl, by decide +kernel⟩
theorem fl_X9_15 : FLK RX9 15 9 1 := ⟨RX9, TX9, 34, rfl, by decide, inlX9, Or.inl (lk_r5 _ (List.mem_of_getElem? (i := 11) rfl))⟩
theorem fl_X9_19 : FLK RX9 19 9 2 := ⟨RX9, TX9, 34, rfl, by decide, inlX9, Or.inl (lk_r5 _ (List.mem_of_getElem? (i := 12) rfl))⟩
theorem fl_X9_22 : FLK RX9 22 9 3 := ⟨RX9, TX9, 34, rfl, by decide, inlX9, Or.inl (lk_r5 _ (List.mem_of_getElem? (i := 13) rfl))⟩
theorem fl_X9_28 : FLK RX9 28 9 5 := ⟨RX9, TX9, 34, rfl, by decide, inlX9, Or.inl (lk_r5 _ (List.mem_of_getElem? (i := 15) rfl))⟩
theorem fl_X9_31 : FLK RX9 31 9 7 := ⟨RX9, TX9, 34, rfl, by decide, inlX9, Or.inl (lk_r5 _ (List.mem_of_getElem? (i := 16) rfl))⟩
theorem fl_X9_34 : FLK RX9 34 9 8 := ⟨RX9, TX9, 34, rfl, by decide, inlX9, Or.inl (lk_r5 _ (List.mem_of_getElem? (i := 17) rfl))⟩
theorem fl_X9_39 : FLK RX9 39 9 9 := ⟨RX9, TX9, 34, rfl, by decide, inlX9, Or.inl (lk_r5 _ (List.mem_of_getElem? (i := 19) rfl))⟩
theorem fl_X9_42 : FLK RX9 42 9 10 := ⟨RX9, TX9, 34, rfl, by decide, inlX9, Or.inl (lk_r5 _ (List.mem_of_getElem? (i := 20) rfl))⟩
theorem fl_X9_45 : FLK RX9 45 9 11 := ⟨RX9, TX9, 34, rfl, by decide, inlX9, Or.inl (lk_r5 _ (List.mem_of_getElem? (i := 21) rfl))⟩
theorem fl_X9_48 : FLK RX9 48 9 12 := ⟨RX9, TX9, 34, rfl, by decide, inlX9, Or.inl (lk_r5 _ (List.mem_of_getElem? (i := 22) rfl))⟩
theorem fl_X9_51 : FLK RX9 51 9 13 := ⟨RX9, TX9, 34, rfl, by decide, inlX9, Or.inl (lk_r5 _ (List.mem_of_getElem? (i := 23) rfl))⟩
theorem fl_X9_54 : FLK RX9 54 9 14 := ⟨RX9, TX9, 34, rfl, by decide, inlX9, Or.inl (lk_r6 _ (List.mem_of_getElem? (i := 0) rfl))⟩
theorem fl_X9_57 : FLK RX9 57 9 16 := ⟨RX9, TX9, 34, rfl, by decide, inlX9, Or.inl (lk_r6 _ (List.mem_of_getElem? (i := 1) rfl))⟩
theorem fl_X9_60 : FLK RX9 60 9 17 := ⟨RX9, TX9, 34, rfl, by decide, inlX9, Or.inl (lk_r6 _ (List.mem_of_getElem? (i := 2) rfl))⟩
theorem fl_X9_63 : FLK RX9 63 9 18 := ⟨RX9, TX9, 34, rfl, by decide, inlX9, Or.inl (lk_r6 _ (List.mem_of_getElem? (i := 3) rfl))⟩
theorem fl_X9_67 : FLK RX9 67 9 22 := ⟨RX9, TX9, 34, rfl, by decide, inlX9, Or.inl (lk_r6 _ (List.mem_of_getElem? (i := 4) rfl))⟩
theorem fl_X9_70 : FLK RX9 70 9 23 := ⟨RX9, TX9, 34, rfl, by decide, inlX9, Or.inl (lk_r6 _ (List.mem_of_getElem? (i := 5) rfl))⟩
theorem fl_X9_73 : FLK RX9 73 9 24 := ⟨RX9, TX9, 34, rfl, by decide, inlX9, Or.inl (lk_r6 _ (List.mem_of_getElem? (i := 6) rfl))⟩
theorem fl_X9_76 : FLK RX9 76 9 26 := ⟨RX9, TX9, 34, rfl, by decide, inlX9, Or.inl (lk_r6 _ (List.mem_of_getElem? (i := 7) rfl))⟩
theorem fl_X9_79 : FLK RX9 79 9 27 := ⟨RX9, TX9, 34, rfl, by decide, inlX9, Or.inl (lk_r6 _ (List.mem_of_getElem? (i := 8) rfl))⟩
theorem fl_X9_82 : FLK RX9 82 9 31 := ⟨RX9, TX9, 34, rfl, by decide, inlX9, Or.inl (lk_r6 _ (List.mem_of_getElem? (i := 9) rfl))⟩
theorem fl_X9_85 : FLK RX9 85 9 32 := ⟨RX9, TX9, 34, rfl, by decide, inlX9, Or.inl (lk_r6 _ (List.mem_of_getElem? (i := 10) rfl))⟩
theorem fl_X9_88 : FLK RX9 88 9 33 := ⟨RX9, TX9, 34, rfl, by decide, inlX9, Or.inl (lk_r6 _ (List.mem_of_getElem? (i := 11) rfl))⟩
theorem fl_X2_26 : FLK RX2 26 2 2 := ⟨RX2, TX2, 3, rfl, by decide, inlX2, Or.inl (lk_r7 _ (List.mem_of_getElem? (i := 0) rfl))⟩
theorem fp_X2_26 : FLP RX2 26 2 2 .int := ⟨RX2, TX2, 3, rfl, by decide, inlX2, Or.inl (lk_r7 _ (List.mem_of_getElem? (i := 0) rfl)), ⟨tyX2, tyX2_ok⟩, nmX2, rfl, by decide +kernel⟩
theorem fl_X9_120 : FLK RX9 120 9 6 := ⟨RX9, TX9, 34, rfl, by decide, inlX9, Or.inl (lk_r7 _ (List.mem_of_getElem? (i := 5) rfl))⟩
theorem fp_X9_120 : FLP RX9 120 9 6 .int := ⟨RX9, TX9, 34, rfl, by decide, inlX9, Or.inl (lk_r7 _ (List.mem_of_getElem? (i := 5) rfl)), ⟨tyX9, tyX9_ok⟩, nmX9, rfl, by decide +kernel⟩
theorem fl_X2_18 : FLK RX2 18 2 1 := ⟨RX2, TX2, 3, rfl, by decide, inlX2, Or.inl (lk_r7 _ (List.mem_of_getElem? (i := 17) rfl))⟩
theorem fp_X2_18 : FLP RX2 18 2 1 .int := ⟨RX2, TX2, 3, rfl, by decide, inlX2, Or.inl (lk_r7 _ (List.mem_of_getElem? (i := 17) rfl)), ⟨tyX2, tyX2_ok⟩, nmX2, rfl, by decide +kernel⟩
theorem fl_X7_31 : FLK RX7 31 7 4 := ⟨RX7, TX7, 6, rfl, by decide, inlX7, Or.inl (lk_r13 _ (List.mem_of_getElem? (i := 17) rfl))⟩
theorem fp_X7_31 : FLP RX7 31 7 4 .int := ⟨RX7, TX7, 6, rfl, by decide, inlX7, Or.inl (lk_r13 _ (List.mem_of_getElem? (i := 17) rfl)), ⟨tyX7, tyX7_ok⟩, nmX7, rfl, by decide +kernel⟩
theorem fl_X7_30 : FLK RX7 30 7 5 := ⟨RX7, TX7, 6, rfl, by decide, inlX7, Or.inl (lk_r13 _ (List.mem_of_getElem? (i := 22) rfl))⟩
theorem fp_X7_30 : FLP RX7 30 7 5 .int := ⟨RX7, TX7, 6, rfl, by decide, inlX7, Or.inl (lk_r13 _ (List.mem_of_getElem? (i := 22) rfl)), ⟨tyX7, tyX7_ok⟩, nmX7, rfl, by decide +kernel⟩
theorem fl_X9_107 : FLK RX9 107 9 4 := ⟨RX9, TX9, 34, rfl, by decide, inlX9, Or.inl (lk_r15 _ (List.mem_of_getElem? (i := 1) rfl))⟩
theorem fp_X9_107 : FLP RX9 107 9 4 .int := ⟨RX9, TX9, 34, rfl, by decide, inlX9, Or.inl (lk_r15 _ (List.mem_of_getElem? (i := 1) rfl)), ⟨tyX9, tyX9_ok⟩, nmX9, rfl, by decide +kernel⟩
theorem fl_X5_18 : FLK RX5 18 5 1 := ⟨RX5, TX5, 2, rfl, by decide, inlX5, Or.inl (lk_r26 _ (List.mem_of_getElem? (i := 11) rfl))⟩
theorem fp_X5_18 : FLP RX5 18 5 1 .int := ⟨RX5, TX5, 2, rfl, by decide, inlX5, Or.inl (lk_r26 _ (List.mem_of_getElem? (i := 11) rfl)), ⟨tyX5, tyX5_ok⟩, nmX5, rfl, by decide +kernel⟩
theorem fl_X9_214 : FLK RX9 214 9 15 := ⟨RX9, TX9, 34, rfl, by decide, inlX9, Or.inl (lk_r26 _ (List.mem_of_getElem? (i := 17) rfl))⟩
theorem fp_X9_214 : FLP RX9 214 9 15 .int := ⟨RX9, TX9, 34, rfl, by decide, inlX9, Or.inl (lk_r26 _ (List.mem_of_getElem? (i := 17) rfl)), ⟨tyX9, tyX9_ok⟩, nmX9, rfl, by decide +kernel⟩
theorem fl_X4_26 : FLK RX4 26 4 2 := ⟨RX4, TX4, 4, rfl, by decide, inlX4, Or.inl (lk_r28 _ (List.mem_of_getElem? (i := 2) rfl))⟩
theorem fp_X4_26 : FLP RX4 26 4 2 (.object "FaceFlips$Heap") := ⟨RX4, TX4, 4, rfl, by decide, inlX4, Or.inl (lk_r28 _ (List.mem_of_getElem? (i := 2) rfl)), ⟨tyX4, tyX4_ok⟩, nmX4, rfl, by decide +kernel⟩
theorem fl_X4_29 : FLK RX4 29 4 3 := ⟨RX4, TX4, 4, rfl, by decide, inlX4, Or.inl (lk_r28 _ (List.mem_of_getElem? (i := 3) rfl))⟩
theorem fp_X4_29 : FLP RX4 29 4 3 .int := ⟨RX4, TX4, 4, rfl, by decide, inlX4, Or.inl (lk_r28 _ (List.mem_of_getElem? (i := 3) rfl)), ⟨tyX4, tyX4_ok⟩, nmX4, rfl, by decide +kernel⟩
theorem fl_X1_25 : FLK RX1 25 1 1 := ⟨RX1, TX1, 3, rfl, by decide, inlX1, Or.inl (lk_r29 _ (List.mem_of_getElem? (i := 15) rfl))⟩
theorem fp_X1_25 : FLP RX1 25 1 1 (.object "FaceFlips$Heap") := ⟨RX1, TX1, 3, rfl, by decide, inlX1, Or.inl (lk_r29 _ (List.mem_of_getElem? (i := 15) rfl)), ⟨tyX1, tyX1_ok⟩, nmX1, rfl, by decide +kernel⟩
theorem fl_X1_29 : FLK RX1 29 1 2 := ⟨RX1, TX1, 3, rfl, by decide, inlX1, Or.inl (lk_r29 _ (List.mem_of_getElem? (i := 16) rfl))⟩
theorem fp_X1_29 : FLP RX1 29 1 2 (.object "FaceFlips$Heap") := ⟨RX1, TX1, 3, rfl, by decide, inlX1, Or.inl (lk_r29 _ (List.mem_of_getElem? (i := 16) rfl)), ⟨tyX1, tyX1_ok⟩, nmX1, rfl, by decide +kernel⟩
theorem fl_X6_25 : FLK RX6 25 6 1 := ⟨RX6, TX6, 6, rfl, by decide, inlX6, Or.inl (lk_r32 _ (List.mem_of_getElem? (i := 14) rfl))⟩
theorem fp_X6_25 : FLP RX6 25 6 1 .int := ⟨RX6, TX6, 6, rfl, by decide, inlX6, Or.inl (lk_r32 _ (List.mem_of_getElem? (i := 14) rfl)), ⟨tyX6, tyX6_ok⟩, nmX6, rfl, by decide +kernel⟩
theorem fl_X9_243 : FLK RX9 243 9 19 := ⟨RX9, TX9, 34, rfl, by decide, inlX9, Or.inl (lk_r32 _ (List.mem_of_getElem? (i := 19) rfl))⟩
theorem fp_X9_243 : FLP RX9 243 9 19 .int := ⟨RX9, TX9, 34, rfl, by decide, inlX9, Or.inl (lk_r32 _ (List.mem_of_getElem? (i := 19) rfl)), ⟨tyX9, tyX9_ok⟩, nmX9, rfl, by decide +kernel⟩
theorem fl_X6_29 : FLK RX6 29 6 5 := ⟨RX6, TX6, 6, rfl, by decide, inlX6, Or.inl (lk_r33 _ (List.mem_of_getElem? (i := 4) rfl))⟩
theorem fp_X6_29 : FLP RX6 29 6 5 .int := ⟨RX6, TX6, 6, rfl, by decide, inlX6, Or.inl (lk_r33 _ (List.mem_of_getElem? (i := 4) rfl)), ⟨tyX6, tyX6_ok⟩, nmX6, rfl, by decide +kernel⟩
theorem fl_X9_269 : FLK RX9 269 9 20 := ⟨RX9, TX9, 34, rfl, by decide, inlX9, Or.inl (lk_r36 _ (List.mem_of_getElem? (i := 19) rfl))⟩
theorem fp_X9_269 : FLP RX9 269 9 20 .int := ⟨RX9, TX9, 34, rfl, by decide, inlX9, Or.inl (lk_r36 _ (List.mem_of_getElem? (i := 19) rfl)), ⟨tyX9, tyX9_ok⟩, nmX9, rfl, by decide +kernel⟩
theorem fl_X9_298 : FLK RX9 298 9 21 := ⟨RX9, TX9, 34, rfl, by decide, inlX9, Or.inl (lk_r36 _ (List.mem_of_getElem? (i := 20) rfl))⟩
theorem fp_X9_298 : FLP RX9 298 9 21 .int := ⟨RX9, TX9, 34, rfl, by decide, inlX9, Or.inl (lk_r36 _ (List.mem_of_getElem? (i := 20) rfl)), ⟨tyX9, tyX9_ok⟩, nmX9, rfl, by decide +kernel⟩
theorem fl_X8_252 : FLK RX8 252 8 14 := ⟨RX8, TX8, 15, rfl, by decide, inlX8, Or.inl (lk_r38 _ (List.mem_of_getElem? (i := 23) rfl))⟩
theorem fp_X8_252 : FLP RX8 252 8 14 .int := ⟨RX8, TX8, 15, rfl, by decide, inlX8, Or.inl (lk_r38 _ (List.mem_of_getElem? (i := 23) rfl)), ⟨tyX8, tyX8_ok⟩, nmX8, rfl, by decide +kernel⟩
theorem fl_X9_330 : FLK RX9 330 9 25 := ⟨RX9, TX9, 34, rfl, by decide, inlX9, Or.inl (lk_r39 _ (List.mem_of_getElem? (i := 12) rfl))⟩
theorem fp_X9_330 : FLP RX9 330 9 25 .int := ⟨RX9, TX9, 34, rfl, by decide, inlX9, Or.inl (lk_r39 _ (List.mem_of_getElem? (i := 12) rfl)), ⟨tyX9, tyX9_ok⟩, nmX9, rfl, by decide +kernel⟩
theorem fl_X8_231 : FLK RX8 231 8 6 := ⟨RX8, TX8, 15, rfl, by decide, inlX8, Or.inl (lk_r42 _ (List.mem_of_getElem? (i := 21) rfl))⟩
theorem fp_X8_231 : FLP RX8 231 8 6 .int := ⟨RX8, TX8, 15, rfl, by decide, inlX8, Or.inl (lk_r42 _ (List.mem_of_getElem? (i := 21) rfl)), ⟨tyX8, tyX8_ok⟩, nmX8, rfl, by decide +kernel⟩
theorem fl_X8_234 : FLK RX8 234 8 7 := ⟨RX8, TX8, 15, rfl, by decide, inlX8, Or.inl (lk_r42 _ (List.mem_of_getElem? (i := 22) rfl))⟩
theorem fp_X8_234 : FLP RX8 234 8 7 .boolean := ⟨RX8, TX8, 15, rfl, by decide, inlX8, Or.inl (lk_r42 _ (List.mem_of_getElem? (i := 22) rfl)), ⟨tyX8, tyX8_ok⟩, nmX8, rfl, by decide +kernel⟩
theorem fl_X9_353 : FLK RX9 353 9 28 := ⟨RX9, TX9, 34, rfl, by decide, inlX9, Or.inl (lk_r43 _ (List.mem_of_getElem? (i := 3) rfl))⟩
theorem fp_X9_353 : FLP RX9 353 9 28 .boolean := ⟨RX9, TX9, 34, rfl, by decide, inlX9, Or.inl (lk_r43 _ (List.mem_of_getElem? (i := 3) rfl)), ⟨tyX9, tyX9_ok⟩, nmX9, rfl, by decide +kernel⟩
theorem fl_X9_357 : FLK RX9 357 9 29 := ⟨RX9, TX9, 34, rfl, by decide, inlX9, Or.inl (lk_r43 _ (List.mem_of_getElem? (i := 4) rfl))⟩
theorem fp_X9_357 : FLP RX9 357 9 29 .int := ⟨RX9, TX9, 34, rfl, by decide, inlX9, Or.inl (lk_r43 _ (List.mem_of_getElem? (i := 4) rfl)), ⟨tyX9, tyX9_ok⟩, nmX9, rfl, by decide +kernel⟩
theorem fl_X9_360 : FLK RX9 360 9 30 := ⟨RX9, TX9, 34, rfl, by decide, inlX9, Or.inl (lk_r43 _ (List.mem_of_getElem? (i := 5) rfl))⟩
theorem fp_X9_360 : FLP RX9 360 9 30 .int := ⟨RX9, TX9, 34, rfl, by decide, inlX9, Or.inl (lk_r43 _ (List.mem_of_getElem? (i := 5) rfl)), ⟨tyX9, tyX9_ok⟩, nmX9, rfl, by decide +kernel⟩
theorem fl_X8_202 : FLK RX8 202 2 2 := ⟨RX2, TX2, 3, rfl, by decide, inlX2, Or.inr (List.mem_of_getElem? (i := 0) rfl)⟩
theorem fp_X8_202 : FLP RX8 202 2 2 .int := ⟨RX2, TX2, 3, rfl, by decide, inlX2, Or.inr (List.mem_of_getElem? (i := 0) rfl), ⟨tyX2, tyX2_ok⟩, nmX2, rfl, by decide +kernel⟩
theorem fl_X8_211 : FLK RX8 211 5 1 := ⟨RX5, TX5, 2, rfl, by decide, inlX5, Or.inr (List.mem_of_getElem? (i := 1) rfl)⟩
theorem fp_X8_211 : FLP RX8 211 5 1 .int := ⟨RX5, TX5, 2, rfl, by decide, inlX5, Or.inr (List.mem_of_getElem? (i := 1) rfl), ⟨tyX5, tyX5_ok⟩, nmX5, rfl, by decide +kernel⟩
theorem fl_X8_221 : FLK RX8 221 4 1 := ⟨RX4, TX4, 4, rfl, by decide, inlX4, Or.inr (List.mem_of_getElem? (i := 2) rfl)⟩
theorem fl_X8_240 : FLK RX8 240 6 1 := ⟨RX6, TX6, 6, rfl, by decide, inlX6, Or.inr (List.mem_of_getElem? (i := 3) rfl)⟩
theorem fp_X8_240 : FLP RX8 240 6 1 .int := ⟨RX6, TX6, 6, rfl, by decide, inlX6, Or.inr (List.mem_of_getElem? (i := 3) rfl), ⟨tyX6, tyX6_ok⟩, nmX6, rfl, by decide +kernel⟩
theorem fl_X8_246 : FLK RX8 246 6 5 := ⟨RX6, TX6, 6, rfl, by decide, inlX6, Or.inr (List.mem_of_getElem? (i := 4) rfl)⟩
theorem fp_X8_246 : FLP RX8 246 6 5 .int := ⟨RX6, TX6, 6, rfl, by decide, inlX6, Or.inr (List.mem_of_getElem? (i := 4) rfl), ⟨tyX6, tyX6_ok⟩, nmX6, rfl, by decide +kernel⟩
theorem fl_X8_275 : FLK RX8 275 6 2 := ⟨RX6, TX6, 6, rfl, by decide, inlX6, Or.inr (List.mem_of_getElem? (i := 5) rfl)⟩
theorem fl_X8_81 : FLK RX8 81 0 0 := ⟨RX0, TX0, 2, rfl, by decide, inlX0, Or.inr (List.mem_of_getElem? (i := 6) rfl)⟩
theorem fp_X8_81 : FLP RX8 81 0 0 .int := ⟨RX0, TX0, 2, rfl, by decide, inlX0, Or.inr (List.mem_of_getElem? (i := 6) rfl), ⟨tyX0, tyX0_ok⟩, nmX0, rfl, by decide +kernel⟩
theorem fl_X1_15 : FLK RX1 15 0 0 := ⟨RX0, TX0, 2, rfl, by decide, inlX0, Or.inr (List.mem_of_getElem? (i := 7) rfl)⟩
theorem fp_X1_15 : FLP RX1 15 0 0 .int := ⟨RX0, TX0, 2, rfl, by decide, inlX0, Or.inr (List.mem_of_getElem? (i := 7) rfl), ⟨tyX0, tyX0_ok⟩, nmX0, rfl, by decide +kernel⟩
theorem fl_X1_40 : FLK RX1 40 0 1 := ⟨RX0, TX0, 2, rfl, by decide, inlX0, Or.inr (List.mem_of_getElem? (i := 8) rfl)⟩
theorem fl_X4_45 : FLK RX4 45 0 1 := ⟨RX0, TX0, 2, rfl, by decide, inlX0, Or.inr (List.mem_of_getElem? (i := 9) rfl)⟩
theorem fl_X4_48 : FLK RX4 48 0 0 := ⟨RX0, TX0, 2, rfl, by decide, inlX0, Or.inr (List.mem_of_getElem? (i := 10) rfl)⟩
theorem fp_X4_48 : FLP RX4 48 0 0 .int := ⟨RX0, TX0, 2, rfl, by decide, inlX0, Or.inr (List.mem_of_getElem? (i := 10) rfl), ⟨tyX0, tyX0_ok⟩, nmX0, rfl, by decide +kernel⟩
theorem fl_X7_24 : FLK RX7 24 0 0 := ⟨RX0, TX0, 2, rfl, by decide, inlX0, Or.inr (List.mem_of_getElem? (i := 13) rfl)⟩
theorem fp_X7_24 : FLP RX7 24 0 0 .int := ⟨RX0, TX0, 2, rfl, by decide, inlX0, Or.inr (List.mem_of_getElem? (i := 13) rfl), ⟨tyX0, tyX0_ok⟩, nmX0, rfl, by decide +kernel⟩
theorem kc_J6_265 : Cond.constant RJ6 265 (1431655765) ∈ wsL_law := (lk_r10 _ (List.mem_of_getElem? (i := 6) rfl))
theorem kc_J6_266 : Cond.constant RJ6 266 (858993459) ∈ wsL_law := (lk_r10 _ (List.mem_of_getElem? (i := 7) rfl))
theorem kc_J6_267 : Cond.constant RJ6 267 (252645135) ∈ wsL_law := (lk_r10 _ (List.mem_of_getElem? (i := 8) rfl))
theorem kc_X8_199 : Cond.constant RX8 199 (1103515245) ∈ wsL_law := (lk_r31 _ (List.mem_of_getElem? (i := 21) rfl))
theorem kc_X8_200 : Cond.constant RX8 200 (2147483647) ∈ wsL_law := (lk_r31 _ (List.mem_of_getElem? (i := 22) rfl))
theorem kc_X8_201 : Cond.constant RX8 201 (65536) ∈ wsL_law := (lk_r31 _ (List.mem_of_getElem? (i := 23) rfl))
theorem kc_X9_241 : Cond.constant RX9 241 (1103515245) ∈ wsL_law := (lk_r32 _ (List.mem_of_getElem? (i := 4) rfl))
theorem kc_X9_242 : Cond.constant RX9 242 (2147483647) ∈ wsL_law := (lk_r32 _ (List.mem_of_getElem? (i := 5) rfl))
theorem kc_X8_269 : Cond.constantLong RX8 269 (-9223372036854775808) ∈ wsL_law := (lk_r41 _ (List.mem_of_getElem? (i := 18) rfl))
theorem kc_X9_348 : Cond.constantLong RX9 348 (-9223372036854775808) ∈ wsL_law := (lk_r41 _ (List.mem_of_getElem? (i := 23) rfl))
end
section
/-! CALLS -/
theorem va_clsOf {U : State} {g : Geo} {μ : Mem} {H : Heap} {b ci : Nat} {C : String} {T : u_T} {N : Nat} (hK : KK g U) (hP : va_P (gD g) vwCl (wls g μ) H) (hO : HO b ci) (hc : vwCl[ci]? = some (C, T, N)) : ∃ cell : Cell, H[g.2.2.1 b]? = some cell ∧ cell.vm.isStatics = false ∧ U.vm.findClass C = some cell.cls := by
  obtain ⟨hb, fs, hs⟩ := hO
  have hw : (wls g μ)[b]? = some (g.2.2.1 b, .inr (ci, fs.mapIdx (fun k d => fval g (μ b) k d))) := by
    rw [wls_at g μ hb, hs]
    rfl
  exact va_recv hK.1 hP hc hw
theorem pc_blind {g : Geo} {as : List Value} {sz : Nat} {μ : Mem} : FrameBlind (va_Pc (as.map (tv g)) (fun U => U.heap.size = sz ∧ KK g U ∧ va_P (gD g) vwCl (wls g μ) U.heap ∧ SS g (AA g sz) U U.heap)) := fun a U f mk q => ⟨q.1, q.2.1, KK.same (u := U) (U := U.calling f mk a) rfl q.2.2.1, q.2.2.2.1, SS.moved (u := U) (U := U.calling f mk a) (Vm.Alike.refl U.vm) q.2.2.2.2⟩
theorem pc_at {g : Geo} {s U : State} {H : Heap} {locs : List Loc} {as : List Value} {μ : Mem} (hK : KK g s) (hSS : SS g (AA g s.heap.size) s s.heap) (hP : va_P (gD g) vwCl (wls g μ) H) (hS : va_S (AA g s.heap.size) s.heap H locs) (hU : U.heap = H) (hW : s.WarmedH U.vm) : va_Pc (as.map (tv g)) (fun U => U.heap.size = H.size ∧ KK g U ∧ va_P (gD g) vwCl (wls g μ) U.heap ∧ SS g (AA g H.size) U U.heap) (as.map (tv g)).toArray U := by
  refine ⟨rfl, by rw [hU], hK.warm hW, by rw [hU]; exact hP, ?_⟩
  rw [hU]
  exact ((hSS.kept hS.2.1).narrow (fun q h => h.elim Or.inl (fun h => Or.inr (Nat.le_trans hS.1 h)))).moved hW.alike
theorem tt_run {p : Program} {l : Launch} {e : Env} {R : Room} {s : State} {m : MethodId} {args : Array Value} {below : List Frame} {meth : Method} {c : Code} {Z : State → Prop} {ce sl pc : Nat} {g : Geo} {H : Heap} {locs : List Loc} {ls : Array Slot} {st0 : List Value} {S L : List Value} {nL : Nat} {Q : Option Value → Mem → Prop} {a : Array Value}
    (hr : va_Run p l e R s m args below meth c H locs ce sl 0 0 (F0 m pc ls st0) (S.map (tv g)) (QQ g Q (AA g H.size) a) (AA g H.size)) (hS : va_S (AA g s.heap.size) s.heap H locs) (hl : lv_has ls nL (tl g 0 L))
    (kk : ∀ (r : Option Value) (μ' : Mem), Q r μ' → TTof p l e R s m args below meth c Z ce sl g nL (pc + 3) L (r.toList ++ S) μ') : W p l e R s m args below meth c H locs ce sl Z (F0 m pc ls st0) := by
  have hA : ∀ q, AA g H.size q → AA g s.heap.size q := fun q h => h.elim Or.inl (fun h => Or.inr (Nat.le_trans hS.1 h))
  intro T hT X
  obtain ⟨v, st₀, t, T', L9, h0, X', hL, e1, e2, ⟨⟨r, μ', hv, hq, hP'⟩, hz, hk⟩, st⟩ := hr T hT X
  have hv' : v = r.map (tv g) := by injection hv
  subst hv'
  rw [h0] at hz hk
  have hS' : va_S (AA g s.heap.size) s.heap T'.heap (locs ++ L9) := ⟨Nat.le_trans hS.1 (by rw [e1]; exact hz), fun q h1 h2 => by rw [e1, hk q (Nat.lt_of_lt_of_le h1 hS.1) (fun z => h2 (hA q z))]; exact hS.2.1 q h1 h2, fun q hq => by
    rcases List.mem_append.mp hq with h | h
    · exact hS.2.2 q h
    · exact hA _ (hL q h)⟩
  have k2 := kk r μ' hq T'.heap (locs ++ L9) ls (by rw [e1]; exact hP') hS' hl
  have hst : (r.map (tv g)).toList ++ S.map (tv g) = (r.toList ++ S).map (tv g) := by cases r <;> rfl
  obtain ⟨t2, a1, b1⟩ := k2 T' rfl X'
  refine ⟨t2, st t2 ?_, b1⟩
  have hg : ({ (F0 m pc ls st0) with pc := (F0 m pc ls st0).pc + 3, stack := (r.map (tv g)).toList ++ S.map (tv g) } : JFrame) = F0 m (pc + 3) ls ((r.toList ++ S).map (tv g)) := by rw [hst]
  rw [hg]
  exact a1
section CV
variable {X : XT} {l : Launch} {d : Nat} {M : MD}
theorem tt_catM (g : Geo) (S : List Value) : ((S.map (tv g)).map fun v => v.category).sum = (S.map fun v => v.category).sum := by
  rw [List.map_map]
  congr 1
  apply List.map_congr_left
  intro v _
  cases v <;> rfl
theorem tt_callVg (hX : Cx X l d M) {d' : Nat} (hdd : d' + 1 ≤ d) {M' : MD} {n ci : Nat} {T : u_T} {N : Nat} (hM : MKV M' n) {idx : Nat} (hlk : Cond.methodLink M.2.2.2.2 idx M'.1 ∈ wsL_law) {pc q b : Nat} {L S st as : List Value} {μ : Mem} (hO : HO b ci) (hc : vwCl[ci]? = some (M'.2.2.2.2, T, N)) (hn : as.length = n) (hst : st = as.reverse ++ .ref b :: S) (hcat : (S.map fun v => v.category).sum ≤ 8) (hd : decode M.2.1 pc = .ok (.invokevirtual idx, 3)) (hq : pc + 3 = q) (k : CC l d' M' (.ref b :: as) μ (fun r μ' => TT X q L (r.toList ++ S) μ')) : TT X pc L st μ := by
  obtain ⟨p, l', e, R, s, m, args, below, meth, c, Z, ce, sl, g, M0, n0⟩ := X
  obtain ⟨rfl, rfl, rfl, hx, hb, hml, ho, hts, hK, hSS, hg, hfr, hlo, hce, hsl⟩ := hX
  subst hq
  subst hst
  intro H locs ls hP hS hl
  obtain ⟨m1, m2, m3, m4, m5, m6, m7⟩ := hM
  have hgi : GoodIn wsL_law (mws M') := fun w hw => (List.mem_cons.mp hw).elim (fun e => by rw [e]; exact goodL _ m1) (goodL w)
  refine tt_run (L := L) (S := S) (Q := fun r μ' => TTof p l' e R s m args below meth c Z ce sl g M0.2.2.1 (pc + 3) L (r.toList ++ S) μ') (va_runV (C := M'.2.2.2.2) (As := as.map (tv g)) (rest := S.map (tv g)) (n := n) ⟨hx, hb, hml, ho, hts⟩ (k g H.size hg) ⟨callB_of (ws := mws M') (rm := rmd d') n hts hgi rfl rfl rfl (by rw [m7]; exact hts _ m2) (hts _ hlk) m5 ⟨by show d' + 1 ≤ R.frames; omega, by show 8 + (M'.2.2.1 + 11) + 40 * d' ≤ R.locals; omega⟩, hts _ m3, hts _ m4⟩ ⟨pc_blind, va_clsOf hK hP hO hc, fun U hU hW => pc_at (as := .ref b :: as) hK hSS hP hS hU hW⟩ rfl (by rw [List.length_map]; exact hn) hl.1 (by show _ = _; rw [List.map_append, List.map_reverse]; rfl) (lv_room (by rw [tt_catM]; exact hcat)) hd ⟨hce, hsl⟩) hS hl (fun r μ' h => h)
theorem tt_callSg (hX : Cx X l d M) {d' : Nat} (hdd : d' + 1 ≤ d) {M' : MD} {n : Nat} (hM : MKS M' n) {idx : Nat} (hlk : Cond.methodLink M.2.2.2.2 idx M'.1 ∈ wsL_law) {pc q : Nat} {L S st as : List Value} {μ : Mem} (hn : as.length = n) (hst : st = as.reverse ++ S) (hcat : (S.map fun v => v.category).sum ≤ 8) (hd : decode M.2.1 pc = .ok (.invokestatic idx, 3)) (hq : pc + 3 = q) (k : CC l d' M' as μ (fun r μ' => TT X q L (r.toList ++ S) μ')) : TT X pc L st μ := by
  obtain ⟨p, l', e, R, s, m, args, below, meth, c, Z, ce, sl, g, M0, n0⟩ := X
  obtain ⟨rfl, rfl, rfl, hx, hb, hml, ho, hts, hK, hSS, hg, hfr, hlo, hce, hsl⟩ := hX
  subst hq
  subst hst
  intro H locs ls hP hS hl
  obtain ⟨m1, m2, m3, m5, m6, m7⟩ := hM
  have hgi : GoodIn wsL_law (mws M') := fun w hw => (List.mem_cons.mp hw).elim (fun e => by rw [e]; exact goodL _ m1) (goodL w)
  refine tt_run (L := L) (S := S) (Q := fun r μ' => TTof p l' e R s m args below meth c Z ce sl g M0.2.2.1 (pc + 3) L (r.toList ++ S) μ') (va_runS (As := as.map (tv g)) (rest := S.map (tv g)) (n := n) ⟨hx, hb, hml, ho, hts⟩ (k g H.size hg) ⟨callB_of (ws := mws M') (rm := rmd d') n hts hgi rfl rfl rfl (by rw [m7]; exact hts _ m2) (hts _ hlk) m5 ⟨by show d' + 1 ≤ R.frames; omega, by show 8 + (M'.2.2.1 + 11) + 40 * d' ≤ R.locals; omega⟩, hts _ m3⟩ ⟨pc_blind, fun U hU hW => pc_at hK hSS hP hS hU hW⟩ rfl (by rw [List.length_map]; exact hn) hl.1 (by show _ = _; rw [List.map_append, List.map_reverse]) (lv_room (by rw [tt_catM]; exact hcat)) hd ⟨hce, hsl⟩) hS hl (fun r μ' h => h)
theorem tt_cV0 (hX : Cx X l d M) {d' : Nat} (hdd : d' + 1 ≤ d) {M' : MD} {ci : Nat} {T : u_T} {N : Nat} (hM : MKV M' 0) {idx : Nat} (hlk : Cond.methodLink M.2.2.2.2 idx M'.1 ∈ wsL_law) {pc q b : Nat} {L S : List Value}  {μ : Mem} (hO : HO b ci) (hc : vwCl[ci]? = some (M'.2.2.2.2, T, N)) (hcat : (S.map fun v => v.category).sum ≤ 8) (hd : decode M.2.1 pc = .ok (.invokevirtual idx, 3)) (hq : pc + 3 = q) (k : CC l d' M' (.ref b :: []) μ (fun r μ' => TT X q L (r.toList ++ S) μ')) : TT X pc L (.ref b :: S) μ := tt_callVg hX hdd hM hlk (as := []) hO hc rfl rfl hcat hd hq k
theorem tt_cS0 (hX : Cx X l d M) {d' : Nat} (hdd : d' + 1 ≤ d) {M' : MD} (hM : MKS M' 0) {idx : Nat} (hlk : Cond.methodLink M.2.2.2.2 idx M'.1 ∈ wsL_law) {pc q : Nat} {L S : List Value}  {μ : Mem} (hcat : (S.map fun v => v.category).sum ≤ 8) (hd : decode M.2.1 pc = .ok (.invokestatic idx, 3)) (hq : pc + 3 = q) (k : CC l d' M' [] μ (fun r μ' => TT X q L (r.toList ++ S) μ')) : TT X pc L (S) μ := tt_callSg hX hdd hM hlk (as := []) rfl rfl hcat hd hq k
theorem tt_cV1 (hX : Cx X l d M) {d' : Nat} (hdd : d' + 1 ≤ d) {M' : MD} {ci : Nat} {T : u_T} {N : Nat} (hM : MKV M' 1) {idx : Nat} (hlk : Cond.methodLink M.2.2.2.2 idx M'.1 ∈ wsL_law) {pc q b : Nat} {L S : List Value} {v1 : Value} {μ : Mem} (hO : HO b ci) (hc : vwCl[ci]? = some (M'.2.2.2.2, T, N)) (hcat : (S.map fun v => v.category).sum ≤ 8) (hd : decode M.2.1 pc = .ok (.invokevirtual idx, 3)) (hq : pc + 3 = q) (k : CC l d' M' (.ref b :: [v1]) μ (fun r μ' => TT X q L (r.toList ++ S) μ')) : TT X pc L (v1 :: .ref b :: S) μ := tt_callVg hX hdd hM hlk (as := [v1]) hO hc rfl rfl hcat hd hq k
theorem tt_cS1 (hX : Cx X l d M) {d' : Nat} (hdd : d' + 1 ≤ d) {M' : MD} (hM : MKS M' 1) {idx : Nat} (hlk : Cond.methodLink M.2.2.2.2 idx M'.1 ∈ wsL_law) {pc q : Nat} {L S : List Value} {v1 : Value} {μ : Mem} (hcat : (S.map fun v => v.category).sum ≤ 8) (hd : decode M.2.1 pc = .ok (.invokestatic idx, 3)) (hq : pc + 3 = q) (k : CC l d' M' [v1] μ (fun r μ' => TT X q L (r.toList ++ S) μ')) : TT X pc L (v1 :: S) μ := tt_callSg hX hdd hM hlk (as := [v1]) rfl rfl hcat hd hq k
theorem tt_cV2 (hX : Cx X l d M) {d' : Nat} (hdd : d' + 1 ≤ d) {M' : MD} {ci : Nat} {T : u_T} {N : Nat} (hM : MKV M' 2) {idx : Nat} (hlk : Cond.methodLink M.2.2.2.2 idx M'.1 ∈ wsL_law) {pc q b : Nat} {L S : List Value} {v1 v2 : Value} {μ : Mem} (hO : HO b ci) (hc : vwCl[ci]? = some (M'.2.2.2.2, T, N)) (hcat : (S.map fun v => v.category).sum ≤ 8) (hd : decode M.2.1 pc = .ok (.invokevirtual idx, 3)) (hq : pc + 3 = q) (k : CC l d' M' (.ref b :: [v1, v2]) μ (fun r μ' => TT X q L (r.toList ++ S) μ')) : TT X pc L (v2 :: v1 :: .ref b :: S) μ := tt_callVg hX hdd hM hlk (as := [v1, v2]) hO hc rfl rfl hcat hd hq k
theorem tt_cS2 (hX : Cx X l d M) {d' : Nat} (hdd : d' + 1 ≤ d) {M' : MD} (hM : MKS M' 2) {idx : Nat} (hlk : Cond.methodLink M.2.2.2.2 idx M'.1 ∈ wsL_law) {pc q : Nat} {L S : List Value} {v1 v2 : Value} {μ : Mem} (hcat : (S.map fun v => v.category).sum ≤ 8) (hd : decode M.2.1 pc = .ok (.invokestatic idx, 3)) (hq : pc + 3 = q) (k : CC l d' M' [v1, v2] μ (fun r μ' => TT X q L (r.toList ++ S) μ')) : TT X pc L (v2 :: v1 :: S) μ := tt_callSg hX hdd hM hlk (as := [v1, v2]) rfl rfl hcat hd hq k
theorem tt_cV3 (hX : Cx X l d M) {d' : Nat} (hdd : d' + 1 ≤ d) {M' : MD} {ci : Nat} {T : u_T} {N : Nat} (hM : MKV M' 3) {idx : Nat} (hlk : Cond.methodLink M.2.2.2.2 idx M'.1 ∈ wsL_law) {pc q b : Nat} {L S : List Value} {v1 v2 v3 : Value} {μ : Mem} (hO : HO b ci) (hc : vwCl[ci]? = some (M'.2.2.2.2, T, N)) (hcat : (S.map fun v => v.category).sum ≤ 8) (hd : decode M.2.1 pc = .ok (.invokevirtual idx, 3)) (hq : pc + 3 = q) (k : CC l d' M' (.ref b :: [v1, v2, v3]) μ (fun r μ' => TT X q L (r.toList ++ S) μ')) : TT X pc L (v3 :: v2 :: v1 :: .ref b :: S) μ := tt_callVg hX hdd hM hlk (as := [v1, v2, v3]) hO hc rfl rfl hcat hd hq k
theorem tt_cS3 (hX : Cx X l d M) {d' : Nat} (hdd : d' + 1 ≤ d) {M' : MD} (hM : MKS M' 3) {idx : Nat} (hlk : Cond.methodLink M.2.2.2.2 idx M'.1 ∈ wsL_law) {pc q : Nat} {L S : List Value} {v1 v2 v3 : Value} {μ : Mem} (hcat : (S.map fun v => v.category).sum ≤ 8) (hd : decode M.2.1 pc = .ok (.invokestatic idx, 3)) (hq : pc + 3 = q) (k : CC l d' M' [v1, v2, v3] μ (fun r μ' => TT X q L (r.toList ++ S) μ')) : TT X pc L (v3 :: v2 :: v1 :: S) μ := tt_callSg hX hdd hM hlk (as := [v1, v2, v3]) rfl rfl hcat hd hq k
theorem tt_cV4 (hX : Cx X l d M) {d' : Nat} (hdd : d' + 1 ≤ d) {M' : MD} {ci : Nat} {T : u_T} {N : Nat} (hM : MKV M' 4) {idx : Nat} (hlk : Cond.methodLink M.2.2.2.2 idx M'.1 ∈ wsL_law) {pc q b : Nat} {L S : List Value} {v1 v2 v3 v4 : Value} {μ : Mem} (hO : HO b ci) (hc : vwCl[ci]? = some (M'.2.2.2.2, T, N)) (hcat : (S.map fun v => v.category).sum ≤ 8) (hd : decode M.2.1 pc = .ok (.invokevirtual idx, 3)) (hq : pc + 3 = q) (k : CC l d' M' (.ref b :: [v1, v2, v3, v4]) μ (fun r μ' => TT X q L (r.toList ++ S) μ')) : TT X pc L (v4 :: v3 :: v2 :: v1 :: .ref b :: S) μ := tt_callVg hX hdd hM hlk (as := [v1, v2, v3, v4]) hO hc rfl rfl hcat hd hq k
theorem tt_cS4 (hX : Cx X l d M) {d' : Nat} (hdd : d' + 1 ≤ d) {M' : MD} (hM : MKS M' 4) {idx : Nat} (hlk : Cond.methodLink M.2.2.2.2 idx M'.1 ∈ wsL_law) {pc q : Nat} {L S : List Value} {v1 v2 v3 v4 : Value} {μ : Mem} (hcat : (S.map fun v => v.category).sum ≤ 8) (hd : decode M.2.1 pc = .ok (.invokestatic idx, 3)) (hq : pc + 3 = q) (k : CC l d' M' [v1, v2, v3, v4] μ (fun r μ' => TT X q L (r.toList ++ S) μ')) : TT X pc L (v4 :: v3 :: v2 :: v1 :: S) μ := tt_callSg hX hdd hM hlk (as := [v1, v2, v3, v4]) rfl rfl hcat hd hq k
theorem tt_cV5 (hX : Cx X l d M) {d' : Nat} (hdd : d' + 1 ≤ d) {M' : MD} {ci : Nat} {T : u_T} {N : Nat} (hM : MKV M' 5) {idx : Nat} (hlk : Cond.methodLink M.2.2.2.2 idx M'.1 ∈ wsL_law) {pc q b : Nat} {L S : List Value} {v1 v2 v3 v4 v5 : Value} {μ : Mem} (hO : HO b ci) (hc : vwCl[ci]? = some (M'.2.2.2.2, T, N)) (hcat : (S.map fun v => v.category).sum ≤ 8) (hd : decode M.2.1 pc = .ok (.invokevirtual idx, 3)) (hq : pc + 3 = q) (k : CC l d' M' (.ref b :: [v1, v2, v3, v4, v5]) μ (fun r μ' => TT X q L (r.toList ++ S) μ')) : TT X pc L (v5 :: v4 :: v3 :: v2 :: v1 :: .ref b :: S) μ := tt_callVg hX hdd hM hlk (as := [v1, v2, v3, v4, v5]) hO hc rfl rfl hcat hd hq k
theorem tt_cS5 (hX : Cx X l d M) {d' : Nat} (hdd : d' + 1 ≤ d) {M' : MD} (hM : MKS M' 5) {idx : Nat} (hlk : Cond.methodLink M.2.2.2.2 idx M'.1 ∈ wsL_law) {pc q : Nat} {L S : List Value} {v1 v2 v3 v4 v5 : Value} {μ : Mem} (hcat : (S.map fun v => v.category).sum ≤ 8) (hd : decode M.2.1 pc = .ok (.invokestatic idx, 3)) (hq : pc + 3 = q) (k : CC l d' M' [v1, v2, v3, v4, v5] μ (fun r μ' => TT X q L (r.toList ++ S) μ')) : TT X pc L (v5 :: v4 :: v3 :: v2 :: v1 :: S) μ := tt_callSg hX hdd hM hlk (as := [v1, v2, v3, v4, v5]) rfl rfl hcat hd hq k
end CV
/-! ENDS OF A METHOD -/
section EN
variable {X : XT} {l : Launch} {d : Nat} {M : MD} {Q : Option Value → Mem → Prop}
theorem tt_reti (hX : Cm X l d M Q) (hr : M.2.2.2.1 = some .int) {pc : Nat} {L : List Value} {μ : Mem} {v : Int32} (hd : decode M.2.1 pc = .ok (.ireturn, 1)) (k : Q (some (.int v)) μ) : TT X pc L [.int v] μ := by
  obtain ⟨p, l', e, R, s, m, args, below, meth, c, Z, ce, sl, g, M', n0⟩ := X
  obtain ⟨⟨rfl, rfl, rfl, hx, hb, hml, ho, hts, hK, hSS, hg, hfr, hlo, hce, hsl⟩, hlk, hrt, rfl, rfl, rfl⟩ := hX
  intro H locs ls hP hS hl
  exact W.iret hx hb (hrt.trans hr) (fun t ht hW => ⟨⟨some (.int v), μ, rfl, k, by rw [ht]; exact hP⟩, hS.F ht⟩) hS.2.2 hd hlk
theorem tt_retz (hX : Cm X l d M Q) (hr : M.2.2.2.1 = some .boolean) {pc : Nat} {L : List Value} {μ : Mem} {v : Int32} (hv : v = 0 ∨ v = 1) (hd : decode M.2.1 pc = .ok (.ireturn, 1)) (k : Q (some (.int v)) μ) : TT X pc L [.int v] μ := by
  obtain ⟨p, l', e, R, s, m, args, below, meth, c, Z, ce, sl, g, M', n0⟩ := X
  obtain ⟨⟨rfl, rfl, rfl, hx, hb, hml, ho, hts, hK, hSS, hg, hfr, hlo, hce, hsl⟩, hlk, hrt, rfl, rfl, rfl⟩ := hX
  intro H locs ls hP hS hl
  exact W.zret hx hb (hrt.trans hr) (by rcases hv with rfl | rfl <;> rfl) (fun t ht hW => ⟨⟨some (.int v), μ, rfl, k, by rw [ht]; exact hP⟩, hS.F ht⟩) hS.2.2 hd hlk
theorem tt_retx (hX : Cm X l d M Q) {ty : FieldType} (hr : M.2.2.2.1 = some ty) {pc : Nat} {L : List Value} {μ : Mem} {v : Int32} (hv : narrow ty (.int v) = .int v) (hd : decode M.2.1 pc = .ok (.ireturn, 1)) (k : Q (some (.int v)) μ) : TT X pc L [.int v] μ := by
  obtain ⟨p, l', e, R, s, m, args, below, meth, c, Z, ce, sl, g, M', n0⟩ := X
  obtain ⟨⟨rfl, rfl, rfl, hx, hb, hml, ho, hts, hK, hSS, hg, hfr, hlo, hce, hsl⟩, hlk, hrt, rfl, rfl, rfl⟩ := hX
  intro H locs ls hP hS hl
  exact W.zret hx hb (hrt.trans hr) hv (fun t ht hW => ⟨⟨some (.int v), μ, rfl, k, by rw [ht]; exact hP⟩, hS.F ht⟩) hS.2.2 hd hlk
theorem tt_retv (hX : Cm X l d M Q) (hr : M.2.2.2.1 = none) {pc : Nat} {L : List Value} {μ : Mem} (hd : decode M.2.1 pc = .ok (.return_, 1)) (k : Q none μ) : TT X pc L [] μ := by
  obtain ⟨p, l', e, R, s, m, args, below, meth, c, Z, ce, sl, g, M', n0⟩ := X
  obtain ⟨⟨rfl, rfl, rfl, hx, hb, hml, ho, hts, hK, hSS, hg, hfr, hlo, hce, hsl⟩, hlk, hrt, rfl, rfl, rfl⟩ := hX
  intro H locs ls hP hS hl
  exact W.vret hx hb (hrt.trans hr) (fun t ht hW => ⟨⟨none, μ, rfl, k, by rw [ht]; exact hP⟩, hS.F ht⟩) hS.2.2 hd hlk
theorem tt_retl (hX : Cm X l d M Q) (hr : M.2.2.2.1 = some .long) {pc : Nat} {L : List Value} {μ : Mem} {v : Int64} (hd : decode M.2.1 pc = .ok (.lreturn, 1)) (k : Q (some (.long v)) μ) : TT X pc L [.long v] μ := by
  obtain ⟨p, l', e, R, s, m, args, below, meth, c, Z, ce, sl, g, M', n0⟩ := X
  obtain ⟨⟨rfl, rfl, rfl, hx, hb, hml, ho, hts, hK, hSS, hg, hfr, hlo, hce, hsl⟩, hlk, hrt, rfl, rfl, rfl⟩ := hX
  intro H locs ls hP hS hl
  exact W.lret hx hb (hrt.trans hr) (fun t ht hW => ⟨⟨some (.long v), μ, rfl, k, by rw [ht]; exact hP⟩, hS.F ht⟩) hS.2.2 hd hlk
theorem tt_reta (hX : Cm X l d M Q) {C : String} (hr : M.2.2.2.1 = some (.object C)) {pc : Nat} {L : List Value} {μ : Mem} {v : Value} (hv : v = .null ∨ ∃ a, v = .ref a) (hd : decode M.2.1 pc = .ok (.areturn, 1)) (k : Q (some v) μ) : TT X pc L [v] μ := by
  obtain ⟨p, l', e, R, s, m, args, below, meth, c, Z, ce, sl, g, M', n0⟩ := X
  obtain ⟨⟨rfl, rfl, rfl, hx, hb, hml, ho, hts, hK, hSS, hg, hfr, hlo, hce, hsl⟩, hlk, hrt, rfl, rfl, rfl⟩ := hX
  intro H locs ls hP hS hl
  exact W.aret hx hb (hrt.trans hr) (Or.inl ⟨C, rfl⟩) (by rcases hv with rfl | ⟨a, rfl⟩; exact Or.inl rfl; exact Or.inr ⟨_, rfl⟩) (fun t ht hW => ⟨⟨some v, μ, rfl, k, by rw [ht]; exact hP⟩, hS.F ht⟩) hS.2.2 hd hlk
end EN
end
