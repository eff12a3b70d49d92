section
-- ===== PART A: goes FIRST, ahead of the names: the tables' words, and 'selects' of the private methods out of them =====
/-- a private method of a class that the tables say can be made, by its rows of tables_1 -/
def lw_okq (q : MethodName × Nat) : Prop := (q.1.cls ≠ "java/lang/invoke/MethodHandle" ∧ q.1.cls ≠ "java/lang/invoke/VarHandle") ∧ Cond.instantiable q.1.cls q.2 ∈ tables_1 ∧ Cond.privateMethod q.1 ∈ tables_1 ∧ Cond.instanceMethod q.1 ∈ tables_1
theorem lw_p0 : lw_okq (⟨"java/util/ArrayList", "add", "(Ljava/lang/Object;[Ljava/lang/Object;I)V"⟩, 3) := ⟨⟨by decide +kernel, by decide +kernel⟩, List.mem_of_getElem? (i := 60) (by decide +kernel), List.mem_of_getElem? (i := 379) (by decide +kernel), List.mem_of_getElem? (i := 380) (by decide +kernel)⟩
theorem lw_p1 : lw_okq (⟨"java/util/ArrayList", "grow", "()[Ljava/lang/Object;"⟩, 3) := ⟨⟨by decide +kernel, by decide +kernel⟩, List.mem_of_getElem? (i := 60) (by decide +kernel), List.mem_of_getElem? (i := 383) (by decide +kernel), List.mem_of_getElem? (i := 384) (by decide +kernel)⟩
theorem lw_p2 : lw_okq (⟨"java/util/ArrayList", "grow", "(I)[Ljava/lang/Object;"⟩, 3) := ⟨⟨by decide +kernel, by decide +kernel⟩, List.mem_of_getElem? (i := 60) (by decide +kernel), List.mem_of_getElem? (i := 387) (by decide +kernel), List.mem_of_getElem? (i := 388) (by decide +kernel)⟩
theorem lw_p3 : lw_okq (⟨"ShadeRegister", "isPerson", "(I)Z"⟩, 18) := ⟨⟨by decide +kernel, by decide +kernel⟩, List.mem_of_getElem? (i := 28) (by decide +kernel), List.mem_of_getElem? (i := 436) (by decide +kernel), List.mem_of_getElem? (i := 437) (by decide +kernel)⟩
theorem lw_p4 : lw_okq (⟨"ShadeRegister", "mayStand", "(III)Z"⟩, 18) := ⟨⟨by decide +kernel, by decide +kernel⟩, List.mem_of_getElem? (i := 28) (by decide +kernel), List.mem_of_getElem? (i := 458) (by decide +kernel), List.mem_of_getElem? (i := 459) (by decide +kernel)⟩
theorem lw_p5 : lw_okq (⟨"ShadeRegister", "isBuiltOn", "(I)Z"⟩, 18) := ⟨⟨by decide +kernel, by decide +kernel⟩, List.mem_of_getElem? (i := 28) (by decide +kernel), List.mem_of_getElem? (i := 474) (by decide +kernel), List.mem_of_getElem? (i := 475) (by decide +kernel)⟩
theorem lw_p6 : lw_okq (⟨"ShadeRegister", "addThing", "(LShadeRegister$Thing;I)I"⟩, 18) := ⟨⟨by decide +kernel, by decide +kernel⟩, List.mem_of_getElem? (i := 28) (by decide +kernel), List.mem_of_getElem? (i := 543) (by decide +kernel), List.mem_of_getElem? (i := 544) (by decide +kernel)⟩
theorem lw_p7 : lw_okq (⟨"ShadeRegister", "isThing", "(I)Z"⟩, 18) := ⟨⟨by decide +kernel, by decide +kernel⟩, List.mem_of_getElem? (i := 28) (by decide +kernel), List.mem_of_getElem? (i := 563) (by decide +kernel), List.mem_of_getElem? (i := 564) (by decide +kernel)⟩
theorem lw_p8 : lw_okq (⟨"ShadeRegister$Thing", "entryFor", "(II)I"⟩, 14) := ⟨⟨by decide +kernel, by decide +kernel⟩, List.mem_of_getElem? (i := 482) (by decide +kernel), List.mem_of_getElem? (i := 580) (by decide +kernel), List.mem_of_getElem? (i := 581) (by decide +kernel)⟩
theorem lw_p9 : lw_okq (⟨"ShadeRegister$Thing", "grownBetween", "(II)I"⟩, 14) := ⟨⟨by decide +kernel, by decide +kernel⟩, List.mem_of_getElem? (i := 482) (by decide +kernel), List.mem_of_getElem? (i := 584) (by decide +kernel), List.mem_of_getElem? (i := 585) (by decide +kernel)⟩
theorem lw_p10 : lw_okq (⟨"ShadeRegister", "nearestHeight", "(LShadeRegister$Thing;III)I"⟩, 18) := ⟨⟨by decide +kernel, by decide +kernel⟩, List.mem_of_getElem? (i := 28) (by decide +kernel), List.mem_of_getElem? (i := 593) (by decide +kernel), List.mem_of_getElem? (i := 594) (by decide +kernel)⟩
theorem lw_p11 : lw_okq (⟨"ShadeRegister", "findHolders", "(III)V"⟩, 18) := ⟨⟨by decide +kernel, by decide +kernel⟩, List.mem_of_getElem? (i := 28) (by decide +kernel), List.mem_of_getElem? (i := 706) (by decide +kernel), List.mem_of_getElem? (i := 707) (by decide +kernel)⟩
theorem lw_p12 : lw_okq (⟨"ShadeRegister$Scene", "castShadow", "(IIII)V"⟩, 7) := ⟨⟨by decide +kernel, by decide +kernel⟩, List.mem_of_getElem? (i := 172) (by decide +kernel), List.mem_of_getElem? (i := 745) (by decide +kernel), List.mem_of_getElem? (i := 746) (by decide +kernel)⟩
theorem lw_p13 : lw_okq (⟨"ShadeRegister", "heldBy", "(IIII)I"⟩, 18) := ⟨⟨by decide +kernel, by decide +kernel⟩, List.mem_of_getElem? (i := 28) (by decide +kernel), List.mem_of_getElem? (i := 763) (by decide +kernel), List.mem_of_getElem? (i := 764) (by decide +kernel)⟩
theorem lw_p14 : lw_okq (⟨"ShadeRegister", "partsOnDay", "(III)J"⟩, 18) := ⟨⟨by decide +kernel, by decide +kernel⟩, List.mem_of_getElem? (i := 28) (by decide +kernel), List.mem_of_getElem? (i := 791) (by decide +kernel), List.mem_of_getElem? (i := 792) (by decide +kernel)⟩
theorem lw_p15 : lw_okq (⟨"ShadeRegister", "partsOverYear", "(II)J"⟩, 18) := ⟨⟨by decide +kernel, by decide +kernel⟩, List.mem_of_getElem? (i := 28) (by decide +kernel), List.mem_of_getElem? (i := 804) (by decide +kernel), List.mem_of_getElem? (i := 805) (by decide +kernel)⟩
def lw_privs_1 : List (MethodName × Nat) := [(⟨"java/util/ArrayList", "add", "(Ljava/lang/Object;[Ljava/lang/Object;I)V"⟩, 3), (⟨"java/util/ArrayList", "grow", "()[Ljava/lang/Object;"⟩, 3), (⟨"java/util/ArrayList", "grow", "(I)[Ljava/lang/Object;"⟩, 3), (⟨"ShadeRegister", "isPerson", "(I)Z"⟩, 18), (⟨"ShadeRegister", "mayStand", "(III)Z"⟩, 18), (⟨"ShadeRegister", "isBuiltOn", "(I)Z"⟩, 18), (⟨"ShadeRegister", "addThing", "(LShadeRegister$Thing;I)I"⟩, 18), (⟨"ShadeRegister", "isThing", "(I)Z"⟩, 18), (⟨"ShadeRegister$Thing", "entryFor", "(II)I"⟩, 14), (⟨"ShadeRegister$Thing", "grownBetween", "(II)I"⟩, 14), (⟨"ShadeRegister", "nearestHeight", "(LShadeRegister$Thing;III)I"⟩, 18), (⟨"ShadeRegister", "findHolders", "(III)V"⟩, 18), (⟨"ShadeRegister$Scene", "castShadow", "(IIII)V"⟩, 7), (⟨"ShadeRegister", "heldBy", "(IIII)I"⟩, 18), (⟨"ShadeRegister", "partsOnDay", "(III)J"⟩, 18), (⟨"ShadeRegister", "partsOverYear", "(II)J"⟩, 18)]
theorem lw_r1 : ∀ q ∈ lw_privs_1, lw_okq q := List.forall_mem_cons.mpr ⟨lw_p0, List.forall_mem_cons.mpr ⟨lw_p1, List.forall_mem_cons.mpr ⟨lw_p2, List.forall_mem_cons.mpr ⟨lw_p3, List.forall_mem_cons.mpr ⟨lw_p4, List.forall_mem_cons.mpr ⟨lw_p5, List.forall_mem_cons.mpr ⟨lw_p6, List.forall_mem_cons.mpr ⟨lw_p7, List.forall_mem_cons.mpr ⟨lw_p8, List.forall_mem_cons.mpr ⟨lw_p9, List.forall_mem_cons.mpr ⟨lw_p10, List.forall_mem_cons.mpr ⟨lw_p11, List.forall_mem_cons.mpr ⟨lw_p12, List.forall_mem_cons.mpr ⟨lw_p13, List.forall_mem_cons.mpr ⟨lw_p14, List.forall_mem_cons.mpr ⟨lw_p15, fun _ h => absurd h List.not_mem_nil⟩⟩⟩⟩⟩⟩⟩⟩⟩⟩⟩⟩⟩⟩⟩⟩
theorem lw_p16 : lw_okq (⟨"ShadeRegister$Tape", "byteAt", "(I)I"⟩, 6) := ⟨⟨by decide +kernel, by decide +kernel⟩, List.mem_of_getElem? (i := 86) (by decide +kernel), List.mem_of_getElem? (i := 841) (by decide +kernel), List.mem_of_getElem? (i := 842) (by decide +kernel)⟩
theorem lw_p17 : lw_okq (⟨"ShadeRegister$Tape", "endOfLetters", "(I)I"⟩, 6) := ⟨⟨by decide +kernel, by decide +kernel⟩, List.mem_of_getElem? (i := 86) (by decide +kernel), List.mem_of_getElem? (i := 848) (by decide +kernel), List.mem_of_getElem? (i := 849) (by decide +kernel)⟩
theorem lw_p18 : lw_okq (⟨"ShadeRegister$Tape", "addWord", "(II)V"⟩, 6) := ⟨⟨by decide +kernel, by decide +kernel⟩, List.mem_of_getElem? (i := 86) (by decide +kernel), List.mem_of_getElem? (i := 852) (by decide +kernel), List.mem_of_getElem? (i := 853) (by decide +kernel)⟩
theorem lw_p19 : lw_okq (⟨"ShadeRegister$Tape", "nameOf", "(II)I"⟩, 6) := ⟨⟨by decide +kernel, by decide +kernel⟩, List.mem_of_getElem? (i := 86) (by decide +kernel), List.mem_of_getElem? (i := 856) (by decide +kernel), List.mem_of_getElem? (i := 857) (by decide +kernel)⟩
theorem lw_p20 : lw_okq (⟨"ShadeRegister$Tape", "isWord", "(IILjava/lang/String;)Z"⟩, 6) := ⟨⟨by decide +kernel, by decide +kernel⟩, List.mem_of_getElem? (i := 86) (by decide +kernel), List.mem_of_getElem? (i := 861) (by decide +kernel), List.mem_of_getElem? (i := 862) (by decide +kernel)⟩
theorem lw_p21 : lw_okq (⟨"ShadeRegister$Tape", "kindOfWord", "(II)I"⟩, 6) := ⟨⟨by decide +kernel, by decide +kernel⟩, List.mem_of_getElem? (i := 86) (by decide +kernel), List.mem_of_getElem? (i := 918) (by decide +kernel), List.mem_of_getElem? (i := 919) (by decide +kernel)⟩
theorem lw_p22 : lw_okq (⟨"ShadeRegister$Tape", "addToken", "(III)V"⟩, 6) := ⟨⟨by decide +kernel, by decide +kernel⟩, List.mem_of_getElem? (i := 86) (by decide +kernel), List.mem_of_getElem? (i := 929) (by decide +kernel), List.mem_of_getElem? (i := 930) (by decide +kernel)⟩
theorem lw_p23 : lw_okq (⟨"ShadeRegister$Tape", "endOfDigits", "(I)I"⟩, 6) := ⟨⟨by decide +kernel, by decide +kernel⟩, List.mem_of_getElem? (i := 86) (by decide +kernel), List.mem_of_getElem? (i := 936) (by decide +kernel), List.mem_of_getElem? (i := 937) (by decide +kernel)⟩
theorem lw_p24 : lw_okq (⟨"ShadeRegister$Tape", "numberOf", "(II)I"⟩, 6) := ⟨⟨by decide +kernel, by decide +kernel⟩, List.mem_of_getElem? (i := 86) (by decide +kernel), List.mem_of_getElem? (i := 940) (by decide +kernel), List.mem_of_getElem? (i := 941) (by decide +kernel)⟩
theorem lw_p25 : lw_okq (⟨"ShadeRegister$Parser", "rule", "()V"⟩, 6) := ⟨⟨by decide +kernel, by decide +kernel⟩, List.mem_of_getElem? (i := 237) (by decide +kernel), List.mem_of_getElem? (i := 953) (by decide +kernel), List.mem_of_getElem? (i := 954) (by decide +kernel)⟩
theorem lw_p26 : lw_okq (⟨"ShadeRegister$Parser", "fail", "(I)V"⟩, 6) := ⟨⟨by decide +kernel, by decide +kernel⟩, List.mem_of_getElem? (i := 237) (by decide +kernel), List.mem_of_getElem? (i := 957) (by decide +kernel), List.mem_of_getElem? (i := 958) (by decide +kernel)⟩
theorem lw_p27 : lw_okq (⟨"ShadeRegister$Parser", "advance", "()V"⟩, 6) := ⟨⟨by decide +kernel, by decide +kernel⟩, List.mem_of_getElem? (i := 237) (by decide +kernel), List.mem_of_getElem? (i := 961) (by decide +kernel), List.mem_of_getElem? (i := 962) (by decide +kernel)⟩
theorem lw_p28 : lw_okq (⟨"ShadeRegister$Parser", "either", "(I)V"⟩, 6) := ⟨⟨by decide +kernel, by decide +kernel⟩, List.mem_of_getElem? (i := 237) (by decide +kernel), List.mem_of_getElem? (i := 965) (by decide +kernel), List.mem_of_getElem? (i := 966) (by decide +kernel)⟩
theorem lw_p29 : lw_okq (⟨"ShadeRegister$Parser", "both", "(I)V"⟩, 6) := ⟨⟨by decide +kernel, by decide +kernel⟩, List.mem_of_getElem? (i := 237) (by decide +kernel), List.mem_of_getElem? (i := 969) (by decide +kernel), List.mem_of_getElem? (i := 970) (by decide +kernel)⟩
theorem lw_p30 : lw_okq (⟨"ShadeRegister$Parser", "ask", "(I)V"⟩, 6) := ⟨⟨by decide +kernel, by decide +kernel⟩, List.mem_of_getElem? (i := 237) (by decide +kernel), List.mem_of_getElem? (i := 973) (by decide +kernel), List.mem_of_getElem? (i := 974) (by decide +kernel)⟩
theorem lw_p31 : lw_okq (⟨"ShadeRegister$Parser", "open", "(II)Z"⟩, 6) := ⟨⟨by decide +kernel, by decide +kernel⟩, List.mem_of_getElem? (i := 237) (by decide +kernel), List.mem_of_getElem? (i := 977) (by decide +kernel), List.mem_of_getElem? (i := 978) (by decide +kernel)⟩
def lw_privs_2 : List (MethodName × Nat) := [(⟨"ShadeRegister$Tape", "byteAt", "(I)I"⟩, 6), (⟨"ShadeRegister$Tape", "endOfLetters", "(I)I"⟩, 6), (⟨"ShadeRegister$Tape", "addWord", "(II)V"⟩, 6), (⟨"ShadeRegister$Tape", "nameOf", "(II)I"⟩, 6), (⟨"ShadeRegister$Tape", "isWord", "(IILjava/lang/String;)Z"⟩, 6), (⟨"ShadeRegister$Tape", "kindOfWord", "(II)I"⟩, 6), (⟨"ShadeRegister$Tape", "addToken", "(III)V"⟩, 6), (⟨"ShadeRegister$Tape", "endOfDigits", "(I)I"⟩, 6), (⟨"ShadeRegister$Tape", "numberOf", "(II)I"⟩, 6), (⟨"ShadeRegister$Parser", "rule", "()V"⟩, 6), (⟨"ShadeRegister$Parser", "fail", "(I)V"⟩, 6), (⟨"ShadeRegister$Parser", "advance", "()V"⟩, 6), (⟨"ShadeRegister$Parser", "either", "(I)V"⟩, 6), (⟨"ShadeRegister$Parser", "both", "(I)V"⟩, 6), (⟨"ShadeRegister$Parser", "ask", "(I)V"⟩, 6), (⟨"ShadeRegister$Parser", "open", "(II)Z"⟩, 6)]
theorem lw_r2 : ∀ q ∈ lw_privs_2, lw_okq q := List.forall_mem_cons.mpr ⟨lw_p16, List.forall_mem_cons.mpr ⟨lw_p17, List.forall_mem_cons.mpr ⟨lw_p18, List.forall_mem_cons.mpr ⟨lw_p19, List.forall_mem_cons.mpr ⟨lw_p20, List.forall_mem_cons.mpr ⟨lw_p21, List.forall_mem_cons.mpr ⟨lw_p22, List.forall_mem_cons.mpr ⟨lw_p23, List.forall_mem_cons.mpr ⟨lw_p24, List.forall_mem_cons.mpr ⟨lw_p25, List.forall_mem_cons.mpr ⟨lw_p26, List.forall_mem_cons.mpr ⟨lw_p27, List.forall_mem_cons.mpr ⟨lw_p28, List.forall_mem_cons.mpr ⟨lw_p29, List.forall_mem_cons.mpr ⟨lw_p30, List.forall_mem_cons.mpr ⟨lw_p31, fun _ h => absurd h List.not_mem_nil⟩⟩⟩⟩⟩⟩⟩⟩⟩⟩⟩⟩⟩⟩⟩⟩
theorem lw_p32 : lw_okq (⟨"ShadeRegister$Parser", "pass", "(I)V"⟩, 6) := ⟨⟨by decide +kernel, by decide +kernel⟩, List.mem_of_getElem? (i := 237) (by decide +kernel), List.mem_of_getElem? (i := 985) (by decide +kernel), List.mem_of_getElem? (i := 986) (by decide +kernel)⟩
theorem lw_p33 : lw_okq (⟨"ShadeRegister$Parser", "sum", "(I)V"⟩, 6) := ⟨⟨by decide +kernel, by decide +kernel⟩, List.mem_of_getElem? (i := 237) (by decide +kernel), List.mem_of_getElem? (i := 989) (by decide +kernel), List.mem_of_getElem? (i := 990) (by decide +kernel)⟩
theorem lw_p34 : lw_okq (⟨"ShadeRegister$Parser", "product", "(I)V"⟩, 6) := ⟨⟨by decide +kernel, by decide +kernel⟩, List.mem_of_getElem? (i := 237) (by decide +kernel), List.mem_of_getElem? (i := 993) (by decide +kernel), List.mem_of_getElem? (i := 994) (by decide +kernel)⟩
theorem lw_p35 : lw_okq (⟨"ShadeRegister$Parser", "one", "(I)V"⟩, 6) := ⟨⟨by decide +kernel, by decide +kernel⟩, List.mem_of_getElem? (i := 237) (by decide +kernel), List.mem_of_getElem? (i := 997) (by decide +kernel), List.mem_of_getElem? (i := 998) (by decide +kernel)⟩
theorem lw_p36 : lw_okq (⟨"ShadeRegister$Parser", "value", "()V"⟩, 6) := ⟨⟨by decide +kernel, by decide +kernel⟩, List.mem_of_getElem? (i := 237) (by decide +kernel), List.mem_of_getElem? (i := 1001) (by decide +kernel), List.mem_of_getElem? (i := 1002) (by decide +kernel)⟩
theorem lw_p37 : lw_okq (⟨"ShadeRegister$Tariff", "run", "(II[I)J"⟩, 7) := ⟨⟨by decide +kernel, by decide +kernel⟩, List.mem_of_getElem? (i := 112) (by decide +kernel), List.mem_of_getElem? (i := 1037) (by decide +kernel), List.mem_of_getElem? (i := 1038) (by decide +kernel)⟩
theorem lw_p38 : lw_okq (⟨"ShadeRegister", "isStall", "(I)Z"⟩, 18) := ⟨⟨by decide +kernel, by decide +kernel⟩, List.mem_of_getElem? (i := 28) (by decide +kernel), List.mem_of_getElem? (i := 1085) (by decide +kernel), List.mem_of_getElem? (i := 1086) (by decide +kernel)⟩
theorem lw_p39 : lw_okq (⟨"ShadeRegister", "mayTake", "(III)Z"⟩, 18) := ⟨⟨by decide +kernel, by decide +kernel⟩, List.mem_of_getElem? (i := 28) (by decide +kernel), List.mem_of_getElem? (i := 1089) (by decide +kernel), List.mem_of_getElem? (i := 1090) (by decide +kernel)⟩
theorem lw_p40 : lw_okq (⟨"ShadeRegister", "chargeOf", "(IIII)J"⟩, 18) := ⟨⟨by decide +kernel, by decide +kernel⟩, List.mem_of_getElem? (i := 28) (by decide +kernel), List.mem_of_getElem? (i := 1114) (by decide +kernel), List.mem_of_getElem? (i := 1115) (by decide +kernel)⟩
theorem lw_p41 : lw_okq (⟨"ShadeRegister", "leadThroughHour", "(IIIZ)V"⟩, 18) := ⟨⟨by decide +kernel, by decide +kernel⟩, List.mem_of_getElem? (i := 28) (by decide +kernel), List.mem_of_getElem? (i := 1135) (by decide +kernel), List.mem_of_getElem? (i := 1136) (by decide +kernel)⟩
theorem lw_p42 : lw_okq (⟨"ShadeRegister", "mayWalk", "(II)Z"⟩, 18) := ⟨⟨by decide +kernel, by decide +kernel⟩, List.mem_of_getElem? (i := 28) (by decide +kernel), List.mem_of_getElem? (i := 1146) (by decide +kernel), List.mem_of_getElem? (i := 1147) (by decide +kernel)⟩
theorem lw_p43 : lw_okq (⟨"ShadeRegister$Route", "isBetter", "(II)Z"⟩, 9) := ⟨⟨by decide +kernel, by decide +kernel⟩, List.mem_of_getElem? (i := 202) (by decide +kernel), List.mem_of_getElem? (i := 1172) (by decide +kernel), List.mem_of_getElem? (i := 1173) (by decide +kernel)⟩
theorem lw_p44 : lw_okq (⟨"ShadeRegister", "bestTree", "(II)I"⟩, 18) := ⟨⟨by decide +kernel, by decide +kernel⟩, List.mem_of_getElem? (i := 28) (by decide +kernel), List.mem_of_getElem? (i := 1201) (by decide +kernel), List.mem_of_getElem? (i := 1202) (by decide +kernel)⟩
theorem lw_p45 : lw_okq (⟨"ShadeRegister", "hasStall", "(II)Z"⟩, 18) := ⟨⟨by decide +kernel, by decide +kernel⟩, List.mem_of_getElem? (i := 28) (by decide +kernel), List.mem_of_getElem? (i := 1205) (by decide +kernel), List.mem_of_getElem? (i := 1206) (by decide +kernel)⟩
theorem lw_p46 : lw_okq (⟨"ShadeRegister", "serveHour", "(II)V"⟩, 18) := ⟨⟨by decide +kernel, by decide +kernel⟩, List.mem_of_getElem? (i := 28) (by decide +kernel), List.mem_of_getElem? (i := 1209) (by decide +kernel), List.mem_of_getElem? (i := 1210) (by decide +kernel)⟩
theorem lw_p47 : lw_okq (⟨"ShadeRegister", "servePlace", "(III)V"⟩, 18) := ⟨⟨by decide +kernel, by decide +kernel⟩, List.mem_of_getElem? (i := 28) (by decide +kernel), List.mem_of_getElem? (i := 1213) (by decide +kernel), List.mem_of_getElem? (i := 1214) (by decide +kernel)⟩
def lw_privs_3 : List (MethodName × Nat) := [(⟨"ShadeRegister$Parser", "pass", "(I)V"⟩, 6), (⟨"ShadeRegister$Parser", "sum", "(I)V"⟩, 6), (⟨"ShadeRegister$Parser", "product", "(I)V"⟩, 6), (⟨"ShadeRegister$Parser", "one", "(I)V"⟩, 6), (⟨"ShadeRegister$Parser", "value", "()V"⟩, 6), (⟨"ShadeRegister$Tariff", "run", "(II[I)J"⟩, 7), (⟨"ShadeRegister", "isStall", "(I)Z"⟩, 18), (⟨"ShadeRegister", "mayTake", "(III)Z"⟩, 18), (⟨"ShadeRegister", "chargeOf", "(IIII)J"⟩, 18), (⟨"ShadeRegister", "leadThroughHour", "(IIIZ)V"⟩, 18), (⟨"ShadeRegister", "mayWalk", "(II)Z"⟩, 18), (⟨"ShadeRegister$Route", "isBetter", "(II)Z"⟩, 9), (⟨"ShadeRegister", "bestTree", "(II)I"⟩, 18), (⟨"ShadeRegister", "hasStall", "(II)Z"⟩, 18), (⟨"ShadeRegister", "serveHour", "(II)V"⟩, 18), (⟨"ShadeRegister", "servePlace", "(III)V"⟩, 18)]
theorem lw_r3 : ∀ q ∈ lw_privs_3, lw_okq q := List.forall_mem_cons.mpr ⟨lw_p32, List.forall_mem_cons.mpr ⟨lw_p33, List.forall_mem_cons.mpr ⟨lw_p34, List.forall_mem_cons.mpr ⟨lw_p35, List.forall_mem_cons.mpr ⟨lw_p36, List.forall_mem_cons.mpr ⟨lw_p37, List.forall_mem_cons.mpr ⟨lw_p38, List.forall_mem_cons.mpr ⟨lw_p39, List.forall_mem_cons.mpr ⟨lw_p40, List.forall_mem_cons.mpr ⟨lw_p41, List.forall_mem_cons.mpr ⟨lw_p42, List.forall_mem_cons.mpr ⟨lw_p43, List.forall_mem_cons.mpr ⟨lw_p44, List.forall_mem_cons.mpr ⟨lw_p45, List.forall_mem_cons.mpr ⟨lw_p46, List.forall_mem_cons.mpr ⟨lw_p47, fun _ h => absurd h List.not_mem_nil⟩⟩⟩⟩⟩⟩⟩⟩⟩⟩⟩⟩⟩⟩⟩⟩
theorem lw_p48 : lw_okq (⟨"ShadeRegister", "standingNow", "()I"⟩, 18) := ⟨⟨by decide +kernel, by decide +kernel⟩, List.mem_of_getElem? (i := 28) (by decide +kernel), List.mem_of_getElem? (i := 1226) (by decide +kernel), List.mem_of_getElem? (i := 1227) (by decide +kernel)⟩
theorem lw_p49 : lw_okq (⟨"ShadeRegisterModel", "isCloud", "(II)Z"⟩, 90) := ⟨⟨by decide +kernel, by decide +kernel⟩, List.mem_of_getElem? (i := 1233) (by decide +kernel), List.mem_of_getElem? (i := 1536) (by decide +kernel), List.mem_of_getElem? (i := 1537) (by decide +kernel)⟩
theorem lw_p50 : lw_okq (⟨"ShadeRegisterModel", "isPerson", "(I)Z"⟩, 90) := ⟨⟨by decide +kernel, by decide +kernel⟩, List.mem_of_getElem? (i := 1233) (by decide +kernel), List.mem_of_getElem? (i := 1548) (by decide +kernel), List.mem_of_getElem? (i := 1549) (by decide +kernel)⟩
theorem lw_p51 : lw_okq (⟨"ShadeRegisterModel", "mayStand", "(III)Z"⟩, 90) := ⟨⟨by decide +kernel, by decide +kernel⟩, List.mem_of_getElem? (i := 1233) (by decide +kernel), List.mem_of_getElem? (i := 1556) (by decide +kernel), List.mem_of_getElem? (i := 1557) (by decide +kernel)⟩
theorem lw_p52 : lw_okq (⟨"ShadeRegisterModel", "isCell", "(I)Z"⟩, 90) := ⟨⟨by decide +kernel, by decide +kernel⟩, List.mem_of_getElem? (i := 1233) (by decide +kernel), List.mem_of_getElem? (i := 1560) (by decide +kernel), List.mem_of_getElem? (i := 1561) (by decide +kernel)⟩
theorem lw_p53 : lw_okq (⟨"ShadeRegisterModel", "stands", "(IIII)I"⟩, 90) := ⟨⟨by decide +kernel, by decide +kernel⟩, List.mem_of_getElem? (i := 1233) (by decide +kernel), List.mem_of_getElem? (i := 1565) (by decide +kernel), List.mem_of_getElem? (i := 1566) (by decide +kernel)⟩
theorem lw_p54 : lw_okq (⟨"ShadeRegisterModel", "enters", "(III)V"⟩, 90) := ⟨⟨by decide +kernel, by decide +kernel⟩, List.mem_of_getElem? (i := 1233) (by decide +kernel), List.mem_of_getElem? (i := 1569) (by decide +kernel), List.mem_of_getElem? (i := 1570) (by decide +kernel)⟩
theorem lw_p55 : lw_okq (⟨"ShadeRegisterModel", "isThing", "(I)Z"⟩, 90) := ⟨⟨by decide +kernel, by decide +kernel⟩, List.mem_of_getElem? (i := 1233) (by decide +kernel), List.mem_of_getElem? (i := 1588) (by decide +kernel), List.mem_of_getElem? (i := 1589) (by decide +kernel)⟩
theorem lw_p56 : lw_okq (⟨"ShadeRegisterModel", "heightOf", "(III)I"⟩, 90) := ⟨⟨by decide +kernel, by decide +kernel⟩, List.mem_of_getElem? (i := 1233) (by decide +kernel), List.mem_of_getElem? (i := 1600) (by decide +kernel), List.mem_of_getElem? (i := 1601) (by decide +kernel)⟩
theorem lw_p57 : lw_okq (⟨"ShadeRegisterModel", "entryFor", "(III)I"⟩, 90) := ⟨⟨by decide +kernel, by decide +kernel⟩, List.mem_of_getElem? (i := 1233) (by decide +kernel), List.mem_of_getElem? (i := 1604) (by decide +kernel), List.mem_of_getElem? (i := 1605) (by decide +kernel)⟩
theorem lw_p58 : lw_okq (⟨"ShadeRegisterModel", "isAsked", "(III)Z"⟩, 90) := ⟨⟨by decide +kernel, by decide +kernel⟩, List.mem_of_getElem? (i := 1233) (by decide +kernel), List.mem_of_getElem? (i := 1612) (by decide +kernel), List.mem_of_getElem? (i := 1613) (by decide +kernel)⟩
theorem lw_p59 : lw_okq (⟨"ShadeRegisterModel", "looks", "(III)V"⟩, 90) := ⟨⟨by decide +kernel, by decide +kernel⟩, List.mem_of_getElem? (i := 1233) (by decide +kernel), List.mem_of_getElem? (i := 1616) (by decide +kernel), List.mem_of_getElem? (i := 1617) (by decide +kernel)⟩
theorem lw_p60 : lw_okq (⟨"ShadeRegisterModel", "shades", "(IIIIII)V"⟩, 90) := ⟨⟨by decide +kernel, by decide +kernel⟩, List.mem_of_getElem? (i := 1233) (by decide +kernel), List.mem_of_getElem? (i := 1620) (by decide +kernel), List.mem_of_getElem? (i := 1621) (by decide +kernel)⟩
theorem lw_p61 : lw_okq (⟨"ShadeRegisterModel", "pointOf", "(IIIIII)I"⟩, 90) := ⟨⟨by decide +kernel, by decide +kernel⟩, List.mem_of_getElem? (i := 1233) (by decide +kernel), List.mem_of_getElem? (i := 1624) (by decide +kernel), List.mem_of_getElem? (i := 1625) (by decide +kernel)⟩
theorem lw_p62 : lw_okq (⟨"ShadeRegisterModel", "holderOf", "(IIII)I"⟩, 90) := ⟨⟨by decide +kernel, by decide +kernel⟩, List.mem_of_getElem? (i := 1233) (by decide +kernel), List.mem_of_getElem? (i := 1648) (by decide +kernel), List.mem_of_getElem? (i := 1649) (by decide +kernel)⟩
theorem lw_p63 : lw_okq (⟨"ShadeRegisterModel", "holdsOn", "(IIII)Z"⟩, 90) := ⟨⟨by decide +kernel, by decide +kernel⟩, List.mem_of_getElem? (i := 1233) (by decide +kernel), List.mem_of_getElem? (i := 1652) (by decide +kernel), List.mem_of_getElem? (i := 1653) (by decide +kernel)⟩
def lw_privs_4 : List (MethodName × Nat) := [(⟨"ShadeRegister", "standingNow", "()I"⟩, 18), (⟨"ShadeRegisterModel", "isCloud", "(II)Z"⟩, 90), (⟨"ShadeRegisterModel", "isPerson", "(I)Z"⟩, 90), (⟨"ShadeRegisterModel", "mayStand", "(III)Z"⟩, 90), (⟨"ShadeRegisterModel", "isCell", "(I)Z"⟩, 90), (⟨"ShadeRegisterModel", "stands", "(IIII)I"⟩, 90), (⟨"ShadeRegisterModel", "enters", "(III)V"⟩, 90), (⟨"ShadeRegisterModel", "isThing", "(I)Z"⟩, 90), (⟨"ShadeRegisterModel", "heightOf", "(III)I"⟩, 90), (⟨"ShadeRegisterModel", "entryFor", "(III)I"⟩, 90), (⟨"ShadeRegisterModel", "isAsked", "(III)Z"⟩, 90), (⟨"ShadeRegisterModel", "looks", "(III)V"⟩, 90), (⟨"ShadeRegisterModel", "shades", "(IIIIII)V"⟩, 90), (⟨"ShadeRegisterModel", "pointOf", "(IIIIII)I"⟩, 90), (⟨"ShadeRegisterModel", "holderOf", "(IIII)I"⟩, 90), (⟨"ShadeRegisterModel", "holdsOn", "(IIII)Z"⟩, 90)]
theorem lw_r4 : ∀ q ∈ lw_privs_4, lw_okq q := List.forall_mem_cons.mpr ⟨lw_p48, List.forall_mem_cons.mpr ⟨lw_p49, List.forall_mem_cons.mpr ⟨lw_p50, List.forall_mem_cons.mpr ⟨lw_p51, List.forall_mem_cons.mpr ⟨lw_p52, List.forall_mem_cons.mpr ⟨lw_p53, List.forall_mem_cons.mpr ⟨lw_p54, List.forall_mem_cons.mpr ⟨lw_p55, List.forall_mem_cons.mpr ⟨lw_p56, List.forall_mem_cons.mpr ⟨lw_p57, List.forall_mem_cons.mpr ⟨lw_p58, List.forall_mem_cons.mpr ⟨lw_p59, List.forall_mem_cons.mpr ⟨lw_p60, List.forall_mem_cons.mpr ⟨lw_p61, List.forall_mem_cons.mpr ⟨lw_p62, List.forall_mem_cons.mpr ⟨lw_p63, fun _ h => absurd h List.not_mem_nil⟩⟩⟩⟩⟩⟩⟩⟩⟩⟩⟩⟩⟩⟩⟩⟩
theorem lw_p64 : lw_okq (⟨"ShadeRegisterModel", "holds", "(III)V"⟩, 90) := ⟨⟨by decide +kernel, by decide +kernel⟩, List.mem_of_getElem? (i := 1233) (by decide +kernel), List.mem_of_getElem? (i := 1660) (by decide +kernel), List.mem_of_getElem? (i := 1661) (by decide +kernel)⟩
theorem lw_p65 : lw_okq (⟨"ShadeRegisterModel", "partsIn", "(II)I"⟩, 90) := ⟨⟨by decide +kernel, by decide +kernel⟩, List.mem_of_getElem? (i := 1233) (by decide +kernel), List.mem_of_getElem? (i := 1664) (by decide +kernel), List.mem_of_getElem? (i := 1665) (by decide +kernel)⟩
theorem lw_p66 : lw_okq (⟨"ShadeRegisterModel", "partsOn", "(III)J"⟩, 90) := ⟨⟨by decide +kernel, by decide +kernel⟩, List.mem_of_getElem? (i := 1233) (by decide +kernel), List.mem_of_getElem? (i := 1673) (by decide +kernel), List.mem_of_getElem? (i := 1674) (by decide +kernel)⟩
theorem lw_p67 : lw_okq (⟨"ShadeRegisterModel", "put", "(I)V"⟩, 90) := ⟨⟨by decide +kernel, by decide +kernel⟩, List.mem_of_getElem? (i := 1233) (by decide +kernel), List.mem_of_getElem? (i := 1702) (by decide +kernel), List.mem_of_getElem? (i := 1703) (by decide +kernel)⟩
theorem lw_p68 : lw_okq (⟨"ShadeRegisterModel", "next", "()V"⟩, 90) := ⟨⟨by decide +kernel, by decide +kernel⟩, List.mem_of_getElem? (i := 1233) (by decide +kernel), List.mem_of_getElem? (i := 1714) (by decide +kernel), List.mem_of_getElem? (i := 1715) (by decide +kernel)⟩
theorem lw_p69 : lw_okq (⟨"ShadeRegisterModel", "asks", "()V"⟩, 90) := ⟨⟨by decide +kernel, by decide +kernel⟩, List.mem_of_getElem? (i := 1233) (by decide +kernel), List.mem_of_getElem? (i := 1752) (by decide +kernel), List.mem_of_getElem? (i := 1753) (by decide +kernel)⟩
theorem lw_p70 : lw_okq (⟨"ShadeRegisterModel", "isWord", "(I)Z"⟩, 90) := ⟨⟨by decide +kernel, by decide +kernel⟩, List.mem_of_getElem? (i := 1233) (by decide +kernel), List.mem_of_getElem? (i := 1756) (by decide +kernel), List.mem_of_getElem? (i := 1757) (by decide +kernel)⟩
theorem lw_p71 : lw_okq (⟨"ShadeRegisterModel", "opensSign", "(I)Z"⟩, 90) := ⟨⟨by decide +kernel, by decide +kernel⟩, List.mem_of_getElem? (i := 1233) (by decide +kernel), List.mem_of_getElem? (i := 1760) (by decide +kernel), List.mem_of_getElem? (i := 1761) (by decide +kernel)⟩
theorem lw_p72 : lw_okq (⟨"ShadeRegisterModel", "errs", "(I)V"⟩, 90) := ⟨⟨by decide +kernel, by decide +kernel⟩, List.mem_of_getElem? (i := 1233) (by decide +kernel), List.mem_of_getElem? (i := 1764) (by decide +kernel), List.mem_of_getElem? (i := 1765) (by decide +kernel)⟩
theorem lw_p73 : lw_okq (⟨"ShadeRegisterModel", "opensFrame", "(I)V"⟩, 90) := ⟨⟨by decide +kernel, by decide +kernel⟩, List.mem_of_getElem? (i := 1233) (by decide +kernel), List.mem_of_getElem? (i := 1768) (by decide +kernel), List.mem_of_getElem? (i := 1769) (by decide +kernel)⟩
theorem lw_p74 : lw_okq (⟨"ShadeRegisterModel", "isSign", "(I)Z"⟩, 90) := ⟨⟨by decide +kernel, by decide +kernel⟩, List.mem_of_getElem? (i := 1233) (by decide +kernel), List.mem_of_getElem? (i := 1772) (by decide +kernel), List.mem_of_getElem? (i := 1773) (by decide +kernel)⟩
theorem lw_p75 : lw_okq (⟨"ShadeRegisterModel", "begins", "()V"⟩, 90) := ⟨⟨by decide +kernel, by decide +kernel⟩, List.mem_of_getElem? (i := 1233) (by decide +kernel), List.mem_of_getElem? (i := 1776) (by decide +kernel), List.mem_of_getElem? (i := 1777) (by decide +kernel)⟩
theorem lw_p76 : lw_okq (⟨"ShadeRegisterModel", "emits", "(II)V"⟩, 90) := ⟨⟨by decide +kernel, by decide +kernel⟩, List.mem_of_getElem? (i := 1233) (by decide +kernel), List.mem_of_getElem? (i := 1781) (by decide +kernel), List.mem_of_getElem? (i := 1782) (by decide +kernel)⟩
theorem lw_p77 : lw_okq (⟨"ShadeRegisterModel", "oneIsOver", "()V"⟩, 90) := ⟨⟨by decide +kernel, by decide +kernel⟩, List.mem_of_getElem? (i := 1233) (by decide +kernel), List.mem_of_getElem? (i := 1785) (by decide +kernel), List.mem_of_getElem? (i := 1786) (by decide +kernel)⟩
theorem lw_p78 : lw_okq (⟨"ShadeRegisterModel", "top", "()I"⟩, 90) := ⟨⟨by decide +kernel, by decide +kernel⟩, List.mem_of_getElem? (i := 1233) (by decide +kernel), List.mem_of_getElem? (i := 1789) (by decide +kernel), List.mem_of_getElem? (i := 1790) (by decide +kernel)⟩
theorem lw_p79 : lw_okq (⟨"ShadeRegisterModel", "goesOn", "()V"⟩, 90) := ⟨⟨by decide +kernel, by decide +kernel⟩, List.mem_of_getElem? (i := 1233) (by decide +kernel), List.mem_of_getElem? (i := 1793) (by decide +kernel), List.mem_of_getElem? (i := 1794) (by decide +kernel)⟩
def lw_privs_5 : List (MethodName × Nat) := [(⟨"ShadeRegisterModel", "holds", "(III)V"⟩, 90), (⟨"ShadeRegisterModel", "partsIn", "(II)I"⟩, 90), (⟨"ShadeRegisterModel", "partsOn", "(III)J"⟩, 90), (⟨"ShadeRegisterModel", "put", "(I)V"⟩, 90), (⟨"ShadeRegisterModel", "next", "()V"⟩, 90), (⟨"ShadeRegisterModel", "asks", "()V"⟩, 90), (⟨"ShadeRegisterModel", "isWord", "(I)Z"⟩, 90), (⟨"ShadeRegisterModel", "opensSign", "(I)Z"⟩, 90), (⟨"ShadeRegisterModel", "errs", "(I)V"⟩, 90), (⟨"ShadeRegisterModel", "opensFrame", "(I)V"⟩, 90), (⟨"ShadeRegisterModel", "isSign", "(I)Z"⟩, 90), (⟨"ShadeRegisterModel", "begins", "()V"⟩, 90), (⟨"ShadeRegisterModel", "emits", "(II)V"⟩, 90), (⟨"ShadeRegisterModel", "oneIsOver", "()V"⟩, 90), (⟨"ShadeRegisterModel", "top", "()I"⟩, 90), (⟨"ShadeRegisterModel", "goesOn", "()V"⟩, 90)]
theorem lw_r5 : ∀ q ∈ lw_privs_5, lw_okq q := List.forall_mem_cons.mpr ⟨lw_p64, List.forall_mem_cons.mpr ⟨lw_p65, List.forall_mem_cons.mpr ⟨lw_p66, List.forall_mem_cons.mpr ⟨lw_p67, List.forall_mem_cons.mpr ⟨lw_p68, List.forall_mem_cons.mpr ⟨lw_p69, List.forall_mem_cons.mpr ⟨lw_p70, List.forall_mem_cons.mpr ⟨lw_p71, List.forall_mem_cons.mpr ⟨lw_p72, List.forall_mem_cons.mpr ⟨lw_p73, List.forall_mem_cons.mpr ⟨lw_p74, List.forall_mem_cons.mpr ⟨lw_p75, List.forall_mem_cons.mpr ⟨lw_p76, List.forall_mem_cons.mpr ⟨lw_p77, List.forall_mem_cons.mpr ⟨lw_p78, List.forall_mem_cons.mpr ⟨lw_p79, fun _ h => absurd h List.not_mem_nil⟩⟩⟩⟩⟩⟩⟩⟩⟩⟩⟩⟩⟩⟩⟩⟩
theorem lw_p80 : lw_okq (⟨"ShadeRegisterModel", "waitsFor", "(I)V"⟩, 90) := ⟨⟨by decide +kernel, by decide +kernel⟩, List.mem_of_getElem? (i := 1233) (by decide +kernel), List.mem_of_getElem? (i := 1797) (by decide +kernel), List.mem_of_getElem? (i := 1798) (by decide +kernel)⟩
theorem lw_p81 : lw_okq (⟨"ShadeRegisterModel", "works", "(I)V"⟩, 90) := ⟨⟨by decide +kernel, by decide +kernel⟩, List.mem_of_getElem? (i := 1233) (by decide +kernel), List.mem_of_getElem? (i := 1804) (by decide +kernel), List.mem_of_getElem? (i := 1805) (by decide +kernel)⟩
theorem lw_p82 : lw_okq (⟨"ShadeRegisterModel", "askIsOver", "()V"⟩, 90) := ⟨⟨by decide +kernel, by decide +kernel⟩, List.mem_of_getElem? (i := 1233) (by decide +kernel), List.mem_of_getElem? (i := 1811) (by decide +kernel), List.mem_of_getElem? (i := 1812) (by decide +kernel)⟩
theorem lw_p83 : lw_okq (⟨"ShadeRegisterModel", "asksOn", "()V"⟩, 90) := ⟨⟨by decide +kernel, by decide +kernel⟩, List.mem_of_getElem? (i := 1233) (by decide +kernel), List.mem_of_getElem? (i := 1815) (by decide +kernel), List.mem_of_getElem? (i := 1816) (by decide +kernel)⟩
theorem lw_p84 : lw_okq (⟨"ShadeRegisterModel", "rule", "()V"⟩, 90) := ⟨⟨by decide +kernel, by decide +kernel⟩, List.mem_of_getElem? (i := 1233) (by decide +kernel), List.mem_of_getElem? (i := 1819) (by decide +kernel), List.mem_of_getElem? (i := 1820) (by decide +kernel)⟩
theorem lw_p85 : lw_okq (⟨"ShadeRegisterModel", "given", "()J"⟩, 90) := ⟨⟨by decide +kernel, by decide +kernel⟩, List.mem_of_getElem? (i := 1233) (by decide +kernel), List.mem_of_getElem? (i := 1834) (by decide +kernel), List.mem_of_getElem? (i := 1835) (by decide +kernel)⟩
theorem lw_p86 : lw_okq (⟨"ShadeRegisterModel", "mayPlace", "(III)Z"⟩, 90) := ⟨⟨by decide +kernel, by decide +kernel⟩, List.mem_of_getElem? (i := 1233) (by decide +kernel), List.mem_of_getElem? (i := 1854) (by decide +kernel), List.mem_of_getElem? (i := 1855) (by decide +kernel)⟩
theorem lw_p87 : lw_okq (⟨"ShadeRegisterModel", "isOpen", "(III)Z"⟩, 90) := ⟨⟨by decide +kernel, by decide +kernel⟩, List.mem_of_getElem? (i := 1233) (by decide +kernel), List.mem_of_getElem? (i := 1858) (by decide +kernel), List.mem_of_getElem? (i := 1859) (by decide +kernel)⟩
theorem lw_p88 : lw_okq (⟨"ShadeRegisterModel", "charge", "(IIIII)J"⟩, 90) := ⟨⟨by decide +kernel, by decide +kernel⟩, List.mem_of_getElem? (i := 1233) (by decide +kernel), List.mem_of_getElem? (i := 1870) (by decide +kernel), List.mem_of_getElem? (i := 1871) (by decide +kernel)⟩
theorem lw_p89 : lw_okq (⟨"ShadeRegisterModel", "isTaken", "(III)Z"⟩, 90) := ⟨⟨by decide +kernel, by decide +kernel⟩, List.mem_of_getElem? (i := 1233) (by decide +kernel), List.mem_of_getElem? (i := 1878) (by decide +kernel), List.mem_of_getElem? (i := 1879) (by decide +kernel)⟩
theorem lw_p90 : lw_okq (⟨"ShadeRegisterModel", "nextOf", "(II)I"⟩, 90) := ⟨⟨by decide +kernel, by decide +kernel⟩, List.mem_of_getElem? (i := 1233) (by decide +kernel), List.mem_of_getElem? (i := 1882) (by decide +kernel), List.mem_of_getElem? (i := 1883) (by decide +kernel)⟩
theorem lw_p91 : lw_okq (⟨"ShadeRegisterModel", "beside", "(II)I"⟩, 90) := ⟨⟨by decide +kernel, by decide +kernel⟩, List.mem_of_getElem? (i := 1233) (by decide +kernel), List.mem_of_getElem? (i := 1886) (by decide +kernel), List.mem_of_getElem? (i := 1887) (by decide +kernel)⟩
theorem lw_p92 : lw_okq (⟨"ShadeRegisterModel", "seeks", "(II)I"⟩, 90) := ⟨⟨by decide +kernel, by decide +kernel⟩, List.mem_of_getElem? (i := 1233) (by decide +kernel), List.mem_of_getElem? (i := 1898) (by decide +kernel), List.mem_of_getElem? (i := 1899) (by decide +kernel)⟩
theorem lw_p93 : lw_okq (⟨"ShadeRegisterModel", "servedBy", "(IIII)I"⟩, 90) := ⟨⟨by decide +kernel, by decide +kernel⟩, List.mem_of_getElem? (i := 1233) (by decide +kernel), List.mem_of_getElem? (i := 1902) (by decide +kernel), List.mem_of_getElem? (i := 1903) (by decide +kernel)⟩
def lw_privs_6 : List (MethodName × Nat) := [(⟨"ShadeRegisterModel", "waitsFor", "(I)V"⟩, 90), (⟨"ShadeRegisterModel", "works", "(I)V"⟩, 90), (⟨"ShadeRegisterModel", "askIsOver", "()V"⟩, 90), (⟨"ShadeRegisterModel", "asksOn", "()V"⟩, 90), (⟨"ShadeRegisterModel", "rule", "()V"⟩, 90), (⟨"ShadeRegisterModel", "given", "()J"⟩, 90), (⟨"ShadeRegisterModel", "mayPlace", "(III)Z"⟩, 90), (⟨"ShadeRegisterModel", "isOpen", "(III)Z"⟩, 90), (⟨"ShadeRegisterModel", "charge", "(IIIII)J"⟩, 90), (⟨"ShadeRegisterModel", "isTaken", "(III)Z"⟩, 90), (⟨"ShadeRegisterModel", "nextOf", "(II)I"⟩, 90), (⟨"ShadeRegisterModel", "beside", "(II)I"⟩, 90), (⟨"ShadeRegisterModel", "seeks", "(II)I"⟩, 90), (⟨"ShadeRegisterModel", "servedBy", "(IIII)I"⟩, 90)]
theorem lw_r6 : ∀ q ∈ lw_privs_6, lw_okq q := List.forall_mem_cons.mpr ⟨lw_p80, List.forall_mem_cons.mpr ⟨lw_p81, List.forall_mem_cons.mpr ⟨lw_p82, List.forall_mem_cons.mpr ⟨lw_p83, List.forall_mem_cons.mpr ⟨lw_p84, List.forall_mem_cons.mpr ⟨lw_p85, List.forall_mem_cons.mpr ⟨lw_p86, List.forall_mem_cons.mpr ⟨lw_p87, List.forall_mem_cons.mpr ⟨lw_p88, List.forall_mem_cons.mpr ⟨lw_p89, List.forall_mem_cons.mpr ⟨lw_p90, List.forall_mem_cons.mpr ⟨lw_p91, List.forall_mem_cons.mpr ⟨lw_p92, List.forall_mem_cons.mpr ⟨lw_p93, fun _ h => absurd h List.not_mem_nil⟩⟩⟩⟩⟩⟩⟩⟩⟩⟩⟩⟩⟩⟩
def lw_privs : List (MethodName × Nat) := lw_privs_1 ++ (lw_privs_2 ++ (lw_privs_3 ++ (lw_privs_4 ++ (lw_privs_5 ++ (lw_privs_6)))))
def lw_tbl : List Cond := k2_sels lw_privs ++ tables_1
theorem lw_privs_ok : ∀ q ∈ lw_privs, lw_okq q := by
  show ∀ q ∈ lw_privs_1 ++ (lw_privs_2 ++ (lw_privs_3 ++ (lw_privs_4 ++ (lw_privs_5 ++ (lw_privs_6))))), lw_okq q
  exact List.forall_mem_append.mpr ⟨lw_r1, List.forall_mem_append.mpr ⟨lw_r2, List.forall_mem_append.mpr ⟨lw_r3, List.forall_mem_append.mpr ⟨lw_r4, List.forall_mem_append.mpr ⟨lw_r5, lw_r6⟩⟩⟩⟩⟩
-- ===== end of PART A; then your names; then what follows =====
end
section
def RX0 : String := "ShadeRegister$Grant"
def TX0 : u_T := fun k => match k with
  | 0 => ("ShadeRegister$Grant", "giver", "I", true)
  | 1 => ("ShadeRegister$Grant", "willer", "LShadeRegister$Person;", true)
  | 2 => ("ShadeRegister$Grant", "taker", "I", true)
  | 3 => ("ShadeRegister$Grant", "thing", "I", true)
  | 4 => ("ShadeRegister$Grant", "sort", "I", true)
  | 5 => ("ShadeRegister$Grant", "told", "I", true)
  | 6 => ("ShadeRegister$Grant", "firstHour", "I", false)
  | 7 => ("ShadeRegister$Grant", "lastHour", "I", false)
  | 8 => ("ShadeRegister$Grant", "firstMonth", "I", false)
  | 9 => ("ShadeRegister$Grant", "lastMonth", "I", false)
  | 10 => ("ShadeRegister$Grant", "from", "I", false)
  | _ => ("ShadeRegister$Grant", "to", "I", false)
def tyX0 : Nat → FieldType := fun k => match k with
  | 0 => .int
  | 1 => .object "ShadeRegister$Person"
  | 2 => .int
  | 3 => .int
  | 4 => .int
  | 5 => .int
  | 6 => .int
  | 7 => .int
  | 8 => .int
  | 9 => .int
  | 10 => .int
  | _ => .int
abbrev wsX00 : List Cond := u_ws RX0 TX0 12
theorem nmX0 : ∀ a, a < 12 → ∀ b, b < 12 → a ≠ b → (TX0 a).2.1 ≠ (TX0 b).2.1 := by decide +kernel
theorem tyX0_ok : ∀ k, k < 12 → parseFieldDescriptor (TX0 k).2.2.1 = some (tyX0 k) := by decide +kernel
abbrev cX0_init : ByteArray := prog_2_method_1_code
def yX0_init : MethodName := ⟨RX0, "<init>", "(ILShadeRegister$Person;IIII)V"⟩
abbrev cX0_limit : ByteArray := prog_2_method_2_code
def yX0_limit : MethodName := ⟨RX0, "limit", "(IIII)V"⟩
abbrev cX0_covers : ByteArray := prog_2_method_3_code
def yX0_covers : MethodName := ⟨RX0, "covers", "(II)Z"⟩
abbrev cX0_holdsOn : ByteArray := prog_2_method_4_code
def yX0_holdsOn : MethodName := ⟨RX0, "holdsOn", "(II)Z"⟩
def RX1 : String := "ShadeRegister$Ground"
def TX1 : u_T := fun k => match k with
  | 0 => ("ShadeRegister$Ground", "wide", "I", true)
  | 1 => ("ShadeRegister$Ground", "high", "I", true)
  | _ => ("ShadeRegister$Ground", "size", "I", true)
def tyX1 : Nat → FieldType := fun k => match k with
  | 0 => .int
  | 1 => .int
  | _ => .int
abbrev wsX10 : List Cond := u_ws RX1 TX1 3
theorem nmX1 : ∀ a, a < 3 → ∀ b, b < 3 → a ≠ b → (TX1 a).2.1 ≠ (TX1 b).2.1 := by decide +kernel
theorem tyX1_ok : ∀ k, k < 3 → parseFieldDescriptor (TX1 k).2.2.1 = some (tyX1 k) := by decide +kernel
abbrev cX1_init : ByteArray := prog_3_method_1_code
def yX1_init : MethodName := ⟨RX1, "<init>", "(II)V"⟩
abbrev cX1_has : ByteArray := prog_3_method_2_code
def yX1_has : MethodName := ⟨RX1, "has", "(I)Z"⟩
abbrev cX1_columnOf : ByteArray := prog_3_method_3_code
def yX1_columnOf : MethodName := ⟨RX1, "columnOf", "(I)I"⟩
abbrev cX1_rowOf : ByteArray := prog_3_method_4_code
def yX1_rowOf : MethodName := ⟨RX1, "rowOf", "(I)I"⟩
abbrev cX1_cellAt : ByteArray := prog_3_method_5_code
def yX1_cellAt : MethodName := ⟨RX1, "cellAt", "(II)I"⟩
abbrev cX1_stepsBetween : ByteArray := prog_3_method_6_code
def yX1_stepsBetween : MethodName := ⟨RX1, "stepsBetween", "(II)I"⟩
def RX2 : String := "ShadeRegister$Parser"
def TX2 : u_T := fun k => match k with
  | 0 => ("ShadeRegister$Parser", "tape", "LShadeRegister$Tape;", true)
  | 1 => ("ShadeRegister$Parser", "target", "LShadeRegister$Tariff;", false)
  | 2 => ("ShadeRegister$Parser", "at", "I", false)
  | 3 => ("ShadeRegister$Parser", "kind", "I", false)
  | 4 => ("ShadeRegister$Parser", "faultKind", "I", false)
  | _ => ("ShadeRegister$Parser", "faultPlace", "I", false)
def tyX2 : Nat → FieldType := fun k => match k with
  | 0 => .object "ShadeRegister$Tape"
  | 1 => .object "ShadeRegister$Tariff"
  | 2 => .int
  | 3 => .int
  | 4 => .int
  | _ => .int
abbrev wsX20 : List Cond := u_ws RX2 TX2 6
theorem nmX2 : ∀ a, a < 6 → ∀ b, b < 6 → a ≠ b → (TX2 a).2.1 ≠ (TX2 b).2.1 := by decide +kernel
theorem tyX2_ok : ∀ k, k < 6 → parseFieldDescriptor (TX2 k).2.2.1 = some (tyX2 k) := by decide +kernel
abbrev cX2_init : ByteArray := prog_4_method_1_code
def yX2_init : MethodName := ⟨RX2, "<init>", "(LShadeRegister$Tape;LShadeRegister$Tariff;)V"⟩
abbrev cX2_parseInto : ByteArray := prog_4_method_2_code
def yX2_parseInto : MethodName := ⟨RX2, "parseInto", "(LShadeRegister$Tariff;)Z"⟩
abbrev cX2_fail : ByteArray := prog_4_method_3_code
def yX2_fail : MethodName := ⟨RX2, "fail", "(I)V"⟩
abbrev cX2_advance : ByteArray := prog_4_method_4_code
def yX2_advance : MethodName := ⟨RX2, "advance", "()V"⟩
abbrev cX2_pass : ByteArray := prog_4_method_5_code
def yX2_pass : MethodName := ⟨RX2, "pass", "(I)V"⟩
abbrev cX2_open : ByteArray := prog_4_method_6_code
def yX2_open : MethodName := ⟨RX2, "open", "(II)Z"⟩
abbrev cX2_rule : ByteArray := prog_4_method_7_code
def yX2_rule : MethodName := ⟨RX2, "rule", "()V"⟩
abbrev cX2_either : ByteArray := prog_4_method_8_code
def yX2_either : MethodName := ⟨RX2, "either", "(I)V"⟩
abbrev cX2_both : ByteArray := prog_4_method_9_code
def yX2_both : MethodName := ⟨RX2, "both", "(I)V"⟩
abbrev cX2_ask : ByteArray := prog_4_method_10_code
def yX2_ask : MethodName := ⟨RX2, "ask", "(I)V"⟩
abbrev cX2_sum : ByteArray := prog_4_method_11_code
def yX2_sum : MethodName := ⟨RX2, "sum", "(I)V"⟩
abbrev cX2_product : ByteArray := prog_4_method_12_code
def yX2_product : MethodName := ⟨RX2, "product", "(I)V"⟩
abbrev cX2_one : ByteArray := prog_4_method_13_code
def yX2_one : MethodName := ⟨RX2, "one", "(I)V"⟩
abbrev cX2_value : ByteArray := prog_4_method_14_code
def yX2_value : MethodName := ⟨RX2, "value", "()V"⟩
def RX3 : String := "ShadeRegister$Person"
def TX3 : u_T := fun k => match k with
  | 0 => ("ShadeRegister$Person", "diedDay", "I", false)
  | _ => ("ShadeRegister$Person", "diedTold", "I", false)
def tyX3 : Nat → FieldType := fun k => match k with
  | 0 => .int
  | _ => .int
abbrev wsX30 : List Cond := u_ws RX3 TX3 2
theorem nmX3 : ∀ a, a < 2 → ∀ b, b < 2 → a ≠ b → (TX3 a).2.1 ≠ (TX3 b).2.1 := by decide +kernel
theorem tyX3_ok : ∀ k, k < 2 → parseFieldDescriptor (TX3 k).2.2.1 = some (tyX3 k) := by decide +kernel
abbrev cX3_init : ByteArray := prog_5_method_1_code
def yX3_init : MethodName := ⟨RX3, "<init>", "()V"⟩
abbrev cX3_wasDead : ByteArray := prog_5_method_2_code
def yX3_wasDead : MethodName := ⟨RX3, "wasDead", "(II)Z"⟩
def RX4 : String := "ShadeRegister$Route"
def TX4 : u_T := fun k => match k with
  | 0 => ("ShadeRegister$Route", "ground", "LShadeRegister$Ground;", true)
  | 1 => ("ShadeRegister$Route", "nexts", "[I", true)
  | 2 => ("ShadeRegister$Route", "path", "[I", true)
  | 3 => ("ShadeRegister$Route", "sunny", "[I", false)
  | 4 => ("ShadeRegister$Route", "sunnyAfter", "[I", false)
  | 5 => ("ShadeRegister$Route", "costs", "[J", false)
  | 6 => ("ShadeRegister$Route", "costsAfter", "[J", false)
  | 7 => ("ShadeRegister$Route", "pathLength", "I", false)
  | _ => ("ShadeRegister$Route", "pathCost", "J", false)
def tyX4 : Nat → FieldType := fun k => match k with
  | 0 => .object "ShadeRegister$Ground"
  | 1 => .array .int
  | 2 => .array .int
  | 3 => .array .int
  | 4 => .array .int
  | 5 => .array .long
  | 6 => .array .long
  | 7 => .int
  | _ => .long
abbrev wsX40 : List Cond := u_ws RX4 TX4 9
theorem nmX4 : ∀ a, a < 9 → ∀ b, b < 9 → a ≠ b → (TX4 a).2.1 ≠ (TX4 b).2.1 := by decide +kernel
theorem tyX4_ok : ∀ k, k < 9 → parseFieldDescriptor (TX4 k).2.2.1 = some (tyX4 k) := by decide +kernel
abbrev cX4_init : ByteArray := prog_6_method_1_code
def yX4_init : MethodName := ⟨RX4, "<init>", "(LShadeRegister$Ground;)V"⟩
abbrev cX4_startFromBehind : ByteArray := prog_6_method_2_code
def yX4_startFromBehind : MethodName := ⟨RX4, "startFromBehind", "(I)V"⟩
abbrev cX4_goBackAnHour : ByteArray := prog_6_method_3_code
def yX4_goBackAnHour : MethodName := ⟨RX4, "goBackAnHour", "()V"⟩
abbrev cX4_leadsOn : ByteArray := prog_6_method_4_code
def yX4_leadsOn : MethodName := ⟨RX4, "leadsOn", "(I)Z"⟩
abbrev cX4_bestNext : ByteArray := prog_6_method_5_code
def yX4_bestNext : MethodName := ⟨RX4, "bestNext", "(I)I"⟩
abbrev cX4_isBetter : ByteArray := prog_6_method_6_code
def yX4_isBetter : MethodName := ⟨RX4, "isBetter", "(II)Z"⟩
abbrev cX4_lead : ByteArray := prog_6_method_7_code
def yX4_lead : MethodName := ⟨RX4, "lead", "(IIIIJ)V"⟩
abbrev cX4_follow : ByteArray := prog_6_method_8_code
def yX4_follow : MethodName := ⟨RX4, "follow", "(III)I"⟩
abbrev cX4_charges : ByteArray := prog_6_method_9_code
def yX4_charges : MethodName := ⟨RX4, "charges", "()J"⟩
abbrev cX4_cellOfPath : ByteArray := prog_6_method_10_code
def yX4_cellOfPath : MethodName := ⟨RX4, "cellOfPath", "(I)I"⟩
def RX5 : String := "ShadeRegister$Scene"
def TX5 : u_T := fun k => match k with
  | 0 => ("ShadeRegister$Scene", "ground", "LShadeRegister$Ground;", true)
  | 1 => ("ShadeRegister$Scene", "sky", "LShadeRegister$Sky;", true)
  | 2 => ("ShadeRegister$Scene", "things", "Ljava/util/ArrayList;", true)
  | 3 => ("ShadeRegister$Scene", "heights", "[I", true)
  | 4 => ("ShadeRegister$Scene", "built", "[Z", true)
  | 5 => ("ShadeRegister$Scene", "shaders", "[I", true)
  | _ => ("ShadeRegister$Scene", "day", "I", false)
def tyX5 : Nat → FieldType := fun k => match k with
  | 0 => .object "ShadeRegister$Ground"
  | 1 => .object "ShadeRegister$Sky"
  | 2 => .object "java/util/ArrayList"
  | 3 => .array .int
  | 4 => .array .boolean
  | 5 => .array .int
  | _ => .int
abbrev wsX50 : List Cond := u_ws RX5 TX5 7
theorem nmX5 : ∀ a, a < 7 → ∀ b, b < 7 → a ≠ b → (TX5 a).2.1 ≠ (TX5 b).2.1 := by decide +kernel
theorem tyX5_ok : ∀ k, k < 7 → parseFieldDescriptor (TX5 k).2.2.1 = some (tyX5 k) := by decide +kernel
abbrev cX5_init : ByteArray := prog_7_method_1_code
def yX5_init : MethodName := ⟨RX5, "<init>", "(LShadeRegister$Ground;LShadeRegister$Sky;Ljava/util/ArrayList;)V"⟩
abbrev cX5_lookAt : ByteArray := prog_7_method_2_code
def yX5_lookAt : MethodName := ⟨RX5, "lookAt", "(II)V"⟩
abbrev cX5_turnTo : ByteArray := prog_7_method_3_code
def yX5_turnTo : MethodName := ⟨RX5, "turnTo", "(I)V"⟩
abbrev cX5_castShadow : ByteArray := prog_7_method_4_code
def yX5_castShadow : MethodName := ⟨RX5, "castShadow", "(IIII)V"⟩
abbrev cX5_heightOf : ByteArray := prog_7_method_5_code
def yX5_heightOf : MethodName := ⟨RX5, "heightOf", "(I)I"⟩
abbrev cX5_isOpen : ByteArray := prog_7_method_6_code
def yX5_isOpen : MethodName := ⟨RX5, "isOpen", "(I)Z"⟩
abbrev cX5_shadersOf : ByteArray := prog_7_method_7_code
def yX5_shadersOf : MethodName := ⟨RX5, "shadersOf", "(I)I"⟩
abbrev cX5_partsOf : ByteArray := prog_7_method_8_code
def yX5_partsOf : MethodName := ⟨RX5, "partsOf", "(II)I"⟩
abbrev cX5_partsOfAll : ByteArray := prog_7_method_9_code
def yX5_partsOfAll : MethodName := ⟨RX5, "partsOfAll", "(I)J"⟩
abbrev cX5_cellsShadedBy : ByteArray := prog_7_method_10_code
def yX5_cellsShadedBy : MethodName := ⟨RX5, "cellsShadedBy", "(I)I"⟩
def RX6 : String := "ShadeRegister$Sky"
def TX6 : u_T := fun k => match k with
  | 0 => ("ShadeRegister$Sky", "sunXs", "[I", true)
  | 1 => ("ShadeRegister$Sky", "sunYs", "[I", true)
  | 2 => ("ShadeRegister$Sky", "clouded", "[I", true)
  | _ => ("ShadeRegister$Sky", "clouds", "I", false)
def tyX6 : Nat → FieldType := fun k => match k with
  | 0 => .array .int
  | 1 => .array .int
  | 2 => .array .int
  | _ => .int
abbrev wsX60 : List Cond := u_ws RX6 TX6 4
theorem nmX6 : ∀ a, a < 4 → ∀ b, b < 4 → a ≠ b → (TX6 a).2.1 ≠ (TX6 b).2.1 := by decide +kernel
theorem tyX6_ok : ∀ k, k < 4 → parseFieldDescriptor (TX6 k).2.2.1 = some (tyX6 k) := by decide +kernel
abbrev cX6_init : ByteArray := prog_8_method_1_code
def yX6_init : MethodName := ⟨RX6, "<init>", "()V"⟩
abbrev cX6_setSun : ByteArray := prog_8_method_2_code
def yX6_setSun : MethodName := ⟨RX6, "setSun", "(IIII)V"⟩
abbrev cX6_sunX : ByteArray := prog_8_method_3_code
def yX6_sunX : MethodName := ⟨RX6, "sunX", "(II)I"⟩
abbrev cX6_sunY : ByteArray := prog_8_method_4_code
def yX6_sunY : MethodName := ⟨RX6, "sunY", "(II)I"⟩
abbrev cX6_isClouded : ByteArray := prog_8_method_5_code
def yX6_isClouded : MethodName := ⟨RX6, "isClouded", "(II)Z"⟩
abbrev cX6_addCloud : ByteArray := prog_8_method_6_code
def yX6_addCloud : MethodName := ⟨RX6, "addCloud", "(II)I"⟩
def RX7 : String := "ShadeRegister$Stall"
def TX7 : u_T := fun k => match k with
  | 0 => ("ShadeRegister$Stall", "from", "I", true)
  | 1 => ("ShadeRegister$Stall", "to", "I", true)
  | _ => ("ShadeRegister$Stall", "places", "[I", true)
def tyX7 : Nat → FieldType := fun k => match k with
  | 0 => .int
  | 1 => .int
  | _ => .array .int
abbrev wsX70 : List Cond := u_ws RX7 TX7 3
theorem nmX7 : ∀ a, a < 3 → ∀ b, b < 3 → a ≠ b → (TX7 a).2.1 ≠ (TX7 b).2.1 := by decide +kernel
theorem tyX7_ok : ∀ k, k < 3 → parseFieldDescriptor (TX7 k).2.2.1 = some (tyX7 k) := by decide +kernel
abbrev cX7_init : ByteArray := prog_9_method_1_code
def yX7_init : MethodName := ⟨RX7, "<init>", "(II)V"⟩
abbrev cX7_isOn : ByteArray := prog_9_method_2_code
def yX7_isOn : MethodName := ⟨RX7, "isOn", "(I)Z"⟩
abbrev cX7_put : ByteArray := prog_9_method_3_code
def yX7_put : MethodName := ⟨RX7, "put", "(II)V"⟩
abbrev cX7_cellIn : ByteArray := prog_9_method_4_code
def yX7_cellIn : MethodName := ⟨RX7, "cellIn", "(I)I"⟩
abbrev cX7_hasCell : ByteArray := prog_9_method_5_code
def yX7_hasCell : MethodName := ⟨RX7, "hasCell", "(I)Z"⟩
def RX8 : String := "ShadeRegister$Tape"
def TX8 : u_T := fun k => match k with
  | 0 => ("ShadeRegister$Tape", "bytes", "[I", true)
  | 1 => ("ShadeRegister$Tape", "length", "I", false)
  | 2 => ("ShadeRegister$Tape", "kinds", "[I", true)
  | 3 => ("ShadeRegister$Tape", "starts", "[I", true)
  | 4 => ("ShadeRegister$Tape", "values", "[I", true)
  | _ => ("ShadeRegister$Tape", "tokens", "I", false)
def tyX8 : Nat → FieldType := fun k => match k with
  | 0 => .array .int
  | 1 => .int
  | 2 => .array .int
  | 3 => .array .int
  | 4 => .array .int
  | _ => .int
abbrev wsX80 : List Cond := u_ws RX8 TX8 6
theorem nmX8 : ∀ a, a < 6 → ∀ b, b < 6 → a ≠ b → (TX8 a).2.1 ≠ (TX8 b).2.1 := by decide +kernel
theorem tyX8_ok : ∀ k, k < 6 → parseFieldDescriptor (TX8 k).2.2.1 = some (tyX8 k) := by decide +kernel
abbrev cX8_init : ByteArray := prog_10_method_1_code
def yX8_init : MethodName := ⟨RX8, "<init>", "()V"⟩
abbrev cX8_addFour : ByteArray := prog_10_method_2_code
def yX8_addFour : MethodName := ⟨RX8, "addFour", "(I)V"⟩
abbrev cX8_cutIntoTokens : ByteArray := prog_10_method_3_code
def yX8_cutIntoTokens : MethodName := ⟨RX8, "cutIntoTokens", "()V"⟩
abbrev cX8_kindOf : ByteArray := prog_10_method_4_code
def yX8_kindOf : MethodName := ⟨RX8, "kindOf", "(I)I"⟩
abbrev cX8_startOf : ByteArray := prog_10_method_5_code
def yX8_startOf : MethodName := ⟨RX8, "startOf", "(I)I"⟩
abbrev cX8_valueOf : ByteArray := prog_10_method_6_code
def yX8_valueOf : MethodName := ⟨RX8, "valueOf", "(I)I"⟩
abbrev cX8_byteAt : ByteArray := prog_10_method_7_code
def yX8_byteAt : MethodName := ⟨RX8, "byteAt", "(I)I"⟩
abbrev cX8_addToken : ByteArray := prog_10_method_8_code
def yX8_addToken : MethodName := ⟨RX8, "addToken", "(III)V"⟩
abbrev cX8_isLetter : ByteArray := prog_10_method_9_code
def yX8_isLetter : MethodName := ⟨RX8, "isLetter", "(I)Z"⟩
abbrev cX8_isDigit : ByteArray := prog_10_method_10_code
def yX8_isDigit : MethodName := ⟨RX8, "isDigit", "(I)Z"⟩
abbrev cX8_endOfLetters : ByteArray := prog_10_method_11_code
def yX8_endOfLetters : MethodName := ⟨RX8, "endOfLetters", "(I)I"⟩
abbrev cX8_endOfDigits : ByteArray := prog_10_method_12_code
def yX8_endOfDigits : MethodName := ⟨RX8, "endOfDigits", "(I)I"⟩
abbrev cX8_numberOf : ByteArray := prog_10_method_13_code
def yX8_numberOf : MethodName := ⟨RX8, "numberOf", "(II)I"⟩
abbrev cX8_addWord : ByteArray := prog_10_method_14_code
def yX8_addWord : MethodName := ⟨RX8, "addWord", "(II)V"⟩
abbrev cX8_nameOf : ByteArray := prog_10_method_15_code
def yX8_nameOf : MethodName := ⟨RX8, "nameOf", "(II)I"⟩
abbrev cX8_kindOfWord : ByteArray := prog_10_method_16_code
def yX8_kindOfWord : MethodName := ⟨RX8, "kindOfWord", "(II)I"⟩
abbrev cX8_isWord : ByteArray := prog_10_method_17_code
def yX8_isWord : MethodName := ⟨RX8, "isWord", "(IILjava/lang/String;)Z"⟩
abbrev cX8_kindOfSign : ByteArray := prog_10_method_18_code
def yX8_kindOfSign : MethodName := ⟨RX8, "kindOfSign", "(I)I"⟩
def RX9 : String := "ShadeRegister$Tariff"
def TX9 : u_T := fun k => match k with
  | 0 => ("ShadeRegister$Tariff", "steps", "[I", true)
  | 1 => ("ShadeRegister$Tariff", "values", "[I", true)
  | 2 => ("ShadeRegister$Tariff", "endsOfAsk", "[I", true)
  | 3 => ("ShadeRegister$Tariff", "endsOfRule", "[I", true)
  | 4 => ("ShadeRegister$Tariff", "stack", "[J", true)
  | 5 => ("ShadeRegister$Tariff", "length", "I", false)
  | _ => ("ShadeRegister$Tariff", "rules", "I", false)
def tyX9 : Nat → FieldType := fun k => match k with
  | 0 => .array .int
  | 1 => .array .int
  | 2 => .array .int
  | 3 => .array .int
  | 4 => .array .long
  | 5 => .int
  | _ => .int
abbrev wsX90 : List Cond := u_ws RX9 TX9 7
theorem nmX9 : ∀ a, a < 7 → ∀ b, b < 7 → a ≠ b → (TX9 a).2.1 ≠ (TX9 b).2.1 := by decide +kernel
theorem tyX9_ok : ∀ k, k < 7 → parseFieldDescriptor (TX9 k).2.2.1 = some (tyX9 k) := by decide +kernel
abbrev cX9_init : ByteArray := prog_11_method_1_code
def yX9_init : MethodName := ⟨RX9, "<init>", "()V"⟩
abbrev cX9_clear : ByteArray := prog_11_method_2_code
def yX9_clear : MethodName := ⟨RX9, "clear", "()V"⟩
abbrev cX9_add : ByteArray := prog_11_method_3_code
def yX9_add : MethodName := ⟨RX9, "add", "(II)V"⟩
abbrev cX9_endAsk : ByteArray := prog_11_method_4_code
def yX9_endAsk : MethodName := ⟨RX9, "endAsk", "()V"⟩
abbrev cX9_endRule : ByteArray := prog_11_method_5_code
def yX9_endRule : MethodName := ⟨RX9, "endRule", "()V"⟩
abbrev cX9_answer : ByteArray := prog_11_method_6_code
def yX9_answer : MethodName := ⟨RX9, "answer", "([I)I"⟩
abbrev cX9_run : ByteArray := prog_11_method_7_code
def yX9_run : MethodName := ⟨RX9, "run", "(II[I)J"⟩
abbrev cX9_valueOf : ByteArray := prog_11_method_8_code
def yX9_valueOf : MethodName := ⟨RX9, "valueOf", "([II)J"⟩
abbrev cX9_join : ByteArray := prog_11_method_9_code
def yX9_join : MethodName := ⟨RX9, "join", "(IJJ)J"⟩
abbrev cX9_bounded : ByteArray := prog_11_method_10_code
def yX9_bounded : MethodName := ⟨RX9, "bounded", "(J)J"⟩
def RX10 : String := "ShadeRegister$Thing"
def TX10 : u_T := fun k => match k with
  | 0 => ("ShadeRegister$Thing", "kind", "I", true)
  | 1 => ("ShadeRegister$Thing", "cell", "I", true)
  | 2 => ("ShadeRegister$Thing", "owner", "I", true)
  | 3 => ("ShadeRegister$Thing", "from", "I", true)
  | 4 => ("ShadeRegister$Thing", "grows", "I", false)
  | 5 => ("ShadeRegister$Thing", "leanX", "I", false)
  | 6 => ("ShadeRegister$Thing", "leanY", "I", false)
  | 7 => ("ShadeRegister$Thing", "days", "[I", true)
  | 8 => ("ShadeRegister$Thing", "heights", "[I", true)
  | 9 => ("ShadeRegister$Thing", "tolds", "[I", true)
  | 10 => ("ShadeRegister$Thing", "entries", "I", false)
  | 11 => ("ShadeRegister$Thing", "fellDay", "I", false)
  | 12 => ("ShadeRegister$Thing", "fellTold", "I", false)
  | _ => ("ShadeRegister$Thing", "measured", "I", false)
def tyX10 : Nat → FieldType := fun k => match k with
  | 0 => .int
  | 1 => .int
  | 2 => .int
  | 3 => .int
  | 4 => .int
  | 5 => .int
  | 6 => .int
  | 7 => .array .int
  | 8 => .array .int
  | 9 => .array .int
  | 10 => .int
  | 11 => .int
  | 12 => .int
  | _ => .int
abbrev wsX100 : List Cond := u_ws RX10 TX10 14
theorem nmX10 : ∀ a, a < 14 → ∀ b, b < 14 → a ≠ b → (TX10 a).2.1 ≠ (TX10 b).2.1 := by decide +kernel
theorem tyX10_ok : ∀ k, k < 14 → parseFieldDescriptor (TX10 k).2.2.1 = some (tyX10 k) := by decide +kernel
abbrev cX10_init : ByteArray := prog_12_method_1_code
def yX10_init : MethodName := ⟨RX10, "<init>", "(IIII)V"⟩
abbrev cX10_tell : ByteArray := prog_12_method_2_code
def yX10_tell : MethodName := ⟨RX10, "tell", "(III)V"⟩
abbrev cX10_forgetLast : ByteArray := prog_12_method_3_code
def yX10_forgetLast : MethodName := ⟨RX10, "forgetLast", "()V"⟩
abbrev cX10_entryValue : ByteArray := prog_12_method_4_code
def yX10_entryValue : MethodName := ⟨RX10, "entryValue", "(II)I"⟩
abbrev cX10_hasFallen : ByteArray := prog_12_method_5_code
def yX10_hasFallen : MethodName := ⟨RX10, "hasFallen", "()Z"⟩
abbrev cX10_heightOn : ByteArray := prog_12_method_6_code
def yX10_heightOn : MethodName := ⟨RX10, "heightOn", "(II)I"⟩
abbrev cX10_entryFor : ByteArray := prog_12_method_7_code
def yX10_entryFor : MethodName := ⟨RX10, "entryFor", "(II)I"⟩
abbrev cX10_grownBetween : ByteArray := prog_12_method_8_code
def yX10_grownBetween : MethodName := ⟨RX10, "grownBetween", "(II)I"⟩
abbrev cX10_mend : ByteArray := prog_12_method_9_code
def yX10_mend : MethodName := ⟨RX10, "mend", "(II)V"⟩
def RX11 : String := "ShadeRegister"
def TX11 : u_T := fun k => match k with
  | 0 => ("ShadeRegister", "ground", "LShadeRegister$Ground;", true)
  | 1 => ("ShadeRegister", "sky", "LShadeRegister$Sky;", true)
  | 2 => ("ShadeRegister", "persons", "Ljava/util/ArrayList;", true)
  | 3 => ("ShadeRegister", "things", "Ljava/util/ArrayList;", true)
  | 4 => ("ShadeRegister", "grants", "Ljava/util/ArrayList;", true)
  | 5 => ("ShadeRegister", "stalls", "Ljava/util/ArrayList;", true)
  | 6 => ("ShadeRegister", "scene", "LShadeRegister$Scene;", true)
  | 7 => ("ShadeRegister", "tape", "LShadeRegister$Tape;", true)
  | 8 => ("ShadeRegister", "parser", "LShadeRegister$Parser;", true)
  | 9 => ("ShadeRegister", "route", "LShadeRegister$Route;", true)
  | 10 => ("ShadeRegister", "names", "[I", true)
  | 11 => ("ShadeRegister", "holders", "[I", true)
  | 12 => ("ShadeRegister", "served", "[I", true)
  | 13 => ("ShadeRegister", "inForce", "LShadeRegister$Tariff;", false)
  | 14 => ("ShadeRegister", "spare", "LShadeRegister$Tariff;", false)
  | 15 => ("ShadeRegister", "today", "I", false)
  | 16 => ("ShadeRegister", "faultKind", "I", false)
  | _ => ("ShadeRegister", "faultPlace", "I", false)
def tyX11 : Nat → FieldType := fun k => match k with
  | 0 => .object "ShadeRegister$Ground"
  | 1 => .object "ShadeRegister$Sky"
  | 2 => .object "java/util/ArrayList"
  | 3 => .object "java/util/ArrayList"
  | 4 => .object "java/util/ArrayList"
  | 5 => .object "java/util/ArrayList"
  | 6 => .object "ShadeRegister$Scene"
  | 7 => .object "ShadeRegister$Tape"
  | 8 => .object "ShadeRegister$Parser"
  | 9 => .object "ShadeRegister$Route"
  | 10 => .array .int
  | 11 => .array .int
  | 12 => .array .int
  | 13 => .object "ShadeRegister$Tariff"
  | 14 => .object "ShadeRegister$Tariff"
  | 15 => .int
  | 16 => .int
  | _ => .int
abbrev wsX110 : List Cond := u_ws RX11 TX11 18
theorem nmX11 : ∀ a, a < 18 → ∀ b, b < 18 → a ≠ b → (TX11 a).2.1 ≠ (TX11 b).2.1 := by decide +kernel
theorem tyX11_ok : ∀ k, k < 18 → parseFieldDescriptor (TX11 k).2.2.1 = some (tyX11 k) := by decide +kernel
abbrev cX11_init : ByteArray := prog_1_method_1_code
def yX11_init : MethodName := ⟨RX11, "<init>", "(II)V"⟩
abbrev cX11_days : ByteArray := prog_1_method_2_code
def yX11_days : MethodName := ⟨RX11, "days", "(I)I"⟩
abbrev cX11_sun : ByteArray := prog_1_method_3_code
def yX11_sun : MethodName := ⟨RX11, "sun", "(IIII)Z"⟩
abbrev cX11_cloud : ByteArray := prog_1_method_4_code
def yX11_cloud : MethodName := ⟨RX11, "cloud", "(II)I"⟩
abbrev cX11_person : ByteArray := prog_1_method_5_code
def yX11_person : MethodName := ⟨RX11, "person", "()I"⟩
abbrev cX11_died : ByteArray := prog_1_method_6_code
def yX11_died : MethodName := ⟨RX11, "died", "(II)Z"⟩
abbrev cX11_wall : ByteArray := prog_1_method_7_code
def yX11_wall : MethodName := ⟨RX11, "wall", "(III)I"⟩
abbrev cX11_tree : ByteArray := prog_1_method_8_code
def yX11_tree : MethodName := ⟨RX11, "tree", "(IIII)I"⟩
abbrev cX11_pole : ByteArray := prog_1_method_9_code
def yX11_pole : MethodName := ⟨RX11, "pole", "(IIIII)I"⟩
abbrev cX11_raise : ByteArray := prog_1_method_10_code
def yX11_raise : MethodName := ⟨RX11, "raise", "(III)I"⟩
abbrev cX11_fell : ByteArray := prog_1_method_11_code
def yX11_fell : MethodName := ⟨RX11, "fell", "(II)Z"⟩
abbrev cX11_height : ByteArray := prog_1_method_12_code
def yX11_height : MethodName := ⟨RX11, "height", "(III)I"⟩
abbrev cX11_measure : ByteArray := prog_1_method_13_code
def yX11_measure : MethodName := ⟨RX11, "measure", "(III)I"⟩
abbrev cX11_thing : ByteArray := prog_1_method_14_code
def yX11_thing : MethodName := ⟨RX11, "thing", "(II)I"⟩
abbrev cX11_entry : ByteArray := prog_1_method_15_code
def yX11_entry : MethodName := ⟨RX11, "entry", "(III)I"⟩
abbrev cX11_grant : ByteArray := prog_1_method_16_code
def yX11_grant : MethodName := ⟨RX11, "grant", "(IIIIIIII)I"⟩
abbrev cX11_holder : ByteArray := prog_1_method_17_code
def yX11_holder : MethodName := ⟨RX11, "holder", "(IIII)I"⟩
abbrev cX11_shaded : ByteArray := prog_1_method_18_code
def yX11_shaded : MethodName := ⟨RX11, "shaded", "(IIII)I"⟩
abbrev cX11_parts : ByteArray := prog_1_method_19_code
def yX11_parts : MethodName := ⟨RX11, "parts", "(IIIII)I"⟩
abbrev cX11_shadow : ByteArray := prog_1_method_20_code
def yX11_shadow : MethodName := ⟨RX11, "shadow", "(IIII)I"⟩
abbrev cX11_account : ByteArray := prog_1_method_21_code
def yX11_account : MethodName := ⟨RX11, "account", "(IIII)J"⟩
abbrev cX11_bill : ByteArray := prog_1_method_22_code
def yX11_bill : MethodName := ⟨RX11, "bill", "(IIII)J"⟩
abbrev cX11_feed : ByteArray := prog_1_method_23_code
def yX11_feed : MethodName := ⟨RX11, "feed", "(IIIII)I"⟩
abbrev cX11_end : ByteArray := prog_1_method_24_code
def yX11_end : MethodName := ⟨RX11, "end", "(I)I"⟩
abbrev cX11_tariff : ByteArray := prog_1_method_25_code
def yX11_tariff : MethodName := ⟨RX11, "tariff", "()I"⟩
abbrev cX11_fault : ByteArray := prog_1_method_26_code
def yX11_fault : MethodName := ⟨RX11, "fault", "(I)I"⟩
abbrev cX11_gives : ByteArray := prog_1_method_27_code
def yX11_gives : MethodName := ⟨RX11, "gives", "(IIIIII)I"⟩
abbrev cX11_stall : ByteArray := prog_1_method_28_code
def yX11_stall : MethodName := ⟨RX11, "stall", "(III)I"⟩
abbrev cX11_place : ByteArray := prog_1_method_29_code
def yX11_place : MethodName := ⟨RX11, "place", "(III)Z"⟩
abbrev cX11_placeOf : ByteArray := prog_1_method_30_code
def yX11_placeOf : MethodName := ⟨RX11, "placeOf", "(II)I"⟩
abbrev cX11_fees : ByteArray := prog_1_method_31_code
def yX11_fees : MethodName := ⟨RX11, "fees", "(III)J"⟩
abbrev cX11_walk : ByteArray := prog_1_method_32_code
def yX11_walk : MethodName := ⟨RX11, "walk", "(IIIII)I"⟩
abbrev cX11_walked : ByteArray := prog_1_method_33_code
def yX11_walked : MethodName := ⟨RX11, "walked", "(I)J"⟩
abbrev cX11_best : ByteArray := prog_1_method_34_code
def yX11_best : MethodName := ⟨RX11, "best", "(II)I"⟩
abbrev cX11_serves : ByteArray := prog_1_method_35_code
def yX11_serves : MethodName := ⟨RX11, "serves", "(II)I"⟩
abbrev cX11_about : ByteArray := prog_1_method_36_code
def yX11_about : MethodName := ⟨RX11, "about", "(I)I"⟩
abbrev cX11_isDay : ByteArray := prog_1_method_37_code
def yX11_isDay : MethodName := ⟨RX11, "isDay", "(I)Z"⟩
abbrev cX11_isSpan : ByteArray := prog_1_method_38_code
def yX11_isSpan : MethodName := ⟨RX11, "isSpan", "(II)Z"⟩
abbrev cX11_isHour : ByteArray := prog_1_method_39_code
def yX11_isHour : MethodName := ⟨RX11, "isHour", "(I)Z"⟩
abbrev cX11_isHeight : ByteArray := prog_1_method_40_code
def yX11_isHeight : MethodName := ⟨RX11, "isHeight", "(I)Z"⟩
abbrev cX11_isWithin : ByteArray := prog_1_method_41_code
def yX11_isWithin : MethodName := ⟨RX11, "isWithin", "(II)Z"⟩
abbrev cX11_isPairOfTwelve : ByteArray := prog_1_method_42_code
def yX11_isPairOfTwelve : MethodName := ⟨RX11, "isPairOfTwelve", "(I)Z"⟩
abbrev cX11_monthOf : ByteArray := prog_1_method_43_code
def yX11_monthOf : MethodName := ⟨RX11, "monthOf", "(I)I"⟩
abbrev cX11_cellsAside : ByteArray := prog_1_method_44_code
def yX11_cellsAside : MethodName := ⟨RX11, "cellsAside", "(II)I"⟩
abbrev cX11_isPerson : ByteArray := prog_1_method_45_code
def yX11_isPerson : MethodName := ⟨RX11, "isPerson", "(I)Z"⟩
abbrev cX11_isThing : ByteArray := prog_1_method_46_code
def yX11_isThing : MethodName := ⟨RX11, "isThing", "(I)Z"⟩
abbrev cX11_isStall : ByteArray := prog_1_method_47_code
def yX11_isStall : MethodName := ⟨RX11, "isStall", "(I)Z"⟩
abbrev cX11_mayStand : ByteArray := prog_1_method_48_code
def yX11_mayStand : MethodName := ⟨RX11, "mayStand", "(III)Z"⟩
abbrev cX11_isBuiltOn : ByteArray := prog_1_method_49_code
def yX11_isBuiltOn : MethodName := ⟨RX11, "isBuiltOn", "(I)Z"⟩
abbrev cX11_addThing : ByteArray := prog_1_method_50_code
def yX11_addThing : MethodName := ⟨RX11, "addThing", "(LShadeRegister$Thing;I)I"⟩
abbrev cX11_standingNow : ByteArray := prog_1_method_51_code
def yX11_standingNow : MethodName := ⟨RX11, "standingNow", "()I"⟩
abbrev cX11_nearestHeight : ByteArray := prog_1_method_52_code
def yX11_nearestHeight : MethodName := ⟨RX11, "nearestHeight", "(LShadeRegister$Thing;III)I"⟩
abbrev cX11_findHolders : ByteArray := prog_1_method_53_code
def yX11_findHolders : MethodName := ⟨RX11, "findHolders", "(III)V"⟩
abbrev cX11_heldBy : ByteArray := prog_1_method_54_code
def yX11_heldBy : MethodName := ⟨RX11, "heldBy", "(IIII)I"⟩
abbrev cX11_partsOnDay : ByteArray := prog_1_method_55_code
def yX11_partsOnDay : MethodName := ⟨RX11, "partsOnDay", "(III)J"⟩
abbrev cX11_partsOverYear : ByteArray := prog_1_method_56_code
def yX11_partsOverYear : MethodName := ⟨RX11, "partsOverYear", "(II)J"⟩
abbrev cX11_chargeOf : ByteArray := prog_1_method_57_code
def yX11_chargeOf : MethodName := ⟨RX11, "chargeOf", "(IIII)J"⟩
abbrev cX11_mayTake : ByteArray := prog_1_method_58_code
def yX11_mayTake : MethodName := ⟨RX11, "mayTake", "(III)Z"⟩
abbrev cX11_leadThroughHour : ByteArray := prog_1_method_59_code
def yX11_leadThroughHour : MethodName := ⟨RX11, "leadThroughHour", "(IIIZ)V"⟩
abbrev cX11_mayWalk : ByteArray := prog_1_method_60_code
def yX11_mayWalk : MethodName := ⟨RX11, "mayWalk", "(II)Z"⟩
abbrev cX11_bestTree : ByteArray := prog_1_method_61_code
def yX11_bestTree : MethodName := ⟨RX11, "bestTree", "(II)I"⟩
abbrev cX11_hasStall : ByteArray := prog_1_method_62_code
def yX11_hasStall : MethodName := ⟨RX11, "hasStall", "(II)Z"⟩
abbrev cX11_serveHour : ByteArray := prog_1_method_63_code
def yX11_serveHour : MethodName := ⟨RX11, "serveHour", "(II)V"⟩
abbrev cX11_servePlace : ByteArray := prog_1_method_64_code
def yX11_servePlace : MethodName := ⟨RX11, "servePlace", "(III)V"⟩
def RX12 : String := "ShadeRegisterModel"
def TX12 : u_T := fun k => match k with
  | 0 => ("ShadeRegisterModel", "wide", "I", true)
  | 1 => ("ShadeRegisterModel", "high", "I", true)
  | 2 => ("ShadeRegisterModel", "cells", "I", true)
  | 3 => ("ShadeRegisterModel", "clock", "I", false)
  | 4 => ("ShadeRegisterModel", "ux", "[I", true)
  | 5 => ("ShadeRegisterModel", "uy", "[I", true)
  | 6 => ("ShadeRegisterModel", "clouds", "I", false)
  | 7 => ("ShadeRegisterModel", "cloudDay", "[I", true)
  | 8 => ("ShadeRegisterModel", "cloudHour", "[I", true)
  | 9 => ("ShadeRegisterModel", "people", "I", false)
  | 10 => ("ShadeRegisterModel", "diedDay", "[I", true)
  | 11 => ("ShadeRegisterModel", "diedTold", "[I", true)
  | 12 => ("ShadeRegisterModel", "things", "I", false)
  | 13 => ("ShadeRegisterModel", "kind", "[I", true)
  | 14 => ("ShadeRegisterModel", "cellOf", "[I", true)
  | 15 => ("ShadeRegisterModel", "owner", "[I", true)
  | 16 => ("ShadeRegisterModel", "since", "[I", true)
  | 17 => ("ShadeRegisterModel", "growsIn", "[I", true)
  | 18 => ("ShadeRegisterModel", "leanX", "[I", true)
  | 19 => ("ShadeRegisterModel", "leanY", "[I", true)
  | 20 => ("ShadeRegisterModel", "entries", "[I", true)
  | 21 => ("ShadeRegisterModel", "entryDay", "[I", true)
  | 22 => ("ShadeRegisterModel", "entryHeight", "[I", true)
  | 23 => ("ShadeRegisterModel", "entryTold", "[I", true)
  | 24 => ("ShadeRegisterModel", "fellDay", "[I", true)
  | 25 => ("ShadeRegisterModel", "fellTold", "[I", true)
  | 26 => ("ShadeRegisterModel", "measured", "[I", true)
  | 27 => ("ShadeRegisterModel", "grants", "I", false)
  | 28 => ("ShadeRegisterModel", "giver", "[I", true)
  | 29 => ("ShadeRegisterModel", "taker", "[I", true)
  | 30 => ("ShadeRegisterModel", "grantThing", "[I", true)
  | 31 => ("ShadeRegisterModel", "hourFrom", "[I", true)
  | 32 => ("ShadeRegisterModel", "hourTo", "[I", true)
  | 33 => ("ShadeRegisterModel", "monthFrom", "[I", true)
  | 34 => ("ShadeRegisterModel", "monthTo", "[I", true)
  | 35 => ("ShadeRegisterModel", "grantFrom", "[I", true)
  | 36 => ("ShadeRegisterModel", "grantTo", "[I", true)
  | 37 => ("ShadeRegisterModel", "grantSort", "[I", true)
  | 38 => ("ShadeRegisterModel", "grantTold", "[I", true)
  | 39 => ("ShadeRegisterModel", "tape", "[B", true)
  | 40 => ("ShadeRegisterModel", "taped", "I", false)
  | 41 => ("ShadeRegisterModel", "length", "I", false)
  | 42 => ("ShadeRegisterModel", "at", "I", false)
  | 43 => ("ShadeRegisterModel", "token", "I", false)
  | 44 => ("ShadeRegisterModel", "sort", "I", false)
  | 45 => ("ShadeRegisterModel", "told", "I", false)
  | 46 => ("ShadeRegisterModel", "wrong", "I", false)
  | 47 => ("ShadeRegisterModel", "wrongAt", "I", false)
  | 48 => ("ShadeRegisterModel", "fault", "I", false)
  | 49 => ("ShadeRegisterModel", "faultAt", "I", false)
  | 50 => ("ShadeRegisterModel", "newOrders", "I", false)
  | 51 => ("ShadeRegisterModel", "newRules", "I", false)
  | 52 => ("ShadeRegisterModel", "newOrder", "[I", true)
  | 53 => ("ShadeRegisterModel", "newValue", "[I", true)
  | 54 => ("ShadeRegisterModel", "orders", "I", false)
  | 55 => ("ShadeRegisterModel", "rules", "I", false)
  | 56 => ("ShadeRegisterModel", "order", "[I", true)
  | 57 => ("ShadeRegisterModel", "value", "[I", true)
  | 58 => ("ShadeRegisterModel", "frames", "I", false)
  | 59 => ("ShadeRegisterModel", "frame", "[I", true)
  | 60 => ("ShadeRegisterModel", "waits", "I", false)
  | 61 => ("ShadeRegisterModel", "wait", "[I", true)
  | 62 => ("ShadeRegisterModel", "waitFrame", "[I", true)
  | 63 => ("ShadeRegisterModel", "open", "I", false)
  | 64 => ("ShadeRegisterModel", "pile", "[J", true)
  | 65 => ("ShadeRegisterModel", "name", "[I", true)
  | 66 => ("ShadeRegisterModel", "stalls", "I", false)
  | 67 => ("ShadeRegisterModel", "stallOf", "[I", true)
  | 68 => ("ShadeRegisterModel", "stallFrom", "[I", true)
  | 69 => ("ShadeRegisterModel", "stallTo", "[I", true)
  | 70 => ("ShadeRegisterModel", "place", "[I", true)
  | 71 => ("ShadeRegisterModel", "dark", "[Z", true)
  | 72 => ("ShadeRegisterModel", "set", "[I", true)
  | 73 => ("ShadeRegisterModel", "many", "[I", true)
  | 74 => ("ShadeRegisterModel", "isClear", "[Z", true)
  | 75 => ("ShadeRegisterModel", "tall", "[I", true)
  | 76 => ("ShadeRegisterModel", "holders", "[I", true)
  | 77 => ("ShadeRegisterModel", "minOrMax", "[I", true)
  | 78 => ("ShadeRegisterModel", "state", "I", false)
  | 79 => ("ShadeRegisterModel", "compare", "[I", true)
  | 80 => ("ShadeRegisterModel", "mayBe", "[Z", true)
  | 81 => ("ShadeRegisterModel", "sunHere", "[I", true)
  | 82 => ("ShadeRegisterModel", "costHere", "[J", true)
  | 83 => ("ShadeRegisterModel", "sunLeft", "[I", true)
  | 84 => ("ShadeRegisterModel", "costLeft", "[J", true)
  | 85 => ("ShadeRegisterModel", "walkHours", "I", false)
  | 86 => ("ShadeRegisterModel", "walkCost", "J", false)
  | 87 => ("ShadeRegisterModel", "walked", "[I", true)
  | 88 => ("ShadeRegisterModel", "bestServes", "I", false)
  | _ => ("ShadeRegisterModel", "serves", "[I", true)
def tyX12 : Nat → FieldType := fun k => match k with
  | 0 => .int
  | 1 => .int
  | 2 => .int
  | 3 => .int
  | 4 => .array .int
  | 5 => .array .int
  | 6 => .int
  | 7 => .array .int
  | 8 => .array .int
  | 9 => .int
  | 10 => .array .int
  | 11 => .array .int
  | 12 => .int
  | 13 => .array .int
  | 14 => .array .int
  | 15 => .array .int
  | 16 => .array .int
  | 17 => .array .int
  | 18 => .array .int
  | 19 => .array .int
  | 20 => .array .int
  | 21 => .array .int
  | 22 => .array .int
  | 23 => .array .int
  | 24 => .array .int
  | 25 => .array .int
  | 26 => .array .int
  | 27 => .int
  | 28 => .array .int
  | 29 => .array .int
  | 30 => .array .int
  | 31 => .array .int
  | 32 => .array .int
  | 33 => .array .int
  | 34 => .array .int
  | 35 => .array .int
  | 36 => .array .int
  | 37 => .array .int
  | 38 => .array .int
  | 39 => .array .byte
  | 40 => .int
  | 41 => .int
  | 42 => .int
  | 43 => .int
  | 44 => .int
  | 45 => .int
  | 46 => .int
  | 47 => .int
  | 48 => .int
  | 49 => .int
  | 50 => .int
  | 51 => .int
  | 52 => .array .int
  | 53 => .array .int
  | 54 => .int
  | 55 => .int
  | 56 => .array .int
  | 57 => .array .int
  | 58 => .int
  | 59 => .array .int
  | 60 => .int
  | 61 => .array .int
  | 62 => .array .int
  | 63 => .int
  | 64 => .array .long
  | 65 => .array .int
  | 66 => .int
  | 67 => .array .int
  | 68 => .array .int
  | 69 => .array .int
  | 70 => .array .int
  | 71 => .array .boolean
  | 72 => .array .int
  | 73 => .array .int
  | 74 => .array .boolean
  | 75 => .array .int
  | 76 => .array .int
  | 77 => .array .int
  | 78 => .int
  | 79 => .array .int
  | 80 => .array .boolean
  | 81 => .array .int
  | 82 => .array .long
  | 83 => .array .int
  | 84 => .array .long
  | 85 => .int
  | 86 => .long
  | 87 => .array .int
  | 88 => .int
  | _ => .array .int
abbrev wsX120 : List Cond := u_ws RX12 TX12 90
theorem nmX12 : ∀ a, a < 90 → ∀ b, b < 90 → a ≠ b → (TX12 a).2.1 ≠ (TX12 b).2.1 := by decide +kernel
theorem tyX12_ok : ∀ k, k < 90 → parseFieldDescriptor (TX12 k).2.2.1 = some (tyX12 k) := by decide +kernel
abbrev cX12_init : ByteArray := prog_14_method_1_code
def yX12_init : MethodName := ⟨RX12, "<init>", "(II)V"⟩
abbrev cX12_in : ByteArray := prog_14_method_2_code
def yX12_in : MethodName := ⟨RX12, "in", "(JJJ)Z"⟩
abbrev cX12_isDay : ByteArray := prog_14_method_3_code
def yX12_isDay : MethodName := ⟨RX12, "isDay", "(I)Z"⟩
abbrev cX12_isHour : ByteArray := prog_14_method_4_code
def yX12_isHour : MethodName := ⟨RX12, "isHour", "(I)Z"⟩
abbrev cX12_isCell : ByteArray := prog_14_method_5_code
def yX12_isCell : MethodName := ⟨RX12, "isCell", "(I)Z"⟩
abbrev cX12_isPerson : ByteArray := prog_14_method_6_code
def yX12_isPerson : MethodName := ⟨RX12, "isPerson", "(I)Z"⟩
abbrev cX12_isThing : ByteArray := prog_14_method_7_code
def yX12_isThing : MethodName := ⟨RX12, "isThing", "(I)Z"⟩
abbrev cX12_monthOf : ByteArray := prog_14_method_8_code
def yX12_monthOf : MethodName := ⟨RX12, "monthOf", "(I)I"⟩
abbrev cX12_days : ByteArray := prog_14_method_9_code
def yX12_days : MethodName := ⟨RX12, "days", "(I)I"⟩
abbrev cX12_sun : ByteArray := prog_14_method_10_code
def yX12_sun : MethodName := ⟨RX12, "sun", "(IIII)Z"⟩
abbrev cX12_isCloud : ByteArray := prog_14_method_11_code
def yX12_isCloud : MethodName := ⟨RX12, "isCloud", "(II)Z"⟩
abbrev cX12_cloud : ByteArray := prog_14_method_12_code
def yX12_cloud : MethodName := ⟨RX12, "cloud", "(II)I"⟩
abbrev cX12_person : ByteArray := prog_14_method_13_code
def yX12_person : MethodName := ⟨RX12, "person", "()I"⟩
abbrev cX12_died : ByteArray := prog_14_method_14_code
def yX12_died : MethodName := ⟨RX12, "died", "(II)Z"⟩
abbrev cX12_mayStand : ByteArray := prog_14_method_15_code
def yX12_mayStand : MethodName := ⟨RX12, "mayStand", "(III)Z"⟩
abbrev cX12_stands : ByteArray := prog_14_method_16_code
def yX12_stands : MethodName := ⟨RX12, "stands", "(IIII)I"⟩
abbrev cX12_enters : ByteArray := prog_14_method_17_code
def yX12_enters : MethodName := ⟨RX12, "enters", "(III)V"⟩
abbrev cX12_wall : ByteArray := prog_14_method_18_code
def yX12_wall : MethodName := ⟨RX12, "wall", "(III)I"⟩
abbrev cX12_tree : ByteArray := prog_14_method_19_code
def yX12_tree : MethodName := ⟨RX12, "tree", "(IIII)I"⟩
abbrev cX12_pole : ByteArray := prog_14_method_20_code
def yX12_pole : MethodName := ⟨RX12, "pole", "(IIIII)I"⟩
abbrev cX12_raise : ByteArray := prog_14_method_21_code
def yX12_raise : MethodName := ⟨RX12, "raise", "(III)I"⟩
abbrev cX12_fell : ByteArray := prog_14_method_22_code
def yX12_fell : MethodName := ⟨RX12, "fell", "(II)Z"⟩
abbrev cX12_entryFor : ByteArray := prog_14_method_23_code
def yX12_entryFor : MethodName := ⟨RX12, "entryFor", "(III)I"⟩
abbrev cX12_heightOf : ByteArray := prog_14_method_24_code
def yX12_heightOf : MethodName := ⟨RX12, "heightOf", "(III)I"⟩
abbrev cX12_height : ByteArray := prog_14_method_25_code
def yX12_height : MethodName := ⟨RX12, "height", "(III)I"⟩
abbrev cX12_isOpen : ByteArray := prog_14_method_26_code
def yX12_isOpen : MethodName := ⟨RX12, "isOpen", "(III)Z"⟩
abbrev cX12_below : ByteArray := prog_14_method_27_code
def yX12_below : MethodName := ⟨RX12, "below", "(I)I"⟩
abbrev cX12_pointOf : ByteArray := prog_14_method_28_code
def yX12_pointOf : MethodName := ⟨RX12, "pointOf", "(IIIIII)I"⟩
abbrev cX12_shades : ByteArray := prog_14_method_29_code
def yX12_shades : MethodName := ⟨RX12, "shades", "(IIIIII)V"⟩
abbrev cX12_looks : ByteArray := prog_14_method_30_code
def yX12_looks : MethodName := ⟨RX12, "looks", "(III)V"⟩
abbrev cX12_isAsked : ByteArray := prog_14_method_31_code
def yX12_isAsked : MethodName := ⟨RX12, "isAsked", "(III)Z"⟩
abbrev cX12_shaded : ByteArray := prog_14_method_32_code
def yX12_shaded : MethodName := ⟨RX12, "shaded", "(IIII)I"⟩
abbrev cX12_shadow : ByteArray := prog_14_method_33_code
def yX12_shadow : MethodName := ⟨RX12, "shadow", "(IIII)I"⟩
abbrev cX12_grant : ByteArray := prog_14_method_34_code
def yX12_grant : MethodName := ⟨RX12, "grant", "(IIIIIIII)I"⟩
abbrev cX12_holdsOn : ByteArray := prog_14_method_35_code
def yX12_holdsOn : MethodName := ⟨RX12, "holdsOn", "(IIII)Z"⟩
abbrev cX12_holderOf : ByteArray := prog_14_method_36_code
def yX12_holderOf : MethodName := ⟨RX12, "holderOf", "(IIII)I"⟩
abbrev cX12_holder : ByteArray := prog_14_method_37_code
def yX12_holder : MethodName := ⟨RX12, "holder", "(IIII)I"⟩
abbrev cX12_holds : ByteArray := prog_14_method_38_code
def yX12_holds : MethodName := ⟨RX12, "holds", "(III)V"⟩
abbrev cX12_partsIn : ByteArray := prog_14_method_39_code
def yX12_partsIn : MethodName := ⟨RX12, "partsIn", "(II)I"⟩
abbrev cX12_parts : ByteArray := prog_14_method_40_code
def yX12_parts : MethodName := ⟨RX12, "parts", "(IIIII)I"⟩
abbrev cX12_partsOn : ByteArray := prog_14_method_41_code
def yX12_partsOn : MethodName := ⟨RX12, "partsOn", "(III)J"⟩
abbrev cX12_account : ByteArray := prog_14_method_42_code
def yX12_account : MethodName := ⟨RX12, "account", "(IIII)J"⟩
abbrev cX12_bill : ByteArray := prog_14_method_43_code
def yX12_bill : MethodName := ⟨RX12, "bill", "(IIII)J"⟩
abbrev cX12_measure : ByteArray := prog_14_method_44_code
def yX12_measure : MethodName := ⟨RX12, "measure", "(III)I"⟩
abbrev cX12_far : ByteArray := prog_14_method_45_code
def yX12_far : MethodName := ⟨RX12, "far", "(II)I"⟩
abbrev cX12_thing : ByteArray := prog_14_method_46_code
def yX12_thing : MethodName := ⟨RX12, "thing", "(II)I"⟩
abbrev cX12_entry : ByteArray := prog_14_method_47_code
def yX12_entry : MethodName := ⟨RX12, "entry", "(III)I"⟩
abbrev cX12_put : ByteArray := prog_14_method_48_code
def yX12_put : MethodName := ⟨RX12, "put", "(I)V"⟩
abbrev cX12_feed : ByteArray := prog_14_method_49_code
def yX12_feed : MethodName := ⟨RX12, "feed", "(IIIII)I"⟩
abbrev cX12_end : ByteArray := prog_14_method_50_code
def yX12_end : MethodName := ⟨RX12, "end", "(I)I"⟩
abbrev cX12_isLetter : ByteArray := prog_14_method_51_code
def yX12_isLetter : MethodName := ⟨RX12, "isLetter", "(I)Z"⟩
abbrev cX12_wordOf : ByteArray := prog_14_method_52_code
def yX12_wordOf : MethodName := ⟨RX12, "wordOf", "(J)I"⟩
abbrev cX12_next : ByteArray := prog_14_method_53_code
def yX12_next : MethodName := ⟨RX12, "next", "()V"⟩
abbrev cX12_isSignByte : ByteArray := prog_14_method_54_code
def yX12_isSignByte : MethodName := ⟨RX12, "isSignByte", "(I)Z"⟩
abbrev cX12_isSign : ByteArray := prog_14_method_55_code
def yX12_isSign : MethodName := ⟨RX12, "isSign", "(I)Z"⟩
abbrev cX12_isWord : ByteArray := prog_14_method_56_code
def yX12_isWord : MethodName := ⟨RX12, "isWord", "(I)Z"⟩
abbrev cX12_errs : ByteArray := prog_14_method_57_code
def yX12_errs : MethodName := ⟨RX12, "errs", "(I)V"⟩
abbrev cX12_emits : ByteArray := prog_14_method_58_code
def yX12_emits : MethodName := ⟨RX12, "emits", "(II)V"⟩
abbrev cX12_opensFrame : ByteArray := prog_14_method_59_code
def yX12_opensFrame : MethodName := ⟨RX12, "opensFrame", "(I)V"⟩
abbrev cX12_top : ByteArray := prog_14_method_60_code
def yX12_top : MethodName := ⟨RX12, "top", "()I"⟩
abbrev cX12_opensSign : ByteArray := prog_14_method_61_code
def yX12_opensSign : MethodName := ⟨RX12, "opensSign", "(I)Z"⟩
abbrev cX12_rank : ByteArray := prog_14_method_62_code
def yX12_rank : MethodName := ⟨RX12, "rank", "(I)I"⟩
abbrev cX12_works : ByteArray := prog_14_method_63_code
def yX12_works : MethodName := ⟨RX12, "works", "(I)V"⟩
abbrev cX12_waitsFor : ByteArray := prog_14_method_64_code
def yX12_waitsFor : MethodName := ⟨RX12, "waitsFor", "(I)V"⟩
abbrev cX12_asks : ByteArray := prog_14_method_65_code
def yX12_asks : MethodName := ⟨RX12, "asks", "()V"⟩
abbrev cX12_begins : ByteArray := prog_14_method_66_code
def yX12_begins : MethodName := ⟨RX12, "begins", "()V"⟩
abbrev cX12_oneIsOver : ByteArray := prog_14_method_67_code
def yX12_oneIsOver : MethodName := ⟨RX12, "oneIsOver", "()V"⟩
abbrev cX12_askIsOver : ByteArray := prog_14_method_68_code
def yX12_askIsOver : MethodName := ⟨RX12, "askIsOver", "()V"⟩
abbrev cX12_isAsking : ByteArray := prog_14_method_69_code
def yX12_isAsking : MethodName := ⟨RX12, "isAsking", "(I)Z"⟩
abbrev cX12_goesOn : ByteArray := prog_14_method_70_code
def yX12_goesOn : MethodName := ⟨RX12, "goesOn", "()V"⟩
abbrev cX12_asksOn : ByteArray := prog_14_method_71_code
def yX12_asksOn : MethodName := ⟨RX12, "asksOn", "()V"⟩
abbrev cX12_rule : ByteArray := prog_14_method_72_code
def yX12_rule : MethodName := ⟨RX12, "rule", "()V"⟩
abbrev cX12_tariff : ByteArray := prog_14_method_73_code
def yX12_tariff : MethodName := ⟨RX12, "tariff", "()I"⟩
abbrev cX12_fault : ByteArray := prog_14_method_74_code
def yX12_fault : MethodName := ⟨RX12, "fault", "(I)I"⟩
abbrev cX12_bound : ByteArray := prog_14_method_75_code
def yX12_bound : MethodName := ⟨RX12, "bound", "(J)J"⟩
abbrev cX12_worked : ByteArray := prog_14_method_76_code
def yX12_worked : MethodName := ⟨RX12, "worked", "(IJJ)J"⟩
abbrev cX12_given : ByteArray := prog_14_method_77_code
def yX12_given : MethodName := ⟨RX12, "given", "()J"⟩
abbrev cX12_gives : ByteArray := prog_14_method_78_code
def yX12_gives : MethodName := ⟨RX12, "gives", "(IIIIII)I"⟩
abbrev cX12_stall : ByteArray := prog_14_method_79_code
def yX12_stall : MethodName := ⟨RX12, "stall", "(III)I"⟩
abbrev cX12_mayPlace : ByteArray := prog_14_method_80_code
def yX12_mayPlace : MethodName := ⟨RX12, "mayPlace", "(III)Z"⟩
abbrev cX12_place : ByteArray := prog_14_method_81_code
def yX12_place : MethodName := ⟨RX12, "place", "(III)Z"⟩
abbrev cX12_placeOf : ByteArray := prog_14_method_82_code
def yX12_placeOf : MethodName := ⟨RX12, "placeOf", "(II)I"⟩
abbrev cX12_charge : ByteArray := prog_14_method_83_code
def yX12_charge : MethodName := ⟨RX12, "charge", "(IIIII)J"⟩
abbrev cX12_fees : ByteArray := prog_14_method_84_code
def yX12_fees : MethodName := ⟨RX12, "fees", "(III)J"⟩
abbrev cX12_isTaken : ByteArray := prog_14_method_85_code
def yX12_isTaken : MethodName := ⟨RX12, "isTaken", "(III)Z"⟩
abbrev cX12_beside : ByteArray := prog_14_method_86_code
def yX12_beside : MethodName := ⟨RX12, "beside", "(II)I"⟩
abbrev cX12_nextOf : ByteArray := prog_14_method_87_code
def yX12_nextOf : MethodName := ⟨RX12, "nextOf", "(II)I"⟩
abbrev cX12_walk : ByteArray := prog_14_method_88_code
def yX12_walk : MethodName := ⟨RX12, "walk", "(IIIII)I"⟩
abbrev cX12_walked : ByteArray := prog_14_method_89_code
def yX12_walked : MethodName := ⟨RX12, "walked", "(I)J"⟩
abbrev cX12_servedBy : ByteArray := prog_14_method_90_code
def yX12_servedBy : MethodName := ⟨RX12, "servedBy", "(IIII)I"⟩
abbrev cX12_seeks : ByteArray := prog_14_method_91_code
def yX12_seeks : MethodName := ⟨RX12, "seeks", "(II)I"⟩
abbrev cX12_best : ByteArray := prog_14_method_92_code
def yX12_best : MethodName := ⟨RX12, "best", "(II)I"⟩
abbrev cX12_serves : ByteArray := prog_14_method_93_code
def yX12_serves : MethodName := ⟨RX12, "serves", "(II)I"⟩
abbrev cX12_about : ByteArray := prog_14_method_94_code
def yX12_about : MethodName := ⟨RX12, "about", "(I)I"⟩
def RJx145de : String := "java/io/Serializable"
def RJx8e188 : String := "java/lang/Cloneable"
def RJ6 : String := "java/lang/Integer"
abbrev cJ6_bitCount_0f7a4 : ByteArray := prog_17_method_49_code
def yJ6_bitCount_0f7a4 : MethodName := ⟨RJ6, "bitCount", "(I)I"⟩
def RJxab1ab : String := "java/lang/Iterable"
def RJ9 : String := "java/lang/Math"
abbrev cJ9_floorDiv_7cf53 : ByteArray := prog_19_method_47_code
def yJ9_floorDiv_7cf53 : MethodName := ⟨RJ9, "floorDiv", "(II)I"⟩
abbrev cJ9_abs_0f7a4 : ByteArray := prog_19_method_59_code
def yJ9_abs_0f7a4 : MethodName := ⟨RJ9, "abs", "(I)I"⟩
abbrev cJ9_max_7cf53 : ByteArray := prog_19_method_65_code
def yJ9_max_7cf53 : MethodName := ⟨RJ9, "max", "(II)I"⟩
abbrev cJ9_max_f86c9 : ByteArray := prog_19_method_66_code
def yJ9_max_f86c9 : MethodName := ⟨RJ9, "max", "(JJ)J"⟩
abbrev cJ9_min_7cf53 : ByteArray := prog_19_method_69_code
def yJ9_min_7cf53 : MethodName := ⟨RJ9, "min", "(II)I"⟩
abbrev cJ9_min_f86c9 : ByteArray := prog_19_method_70_code
def yJ9_min_f86c9 : MethodName := ⟨RJ9, "min", "(JJ)J"⟩
def RJ0 : String := "java/lang/String"
abbrev cJ0_length_8abf5 : ByteArray := prog_20_method_54_code
def yJ0_length_8abf5 : MethodName := ⟨RJ0, "length", "()I"⟩
abbrev cJ0_charAt_5068e : ByteArray := prog_20_method_56_code
def yJ0_charAt_5068e : MethodName := ⟨RJ0, "charAt", "(I)C"⟩
abbrev cJ0_coder_7d493 : ByteArray := prog_20_method_152_code
def yJ0_coder_7d493 : MethodName := ⟨RJ0, "coder", "()B"⟩
abbrev cJ0_isLatin1_aae02 : ByteArray := prog_20_method_154_code
def yJ0_isLatin1_aae02 : MethodName := ⟨RJ0, "isLatin1", "()Z"⟩
abbrev cJ0_checkIndex_df160 : ByteArray := prog_20_method_155_code
def yJ0_checkIndex_df160 : MethodName := ⟨RJ0, "checkIndex", "(II)V"⟩
def RJ1 : String := "java/lang/StringLatin1"
abbrev cJ1_charAt_3b067 : ByteArray := prog_21_method_2_code
def yJ1_charAt_3b067 : MethodName := ⟨RJ1, "charAt", "([BI)C"⟩
def RJ2 : String := "java/lang/StringUTF16"
abbrev cJ2_getChar_3b067 : ByteArray := prog_22_method_5_code
def yJ2_getChar_3b067 : MethodName := ⟨RJ2, "getChar", "([BI)C"⟩
abbrev cJ2_length_9d52b : ByteArray := prog_22_method_6_code
def yJ2_length_9d52b : MethodName := ⟨RJ2, "length", "([B)I"⟩
abbrev cJ2_charAt_3b067 : ByteArray := prog_22_method_83_code
def yJ2_charAt_3b067 : MethodName := ⟨RJ2, "charAt", "([BI)C"⟩
abbrev cJ2_checkIndex_2214a : ByteArray := prog_22_method_91_code
def yJ2_checkIndex_2214a : MethodName := ⟨RJ2, "checkIndex", "(I[B)V"⟩
def RJ10 : String := "java/lang/System"
def RJxa1e45 : String := "java/util/AbstractCollection"
abbrev cJxa1e45_init_da8c8 : ByteArray := prog_24_method_1_code
def yJxa1e45_init_da8c8 : MethodName := ⟨RJxa1e45, "<init>", "()V"⟩
def RJxc12de : String := "java/util/AbstractList"
abbrev cJxc12de_init_da8c8 : ByteArray := prog_25_method_1_code
def yJxc12de_init_da8c8 : MethodName := ⟨RJxc12de, "<init>", "()V"⟩
def RJx4a65c : String := "java/util/ArrayList"
def TJx4a65c : u_T := fun k => match k with
  | 0 => ("java/util/AbstractList", "modCount", "I", false)
  | 1 => ("java/util/ArrayList", "elementData", "[Ljava/lang/Object;", false)
  | _ => ("java/util/ArrayList", "size", "I", false)
def tyJx4a65c : Nat → FieldType := fun k => match k with
  | 0 => .int
  | 1 => .array (.object "java/lang/Object")
  | _ => .int
abbrev wsJx4a65c0 : List Cond := u_ws RJx4a65c TJx4a65c 3
theorem nmJx4a65c : ∀ a, a < 3 → ∀ b, b < 3 → a ≠ b → (TJx4a65c a).2.1 ≠ (TJx4a65c b).2.1 := by decide +kernel
theorem tyJx4a65c_ok : ∀ k, k < 3 → parseFieldDescriptor (TJx4a65c k).2.2.1 = some (tyJx4a65c k) := by decide +kernel
abbrev cJx4a65c_init_da8c8 : ByteArray := prog_26_method_2_code
def yJx4a65c_init_da8c8 : MethodName := ⟨RJx4a65c, "<init>", "()V"⟩
abbrev cJx4a65c_grow_92f84 : ByteArray := prog_26_method_6_code
def yJx4a65c_grow_92f84 : MethodName := ⟨RJx4a65c, "grow", "(I)[Ljava/lang/Object;"⟩
abbrev cJx4a65c_grow_d5877 : ByteArray := prog_26_method_7_code
def yJx4a65c_grow_d5877 : MethodName := ⟨RJx4a65c, "grow", "()[Ljava/lang/Object;"⟩
abbrev cJx4a65c_size_8abf5 : ByteArray := prog_26_method_8_code
def yJx4a65c_size_8abf5 : MethodName := ⟨RJx4a65c, "size", "()I"⟩
abbrev cJx4a65c_elementData_915e3 : ByteArray := prog_26_method_18_code
def yJx4a65c_elementData_915e3 : MethodName := ⟨RJx4a65c, "elementData", "(I)Ljava/lang/Object;"⟩
abbrev cJx4a65c_get_915e3 : ByteArray := prog_26_method_20_code
def yJx4a65c_get_915e3 : MethodName := ⟨RJx4a65c, "get", "(I)Ljava/lang/Object;"⟩
abbrev cJx4a65c_add_72be8 : ByteArray := prog_26_method_24_code
def yJx4a65c_add_72be8 : MethodName := ⟨RJx4a65c, "add", "(Ljava/lang/Object;[Ljava/lang/Object;I)V"⟩
abbrev cJx4a65c_add_9ea2d : ByteArray := prog_26_method_25_code
def yJx4a65c_add_9ea2d : MethodName := ⟨RJx4a65c, "add", "(Ljava/lang/Object;)Z"⟩
def RJ7 : String := "java/util/Arrays"
abbrev cJ7_fill_53178 : ByteArray := prog_27_method_103_code
def yJ7_fill_53178 : MethodName := ⟨RJ7, "fill", "([II)V"⟩
abbrev cJ7_copyOf_1904c : ByteArray := prog_27_method_119_code
def yJ7_copyOf_1904c : MethodName := ⟨RJ7, "copyOf", "([Ljava/lang/Object;I)[Ljava/lang/Object;"⟩
abbrev cJ7_copyOf_6403c : ByteArray := prog_27_method_120_code
def yJ7_copyOf_6403c : MethodName := ⟨RJ7, "copyOf", "([Ljava/lang/Object;ILjava/lang/Class;)[Ljava/lang/Object;"⟩
def RJx5ef63 : String := "java/util/Collection"
def RJxbd725 : String := "java/util/List"
def RJ15 : String := "java/util/Objects"
abbrev cJ15_checkIndex_7cf53 : ByteArray := prog_30_method_17_code
def yJ15_checkIndex_7cf53 : MethodName := ⟨RJ15, "checkIndex", "(II)I"⟩
def RJxf0a74 : String := "java/util/RandomAccess"
def RJxa66e6 : String := "java/util/SequencedCollection"
def RJ8 : String := "jdk/internal/util/ArraysSupport"
abbrev cJ8_newLength_cabcc : ByteArray := prog_33_method_27_code
def yJ8_newLength_cabcc : MethodName := ⟨RJ8, "newLength", "(III)I"⟩
abbrev cJ8_hugeLength_7cf53 : ByteArray := prog_33_method_28_code
def yJ8_hugeLength_7cf53 : MethodName := ⟨RJ8, "hugeLength", "(II)I"⟩
def RJ3 : String := "jdk/internal/util/Preconditions"
abbrev cJ3_checkIndex_8e157 : ByteArray := prog_34_method_11_code
def yJ3_checkIndex_8e157 : MethodName := ⟨RJ3, "checkIndex", "(IILjava/util/function/BiFunction;)I"⟩
def RL : String := "ShadeRegisterLaw"
abbrev cL_cell : ByteArray := method_2_code
def yL_cell : MethodName := ⟨RL, "cell", "([II)I"⟩
abbrev cL_law : ByteArray := code
def yL_law : MethodName := ⟨RL, "law", "([I)Z"⟩
end
section
/-! THE ABSTRACT MACHINE: a store of ints, longs and references by place and number; locals by their places; one step a function -/
abbrev az_V : Type := List (Option Value)
abbrev az_S : Type := Nat × Nat × (Nat → Nat × Nat) × (Nat → Nat → Int32) × (Nat → Nat → Int64) × (Nat → Nat → Option Nat)
abbrev az_I : Type := Nat × Nat × Instr × List Nat
abbrev az_n (σ : az_S) : Nat := σ.1
abbrev az_sl (σ : az_S) : Nat := σ.2.1
abbrev az_sh (σ : az_S) : Nat → Nat × Nat := σ.2.2.1
abbrev az_i (σ : az_S) : Nat → Nat → Int32 := σ.2.2.2.1
abbrev az_l (σ : az_S) : Nat → Nat → Int64 := σ.2.2.2.2.1
abbrev az_r (σ : az_S) : Nat → Nat → Option Nat := σ.2.2.2.2.2
def az_up {α : Type} (f : Nat → Nat → α) (a k : Nat) (v : α) : Nat → Nat → α := va_up f a (va_up (f a) k v)
abbrev az_pi (σ : az_S) (a k : Nat) (v : Int32) : az_S := (σ.1, σ.2.1, σ.2.2.1, az_up σ.2.2.2.1 a k v, σ.2.2.2.2)
abbrev az_pl (σ : az_S) (a k : Nat) (v : Int64) : az_S := (σ.1, σ.2.1, σ.2.2.1, σ.2.2.2.1, az_up σ.2.2.2.2.1 a k v, σ.2.2.2.2.2)
abbrev az_pr (σ : az_S) (a k : Nat) (v : Option Nat) : az_S := (σ.1, σ.2.1, σ.2.2.1, σ.2.2.2.1, σ.2.2.2.2.1, az_up σ.2.2.2.2.2 a k v)
/-- a new cell of a kind with m slots -/
abbrev az_nw (σ : az_S) (kd m : Nat) : az_S := (σ.1 + 1, σ.2.1 + m, va_up σ.2.2.1 σ.1 (kd, m), va_up σ.2.2.2.1 σ.1 (fun _ => 0), va_up σ.2.2.2.2.1 σ.1 (fun _ => 0), va_up σ.2.2.2.2.2 σ.1 (fun _ => none))
def az_get (L : az_V) (i : Nat) : Option Value := match L[i]? with
  | some u => u
  | none => none
def az_kl (u : Option Value) : Option Value := match u with
  | some (.long _) => none
  | some (.double _) => none
  | w => w
def az_kill (L : az_V) (i : Nat) : az_V := match i with
  | 0 => L
  | j + 1 => L.set j (az_kl (az_get L j))
def az_put1 (L : az_V) (i : Nat) (v : Value) : az_V := (az_kill L i).set i (some v)
def az_put2 (L : az_V) (i : Nat) (v : Value) : az_V := ((az_kill L i).set i (some v)).set (i + 1) none
/-- the kinds of the fields, a row a class in the order of vwCl: 0 a number, 1 a long, 2 a reference -/
def az_ft (ci k : Nat) : Nat := match ci with
  | 113 => ([2, 0] : List Nat).getD k 0
  | 0 => ([0, 2, 0] : List Nat).getD k 0
  | 1 => ([0, 2, 0, 0, 0, 0, 0, 0, 0, 0, 0, 0] : List Nat).getD k 0
  | 2 => ([0, 0, 0] : List Nat).getD k 0
  | 3 => ([2, 2, 0, 0, 0, 0] : List Nat).getD k 0
  | 4 => ([0, 0] : List Nat).getD k 0
  | 5 => ([2, 2, 2, 2, 2, 2, 2, 0, 1] : List Nat).getD k 0
  | 6 => ([2, 2, 2, 2, 2, 2, 0] : List Nat).getD k 0
  | 7 => ([2, 2, 2, 0] : List Nat).getD k 0
  | 8 => ([0, 0, 2] : List Nat).getD k 0
  | 9 => ([2, 0, 2, 2, 2, 0] : List Nat).getD k 0
  | 10 => ([2, 2, 2, 2, 2, 0, 0] : List Nat).getD k 0
  | 11 => ([0, 0, 0, 0, 0, 0, 0, 2, 2, 2, 0, 0, 0, 0] : List Nat).getD k 0
  | 12 => ([2, 2, 2, 2, 2, 2, 2, 2, 2, 2, 2, 2, 2, 2, 2, 0, 0, 0] : List Nat).getD k 0
  | 13 => ([0, 0, 0, 0, 2, 2, 0, 2, 2, 0, 2, 2, 0, 2, 2, 2, 2, 2, 2, 2, 2, 2, 2, 2, 2, 2, 2, 0, 2, 2, 2, 2, 2, 2, 2, 2, 2, 2, 2, 2, 0, 0, 0, 0, 0, 0, 0, 0, 0, 0, 0, 0, 2, 2, 0, 0, 2, 2, 0, 2, 0, 2, 2, 0, 2, 2, 0, 2, 2, 2, 2, 2, 2, 2, 2, 2, 2, 2, 0, 2, 2, 2, 2, 2, 2, 0, 1, 2, 0, 2] : List Nat).getD k 0
  | _ => 0
def az_nf (ci : Nat) : Nat := match ci with
  | 0 => 3
  | 1 => 12
  | 2 => 3
  | 3 => 6
  | 4 => 2
  | 5 => 9
  | 6 => 7
  | 7 => 4
  | 8 => 3
  | 9 => 6
  | 10 => 7
  | 11 => 14
  | 12 => 18
  | 13 => 90
  | _ => 0
def az_fv (σ : az_S) (a k kd : Nat) : Value := match kd with
  | 0 => .int (az_i σ a k)
  | 1 => .long (az_l σ a k)
  | _ => va_rf (az_r σ a k)
def az_cmp (c : ClassFile.Cond) (x y : Int32) : Prop := match c with
  | .eq => x = y
  | .ne => ¬ x = y
  | .lt => x < y
  | .ge => y ≤ x
  | .gt => y < x
  | .le => x ≤ y
abbrev az_F : Type := Nat × az_V × List Value × az_S
def az_j (pc : Nat) (off : Int) : Nat := ((pc : Int) + off).toNat
def az_ty (t : ArrayType) : Nat := match t with
  | .int => 100
  | .boolean => 101
  | .byte => 102
  | .long => 103
  | _ => 0
/-- one step of what is neither a call nor a return nor a branch of two ways -/
def az_next (pc len : Nat) (ins : Instr) (aux : List Nat) (L : az_V) (st : List Value) (σ : az_S) (F : az_F) : Prop := match ins with
  | .iconst n => F = (pc + len, L, .int (Int32.ofInt n) :: st, σ)
  | .bipush n => F = (pc + len, L, .int (Int8.ofInt n).toInt32 :: st, σ)
  | .sipush n => F = (pc + len, L, .int (Int16.ofInt n).toInt32 :: st, σ)
  | .lconst n => F = (pc + len, L, .long (Int64.ofNat (n : Nat)) :: st, σ)
  | .aconst_null => F = (pc + len, L, .null :: st, σ)
  | .iload_n k => ∃ v, az_get L k = some (.int v) ∧ F = (pc + len, L, .int v :: st, σ)
  | .iload k => ∃ v, az_get L k = some (.int v) ∧ F = (pc + len, L, .int v :: st, σ)
  | .lload_n k => ∃ v, az_get L k = some (.long v) ∧ F = (pc + len, L, .long v :: st, σ)
  | .lload k => ∃ v, az_get L k = some (.long v) ∧ F = (pc + len, L, .long v :: st, σ)
  | .aload_n k => ∃ o, az_get L k = some (va_rf o) ∧ F = (pc + len, L, va_rf o :: st, σ)
  | .aload k => ∃ o, az_get L k = some (va_rf o) ∧ F = (pc + len, L, va_rf o :: st, σ)
  | .istore_n k => ∃ v r, st = .int v :: r ∧ (k : Nat) < L.length ∧ F = (pc + len, az_put1 L k (.int v), r, σ)
  | .istore k => ∃ v r, st = .int v :: r ∧ k < L.length ∧ F = (pc + len, az_put1 L k (.int v), r, σ)
  | .lstore_n k => ∃ v r, st = .long v :: r ∧ (k : Nat) + 1 < L.length ∧ F = (pc + len, az_put2 L k (.long v), r, σ)
  | .lstore k => ∃ v r, st = .long v :: r ∧ k + 1 < L.length ∧ F = (pc + len, az_put2 L k (.long v), r, σ)
  | .astore_n k => ∃ o r, st = va_rf o :: r ∧ (k : Nat) < L.length ∧ F = (pc + len, az_put1 L k (va_rf o), r, σ)
  | .astore k => ∃ o r, st = va_rf o :: r ∧ k < L.length ∧ F = (pc + len, az_put1 L k (va_rf o), r, σ)
  | .iinc k n => ∃ v, az_get L k = some (.int v) ∧ F = (pc + len, az_put1 L k (.int (v + Int32.ofInt n)), st, σ)
  | .iadd => ∃ x y r, st = .int y :: .int x :: r ∧ F = (pc + len, L, .int (x + y) :: r, σ)
  | .isub => ∃ x y r, st = .int y :: .int x :: r ∧ F = (pc + len, L, .int (x - y) :: r, σ)
  | .imul => ∃ x y r, st = .int y :: .int x :: r ∧ F = (pc + len, L, .int (x * y) :: r, σ)
  | .idiv => ∃ x y r, st = .int y :: .int x :: r ∧ ¬ y = 0 ∧ F = (pc + len, L, .int (x / y) :: r, σ)
  | .irem => ∃ x y r, st = .int y :: .int x :: r ∧ ¬ y = 0 ∧ F = (pc + len, L, .int (x - x / y * y) :: r, σ)
  | .iand => ∃ x y r, st = .int y :: .int x :: r ∧ F = (pc + len, L, .int (x &&& y) :: r, σ)
  | .ior => ∃ x y r, st = .int y :: .int x :: r ∧ F = (pc + len, L, .int (x ||| y) :: r, σ)
  | .ixor => ∃ x y r, st = .int y :: .int x :: r ∧ F = (pc + len, L, .int (x ^^^ y) :: r, σ)
  | .ishl => ∃ x y r, st = .int y :: .int x :: r ∧ F = (pc + len, L, .int (x <<< (y &&& 31)) :: r, σ)
  | .ishr => ∃ x y r, st = .int y :: .int x :: r ∧ F = (pc + len, L, .int (x >>> (y &&& 31)) :: r, σ)
  | .iushr => ∃ x y r, st = .int y :: .int x :: r ∧ F = (pc + len, L, .int (x.toUInt32 >>> (y.toUInt32 &&& Int32.toUInt32 31)).toInt32 :: r, σ)
  | .ineg => ∃ x r, st = .int x :: r ∧ F = (pc + len, L, .int (-x) :: r, σ)
  | .ladd => ∃ x y r, st = .long y :: .long x :: r ∧ F = (pc + len, L, .long (x + y) :: r, σ)
  | .lsub => ∃ x y r, st = .long y :: .long x :: r ∧ F = (pc + len, L, .long (x - y) :: r, σ)
  | .lmul => ∃ x y r, st = .long y :: .long x :: r ∧ F = (pc + len, L, .long (x * y) :: r, σ)
  | .ldiv => ∃ x y r, st = .long y :: .long x :: r ∧ ¬ y = 0 ∧ F = (pc + len, L, .long (x / y) :: r, σ)
  | .land => ∃ x y r, st = .long y :: .long x :: r ∧ F = (pc + len, L, .long (x &&& y) :: r, σ)
  | .lor => ∃ x y r, st = .long y :: .long x :: r ∧ F = (pc + len, L, .long (x ||| y) :: r, σ)
  | .lneg => ∃ x r, st = .long x :: r ∧ F = (pc + len, L, .long (-x) :: r, σ)
  | .i2l => ∃ x r, st = .int x :: r ∧ F = (pc + len, L, .long x.toInt64 :: r, σ)
  | .l2i => ∃ x r, st = .long x :: r ∧ F = (pc + len, L, .int x.toInt32 :: r, σ)
  | .i2b => ∃ x r, st = .int x :: r ∧ F = (pc + len, L, .int x.toInt8.toInt32 :: r, σ)
  | .i2c => ∃ x r, st = .int x :: r ∧ F = (pc + len, L, .int (x.toUInt32 % 65536).toInt32 :: r, σ)
  | .lcmp => ∃ x y r, st = .long y :: .long x :: r ∧ F = (pc + len, L, .int (lg_cmp x y) :: r, σ)
  | .dup => ∃ v r, st = v :: r ∧ v.category = 1 ∧ F = (pc + len, L, v :: v :: r, σ)
  | .pop => ∃ v r, st = v :: r ∧ v.category = 1 ∧ F = (pc + len, L, r, σ)
  | .dup_x1 => ∃ v w r, st = v :: w :: r ∧ v.category = 1 ∧ w.category = 1 ∧ F = (pc + len, L, v :: w :: v :: r, σ)
  | .dup2 => ∃ v w r, st = v :: w :: r ∧ v.category = 1 ∧ w.category = 1 ∧ F = (pc + len, L, v :: w :: v :: w :: r, σ)
  | .goto off => F = (az_j pc off, L, st, σ)
  | .ifCond c off => ∃ x r, st = .int x :: r ∧ ((az_cmp c x 0 ∧ F = (az_j pc off, L, r, σ)) ∨ (¬ az_cmp c x 0 ∧ F = (pc + len, L, r, σ)))
  | .if_icmp c off => ∃ x y r, st = .int y :: .int x :: r ∧ ((az_cmp c x y ∧ F = (az_j pc off, L, r, σ)) ∨ (¬ az_cmp c x y ∧ F = (pc + len, L, r, σ)))
  | .if_acmp c off => ∃ x r, st = va_rf x :: va_rf x :: r ∧ F = ((match c with | .eq => az_j pc off | .ne => pc + len), L, r, σ)
  | .ifnull off => ∃ x r, st = va_rf x :: r ∧ ((x = none ∧ F = (az_j pc off, L, r, σ)) ∨ (¬ x = none ∧ F = (pc + len, L, r, σ)))
  | .tableswitch dflt lo hi offs => ∃ x r, st = .int x :: r ∧ (((x.toInt < lo ∨ hi < x.toInt) ∧ F = (az_j pc dflt, L, r, σ)) ∨ (∃ off, ¬ x.toInt < lo ∧ ¬ hi < x.toInt ∧ offs[(x.toInt - lo).toNat]? = some off ∧ F = (az_j pc off, L, r, σ)))
  | .lookupswitch dflt ps => ∃ x r, st = .int x :: r ∧ (ps.toList.zip (ps.toList.drop 1)).all (fun (a, next) => a.1 < next.1) = true ∧ F = (az_j pc (Op.lookupswitch.offset ps.toList dflt x.toInt), L, r, σ)
  | .ldc _ => (∃ v, aux = [0, v] ∧ F = (pc + len, L, .int (Int32.ofNat v) :: st, σ)) ∨ (∃ v, aux = [1, v] ∧ F = (pc + len, L, .ref v :: st, σ))
  | .ldc_w _ => (∃ v, aux = [0, v] ∧ F = (pc + len, L, .int (Int32.ofNat v) :: st, σ))
  | .ldc2_w _ => (∃ v, aux = [v] ∧ F = (pc + len, L, .long (Int64.ofNat v) :: st, σ))
  | .getstatic _ => ∃ k kd, aux = [k, kd] ∧ F = (pc + len, L, az_fv σ 1000007 k kd :: st, σ)
  | .getfield _ => ∃ ci k a r, aux = [ci, k] ∧ st = .ref a :: r ∧ (az_sh σ a).1 = ci ∧ F = (pc + len, L, az_fv σ a k (az_ft ci k) :: r, σ)
  | .putfield _ => ∃ ci k a, aux = [ci, k] ∧ (az_sh σ a).1 = ci ∧ ((az_ft ci k = 0 ∧ ∃ v r, st = .int v :: .ref a :: r ∧ F = (pc + len, L, r, az_pi σ a k v)) ∨ (az_ft ci k = 1 ∧ ∃ v r, st = .long v :: .ref a :: r ∧ F = (pc + len, L, r, az_pl σ a k v)) ∨ (az_ft ci k = 2 ∧ ∃ v r, st = va_rf v :: .ref a :: r ∧ F = (pc + len, L, r, az_pr σ a k v)))
  | .iaload => ∃ i a r, st = .int i :: .ref a :: r ∧ ((az_sh σ a).1 = 100 ∨ (az_sh σ a).1 = 110) ∧ vp_in i (az_sh σ a).2 ∧ F = (pc + len, L, .int (az_i σ a i.toNatClampNeg) :: r, σ)
  | .baload => ∃ i a r, st = .int i :: .ref a :: r ∧ ((az_sh σ a).1 = 101 ∨ (az_sh σ a).1 = 102 ∨ (az_sh σ a).1 = 112) ∧ vp_in i (az_sh σ a).2 ∧ F = (pc + len, L, .int (az_i σ a i.toNatClampNeg) :: r, σ)
  | .laload => ∃ i a r, st = .int i :: .ref a :: r ∧ (az_sh σ a).1 = 103 ∧ vp_in i (az_sh σ a).2 ∧ F = (pc + len, L, .long (az_l σ a i.toNatClampNeg) :: r, σ)
  | .aaload => ∃ i a r, st = .int i :: .ref a :: r ∧ (az_sh σ a).1 = 104 ∧ vp_in i (az_sh σ a).2 ∧ F = (pc + len, L, va_rf (az_r σ a i.toNatClampNeg) :: r, σ)
  | .iastore => ∃ x i a r, st = .int x :: .int i :: .ref a :: r ∧ (az_sh σ a).1 = 100 ∧ vp_in i (az_sh σ a).2 ∧ F = (pc + len, L, r, az_pi σ a i.toNatClampNeg x)
  | .bastore => ∃ x i a r, st = .int x :: .int i :: .ref a :: r ∧ vp_in i (az_sh σ a).2 ∧ (((az_sh σ a).1 = 101 ∧ F = (pc + len, L, r, az_pi σ a i.toNatClampNeg (vp_nar .boolean x))) ∨ ((az_sh σ a).1 = 102 ∧ F = (pc + len, L, r, az_pi σ a i.toNatClampNeg (vp_nar .byte x))))
  | .lastore => ∃ x i a r, st = .long x :: .int i :: .ref a :: r ∧ (az_sh σ a).1 = 103 ∧ vp_in i (az_sh σ a).2 ∧ F = (pc + len, L, r, az_pl σ a i.toNatClampNeg x)
  | .aastore => ∃ v i a r, st = .ref v :: .int i :: .ref a :: r ∧ (az_sh σ a).1 = 104 ∧ (az_sh σ v).1 < 14 ∧ vp_in i (az_sh σ a).2 ∧ F = (pc + len, L, r, az_pr σ a i.toNatClampNeg (some v))
  | .arraylength => ∃ a r, st = .ref a :: r ∧ ((100 ≤ (az_sh σ a).1 ∧ (az_sh σ a).1 ≤ 104) ∨ (110 ≤ (az_sh σ a).1 ∧ (az_sh σ a).1 ≤ 112)) ∧ F = (pc + len, L, .int (Int32.ofNat (az_sh σ a).2) :: r, σ)
  | .newarray t => ∃ n r, st = .int n :: r ∧ ¬ n < 0 ∧ n.toNatClampNeg ≤ 10000 ∧ 100 ≤ az_ty t ∧ az_n σ < 1000000 ∧ F = (pc + len, L, .ref (az_n σ) :: r, az_nw σ (az_ty t) n.toNatClampNeg)
  | .anewarray _ => ∃ n r, st = .int n :: r ∧ ¬ n < 0 ∧ n.toNatClampNeg ≤ 10000 ∧ az_n σ < 1000000 ∧ F = (pc + len, L, .ref (az_n σ) :: r, az_nw σ 104 n.toNatClampNeg)
  | .new _ => ∃ ci, aux = [ci] ∧ ci < 14 ∧ az_n σ < 1000000 ∧ F = (pc + len, L, .ref (az_n σ) :: st, az_nw σ ci (az_nf ci))
  | .checkcast _ => ∃ ci a r, aux = [ci] ∧ ci < 14 ∧ st = .ref a :: r ∧ (az_sh σ a).1 = ci ∧ F = (pc + len, L, .ref a :: r, σ)
  | _ => False
/-- the step of a call (op 0 of aux: which method, how many values it takes, the kind of its receiver or 999) or of what stands for one -/
def az_step (E : Nat → List Value → az_S → Option Value → az_S → Prop) (pc len : Nat) (ins : Instr) (aux : List Nat) (L : az_V) (st : List Value) (σ : az_S) (F : az_F) : Prop := match aux with
  | [0, y, n, kc] => len = 3 ∧ n ≤ st.length ∧ ((st.drop n).map fun v => v.category).sum ≤ 8 ∧ (kc = 999 ∨ ∃ a, (st.take n).reverse.head? = some (.ref a) ∧ (az_sh σ a).1 = kc) ∧ ∃ r σ', E y (st.take n).reverse σ r σ' ∧ F = (pc + 3, L, r.toList ++ st.drop n, σ')
  | [1, 2, 3] => len = 3 ∧ ∃ a r, st = .ref a :: r ∧ (r.map fun v => v.category).sum ≤ 8 ∧ F = (pc + 3, L, r, σ)
  | [1, 2, 4] => len = 3 ∧ ∃ a r, st = .ref a :: r ∧ (r.map fun v => v.category).sum ≤ 8 ∧ (az_sh σ a).1 = 104 ∧ F = (pc + 3, L, .ref 1000005 :: r, σ)
  | [1, 2, 5] => len = 3 ∧ ∃ n a r b, st = [.int n, .int 0, .ref b, .int 0, .ref a] ++ r ∧ ¬ n < 0 ∧ (r.map fun v => v.category).sum ≤ 8 ∧ (az_sh σ a).1 = 104 ∧ (az_sh σ b).1 = 104 ∧ a ≠ b ∧ n.toNatClampNeg ≤ (az_sh σ a).2 ∧ n.toNatClampNeg ≤ (az_sh σ b).2 ∧ (∀ j, j < n.toNatClampNeg → ∃ v, az_r σ a j = some v ∧ (az_sh σ v).1 < 14) ∧ F = (pc + 3, L, r, (σ.1, σ.2.1, σ.2.2.1, σ.2.2.2.1, σ.2.2.2.2.1, va_up σ.2.2.2.2.2 b (va_cpy (az_r σ a) (az_r σ b) 0 0 n.toNatClampNeg)))
  | _ => az_next pc len ins aux L st σ F
def az_fetch (cd : List az_I) (pc : Nat) : Option (Nat × Instr × List Nat) := match cd with
  | [] => none
  | q :: r => if q.1 = pc then some q.2 else az_fetch r pc
/-- what a return gives back: of a boolean only 0 and 1 -/
def az_ret (ins : Instr) (rt : Option FieldType) (st : List Value) (r : Option Value) : Prop := match ins with
  | .return_ => rt = none ∧ st = [] ∧ r = none
  | .ireturn => ∃ v ty, rt = some ty ∧ narrow ty (.int v) = .int v ∧ st = [.int v] ∧ r = some (.int v)
  | .lreturn => ∃ v, rt = some .long ∧ st = [.long v] ∧ r = some (.long v)
  | .areturn => ∃ o rt', rt = some rt' ∧ ((∃ n, rt' = .object n) ∨ ∃ t, rt' = .array t) ∧ st = [va_rf o] ∧ r = some (va_rf o)
  | _ => False
/-- n steps from a frame to its return -/
def az_run (E : Nat → List Value → az_S → Option Value → az_S → Prop) (cd : List az_I) (rt : Option FieldType) (r : Option Value) (t : az_S) : Nat → az_F → Prop
  | 0, _ => False
  | n + 1, G => ∃ len ins aux, az_fetch cd G.1 = some (len, ins, aux) ∧ ((az_ret ins rt G.2.2.1 r ∧ G.2.2.2 = t) ∨ ∃ F, az_step E G.1 len ins aux G.2.1 G.2.2.1 G.2.2.2 F ∧ az_run E cd rt r t n F)
end
section
/-! THE WORLD of an abstract store, as cells of the machine's heap -/
def az_ad (base : Nat) (cs : Nat → Nat) (i : Nat) : Nat := if i < 1000000 then base + i else cs i
def az_tr (ad : Nat → Nat) (v : Value) : Value := match v with
  | .ref i => .ref (ad i)
  | w => w
theorem az_tr_rf (ad : Nat → Nat) (o : Option Nat) : az_tr ad (va_rf o) = va_rf (o.map ad) := by cases o <;> rfl
theorem az_tr_cat (ad : Nat → Nat) (v : Value) : (az_tr ad v).category = v.category := by cases v <;> rfl
theorem az_tr_cats (ad : Nat → Nat) (l : List Value) : ((l.map (az_tr ad)).map fun v => v.category) = l.map fun v => v.category := by
  rw [List.map_map]
  congr 1
  funext v
  exact az_tr_cat ad v
def az_E (cA : Nat → ClassId) (ad : Nat → Nat) (σ : az_S) (a : Nat) : va_E :=
  if (az_sh σ a).1 < 14 then .inr ((az_sh σ a).1, (List.range (az_nf (az_sh σ a).1)).map (fun k => az_tr ad (az_fv σ a k (az_ft (az_sh σ a).1 k))))
  else if (az_sh σ a).1 = 103 then .inl (cA 103, (az_sh σ a).2, .inr (.inl (az_l σ a)))
  else if (az_sh σ a).1 = 104 then .inl (cA 104, (az_sh σ a).2, .inr (.inr (.inr (.inr (fun j => (az_r σ a j).map ad)))))
  else .inl (cA (az_sh σ a).1, (az_sh σ a).2, .inl (az_i σ a))
def az_ws (cA : Nat → ClassId) (ad : Nat → Nat) (σ : az_S) : va_W := (List.range (az_n σ)).map (fun a => (ad a, az_E cA ad σ a))
def az_tys (cA : Nat → ClassId) : List (ClassId × FieldType) := [(cA 100, .int), (cA 101, .boolean), (cA 102, .byte), (cA 103, .long), (cA 104, .object "java/lang/Object")]
theorem az_ws_get {cA : Nat → ClassId} {ad : Nat → Nat} {σ : az_S} {a : Nat} (h : a < az_n σ) : (az_ws cA ad σ)[a]? = some (ad a, az_E cA ad σ a) := by
  simp [az_ws, h]
theorem az_D {cA : Nat → ClassId} {base : Nat} {cs : Nat → Nat} {σ : az_S} (h : az_n σ ≤ 1000000) : va_D (fun q => base ≤ q) (az_ws cA (az_ad base cs) σ) := by
  have key : ∀ (k : Nat) (q : Nat × va_E), (az_ws cA (az_ad base cs) σ)[k]? = some q → q.1 = base + k := by
    intro k q hk
    have hl := (List.getElem?_eq_some_iff.mp hk).1
    simp only [az_ws, List.length_map, List.length_range] at hl
    rw [az_ws_get hl] at hk
    cases hk
    simp [az_ad, Nat.lt_of_lt_of_le hl h]
  refine ⟨fun i j x y hx hy e => ?_, fun k q hk => ?_⟩
  · rw [key i x hx, key j y hy] at e
    omega
  · rw [key k q hk]
    exact Nat.le_add_right _ _
theorem az_ws_set {cA : Nat → ClassId} {ad : Nat → Nat} {σ τ : az_S} {a : Nat} (hn : az_n τ = az_n σ) (he : ∀ b, b ≠ a → az_E cA ad τ b = az_E cA ad σ b) : az_ws cA ad τ = (az_ws cA ad σ).set a (ad a, az_E cA ad τ a) := by
  apply List.ext_getElem?
  intro k
  by_cases hk : k < az_n σ
  · rw [az_ws_get (by rw [hn]; exact hk)]
    by_cases hka : k = a
    · subst hka
      rw [List.getElem?_set_self (by simp [az_ws, hk])]
    · rw [List.getElem?_set_ne (Ne.symm hka), az_ws_get hk, he k hka]
  · rw [List.getElem?_eq_none (by simp [az_ws]; omega), List.getElem?_eq_none (by simp [az_ws]; omega)]
theorem az_ws_push {cA : Nat → ClassId} {ad : Nat → Nat} {σ τ : az_S} (hn : az_n τ = az_n σ + 1) (he : ∀ b, b ≠ az_n σ → az_E cA ad τ b = az_E cA ad σ b) : az_ws cA ad τ = az_ws cA ad σ ++ [(ad (az_n σ), az_E cA ad τ (az_n σ))] := by
  unfold az_ws
  rw [hn, List.range_succ, List.map_append]
  congr 1
  apply List.map_congr_left
  intro b hb
  rw [he b (by have := List.mem_range.mp hb; omega)]
theorem az_fv_ne {σ : az_S} {a b k j kd : Nat} {v : Int32} (h : b ≠ a) : az_fv (az_pi σ a k v) b j kd = az_fv σ b j kd := by
  unfold az_fv
  split <;> simp [az_i, az_l, az_r, az_sh, az_pi, az_pl, az_pr, az_up, va_up, h]
theorem az_fvl_ne {σ : az_S} {a b k j kd : Nat} {v : Int64} (h : b ≠ a) : az_fv (az_pl σ a k v) b j kd = az_fv σ b j kd := by
  unfold az_fv
  split <;> simp [az_i, az_l, az_r, az_sh, az_pi, az_pl, az_pr, az_up, va_up, h]
theorem az_fvr_ne {σ : az_S} {a b k j kd : Nat} {v : Option Nat} (h : b ≠ a) : az_fv (az_pr σ a k v) b j kd = az_fv σ b j kd := by
  unfold az_fv
  split <;> simp [az_i, az_l, az_r, az_sh, az_pi, az_pl, az_pr, az_up, va_up, h]
theorem az_E_pi {cA : Nat → ClassId} {ad : Nat → Nat} {σ : az_S} {a b k : Nat} {v : Int32} (h : b ≠ a) : az_E cA ad (az_pi σ a k v) b = az_E cA ad σ b := by
  unfold az_E
  simp only [az_fv_ne h]
  simp [az_i, az_l, az_r, az_sh, az_pi, az_pl, az_pr, az_up, va_up, h]
theorem az_E_pl {cA : Nat → ClassId} {ad : Nat → Nat} {σ : az_S} {a b k : Nat} {v : Int64} (h : b ≠ a) : az_E cA ad (az_pl σ a k v) b = az_E cA ad σ b := by
  unfold az_E
  simp only [az_fvl_ne h]
  simp [az_i, az_l, az_r, az_sh, az_pi, az_pl, az_pr, az_up, va_up, h]
theorem az_E_pr {cA : Nat → ClassId} {ad : Nat → Nat} {σ : az_S} {a b k : Nat} {v : Option Nat} (h : b ≠ a) : az_E cA ad (az_pr σ a k v) b = az_E cA ad σ b := by
  unfold az_E
  simp only [az_fvr_ne h]
  simp [az_i, az_l, az_r, az_sh, az_pi, az_pl, az_pr, az_up, va_up, h]
theorem az_E_nw {cA : Nat → ClassId} {ad : Nat → Nat} {σ : az_S} {b kd m : Nat} (h : b ≠ az_n σ) : az_E cA ad (az_nw σ kd m) b = az_E cA ad σ b := by
  have hf : ∀ j q, az_fv (az_nw σ kd m) b j q = az_fv σ b j q := by
    intro j q
    unfold az_fv
    split <;> simp [az_i, az_l, az_r, az_sh, az_nw, va_up, h]
  unfold az_E
  simp only [hf]
  simp [az_i, az_l, az_r, az_sh, az_nw, va_up, h]
/-- an object's fields with one of them set -/
theorem az_fs_set {N k : Nat} {f : Nat → Value} {v : Value} : ((List.range N).map f).set k v = (List.range N).map (fun j => if j = k then v else f j) := by
  apply List.ext_getElem?
  intro i
  by_cases hi : i < N
  · by_cases hik : i = k
    · subst hik
      rw [List.getElem?_set_self (by simp [hi])]
      simp [hi]
    · rw [List.getElem?_set_ne (Ne.symm hik)]
      simp [hi, hik]
  · rw [List.getElem?_eq_none (by simp; omega), List.getElem?_eq_none (by simp; omega)]
/-- which stores are sound: what has a kind of the world is in it; constants lie apart -/
def az_ok (σ : az_S) : Prop := (∀ a, (az_sh σ a).1 < 110 → a < az_n σ) ∧ az_n σ ≤ 1000000 ∧ (∀ a, a < 1000000 → (az_sh σ a).1 < 110 ∨ (az_sh σ a).1 = 999)
def az_lv (ad : Nat → Nat) (ls : Array Slot) (nL : Nat) (L : az_V) : Prop := ls.size = nL ∧ L.length = nL ∧ lv_wf ls ∧ ∀ i v, az_get L i = some v → ls[i]? = some (.val (az_tr ad v))
def az_ll (ad : Nat → Nat) (L : az_V) : List (Nat × Value) := (List.range L.length).filterMap (fun i => (az_get L i).map (fun v => (i, az_tr ad v)))
theorem az_get_lt {L : az_V} {i : Nat} {v : Value} (h : az_get L i = some v) : i < L.length := by
  unfold az_get at h
  by_cases hi : i < L.length
  · exact hi
  · rw [List.getElem?_eq_none (by omega)] at h
    cases h
theorem az_mem_ll {ad : Nat → Nat} {L : az_V} {q : Nat × Value} : q ∈ az_ll ad L ↔ ∃ v, az_get L q.1 = some v ∧ q.2 = az_tr ad v := by
  unfold az_ll
  rw [List.mem_filterMap]
  constructor
  · rintro ⟨i, _, hi⟩
    cases hg : az_get L i with
    | none => rw [hg] at hi; cases hi
    | some v => rw [hg] at hi; cases hi; exact ⟨v, hg, rfl⟩
  · rintro ⟨v, h1, h2⟩
    refine ⟨q.1, List.mem_range.mpr (az_get_lt h1), ?_⟩
    rw [h1, Option.map_some, ← h2]
theorem az_lv.has {ad : Nat → Nat} {ls : Array Slot} {nL : Nat} {L : az_V} (h : az_lv ad ls nL L) : lv_has ls nL (az_ll ad L) := by
  refine ⟨h.1, h.2.2.1, fun q hq => ?_⟩
  obtain ⟨v, h1, h2⟩ := az_mem_ll.mp hq
  rw [h2]
  exact h.2.2.2 q.1 v h1
theorem az_get_set {L : az_V} {i j : Nat} {u : Option Value} : az_get (L.set i u) j = if j = i ∧ i < L.length then u else az_get L j := by
  unfold az_get
  by_cases hij : j = i
  · subst hij
    by_cases hl : j < L.length
    · rw [List.getElem?_set_self hl]
      simp [hl]
    · simp [hl]
  · rw [List.getElem?_set_ne (Ne.symm hij)]
    simp [hij]
theorem az_kill_len (L : az_V) (i : Nat) : (az_kill L i).length = L.length := by
  cases i <;> simp [az_kill]
theorem az_kl_some {u : Option Value} {v : Value} (h : az_kl u = some v) : u = some v ∧ v.category = 1 := by
  unfold az_kl at h
  split at h
  · cases h
  · cases h
  · rename_i w h1 h2
    subst h
    refine ⟨rfl, ?_⟩
    cases v <;> first | rfl | exact absurd rfl (h1 _) | exact absurd rfl (h2 _)
theorem az_get_kill {L : az_V} {i j : Nat} {v : Value} (h : az_get (az_kill L i) j = some v) : az_get L j = some v ∧ (j + 1 = i → v.category = 1) := by
  cases i with
  | zero => exact ⟨h, fun e => by omega⟩
  | succ k =>
    unfold az_kill at h
    simp only at h
    rw [az_get_set] at h
    split at h
    · rename_i hc
      obtain ⟨h1, h2⟩ := az_kl_some h
      rw [hc.1]
      exact ⟨h1, fun _ => h2⟩
    · rename_i hc
      refine ⟨h, fun e => ?_⟩
      exact absurd ⟨by omega, by have := az_get_lt h; omega⟩ hc
theorem az_lv.put1 {ad : Nat → Nat} {ls ls' : Array Slot} {nL i : Nat} {L : az_V} {v : Value} (h : az_lv ad ls nL L) (h' : lv_has ls' nL ((i, az_tr ad v) :: (az_ll ad L).filter (fun q => !(q.1 == i) && !(q.1 + 1 == i && q.2.category == 2)))) : az_lv ad ls' nL (az_put1 L i v) := by
  refine ⟨h'.1, by simp [az_put1, az_kill_len, h.2.1], h'.2.1, fun j w hj => ?_⟩
  unfold az_put1 at hj
  rw [az_get_set] at hj
  split at hj
  · rename_i hc
    cases hj
    rw [hc.1]
    exact h'.2.2 (i, az_tr ad v) List.mem_cons_self
  · rename_i hc
    obtain ⟨h1, h2⟩ := az_get_kill hj
    have hji : j ≠ i := fun e => hc ⟨e, by rw [az_kill_len, ← e]; exact az_get_lt h1⟩
    refine h'.2.2 (j, az_tr ad w) (List.mem_cons_of_mem _ (List.mem_filter.mpr ⟨az_mem_ll.mpr ⟨w, h1, rfl⟩, ?_⟩))
    by_cases hq : j + 1 = i
    · simp [hji, hq, az_tr_cat, h2 hq]
    · simp [hji, hq]
theorem az_lv.put2 {ad : Nat → Nat} {ls ls' : Array Slot} {nL i : Nat} {L : az_V} {v : Value} (h : az_lv ad ls nL L) (h' : lv_has ls' nL ((i, az_tr ad v) :: (az_ll ad L).filter (fun q => !(q.1 == i) && (!(q.1 == i + 1) && !(q.1 + 1 == i && q.2.category == 2))))) : az_lv ad ls' nL (az_put2 L i v) := by
  refine ⟨h'.1, by simp [az_put2, az_kill_len, h.2.1], h'.2.1, fun j w hj => ?_⟩
  unfold az_put2 at hj
  rw [az_get_set] at hj
  split at hj
  · cases hj
  · rename_i hc2
    rw [az_get_set] at hj
    split at hj
    · rename_i hc
      cases hj
      rw [hc.1]
      exact h'.2.2 (i, az_tr ad v) List.mem_cons_self
    · rename_i hc
      obtain ⟨h1, h2⟩ := az_get_kill hj
      have hl := az_get_lt h1
      have hji : j ≠ i := fun e => hc ⟨e, by rw [az_kill_len, ← e]; exact hl⟩
      have hji2 : j ≠ i + 1 := fun e => hc2 ⟨e, by rw [List.length_set, az_kill_len, ← e]; exact hl⟩
      refine h'.2.2 (j, az_tr ad w) (List.mem_cons_of_mem _ (List.mem_filter.mpr ⟨az_mem_ll.mpr ⟨w, h1, rfl⟩, ?_⟩))
      by_cases hq : j + 1 = i
      · simp [hji, hji2, hq, az_tr_cat, h2 hq]
      · simp [hji, hji2, hq]
end
section
/-! WHAT THE TABLES SAY OF THE CLASSES whose objects the world holds -/
def az_G : List Cond := lw_tbl.filter goodWord
theorem az_Gof {i : Nat} {w : Cond} (h : lw_tbl[i]? = some w) (g : goodWord w = true) : w ∈ az_G := List.mem_filter.mpr ⟨List.mem_of_getElem? h, g⟩
theorem az_Gin {ws : List Cond} (ps : List Nat) (hp : ws = ps.filterMap (fun i => lw_tbl[i]?)) (hg : ws.all goodWord = true) : ∀ w ∈ ws, w ∈ az_G := by
  intro w hw
  have g := List.all_eq_true.mp hg w hw
  rw [hp] at hw
  obtain ⟨i, -, hi⟩ := List.mem_filterMap.mp hw
  exact az_Gof hi g
abbrev vwCl : List vw_C := [(RJx4a65c, TJx4a65c, 3), (RX0, TX0, 12), (RX1, TX1, 3), (RX2, TX2, 6), (RX3, TX3, 2), (RX4, TX4, 9), (RX5, TX5, 7), (RX6, TX6, 4), (RX7, TX7, 3), (RX8, TX8, 6), (RX9, TX9, 7), (RX10, TX10, 14), (RX11, TX11, 18), (RX12, TX12, 90)]
def az_tyc (ci : Nat) (k : Nat) : FieldType := match ci with
  | 0 => tyJx4a65c k
  | 1 => tyX0 k
  | 2 => tyX1 k
  | 3 => tyX2 k
  | 4 => tyX3 k
  | 5 => tyX4 k
  | 6 => tyX5 k
  | 7 => tyX6 k
  | 8 => tyX7 k
  | 9 => tyX8 k
  | 10 => tyX9 k
  | 11 => tyX10 k
  | 12 => tyX11 k
  | 13 => tyX12 k
  | _ => .int
/-- a field's type by its kind -/
def az_tk (kd : Nat) (ty : FieldType) : Bool := match kd with
  | 0 => decide (ty = .int)
  | 1 => decide (ty = .long)
  | _ => match ty with
    | .object _ => true
    | .array _ => true
    | _ => false

set_option maxRecDepth 20000 in
theorem az_in0 : ∀ w ∈ u_ws RJx4a65c TJx4a65c 3, w ∈ az_G := az_Gin [176, 172, 174] (by decide +kernel) (by decide +kernel)
theorem az_tyk0 : ∀ k, k < 3 → az_tk (az_ft 0 k) (tyJx4a65c k) = true := by decide +kernel
set_option maxRecDepth 20000 in
theorem az_in1 : ∀ w ∈ u_ws RX0 TX0 12, w ∈ az_G := az_Gin [766, 768, 770, 772, 774, 776, 778, 780, 782, 784, 786, 788] (by decide +kernel) (by decide +kernel)
theorem az_tyk1 : ∀ k, k < 12 → az_tk (az_ft 1 k) (tyX0 k) = true := by decide +kernel
set_option maxRecDepth 20000 in
theorem az_in2 : ∀ w ∈ u_ws RX1 TX1 3, w ∈ az_G := az_Gin [258, 260, 262] (by decide +kernel) (by decide +kernel)
theorem az_tyk2 : ∀ k, k < 3 → az_tk (az_ft 2 k) (tyX1 k) = true := by decide +kernel
set_option maxRecDepth 20000 in
theorem az_in3 : ∀ w ∈ u_ws RX2 TX2 6, w ∈ az_G := az_Gin [344, 346, 348, 350, 352, 354] (by decide +kernel) (by decide +kernel)
theorem az_tyk3 : ∀ k, k < 6 → az_tk (az_ft 3 k) (tyX2 k) = true := by decide +kernel
set_option maxRecDepth 20000 in
theorem az_in4 : ∀ w ∈ u_ws RX3 TX3 2, w ∈ az_G := az_Gin [463, 465] (by decide +kernel) (by decide +kernel)
theorem az_tyk4 : ∀ k, k < 2 → az_tk (az_ft 4 k) (tyX3 k) = true := by decide +kernel
set_option maxRecDepth 20000 in
theorem az_in5 : ∀ w ∈ u_ws RX4 TX4 9, w ∈ az_G := az_Gin [311, 313, 315, 317, 319, 321, 323, 325, 327] (by decide +kernel) (by decide +kernel)
theorem az_tyk5 : ∀ k, k < 9 → az_tk (az_ft 5 k) (tyX4 k) = true := by decide +kernel
set_option maxRecDepth 20000 in
theorem az_in6 : ∀ w ∈ u_ws RX5 TX5 7, w ∈ az_G := az_Gin [279, 281, 283, 285, 287, 289, 291] (by decide +kernel) (by decide +kernel)
theorem az_tyk6 : ∀ k, k < 7 → az_tk (az_ft 6 k) (tyX5 k) = true := by decide +kernel
set_option maxRecDepth 20000 in
theorem az_in7 : ∀ w ∈ u_ws RX6 TX6 4, w ∈ az_G := az_Gin [143, 145, 147, 149] (by decide +kernel) (by decide +kernel)
theorem az_tyk7 : ∀ k, k < 4 → az_tk (az_ft 7 k) (tyX6 k) = true := by decide +kernel
set_option maxRecDepth 20000 in
theorem az_in8 : ∀ w ∈ u_ws RX7 TX7 3, w ∈ az_G := az_Gin [1167, 1169, 1171] (by decide +kernel) (by decide +kernel)
theorem az_tyk8 : ∀ k, k < 3 → az_tk (az_ft 8 k) (tyX7 k) = true := by decide +kernel
set_option maxRecDepth 20000 in
theorem az_in9 : ∀ w ∈ u_ws RX8 TX8 6, w ∈ az_G := az_Gin [192, 194, 196, 198, 200, 202] (by decide +kernel) (by decide +kernel)
theorem az_tyk9 : ∀ k, k < 6 → az_tk (az_ft 9 k) (tyX8 k) = true := by decide +kernel
set_option maxRecDepth 20000 in
theorem az_in10 : ∀ w ∈ u_ws RX9 TX9 7, w ∈ az_G := az_Gin [220, 222, 224, 226, 228, 230, 232] (by decide +kernel) (by decide +kernel)
theorem az_tyk10 : ∀ k, k < 7 → az_tk (az_ft 10 k) (tyX9 k) = true := by decide +kernel
set_option maxRecDepth 20000 in
theorem az_in11 : ∀ w ∈ u_ws RX10 TX10 14, w ∈ az_G := az_Gin [607, 609, 611, 613, 615, 617, 619, 621, 623, 625, 627, 629, 631, 633] (by decide +kernel) (by decide +kernel)
theorem az_tyk11 : ∀ k, k < 14 → az_tk (az_ft 11 k) (tyX10 k) = true := by decide +kernel
set_option maxRecDepth 20000 in
theorem az_in12 : ∀ w ∈ u_ws RX11 TX11 18, w ∈ az_G := az_Gin [375, 377, 379, 381, 383, 385, 387, 389, 391, 393, 395, 397, 399, 401, 403, 405, 407, 409] (by decide +kernel) (by decide +kernel)
theorem az_tyk12 : ∀ k, k < 18 → az_tk (az_ft 12 k) (tyX11 k) = true := by decide +kernel
set_option maxRecDepth 20000 in
theorem az_in13 : ∀ w ∈ u_ws RX12 TX12 90, w ∈ az_G := az_Gin [1422, 1424, 1426, 1428, 1430, 1432, 1434, 1436, 1438, 1440, 1442, 1444, 1446, 1448, 1450, 1452, 1454, 1456, 1458, 1460, 1462, 1464, 1466, 1468, 1470, 1472, 1474, 1476, 1478, 1480, 1482, 1484, 1486, 1488, 1490, 1492, 1494, 1496, 1498, 1500, 1502, 1504, 1506, 1508, 1510, 1512, 1514, 1516, 1518, 1520, 1522, 1524, 1526, 1528, 1530, 1532, 1534, 1536, 1538, 1540, 1542, 1544, 1546, 1548, 1550, 1552, 1554, 1556, 1558, 1560, 1562, 1564, 1566, 1568, 1570, 1572, 1574, 1576, 1578, 1580, 1582, 1584, 1586, 1588, 1590, 1592, 1594, 1596, 1598, 1600] (by decide +kernel) (by decide +kernel)
theorem az_tyk13 : ∀ k, k < 90 → az_tk (az_ft 13 k) (tyX12 k) = true := by decide +kernel
theorem az_cin : ∀ (ci : Nat) (q : vw_C), vwCl[ci]? = some q → ∀ w ∈ u_ws q.1 q.2.1 q.2.2, w ∈ az_G := by
  intro ci q hq
  match ci, hq with
  | 0, hq => cases hq; exact az_in0
  | 1, hq => cases hq; exact az_in1
  | 2, hq => cases hq; exact az_in2
  | 3, hq => cases hq; exact az_in3
  | 4, hq => cases hq; exact az_in4
  | 5, hq => cases hq; exact az_in5
  | 6, hq => cases hq; exact az_in6
  | 7, hq => cases hq; exact az_in7
  | 8, hq => cases hq; exact az_in8
  | 9, hq => cases hq; exact az_in9
  | 10, hq => cases hq; exact az_in10
  | 11, hq => cases hq; exact az_in11
  | 12, hq => cases hq; exact az_in12
  | 13, hq => cases hq; exact az_in13
  | k + 14, hq => simp [vwCl] at hq

theorem az_cty : ∀ (ci : Nat) (q : vw_C), vwCl[ci]? = some q → ∀ k, k < q.2.2 → parseFieldDescriptor (q.2.1 k).2.2.1 = some (az_tyc ci k) := by
  intro ci q hq
  match ci, hq with
  | 0, hq => cases hq; exact tyJx4a65c_ok
  | 1, hq => cases hq; exact tyX0_ok
  | 2, hq => cases hq; exact tyX1_ok
  | 3, hq => cases hq; exact tyX2_ok
  | 4, hq => cases hq; exact tyX3_ok
  | 5, hq => cases hq; exact tyX4_ok
  | 6, hq => cases hq; exact tyX5_ok
  | 7, hq => cases hq; exact tyX6_ok
  | 8, hq => cases hq; exact tyX7_ok
  | 9, hq => cases hq; exact tyX8_ok
  | 10, hq => cases hq; exact tyX9_ok
  | 11, hq => cases hq; exact tyX10_ok
  | 12, hq => cases hq; exact tyX11_ok
  | 13, hq => cases hq; exact tyX12_ok
  | k + 14, hq => simp [vwCl] at hq

theorem az_cnm : ∀ (ci : Nat) (q : vw_C), vwCl[ci]? = some q → ∀ a, a < q.2.2 → ∀ b, b < q.2.2 → a ≠ b → (q.2.1 a).2.1 ≠ (q.2.1 b).2.1 := by
  intro ci q hq
  match ci, hq with
  | 0, hq => cases hq; exact nmJx4a65c
  | 1, hq => cases hq; exact nmX0
  | 2, hq => cases hq; exact nmX1
  | 3, hq => cases hq; exact nmX2
  | 4, hq => cases hq; exact nmX3
  | 5, hq => cases hq; exact nmX4
  | 6, hq => cases hq; exact nmX5
  | 7, hq => cases hq; exact nmX6
  | 8, hq => cases hq; exact nmX7
  | 9, hq => cases hq; exact nmX8
  | 10, hq => cases hq; exact nmX9
  | 11, hq => cases hq; exact nmX10
  | 12, hq => cases hq; exact nmX11
  | 13, hq => cases hq; exact nmX12
  | k + 14, hq => simp [vwCl] at hq

theorem az_ctk : ∀ (ci : Nat) (q : vw_C), vwCl[ci]? = some q → ∀ k, k < q.2.2 → az_tk (az_ft ci k) (az_tyc ci k) = true := by
  intro ci q hq
  match ci, hq with
  | 0, hq => cases hq; exact az_tyk0
  | 1, hq => cases hq; exact az_tyk1
  | 2, hq => cases hq; exact az_tyk2
  | 3, hq => cases hq; exact az_tyk3
  | 4, hq => cases hq; exact az_tyk4
  | 5, hq => cases hq; exact az_tyk5
  | 6, hq => cases hq; exact az_tyk6
  | 7, hq => cases hq; exact az_tyk7
  | 8, hq => cases hq; exact az_tyk8
  | 9, hq => cases hq; exact az_tyk9
  | 10, hq => cases hq; exact az_tyk10
  | 11, hq => cases hq; exact az_tyk11
  | 12, hq => cases hq; exact az_tyk12
  | 13, hq => cases hq; exact az_tyk13
  | k + 14, hq => simp [vwCl] at hq

theorem az_cnf : ∀ (ci : Nat) (q : vw_C), vwCl[ci]? = some q → az_nf ci = q.2.2 := by
  intro ci q hq
  match ci, hq with
  | 0, hq => cases hq; exact rfl
  | 1, hq => cases hq; exact rfl
  | 2, hq => cases hq; exact rfl
  | 3, hq => cases hq; exact rfl
  | 4, hq => cases hq; exact rfl
  | 5, hq => cases hq; exact rfl
  | 6, hq => cases hq; exact rfl
  | 7, hq => cases hq; exact rfl
  | 8, hq => cases hq; exact rfl
  | 9, hq => cases hq; exact rfl
  | 10, hq => cases hq; exact rfl
  | 11, hq => cases hq; exact rfl
  | 12, hq => cases hq; exact rfl
  | 13, hq => cases hq; exact rfl
  | k + 14, hq => simp [vwCl] at hq

theorem az_clt : ∀ ci, ci < 14 → ∃ q, vwCl[ci]? = some q := by
  intro ci h
  exact ⟨_, List.getElem?_eq_getElem (by simpa [vwCl] using h)⟩

theorem az_cast0 : Cond.castable RJx4a65c "java/lang/Object" ∈ lw_tbl := List.mem_of_getElem? (i := 2009) (by decide +kernel)
theorem az_cast1 : Cond.castable RX0 "java/lang/Object" ∈ lw_tbl := List.mem_of_getElem? (i := 2019) (by decide +kernel)
theorem az_cast2 : Cond.castable RX1 "java/lang/Object" ∈ lw_tbl := List.mem_of_getElem? (i := 2012) (by decide +kernel)
theorem az_cast3 : Cond.castable RX2 "java/lang/Object" ∈ lw_tbl := List.mem_of_getElem? (i := 2015) (by decide +kernel)
theorem az_cast4 : Cond.castable RX3 "java/lang/Object" ∈ lw_tbl := List.mem_of_getElem? (i := 2017) (by decide +kernel)
theorem az_cast5 : Cond.castable RX4 "java/lang/Object" ∈ lw_tbl := List.mem_of_getElem? (i := 2014) (by decide +kernel)
theorem az_cast6 : Cond.castable RX5 "java/lang/Object" ∈ lw_tbl := List.mem_of_getElem? (i := 2013) (by decide +kernel)
theorem az_cast7 : Cond.castable RX6 "java/lang/Object" ∈ lw_tbl := List.mem_of_getElem? (i := 2008) (by decide +kernel)
theorem az_cast8 : Cond.castable RX7 "java/lang/Object" ∈ lw_tbl := List.mem_of_getElem? (i := 2020) (by decide +kernel)
theorem az_cast9 : Cond.castable RX8 "java/lang/Object" ∈ lw_tbl := List.mem_of_getElem? (i := 2010) (by decide +kernel)
theorem az_cast10 : Cond.castable RX9 "java/lang/Object" ∈ lw_tbl := List.mem_of_getElem? (i := 2011) (by decide +kernel)
theorem az_cast11 : Cond.castable RX10 "java/lang/Object" ∈ lw_tbl := List.mem_of_getElem? (i := 2018) (by decide +kernel)
theorem az_cast12 : Cond.castable RX11 "java/lang/Object" ∈ lw_tbl := List.mem_of_getElem? (i := 2007) (by decide +kernel)
theorem az_cast13 : Cond.castable RX12 "java/lang/Object" ∈ lw_tbl := List.mem_of_getElem? (i := 2016) (by decide +kernel)
theorem az_ccast : ∀ (ci : Nat) (q : vw_C), vwCl[ci]? = some q → Cond.castable q.1 "java/lang/Object" ∈ lw_tbl := by
  intro ci q hq
  match ci, hq with
  | 0, hq => cases hq; exact az_cast0
  | 1, hq => cases hq; exact az_cast1
  | 2, hq => cases hq; exact az_cast2
  | 3, hq => cases hq; exact az_cast3
  | 4, hq => cases hq; exact az_cast4
  | 5, hq => cases hq; exact az_cast5
  | 6, hq => cases hq; exact az_cast6
  | 7, hq => cases hq; exact az_cast7
  | 8, hq => cases hq; exact az_cast8
  | 9, hq => cases hq; exact az_cast9
  | 10, hq => cases hq; exact az_cast10
  | 11, hq => cases hq; exact az_cast11
  | 12, hq => cases hq; exact az_cast12
  | 13, hq => cases hq; exact az_cast13
  | k + 14, hq => simp [vwCl] at hq
end
section
/-! WHAT HOLDS IN A FRAME of the machine that runs beside the abstract one -/
def az_isN (w : Cond) : Bool := match w with
  | .fieldLinkNest .. => true
  | .methodLinkNest .. => true
  | .castable .. => true
  | _ => false
def az_ss : List (String × Nat × String × Nat) := [("ShadeRegister$Tape", 75, "hour", 1000010), ("ShadeRegister$Tape", 81, "month", 1000011), ("ShadeRegister$Tape", 83, "day", 1000012), ("ShadeRegister$Tape", 85, "height", 1000013), ("ShadeRegister$Tape", 87, "many", 1000014), ("ShadeRegister$Tape", 89, "kind", 1000015), ("ShadeRegister$Tape", 91, "thing", 1000016), ("ShadeRegister$Tape", 93, "stall", 1000017), ("ShadeRegister$Tape", 95, "when", 1000018), ("ShadeRegister$Tape", 97, "give", 1000019), ("ShadeRegister$Tape", 99, "or", 1000020), ("ShadeRegister$Tape", 101, "and", 1000021), ("ShadeRegister$Tape", 103, "not", 1000022), ("ShadeRegister$Tape", 105, "min", 1000023), ("ShadeRegister$Tape", 106, "max", 1000024)]
def az_st : List (String × String × String × Nat) := [("java/util/ArrayList", "DEFAULTCAPACITY_EMPTY_ELEMENTDATA", "[Ljava/lang/Object;", 2), ("ShadeRegister$Route", "STEPS_X", "[I", 2), ("ShadeRegister$Route", "STEPS_Y", "[I", 2), ("jdk/internal/util/Preconditions", "SIOOBE_FORMATTER", "Ljava/util/function/BiFunction;", 2), ("java/lang/String", "COMPACT_STRINGS", "Z", 0)]
def az_Kx (D : va_G) (cA : Nat → ClassId) (cs : Nat → Nat) (s : State) : Prop :=
  va_K D vwCl (az_tys cA) s ∧ (∀ w ∈ lw_tbl, az_isN w = true → va_Nw w s) ∧ va_AO "java/lang/Object" s ∧ va_Mi "[Ljava/lang/Object;" (cs 1000005) s ∧ va_Dc s ∧ ∀ q ∈ az_ss, vk_R q.1 q.2.1 q.2.2.1 (cs q.2.2.2) s
theorem az_Kx.warm {D : va_G} {cA : Nat → ClassId} {cs : Nat → Nat} {s U : State} (hW : s.WarmedH U.vm) (h : az_Kx D cA cs s) : az_Kx D cA cs U := by
  obtain ⟨h1, h2, h3, h4, h5, h6⟩ := h
  refine ⟨va_K.moved hW.alike h1, fun w hw hN => ?_, h3.moved hW.alike, h4.moved hW.alike, h5.moved hW.alike, fun q hq => (h6 q hq).warm hW⟩
  have h := h2 w hw hN
  cases w <;> first | exact va_Nw.warmF hW h | exact va_Nw.warmM hW h | exact va_Nw.warmC hW h | (simp [az_isN] at hN)
theorem az_Kx.same {D : va_G} {cA : Nat → ClassId} {cs : Nat → Nat} {s U : State} (hv : s.vm = U.vm) (h : az_Kx D cA cs s) : az_Kx D cA cs U := by
  obtain ⟨h1, h2, h3, h4, h5, h6⟩ := h
  have hA : s.vm.Alike U.vm := by rw [hv]; exact Vm.Alike.refl U.vm
  refine ⟨va_K.moved hA h1, fun w hw hN => ?_, h3.moved hA, h4.moved hA, h5.moved hA, fun q hq => (h6 q hq).same hv.symm⟩
  refine va_Nw.same ?_ hv (h2 w hw hN)
  cases w <;> first | rfl | (simp [az_isN] at hN)
/-- the constants that nobody writes -/
def az_C (base : Nat) (cs : Nat → Nat) (σ : az_S) (U : State) : Prop :=
  (∀ a, (az_sh σ a).1 = 110 → va_T .int (cs a) (az_sh σ a).2 (fun j => .int (az_i σ a j)) (fun q => base ≤ q) U U.heap) ∧
  (∀ a, (az_sh σ a).1 = 111 → va_T (.object "java/lang/Object") (cs a) (az_sh σ a).2 (fun _ => .null) (fun q => base ≤ q) U U.heap) ∧
  (∀ a, (az_sh σ a).1 = 112 → va_T .byte (cs a) (az_sh σ a).2 (fun j => .int (az_i σ a j)) (fun q => base ≤ q) U U.heap) ∧
  (∀ a, (az_sh σ a).1 = 113 → va_OF "java/lang/String" "value" "[B" (az_tr (az_ad base cs) (va_rf (az_r σ a 0))) (cs a) (fun q => base ≤ q) U U.heap ∧ va_OF "java/lang/String" "coder" "B" (.int (az_i σ a 1)) (cs a) (fun q => base ≤ q) U U.heap ∧ va_O "java/lang/String" (cs a) (fun q => base ≤ q) U U.heap) ∧
  (az_sh σ 1000007).1 = 115 ∧ ∀ (k : Nat) (q : String × String × String × Nat), az_st[k]? = some q → va_Z q.1 q.2.1 q.2.2.1 (az_tr (az_ad base cs) (az_fv σ 1000007 k q.2.2.2)) (fun q => base ≤ q) U U.heap
theorem az_C.to {base : Nat} {cs : Nat → Nat} {σ : az_S} {u U : State} (hA : u.vm.Alike U.vm) (hh : ∀ q, q < u.heap.size → ¬ base ≤ q → U.heap[q]? = u.heap[q]?) (h : az_C base cs σ u) : az_C base cs σ U := by
  obtain ⟨h1, h2, h3, h4, h5, h6⟩ := h
  exact ⟨fun a k => ((h1 a k).moved hA).kept hh, fun a k => ((h2 a k).moved hA).kept hh, fun a k => ((h3 a k).moved hA).kept hh, fun a k => ⟨((h4 a k).1.moved hA).kept hh, ((h4 a k).2.1.moved hA).kept hh, ((h4 a k).2.2.moved hA).kept hh⟩, h5, fun k q hq => ((h6 k q hq).moved hA).kept hh⟩
theorem az_C.upd {base : Nat} {cs : Nat → Nat} {σ τ : az_S} {U : State} (hs : ∀ b, (110 ≤ (az_sh σ b).1 ∧ (az_sh σ b).1 ≤ 120) ∨ (110 ≤ (az_sh τ b).1 ∧ (az_sh τ b).1 ≤ 120) → az_sh τ b = az_sh σ b ∧ az_i τ b = az_i σ b ∧ az_r τ b = az_r σ b) (h : az_C base cs σ U) : az_C base cs τ U := by
  obtain ⟨h1, h2, h3, h4, h5, h6⟩ := h
  refine ⟨fun a k => ?_, fun a k => ?_, fun a k => ?_, fun a k => ?_, ?_, fun k q hq => ?_⟩
  · obtain ⟨e1, e2, -⟩ := hs a (Or.inr (by omega))
    rw [e1, e2]; exact h1 a (by rw [← e1]; exact k)
  · obtain ⟨e1, e2, -⟩ := hs a (Or.inr (by omega))
    rw [e1]; exact h2 a (by rw [← e1]; exact k)
  · obtain ⟨e1, e2, -⟩ := hs a (Or.inr (by omega))
    rw [e1, e2]; exact h3 a (by rw [← e1]; exact k)
  · obtain ⟨e1, e2, e3⟩ := hs a (Or.inr (by omega))
    rw [e2, e3]; exact h4 a (by rw [← e1]; exact k)
  · obtain ⟨e1, -, -⟩ := hs 1000007 (Or.inl (by omega))
    rw [e1]; exact h5
  · obtain ⟨e1, e2, e3⟩ := hs 1000007 (Or.inl (by omega))
    have hkd : q.2.2.2 = 0 ∨ q.2.2.2 = 2 := by
      match k, hq with
      | 0, hq => cases hq; exact Or.inr rfl
      | 1, hq => cases hq; exact Or.inr rfl
      | 2, hq => cases hq; exact Or.inr rfl
      | 3, hq => cases hq; exact Or.inr rfl
      | 4, hq => cases hq; exact Or.inl rfl
      | k + 5, hq => simp [az_st] at hq
    have h := h6 k q hq
    have e : az_fv τ 1000007 k q.2.2.2 = az_fv σ 1000007 k q.2.2.2 := by
      rcases hkd with e | e <;> rw [e] <;> simp [az_fv, e2, e3]
    rw [e]
    exact h
def az_Rl (D : va_G) (cA : Nat → ClassId) (base : Nat) (cs : Nat → Nat) (s : State) (nL n0 s0 : Nat) (σ : az_S) (L : az_V) (H : Heap) (locs : List Loc) (ls : Array Slot) : Prop :=
  va_P D vwCl (az_ws cA (az_ad base cs) σ) H ∧ H.size = base + az_n σ ∧ va_S (fun q => base ≤ q) s.heap H locs ∧ az_ok σ ∧ az_C base cs σ s ∧ az_lv (az_ad base cs) ls nL L ∧ n0 ≤ az_n σ ∧ s0 ≤ az_sl σ
def az_Cx (D : va_G) (cA : Nat → ClassId) (base : Nat) (cs : Nat → Nat) (p : Program) (s : State) (m : MethodId) (args : Array Value) (c : Code) (cc : ByteArray) (own : String) : Prop :=
  p.tables.exec = Jvm.exec ∧ c.code = cc ∧ s.vm.findClass own = some m.cls ∧ (∀ w ∈ az_G, w.before args s = true) ∧ az_Kx D cA cs s ∧ base ≤ s.heap.size
/-- how a field is linked -/
def az_fl (own : String) (i : Nat) (q : vw_C) (k : Nat) : Prop := (Cond.fieldLink own i (q.2.1 k).1 (q.2.1 k).2.1 (q.2.1 k).2.2.1 ∈ az_G) ∨ (∃ h, Cond.fieldLinkNest own i (q.2.1 k).1 (q.2.1 k).2.1 (q.2.1 k).2.2.1 h ∈ lw_tbl) ∨ (∃ ref, Cond.fieldLink own i ref (q.2.1 k).2.1 (q.2.1 k).2.2.1 ∈ az_G ∧ Cond.sameField ref (q.2.1 k).1 (q.2.1 k).2.1 (q.2.1 k).2.2.1 ∈ az_G)
/-- what the tables must say of an instruction and of what is written beside it -/
def az_link (own nm : String) (ins : Instr) (aux : List Nat) : Prop := match ins with
  | .getfield i => (∃ ci k q, aux = [ci, k] ∧ vwCl[ci]? = some q ∧ k < q.2.2 ∧ az_fl own i q k) ∨ (aux = [113, 0] ∧ Cond.fieldLink own i "java/lang/String" "value" "[B" ∈ az_G) ∨ (aux = [113, 1] ∧ Cond.fieldLink own i "java/lang/String" "coder" "B" ∈ az_G)
  | .putfield i => ∃ ci k q, aux = [ci, k] ∧ vwCl[ci]? = some q ∧ k < q.2.2 ∧ (((q.2.1 k).2.2.2 = false ∧ az_fl own i q k) ∨ ((q.2.1 k).2.2.2 = true ∧ nm = "<init>" ∧ (q.2.1 k).1 = own ∧ Cond.fieldLink own i (q.2.1 k).1 (q.2.1 k).2.1 (q.2.1 k).2.2.1 ∈ az_G))
  | .new i => ∃ ci q, aux = [ci] ∧ vwCl[ci]? = some q ∧ Cond.classLink own i q.1 ∈ az_G ∧ Cond.instantiable q.1 q.2.2 ∈ az_G ∧ Cond.initialized q.1 ∈ az_G
  | .checkcast i => ∃ ci q, aux = [ci] ∧ vwCl[ci]? = some q ∧ Cond.classLink own i q.1 ∈ az_G
  | .anewarray i => Cond.classLink own i "java/lang/Object" ∈ az_G
  | .newarray t => Cond.arrayClass (newarray.typeOf t) ∈ az_G
  | .getstatic i => ∃ k kd q, aux = [k, kd] ∧ az_st[k]? = some q ∧ q.2.2.2 = kd ∧ Cond.fieldLink own i q.1 q.2.1 q.2.2.1 ∈ az_G
  | .ldc i => (∃ v, aux = [0, v] ∧ Cond.constant own i (Int32.ofNat v) ∈ az_G) ∨ (aux = [1, 1000005] ∧ Cond.classLink own i "[Ljava/lang/Object;" ∈ az_G) ∨ (∃ q ∈ az_ss, q.1 = own ∧ q.2.1 = i ∧ aux = [1, q.2.2.2])
  | .ldc_w i => ∃ v, aux = [0, v] ∧ Cond.constant own i (Int32.ofNat v) ∈ az_G
  | .ldc2_w i => ∃ v, aux = [v] ∧ Cond.constantLong own i (Int64.ofNat v) ∈ az_G
  | _ => True
/-- how long an instruction is -/
def az_il (ins : Instr) : Nat := match ins with
  | .bipush _ => 2
  | .sipush _ => 3
  | .iload _ => 2
  | .lload _ => 2
  | .aload _ => 2
  | .istore _ => 2
  | .lstore _ => 2
  | .astore _ => 2
  | .iinc _ _ => 3
  | .goto _ => 3
  | .ifCond _ _ => 3
  | .if_icmp _ _ => 3
  | .if_acmp _ _ => 3
  | .ifnull _ => 3
  | .ldc _ => 2
  | .ldc_w _ => 3
  | .ldc2_w _ => 3
  | .getstatic _ => 3
  | .getfield _ => 3
  | .putfield _ => 3
  | .newarray _ => 2
  | .anewarray _ => 3
  | .new _ => 3
  | .checkcast _ => 3
  | .invokevirtual _ => 3
  | .invokestatic _ => 3
  | .invokespecial _ => 3
  | .tableswitch _ _ _ _ => 0
  | .lookupswitch _ _ => 0
  | _ => 1
/-- a jump lands in the code -/
def az_jok (pc : Nat) (ins : Instr) : Prop := match ins with
  | .goto off => 0 ≤ (pc : Int) + off
  | .ifCond _ off => 0 ≤ (pc : Int) + off
  | .if_icmp _ off => 0 ≤ (pc : Int) + off
  | .if_acmp _ off => 0 ≤ (pc : Int) + off
  | .ifnull off => 0 ≤ (pc : Int) + off
  | .tableswitch d _ _ offs => 0 ≤ (pc : Int) + d ∧ offs.toList.all (fun o => decide (0 ≤ (pc : Int) + o)) = true
  | .lookupswitch d ps => 0 ≤ (pc : Int) + d ∧ ps.toList.all (fun o => decide (0 ≤ (pc : Int) + o.2)) = true
  | _ => True
end
section
/-! ONE STEP: where the abstract machine goes on, the machine goes on -/
theorem az_jt {pc : Nat} {off : Int} (h : 0 ≤ (pc : Int) + off) : (pc : Int) + off = ((az_j pc off : Nat) : Int) := by
  unfold az_j
  omega
theorem az_ad_lt {base : Nat} {cs : Nat → Nat} {a : Nat} (h : a < 1000000) : az_ad base cs a = base + a := by simp [az_ad, h]
theorem az_ad_ge {base : Nat} {cs : Nat → Nat} {a : Nat} (h : ¬ a < 1000000) : az_ad base cs a = cs a := by simp [az_ad, h]
theorem az_E_obj {cA : Nat → ClassId} {ad : Nat → Nat} {σ : az_S} {a ci : Nat} (h : (az_sh σ a).1 = ci) (hc : ci < 14) : az_E cA ad σ a = .inr (ci, (List.range (az_nf ci)).map (fun k => az_tr ad (az_fv σ a k (az_ft ci k)))) := by
  unfold az_E
  rw [h, if_pos hc]
theorem az_E_int {cA : Nat → ClassId} {ad : Nat → Nat} {σ : az_S} {a kd : Nat} (h : (az_sh σ a).1 = kd) (hc : kd = 100 ∨ kd = 101 ∨ kd = 102) : az_E cA ad σ a = .inl (cA kd, (az_sh σ a).2, .inl (az_i σ a)) := by
  unfold az_E
  rw [h, if_neg (by omega), if_neg (by omega), if_neg (by omega)]
theorem az_E_long {cA : Nat → ClassId} {ad : Nat → Nat} {σ : az_S} {a : Nat} (h : (az_sh σ a).1 = 103) : az_E cA ad σ a = .inl (cA 103, (az_sh σ a).2, .inr (.inl (az_l σ a))) := by
  unfold az_E
  rw [h, if_neg (by omega), if_pos rfl]
theorem az_E_ref {cA : Nat → ClassId} {ad : Nat → Nat} {σ : az_S} {a : Nat} (h : (az_sh σ a).1 = 104) : az_E cA ad σ a = .inl (cA 104, (az_sh σ a).2, .inr (.inr (.inr (.inr (fun j => (az_r σ a j).map ad))))) := by
  unfold az_E
  rw [h, if_neg (by omega), if_neg (by omega), if_pos rfl]
theorem az_ok.lt {σ : az_S} {a : Nat} (h : az_ok σ) (hk : (az_sh σ a).1 < 110) : a < az_n σ ∧ a < 1000000 := by
  have := h.1 a hk
  have := h.2.1
  omega
theorem az_ok.ge {σ : az_S} {a : Nat} (h : az_ok σ) (hk : 110 ≤ (az_sh σ a).1 ∧ (az_sh σ a).1 ≤ 120) : ¬ a < 1000000 := by
  intro q
  have := h.2.2 a q
  omega
theorem az_upd_i {α : Type} {f : Nat → Nat → α} {a k : Nat} {v : α} : az_up f a k v a = va_up (f a) k v := by simp [az_up, va_up]
theorem az_ok.pi {σ : az_S} {a k : Nat} {v : Int32} (h : az_ok σ) : az_ok (az_pi σ a k v) := h
theorem az_ok.pl {σ : az_S} {a k : Nat} {v : Int64} (h : az_ok σ) : az_ok (az_pl σ a k v) := h
theorem az_ok.pr {σ : az_S} {a k : Nat} {v : Option Nat} (h : az_ok σ) : az_ok (az_pr σ a k v) := h
theorem az_ok.nw {σ : az_S} {kd m : Nat} (h : az_ok σ) (hn : az_n σ < 1000000) (hk : kd < 110) : az_ok (az_nw σ kd m) := by
  refine ⟨fun a ha => ?_, hn, fun a ha => ?_⟩
  · by_cases e : a = az_n σ
    · subst e; exact Nat.lt_succ_self _
    · have h1 : (az_sh (az_nw σ kd m) a).1 = (az_sh σ a).1 := by simp [az_sh, az_nw, va_up, e]
      rw [h1] at ha
      exact Nat.lt_succ_of_lt (h.1 a ha)
  · by_cases e : a = az_n σ
    · subst e
      left
      show (va_up σ.2.2.1 σ.1 (kd, m) σ.1).1 < 110
      simp [va_up, hk]
    · have h1 : (az_sh (az_nw σ kd m) a).1 = (az_sh σ a).1 := by simp [az_sh, az_nw, va_up, e]
      rw [h1]
      exact h.2.2 a ha
theorem az_C.pi {base : Nat} {cs : Nat → Nat} {σ : az_S} {U : State} {a k : Nat} {v : Int32} (h : az_C base cs σ U) (hk : (az_sh σ a).1 < 110) : az_C base cs (az_pi σ a k v) U := by
  refine h.upd fun b hb => ?_
  have hb' : 110 ≤ (az_sh σ b).1 := by rcases hb with h | h <;> exact h.1
  have e : b ≠ a := fun e => by subst e; omega
  simp [az_sh, az_i, az_r, az_up, va_up, e]
theorem az_C.pl {base : Nat} {cs : Nat → Nat} {σ : az_S} {U : State} {a k : Nat} {v : Int64} (h : az_C base cs σ U) : az_C base cs (az_pl σ a k v) U := az_C.upd (σ := σ) (τ := az_pl σ a k v) (fun b _ => ⟨rfl, rfl, rfl⟩) h
theorem az_C.pr {base : Nat} {cs : Nat → Nat} {σ : az_S} {U : State} {a k : Nat} {v : Option Nat} (h : az_C base cs σ U) (hk : (az_sh σ a).1 < 110) : az_C base cs (az_pr σ a k v) U := by
  refine h.upd fun b hb => ?_
  have hb' : 110 ≤ (az_sh σ b).1 := by rcases hb with h | h <;> exact h.1
  have e : b ≠ a := fun e => by subst e; omega
  simp [az_sh, az_i, az_r, az_up, va_up, e]
theorem az_C.nw {base : Nat} {cs : Nat → Nat} {σ : az_S} {U : State} {kd m : Nat} (h : az_C base cs σ U) (hok : az_ok σ) (hn : az_n σ < 1000000) (hk : kd < 110) : az_C base cs (az_nw σ kd m) U := by
  refine h.upd fun b hb => ?_
  have e : b ≠ az_n σ := by
    intro e
    subst e
    have h1 := hok.2.2 (az_n σ) hn
    have h2 : (az_sh (az_nw σ kd m) (az_n σ)).1 = kd := by simp [az_sh, az_nw, va_up]
    rcases hb with q | q <;> omega
  simp [az_sh, az_i, az_r, az_nw, va_up, e]
theorem az_fs_pi {ad : Nat → Nat} {σ : az_S} {a k ci N : Nat} {v : Int32} (hk : az_ft ci k = 0) : (List.range N).map (fun j => az_tr ad (az_fv (az_pi σ a k v) a j (az_ft ci j))) = ((List.range N).map (fun j => az_tr ad (az_fv σ a j (az_ft ci j)))).set k (.int v) := by
  rw [az_fs_set]
  apply List.map_congr_left
  intro j _
  by_cases e : j = k
  · subst e
    simp [hk, az_fv, az_i, az_up, va_up, az_tr]
  · simp only [e, if_false]
    congr 1
    unfold az_fv
    split <;> simp [az_i, az_l, az_r, az_up, va_up, e]
theorem az_fs_pl {ad : Nat → Nat} {σ : az_S} {a k ci N : Nat} {v : Int64} (hk : az_ft ci k = 1) : (List.range N).map (fun j => az_tr ad (az_fv (az_pl σ a k v) a j (az_ft ci j))) = ((List.range N).map (fun j => az_tr ad (az_fv σ a j (az_ft ci j)))).set k (.long v) := by
  rw [az_fs_set]
  apply List.map_congr_left
  intro j _
  by_cases e : j = k
  · subst e
    simp [hk, az_fv, az_l, az_up, va_up, az_tr]
  · simp only [e, if_false]
    congr 1
    unfold az_fv
    split <;> simp [az_i, az_l, az_r, az_up, va_up, e]
theorem az_fs_pr {ad : Nat → Nat} {σ : az_S} {a k ci N : Nat} {v : Option Nat} (hk : az_ft ci k = 2) : (List.range N).map (fun j => az_tr ad (az_fv (az_pr σ a k v) a j (az_ft ci j))) = ((List.range N).map (fun j => az_tr ad (az_fv σ a j (az_ft ci j)))).set k (va_rf (v.map ad)) := by
  rw [az_fs_set]
  apply List.map_congr_left
  intro j _
  by_cases e : j = k
  · subst e
    rw [hk, if_pos rfl]
    show az_tr ad (va_rf (az_r (az_pr σ a j v) a j)) = _
    rw [az_tr_rf]
    simp [az_r, az_up, va_up]
  · simp only [e, if_false]
    congr 1
    unfold az_fv
    split <;> simp [az_i, az_l, az_r, az_up, va_up, e]
theorem az_upd_eq {f : Nat → Int32} {k : Nat} {x : Int32} : upd f k x = va_up f k x := rfl
theorem az_updL_eq {f : Nat → Int64} {k : Nat} {x : Int64} : vp_updL f k x = va_up f k x := rfl
theorem az_narrow_ref {ty : FieldType} (h : az_tk 2 ty = true) (o : Option Nat) : narrow ty (va_rf o) = va_rf o ∧ fits ty (va_rf o) = true := by
  cases ty <;> first | (cases h; done) | (cases o <;> exact ⟨rfl, rfl⟩)
end
section
theorem az_lk_off (d : Int) (x : Int) (P : Int → Prop) (hd : P d) : ∀ (l : List (Int × Int)), (∀ o ∈ l, P o.2) → P (Op.lookupswitch.offset l d x) := by
  intro l
  induction l with
  | nil => intro _; exact hd
  | cons a r ih =>
    intro h
    obtain ⟨a, o⟩ := a
    rw [Op.lookupswitch.offset_cons]
    split
    · exact h (a, o) List.mem_cons_self
    · exact ih (fun o ho => h o (List.mem_cons_of_mem _ ho))
section AzSim
variable {p : Program} {l : Launch} {e : Env} {R : Room} {s : State} {m : MethodId} {args : Array Value} {below : List Frame} {meth : Method} {c : Code} {Q : State → Prop} {cc : ByteArray} {own : String}
variable {D : va_G} {cA : Nat → ClassId} {base : Nat} {cs : Nat → Nat} {nL n0 s0 : Nat}
set_option maxHeartbeats 4000000 in
/-- what stays on the stack and in the locals -/
theorem az_sim_a {pc len : Nat} {ins : Instr} {aux : List Nat} {L : az_V} {st : List Value} {σ : az_S} {F : az_F} {H : Heap} {locs : List Loc} {ls : Array Slot} (hC : az_Cx D cA base cs p s m args c cc own) (hn : az_next pc len ins aux L st σ F) (hd : decode cc pc = .ok (ins, len)) (hil : az_il ins = 0 ∨ az_il ins = len) (hj : az_jok pc ins)
    (hins : match ins with | .getfield _ => False | .putfield _ => False | .new _ => False | .checkcast _ => False | .anewarray _ => False | .newarray _ => False | .getstatic _ => False | .ldc _ => False | .ldc_w _ => False | .ldc2_w _ => False | .iaload => False | .baload => False | .laload => False | .aaload => False | .iastore => False | .bastore => False | .lastore => False | .aastore => False | .arraylength => False | _ => True)
    (hR : az_Rl D cA base cs s nL n0 s0 σ L H locs ls)
    (kk : ∀ (ls' : Array Slot), az_Rl D cA base cs s nL n0 s0 F.2.2.2 F.2.1 H locs ls' → W p l e R s m args below meth c H locs (az_n F.2.2.2 - n0) (az_sl F.2.2.2 - s0) Q (F0 m F.1 ls' (F.2.2.1.map (az_tr (az_ad base cs))))) :
    W p l e R s m args below meth c H locs (az_n σ - n0) (az_sl σ - s0) Q (F0 m pc ls (st.map (az_tr (az_ad base cs)))) := by
  obtain ⟨hx, hb, hown, hts, hKx, hbase⟩ := hC
  obtain ⟨hP, hsz, hS, hok, hCc, hlv, hn0, hs0⟩ := id hR
  have hst : ∀ {L' : az_V} {ls' : Array Slot}, az_lv (az_ad base cs) ls' nL L' → az_Rl D cA base cs s nL n0 s0 σ L' H locs ls' := fun h => ⟨hP, hsz, hS, hok, hCc, h, hn0, hs0⟩
  cases ins
  case iconst n => cases hn; cases hil.resolve_left (by simp [az_il]); exact lv_iconst hx hb hd rfl (kk ls hR)
  case bipush n => cases hn; cases hil.resolve_left (by simp [az_il]); exact lv_bipush hx hb hd rfl (kk ls hR)
  case sipush n => cases hn; cases hil.resolve_left (by simp [az_il]); exact lv_sipush hx hb hd rfl (kk ls hR)
  case lconst n => cases hn; cases hil.resolve_left (by simp [az_il]); exact lv_lconst hx hb hd rfl (kk ls hR)
  case aconst_null => cases hn; cases hil.resolve_left (by simp [az_il]); exact lv_null hx hb hd (kk ls hR)
  case iload_n k => obtain ⟨v, h1, rfl⟩ := hn; cases hil.resolve_left (by simp [az_il]); exact lv_iload_n hx hb hd rfl (hlv.2.2.2 _ _ h1) (kk ls hR)
  case iload k => obtain ⟨v, h1, rfl⟩ := hn; cases hil.resolve_left (by simp [az_il]); exact lv_iload hx hb hd (hlv.2.2.2 _ _ h1) (kk ls hR)
  case lload_n k => obtain ⟨v, h1, rfl⟩ := hn; cases hil.resolve_left (by simp [az_il]); exact lv_lload_n hx hb hd rfl (hlv.2.2.2 _ _ h1) (kk ls hR)
  case lload k => obtain ⟨v, h1, rfl⟩ := hn; cases hil.resolve_left (by simp [az_il]); exact lv_lload hx hb hd (hlv.2.2.2 _ _ h1) (kk ls hR)
  case aload_n k =>
    obtain ⟨o, h1, rfl⟩ := hn; cases hil.resolve_left (by simp [az_il])
    cases o with
    | none => exact lv_aload_nN hx hb hd rfl (hlv.2.2.2 _ _ h1) (kk ls hR)
    | some x => exact lv_aload_n hx hb hd rfl (hlv.2.2.2 _ _ h1) (kk ls hR)
  case aload k =>
    obtain ⟨o, h1, rfl⟩ := hn; cases hil.resolve_left (by simp [az_il])
    cases o with
    | none => exact lv_aloadN hx hb hd (hlv.2.2.2 _ _ h1) (kk ls hR)
    | some x => exact lv_aload hx hb hd (hlv.2.2.2 _ _ h1) (kk ls hR)
  case istore_n k => obtain ⟨v, r, rfl, h2, rfl⟩ := hn; cases hil.resolve_left (by simp [az_il]); exact lv_istore_n hx hb hd rfl hlv.has (by rw [← hlv.2.1]; exact h2) rfl (fun ls' h => kk ls' (hst (hlv.put1 (v := .int v) h)))
  case istore k => obtain ⟨v, r, rfl, h2, rfl⟩ := hn; cases hil.resolve_left (by simp [az_il]); exact lv_istore hx hb hd hlv.has (by rw [← hlv.2.1]; exact h2) rfl (fun ls' h => kk ls' (hst (hlv.put1 (v := .int v) h)))
  case lstore_n k => obtain ⟨v, r, rfl, h2, rfl⟩ := hn; cases hil.resolve_left (by simp [az_il]); exact lv_lstore_n hx hb hd rfl hlv.has (by rw [← hlv.2.1]; exact h2) rfl (fun ls' h => kk ls' (hst (hlv.put2 (v := .long v) h)))
  case lstore k => obtain ⟨v, r, rfl, h2, rfl⟩ := hn; cases hil.resolve_left (by simp [az_il]); exact lv_lstore hx hb hd hlv.has (by rw [← hlv.2.1]; exact h2) rfl (fun ls' h => kk ls' (hst (hlv.put2 (v := .long v) h)))
  case astore_n k =>
    obtain ⟨o, r, rfl, h2, rfl⟩ := hn; cases hil.resolve_left (by simp [az_il])
    cases o with
    | none => exact lv_astore_nN hx hb hd rfl hlv.has (by rw [← hlv.2.1]; exact h2) rfl (fun ls' h => kk ls' (hst (hlv.put1 (v := .null) h)))
    | some x => exact lv_astore_n hx hb hd rfl hlv.has (by rw [← hlv.2.1]; exact h2) rfl (fun ls' h => kk ls' (hst (hlv.put1 (v := .ref x) h)))
  case astore k =>
    obtain ⟨o, r, rfl, h2, rfl⟩ := hn; cases hil.resolve_left (by simp [az_il])
    cases o with
    | none => exact lv_astoreN hx hb hd hlv.has (by rw [← hlv.2.1]; exact h2) rfl (fun ls' h => kk ls' (hst (hlv.put1 (v := .null) h)))
    | some x => exact lv_astore hx hb hd hlv.has (by rw [← hlv.2.1]; exact h2) rfl (fun ls' h => kk ls' (hst (hlv.put1 (v := .ref x) h)))
  case iinc k n =>
    obtain ⟨v, h1, rfl⟩ := hn; cases hil.resolve_left (by simp [az_il])
    obtain ⟨q, hq⟩ := List.getElem?_of_mem (az_mem_ll.mpr ⟨_, h1, rfl⟩ : (k, Value.int v) ∈ az_ll (az_ad base cs) L)
    exact lv_iinc hx hb hd hlv.has hq rfl (by rw [← hlv.2.1]; exact az_get_lt h1) rfl (fun ls' h => kk ls' (hst (hlv.put1 (v := .int _) h)))
  case iadd => obtain ⟨x, y, r, rfl, rfl⟩ := hn; cases hil.resolve_left (by simp [az_il]); exact lv_iadd hx hb hd (kk ls hR)
  case isub => obtain ⟨x, y, r, rfl, rfl⟩ := hn; cases hil.resolve_left (by simp [az_il]); exact lv_isub hx hb hd (kk ls hR)
  case imul => obtain ⟨x, y, r, rfl, rfl⟩ := hn; cases hil.resolve_left (by simp [az_il]); exact lv_imul hx hb hd (kk ls hR)
  case idiv => obtain ⟨x, y, r, rfl, h0, rfl⟩ := hn; cases hil.resolve_left (by simp [az_il]); exact lv_idiv hx hb hd h0 (kk ls hR)
  case irem => obtain ⟨x, y, r, rfl, h0, rfl⟩ := hn; cases hil.resolve_left (by simp [az_il]); exact lv_irem hx hb hd h0 (kk ls hR)
  case iand => obtain ⟨x, y, r, rfl, rfl⟩ := hn; cases hil.resolve_left (by simp [az_il]); exact lv_iand hx hb hd (kk ls hR)
  case ior => obtain ⟨x, y, r, rfl, rfl⟩ := hn; cases hil.resolve_left (by simp [az_il]); exact lv_ior hx hb hd (kk ls hR)
  case ixor => obtain ⟨x, y, r, rfl, rfl⟩ := hn; cases hil.resolve_left (by simp [az_il]); exact lv_ixor hx hb hd (kk ls hR)
  case ishl => obtain ⟨x, y, r, rfl, rfl⟩ := hn; cases hil.resolve_left (by simp [az_il]); exact lv_ishl hx hb hd (kk ls hR)
  case ishr => obtain ⟨x, y, r, rfl, rfl⟩ := hn; cases hil.resolve_left (by simp [az_il]); exact lv_ishr hx hb hd (kk ls hR)
  case iushr => obtain ⟨x, y, r, rfl, rfl⟩ := hn; cases hil.resolve_left (by simp [az_il]); exact lv_iushr hx hb hd rfl (kk ls hR)
  case ineg => obtain ⟨x, r, rfl, rfl⟩ := hn; cases hil.resolve_left (by simp [az_il]); exact lv_ineg hx hb hd (kk ls hR)
  case ladd => obtain ⟨x, y, r, rfl, rfl⟩ := hn; cases hil.resolve_left (by simp [az_il]); exact lv_ladd hx hb hd (kk ls hR)
  case lsub => obtain ⟨x, y, r, rfl, rfl⟩ := hn; cases hil.resolve_left (by simp [az_il]); exact lv_lsub hx hb hd (kk ls hR)
  case lmul => obtain ⟨x, y, r, rfl, rfl⟩ := hn; cases hil.resolve_left (by simp [az_il]); exact lv_lmul hx hb hd (kk ls hR)
  case ldiv => obtain ⟨x, y, r, rfl, h0, rfl⟩ := hn; cases hil.resolve_left (by simp [az_il]); exact lv_ldiv hx hb hd h0 (kk ls hR)
  case land => obtain ⟨x, y, r, rfl, rfl⟩ := hn; cases hil.resolve_left (by simp [az_il]); exact lv_land hx hb hd (kk ls hR)
  case lor => obtain ⟨x, y, r, rfl, rfl⟩ := hn; cases hil.resolve_left (by simp [az_il]); exact lv_lor hx hb hd (kk ls hR)
  case lneg => obtain ⟨x, r, rfl, rfl⟩ := hn; cases hil.resolve_left (by simp [az_il]); exact lv_lneg hx hb hd (kk ls hR)
  case i2l => obtain ⟨x, r, rfl, rfl⟩ := hn; cases hil.resolve_left (by simp [az_il]); exact lv_i2l hx hb hd rfl (kk ls hR)
  case l2i => obtain ⟨x, r, rfl, rfl⟩ := hn; cases hil.resolve_left (by simp [az_il]); exact lv_l2i hx hb hd rfl (kk ls hR)
  case i2b => obtain ⟨x, r, rfl, rfl⟩ := hn; cases hil.resolve_left (by simp [az_il]); exact lv_i2b hx hb hd rfl (kk ls hR)
  case i2c => obtain ⟨x, r, rfl, rfl⟩ := hn; cases hil.resolve_left (by simp [az_il]); exact lv_i2c hx hb hd rfl (kk ls hR)
  case lcmp => obtain ⟨x, y, r, rfl, rfl⟩ := hn; cases hil.resolve_left (by simp [az_il]); exact W.lcmp hx hb hd (kk ls hR)
  case dup => obtain ⟨v, r, rfl, h1, rfl⟩ := hn; cases hil.resolve_left (by simp [az_il]); exact lv_dup hx hb hd (by rw [az_tr_cat]; exact h1) (kk ls hR)
  case pop => obtain ⟨v, r, rfl, h1, rfl⟩ := hn; cases hil.resolve_left (by simp [az_il]); exact lv_pop hx hb hd (va := az_tr (az_ad base cs) v) (by rw [az_tr_cat]; exact h1) (kk ls hR)
  case dup_x1 => obtain ⟨v, w, r, rfl, h1, h2, rfl⟩ := hn; cases hil.resolve_left (by simp [az_il]); exact lv_dup_x1 hx hb hd (by rw [az_tr_cat]; exact h1) (by rw [az_tr_cat]; exact h2) (kk ls hR)
  case dup2 => obtain ⟨v, w, r, rfl, h1, h2, rfl⟩ := hn; cases hil.resolve_left (by simp [az_il]); exact lv_dup2_11 hx hb hd (by rw [az_tr_cat]; exact h1) (by rw [az_tr_cat]; exact h2) (kk ls hR)
  case goto off => cases hn; cases hil.resolve_left (by simp [az_il]); exact lv_goto hx hb hd (az_jt hj) (kk ls hR)
  case ifCond cd off =>
    obtain ⟨x, r, rfl, h⟩ := hn
    cases hil.resolve_left (by simp [az_il])
    have ht : az_cmp cd x 0 → W p l e R s m args below meth c H locs (az_n σ - n0) (az_sl σ - s0) Q (F0 m (az_j pc off) ls (r.map (az_tr (az_ad base cs)))) := fun q => by
      rcases h with ⟨h1, rfl⟩ | ⟨h1, rfl⟩
      · exact kk ls hR
      · exact absurd q h1
    have hf : ¬ az_cmp cd x 0 → W p l e R s m args below meth c H locs (az_n σ - n0) (az_sl σ - s0) Q (F0 m (pc + 3) ls (r.map (az_tr (az_ad base cs)))) := fun q => by
      rcases h with ⟨h1, rfl⟩ | ⟨h1, rfl⟩
      · exact absurd h1 q
      · exact kk ls hR
    cases cd
    · exact lv_if_eq hx hb hd (az_jt hj) ht hf
    · exact lv_if_ne hx hb hd (az_jt hj) ht (fun q => hf (fun z => z q))
    · exact lv_if_lt hx hb hd (az_jt hj) ht hf
    · exact lv_if_ge hx hb hd (az_jt hj) ht hf
    · exact lv_if_gt hx hb hd (az_jt hj) ht hf
    · exact lv_if_le hx hb hd (az_jt hj) ht hf
  case if_icmp cd off =>
    obtain ⟨x, y, r, rfl, h⟩ := hn
    cases hil.resolve_left (by simp [az_il])
    have ht : az_cmp cd x y → W p l e R s m args below meth c H locs (az_n σ - n0) (az_sl σ - s0) Q (F0 m (az_j pc off) ls (r.map (az_tr (az_ad base cs)))) := fun q => by
      rcases h with ⟨h1, rfl⟩ | ⟨h1, rfl⟩
      · exact kk ls hR
      · exact absurd q h1
    have hf : ¬ az_cmp cd x y → W p l e R s m args below meth c H locs (az_n σ - n0) (az_sl σ - s0) Q (F0 m (pc + 3) ls (r.map (az_tr (az_ad base cs)))) := fun q => by
      rcases h with ⟨h1, rfl⟩ | ⟨h1, rfl⟩
      · exact absurd h1 q
      · exact kk ls hR
    cases cd
    · exact lv_icmp_eq hx hb hd (az_jt hj) ht hf
    · exact lv_icmp_ne hx hb hd (az_jt hj) ht (fun q => hf (fun z => z q))
    · exact lv_icmp_lt hx hb hd (az_jt hj) ht hf
    · exact lv_icmp_ge hx hb hd (az_jt hj) ht hf
    · exact lv_icmp_gt hx hb hd (az_jt hj) ht hf
    · exact lv_icmp_le hx hb hd (az_jt hj) ht hf
  case ifnull off =>
    obtain ⟨x, r, rfl, h⟩ := hn
    cases hil.resolve_left (by simp [az_il])
    cases x with
    | none =>
      rcases h with ⟨h1, rfl⟩ | ⟨h1, rfl⟩
      · exact lv_ifnullN hx hb hd (az_jt hj) (kk ls hR)
      · exact absurd rfl h1
    | some a =>
      rcases h with ⟨h1, rfl⟩ | ⟨h1, rfl⟩
      · cases h1
      · exact lv_ifnull hx hb hd (kk ls hR)
  case tableswitch d lo hi offs =>
    obtain ⟨x, r, rfl, h⟩ := hn
    rcases h with ⟨h1, rfl⟩ | ⟨off, h1, h2, h3, rfl⟩
    · exact lv_tableOut hx hb hd h1 (az_jt hj.1) (kk ls hR)
    · refine lv_tableIn hx hb hd h1 h2 h3 (az_jt ?_) (kk ls hR)
      have hm : off ∈ offs.toList := by
        have := Array.mem_of_getElem? h3
        exact Array.mem_toList_iff.mpr this
      exact of_decide_eq_true (List.all_eq_true.mp hj.2 off hm)
  case lookupswitch d ps =>
    obtain ⟨x, r, rfl, h1, rfl⟩ := hn
    refine lv_lookup hx hb hd h1 rfl (az_jt ?_) (kk ls hR)
    exact az_lk_off d x.toInt (fun o => 0 ≤ (pc : Int) + o) hj.1 ps.toList (fun o ho => of_decide_eq_true (List.all_eq_true.mp hj.2 o ho))
  case if_acmp cd off =>
    obtain ⟨x, r, rfl, rfl⟩ := hn
    cases hil.resolve_left (by simp [az_il])
    have e : (va_rf x :: va_rf x :: r).map (az_tr (az_ad base cs)) = va_rf (x.map (az_ad base cs)) :: va_rf (x.map (az_ad base cs)) :: r.map (az_tr (az_ad base cs)) := by simp only [List.map_cons, az_tr_rf]
    rw [e]
    cases cd
    · exact lv_acmp_eq hx hb hd (az_jt hj) (fun _ => kk ls hR) (fun q => absurd rfl q)
    · exact lv_acmp_ne hx hb hd (az_jt hj) (fun q => absurd rfl q) (fun _ => kk ls hR)
  all_goals first | exact hn.elim | exact hins.elim
end AzSim
end
section
section AzSim2
variable {p : Program} {l : Launch} {e : Env} {R : Room} {s : State} {m : MethodId} {args : Array Value} {below : List Frame} {meth : Method} {c : Code} {Q : State → Prop} {cc : ByteArray} {own : String}
variable {D : va_G} {cA : Nat → ClassId} {base : Nat} {cs : Nat → Nat} {nL n0 s0 : Nat}
theorem az_same {args : Array Value} {s : State} {own : String} {i : Nat} {q : vw_C} {k : Nat} (hts : ∀ w ∈ az_G, w.before args s = true) (hN : ∀ w ∈ lw_tbl, az_isN w = true → va_Nw w s) (h : az_fl own i q k) :
    (∃ ref, (Cond.fieldLink own i ref (q.2.1 k).2.1 (q.2.1 k).2.2.1).before args s = true ∧ ∀ x, s.fieldFound? (q.2.1 k).1 (q.2.1 k).2.1 (q.2.1 k).2.2.1 = some x → s.fieldFound? ref (q.2.1 k).2.1 (q.2.1 k).2.2.1 = some x) ∨
    (∃ ref host, (Cond.fieldLinkNest own i ref (q.2.1 k).2.1 (q.2.1 k).2.2.1 host).before args s = true ∧ ∀ x, s.fieldFound? (q.2.1 k).1 (q.2.1 k).2.1 (q.2.1 k).2.2.1 = some x → s.fieldFound? ref (q.2.1 k).2.1 (q.2.1 k).2.2.1 = some x) := by
  rcases h with h | ⟨host, h⟩ | ⟨ref, h1, h2⟩
  · exact Or.inl ⟨_, hts _ h, fun _ h9 => h9⟩
  · exact Or.inr ⟨_, host, va_Nw.use rfl (hN _ h rfl), fun _ h9 => h9⟩
  · exact Or.inl ⟨ref, hts _ h1, fun x hx => u_same (hts _ h2) x hx⟩
/-- a field is read -/
theorem az_sim_get {pc len i : Nat} {aux : List Nat} {nm : String} {L : az_V} {st : List Value} {σ : az_S} {F : az_F} {H : Heap} {locs : List Loc} {ls : Array Slot} (hC : az_Cx D cA base cs p s m args c cc own) (hn : az_next pc len (.getfield i) aux L st σ F) (hd : decode cc pc = .ok (.getfield i, len)) (hil : len = 3) (hl : az_link own nm (.getfield i) aux)
    (hR : az_Rl D cA base cs s nL n0 s0 σ L H locs ls)
    (kk : ∀ (ls' : Array Slot), az_Rl D cA base cs s nL n0 s0 F.2.2.2 F.2.1 H locs ls' → W p l e R s m args below meth c H locs (az_n F.2.2.2 - n0) (az_sl F.2.2.2 - s0) Q (F0 m F.1 ls' (F.2.2.1.map (az_tr (az_ad base cs))))) :
    W p l e R s m args below meth c H locs (az_n σ - n0) (az_sl σ - s0) Q (F0 m pc ls (st.map (az_tr (az_ad base cs)))) := by
  obtain ⟨hx, hb, hown, hts, hKx, hbase⟩ := hC
  obtain ⟨hP, hsz, hS, hok, hCc, hlv, hn0, hs0⟩ := id hR
  subst hil
  obtain ⟨ci, k, a, r, rfl, rfl, hk, rfl⟩ := hn
  rcases hl with ⟨ci', k', q, hax, hq, hkN, hfl⟩ | ⟨hax, hlk⟩ | ⟨hax, hlk⟩
  · cases hax
    have hci : ci < 14 := by
      have := (List.getElem?_eq_some_iff.mp hq).1
      simpa [vwCl] using this
    obtain ⟨ha, ha6⟩ := hok.lt (a := a) (by rw [hk]; omega)
    have hg : (az_ws cA (az_ad base cs) σ)[a]? = some (az_ad base cs a, .inr (ci, (List.range (az_nf ci)).map (fun k => az_tr (az_ad base cs) (az_fv σ a k (az_ft ci k))))) := by rw [az_ws_get ha, az_E_obj hk hci]
    have hv : ((List.range (az_nf ci)).map (fun k => az_tr (az_ad base cs) (az_fv σ a k (az_ft ci k))))[k]? = some (az_tr (az_ad base cs) (az_fv σ a k (az_ft ci k))) := by
      have : k < az_nf ci := by rw [az_cnf ci q hq]; exact hkN
      simp [this]
    rcases az_same (args := args) hts hKx.2.1 hfl with ⟨ref, h1, h2⟩ | ⟨ref, host, h1, h2⟩
    · exact va_get (D := D) (ci := ci) (C := q.1) (T := q.2.1) (N := q.2.2) hx hb hts (az_cin ci q hq) hown hKx.1 hP a hg hq k hkN h1 h2 hv hd (kk ls hR)
    · exact va_getN (D := D) (ci := ci) (C := q.1) (T := q.2.1) (N := q.2.2) hx hb hts (az_cin ci q hq) hown hKx.1 hP a hg hq k hkN h1 h2 hv hd (kk ls hR)
  · cases hax
    have hg := hok.ge (a := a) (by omega)
    have := (hCc.2.2.2.1 a hk).1
    rw [← az_ad_ge (base := base) (cs := cs) hg] at this
    exact vk_getf hx hb this hS hown (hts _ hlk) (fun _ h => h) hd (kk ls hR)
  · cases hax
    have hg := hok.ge (a := a) (by omega)
    have := (hCc.2.2.2.1 a hk).2.1
    rw [← az_ad_ge (base := base) (cs := cs) hg] at this
    exact vk_getf hx hb this hS hown (hts _ hlk) (fun _ h => h) hd (kk ls hR)
theorem az_sized {H : Heap} {locs : List Loc} {cells slots : Nat} {g : JFrame} (h : H.size ≤ s.heap.size + cells → W p l e R s m args below meth c H locs cells slots Q g) : W p l e R s m args below meth c H locs cells slots Q g := fun T hT X => h (by rw [← hT]; exact X.heapSize) T hT X
theorem az_size {σ : az_S} {H : Heap} {locs : List Loc} (hP : va_P D vwCl (az_ws cA (az_ad base cs) σ) H) (hS : va_S (fun q => base ≤ q) s.heap H locs) (hn : az_n σ ≤ 1000000) (hn0 : n0 ≤ az_n σ) (hb : s.heap.size = base + n0) (hz : H.size ≤ s.heap.size + (az_n σ - n0)) : H.size = base + az_n σ := by
  have h1 : base + az_n σ ≤ H.size := by
    by_cases h0 : az_n σ = 0
    · have := hS.1
      omega
    · have hl : az_n σ - 1 < az_n σ := by omega
      have := (hP (az_n σ - 1) _ (az_ws_get hl)).lt
      simp only at this
      rw [az_ad_lt (by omega)] at this
      omega
  omega
/-- a cell of the world is written -/
theorem az_Rl.set {σ τ : az_S} {L : az_V} {H H1 : Heap} {locs locs1 : List Loc} {ls : Array Slot} {a : Nat} (hR : az_Rl D cA base cs s nL n0 s0 σ L H locs ls) (hn : az_n τ = az_n σ) (hsl : az_sl τ = az_sl σ) (hz : H1.size ≤ s.heap.size + (az_n σ - n0)) (hb : s.heap.size = base + n0) (hP : va_P D vwCl ((az_ws cA (az_ad base cs) σ).set a (az_ad base cs a, az_E cA (az_ad base cs) τ a)) H1) (he : ∀ b, b ≠ a → az_E cA (az_ad base cs) τ b = az_E cA (az_ad base cs) σ b) (hS : va_S (fun q => base ≤ q) s.heap H1 locs1) (hok : az_ok τ) (hC : az_C base cs τ s) : az_Rl D cA base cs s nL n0 s0 τ L H1 locs1 ls := by
  obtain ⟨-, hsz, -, -, -, hlv, hn0, hs0⟩ := hR
  have hP1 : va_P D vwCl (az_ws cA (az_ad base cs) τ) H1 := by rw [az_ws_set hn he]; exact hP
  exact ⟨hP1, az_size hP1 hS hok.2.1 (by rw [hn]; exact hn0) hb (by rw [hn]; exact hz), hS, hok, hC, hlv, by rw [hn]; exact hn0, by rw [hsl]; exact hs0⟩
/-- a cell comes -/
theorem az_Rl.push {σ : az_S} {kd mm : Nat} {L : az_V} {H H1 : Heap} {locs locs1 : List Loc} {ls : Array Slot} {q : Nat} {E : va_E} (hR : az_Rl D cA base cs s nL n0 s0 σ L H locs ls) (hlt : az_n σ < 1000000) (hkd : kd < 110) (hz : H1.size ≤ s.heap.size + (az_n σ - n0 + 1)) (hb : s.heap.size = base + n0) (hP : va_P D vwCl (az_ws cA (az_ad base cs) σ ++ [(q, E)]) H1) (hD : va_D (fun q => base ≤ q) (az_ws cA (az_ad base cs) σ ++ [(q, E)])) (hE : az_E cA (az_ad base cs) (az_nw σ kd mm) (az_n σ) = E) (hS : va_S (fun q => base ≤ q) s.heap H1 locs1) : q = az_ad base cs (az_n σ) ∧ az_Rl D cA base cs s nL n0 s0 (az_nw σ kd mm) L H1 locs1 ls := by
  obtain ⟨-, hsz, -, hok, hC, hlv, hn0, hs0⟩ := hR
  have hlen : (az_ws cA (az_ad base cs) σ).length = az_n σ := by simp [az_ws]
  have hgq : (az_ws cA (az_ad base cs) σ ++ [(q, E)])[az_n σ]? = some (q, E) := by rw [List.getElem?_append_right (by omega), hlen, Nat.sub_self]; rfl
  have hq1 := (hP _ _ hgq).lt
  have hq2 : base ≤ q := hD.2 _ _ hgq
  have hq3 : ∀ i, i < az_n σ → q ≠ base + i := by
    intro i hi e
    have hgi : (az_ws cA (az_ad base cs) σ ++ [(q, E)])[i]? = some (az_ad base cs i, az_E cA (az_ad base cs) σ i) := by rw [List.getElem?_append_left (by omega), az_ws_get hi]
    have := hD.1 (az_n σ) i _ _ hgq hgi (by simp only; rw [az_ad_lt (by omega)]; exact e)
    omega
  have hq : q = base + az_n σ := by
    simp only at hq1
    by_cases h : q < base + az_n σ
    · exact absurd (show q = base + (q - base) by omega) (hq3 (q - base) (by omega))
    · omega
  have hq' : q = az_ad base cs (az_n σ) := by rw [az_ad_lt hlt]; exact hq
  refine ⟨hq', ?_⟩
  have hP1 : va_P D vwCl (az_ws cA (az_ad base cs) (az_nw σ kd mm)) H1 := by
    rw [az_ws_push (σ := σ) rfl (fun b hb => az_E_nw hb), hE, ← hq']
    exact hP
  have hok1 : az_ok (az_nw σ kd mm) := hok.nw hlt hkd
  refine ⟨hP1, az_size (n0 := n0) hP1 hS hok1.2.1 (Nat.le_succ_of_le hn0) hb ?_, hS, hok1, hC.nw hok hlt hkd, hlv, Nat.le_succ_of_le hn0, Nat.le_trans hs0 (Nat.le_add_right _ _)⟩
  show H1.size ≤ s.heap.size + (az_n σ + 1 - n0)
  omega
set_option maxHeartbeats 4000000 in
/-- a field is written -/
theorem az_sim_put {pc len i : Nat} {aux : List Nat} {L : az_V} {st : List Value} {σ : az_S} {F : az_F} {H : Heap} {locs : List Loc} {ls : Array Slot} (hC : az_Cx D cA base cs p s m args c cc own) (hb0 : s.heap.size = base + n0) (hn : az_next pc len (.putfield i) aux L st σ F) (hd : decode cc pc = .ok (.putfield i, len)) (hil : len = 3) (hl : az_link own meth.name (.putfield i) aux)
    (hR : az_Rl D cA base cs s nL n0 s0 σ L H locs ls)
    (kk : ∀ (H' : Heap) (locs' : List Loc) (ls' : Array Slot), az_Rl D cA base cs s nL n0 s0 F.2.2.2 F.2.1 H' locs' ls' → W p l e R s m args below meth c H' locs' (az_n F.2.2.2 - n0) (az_sl F.2.2.2 - s0) Q (F0 m F.1 ls' (F.2.2.1.map (az_tr (az_ad base cs))))) :
    W p l e R s m args below meth c H locs (az_n σ - n0) (az_sl σ - s0) Q (F0 m pc ls (st.map (az_tr (az_ad base cs)))) := by
  obtain ⟨hx, hb, hown, hts, hKx, hbase⟩ := hC
  obtain ⟨hP, hsz, hS, hok, hCc, hlv, hn0, hs0⟩ := id hR
  subst hil
  obtain ⟨ci, k, a, rfl, hk, hcase⟩ := hn
  obtain ⟨ci', k', q, hax, hq, hkN, hfin⟩ := hl
  cases hax
  have hci : ci < 14 := by
    have := (List.getElem?_eq_some_iff.mp hq).1
    simpa [vwCl] using this
  have hk110 : (az_sh σ a).1 < 110 := by rw [hk]; omega
  obtain ⟨ha, ha6⟩ := hok.lt (a := a) hk110
  have hD := az_D (cA := cA) (base := base) (cs := cs) hok.2.1
  have hnf : az_nf ci = q.2.2 := az_cnf ci q hq
  have hg : (az_ws cA (az_ad base cs) σ)[a]? = some (az_ad base cs a, .inr (ci, (List.range (az_nf ci)).map (fun k => az_tr (az_ad base cs) (az_fv σ a k (az_ft ci k))))) := by rw [az_ws_get ha, az_E_obj hk hci]
  have hty := az_cty ci q hq k hkN
  have htk := az_ctk ci q hq k hkN
  have hlen : k < ((List.range (az_nf ci)).map (fun k => az_tr (az_ad base cs) (az_fv σ a k (az_ft ci k)))).length := by simp [hnf, hkN]
  -- the write itself, of a value that fits
  have main : ∀ (v : Value) (r : List Value) (τ : az_S), narrow (az_tyc ci k) v = v → fits (az_tyc ci k) v = true → (∀ H1 locs1, H1.size ≤ s.heap.size + (az_n σ - n0) → va_P D vwCl ((az_ws cA (az_ad base cs) σ).set a (az_ad base cs a, .inr (ci, ((List.range (az_nf ci)).map (fun k => az_tr (az_ad base cs) (az_fv σ a k (az_ft ci k)))).set k v))) H1 → va_S (fun q => base ≤ q) s.heap H1 locs1 → W p l e R s m args below meth c H1 locs1 (az_n σ - n0) (az_sl σ - s0) Q (F0 m (pc + 3) ls r)) → W p l e R s m args below meth c H locs (az_n σ - n0) (az_sl σ - s0) Q (F0 m pc ls (v :: .ref (az_ad base cs a) :: r)) := by
    intro v r τ hnr hft k9
    rcases hfin with ⟨hf, hfl⟩ | ⟨hf, hnm, hdecl, hlk⟩
    · rcases az_same (args := args) hts hKx.2.1 hfl with ⟨ref, h1, h2⟩ | ⟨ref, host, h1, h2⟩
      · exact va_put (D := D) (ci := ci) (C := q.1) (T := q.2.1) (N := q.2.2) hx hb hts (az_cin ci q hq) (az_tyc ci) (az_cty ci q hq) (az_cnm ci q hq) hown hKx.1 hP hD hS a hg hq k hkN h1 h2 hf hty hnr hft hlen hd (fun H1 locs1 hP1 _ hS1 => az_sized (fun hz => k9 H1 locs1 hz hP1 hS1))
      · exact va_putN (D := D) (ci := ci) (C := q.1) (T := q.2.1) (N := q.2.2) hx hb hts (az_cin ci q hq) (az_tyc ci) (az_cty ci q hq) (az_cnm ci q hq) hown hKx.1 hP hD hS a hg hq k hkN h1 h2 hf hty hnr hft hlen hd (fun H1 locs1 hP1 _ hS1 => az_sized (fun hz => k9 H1 locs1 hz hP1 hS1))
    · exact va_putF (D := D) (ci := ci) (C := q.1) (T := q.2.1) (N := q.2.2) hx hb hts (az_cin ci q hq) (az_tyc ci) (az_cty ci q hq) (az_cnm ci q hq) hown hKx.1 hP hD hS a hg hq k hkN (hts _ hlk) (fun _ h9 => h9) hf hnm hdecl hty hnr hft hlen hd (fun H1 locs1 hP1 _ hS1 => az_sized (fun hz => k9 H1 locs1 hz hP1 hS1))
  rcases hcase with ⟨hft, v, r, rfl, rfl⟩ | ⟨hft, v, r, rfl, rfl⟩ | ⟨hft, v, r, rfl, rfl⟩
  · have hT : az_tyc ci k = .int := by rw [hft] at htk; exact of_decide_eq_true htk
    refine main (.int v) (r.map (az_tr (az_ad base cs))) (az_pi σ a k v) (by rw [hT]; rfl) (by rw [hT]; rfl) (fun H1 locs1 hz hP1 hS1 => kk H1 locs1 ls (hR.set (τ := az_pi σ a k v) rfl rfl hz hb0 ?_ (fun b hb => az_E_pi hb) hS1 hok.pi (hCc.pi hk110)))
    rw [az_E_obj (σ := az_pi σ a k v) hk hci, az_fs_pi hft]
    exact hP1
  · have hT : az_tyc ci k = .long := by rw [hft] at htk; exact of_decide_eq_true htk
    refine main (.long v) (r.map (az_tr (az_ad base cs))) (az_pl σ a k v) (by rw [hT]; rfl) (by rw [hT]; rfl) (fun H1 locs1 hz hP1 hS1 => kk H1 locs1 ls (hR.set (τ := az_pl σ a k v) rfl rfl hz hb0 ?_ (fun b hb => az_E_pl hb) hS1 hok.pl hCc.pl))
    rw [az_E_obj (σ := az_pl σ a k v) hk hci, az_fs_pl hft]
    exact hP1
  · have hT : az_tk 2 (az_tyc ci k) = true := by rw [hft] at htk; exact htk
    have e : (va_rf v :: .ref a :: r).map (az_tr (az_ad base cs)) = va_rf (v.map (az_ad base cs)) :: .ref (az_ad base cs a) :: r.map (az_tr (az_ad base cs)) := by simp only [List.map_cons, az_tr_rf]; rfl
    rw [e]
    obtain ⟨g1, g2⟩ := az_narrow_ref hT (v.map (az_ad base cs))
    refine main (va_rf (v.map (az_ad base cs))) (r.map (az_tr (az_ad base cs))) (az_pr σ a k v) g1 g2 (fun H1 locs1 hz hP1 hS1 => kk H1 locs1 ls (hR.set (τ := az_pr σ a k v) rfl rfl hz hb0 ?_ (fun b hb => az_E_pr hb) hS1 hok.pr (hCc.pr hk110)))
    rw [az_E_obj (σ := az_pr σ a k v) hk hci, az_fs_pr hft]
    exact hP1
end AzSim2
end
section
section AzSim3
variable {p : Program} {l : Launch} {e : Env} {R : Room} {s : State} {m : MethodId} {args : Array Value} {below : List Frame} {meth : Method} {c : Code} {Q : State → Prop} {cc : ByteArray} {own : String}
variable {D : va_G} {cA : Nat → ClassId} {base : Nat} {cs : Nat → Nat} {nL n0 s0 : Nat}
theorem az_ss_ge : ∀ q ∈ az_ss, ¬ q.2.2.2 < 1000000 := by decide
theorem az_alen_go {H : Heap} {locs : List Loc} {cells slots : Nat} {ws : va_W} {pc : Nat} {ls : Array Slot} {rest : List Value} {cl : List vw_C} {tys : List (ClassId × FieldType)} {a : Nat} (hexec : p.tables.exec = Jvm.exec) (hb : c.code = cc) (hK : va_K D cl tys s) (hP : va_P D cl ws H) (q0 t0 : Nat) {E : va_E} (ha : ws[q0]? = some (a, E)) {k : ClassId} {x : vp_A} (hE : E = .inl (k, x)) {ty : FieldType} (ht : tys[t0]? = some (k, ty)) (hdg : decode cc pc = .ok (.arraylength, 1))
    (kk : W p l e R s m args below meth c H locs cells slots Q (F0 m (pc + 1) ls (.int (Int32.ofNat x.1) :: rest))) : W p l e R s m args below meth c H locs cells slots Q (F0 m pc ls (.ref a :: rest)) := by
  subst hE
  exact va_alen hexec hb hK hP q0 t0 ha ht rfl hdg kk
set_option maxHeartbeats 4000000 in
/-- arrays are read, constants come, a cast that holds -/
theorem az_sim_b {pc len : Nat} {ins : Instr} {aux : List Nat} {nm : String} {L : az_V} {st : List Value} {σ : az_S} {F : az_F} {H : Heap} {locs : List Loc} {ls : Array Slot} (hC : az_Cx D cA base cs p s m args c cc own) (hn : az_next pc len ins aux L st σ F) (hd : decode cc pc = .ok (ins, len)) (hil : az_il ins = len) (hl : az_link own nm ins aux)
    (hins : match ins with | .checkcast _ => True | .getstatic _ => True | .ldc _ => True | .ldc_w _ => True | .ldc2_w _ => True | .iaload => True | .baload => True | .laload => True | .aaload => True | .arraylength => True | _ => False)
    (hR : az_Rl D cA base cs s nL n0 s0 σ L H locs ls)
    (kk : ∀ (ls' : Array Slot), az_Rl D cA base cs s nL n0 s0 F.2.2.2 F.2.1 H locs ls' → W p l e R s m args below meth c H locs (az_n F.2.2.2 - n0) (az_sl F.2.2.2 - s0) Q (F0 m F.1 ls' (F.2.2.1.map (az_tr (az_ad base cs))))) :
    W p l e R s m args below meth c H locs (az_n σ - n0) (az_sl σ - s0) Q (F0 m pc ls (st.map (az_tr (az_ad base cs)))) := by
  obtain ⟨hx, hb, hown, hts, hKx, hbase⟩ := hC
  obtain ⟨hP, hsz, hS, hok, hCc, hlv, hn0, hs0⟩ := id hR
  subst hil
  cases ins
  case iaload =>
    obtain ⟨i, a, r, rfl, hk, hin, rfl⟩ := hn
    rcases hk with hk | hk
    · obtain ⟨ha, -⟩ := hok.lt (a := a) (by omega)
      exact va_iald hx hb hKx.1 hP a 0 (by rw [az_ws_get ha, az_E_int hk (Or.inl rfl)]) rfl hin hd (kk ls hR)
    · have hg := hok.ge (a := a) (by omega)
      have := hCc.1 a hk
      rw [← az_ad_ge (base := base) (cs := cs) hg] at this
      exact va_ti hx hb this hS hin rfl hd (kk ls hR)
  case baload =>
    obtain ⟨i, a, r, rfl, hk, hin, rfl⟩ := hn
    rcases hk with hk | hk | hk
    · obtain ⟨ha, -⟩ := hok.lt (a := a) (by omega)
      exact va_zald hx hb hKx.1 hP a 1 (by rw [az_ws_get ha, az_E_int hk (Or.inr (Or.inl rfl))]) rfl hin hd (kk ls hR)
    · obtain ⟨ha, -⟩ := hok.lt (a := a) (by omega)
      exact va_bald hx hb hKx.1 hP a 2 (by rw [az_ws_get ha, az_E_int hk (Or.inr (Or.inr rfl))]) rfl hin hd (kk ls hR)
    · have hg := hok.ge (a := a) (by omega)
      have := hCc.2.2.1 a hk
      rw [← az_ad_ge (base := base) (cs := cs) hg] at this
      exact va_tb hx hb this hS hin rfl hd (kk ls hR)
  case laload =>
    obtain ⟨i, a, r, rfl, hk, hin, rfl⟩ := hn
    obtain ⟨ha, -⟩ := hok.lt (a := a) (by omega)
    exact va_lald hx hb hKx.1 hP a 3 (by rw [az_ws_get ha, az_E_long hk]) rfl hin hd (kk ls hR)
  case aaload =>
    obtain ⟨i, a, r, rfl, hk, hin, rfl⟩ := hn
    obtain ⟨ha, -⟩ := hok.lt (a := a) (by omega)
    have h9 := kk ls hR
    simp only [List.map_cons, az_tr_rf] at h9
    have hg := (az_ws_get (cA := cA) (ad := az_ad base cs) ha).trans (by rw [az_E_ref hk])
    exact va_aldq hx hb hKx.1 hP a 4 (C := "java/lang/Object") hg rfl hin hd h9
  case arraylength =>
    obtain ⟨a, r, rfl, hk, rfl⟩ := hn
    by_cases hw : (az_sh σ a).1 < 110
    · obtain ⟨ha, -⟩ := hok.lt (a := a) hw
      by_cases h3 : (az_sh σ a).1 = 103
      · exact az_alen_go hx hb hKx.1 hP a 3 (az_ws_get ha) (az_E_long h3) rfl hd (kk ls hR)
      by_cases h4 : (az_sh σ a).1 = 104
      · exact az_alen_go hx hb hKx.1 hP a 4 (az_ws_get ha) (az_E_ref h4) rfl hd (kk ls hR)
      by_cases h0 : (az_sh σ a).1 = 100
      · exact az_alen_go hx hb hKx.1 hP a 0 (az_ws_get ha) (az_E_int h0 (Or.inl rfl)) rfl hd (kk ls hR)
      by_cases h1 : (az_sh σ a).1 = 101
      · exact az_alen_go hx hb hKx.1 hP a 1 (az_ws_get ha) (az_E_int h1 (Or.inr (Or.inl rfl))) rfl hd (kk ls hR)
      · exact az_alen_go hx hb hKx.1 hP a 2 (az_ws_get ha) (az_E_int (show (az_sh σ a).1 = 102 by omega) (Or.inr (Or.inr rfl))) rfl hd (kk ls hR)
    · have hg := hok.ge (a := a) (by omega)
      by_cases h0 : (az_sh σ a).1 = 110
      · have := hCc.1 a h0
        rw [← az_ad_ge (base := base) (cs := cs) hg] at this
        exact va_tlen hx hb this hS rfl hd (kk ls hR)
      by_cases h1 : (az_sh σ a).1 = 111
      · have := hCc.2.1 a h1
        rw [← az_ad_ge (base := base) (cs := cs) hg] at this
        exact va_tlen hx hb this hS rfl hd (kk ls hR)
      · have := hCc.2.2.1 a (by omega)
        rw [← az_ad_ge (base := base) (cs := cs) hg] at this
        exact va_tlen hx hb this hS rfl hd (kk ls hR)
  case checkcast i =>
    obtain ⟨ci, a, r, rfl, hci, rfl, hk, rfl⟩ := hn
    obtain ⟨ci', q, hax, hq, hlk⟩ := hl
    cases hax
    obtain ⟨ha, -⟩ := hok.lt (a := a) (by omega)
    exact va_castS hx hb hown (hts _ hlk) (hKx.1.1 ci q hq).2 (va_recv hKx.1 hP hq (q0 := a) (by rw [az_ws_get ha, az_E_obj hk hci])) hd (kk ls hR)
  case getstatic i =>
    obtain ⟨k, kd, rfl, rfl⟩ := hn
    obtain ⟨k', kd', q, hax, hq, hkd, hlk⟩ := hl
    cases hax
    subst hkd
    exact va_gets hx hb (hCc.2.2.2.2.2 k q hq) hS hown (hts _ hlk) (fun _ h => h) hd (kk ls hR)
  case ldc i =>
    rcases hn with ⟨v, rfl, rfl⟩ | ⟨v, rfl, rfl⟩
    · rcases hl with ⟨v', hax, hlk⟩ | ⟨hax, hlk⟩ | ⟨q, hq, h1, h2, hax⟩
      · cases hax
        exact lv_ldc hx hb hown (hts _ hlk) hd (kk ls hR)
      · cases hax
      · cases hax
    · rcases hl with ⟨v', hax, hlk⟩ | ⟨hax, hlk⟩ | ⟨q, hq, h1, h2, hax⟩
      · cases hax
      · cases hax
        exact va_ldcM hx hb hown (hts _ hlk) hKx.2.2.2.1 hd (kk ls hR)
      · cases hax
        subst h1
        subst h2
        have hge : ¬ q.2.2.2 < 1000000 := az_ss_ge q hq
        have h9 := kk ls hR
        simp only [List.map_cons, az_tr, az_ad_ge (base := base) (cs := cs) hge] at h9
        exact va_ldcS hx hb hown (hKx.2.2.2.2.2 q hq) hd h9
  case ldc_w i =>
    obtain ⟨v, rfl, rfl⟩ := hn
    obtain ⟨v', hax, hlk⟩ := hl
    cases hax
    exact lv_ldcw hx hb hown (hts _ hlk) hd (kk ls hR)
  case ldc2_w i =>
    obtain ⟨v, rfl, rfl⟩ := hn
    obtain ⟨v', hax, hlk⟩ := hl
    cases hax
    exact lv_ldc2 hx hb hown (hts _ hlk) hd (kk ls hR)
  all_goals exact hins.elim
theorem az_nar_b {x : Int32} : narrow .byte (.int x) = .int (vp_nar .byte x) := rfl
set_option maxHeartbeats 4000000 in
/-- arrays are written -/
theorem az_sim_c {pc len : Nat} {ins : Instr} {aux : List Nat} {L : az_V} {st : List Value} {σ : az_S} {F : az_F} {H : Heap} {locs : List Loc} {ls : Array Slot} (hC : az_Cx D cA base cs p s m args c cc own) (hb0 : s.heap.size = base + n0) (hn : az_next pc len ins aux L st σ F) (hd : decode cc pc = .ok (ins, len)) (hil : az_il ins = len)
    (hins : match ins with | .iastore => True | .bastore => True | .lastore => True | .aastore => True | _ => False)
    (hR : az_Rl D cA base cs s nL n0 s0 σ L H locs ls)
    (kk : ∀ (H' : Heap) (locs' : List Loc) (ls' : Array Slot), az_Rl D cA base cs s nL n0 s0 F.2.2.2 F.2.1 H' locs' ls' → W p l e R s m args below meth c H' locs' (az_n F.2.2.2 - n0) (az_sl F.2.2.2 - s0) Q (F0 m F.1 ls' (F.2.2.1.map (az_tr (az_ad base cs))))) :
    W p l e R s m args below meth c H locs (az_n σ - n0) (az_sl σ - s0) Q (F0 m pc ls (st.map (az_tr (az_ad base cs)))) := by
  obtain ⟨hx, hb, hown, hts, hKx, hbase⟩ := hC
  obtain ⟨hP, hsz, hS, hok, hCc, hlv, hn0, hs0⟩ := id hR
  have hD := az_D (cA := cA) (base := base) (cs := cs) hok.2.1
  subst hil
  cases ins
  case iastore =>
    obtain ⟨x, i, a, r, rfl, hk, hin, rfl⟩ := hn
    have hk110 : (az_sh σ a).1 < 110 := by omega
    obtain ⟨ha, -⟩ := hok.lt hk110
    refine va_iast hx hb hKx.1 hP hD hS a 0 (by rw [az_ws_get ha, az_E_int hk (Or.inl rfl)]) rfl hin hd (fun H1 locs1 hP1 _ hS1 => az_sized (fun hz => kk H1 locs1 ls (hR.set (τ := az_pi σ a _ x) rfl rfl hz hb0 ?_ (fun b hb => az_E_pi hb) hS1 hok.pi (hCc.pi hk110))))
    rw [az_E_int (σ := az_pi σ a _ x) hk (Or.inl rfl), show az_i (az_pi σ a i.toNatClampNeg x) a = upd (az_i σ a) i.toNatClampNeg x from az_upd_i]
    exact hP1
  case bastore =>
    obtain ⟨x, i, a, r, rfl, hin, hcase⟩ := hn
    rcases hcase with ⟨hk, rfl⟩ | ⟨hk, rfl⟩
    · have hk110 : (az_sh σ a).1 < 110 := by omega
      obtain ⟨ha, -⟩ := hok.lt hk110
      refine va_zast hx hb hKx.1 hP hD hS a 1 (by rw [az_ws_get ha, az_E_int hk (Or.inr (Or.inl rfl))]) rfl hin hd (fun H1 locs1 hP1 _ hS1 => az_sized (fun hz => kk H1 locs1 ls (hR.set (τ := az_pi σ a _ _) rfl rfl hz hb0 ?_ (fun b hb => az_E_pi hb) hS1 hok.pi (hCc.pi hk110))))
      rw [az_E_int (σ := az_pi σ a _ _) hk (Or.inr (Or.inl rfl)), show az_i (az_pi σ a i.toNatClampNeg (vp_nar .boolean x)) a = upd (az_i σ a) i.toNatClampNeg (vp_nar .boolean x) from az_upd_i]
      exact hP1
    · have hk110 : (az_sh σ a).1 < 110 := by omega
      obtain ⟨ha, -⟩ := hok.lt hk110
      refine va_bast hx hb hKx.1 hP hD hS a 2 (by rw [az_ws_get ha, az_E_int hk (Or.inr (Or.inr rfl))]) rfl hin hd (fun H1 locs1 hP1 _ hS1 => az_sized (fun hz => kk H1 locs1 ls (hR.set (τ := az_pi σ a _ _) rfl rfl hz hb0 ?_ (fun b hb => az_E_pi hb) hS1 hok.pi (hCc.pi hk110))))
      rw [az_E_int (σ := az_pi σ a _ _) hk (Or.inr (Or.inr rfl)), show az_i (az_pi σ a i.toNatClampNeg (vp_nar .byte x)) a = upd (az_i σ a) i.toNatClampNeg (vp_nar .byte x) from az_upd_i]
      exact hP1
  case lastore =>
    obtain ⟨x, i, a, r, rfl, hk, hin, rfl⟩ := hn
    have hk110 : (az_sh σ a).1 < 110 := by omega
    obtain ⟨ha, -⟩ := hok.lt hk110
    refine va_last hx hb hKx.1 hP hD hS a 3 (by rw [az_ws_get ha, az_E_long hk]) rfl hin hd (fun H1 locs1 hP1 _ hS1 => az_sized (fun hz => kk H1 locs1 ls (hR.set (τ := az_pl σ a _ x) rfl rfl hz hb0 ?_ (fun b hb => az_E_pl hb) hS1 hok.pl hCc.pl)))
    rw [az_E_long (σ := az_pl σ a _ x) hk, show az_l (az_pl σ a i.toNatClampNeg x) a = vp_updL (az_l σ a) i.toNatClampNeg x from az_upd_i]
    exact hP1
  case aastore =>
    obtain ⟨v, i, a, r, rfl, hk, hkv, hin, rfl⟩ := hn
    have hk110 : (az_sh σ a).1 < 110 := by omega
    obtain ⟨ha, -⟩ := hok.lt hk110
    obtain ⟨hv, -⟩ := hok.lt (a := v) (by omega)
    obtain ⟨q, hq⟩ := az_clt _ hkv
    refine va_astqO hx hb hKx.1 hP hD hS a 4 v (az_sh σ v).1 (E := "java/lang/Object") (r := q) (by rw [az_ws_get ha, az_E_ref hk]) rfl (hKx.2.1 _ (az_ccast _ q hq) rfl) (by rw [az_ws_get hv, az_E_obj rfl hkv]) hq hin hd (fun H1 locs1 hP1 _ hS1 => az_sized (fun hz => kk H1 locs1 ls (hR.set (τ := az_pr σ a _ (some v)) rfl rfl hz hb0 ?_ (fun b hb => az_E_pr hb) hS1 hok.pr (hCc.pr hk110))))
    have e : (fun j => (az_r (az_pr σ a i.toNatClampNeg (some v)) a j).map (az_ad base cs)) = va_up (fun j => (az_r σ a j).map (az_ad base cs)) i.toNatClampNeg (some (az_ad base cs v)) := by
      funext j
      by_cases hj : j = i.toNatClampNeg <;> simp [az_r, az_up, va_up, hj]
    rw [az_E_ref (σ := az_pr σ a _ (some v)) hk, e]
    exact hP1
  all_goals exact hins.elim
end AzSim3
end
section
section AzSim4
variable {p : Program} {l : Launch} {e : Env} {R : Room} {s : State} {m : MethodId} {args : Array Value} {below : List Frame} {meth : Method} {c : Code} {Q : State → Prop} {cc : ByteArray} {own : String}
variable {D : va_G} {cA : Nat → ClassId} {base : Nat} {cs : Nat → Nat} {nL n0 s0 : Nat}
theorem az_sh_nw {σ : az_S} {kd mm : Nat} : az_sh (az_nw σ kd mm) (az_n σ) = (kd, mm) := by simp [az_sh, az_nw, va_up]
theorem az_i_nw {σ : az_S} {kd mm : Nat} : az_i (az_nw σ kd mm) (az_n σ) = fun _ => 0 := by simp [az_i, az_nw, va_up]
theorem az_l_nw {σ : az_S} {kd mm : Nat} : az_l (az_nw σ kd mm) (az_n σ) = fun _ => 0 := by simp [az_l, az_nw, va_up]
theorem az_r_nw {σ : az_S} {kd mm : Nat} : az_r (az_nw σ kd mm) (az_n σ) = fun _ => none := by simp [az_r, az_nw, va_up]
def az_dv (kd : Nat) : Value := match kd with
  | 0 => .int 0
  | 1 => .long 0
  | _ => .null
theorem az_dflt {ty : FieldType} {kd : Nat} (h : az_tk kd ty = true) (hk : kd = 0 ∨ kd = 1 ∨ kd = 2) : defaultValue ty = az_dv kd := by
  rcases hk with rfl | rfl | rfl
  · cases (of_decide_eq_true h : ty = .int); rfl
  · cases (of_decide_eq_true h : ty = .long); rfl
  · cases ty <;> first | (cases h; done) | rfl
theorem az_ft_le : ∀ ci, ci < 14 → ∀ k, k < 90 → az_ft ci k = 0 ∨ az_ft ci k = 1 ∨ az_ft ci k = 2 := by decide +kernel
theorem az_nf_le : ∀ ci, ci < 14 → az_nf ci ≤ 90 := by decide
set_option maxHeartbeats 4000000 in
/-- a cell comes -/
theorem az_sim_d {pc len : Nat} {ins : Instr} {aux : List Nat} {nm : String} {L : az_V} {st : List Value} {σ : az_S} {F : az_F} {H : Heap} {locs : List Loc} {ls : Array Slot} (hC : az_Cx D cA base cs p s m args c cc own) (hb0 : s.heap.size = base + n0) (hn : az_next pc len ins aux L st σ F) (hd : decode cc pc = .ok (ins, len)) (hil : az_il ins = len) (hl : az_link own nm ins aux)
    (hins : match ins with | .new _ => True | .newarray _ => True | .anewarray _ => True | _ => False)
    (hR : az_Rl D cA base cs s nL n0 s0 σ L H locs ls) (hroom : az_n F.2.2.2 - n0 ≤ R.cells ∧ az_sl F.2.2.2 - s0 ≤ R.slots)
    (kk : ∀ (H' : Heap) (locs' : List Loc) (ls' : Array Slot), az_Rl D cA base cs s nL n0 s0 F.2.2.2 F.2.1 H' locs' ls' → W p l e R s m args below meth c H' locs' (az_n F.2.2.2 - n0) (az_sl F.2.2.2 - s0) Q (F0 m F.1 ls' (F.2.2.1.map (az_tr (az_ad base cs))))) :
    W p l e R s m args below meth c H locs (az_n σ - n0) (az_sl σ - s0) Q (F0 m pc ls (st.map (az_tr (az_ad base cs)))) := by
  obtain ⟨hx, hb, hown, hts, hKx, hbase⟩ := hC
  obtain ⟨hP, hsz, hS, hok, hCc, hlv, hn0, hs0⟩ := id hR
  have hD := az_D (cA := cA) (base := base) (cs := cs) hok.2.1
  have hA : ∀ q, s.heap.size ≤ q → (fun q => base ≤ q) q := fun q hq => Nat.le_trans hbase hq
  have eN : az_n σ - n0 + 1 = az_n σ + 1 - n0 := by omega
  have eS : ∀ k, az_sl σ - s0 + k = az_sl σ + k - s0 := fun k => by omega
  subst hil
  cases ins
  case new i =>
    obtain ⟨ci, rfl, hci, hlt, rfl⟩ := hn
    obtain ⟨ci', q, hax, hq, h1, h2, h3⟩ := hl
    cases hax
    have hnf : az_nf ci = q.2.2 := az_cnf ci q hq
    have h4 : az_n σ + 1 - n0 ≤ R.cells ∧ az_sl σ + az_nf ci - s0 ≤ R.slots := hroom
    have hE := az_E_obj (cA := cA) (ad := az_ad base cs) (σ := az_nw σ ci (az_nf ci)) (a := az_n σ) (ci := ci) (by rw [az_sh_nw]) hci
    refine va_new (ci := ci) (fs := (List.range (az_nf ci)).map (fun k => az_tr (az_ad base cs) (az_fv (az_nw σ ci (az_nf ci)) (az_n σ) k (az_ft ci k)))) (C := q.1) (T := q.2.1) (N := q.2.2) hx hb hts (az_cin ci q hq) (az_tyc ci) (az_cty ci q hq) hown (hts _ h1) (hts _ h2) (hts _ h3) hKx.1 hP hD hS hA hq (fun j hj => ?_) (by rw [eN]; exact h4.1) (by rw [← hnf, eS]; exact h4.2) hd (fun q9 H1 hP1 hD1 hS1 => az_sized (fun hz => ?_))
    · have hj' : j < az_nf ci := by rw [hnf]; exact hj
      have hv : vp_V ((List.range (az_nf ci)).map (fun k => az_tr (az_ad base cs) (az_fv (az_nw σ ci (az_nf ci)) (az_n σ) k (az_ft ci k)))) j = az_tr (az_ad base cs) (az_fv (az_nw σ ci (az_nf ci)) (az_n σ) j (az_ft ci j)) := by simp [vp_V, hj']
      rw [hv]
      have hk3 := az_ft_le ci hci j (Nat.lt_of_lt_of_le hj' (az_nf_le ci hci))
      rw [az_dflt (az_ctk ci q hq j hj) hk3]
      rcases hk3 with h | h | h <;> rw [h]
      · show _ = Value.int (az_i (az_nw σ ci (az_nf ci)) (az_n σ) j); rw [az_i_nw]; rfl
      · show _ = Value.long (az_l (az_nw σ ci (az_nf ci)) (az_n σ) j); rw [az_l_nw]; rfl
      · show _ = az_tr (az_ad base cs) (va_rf (az_r (az_nw σ ci (az_nf ci)) (az_n σ) j)); rw [az_r_nw]; rfl
    · obtain ⟨e1, hR1⟩ := hR.push (kd := ci) (mm := az_nf ci) hlt (by omega) hz hb0 hP1 hD1 hE hS1
      have h9 := kk H1 locs ls hR1
      rw [e1, ← hnf]
      rw [show az_n σ - n0 + 1 = az_n (az_nw σ ci (az_nf ci)) - n0 from eN, show az_sl σ - s0 + az_nf ci = az_sl (az_nw σ ci (az_nf ci)) - s0 from eS _]
      exact h9
  case newarray t =>
    obtain ⟨n, r, rfl, hn1, hn2, hty, hlt, rfl⟩ := hn
    have h4 : az_n σ + 1 - n0 ≤ R.cells ∧ az_sl σ + n.toNatClampNeg - s0 ≤ R.slots := hroom
    have fin : ∀ (kd : Nat) (ty : FieldType) (t0 : Nat) (a0 : vp_A), newarray.typeOf t = ty → az_ty t = kd → kd < 110 → (az_tys cA)[t0]? = some (cA kd, ty) → (∀ c1 c2, va_RA s c1 ty → va_RA s c2 ty → c1 = c2) → componentBytes ty ≤ 8 → (∀ cA : ClassId, vp_cell cA a0 = arrV cA n.toNatClampNeg (fun _ => defaultValue ty)) → az_E cA (az_ad base cs) (az_nw σ kd n.toNatClampNeg) (az_n σ) = .inl (cA kd, a0) → W p l e R s m args below meth c H locs (az_n σ - n0) (az_sl σ - s0) Q (F0 m pc ls ((Value.int n :: r).map (az_tr (az_ad base cs)))) := by
      intro kd ty t0 a0 hto hk hkd ht0 hun hcb ha0 hE
      refine va_newa (atype := t) hx hb (hts _ hl) hto hKx.1 hP hD hS hA (n := n) ha0 hn1 rfl ?_ (by rw [eN]; exact h4.1) (by rw [eS]; exact h4.2) hd (fun q9 c9 H1 hK9 hP1 hD1 hS1 => az_sized (fun hz => ?_))
      · have : n.toNatClampNeg * componentBytes ty ≤ 10000 * 8 := Nat.mul_le_mul hn2 hcb
        omega
      · have hc9 : c9 = cA kd := hun c9 (cA kd) (hK9.2 (az_tys cA).length (c9, ty) (by rw [List.getElem?_append_right (Nat.le_refl _), Nat.sub_self]; rfl)).2 (hKx.1.2 t0 _ ht0).2
        subst hc9
        obtain ⟨e1, hR1⟩ := hR.push (kd := kd) (mm := n.toNatClampNeg) hlt hkd hz hb0 hP1 hD1 hE hS1
        have h9 := kk H1 locs ls (by rw [hk]; exact hR1)
        rw [e1]
        rw [show az_n σ - n0 + 1 = az_n (az_nw σ kd n.toNatClampNeg) - n0 from eN, show az_sl σ - s0 + n.toNatClampNeg = az_sl (az_nw σ kd n.toNatClampNeg) - s0 from eS _]
        exact h9
    cases t
    case int => exact fin 100 .int 0 (n.toNatClampNeg, .inl (fun _ => 0)) rfl rfl (by decide) rfl (fun c1 c2 h1 h2 => Option.some.inj ((va_nm_int h1).symm.trans (va_nm_int h2))) (by decide) (fun _ => rfl) (by rw [az_E_int (kd := 100) (by rw [az_sh_nw]) (Or.inl rfl), az_sh_nw, az_i_nw])
    case boolean => exact fin 101 .boolean 1 (n.toNatClampNeg, .inl (fun _ => 0)) rfl rfl (by decide) rfl (fun c1 c2 h1 h2 => Option.some.inj ((va_nm_boolean h1).symm.trans (va_nm_boolean h2))) (by decide) (fun _ => rfl) (by rw [az_E_int (kd := 101) (by rw [az_sh_nw]) (Or.inr (Or.inl rfl)), az_sh_nw, az_i_nw])
    case byte => exact fin 102 .byte 2 (n.toNatClampNeg, .inl (fun _ => 0)) rfl rfl (by decide) rfl (fun c1 c2 h1 h2 => Option.some.inj ((va_nm_byte h1).symm.trans (va_nm_byte h2))) (by decide) (fun _ => rfl) (by rw [az_E_int (kd := 102) (by rw [az_sh_nw]) (Or.inr (Or.inr rfl)), az_sh_nw, az_i_nw])
    case long => exact fin 103 .long 3 (n.toNatClampNeg, .inr (.inl (fun _ => 0))) rfl rfl (by decide) rfl (fun c1 c2 h1 h2 => Option.some.inj ((va_nm_long h1).symm.trans (va_nm_long h2))) (by decide) (fun _ => rfl) (by rw [az_E_long (by rw [az_sh_nw]), az_sh_nw, az_l_nw])
    all_goals exact absurd hty (by decide)
  case anewarray i =>
    obtain ⟨n, r, rfl, hn1, hn2, hlt, rfl⟩ := hn
    have h4 : az_n σ + 1 - n0 ≤ R.cells ∧ az_sl σ + n.toNatClampNeg - s0 ≤ R.slots := hroom
    refine va_newq hx hb hown (hts _ hl) hKx.2.2.1 hKx.1 hP hD hS hA (n := n) hn1 rfl (by omega) (by rw [eN]; exact h4.1) (by rw [eS]; exact h4.2) hd (fun q9 c9 H1 hK9 hP1 hD1 hS1 => az_sized (fun hz => ?_))
    have hc9 : c9 = cA 104 := Option.some.inj ((va_nmO (hK9.2 (az_tys cA).length (c9, .object "java/lang/Object") (by rw [List.getElem?_append_right (Nat.le_refl _), Nat.sub_self]; rfl)).2 rfl).symm.trans (va_nmO (hKx.1.2 4 _ rfl).2 rfl))
    subst hc9
    obtain ⟨e1, hR1⟩ := hR.push (kd := 104) (mm := n.toNatClampNeg) hlt (by decide) hz hb0 hP1 hD1 (by rw [az_E_ref (by rw [az_sh_nw]), az_sh_nw, az_r_nw]; rfl) hS1
    have h9 := kk H1 locs ls hR1
    rw [e1]
    rw [show az_n σ - n0 + 1 = az_n (az_nw σ 104 n.toNatClampNeg) - n0 from eN, show az_sl σ - s0 + n.toNatClampNeg = az_sl (az_nw σ 104 n.toNatClampNeg) - s0 from eS _]
    exact h9
  all_goals exact hins.elim
end AzSim4
end
section
/-! CALLS -/
def az_ws1 (Y : MethodName) (bytes : ByteArray) (maxL : Nat) (ret : Option FieldType) : List Cond := Cond.code Y bytes maxL ret :: az_G
def az_rm (d mc ms : Nat) : Room := { frames := d, cells := mc, slots := ms, locals := 80 * d }
def az_Pc (D : va_G) (cA : Nat → ClassId) (base : Nat) (cs : Nat → Nat) (as : List Value) (σ : az_S) : Array Value → State → Prop := va_Pc (as.map (az_tr (az_ad base cs))) (fun U => U.heap.size = base + az_n σ ∧ va_P D vwCl (az_ws cA (az_ad base cs) σ) U.heap ∧ az_Kx D cA cs U ∧ az_C base cs σ U)
def az_Qc (D : va_G) (cA : Nat → ClassId) (base : Nat) (cs : Nat → Nat) (r : Option Value) (τ : az_S) : Array Value → State → Outcome → State → Prop := fun _ st oc t => oc = .returned (r.map (az_tr (az_ad base cs))) ∧ va_P D vwCl (az_ws cA (az_ad base cs) τ) t.heap ∧ t.heap.size = base + az_n τ ∧ ∀ q, q < base → t.heap[q]? = st.heap[q]?
/-- what an abstract run keeps -/
def az_ext (σ τ : az_S) : Prop := az_n σ ≤ az_n τ ∧ az_sl σ ≤ az_sl τ ∧ (az_ok σ → az_ok τ ∧ ∀ (base : Nat) (cs : Nat → Nat) (U : State), az_C base cs σ U → az_C base cs τ U)
theorem az_ext.rf {σ : az_S} : az_ext σ σ := ⟨Nat.le_refl _, Nat.le_refl _, fun h => ⟨h, fun _ _ _ h => h⟩⟩
theorem az_ext.tr {σ τ ρ : az_S} (h1 : az_ext σ τ) (h2 : az_ext τ ρ) : az_ext σ ρ := ⟨Nat.le_trans h1.1 h2.1, Nat.le_trans h1.2.1 h2.2.1, fun h => by
  obtain ⟨a1, b1⟩ := h1.2.2 h
  obtain ⟨a2, b2⟩ := h2.2.2 a1
  exact ⟨a2, fun base cs U h => b2 base cs U (b1 base cs U h)⟩⟩
def az_Met (l : Launch) (D : va_G) (cA : Nat → ClassId) (base : Nat) (cs : Nat → Nat) (d : Nat) (Y : MethodName) (bytes : ByteArray) (maxL : Nat) (ret : Option FieldType) (as : List Value) (σ : az_S) (r : Option Value) (τ : az_S) : Prop :=
  az_ok σ → Met l Y (az_ws1 Y bytes maxL ret) (az_rm d (az_n τ - az_n σ) (az_sl τ - az_sl σ)) (az_Pc D cA base cs as σ) (az_Qc D cA base cs r τ) (az_n τ - az_n σ) (az_sl τ - az_sl σ) (fun q => base ≤ q)
theorem az_GG (Y : MethodName) (bytes : ByteArray) (maxL : Nat) (ret : Option FieldType) (h : Cond.code Y bytes maxL ret ∈ az_G) : GoodIn az_G (az_ws1 Y bytes maxL ret) := by
  intro w hw
  have hw' : w ∈ az_G := by
    rcases List.mem_cons.mp hw with e | e
    · rw [e]; exact h
    · exact e
  exact ⟨hw', good_of_word (List.mem_filter.mp hw').2⟩
theorem az_blind {D : va_G} {cA : Nat → ClassId} {base : Nat} {cs : Nat → Nat} {as : List Value} {σ : az_S} : FrameBlind (az_Pc D cA base cs as σ) := by
  intro a U g mk h
  obtain ⟨h1, h2, h3, h4, h5⟩ := h
  exact ⟨h1, h2, h3, h4.same (s := U) (U := U.calling g mk a) rfl, h5.to (u := U) (U := U.calling g mk a) (Vm.Alike.refl U.vm) (fun _ _ _ => rfl)⟩
/-- what the tables must say of a call -/
def az_clink (own : String) (ins : Instr) (Y : MethodName) (bytes : ByteArray) (maxL : Nat) (ret : Option FieldType) (n kc : Nat) : Prop :=
  Cond.code Y bytes maxL ret ∈ az_G ∧ Cond.initialized Y.cls ∈ az_G ∧ (Y.cls ≠ "java/lang/invoke/MethodHandle" ∧ Y.cls ≠ "java/lang/invoke/VarHandle") ∧ maxL ≤ 60 ∧ match ins with
  | .invokevirtual i => (parseMethodDescriptor Y.desc).map (fun d => d.parameters.length + 1) = some n ∧ ((∃ q, vwCl[kc]? = some q ∧ Y.cls = q.1) ∨ (kc = 113 ∧ Y.cls = "java/lang/String")) ∧ Cond.methodLink own i Y ∈ az_G ∧ Cond.instanceMethod Y ∈ az_G ∧ Cond.selects Y.cls Y Y ∈ az_G
  | .invokestatic i => (parseMethodDescriptor Y.desc).map (fun d => d.parameters.length) = some n ∧ (Cond.methodLink own i Y ∈ az_G ∨ ∃ host, Cond.methodLinkNest own i Y host ∈ lw_tbl) ∧ Cond.static Y ∈ az_G
  | .invokespecial i => (parseMethodDescriptor Y.desc).map (fun d => d.parameters.length + 1) = some n ∧ kc < 999 ∧ ret = none ∧ Y.name = "<init>" ∧ (Cond.methodLink own i Y ∈ az_G ∨ ∃ host, Cond.methodLinkNest own i Y host ∈ lw_tbl) ∧ Cond.instanceMethod Y ∈ az_G
  | _ => False
theorem az_fit {a b n T : Nat} (h1 : a ≤ b) (h2 : n ≤ a) (h3 : b - n ≤ T) : a - n + (b - a) ≤ T := by omega
section AzCall
variable {p : Program} {l : Launch} {e : Env} {s : State} {m : MethodId} {args : Array Value} {below : List Frame} {meth : Method} {c : Code} {Q : State → Prop} {cc : ByteArray} {own : String}
variable {D : va_G} {cA : Nat → ClassId} {base : Nat} {cs : Nat → Nat} {nL n0 s0 : Nat}
/-- behind a call -/
theorem az_back {R : Room} {d pc mc ms : Nat} {σ τ : az_S} {L : az_V} {r : Option Value} {rest st0 : List Value} {H : Heap} {locs : List Loc} {ls : Array Slot} {a : Array Value} (hb0 : s.heap.size = base + n0) (hR : az_Rl D cA base cs s nL n0 s0 σ L H locs ls) (hext : az_ext σ τ) (hmc : mc = az_n τ - az_n σ) (hms : ms = az_sl τ - az_sl σ)
    (hr : va_Run p l e R s m args below meth c H locs (az_n σ - n0) (az_sl σ - s0) mc ms (F0 m pc ls st0) (rest.map (az_tr (az_ad base cs))) (az_Qc D cA base cs r τ a) (fun q => base ≤ q))
    (kk : ∀ (H' : Heap) (locs' : List Loc) (ls' : Array Slot), az_Rl D cA base cs s nL n0 s0 τ L H' locs' ls' → W p l e R s m args below meth c H' locs' (az_n τ - n0) (az_sl τ - s0) Q (F0 m (pc + 3) ls' ((r.toList ++ rest).map (az_tr (az_ad base cs))))) :
    W p l e R s m args below meth c H locs (az_n σ - n0) (az_sl σ - s0) Q (F0 m pc ls st0) := by
  obtain ⟨hP, hsz, hS, hok, hCc, hlv, hn0, hs0⟩ := id hR
  obtain ⟨hx1, hx2, hx3⟩ := hext
  obtain ⟨hok', hC'⟩ := hx3 hok
  intro T hT X
  obtain ⟨v, st₀, t, T', LL, h0, X', hL, e1, e2, ⟨hv, hP1, hz1, hfr⟩, st⟩ := hr T hT X
  cases hv
  have hS1 : va_S (fun q => base ≤ q) s.heap t.heap (locs ++ LL) := by
    refine ⟨?_, fun q h1 h2 => ?_, fun q hq => ?_⟩
    · rw [hz1, hb0]; omega
    · rw [hfr q (by omega), h0]; exact hS.2.1 q h1 h2
    · rcases List.mem_append.mp hq with h | h
      · exact hS.2.2 q h
      · exact hL q h
  have hR1 : az_Rl D cA base cs s nL n0 s0 τ L t.heap (locs ++ LL) ls := ⟨hP1, hz1, hS1, hok', hC' base cs s hCc, hlv, Nat.le_trans hn0 hx1, Nat.le_trans hs0 hx2⟩
  have eN : az_n σ - n0 + mc = az_n τ - n0 := by omega
  have eS : az_sl σ - s0 + ms = az_sl τ - s0 := by omega
  rw [eN, eS] at X'
  obtain ⟨t2, a1, b1⟩ := kk t.heap (locs ++ LL) ls hR1 T' e1 X'
  refine ⟨t2, st t2 ?_, b1⟩
  have ev : (r.map (az_tr (az_ad base cs))).toList ++ rest.map (az_tr (az_ad base cs)) = (r.toList ++ rest).map (az_tr (az_ad base cs)) := by
    cases r <;> simp
  show Steps p.tables e below (T'.setTop (F0 m (pc + 3) ls ((r.map (az_tr (az_ad base cs))).toList ++ rest.map (az_tr (az_ad base cs))))) t2
  rw [ev]
  exact a1
set_option maxHeartbeats 4000000 in
theorem az_sim_call {d pc n kc : Nat} {ins : Instr} {Y : MethodName} {bytes : ByteArray} {maxL : Nat} {ret : Option FieldType} {L : az_V} {st : List Value} {σ τ : az_S} {r : Option Value} {H : Heap} {locs : List Loc} {ls : Array Slot} {mcT msT : Nat} (hC : az_Cx D cA base cs p s m args c cc own) (hml : c.maxLocals = nL) (hb0 : s.heap.size = base + n0) (hd : decode cc pc = .ok (ins, 3)) (hl : az_clink own ins Y bytes maxL ret n kc)
    (hlen : n ≤ st.length) (hcat : ((st.drop n).map fun v => v.category).sum ≤ 8) (hrec : kc = 999 ∨ ∃ a, (st.take n).reverse.head? = some (.ref a) ∧ (az_sh σ a).1 = kc)
    (hext : az_ext σ τ) (hM : az_Met l D cA base cs d Y bytes maxL ret (st.take n).reverse σ r τ)
    (hR : az_Rl D cA base cs s nL n0 s0 σ L H locs ls) (hroom : az_n τ - n0 ≤ mcT ∧ az_sl τ - s0 ≤ msT)
    (kk : ∀ (H' : Heap) (locs' : List Loc) (ls' : Array Slot), az_Rl D cA base cs s nL n0 s0 τ L H' locs' ls' → W p l e (az_rm (d + 1) mcT msT) s m args below meth c H' locs' (az_n τ - n0) (az_sl τ - s0) Q (F0 m (pc + 3) ls' ((r.toList ++ st.drop n).map (az_tr (az_ad base cs))))) :
    W p l e (az_rm (d + 1) mcT msT) s m args below meth c H locs (az_n σ - n0) (az_sl σ - s0) Q (F0 m pc ls (st.map (az_tr (az_ad base cs)))) := by
  obtain ⟨hx, hb, hown, hts, hKx, hbase⟩ := hC
  obtain ⟨hP, hsz, hS, hok, hCc, hlv, hn0, hs0⟩ := id hR
  have hM1 := hM hok
  obtain ⟨hcode, hini, hy, hmL, hl⟩ := hl
  have hcat' : (((st.drop n).map (az_tr (az_ad base cs))).map fun v => v.category).sum ≤ 8 := by rw [az_tr_cats]; exact hcat
  have hsplit : st = (st.take n).reverse.reverse ++ st.drop n := by rw [List.reverse_reverse, List.take_append_drop]
  have hlen2 : (st.take n).reverse.length = n := by simp [Nat.min_eq_left hlen]
  generalize (st.take n).reverse = as at hsplit hlen2 hM1 hrec
  generalize st.drop n = rest at hsplit hcat' kk
  subst hsplit
  have hPre : ∀ U : State, U.heap = H → s.WarmedH U.vm → az_Pc D cA base cs as σ (as.map (az_tr (az_ad base cs))).toArray U := fun U hU hW => ⟨rfl, by rw [hU]; exact hsz, by rw [hU]; exact hP, hKx.warm hW, hCc.to hW.alike (fun q h1 h2 => by rw [hU]; exact hS.2.1 q h1 h2)⟩
  have hfit : az_n σ - n0 + (az_n τ - az_n σ) ≤ (az_rm (d + 1) mcT msT).cells ∧ az_sl σ - s0 + (az_sl τ - az_sl σ) ≤ (az_rm (d + 1) mcT msT).slots := by
    exact ⟨az_fit hext.1 hn0 hroom.1, az_fit hext.2.1 hs0 hroom.2⟩
  have hRm : (az_rm d (az_n τ - az_n σ) (az_sl τ - az_sl σ)).frames + 1 ≤ (az_rm (d + 1) mcT msT).frames ∧ 8 + (maxL + 11) + (az_rm d (az_n τ - az_n σ) (az_sl τ - az_sl σ)).locals ≤ (az_rm (d + 1) mcT msT).locals := by
    show d + 1 ≤ d + 1 ∧ 8 + (maxL + 11) + 80 * d ≤ 80 * (d + 1)
    omega
  have hGG := az_GG Y bytes maxL ret hcode
  have hnp : ∀ {k : Nat}, (parseMethodDescriptor Y.desc).map (fun d => d.parameters.length + 1) = some (k + 1) → (parseMethodDescriptor Y.desc).map (fun d => d.parameters.length) = some k := by
    intro k h
    cases hpd : parseMethodDescriptor Y.desc with
    | none => rw [hpd] at h; cases h
    | some sg => rw [hpd] at h; simp at h ⊢; exact h
  cases ins
  case invokevirtual i =>
    obtain ⟨hnp1, hcls, hlk, hin, hsel⟩ := hl
    have hrec' : ∃ a, as.head? = some (.ref a) ∧ (az_sh σ a).1 = kc := by
      rcases hrec with h | h
      · exfalso
        rcases hcls with ⟨q, hq, -⟩ | ⟨hq, -⟩
        · rw [h] at hq; simp [vwCl] at hq
        · omega
      · exact h
    obtain ⟨b0, hh, hkb⟩ := hrec'
    cases as with
    | nil => cases hh
    | cons v0 As =>
      cases hh
      cases n with
      | zero => cases hlen2
      | succ n =>
      have hAs : As.length = n := Nat.succ.inj hlen2
      have hrv : ∃ cellB : Cell, H[az_ad base cs b0]? = some cellB ∧ cellB.vm.isStatics = false ∧ s.vm.findClass Y.cls = some cellB.cls := by
        rcases hcls with ⟨q, hq, hYc⟩ | ⟨hk, hYc⟩
        · have hci : kc < 14 := by
            have := (List.getElem?_eq_some_iff.mp hq).1
            simpa [vwCl] using this
          obtain ⟨ha, -⟩ := hok.lt (a := b0) (by omega)
          rw [hYc]
          exact va_recv hKx.1 hP hq (q0 := b0) (by rw [az_ws_get ha, az_E_obj hkb hci])
        · have hg := hok.ge (a := b0) (by omega)
          have := (hCc.2.2.2.1 b0 (by rw [hkb, hk])).2.2
          rw [← az_ad_ge (base := base) (cs := cs) hg] at this
          rw [hYc]
          exact va_Orecv this hS
      refine az_back (d := d) (a := (Value.ref (az_ad base cs b0) :: As.map (az_tr (az_ad base cs))).toArray) hb0 hR hext rfl rfl (va_runV (C := Y.cls) (As := As.map (az_tr (az_ad base cs))) (n := n) ⟨hx, hb, hml, hown, hts⟩ hM1 ⟨callB_of (bytes := bytes) (maxL := maxL) (ret := ret) (ws' := az_G) n hts hGG rfl rfl rfl (hts _ hini) (hts _ hlk) ⟨hy.1, hy.2, hnp hnp1⟩ hRm, hts _ hin, hts _ hsel⟩ ⟨az_blind, hrv, hPre⟩ rfl (by simp [hAs]) hlv.1 ?_ (lv_room hcat') hd hfit) kk
      simp [az_tr, List.map_append, List.map_reverse]
  case invokestatic i =>
    obtain ⟨hnp1, hlk, hstt⟩ := hl
    have hst9 : (F0 m pc ls ((as.reverse ++ rest).map (az_tr (az_ad base cs)))).stack = (as.map (az_tr (az_ad base cs))).reverse ++ rest.map (az_tr (az_ad base cs)) := by simp [List.map_append, List.map_reverse]
    rcases hlk with hlk | ⟨host, hlk⟩
    · exact az_back (d := d) (a := (as.map (az_tr (az_ad base cs))).toArray) hb0 hR hext rfl rfl (va_runS (As := as.map (az_tr (az_ad base cs))) (n := n) ⟨hx, hb, hml, hown, hts⟩ hM1 ⟨callB_of (bytes := bytes) (maxL := maxL) (ret := ret) (ws' := az_G) n hts hGG rfl rfl rfl (hts _ hini) (hts _ hlk) ⟨hy.1, hy.2, hnp1⟩ hRm, hts _ hstt⟩ ⟨az_blind, hPre⟩ rfl (by simp [hlen2]) hlv.1 hst9 (lv_room hcat') hd hfit) kk
    · exact az_back (d := d) (a := (as.map (az_tr (az_ad base cs))).toArray) hb0 hR hext rfl rfl (va_runSN (As := as.map (az_tr (az_ad base cs))) (n := n) ⟨hx, hb, hml, hown, hts⟩ hM1 ⟨va_cnB (bytes := bytes) (maxL := maxL) (ret := ret) (ws' := az_G) n hts hGG rfl rfl rfl (hKx.2.1 _ hlk rfl) (hts _ hini) ⟨hy.1, hy.2, hnp1⟩ hRm, hts _ hstt, trivial⟩ ⟨az_blind, hPre⟩ rfl (by simp [hlen2]) hlv.1 hst9 (lv_room hcat') hd hfit) kk
  case invokespecial i =>
    obtain ⟨hnp1, hkc, hret, hnm, hlk, hin⟩ := hl
    subst hret
    have hrec' : ∃ a, as.head? = some (.ref a) ∧ (az_sh σ a).1 = kc := by
      rcases hrec with h | h
      · omega
      · exact h
    obtain ⟨b0, hh, hkb⟩ := hrec'
    cases as with
    | nil => cases hh
    | cons v0 As =>
      cases hh
      cases n with
      | zero => cases hlen2
      | succ n =>
      have hAs : As.length = n := Nat.succ.inj hlen2
      have hst9 : (F0 m pc ls (((Value.ref b0 :: As).reverse ++ rest).map (az_tr (az_ad base cs)))).stack = (As.map (az_tr (az_ad base cs))).reverse ++ .ref (az_ad base cs b0) :: rest.map (az_tr (az_ad base cs)) := by simp [az_tr, List.map_append, List.map_reverse]
      rcases hlk with hlk | ⟨host, hlk⟩
      · exact az_back (d := d) (a := (Value.ref (az_ad base cs b0) :: As.map (az_tr (az_ad base cs))).toArray) hb0 hR hext rfl rfl (va_runI (As := As.map (az_tr (az_ad base cs))) (n := n) ⟨hx, hb, hml, hown, hts⟩ hM1 ⟨callB_of (bytes := bytes) (maxL := maxL) (ret := none) (ws' := az_G) n hts hGG rfl rfl rfl (hts _ hini) (hts _ hlk) ⟨hy.1, hy.2, hnp hnp1⟩ hRm, hnm, hts _ hin⟩ ⟨az_blind, hPre⟩ rfl (by simp [hAs]) hlv.1 hst9 (lv_room hcat') hd hfit) kk
      · exact az_back (d := d) (a := (Value.ref (az_ad base cs b0) :: As.map (az_tr (az_ad base cs))).toArray) hb0 hR hext rfl rfl (va_runIN (As := As.map (az_tr (az_ad base cs))) (n := n) ⟨hx, hb, hml, hown, hts⟩ hM1 ⟨va_cnB (bytes := bytes) (maxL := maxL) (ret := none) (ws' := az_G) n hts hGG rfl rfl rfl (hKx.2.1 _ hlk rfl) (hts _ hini) ⟨hy.1, hy.2, hnp hnp1⟩ hRm, hnm, hts _ hin⟩ ⟨az_blind, hPre⟩ rfl (by simp [hAs]) hlv.1 hst9 (lv_room hcat') hd hfit) kk
  all_goals exact hl.elim
end AzCall
end
section
theorem az_ext.pi {σ : az_S} {a k : Nat} {v : Int32} (hk : (az_sh σ a).1 < 110) : az_ext σ (az_pi σ a k v) := ⟨Nat.le_refl _, Nat.le_refl _, fun h => ⟨h.pi, fun _ _ _ q => q.pi hk⟩⟩
theorem az_ext.pl {σ : az_S} {a k : Nat} {v : Int64} : az_ext σ (az_pl σ a k v) := ⟨Nat.le_refl _, Nat.le_refl _, fun h => ⟨h.pl, fun _ _ _ q => q.pl⟩⟩
theorem az_ext.pr {σ : az_S} {a k : Nat} {v : Option Nat} (hk : (az_sh σ a).1 < 110) : az_ext σ (az_pr σ a k v) := ⟨Nat.le_refl _, Nat.le_refl _, fun h => ⟨h.pr, fun _ _ _ q => q.pr hk⟩⟩
theorem az_ext.nw {σ : az_S} {kd mm : Nat} (hn : az_n σ < 1000000) (hk : kd < 110) : az_ext σ (az_nw σ kd mm) := ⟨Nat.le_succ _, Nat.le_add_right _ _, fun h => ⟨h.nw hn hk, fun _ _ _ q => q.nw h hn hk⟩⟩
theorem az_ft_lt {ci k : Nat} (h : az_ft ci k = 1 ∨ az_ft ci k = 2) : ci < 110 ∨ ci = 113 := by
  by_cases h1 : ci < 110
  · exact Or.inl h1
  by_cases h2 : ci = 113
  · exact Or.inr h2
  exfalso
  unfold az_ft at h
  split at h <;> first | omega | (rcases h with h | h <;> cases h)
set_option maxHeartbeats 4000000 in
theorem az_next_ext {pc len : Nat} {ins : Instr} {aux : List Nat} {L : az_V} {st : List Value} {σ : az_S} {F : az_F} (h : az_next pc len ins aux L st σ F) (hpf : ∀ i ci k, ins = .putfield i → aux = [ci, k] → ci < 14) : az_ext σ F.2.2.2 := by
  cases ins
  case iconst n => cases h; exact .rf
  case bipush n => cases h; exact .rf
  case sipush n => cases h; exact .rf
  case lconst n => cases h; exact .rf
  case aconst_null => cases h; exact .rf
  case iload_n k => obtain ⟨v, h1, rfl⟩ := h; exact .rf
  case iload k => obtain ⟨v, h1, rfl⟩ := h; exact .rf
  case lload_n k => obtain ⟨v, h1, rfl⟩ := h; exact .rf
  case lload k => obtain ⟨v, h1, rfl⟩ := h; exact .rf
  case aload_n k => obtain ⟨v, h1, rfl⟩ := h; exact .rf
  case aload k => obtain ⟨v, h1, rfl⟩ := h; exact .rf
  case istore_n k => obtain ⟨v, r, rfl, h2, rfl⟩ := h; exact .rf
  case istore k => obtain ⟨v, r, rfl, h2, rfl⟩ := h; exact .rf
  case lstore_n k => obtain ⟨v, r, rfl, h2, rfl⟩ := h; exact .rf
  case lstore k => obtain ⟨v, r, rfl, h2, rfl⟩ := h; exact .rf
  case astore_n k => obtain ⟨v, r, rfl, h2, rfl⟩ := h; exact .rf
  case astore k => obtain ⟨v, r, rfl, h2, rfl⟩ := h; exact .rf
  case iinc k n => obtain ⟨v, h1, rfl⟩ := h; exact .rf
  case iadd => obtain ⟨x, y, r, rfl, rfl⟩ := h; exact .rf
  case isub => obtain ⟨x, y, r, rfl, rfl⟩ := h; exact .rf
  case imul => obtain ⟨x, y, r, rfl, rfl⟩ := h; exact .rf
  case idiv => obtain ⟨x, y, r, rfl, h0, rfl⟩ := h; exact .rf
  case irem => obtain ⟨x, y, r, rfl, h0, rfl⟩ := h; exact .rf
  case iand => obtain ⟨x, y, r, rfl, rfl⟩ := h; exact .rf
  case ior => obtain ⟨x, y, r, rfl, rfl⟩ := h; exact .rf
  case ixor => obtain ⟨x, y, r, rfl, rfl⟩ := h; exact .rf
  case ishl => obtain ⟨x, y, r, rfl, rfl⟩ := h; exact .rf
  case ishr => obtain ⟨x, y, r, rfl, rfl⟩ := h; exact .rf
  case iushr => obtain ⟨x, y, r, rfl, rfl⟩ := h; exact .rf
  case ineg => obtain ⟨x, r, rfl, rfl⟩ := h; exact .rf
  case ladd => obtain ⟨x, y, r, rfl, rfl⟩ := h; exact .rf
  case lsub => obtain ⟨x, y, r, rfl, rfl⟩ := h; exact .rf
  case lmul => obtain ⟨x, y, r, rfl, rfl⟩ := h; exact .rf
  case ldiv => obtain ⟨x, y, r, rfl, h0, rfl⟩ := h; exact .rf
  case land => obtain ⟨x, y, r, rfl, rfl⟩ := h; exact .rf
  case lor => obtain ⟨x, y, r, rfl, rfl⟩ := h; exact .rf
  case lneg => obtain ⟨x, r, rfl, rfl⟩ := h; exact .rf
  case i2l => obtain ⟨x, r, rfl, rfl⟩ := h; exact .rf
  case l2i => obtain ⟨x, r, rfl, rfl⟩ := h; exact .rf
  case i2b => obtain ⟨x, r, rfl, rfl⟩ := h; exact .rf
  case i2c => obtain ⟨x, r, rfl, rfl⟩ := h; exact .rf
  case lcmp => obtain ⟨x, y, r, rfl, rfl⟩ := h; exact .rf
  case dup => obtain ⟨v, r, rfl, h1, rfl⟩ := h; exact .rf
  case pop => obtain ⟨v, r, rfl, h1, rfl⟩ := h; exact .rf
  case dup_x1 => obtain ⟨v, w, r, rfl, h1, h2, rfl⟩ := h; exact .rf
  case dup2 => obtain ⟨v, w, r, rfl, h1, h2, rfl⟩ := h; exact .rf
  case goto off => cases h; exact .rf
  case ifCond cd off => obtain ⟨x, r, rfl, ⟨h1, rfl⟩ | ⟨h1, rfl⟩⟩ := h <;> exact .rf
  case if_icmp cd off => obtain ⟨x, y, r, rfl, ⟨h1, rfl⟩ | ⟨h1, rfl⟩⟩ := h <;> exact .rf
  case if_acmp cd off => obtain ⟨x, r, rfl, rfl⟩ := h; exact .rf
  case ifnull off => obtain ⟨x, r, rfl, ⟨h1, rfl⟩ | ⟨h1, rfl⟩⟩ := h <;> exact .rf
  case tableswitch d lo hi offs => obtain ⟨x, r, rfl, ⟨h1, rfl⟩ | ⟨off, h1, h2, h3, rfl⟩⟩ := h <;> exact .rf
  case lookupswitch d ps => obtain ⟨x, r, rfl, h1, rfl⟩ := h; exact .rf
  case ldc i => obtain ⟨v, rfl, rfl⟩ | ⟨v, rfl, rfl⟩ := h <;> exact .rf
  case ldc_w i => obtain ⟨v, rfl, rfl⟩ := h; exact .rf
  case ldc2_w i => obtain ⟨v, rfl, rfl⟩ := h; exact .rf
  case getstatic i => obtain ⟨k, kd, rfl, rfl⟩ := h; exact .rf
  case getfield i => obtain ⟨ci, k, a, r, rfl, rfl, hk, rfl⟩ := h; exact .rf
  case putfield i =>
    obtain ⟨ci, k, a, rfl, hk, h⟩ := h
    have hci := hpf i ci k rfl rfl
    obtain ⟨_, v, r, rfl, rfl⟩ | ⟨_, v, r, rfl, rfl⟩ | ⟨_, v, r, rfl, rfl⟩ := h
    · exact .pi (by omega)
    · exact .pl
    · exact .pr (by omega)
  case iaload => obtain ⟨i, a, r, rfl, hk, hin, rfl⟩ := h; exact .rf
  case baload => obtain ⟨i, a, r, rfl, hk, hin, rfl⟩ := h; exact .rf
  case laload => obtain ⟨i, a, r, rfl, hk, hin, rfl⟩ := h; exact .rf
  case aaload => obtain ⟨i, a, r, rfl, hk, hin, rfl⟩ := h; exact .rf
  case iastore => obtain ⟨x, i, a, r, rfl, hk, hin, rfl⟩ := h; exact .pi (by omega)
  case bastore => obtain ⟨x, i, a, r, rfl, hin, ⟨hk, rfl⟩ | ⟨hk, rfl⟩⟩ := h <;> exact .pi (by omega)
  case lastore => obtain ⟨x, i, a, r, rfl, hk, hin, rfl⟩ := h; exact .pl
  case aastore => obtain ⟨v, i, a, r, rfl, hk, hkv, hin, rfl⟩ := h; exact .pr (by omega)
  case arraylength => obtain ⟨a, r, rfl, hk, rfl⟩ := h; exact .rf
  case newarray t =>
    obtain ⟨n, r, rfl, h1, h2, h3, h4, rfl⟩ := h
    refine .nw h4 ?_
    cases t <;> decide
  case anewarray i => obtain ⟨n, r, rfl, h1, h2, h3, rfl⟩ := h; exact .nw h3 (by decide)
  case new i => obtain ⟨ci, rfl, h1, h2, rfl⟩ := h; exact .nw h2 (by omega)
  case checkcast i => obtain ⟨ci, a, r, rfl, hci, rfl, hk, rfl⟩ := h; exact .rf
  all_goals exact h.elim
/-- an array of references filled out of another -/
abbrev az_cp (σ : az_S) (a b n : Nat) : az_S := (σ.1, σ.2.1, σ.2.2.1, σ.2.2.2.1, σ.2.2.2.2.1, va_up σ.2.2.2.2.2 b (va_cpy (az_r σ a) (az_r σ b) 0 0 n))
theorem az_ext.cp {σ : az_S} {a b n : Nat} (hk : (az_sh σ b).1 < 110) : az_ext σ (az_cp σ a b n) := by
  refine ⟨Nat.le_refl _, Nat.le_refl _, fun h => ⟨h, fun _ _ _ q => ?_⟩⟩
  refine q.upd fun x hx => ?_
  have hb' : 110 ≤ (az_sh σ x).1 := by rcases hx with h | h <;> exact h.1
  have e : x ≠ b := fun e => by subst e; omega
  exact ⟨rfl, rfl, by simp [az_r, va_up, e]⟩
theorem az_E_cp {cA : Nat → ClassId} {ad : Nat → Nat} {σ : az_S} {a b n x : Nat} (h : x ≠ b) : az_E cA ad (az_cp σ a b n) x = az_E cA ad σ x := by
  have hf : ∀ j q, az_fv (az_cp σ a b n) x j q = az_fv σ x j q := by
    intro j q
    unfold az_fv
    split <;> simp [az_i, az_l, az_r, va_up, h]
  unfold az_E
  simp only [hf]
  simp [az_i, az_l, az_r, az_sh, va_up, h]
/-- what the tables must say of the three calls that stand for a step -/
def az_slink (own : String) (k : Nat) (ins : Instr) : Prop := match ins with
  | .invokespecial i => k = 3 ∧ Cond.methodLink own i Lib.objectInit ∈ az_G ∧ Cond.instanceMethod Lib.objectInit ∈ az_G ∧ Cond.code Lib.objectInit ⟨#[0xb1]⟩ 1 none ∈ az_G
  | .invokevirtual i => k = 4 ∧ Cond.methodLink own i ⟨"java/lang/Object", "getClass", "()Ljava/lang/Class;"⟩ ∈ az_G ∧ Cond.selects "[Ljava/lang/Object;" ⟨"java/lang/Object", "getClass", "()Ljava/lang/Class;"⟩ ⟨"java/lang/Object", "getClass", "()Ljava/lang/Class;"⟩ ∈ az_G ∧ Cond.instanceMethod ⟨"java/lang/Object", "getClass", "()Ljava/lang/Class;"⟩ ∈ az_G ∧ Cond.native ⟨"java/lang/Object", "getClass", "()Ljava/lang/Class;"⟩ ∈ az_G
  | .invokestatic i => k = 5 ∧ Cond.methodLink own i arraycopyName ∈ az_G ∧ Cond.native arraycopyName ∈ az_G ∧ Cond.static arraycopyName ∈ az_G ∧ Cond.initialized "java/lang/System" ∈ az_G
  | _ => False
section AzSpec
variable {p : Program} {l : Launch} {e : Env} {s : State} {m : MethodId} {args : Array Value} {below : List Frame} {meth : Method} {c : Code} {Q : State → Prop} {cc : ByteArray} {own : String}
variable {D : va_G} {cA : Nat → ClassId} {base : Nat} {cs : Nat → Nat} {nL n0 s0 : Nat}
set_option maxHeartbeats 4000000 in
theorem az_sim_spec {d pc k : Nat} {ins : Instr} {E : Nat → List Value → az_S → Option Value → az_S → Prop} {L : az_V} {st : List Value} {σ : az_S} {F : az_F} {H : Heap} {locs : List Loc} {ls : Array Slot} {mcT msT : Nat} (hC : az_Cx D cA base cs p s m args c cc own) (hml : c.maxLocals = nL) (hb0 : s.heap.size = base + n0) (hd : decode cc pc = .ok (ins, 3)) (hl : az_slink own k ins) (hn : az_step E pc 3 ins [1, 2, k] L st σ F)
    (hR : az_Rl D cA base cs s nL n0 s0 σ L H locs ls)
    (kk : ∀ (H' : Heap) (locs' : List Loc) (ls' : Array Slot), az_Rl D cA base cs s nL n0 s0 F.2.2.2 F.2.1 H' locs' ls' → W p l e (az_rm (d + 1) mcT msT) s m args below meth c H' locs' (az_n F.2.2.2 - n0) (az_sl F.2.2.2 - s0) Q (F0 m F.1 ls' (F.2.2.1.map (az_tr (az_ad base cs))))) :
    W p l e (az_rm (d + 1) mcT msT) s m args below meth c H locs (az_n σ - n0) (az_sl σ - s0) Q (F0 m pc ls (st.map (az_tr (az_ad base cs)))) := by
  obtain ⟨hx, hb, hown, hts, hKx, hbase⟩ := hC
  obtain ⟨hP, hsz, hS, hok, hCc, hlv, hn0, hs0⟩ := id hR
  have hfr : 1 ≤ (az_rm (d + 1) mcT msT).frames := Nat.le_add_left 1 d
  have hlo : 80 ≤ (az_rm (d + 1) mcT msT).locals := by show 80 ≤ 80 * (d + 1); omega
  cases ins
  case invokespecial i =>
    obtain ⟨rfl, h1, h2, h3⟩ := hl
    obtain ⟨-, a, r, rfl, hcat, rfl⟩ := hn
    have hcat' : ((r.map (az_tr (az_ad base cs))).map fun v => v.category).sum ≤ 8 := by rw [az_tr_cats]; exact hcat
    refine W.objInit (a := az_ad base cs a) (rest := r.map (az_tr (az_ad base cs))) hx hb hown (hts _ h1) (hts _ h2) (hts _ h3) rfl (by rw [hml]; exact hlv.1) rfl hd hfr ?_ (kk H locs ls hR)
    show 2 * 0 + _ + 12 ≤ _
    omega
  case invokevirtual i =>
    obtain ⟨rfl, h1, h2, h3, h4⟩ := hl
    obtain ⟨-, a, r, rfl, hcat, hk, rfl⟩ := hn
    have hcat' : ((r.map (az_tr (az_ad base cs))).map fun v => v.category).sum ≤ 8 := by rw [az_tr_cats]; exact hcat
    obtain ⟨ha, -⟩ := hok.lt (a := a) (by omega)
    have hg := hP a _ (az_ws_get ha)
    rw [az_E_ref hk] at hg
    have hnm := va_nmO (nm := "[Ljava/lang/Object;") (hKx.1.2 4 _ rfl).2 rfl
    have h9 := kk H locs ls hR
    exact va_getC (C := "[Ljava/lang/Object;") (mi := cs 1000005) hx hb (by rw [hml]; exact hlv.1.symm) hown (hts _ h1) (va_Dc.use hKx.2.2.2.2.1) (hts _ h2) (hts _ h3) (hts _ h4) hKx.2.2.2.1 ⟨_, hg, rfl, hnm⟩ hfr (by omega) hd h9
  case invokestatic i =>
    obtain ⟨rfl, h1, h2, h3, h4⟩ := hl
    obtain ⟨-, n, a, r, b, rfl, hn1, hcat, hka, hkb, hab, hla, hlb, hel, rfl⟩ := hn
    have hcat' : ((r.map (az_tr (az_ad base cs))).map fun v => v.category).sum ≤ 8 := by rw [az_tr_cats]; exact hcat
    have hD := az_D (cA := cA) (base := base) (cs := cs) hok.2.1
    obtain ⟨ha, -⟩ := hok.lt (a := a) (by omega)
    obtain ⟨hb2, -⟩ := hok.lt (a := b) (by omega)
    have hga := (az_ws_get (cA := cA) (ad := az_ad base cs) ha).trans (by rw [az_E_ref hka])
    have hgb := (az_ws_get (cA := cA) (ad := az_ad base cs) hb2).trans (by rw [az_E_ref hkb])
    refine va_copyM (E0 := "java/lang/Object") (E1 := "java/lang/Object") (sp := 0) (dp := 0) (n := n) (rest := r.map (az_tr (az_ad base cs))) hx hb (by rw [hml]; exact hlv.1.symm) hown (hts _ h1) (hts _ h2) (hts _ h3) (hts _ h4) hKx.1 hP hD hS a b 4 4 hga hgb rfl rfl (by decide) (by decide) hn1 (by rw [sb_cl0]; omega) (by rw [sb_cl0]; omega) ?_ hfr ?_ hd (fun H1 locs1 hP1 _ hS1 => az_sized (fun hz => kk H1 locs1 ls (hR.set (a := b) (τ := az_cp σ a b n.toNatClampNeg) rfl rfl hz hb0 ?_ (fun x hx => az_E_cp hx) hS1 hok ((az_ext.cp (by omega)).2.2 hok |>.2 base cs s hCc))))
    · intro i hi y hy
      rw [sb_cl0, Nat.zero_add] at hy
      obtain ⟨v, hv1, hv2⟩ := hel i hi
      rw [hv1] at hy
      cases hy
      obtain ⟨q, hq⟩ := az_clt _ hv2
      obtain ⟨hv, -⟩ := hok.lt (a := v) (by omega)
      refine va_rAny hKx.1 hP (q0 := v) (by rw [az_ws_get hv, az_E_obj rfl hv2]) hq ?_
      intro comp c0 hc1 hc2
      obtain ⟨c3, t3, f1, f2, f3⟩ := Cond.castable_spec (va_Nw.use (A := args) rfl (hKx.2.1 _ (az_ccast _ q hq) rfl))
      cases hc1.symm.trans f2
      cases hc2.symm.trans f1
      exact f3
    · have : nativeFrameWords "java/lang/System" "arraycopy" 5 ≤ 40 := by decide
      omega
    · have e : (fun j => (az_r (az_cp σ a b n.toNatClampNeg) b j).map (az_ad base cs)) = va_cpy (fun j => (az_r σ a j).map (az_ad base cs)) (fun j => (az_r σ b j).map (az_ad base cs)) 0 0 n.toNatClampNeg := by
        funext j
        simp only [az_r, va_up, if_true, va_cpy]
        split <;> rfl
      rw [az_E_ref (σ := az_cp σ a b n.toNatClampNeg) hkb, e]
      rw [sb_cl0] at hP1
      exact hP1
  all_goals exact hl.elim
end AzSpec
end
section
/-! RUNS: a frame of the abstract machine from its entry to its return, and the contract that it gives -/
abbrev az_M : Type := MethodName × ByteArray × Nat × Option FieldType
def az_lk (ms : Nat → Option az_M) (own nm : String) (ins : Instr) (aux : List Nat) : Prop := match aux with
  | [0, y, n, kc] => ∃ M, ms y = some M ∧ az_clink own ins M.1 M.2.1 M.2.2.1 M.2.2.2 n kc
  | [1, 2, k] => az_slink own k ins
  | _ => az_link own nm ins aux
def az_iok (ms : Nat → Option az_M) (own nm : String) (cc : ByteArray) (q : az_I) : Prop := decode cc q.1 = .ok (q.2.2.1, q.2.1) ∧ (az_il q.2.2.1 = 0 ∨ az_il q.2.2.1 = q.2.1) ∧ az_jok q.1 q.2.2.1 ∧ az_lk ms own nm q.2.2.1 q.2.2.2
theorem az_lk_plain {ms : Nat → Option az_M} {own nm : String} {ins : Instr} {aux : List Nat} {pc len : Nat} {L : az_V} {st : List Value} {σ : az_S} {F : az_F} (h : az_lk ms own nm ins aux) (g1 : ∀ y n kc, aux = [0, y, n, kc] → False) (hn : az_next pc len ins aux L st σ F) : az_link own nm ins aux := by
  unfold az_lk at h
  split at h
  · exact (g1 _ _ _ rfl).elim
  · cases ins <;> first | exact h.elim | exact hn.elim
  · exact h
theorem az_fetch_in {pc : Nat} {x : Nat × Instr × List Nat} : ∀ {cd : List az_I}, az_fetch cd pc = some x → (pc, x) ∈ cd := by
  intro cd
  induction cd with
  | nil => intro h; cases h
  | cons q r ih =>
    intro h
    unfold az_fetch at h
    split at h
    · rename_i e
      cases h
      rw [← e]
      exact List.mem_cons_self
    · exact List.mem_cons_of_mem _ (ih h)
theorem az_step_ext {ms : Nat → Option az_M} {own nm : String} {cc : ByteArray} {E : Nat → List Value → az_S → Option Value → az_S → Prop} (hE : ∀ y as σ r τ, E y as σ r τ → az_ext σ τ) {pc len : Nat} {ins : Instr} {aux : List Nat} {L : az_V} {st : List Value} {σ : az_S} {F : az_F} (hok : az_iok ms own nm cc (pc, len, ins, aux)) (h : az_step E pc len ins aux L st σ F) : az_ext σ F.2.2.2 := by
  obtain ⟨-, -, -, hl⟩ := hok
  unfold az_step at h
  split at h
  · obtain ⟨-, -, -, -, r, τ, h1, rfl⟩ := h
    exact hE _ _ _ _ _ h1
  · obtain ⟨-, a, r, rfl, -, rfl⟩ := h
    exact .rf
  · obtain ⟨-, a, r, rfl, -, -, rfl⟩ := h
    exact .rf
  · obtain ⟨-, n, a, r, b, rfl, -, -, hka, hkb, -, -, -, -, rfl⟩ := h
    exact az_ext.cp (by omega)
  · rename_i n1 n2 n3 n4
    have hl2 := az_lk_plain hl n1 h
    refine az_next_ext h ?_
    intro i ci k e1 e2
    subst e1
    subst e2
    obtain ⟨ci', k', q, hax, hq, -⟩ := hl2
    cases hax
    have := (List.getElem?_eq_some_iff.mp hq).1
    simpa [vwCl] using this
theorem az_run_ext {ms : Nat → Option az_M} {own nm : String} {cc : ByteArray} {E : Nat → List Value → az_S → Option Value → az_S → Prop} (hE : ∀ y as σ r τ, E y as σ r τ → az_ext σ τ) {cd : List az_I} (hcd : ∀ q ∈ cd, az_iok ms own nm cc q) {rt : Option FieldType} {r : Option Value} {t : az_S} : ∀ (k : Nat) (G : az_F), az_run E cd rt r t k G → az_ext G.2.2.2 t := by
  intro k
  induction k with
  | zero => intro G h; exact h.elim
  | succ k ih =>
    intro G h
    obtain ⟨len, ins, aux, hf, h⟩ := h
    rcases h with ⟨-, h⟩ | ⟨F, h1, h2⟩
    · rw [h]; exact .rf
    · exact (az_step_ext hE (hcd _ (az_fetch_in hf)) h1).tr (ih F h2)
section AzRun
variable {p : Program} {l : Launch} {e : Env} {s : State} {m : MethodId} {args : Array Value} {below : List Frame} {meth : Method} {c : Code} {Q : State → Prop} {cc : ByteArray} {own : String}
variable {D : va_G} {cA : Nat → ClassId} {base : Nat} {cs : Nat → Nat} {nL n0 s0 : Nat}
set_option maxHeartbeats 4000000 in
/-- one step -/
theorem az_sim_step {ms : Nat → Option az_M} {d pc len : Nat} {ins : Instr} {aux : List Nat} {E : Nat → List Value → az_S → Option Value → az_S → Prop} {L : az_V} {st : List Value} {σ : az_S} {F : az_F} {H : Heap} {locs : List Loc} {ls : Array Slot} {mcT msT : Nat} (hC : az_Cx D cA base cs p s m args c cc own) (hml : c.maxLocals = nL) (hb0 : s.heap.size = base + n0)
    (hE : ∀ y as σ r τ, E y as σ r τ → az_ext σ τ ∧ ∀ M, ms y = some M → az_Met l D cA base cs d M.1 M.2.1 M.2.2.1 M.2.2.2 as σ r τ)
    (hok : az_iok ms own meth.name cc (pc, len, ins, aux)) (hn : az_step E pc len ins aux L st σ F)
    (hR : az_Rl D cA base cs s nL n0 s0 σ L H locs ls) (hroom : az_n F.2.2.2 - n0 ≤ mcT ∧ az_sl F.2.2.2 - s0 ≤ msT)
    (kk : ∀ (H' : Heap) (locs' : List Loc) (ls' : Array Slot), az_Rl D cA base cs s nL n0 s0 F.2.2.2 F.2.1 H' locs' ls' → W p l e (az_rm (d + 1) mcT msT) s m args below meth c H' locs' (az_n F.2.2.2 - n0) (az_sl F.2.2.2 - s0) Q (F0 m F.1 ls' (F.2.2.1.map (az_tr (az_ad base cs))))) :
    W p l e (az_rm (d + 1) mcT msT) s m args below meth c H locs (az_n σ - n0) (az_sl σ - s0) Q (F0 m pc ls (st.map (az_tr (az_ad base cs)))) := by
  obtain ⟨hd, hil, hj, hl⟩ := hok
  unfold az_step at hn
  split at hn
  · rename_i y n kc
    obtain ⟨rfl, h1, h2, h3, r, τ, h4, rfl⟩ := hn
    obtain ⟨M, hM, hcl⟩ := hl
    obtain ⟨hx, hmt⟩ := hE _ _ _ _ _ h4
    exact az_sim_call hC hml hb0 hd hcl h1 h2 h3 hx (hmt M hM) hR hroom kk
  · obtain ⟨rfl, h⟩ := hn
    exact az_sim_spec (k := 3) (E := E) hC hml hb0 hd hl ⟨rfl, h⟩ hR kk
  · obtain ⟨rfl, h⟩ := hn
    exact az_sim_spec (k := 4) (E := E) hC hml hb0 hd hl ⟨rfl, h⟩ hR kk
  · obtain ⟨rfl, h⟩ := hn
    exact az_sim_spec (k := 5) (E := E) hC hml hb0 hd hl ⟨rfl, h⟩ hR kk
  · rename_i g1 g2 g3 g4
    have hl := az_lk_plain hl g1 hn
    cases ins
    case getfield i => exact az_sim_get hC hn hd (hil.resolve_left (by simp [az_il])).symm hl hR (fun ls' h => kk H locs ls' h)
    case putfield i => exact az_sim_put hC hb0 hn hd (hil.resolve_left (by simp [az_il])).symm hl hR kk
    case new i => exact az_sim_d hC hb0 hn hd (hil.resolve_left (by simp [az_il])) hl trivial hR hroom kk
    case newarray i => exact az_sim_d hC hb0 hn hd (hil.resolve_left (by simp [az_il])) hl trivial hR hroom kk
    case anewarray i => exact az_sim_d hC hb0 hn hd (hil.resolve_left (by simp [az_il])) hl trivial hR hroom kk
    case iastore => exact az_sim_c hC hb0 hn hd (hil.resolve_left (by simp [az_il])) trivial hR kk
    case bastore => exact az_sim_c hC hb0 hn hd (hil.resolve_left (by simp [az_il])) trivial hR kk
    case lastore => exact az_sim_c hC hb0 hn hd (hil.resolve_left (by simp [az_il])) trivial hR kk
    case aastore => exact az_sim_c hC hb0 hn hd (hil.resolve_left (by simp [az_il])) trivial hR kk
    case checkcast i => exact az_sim_b hC hn hd (hil.resolve_left (by simp [az_il])) hl trivial hR (fun ls' h => kk H locs ls' h)
    case getstatic i => exact az_sim_b hC hn hd (hil.resolve_left (by simp [az_il])) hl trivial hR (fun ls' h => kk H locs ls' h)
    case ldc i => exact az_sim_b hC hn hd (hil.resolve_left (by simp [az_il])) hl trivial hR (fun ls' h => kk H locs ls' h)
    case ldc_w i => exact az_sim_b hC hn hd (hil.resolve_left (by simp [az_il])) hl trivial hR (fun ls' h => kk H locs ls' h)
    case ldc2_w i => exact az_sim_b hC hn hd (hil.resolve_left (by simp [az_il])) hl trivial hR (fun ls' h => kk H locs ls' h)
    case iaload => exact az_sim_b hC hn hd (hil.resolve_left (by simp [az_il])) hl trivial hR (fun ls' h => kk H locs ls' h)
    case baload => exact az_sim_b hC hn hd (hil.resolve_left (by simp [az_il])) hl trivial hR (fun ls' h => kk H locs ls' h)
    case laload => exact az_sim_b hC hn hd (hil.resolve_left (by simp [az_il])) hl trivial hR (fun ls' h => kk H locs ls' h)
    case aaload => exact az_sim_b hC hn hd (hil.resolve_left (by simp [az_il])) hl trivial hR (fun ls' h => kk H locs ls' h)
    case arraylength => exact az_sim_b hC hn hd (hil.resolve_left (by simp [az_il])) hl trivial hR (fun ls' h => kk H locs ls' h)
    all_goals exact az_sim_a hC hn hd hil hj trivial hR (fun ls' h => kk H locs ls' h)
/-- a run of a frame -/
theorem az_sim_run {ms : Nat → Option az_M} {d : Nat} {E : Nat → List Value → az_S → Option Value → az_S → Prop} {cd : List az_I} {rt : Option FieldType} {r : Option Value} {t : az_S} {mcT msT : Nat} (hC : az_Cx D cA base cs p s m args c cc own) (hml : c.maxLocals = nL) (hb0 : s.heap.size = base + n0)
    (hE : ∀ y as σ r τ, E y as σ r τ → az_ext σ τ ∧ ∀ M, ms y = some M → az_Met l D cA base cs d M.1 M.2.1 M.2.2.1 M.2.2.2 as σ r τ)
    (hcd : ∀ q ∈ cd, az_iok ms own meth.name cc q) (hroom : az_n t - n0 ≤ mcT ∧ az_sl t - s0 ≤ msT)
    (hret : ∀ (pc len : Nat) (ins : Instr) (L : az_V) (st : List Value) (H : Heap) (locs : List Loc) (ls : Array Slot), decode cc pc = .ok (ins, len) → (az_il ins = 0 ∨ az_il ins = len) → az_ret ins rt st r → az_Rl D cA base cs s nL n0 s0 t L H locs ls → W p l e (az_rm (d + 1) mcT msT) s m args below meth c H locs (az_n t - n0) (az_sl t - s0) Q (F0 m pc ls (st.map (az_tr (az_ad base cs))))) :
    ∀ (k : Nat) (G : az_F), az_run E cd rt r t k G → ∀ (H : Heap) (locs : List Loc) (ls : Array Slot), az_Rl D cA base cs s nL n0 s0 G.2.2.2 G.2.1 H locs ls → W p l e (az_rm (d + 1) mcT msT) s m args below meth c H locs (az_n G.2.2.2 - n0) (az_sl G.2.2.2 - s0) Q (F0 m G.1 ls (G.2.2.1.map (az_tr (az_ad base cs)))) := by
  intro k
  induction k with
  | zero => intro G h; exact h.elim
  | succ k ih =>
    intro G h H locs ls hR
    obtain ⟨len, ins, aux, hf, h⟩ := h
    have hq := hcd _ (az_fetch_in hf)
    rcases h with ⟨h1, h2⟩ | ⟨F, h1, h2⟩
    · rw [h2] at hR ⊢
      exact hret _ _ _ _ _ _ _ _ hq.1 hq.2.1 h1 hR
    · have hx := az_run_ext (fun y as σ r τ h => (hE y as σ r τ h).1) hcd k F h2
      refine az_sim_step hC hml hb0 hE hq h1 hR ?_ (fun H' locs' ls' hR' => ih F h2 H' locs' ls' hR')
      have a1 := hx.1
      have a2 := hx.2.1
      exact ⟨Nat.le_trans (Nat.sub_le_sub_right a1 _) hroom.1, Nat.le_trans (Nat.sub_le_sub_right a2 _) hroom.2⟩
end AzRun
def az_sl0 (as : List Value) : az_V := as.flatMap (fun v => if v.category = 2 then [some v, none] else [some v])
def az_entry (as : List Value) (maxL : Nat) : az_V := az_sl0 as ++ List.replicate (maxL - (az_sl0 as).length) none
theorem az_sl0_len (ad : Nat → Nat) (as : List Value) : (lg_sl (as.map (az_tr ad))).length = (az_sl0 as).length := by
  induction as with
  | nil => rfl
  | cons v r ih =>
    have h1 : (lg_sl ((v :: r).map (az_tr ad))).length = (if v.category = 2 then 2 else 1) + (lg_sl (r.map (az_tr ad))).length := by
      simp only [lg_sl, List.map_cons, List.flatMap_cons, List.length_append, az_tr_cat]
      split <;> rfl
    have h2 : (az_sl0 (v :: r)).length = (if v.category = 2 then 2 else 1) + (az_sl0 r).length := by
      simp only [az_sl0, List.flatMap_cons, List.length_append]
      split <;> rfl
    rw [h1, h2, ih]
theorem az_sl0_get (ad : Nat → Nat) (as : List Value) : ∀ (i : Nat) (v : Value), (az_sl0 as)[i]? = some (some v) → (lg_sl (as.map (az_tr ad)))[i]? = some (.val (az_tr ad v)) := by
  induction as with
  | nil => intro i v h; simp [az_sl0] at h
  | cons w r ih =>
    intro i v h
    by_cases hc : w.category = 2
    · have e1 : az_sl0 (w :: r) = some w :: none :: az_sl0 r := by simp [az_sl0, hc]
      have e2 : lg_sl ((w :: r).map (az_tr ad)) = .val (az_tr ad w) :: .second :: lg_sl (r.map (az_tr ad)) := by simp [lg_sl, az_tr_cat, hc]
      rw [e1] at h
      rw [e2]
      match i, h with
      | 0, h => simp at h; simp [h]
      | 1, h => simp at h
      | i + 2, h => simp at h ⊢; simpa using ih i v h
    · have e1 : az_sl0 (w :: r) = some w :: az_sl0 r := by simp [az_sl0, hc]
      have e2 : lg_sl ((w :: r).map (az_tr ad)) = .val (az_tr ad w) :: lg_sl (r.map (az_tr ad)) := by simp [lg_sl, az_tr_cat, hc]
      rw [e1] at h
      rw [e2]
      match i, h with
      | 0, h => simp at h; simp [h]
      | i + 1, h => simp at h ⊢; simpa using ih i v h
theorem az_entry_lv (ad : Nat → Nat) (as : List Value) {maxL : Nat} (h : (az_sl0 as).length ≤ maxL) : az_lv ad ((lg_sl (as.map (az_tr ad)) ++ List.replicate (maxL - (lg_sl (as.map (az_tr ad))).length) Slot.unset).toArray) maxL (az_entry as maxL) := by
  have hl := az_sl0_len ad as
  obtain ⟨h1, h2, -⟩ := lv_entry (as.map (az_tr ad)) (n := maxL) (by rw [hl]; exact h)
  refine ⟨h1, by simp [az_entry]; omega, h2, fun i v hi => ?_⟩
  unfold az_get az_entry at hi
  by_cases hlt : i < (az_sl0 as).length
  · rw [List.getElem?_append_left hlt] at hi
    have : (az_sl0 as)[i]? = some (some v) := by
      revert hi
      split
      · intro e; rename_i u hu; rw [hu, e]
      · intro e; cases e
    have := az_sl0_get ad as i v this
    rw [List.getElem?_toArray, List.getElem?_append_left (by rw [hl]; exact hlt)]
    exact this
  · rw [List.getElem?_append_right (by omega)] at hi
    exfalso
    revert hi
    split
    · intro e
      rename_i u hu
      rw [e] at hu
      have := List.mem_of_getElem? hu
      simp at this
    · intro e; cases e
/-- calls, by their depth -/
def az_ev (ms : Nat → Option az_M) (cds : Nat → List az_I) : Nat → Nat → List Value → az_S → Option Value → az_S → Prop
  | 0, _, _, _, _, _ => False
  | d + 1, y, as, σ, r, τ => ∃ M k, ms y = some M ∧ (az_sl0 as).length ≤ M.2.2.1 ∧ az_run (az_ev ms cds d) (cds y) M.2.2.2 r τ k (0, az_entry as M.2.2.1, [], σ)
set_option maxHeartbeats 4000000 in
theorem az_met {ms : Nat → Option az_M} {cds : Nat → List az_I} (hT : ∀ y M, ms y = some M → plainFor M.1 = true ∧ ∀ q ∈ cds y, az_iok ms M.1.cls M.1.name M.2.1 q) (l : Launch) (D : va_G) (cA : Nat → ClassId) (base : Nat) (cs : Nat → Nat) : ∀ (d y : Nat) (as : List Value) (σ : az_S) (r : Option Value) (τ : az_S), az_ev ms cds d y as σ r τ → az_ext σ τ ∧ ∀ M, ms y = some M → az_Met l D cA base cs d M.1 M.2.1 M.2.2.1 M.2.2.2 as σ r τ := by
  intro d
  induction d with
  | zero => intro y as σ r τ h; exact h.elim
  | succ d ih =>
    intro y as σ r τ h
    obtain ⟨M, k, hM, hlen, hrun⟩ := h
    obtain ⟨hpn, hcd⟩ := hT y M hM
    have hext : az_ext σ τ := az_run_ext (fun y as σ r τ h => (ih y as σ r τ h).1) hcd k _ hrun
    refine ⟨hext, fun M' hM' => ?_⟩
    cases hM.symm.trans hM'
    obtain ⟨Y, bytes, maxL, ret⟩ := M
    intro hok
    refine va_MetF (cc := bytes) (maxL := maxL) (ret := ret) (ws' := az_G) hpn rfl ?_
    intro p e s m args below meth c s₁ B hml hv
    obtain ⟨hargs, hsz, hP, hKx, hCc⟩ := hv
    subst hargs
    have hx := B.exec
    have hb := B.bytes
    have hr : meth.sig.returnType = ret := B.returns
    have hts0 := atoms_spec (ws := az_ws1 Y bytes maxL ret) B.pre
    have hown : s.vm.findClass Y.cls = some m.cls := findClass_of_methodNamed B.named
    have hlocks := B.notSynchronized
    have hin : meth.name = Y.name := (name_of_methodNamed B.named B.method).1
    have hC : az_Cx D cA base cs p s m (as.map (az_tr (az_ad base cs))).toArray c bytes Y.cls := ⟨hx, hb, hown, fun w hw => hts0 w (List.mem_cons_of_mem _ hw), hKx, by rw [hsz]; exact Nat.le_add_right _ _⟩
    have hlv := az_entry_lv (az_ad base cs) as hlen
    rw [lg_entry_eq]
    have hR : az_Rl D cA base cs s maxL (az_n σ) (az_sl σ) σ (az_entry as maxL) s.heap [] ((lg_sl (as.map (az_tr (az_ad base cs))) ++ List.replicate (maxL - (lg_sl (as.map (az_tr (az_ad base cs)))).length) Slot.unset).toArray) := ⟨hP, hsz, va_S.rf, hok, hCc, hlv, Nat.le_refl _, Nat.le_refl _⟩
    have hmain := az_sim_run (p := p) (l := l) (e := e) (below := below) (meth := meth) (Q := MQ below (az_Qc D cA base cs r τ) (as.map (az_tr (az_ad base cs))).toArray s (az_n τ - az_n σ) (az_sl τ - az_sl σ) (fun q => base ≤ q)) (ms := ms) (d := d) (mcT := az_n τ - az_n σ) (msT := az_sl τ - az_sl σ) (n0 := az_n σ) (s0 := az_sl σ) hC hml hsz ih (by rw [hin]; exact hcd) ⟨Nat.le_refl _, Nat.le_refl _⟩ ?_ k _ hrun s.heap [] _ hR
    · simp only [Nat.sub_self] at hmain
      exact hmain
    · intro pc len ins L st H locs ls hd hil hrt hR9
      obtain ⟨hP9, hsz9, hS9, hok9, hC9, hlv9, -, -⟩ := hR9
      have hq : ∀ t : State, t.heap = H → az_Qc D cA base cs r τ (as.map (az_tr (az_ad base cs))).toArray s (.returned (r.map (az_tr (az_ad base cs)))) t := fun t ht => ⟨rfl, by rw [ht]; exact hP9, by rw [ht]; exact hsz9, fun q hq => by rw [ht]; exact hS9.2.1 q (by omega) (by omega)⟩
      cases ins
      case return_ =>
        cases hil.resolve_left (by simp [az_il])
        obtain ⟨h1, rfl, rfl⟩ := hrt
        exact W.vret hx hb (hr.trans h1) (fun t ht _ => hq t ht) hS9.2.2 hd
      case ireturn =>
        cases hil.resolve_left (by simp [az_il])
        obtain ⟨v, ty, h1, h2, rfl, rfl⟩ := hrt
        exact W.zret hx hb (hr.trans h1) h2 (fun t ht _ => hq t ht) hS9.2.2 hd
      case lreturn =>
        cases hil.resolve_left (by simp [az_il])
        obtain ⟨v, h1, rfl, rfl⟩ := hrt
        exact W.lret hx hb (hr.trans h1) (fun t ht _ => hq t ht) hS9.2.2 hd
      case areturn =>
        cases hil.resolve_left (by simp [az_il])
        obtain ⟨o, rt', h1, h2, rfl, rfl⟩ := hrt
        have e9 : [va_rf o].map (az_tr (az_ad base cs)) = [va_rf (o.map (az_ad base cs))] := by simp only [List.map_cons, List.map_nil, az_tr_rf]
        rw [e9]
        refine W.aret hx hb (hr.trans h1) h2 (va_rf_or _) (fun t ht _ => ?_) hS9.2.2 hd
        have := hq t ht
        simp only [Option.map_some, az_tr_rf] at this
        exact this
      all_goals exact hrt.elim
end
section
/-! LINKS: the constant pools, checked entry by entry; an instruction's check speaks of numbers alone -/
abbrev az_P : Type := Nat × Nat × Nat × List Nat × List Nat
def az_ol : List String := [RX0, RX1, RX2, RX3, RX4, RX5, RX6, RX7, RX8, RX9, RX10, RX11, RX12, RJx4a65c, RJxc12de, RJxa1e45, RJ0, RJ1, RJ2, RJ3, RJ6, RJ7, RJ8, RJ9, RJ15, RL]
def az_o (o : Nat) : String := az_ol.getD o ""
def az_tk1 (k : Nat) : List Cond := match k with
  | 0 => k2_sels lw_privs
  | 1 => tables_1_1
  | 2 => tables_1_2
  | 3 => tables_1_3
  | 4 => tables_1_4
  | 5 => tables_1_5
  | 6 => tables_1_6
  | 7 => tables_1_7
  | 8 => tables_1_8
  | 9 => tables_1_9
  | _ => []
theorem az_tk1_in {k : Nat} {c : Cond} (h : c ∈ az_tk1 k) : c ∈ lw_tbl := by
  unfold lw_tbl tables_1
  unfold az_tk1 at h
  simp only [List.mem_append]
  split at h <;> first | (simp only [h, true_or, or_true]; done) | (cases h; done)
/-- the word at a place is this one, and a good one -/
def az_is (w : Nat) (c : Cond) : Bool := decide ((az_tk1 (w / 1000))[w % 1000]? = some c) && goodWord c
theorem az_is_in {w : Nat} {c : Cond} (h : az_is w c = true) : c ∈ az_G := by
  simp only [az_is, Bool.and_eq_true, decide_eq_true_eq] at h
  exact List.mem_filter.mpr ⟨az_tk1_in (List.mem_of_getElem? h.1), h.2⟩
def az_isT (w : Nat) (c : Cond) : Bool := decide ((az_tk1 (w / 1000))[w % 1000]? = some c)
theorem az_isT_in {w : Nat} {c : Cond} (h : az_isT w c = true) : c ∈ lw_tbl := az_tk1_in (List.mem_of_getElem? (of_decide_eq_true h))
/-- what an entry of a pool says -/
def az_pok (ms : Nat → Option az_M) (o i tag : Nat) (aux : List Nat) : Prop := match tag with
  | 0 => ∃ ci k q, aux = [ci, k] ∧ vwCl[ci]? = some q ∧ k < q.2.2 ∧ az_fl (az_o o) i q k
  | 1 => ∃ ci k q, aux = [ci, k] ∧ vwCl[ci]? = some q ∧ k < q.2.2 ∧ (q.2.1 k).1 = az_o o ∧ Cond.fieldLink (az_o o) i (q.2.1 k).1 (q.2.1 k).2.1 (q.2.1 k).2.2.1 ∈ az_G
  | 3 => (aux = [113, 0] ∧ Cond.fieldLink (az_o o) i "java/lang/String" "value" "[B" ∈ az_G) ∨ (aux = [113, 1] ∧ Cond.fieldLink (az_o o) i "java/lang/String" "coder" "B" ∈ az_G)
  | 4 => ∃ k kd q, aux = [k, kd] ∧ az_st[k]? = some q ∧ q.2.2.2 = kd ∧ Cond.fieldLink (az_o o) i q.1 q.2.1 q.2.2.1 ∈ az_G
  | 5 => ∃ ci q, aux = [ci] ∧ vwCl[ci]? = some q ∧ Cond.classLink (az_o o) i q.1 ∈ az_G ∧ Cond.instantiable q.1 q.2.2 ∈ az_G ∧ Cond.initialized q.1 ∈ az_G
  | 6 => ∃ ci q, aux = [ci] ∧ vwCl[ci]? = some q ∧ Cond.classLink (az_o o) i q.1 ∈ az_G
  | 7 => Cond.classLink (az_o o) i "java/lang/Object" ∈ az_G
  | 8 => ∃ v, aux = [0, v] ∧ Cond.constant (az_o o) i (Int32.ofNat v) ∈ az_G
  | 9 => aux = [1, 1000005] ∧ Cond.classLink (az_o o) i "[Ljava/lang/Object;" ∈ az_G
  | 10 => ∃ q ∈ az_ss, q.1 = az_o o ∧ q.2.1 = i ∧ aux = [1, q.2.2.2]
  | 11 => ∃ v, aux = [v] ∧ Cond.constantLong (az_o o) i (Int64.ofNat v) ∈ az_G
  | 20 => ∃ y n kc M, aux = [0, y, n, kc] ∧ ms y = some M ∧ (parseMethodDescriptor M.1.desc).map (fun d => d.parameters.length + 1) = some n ∧ ((∃ q, vwCl[kc]? = some q ∧ M.1.cls = q.1) ∨ (kc = 113 ∧ M.1.cls = "java/lang/String")) ∧ Cond.methodLink (az_o o) i M.1 ∈ az_G ∧ Cond.instanceMethod M.1 ∈ az_G ∧ Cond.selects M.1.cls M.1 M.1 ∈ az_G
  | 21 => ∃ y n kc M, aux = [0, y, n, kc] ∧ ms y = some M ∧ (parseMethodDescriptor M.1.desc).map (fun d => d.parameters.length) = some n ∧ (Cond.methodLink (az_o o) i M.1 ∈ az_G ∨ ∃ host, Cond.methodLinkNest (az_o o) i M.1 host ∈ lw_tbl) ∧ Cond.static M.1 ∈ az_G
  | 22 => ∃ y n kc M, aux = [0, y, n, kc] ∧ ms y = some M ∧ (parseMethodDescriptor M.1.desc).map (fun d => d.parameters.length + 1) = some n ∧ kc < 999 ∧ M.2.2.2 = none ∧ M.1.name = "<init>" ∧ (Cond.methodLink (az_o o) i M.1 ∈ az_G ∨ ∃ host, Cond.methodLinkNest (az_o o) i M.1 host ∈ lw_tbl) ∧ Cond.instanceMethod M.1 ∈ az_G
  | 30 => aux = [1, 2, 3] ∧ az_slink (az_o o) 3 (.invokespecial i)
  | 31 => aux = [1, 2, 4] ∧ az_slink (az_o o) 4 (.invokevirtual i)
  | 32 => aux = [1, 2, 5] ∧ az_slink (az_o o) 5 (.invokestatic i)
  | _ => False
def az_pb (ms : Nat → Option az_M) (e : az_P) : Bool := match e with
  | (o, i, 0, [ci, k], [w]) => match vwCl[ci]? with
    | some q => decide (k < q.2.2) && (az_is w (.fieldLink (az_o o) i (q.2.1 k).1 (q.2.1 k).2.1 (q.2.1 k).2.2.1) || az_isT w (.fieldLinkNest (az_o o) i (q.2.1 k).1 (q.2.1 k).2.1 (q.2.1 k).2.2.1 "ShadeRegister"))
    | none => false
  | (o, i, 0, [ci, k], [w, w2]) => match vwCl[ci]? with
    | some q => decide (k < q.2.2) && (az_is w (.fieldLink (az_o o) i "java/util/ArrayList" (q.2.1 k).2.1 (q.2.1 k).2.2.1) && az_is w2 (.sameField "java/util/ArrayList" (q.2.1 k).1 (q.2.1 k).2.1 (q.2.1 k).2.2.1))
    | none => false
  | (o, i, 1, [ci, k], [w]) => match vwCl[ci]? with
    | some q => decide (k < q.2.2) && (decide ((q.2.1 k).1 = az_o o) && az_is w (.fieldLink (az_o o) i (q.2.1 k).1 (q.2.1 k).2.1 (q.2.1 k).2.2.1))
    | none => false
  | (o, i, 3, [113, 0], [w]) => az_is w (.fieldLink (az_o o) i "java/lang/String" "value" "[B")
  | (o, i, 3, [113, 1], [w]) => az_is w (.fieldLink (az_o o) i "java/lang/String" "coder" "B")
  | (o, i, 4, [k, kd], [w]) => match az_st[k]? with
    | some q => decide (q.2.2.2 = kd) && az_is w (.fieldLink (az_o o) i q.1 q.2.1 q.2.2.1)
    | none => false
  | (o, i, 5, [ci], [w, w2, w3]) => match vwCl[ci]? with
    | some q => az_is w (.classLink (az_o o) i q.1) && (az_is w2 (.instantiable q.1 q.2.2) && az_is w3 (.initialized q.1))
    | none => false
  | (o, i, 6, [ci], [w]) => match vwCl[ci]? with
    | some q => az_is w (.classLink (az_o o) i q.1)
    | none => false
  | (o, i, 7, [], [w]) => az_is w (.classLink (az_o o) i "java/lang/Object")
  | (o, i, 8, [0, v], [w]) => az_is w (.constant (az_o o) i (Int32.ofNat v))
  | (o, i, 9, [1, 1000005], [w]) => az_is w (.classLink (az_o o) i "[Ljava/lang/Object;")
  | (o, i, 10, [1, v], []) => az_ss.any (fun q => decide (q.1 = az_o o) && (decide (q.2.1 = i) && decide (q.2.2.2 = v)))
  | (o, i, 11, [v], [w]) => az_is w (.constantLong (az_o o) i (Int64.ofNat v))
  | (o, i, 20, [0, y, n, kc], [w, w2, w3]) => match ms y with
    | some M => decide ((parseMethodDescriptor M.1.desc).map (fun d => d.parameters.length + 1) = some n) && ((match vwCl[kc]? with | some q => decide (M.1.cls = q.1) | none => decide (kc = 113) && decide (M.1.cls = "java/lang/String")) && (az_is w (.methodLink (az_o o) i M.1) && (az_is w2 (.instanceMethod M.1) && az_is w3 (.selects M.1.cls M.1 M.1))))
    | none => false
  | (o, i, 21, [0, y, n, _], [w, w2]) => match ms y with
    | some M => decide ((parseMethodDescriptor M.1.desc).map (fun d => d.parameters.length) = some n) && ((az_is w (.methodLink (az_o o) i M.1) || az_isT w (.methodLinkNest (az_o o) i M.1 "ShadeRegister")) && az_is w2 (.static M.1))
    | none => false
  | (o, i, 22, [0, y, n, kc], [w, w2]) => match ms y with
    | some M => decide ((parseMethodDescriptor M.1.desc).map (fun d => d.parameters.length + 1) = some n) && (decide (kc < 999) && (decide (M.2.2.2 = none) && (decide (M.1.name = "<init>") && ((az_is w (.methodLink (az_o o) i M.1) || az_isT w (.methodLinkNest (az_o o) i M.1 "ShadeRegister")) && az_is w2 (.instanceMethod M.1)))))
    | none => false
  | (o, i, 30, [1, 2, 3], [w]) => az_is w (.methodLink (az_o o) i Lib.objectInit)
  | (o, i, 31, [1, 2, 4], [w]) => az_is w (.methodLink (az_o o) i ⟨"java/lang/Object", "getClass", "()Ljava/lang/Class;"⟩)
  | (o, i, 32, [1, 2, 5], [w]) => az_is w (.methodLink (az_o o) i arraycopyName)
  | _ => false
end
section
theorem az_oi1 : Cond.instanceMethod Lib.objectInit ∈ az_G := az_is_in (w := 1033) (by decide +kernel)
theorem az_oi2 : Cond.code Lib.objectInit ⟨#[0xb1]⟩ 1 none ∈ az_G := az_is_in (w := 1034) (by decide +kernel)
theorem az_gc1 : Cond.selects "[Ljava/lang/Object;" ⟨"java/lang/Object", "getClass", "()Ljava/lang/Class;"⟩ ⟨"java/lang/Object", "getClass", "()Ljava/lang/Class;"⟩ ∈ az_G := az_is_in (w := 9009) (by decide +kernel)
theorem az_gc2 : Cond.instanceMethod ⟨"java/lang/Object", "getClass", "()Ljava/lang/Class;"⟩ ∈ az_G := az_is_in (w := 2162) (by decide +kernel)
theorem az_gc3 : Cond.native ⟨"java/lang/Object", "getClass", "()Ljava/lang/Class;"⟩ ∈ az_G := az_is_in (w := 2178) (by decide +kernel)
theorem az_ac1 : Cond.native arraycopyName ∈ az_G := az_is_in (w := 2188) (by decide +kernel)
theorem az_ac2 : Cond.static arraycopyName ∈ az_G := az_is_in (w := 2187) (by decide +kernel)
theorem az_ac3 : Cond.initialized "java/lang/System" ∈ az_G := az_is_in (w := 1017) (by decide +kernel)
set_option maxHeartbeats 4000000 in
theorem az_pb_ok {ms : Nat → Option az_M} {e : az_P} (h : az_pb ms e = true) : az_pok ms e.1 e.2.1 e.2.2.1 e.2.2.2.1 := by
  unfold az_pb at h
  split at h
  · split at h
    · rename_i q hq
      simp only [Bool.and_eq_true, Bool.or_eq_true, decide_eq_true_eq] at h
      obtain ⟨h1, h2 | h2⟩ := h
      · exact ⟨_, _, q, rfl, hq, h1, Or.inl (az_is_in h2)⟩
      · exact ⟨_, _, q, rfl, hq, h1, Or.inr (Or.inl ⟨_, az_isT_in h2⟩)⟩
    · cases h
  · split at h
    · rename_i q hq
      simp only [Bool.and_eq_true, decide_eq_true_eq] at h
      obtain ⟨h1, h2, h3⟩ := h
      exact ⟨_, _, q, rfl, hq, h1, Or.inr (Or.inr ⟨_, az_is_in h2, az_is_in h3⟩)⟩
    · cases h
  · split at h
    · rename_i q hq
      simp only [Bool.and_eq_true, decide_eq_true_eq] at h
      obtain ⟨h1, h2, h3⟩ := h
      exact ⟨_, _, q, rfl, hq, h1, h2, az_is_in h3⟩
    · cases h
  · exact Or.inl ⟨rfl, az_is_in h⟩
  · exact Or.inr ⟨rfl, az_is_in h⟩
  · split at h
    · rename_i q hq
      simp only [Bool.and_eq_true, decide_eq_true_eq] at h
      obtain ⟨h1, h2⟩ := h
      exact ⟨_, _, q, rfl, hq, h1, az_is_in h2⟩
    · cases h
  · split at h
    · rename_i q hq
      simp only [Bool.and_eq_true] at h
      obtain ⟨h1, h2, h3⟩ := h
      exact ⟨_, q, rfl, hq, az_is_in h1, az_is_in h2, az_is_in h3⟩
    · cases h
  · split at h
    · rename_i q hq
      exact ⟨_, q, rfl, hq, az_is_in h⟩
    · cases h
  · exact az_is_in h
  · exact ⟨_, rfl, az_is_in h⟩
  · exact ⟨rfl, az_is_in h⟩
  · obtain ⟨q, hq, h⟩ := List.any_eq_true.mp h
    simp only [Bool.and_eq_true, decide_eq_true_eq] at h
    obtain ⟨h1, h2, h3⟩ := h
    exact ⟨q, hq, h1, h2, by rw [h3]⟩
  · exact ⟨_, rfl, az_is_in h⟩
  · split at h
    · rename_i M hM
      simp only [Bool.and_eq_true, decide_eq_true_eq] at h
      obtain ⟨h1, h2, h3, h4, h5⟩ := h
      refine ⟨_, _, _, M, rfl, hM, h1, ?_, az_is_in h3, az_is_in h4, az_is_in h5⟩
      split at h2
      · rename_i q hq
        exact Or.inl ⟨q, hq, of_decide_eq_true h2⟩
      · simp only [Bool.and_eq_true, decide_eq_true_eq] at h2
        exact Or.inr h2
    · cases h
  · split at h
    · rename_i M hM
      simp only [Bool.and_eq_true, Bool.or_eq_true, decide_eq_true_eq] at h
      obtain ⟨h1, h2, h3⟩ := h
      refine ⟨_, _, _, M, rfl, hM, h1, ?_, az_is_in h3⟩
      rcases h2 with h2 | h2
      · exact Or.inl (az_is_in h2)
      · exact Or.inr ⟨_, az_isT_in h2⟩
    · cases h
  · split at h
    · rename_i M hM
      simp only [Bool.and_eq_true, Bool.or_eq_true, decide_eq_true_eq] at h
      obtain ⟨h1, h2, h3, h4, h5, h6⟩ := h
      refine ⟨_, _, _, M, rfl, hM, h1, h2, h3, h4, ?_, az_is_in h6⟩
      rcases h5 with h5 | h5
      · exact Or.inl (az_is_in h5)
      · exact Or.inr ⟨_, az_isT_in h5⟩
    · cases h
  · exact ⟨rfl, rfl, az_is_in h, az_oi1, az_oi2⟩
  · exact ⟨rfl, rfl, az_is_in h, az_gc1, az_gc2, az_gc3⟩
  · exact ⟨rfl, rfl, az_is_in h, az_ac1, az_ac2, az_ac3⟩
  · cases h
theorem az_at1 : Cond.arrayClass .int ∈ az_G := az_is_in (w := 1058) (by decide +kernel)
theorem az_at2 : Cond.arrayClass .boolean ∈ az_G := az_is_in (w := 1200) (by decide +kernel)
theorem az_at3 : Cond.arrayClass .byte ∈ az_G := az_is_in (w := 5061) (by decide +kernel)
theorem az_at4 : Cond.arrayClass .long ∈ az_G := az_is_in (w := 1141) (by decide +kernel)
def az_has (pool : List az_P) (o i tag : Nat) (aux : List Nat) : Bool := pool.any (fun e => e.1 == o && (e.2.1 == i && (e.2.2.1 == tag && e.2.2.2.1 == aux)))
theorem az_has_ok {ms : Nat → Option az_M} {pool : List az_P} (hp : ∀ e ∈ pool, az_pb ms e = true) {o i tag : Nat} {aux : List Nat} (h : az_has pool o i tag aux = true) : az_pok ms o i tag aux := by
  obtain ⟨e, he, h⟩ := List.any_eq_true.mp h
  simp only [Bool.and_eq_true, beq_iff_eq] at h
  obtain ⟨h1, h2, h3, h4⟩ := h
  have := az_pb_ok (hp e he)
  rw [h1, h2, h3, h4] at this
  exact this
/-- the check of an instruction's links -/
def az_ic (pool : List az_P) (o : Nat) (ini : Bool) (ins : Instr) (aux : List Nat) : Bool := match ins with
  | .getfield i => az_has pool o i 0 aux || az_has pool o i 3 aux
  | .putfield i => match aux with
    | [ci, k] => match vwCl[ci]? with
      | some q => if (q.2.1 k).2.2.2 then ini && az_has pool o i 1 [ci, k] else az_has pool o i 0 [ci, k]
      | none => false
    | _ => false
  | .new i => az_has pool o i 5 aux
  | .checkcast i => az_has pool o i 6 aux
  | .anewarray i => az_has pool o i 7 aux && aux.isEmpty
  | .newarray t => aux.isEmpty && match t with
    | .int => true
    | .boolean => true
    | .byte => true
    | .long => true
    | _ => false
  | .getstatic i => az_has pool o i 4 aux
  | .ldc i => az_has pool o i 8 aux || (az_has pool o i 9 aux || az_has pool o i 10 aux)
  | .ldc_w i => az_has pool o i 8 aux
  | .ldc2_w i => az_has pool o i 11 aux
  | .invokevirtual i => az_has pool o i 20 aux || az_has pool o i 31 aux
  | .invokestatic i => az_has pool o i 21 aux || az_has pool o i 32 aux
  | .invokespecial i => az_has pool o i 22 aux || az_has pool o i 30 aux
  | _ => aux.isEmpty
/-- what must hold of a method besides its instructions -/
def az_mok (ms : Nat → Option az_M) : Prop := ∀ y M, ms y = some M → Cond.code M.1 M.2.1 M.2.2.1 M.2.2.2 ∈ az_G ∧ Cond.initialized M.1.cls ∈ az_G ∧ (M.1.cls ≠ "java/lang/invoke/MethodHandle" ∧ M.1.cls ≠ "java/lang/invoke/VarHandle") ∧ M.2.2.1 ≤ 60
theorem az_lk1 {ms : Nat → Option az_M} {own nm : String} {ins : Instr} {a : Nat} (h : az_link own nm ins [a]) : az_lk ms own nm ins [a] := by
  unfold az_lk
  split
  · rename_i heq; cases heq
  · rename_i heq; cases heq
  · exact h
theorem az_lk2 {ms : Nat → Option az_M} {own nm : String} {ins : Instr} {a b : Nat} (h : az_link own nm ins [a, b]) : az_lk ms own nm ins [a, b] := by
  unfold az_lk
  split
  · rename_i heq; cases heq
  · rename_i heq; cases heq
  · exact h
set_option maxHeartbeats 4000000 in
theorem az_ic_ok {ms : Nat → Option az_M} {pool : List az_P} (hp : ∀ e ∈ pool, az_pb ms e = true) (hm : az_mok ms) {o : Nat} {nm : String} {ini : Bool} (hini : ini = true → nm = "<init>") {ins : Instr} {aux : List Nat} (h : az_ic pool o ini ins aux = true) : az_lk ms (az_o o) nm ins aux := by
  cases ins
  case getfield i =>
    simp only [az_ic, Bool.or_eq_true] at h
    rcases h with h | h
    · obtain ⟨ci, k, q, rfl, h1⟩ := az_has_ok hp h
      exact az_lk2 (Or.inl ⟨ci, k, q, rfl, h1⟩)
    · rcases az_has_ok hp h with ⟨rfl, h1⟩ | ⟨rfl, h1⟩
      · exact az_lk2 (Or.inr (Or.inl ⟨rfl, h1⟩))
      · exact az_lk2 (Or.inr (Or.inr ⟨rfl, h1⟩))
  case putfield i =>
    simp only [az_ic] at h
    split at h
    · split at h
      · rename_i ci k q hq
        split at h
        · rename_i hf
          simp only [Bool.and_eq_true] at h
          obtain ⟨ci', k', q', e, hq', h1, h2, h3⟩ := az_has_ok hp h.2
          cases e
          cases hq.symm.trans hq'
          exact az_lk2 ⟨_, _, q, rfl, hq, h1, Or.inr ⟨hf, hini h.1, h2, h3⟩⟩
        · rename_i hf
          obtain ⟨ci', k', q', e, hq', h1, h2⟩ := az_has_ok hp h
          cases e
          cases hq.symm.trans hq'
          exact az_lk2 ⟨_, _, q, rfl, hq, h1, Or.inl ⟨by simpa using hf, h2⟩⟩
      · cases h
    · cases h
  case new i =>
    obtain ⟨ci, q, rfl, h1⟩ := az_has_ok hp (show az_has pool o i 5 aux = true from h)
    exact az_lk1 ⟨ci, q, rfl, h1⟩
  case checkcast i =>
    obtain ⟨ci, q, rfl, h1⟩ := az_has_ok hp (show az_has pool o i 6 aux = true from h)
    exact az_lk1 ⟨ci, q, rfl, h1⟩
  case anewarray i =>
    simp only [az_ic, Bool.and_eq_true] at h
    have h1 := az_has_ok hp h.1
    have e : aux = [] := List.isEmpty_iff.mp h.2
    subst e
    exact h1
  case newarray t =>
    simp only [az_ic, Bool.and_eq_true] at h
    have e : aux = [] := List.isEmpty_iff.mp h.1
    subst e
    have h2 := h.2
    cases t <;> first | exact az_at1 | exact az_at2 | exact az_at3 | exact az_at4 | (cases h2; done)
  case getstatic i =>
    obtain ⟨k, kd, q, rfl, h1⟩ := az_has_ok hp (show az_has pool o i 4 aux = true from h)
    exact az_lk2 ⟨k, kd, q, rfl, h1⟩
  case ldc i =>
    simp only [az_ic, Bool.or_eq_true] at h
    rcases h with h | h | h
    · obtain ⟨v, rfl, h1⟩ := az_has_ok hp h
      exact az_lk2 (Or.inl ⟨v, rfl, h1⟩)
    · obtain ⟨rfl, h1⟩ := az_has_ok hp h
      exact az_lk2 (Or.inr (Or.inl ⟨rfl, h1⟩))
    · obtain ⟨q, hq, h1, h2, rfl⟩ := az_has_ok hp h
      exact az_lk2 (Or.inr (Or.inr ⟨q, hq, h1, h2, rfl⟩))
  case ldc_w i =>
    obtain ⟨v, rfl, h1⟩ := az_has_ok hp (show az_has pool o i 8 aux = true from h)
    exact az_lk2 ⟨v, rfl, h1⟩
  case ldc2_w i =>
    obtain ⟨v, rfl, h1⟩ := az_has_ok hp (show az_has pool o i 11 aux = true from h)
    exact az_lk1 ⟨v, rfl, h1⟩
  case invokevirtual i =>
    simp only [az_ic, Bool.or_eq_true] at h
    rcases h with h | h
    · obtain ⟨y, n, kc, M, rfl, hM, h1⟩ := az_has_ok hp h
      obtain ⟨m1, m2, m3, m4⟩ := hm y M hM
      exact ⟨M, hM, m1, m2, m3, m4, h1⟩
    · obtain ⟨rfl, h1⟩ := az_has_ok hp h
      exact h1
  case invokestatic i =>
    simp only [az_ic, Bool.or_eq_true] at h
    rcases h with h | h
    · obtain ⟨y, n, kc, M, rfl, hM, h1⟩ := az_has_ok hp h
      obtain ⟨m1, m2, m3, m4⟩ := hm y M hM
      exact ⟨M, hM, m1, m2, m3, m4, h1⟩
    · obtain ⟨rfl, h1⟩ := az_has_ok hp h
      exact h1
  case invokespecial i =>
    simp only [az_ic, Bool.or_eq_true] at h
    rcases h with h | h
    · obtain ⟨y, n, kc, M, rfl, hM, h1⟩ := az_has_ok hp h
      obtain ⟨m1, m2, m3, m4⟩ := hm y M hM
      exact ⟨M, hM, m1, m2, m3, m4, h1⟩
    · obtain ⟨rfl, h1⟩ := az_has_ok hp h
      exact h1
  all_goals
    have e : aux = [] := List.isEmpty_iff.mp h
    subst e
    trivial
def az_jb (pc : Nat) (ins : Instr) : Bool := match ins with
  | .goto off => decide (0 ≤ (pc : Int) + off)
  | .ifCond _ off => decide (0 ≤ (pc : Int) + off)
  | .if_icmp _ off => decide (0 ≤ (pc : Int) + off)
  | .if_acmp _ off => decide (0 ≤ (pc : Int) + off)
  | .ifnull off => decide (0 ≤ (pc : Int) + off)
  | .tableswitch d _ _ offs => decide (0 ≤ (pc : Int) + d) && offs.toList.all (fun o => decide (0 ≤ (pc : Int) + o))
  | .lookupswitch d ps => decide (0 ≤ (pc : Int) + d) && ps.toList.all (fun o => decide (0 ≤ (pc : Int) + o.2))
  | _ => true
theorem az_jb_ok {pc : Nat} {ins : Instr} (h : az_jb pc ins = true) : az_jok pc ins := by
  cases ins <;> first | trivial | exact of_decide_eq_true h | (simp only [az_jb, Bool.and_eq_true, decide_eq_true_eq] at h; exact h)
/-- the check of a method's text -/
def az_tc (pool : List az_P) (o : Nat) (ini : Bool) (cc : ByteArray) (q : az_I) : Bool := decide (decode cc q.1 = .ok (q.2.2.1, q.2.1)) && ((decide (az_il q.2.2.1 = 0) || decide (az_il q.2.2.1 = q.2.1)) && (az_jb q.1 q.2.2.1 && az_ic pool o ini q.2.2.1 q.2.2.2))
theorem az_tc_ok {ms : Nat → Option az_M} {pool : List az_P} (hp : ∀ e ∈ pool, az_pb ms e = true) (hm : az_mok ms) (o : Nat) (ini : Bool) {nm : String} (hini : ini = true → nm = "<init>") {cc : ByteArray} {cd : List az_I} (h : cd.all (az_tc pool o ini cc) = true) : ∀ q ∈ cd, az_iok ms (az_o o) nm cc q := by
  intro q hq
  have h := List.all_eq_true.mp h q hq
  simp only [az_tc, Bool.and_eq_true, Bool.or_eq_true, decide_eq_true_eq] at h
  obtain ⟨h1, h2, h3, h4⟩ := h
  exact ⟨h1, h2, az_jb_ok h3, az_ic_ok hp hm hini h4⟩
end
section
set_option maxRecDepth 20000 in
def k_X0_init : List az_I := [
  (0, 1, .aload_n 0, []), (1, 3, .invokespecial 3, [1, 2, 3]), (4, 1, .aload_n 0, []), (5, 1, .iload_n 1, []), (6, 3, .putfield 9, [1, 0]), (9, 1, .aload_n 0, []),
  (10, 1, .aload_n 2, []), (11, 3, .putfield 15, [1, 1]), (14, 1, .aload_n 0, []), (15, 1, .iload_n 3, []), (16, 3, .putfield 19, [1, 2]), (19, 1, .aload_n 0, []),
  (20, 2, .iload 4, []), (22, 3, .putfield 22, [1, 3]), (25, 1, .aload_n 0, []), (26, 2, .iload 5, []), (28, 3, .putfield 25, [1, 4]), (31, 1, .aload_n 0, []),
  (32, 2, .iload 6, []), (34, 3, .putfield 28, [1, 5]), (37, 1, .return_, [])]
set_option maxRecDepth 20000 in
def k_X0_limit : List az_I := [
  (0, 1, .aload_n 0, []), (1, 1, .iload_n 1, []), (2, 2, .bipush 16, []), (4, 1, .idiv, []), (5, 3, .putfield 31, [1, 6]), (8, 1, .aload_n 0, []),
  (9, 1, .iload_n 1, []), (10, 2, .bipush 16, []), (12, 1, .irem, []), (13, 3, .putfield 34, [1, 7]), (16, 1, .aload_n 0, []), (17, 1, .iload_n 2, []),
  (18, 2, .bipush 16, []), (20, 1, .idiv, []), (21, 3, .putfield 37, [1, 8]), (24, 1, .aload_n 0, []), (25, 1, .iload_n 2, []), (26, 2, .bipush 16, []),
  (28, 1, .irem, []), (29, 3, .putfield 40, [1, 9]), (32, 1, .aload_n 0, []), (33, 1, .iload_n 3, []), (34, 3, .putfield 43, [1, 10]), (37, 1, .aload_n 0, []),
  (38, 2, .iload 4, []), (40, 3, .putfield 46, [1, 11]), (43, 1, .return_, [])]
set_option maxRecDepth 20000 in
def k_X0_covers : List az_I := [
  (0, 1, .iload_n 2, []), (1, 1, .aload_n 0, []), (2, 3, .getfield 31, [1, 6]), (5, 3, .if_icmp .lt 11, []), (8, 1, .iload_n 2, []), (9, 1, .aload_n 0, []),
  (10, 3, .getfield 34, [1, 7]), (13, 3, .if_icmp .le 5, []), (16, 1, .iconst 0, []), (17, 1, .ireturn, []), (18, 1, .iload_n 1, []), (19, 3, .invokestatic 49, [0, 136, 1, 999]),
  (22, 1, .istore_n 3, []), (23, 1, .aload_n 0, []), (24, 3, .getfield 37, [1, 8]), (27, 1, .aload_n 0, []), (28, 3, .getfield 40, [1, 9]), (31, 3, .if_icmp .gt 25, []),
  (34, 1, .iload_n 3, []), (35, 1, .aload_n 0, []), (36, 3, .getfield 37, [1, 8]), (39, 3, .if_icmp .lt 15, []), (42, 1, .iload_n 3, []), (43, 1, .aload_n 0, []),
  (44, 3, .getfield 40, [1, 9]), (47, 3, .if_icmp .gt 7, []), (50, 1, .iconst 1, []), (51, 3, .goto 4, []), (54, 1, .iconst 0, []), (55, 1, .ireturn, []),
  (56, 1, .iload_n 3, []), (57, 1, .aload_n 0, []), (58, 3, .getfield 37, [1, 8]), (61, 3, .if_icmp .ge 11, []), (64, 1, .iload_n 3, []), (65, 1, .aload_n 0, []),
  (66, 3, .getfield 40, [1, 9]), (69, 3, .if_icmp .gt 7, []), (72, 1, .iconst 1, []), (73, 3, .goto 4, []), (76, 1, .iconst 0, []), (77, 1, .ireturn, [])]
set_option maxRecDepth 20000 in
def k_X0_holdsOn : List az_I := [
  (0, 1, .aload_n 0, []), (1, 3, .getfield 25, [1, 4]), (4, 28, .tableswitch 89 0 2 #[28, 42, 64], []), (32, 1, .iload_n 1, []), (33, 1, .aload_n 0, []), (34, 3, .getfield 43, [1, 10]),
  (37, 3, .if_icmp .lt 7, []), (40, 1, .iconst 1, []), (41, 3, .goto 4, []), (44, 1, .iconst 0, []), (45, 1, .ireturn, []), (46, 1, .iload_n 1, []),
  (47, 1, .aload_n 0, []), (48, 3, .getfield 43, [1, 10]), (51, 3, .if_icmp .lt 15, []), (54, 1, .iload_n 1, []), (55, 1, .aload_n 0, []), (56, 3, .getfield 46, [1, 11]),
  (59, 3, .if_icmp .gt 7, []), (62, 1, .iconst 1, []), (63, 3, .goto 4, []), (66, 1, .iconst 0, []), (67, 1, .ireturn, []), (68, 1, .aload_n 0, []),
  (69, 3, .getfield 15, [1, 1]), (72, 3, .ifnull 19, []), (75, 1, .aload_n 0, []), (76, 3, .getfield 15, [1, 1]), (79, 1, .iload_n 1, []), (80, 1, .iload_n 2, []),
  (81, 3, .invokevirtual 53, [0, 25, 3, 4]), (84, 3, .ifCond .eq 7, []), (87, 1, .iconst 1, []), (88, 3, .goto 4, []), (91, 1, .iconst 0, []), (92, 1, .ireturn, []),
  (93, 1, .iconst 0, []), (94, 1, .ireturn, [])]
set_option maxRecDepth 20000 in
def k_X1_init : List az_I := [
  (0, 1, .aload_n 0, []), (1, 3, .invokespecial 3, [1, 2, 3]), (4, 1, .aload_n 0, []), (5, 1, .iconst 4, []), (6, 2, .bipush 16, []), (8, 1, .iload_n 1, []),
  (9, 3, .invokestatic 9, [0, 257, 2, 999]), (12, 3, .invokestatic 15, [0, 255, 2, 999]), (15, 3, .putfield 18, [2, 0]), (18, 1, .aload_n 0, []), (19, 1, .iconst 4, []), (20, 2, .bipush 12, []),
  (22, 1, .iload_n 2, []), (23, 3, .invokestatic 9, [0, 257, 2, 999]), (26, 3, .invokestatic 15, [0, 255, 2, 999]), (29, 3, .putfield 24, [2, 1]), (32, 1, .aload_n 0, []), (33, 1, .aload_n 0, []),
  (34, 3, .getfield 18, [2, 0]), (37, 1, .aload_n 0, []), (38, 3, .getfield 24, [2, 1]), (41, 1, .imul, []), (42, 3, .putfield 27, [2, 2]), (45, 1, .return_, [])]
set_option maxRecDepth 20000 in
def k_X1_has : List az_I := [
  (0, 1, .iload_n 1, []), (1, 3, .ifCond .lt 15, []), (4, 1, .iload_n 1, []), (5, 1, .aload_n 0, []), (6, 3, .getfield 27, [2, 2]), (9, 3, .if_icmp .ge 7, []),
  (12, 1, .iconst 1, []), (13, 3, .goto 4, []), (16, 1, .iconst 0, []), (17, 1, .ireturn, [])]
set_option maxRecDepth 20000 in
def k_X1_columnOf : List az_I := [
  (0, 1, .aload_n 0, []), (1, 3, .getfield 18, [2, 0]), (4, 3, .ifCond .le 12, []), (7, 1, .iload_n 1, []), (8, 1, .aload_n 0, []), (9, 3, .getfield 18, [2, 0]),
  (12, 1, .irem, []), (13, 3, .goto 4, []), (16, 1, .iconst 0, []), (17, 1, .ireturn, [])]
set_option maxRecDepth 20000 in
def k_X1_rowOf : List az_I := [
  (0, 1, .aload_n 0, []), (1, 3, .getfield 18, [2, 0]), (4, 3, .ifCond .le 12, []), (7, 1, .iload_n 1, []), (8, 1, .aload_n 0, []), (9, 3, .getfield 18, [2, 0]),
  (12, 1, .idiv, []), (13, 3, .goto 4, []), (16, 1, .iconst 0, []), (17, 1, .ireturn, [])]
set_option maxRecDepth 20000 in
def k_X1_cellAt : List az_I := [
  (0, 1, .iload_n 1, []), (1, 3, .ifCond .lt 34, []), (4, 1, .iload_n 1, []), (5, 1, .aload_n 0, []), (6, 3, .getfield 18, [2, 0]), (9, 3, .if_icmp .ge 26, []),
  (12, 1, .iload_n 2, []), (13, 3, .ifCond .lt 22, []), (16, 1, .iload_n 2, []), (17, 1, .aload_n 0, []), (18, 3, .getfield 24, [2, 1]), (21, 3, .if_icmp .ge 14, []),
  (24, 1, .iload_n 2, []), (25, 1, .aload_n 0, []), (26, 3, .getfield 18, [2, 0]), (29, 1, .imul, []), (30, 1, .iload_n 1, []), (31, 1, .iadd, []),
  (32, 3, .goto 4, []), (35, 1, .iconst (-1), []), (36, 1, .ireturn, [])]
set_option maxRecDepth 20000 in
def k_X1_stepsBetween : List az_I := [
  (0, 1, .aload_n 0, []), (1, 1, .iload_n 1, []), (2, 3, .invokevirtual 30, [0, 6, 2, 2]), (5, 1, .aload_n 0, []), (6, 1, .iload_n 2, []), (7, 3, .invokevirtual 30, [0, 6, 2, 2]),
  (10, 1, .isub, []), (11, 3, .invokestatic 34, [0, 254, 1, 999]), (14, 1, .aload_n 0, []), (15, 1, .iload_n 1, []), (16, 3, .invokevirtual 37, [0, 7, 2, 2]), (19, 1, .aload_n 0, []),
  (20, 1, .iload_n 2, []), (21, 3, .invokevirtual 37, [0, 7, 2, 2]), (24, 1, .isub, []), (25, 3, .invokestatic 34, [0, 254, 1, 999]), (28, 1, .iadd, []), (29, 1, .ireturn, [])]
set_option maxRecDepth 20000 in
def k_X2_init : List az_I := [
  (0, 1, .aload_n 0, []), (1, 3, .invokespecial 3, [1, 2, 3]), (4, 1, .aload_n 0, []), (5, 1, .aload_n 1, []), (6, 3, .putfield 9, [3, 0]), (9, 1, .aload_n 0, []),
  (10, 1, .aload_n 2, []), (11, 3, .putfield 15, [3, 1]), (14, 1, .return_, [])]
set_option maxRecDepth 20000 in
def k_X2_parseInto : List az_I := [
  (0, 1, .aload_n 0, []), (1, 1, .aload_n 1, []), (2, 3, .putfield 15, [3, 1]), (5, 1, .aload_n 0, []), (6, 3, .getfield 15, [3, 1]), (9, 3, .invokevirtual 19, [0, 76, 1, 10]),
  (12, 1, .aload_n 0, []), (13, 3, .getfield 9, [3, 0]), (16, 3, .invokevirtual 24, [0, 59, 1, 9]), (19, 1, .aload_n 0, []), (20, 1, .iconst 0, []), (21, 3, .putfield 29, [3, 2]),
  (24, 1, .aload_n 0, []), (25, 1, .aload_n 0, []), (26, 3, .getfield 9, [3, 0]), (29, 1, .iconst 0, []), (30, 3, .invokevirtual 33, [0, 60, 2, 9]), (33, 3, .putfield 37, [3, 3]),
  (36, 1, .aload_n 0, []), (37, 1, .iconst 0, []), (38, 3, .putfield 40, [3, 4]), (41, 1, .aload_n 0, []), (42, 1, .iconst (-1), []), (43, 3, .putfield 43, [3, 5]),
  (46, 1, .iconst 0, []), (47, 1, .istore_n 2, []), (48, 1, .iload_n 2, []), (49, 2, .bipush 20, []), (51, 3, .if_icmp .gt 27, []), (54, 1, .aload_n 0, []),
  (55, 3, .getfield 37, [3, 3]), (58, 3, .ifCond .eq 20, []), (61, 1, .aload_n 0, []), (62, 3, .getfield 40, [3, 4]), (65, 3, .ifCond .ne 13, []), (68, 1, .aload_n 0, []),
  (69, 3, .invokevirtual 46, [0, 16, 1, 3]), (72, 3, .iinc 2 1, []), (75, 3, .goto (-27), []), (78, 1, .aload_n 0, []), (79, 3, .getfield 40, [3, 4]), (82, 3, .ifCond .eq 18, []),
  (85, 1, .aload_n 0, []), (86, 1, .aload_n 0, []), (87, 3, .getfield 9, [3, 0]), (90, 1, .aload_n 0, []), (91, 3, .getfield 29, [3, 2]), (94, 3, .invokevirtual 49, [0, 61, 2, 9]),
  (97, 3, .putfield 43, [3, 5]), (100, 1, .aload_n 0, []), (101, 3, .getfield 40, [3, 4]), (104, 3, .ifCond .ne 7, []), (107, 1, .iconst 1, []), (108, 3, .goto 4, []),
  (111, 1, .iconst 0, []), (112, 1, .ireturn, [])]
set_option maxRecDepth 20000 in
def k_X2_fail : List az_I := [
  (0, 1, .aload_n 0, []), (1, 3, .getfield 40, [3, 4]), (4, 3, .ifCond .ne 13, []), (7, 1, .aload_n 0, []), (8, 1, .iload_n 1, []), (9, 3, .putfield 40, [3, 4]),
  (12, 1, .aload_n 0, []), (13, 1, .iconst 1, []), (14, 3, .putfield 37, [3, 3]), (17, 1, .return_, [])]
set_option maxRecDepth 20000 in
def k_X2_advance : List az_I := [
  (0, 1, .aload_n 0, []), (1, 1, .dup, []), (2, 3, .getfield 29, [3, 2]), (5, 1, .iconst 1, []), (6, 1, .iadd, []), (7, 3, .putfield 29, [3, 2]),
  (10, 1, .aload_n 0, []), (11, 1, .aload_n 0, []), (12, 3, .getfield 9, [3, 0]), (15, 1, .aload_n 0, []), (16, 3, .getfield 29, [3, 2]), (19, 3, .invokevirtual 33, [0, 60, 2, 9]),
  (22, 3, .putfield 37, [3, 3]), (25, 1, .return_, [])]
set_option maxRecDepth 20000 in
def k_X2_pass : List az_I := [
  (0, 1, .aload_n 0, []), (1, 3, .getfield 37, [3, 3]), (4, 1, .iload_n 1, []), (5, 3, .if_icmp .ne 10, []), (8, 1, .aload_n 0, []), (9, 3, .invokevirtual 52, [0, 13, 1, 3]),
  (12, 3, .goto 8, []), (15, 1, .aload_n 0, []), (16, 1, .iconst 1, []), (17, 3, .invokevirtual 55, [0, 12, 2, 3]), (20, 1, .return_, [])]
set_option maxRecDepth 20000 in
def k_X2_open : List az_I := [
  (0, 1, .aload_n 0, []), (1, 3, .getfield 37, [3, 3]), (4, 1, .iload_n 1, []), (5, 3, .if_icmp .ne 15, []), (8, 1, .iload_n 2, []), (9, 2, .bipush 10, []),
  (11, 3, .if_icmp .ge 9, []), (14, 1, .aload_n 0, []), (15, 3, .invokevirtual 52, [0, 13, 1, 3]), (18, 1, .iconst 1, []), (19, 1, .ireturn, []), (20, 1, .aload_n 0, []),
  (21, 1, .aload_n 0, []), (22, 3, .getfield 37, [3, 3]), (25, 1, .iload_n 1, []), (26, 3, .if_icmp .ne 7, []), (29, 1, .iconst 3, []), (30, 3, .goto 4, []),
  (33, 1, .iconst 1, []), (34, 3, .invokevirtual 55, [0, 12, 2, 3]), (37, 1, .iconst 0, []), (38, 1, .ireturn, [])]
set_option maxRecDepth 20000 in
def k_X2_rule : List az_I := [
  (0, 1, .aload_n 0, []), (1, 3, .getfield 37, [3, 3]), (4, 1, .iconst 4, []), (5, 3, .if_icmp .eq 17, []), (8, 1, .aload_n 0, []), (9, 3, .getfield 37, [3, 3]),
  (12, 1, .iconst 5, []), (13, 3, .if_icmp .eq 9, []), (16, 1, .aload_n 0, []), (17, 1, .iconst 1, []), (18, 3, .invokevirtual 55, [0, 12, 2, 3]), (21, 1, .return_, []),
  (22, 1, .aload_n 0, []), (23, 3, .getfield 15, [3, 1]), (26, 3, .getfield 59, [10, 6]), (29, 2, .bipush 20, []), (31, 3, .if_icmp .lt 9, []), (34, 1, .aload_n 0, []),
  (35, 1, .iconst 4, []), (36, 3, .invokevirtual 55, [0, 12, 2, 3]), (39, 1, .return_, []), (40, 1, .aload_n 0, []), (41, 3, .getfield 37, [3, 3]), (44, 1, .iconst 4, []),
  (45, 3, .if_icmp .ne 12, []), (48, 1, .aload_n 0, []), (49, 3, .invokevirtual 52, [0, 13, 1, 3]), (52, 1, .aload_n 0, []), (53, 1, .iconst 0, []), (54, 3, .invokevirtual 62, [0, 17, 2, 3]),
  (57, 1, .aload_n 0, []), (58, 3, .getfield 15, [3, 1]), (61, 3, .invokevirtual 65, [0, 78, 1, 10]), (64, 1, .aload_n 0, []), (65, 1, .iconst 5, []), (66, 3, .invokevirtual 68, [0, 14, 2, 3]),
  (69, 1, .aload_n 0, []), (70, 1, .iconst 0, []), (71, 3, .invokevirtual 71, [0, 20, 2, 3]), (74, 1, .aload_n 0, []), (75, 2, .bipush 26, []), (77, 3, .invokevirtual 68, [0, 14, 2, 3]),
  (80, 1, .aload_n 0, []), (81, 3, .getfield 15, [3, 1]), (84, 3, .invokevirtual 74, [0, 79, 1, 10]), (87, 1, .return_, [])]
set_option maxRecDepth 20000 in
def k_X2_either : List az_I := [
  (0, 1, .aload_n 0, []), (1, 1, .iload_n 1, []), (2, 3, .invokevirtual 77, [0, 18, 2, 3]), (5, 1, .iconst 0, []), (6, 1, .istore_n 2, []), (7, 1, .iload_n 2, []),
  (8, 3, .sipush 400, []), (11, 3, .if_icmp .ge 37, []), (14, 1, .aload_n 0, []), (15, 3, .getfield 37, [3, 3]), (18, 2, .bipush 6, []), (20, 3, .if_icmp .ne 28, []),
  (23, 1, .aload_n 0, []), (24, 3, .invokevirtual 52, [0, 13, 1, 3]), (27, 1, .aload_n 0, []), (28, 1, .iload_n 1, []), (29, 3, .invokevirtual 77, [0, 18, 2, 3]), (32, 1, .aload_n 0, []),
  (33, 3, .getfield 15, [3, 1]), (36, 2, .bipush 6, []), (38, 1, .iconst 0, []), (39, 3, .invokevirtual 80, [0, 77, 3, 10]), (42, 3, .iinc 2 1, []), (45, 3, .goto (-38), []),
  (48, 1, .return_, [])]
set_option maxRecDepth 20000 in
def k_X2_both : List az_I := [
  (0, 1, .aload_n 0, []), (1, 1, .iload_n 1, []), (2, 3, .invokevirtual 84, [0, 19, 2, 3]), (5, 1, .iconst 0, []), (6, 1, .istore_n 2, []), (7, 1, .iload_n 2, []),
  (8, 3, .sipush 400, []), (11, 3, .if_icmp .ge 37, []), (14, 1, .aload_n 0, []), (15, 3, .getfield 37, [3, 3]), (18, 2, .bipush 7, []), (20, 3, .if_icmp .ne 28, []),
  (23, 1, .aload_n 0, []), (24, 3, .invokevirtual 52, [0, 13, 1, 3]), (27, 1, .aload_n 0, []), (28, 1, .iload_n 1, []), (29, 3, .invokevirtual 84, [0, 19, 2, 3]), (32, 1, .aload_n 0, []),
  (33, 3, .getfield 15, [3, 1]), (36, 2, .bipush 7, []), (38, 1, .iconst 0, []), (39, 3, .invokevirtual 80, [0, 77, 3, 10]), (42, 3, .iinc 2 1, []), (45, 3, .goto (-38), []),
  (48, 1, .return_, [])]
set_option maxRecDepth 20000 in
def k_X2_ask : List az_I := [
  (0, 1, .aload_n 0, []), (1, 3, .getfield 37, [3, 3]), (4, 2, .bipush 8, []), (6, 3, .if_icmp .ne 33, []), (9, 1, .aload_n 0, []), (10, 2, .bipush 8, []),
  (12, 1, .iload_n 1, []), (13, 3, .invokevirtual 87, [0, 15, 3, 3]), (16, 3, .ifCond .eq 106, []), (19, 1, .aload_n 0, []), (20, 1, .iload_n 1, []), (21, 1, .iconst 1, []),
  (22, 1, .iadd, []), (23, 3, .invokevirtual 84, [0, 19, 2, 3]), (26, 1, .aload_n 0, []), (27, 3, .getfield 15, [3, 1]), (30, 2, .bipush 8, []), (32, 1, .iconst 0, []),
  (33, 3, .invokevirtual 80, [0, 77, 3, 10]), (36, 3, .goto 86, []), (39, 1, .aload_n 0, []), (40, 3, .getfield 37, [3, 3]), (43, 2, .bipush 23, []), (45, 3, .if_icmp .ne 29, []),
  (48, 1, .aload_n 0, []), (49, 2, .bipush 23, []), (51, 1, .iload_n 1, []), (52, 3, .invokevirtual 87, [0, 15, 3, 3]), (55, 3, .ifCond .eq 67, []), (58, 1, .aload_n 0, []),
  (59, 1, .iload_n 1, []), (60, 1, .iconst 1, []), (61, 1, .iadd, []), (62, 3, .invokevirtual 62, [0, 17, 2, 3]), (65, 1, .aload_n 0, []), (66, 2, .bipush 24, []),
  (68, 3, .invokevirtual 68, [0, 14, 2, 3]), (71, 3, .goto 51, []), (74, 1, .aload_n 0, []), (75, 1, .iload_n 1, []), (76, 3, .invokevirtual 71, [0, 20, 2, 3]), (79, 1, .aload_n 0, []),
  (80, 3, .getfield 37, [3, 3]), (83, 1, .istore_n 2, []), (84, 1, .iload_n 2, []), (85, 2, .bipush 11, []), (87, 3, .if_icmp .lt 30, []), (90, 1, .iload_n 2, []),
  (91, 2, .bipush 16, []), (93, 3, .if_icmp .gt 24, []), (96, 1, .aload_n 0, []), (97, 3, .invokevirtual 52, [0, 13, 1, 3]), (100, 1, .aload_n 0, []), (101, 1, .iload_n 1, []),
  (102, 3, .invokevirtual 71, [0, 20, 2, 3]), (105, 1, .aload_n 0, []), (106, 3, .getfield 15, [3, 1]), (109, 1, .iload_n 2, []), (110, 1, .iconst 0, []), (111, 3, .invokevirtual 80, [0, 77, 3, 10]),
  (114, 3, .goto 8, []), (117, 1, .aload_n 0, []), (118, 1, .iconst 1, []), (119, 3, .invokevirtual 55, [0, 12, 2, 3]), (122, 1, .return_, [])]
set_option maxRecDepth 20000 in
def k_X2_sum : List az_I := [
  (0, 1, .aload_n 0, []), (1, 1, .iload_n 1, []), (2, 3, .invokevirtual 91, [0, 21, 2, 3]), (5, 1, .iconst 0, []), (6, 1, .istore_n 2, []), (7, 1, .iload_n 2, []),
  (8, 3, .sipush 400, []), (11, 3, .if_icmp .ge 50, []), (14, 1, .aload_n 0, []), (15, 3, .getfield 37, [3, 3]), (18, 2, .bipush 17, []), (20, 3, .if_icmp .eq 12, []),
  (23, 1, .aload_n 0, []), (24, 3, .getfield 37, [3, 3]), (27, 2, .bipush 18, []), (29, 3, .if_icmp .ne 32, []), (32, 1, .aload_n 0, []), (33, 3, .getfield 37, [3, 3]),
  (36, 1, .istore_n 3, []), (37, 1, .aload_n 0, []), (38, 3, .invokevirtual 52, [0, 13, 1, 3]), (41, 1, .aload_n 0, []), (42, 1, .iload_n 1, []), (43, 3, .invokevirtual 91, [0, 21, 2, 3]),
  (46, 1, .aload_n 0, []), (47, 3, .getfield 15, [3, 1]), (50, 1, .iload_n 3, []), (51, 1, .iconst 0, []), (52, 3, .invokevirtual 80, [0, 77, 3, 10]), (55, 3, .iinc 2 1, []),
  (58, 3, .goto (-51), []), (61, 1, .return_, [])]
set_option maxRecDepth 20000 in
def k_X2_product : List az_I := [
  (0, 1, .aload_n 0, []), (1, 1, .iload_n 1, []), (2, 3, .invokevirtual 94, [0, 22, 2, 3]), (5, 1, .iconst 0, []), (6, 1, .istore_n 2, []), (7, 1, .iload_n 2, []),
  (8, 3, .sipush 400, []), (11, 3, .if_icmp .ge 50, []), (14, 1, .aload_n 0, []), (15, 3, .getfield 37, [3, 3]), (18, 2, .bipush 19, []), (20, 3, .if_icmp .eq 12, []),
  (23, 1, .aload_n 0, []), (24, 3, .getfield 37, [3, 3]), (27, 2, .bipush 20, []), (29, 3, .if_icmp .ne 32, []), (32, 1, .aload_n 0, []), (33, 3, .getfield 37, [3, 3]),
  (36, 1, .istore_n 3, []), (37, 1, .aload_n 0, []), (38, 3, .invokevirtual 52, [0, 13, 1, 3]), (41, 1, .aload_n 0, []), (42, 1, .iload_n 1, []), (43, 3, .invokevirtual 94, [0, 22, 2, 3]),
  (46, 1, .aload_n 0, []), (47, 3, .getfield 15, [3, 1]), (50, 1, .iload_n 3, []), (51, 1, .iconst 0, []), (52, 3, .invokevirtual 80, [0, 77, 3, 10]), (55, 3, .iinc 2 1, []),
  (58, 3, .goto (-51), []), (61, 1, .return_, [])]
set_option maxRecDepth 20000 in
def k_X2_one : List az_I := [
  (0, 1, .aload_n 0, []), (1, 3, .getfield 37, [3, 3]), (4, 1, .istore_n 2, []), (5, 1, .iload_n 2, []), (6, 94, .tableswitch 209 2 21 #[94, 94, 209, 209, 209, 209, 209, 157, 157, 209, 209, 209, 209, 209, 209, 209, 127, 209, 209, 101], []), (100, 1, .aload_n 0, []),
  (101, 3, .invokevirtual 97, [0, 23, 1, 3]), (104, 3, .goto 116, []), (107, 1, .aload_n 0, []), (108, 2, .bipush 21, []), (110, 1, .iload_n 1, []), (111, 3, .invokevirtual 87, [0, 15, 3, 3]),
  (114, 3, .ifCond .eq 106, []), (117, 1, .aload_n 0, []), (118, 1, .iload_n 1, []), (119, 1, .iconst 1, []), (120, 1, .iadd, []), (121, 3, .invokevirtual 71, [0, 20, 2, 3]),
  (124, 1, .aload_n 0, []), (125, 2, .bipush 22, []), (127, 3, .invokevirtual 68, [0, 14, 2, 3]), (130, 3, .goto 90, []), (133, 1, .aload_n 0, []), (134, 2, .bipush 18, []),
  (136, 1, .iload_n 1, []), (137, 3, .invokevirtual 87, [0, 15, 3, 3]), (140, 3, .ifCond .eq 80, []), (143, 1, .aload_n 0, []), (144, 1, .iload_n 1, []), (145, 1, .iconst 1, []),
  (146, 1, .iadd, []), (147, 3, .invokevirtual 94, [0, 22, 2, 3]), (150, 1, .aload_n 0, []), (151, 3, .getfield 15, [3, 1]), (154, 2, .bipush 27, []), (156, 1, .iconst 0, []),
  (157, 3, .invokevirtual 80, [0, 77, 3, 10]), (160, 3, .goto 60, []), (163, 1, .aload_n 0, []), (164, 3, .invokevirtual 52, [0, 13, 1, 3]), (167, 1, .aload_n 0, []), (168, 2, .bipush 21, []),
  (170, 1, .iload_n 1, []), (171, 3, .invokevirtual 87, [0, 15, 3, 3]), (174, 3, .ifCond .eq 46, []), (177, 1, .aload_n 0, []), (178, 1, .iload_n 1, []), (179, 1, .iconst 1, []),
  (180, 1, .iadd, []), (181, 3, .invokevirtual 71, [0, 20, 2, 3]), (184, 1, .aload_n 0, []), (185, 2, .bipush 25, []), (187, 3, .invokevirtual 68, [0, 14, 2, 3]), (190, 1, .aload_n 0, []),
  (191, 1, .iload_n 1, []), (192, 1, .iconst 1, []), (193, 1, .iadd, []), (194, 3, .invokevirtual 71, [0, 20, 2, 3]), (197, 1, .aload_n 0, []), (198, 2, .bipush 22, []),
  (200, 3, .invokevirtual 68, [0, 14, 2, 3]), (203, 1, .aload_n 0, []), (204, 3, .getfield 15, [3, 1]), (207, 1, .iload_n 2, []), (208, 1, .iconst 0, []), (209, 3, .invokevirtual 80, [0, 77, 3, 10]),
  (212, 3, .goto 8, []), (215, 1, .aload_n 0, []), (216, 1, .iconst 1, []), (217, 3, .invokevirtual 55, [0, 12, 2, 3]), (220, 1, .return_, [])]
set_option maxRecDepth 20000 in
def k_X2_value : List az_I := [
  (0, 1, .aload_n 0, []), (1, 3, .getfield 9, [3, 0]), (4, 1, .aload_n 0, []), (5, 3, .getfield 29, [3, 2]), (8, 3, .invokevirtual 100, [0, 62, 2, 9]), (11, 1, .istore_n 1, []),
  (12, 1, .aload_n 0, []), (13, 3, .getfield 37, [3, 3]), (16, 1, .iconst 2, []), (17, 3, .if_icmp .ne 17, []), (20, 1, .iload_n 1, []), (21, 2, .ldc 103, [0, 100000]),
  (23, 3, .if_icmp .le 11, []), (26, 1, .aload_n 0, []), (27, 1, .iconst 2, []), (28, 3, .invokevirtual 55, [0, 12, 2, 3]), (31, 3, .goto 19, []), (34, 1, .aload_n 0, []),
  (35, 3, .getfield 15, [3, 1]), (38, 1, .aload_n 0, []), (39, 3, .getfield 37, [3, 3]), (42, 1, .iload_n 1, []), (43, 3, .invokevirtual 80, [0, 77, 3, 10]), (46, 1, .aload_n 0, []),
  (47, 3, .invokevirtual 52, [0, 13, 1, 3]), (50, 1, .return_, [])]
set_option maxRecDepth 20000 in
def k_X3_init : List az_I := [
  (0, 1, .aload_n 0, []), (1, 3, .invokespecial 3, [1, 2, 3]), (4, 1, .aload_n 0, []), (5, 1, .iconst (-1), []), (6, 3, .putfield 9, [4, 0]), (9, 1, .aload_n 0, []),
  (10, 1, .iconst (-1), []), (11, 3, .putfield 15, [4, 1]), (14, 1, .return_, [])]
set_option maxRecDepth 20000 in
def k_X3_wasDead : List az_I := [
  (0, 1, .aload_n 0, []), (1, 3, .getfield 9, [4, 0]), (4, 1, .iconst (-1), []), (5, 3, .if_icmp .eq 23, []), (8, 1, .aload_n 0, []), (9, 3, .getfield 9, [4, 0]),
  (12, 1, .iload_n 1, []), (13, 3, .if_icmp .gt 15, []), (16, 1, .aload_n 0, []), (17, 3, .getfield 15, [4, 1]), (20, 1, .iload_n 2, []), (21, 3, .if_icmp .gt 7, []),
  (24, 1, .iconst 1, []), (25, 3, .goto 4, []), (28, 1, .iconst 0, []), (29, 1, .ireturn, [])]
set_option maxRecDepth 20000 in
def k_X4_init : List az_I := [
  (0, 1, .aload_n 0, []), (1, 3, .invokespecial 3, [1, 2, 3]), (4, 1, .aload_n 0, []), (5, 2, .bipush 12, []), (7, 2, .newarray .int, []), (9, 3, .putfield 9, [5, 2]),
  (12, 1, .aload_n 0, []), (13, 3, .ldc2_w 15, [18446744073709551615]), (16, 3, .putfield 17, [5, 8]), (19, 1, .aload_n 0, []), (20, 1, .aload_n 1, []), (21, 3, .putfield 21, [5, 0]),
  (24, 1, .aload_n 0, []), (25, 2, .bipush 12, []), (27, 1, .aload_n 1, []), (28, 3, .getfield 25, [2, 2]), (31, 1, .imul, []), (32, 2, .newarray .int, []),
  (34, 3, .putfield 31, [5, 1]), (37, 1, .aload_n 0, []), (38, 1, .aload_n 1, []), (39, 3, .getfield 25, [2, 2]), (42, 2, .newarray .int, []), (44, 3, .putfield 34, [5, 3]),
  (47, 1, .aload_n 0, []), (48, 1, .aload_n 1, []), (49, 3, .getfield 25, [2, 2]), (52, 2, .newarray .int, []), (54, 3, .putfield 37, [5, 4]), (57, 1, .aload_n 0, []),
  (58, 1, .aload_n 1, []), (59, 3, .getfield 25, [2, 2]), (62, 2, .newarray .long, []), (64, 3, .putfield 40, [5, 5]), (67, 1, .aload_n 0, []), (68, 1, .aload_n 1, []),
  (69, 3, .getfield 25, [2, 2]), (72, 2, .newarray .long, []), (74, 3, .putfield 44, [5, 6]), (77, 1, .return_, [])]
set_option maxRecDepth 20000 in
def k_X4_startFromBehind : List az_I := [
  (0, 1, .aload_n 0, []), (1, 3, .getfield 34, [5, 3]), (4, 1, .iconst (-1), []), (5, 3, .invokestatic 47, [0, 275, 2, 999]), (8, 1, .iload_n 1, []), (9, 3, .ifCond .lt 26, []),
  (12, 1, .iload_n 1, []), (13, 1, .aload_n 0, []), (14, 3, .getfield 34, [5, 3]), (17, 1, .arraylength, []), (18, 3, .if_icmp .ge 17, []), (21, 1, .aload_n 0, []),
  (22, 3, .getfield 34, [5, 3]), (25, 1, .iload_n 1, []), (26, 1, .iconst 0, []), (27, 1, .iastore, []), (28, 1, .aload_n 0, []), (29, 3, .getfield 40, [5, 5]),
  (32, 1, .iload_n 1, []), (33, 1, .lconst 0, []), (34, 1, .lastore, []), (35, 1, .return_, [])]
set_option maxRecDepth 20000 in
def k_X4_goBackAnHour : List az_I := [
  (0, 1, .aload_n 0, []), (1, 3, .getfield 37, [5, 4]), (4, 1, .astore_n 1, []), (5, 1, .aload_n 0, []), (6, 1, .aload_n 0, []), (7, 3, .getfield 34, [5, 3]),
  (10, 3, .putfield 37, [5, 4]), (13, 1, .aload_n 0, []), (14, 1, .aload_n 1, []), (15, 3, .putfield 34, [5, 3]), (18, 1, .aload_n 0, []), (19, 3, .getfield 44, [5, 6]),
  (22, 1, .astore_n 2, []), (23, 1, .aload_n 0, []), (24, 1, .aload_n 0, []), (25, 3, .getfield 40, [5, 5]), (28, 3, .putfield 44, [5, 6]), (31, 1, .aload_n 0, []),
  (32, 1, .aload_n 2, []), (33, 3, .putfield 40, [5, 5]), (36, 1, .aload_n 0, []), (37, 3, .getfield 34, [5, 3]), (40, 1, .iconst (-1), []), (41, 3, .invokestatic 47, [0, 275, 2, 999]),
  (44, 1, .return_, [])]
set_option maxRecDepth 20000 in
def k_X4_leadsOn : List az_I := [
  (0, 1, .iload_n 1, []), (1, 3, .ifCond .lt 26, []), (4, 1, .iload_n 1, []), (5, 1, .aload_n 0, []), (6, 3, .getfield 37, [5, 4]), (9, 1, .arraylength, []),
  (10, 3, .if_icmp .ge 17, []), (13, 1, .aload_n 0, []), (14, 3, .getfield 37, [5, 4]), (17, 1, .iload_n 1, []), (18, 1, .iaload, []), (19, 1, .iconst (-1), []),
  (20, 3, .if_icmp .eq 7, []), (23, 1, .iconst 1, []), (24, 3, .goto 4, []), (27, 1, .iconst 0, []), (28, 1, .ireturn, [])]
set_option maxRecDepth 20000 in
def k_X4_bestNext : List az_I := [
  (0, 1, .aload_n 0, []), (1, 3, .getfield 21, [5, 0]), (4, 1, .iload_n 1, []), (5, 3, .invokevirtual 53, [0, 6, 2, 2]), (8, 1, .istore_n 2, []), (9, 1, .aload_n 0, []),
  (10, 3, .getfield 21, [5, 0]), (13, 1, .iload_n 1, []), (14, 3, .invokevirtual 57, [0, 7, 2, 2]), (17, 1, .istore_n 3, []), (18, 1, .iconst (-1), []), (19, 2, .istore 4, []),
  (21, 1, .iconst 0, []), (22, 2, .istore 5, []), (24, 2, .iload 5, []), (26, 3, .getstatic 60, [1, 2]), (29, 1, .arraylength, []), (30, 3, .if_icmp .ge 73, []),
  (33, 2, .iload 5, []), (35, 3, .getstatic 63, [2, 2]), (38, 1, .arraylength, []), (39, 3, .if_icmp .ge 64, []), (42, 1, .aload_n 0, []), (43, 3, .getfield 21, [5, 0]),
  (46, 1, .iload_n 2, []), (47, 3, .getstatic 60, [1, 2]), (50, 2, .iload 5, []), (52, 1, .iaload, []), (53, 1, .iadd, []), (54, 1, .iload_n 3, []),
  (55, 3, .getstatic 63, [2, 2]), (58, 2, .iload 5, []), (60, 1, .iaload, []), (61, 1, .iadd, []), (62, 3, .invokevirtual 66, [0, 8, 3, 2]), (65, 2, .istore 6, []),
  (67, 1, .aload_n 0, []), (68, 2, .iload 6, []), (70, 3, .invokevirtual 70, [0, 29, 2, 5]), (73, 3, .ifCond .eq 24, []), (76, 2, .iload 4, []), (78, 1, .iconst (-1), []),
  (79, 3, .if_icmp .eq 14, []), (82, 1, .aload_n 0, []), (83, 2, .iload 6, []), (85, 2, .iload 4, []), (87, 3, .invokevirtual 74, [0, 31, 3, 5]), (90, 3, .ifCond .eq 7, []),
  (93, 2, .iload 6, []), (95, 2, .istore 4, []), (97, 3, .iinc 5 1, []), (100, 3, .goto (-76), []), (103, 2, .iload 4, []), (105, 1, .ireturn, [])]
set_option maxRecDepth 20000 in
def k_X4_isBetter : List az_I := [
  (0, 1, .aload_n 0, []), (1, 1, .iload_n 1, []), (2, 3, .invokevirtual 70, [0, 29, 2, 5]), (5, 3, .ifCond .eq 11, []), (8, 1, .aload_n 0, []), (9, 1, .iload_n 2, []),
  (10, 3, .invokevirtual 70, [0, 29, 2, 5]), (13, 3, .ifCond .ne 5, []), (16, 1, .iconst 0, []), (17, 1, .ireturn, []), (18, 1, .aload_n 0, []), (19, 3, .getfield 37, [5, 4]),
  (22, 1, .iload_n 1, []), (23, 1, .iaload, []), (24, 1, .aload_n 0, []), (25, 3, .getfield 37, [5, 4]), (28, 1, .iload_n 2, []), (29, 1, .iaload, []),
  (30, 3, .if_icmp .eq 24, []), (33, 1, .aload_n 0, []), (34, 3, .getfield 37, [5, 4]), (37, 1, .iload_n 1, []), (38, 1, .iaload, []), (39, 1, .aload_n 0, []),
  (40, 3, .getfield 37, [5, 4]), (43, 1, .iload_n 2, []), (44, 1, .iaload, []), (45, 3, .if_icmp .ge 7, []), (48, 1, .iconst 1, []), (49, 3, .goto 4, []),
  (52, 1, .iconst 0, []), (53, 1, .ireturn, []), (54, 1, .aload_n 0, []), (55, 3, .getfield 44, [5, 6]), (58, 1, .iload_n 1, []), (59, 1, .laload, []),
  (60, 1, .aload_n 0, []), (61, 3, .getfield 44, [5, 6]), (64, 1, .iload_n 2, []), (65, 1, .laload, []), (66, 1, .lcmp, []), (67, 3, .ifCond .ge 7, []),
  (70, 1, .iconst 1, []), (71, 3, .goto 4, []), (74, 1, .iconst 0, []), (75, 1, .ireturn, [])]
set_option maxRecDepth 20000 in
def k_X4_lead : List az_I := [
  (0, 1, .iload_n 1, []), (1, 1, .aload_n 0, []), (2, 3, .getfield 21, [5, 0]), (5, 3, .getfield 25, [2, 2]), (8, 1, .imul, []), (9, 1, .iload_n 2, []),
  (10, 1, .iadd, []), (11, 2, .istore 7, []), (13, 1, .iload_n 2, []), (14, 3, .ifCond .lt 35, []), (17, 1, .iload_n 2, []), (18, 1, .aload_n 0, []),
  (19, 3, .getfield 34, [5, 3]), (22, 1, .arraylength, []), (23, 3, .if_icmp .ge 26, []), (26, 2, .iload 7, []), (28, 3, .ifCond .lt 21, []), (31, 2, .iload 7, []),
  (33, 1, .aload_n 0, []), (34, 3, .getfield 31, [5, 1]), (37, 1, .arraylength, []), (38, 3, .if_icmp .ge 11, []), (41, 1, .aload_n 0, []), (42, 1, .iload_n 3, []),
  (43, 3, .invokevirtual 70, [0, 29, 2, 5]), (46, 3, .ifCond .ne 4, []), (49, 1, .return_, []), (50, 1, .aload_n 0, []), (51, 3, .getfield 31, [5, 1]), (54, 2, .iload 7, []),
  (56, 1, .iload_n 3, []), (57, 1, .iastore, []), (58, 1, .aload_n 0, []), (59, 3, .getfield 34, [5, 3]), (62, 1, .iload_n 2, []), (63, 1, .aload_n 0, []),
  (64, 3, .getfield 37, [5, 4]), (67, 1, .iload_n 3, []), (68, 1, .iaload, []), (69, 2, .iload 4, []), (71, 1, .iadd, []), (72, 1, .iastore, []),
  (73, 1, .aload_n 0, []), (74, 3, .getfield 40, [5, 5]), (77, 1, .iload_n 2, []), (78, 1, .aload_n 0, []), (79, 3, .getfield 44, [5, 6]), (82, 1, .iload_n 3, []),
  (83, 1, .laload, []), (84, 2, .lload 5, []), (86, 1, .ladd, []), (87, 1, .lastore, []), (88, 1, .return_, [])]
set_option maxRecDepth 20000 in
def k_X4_follow : List az_I := [
  (0, 1, .iload_n 1, []), (1, 3, .ifCond .lt 22, []), (4, 1, .iload_n 1, []), (5, 1, .aload_n 0, []), (6, 3, .getfield 34, [5, 3]), (9, 1, .arraylength, []),
  (10, 3, .if_icmp .ge 13, []), (13, 1, .aload_n 0, []), (14, 3, .getfield 34, [5, 3]), (17, 1, .iload_n 1, []), (18, 1, .iaload, []), (19, 1, .iconst (-1), []),
  (20, 3, .if_icmp .ne 5, []), (23, 1, .iconst (-1), []), (24, 1, .ireturn, []), (25, 1, .aload_n 0, []), (26, 1, .iconst 0, []), (27, 3, .putfield 78, [5, 7]),
  (30, 1, .aload_n 0, []), (31, 1, .aload_n 0, []), (32, 3, .getfield 40, [5, 5]), (35, 1, .iload_n 1, []), (36, 1, .laload, []), (37, 3, .putfield 17, [5, 8]),
  (40, 1, .iload_n 1, []), (41, 2, .istore 4, []), (43, 1, .iload_n 2, []), (44, 2, .istore 5, []), (46, 2, .iload 5, []), (48, 1, .iload_n 3, []),
  (49, 3, .if_icmp .gt 85, []), (52, 1, .aload_n 0, []), (53, 3, .getfield 78, [5, 7]), (56, 1, .aload_n 0, []), (57, 3, .getfield 9, [5, 2]), (60, 1, .arraylength, []),
  (61, 3, .if_icmp .ge 73, []), (64, 1, .aload_n 0, []), (65, 3, .getfield 9, [5, 2]), (68, 1, .aload_n 0, []), (69, 3, .getfield 78, [5, 7]), (72, 2, .iload 4, []),
  (74, 1, .iastore, []), (75, 1, .aload_n 0, []), (76, 1, .dup, []), (77, 3, .getfield 78, [5, 7]), (80, 1, .iconst 1, []), (81, 1, .iadd, []),
  (82, 3, .putfield 78, [5, 7]), (85, 2, .iload 5, []), (87, 1, .aload_n 0, []), (88, 3, .getfield 21, [5, 0]), (91, 3, .getfield 25, [2, 2]), (94, 1, .imul, []),
  (95, 2, .iload 4, []), (97, 1, .iadd, []), (98, 2, .istore 6, []), (100, 2, .iload 6, []), (102, 3, .ifCond .lt 23, []), (105, 2, .iload 6, []),
  (107, 1, .aload_n 0, []), (108, 3, .getfield 31, [5, 1]), (111, 1, .arraylength, []), (112, 3, .if_icmp .ge 13, []), (115, 1, .aload_n 0, []), (116, 3, .getfield 31, [5, 1]),
  (119, 2, .iload 6, []), (121, 1, .iaload, []), (122, 3, .goto 4, []), (125, 1, .iconst (-1), []), (126, 2, .istore 4, []), (128, 3, .iinc 5 1, []),
  (131, 3, .goto (-85), []), (134, 1, .aload_n 0, []), (135, 3, .getfield 34, [5, 3]), (138, 1, .iload_n 1, []), (139, 1, .iaload, []), (140, 1, .ireturn, [])]
set_option maxRecDepth 20000 in
def k_X4_charges : List az_I := [
  (0, 1, .aload_n 0, []), (1, 3, .getfield 17, [5, 8]), (4, 1, .lreturn, [])]
set_option maxRecDepth 20000 in
def k_X4_cellOfPath : List az_I := [
  (0, 1, .iload_n 1, []), (1, 3, .ifCond .lt 29, []), (4, 1, .iload_n 1, []), (5, 1, .aload_n 0, []), (6, 3, .getfield 78, [5, 7]), (9, 3, .if_icmp .ge 21, []),
  (12, 1, .iload_n 1, []), (13, 1, .aload_n 0, []), (14, 3, .getfield 9, [5, 2]), (17, 1, .arraylength, []), (18, 3, .if_icmp .ge 12, []), (21, 1, .aload_n 0, []),
  (22, 3, .getfield 9, [5, 2]), (25, 1, .iload_n 1, []), (26, 1, .iaload, []), (27, 3, .goto 4, []), (30, 1, .iconst (-1), []), (31, 1, .ireturn, [])]
set_option maxRecDepth 20000 in
def k_X5_init : List az_I := [
  (0, 1, .aload_n 0, []), (1, 3, .invokespecial 3, [1, 2, 3]), (4, 1, .aload_n 0, []), (5, 2, .bipush 24, []), (7, 2, .newarray .int, []), (9, 3, .putfield 9, [6, 3]),
  (12, 1, .aload_n 0, []), (13, 1, .aload_n 1, []), (14, 3, .putfield 15, [6, 0]), (17, 1, .aload_n 0, []), (18, 1, .aload_n 2, []), (19, 3, .putfield 19, [6, 1]),
  (22, 1, .aload_n 0, []), (23, 1, .aload_n 3, []), (24, 3, .putfield 23, [6, 2]), (27, 1, .aload_n 0, []), (28, 1, .aload_n 1, []), (29, 3, .getfield 27, [2, 2]),
  (32, 2, .newarray .boolean, []), (34, 3, .putfield 33, [6, 4]), (37, 1, .aload_n 0, []), (38, 1, .aload_n 1, []), (39, 3, .getfield 27, [2, 2]), (42, 2, .newarray .int, []),
  (44, 3, .putfield 37, [6, 5]), (47, 1, .return_, [])]
set_option maxRecDepth 20000 in
def k_X5_lookAt : List az_I := [
  (0, 1, .aload_n 0, []), (1, 1, .iload_n 1, []), (2, 3, .putfield 40, [6, 6]), (5, 1, .iconst 0, []), (6, 1, .istore_n 3, []), (7, 1, .iload_n 3, []),
  (8, 1, .aload_n 0, []), (9, 3, .getfield 33, [6, 4]), (12, 1, .arraylength, []), (13, 3, .if_icmp .ge 16, []), (16, 1, .aload_n 0, []), (17, 3, .getfield 33, [6, 4]),
  (20, 1, .iload_n 3, []), (21, 1, .iconst 0, []), (22, 1, .bastore, []), (23, 3, .iinc 3 1, []), (26, 3, .goto (-19), []), (29, 1, .iconst 0, []),
  (30, 1, .istore_n 3, []), (31, 1, .iload_n 3, []), (32, 1, .aload_n 0, []), (33, 3, .getfield 23, [6, 2]), (36, 3, .invokevirtual 43, [0, 270, 1, 0]), (39, 3, .if_icmp .ge 86, []),
  (42, 1, .iload_n 3, []), (43, 1, .aload_n 0, []), (44, 3, .getfield 9, [6, 3]), (47, 1, .arraylength, []), (48, 3, .if_icmp .ge 77, []), (51, 1, .aload_n 0, []),
  (52, 3, .getfield 23, [6, 2]), (55, 1, .iload_n 3, []), (56, 3, .invokevirtual 48, [0, 272, 2, 0]), (59, 3, .checkcast 52, [11]), (62, 2, .astore 4, []), (64, 1, .aload_n 0, []),
  (65, 3, .getfield 9, [6, 3]), (68, 1, .iload_n 3, []), (69, 2, .aload 4, []), (71, 1, .iload_n 1, []), (72, 1, .iload_n 2, []), (73, 3, .invokevirtual 54, [0, 90, 3, 11]),
  (76, 1, .iastore, []), (77, 1, .aload_n 0, []), (78, 3, .getfield 9, [6, 3]), (81, 1, .iload_n 3, []), (82, 1, .iaload, []), (83, 1, .iconst (-1), []),
  (84, 3, .if_icmp .eq 35, []), (87, 2, .aload 4, []), (89, 3, .getfield 58, [11, 1]), (92, 3, .ifCond .lt 27, []), (95, 2, .aload 4, []), (97, 3, .getfield 58, [11, 1]),
  (100, 1, .aload_n 0, []), (101, 3, .getfield 33, [6, 4]), (104, 1, .arraylength, []), (105, 3, .if_icmp .ge 14, []), (108, 1, .aload_n 0, []), (109, 3, .getfield 33, [6, 4]),
  (112, 2, .aload 4, []), (114, 3, .getfield 58, [11, 1]), (117, 1, .iconst 1, []), (118, 1, .bastore, []), (119, 3, .iinc 3 1, []), (122, 3, .goto (-91), []),
  (125, 1, .return_, [])]
set_option maxRecDepth 20000 in
def k_X5_turnTo : List az_I := [
  (0, 1, .aload_n 0, []), (1, 3, .getfield 37, [6, 5]), (4, 1, .iconst 0, []), (5, 3, .invokestatic 61, [0, 275, 2, 999]), (8, 1, .aload_n 0, []), (9, 3, .getfield 19, [6, 1]),
  (12, 1, .aload_n 0, []), (13, 3, .getfield 40, [6, 6]), (16, 1, .iload_n 1, []), (17, 3, .invokevirtual 67, [0, 50, 3, 7]), (20, 3, .ifCond .eq 4, []), (23, 1, .return_, []),
  (24, 1, .aload_n 0, []), (25, 3, .getfield 19, [6, 1]), (28, 1, .aload_n 0, []), (29, 3, .getfield 40, [6, 6]), (32, 1, .iload_n 1, []), (33, 3, .invokevirtual 73, [0, 48, 3, 7]),
  (36, 1, .istore_n 2, []), (37, 1, .aload_n 0, []), (38, 3, .getfield 19, [6, 1]), (41, 1, .aload_n 0, []), (42, 3, .getfield 40, [6, 6]), (45, 1, .iload_n 1, []),
  (46, 3, .invokevirtual 76, [0, 49, 3, 7]), (49, 1, .istore_n 3, []), (50, 1, .iconst 0, []), (51, 2, .istore 4, []), (53, 2, .iload 4, []), (55, 1, .aload_n 0, []),
  (56, 3, .getfield 23, [6, 2]), (59, 3, .invokevirtual 43, [0, 270, 1, 0]), (62, 3, .if_icmp .ge 58, []), (65, 2, .iload 4, []), (67, 1, .aload_n 0, []), (68, 3, .getfield 9, [6, 3]),
  (71, 1, .arraylength, []), (72, 3, .if_icmp .ge 48, []), (75, 1, .aload_n 0, []), (76, 3, .getfield 23, [6, 2]), (79, 2, .iload 4, []), (81, 3, .invokevirtual 48, [0, 272, 2, 0]),
  (84, 3, .checkcast 52, [11]), (87, 2, .astore 5, []), (89, 1, .aload_n 0, []), (90, 2, .iload 4, []), (92, 2, .aload 5, []), (94, 3, .getfield 58, [11, 1]),
  (97, 1, .iload_n 2, []), (98, 2, .aload 5, []), (100, 3, .getfield 79, [11, 5]), (103, 1, .iadd, []), (104, 1, .iload_n 3, []), (105, 2, .aload 5, []),
  (107, 3, .getfield 82, [11, 6]), (110, 1, .iadd, []), (111, 3, .invokevirtual 85, [0, 39, 5, 6]), (114, 3, .iinc 4 1, []), (117, 3, .goto (-64), []), (120, 1, .return_, [])]
set_option maxRecDepth 20000 in
def k_X5_castShadow : List az_I := [
  (0, 2, .bipush 100, []), (2, 1, .aload_n 0, []), (3, 3, .getfield 15, [6, 0]), (6, 3, .getfield 89, [2, 0]), (9, 1, .imul, []), (10, 2, .istore 5, []),
  (12, 2, .bipush 100, []), (14, 1, .aload_n 0, []), (15, 3, .getfield 15, [6, 0]), (18, 3, .getfield 92, [2, 1]), (21, 1, .imul, []), (22, 2, .istore 6, []),
  (24, 1, .aload_n 0, []), (25, 1, .iload_n 1, []), (26, 3, .invokevirtual 95, [0, 40, 2, 6]), (29, 2, .istore 7, []), (31, 2, .bipush 100, []), (33, 1, .aload_n 0, []),
  (34, 3, .getfield 15, [6, 0]), (37, 1, .iload_n 2, []), (38, 3, .invokevirtual 99, [0, 6, 2, 2]), (41, 1, .imul, []), (42, 2, .bipush 50, []), (44, 1, .iadd, []),
  (45, 2, .istore 8, []), (47, 2, .bipush 100, []), (49, 1, .aload_n 0, []), (50, 3, .getfield 15, [6, 0]), (53, 1, .iload_n 2, []), (54, 3, .invokevirtual 102, [0, 7, 2, 2]),
  (57, 1, .imul, []), (58, 2, .bipush 50, []), (60, 1, .iadd, []), (61, 2, .istore 9, []), (63, 1, .iconst 1, []), (64, 2, .istore 10, []),
  (66, 2, .iload 10, []), (68, 2, .iload 7, []), (70, 3, .if_icmp .gt 101, []), (73, 2, .iload 8, []), (75, 1, .iload_n 3, []), (76, 1, .iadd, []),
  (77, 2, .istore 8, []), (79, 2, .iload 9, []), (81, 2, .iload 4, []), (83, 1, .iadd, []), (84, 2, .istore 9, []), (86, 2, .iload 8, []),
  (88, 3, .ifCond .lt 22, []), (91, 2, .iload 8, []), (93, 2, .iload 5, []), (95, 3, .if_icmp .ge 15, []), (98, 2, .iload 9, []), (100, 3, .ifCond .lt 10, []),
  (103, 2, .iload 9, []), (105, 2, .iload 6, []), (107, 3, .if_icmp .lt 4, []), (110, 1, .return_, []), (111, 2, .iload 9, []), (113, 2, .bipush 100, []),
  (115, 1, .idiv, []), (116, 1, .aload_n 0, []), (117, 3, .getfield 15, [6, 0]), (120, 3, .getfield 89, [2, 0]), (123, 1, .imul, []), (124, 2, .iload 8, []),
  (126, 2, .bipush 100, []), (128, 1, .idiv, []), (129, 1, .iadd, []), (130, 2, .istore 11, []), (132, 2, .iload 11, []), (134, 1, .aload_n 0, []),
  (135, 3, .getfield 33, [6, 4]), (138, 1, .arraylength, []), (139, 3, .if_icmp .ge 26, []), (142, 1, .aload_n 0, []), (143, 3, .getfield 33, [6, 4]), (146, 2, .iload 11, []),
  (148, 1, .baload, []), (149, 3, .ifCond .ne 16, []), (152, 1, .aload_n 0, []), (153, 3, .getfield 37, [6, 5]), (156, 2, .iload 11, []), (158, 1, .dup2, []),
  (159, 1, .iaload, []), (160, 1, .iconst 1, []), (161, 1, .iload_n 1, []), (162, 1, .ishl, []), (163, 1, .ior, []), (164, 1, .iastore, []),
  (165, 3, .iinc 10 1, []), (168, 3, .goto (-102), []), (171, 1, .return_, [])]
set_option maxRecDepth 20000 in
def k_X5_heightOf : List az_I := [
  (0, 1, .iload_n 1, []), (1, 3, .ifCond .lt 21, []), (4, 1, .iload_n 1, []), (5, 1, .aload_n 0, []), (6, 3, .getfield 9, [6, 3]), (9, 1, .arraylength, []),
  (10, 3, .if_icmp .ge 12, []), (13, 1, .aload_n 0, []), (14, 3, .getfield 9, [6, 3]), (17, 1, .iload_n 1, []), (18, 1, .iaload, []), (19, 3, .goto 4, []),
  (22, 1, .iconst (-1), []), (23, 1, .ireturn, [])]
set_option maxRecDepth 20000 in
def k_X5_isOpen : List az_I := [
  (0, 1, .iload_n 1, []), (1, 3, .ifCond .lt 25, []), (4, 1, .iload_n 1, []), (5, 1, .aload_n 0, []), (6, 3, .getfield 33, [6, 4]), (9, 1, .arraylength, []),
  (10, 3, .if_icmp .ge 16, []), (13, 1, .aload_n 0, []), (14, 3, .getfield 33, [6, 4]), (17, 1, .iload_n 1, []), (18, 1, .baload, []), (19, 3, .ifCond .ne 7, []),
  (22, 1, .iconst 1, []), (23, 3, .goto 4, []), (26, 1, .iconst 0, []), (27, 1, .ireturn, [])]
set_option maxRecDepth 20000 in
def k_X5_shadersOf : List az_I := [
  (0, 1, .iload_n 1, []), (1, 3, .ifCond .lt 12, []), (4, 1, .iload_n 1, []), (5, 1, .aload_n 0, []), (6, 3, .getfield 37, [6, 5]), (9, 1, .arraylength, []),
  (10, 3, .if_icmp .lt 5, []), (13, 1, .iconst 0, []), (14, 1, .ireturn, []), (15, 1, .aload_n 0, []), (16, 3, .getfield 37, [6, 5]), (19, 1, .iload_n 1, []),
  (20, 1, .iaload, []), (21, 1, .istore_n 2, []), (22, 1, .iconst 0, []), (23, 1, .istore_n 3, []), (24, 1, .iload_n 3, []), (25, 2, .bipush 12, []),
  (27, 3, .if_icmp .ge 19, []), (30, 1, .iload_n 2, []), (31, 3, .ifCond .eq 15, []), (34, 1, .iload_n 2, []), (35, 1, .iload_n 2, []), (36, 1, .iconst 1, []),
  (37, 1, .isub, []), (38, 1, .iand, []), (39, 1, .istore_n 2, []), (40, 3, .iinc 3 1, []), (43, 3, .goto (-19), []), (46, 1, .aload_n 0, []),
  (47, 3, .getfield 37, [6, 5]), (50, 1, .iload_n 1, []), (51, 1, .iaload, []), (52, 1, .iload_n 2, []), (53, 1, .iconst (-1), []), (54, 1, .ixor, []),
  (55, 1, .iand, []), (56, 1, .ireturn, [])]
set_option maxRecDepth 20000 in
def k_X5_partsOf : List az_I := [
  (0, 1, .aload_n 0, []), (1, 1, .iload_n 2, []), (2, 3, .invokevirtual 105, [0, 42, 2, 6]), (5, 1, .istore_n 3, []), (6, 1, .iload_n 3, []), (7, 3, .invokestatic 108, [0, 252, 1, 999]),
  (10, 2, .istore 4, []), (12, 2, .iload 4, []), (14, 3, .ifCond .le 19, []), (17, 3, .sipush 27720, []), (20, 2, .iload 4, []), (22, 1, .idiv, []),
  (23, 1, .iload_n 3, []), (24, 1, .iload_n 1, []), (25, 1, .iand, []), (26, 3, .invokestatic 108, [0, 252, 1, 999]), (29, 1, .imul, []), (30, 3, .goto 4, []),
  (33, 1, .iconst 0, []), (34, 1, .ireturn, [])]
set_option maxRecDepth 20000 in
def k_X5_partsOfAll : List az_I := [
  (0, 1, .lconst 0, []), (1, 1, .lstore_n 2, []), (2, 1, .iconst 0, []), (3, 2, .istore 4, []), (5, 2, .iload 4, []), (7, 1, .aload_n 0, []),
  (8, 3, .getfield 37, [6, 5]), (11, 1, .arraylength, []), (12, 3, .if_icmp .ge 32, []), (15, 1, .aload_n 0, []), (16, 3, .getfield 37, [6, 5]), (19, 2, .iload 4, []),
  (21, 1, .iaload, []), (22, 1, .iload_n 1, []), (23, 1, .iand, []), (24, 3, .ifCond .eq 14, []), (27, 1, .lload_n 2, []), (28, 1, .aload_n 0, []),
  (29, 1, .iload_n 1, []), (30, 2, .iload 4, []), (32, 3, .invokevirtual 113, [0, 43, 3, 6]), (35, 1, .i2l, []), (36, 1, .ladd, []), (37, 1, .lstore_n 2, []),
  (38, 3, .iinc 4 1, []), (41, 3, .goto (-36), []), (44, 1, .lload_n 2, []), (45, 1, .lreturn, [])]
set_option maxRecDepth 20000 in
def k_X5_cellsShadedBy : List az_I := [
  (0, 1, .iconst 0, []), (1, 1, .istore_n 2, []), (2, 1, .iconst 0, []), (3, 1, .istore_n 3, []), (4, 1, .iload_n 3, []), (5, 1, .aload_n 0, []),
  (6, 3, .getfield 37, [6, 5]), (9, 1, .arraylength, []), (10, 3, .if_icmp .ge 25, []), (13, 1, .aload_n 0, []), (14, 3, .getfield 37, [6, 5]), (17, 1, .iload_n 3, []),
  (18, 1, .iaload, []), (19, 1, .iload_n 1, []), (20, 1, .ishr, []), (21, 1, .iconst 1, []), (22, 1, .iand, []), (23, 3, .ifCond .eq 6, []),
  (26, 3, .iinc 2 1, []), (29, 3, .iinc 3 1, []), (32, 3, .goto (-28), []), (35, 1, .iload_n 2, []), (36, 1, .ireturn, [])]
set_option maxRecDepth 20000 in
def k_X6_init : List az_I := [
  (0, 1, .aload_n 0, []), (1, 3, .invokespecial 3, [1, 2, 3]), (4, 1, .aload_n 0, []), (5, 3, .sipush 144, []), (8, 2, .newarray .int, []), (10, 3, .putfield 9, [7, 0]),
  (13, 1, .aload_n 0, []), (14, 3, .sipush 144, []), (17, 2, .newarray .int, []), (19, 3, .putfield 15, [7, 1]), (22, 1, .aload_n 0, []), (23, 2, .bipush 60, []),
  (25, 2, .newarray .int, []), (27, 3, .putfield 18, [7, 2]), (30, 1, .iconst 0, []), (31, 1, .istore_n 1, []), (32, 1, .iload_n 1, []), (33, 2, .bipush 12, []),
  (35, 3, .if_icmp .ge 66, []), (38, 1, .iconst 0, []), (39, 1, .istore_n 2, []), (40, 1, .iload_n 2, []), (41, 2, .bipush 12, []), (43, 3, .if_icmp .ge 52, []),
  (46, 1, .aload_n 0, []), (47, 3, .getfield 9, [7, 0]), (50, 1, .iload_n 1, []), (51, 2, .bipush 12, []), (53, 1, .imul, []), (54, 1, .iload_n 2, []),
  (55, 1, .iadd, []), (56, 2, .bipush 20, []), (58, 1, .iconst 2, []), (59, 1, .iload_n 2, []), (60, 1, .imul, []), (61, 2, .bipush 11, []),
  (63, 1, .isub, []), (64, 1, .imul, []), (65, 1, .iastore, []), (66, 1, .aload_n 0, []), (67, 3, .getfield 15, [7, 1]), (70, 1, .iload_n 1, []),
  (71, 2, .bipush 12, []), (73, 1, .imul, []), (74, 1, .iload_n 2, []), (75, 1, .iadd, []), (76, 2, .bipush 20, []), (78, 1, .iconst 5, []),
  (79, 1, .iload_n 1, []), (80, 2, .bipush 6, []), (82, 1, .isub, []), (83, 3, .invokestatic 21, [0, 254, 1, 999]), (86, 1, .imul, []), (87, 1, .iadd, []),
  (88, 1, .iastore, []), (89, 3, .iinc 2 1, []), (92, 3, .goto (-52), []), (95, 3, .iinc 1 1, []), (98, 3, .goto (-66), []), (101, 1, .return_, [])]
set_option maxRecDepth 20000 in
def k_X6_setSun : List az_I := [
  (0, 1, .iload_n 1, []), (1, 2, .bipush 12, []), (3, 1, .imul, []), (4, 1, .iload_n 2, []), (5, 1, .iadd, []), (6, 2, .istore 5, []),
  (8, 2, .iload 5, []), (10, 3, .ifCond .lt 30, []), (13, 2, .iload 5, []), (15, 1, .aload_n 0, []), (16, 3, .getfield 9, [7, 0]), (19, 1, .arraylength, []),
  (20, 3, .if_icmp .ge 20, []), (23, 1, .aload_n 0, []), (24, 3, .getfield 9, [7, 0]), (27, 2, .iload 5, []), (29, 1, .iload_n 3, []), (30, 1, .iastore, []),
  (31, 1, .aload_n 0, []), (32, 3, .getfield 15, [7, 1]), (35, 2, .iload 5, []), (37, 2, .iload 4, []), (39, 1, .iastore, []), (40, 1, .return_, [])]
set_option maxRecDepth 20000 in
def k_X6_sunX : List az_I := [
  (0, 1, .iload_n 1, []), (1, 3, .invokestatic 27, [0, 136, 1, 999]), (4, 2, .bipush 12, []), (6, 1, .imul, []), (7, 1, .iload_n 2, []), (8, 1, .iadd, []),
  (9, 1, .istore_n 3, []), (10, 1, .iload_n 3, []), (11, 3, .ifCond .lt 21, []), (14, 1, .iload_n 3, []), (15, 1, .aload_n 0, []), (16, 3, .getfield 9, [7, 0]),
  (19, 1, .arraylength, []), (20, 3, .if_icmp .ge 12, []), (23, 1, .aload_n 0, []), (24, 3, .getfield 9, [7, 0]), (27, 1, .iload_n 3, []), (28, 1, .iaload, []),
  (29, 3, .goto 4, []), (32, 1, .iconst 0, []), (33, 1, .ireturn, [])]
set_option maxRecDepth 20000 in
def k_X6_sunY : List az_I := [
  (0, 1, .iload_n 1, []), (1, 3, .invokestatic 27, [0, 136, 1, 999]), (4, 2, .bipush 12, []), (6, 1, .imul, []), (7, 1, .iload_n 2, []), (8, 1, .iadd, []),
  (9, 1, .istore_n 3, []), (10, 1, .iload_n 3, []), (11, 3, .ifCond .lt 21, []), (14, 1, .iload_n 3, []), (15, 1, .aload_n 0, []), (16, 3, .getfield 15, [7, 1]),
  (19, 1, .arraylength, []), (20, 3, .if_icmp .ge 12, []), (23, 1, .aload_n 0, []), (24, 3, .getfield 15, [7, 1]), (27, 1, .iload_n 3, []), (28, 1, .iaload, []),
  (29, 3, .goto 4, []), (32, 1, .iconst 0, []), (33, 1, .ireturn, [])]
set_option maxRecDepth 20000 in
def k_X6_isClouded : List az_I := [
  (0, 1, .iconst 0, []), (1, 1, .istore_n 3, []), (2, 1, .iload_n 3, []), (3, 1, .aload_n 0, []), (4, 3, .getfield 30, [7, 3]), (7, 3, .if_icmp .ge 35, []),
  (10, 1, .iload_n 3, []), (11, 1, .aload_n 0, []), (12, 3, .getfield 18, [7, 2]), (15, 1, .arraylength, []), (16, 3, .if_icmp .ge 26, []), (19, 1, .aload_n 0, []),
  (20, 3, .getfield 18, [7, 2]), (23, 1, .iload_n 3, []), (24, 1, .iaload, []), (25, 1, .iload_n 1, []), (26, 2, .bipush 12, []), (28, 1, .imul, []),
  (29, 1, .iload_n 2, []), (30, 1, .iadd, []), (31, 3, .if_icmp .ne 5, []), (34, 1, .iconst 1, []), (35, 1, .ireturn, []), (36, 3, .iinc 3 1, []),
  (39, 3, .goto (-37), []), (42, 1, .iconst 0, []), (43, 1, .ireturn, [])]
set_option maxRecDepth 20000 in
def k_X6_addCloud : List az_I := [
  (0, 1, .aload_n 0, []), (1, 3, .getfield 30, [7, 3]), (4, 3, .ifCond .lt 15, []), (7, 1, .aload_n 0, []), (8, 3, .getfield 30, [7, 3]), (11, 1, .aload_n 0, []),
  (12, 3, .getfield 18, [7, 2]), (15, 1, .arraylength, []), (16, 3, .if_icmp .lt 5, []), (19, 1, .iconst (-1), []), (20, 1, .ireturn, []), (21, 1, .aload_n 0, []),
  (22, 3, .getfield 18, [7, 2]), (25, 1, .aload_n 0, []), (26, 3, .getfield 30, [7, 3]), (29, 1, .iload_n 1, []), (30, 2, .bipush 12, []), (32, 1, .imul, []),
  (33, 1, .iload_n 2, []), (34, 1, .iadd, []), (35, 1, .iastore, []), (36, 1, .aload_n 0, []), (37, 1, .dup, []), (38, 3, .getfield 30, [7, 3]),
  (41, 1, .iconst 1, []), (42, 1, .iadd, []), (43, 3, .putfield 30, [7, 3]), (46, 1, .aload_n 0, []), (47, 3, .getfield 30, [7, 3]), (50, 1, .ireturn, [])]
set_option maxRecDepth 20000 in
def k_X7_init : List az_I := [
  (0, 1, .aload_n 0, []), (1, 3, .invokespecial 3, [1, 2, 3]), (4, 1, .aload_n 0, []), (5, 2, .bipush 12, []), (7, 2, .newarray .int, []), (9, 3, .putfield 9, [8, 2]),
  (12, 1, .aload_n 0, []), (13, 1, .iload_n 1, []), (14, 3, .putfield 15, [8, 0]), (17, 1, .aload_n 0, []), (18, 1, .iload_n 2, []), (19, 3, .putfield 19, [8, 1]),
  (22, 1, .aload_n 0, []), (23, 3, .getfield 9, [8, 2]), (26, 1, .iconst (-1), []), (27, 3, .invokestatic 22, [0, 275, 2, 999]), (30, 1, .return_, [])]
set_option maxRecDepth 20000 in
def k_X7_isOn : List az_I := [
  (0, 1, .iload_n 1, []), (1, 1, .aload_n 0, []), (2, 3, .getfield 15, [8, 0]), (5, 3, .if_icmp .lt 15, []), (8, 1, .iload_n 1, []), (9, 1, .aload_n 0, []),
  (10, 3, .getfield 19, [8, 1]), (13, 3, .if_icmp .gt 7, []), (16, 1, .iconst 1, []), (17, 3, .goto 4, []), (20, 1, .iconst 0, []), (21, 1, .ireturn, [])]
set_option maxRecDepth 20000 in
def k_X7_put : List az_I := [
  (0, 1, .iload_n 1, []), (1, 3, .ifCond .lt 19, []), (4, 1, .iload_n 1, []), (5, 1, .aload_n 0, []), (6, 3, .getfield 9, [8, 2]), (9, 1, .arraylength, []),
  (10, 3, .if_icmp .ge 10, []), (13, 1, .aload_n 0, []), (14, 3, .getfield 9, [8, 2]), (17, 1, .iload_n 1, []), (18, 1, .iload_n 2, []), (19, 1, .iastore, []),
  (20, 1, .return_, [])]
set_option maxRecDepth 20000 in
def k_X7_cellIn : List az_I := [
  (0, 1, .iload_n 1, []), (1, 3, .ifCond .lt 21, []), (4, 1, .iload_n 1, []), (5, 1, .aload_n 0, []), (6, 3, .getfield 9, [8, 2]), (9, 1, .arraylength, []),
  (10, 3, .if_icmp .ge 12, []), (13, 1, .aload_n 0, []), (14, 3, .getfield 9, [8, 2]), (17, 1, .iload_n 1, []), (18, 1, .iaload, []), (19, 3, .goto 4, []),
  (22, 1, .iconst (-1), []), (23, 1, .ireturn, [])]
set_option maxRecDepth 20000 in
def k_X7_hasCell : List az_I := [
  (0, 1, .iconst 0, []), (1, 1, .istore_n 2, []), (2, 1, .iload_n 2, []), (3, 1, .aload_n 0, []), (4, 3, .getfield 9, [8, 2]), (7, 1, .arraylength, []),
  (8, 3, .if_icmp .ge 21, []), (11, 1, .aload_n 0, []), (12, 3, .getfield 9, [8, 2]), (15, 1, .iload_n 2, []), (16, 1, .iaload, []), (17, 1, .iload_n 1, []),
  (18, 3, .if_icmp .ne 5, []), (21, 1, .iconst 1, []), (22, 1, .ireturn, []), (23, 3, .iinc 2 1, []), (26, 3, .goto (-24), []), (29, 1, .iconst 0, []),
  (30, 1, .ireturn, [])]
set_option maxRecDepth 20000 in
def k_X8_init : List az_I := [
  (0, 1, .aload_n 0, []), (1, 3, .invokespecial 3, [1, 2, 3]), (4, 1, .aload_n 0, []), (5, 3, .sipush 400, []), (8, 2, .newarray .int, []), (10, 3, .putfield 9, [9, 0]),
  (13, 1, .aload_n 0, []), (14, 3, .sipush 401, []), (17, 2, .newarray .int, []), (19, 3, .putfield 15, [9, 2]), (22, 1, .aload_n 0, []), (23, 3, .sipush 401, []),
  (26, 2, .newarray .int, []), (28, 3, .putfield 18, [9, 3]), (31, 1, .aload_n 0, []), (32, 3, .sipush 401, []), (35, 2, .newarray .int, []), (37, 3, .putfield 21, [9, 4]),
  (40, 1, .return_, [])]
set_option maxRecDepth 20000 in
def k_X8_addFour : List az_I := [
  (0, 2, .bipush 24, []), (2, 1, .istore_n 2, []), (3, 1, .iload_n 2, []), (4, 3, .ifCond .lt 54, []), (7, 1, .aload_n 0, []), (8, 3, .getfield 24, [9, 1]),
  (11, 3, .ifCond .lt 47, []), (14, 1, .aload_n 0, []), (15, 3, .getfield 24, [9, 1]), (18, 1, .aload_n 0, []), (19, 3, .getfield 9, [9, 0]), (22, 1, .arraylength, []),
  (23, 3, .if_icmp .ge 35, []), (26, 1, .aload_n 0, []), (27, 3, .getfield 9, [9, 0]), (30, 1, .aload_n 0, []), (31, 3, .getfield 24, [9, 1]), (34, 1, .iload_n 1, []),
  (35, 1, .iload_n 2, []), (36, 1, .ishr, []), (37, 3, .sipush 255, []), (40, 1, .iand, []), (41, 1, .iastore, []), (42, 1, .aload_n 0, []),
  (43, 1, .dup, []), (44, 3, .getfield 24, [9, 1]), (47, 1, .iconst 1, []), (48, 1, .iadd, []), (49, 3, .putfield 24, [9, 1]), (52, 3, .iinc 2 (-8), []),
  (55, 3, .goto (-52), []), (58, 1, .return_, [])]
set_option maxRecDepth 20000 in
def k_X8_cutIntoTokens : List az_I := [
  (0, 1, .aload_n 0, []), (1, 1, .iconst 0, []), (2, 3, .putfield 28, [9, 5]), (5, 1, .iconst 0, []), (6, 1, .istore_n 1, []), (7, 1, .iconst 0, []),
  (8, 1, .istore_n 2, []), (9, 1, .iload_n 2, []), (10, 3, .sipush 400, []), (13, 3, .if_icmp .ge 157, []), (16, 1, .iload_n 1, []), (17, 1, .aload_n 0, []),
  (18, 3, .getfield 24, [9, 1]), (21, 3, .if_icmp .ge 149, []), (24, 1, .aload_n 0, []), (25, 1, .iload_n 1, []), (26, 3, .invokevirtual 31, [0, 63, 2, 9]), (29, 1, .istore_n 3, []),
  (30, 1, .iload_n 3, []), (31, 3, .invokestatic 35, [0, 65, 1, 999]), (34, 3, .ifCond .eq 23, []), (37, 1, .aload_n 0, []), (38, 1, .iload_n 1, []), (39, 3, .invokevirtual 39, [0, 67, 2, 9]),
  (42, 2, .istore 4, []), (44, 1, .aload_n 0, []), (45, 1, .iload_n 1, []), (46, 2, .iload 4, []), (48, 3, .invokevirtual 42, [0, 70, 3, 9]), (51, 2, .iload 4, []),
  (53, 1, .istore_n 1, []), (54, 3, .goto 110, []), (57, 1, .iload_n 3, []), (58, 3, .invokestatic 46, [0, 66, 1, 999]), (61, 3, .ifCond .eq 29, []), (64, 1, .aload_n 0, []),
  (65, 1, .iload_n 1, []), (66, 3, .invokevirtual 49, [0, 68, 2, 9]), (69, 2, .istore 4, []), (71, 1, .aload_n 0, []), (72, 1, .iconst 2, []), (73, 1, .iload_n 1, []),
  (74, 1, .aload_n 0, []), (75, 1, .iload_n 1, []), (76, 2, .iload 4, []), (78, 3, .invokevirtual 52, [0, 69, 3, 9]), (81, 3, .invokevirtual 56, [0, 64, 4, 9]), (84, 2, .iload 4, []),
  (86, 1, .istore_n 1, []), (87, 3, .goto 77, []), (90, 1, .iload_n 3, []), (91, 2, .bipush 60, []), (93, 3, .if_icmp .eq 9, []), (96, 1, .iload_n 3, []),
  (97, 2, .bipush 62, []), (99, 3, .if_icmp .ne 40, []), (102, 1, .aload_n 0, []), (103, 1, .iload_n 1, []), (104, 1, .iconst 1, []), (105, 1, .iadd, []),
  (106, 3, .invokevirtual 31, [0, 63, 2, 9]), (109, 2, .bipush 61, []), (111, 3, .if_icmp .ne 28, []), (114, 1, .aload_n 0, []), (115, 1, .iload_n 3, []), (116, 2, .bipush 60, []),
  (118, 3, .if_icmp .ne 8, []), (121, 2, .bipush 12, []), (123, 3, .goto 5, []), (126, 2, .bipush 14, []), (128, 1, .iload_n 1, []), (129, 1, .iconst 0, []),
  (130, 3, .invokevirtual 56, [0, 64, 4, 9]), (133, 3, .iinc 1 2, []), (136, 3, .goto 28, []), (139, 1, .iload_n 3, []), (140, 2, .bipush 32, []), (142, 3, .if_icmp .eq 19, []),
  (145, 1, .iload_n 3, []), (146, 2, .bipush 10, []), (148, 3, .if_icmp .eq 13, []), (151, 1, .aload_n 0, []), (152, 1, .iload_n 3, []), (153, 3, .invokestatic 60, [0, 74, 1, 999]),
  (156, 1, .iload_n 1, []), (157, 1, .iconst 0, []), (158, 3, .invokevirtual 56, [0, 64, 4, 9]), (161, 3, .iinc 1 1, []), (164, 3, .iinc 2 1, []), (167, 3, .goto (-158), []),
  (170, 1, .aload_n 0, []), (171, 1, .iconst 0, []), (172, 1, .aload_n 0, []), (173, 3, .getfield 24, [9, 1]), (176, 1, .iconst 0, []), (177, 3, .invokevirtual 56, [0, 64, 4, 9]),
  (180, 1, .return_, [])]
set_option maxRecDepth 20000 in
def k_X8_kindOf : List az_I := [
  (0, 1, .iload_n 1, []), (1, 3, .ifCond .lt 29, []), (4, 1, .iload_n 1, []), (5, 1, .aload_n 0, []), (6, 3, .getfield 28, [9, 5]), (9, 3, .if_icmp .ge 21, []),
  (12, 1, .iload_n 1, []), (13, 1, .aload_n 0, []), (14, 3, .getfield 15, [9, 2]), (17, 1, .arraylength, []), (18, 3, .if_icmp .ge 12, []), (21, 1, .aload_n 0, []),
  (22, 3, .getfield 15, [9, 2]), (25, 1, .iload_n 1, []), (26, 1, .iaload, []), (27, 3, .goto 4, []), (30, 1, .iconst 0, []), (31, 1, .ireturn, [])]
set_option maxRecDepth 20000 in
def k_X8_startOf : List az_I := [
  (0, 1, .iload_n 1, []), (1, 3, .ifCond .lt 29, []), (4, 1, .iload_n 1, []), (5, 1, .aload_n 0, []), (6, 3, .getfield 28, [9, 5]), (9, 3, .if_icmp .ge 21, []),
  (12, 1, .iload_n 1, []), (13, 1, .aload_n 0, []), (14, 3, .getfield 18, [9, 3]), (17, 1, .arraylength, []), (18, 3, .if_icmp .ge 12, []), (21, 1, .aload_n 0, []),
  (22, 3, .getfield 18, [9, 3]), (25, 1, .iload_n 1, []), (26, 1, .iaload, []), (27, 3, .goto 4, []), (30, 1, .iconst (-1), []), (31, 1, .ireturn, [])]
set_option maxRecDepth 20000 in
def k_X8_valueOf : List az_I := [
  (0, 1, .iload_n 1, []), (1, 3, .ifCond .lt 29, []), (4, 1, .iload_n 1, []), (5, 1, .aload_n 0, []), (6, 3, .getfield 28, [9, 5]), (9, 3, .if_icmp .ge 21, []),
  (12, 1, .iload_n 1, []), (13, 1, .aload_n 0, []), (14, 3, .getfield 21, [9, 4]), (17, 1, .arraylength, []), (18, 3, .if_icmp .ge 12, []), (21, 1, .aload_n 0, []),
  (22, 3, .getfield 21, [9, 4]), (25, 1, .iload_n 1, []), (26, 1, .iaload, []), (27, 3, .goto 4, []), (30, 1, .iconst 0, []), (31, 1, .ireturn, [])]
set_option maxRecDepth 20000 in
def k_X8_byteAt : List az_I := [
  (0, 1, .iload_n 1, []), (1, 3, .ifCond .lt 29, []), (4, 1, .iload_n 1, []), (5, 1, .aload_n 0, []), (6, 3, .getfield 24, [9, 1]), (9, 3, .if_icmp .ge 21, []),
  (12, 1, .iload_n 1, []), (13, 1, .aload_n 0, []), (14, 3, .getfield 9, [9, 0]), (17, 1, .arraylength, []), (18, 3, .if_icmp .ge 12, []), (21, 1, .aload_n 0, []),
  (22, 3, .getfield 9, [9, 0]), (25, 1, .iload_n 1, []), (26, 1, .iaload, []), (27, 3, .goto 4, []), (30, 1, .iconst (-1), []), (31, 1, .ireturn, [])]
set_option maxRecDepth 20000 in
def k_X8_addToken : List az_I := [
  (0, 1, .aload_n 0, []), (1, 3, .getfield 28, [9, 5]), (4, 3, .ifCond .lt 55, []), (7, 1, .aload_n 0, []), (8, 3, .getfield 28, [9, 5]), (11, 1, .aload_n 0, []),
  (12, 3, .getfield 15, [9, 2]), (15, 1, .arraylength, []), (16, 3, .if_icmp .ge 43, []), (19, 1, .aload_n 0, []), (20, 3, .getfield 15, [9, 2]), (23, 1, .aload_n 0, []),
  (24, 3, .getfield 28, [9, 5]), (27, 1, .iload_n 1, []), (28, 1, .iastore, []), (29, 1, .aload_n 0, []), (30, 3, .getfield 18, [9, 3]), (33, 1, .aload_n 0, []),
  (34, 3, .getfield 28, [9, 5]), (37, 1, .iload_n 2, []), (38, 1, .iastore, []), (39, 1, .aload_n 0, []), (40, 3, .getfield 21, [9, 4]), (43, 1, .aload_n 0, []),
  (44, 3, .getfield 28, [9, 5]), (47, 1, .iload_n 3, []), (48, 1, .iastore, []), (49, 1, .aload_n 0, []), (50, 1, .dup, []), (51, 3, .getfield 28, [9, 5]),
  (54, 1, .iconst 1, []), (55, 1, .iadd, []), (56, 3, .putfield 28, [9, 5]), (59, 1, .return_, [])]
set_option maxRecDepth 20000 in
def k_X8_isLetter : List az_I := [
  (0, 1, .iload_n 0, []), (1, 2, .bipush 97, []), (3, 3, .if_icmp .lt 9, []), (6, 1, .iload_n 0, []), (7, 2, .bipush 122, []), (9, 3, .if_icmp .le 15, []),
  (12, 1, .iload_n 0, []), (13, 2, .bipush 65, []), (15, 3, .if_icmp .lt 13, []), (18, 1, .iload_n 0, []), (19, 2, .bipush 90, []), (21, 3, .if_icmp .gt 7, []),
  (24, 1, .iconst 1, []), (25, 3, .goto 4, []), (28, 1, .iconst 0, []), (29, 1, .ireturn, [])]
set_option maxRecDepth 20000 in
def k_X8_isDigit : List az_I := [
  (0, 1, .iload_n 0, []), (1, 2, .bipush 48, []), (3, 3, .if_icmp .lt 13, []), (6, 1, .iload_n 0, []), (7, 2, .bipush 57, []), (9, 3, .if_icmp .gt 7, []),
  (12, 1, .iconst 1, []), (13, 3, .goto 4, []), (16, 1, .iconst 0, []), (17, 1, .ireturn, [])]
set_option maxRecDepth 20000 in
def k_X8_endOfLetters : List az_I := [
  (0, 1, .iload_n 1, []), (1, 1, .istore_n 2, []), (2, 1, .iload_n 2, []), (3, 1, .aload_n 0, []), (4, 3, .getfield 24, [9, 1]), (7, 3, .if_icmp .ge 20, []),
  (10, 1, .aload_n 0, []), (11, 1, .iload_n 2, []), (12, 3, .invokevirtual 31, [0, 63, 2, 9]), (15, 3, .invokestatic 35, [0, 65, 1, 999]), (18, 3, .ifCond .eq 9, []), (21, 3, .iinc 2 1, []),
  (24, 3, .goto (-22), []), (27, 1, .iload_n 2, []), (28, 1, .ireturn, [])]
set_option maxRecDepth 20000 in
def k_X8_endOfDigits : List az_I := [
  (0, 1, .iload_n 1, []), (1, 1, .istore_n 2, []), (2, 1, .iload_n 2, []), (3, 1, .aload_n 0, []), (4, 3, .getfield 24, [9, 1]), (7, 3, .if_icmp .ge 20, []),
  (10, 1, .aload_n 0, []), (11, 1, .iload_n 2, []), (12, 3, .invokevirtual 31, [0, 63, 2, 9]), (15, 3, .invokestatic 46, [0, 66, 1, 999]), (18, 3, .ifCond .eq 9, []), (21, 3, .iinc 2 1, []),
  (24, 3, .goto (-22), []), (27, 1, .iload_n 2, []), (28, 1, .ireturn, [])]
set_option maxRecDepth 20000 in
def k_X8_numberOf : List az_I := [
  (0, 1, .iconst 0, []), (1, 1, .istore_n 3, []), (2, 1, .iload_n 1, []), (3, 2, .istore 4, []), (5, 2, .iload 4, []), (7, 1, .iload_n 2, []),
  (8, 3, .if_icmp .ge 29, []), (11, 2, .ldc 63, [0, 100001]), (13, 2, .bipush 10, []), (15, 1, .iload_n 3, []), (16, 1, .imul, []), (17, 1, .aload_n 0, []),
  (18, 2, .iload 4, []), (20, 3, .invokevirtual 31, [0, 63, 2, 9]), (23, 1, .iadd, []), (24, 2, .bipush 48, []), (26, 1, .isub, []), (27, 3, .invokestatic 64, [0, 257, 2, 999]),
  (30, 1, .istore_n 3, []), (31, 3, .iinc 4 1, []), (34, 3, .goto (-29), []), (37, 1, .iload_n 3, []), (38, 1, .ireturn, [])]
set_option maxRecDepth 20000 in
def k_X8_addWord : List az_I := [
  (0, 1, .aload_n 0, []), (1, 1, .iload_n 1, []), (2, 1, .iload_n 2, []), (3, 3, .invokevirtual 69, [0, 71, 3, 9]), (6, 1, .istore_n 3, []), (7, 1, .iload_n 3, []),
  (8, 1, .iconst (-1), []), (9, 3, .if_icmp .ne 18, []), (12, 1, .aload_n 0, []), (13, 1, .aload_n 0, []), (14, 1, .iload_n 1, []), (15, 1, .iload_n 2, []),
  (16, 3, .invokevirtual 72, [0, 72, 3, 9]), (19, 1, .iload_n 1, []), (20, 1, .iconst 0, []), (21, 3, .invokevirtual 56, [0, 64, 4, 9]), (24, 3, .goto 10, []), (27, 1, .aload_n 0, []),
  (28, 1, .iconst 3, []), (29, 1, .iload_n 1, []), (30, 1, .iload_n 3, []), (31, 3, .invokevirtual 56, [0, 64, 4, 9]), (34, 1, .return_, [])]
set_option maxRecDepth 20000 in
def k_X8_nameOf : List az_I := [
  (0, 1, .aload_n 0, []), (1, 1, .iload_n 1, []), (2, 1, .iload_n 2, []), (3, 2, .ldc 75, [1, 1000010]), (5, 3, .invokevirtual 77, [0, 73, 4, 9]), (8, 3, .ifCond .eq 5, []),
  (11, 1, .iconst 0, []), (12, 1, .ireturn, []), (13, 1, .aload_n 0, []), (14, 1, .iload_n 1, []), (15, 1, .iload_n 2, []), (16, 2, .ldc 81, [1, 1000011]),
  (18, 3, .invokevirtual 77, [0, 73, 4, 9]), (21, 3, .ifCond .eq 5, []), (24, 1, .iconst 1, []), (25, 1, .ireturn, []), (26, 1, .aload_n 0, []), (27, 1, .iload_n 1, []),
  (28, 1, .iload_n 2, []), (29, 2, .ldc 83, [1, 1000012]), (31, 3, .invokevirtual 77, [0, 73, 4, 9]), (34, 3, .ifCond .eq 5, []), (37, 1, .iconst 2, []), (38, 1, .ireturn, []),
  (39, 1, .aload_n 0, []), (40, 1, .iload_n 1, []), (41, 1, .iload_n 2, []), (42, 2, .ldc 85, [1, 1000013]), (44, 3, .invokevirtual 77, [0, 73, 4, 9]), (47, 3, .ifCond .eq 5, []),
  (50, 1, .iconst 3, []), (51, 1, .ireturn, []), (52, 1, .aload_n 0, []), (53, 1, .iload_n 1, []), (54, 1, .iload_n 2, []), (55, 2, .ldc 87, [1, 1000014]),
  (57, 3, .invokevirtual 77, [0, 73, 4, 9]), (60, 3, .ifCond .eq 5, []), (63, 1, .iconst 4, []), (64, 1, .ireturn, []), (65, 1, .aload_n 0, []), (66, 1, .iload_n 1, []),
  (67, 1, .iload_n 2, []), (68, 2, .ldc 89, [1, 1000015]), (70, 3, .invokevirtual 77, [0, 73, 4, 9]), (73, 3, .ifCond .eq 5, []), (76, 1, .iconst 5, []), (77, 1, .ireturn, []),
  (78, 1, .aload_n 0, []), (79, 1, .iload_n 1, []), (80, 1, .iload_n 2, []), (81, 2, .ldc 91, [1, 1000016]), (83, 3, .invokevirtual 77, [0, 73, 4, 9]), (86, 3, .ifCond .eq 6, []),
  (89, 2, .bipush 6, []), (91, 1, .ireturn, []), (92, 1, .aload_n 0, []), (93, 1, .iload_n 1, []), (94, 1, .iload_n 2, []), (95, 2, .ldc 93, [1, 1000017]),
  (97, 3, .invokevirtual 77, [0, 73, 4, 9]), (100, 3, .ifCond .eq 6, []), (103, 2, .bipush 7, []), (105, 1, .ireturn, []), (106, 1, .iconst (-1), []), (107, 1, .ireturn, [])]
set_option maxRecDepth 20000 in
def k_X8_kindOfWord : List az_I := [
  (0, 1, .aload_n 0, []), (1, 1, .iload_n 1, []), (2, 1, .iload_n 2, []), (3, 2, .ldc 95, [1, 1000018]), (5, 3, .invokevirtual 77, [0, 73, 4, 9]), (8, 3, .ifCond .eq 5, []),
  (11, 1, .iconst 4, []), (12, 1, .ireturn, []), (13, 1, .aload_n 0, []), (14, 1, .iload_n 1, []), (15, 1, .iload_n 2, []), (16, 2, .ldc 97, [1, 1000019]),
  (18, 3, .invokevirtual 77, [0, 73, 4, 9]), (21, 3, .ifCond .eq 5, []), (24, 1, .iconst 5, []), (25, 1, .ireturn, []), (26, 1, .aload_n 0, []), (27, 1, .iload_n 1, []),
  (28, 1, .iload_n 2, []), (29, 2, .ldc 99, [1, 1000020]), (31, 3, .invokevirtual 77, [0, 73, 4, 9]), (34, 3, .ifCond .eq 6, []), (37, 2, .bipush 6, []), (39, 1, .ireturn, []),
  (40, 1, .aload_n 0, []), (41, 1, .iload_n 1, []), (42, 1, .iload_n 2, []), (43, 2, .ldc 101, [1, 1000021]), (45, 3, .invokevirtual 77, [0, 73, 4, 9]), (48, 3, .ifCond .eq 6, []),
  (51, 2, .bipush 7, []), (53, 1, .ireturn, []), (54, 1, .aload_n 0, []), (55, 1, .iload_n 1, []), (56, 1, .iload_n 2, []), (57, 2, .ldc 103, [1, 1000022]),
  (59, 3, .invokevirtual 77, [0, 73, 4, 9]), (62, 3, .ifCond .eq 6, []), (65, 2, .bipush 8, []), (67, 1, .ireturn, []), (68, 1, .aload_n 0, []), (69, 1, .iload_n 1, []),
  (70, 1, .iload_n 2, []), (71, 2, .ldc 105, [1, 1000023]), (73, 3, .invokevirtual 77, [0, 73, 4, 9]), (76, 3, .ifCond .eq 6, []), (79, 2, .bipush 9, []), (81, 1, .ireturn, []),
  (82, 1, .aload_n 0, []), (83, 1, .iload_n 1, []), (84, 1, .iload_n 2, []), (85, 2, .ldc 106, [1, 1000024]), (87, 3, .invokevirtual 77, [0, 73, 4, 9]), (90, 3, .ifCond .eq 6, []),
  (93, 2, .bipush 10, []), (95, 1, .ireturn, []), (96, 1, .iconst 1, []), (97, 1, .ireturn, [])]
set_option maxRecDepth 20000 in
def k_X8_isWord : List az_I := [
  (0, 1, .aload_n 3, []), (1, 3, .ifnull 13, []), (4, 1, .iload_n 2, []), (5, 1, .iload_n 1, []), (6, 1, .isub, []), (7, 1, .aload_n 3, []),
  (8, 3, .invokevirtual 108, [0, 259, 1, 113]), (11, 3, .if_icmp .eq 5, []), (14, 1, .iconst 0, []), (15, 1, .ireturn, []), (16, 1, .iconst 0, []), (17, 2, .istore 4, []),
  (19, 2, .iload 4, []), (21, 1, .aload_n 3, []), (22, 3, .invokevirtual 108, [0, 259, 1, 113]), (25, 3, .if_icmp .ge 28, []), (28, 1, .aload_n 0, []), (29, 1, .iload_n 1, []),
  (30, 2, .iload 4, []), (32, 1, .iadd, []), (33, 3, .invokevirtual 31, [0, 63, 2, 9]), (36, 1, .aload_n 3, []), (37, 2, .iload 4, []), (39, 3, .invokevirtual 113, [0, 260, 2, 113]),
  (42, 3, .if_icmp .eq 5, []), (45, 1, .iconst 0, []), (46, 1, .ireturn, []), (47, 3, .iinc 4 1, []), (50, 3, .goto (-31), []), (53, 1, .iconst 1, []),
  (54, 1, .ireturn, [])]
set_option maxRecDepth 20000 in
def k_X8_kindOfSign : List az_I := [
  (0, 1, .iload_n 0, []), (1, 251, .tableswitch 293 35 93 #[260, 293, 293, 293, 293, 275, 278, 269, 263, 287, 266, 293, 272, 293, 293, 293, 293, 293, 293, 293, 293, 293, 293, 293, 290, 251, 257, 254, 293, 293, 293, 293, 293, 293, 293, 293, 293, 293, 293, 293, 293, 293, 293, 293, 293, 293, 293, 293, 293, 293, 293, 293, 293, 293, 293, 293, 281, 293, 284], []), (252, 2, .bipush 11, []), (254, 1, .ireturn, []), (255, 2, .bipush 13, []), (257, 1, .ireturn, []),
  (258, 2, .bipush 15, []), (260, 1, .ireturn, []), (261, 2, .bipush 16, []), (263, 1, .ireturn, []), (264, 2, .bipush 17, []), (266, 1, .ireturn, []),
  (267, 2, .bipush 18, []), (269, 1, .ireturn, []), (270, 2, .bipush 19, []), (272, 1, .ireturn, []), (273, 2, .bipush 20, []), (275, 1, .ireturn, []),
  (276, 2, .bipush 21, []), (278, 1, .ireturn, []), (279, 2, .bipush 22, []), (281, 1, .ireturn, []), (282, 2, .bipush 23, []), (284, 1, .ireturn, []),
  (285, 2, .bipush 24, []), (287, 1, .ireturn, []), (288, 2, .bipush 25, []), (290, 1, .ireturn, []), (291, 2, .bipush 26, []), (293, 1, .ireturn, []),
  (294, 1, .iconst 1, []), (295, 1, .ireturn, [])]
set_option maxRecDepth 20000 in
def k_X9_init : List az_I := [
  (0, 1, .aload_n 0, []), (1, 3, .invokespecial 3, [1, 2, 3]), (4, 1, .aload_n 0, []), (5, 3, .sipush 400, []), (8, 2, .newarray .int, []), (10, 3, .putfield 9, [10, 0]),
  (13, 1, .aload_n 0, []), (14, 3, .sipush 400, []), (17, 2, .newarray .int, []), (19, 3, .putfield 15, [10, 1]), (22, 1, .aload_n 0, []), (23, 2, .bipush 20, []),
  (25, 2, .newarray .int, []), (27, 3, .putfield 18, [10, 2]), (30, 1, .aload_n 0, []), (31, 2, .bipush 20, []), (33, 2, .newarray .int, []), (35, 3, .putfield 21, [10, 3]),
  (38, 1, .aload_n 0, []), (39, 2, .bipush 64, []), (41, 2, .newarray .long, []), (43, 3, .putfield 24, [10, 4]), (46, 1, .return_, [])]
set_option maxRecDepth 20000 in
def k_X9_clear : List az_I := [
  (0, 1, .aload_n 0, []), (1, 1, .iconst 0, []), (2, 3, .putfield 28, [10, 5]), (5, 1, .aload_n 0, []), (6, 1, .iconst 0, []), (7, 3, .putfield 32, [10, 6]),
  (10, 1, .return_, [])]
set_option maxRecDepth 20000 in
def k_X9_add : List az_I := [
  (0, 1, .aload_n 0, []), (1, 3, .getfield 28, [10, 5]), (4, 3, .ifCond .lt 45, []), (7, 1, .aload_n 0, []), (8, 3, .getfield 28, [10, 5]), (11, 1, .aload_n 0, []),
  (12, 3, .getfield 9, [10, 0]), (15, 1, .arraylength, []), (16, 3, .if_icmp .ge 33, []), (19, 1, .aload_n 0, []), (20, 3, .getfield 9, [10, 0]), (23, 1, .aload_n 0, []),
  (24, 3, .getfield 28, [10, 5]), (27, 1, .iload_n 1, []), (28, 1, .iastore, []), (29, 1, .aload_n 0, []), (30, 3, .getfield 15, [10, 1]), (33, 1, .aload_n 0, []),
  (34, 3, .getfield 28, [10, 5]), (37, 1, .iload_n 2, []), (38, 1, .iastore, []), (39, 1, .aload_n 0, []), (40, 1, .dup, []), (41, 3, .getfield 28, [10, 5]),
  (44, 1, .iconst 1, []), (45, 1, .iadd, []), (46, 3, .putfield 28, [10, 5]), (49, 1, .return_, [])]
set_option maxRecDepth 20000 in
def k_X9_endAsk : List az_I := [
  (0, 1, .aload_n 0, []), (1, 3, .getfield 32, [10, 6]), (4, 3, .ifCond .lt 28, []), (7, 1, .aload_n 0, []), (8, 3, .getfield 32, [10, 6]), (11, 1, .aload_n 0, []),
  (12, 3, .getfield 18, [10, 2]), (15, 1, .arraylength, []), (16, 3, .if_icmp .ge 16, []), (19, 1, .aload_n 0, []), (20, 3, .getfield 18, [10, 2]), (23, 1, .aload_n 0, []),
  (24, 3, .getfield 32, [10, 6]), (27, 1, .aload_n 0, []), (28, 3, .getfield 28, [10, 5]), (31, 1, .iastore, []), (32, 1, .return_, [])]
set_option maxRecDepth 20000 in
def k_X9_endRule : List az_I := [
  (0, 1, .aload_n 0, []), (1, 3, .getfield 32, [10, 6]), (4, 3, .ifCond .lt 38, []), (7, 1, .aload_n 0, []), (8, 3, .getfield 32, [10, 6]), (11, 1, .aload_n 0, []),
  (12, 3, .getfield 21, [10, 3]), (15, 1, .arraylength, []), (16, 3, .if_icmp .ge 26, []), (19, 1, .aload_n 0, []), (20, 3, .getfield 21, [10, 3]), (23, 1, .aload_n 0, []),
  (24, 3, .getfield 32, [10, 6]), (27, 1, .aload_n 0, []), (28, 3, .getfield 28, [10, 5]), (31, 1, .iastore, []), (32, 1, .aload_n 0, []), (33, 1, .dup, []),
  (34, 3, .getfield 32, [10, 6]), (37, 1, .iconst 1, []), (38, 1, .iadd, []), (39, 3, .putfield 32, [10, 6]), (42, 1, .return_, [])]
set_option maxRecDepth 20000 in
def k_X9_answer : List az_I := [
  (0, 1, .iconst 0, []), (1, 1, .istore_n 2, []), (2, 1, .iconst 0, []), (3, 1, .istore_n 3, []), (4, 1, .iload_n 3, []), (5, 1, .aload_n 0, []),
  (6, 3, .getfield 32, [10, 6]), (9, 3, .if_icmp .ge 83, []), (12, 1, .iload_n 3, []), (13, 1, .aload_n 0, []), (14, 3, .getfield 21, [10, 3]), (17, 1, .arraylength, []),
  (18, 3, .if_icmp .ge 74, []), (21, 1, .aload_n 0, []), (22, 3, .getfield 18, [10, 2]), (25, 1, .iload_n 3, []), (26, 1, .iaload, []), (27, 1, .iload_n 2, []),
  (28, 3, .if_icmp .ne 7, []), (31, 1, .iconst 1, []), (32, 3, .goto 4, []), (35, 1, .iconst 0, []), (36, 2, .istore 4, []), (38, 2, .iload 4, []),
  (40, 3, .ifCond .ne 20, []), (43, 1, .aload_n 0, []), (44, 1, .iload_n 2, []), (45, 1, .aload_n 0, []), (46, 3, .getfield 18, [10, 2]), (49, 1, .iload_n 3, []),
  (50, 1, .iaload, []), (51, 1, .aload_n 1, []), (52, 3, .invokevirtual 35, [0, 81, 4, 10]), (55, 1, .lconst 0, []), (56, 1, .lcmp, []), (57, 3, .ifCond .eq 22, []),
  (60, 1, .aload_n 0, []), (61, 1, .aload_n 0, []), (62, 3, .getfield 18, [10, 2]), (65, 1, .iload_n 3, []), (66, 1, .iaload, []), (67, 1, .aload_n 0, []),
  (68, 3, .getfield 21, [10, 3]), (71, 1, .iload_n 3, []), (72, 1, .iaload, []), (73, 1, .aload_n 1, []), (74, 3, .invokevirtual 35, [0, 81, 4, 10]), (77, 1, .l2i, []),
  (78, 1, .ireturn, []), (79, 1, .aload_n 0, []), (80, 3, .getfield 21, [10, 3]), (83, 1, .iload_n 3, []), (84, 1, .iaload, []), (85, 1, .istore_n 2, []),
  (86, 3, .iinc 3 1, []), (89, 3, .goto (-85), []), (92, 1, .iconst 0, []), (93, 1, .ireturn, [])]
set_option maxRecDepth 20000 in
def k_X9_run : List az_I := [
  (0, 1, .iconst 0, []), (1, 2, .istore 4, []), (3, 1, .iconst 0, []), (4, 1, .iload_n 1, []), (5, 3, .invokestatic 39, [0, 255, 2, 999]), (8, 2, .istore 5, []),
  (10, 2, .iload 5, []), (12, 1, .iload_n 2, []), (13, 3, .if_icmp .ge 191, []), (16, 2, .iload 5, []), (18, 1, .aload_n 0, []), (19, 3, .getfield 28, [10, 5]),
  (22, 3, .if_icmp .ge 182, []), (25, 1, .aload_n 0, []), (26, 3, .getfield 9, [10, 0]), (29, 2, .iload 5, []), (31, 1, .iaload, []), (32, 2, .istore 6, []),
  (34, 2, .iload 6, []), (36, 1, .iconst 2, []), (37, 3, .if_icmp .eq 9, []), (40, 2, .iload 6, []), (42, 1, .iconst 3, []), (43, 3, .if_icmp .ne 54, []),
  (46, 2, .iload 4, []), (48, 1, .aload_n 0, []), (49, 3, .getfield 24, [10, 4]), (52, 1, .arraylength, []), (53, 3, .if_icmp .ge 145, []), (56, 1, .aload_n 0, []),
  (57, 3, .getfield 24, [10, 4]), (60, 2, .iload 4, []), (62, 2, .iload 6, []), (64, 1, .iconst 2, []), (65, 3, .if_icmp .ne 14, []), (68, 1, .aload_n 0, []),
  (69, 3, .getfield 15, [10, 1]), (72, 2, .iload 5, []), (74, 1, .iaload, []), (75, 1, .i2l, []), (76, 3, .goto 14, []), (79, 1, .aload_n 3, []),
  (80, 1, .aload_n 0, []), (81, 3, .getfield 15, [10, 1]), (84, 2, .iload 5, []), (86, 1, .iaload, []), (87, 3, .invokestatic 47, [0, 82, 2, 999]), (90, 1, .lastore, []),
  (91, 3, .iinc 4 1, []), (94, 3, .goto 104, []), (97, 2, .iload 6, []), (99, 2, .bipush 8, []), (101, 3, .if_icmp .eq 10, []), (104, 2, .iload 6, []),
  (106, 2, .bipush 27, []), (108, 3, .if_icmp .ne 51, []), (111, 2, .iload 4, []), (113, 3, .ifCond .le 85, []), (116, 1, .aload_n 0, []), (117, 3, .getfield 24, [10, 4]),
  (120, 2, .iload 4, []), (122, 1, .iconst 1, []), (123, 1, .isub, []), (124, 2, .iload 6, []), (126, 2, .bipush 8, []), (128, 3, .if_icmp .ne 17, []),
  (131, 1, .lconst 1, []), (132, 1, .aload_n 0, []), (133, 3, .getfield 24, [10, 4]), (136, 2, .iload 4, []), (138, 1, .iconst 1, []), (139, 1, .isub, []),
  (140, 1, .laload, []), (141, 1, .lsub, []), (142, 3, .goto 13, []), (145, 1, .aload_n 0, []), (146, 3, .getfield 24, [10, 4]), (149, 2, .iload 4, []),
  (151, 1, .iconst 1, []), (152, 1, .isub, []), (153, 1, .laload, []), (154, 1, .lneg, []), (155, 1, .lastore, []), (156, 3, .goto 42, []),
  (159, 2, .iload 4, []), (161, 1, .iconst 1, []), (162, 3, .if_icmp .le 36, []), (165, 3, .iinc 4 (-1), []), (168, 1, .aload_n 0, []), (169, 3, .getfield 24, [10, 4]),
  (172, 2, .iload 4, []), (174, 1, .iconst 1, []), (175, 1, .isub, []), (176, 2, .iload 6, []), (178, 1, .aload_n 0, []), (179, 3, .getfield 24, [10, 4]),
  (182, 2, .iload 4, []), (184, 1, .iconst 1, []), (185, 1, .isub, []), (186, 1, .laload, []), (187, 1, .aload_n 0, []), (188, 3, .getfield 24, [10, 4]),
  (191, 2, .iload 4, []), (193, 1, .laload, []), (194, 3, .invokestatic 51, [0, 83, 3, 999]), (197, 1, .lastore, []), (198, 3, .iinc 5 1, []), (201, 3, .goto (-191), []),
  (204, 2, .iload 4, []), (206, 3, .ifCond .le 12, []), (209, 1, .aload_n 0, []), (210, 3, .getfield 24, [10, 4]), (213, 1, .iconst 0, []), (214, 1, .laload, []),
  (215, 3, .goto 4, []), (218, 1, .lconst 0, []), (219, 1, .lreturn, [])]
set_option maxRecDepth 20000 in
def k_X9_valueOf : List az_I := [
  (0, 1, .aload_n 0, []), (1, 3, .ifnull 20, []), (4, 1, .iload_n 1, []), (5, 3, .ifCond .lt 16, []), (8, 1, .iload_n 1, []), (9, 1, .aload_n 0, []),
  (10, 1, .arraylength, []), (11, 3, .if_icmp .ge 10, []), (14, 1, .aload_n 0, []), (15, 1, .iload_n 1, []), (16, 1, .iaload, []), (17, 1, .i2l, []),
  (18, 3, .goto 4, []), (21, 1, .lconst 0, []), (22, 1, .lreturn, [])]
set_option maxRecDepth 20000 in
def k_X9_join : List az_I := [
  (0, 1, .iload_n 0, []), (1, 75, .tableswitch 202 6 20 #[198, 194, 202, 110, 116, 122, 134, 146, 158, 170, 182, 75, 82, 89, 96], []), (76, 1, .lload_n 1, []), (77, 1, .lload_n 3, []), (78, 1, .ladd, []), (79, 3, .invokestatic 55, [0, 84, 1, 999]),
  (82, 1, .lreturn, []), (83, 1, .lload_n 1, []), (84, 1, .lload_n 3, []), (85, 1, .lsub, []), (86, 3, .invokestatic 55, [0, 84, 1, 999]), (89, 1, .lreturn, []),
  (90, 1, .lload_n 1, []), (91, 1, .lload_n 3, []), (92, 1, .lmul, []), (93, 3, .invokestatic 55, [0, 84, 1, 999]), (96, 1, .lreturn, []), (97, 1, .lload_n 3, []),
  (98, 1, .lconst 0, []), (99, 1, .lcmp, []), (100, 3, .ifCond .ne 7, []), (103, 1, .lconst 0, []), (104, 3, .goto 6, []), (107, 1, .lload_n 1, []),
  (108, 1, .lload_n 3, []), (109, 1, .ldiv, []), (110, 1, .lreturn, []), (111, 1, .lload_n 1, []), (112, 1, .lload_n 3, []), (113, 3, .invokestatic 59, [0, 258, 2, 999]),
  (116, 1, .lreturn, []), (117, 1, .lload_n 1, []), (118, 1, .lload_n 3, []), (119, 3, .invokestatic 63, [0, 256, 2, 999]), (122, 1, .lreturn, []), (123, 1, .lload_n 1, []),
  (124, 1, .lload_n 3, []), (125, 1, .lcmp, []), (126, 3, .ifCond .ge 7, []), (129, 1, .lconst 1, []), (130, 3, .goto 4, []), (133, 1, .lconst 0, []),
  (134, 1, .lreturn, []), (135, 1, .lload_n 1, []), (136, 1, .lload_n 3, []), (137, 1, .lcmp, []), (138, 3, .ifCond .gt 7, []), (141, 1, .lconst 1, []),
  (142, 3, .goto 4, []), (145, 1, .lconst 0, []), (146, 1, .lreturn, []), (147, 1, .lload_n 1, []), (148, 1, .lload_n 3, []), (149, 1, .lcmp, []),
  (150, 3, .ifCond .le 7, []), (153, 1, .lconst 1, []), (154, 3, .goto 4, []), (157, 1, .lconst 0, []), (158, 1, .lreturn, []), (159, 1, .lload_n 1, []),
  (160, 1, .lload_n 3, []), (161, 1, .lcmp, []), (162, 3, .ifCond .lt 7, []), (165, 1, .lconst 1, []), (166, 3, .goto 4, []), (169, 1, .lconst 0, []),
  (170, 1, .lreturn, []), (171, 1, .lload_n 1, []), (172, 1, .lload_n 3, []), (173, 1, .lcmp, []), (174, 3, .ifCond .ne 7, []), (177, 1, .lconst 1, []),
  (178, 3, .goto 4, []), (181, 1, .lconst 0, []), (182, 1, .lreturn, []), (183, 1, .lload_n 1, []), (184, 1, .lload_n 3, []), (185, 1, .lcmp, []),
  (186, 3, .ifCond .eq 7, []), (189, 1, .lconst 1, []), (190, 3, .goto 4, []), (193, 1, .lconst 0, []), (194, 1, .lreturn, []), (195, 1, .lload_n 1, []),
  (196, 1, .lload_n 3, []), (197, 1, .land, []), (198, 1, .lreturn, []), (199, 1, .lload_n 1, []), (200, 1, .lload_n 3, []), (201, 1, .lor, []),
  (202, 1, .lreturn, []), (203, 1, .lconst 0, []), (204, 1, .lreturn, [])]
set_option maxRecDepth 20000 in
def k_X9_bounded : List az_I := [
  (0, 1, .lload_n 0, []), (1, 3, .ldc2_w 65, [1000000000]), (4, 1, .lcmp, []), (5, 3, .ifCond .le 7, []), (8, 3, .ldc2_w 65, [1000000000]), (11, 1, .lreturn, []),
  (12, 1, .lload_n 0, []), (13, 3, .ldc2_w 67, [18446744072709551616]), (16, 1, .lcmp, []), (17, 3, .ifCond .ge 9, []), (20, 3, .ldc2_w 67, [18446744072709551616]), (23, 3, .goto 4, []),
  (26, 1, .lload_n 0, []), (27, 1, .lreturn, [])]
set_option maxRecDepth 20000 in
def k_X10_init : List az_I := [
  (0, 1, .aload_n 0, []), (1, 3, .invokespecial 3, [1, 2, 3]), (4, 1, .aload_n 0, []), (5, 2, .bipush 41, []), (7, 2, .newarray .int, []), (9, 3, .putfield 9, [11, 7]),
  (12, 1, .aload_n 0, []), (13, 2, .bipush 41, []), (15, 2, .newarray .int, []), (17, 3, .putfield 15, [11, 8]), (20, 1, .aload_n 0, []), (21, 2, .bipush 41, []),
  (23, 2, .newarray .int, []), (25, 3, .putfield 18, [11, 9]), (28, 1, .aload_n 0, []), (29, 1, .iconst (-1), []), (30, 3, .putfield 21, [11, 11]), (33, 1, .aload_n 0, []),
  (34, 1, .iconst (-1), []), (35, 3, .putfield 25, [11, 12]), (38, 1, .aload_n 0, []), (39, 1, .iconst (-1), []), (40, 3, .putfield 28, [11, 13]), (43, 1, .aload_n 0, []),
  (44, 1, .iload_n 1, []), (45, 3, .putfield 31, [11, 0]), (48, 1, .aload_n 0, []), (49, 1, .iload_n 2, []), (50, 3, .putfield 34, [11, 1]), (53, 1, .aload_n 0, []),
  (54, 1, .iload_n 3, []), (55, 3, .putfield 37, [11, 2]), (58, 1, .aload_n 0, []), (59, 2, .iload 4, []), (61, 3, .putfield 40, [11, 3]), (64, 1, .return_, [])]
set_option maxRecDepth 20000 in
def k_X10_tell : List az_I := [
  (0, 1, .aload_n 0, []), (1, 3, .getfield 43, [11, 10]), (4, 3, .ifCond .lt 55, []), (7, 1, .aload_n 0, []), (8, 3, .getfield 43, [11, 10]), (11, 1, .aload_n 0, []),
  (12, 3, .getfield 9, [11, 7]), (15, 1, .arraylength, []), (16, 3, .if_icmp .ge 43, []), (19, 1, .aload_n 0, []), (20, 3, .getfield 9, [11, 7]), (23, 1, .aload_n 0, []),
  (24, 3, .getfield 43, [11, 10]), (27, 1, .iload_n 1, []), (28, 1, .iastore, []), (29, 1, .aload_n 0, []), (30, 3, .getfield 15, [11, 8]), (33, 1, .aload_n 0, []),
  (34, 3, .getfield 43, [11, 10]), (37, 1, .iload_n 2, []), (38, 1, .iastore, []), (39, 1, .aload_n 0, []), (40, 3, .getfield 18, [11, 9]), (43, 1, .aload_n 0, []),
  (44, 3, .getfield 43, [11, 10]), (47, 1, .iload_n 3, []), (48, 1, .iastore, []), (49, 1, .aload_n 0, []), (50, 1, .dup, []), (51, 3, .getfield 43, [11, 10]),
  (54, 1, .iconst 1, []), (55, 1, .iadd, []), (56, 3, .putfield 43, [11, 10]), (59, 1, .return_, [])]
set_option maxRecDepth 20000 in
def k_X10_forgetLast : List az_I := [
  (0, 1, .aload_n 0, []), (1, 3, .getfield 43, [11, 10]), (4, 3, .ifCond .le 13, []), (7, 1, .aload_n 0, []), (8, 1, .dup, []), (9, 3, .getfield 43, [11, 10]),
  (12, 1, .iconst 1, []), (13, 1, .isub, []), (14, 3, .putfield 43, [11, 10]), (17, 1, .return_, [])]
set_option maxRecDepth 20000 in
def k_X10_entryValue : List az_I := [
  (0, 1, .iload_n 1, []), (1, 3, .ifCond .lt 20, []), (4, 1, .iload_n 1, []), (5, 1, .aload_n 0, []), (6, 3, .getfield 43, [11, 10]), (9, 3, .if_icmp .ge 12, []),
  (12, 1, .iload_n 1, []), (13, 1, .aload_n 0, []), (14, 3, .getfield 9, [11, 7]), (17, 1, .arraylength, []), (18, 3, .if_icmp .lt 5, []), (21, 1, .iconst (-1), []),
  (22, 1, .ireturn, []), (23, 1, .iload_n 2, []), (24, 28, .tableswitch 49 0 2 #[28, 35, 42], []), (52, 1, .aload_n 0, []), (53, 3, .getfield 9, [11, 7]), (56, 1, .iload_n 1, []),
  (57, 1, .iaload, []), (58, 1, .ireturn, []), (59, 1, .aload_n 0, []), (60, 3, .getfield 15, [11, 8]), (63, 1, .iload_n 1, []), (64, 1, .iaload, []),
  (65, 1, .ireturn, []), (66, 1, .aload_n 0, []), (67, 3, .getfield 18, [11, 9]), (70, 1, .iload_n 1, []), (71, 1, .iaload, []), (72, 1, .ireturn, []),
  (73, 1, .iconst (-1), []), (74, 1, .ireturn, [])]
set_option maxRecDepth 20000 in
def k_X10_hasFallen : List az_I := [
  (0, 1, .aload_n 0, []), (1, 3, .getfield 21, [11, 11]), (4, 1, .iconst (-1), []), (5, 3, .if_icmp .eq 7, []), (8, 1, .iconst 1, []), (9, 3, .goto 4, []),
  (12, 1, .iconst 0, []), (13, 1, .ireturn, [])]
set_option maxRecDepth 20000 in
def k_X10_heightOn : List az_I := [
  (0, 1, .aload_n 0, []), (1, 3, .invokevirtual 46, [0, 89, 1, 11]), (4, 3, .ifCond .eq 23, []), (7, 1, .aload_n 0, []), (8, 3, .getfield 21, [11, 11]), (11, 1, .iload_n 1, []),
  (12, 3, .if_icmp .gt 15, []), (15, 1, .aload_n 0, []), (16, 3, .getfield 25, [11, 12]), (19, 1, .iload_n 2, []), (20, 3, .if_icmp .gt 7, []), (23, 1, .iconst 1, []),
  (24, 3, .goto 4, []), (27, 1, .iconst 0, []), (28, 1, .istore_n 3, []), (29, 1, .aload_n 0, []), (30, 3, .getfield 40, [11, 3]), (33, 1, .iload_n 1, []),
  (34, 3, .if_icmp .gt 15, []), (37, 1, .aload_n 0, []), (38, 3, .getfield 40, [11, 3]), (41, 1, .iload_n 2, []), (42, 3, .if_icmp .gt 7, []), (45, 1, .iload_n 3, []),
  (46, 3, .ifCond .eq 5, []), (49, 1, .iconst (-1), []), (50, 1, .ireturn, []), (51, 1, .aload_n 0, []), (52, 1, .iload_n 1, []), (53, 1, .iload_n 2, []),
  (54, 3, .invokevirtual 50, [0, 91, 3, 11]), (57, 2, .istore 4, []), (59, 2, .iload 4, []), (61, 3, .ifCond .lt 13, []), (64, 2, .iload 4, []), (66, 1, .aload_n 0, []),
  (67, 3, .getfield 9, [11, 7]), (70, 1, .arraylength, []), (71, 3, .if_icmp .lt 5, []), (74, 1, .iconst (-1), []), (75, 1, .ireturn, []), (76, 2, .bipush 60, []),
  (78, 1, .aload_n 0, []), (79, 3, .getfield 15, [11, 8]), (82, 2, .iload 4, []), (84, 1, .iaload, []), (85, 1, .aload_n 0, []), (86, 1, .aload_n 0, []),
  (87, 3, .getfield 9, [11, 7]), (90, 2, .iload 4, []), (92, 1, .iaload, []), (93, 1, .iload_n 1, []), (94, 3, .invokevirtual 54, [0, 92, 3, 11]), (97, 1, .iadd, []),
  (98, 3, .invokestatic 57, [0, 257, 2, 999]), (101, 1, .ireturn, [])]
set_option maxRecDepth 20000 in
def k_X10_entryFor : List az_I := [
  (0, 1, .iconst (-1), []), (1, 1, .istore_n 3, []), (2, 1, .iconst (-1), []), (3, 2, .istore 4, []), (5, 1, .iconst 0, []), (6, 2, .istore 5, []),
  (8, 2, .iload 5, []), (10, 1, .aload_n 0, []), (11, 3, .getfield 43, [11, 10]), (14, 3, .if_icmp .ge 65, []), (17, 2, .iload 5, []), (19, 1, .aload_n 0, []),
  (20, 3, .getfield 9, [11, 7]), (23, 1, .arraylength, []), (24, 3, .if_icmp .ge 55, []), (27, 1, .aload_n 0, []), (28, 3, .getfield 18, [11, 9]), (31, 2, .iload 5, []),
  (33, 1, .iaload, []), (34, 1, .iload_n 2, []), (35, 3, .if_icmp .gt 38, []), (38, 1, .aload_n 0, []), (39, 3, .getfield 9, [11, 7]), (42, 2, .iload 5, []),
  (44, 1, .iaload, []), (45, 1, .iload_n 1, []), (46, 3, .if_icmp .gt 27, []), (49, 1, .aload_n 0, []), (50, 3, .getfield 9, [11, 7]), (53, 2, .iload 5, []),
  (55, 1, .iaload, []), (56, 2, .iload 4, []), (58, 3, .if_icmp .lt 15, []), (61, 2, .iload 5, []), (63, 1, .istore_n 3, []), (64, 1, .aload_n 0, []),
  (65, 3, .getfield 9, [11, 7]), (68, 2, .iload 5, []), (70, 1, .iaload, []), (71, 2, .istore 4, []), (73, 3, .iinc 5 1, []), (76, 3, .goto (-68), []),
  (79, 1, .iload_n 3, []), (80, 1, .ireturn, [])]
set_option maxRecDepth 20000 in
def k_X10_grownBetween : List az_I := [
  (0, 1, .aload_n 0, []), (1, 3, .getfield 62, [11, 4]), (4, 3, .ifCond .le 14, []), (7, 1, .iload_n 2, []), (8, 1, .iload_n 1, []), (9, 1, .isub, []),
  (10, 1, .aload_n 0, []), (11, 3, .getfield 62, [11, 4]), (14, 1, .idiv, []), (15, 3, .goto 4, []), (18, 1, .iconst 0, []), (19, 1, .ireturn, [])]
set_option maxRecDepth 20000 in
def k_X10_mend : List az_I := [
  (0, 1, .aload_n 0, []), (1, 3, .getfield 28, [11, 13]), (4, 1, .iconst (-1), []), (5, 3, .if_icmp .ne 10, []), (8, 1, .aload_n 0, []), (9, 3, .getfield 40, [11, 3]),
  (12, 3, .goto 9, []), (15, 1, .aload_n 0, []), (16, 3, .getfield 28, [11, 13]), (19, 1, .iconst 1, []), (20, 1, .iadd, []), (21, 1, .istore_n 3, []),
  (22, 1, .aload_n 0, []), (23, 1, .iload_n 2, []), (24, 1, .iload_n 2, []), (25, 3, .invokevirtual 50, [0, 91, 3, 11]), (28, 2, .istore 4, []), (30, 2, .iload 4, []),
  (32, 3, .ifCond .lt 25, []), (35, 2, .iload 4, []), (37, 1, .aload_n 0, []), (38, 3, .getfield 9, [11, 7]), (41, 1, .arraylength, []), (42, 3, .if_icmp .ge 15, []),
  (45, 1, .iload_n 3, []), (46, 1, .aload_n 0, []), (47, 3, .getfield 9, [11, 7]), (50, 2, .iload 4, []), (52, 1, .iaload, []), (53, 3, .invokestatic 65, [0, 255, 2, 999]),
  (56, 1, .istore_n 3, []), (57, 1, .aload_n 0, []), (58, 1, .iload_n 3, []), (59, 1, .iconst 0, []), (60, 1, .iload_n 1, []), (61, 1, .aload_n 0, []),
  (62, 1, .iload_n 3, []), (63, 1, .iload_n 2, []), (64, 3, .invokevirtual 54, [0, 92, 3, 11]), (67, 1, .isub, []), (68, 3, .invokestatic 65, [0, 255, 2, 999]), (71, 1, .iload_n 2, []),
  (72, 3, .invokevirtual 68, [0, 86, 4, 11]), (75, 1, .return_, [])]
set_option maxRecDepth 20000 in
def k_X11_init : List az_I := [
  (0, 1, .aload_n 0, []), (1, 3, .invokespecial 1, [1, 2, 3]), (4, 1, .aload_n 0, []), (5, 3, .new 7, [7]), (8, 1, .dup, []), (9, 3, .invokespecial 9, [0, 46, 1, 7]),
  (12, 3, .putfield 10, [12, 1]), (15, 1, .aload_n 0, []), (16, 3, .new 16, [0]), (19, 1, .dup, []), (20, 3, .invokespecial 18, [0, 267, 1, 0]), (23, 3, .putfield 19, [12, 2]),
  (26, 1, .aload_n 0, []), (27, 3, .new 16, [0]), (30, 1, .dup, []), (31, 3, .invokespecial 18, [0, 267, 1, 0]), (34, 3, .putfield 23, [12, 3]), (37, 1, .aload_n 0, []),
  (38, 3, .new 16, [0]), (41, 1, .dup, []), (42, 3, .invokespecial 18, [0, 267, 1, 0]), (45, 3, .putfield 26, [12, 4]), (48, 1, .aload_n 0, []), (49, 3, .new 16, [0]),
  (52, 1, .dup, []), (53, 3, .invokespecial 18, [0, 267, 1, 0]), (56, 3, .putfield 29, [12, 5]), (59, 1, .aload_n 0, []), (60, 3, .new 32, [9]), (63, 1, .dup, []),
  (64, 3, .invokespecial 34, [0, 57, 1, 9]), (67, 3, .putfield 35, [12, 7]), (70, 1, .aload_n 0, []), (71, 2, .bipush 8, []), (73, 2, .newarray .int, []), (75, 3, .putfield 39, [12, 10]),
  (78, 1, .aload_n 0, []), (79, 2, .bipush 24, []), (81, 2, .newarray .int, []), (83, 3, .putfield 43, [12, 11]), (86, 1, .aload_n 0, []), (87, 3, .new 46, [10]),
  (90, 1, .dup, []), (91, 3, .invokespecial 48, [0, 75, 1, 10]), (94, 3, .putfield 49, [12, 13]), (97, 1, .aload_n 0, []), (98, 3, .new 46, [10]), (101, 1, .dup, []),
  (102, 3, .invokespecial 48, [0, 75, 1, 10]), (105, 3, .putfield 53, [12, 14]), (108, 1, .aload_n 0, []), (109, 1, .iconst (-1), []), (110, 3, .putfield 56, [12, 16]), (113, 1, .aload_n 0, []),
  (114, 1, .iconst (-1), []), (115, 3, .putfield 60, [12, 17]), (118, 1, .aload_n 0, []), (119, 3, .new 63, [2]), (122, 1, .dup, []), (123, 1, .iload_n 1, []),
  (124, 1, .iload_n 2, []), (125, 3, .invokespecial 65, [0, 4, 3, 2]), (128, 3, .putfield 68, [12, 0]), (131, 1, .aload_n 0, []), (132, 3, .new 72, [6]), (135, 1, .dup, []),
  (136, 1, .aload_n 0, []), (137, 3, .getfield 68, [12, 0]), (140, 1, .aload_n 0, []), (141, 3, .getfield 10, [12, 1]), (144, 1, .aload_n 0, []), (145, 3, .getfield 23, [12, 3]),
  (148, 3, .invokespecial 74, [0, 36, 4, 6]), (151, 3, .putfield 77, [12, 6]), (154, 1, .aload_n 0, []), (155, 3, .new 81, [5]), (158, 1, .dup, []), (159, 1, .aload_n 0, []),
  (160, 3, .getfield 68, [12, 0]), (163, 3, .invokespecial 83, [0, 26, 2, 5]), (166, 3, .putfield 86, [12, 9]), (169, 1, .aload_n 0, []), (170, 3, .new 90, [3]), (173, 1, .dup, []),
  (174, 1, .aload_n 0, []), (175, 3, .getfield 35, [12, 7]), (178, 1, .aload_n 0, []), (179, 3, .getfield 53, [12, 14]), (182, 3, .invokespecial 92, [0, 10, 3, 3]), (185, 3, .putfield 95, [12, 8]),
  (188, 1, .aload_n 0, []), (189, 1, .aload_n 0, []), (190, 3, .getfield 68, [12, 0]), (193, 3, .getfield 99, [2, 2]), (196, 2, .newarray .int, []), (198, 3, .putfield 102, [12, 12]),
  (201, 1, .return_, [])]
set_option maxRecDepth 20000 in
def k_X11_days : List az_I := [
  (0, 1, .iload_n 1, []), (1, 1, .iconst 1, []), (2, 3, .if_icmp .lt 22, []), (5, 1, .iload_n 1, []), (6, 3, .sipush 400, []), (9, 3, .if_icmp .gt 15, []),
  (12, 1, .aload_n 0, []), (13, 3, .getfield 105, [12, 15]), (16, 1, .iload_n 1, []), (17, 1, .iadd, []), (18, 3, .sipush 3599, []), (21, 3, .if_icmp .le 5, []),
  (24, 1, .iconst (-1), []), (25, 1, .ireturn, []), (26, 1, .aload_n 0, []), (27, 1, .dup, []), (28, 3, .getfield 105, [12, 15]), (31, 1, .iload_n 1, []),
  (32, 1, .iadd, []), (33, 3, .putfield 105, [12, 15]), (36, 1, .aload_n 0, []), (37, 3, .getfield 105, [12, 15]), (40, 1, .ireturn, [])]
end
section
set_option maxRecDepth 20000 in
def k_X11_sun : List az_I := [
  (0, 1, .iload_n 1, []), (1, 3, .ifCond .lt 16, []), (4, 1, .iload_n 1, []), (5, 2, .bipush 12, []), (7, 3, .if_icmp .ge 10, []), (10, 1, .iload_n 2, []),
  (11, 3, .invokestatic 108, [0, 132, 1, 999]), (14, 3, .ifCond .ne 5, []), (17, 1, .iconst 0, []), (18, 1, .ireturn, []), (19, 1, .iload_n 3, []), (20, 3, .sipush 300, []),
  (23, 3, .invokestatic 112, [0, 134, 2, 999]), (26, 3, .ifCond .eq 14, []), (29, 2, .iload 4, []), (31, 3, .sipush 300, []), (34, 3, .invokestatic 112, [0, 134, 2, 999]), (37, 3, .ifCond .ne 5, []),
  (40, 1, .iconst 0, []), (41, 1, .ireturn, []), (42, 1, .aload_n 0, []), (43, 3, .getfield 10, [12, 1]), (46, 1, .iload_n 1, []), (47, 1, .iload_n 2, []),
  (48, 1, .iload_n 3, []), (49, 2, .iload 4, []), (51, 3, .invokevirtual 116, [0, 47, 5, 7]), (54, 1, .iconst 1, []), (55, 1, .ireturn, [])]
set_option maxRecDepth 20000 in
def k_X11_cloud : List az_I := [
  (0, 1, .iload_n 1, []), (1, 3, .invokestatic 120, [0, 130, 1, 999]), (4, 3, .ifCond .eq 22, []), (7, 1, .iload_n 2, []), (8, 3, .invokestatic 108, [0, 132, 1, 999]), (11, 3, .ifCond .eq 15, []),
  (14, 1, .aload_n 0, []), (15, 3, .getfield 10, [12, 1]), (18, 1, .iload_n 1, []), (19, 1, .iload_n 2, []), (20, 3, .invokevirtual 123, [0, 50, 3, 7]), (23, 3, .ifCond .eq 5, []),
  (26, 1, .iconst (-1), []), (27, 1, .ireturn, []), (28, 1, .aload_n 0, []), (29, 3, .getfield 10, [12, 1]), (32, 1, .iload_n 1, []), (33, 1, .iload_n 2, []),
  (34, 3, .invokevirtual 126, [0, 51, 3, 7]), (37, 1, .ireturn, [])]
set_option maxRecDepth 20000 in
def k_X11_person : List az_I := [
  (0, 1, .aload_n 0, []), (1, 3, .getfield 19, [12, 2]), (4, 3, .invokevirtual 130, [0, 270, 1, 0]), (7, 2, .bipush 16, []), (9, 3, .if_icmp .lt 5, []), (12, 1, .iconst (-1), []),
  (13, 1, .ireturn, []), (14, 1, .aload_n 0, []), (15, 3, .getfield 19, [12, 2]), (18, 3, .new 133, [4]), (21, 1, .dup, []), (22, 3, .invokespecial 135, [0, 24, 1, 4]),
  (25, 3, .invokevirtual 136, [0, 274, 2, 0]), (28, 1, .pop, []), (29, 1, .aload_n 0, []), (30, 3, .getfield 19, [12, 2]), (33, 3, .invokevirtual 130, [0, 270, 1, 0]), (36, 1, .iconst 1, []),
  (37, 1, .isub, []), (38, 1, .ireturn, [])]
set_option maxRecDepth 20000 in
def k_X11_died : List az_I := [
  (0, 1, .aload_n 0, []), (1, 1, .iload_n 1, []), (2, 3, .invokevirtual 140, [0, 138, 2, 12]), (5, 3, .ifCond .eq 15, []), (8, 1, .iload_n 2, []), (9, 3, .ifCond .lt 11, []),
  (12, 1, .iload_n 2, []), (13, 1, .aload_n 0, []), (14, 3, .getfield 105, [12, 15]), (17, 3, .if_icmp .le 5, []), (20, 1, .iconst 0, []), (21, 1, .ireturn, []),
  (22, 1, .aload_n 0, []), (23, 3, .getfield 19, [12, 2]), (26, 1, .iload_n 1, []), (27, 3, .invokevirtual 143, [0, 272, 2, 0]), (30, 3, .checkcast 133, [4]), (33, 1, .astore_n 3, []),
  (34, 1, .aload_n 3, []), (35, 3, .getfield 147, [4, 0]), (38, 1, .iconst (-1), []), (39, 3, .if_icmp .eq 5, []), (42, 1, .iconst 0, []), (43, 1, .ireturn, []),
  (44, 1, .aload_n 3, []), (45, 1, .iload_n 2, []), (46, 3, .putfield 147, [4, 0]), (49, 1, .aload_n 3, []), (50, 1, .aload_n 0, []), (51, 3, .getfield 105, [12, 15]),
  (54, 3, .putfield 150, [4, 1]), (57, 1, .iconst 1, []), (58, 1, .ireturn, [])]
set_option maxRecDepth 20000 in
def k_X11_wall : List az_I := [
  (0, 1, .aload_n 0, []), (1, 1, .iload_n 1, []), (2, 1, .iload_n 2, []), (3, 1, .iload_n 3, []), (4, 3, .invokevirtual 153, [0, 141, 4, 12]), (7, 3, .ifCond .ne 5, []),
  (10, 1, .iconst (-1), []), (11, 1, .ireturn, []), (12, 1, .aload_n 0, []), (13, 3, .new 157, [11]), (16, 1, .dup, []), (17, 1, .iconst 0, []),
  (18, 1, .iload_n 1, []), (19, 1, .iload_n 2, []), (20, 1, .aload_n 0, []), (21, 3, .getfield 105, [12, 15]), (24, 3, .invokespecial 159, [0, 85, 5, 11]), (27, 1, .iload_n 3, []),
  (28, 3, .invokevirtual 161, [0, 143, 3, 12]), (31, 1, .ireturn, [])]
set_option maxRecDepth 20000 in
def k_X11_tree : List az_I := [
  (0, 2, .iload 4, []), (2, 1, .iconst 1, []), (3, 3, .if_icmp .lt 21, []), (6, 2, .iload 4, []), (8, 3, .sipush 999, []), (11, 3, .if_icmp .gt 13, []),
  (14, 1, .aload_n 0, []), (15, 1, .iload_n 1, []), (16, 1, .iload_n 2, []), (17, 1, .iload_n 3, []), (18, 3, .invokevirtual 153, [0, 141, 4, 12]), (21, 3, .ifCond .ne 5, []),
  (24, 1, .iconst (-1), []), (25, 1, .ireturn, []), (26, 3, .new 157, [11]), (29, 1, .dup, []), (30, 1, .iconst 1, []), (31, 1, .iload_n 1, []),
  (32, 1, .iload_n 2, []), (33, 1, .aload_n 0, []), (34, 3, .getfield 105, [12, 15]), (37, 3, .invokespecial 159, [0, 85, 5, 11]), (40, 2, .astore 5, []), (42, 2, .aload 5, []),
  (44, 2, .iload 4, []), (46, 3, .putfield 165, [11, 4]), (49, 1, .aload_n 0, []), (50, 2, .aload 5, []), (52, 1, .iload_n 3, []), (53, 3, .invokevirtual 161, [0, 143, 3, 12]),
  (56, 1, .ireturn, [])]
set_option maxRecDepth 20000 in
def k_X11_pole : List az_I := [
  (0, 2, .iload 4, []), (2, 2, .bipush 50, []), (4, 3, .invokestatic 112, [0, 134, 2, 999]), (7, 3, .ifCond .eq 23, []), (10, 2, .iload 5, []), (12, 2, .bipush 50, []),
  (14, 3, .invokestatic 112, [0, 134, 2, 999]), (17, 3, .ifCond .eq 13, []), (20, 1, .aload_n 0, []), (21, 1, .iload_n 1, []), (22, 1, .iload_n 2, []), (23, 1, .iload_n 3, []),
  (24, 3, .invokevirtual 153, [0, 141, 4, 12]), (27, 3, .ifCond .ne 5, []), (30, 1, .iconst (-1), []), (31, 1, .ireturn, []), (32, 3, .new 157, [11]), (35, 1, .dup, []),
  (36, 1, .iconst 2, []), (37, 1, .iload_n 1, []), (38, 1, .iload_n 2, []), (39, 1, .aload_n 0, []), (40, 3, .getfield 105, [12, 15]), (43, 3, .invokespecial 159, [0, 85, 5, 11]),
  (46, 2, .astore 6, []), (48, 2, .aload 6, []), (50, 2, .iload 4, []), (52, 3, .putfield 168, [11, 5]), (55, 2, .aload 6, []), (57, 2, .iload 5, []),
  (59, 3, .putfield 171, [11, 6]), (62, 1, .aload_n 0, []), (63, 2, .aload 6, []), (65, 1, .iload_n 3, []), (66, 3, .invokevirtual 161, [0, 143, 3, 12]), (69, 1, .ireturn, [])]
set_option maxRecDepth 20000 in
def k_X11_raise : List az_I := [
  (0, 1, .aload_n 0, []), (1, 1, .iload_n 1, []), (2, 3, .invokevirtual 174, [0, 139, 2, 12]), (5, 3, .ifCond .eq 17, []), (8, 1, .iload_n 2, []), (9, 3, .invokestatic 120, [0, 130, 1, 999]),
  (12, 3, .ifCond .eq 10, []), (15, 1, .iload_n 3, []), (16, 3, .invokestatic 177, [0, 133, 1, 999]), (19, 3, .ifCond .ne 5, []), (22, 1, .iconst (-1), []), (23, 1, .ireturn, []),
  (24, 1, .aload_n 0, []), (25, 3, .getfield 23, [12, 3]), (28, 1, .iload_n 1, []), (29, 3, .invokevirtual 143, [0, 272, 2, 0]), (32, 3, .checkcast 157, [11]), (35, 2, .astore 4, []),
  (37, 1, .iload_n 2, []), (38, 2, .aload 4, []), (40, 3, .getfield 180, [11, 3]), (43, 3, .if_icmp .lt 21, []), (46, 2, .aload 4, []), (48, 3, .invokevirtual 183, [0, 89, 1, 11]),
  (51, 3, .ifCond .ne 13, []), (54, 2, .aload 4, []), (56, 3, .getfield 187, [11, 10]), (59, 2, .bipush 40, []), (61, 3, .if_icmp .lt 5, []), (64, 1, .iconst (-1), []),
  (65, 1, .ireturn, []), (66, 2, .aload 4, []), (68, 1, .iload_n 2, []), (69, 1, .iload_n 3, []), (70, 1, .aload_n 0, []), (71, 3, .getfield 105, [12, 15]),
  (74, 3, .invokevirtual 190, [0, 86, 4, 11]), (77, 2, .aload 4, []), (79, 3, .getfield 187, [11, 10]), (82, 1, .ireturn, [])]
set_option maxRecDepth 20000 in
def k_X11_fell : List az_I := [
  (0, 1, .aload_n 0, []), (1, 1, .iload_n 1, []), (2, 3, .invokevirtual 174, [0, 139, 2, 12]), (5, 3, .ifCond .ne 5, []), (8, 1, .iconst 0, []), (9, 1, .ireturn, []),
  (10, 1, .aload_n 0, []), (11, 3, .getfield 23, [12, 3]), (14, 1, .iload_n 1, []), (15, 3, .invokevirtual 143, [0, 272, 2, 0]), (18, 3, .checkcast 157, [11]), (21, 1, .astore_n 3, []),
  (22, 1, .iload_n 2, []), (23, 1, .aload_n 3, []), (24, 3, .getfield 180, [11, 3]), (27, 3, .if_icmp .lt 18, []), (30, 1, .iload_n 2, []), (31, 1, .aload_n 0, []),
  (32, 3, .getfield 105, [12, 15]), (35, 3, .if_icmp .gt 10, []), (38, 1, .aload_n 3, []), (39, 3, .invokevirtual 183, [0, 89, 1, 11]), (42, 3, .ifCond .eq 5, []), (45, 1, .iconst 0, []),
  (46, 1, .ireturn, []), (47, 1, .aload_n 3, []), (48, 1, .iload_n 2, []), (49, 3, .putfield 194, [11, 11]), (52, 1, .aload_n 3, []), (53, 1, .aload_n 0, []),
  (54, 3, .getfield 105, [12, 15]), (57, 3, .putfield 197, [11, 12]), (60, 1, .iconst 1, []), (61, 1, .ireturn, [])]
set_option maxRecDepth 20000 in
def k_X11_height : List az_I := [
  (0, 1, .aload_n 0, []), (1, 1, .iload_n 1, []), (2, 3, .invokevirtual 174, [0, 139, 2, 12]), (5, 3, .ifCond .eq 17, []), (8, 1, .iload_n 2, []), (9, 3, .invokestatic 120, [0, 130, 1, 999]),
  (12, 3, .ifCond .eq 10, []), (15, 1, .iload_n 3, []), (16, 3, .invokestatic 120, [0, 130, 1, 999]), (19, 3, .ifCond .ne 5, []), (22, 1, .iconst (-1), []), (23, 1, .ireturn, []),
  (24, 1, .aload_n 0, []), (25, 3, .getfield 23, [12, 3]), (28, 1, .iload_n 1, []), (29, 3, .invokevirtual 143, [0, 272, 2, 0]), (32, 3, .checkcast 157, [11]), (35, 1, .iload_n 2, []),
  (36, 1, .iload_n 3, []), (37, 3, .invokevirtual 200, [0, 90, 3, 11]), (40, 1, .ireturn, [])]
set_option maxRecDepth 20000 in
def k_X11_measure : List az_I := [
  (0, 1, .aload_n 0, []), (1, 1, .iload_n 1, []), (2, 3, .invokevirtual 174, [0, 139, 2, 12]), (5, 3, .ifCond .eq 21, []), (8, 1, .iload_n 2, []), (9, 3, .invokestatic 108, [0, 132, 1, 999]),
  (12, 3, .ifCond .eq 14, []), (15, 1, .aload_n 0, []), (16, 3, .getfield 68, [12, 0]), (19, 1, .iload_n 3, []), (20, 3, .invokevirtual 203, [0, 5, 2, 2]), (23, 3, .ifCond .ne 5, []),
  (26, 1, .iconst (-1), []), (27, 1, .ireturn, []), (28, 1, .aload_n 0, []), (29, 3, .getfield 23, [12, 3]), (32, 1, .iload_n 1, []), (33, 3, .invokevirtual 143, [0, 272, 2, 0]),
  (36, 3, .checkcast 157, [11]), (39, 2, .astore 4, []), (41, 2, .aload 4, []), (43, 1, .aload_n 0, []), (44, 3, .getfield 105, [12, 15]), (47, 1, .aload_n 0, []),
  (48, 3, .getfield 105, [12, 15]), (51, 3, .invokevirtual 200, [0, 90, 3, 11]), (54, 2, .istore 5, []), (56, 2, .iload 5, []), (58, 1, .iconst (-1), []), (59, 3, .if_icmp .eq 30, []),
  (62, 2, .aload 4, []), (64, 3, .getfield 206, [11, 13]), (67, 1, .aload_n 0, []), (68, 3, .getfield 105, [12, 15]), (71, 3, .if_icmp .eq 18, []), (74, 1, .aload_n 0, []),
  (75, 3, .getfield 10, [12, 1]), (78, 1, .aload_n 0, []), (79, 3, .getfield 105, [12, 15]), (82, 1, .iload_n 2, []), (83, 3, .invokevirtual 123, [0, 50, 3, 7]), (86, 3, .ifCond .eq 5, []),
  (89, 1, .iconst (-1), []), (90, 1, .ireturn, []), (91, 1, .aload_n 0, []), (92, 2, .aload 4, []), (94, 1, .iload_n 2, []), (95, 1, .iload_n 3, []),
  (96, 2, .iload 5, []), (98, 3, .invokevirtual 209, [0, 145, 5, 12]), (101, 2, .istore 6, []), (103, 2, .iload 6, []), (105, 1, .iconst (-1), []), (106, 3, .if_icmp .eq 20, []),
  (109, 2, .iload 6, []), (111, 2, .iload 5, []), (113, 3, .if_icmp .eq 15, []), (116, 2, .aload 4, []), (118, 3, .getfield 187, [11, 10]), (121, 2, .bipush 40, []),
  (123, 3, .if_icmp .lt 5, []), (126, 1, .iconst (-1), []), (127, 1, .ireturn, []), (128, 2, .iload 6, []), (130, 2, .iload 5, []), (132, 3, .if_icmp .eq 14, []),
  (135, 2, .aload 4, []), (137, 2, .iload 6, []), (139, 1, .aload_n 0, []), (140, 3, .getfield 105, [12, 15]), (143, 3, .invokevirtual 213, [0, 93, 3, 11]), (146, 2, .aload 4, []),
  (148, 1, .aload_n 0, []), (149, 3, .getfield 105, [12, 15]), (152, 3, .putfield 206, [11, 13]), (155, 2, .aload 4, []), (157, 1, .aload_n 0, []), (158, 3, .getfield 105, [12, 15]),
  (161, 1, .aload_n 0, []), (162, 3, .getfield 105, [12, 15]), (165, 3, .invokevirtual 200, [0, 90, 3, 11]), (168, 1, .ireturn, [])]
set_option maxRecDepth 20000 in
def k_X11_thing : List az_I := [
  (0, 1, .aload_n 0, []), (1, 1, .iload_n 1, []), (2, 3, .invokevirtual 174, [0, 139, 2, 12]), (5, 3, .ifCond .ne 5, []), (8, 1, .iconst (-1), []), (9, 1, .ireturn, []),
  (10, 1, .aload_n 0, []), (11, 3, .getfield 23, [12, 3]), (14, 1, .iload_n 1, []), (15, 3, .invokevirtual 143, [0, 272, 2, 0]), (18, 3, .checkcast 157, [11]), (21, 1, .astore_n 3, []),
  (22, 1, .iload_n 2, []), (23, 45, .tableswitch 85 0 7 #[45, 50, 55, 60, 65, 70, 75, 80], []), (68, 1, .aload_n 3, []), (69, 3, .getfield 216, [11, 0]), (72, 1, .ireturn, []), (73, 1, .aload_n 3, []),
  (74, 3, .getfield 219, [11, 1]), (77, 1, .ireturn, []), (78, 1, .aload_n 3, []), (79, 3, .getfield 222, [11, 2]), (82, 1, .ireturn, []), (83, 1, .aload_n 3, []),
  (84, 3, .getfield 180, [11, 3]), (87, 1, .ireturn, []), (88, 1, .aload_n 3, []), (89, 3, .getfield 187, [11, 10]), (92, 1, .ireturn, []), (93, 1, .aload_n 3, []),
  (94, 3, .getfield 194, [11, 11]), (97, 1, .ireturn, []), (98, 1, .aload_n 3, []), (99, 3, .getfield 206, [11, 13]), (102, 1, .ireturn, []), (103, 1, .aload_n 3, []),
  (104, 3, .getfield 165, [11, 4]), (107, 1, .ireturn, []), (108, 1, .iconst (-1), []), (109, 1, .ireturn, [])]
set_option maxRecDepth 20000 in
def k_X11_entry : List az_I := [
  (0, 1, .aload_n 0, []), (1, 1, .iload_n 1, []), (2, 3, .invokevirtual 174, [0, 139, 2, 12]), (5, 3, .ifCond .eq 22, []), (8, 1, .aload_n 0, []), (9, 3, .getfield 23, [12, 3]),
  (12, 1, .iload_n 1, []), (13, 3, .invokevirtual 143, [0, 272, 2, 0]), (16, 3, .checkcast 157, [11]), (19, 1, .iload_n 2, []), (20, 1, .iload_n 3, []), (21, 3, .invokevirtual 225, [0, 88, 3, 11]),
  (24, 3, .goto 4, []), (27, 1, .iconst (-1), []), (28, 1, .ireturn, [])]
set_option maxRecDepth 20000 in
def k_X11_grant : List az_I := [
  (0, 1, .aload_n 0, []), (1, 1, .iload_n 1, []), (2, 3, .invokevirtual 140, [0, 138, 2, 12]), (5, 3, .ifCond .eq 24, []), (8, 1, .aload_n 0, []), (9, 1, .iload_n 2, []),
  (10, 3, .invokevirtual 140, [0, 138, 2, 12]), (13, 3, .ifCond .eq 16, []), (16, 1, .iload_n 1, []), (17, 1, .iload_n 2, []), (18, 3, .if_icmp .eq 11, []), (21, 1, .aload_n 0, []),
  (22, 1, .iload_n 3, []), (23, 3, .invokevirtual 174, [0, 139, 2, 12]), (26, 3, .ifCond .ne 5, []), (29, 1, .iconst (-1), []), (30, 1, .ireturn, []), (31, 2, .iload 4, []),
  (33, 3, .invokestatic 228, [0, 135, 1, 999]), (36, 3, .ifCond .eq 24, []), (39, 2, .iload 4, []), (41, 2, .bipush 16, []), (43, 1, .idiv, []), (44, 2, .iload 4, []),
  (46, 2, .bipush 16, []), (48, 1, .irem, []), (49, 3, .if_icmp .gt 11, []), (52, 2, .iload 5, []), (54, 3, .invokestatic 228, [0, 135, 1, 999]), (57, 3, .ifCond .ne 5, []),
  (60, 1, .iconst (-1), []), (61, 1, .ireturn, []), (62, 2, .iload 6, []), (64, 2, .iload 7, []), (66, 3, .invokestatic 231, [0, 131, 2, 999]), (69, 3, .ifCond .eq 26, []),
  (72, 2, .iload 8, []), (74, 3, .ifCond .lt 21, []), (77, 2, .iload 8, []), (79, 1, .iconst 2, []), (80, 3, .if_icmp .gt 15, []), (83, 1, .aload_n 0, []),
  (84, 3, .getfield 26, [12, 4]), (87, 3, .invokevirtual 130, [0, 270, 1, 0]), (90, 2, .bipush 60, []), (92, 3, .if_icmp .lt 5, []), (95, 1, .iconst (-1), []), (96, 1, .ireturn, []),
  (97, 3, .new 234, [1]), (100, 1, .dup, []), (101, 1, .iload_n 1, []), (102, 1, .aload_n 0, []), (103, 3, .getfield 19, [12, 2]), (106, 1, .iload_n 1, []),
  (107, 3, .invokevirtual 143, [0, 272, 2, 0]), (110, 3, .checkcast 133, [4]), (113, 1, .iload_n 2, []), (114, 1, .iload_n 3, []), (115, 2, .iload 8, []), (117, 1, .aload_n 0, []),
  (118, 3, .getfield 105, [12, 15]), (121, 3, .invokespecial 236, [0, 0, 7, 1]), (124, 2, .astore 9, []), (126, 2, .aload 9, []), (128, 2, .iload 4, []), (130, 2, .iload 5, []),
  (132, 2, .iload 6, []), (134, 2, .iload 7, []), (136, 3, .invokevirtual 239, [0, 1, 5, 1]), (139, 1, .aload_n 0, []), (140, 3, .getfield 26, [12, 4]), (143, 2, .aload 9, []),
  (145, 3, .invokevirtual 136, [0, 274, 2, 0]), (148, 1, .pop, []), (149, 1, .aload_n 0, []), (150, 3, .getfield 26, [12, 4]), (153, 3, .invokevirtual 130, [0, 270, 1, 0]), (156, 1, .iconst 1, []),
  (157, 1, .isub, []), (158, 1, .ireturn, [])]
set_option maxRecDepth 20000 in
def k_X11_holder : List az_I := [
  (0, 1, .aload_n 0, []), (1, 1, .iload_n 1, []), (2, 3, .invokevirtual 174, [0, 139, 2, 12]), (5, 3, .ifCond .eq 25, []), (8, 1, .iload_n 2, []), (9, 3, .invokestatic 120, [0, 130, 1, 999]),
  (12, 3, .ifCond .eq 18, []), (15, 1, .iload_n 3, []), (16, 3, .invokestatic 108, [0, 132, 1, 999]), (19, 3, .ifCond .eq 11, []), (22, 2, .iload 4, []), (24, 3, .invokestatic 120, [0, 130, 1, 999]),
  (27, 3, .ifCond .ne 5, []), (30, 1, .iconst (-1), []), (31, 1, .ireturn, []), (32, 1, .aload_n 0, []), (33, 3, .getfield 23, [12, 3]), (36, 1, .iload_n 1, []),
  (37, 3, .invokevirtual 143, [0, 272, 2, 0]), (40, 3, .checkcast 157, [11]), (43, 1, .iload_n 2, []), (44, 2, .iload 4, []), (46, 3, .invokevirtual 200, [0, 90, 3, 11]), (49, 1, .iconst (-1), []),
  (50, 3, .if_icmp .ne 5, []), (53, 1, .iconst (-1), []), (54, 1, .ireturn, []), (55, 1, .aload_n 0, []), (56, 1, .iload_n 2, []), (57, 1, .iload_n 3, []),
  (58, 2, .iload 4, []), (60, 3, .invokevirtual 242, [0, 146, 4, 12]), (63, 1, .iload_n 1, []), (64, 1, .aload_n 0, []), (65, 3, .getfield 43, [12, 11]), (68, 1, .arraylength, []),
  (69, 3, .if_icmp .ge 12, []), (72, 1, .aload_n 0, []), (73, 3, .getfield 43, [12, 11]), (76, 1, .iload_n 1, []), (77, 1, .iaload, []), (78, 3, .goto 4, []),
  (81, 1, .iconst (-1), []), (82, 1, .ireturn, [])]
set_option maxRecDepth 20000 in
def k_X11_shaded : List az_I := [
  (0, 1, .aload_n 0, []), (1, 3, .getfield 68, [12, 0]), (4, 1, .iload_n 1, []), (5, 3, .invokevirtual 203, [0, 5, 2, 2]), (8, 3, .ifCond .eq 25, []), (11, 1, .iload_n 2, []),
  (12, 3, .invokestatic 120, [0, 130, 1, 999]), (15, 3, .ifCond .eq 18, []), (18, 1, .iload_n 3, []), (19, 3, .invokestatic 108, [0, 132, 1, 999]), (22, 3, .ifCond .eq 11, []), (25, 2, .iload 4, []),
  (27, 3, .invokestatic 120, [0, 130, 1, 999]), (30, 3, .ifCond .ne 5, []), (33, 1, .iconst (-1), []), (34, 1, .ireturn, []), (35, 1, .aload_n 0, []), (36, 3, .getfield 77, [12, 6]),
  (39, 1, .iload_n 2, []), (40, 2, .iload 4, []), (42, 3, .invokevirtual 245, [0, 37, 3, 6]), (45, 1, .aload_n 0, []), (46, 3, .getfield 77, [12, 6]), (49, 1, .iload_n 3, []),
  (50, 3, .invokevirtual 248, [0, 38, 2, 6]), (53, 1, .aload_n 0, []), (54, 3, .getfield 77, [12, 6]), (57, 1, .iload_n 1, []), (58, 3, .invokevirtual 252, [0, 42, 2, 6]), (61, 1, .ireturn, [])]
set_option maxRecDepth 20000 in
def k_X11_parts : List az_I := [
  (0, 1, .aload_n 0, []), (1, 1, .iload_n 1, []), (2, 3, .invokevirtual 140, [0, 138, 2, 12]), (5, 3, .ifCond .eq 37, []), (8, 1, .aload_n 0, []), (9, 3, .getfield 68, [12, 0]),
  (12, 1, .iload_n 2, []), (13, 3, .invokevirtual 203, [0, 5, 2, 2]), (16, 3, .ifCond .eq 26, []), (19, 1, .iload_n 3, []), (20, 3, .invokestatic 120, [0, 130, 1, 999]), (23, 3, .ifCond .eq 19, []),
  (26, 2, .iload 4, []), (28, 3, .invokestatic 108, [0, 132, 1, 999]), (31, 3, .ifCond .eq 11, []), (34, 2, .iload 5, []), (36, 3, .invokestatic 120, [0, 130, 1, 999]), (39, 3, .ifCond .ne 5, []),
  (42, 1, .iconst (-1), []), (43, 1, .ireturn, []), (44, 1, .aload_n 0, []), (45, 3, .getfield 77, [12, 6]), (48, 1, .iload_n 3, []), (49, 2, .iload 5, []),
  (51, 3, .invokevirtual 245, [0, 37, 3, 6]), (54, 1, .aload_n 0, []), (55, 3, .getfield 77, [12, 6]), (58, 2, .iload 4, []), (60, 3, .invokevirtual 248, [0, 38, 2, 6]), (63, 1, .aload_n 0, []),
  (64, 3, .getfield 77, [12, 6]), (67, 1, .aload_n 0, []), (68, 1, .iload_n 1, []), (69, 1, .iload_n 3, []), (70, 2, .iload 4, []), (72, 2, .iload 5, []),
  (74, 3, .invokevirtual 256, [0, 147, 5, 12]), (77, 1, .iload_n 2, []), (78, 3, .invokevirtual 260, [0, 43, 3, 6]), (81, 1, .ireturn, [])]
set_option maxRecDepth 20000 in
def k_X11_shadow : List az_I := [
  (0, 1, .aload_n 0, []), (1, 1, .iload_n 1, []), (2, 3, .invokevirtual 174, [0, 139, 2, 12]), (5, 3, .ifCond .eq 25, []), (8, 1, .iload_n 2, []), (9, 3, .invokestatic 120, [0, 130, 1, 999]),
  (12, 3, .ifCond .eq 18, []), (15, 1, .iload_n 3, []), (16, 3, .invokestatic 108, [0, 132, 1, 999]), (19, 3, .ifCond .eq 11, []), (22, 2, .iload 4, []), (24, 3, .invokestatic 120, [0, 130, 1, 999]),
  (27, 3, .ifCond .ne 5, []), (30, 1, .iconst (-1), []), (31, 1, .ireturn, []), (32, 1, .aload_n 0, []), (33, 3, .getfield 77, [12, 6]), (36, 1, .iload_n 2, []),
  (37, 2, .iload 4, []), (39, 3, .invokevirtual 245, [0, 37, 3, 6]), (42, 1, .aload_n 0, []), (43, 3, .getfield 77, [12, 6]), (46, 1, .iload_n 3, []), (47, 3, .invokevirtual 248, [0, 38, 2, 6]),
  (50, 1, .aload_n 0, []), (51, 3, .getfield 77, [12, 6]), (54, 1, .iload_n 1, []), (55, 3, .invokevirtual 263, [0, 45, 2, 6]), (58, 1, .ireturn, [])]
set_option maxRecDepth 20000 in
def k_X11_account : List az_I := [
  (0, 1, .aload_n 0, []), (1, 1, .iload_n 1, []), (2, 3, .invokevirtual 140, [0, 138, 2, 12]), (5, 3, .ifCond .eq 27, []), (8, 1, .iload_n 2, []), (9, 1, .iload_n 3, []),
  (10, 3, .invokestatic 231, [0, 131, 2, 999]), (13, 3, .ifCond .eq 19, []), (16, 1, .iload_n 3, []), (17, 1, .iload_n 2, []), (18, 1, .isub, []), (19, 2, .bipush 60, []),
  (21, 3, .if_icmp .ge 11, []), (24, 2, .iload 4, []), (26, 3, .invokestatic 120, [0, 130, 1, 999]), (29, 3, .ifCond .ne 7, []), (32, 3, .ldc2_w 266, [18446744073709551615]), (35, 1, .lreturn, []),
  (36, 1, .lconst 0, []), (37, 2, .lstore 5, []), (39, 1, .iload_n 2, []), (40, 2, .istore 7, []), (42, 2, .iload 7, []), (44, 1, .iload_n 3, []),
  (45, 3, .if_icmp .gt 23, []), (48, 2, .lload 5, []), (50, 1, .aload_n 0, []), (51, 1, .iload_n 1, []), (52, 2, .iload 7, []), (54, 2, .iload 4, []),
  (56, 3, .invokevirtual 268, [0, 148, 4, 12]), (59, 1, .ladd, []), (60, 2, .lstore 5, []), (62, 3, .iinc 7 1, []), (65, 3, .goto (-23), []), (68, 2, .lload 5, []),
  (70, 1, .lreturn, [])]
set_option maxRecDepth 20000 in
def k_X11_bill : List az_I := [
  (0, 1, .aload_n 0, []), (1, 1, .iload_n 1, []), (2, 3, .invokevirtual 174, [0, 139, 2, 12]), (5, 3, .ifCond .eq 19, []), (8, 1, .iload_n 2, []), (9, 3, .invokestatic 177, [0, 133, 1, 999]),
  (12, 3, .ifCond .eq 12, []), (15, 1, .aload_n 0, []), (16, 2, .iload 4, []), (18, 3, .invokevirtual 140, [0, 138, 2, 12]), (21, 3, .ifCond .ne 5, []), (24, 1, .lconst 0, []),
  (25, 1, .lreturn, []), (26, 1, .aload_n 0, []), (27, 3, .getfield 23, [12, 3]), (30, 1, .iload_n 1, []), (31, 3, .invokevirtual 143, [0, 272, 2, 0]), (34, 3, .checkcast 157, [11]),
  (37, 2, .astore 5, []), (39, 1, .iload_n 3, []), (40, 2, .aload 5, []), (42, 3, .getfield 180, [11, 3]), (45, 3, .if_icmp .lt 10, []), (48, 1, .iload_n 3, []),
  (49, 3, .sipush 3269, []), (52, 3, .if_icmp .le 5, []), (55, 1, .lconst 0, []), (56, 1, .lreturn, []), (57, 2, .aload 5, []), (59, 1, .iload_n 3, []),
  (60, 1, .aload_n 0, []), (61, 3, .getfield 105, [12, 15]), (64, 3, .invokevirtual 200, [0, 90, 3, 11]), (67, 1, .iconst (-1), []), (68, 3, .if_icmp .ne 5, []), (71, 1, .lconst 0, []),
  (72, 1, .lreturn, []), (73, 1, .aload_n 0, []), (74, 2, .iload 4, []), (76, 1, .iload_n 3, []), (77, 3, .invokevirtual 272, [0, 149, 3, 12]), (80, 2, .lstore 6, []),
  (82, 2, .aload 5, []), (84, 1, .iload_n 3, []), (85, 1, .iload_n 2, []), (86, 1, .aload_n 0, []), (87, 3, .getfield 105, [12, 15]), (90, 3, .invokevirtual 190, [0, 86, 4, 11]),
  (93, 1, .aload_n 0, []), (94, 2, .iload 4, []), (96, 1, .iload_n 3, []), (97, 3, .invokevirtual 272, [0, 149, 3, 12]), (100, 2, .lstore 8, []), (102, 2, .aload 5, []),
  (104, 3, .invokevirtual 276, [0, 87, 1, 11]), (107, 2, .lload 8, []), (109, 2, .lload 6, []), (111, 1, .lsub, []), (112, 1, .lreturn, [])]
set_option maxRecDepth 20000 in
def k_X11_feed : List az_I := [
  (0, 1, .aload_n 0, []), (1, 3, .getfield 35, [12, 7]), (4, 3, .getfield 279, [9, 1]), (7, 2, .bipush 20, []), (9, 1, .iadd, []), (10, 3, .sipush 400, []),
  (13, 3, .if_icmp .le 5, []), (16, 1, .iconst (-1), []), (17, 1, .ireturn, []), (18, 1, .aload_n 0, []), (19, 3, .getfield 35, [12, 7]), (22, 1, .iload_n 1, []),
  (23, 3, .invokevirtual 282, [0, 58, 2, 9]), (26, 1, .aload_n 0, []), (27, 3, .getfield 35, [12, 7]), (30, 1, .iload_n 2, []), (31, 3, .invokevirtual 282, [0, 58, 2, 9]), (34, 1, .aload_n 0, []),
  (35, 3, .getfield 35, [12, 7]), (38, 1, .iload_n 3, []), (39, 3, .invokevirtual 282, [0, 58, 2, 9]), (42, 1, .aload_n 0, []), (43, 3, .getfield 35, [12, 7]), (46, 2, .iload 4, []),
  (48, 3, .invokevirtual 282, [0, 58, 2, 9]), (51, 1, .aload_n 0, []), (52, 3, .getfield 35, [12, 7]), (55, 2, .iload 5, []), (57, 3, .invokevirtual 282, [0, 58, 2, 9]), (60, 1, .aload_n 0, []),
  (61, 3, .getfield 35, [12, 7]), (64, 3, .getfield 279, [9, 1]), (67, 1, .ireturn, [])]
set_option maxRecDepth 20000 in
def k_X11_end : List az_I := [
  (0, 1, .iload_n 1, []), (1, 3, .ifCond .lt 14, []), (4, 1, .iload_n 1, []), (5, 1, .aload_n 0, []), (6, 3, .getfield 35, [12, 7]), (9, 3, .getfield 279, [9, 1]),
  (12, 3, .if_icmp .le 5, []), (15, 1, .iconst (-1), []), (16, 1, .ireturn, []), (17, 1, .aload_n 0, []), (18, 3, .getfield 35, [12, 7]), (21, 1, .iload_n 1, []),
  (22, 3, .putfield 279, [9, 1]), (25, 1, .iload_n 1, []), (26, 1, .ireturn, [])]
set_option maxRecDepth 20000 in
def k_X11_tariff : List az_I := [
  (0, 1, .aload_n 0, []), (1, 3, .getfield 95, [12, 8]), (4, 1, .aload_n 0, []), (5, 3, .getfield 53, [12, 14]), (8, 3, .invokevirtual 285, [0, 11, 2, 3]), (11, 1, .istore_n 1, []),
  (12, 1, .aload_n 0, []), (13, 3, .getfield 35, [12, 7]), (16, 1, .iconst 0, []), (17, 3, .putfield 279, [9, 1]), (20, 1, .aload_n 0, []), (21, 1, .aload_n 0, []),
  (22, 3, .getfield 95, [12, 8]), (25, 3, .getfield 289, [3, 4]), (28, 3, .putfield 56, [12, 16]), (31, 1, .aload_n 0, []), (32, 1, .aload_n 0, []), (33, 3, .getfield 95, [12, 8]),
  (36, 3, .getfield 290, [3, 5]), (39, 3, .putfield 60, [12, 17]), (42, 1, .iload_n 1, []), (43, 3, .ifCond .ne 5, []), (46, 1, .iconst (-1), []), (47, 1, .ireturn, []),
  (48, 1, .aload_n 0, []), (49, 3, .getfield 49, [12, 13]), (52, 1, .astore_n 2, []), (53, 1, .aload_n 0, []), (54, 1, .aload_n 0, []), (55, 3, .getfield 53, [12, 14]),
  (58, 3, .putfield 49, [12, 13]), (61, 1, .aload_n 0, []), (62, 1, .aload_n 2, []), (63, 3, .putfield 53, [12, 14]), (66, 1, .aload_n 0, []), (67, 3, .getfield 49, [12, 13]),
  (70, 3, .getfield 291, [10, 6]), (73, 1, .ireturn, [])]
set_option maxRecDepth 20000 in
def k_X11_fault : List az_I := [
  (0, 1, .iload_n 1, []), (1, 27, .lookupswitch 37 #[(0, 27), (1, 32)], []), (28, 1, .aload_n 0, []), (29, 3, .getfield 56, [12, 16]), (32, 1, .ireturn, []), (33, 1, .aload_n 0, []),
  (34, 3, .getfield 60, [12, 17]), (37, 1, .ireturn, []), (38, 1, .iconst (-1), []), (39, 1, .ireturn, [])]
set_option maxRecDepth 20000 in
def k_X11_gives : List az_I := [
  (0, 1, .iload_n 1, []), (1, 3, .ldc_w 294, [0, 1000000]), (4, 3, .invokestatic 112, [0, 134, 2, 999]), (7, 3, .ifCond .eq 23, []), (10, 1, .iload_n 2, []), (11, 3, .ldc_w 294, [0, 1000000]),
  (14, 3, .invokestatic 112, [0, 134, 2, 999]), (17, 3, .ifCond .eq 13, []), (20, 1, .iload_n 3, []), (21, 3, .ldc_w 294, [0, 1000000]), (24, 3, .invokestatic 112, [0, 134, 2, 999]), (27, 3, .ifCond .ne 7, []),
  (30, 3, .ldc_w 295, [0, 2294967296]), (33, 1, .ireturn, []), (34, 2, .iload 4, []), (36, 3, .ldc_w 294, [0, 1000000]), (39, 3, .invokestatic 112, [0, 134, 2, 999]), (42, 3, .ifCond .eq 25, []),
  (45, 2, .iload 5, []), (47, 3, .ldc_w 294, [0, 1000000]), (50, 3, .invokestatic 112, [0, 134, 2, 999]), (53, 3, .ifCond .eq 14, []), (56, 2, .iload 6, []), (58, 3, .ldc_w 294, [0, 1000000]),
  (61, 3, .invokestatic 112, [0, 134, 2, 999]), (64, 3, .ifCond .ne 7, []), (67, 3, .ldc_w 295, [0, 2294967296]), (70, 1, .ireturn, []), (71, 1, .aload_n 0, []), (72, 3, .getfield 39, [12, 10]),
  (75, 1, .iconst 0, []), (76, 1, .iload_n 1, []), (77, 1, .iastore, []), (78, 1, .aload_n 0, []), (79, 3, .getfield 39, [12, 10]), (82, 1, .iconst 1, []),
  (83, 1, .iload_n 2, []), (84, 1, .iastore, []), (85, 1, .aload_n 0, []), (86, 3, .getfield 39, [12, 10]), (89, 1, .iconst 2, []), (90, 1, .iconst 0, []),
  (91, 1, .iastore, []), (92, 1, .aload_n 0, []), (93, 3, .getfield 39, [12, 10]), (96, 1, .iconst 3, []), (97, 1, .iload_n 3, []), (98, 1, .iastore, []),
  (99, 1, .aload_n 0, []), (100, 3, .getfield 39, [12, 10]), (103, 1, .iconst 4, []), (104, 2, .iload 4, []), (106, 1, .iastore, []), (107, 1, .aload_n 0, []),
  (108, 3, .getfield 39, [12, 10]), (111, 1, .iconst 5, []), (112, 2, .iload 5, []), (114, 1, .iastore, []), (115, 1, .aload_n 0, []), (116, 3, .getfield 39, [12, 10]),
  (119, 2, .bipush 6, []), (121, 2, .iload 6, []), (123, 1, .iastore, []), (124, 1, .aload_n 0, []), (125, 3, .getfield 39, [12, 10]), (128, 2, .bipush 7, []),
  (130, 1, .iconst 0, []), (131, 1, .iastore, []), (132, 1, .aload_n 0, []), (133, 3, .getfield 49, [12, 13]), (136, 1, .aload_n 0, []), (137, 3, .getfield 39, [12, 10]),
  (140, 3, .invokevirtual 296, [0, 80, 2, 10]), (143, 1, .ireturn, [])]
set_option maxRecDepth 20000 in
def k_X11_stall : List az_I := [
  (0, 1, .aload_n 0, []), (1, 1, .iload_n 1, []), (2, 3, .invokevirtual 140, [0, 138, 2, 12]), (5, 3, .ifCond .eq 23, []), (8, 1, .iload_n 2, []), (9, 1, .iload_n 3, []),
  (10, 3, .invokestatic 231, [0, 131, 2, 999]), (13, 3, .ifCond .eq 15, []), (16, 1, .aload_n 0, []), (17, 3, .getfield 29, [12, 5]), (20, 3, .invokevirtual 130, [0, 270, 1, 0]), (23, 2, .bipush 10, []),
  (25, 3, .if_icmp .lt 5, []), (28, 1, .iconst (-1), []), (29, 1, .ireturn, []), (30, 1, .aload_n 0, []), (31, 3, .getfield 29, [12, 5]), (34, 3, .new 300, [8]),
  (37, 1, .dup, []), (38, 1, .iload_n 2, []), (39, 1, .iload_n 3, []), (40, 3, .invokespecial 302, [0, 52, 3, 8]), (43, 3, .invokevirtual 136, [0, 274, 2, 0]), (46, 1, .pop, []),
  (47, 1, .aload_n 0, []), (48, 3, .getfield 29, [12, 5]), (51, 3, .invokevirtual 130, [0, 270, 1, 0]), (54, 1, .iconst 1, []), (55, 1, .isub, []), (56, 1, .ireturn, [])]
set_option maxRecDepth 20000 in
def k_X11_place : List az_I := [
  (0, 1, .aload_n 0, []), (1, 1, .iload_n 1, []), (2, 3, .invokevirtual 303, [0, 140, 2, 12]), (5, 3, .ifCond .eq 10, []), (8, 1, .iload_n 2, []), (9, 3, .invokestatic 108, [0, 132, 1, 999]),
  (12, 3, .ifCond .ne 5, []), (15, 1, .iconst 0, []), (16, 1, .ireturn, []), (17, 1, .iload_n 3, []), (18, 1, .iconst (-1), []), (19, 3, .if_icmp .eq 15, []),
  (22, 1, .aload_n 0, []), (23, 1, .iload_n 1, []), (24, 1, .iload_n 2, []), (25, 1, .iload_n 3, []), (26, 3, .invokevirtual 306, [0, 151, 4, 12]), (29, 3, .ifCond .ne 5, []),
  (32, 1, .iconst 0, []), (33, 1, .ireturn, []), (34, 1, .aload_n 0, []), (35, 3, .getfield 29, [12, 5]), (38, 1, .iload_n 1, []), (39, 3, .invokevirtual 143, [0, 272, 2, 0]),
  (42, 3, .checkcast 300, [8]), (45, 1, .iload_n 2, []), (46, 1, .iload_n 3, []), (47, 3, .invokevirtual 309, [0, 54, 3, 8]), (50, 1, .iconst 1, []), (51, 1, .ireturn, [])]
set_option maxRecDepth 20000 in
def k_X11_placeOf : List az_I := [
  (0, 1, .aload_n 0, []), (1, 1, .iload_n 1, []), (2, 3, .invokevirtual 303, [0, 140, 2, 12]), (5, 3, .ifCond .eq 21, []), (8, 1, .aload_n 0, []), (9, 3, .getfield 29, [12, 5]),
  (12, 1, .iload_n 1, []), (13, 3, .invokevirtual 143, [0, 272, 2, 0]), (16, 3, .checkcast 300, [8]), (19, 1, .iload_n 2, []), (20, 3, .invokevirtual 312, [0, 55, 2, 8]), (23, 3, .goto 4, []),
  (26, 1, .iconst (-1), []), (27, 1, .ireturn, [])]
set_option maxRecDepth 20000 in
def k_X11_fees : List az_I := [
  (0, 1, .aload_n 0, []), (1, 1, .iload_n 1, []), (2, 3, .invokevirtual 303, [0, 140, 2, 12]), (5, 3, .ifCond .eq 34, []), (8, 1, .aload_n 0, []), (9, 3, .getfield 29, [12, 5]),
  (12, 1, .iload_n 1, []), (13, 3, .invokevirtual 143, [0, 272, 2, 0]), (16, 3, .checkcast 300, [8]), (19, 1, .iload_n 2, []), (20, 3, .invokevirtual 315, [0, 53, 2, 8]), (23, 3, .ifCond .eq 16, []),
  (26, 1, .iload_n 3, []), (27, 1, .iconst (-1), []), (28, 3, .if_icmp .eq 15, []), (31, 1, .aload_n 0, []), (32, 1, .iload_n 3, []), (33, 3, .invokevirtual 140, [0, 138, 2, 12]),
  (36, 3, .ifCond .ne 7, []), (39, 3, .ldc2_w 318, [18446744072709551616]), (42, 1, .lreturn, []), (43, 1, .aload_n 0, []), (44, 3, .getfield 29, [12, 5]), (47, 1, .iload_n 1, []),
  (48, 3, .invokevirtual 143, [0, 272, 2, 0]), (51, 3, .checkcast 300, [8]), (54, 2, .astore 4, []), (56, 1, .aload_n 0, []), (57, 3, .getfield 77, [12, 6]), (60, 1, .iload_n 2, []),
  (61, 1, .aload_n 0, []), (62, 3, .getfield 105, [12, 15]), (65, 3, .invokevirtual 245, [0, 37, 3, 6]), (68, 1, .lconst 0, []), (69, 2, .lstore 5, []), (71, 1, .iconst 0, []),
  (72, 2, .istore 7, []), (74, 2, .iload 7, []), (76, 2, .bipush 12, []), (78, 3, .if_icmp .ge 72, []), (81, 2, .aload 4, []), (83, 2, .iload 7, []),
  (85, 3, .invokevirtual 312, [0, 55, 2, 8]), (88, 2, .istore 8, []), (90, 2, .iload 8, []), (92, 1, .iconst (-1), []), (93, 3, .if_icmp .eq 51, []), (96, 1, .aload_n 0, []),
  (97, 3, .getfield 77, [12, 6]), (100, 2, .iload 7, []), (102, 3, .invokevirtual 248, [0, 38, 2, 6]), (105, 1, .iload_n 3, []), (106, 1, .iconst (-1), []), (107, 3, .if_icmp .ne 7, []),
  (110, 1, .iconst (-1), []), (111, 3, .goto 15, []), (114, 1, .aload_n 0, []), (115, 1, .iload_n 3, []), (116, 1, .iload_n 2, []), (117, 2, .iload 7, []),
  (119, 1, .aload_n 0, []), (120, 3, .getfield 105, [12, 15]), (123, 3, .invokevirtual 256, [0, 147, 5, 12]), (126, 2, .istore 9, []), (128, 2, .lload 5, []), (130, 1, .aload_n 0, []),
  (131, 2, .iload 8, []), (133, 2, .iload 7, []), (135, 1, .iload_n 1, []), (136, 2, .iload 9, []), (138, 3, .invokevirtual 320, [0, 150, 5, 12]), (141, 1, .ladd, []),
  (142, 2, .lstore 5, []), (144, 3, .iinc 7 1, []), (147, 3, .goto (-73), []), (150, 2, .lload 5, []), (152, 1, .lreturn, [])]
set_option maxRecDepth 20000 in
def k_X11_walk : List az_I := [
  (0, 1, .iload_n 1, []), (1, 3, .invokestatic 120, [0, 130, 1, 999]), (4, 3, .ifCond .eq 24, []), (7, 1, .iload_n 2, []), (8, 3, .invokestatic 108, [0, 132, 1, 999]), (11, 3, .ifCond .eq 17, []),
  (14, 2, .iload 4, []), (16, 3, .invokestatic 108, [0, 132, 1, 999]), (19, 3, .ifCond .eq 9, []), (22, 2, .iload 4, []), (24, 1, .iload_n 2, []), (25, 3, .if_icmp .ge 5, []),
  (28, 1, .iconst (-1), []), (29, 1, .ireturn, []), (30, 1, .aload_n 0, []), (31, 3, .getfield 68, [12, 0]), (34, 1, .iload_n 3, []), (35, 3, .invokevirtual 203, [0, 5, 2, 2]),
  (38, 3, .ifCond .eq 15, []), (41, 1, .aload_n 0, []), (42, 3, .getfield 68, [12, 0]), (45, 2, .iload 5, []), (47, 3, .invokevirtual 203, [0, 5, 2, 2]), (50, 3, .ifCond .ne 5, []),
  (53, 1, .iconst (-1), []), (54, 1, .ireturn, []), (55, 1, .aload_n 0, []), (56, 3, .getfield 77, [12, 6]), (59, 1, .iload_n 1, []), (60, 1, .aload_n 0, []),
  (61, 3, .getfield 105, [12, 15]), (64, 3, .invokevirtual 245, [0, 37, 3, 6]), (67, 1, .aload_n 0, []), (68, 3, .getfield 86, [12, 9]), (71, 2, .iload 5, []), (73, 3, .invokevirtual 324, [0, 27, 2, 5]),
  (76, 2, .iload 4, []), (78, 2, .istore 6, []), (80, 2, .iload 6, []), (82, 1, .iload_n 2, []), (83, 3, .if_icmp .lt 48, []), (86, 1, .aload_n 0, []),
  (87, 3, .getfield 77, [12, 6]), (90, 2, .iload 6, []), (92, 3, .invokevirtual 248, [0, 38, 2, 6]), (95, 1, .aload_n 0, []), (96, 3, .getfield 86, [12, 9]), (99, 3, .invokevirtual 327, [0, 28, 1, 5]),
  (102, 1, .aload_n 0, []), (103, 2, .iload 6, []), (105, 1, .iload_n 3, []), (106, 2, .iload 6, []), (108, 1, .iload_n 2, []), (109, 1, .isub, []),
  (110, 2, .iload 6, []), (112, 2, .iload 4, []), (114, 3, .if_icmp .ne 7, []), (117, 1, .iconst 1, []), (118, 3, .goto 4, []), (121, 1, .iconst 0, []),
  (122, 3, .invokevirtual 330, [0, 152, 5, 12]), (125, 3, .iinc 6 (-1), []), (128, 3, .goto (-48), []), (131, 1, .aload_n 0, []), (132, 3, .getfield 86, [12, 9]), (135, 1, .iload_n 3, []),
  (136, 1, .iload_n 2, []), (137, 2, .iload 4, []), (139, 3, .invokevirtual 334, [0, 33, 4, 5]), (142, 1, .ireturn, [])]
set_option maxRecDepth 20000 in
def k_X11_walked : List az_I := [
  (0, 1, .iload_n 1, []), (1, 1, .iconst (-1), []), (2, 3, .if_icmp .ne 13, []), (5, 1, .aload_n 0, []), (6, 3, .getfield 86, [12, 9]), (9, 3, .invokevirtual 338, [0, 34, 1, 5]),
  (12, 3, .goto 12, []), (15, 1, .aload_n 0, []), (16, 3, .getfield 86, [12, 9]), (19, 1, .iload_n 1, []), (20, 3, .invokevirtual 342, [0, 35, 2, 5]), (23, 1, .i2l, []),
  (24, 1, .lreturn, [])]
set_option maxRecDepth 20000 in
def k_X11_best : List az_I := [
  (0, 1, .aload_n 0, []), (1, 1, .iload_n 1, []), (2, 1, .iload_n 2, []), (3, 3, .invokevirtual 345, [0, 154, 3, 12]), (6, 1, .ireturn, [])]
set_option maxRecDepth 20000 in
def k_X11_serves : List az_I := [
  (0, 1, .aload_n 0, []), (1, 1, .iload_n 1, []), (2, 1, .iload_n 2, []), (3, 3, .invokevirtual 345, [0, 154, 3, 12]), (6, 1, .istore_n 3, []), (7, 1, .aload_n 0, []),
  (8, 3, .getfield 68, [12, 0]), (11, 1, .iload_n 3, []), (12, 3, .invokevirtual 203, [0, 5, 2, 2]), (15, 3, .ifCond .eq 12, []), (18, 1, .aload_n 0, []), (19, 3, .getfield 102, [12, 12]),
  (22, 1, .iload_n 3, []), (23, 1, .iaload, []), (24, 3, .goto 4, []), (27, 1, .iconst (-1), []), (28, 1, .ireturn, [])]
set_option maxRecDepth 20000 in
def k_X11_about : List az_I := [
  (0, 1, .iload_n 1, []), (1, 59, .tableswitch 141 0 10 #[59, 64, 72, 80, 88, 96, 104, 112, 120, 128, 136], []), (60, 1, .aload_n 0, []), (61, 3, .getfield 105, [12, 15]), (64, 1, .ireturn, []), (65, 1, .aload_n 0, []),
  (66, 3, .getfield 68, [12, 0]), (69, 3, .getfield 348, [2, 0]), (72, 1, .ireturn, []), (73, 1, .aload_n 0, []), (74, 3, .getfield 68, [12, 0]), (77, 3, .getfield 351, [2, 1]),
  (80, 1, .ireturn, []), (81, 1, .aload_n 0, []), (82, 3, .getfield 19, [12, 2]), (85, 3, .invokevirtual 130, [0, 270, 1, 0]), (88, 1, .ireturn, []), (89, 1, .aload_n 0, []),
  (90, 3, .getfield 23, [12, 3]), (93, 3, .invokevirtual 130, [0, 270, 1, 0]), (96, 1, .ireturn, []), (97, 1, .aload_n 0, []), (98, 3, .getfield 26, [12, 4]), (101, 3, .invokevirtual 130, [0, 270, 1, 0]),
  (104, 1, .ireturn, []), (105, 1, .aload_n 0, []), (106, 3, .getfield 10, [12, 1]), (109, 3, .getfield 354, [7, 3]), (112, 1, .ireturn, []), (113, 1, .aload_n 0, []),
  (114, 3, .getfield 29, [12, 5]), (117, 3, .invokevirtual 130, [0, 270, 1, 0]), (120, 1, .ireturn, []), (121, 1, .aload_n 0, []), (122, 3, .getfield 49, [12, 13]), (125, 3, .getfield 291, [10, 6]),
  (128, 1, .ireturn, []), (129, 1, .aload_n 0, []), (130, 3, .getfield 35, [12, 7]), (133, 3, .getfield 279, [9, 1]), (136, 1, .ireturn, []), (137, 1, .aload_n 0, []),
  (138, 3, .invokevirtual 357, [0, 144, 1, 12]), (141, 1, .ireturn, []), (142, 1, .iconst (-1), []), (143, 1, .ireturn, [])]
set_option maxRecDepth 20000 in
def k_X11_isDay : List az_I := [
  (0, 1, .iload_n 0, []), (1, 3, .ifCond .lt 14, []), (4, 1, .iload_n 0, []), (5, 3, .sipush 3599, []), (8, 3, .if_icmp .gt 7, []), (11, 1, .iconst 1, []),
  (12, 3, .goto 4, []), (15, 1, .iconst 0, []), (16, 1, .ireturn, [])]
set_option maxRecDepth 20000 in
def k_X11_isSpan : List az_I := [
  (0, 1, .iload_n 0, []), (1, 3, .invokestatic 120, [0, 130, 1, 999]), (4, 3, .ifCond .eq 19, []), (7, 1, .iload_n 1, []), (8, 3, .invokestatic 120, [0, 130, 1, 999]), (11, 3, .ifCond .eq 12, []),
  (14, 1, .iload_n 0, []), (15, 1, .iload_n 1, []), (16, 3, .if_icmp .gt 7, []), (19, 1, .iconst 1, []), (20, 3, .goto 4, []), (23, 1, .iconst 0, []),
  (24, 1, .ireturn, [])]
set_option maxRecDepth 20000 in
def k_X11_isHour : List az_I := [
  (0, 1, .iload_n 0, []), (1, 3, .ifCond .lt 13, []), (4, 1, .iload_n 0, []), (5, 2, .bipush 12, []), (7, 3, .if_icmp .ge 7, []), (10, 1, .iconst 1, []),
  (11, 3, .goto 4, []), (14, 1, .iconst 0, []), (15, 1, .ireturn, [])]
set_option maxRecDepth 20000 in
def k_X11_isHeight : List az_I := [
  (0, 1, .iload_n 0, []), (1, 3, .ifCond .lt 13, []), (4, 1, .iload_n 0, []), (5, 2, .bipush 60, []), (7, 3, .if_icmp .gt 7, []), (10, 1, .iconst 1, []),
  (11, 3, .goto 4, []), (14, 1, .iconst 0, []), (15, 1, .ireturn, [])]
set_option maxRecDepth 20000 in
def k_X11_isWithin : List az_I := [
  (0, 1, .iload_n 0, []), (1, 1, .iload_n 1, []), (2, 1, .ineg, []), (3, 3, .if_icmp .lt 12, []), (6, 1, .iload_n 0, []), (7, 1, .iload_n 1, []),
  (8, 3, .if_icmp .gt 7, []), (11, 1, .iconst 1, []), (12, 3, .goto 4, []), (15, 1, .iconst 0, []), (16, 1, .ireturn, [])]
set_option maxRecDepth 20000 in
def k_X11_isPairOfTwelve : List az_I := [
  (0, 1, .iload_n 0, []), (1, 3, .ifCond .lt 25, []), (4, 1, .iload_n 0, []), (5, 2, .bipush 16, []), (7, 1, .idiv, []), (8, 2, .bipush 12, []),
  (10, 3, .if_icmp .ge 16, []), (13, 1, .iload_n 0, []), (14, 2, .bipush 16, []), (16, 1, .irem, []), (17, 2, .bipush 12, []), (19, 3, .if_icmp .ge 7, []),
  (22, 1, .iconst 1, []), (23, 3, .goto 4, []), (26, 1, .iconst 0, []), (27, 1, .ireturn, [])]
set_option maxRecDepth 20000 in
def k_X11_monthOf : List az_I := [
  (0, 1, .iload_n 0, []), (1, 3, .sipush 360, []), (4, 1, .irem, []), (5, 2, .bipush 30, []), (7, 1, .idiv, []), (8, 1, .ireturn, [])]
set_option maxRecDepth 20000 in
def k_X11_cellsAside : List az_I := [
  (0, 2, .bipush 50, []), (2, 1, .iload_n 0, []), (3, 1, .iload_n 1, []), (4, 1, .imul, []), (5, 1, .iadd, []), (6, 2, .bipush 100, []),
  (8, 3, .invokestatic 360, [0, 253, 2, 999]), (11, 1, .ireturn, [])]
set_option maxRecDepth 20000 in
def k_X11_isPerson : List az_I := [
  (0, 1, .iload_n 1, []), (1, 3, .ifCond .lt 18, []), (4, 1, .iload_n 1, []), (5, 1, .aload_n 0, []), (6, 3, .getfield 19, [12, 2]), (9, 3, .invokevirtual 130, [0, 270, 1, 0]),
  (12, 3, .if_icmp .ge 7, []), (15, 1, .iconst 1, []), (16, 3, .goto 4, []), (19, 1, .iconst 0, []), (20, 1, .ireturn, [])]
set_option maxRecDepth 20000 in
def k_X11_isThing : List az_I := [
  (0, 1, .iload_n 1, []), (1, 3, .ifCond .lt 18, []), (4, 1, .iload_n 1, []), (5, 1, .aload_n 0, []), (6, 3, .getfield 23, [12, 3]), (9, 3, .invokevirtual 130, [0, 270, 1, 0]),
  (12, 3, .if_icmp .ge 7, []), (15, 1, .iconst 1, []), (16, 3, .goto 4, []), (19, 1, .iconst 0, []), (20, 1, .ireturn, [])]
set_option maxRecDepth 20000 in
def k_X11_isStall : List az_I := [
  (0, 1, .iload_n 1, []), (1, 3, .ifCond .lt 18, []), (4, 1, .iload_n 1, []), (5, 1, .aload_n 0, []), (6, 3, .getfield 29, [12, 5]), (9, 3, .invokevirtual 130, [0, 270, 1, 0]),
  (12, 3, .if_icmp .ge 7, []), (15, 1, .iconst 1, []), (16, 3, .goto 4, []), (19, 1, .iconst 0, []), (20, 1, .ireturn, [])]
set_option maxRecDepth 20000 in
def k_X11_mayStand : List az_I := [
  (0, 1, .aload_n 0, []), (1, 3, .getfield 68, [12, 0]), (4, 1, .iload_n 1, []), (5, 3, .invokevirtual 203, [0, 5, 2, 2]), (8, 3, .ifCond .eq 30, []), (11, 1, .aload_n 0, []),
  (12, 1, .iload_n 2, []), (13, 3, .invokevirtual 140, [0, 138, 2, 12]), (16, 3, .ifCond .eq 22, []), (19, 1, .iload_n 3, []), (20, 3, .invokestatic 177, [0, 133, 1, 999]), (23, 3, .ifCond .eq 15, []),
  (26, 1, .aload_n 0, []), (27, 3, .getfield 23, [12, 3]), (30, 3, .invokevirtual 130, [0, 270, 1, 0]), (33, 2, .bipush 24, []), (35, 3, .if_icmp .lt 5, []), (38, 1, .iconst 0, []),
  (39, 1, .ireturn, []), (40, 1, .iconst 0, []), (41, 2, .istore 4, []), (43, 2, .iload 4, []), (45, 1, .aload_n 0, []), (46, 3, .getfield 29, [12, 5]),
  (49, 3, .invokevirtual 130, [0, 270, 1, 0]), (52, 3, .if_icmp .ge 46, []), (55, 1, .aload_n 0, []), (56, 3, .getfield 29, [12, 5]), (59, 2, .iload 4, []), (61, 3, .invokevirtual 143, [0, 272, 2, 0]),
  (64, 3, .checkcast 300, [8]), (67, 2, .astore 5, []), (69, 2, .aload 5, []), (71, 3, .getfield 365, [8, 1]), (74, 1, .aload_n 0, []), (75, 3, .getfield 105, [12, 15]),
  (78, 3, .if_icmp .lt 14, []), (81, 2, .aload 5, []), (83, 1, .iload_n 1, []), (84, 3, .invokevirtual 368, [0, 56, 2, 8]), (87, 3, .ifCond .eq 5, []), (90, 1, .iconst 0, []),
  (91, 1, .ireturn, []), (92, 3, .iinc 4 1, []), (95, 3, .goto (-52), []), (98, 1, .aload_n 0, []), (99, 1, .iload_n 1, []), (100, 3, .invokevirtual 371, [0, 142, 2, 12]),
  (103, 3, .ifCond .ne 7, []), (106, 1, .iconst 1, []), (107, 3, .goto 4, []), (110, 1, .iconst 0, []), (111, 1, .ireturn, [])]
set_option maxRecDepth 20000 in
def k_X11_isBuiltOn : List az_I := [
  (0, 1, .iconst 0, []), (1, 1, .istore_n 2, []), (2, 1, .iload_n 2, []), (3, 1, .aload_n 0, []), (4, 3, .getfield 23, [12, 3]), (7, 3, .invokevirtual 130, [0, 270, 1, 0]),
  (10, 3, .if_icmp .ge 38, []), (13, 1, .aload_n 0, []), (14, 3, .getfield 23, [12, 3]), (17, 1, .iload_n 2, []), (18, 3, .invokevirtual 143, [0, 272, 2, 0]), (21, 3, .checkcast 157, [11]),
  (24, 1, .astore_n 3, []), (25, 1, .aload_n 3, []), (26, 3, .getfield 219, [11, 1]), (29, 1, .iload_n 1, []), (30, 3, .if_icmp .ne 12, []), (33, 1, .aload_n 3, []),
  (34, 3, .invokevirtual 183, [0, 89, 1, 11]), (37, 3, .ifCond .ne 5, []), (40, 1, .iconst 1, []), (41, 1, .ireturn, []), (42, 3, .iinc 2 1, []), (45, 3, .goto (-43), []),
  (48, 1, .iconst 0, []), (49, 1, .ireturn, [])]
set_option maxRecDepth 20000 in
def k_X11_addThing : List az_I := [
  (0, 1, .aload_n 1, []), (1, 1, .aload_n 0, []), (2, 3, .getfield 105, [12, 15]), (5, 1, .iload_n 2, []), (6, 1, .aload_n 0, []), (7, 3, .getfield 105, [12, 15]),
  (10, 3, .invokevirtual 190, [0, 86, 4, 11]), (13, 1, .aload_n 0, []), (14, 3, .getfield 23, [12, 3]), (17, 1, .aload_n 1, []), (18, 3, .invokevirtual 136, [0, 274, 2, 0]), (21, 1, .pop, []),
  (22, 1, .aload_n 0, []), (23, 3, .getfield 23, [12, 3]), (26, 3, .invokevirtual 130, [0, 270, 1, 0]), (29, 1, .iconst 1, []), (30, 1, .isub, []), (31, 1, .ireturn, [])]
set_option maxRecDepth 20000 in
def k_X11_standingNow : List az_I := [
  (0, 1, .iconst 0, []), (1, 1, .istore_n 1, []), (2, 1, .iconst 0, []), (3, 1, .istore_n 2, []), (4, 1, .iload_n 2, []), (5, 1, .aload_n 0, []),
  (6, 3, .getfield 23, [12, 3]), (9, 3, .invokevirtual 130, [0, 270, 1, 0]), (12, 3, .if_icmp .ge 38, []), (15, 1, .aload_n 0, []), (16, 3, .getfield 23, [12, 3]), (19, 1, .iload_n 2, []),
  (20, 3, .invokevirtual 143, [0, 272, 2, 0]), (23, 3, .checkcast 157, [11]), (26, 1, .aload_n 0, []), (27, 3, .getfield 105, [12, 15]), (30, 1, .aload_n 0, []), (31, 3, .getfield 105, [12, 15]),
  (34, 3, .invokevirtual 200, [0, 90, 3, 11]), (37, 1, .iconst (-1), []), (38, 3, .if_icmp .eq 6, []), (41, 3, .iinc 1 1, []), (44, 3, .iinc 2 1, []), (47, 3, .goto (-43), []),
  (50, 1, .iload_n 1, []), (51, 1, .ireturn, [])]
set_option maxRecDepth 20000 in
def k_X11_nearestHeight : List az_I := [
  (0, 1, .aload_n 0, []), (1, 3, .getfield 10, [12, 1]), (4, 1, .aload_n 0, []), (5, 3, .getfield 105, [12, 15]), (8, 1, .iload_n 2, []), (9, 3, .invokevirtual 374, [0, 48, 3, 7]),
  (12, 1, .aload_n 1, []), (13, 3, .getfield 168, [11, 5]), (16, 1, .iadd, []), (17, 2, .istore 5, []), (19, 1, .aload_n 0, []), (20, 3, .getfield 10, [12, 1]),
  (23, 1, .aload_n 0, []), (24, 3, .getfield 105, [12, 15]), (27, 1, .iload_n 2, []), (28, 3, .invokevirtual 377, [0, 49, 3, 7]), (31, 1, .aload_n 1, []), (32, 3, .getfield 171, [11, 6]),
  (35, 1, .iadd, []), (36, 2, .istore 6, []), (38, 1, .aload_n 0, []), (39, 3, .getfield 68, [12, 0]), (42, 1, .iload_n 3, []), (43, 3, .invokevirtual 380, [0, 6, 2, 2]),
  (46, 1, .aload_n 0, []), (47, 3, .getfield 68, [12, 0]), (50, 1, .aload_n 1, []), (51, 3, .getfield 219, [11, 1]), (54, 3, .invokevirtual 380, [0, 6, 2, 2]), (57, 1, .isub, []),
  (58, 2, .istore 7, []), (60, 1, .aload_n 0, []), (61, 3, .getfield 68, [12, 0]), (64, 1, .iload_n 3, []), (65, 3, .invokevirtual 383, [0, 7, 2, 2]), (68, 1, .aload_n 0, []),
  (69, 3, .getfield 68, [12, 0]), (72, 1, .aload_n 1, []), (73, 3, .getfield 219, [11, 1]), (76, 3, .invokevirtual 383, [0, 7, 2, 2]), (79, 1, .isub, []), (80, 2, .istore 8, []),
  (82, 1, .iconst (-1), []), (83, 2, .istore 9, []), (85, 1, .iconst 1, []), (86, 2, .istore 10, []), (88, 2, .iload 10, []), (90, 2, .bipush 60, []),
  (92, 3, .if_icmp .gt 74, []), (95, 2, .iload 10, []), (97, 2, .iload 5, []), (99, 3, .invokestatic 386, [0, 137, 2, 999]), (102, 2, .iload 7, []), (104, 3, .if_icmp .ne 19, []),
  (107, 2, .iload 10, []), (109, 2, .iload 6, []), (111, 3, .invokestatic 386, [0, 137, 2, 999]), (114, 2, .iload 8, []), (116, 3, .if_icmp .ne 7, []), (119, 1, .iconst 1, []),
  (120, 3, .goto 4, []), (123, 1, .iconst 0, []), (124, 2, .istore 11, []), (126, 2, .iload 11, []), (128, 3, .ifCond .eq 32, []), (131, 2, .iload 9, []),
  (133, 1, .iconst (-1), []), (134, 3, .if_icmp .eq 22, []), (137, 2, .iload 10, []), (139, 2, .iload 4, []), (141, 1, .isub, []), (142, 3, .invokestatic 389, [0, 254, 1, 999]),
  (145, 2, .iload 9, []), (147, 2, .iload 4, []), (149, 1, .isub, []), (150, 3, .invokestatic 389, [0, 254, 1, 999]), (153, 3, .if_icmp .ge 7, []), (156, 2, .iload 10, []),
  (158, 2, .istore 9, []), (160, 3, .iinc 10 1, []), (163, 3, .goto (-75), []), (166, 2, .iload 9, []), (168, 1, .ireturn, [])]
set_option maxRecDepth 20000 in
def k_X11_findHolders : List az_I := [
  (0, 1, .iconst 0, []), (1, 2, .istore 4, []), (3, 2, .iload 4, []), (5, 1, .aload_n 0, []), (6, 3, .getfield 23, [12, 3]), (9, 3, .invokevirtual 130, [0, 270, 1, 0]),
  (12, 3, .if_icmp .ge 41, []), (15, 2, .iload 4, []), (17, 1, .aload_n 0, []), (18, 3, .getfield 43, [12, 11]), (21, 1, .arraylength, []), (22, 3, .if_icmp .ge 31, []),
  (25, 1, .aload_n 0, []), (26, 3, .getfield 43, [12, 11]), (29, 2, .iload 4, []), (31, 1, .aload_n 0, []), (32, 3, .getfield 23, [12, 3]), (35, 2, .iload 4, []),
  (37, 3, .invokevirtual 143, [0, 272, 2, 0]), (40, 3, .checkcast 157, [11]), (43, 3, .getfield 222, [11, 2]), (46, 1, .iastore, []), (47, 3, .iinc 4 1, []), (50, 3, .goto (-47), []),
  (53, 1, .iconst 0, []), (54, 2, .istore 4, []), (56, 2, .iload 4, []), (58, 1, .aload_n 0, []), (59, 3, .getfield 26, [12, 4]), (62, 3, .invokevirtual 130, [0, 270, 1, 0]),
  (65, 3, .if_icmp .ge 113, []), (68, 1, .aload_n 0, []), (69, 3, .getfield 26, [12, 4]), (72, 2, .iload 4, []), (74, 3, .invokevirtual 143, [0, 272, 2, 0]), (77, 3, .checkcast 234, [1]),
  (80, 2, .astore 5, []), (82, 2, .aload 5, []), (84, 3, .getfield 392, [1, 3]), (87, 2, .istore 6, []), (89, 2, .iload 6, []), (91, 3, .ifCond .lt 32, []),
  (94, 2, .iload 6, []), (96, 1, .aload_n 0, []), (97, 3, .getfield 43, [12, 11]), (100, 1, .arraylength, []), (101, 3, .if_icmp .ge 22, []), (104, 1, .aload_n 0, []),
  (105, 3, .getfield 43, [12, 11]), (108, 2, .iload 6, []), (110, 1, .iaload, []), (111, 2, .aload 5, []), (113, 3, .getfield 395, [1, 0]), (116, 3, .if_icmp .ne 7, []),
  (119, 1, .iconst 1, []), (120, 3, .goto 4, []), (123, 1, .iconst 0, []), (124, 2, .istore 7, []), (126, 2, .iload 7, []), (128, 3, .ifCond .eq 44, []),
  (131, 2, .aload 5, []), (133, 3, .getfield 398, [1, 5]), (136, 1, .iload_n 3, []), (137, 3, .if_icmp .gt 35, []), (140, 2, .aload 5, []), (142, 1, .iload_n 1, []),
  (143, 1, .iload_n 2, []), (144, 3, .invokevirtual 401, [0, 2, 3, 1]), (147, 3, .ifCond .eq 25, []), (150, 2, .aload 5, []), (152, 1, .iload_n 1, []), (153, 1, .iload_n 3, []),
  (154, 3, .invokevirtual 404, [0, 3, 3, 1]), (157, 3, .ifCond .eq 15, []), (160, 1, .aload_n 0, []), (161, 3, .getfield 43, [12, 11]), (164, 2, .iload 6, []), (166, 2, .aload 5, []),
  (168, 3, .getfield 407, [1, 2]), (171, 1, .iastore, []), (172, 3, .iinc 4 1, []), (175, 3, .goto (-119), []), (178, 1, .return_, [])]
set_option maxRecDepth 20000 in
def k_X11_heldBy : List az_I := [
  (0, 1, .aload_n 0, []), (1, 1, .iload_n 2, []), (2, 1, .iload_n 3, []), (3, 2, .iload 4, []), (5, 3, .invokevirtual 242, [0, 146, 4, 12]), (8, 1, .iconst 0, []),
  (9, 2, .istore 5, []), (11, 1, .iconst 0, []), (12, 2, .istore 6, []), (14, 2, .iload 6, []), (16, 1, .aload_n 0, []), (17, 3, .getfield 23, [12, 3]),
  (20, 3, .invokevirtual 130, [0, 270, 1, 0]), (23, 3, .if_icmp .ge 39, []), (26, 2, .iload 6, []), (28, 1, .aload_n 0, []), (29, 3, .getfield 43, [12, 11]), (32, 1, .arraylength, []),
  (33, 3, .if_icmp .ge 29, []), (36, 1, .aload_n 0, []), (37, 3, .getfield 43, [12, 11]), (40, 2, .iload 6, []), (42, 1, .iaload, []), (43, 1, .iload_n 1, []),
  (44, 3, .if_icmp .ne 12, []), (47, 2, .iload 5, []), (49, 1, .iconst 1, []), (50, 2, .iload 6, []), (52, 1, .ishl, []), (53, 1, .ior, []),
  (54, 2, .istore 5, []), (56, 3, .iinc 6 1, []), (59, 3, .goto (-45), []), (62, 2, .iload 5, []), (64, 1, .ireturn, [])]
set_option maxRecDepth 20000 in
def k_X11_partsOnDay : List az_I := [
  (0, 1, .aload_n 0, []), (1, 3, .getfield 77, [12, 6]), (4, 1, .iload_n 2, []), (5, 1, .iload_n 3, []), (6, 3, .invokevirtual 245, [0, 37, 3, 6]), (9, 1, .lconst 0, []),
  (10, 2, .lstore 4, []), (12, 1, .iconst 0, []), (13, 2, .istore 6, []), (15, 2, .iload 6, []), (17, 2, .bipush 12, []), (19, 3, .if_icmp .ge 48, []),
  (22, 1, .aload_n 0, []), (23, 1, .iload_n 1, []), (24, 1, .iload_n 2, []), (25, 2, .iload 6, []), (27, 1, .iload_n 3, []), (28, 3, .invokevirtual 256, [0, 147, 5, 12]),
  (31, 2, .istore 7, []), (33, 2, .iload 7, []), (35, 3, .ifCond .eq 26, []), (38, 1, .aload_n 0, []), (39, 3, .getfield 77, [12, 6]), (42, 2, .iload 6, []),
  (44, 3, .invokevirtual 248, [0, 38, 2, 6]), (47, 2, .lload 4, []), (49, 1, .aload_n 0, []), (50, 3, .getfield 77, [12, 6]), (53, 2, .iload 7, []), (55, 3, .invokevirtual 410, [0, 44, 2, 6]),
  (58, 1, .ladd, []), (59, 2, .lstore 4, []), (61, 3, .iinc 6 1, []), (64, 3, .goto (-49), []), (67, 2, .lload 4, []), (69, 1, .lreturn, [])]
set_option maxRecDepth 20000 in
def k_X11_partsOverYear : List az_I := [
  (0, 1, .lconst 0, []), (1, 1, .lstore_n 3, []), (2, 1, .iconst 0, []), (3, 2, .istore 5, []), (5, 2, .iload 5, []), (7, 2, .bipush 12, []),
  (9, 3, .if_icmp .ge 28, []), (12, 1, .lload_n 3, []), (13, 1, .aload_n 0, []), (14, 1, .iload_n 1, []), (15, 1, .iload_n 2, []), (16, 2, .bipush 30, []),
  (18, 2, .iload 5, []), (20, 1, .imul, []), (21, 1, .iadd, []), (22, 1, .aload_n 0, []), (23, 3, .getfield 105, [12, 15]), (26, 3, .invokevirtual 268, [0, 148, 4, 12]),
  (29, 1, .ladd, []), (30, 1, .lstore_n 3, []), (31, 3, .iinc 5 1, []), (34, 3, .goto (-29), []), (37, 1, .lload_n 3, []), (38, 3, .ldc2_w 414, [30]),
  (41, 1, .lmul, []), (42, 1, .lreturn, [])]
set_option maxRecDepth 20000 in
def k_X11_chargeOf : List az_I := [
  (0, 1, .aload_n 0, []), (1, 3, .getfield 77, [12, 6]), (4, 1, .iload_n 1, []), (5, 3, .invokevirtual 252, [0, 42, 2, 6]), (8, 2, .istore 5, []), (10, 1, .aload_n 0, []),
  (11, 3, .getfield 39, [12, 10]), (14, 1, .iconst 0, []), (15, 1, .iload_n 2, []), (16, 1, .iastore, []), (17, 1, .aload_n 0, []), (18, 3, .getfield 39, [12, 10]),
  (21, 1, .iconst 1, []), (22, 1, .aload_n 0, []), (23, 3, .getfield 77, [12, 6]), (26, 3, .getfield 416, [6, 6]), (29, 3, .invokestatic 419, [0, 136, 1, 999]), (32, 1, .iastore, []),
  (33, 1, .aload_n 0, []), (34, 3, .getfield 39, [12, 10]), (37, 1, .iconst 2, []), (38, 1, .aload_n 0, []), (39, 3, .getfield 77, [12, 6]), (42, 3, .getfield 416, [6, 6]),
  (45, 1, .iastore, []), (46, 1, .aload_n 0, []), (47, 3, .getfield 39, [12, 10]), (50, 1, .iconst 4, []), (51, 2, .iload 5, []), (53, 3, .invokestatic 422, [0, 252, 1, 999]),
  (56, 1, .iastore, []), (57, 1, .aload_n 0, []), (58, 3, .getfield 39, [12, 10]), (61, 2, .bipush 7, []), (63, 1, .iload_n 3, []), (64, 1, .iastore, []),
  (65, 1, .lconst 0, []), (66, 2, .lstore 6, []), (68, 1, .iconst 0, []), (69, 2, .istore 8, []), (71, 2, .iload 8, []), (73, 1, .aload_n 0, []),
  (74, 3, .getfield 23, [12, 3]), (77, 3, .invokevirtual 130, [0, 270, 1, 0]), (80, 3, .if_icmp .ge 93, []), (83, 2, .iload 5, []), (85, 3, .ifCond .eq 88, []), (88, 2, .iload 5, []),
  (90, 2, .iload 4, []), (92, 1, .iand, []), (93, 1, .iconst 1, []), (94, 2, .iload 8, []), (96, 1, .ishl, []), (97, 1, .iand, []),
  (98, 3, .ifCond .eq 69, []), (101, 1, .aload_n 0, []), (102, 3, .getfield 39, [12, 10]), (105, 1, .iconst 3, []), (106, 1, .aload_n 0, []), (107, 3, .getfield 77, [12, 6]),
  (110, 2, .iload 8, []), (112, 3, .invokevirtual 427, [0, 40, 2, 6]), (115, 1, .iastore, []), (116, 1, .aload_n 0, []), (117, 3, .getfield 39, [12, 10]), (120, 1, .iconst 5, []),
  (121, 1, .aload_n 0, []), (122, 3, .getfield 23, [12, 3]), (125, 2, .iload 8, []), (127, 3, .invokevirtual 143, [0, 272, 2, 0]), (130, 3, .checkcast 157, [11]), (133, 3, .getfield 216, [11, 0]),
  (136, 1, .iastore, []), (137, 1, .aload_n 0, []), (138, 3, .getfield 39, [12, 10]), (141, 2, .bipush 6, []), (143, 2, .iload 8, []), (145, 1, .iastore, []),
  (146, 2, .lload 6, []), (148, 1, .iconst 0, []), (149, 1, .aload_n 0, []), (150, 3, .getfield 49, [12, 13]), (153, 1, .aload_n 0, []), (154, 3, .getfield 39, [12, 10]),
  (157, 3, .invokevirtual 296, [0, 80, 2, 10]), (160, 3, .invokestatic 430, [0, 255, 2, 999]), (163, 1, .i2l, []), (164, 1, .ladd, []), (165, 2, .lstore 6, []), (167, 3, .iinc 8 1, []),
  (170, 3, .goto (-99), []), (173, 2, .lload 6, []), (175, 1, .lreturn, [])]
set_option maxRecDepth 20000 in
def k_X11_mayTake : List az_I := [
  (0, 1, .aload_n 0, []), (1, 3, .getfield 68, [12, 0]), (4, 1, .iload_n 3, []), (5, 3, .invokevirtual 203, [0, 5, 2, 2]), (8, 3, .ifCond .eq 11, []), (11, 1, .aload_n 0, []),
  (12, 1, .iload_n 1, []), (13, 3, .invokevirtual 303, [0, 140, 2, 12]), (16, 3, .ifCond .ne 5, []), (19, 1, .iconst 0, []), (20, 1, .ireturn, []), (21, 1, .aload_n 0, []),
  (22, 3, .getfield 29, [12, 5]), (25, 1, .iload_n 1, []), (26, 3, .invokevirtual 143, [0, 272, 2, 0]), (29, 3, .checkcast 300, [8]), (32, 2, .astore 4, []), (34, 2, .aload 4, []),
  (36, 3, .getfield 365, [8, 1]), (39, 1, .aload_n 0, []), (40, 3, .getfield 105, [12, 15]), (43, 3, .if_icmp .lt 13, []), (46, 1, .aload_n 0, []), (47, 1, .iload_n 3, []),
  (48, 3, .invokevirtual 371, [0, 142, 2, 12]), (51, 3, .ifCond .eq 5, []), (54, 1, .iconst 0, []), (55, 1, .ireturn, []), (56, 1, .iconst 0, []), (57, 2, .istore 5, []),
  (59, 2, .iload 5, []), (61, 1, .aload_n 0, []), (62, 3, .getfield 29, [12, 5]), (65, 3, .invokevirtual 130, [0, 270, 1, 0]), (68, 3, .if_icmp .ge 67, []), (71, 1, .aload_n 0, []),
  (72, 3, .getfield 29, [12, 5]), (75, 2, .iload 5, []), (77, 3, .invokevirtual 143, [0, 272, 2, 0]), (80, 3, .checkcast 300, [8]), (83, 2, .astore 6, []), (85, 2, .iload 5, []),
  (87, 1, .iload_n 1, []), (88, 3, .if_icmp .eq 41, []), (91, 2, .aload 6, []), (93, 1, .iload_n 2, []), (94, 3, .invokevirtual 312, [0, 55, 2, 8]), (97, 1, .iload_n 3, []),
  (98, 3, .if_icmp .ne 31, []), (101, 2, .aload 6, []), (103, 3, .getfield 433, [8, 0]), (106, 2, .aload 4, []), (108, 3, .getfield 365, [8, 1]), (111, 3, .if_icmp .gt 18, []),
  (114, 2, .aload 4, []), (116, 3, .getfield 433, [8, 0]), (119, 2, .aload 6, []), (121, 3, .getfield 365, [8, 1]), (124, 3, .if_icmp .gt 5, []), (127, 1, .iconst 0, []),
  (128, 1, .ireturn, []), (129, 3, .iinc 5 1, []), (132, 3, .goto (-73), []), (135, 1, .iconst 1, []), (136, 1, .ireturn, [])]
set_option maxRecDepth 20000 in
def k_X11_leadThroughHour : List az_I := [
  (0, 1, .iconst 0, []), (1, 2, .istore 5, []), (3, 2, .iload 5, []), (5, 1, .aload_n 0, []), (6, 3, .getfield 68, [12, 0]), (9, 3, .getfield 99, [2, 2]),
  (12, 3, .if_icmp .ge 108, []), (15, 1, .aload_n 0, []), (16, 3, .getfield 68, [12, 0]), (19, 1, .iload_n 2, []), (20, 2, .iload 5, []), (22, 3, .invokevirtual 434, [0, 9, 3, 2]),
  (25, 1, .iload_n 3, []), (26, 3, .if_icmp .gt 88, []), (29, 1, .aload_n 0, []), (30, 2, .iload 5, []), (32, 1, .iload_n 1, []), (33, 3, .invokevirtual 437, [0, 153, 3, 12]),
  (36, 3, .ifCond .eq 78, []), (39, 2, .iload 4, []), (41, 3, .ifCond .eq 8, []), (44, 2, .iload 5, []), (46, 3, .goto 12, []), (49, 1, .aload_n 0, []),
  (50, 3, .getfield 86, [12, 9]), (53, 2, .iload 5, []), (55, 3, .invokevirtual 440, [0, 30, 2, 5]), (58, 2, .istore 6, []), (60, 1, .aload_n 0, []), (61, 3, .getfield 86, [12, 9]),
  (64, 2, .iload 6, []), (66, 3, .invokevirtual 443, [0, 29, 2, 5]), (69, 3, .ifCond .eq 45, []), (72, 1, .aload_n 0, []), (73, 3, .getfield 77, [12, 6]), (76, 2, .iload 5, []),
  (78, 3, .invokevirtual 252, [0, 42, 2, 6]), (81, 3, .ifCond .ne 7, []), (84, 1, .iconst 1, []), (85, 3, .goto 4, []), (88, 1, .iconst 0, []), (89, 2, .istore 7, []),
  (91, 1, .aload_n 0, []), (92, 3, .getfield 86, [12, 9]), (95, 1, .iload_n 1, []), (96, 2, .iload 5, []), (98, 2, .iload 6, []), (100, 2, .iload 7, []),
  (102, 1, .aload_n 0, []), (103, 2, .iload 5, []), (105, 1, .iload_n 1, []), (106, 1, .iconst (-1), []), (107, 1, .iconst (-1), []), (108, 3, .invokevirtual 320, [0, 150, 5, 12]),
  (111, 3, .invokevirtual 446, [0, 32, 6, 5]), (114, 3, .iinc 5 1, []), (117, 3, .goto (-114), []), (120, 1, .return_, [])]
set_option maxRecDepth 20000 in
def k_X11_mayWalk : List az_I := [
  (0, 1, .iconst 0, []), (1, 1, .istore_n 3, []), (2, 1, .iload_n 3, []), (3, 1, .aload_n 0, []), (4, 3, .getfield 29, [12, 5]), (7, 3, .invokevirtual 130, [0, 270, 1, 0]),
  (10, 3, .if_icmp .ge 49, []), (13, 1, .aload_n 0, []), (14, 3, .getfield 29, [12, 5]), (17, 1, .iload_n 3, []), (18, 3, .invokevirtual 143, [0, 272, 2, 0]), (21, 3, .checkcast 300, [8]),
  (24, 2, .astore 4, []), (26, 2, .aload 4, []), (28, 1, .aload_n 0, []), (29, 3, .getfield 77, [12, 6]), (32, 3, .getfield 416, [6, 6]), (35, 3, .invokevirtual 315, [0, 53, 2, 8]),
  (38, 3, .ifCond .eq 15, []), (41, 2, .aload 4, []), (43, 1, .iload_n 2, []), (44, 3, .invokevirtual 312, [0, 55, 2, 8]), (47, 1, .iload_n 1, []), (48, 3, .if_icmp .ne 5, []),
  (51, 1, .iconst 0, []), (52, 1, .ireturn, []), (53, 3, .iinc 3 1, []), (56, 3, .goto (-54), []), (59, 1, .aload_n 0, []), (60, 3, .getfield 77, [12, 6]),
  (63, 1, .iload_n 1, []), (64, 3, .invokevirtual 450, [0, 41, 2, 6]), (67, 1, .ireturn, [])]
set_option maxRecDepth 20000 in
def k_X11_bestTree : List az_I := [
  (0, 1, .iload_n 1, []), (1, 3, .invokestatic 120, [0, 130, 1, 999]), (4, 3, .ifCond .eq 15, []), (7, 1, .iload_n 2, []), (8, 1, .iconst 1, []), (9, 3, .if_icmp .lt 10, []),
  (12, 1, .iload_n 2, []), (13, 3, .invokestatic 177, [0, 133, 1, 999]), (16, 3, .ifCond .ne 5, []), (19, 1, .iconst (-1), []), (20, 1, .ireturn, []), (21, 1, .aload_n 0, []),
  (22, 3, .getfield 77, [12, 6]), (25, 1, .iload_n 1, []), (26, 1, .aload_n 0, []), (27, 3, .getfield 105, [12, 15]), (30, 3, .invokevirtual 245, [0, 37, 3, 6]), (33, 1, .iconst 0, []),
  (34, 1, .istore_n 3, []), (35, 1, .iload_n 3, []), (36, 1, .aload_n 0, []), (37, 3, .getfield 102, [12, 12]), (40, 1, .arraylength, []), (41, 3, .if_icmp .ge 40, []),
  (44, 1, .aload_n 0, []), (45, 3, .getfield 102, [12, 12]), (48, 1, .iload_n 3, []), (49, 1, .aload_n 0, []), (50, 3, .getfield 77, [12, 6]), (53, 1, .iload_n 3, []),
  (54, 3, .invokevirtual 450, [0, 41, 2, 6]), (57, 3, .ifCond .eq 16, []), (60, 1, .aload_n 0, []), (61, 1, .iload_n 3, []), (62, 1, .iload_n 1, []), (63, 3, .invokevirtual 453, [0, 155, 3, 12]),
  (66, 3, .ifCond .ne 7, []), (69, 1, .iconst 0, []), (70, 3, .goto 4, []), (73, 1, .iconst (-1), []), (74, 1, .iastore, []), (75, 3, .iinc 3 1, []),
  (78, 3, .goto (-43), []), (81, 1, .iconst 0, []), (82, 1, .istore_n 3, []), (83, 1, .iload_n 3, []), (84, 2, .bipush 12, []), (86, 3, .if_icmp .ge 35, []),
  (89, 1, .aload_n 0, []), (90, 3, .getfield 10, [12, 1]), (93, 1, .iload_n 1, []), (94, 1, .iload_n 3, []), (95, 3, .invokevirtual 123, [0, 50, 3, 7]), (98, 3, .ifCond .ne 17, []),
  (101, 1, .aload_n 0, []), (102, 3, .getfield 77, [12, 6]), (105, 1, .iload_n 3, []), (106, 3, .invokevirtual 248, [0, 38, 2, 6]), (109, 1, .aload_n 0, []), (110, 1, .iload_n 3, []),
  (111, 1, .iload_n 2, []), (112, 3, .invokevirtual 456, [0, 156, 3, 12]), (115, 3, .iinc 3 1, []), (118, 3, .goto (-35), []), (121, 1, .iconst (-1), []), (122, 1, .istore_n 3, []),
  (123, 1, .iconst (-1), []), (124, 2, .istore 4, []), (126, 1, .iconst 0, []), (127, 2, .istore 5, []), (129, 2, .iload 5, []), (131, 1, .aload_n 0, []),
  (132, 3, .getfield 102, [12, 12]), (135, 1, .arraylength, []), (136, 3, .if_icmp .ge 33, []), (139, 1, .aload_n 0, []), (140, 3, .getfield 102, [12, 12]), (143, 2, .iload 5, []),
  (145, 1, .iaload, []), (146, 2, .iload 4, []), (148, 3, .if_icmp .le 15, []), (151, 2, .iload 5, []), (153, 1, .istore_n 3, []), (154, 1, .aload_n 0, []),
  (155, 3, .getfield 102, [12, 12]), (158, 2, .iload 5, []), (160, 1, .iaload, []), (161, 2, .istore 4, []), (163, 3, .iinc 5 1, []), (166, 3, .goto (-37), []),
  (169, 1, .iload_n 3, []), (170, 1, .ireturn, [])]
set_option maxRecDepth 20000 in
def k_X11_hasStall : List az_I := [
  (0, 1, .iconst 0, []), (1, 1, .istore_n 3, []), (2, 1, .iload_n 3, []), (3, 1, .aload_n 0, []), (4, 3, .getfield 29, [12, 5]), (7, 3, .invokevirtual 130, [0, 270, 1, 0]),
  (10, 3, .if_icmp .ge 42, []), (13, 1, .aload_n 0, []), (14, 3, .getfield 29, [12, 5]), (17, 1, .iload_n 3, []), (18, 3, .invokevirtual 143, [0, 272, 2, 0]), (21, 3, .checkcast 300, [8]),
  (24, 2, .astore 4, []), (26, 2, .aload 4, []), (28, 1, .iload_n 2, []), (29, 3, .invokevirtual 315, [0, 53, 2, 8]), (32, 3, .ifCond .eq 14, []), (35, 2, .aload 4, []),
  (37, 1, .iload_n 1, []), (38, 3, .invokevirtual 368, [0, 56, 2, 8]), (41, 3, .ifCond .eq 5, []), (44, 1, .iconst 1, []), (45, 1, .ireturn, []), (46, 3, .iinc 3 1, []),
  (49, 3, .goto (-47), []), (52, 1, .iconst 0, []), (53, 1, .ireturn, [])]
set_option maxRecDepth 20000 in
def k_X11_serveHour : List az_I := [
  (0, 1, .iconst 0, []), (1, 1, .istore_n 3, []), (2, 1, .iload_n 3, []), (3, 1, .aload_n 0, []), (4, 3, .getfield 29, [12, 5]), (7, 3, .invokevirtual 130, [0, 270, 1, 0]),
  (10, 3, .if_icmp .ge 77, []), (13, 1, .aload_n 0, []), (14, 3, .getfield 29, [12, 5]), (17, 1, .iload_n 3, []), (18, 3, .invokevirtual 143, [0, 272, 2, 0]), (21, 3, .checkcast 300, [8]),
  (24, 2, .astore 4, []), (26, 2, .aload 4, []), (28, 1, .iload_n 1, []), (29, 3, .invokevirtual 312, [0, 55, 2, 8]), (32, 2, .istore 5, []), (34, 2, .aload 4, []),
  (36, 1, .aload_n 0, []), (37, 3, .getfield 77, [12, 6]), (40, 3, .getfield 416, [6, 6]), (43, 3, .invokevirtual 315, [0, 53, 2, 8]), (46, 3, .ifCond .eq 35, []), (49, 1, .aload_n 0, []),
  (50, 3, .getfield 77, [12, 6]), (53, 2, .iload 5, []), (55, 3, .invokevirtual 450, [0, 41, 2, 6]), (58, 3, .ifCond .eq 23, []), (61, 1, .aload_n 0, []), (62, 3, .getfield 77, [12, 6]),
  (65, 2, .iload 5, []), (67, 3, .invokevirtual 252, [0, 42, 2, 6]), (70, 3, .ifCond .ne 11, []), (73, 1, .aload_n 0, []), (74, 2, .iload 5, []), (76, 1, .iload_n 1, []),
  (77, 1, .iload_n 2, []), (78, 3, .invokevirtual 459, [0, 157, 4, 12]), (81, 3, .iinc 3 1, []), (84, 3, .goto (-82), []), (87, 1, .return_, [])]
set_option maxRecDepth 20000 in
def k_X11_servePlace : List az_I := [
  (0, 1, .aload_n 0, []), (1, 3, .getfield 10, [12, 1]), (4, 1, .aload_n 0, []), (5, 3, .getfield 77, [12, 6]), (8, 3, .getfield 416, [6, 6]), (11, 1, .iload_n 2, []),
  (12, 3, .invokevirtual 374, [0, 48, 3, 7]), (15, 2, .istore 4, []), (17, 1, .aload_n 0, []), (18, 3, .getfield 10, [12, 1]), (21, 1, .aload_n 0, []), (22, 3, .getfield 77, [12, 6]),
  (25, 3, .getfield 416, [6, 6]), (28, 1, .iload_n 2, []), (29, 3, .invokevirtual 377, [0, 49, 3, 7]), (32, 2, .istore 5, []), (34, 1, .aload_n 0, []), (35, 3, .getfield 68, [12, 0]),
  (38, 1, .iload_n 1, []), (39, 3, .invokevirtual 380, [0, 6, 2, 2]), (42, 2, .istore 6, []), (44, 1, .aload_n 0, []), (45, 3, .getfield 68, [12, 0]), (48, 1, .iload_n 1, []),
  (49, 3, .invokevirtual 383, [0, 7, 2, 2]), (52, 2, .istore 7, []), (54, 1, .iload_n 1, []), (55, 2, .istore 8, []), (57, 1, .iconst 1, []), (58, 2, .istore 9, []),
  (60, 2, .iload 9, []), (62, 1, .iload_n 3, []), (63, 3, .if_icmp .gt 104, []), (66, 2, .iload 8, []), (68, 1, .iconst (-1), []), (69, 3, .if_icmp .eq 98, []),
  (72, 1, .aload_n 0, []), (73, 3, .getfield 68, [12, 0]), (76, 2, .iload 6, []), (78, 2, .iload 9, []), (80, 2, .iload 4, []), (82, 3, .invokestatic 386, [0, 137, 2, 999]),
  (85, 1, .isub, []), (86, 2, .iload 7, []), (88, 2, .iload 9, []), (90, 2, .iload 5, []), (92, 3, .invokestatic 386, [0, 137, 2, 999]), (95, 1, .isub, []),
  (96, 3, .invokevirtual 462, [0, 8, 3, 2]), (99, 2, .istore 10, []), (101, 2, .iload 10, []), (103, 2, .iload 8, []), (105, 3, .if_icmp .eq 22, []), (108, 2, .iload 10, []),
  (110, 3, .ifCond .lt 17, []), (113, 2, .iload 10, []), (115, 1, .aload_n 0, []), (116, 3, .getfield 102, [12, 12]), (119, 1, .arraylength, []), (120, 3, .if_icmp .ge 7, []),
  (123, 1, .iconst 1, []), (124, 3, .goto 4, []), (127, 1, .iconst 0, []), (128, 2, .istore 11, []), (130, 2, .iload 11, []), (132, 3, .ifCond .eq 25, []),
  (135, 1, .aload_n 0, []), (136, 3, .getfield 102, [12, 12]), (139, 2, .iload 10, []), (141, 1, .iaload, []), (142, 1, .iconst (-1), []), (143, 3, .if_icmp .eq 14, []),
  (146, 1, .aload_n 0, []), (147, 3, .getfield 102, [12, 12]), (150, 2, .iload 10, []), (152, 1, .dup2, []), (153, 1, .iaload, []), (154, 1, .iconst 1, []),
  (155, 1, .iadd, []), (156, 1, .iastore, []), (157, 2, .iload 10, []), (159, 2, .istore 8, []), (161, 3, .iinc 9 1, []), (164, 3, .goto (-104), []),
  (167, 1, .return_, [])]
set_option maxRecDepth 20000 in
def k_X12_init : List az_I := [
  (0, 1, .aload_n 0, []), (1, 3, .invokespecial 1, [1, 2, 3]), (4, 1, .aload_n 0, []), (5, 3, .sipush 144, []), (8, 2, .newarray .int, []), (10, 3, .putfield 7, [13, 4]),
  (13, 1, .aload_n 0, []), (14, 3, .sipush 144, []), (17, 2, .newarray .int, []), (19, 3, .putfield 13, [13, 5]), (22, 1, .aload_n 0, []), (23, 2, .bipush 60, []),
  (25, 2, .newarray .int, []), (27, 3, .putfield 16, [13, 7]), (30, 1, .aload_n 0, []), (31, 2, .bipush 60, []), (33, 2, .newarray .int, []), (35, 3, .putfield 19, [13, 8]),
  (38, 1, .aload_n 0, []), (39, 2, .bipush 16, []), (41, 2, .newarray .int, []), (43, 3, .putfield 22, [13, 10]), (46, 1, .aload_n 0, []), (47, 2, .bipush 16, []),
  (49, 2, .newarray .int, []), (51, 3, .putfield 25, [13, 11]), (54, 1, .aload_n 0, []), (55, 2, .bipush 24, []), (57, 2, .newarray .int, []), (59, 3, .putfield 28, [13, 13]),
  (62, 1, .aload_n 0, []), (63, 2, .bipush 24, []), (65, 2, .newarray .int, []), (67, 3, .putfield 31, [13, 14]), (70, 1, .aload_n 0, []), (71, 2, .bipush 24, []),
  (73, 2, .newarray .int, []), (75, 3, .putfield 34, [13, 15]), (78, 1, .aload_n 0, []), (79, 2, .bipush 24, []), (81, 2, .newarray .int, []), (83, 3, .putfield 37, [13, 16]),
  (86, 1, .aload_n 0, []), (87, 2, .bipush 24, []), (89, 2, .newarray .int, []), (91, 3, .putfield 40, [13, 17]), (94, 1, .aload_n 0, []), (95, 2, .bipush 24, []),
  (97, 2, .newarray .int, []), (99, 3, .putfield 43, [13, 18]), (102, 1, .aload_n 0, []), (103, 2, .bipush 24, []), (105, 2, .newarray .int, []), (107, 3, .putfield 46, [13, 19]),
  (110, 1, .aload_n 0, []), (111, 2, .bipush 24, []), (113, 2, .newarray .int, []), (115, 3, .putfield 49, [13, 20]), (118, 1, .aload_n 0, []), (119, 3, .sipush 984, []),
  (122, 2, .newarray .int, []), (124, 3, .putfield 52, [13, 21]), (127, 1, .aload_n 0, []), (128, 3, .sipush 984, []), (131, 2, .newarray .int, []), (133, 3, .putfield 55, [13, 22]),
  (136, 1, .aload_n 0, []), (137, 3, .sipush 984, []), (140, 2, .newarray .int, []), (142, 3, .putfield 58, [13, 23]), (145, 1, .aload_n 0, []), (146, 2, .bipush 24, []),
  (148, 2, .newarray .int, []), (150, 3, .putfield 61, [13, 24]), (153, 1, .aload_n 0, []), (154, 2, .bipush 24, []), (156, 2, .newarray .int, []), (158, 3, .putfield 64, [13, 25]),
  (161, 1, .aload_n 0, []), (162, 2, .bipush 24, []), (164, 2, .newarray .int, []), (166, 3, .putfield 67, [13, 26]), (169, 1, .aload_n 0, []), (170, 2, .bipush 60, []),
  (172, 2, .newarray .int, []), (174, 3, .putfield 70, [13, 28]), (177, 1, .aload_n 0, []), (178, 2, .bipush 60, []), (180, 2, .newarray .int, []), (182, 3, .putfield 73, [13, 29]),
  (185, 1, .aload_n 0, []), (186, 2, .bipush 60, []), (188, 2, .newarray .int, []), (190, 3, .putfield 76, [13, 30]), (193, 1, .aload_n 0, []), (194, 2, .bipush 60, []),
  (196, 2, .newarray .int, []), (198, 3, .putfield 79, [13, 31]), (201, 1, .aload_n 0, []), (202, 2, .bipush 60, []), (204, 2, .newarray .int, []), (206, 3, .putfield 82, [13, 32]),
  (209, 1, .aload_n 0, []), (210, 2, .bipush 60, []), (212, 2, .newarray .int, []), (214, 3, .putfield 85, [13, 33]), (217, 1, .aload_n 0, []), (218, 2, .bipush 60, []),
  (220, 2, .newarray .int, []), (222, 3, .putfield 88, [13, 34]), (225, 1, .aload_n 0, []), (226, 2, .bipush 60, []), (228, 2, .newarray .int, []), (230, 3, .putfield 91, [13, 35]),
  (233, 1, .aload_n 0, []), (234, 2, .bipush 60, []), (236, 2, .newarray .int, []), (238, 3, .putfield 94, [13, 36]), (241, 1, .aload_n 0, []), (242, 2, .bipush 60, []),
  (244, 2, .newarray .int, []), (246, 3, .putfield 97, [13, 37]), (249, 1, .aload_n 0, []), (250, 2, .bipush 60, []), (252, 2, .newarray .int, []), (254, 3, .putfield 100, [13, 38]),
  (257, 1, .aload_n 0, []), (258, 3, .sipush 400, []), (261, 2, .newarray .byte, []), (263, 3, .putfield 103, [13, 39]), (266, 1, .aload_n 0, []), (267, 1, .iconst (-1), []),
  (268, 3, .putfield 107, [13, 48]), (271, 1, .aload_n 0, []), (272, 1, .iconst (-1), []), (273, 3, .putfield 111, [13, 49]), (276, 1, .aload_n 0, []), (277, 3, .sipush 900, []),
  (280, 2, .newarray .int, []), (282, 3, .putfield 114, [13, 52]), (285, 1, .aload_n 0, []), (286, 3, .sipush 900, []), (289, 2, .newarray .int, []), (291, 3, .putfield 117, [13, 53]),
  (294, 1, .aload_n 0, []), (295, 3, .sipush 900, []), (298, 2, .newarray .int, []), (300, 3, .putfield 120, [13, 56]), (303, 1, .aload_n 0, []), (304, 3, .sipush 900, []),
  (307, 2, .newarray .int, []), (309, 3, .putfield 123, [13, 57]), (312, 1, .aload_n 0, []), (313, 2, .bipush 64, []), (315, 2, .newarray .int, []), (317, 3, .putfield 126, [13, 59]),
  (320, 1, .aload_n 0, []), (321, 3, .sipush 128, []), (324, 2, .newarray .int, []), (326, 3, .putfield 129, [13, 61]), (329, 1, .aload_n 0, []), (330, 3, .sipush 128, []),
  (333, 2, .newarray .int, []), (335, 3, .putfield 132, [13, 62]), (338, 1, .aload_n 0, []), (339, 3, .sipush 300, []), (342, 2, .newarray .long, []), (344, 3, .putfield 135, [13, 64]),
  (347, 1, .aload_n 0, []), (348, 2, .bipush 8, []), (350, 2, .newarray .int, []), (352, 3, .putfield 139, [13, 65]), (355, 1, .aload_n 0, []), (356, 2, .bipush 10, []),
  (358, 2, .newarray .int, []), (360, 3, .putfield 142, [13, 67]), (363, 1, .aload_n 0, []), (364, 2, .bipush 10, []), (366, 2, .newarray .int, []), (368, 3, .putfield 145, [13, 68]),
  (371, 1, .aload_n 0, []), (372, 2, .bipush 10, []), (374, 2, .newarray .int, []), (376, 3, .putfield 148, [13, 69]), (379, 1, .aload_n 0, []), (380, 2, .bipush 120, []),
  (382, 2, .newarray .int, []), (384, 3, .putfield 151, [13, 70]), (387, 1, .aload_n 0, []), (388, 3, .sipush 192, []), (391, 2, .newarray .boolean, []), (393, 3, .putfield 154, [13, 71]),
  (396, 1, .aload_n 0, []), (397, 3, .sipush 192, []), (400, 2, .newarray .int, []), (402, 3, .putfield 158, [13, 72]), (405, 1, .aload_n 0, []), (406, 3, .sipush 192, []),
  (409, 2, .newarray .int, []), (411, 3, .putfield 161, [13, 73]), (414, 1, .aload_n 0, []), (415, 3, .sipush 192, []), (418, 2, .newarray .boolean, []), (420, 3, .putfield 164, [13, 74]),
  (423, 1, .aload_n 0, []), (424, 2, .bipush 24, []), (426, 2, .newarray .int, []), (428, 3, .putfield 167, [13, 75]), (431, 1, .aload_n 0, []), (432, 2, .bipush 24, []),
  (434, 2, .newarray .int, []), (436, 3, .putfield 170, [13, 76]), (439, 1, .aload_n 0, []), (440, 2, .bipush 65, []), (442, 2, .newarray .int, []), (444, 3, .putfield 173, [13, 77]),
  (447, 1, .aload_n 0, []), (448, 2, .bipush 65, []), (450, 2, .newarray .int, []), (452, 3, .putfield 176, [13, 79]), (455, 1, .aload_n 0, []), (456, 3, .sipush 2304, []),
  (459, 2, .newarray .boolean, []), (461, 3, .putfield 179, [13, 80]), (464, 1, .aload_n 0, []), (465, 3, .sipush 2304, []), (468, 2, .newarray .int, []), (470, 3, .putfield 182, [13, 81]),
  (473, 1, .aload_n 0, []), (474, 3, .sipush 2304, []), (477, 2, .newarray .long, []), (479, 3, .putfield 185, [13, 82]), (482, 1, .aload_n 0, []), (483, 3, .sipush 2304, []),
  (486, 2, .newarray .int, []), (488, 3, .putfield 188, [13, 83]), (491, 1, .aload_n 0, []), (492, 3, .sipush 2304, []), (495, 2, .newarray .long, []), (497, 3, .putfield 191, [13, 84]),
  (500, 1, .aload_n 0, []), (501, 2, .bipush 12, []), (503, 2, .newarray .int, []), (505, 3, .putfield 194, [13, 87]), (508, 1, .aload_n 0, []), (509, 3, .sipush 192, []),
  (512, 2, .newarray .int, []), (514, 3, .putfield 197, [13, 89]), (517, 1, .aload_n 0, []), (518, 1, .iload_n 1, []), (519, 1, .iconst 4, []), (520, 3, .if_icmp .ge 7, []),
  (523, 1, .iconst 4, []), (524, 3, .goto 15, []), (527, 1, .iload_n 1, []), (528, 2, .bipush 16, []), (530, 3, .if_icmp .le 8, []), (533, 2, .bipush 16, []),
  (535, 3, .goto 4, []), (538, 1, .iload_n 1, []), (539, 3, .putfield 200, [13, 0]), (542, 1, .aload_n 0, []), (543, 1, .iload_n 2, []), (544, 1, .iconst 4, []),
  (545, 3, .if_icmp .ge 7, []), (548, 1, .iconst 4, []), (549, 3, .goto 15, []), (552, 1, .iload_n 2, []), (553, 2, .bipush 12, []), (555, 3, .if_icmp .le 8, []),
  (558, 2, .bipush 12, []), (560, 3, .goto 4, []), (563, 1, .iload_n 2, []), (564, 3, .putfield 203, [13, 1]), (567, 1, .aload_n 0, []), (568, 1, .aload_n 0, []),
  (569, 3, .getfield 200, [13, 0]), (572, 1, .aload_n 0, []), (573, 3, .getfield 203, [13, 1]), (576, 1, .imul, []), (577, 3, .putfield 206, [13, 2]), (580, 1, .iconst 0, []),
  (581, 1, .istore_n 3, []), (582, 1, .iload_n 3, []), (583, 2, .bipush 12, []), (585, 3, .if_icmp .ge 81, []), (588, 1, .iconst 0, []), (589, 2, .istore 4, []),
  (591, 2, .iload 4, []), (593, 2, .bipush 12, []), (595, 3, .if_icmp .ge 65, []), (598, 1, .aload_n 0, []), (599, 3, .getfield 7, [13, 4]), (602, 2, .bipush 12, []),
  (604, 1, .iload_n 3, []), (605, 1, .imul, []), (606, 2, .iload 4, []), (608, 1, .iadd, []), (609, 2, .bipush 20, []), (611, 1, .iconst 2, []),
  (612, 2, .iload 4, []), (614, 1, .imul, []), (615, 2, .bipush 11, []), (617, 1, .isub, []), (618, 1, .imul, []), (619, 1, .iastore, []),
  (620, 1, .aload_n 0, []), (621, 3, .getfield 13, [13, 5]), (624, 2, .bipush 12, []), (626, 1, .iload_n 3, []), (627, 1, .imul, []), (628, 2, .iload 4, []),
  (630, 1, .iadd, []), (631, 2, .bipush 20, []), (633, 1, .iconst 5, []), (634, 1, .iload_n 3, []), (635, 2, .bipush 6, []), (637, 3, .if_icmp .ge 10, []),
  (640, 2, .bipush 6, []), (642, 1, .iload_n 3, []), (643, 1, .isub, []), (644, 3, .goto 7, []), (647, 1, .iload_n 3, []), (648, 2, .bipush 6, []),
  (650, 1, .isub, []), (651, 1, .imul, []), (652, 1, .iadd, []), (653, 1, .iastore, []), (654, 3, .iinc 4 1, []), (657, 3, .goto (-66), []),
  (660, 3, .iinc 3 1, []), (663, 3, .goto (-81), []), (666, 1, .return_, [])]
set_option maxRecDepth 20000 in
def k_X12_in : List az_I := [
  (0, 1, .lload_n 0, []), (1, 1, .lload_n 2, []), (2, 1, .lcmp, []), (3, 3, .ifCond .lt 14, []), (6, 1, .lload_n 0, []), (7, 2, .lload 4, []),
  (9, 1, .lcmp, []), (10, 3, .ifCond .gt 7, []), (13, 1, .iconst 1, []), (14, 3, .goto 4, []), (17, 1, .iconst 0, []), (18, 1, .ireturn, [])]
set_option maxRecDepth 20000 in
def k_X12_isDay : List az_I := [
  (0, 1, .iload_n 0, []), (1, 1, .i2l, []), (2, 1, .lconst 0, []), (3, 3, .ldc2_w 209, [3599]), (6, 3, .invokestatic 211, [0, 159, 3, 999]), (9, 1, .ireturn, [])]
set_option maxRecDepth 20000 in
def k_X12_isHour : List az_I := [
  (0, 1, .iload_n 0, []), (1, 1, .i2l, []), (2, 1, .lconst 0, []), (3, 3, .ldc2_w 215, [11]), (6, 3, .invokestatic 211, [0, 159, 3, 999]), (9, 1, .ireturn, [])]
set_option maxRecDepth 20000 in
def k_X12_isCell : List az_I := [
  (0, 1, .iload_n 1, []), (1, 1, .i2l, []), (2, 1, .lconst 0, []), (3, 1, .aload_n 0, []), (4, 3, .getfield 206, [13, 2]), (7, 1, .iconst 1, []),
  (8, 1, .isub, []), (9, 1, .i2l, []), (10, 3, .invokestatic 211, [0, 159, 3, 999]), (13, 1, .ireturn, [])]
set_option maxRecDepth 20000 in
def k_X12_isPerson : List az_I := [
  (0, 1, .iload_n 1, []), (1, 1, .i2l, []), (2, 1, .lconst 0, []), (3, 1, .aload_n 0, []), (4, 3, .getfield 217, [13, 9]), (7, 1, .iconst 1, []),
  (8, 1, .isub, []), (9, 1, .i2l, []), (10, 3, .invokestatic 211, [0, 159, 3, 999]), (13, 1, .ireturn, [])]
set_option maxRecDepth 20000 in
def k_X12_isThing : List az_I := [
  (0, 1, .iload_n 1, []), (1, 1, .i2l, []), (2, 1, .lconst 0, []), (3, 1, .aload_n 0, []), (4, 3, .getfield 220, [13, 12]), (7, 1, .iconst 1, []),
  (8, 1, .isub, []), (9, 1, .i2l, []), (10, 3, .invokestatic 211, [0, 159, 3, 999]), (13, 1, .ireturn, [])]
set_option maxRecDepth 20000 in
def k_X12_monthOf : List az_I := [
  (0, 1, .iload_n 0, []), (1, 3, .sipush 360, []), (4, 1, .irem, []), (5, 2, .bipush 30, []), (7, 1, .idiv, []), (8, 1, .ireturn, [])]
set_option maxRecDepth 20000 in
def k_X12_days : List az_I := [
  (0, 1, .iload_n 1, []), (1, 1, .i2l, []), (2, 1, .lconst 1, []), (3, 3, .ldc2_w 223, [400]), (6, 3, .invokestatic 211, [0, 159, 3, 999]), (9, 3, .ifCond .eq 15, []),
  (12, 1, .aload_n 0, []), (13, 3, .getfield 225, [13, 3]), (16, 1, .iload_n 1, []), (17, 1, .iadd, []), (18, 3, .sipush 3599, []), (21, 3, .if_icmp .le 5, []),
  (24, 1, .iconst (-1), []), (25, 1, .ireturn, []), (26, 1, .aload_n 0, []), (27, 1, .dup, []), (28, 3, .getfield 225, [13, 3]), (31, 1, .iload_n 1, []),
  (32, 1, .iadd, []), (33, 3, .putfield 225, [13, 3]), (36, 1, .aload_n 0, []), (37, 3, .getfield 225, [13, 3]), (40, 1, .ireturn, [])]
set_option maxRecDepth 20000 in
def k_X12_sun : List az_I := [
  (0, 1, .iload_n 1, []), (1, 1, .i2l, []), (2, 1, .lconst 0, []), (3, 3, .ldc2_w 215, [11]), (6, 3, .invokestatic 211, [0, 159, 3, 999]), (9, 3, .ifCond .eq 39, []),
  (12, 1, .iload_n 2, []), (13, 3, .invokestatic 228, [0, 161, 1, 999]), (16, 3, .ifCond .eq 32, []), (19, 1, .iload_n 3, []), (20, 1, .i2l, []), (21, 3, .ldc2_w 232, [18446744073709551316]),
  (24, 3, .ldc2_w 234, [300]), (27, 3, .invokestatic 211, [0, 159, 3, 999]), (30, 3, .ifCond .eq 18, []), (33, 2, .iload 4, []), (35, 1, .i2l, []), (36, 3, .ldc2_w 232, [18446744073709551316]),
  (39, 3, .ldc2_w 234, [300]), (42, 3, .invokestatic 211, [0, 159, 3, 999]), (45, 3, .ifCond .ne 5, []), (48, 1, .iconst 0, []), (49, 1, .ireturn, []), (50, 1, .aload_n 0, []),
  (51, 3, .getfield 7, [13, 4]), (54, 2, .bipush 12, []), (56, 1, .iload_n 1, []), (57, 1, .imul, []), (58, 1, .iload_n 2, []), (59, 1, .iadd, []),
  (60, 1, .iload_n 3, []), (61, 1, .iastore, []), (62, 1, .aload_n 0, []), (63, 3, .getfield 13, [13, 5]), (66, 2, .bipush 12, []), (68, 1, .iload_n 1, []),
  (69, 1, .imul, []), (70, 1, .iload_n 2, []), (71, 1, .iadd, []), (72, 2, .iload 4, []), (74, 1, .iastore, []), (75, 1, .iconst 1, []),
  (76, 1, .ireturn, [])]
set_option maxRecDepth 20000 in
def k_X12_isCloud : List az_I := [
  (0, 1, .iconst 0, []), (1, 1, .istore_n 3, []), (2, 1, .iconst 0, []), (3, 2, .istore 4, []), (5, 2, .iload 4, []), (7, 1, .aload_n 0, []),
  (8, 3, .getfield 236, [13, 6]), (11, 3, .if_icmp .ge 41, []), (14, 1, .iload_n 3, []), (15, 3, .ifCond .ne 25, []), (18, 1, .aload_n 0, []), (19, 3, .getfield 16, [13, 7]),
  (22, 2, .iload 4, []), (24, 1, .iaload, []), (25, 1, .iload_n 1, []), (26, 3, .if_icmp .ne 18, []), (29, 1, .aload_n 0, []), (30, 3, .getfield 19, [13, 8]),
  (33, 2, .iload 4, []), (35, 1, .iaload, []), (36, 1, .iload_n 2, []), (37, 3, .if_icmp .ne 7, []), (40, 1, .iconst 1, []), (41, 3, .goto 4, []),
  (44, 1, .iconst 0, []), (45, 1, .istore_n 3, []), (46, 3, .iinc 4 1, []), (49, 3, .goto (-44), []), (52, 1, .iload_n 3, []), (53, 1, .ireturn, [])]
set_option maxRecDepth 20000 in
def k_X12_cloud : List az_I := [
  (0, 1, .iload_n 1, []), (1, 3, .invokestatic 239, [0, 160, 1, 999]), (4, 3, .ifCond .eq 28, []), (7, 1, .iload_n 2, []), (8, 3, .invokestatic 228, [0, 161, 1, 999]), (11, 3, .ifCond .eq 21, []),
  (14, 1, .aload_n 0, []), (15, 1, .iload_n 1, []), (16, 1, .iload_n 2, []), (17, 3, .invokevirtual 242, [0, 168, 3, 13]), (20, 3, .ifCond .ne 12, []), (23, 1, .aload_n 0, []),
  (24, 3, .getfield 236, [13, 6]), (27, 2, .bipush 60, []), (29, 3, .if_icmp .ne 5, []), (32, 1, .iconst (-1), []), (33, 1, .ireturn, []), (34, 1, .aload_n 0, []),
  (35, 3, .getfield 16, [13, 7]), (38, 1, .aload_n 0, []), (39, 3, .getfield 236, [13, 6]), (42, 1, .iload_n 1, []), (43, 1, .iastore, []), (44, 1, .aload_n 0, []),
  (45, 3, .getfield 19, [13, 8]), (48, 1, .aload_n 0, []), (49, 3, .getfield 236, [13, 6]), (52, 1, .iload_n 2, []), (53, 1, .iastore, []), (54, 1, .aload_n 0, []),
  (55, 1, .dup, []), (56, 3, .getfield 236, [13, 6]), (59, 1, .iconst 1, []), (60, 1, .iadd, []), (61, 3, .putfield 236, [13, 6]), (64, 1, .aload_n 0, []),
  (65, 3, .getfield 236, [13, 6]), (68, 1, .ireturn, [])]
set_option maxRecDepth 20000 in
def k_X12_person : List az_I := [
  (0, 1, .aload_n 0, []), (1, 3, .getfield 217, [13, 9]), (4, 2, .bipush 16, []), (6, 3, .if_icmp .ne 5, []), (9, 1, .iconst (-1), []), (10, 1, .ireturn, []),
  (11, 1, .aload_n 0, []), (12, 3, .getfield 22, [13, 10]), (15, 1, .aload_n 0, []), (16, 3, .getfield 217, [13, 9]), (19, 1, .iconst (-1), []), (20, 1, .iastore, []),
  (21, 1, .aload_n 0, []), (22, 1, .dup, []), (23, 3, .getfield 217, [13, 9]), (26, 1, .iconst 1, []), (27, 1, .iadd, []), (28, 3, .putfield 217, [13, 9]),
  (31, 1, .aload_n 0, []), (32, 3, .getfield 217, [13, 9]), (35, 1, .iconst 1, []), (36, 1, .isub, []), (37, 1, .ireturn, [])]
set_option maxRecDepth 20000 in
def k_X12_died : List az_I := [
  (0, 1, .aload_n 0, []), (1, 1, .iload_n 1, []), (2, 3, .invokevirtual 246, [0, 163, 2, 13]), (5, 3, .ifCond .eq 26, []), (8, 1, .iload_n 2, []), (9, 1, .i2l, []),
  (10, 1, .lconst 0, []), (11, 1, .aload_n 0, []), (12, 3, .getfield 225, [13, 3]), (15, 1, .i2l, []), (16, 3, .invokestatic 211, [0, 159, 3, 999]), (19, 3, .ifCond .eq 12, []),
  (22, 1, .aload_n 0, []), (23, 3, .getfield 22, [13, 10]), (26, 1, .iload_n 1, []), (27, 1, .iaload, []), (28, 3, .ifCond .lt 5, []), (31, 1, .iconst 0, []),
  (32, 1, .ireturn, []), (33, 1, .aload_n 0, []), (34, 3, .getfield 22, [13, 10]), (37, 1, .iload_n 1, []), (38, 1, .iload_n 2, []), (39, 1, .iastore, []),
  (40, 1, .aload_n 0, []), (41, 3, .getfield 25, [13, 11]), (44, 1, .iload_n 1, []), (45, 1, .aload_n 0, []), (46, 3, .getfield 225, [13, 3]), (49, 1, .iastore, []),
  (50, 1, .iconst 1, []), (51, 1, .ireturn, [])]
set_option maxRecDepth 20000 in
def k_X12_mayStand : List az_I := [
  (0, 1, .aload_n 0, []), (1, 1, .iload_n 1, []), (2, 3, .invokevirtual 249, [0, 162, 2, 13]), (5, 3, .ifCond .eq 36, []), (8, 1, .aload_n 0, []), (9, 1, .iload_n 2, []),
  (10, 3, .invokevirtual 246, [0, 163, 2, 13]), (13, 3, .ifCond .eq 28, []), (16, 1, .iload_n 3, []), (17, 1, .i2l, []), (18, 1, .lconst 0, []), (19, 3, .ldc2_w 252, [60]),
  (22, 3, .invokestatic 211, [0, 159, 3, 999]), (25, 3, .ifCond .eq 16, []), (28, 1, .aload_n 0, []), (29, 3, .getfield 220, [13, 12]), (32, 2, .bipush 24, []), (34, 3, .if_icmp .ge 7, []),
  (37, 1, .iconst 1, []), (38, 3, .goto 4, []), (41, 1, .iconst 0, []), (42, 2, .istore 4, []), (44, 1, .iconst 0, []), (45, 2, .istore 5, []),
  (47, 2, .iload 5, []), (49, 1, .aload_n 0, []), (50, 3, .getfield 220, [13, 12]), (53, 3, .if_icmp .ge 42, []), (56, 2, .iload 4, []), (58, 3, .ifCond .eq 37, []),
  (61, 1, .aload_n 0, []), (62, 3, .getfield 31, [13, 14]), (65, 2, .iload 5, []), (67, 1, .iaload, []), (68, 1, .iload_n 1, []), (69, 3, .if_icmp .ne 13, []),
  (72, 1, .aload_n 0, []), (73, 3, .getfield 61, [13, 24]), (76, 2, .iload 5, []), (78, 1, .iaload, []), (79, 3, .ifCond .lt 7, []), (82, 1, .iconst 1, []),
  (83, 3, .goto 4, []), (86, 1, .iconst 0, []), (87, 2, .istore 4, []), (89, 3, .iinc 5 1, []), (92, 3, .goto (-45), []), (95, 1, .iconst 0, []),
  (96, 2, .istore 5, []), (98, 2, .iload 5, []), (100, 2, .bipush 120, []), (102, 3, .if_icmp .ge 61, []), (105, 2, .iload 4, []), (107, 3, .ifCond .eq 56, []),
  (110, 2, .iload 5, []), (112, 2, .bipush 12, []), (114, 1, .idiv, []), (115, 1, .aload_n 0, []), (116, 3, .getfield 254, [13, 66]), (119, 3, .if_icmp .ge 31, []),
  (122, 1, .aload_n 0, []), (123, 3, .getfield 151, [13, 70]), (126, 2, .iload 5, []), (128, 1, .iaload, []), (129, 1, .iload_n 1, []), (130, 3, .if_icmp .ne 20, []),
  (133, 1, .aload_n 0, []), (134, 3, .getfield 148, [13, 69]), (137, 2, .iload 5, []), (139, 2, .bipush 12, []), (141, 1, .idiv, []), (142, 1, .iaload, []),
  (143, 1, .aload_n 0, []), (144, 3, .getfield 225, [13, 3]), (147, 3, .if_icmp .ge 7, []), (150, 1, .iconst 1, []), (151, 3, .goto 4, []), (154, 1, .iconst 0, []),
  (155, 2, .istore 4, []), (157, 3, .iinc 5 1, []), (160, 3, .goto (-62), []), (163, 2, .iload 4, []), (165, 1, .ireturn, [])]
set_option maxRecDepth 20000 in
def k_X12_stands : List az_I := [
  (0, 1, .aload_n 0, []), (1, 3, .getfield 220, [13, 12]), (4, 2, .istore 5, []), (6, 1, .aload_n 0, []), (7, 3, .getfield 28, [13, 13]), (10, 2, .iload 5, []),
  (12, 1, .iload_n 1, []), (13, 1, .iastore, []), (14, 1, .aload_n 0, []), (15, 3, .getfield 31, [13, 14]), (18, 2, .iload 5, []), (20, 1, .iload_n 2, []),
  (21, 1, .iastore, []), (22, 1, .aload_n 0, []), (23, 3, .getfield 34, [13, 15]), (26, 2, .iload 5, []), (28, 1, .iload_n 3, []), (29, 1, .iastore, []),
  (30, 1, .aload_n 0, []), (31, 3, .getfield 37, [13, 16]), (34, 2, .iload 5, []), (36, 1, .aload_n 0, []), (37, 3, .getfield 225, [13, 3]), (40, 1, .iastore, []),
  (41, 1, .aload_n 0, []), (42, 3, .getfield 40, [13, 17]), (45, 2, .iload 5, []), (47, 1, .iconst 0, []), (48, 1, .iastore, []), (49, 1, .aload_n 0, []),
  (50, 3, .getfield 43, [13, 18]), (53, 2, .iload 5, []), (55, 1, .iconst 0, []), (56, 1, .iastore, []), (57, 1, .aload_n 0, []), (58, 3, .getfield 46, [13, 19]),
  (61, 2, .iload 5, []), (63, 1, .iconst 0, []), (64, 1, .iastore, []), (65, 1, .aload_n 0, []), (66, 3, .getfield 49, [13, 20]), (69, 2, .iload 5, []),
  (71, 1, .iconst 0, []), (72, 1, .iastore, []), (73, 1, .aload_n 0, []), (74, 3, .getfield 61, [13, 24]), (77, 2, .iload 5, []), (79, 1, .iconst (-1), []),
  (80, 1, .iastore, []), (81, 1, .aload_n 0, []), (82, 3, .getfield 67, [13, 26]), (85, 2, .iload 5, []), (87, 1, .iconst (-1), []), (88, 1, .iastore, []),
  (89, 1, .aload_n 0, []), (90, 1, .dup, []), (91, 3, .getfield 220, [13, 12]), (94, 1, .iconst 1, []), (95, 1, .iadd, []), (96, 3, .putfield 220, [13, 12]),
  (99, 1, .aload_n 0, []), (100, 2, .iload 5, []), (102, 1, .aload_n 0, []), (103, 3, .getfield 225, [13, 3]), (106, 2, .iload 4, []), (108, 3, .invokevirtual 257, [0, 174, 4, 13]),
  (111, 2, .iload 5, []), (113, 1, .ireturn, [])]
set_option maxRecDepth 20000 in
def k_X12_enters : List az_I := [
  (0, 2, .bipush 41, []), (2, 1, .iload_n 1, []), (3, 1, .imul, []), (4, 1, .aload_n 0, []), (5, 3, .getfield 49, [13, 20]), (8, 1, .iload_n 1, []),
  (9, 1, .iaload, []), (10, 1, .iadd, []), (11, 2, .istore 4, []), (13, 1, .aload_n 0, []), (14, 3, .getfield 52, [13, 21]), (17, 2, .iload 4, []),
  (19, 1, .iload_n 2, []), (20, 1, .iastore, []), (21, 1, .aload_n 0, []), (22, 3, .getfield 55, [13, 22]), (25, 2, .iload 4, []), (27, 1, .iload_n 3, []),
  (28, 1, .iastore, []), (29, 1, .aload_n 0, []), (30, 3, .getfield 58, [13, 23]), (33, 2, .iload 4, []), (35, 1, .aload_n 0, []), (36, 3, .getfield 225, [13, 3]),
  (39, 1, .iastore, []), (40, 1, .aload_n 0, []), (41, 3, .getfield 49, [13, 20]), (44, 1, .iload_n 1, []), (45, 1, .dup2, []), (46, 1, .iaload, []),
  (47, 1, .iconst 1, []), (48, 1, .iadd, []), (49, 1, .iastore, []), (50, 1, .return_, [])]
set_option maxRecDepth 20000 in
def k_X12_wall : List az_I := [
  (0, 1, .aload_n 0, []), (1, 1, .iload_n 1, []), (2, 1, .iload_n 2, []), (3, 1, .iload_n 3, []), (4, 3, .invokevirtual 261, [0, 172, 4, 13]), (7, 3, .ifCond .eq 14, []),
  (10, 1, .aload_n 0, []), (11, 1, .iconst 0, []), (12, 1, .iload_n 1, []), (13, 1, .iload_n 2, []), (14, 1, .iload_n 3, []), (15, 3, .invokevirtual 265, [0, 173, 5, 13]),
  (18, 3, .goto 4, []), (21, 1, .iconst (-1), []), (22, 1, .ireturn, [])]
set_option maxRecDepth 20000 in
def k_X12_tree : List az_I := [
  (0, 1, .aload_n 0, []), (1, 1, .iload_n 1, []), (2, 1, .iload_n 2, []), (3, 1, .iload_n 3, []), (4, 3, .invokevirtual 261, [0, 172, 4, 13]), (7, 3, .ifCond .eq 16, []),
  (10, 2, .iload 4, []), (12, 1, .i2l, []), (13, 1, .lconst 1, []), (14, 3, .ldc2_w 269, [999]), (17, 3, .invokestatic 211, [0, 159, 3, 999]), (20, 3, .ifCond .ne 5, []),
  (23, 1, .iconst (-1), []), (24, 1, .ireturn, []), (25, 1, .aload_n 0, []), (26, 1, .iconst 1, []), (27, 1, .iload_n 1, []), (28, 1, .iload_n 2, []),
  (29, 1, .iload_n 3, []), (30, 3, .invokevirtual 265, [0, 173, 5, 13]), (33, 2, .istore 5, []), (35, 1, .aload_n 0, []), (36, 3, .getfield 40, [13, 17]), (39, 2, .iload 5, []),
  (41, 2, .iload 4, []), (43, 1, .iastore, []), (44, 2, .iload 5, []), (46, 1, .ireturn, [])]
end
section
set_option maxRecDepth 20000 in
def k_X12_pole : List az_I := [
  (0, 1, .aload_n 0, []), (1, 1, .iload_n 1, []), (2, 1, .iload_n 2, []), (3, 1, .iload_n 3, []), (4, 3, .invokevirtual 261, [0, 172, 4, 13]), (7, 3, .ifCond .eq 33, []),
  (10, 2, .iload 4, []), (12, 1, .i2l, []), (13, 3, .ldc2_w 271, [18446744073709551566]), (16, 3, .ldc2_w 273, [50]), (19, 3, .invokestatic 211, [0, 159, 3, 999]), (22, 3, .ifCond .eq 18, []),
  (25, 2, .iload 5, []), (27, 1, .i2l, []), (28, 3, .ldc2_w 271, [18446744073709551566]), (31, 3, .ldc2_w 273, [50]), (34, 3, .invokestatic 211, [0, 159, 3, 999]), (37, 3, .ifCond .ne 5, []),
  (40, 1, .iconst (-1), []), (41, 1, .ireturn, []), (42, 1, .aload_n 0, []), (43, 1, .iconst 2, []), (44, 1, .iload_n 1, []), (45, 1, .iload_n 2, []),
  (46, 1, .iload_n 3, []), (47, 3, .invokevirtual 265, [0, 173, 5, 13]), (50, 2, .istore 6, []), (52, 1, .aload_n 0, []), (53, 3, .getfield 43, [13, 18]), (56, 2, .iload 6, []),
  (58, 2, .iload 4, []), (60, 1, .iastore, []), (61, 1, .aload_n 0, []), (62, 3, .getfield 46, [13, 19]), (65, 2, .iload 6, []), (67, 2, .iload 5, []),
  (69, 1, .iastore, []), (70, 2, .iload 6, []), (72, 1, .ireturn, [])]
set_option maxRecDepth 20000 in
def k_X12_raise : List az_I := [
  (0, 1, .aload_n 0, []), (1, 1, .iload_n 1, []), (2, 3, .invokevirtual 275, [0, 164, 2, 13]), (5, 3, .ifCond .eq 53, []), (8, 1, .iload_n 2, []), (9, 1, .i2l, []),
  (10, 1, .aload_n 0, []), (11, 3, .getfield 37, [13, 16]), (14, 1, .iload_n 1, []), (15, 1, .iaload, []), (16, 1, .i2l, []), (17, 3, .ldc2_w 209, [3599]),
  (20, 3, .invokestatic 211, [0, 159, 3, 999]), (23, 3, .ifCond .eq 35, []), (26, 1, .iload_n 3, []), (27, 1, .i2l, []), (28, 1, .lconst 0, []), (29, 3, .ldc2_w 252, [60]),
  (32, 3, .invokestatic 211, [0, 159, 3, 999]), (35, 3, .ifCond .eq 23, []), (38, 1, .aload_n 0, []), (39, 3, .getfield 61, [13, 24]), (42, 1, .iload_n 1, []), (43, 1, .iaload, []),
  (44, 3, .ifCond .ge 14, []), (47, 1, .aload_n 0, []), (48, 3, .getfield 49, [13, 20]), (51, 1, .iload_n 1, []), (52, 1, .iaload, []), (53, 2, .bipush 40, []),
  (55, 3, .if_icmp .ne 5, []), (58, 1, .iconst (-1), []), (59, 1, .ireturn, []), (60, 1, .aload_n 0, []), (61, 1, .iload_n 1, []), (62, 1, .iload_n 2, []),
  (63, 1, .iload_n 3, []), (64, 3, .invokevirtual 257, [0, 174, 4, 13]), (67, 1, .aload_n 0, []), (68, 3, .getfield 49, [13, 20]), (71, 1, .iload_n 1, []), (72, 1, .iaload, []),
  (73, 1, .ireturn, [])]
set_option maxRecDepth 20000 in
def k_X12_fell : List az_I := [
  (0, 1, .aload_n 0, []), (1, 1, .iload_n 1, []), (2, 3, .invokevirtual 275, [0, 164, 2, 13]), (5, 3, .ifCond .eq 32, []), (8, 1, .iload_n 2, []), (9, 1, .i2l, []),
  (10, 1, .aload_n 0, []), (11, 3, .getfield 37, [13, 16]), (14, 1, .iload_n 1, []), (15, 1, .iaload, []), (16, 1, .i2l, []), (17, 1, .aload_n 0, []),
  (18, 3, .getfield 225, [13, 3]), (21, 1, .i2l, []), (22, 3, .invokestatic 211, [0, 159, 3, 999]), (25, 3, .ifCond .eq 12, []), (28, 1, .aload_n 0, []), (29, 3, .getfield 61, [13, 24]),
  (32, 1, .iload_n 1, []), (33, 1, .iaload, []), (34, 3, .ifCond .lt 5, []), (37, 1, .iconst 0, []), (38, 1, .ireturn, []), (39, 1, .aload_n 0, []),
  (40, 3, .getfield 61, [13, 24]), (43, 1, .iload_n 1, []), (44, 1, .iload_n 2, []), (45, 1, .iastore, []), (46, 1, .aload_n 0, []), (47, 3, .getfield 64, [13, 25]),
  (50, 1, .iload_n 1, []), (51, 1, .aload_n 0, []), (52, 3, .getfield 225, [13, 3]), (55, 1, .iastore, []), (56, 1, .iconst 1, []), (57, 1, .ireturn, [])]
set_option maxRecDepth 20000 in
def k_X12_entryFor : List az_I := [
  (0, 1, .iconst (-1), []), (1, 2, .istore 4, []), (3, 2, .bipush 41, []), (5, 1, .iload_n 1, []), (6, 1, .imul, []), (7, 2, .istore 5, []),
  (9, 2, .iload 5, []), (11, 2, .bipush 41, []), (13, 1, .iload_n 1, []), (14, 1, .imul, []), (15, 1, .aload_n 0, []), (16, 3, .getfield 49, [13, 20]),
  (19, 1, .iload_n 1, []), (20, 1, .iaload, []), (21, 1, .iadd, []), (22, 3, .if_icmp .ge 62, []), (25, 1, .aload_n 0, []), (26, 3, .getfield 58, [13, 23]),
  (29, 2, .iload 5, []), (31, 1, .iaload, []), (32, 1, .iload_n 3, []), (33, 3, .if_icmp .gt 41, []), (36, 1, .aload_n 0, []), (37, 3, .getfield 52, [13, 21]),
  (40, 2, .iload 5, []), (42, 1, .iaload, []), (43, 1, .iload_n 2, []), (44, 3, .if_icmp .gt 30, []), (47, 2, .iload 4, []), (49, 3, .ifCond .lt 20, []),
  (52, 1, .aload_n 0, []), (53, 3, .getfield 52, [13, 21]), (56, 2, .iload 5, []), (58, 1, .iaload, []), (59, 1, .aload_n 0, []), (60, 3, .getfield 52, [13, 21]),
  (63, 2, .iload 4, []), (65, 1, .iaload, []), (66, 3, .if_icmp .lt 8, []), (69, 2, .iload 5, []), (71, 3, .goto 5, []), (74, 2, .iload 4, []),
  (76, 2, .istore 4, []), (78, 3, .iinc 5 1, []), (81, 3, .goto (-72), []), (84, 2, .iload 4, []), (86, 1, .ireturn, [])]
set_option maxRecDepth 20000 in
def k_X12_heightOf : List az_I := [
  (0, 1, .aload_n 0, []), (1, 3, .getfield 37, [13, 16]), (4, 1, .iload_n 1, []), (5, 1, .iaload, []), (6, 1, .iload_n 2, []), (7, 3, .if_icmp .gt 42, []),
  (10, 1, .aload_n 0, []), (11, 3, .getfield 37, [13, 16]), (14, 1, .iload_n 1, []), (15, 1, .iaload, []), (16, 1, .iload_n 3, []), (17, 3, .if_icmp .gt 32, []),
  (20, 1, .aload_n 0, []), (21, 3, .getfield 61, [13, 24]), (24, 1, .iload_n 1, []), (25, 1, .iaload, []), (26, 3, .ifCond .lt 25, []), (29, 1, .aload_n 0, []),
  (30, 3, .getfield 61, [13, 24]), (33, 1, .iload_n 1, []), (34, 1, .iaload, []), (35, 1, .iload_n 2, []), (36, 3, .if_icmp .gt 15, []), (39, 1, .aload_n 0, []),
  (40, 3, .getfield 64, [13, 25]), (43, 1, .iload_n 1, []), (44, 1, .iaload, []), (45, 1, .iload_n 3, []), (46, 3, .if_icmp .gt 5, []), (49, 1, .iconst (-1), []),
  (50, 1, .ireturn, []), (51, 1, .aload_n 0, []), (52, 1, .iload_n 1, []), (53, 1, .iload_n 2, []), (54, 1, .iload_n 3, []), (55, 3, .invokevirtual 278, [0, 180, 4, 13]),
  (58, 2, .istore 4, []), (60, 1, .aload_n 0, []), (61, 3, .getfield 55, [13, 22]), (64, 2, .iload 4, []), (66, 1, .iaload, []), (67, 1, .aload_n 0, []),
  (68, 3, .getfield 28, [13, 13]), (71, 1, .iload_n 1, []), (72, 1, .iaload, []), (73, 1, .iconst 1, []), (74, 3, .if_icmp .ne 22, []), (77, 1, .iload_n 2, []),
  (78, 1, .aload_n 0, []), (79, 3, .getfield 52, [13, 21]), (82, 2, .iload 4, []), (84, 1, .iaload, []), (85, 1, .isub, []), (86, 1, .aload_n 0, []),
  (87, 3, .getfield 40, [13, 17]), (90, 1, .iload_n 1, []), (91, 1, .iaload, []), (92, 1, .idiv, []), (93, 3, .goto 4, []), (96, 1, .iconst 0, []),
  (97, 1, .iadd, []), (98, 2, .istore 5, []), (100, 2, .iload 5, []), (102, 2, .bipush 60, []), (104, 3, .if_icmp .le 8, []), (107, 2, .bipush 60, []),
  (109, 3, .goto 5, []), (112, 2, .iload 5, []), (114, 1, .ireturn, [])]
set_option maxRecDepth 20000 in
def k_X12_height : List az_I := [
  (0, 1, .aload_n 0, []), (1, 1, .iload_n 1, []), (2, 3, .invokevirtual 275, [0, 164, 2, 13]), (5, 3, .ifCond .eq 27, []), (8, 1, .iload_n 2, []), (9, 3, .invokestatic 239, [0, 160, 1, 999]),
  (12, 3, .ifCond .eq 20, []), (15, 1, .iload_n 3, []), (16, 3, .invokestatic 239, [0, 160, 1, 999]), (19, 3, .ifCond .eq 13, []), (22, 1, .aload_n 0, []), (23, 1, .iload_n 1, []),
  (24, 1, .iload_n 2, []), (25, 1, .iload_n 3, []), (26, 3, .invokevirtual 282, [0, 181, 4, 13]), (29, 3, .goto 4, []), (32, 1, .iconst (-1), []), (33, 1, .ireturn, [])]
set_option maxRecDepth 20000 in
def k_X12_isOpen : List az_I := [
  (0, 1, .iconst 1, []), (1, 2, .istore 4, []), (3, 1, .iconst 0, []), (4, 2, .istore 5, []), (6, 2, .iload 5, []), (8, 1, .aload_n 0, []),
  (9, 3, .getfield 220, [13, 12]), (12, 3, .if_icmp .ge 43, []), (15, 2, .iload 4, []), (17, 3, .ifCond .eq 29, []), (20, 1, .aload_n 0, []), (21, 3, .getfield 31, [13, 14]),
  (24, 2, .iload 5, []), (26, 1, .iaload, []), (27, 1, .iload_n 1, []), (28, 3, .if_icmp .ne 14, []), (31, 1, .aload_n 0, []), (32, 2, .iload 5, []),
  (34, 1, .iload_n 2, []), (35, 1, .iload_n 3, []), (36, 3, .invokevirtual 282, [0, 181, 4, 13]), (39, 3, .ifCond .ge 7, []), (42, 1, .iconst 1, []), (43, 3, .goto 4, []),
  (46, 1, .iconst 0, []), (47, 2, .istore 4, []), (49, 3, .iinc 5 1, []), (52, 3, .goto (-46), []), (55, 2, .iload 4, []), (57, 1, .ireturn, [])]
set_option maxRecDepth 20000 in
def k_X12_below : List az_I := [
  (0, 1, .iload_n 0, []), (1, 3, .ifCond .lt 10, []), (4, 1, .iload_n 0, []), (5, 2, .bipush 100, []), (7, 1, .idiv, []), (8, 3, .goto 11, []),
  (11, 2, .bipush 99, []), (13, 1, .iload_n 0, []), (14, 1, .isub, []), (15, 2, .bipush 100, []), (17, 1, .idiv, []), (18, 1, .ineg, []),
  (19, 1, .ireturn, [])]
set_option maxRecDepth 20000 in
def k_X12_pointOf : List az_I := [
  (0, 2, .bipush 12, []), (2, 2, .iload 4, []), (4, 3, .invokestatic 285, [0, 165, 1, 999]), (7, 1, .imul, []), (8, 2, .iload 5, []), (10, 1, .iadd, []),
  (11, 2, .istore 7, []), (13, 2, .bipush 100, []), (15, 1, .iload_n 1, []), (16, 1, .aload_n 0, []), (17, 3, .getfield 200, [13, 0]), (20, 1, .irem, []),
  (21, 1, .imul, []), (22, 2, .bipush 50, []), (24, 1, .iadd, []), (25, 2, .iload 6, []), (27, 1, .aload_n 0, []), (28, 3, .getfield 7, [13, 4]),
  (31, 2, .iload 7, []), (33, 1, .iaload, []), (34, 1, .iload_n 2, []), (35, 1, .iadd, []), (36, 1, .imul, []), (37, 1, .iadd, []),
  (38, 3, .invokestatic 289, [0, 184, 1, 999]), (41, 2, .istore 8, []), (43, 2, .bipush 100, []), (45, 1, .iload_n 1, []), (46, 1, .aload_n 0, []), (47, 3, .getfield 200, [13, 0]),
  (50, 1, .idiv, []), (51, 1, .imul, []), (52, 2, .bipush 50, []), (54, 1, .iadd, []), (55, 2, .iload 6, []), (57, 1, .aload_n 0, []),
  (58, 3, .getfield 13, [13, 5]), (61, 2, .iload 7, []), (63, 1, .iaload, []), (64, 1, .iload_n 3, []), (65, 1, .iadd, []), (66, 1, .imul, []),
  (67, 1, .iadd, []), (68, 3, .invokestatic 289, [0, 184, 1, 999]), (71, 2, .istore 9, []), (73, 2, .iload 8, []), (75, 1, .i2l, []), (76, 1, .lconst 0, []),
  (77, 1, .aload_n 0, []), (78, 3, .getfield 200, [13, 0]), (81, 1, .iconst 1, []), (82, 1, .isub, []), (83, 1, .i2l, []), (84, 3, .invokestatic 211, [0, 159, 3, 999]),
  (87, 3, .ifCond .eq 33, []), (90, 2, .iload 9, []), (92, 1, .i2l, []), (93, 1, .lconst 0, []), (94, 1, .aload_n 0, []), (95, 3, .getfield 203, [13, 1]),
  (98, 1, .iconst 1, []), (99, 1, .isub, []), (100, 1, .i2l, []), (101, 3, .invokestatic 211, [0, 159, 3, 999]), (104, 3, .ifCond .eq 16, []), (107, 2, .iload 9, []),
  (109, 1, .aload_n 0, []), (110, 3, .getfield 200, [13, 0]), (113, 1, .imul, []), (114, 2, .iload 8, []), (116, 1, .iadd, []), (117, 3, .goto 4, []),
  (120, 1, .iconst (-1), []), (121, 1, .ireturn, [])]
set_option maxRecDepth 20000 in
def k_X12_shades : List az_I := [
  (0, 1, .iconst 0, []), (1, 2, .istore 7, []), (3, 2, .iload 7, []), (5, 1, .aload_n 0, []), (6, 3, .getfield 206, [13, 2]), (9, 3, .if_icmp .ge 17, []),
  (12, 1, .aload_n 0, []), (13, 3, .getfield 154, [13, 71]), (16, 2, .iload 7, []), (18, 1, .iconst 0, []), (19, 1, .bastore, []), (20, 3, .iinc 7 1, []),
  (23, 3, .goto (-20), []), (26, 1, .iconst 1, []), (27, 2, .istore 7, []), (29, 2, .iload 7, []), (31, 2, .iload 4, []), (33, 3, .if_icmp .gt 54, []),
  (36, 1, .aload_n 0, []), (37, 2, .iload 5, []), (39, 2, .iload 6, []), (41, 3, .invokevirtual 242, [0, 168, 3, 13]), (44, 3, .ifCond .ne 43, []), (47, 1, .aload_n 0, []),
  (48, 1, .iload_n 1, []), (49, 1, .iload_n 2, []), (50, 1, .iload_n 3, []), (51, 2, .iload 5, []), (53, 2, .iload 6, []), (55, 2, .iload 7, []),
  (57, 3, .invokevirtual 292, [0, 185, 7, 13]), (60, 2, .istore 8, []), (62, 2, .iload 8, []), (64, 3, .ifCond .lt 17, []), (67, 2, .iload 8, []), (69, 1, .iload_n 1, []),
  (70, 3, .if_icmp .eq 11, []), (73, 1, .aload_n 0, []), (74, 3, .getfield 154, [13, 71]), (77, 2, .iload 8, []), (79, 1, .iconst 1, []), (80, 1, .bastore, []),
  (81, 3, .iinc 7 1, []), (84, 3, .goto (-55), []), (87, 1, .return_, [])]
set_option maxRecDepth 20000 in
def k_X12_looks : List az_I := [
  (0, 1, .iconst 0, []), (1, 2, .istore 4, []), (3, 2, .iload 4, []), (5, 1, .aload_n 0, []), (6, 3, .getfield 206, [13, 2]), (9, 3, .if_icmp .ge 33, []),
  (12, 1, .aload_n 0, []), (13, 3, .getfield 158, [13, 72]), (16, 2, .iload 4, []), (18, 1, .iconst 0, []), (19, 1, .iastore, []), (20, 1, .aload_n 0, []),
  (21, 3, .getfield 161, [13, 73]), (24, 2, .iload 4, []), (26, 1, .iconst 0, []), (27, 1, .iastore, []), (28, 1, .aload_n 0, []), (29, 3, .getfield 164, [13, 74]),
  (32, 2, .iload 4, []), (34, 1, .iconst 1, []), (35, 1, .bastore, []), (36, 3, .iinc 4 1, []), (39, 3, .goto (-36), []), (42, 1, .iconst 0, []),
  (43, 2, .istore 4, []), (45, 2, .iload 4, []), (47, 1, .aload_n 0, []), (48, 3, .getfield 220, [13, 12]), (51, 3, .if_icmp .ge 47, []), (54, 1, .aload_n 0, []),
  (55, 3, .getfield 167, [13, 75]), (58, 2, .iload 4, []), (60, 1, .aload_n 0, []), (61, 2, .iload 4, []), (63, 1, .iload_n 1, []), (64, 1, .iload_n 3, []),
  (65, 3, .invokevirtual 282, [0, 181, 4, 13]), (68, 1, .iastore, []), (69, 1, .aload_n 0, []), (70, 3, .getfield 167, [13, 75]), (73, 2, .iload 4, []), (75, 1, .iaload, []),
  (76, 3, .ifCond .lt 16, []), (79, 1, .aload_n 0, []), (80, 3, .getfield 164, [13, 74]), (83, 1, .aload_n 0, []), (84, 3, .getfield 31, [13, 14]), (87, 2, .iload 4, []),
  (89, 1, .iaload, []), (90, 1, .iconst 0, []), (91, 1, .bastore, []), (92, 3, .iinc 4 1, []), (95, 3, .goto (-50), []), (98, 1, .iconst 0, []),
  (99, 2, .istore 4, []), (101, 2, .iload 4, []), (103, 1, .aload_n 0, []), (104, 3, .getfield 220, [13, 12]), (107, 3, .if_icmp .ge 128, []), (110, 1, .aload_n 0, []),
  (111, 3, .getfield 167, [13, 75]), (114, 2, .iload 4, []), (116, 1, .iaload, []), (117, 3, .ifCond .le 112, []), (120, 1, .aload_n 0, []), (121, 1, .aload_n 0, []),
  (122, 3, .getfield 31, [13, 14]), (125, 2, .iload 4, []), (127, 1, .iaload, []), (128, 1, .aload_n 0, []), (129, 3, .getfield 43, [13, 18]), (132, 2, .iload 4, []),
  (134, 1, .iaload, []), (135, 1, .aload_n 0, []), (136, 3, .getfield 46, [13, 19]), (139, 2, .iload 4, []), (141, 1, .iaload, []), (142, 1, .aload_n 0, []),
  (143, 3, .getfield 167, [13, 75]), (146, 2, .iload 4, []), (148, 1, .iaload, []), (149, 1, .iload_n 1, []), (150, 1, .iload_n 2, []), (151, 3, .invokevirtual 296, [0, 186, 7, 13]),
  (154, 1, .iconst 0, []), (155, 2, .istore 5, []), (157, 2, .iload 5, []), (159, 1, .aload_n 0, []), (160, 3, .getfield 206, [13, 2]), (163, 3, .if_icmp .ge 66, []),
  (166, 1, .aload_n 0, []), (167, 3, .getfield 154, [13, 71]), (170, 2, .iload 5, []), (172, 1, .baload, []), (173, 3, .ifCond .eq 50, []), (176, 1, .aload_n 0, []),
  (177, 3, .getfield 164, [13, 74]), (180, 2, .iload 5, []), (182, 1, .baload, []), (183, 3, .ifCond .eq 40, []), (186, 1, .aload_n 0, []), (187, 3, .getfield 161, [13, 73]),
  (190, 2, .iload 5, []), (192, 1, .iaload, []), (193, 2, .bipush 12, []), (195, 3, .if_icmp .ge 28, []), (198, 1, .aload_n 0, []), (199, 3, .getfield 158, [13, 72]),
  (202, 2, .iload 5, []), (204, 1, .dup2, []), (205, 1, .iaload, []), (206, 1, .iconst 1, []), (207, 2, .iload 4, []), (209, 1, .ishl, []),
  (210, 1, .ior, []), (211, 1, .iastore, []), (212, 1, .aload_n 0, []), (213, 3, .getfield 161, [13, 73]), (216, 2, .iload 5, []), (218, 1, .dup2, []),
  (219, 1, .iaload, []), (220, 1, .iconst 1, []), (221, 1, .iadd, []), (222, 1, .iastore, []), (223, 3, .iinc 5 1, []), (226, 3, .goto (-69), []),
  (229, 3, .iinc 4 1, []), (232, 3, .goto (-131), []), (235, 1, .return_, [])]
set_option maxRecDepth 20000 in
def k_X12_isAsked : List az_I := [
  (0, 1, .iload_n 1, []), (1, 3, .invokestatic 239, [0, 160, 1, 999]), (4, 3, .ifCond .eq 21, []), (7, 1, .iload_n 2, []), (8, 3, .invokestatic 228, [0, 161, 1, 999]), (11, 3, .ifCond .eq 14, []),
  (14, 1, .iload_n 3, []), (15, 3, .invokestatic 239, [0, 160, 1, 999]), (18, 3, .ifCond .eq 7, []), (21, 1, .iconst 1, []), (22, 3, .goto 4, []), (25, 1, .iconst 0, []),
  (26, 1, .ireturn, [])]
set_option maxRecDepth 20000 in
def k_X12_shaded : List az_I := [
  (0, 1, .aload_n 0, []), (1, 1, .iload_n 1, []), (2, 3, .invokevirtual 249, [0, 162, 2, 13]), (5, 3, .ifCond .eq 14, []), (8, 1, .aload_n 0, []), (9, 1, .iload_n 2, []),
  (10, 1, .iload_n 3, []), (11, 2, .iload 4, []), (13, 3, .invokevirtual 300, [0, 188, 4, 13]), (16, 3, .ifCond .ne 5, []), (19, 1, .iconst (-1), []), (20, 1, .ireturn, []),
  (21, 1, .aload_n 0, []), (22, 1, .iload_n 2, []), (23, 1, .iload_n 3, []), (24, 2, .iload 4, []), (26, 3, .invokevirtual 303, [0, 187, 4, 13]), (29, 1, .aload_n 0, []),
  (30, 3, .getfield 158, [13, 72]), (33, 1, .iload_n 1, []), (34, 1, .iaload, []), (35, 1, .ireturn, [])]
set_option maxRecDepth 20000 in
def k_X12_shadow : List az_I := [
  (0, 1, .aload_n 0, []), (1, 1, .iload_n 1, []), (2, 3, .invokevirtual 275, [0, 164, 2, 13]), (5, 3, .ifCond .eq 14, []), (8, 1, .aload_n 0, []), (9, 1, .iload_n 2, []),
  (10, 1, .iload_n 3, []), (11, 2, .iload 4, []), (13, 3, .invokevirtual 300, [0, 188, 4, 13]), (16, 3, .ifCond .ne 5, []), (19, 1, .iconst (-1), []), (20, 1, .ireturn, []),
  (21, 1, .aload_n 0, []), (22, 1, .iload_n 2, []), (23, 1, .iload_n 3, []), (24, 2, .iload 4, []), (26, 3, .invokevirtual 303, [0, 187, 4, 13]), (29, 1, .aload_n 0, []),
  (30, 1, .aload_n 0, []), (31, 3, .getfield 31, [13, 14]), (34, 1, .iload_n 1, []), (35, 1, .iaload, []), (36, 1, .aload_n 0, []), (37, 3, .getfield 43, [13, 18]),
  (40, 1, .iload_n 1, []), (41, 1, .iaload, []), (42, 1, .aload_n 0, []), (43, 3, .getfield 46, [13, 19]), (46, 1, .iload_n 1, []), (47, 1, .iaload, []),
  (48, 1, .aload_n 0, []), (49, 3, .getfield 167, [13, 75]), (52, 1, .iload_n 1, []), (53, 1, .iaload, []), (54, 1, .iload_n 2, []), (55, 1, .iload_n 3, []),
  (56, 3, .invokevirtual 296, [0, 186, 7, 13]), (59, 1, .iconst 0, []), (60, 2, .istore 5, []), (62, 1, .iconst 0, []), (63, 2, .istore 6, []), (65, 2, .iload 6, []),
  (67, 1, .aload_n 0, []), (68, 3, .getfield 206, [13, 2]), (71, 3, .if_icmp .ge 39, []), (74, 2, .iload 5, []), (76, 1, .aload_n 0, []), (77, 3, .getfield 154, [13, 71]),
  (80, 2, .iload 6, []), (82, 1, .baload, []), (83, 3, .ifCond .eq 17, []), (86, 1, .aload_n 0, []), (87, 3, .getfield 164, [13, 74]), (90, 2, .iload 6, []),
  (92, 1, .baload, []), (93, 3, .ifCond .eq 7, []), (96, 1, .iconst 1, []), (97, 3, .goto 4, []), (100, 1, .iconst 0, []), (101, 1, .iadd, []),
  (102, 2, .istore 5, []), (104, 3, .iinc 6 1, []), (107, 3, .goto (-42), []), (110, 2, .iload 5, []), (112, 1, .ireturn, [])]
set_option maxRecDepth 20000 in
def k_X12_grant : List az_I := [
  (0, 1, .aload_n 0, []), (1, 1, .iload_n 1, []), (2, 3, .invokevirtual 246, [0, 163, 2, 13]), (5, 3, .ifCond .eq 54, []), (8, 1, .aload_n 0, []), (9, 1, .iload_n 2, []),
  (10, 3, .invokevirtual 246, [0, 163, 2, 13]), (13, 3, .ifCond .eq 46, []), (16, 1, .iload_n 1, []), (17, 1, .iload_n 2, []), (18, 3, .if_icmp .eq 41, []), (21, 1, .aload_n 0, []),
  (22, 1, .iload_n 3, []), (23, 3, .invokevirtual 275, [0, 164, 2, 13]), (26, 3, .ifCond .eq 33, []), (29, 2, .iload 4, []), (31, 1, .i2l, []), (32, 1, .lconst 0, []),
  (33, 3, .ldc2_w 306, [255]), (36, 3, .invokestatic 211, [0, 159, 3, 999]), (39, 3, .ifCond .eq 20, []), (42, 2, .iload 5, []), (44, 1, .i2l, []), (45, 1, .lconst 0, []),
  (46, 3, .ldc2_w 306, [255]), (49, 3, .invokestatic 211, [0, 159, 3, 999]), (52, 3, .ifCond .eq 7, []), (55, 1, .iconst 1, []), (56, 3, .goto 4, []), (59, 1, .iconst 0, []),
  (60, 2, .istore 9, []), (62, 2, .iload 9, []), (64, 3, .ifCond .eq 71, []), (67, 2, .iload 4, []), (69, 2, .bipush 16, []), (71, 1, .idiv, []),
  (72, 3, .invokestatic 228, [0, 161, 1, 999]), (75, 3, .ifCond .eq 60, []), (78, 2, .iload 4, []), (80, 2, .bipush 16, []), (82, 1, .irem, []), (83, 1, .i2l, []),
  (84, 2, .iload 4, []), (86, 2, .bipush 16, []), (88, 1, .idiv, []), (89, 1, .i2l, []), (90, 3, .ldc2_w 215, [11]), (93, 3, .invokestatic 211, [0, 159, 3, 999]),
  (96, 3, .ifCond .eq 39, []), (99, 2, .iload 5, []), (101, 2, .bipush 16, []), (103, 1, .idiv, []), (104, 1, .i2l, []), (105, 1, .lconst 0, []),
  (106, 3, .ldc2_w 215, [11]), (109, 3, .invokestatic 211, [0, 159, 3, 999]), (112, 3, .ifCond .eq 23, []), (115, 2, .iload 5, []), (117, 2, .bipush 16, []), (119, 1, .irem, []),
  (120, 1, .i2l, []), (121, 1, .lconst 0, []), (122, 3, .ldc2_w 215, [11]), (125, 3, .invokestatic 211, [0, 159, 3, 999]), (128, 3, .ifCond .eq 7, []), (131, 1, .iconst 1, []),
  (132, 3, .goto 4, []), (135, 1, .iconst 0, []), (136, 2, .istore 9, []), (138, 2, .iload 9, []), (140, 3, .ifCond .eq 48, []), (143, 2, .iload 6, []),
  (145, 3, .invokestatic 239, [0, 160, 1, 999]), (148, 3, .ifCond .eq 40, []), (151, 2, .iload 7, []), (153, 1, .i2l, []), (154, 2, .iload 6, []), (156, 1, .i2l, []),
  (157, 3, .ldc2_w 209, [3599]), (160, 3, .invokestatic 211, [0, 159, 3, 999]), (163, 3, .ifCond .eq 25, []), (166, 2, .iload 8, []), (168, 1, .i2l, []), (169, 1, .lconst 0, []),
  (170, 3, .ldc2_w 308, [2]), (173, 3, .invokestatic 211, [0, 159, 3, 999]), (176, 3, .ifCond .eq 12, []), (179, 1, .aload_n 0, []), (180, 3, .getfield 310, [13, 27]), (183, 2, .bipush 60, []),
  (185, 3, .if_icmp .ne 5, []), (188, 1, .iconst (-1), []), (189, 1, .ireturn, []), (190, 1, .aload_n 0, []), (191, 3, .getfield 70, [13, 28]), (194, 1, .aload_n 0, []),
  (195, 3, .getfield 310, [13, 27]), (198, 1, .iload_n 1, []), (199, 1, .iastore, []), (200, 1, .aload_n 0, []), (201, 3, .getfield 73, [13, 29]), (204, 1, .aload_n 0, []),
  (205, 3, .getfield 310, [13, 27]), (208, 1, .iload_n 2, []), (209, 1, .iastore, []), (210, 1, .aload_n 0, []), (211, 3, .getfield 76, [13, 30]), (214, 1, .aload_n 0, []),
  (215, 3, .getfield 310, [13, 27]), (218, 1, .iload_n 3, []), (219, 1, .iastore, []), (220, 1, .aload_n 0, []), (221, 3, .getfield 79, [13, 31]), (224, 1, .aload_n 0, []),
  (225, 3, .getfield 310, [13, 27]), (228, 2, .iload 4, []), (230, 2, .bipush 16, []), (232, 1, .idiv, []), (233, 1, .iastore, []), (234, 1, .aload_n 0, []),
  (235, 3, .getfield 82, [13, 32]), (238, 1, .aload_n 0, []), (239, 3, .getfield 310, [13, 27]), (242, 2, .iload 4, []), (244, 2, .bipush 16, []), (246, 1, .irem, []),
  (247, 1, .iastore, []), (248, 1, .aload_n 0, []), (249, 3, .getfield 85, [13, 33]), (252, 1, .aload_n 0, []), (253, 3, .getfield 310, [13, 27]), (256, 2, .iload 5, []),
  (258, 2, .bipush 16, []), (260, 1, .idiv, []), (261, 1, .iastore, []), (262, 1, .aload_n 0, []), (263, 3, .getfield 88, [13, 34]), (266, 1, .aload_n 0, []),
  (267, 3, .getfield 310, [13, 27]), (270, 2, .iload 5, []), (272, 2, .bipush 16, []), (274, 1, .irem, []), (275, 1, .iastore, []), (276, 1, .aload_n 0, []),
  (277, 3, .getfield 91, [13, 35]), (280, 1, .aload_n 0, []), (281, 3, .getfield 310, [13, 27]), (284, 2, .iload 6, []), (286, 1, .iastore, []), (287, 1, .aload_n 0, []),
  (288, 3, .getfield 94, [13, 36]), (291, 1, .aload_n 0, []), (292, 3, .getfield 310, [13, 27]), (295, 2, .iload 7, []), (297, 1, .iastore, []), (298, 1, .aload_n 0, []),
  (299, 3, .getfield 97, [13, 37]), (302, 1, .aload_n 0, []), (303, 3, .getfield 310, [13, 27]), (306, 2, .iload 8, []), (308, 1, .iastore, []), (309, 1, .aload_n 0, []),
  (310, 3, .getfield 100, [13, 38]), (313, 1, .aload_n 0, []), (314, 3, .getfield 310, [13, 27]), (317, 1, .aload_n 0, []), (318, 3, .getfield 225, [13, 3]), (321, 1, .iastore, []),
  (322, 1, .aload_n 0, []), (323, 1, .dup, []), (324, 3, .getfield 310, [13, 27]), (327, 1, .iconst 1, []), (328, 1, .iadd, []), (329, 3, .putfield 310, [13, 27]),
  (332, 1, .aload_n 0, []), (333, 3, .getfield 310, [13, 27]), (336, 1, .iconst 1, []), (337, 1, .isub, []), (338, 1, .ireturn, [])]
set_option maxRecDepth 20000 in
def k_X12_holdsOn : List az_I := [
  (0, 1, .iload_n 2, []), (1, 3, .invokestatic 285, [0, 165, 1, 999]), (4, 2, .istore 5, []), (6, 1, .aload_n 0, []), (7, 3, .getfield 85, [13, 33]), (10, 1, .iload_n 1, []),
  (11, 1, .iaload, []), (12, 1, .aload_n 0, []), (13, 3, .getfield 88, [13, 34]), (16, 1, .iload_n 1, []), (17, 1, .iaload, []), (18, 3, .if_icmp .gt 26, []),
  (21, 2, .iload 5, []), (23, 1, .i2l, []), (24, 1, .aload_n 0, []), (25, 3, .getfield 85, [13, 33]), (28, 1, .iload_n 1, []), (29, 1, .iaload, []),
  (30, 1, .i2l, []), (31, 1, .aload_n 0, []), (32, 3, .getfield 88, [13, 34]), (35, 1, .iload_n 1, []), (36, 1, .iaload, []), (37, 1, .i2l, []),
  (38, 3, .invokestatic 211, [0, 159, 3, 999]), (41, 3, .goto 30, []), (44, 2, .iload 5, []), (46, 1, .aload_n 0, []), (47, 3, .getfield 85, [13, 33]), (50, 1, .iload_n 1, []),
  (51, 1, .iaload, []), (52, 3, .if_icmp .ge 14, []), (55, 2, .iload 5, []), (57, 1, .aload_n 0, []), (58, 3, .getfield 88, [13, 34]), (61, 1, .iload_n 1, []),
  (62, 1, .iaload, []), (63, 3, .if_icmp .gt 7, []), (66, 1, .iconst 1, []), (67, 3, .goto 4, []), (70, 1, .iconst 0, []), (71, 2, .istore 6, []),
  (73, 1, .aload_n 0, []), (74, 3, .getfield 100, [13, 38]), (77, 1, .iload_n 1, []), (78, 1, .iaload, []), (79, 2, .iload 4, []), (81, 3, .if_icmp .gt 30, []),
  (84, 1, .iload_n 3, []), (85, 1, .i2l, []), (86, 1, .aload_n 0, []), (87, 3, .getfield 79, [13, 31]), (90, 1, .iload_n 1, []), (91, 1, .iaload, []),
  (92, 1, .i2l, []), (93, 1, .aload_n 0, []), (94, 3, .getfield 82, [13, 32]), (97, 1, .iload_n 1, []), (98, 1, .iaload, []), (99, 1, .i2l, []),
  (100, 3, .invokestatic 211, [0, 159, 3, 999]), (103, 3, .ifCond .eq 8, []), (106, 2, .iload 6, []), (108, 3, .ifCond .ne 5, []), (111, 1, .iconst 0, []), (112, 1, .ireturn, []),
  (113, 1, .aload_n 0, []), (114, 3, .getfield 70, [13, 28]), (117, 1, .iload_n 1, []), (118, 1, .iaload, []), (119, 2, .istore 7, []), (121, 1, .aload_n 0, []),
  (122, 3, .getfield 97, [13, 37]), (125, 1, .iload_n 1, []), (126, 1, .iaload, []), (127, 25, .lookupswitch 61 #[(0, 25), (1, 41)], []), (152, 1, .iload_n 2, []), (153, 1, .aload_n 0, []),
  (154, 3, .getfield 91, [13, 35]), (157, 1, .iload_n 1, []), (158, 1, .iaload, []), (159, 3, .if_icmp .lt 7, []), (162, 1, .iconst 1, []), (163, 3, .goto 4, []),
  (166, 1, .iconst 0, []), (167, 1, .ireturn, []), (168, 1, .iload_n 2, []), (169, 1, .i2l, []), (170, 1, .aload_n 0, []), (171, 3, .getfield 91, [13, 35]),
  (174, 1, .iload_n 1, []), (175, 1, .iaload, []), (176, 1, .i2l, []), (177, 1, .aload_n 0, []), (178, 3, .getfield 94, [13, 36]), (181, 1, .iload_n 1, []),
  (182, 1, .iaload, []), (183, 1, .i2l, []), (184, 3, .invokestatic 211, [0, 159, 3, 999]), (187, 1, .ireturn, []), (188, 1, .aload_n 0, []), (189, 3, .getfield 22, [13, 10]),
  (192, 2, .iload 7, []), (194, 1, .iaload, []), (195, 3, .ifCond .lt 30, []), (198, 1, .aload_n 0, []), (199, 3, .getfield 25, [13, 11]), (202, 2, .iload 7, []),
  (204, 1, .iaload, []), (205, 2, .iload 4, []), (207, 3, .if_icmp .gt 18, []), (210, 1, .aload_n 0, []), (211, 3, .getfield 22, [13, 10]), (214, 2, .iload 7, []),
  (216, 1, .iaload, []), (217, 1, .iload_n 2, []), (218, 3, .if_icmp .gt 7, []), (221, 1, .iconst 1, []), (222, 3, .goto 4, []), (225, 1, .iconst 0, []),
  (226, 1, .ireturn, [])]
set_option maxRecDepth 20000 in
def k_X12_holderOf : List az_I := [
  (0, 1, .aload_n 0, []), (1, 3, .getfield 34, [13, 15]), (4, 1, .iload_n 1, []), (5, 1, .iaload, []), (6, 2, .istore 5, []), (8, 1, .iconst 0, []),
  (9, 2, .istore 6, []), (11, 2, .iload 6, []), (13, 1, .aload_n 0, []), (14, 3, .getfield 310, [13, 27]), (17, 3, .if_icmp .ge 59, []), (20, 1, .aload_n 0, []),
  (21, 3, .getfield 76, [13, 30]), (24, 2, .iload 6, []), (26, 1, .iaload, []), (27, 1, .iload_n 1, []), (28, 3, .if_icmp .ne 38, []), (31, 1, .aload_n 0, []),
  (32, 3, .getfield 70, [13, 28]), (35, 2, .iload 6, []), (37, 1, .iaload, []), (38, 2, .iload 5, []), (40, 3, .if_icmp .ne 26, []), (43, 1, .aload_n 0, []),
  (44, 2, .iload 6, []), (46, 1, .iload_n 2, []), (47, 1, .iload_n 3, []), (48, 2, .iload 4, []), (50, 3, .invokevirtual 313, [0, 192, 5, 13]), (53, 3, .ifCond .eq 13, []),
  (56, 1, .aload_n 0, []), (57, 3, .getfield 73, [13, 29]), (60, 2, .iload 6, []), (62, 1, .iaload, []), (63, 3, .goto 5, []), (66, 2, .iload 5, []),
  (68, 2, .istore 5, []), (70, 3, .iinc 6 1, []), (73, 3, .goto (-62), []), (76, 2, .iload 5, []), (78, 1, .ireturn, [])]
set_option maxRecDepth 20000 in
def k_X12_holder : List az_I := [
  (0, 1, .aload_n 0, []), (1, 1, .iload_n 1, []), (2, 3, .invokevirtual 275, [0, 164, 2, 13]), (5, 3, .ifCond .eq 25, []), (8, 1, .aload_n 0, []), (9, 1, .iload_n 2, []),
  (10, 1, .iload_n 3, []), (11, 2, .iload 4, []), (13, 3, .invokevirtual 300, [0, 188, 4, 13]), (16, 3, .ifCond .eq 14, []), (19, 1, .aload_n 0, []), (20, 1, .iload_n 1, []),
  (21, 1, .iload_n 2, []), (22, 2, .iload 4, []), (24, 3, .invokevirtual 282, [0, 181, 4, 13]), (27, 3, .ifCond .ge 7, []), (30, 1, .iconst (-1), []), (31, 3, .goto 12, []),
  (34, 1, .aload_n 0, []), (35, 1, .iload_n 1, []), (36, 1, .iload_n 2, []), (37, 1, .iload_n 3, []), (38, 2, .iload 4, []), (40, 3, .invokevirtual 317, [0, 193, 5, 13]),
  (43, 1, .ireturn, [])]
set_option maxRecDepth 20000 in
def k_X12_holds : List az_I := [
  (0, 1, .iconst 0, []), (1, 2, .istore 4, []), (3, 2, .iload 4, []), (5, 1, .aload_n 0, []), (6, 3, .getfield 220, [13, 12]), (9, 3, .if_icmp .ge 25, []),
  (12, 1, .aload_n 0, []), (13, 3, .getfield 170, [13, 76]), (16, 2, .iload 4, []), (18, 1, .aload_n 0, []), (19, 2, .iload 4, []), (21, 1, .iload_n 1, []),
  (22, 1, .iload_n 2, []), (23, 1, .iload_n 3, []), (24, 3, .invokevirtual 317, [0, 193, 5, 13]), (27, 1, .iastore, []), (28, 3, .iinc 4 1, []), (31, 3, .goto (-28), []),
  (34, 1, .return_, [])]
set_option maxRecDepth 20000 in
def k_X12_partsIn : List az_I := [
  (0, 1, .iconst 0, []), (1, 1, .istore_n 3, []), (2, 1, .iconst 0, []), (3, 2, .istore 4, []), (5, 2, .iload 4, []), (7, 1, .aload_n 0, []),
  (8, 3, .getfield 220, [13, 12]), (11, 3, .if_icmp .ge 52, []), (14, 1, .iload_n 3, []), (15, 1, .aload_n 0, []), (16, 3, .getfield 158, [13, 72]), (19, 1, .iload_n 2, []),
  (20, 1, .iaload, []), (21, 2, .iload 4, []), (23, 1, .ishr, []), (24, 1, .iconst 1, []), (25, 1, .iand, []), (26, 1, .iconst 1, []),
  (27, 3, .if_icmp .ne 27, []), (30, 1, .aload_n 0, []), (31, 3, .getfield 170, [13, 76]), (34, 2, .iload 4, []), (36, 1, .iaload, []), (37, 1, .iload_n 1, []),
  (38, 3, .if_icmp .ne 16, []), (41, 3, .sipush 27720, []), (44, 1, .aload_n 0, []), (45, 3, .getfield 161, [13, 73]), (48, 1, .iload_n 2, []), (49, 1, .iaload, []),
  (50, 1, .idiv, []), (51, 3, .goto 4, []), (54, 1, .iconst 0, []), (55, 1, .iadd, []), (56, 1, .istore_n 3, []), (57, 3, .iinc 4 1, []),
  (60, 3, .goto (-55), []), (63, 1, .iload_n 3, []), (64, 1, .ireturn, [])]
set_option maxRecDepth 20000 in
def k_X12_parts : List az_I := [
  (0, 1, .aload_n 0, []), (1, 1, .iload_n 1, []), (2, 3, .invokevirtual 246, [0, 163, 2, 13]), (5, 3, .ifCond .eq 23, []), (8, 1, .aload_n 0, []), (9, 1, .iload_n 2, []),
  (10, 3, .invokevirtual 249, [0, 162, 2, 13]), (13, 3, .ifCond .eq 15, []), (16, 1, .aload_n 0, []), (17, 1, .iload_n 3, []), (18, 2, .iload 4, []), (20, 2, .iload 5, []),
  (22, 3, .invokevirtual 300, [0, 188, 4, 13]), (25, 3, .ifCond .ne 5, []), (28, 1, .iconst (-1), []), (29, 1, .ireturn, []), (30, 1, .aload_n 0, []), (31, 1, .iload_n 3, []),
  (32, 2, .iload 4, []), (34, 2, .iload 5, []), (36, 3, .invokevirtual 303, [0, 187, 4, 13]), (39, 1, .aload_n 0, []), (40, 1, .iload_n 3, []), (41, 2, .iload 4, []),
  (43, 2, .iload 5, []), (45, 3, .invokevirtual 320, [0, 195, 4, 13]), (48, 1, .aload_n 0, []), (49, 1, .iload_n 1, []), (50, 1, .iload_n 2, []), (51, 3, .invokevirtual 323, [0, 196, 3, 13]),
  (54, 1, .ireturn, [])]
set_option maxRecDepth 20000 in
def k_X12_partsOn : List az_I := [
  (0, 1, .lconst 0, []), (1, 2, .lstore 4, []), (3, 1, .iconst 0, []), (4, 2, .istore 6, []), (6, 2, .iload 6, []), (8, 2, .bipush 12, []),
  (10, 3, .if_icmp .ge 70, []), (13, 1, .aload_n 0, []), (14, 1, .iload_n 2, []), (15, 2, .iload 6, []), (17, 1, .iload_n 3, []), (18, 3, .invokevirtual 303, [0, 187, 4, 13]),
  (21, 1, .aload_n 0, []), (22, 1, .iload_n 2, []), (23, 2, .iload 6, []), (25, 1, .iload_n 3, []), (26, 3, .invokevirtual 320, [0, 195, 4, 13]), (29, 1, .iconst 0, []),
  (30, 2, .istore 7, []), (32, 2, .iload 7, []), (34, 1, .aload_n 0, []), (35, 3, .getfield 206, [13, 2]), (38, 3, .if_icmp .ge 36, []), (41, 2, .lload 4, []),
  (43, 1, .aload_n 0, []), (44, 3, .getfield 161, [13, 73]), (47, 2, .iload 7, []), (49, 1, .iaload, []), (50, 3, .ifCond .le 14, []), (53, 1, .aload_n 0, []),
  (54, 1, .iload_n 1, []), (55, 2, .iload 7, []), (57, 3, .invokevirtual 323, [0, 196, 3, 13]), (60, 1, .i2l, []), (61, 3, .goto 4, []), (64, 1, .lconst 0, []),
  (65, 1, .ladd, []), (66, 2, .lstore 4, []), (68, 3, .iinc 7 1, []), (71, 3, .goto (-39), []), (74, 3, .iinc 6 1, []), (77, 3, .goto (-71), []),
  (80, 2, .lload 4, []), (82, 1, .lreturn, [])]
set_option maxRecDepth 20000 in
def k_X12_account : List az_I := [
  (0, 1, .aload_n 0, []), (1, 1, .iload_n 1, []), (2, 3, .invokevirtual 246, [0, 163, 2, 13]), (5, 3, .ifCond .eq 39, []), (8, 1, .iload_n 2, []), (9, 3, .invokestatic 239, [0, 160, 1, 999]),
  (12, 3, .ifCond .eq 32, []), (15, 1, .iload_n 3, []), (16, 1, .i2l, []), (17, 1, .iload_n 2, []), (18, 1, .i2l, []), (19, 3, .ldc2_w 209, [3599]),
  (22, 3, .invokestatic 211, [0, 159, 3, 999]), (25, 3, .ifCond .eq 19, []), (28, 1, .iload_n 3, []), (29, 1, .iload_n 2, []), (30, 1, .isub, []), (31, 2, .bipush 59, []),
  (33, 3, .if_icmp .gt 11, []), (36, 2, .iload 4, []), (38, 3, .invokestatic 239, [0, 160, 1, 999]), (41, 3, .ifCond .ne 7, []), (44, 3, .ldc2_w 327, [18446744073709551615]), (47, 1, .lreturn, []),
  (48, 1, .lconst 0, []), (49, 2, .lstore 5, []), (51, 1, .iload_n 2, []), (52, 2, .istore 7, []), (54, 2, .iload 7, []), (56, 1, .iload_n 3, []),
  (57, 3, .if_icmp .gt 23, []), (60, 2, .lload 5, []), (62, 1, .aload_n 0, []), (63, 1, .iload_n 1, []), (64, 2, .iload 7, []), (66, 2, .iload 4, []),
  (68, 3, .invokevirtual 329, [0, 198, 4, 13]), (71, 1, .ladd, []), (72, 2, .lstore 5, []), (74, 3, .iinc 7 1, []), (77, 3, .goto (-23), []), (80, 2, .lload 5, []),
  (82, 1, .lreturn, [])]
set_option maxRecDepth 20000 in
def k_X12_bill : List az_I := [
  (0, 1, .aload_n 0, []), (1, 1, .iload_n 1, []), (2, 3, .invokevirtual 275, [0, 164, 2, 13]), (5, 3, .ifCond .eq 55, []), (8, 1, .iload_n 2, []), (9, 1, .i2l, []),
  (10, 1, .lconst 0, []), (11, 3, .ldc2_w 252, [60]), (14, 3, .invokestatic 211, [0, 159, 3, 999]), (17, 3, .ifCond .eq 43, []), (20, 1, .iload_n 3, []), (21, 1, .i2l, []),
  (22, 1, .aload_n 0, []), (23, 3, .getfield 37, [13, 16]), (26, 1, .iload_n 1, []), (27, 1, .iaload, []), (28, 1, .i2l, []), (29, 3, .ldc2_w 333, [3269]),
  (32, 3, .invokestatic 211, [0, 159, 3, 999]), (35, 3, .ifCond .eq 25, []), (38, 1, .aload_n 0, []), (39, 2, .iload 4, []), (41, 3, .invokevirtual 246, [0, 163, 2, 13]), (44, 3, .ifCond .eq 16, []),
  (47, 1, .aload_n 0, []), (48, 1, .iload_n 1, []), (49, 1, .iload_n 3, []), (50, 1, .aload_n 0, []), (51, 3, .getfield 225, [13, 3]), (54, 3, .invokevirtual 282, [0, 181, 4, 13]),
  (57, 3, .ifCond .ge 5, []), (60, 1, .lconst 0, []), (61, 1, .lreturn, []), (62, 1, .lconst 0, []), (63, 2, .lstore 5, []), (65, 1, .iconst 0, []),
  (66, 2, .istore 7, []), (68, 2, .iload 7, []), (70, 2, .bipush 12, []), (72, 3, .if_icmp .ge 31, []), (75, 2, .lload 5, []), (77, 1, .aload_n 0, []),
  (78, 2, .iload 4, []), (80, 1, .iload_n 3, []), (81, 2, .bipush 30, []), (83, 2, .iload 7, []), (85, 1, .imul, []), (86, 1, .iadd, []),
  (87, 1, .aload_n 0, []), (88, 3, .getfield 225, [13, 3]), (91, 3, .invokevirtual 329, [0, 198, 4, 13]), (94, 1, .lsub, []), (95, 2, .lstore 5, []), (97, 3, .iinc 7 1, []),
  (100, 3, .goto (-32), []), (103, 1, .aload_n 0, []), (104, 1, .iload_n 1, []), (105, 1, .iload_n 3, []), (106, 1, .iload_n 2, []), (107, 3, .invokevirtual 257, [0, 174, 4, 13]),
  (110, 1, .iconst 0, []), (111, 2, .istore 7, []), (113, 2, .iload 7, []), (115, 2, .bipush 12, []), (117, 3, .if_icmp .ge 31, []), (120, 2, .lload 5, []),
  (122, 1, .aload_n 0, []), (123, 2, .iload 4, []), (125, 1, .iload_n 3, []), (126, 2, .bipush 30, []), (128, 2, .iload 7, []), (130, 1, .imul, []),
  (131, 1, .iadd, []), (132, 1, .aload_n 0, []), (133, 3, .getfield 225, [13, 3]), (136, 3, .invokevirtual 329, [0, 198, 4, 13]), (139, 1, .ladd, []), (140, 2, .lstore 5, []),
  (142, 3, .iinc 7 1, []), (145, 3, .goto (-32), []), (148, 1, .aload_n 0, []), (149, 3, .getfield 49, [13, 20]), (152, 1, .iload_n 1, []), (153, 1, .dup2, []),
  (154, 1, .iaload, []), (155, 1, .iconst 1, []), (156, 1, .isub, []), (157, 1, .iastore, []), (158, 3, .ldc2_w 335, [30]), (161, 2, .lload 5, []),
  (163, 1, .lmul, []), (164, 1, .lreturn, [])]
set_option maxRecDepth 20000 in
def k_X12_measure : List az_I := [
  (0, 1, .aload_n 0, []), (1, 1, .iload_n 1, []), (2, 3, .invokevirtual 275, [0, 164, 2, 13]), (5, 3, .ifCond .eq 59, []), (8, 1, .iload_n 2, []), (9, 3, .invokestatic 228, [0, 161, 1, 999]),
  (12, 3, .ifCond .eq 52, []), (15, 1, .aload_n 0, []), (16, 1, .iload_n 3, []), (17, 3, .invokevirtual 249, [0, 162, 2, 13]), (20, 3, .ifCond .eq 44, []), (23, 1, .aload_n 0, []),
  (24, 1, .aload_n 0, []), (25, 3, .getfield 225, [13, 3]), (28, 1, .iload_n 2, []), (29, 3, .invokevirtual 242, [0, 168, 3, 13]), (32, 3, .ifCond .ne 32, []), (35, 1, .aload_n 0, []),
  (36, 3, .getfield 67, [13, 26]), (39, 1, .iload_n 1, []), (40, 1, .iaload, []), (41, 1, .aload_n 0, []), (42, 3, .getfield 225, [13, 3]), (45, 3, .if_icmp .eq 19, []),
  (48, 1, .aload_n 0, []), (49, 1, .iload_n 1, []), (50, 1, .aload_n 0, []), (51, 3, .getfield 225, [13, 3]), (54, 1, .aload_n 0, []), (55, 3, .getfield 225, [13, 3]),
  (58, 3, .invokevirtual 282, [0, 181, 4, 13]), (61, 3, .ifCond .ge 5, []), (64, 1, .iconst (-1), []), (65, 1, .ireturn, []), (66, 1, .aload_n 0, []), (67, 1, .iload_n 1, []),
  (68, 1, .aload_n 0, []), (69, 3, .getfield 225, [13, 3]), (72, 1, .aload_n 0, []), (73, 3, .getfield 225, [13, 3]), (76, 3, .invokevirtual 282, [0, 181, 4, 13]), (79, 2, .istore 4, []),
  (81, 1, .iconst (-1), []), (82, 2, .istore 5, []), (84, 1, .iconst 1, []), (85, 2, .istore 6, []), (87, 2, .iload 6, []), (89, 2, .bipush 61, []),
  (91, 3, .if_icmp .ge 68, []), (94, 1, .aload_n 0, []), (95, 1, .aload_n 0, []), (96, 3, .getfield 31, [13, 14]), (99, 1, .iload_n 1, []), (100, 1, .iaload, []),
  (101, 1, .aload_n 0, []), (102, 3, .getfield 43, [13, 18]), (105, 1, .iload_n 1, []), (106, 1, .iaload, []), (107, 1, .aload_n 0, []), (108, 3, .getfield 46, [13, 19]),
  (111, 1, .iload_n 1, []), (112, 1, .iaload, []), (113, 1, .aload_n 0, []), (114, 3, .getfield 225, [13, 3]), (117, 1, .iload_n 2, []), (118, 2, .iload 6, []),
  (120, 3, .invokevirtual 292, [0, 185, 7, 13]), (123, 1, .iload_n 3, []), (124, 3, .if_icmp .ne 29, []), (127, 2, .iload 5, []), (129, 3, .ifCond .lt 20, []), (132, 2, .iload 6, []),
  (134, 2, .iload 4, []), (136, 3, .invokestatic 337, [0, 202, 2, 999]), (139, 2, .iload 5, []), (141, 2, .iload 4, []), (143, 3, .invokestatic 337, [0, 202, 2, 999]), (146, 3, .if_icmp .ge 7, []),
  (149, 2, .iload 6, []), (151, 2, .istore 5, []), (153, 3, .iinc 6 1, []), (156, 3, .goto (-69), []), (159, 2, .iload 5, []), (161, 3, .ifCond .lt 21, []),
  (164, 2, .iload 5, []), (166, 2, .iload 4, []), (168, 3, .if_icmp .eq 16, []), (171, 1, .aload_n 0, []), (172, 3, .getfield 49, [13, 20]), (175, 1, .iload_n 1, []),
  (176, 1, .iaload, []), (177, 2, .bipush 40, []), (179, 3, .if_icmp .ne 5, []), (182, 1, .iconst (-1), []), (183, 1, .ireturn, []), (184, 2, .iload 5, []),
  (186, 2, .iload 4, []), (188, 3, .if_icmp .eq 120, []), (191, 1, .aload_n 0, []), (192, 3, .getfield 67, [13, 26]), (195, 1, .iload_n 1, []), (196, 1, .iaload, []),
  (197, 3, .ifCond .ge 12, []), (200, 1, .aload_n 0, []), (201, 3, .getfield 37, [13, 16]), (204, 1, .iload_n 1, []), (205, 1, .iaload, []), (206, 3, .goto 11, []),
  (209, 1, .aload_n 0, []), (210, 3, .getfield 67, [13, 26]), (213, 1, .iload_n 1, []), (214, 1, .iaload, []), (215, 1, .iconst 1, []), (216, 1, .iadd, []),
  (217, 2, .istore 6, []), (219, 1, .aload_n 0, []), (220, 3, .getfield 52, [13, 21]), (223, 1, .aload_n 0, []), (224, 1, .iload_n 1, []), (225, 1, .aload_n 0, []),
  (226, 3, .getfield 225, [13, 3]), (229, 1, .aload_n 0, []), (230, 3, .getfield 225, [13, 3]), (233, 3, .invokevirtual 278, [0, 180, 4, 13]), (236, 1, .iaload, []), (237, 2, .istore 7, []),
  (239, 2, .iload 7, []), (241, 2, .iload 6, []), (243, 3, .if_icmp .le 8, []), (246, 2, .iload 7, []), (248, 3, .goto 5, []), (251, 2, .iload 6, []),
  (253, 2, .istore 6, []), (255, 1, .aload_n 0, []), (256, 3, .getfield 28, [13, 13]), (259, 1, .iload_n 1, []), (260, 1, .iaload, []), (261, 1, .iconst 1, []),
  (262, 3, .if_icmp .ne 20, []), (265, 1, .aload_n 0, []), (266, 3, .getfield 225, [13, 3]), (269, 2, .iload 6, []), (271, 1, .isub, []), (272, 1, .aload_n 0, []),
  (273, 3, .getfield 40, [13, 17]), (276, 1, .iload_n 1, []), (277, 1, .iaload, []), (278, 1, .idiv, []), (279, 3, .goto 4, []), (282, 1, .iconst 0, []),
  (283, 2, .istore 8, []), (285, 1, .aload_n 0, []), (286, 1, .iload_n 1, []), (287, 2, .iload 6, []), (289, 2, .iload 5, []), (291, 2, .iload 8, []),
  (293, 3, .if_icmp .le 11, []), (296, 2, .iload 5, []), (298, 2, .iload 8, []), (300, 1, .isub, []), (301, 3, .goto 4, []), (304, 1, .iconst 0, []),
  (305, 3, .invokevirtual 257, [0, 174, 4, 13]), (308, 1, .aload_n 0, []), (309, 3, .getfield 67, [13, 26]), (312, 1, .iload_n 1, []), (313, 1, .aload_n 0, []), (314, 3, .getfield 225, [13, 3]),
  (317, 1, .iastore, []), (318, 1, .aload_n 0, []), (319, 1, .iload_n 1, []), (320, 1, .aload_n 0, []), (321, 3, .getfield 225, [13, 3]), (324, 1, .aload_n 0, []),
  (325, 3, .getfield 225, [13, 3]), (328, 3, .invokevirtual 282, [0, 181, 4, 13]), (331, 1, .ireturn, [])]
set_option maxRecDepth 20000 in
def k_X12_far : List az_I := [
  (0, 1, .iload_n 0, []), (1, 1, .iload_n 1, []), (2, 3, .if_icmp .le 9, []), (5, 1, .iload_n 0, []), (6, 1, .iload_n 1, []), (7, 1, .isub, []),
  (8, 3, .goto 6, []), (11, 1, .iload_n 1, []), (12, 1, .iload_n 0, []), (13, 1, .isub, []), (14, 1, .ireturn, [])]
set_option maxRecDepth 20000 in
def k_X12_thing : List az_I := [
  (0, 1, .aload_n 0, []), (1, 1, .iload_n 1, []), (2, 3, .invokevirtual 275, [0, 164, 2, 13]), (5, 3, .ifCond .ne 5, []), (8, 1, .iconst (-1), []), (9, 1, .ireturn, []),
  (10, 1, .iload_n 2, []), (11, 45, .tableswitch 101 0 7 #[45, 52, 59, 66, 73, 80, 87, 94], []), (56, 1, .aload_n 0, []), (57, 3, .getfield 28, [13, 13]), (60, 1, .iload_n 1, []), (61, 1, .iaload, []),
  (62, 1, .ireturn, []), (63, 1, .aload_n 0, []), (64, 3, .getfield 31, [13, 14]), (67, 1, .iload_n 1, []), (68, 1, .iaload, []), (69, 1, .ireturn, []),
  (70, 1, .aload_n 0, []), (71, 3, .getfield 34, [13, 15]), (74, 1, .iload_n 1, []), (75, 1, .iaload, []), (76, 1, .ireturn, []), (77, 1, .aload_n 0, []),
  (78, 3, .getfield 37, [13, 16]), (81, 1, .iload_n 1, []), (82, 1, .iaload, []), (83, 1, .ireturn, []), (84, 1, .aload_n 0, []), (85, 3, .getfield 49, [13, 20]),
  (88, 1, .iload_n 1, []), (89, 1, .iaload, []), (90, 1, .ireturn, []), (91, 1, .aload_n 0, []), (92, 3, .getfield 61, [13, 24]), (95, 1, .iload_n 1, []),
  (96, 1, .iaload, []), (97, 1, .ireturn, []), (98, 1, .aload_n 0, []), (99, 3, .getfield 67, [13, 26]), (102, 1, .iload_n 1, []), (103, 1, .iaload, []),
  (104, 1, .ireturn, []), (105, 1, .aload_n 0, []), (106, 3, .getfield 40, [13, 17]), (109, 1, .iload_n 1, []), (110, 1, .iaload, []), (111, 1, .ireturn, []),
  (112, 1, .iconst (-1), []), (113, 1, .ireturn, [])]
set_option maxRecDepth 20000 in
def k_X12_entry : List az_I := [
  (0, 1, .aload_n 0, []), (1, 1, .iload_n 1, []), (2, 3, .invokevirtual 275, [0, 164, 2, 13]), (5, 3, .ifCond .eq 21, []), (8, 1, .iload_n 2, []), (9, 1, .i2l, []),
  (10, 1, .lconst 0, []), (11, 1, .aload_n 0, []), (12, 3, .getfield 49, [13, 20]), (15, 1, .iload_n 1, []), (16, 1, .iaload, []), (17, 1, .iconst 1, []),
  (18, 1, .isub, []), (19, 1, .i2l, []), (20, 3, .invokestatic 211, [0, 159, 3, 999]), (23, 3, .ifCond .ne 5, []), (26, 1, .iconst (-1), []), (27, 1, .ireturn, []),
  (28, 2, .bipush 41, []), (30, 1, .iload_n 1, []), (31, 1, .imul, []), (32, 1, .iload_n 2, []), (33, 1, .iadd, []), (34, 2, .istore 4, []),
  (36, 1, .iload_n 3, []), (37, 3, .ifCond .ne 13, []), (40, 1, .aload_n 0, []), (41, 3, .getfield 52, [13, 21]), (44, 2, .iload 4, []), (46, 1, .iaload, []),
  (47, 3, .goto 34, []), (50, 1, .iload_n 3, []), (51, 1, .iconst 1, []), (52, 3, .if_icmp .ne 13, []), (55, 1, .aload_n 0, []), (56, 3, .getfield 55, [13, 22]),
  (59, 2, .iload 4, []), (61, 1, .iaload, []), (62, 3, .goto 19, []), (65, 1, .iload_n 3, []), (66, 1, .iconst 2, []), (67, 3, .if_icmp .ne 13, []),
  (70, 1, .aload_n 0, []), (71, 3, .getfield 58, [13, 23]), (74, 2, .iload 4, []), (76, 1, .iaload, []), (77, 3, .goto 4, []), (80, 1, .iconst (-1), []),
  (81, 1, .ireturn, [])]
set_option maxRecDepth 20000 in
def k_X12_put : List az_I := [
  (0, 1, .aload_n 0, []), (1, 3, .getfield 103, [13, 39]), (4, 1, .aload_n 0, []), (5, 3, .getfield 340, [13, 40]), (8, 1, .iload_n 1, []), (9, 2, .bipush 24, []),
  (11, 1, .ishr, []), (12, 1, .i2b, []), (13, 1, .bastore, []), (14, 1, .aload_n 0, []), (15, 3, .getfield 103, [13, 39]), (18, 1, .aload_n 0, []),
  (19, 3, .getfield 340, [13, 40]), (22, 1, .iconst 1, []), (23, 1, .iadd, []), (24, 1, .iload_n 1, []), (25, 2, .bipush 16, []), (27, 1, .ishr, []),
  (28, 1, .i2b, []), (29, 1, .bastore, []), (30, 1, .aload_n 0, []), (31, 3, .getfield 103, [13, 39]), (34, 1, .aload_n 0, []), (35, 3, .getfield 340, [13, 40]),
  (38, 1, .iconst 2, []), (39, 1, .iadd, []), (40, 1, .iload_n 1, []), (41, 2, .bipush 8, []), (43, 1, .ishr, []), (44, 1, .i2b, []),
  (45, 1, .bastore, []), (46, 1, .aload_n 0, []), (47, 3, .getfield 103, [13, 39]), (50, 1, .aload_n 0, []), (51, 3, .getfield 340, [13, 40]), (54, 1, .iconst 3, []),
  (55, 1, .iadd, []), (56, 1, .iload_n 1, []), (57, 1, .i2b, []), (58, 1, .bastore, []), (59, 1, .aload_n 0, []), (60, 1, .dup, []),
  (61, 3, .getfield 340, [13, 40]), (64, 1, .iconst 4, []), (65, 1, .iadd, []), (66, 3, .putfield 340, [13, 40]), (69, 1, .return_, [])]
set_option maxRecDepth 20000 in
def k_X12_feed : List az_I := [
  (0, 1, .aload_n 0, []), (1, 3, .getfield 340, [13, 40]), (4, 2, .bipush 20, []), (6, 1, .iadd, []), (7, 3, .sipush 400, []), (10, 3, .if_icmp .le 5, []),
  (13, 1, .iconst (-1), []), (14, 1, .ireturn, []), (15, 1, .aload_n 0, []), (16, 1, .iload_n 1, []), (17, 3, .invokevirtual 343, [0, 205, 2, 13]), (20, 1, .aload_n 0, []),
  (21, 1, .iload_n 2, []), (22, 3, .invokevirtual 343, [0, 205, 2, 13]), (25, 1, .aload_n 0, []), (26, 1, .iload_n 3, []), (27, 3, .invokevirtual 343, [0, 205, 2, 13]), (30, 1, .aload_n 0, []),
  (31, 2, .iload 4, []), (33, 3, .invokevirtual 343, [0, 205, 2, 13]), (36, 1, .aload_n 0, []), (37, 2, .iload 5, []), (39, 3, .invokevirtual 343, [0, 205, 2, 13]), (42, 1, .aload_n 0, []),
  (43, 3, .getfield 340, [13, 40]), (46, 1, .ireturn, [])]
set_option maxRecDepth 20000 in
def k_X12_end : List az_I := [
  (0, 1, .iload_n 1, []), (1, 1, .i2l, []), (2, 1, .lconst 0, []), (3, 1, .aload_n 0, []), (4, 3, .getfield 340, [13, 40]), (7, 1, .i2l, []),
  (8, 3, .invokestatic 211, [0, 159, 3, 999]), (11, 3, .ifCond .ne 5, []), (14, 1, .iconst (-1), []), (15, 1, .ireturn, []), (16, 1, .aload_n 0, []), (17, 1, .iload_n 1, []),
  (18, 3, .putfield 340, [13, 40]), (21, 1, .iload_n 1, []), (22, 1, .ireturn, [])]
set_option maxRecDepth 20000 in
def k_X12_isLetter : List az_I := [
  (0, 1, .iload_n 0, []), (1, 1, .i2l, []), (2, 3, .ldc2_w 347, [97]), (5, 3, .ldc2_w 349, [122]), (8, 3, .invokestatic 211, [0, 159, 3, 999]), (11, 3, .ifCond .ne 17, []),
  (14, 1, .iload_n 0, []), (15, 1, .i2l, []), (16, 3, .ldc2_w 351, [65]), (19, 3, .ldc2_w 353, [90]), (22, 3, .invokestatic 211, [0, 159, 3, 999]), (25, 3, .ifCond .eq 7, []),
  (28, 1, .iconst 1, []), (29, 3, .goto 4, []), (32, 1, .iconst 0, []), (33, 1, .ireturn, [])]
set_option maxRecDepth 20000 in
def k_X12_wordOf : List az_I := [
  (0, 1, .lload_n 0, []), (1, 3, .ldc2_w 355, [14584174]), (4, 1, .lcmp, []), (5, 3, .ifCond .ne 5, []), (8, 1, .iconst 0, []), (9, 1, .ireturn, []),
  (10, 1, .lload_n 0, []), (11, 3, .ldc2_w 357, [10395045]), (14, 1, .lcmp, []), (15, 3, .ifCond .ne 5, []), (18, 1, .iconst 1, []), (19, 1, .ireturn, []),
  (20, 1, .lload_n 0, []), (21, 3, .ldc2_w 359, [3058]), (24, 1, .lcmp, []), (25, 3, .ifCond .ne 5, []), (28, 1, .iconst 2, []), (29, 1, .ireturn, []),
  (30, 1, .lload_n 0, []), (31, 3, .ldc2_w 361, [138148]), (34, 1, .lcmp, []), (35, 3, .ifCond .ne 5, []), (38, 1, .iconst 3, []), (39, 1, .ireturn, []),
  (40, 1, .lload_n 0, []), (41, 3, .ldc2_w 363, [191476]), (44, 1, .lcmp, []), (45, 3, .ifCond .ne 5, []), (48, 1, .iconst 4, []), (49, 1, .ireturn, []),
  (50, 1, .lload_n 0, []), (51, 3, .ldc2_w 365, [186990]), (54, 1, .lcmp, []), (55, 3, .ifCond .ne 5, []), (58, 1, .iconst 5, []), (59, 1, .ireturn, []),
  (60, 1, .lload_n 0, []), (61, 3, .ldc2_w 367, [186488]), (64, 1, .lcmp, []), (65, 3, .ifCond .ne 6, []), (68, 2, .bipush 6, []), (70, 1, .ireturn, []),
  (71, 1, .lload_n 0, []), (72, 3, .ldc2_w 369, [10681714]), (75, 1, .lcmp, []), (76, 3, .ifCond .ne 6, []), (79, 2, .bipush 7, []), (81, 1, .ireturn, []),
  (82, 1, .lload_n 0, []), (83, 3, .ldc2_w 371, [767487272]), (86, 1, .lcmp, []), (87, 3, .ifCond .ne 6, []), (90, 2, .bipush 8, []), (92, 1, .ireturn, []),
  (93, 1, .lload_n 0, []), (94, 3, .ldc2_w 373, [149625]), (97, 1, .lcmp, []), (98, 3, .ifCond .ne 6, []), (101, 2, .bipush 9, []), (103, 1, .ireturn, []),
  (104, 1, .lload_n 0, []), (105, 3, .ldc2_w 375, [43581340212]), (108, 1, .lcmp, []), (109, 3, .ifCond .ne 6, []), (112, 2, .bipush 10, []), (114, 1, .ireturn, []),
  (115, 1, .lload_n 0, []), (116, 3, .ldc2_w 377, [11934649]), (119, 1, .lcmp, []), (120, 3, .ifCond .ne 6, []), (123, 2, .bipush 11, []), (125, 1, .ireturn, []),
  (126, 1, .lload_n 0, []), (127, 3, .ldc2_w 379, [11443108]), (130, 1, .lcmp, []), (131, 3, .ifCond .ne 6, []), (134, 2, .bipush 12, []), (136, 1, .ireturn, []),
  (137, 1, .lload_n 0, []), (138, 3, .ldc2_w 381, [883071911]), (141, 1, .lcmp, []), (142, 3, .ifCond .ne 6, []), (145, 2, .bipush 13, []), (147, 1, .ireturn, []),
  (148, 1, .lload_n 0, []), (149, 3, .ldc2_w 383, [869407532]), (152, 1, .lcmp, []), (153, 3, .ifCond .ne 6, []), (156, 2, .bipush 14, []), (158, 1, .ireturn, []),
  (159, 1, .iconst (-1), []), (160, 1, .ireturn, [])]
set_option maxRecDepth 20000 in
def k_X12_next : List az_I := [
  (0, 1, .aload_n 0, []), (1, 3, .getfield 385, [13, 42]), (4, 1, .aload_n 0, []), (5, 3, .getfield 388, [13, 41]), (8, 3, .if_icmp .ge 44, []), (11, 1, .aload_n 0, []),
  (12, 3, .getfield 103, [13, 39]), (15, 1, .aload_n 0, []), (16, 3, .getfield 385, [13, 42]), (19, 1, .baload, []), (20, 2, .bipush 32, []), (22, 3, .if_icmp .eq 17, []),
  (25, 1, .aload_n 0, []), (26, 3, .getfield 103, [13, 39]), (29, 1, .aload_n 0, []), (30, 3, .getfield 385, [13, 42]), (33, 1, .baload, []), (34, 2, .bipush 10, []),
  (36, 3, .if_icmp .ne 16, []), (39, 1, .aload_n 0, []), (40, 1, .dup, []), (41, 3, .getfield 385, [13, 42]), (44, 1, .iconst 1, []), (45, 1, .iadd, []),
  (46, 3, .putfield 385, [13, 42]), (49, 3, .goto (-49), []), (52, 1, .aload_n 0, []), (53, 1, .aload_n 0, []), (54, 3, .getfield 385, [13, 42]), (57, 3, .putfield 391, [13, 43]),
  (60, 1, .aload_n 0, []), (61, 3, .getfield 385, [13, 42]), (64, 1, .aload_n 0, []), (65, 3, .getfield 388, [13, 41]), (68, 3, .if_icmp .ne 9, []), (71, 1, .aload_n 0, []),
  (72, 1, .iconst 0, []), (73, 3, .putfield 394, [13, 44]), (76, 1, .return_, []), (77, 1, .aload_n 0, []), (78, 3, .getfield 103, [13, 39]), (81, 1, .aload_n 0, []),
  (82, 3, .getfield 385, [13, 42]), (85, 1, .baload, []), (86, 1, .istore_n 1, []), (87, 1, .iload_n 1, []), (88, 3, .invokestatic 397, [0, 208, 1, 999]), (91, 3, .ifCond .eq 120, []),
  (94, 1, .lconst 0, []), (95, 1, .lstore_n 2, []), (96, 1, .iconst 0, []), (97, 2, .istore 4, []), (99, 1, .aload_n 0, []), (100, 3, .getfield 385, [13, 42]),
  (103, 1, .aload_n 0, []), (104, 3, .getfield 388, [13, 41]), (107, 3, .if_icmp .ge 66, []), (110, 1, .aload_n 0, []), (111, 3, .getfield 103, [13, 39]), (114, 1, .aload_n 0, []),
  (115, 3, .getfield 385, [13, 42]), (118, 1, .baload, []), (119, 3, .invokestatic 397, [0, 208, 1, 999]), (122, 3, .ifCond .eq 51, []), (125, 2, .iload 4, []), (127, 2, .bipush 8, []),
  (129, 3, .if_icmp .ge 26, []), (132, 3, .ldc2_w 400, [64]), (135, 1, .lload_n 2, []), (136, 1, .lmul, []), (137, 1, .aload_n 0, []), (138, 3, .getfield 103, [13, 39]),
  (141, 1, .aload_n 0, []), (142, 3, .getfield 385, [13, 42]), (145, 1, .baload, []), (146, 1, .i2l, []), (147, 1, .ladd, []), (148, 3, .ldc2_w 400, [64]),
  (151, 1, .lsub, []), (152, 3, .goto 4, []), (155, 1, .lload_n 2, []), (156, 1, .lstore_n 2, []), (157, 3, .iinc 4 1, []), (160, 1, .aload_n 0, []),
  (161, 1, .dup, []), (162, 3, .getfield 385, [13, 42]), (165, 1, .iconst 1, []), (166, 1, .iadd, []), (167, 3, .putfield 385, [13, 42]), (170, 3, .goto (-71), []),
  (173, 1, .aload_n 0, []), (174, 2, .iload 4, []), (176, 2, .bipush 6, []), (178, 3, .if_icmp .le 7, []), (181, 1, .iconst (-1), []), (182, 3, .goto 7, []),
  (185, 1, .lload_n 2, []), (186, 3, .invokestatic 402, [0, 209, 1, 999]), (189, 3, .putfield 406, [13, 45]), (192, 1, .aload_n 0, []), (193, 1, .aload_n 0, []), (194, 3, .getfield 406, [13, 45]),
  (197, 3, .ifCond .ge 7, []), (200, 1, .iconst 4, []), (201, 3, .goto 4, []), (204, 1, .iconst 1, []), (205, 3, .putfield 394, [13, 44]), (208, 3, .goto 211, []),
  (211, 1, .iload_n 1, []), (212, 1, .i2l, []), (213, 3, .ldc2_w 409, [48]), (216, 3, .ldc2_w 411, [57]), (219, 3, .invokestatic 211, [0, 159, 3, 999]), (222, 3, .ifCond .eq 100, []),
  (225, 1, .aload_n 0, []), (226, 1, .iconst 2, []), (227, 3, .putfield 394, [13, 44]), (230, 1, .aload_n 0, []), (231, 1, .iconst 0, []), (232, 3, .putfield 406, [13, 45]),
  (235, 1, .aload_n 0, []), (236, 3, .getfield 385, [13, 42]), (239, 1, .aload_n 0, []), (240, 3, .getfield 388, [13, 41]), (243, 3, .if_icmp .ge 176, []), (246, 1, .aload_n 0, []),
  (247, 3, .getfield 103, [13, 39]), (250, 1, .aload_n 0, []), (251, 3, .getfield 385, [13, 42]), (254, 1, .baload, []), (255, 1, .i2l, []), (256, 3, .ldc2_w 409, [48]),
  (259, 3, .ldc2_w 411, [57]), (262, 3, .invokestatic 211, [0, 159, 3, 999]), (265, 3, .ifCond .eq 154, []), (268, 1, .aload_n 0, []), (269, 1, .aload_n 0, []), (270, 3, .getfield 406, [13, 45]),
  (273, 3, .ldc_w 413, [0, 999999]), (276, 3, .if_icmp .le 10, []), (279, 1, .aload_n 0, []), (280, 3, .getfield 406, [13, 45]), (283, 3, .goto 23, []), (286, 2, .bipush 10, []),
  (288, 1, .aload_n 0, []), (289, 3, .getfield 406, [13, 45]), (292, 1, .imul, []), (293, 1, .aload_n 0, []), (294, 3, .getfield 103, [13, 39]), (297, 1, .aload_n 0, []),
  (298, 3, .getfield 385, [13, 42]), (301, 1, .baload, []), (302, 1, .iadd, []), (303, 2, .bipush 48, []), (305, 1, .isub, []), (306, 3, .putfield 406, [13, 45]),
  (309, 1, .aload_n 0, []), (310, 1, .dup, []), (311, 3, .getfield 385, [13, 42]), (314, 1, .iconst 1, []), (315, 1, .iadd, []), (316, 3, .putfield 385, [13, 42]),
  (319, 3, .goto (-84), []), (322, 1, .aload_n 0, []), (323, 1, .dup, []), (324, 3, .getfield 385, [13, 42]), (327, 1, .iconst 1, []), (328, 1, .iadd, []),
  (329, 3, .putfield 385, [13, 42]), (332, 1, .aload_n 0, []), (333, 1, .iload_n 1, []), (334, 3, .putfield 406, [13, 45]), (337, 1, .aload_n 0, []), (338, 1, .iload_n 1, []),
  (339, 3, .invokestatic 414, [0, 211, 1, 999]), (342, 3, .ifCond .eq 7, []), (345, 1, .iconst 3, []), (346, 3, .goto 4, []), (349, 1, .iconst 4, []), (350, 3, .putfield 394, [13, 44]),
  (353, 1, .iload_n 1, []), (354, 2, .bipush 60, []), (356, 3, .if_icmp .eq 9, []), (359, 1, .iload_n 1, []), (360, 2, .bipush 62, []), (362, 3, .if_icmp .ne 57, []),
  (365, 1, .aload_n 0, []), (366, 3, .getfield 385, [13, 42]), (369, 1, .aload_n 0, []), (370, 3, .getfield 388, [13, 41]), (373, 3, .if_icmp .ge 46, []), (376, 1, .aload_n 0, []),
  (377, 3, .getfield 103, [13, 39]), (380, 1, .aload_n 0, []), (381, 3, .getfield 385, [13, 42]), (384, 1, .baload, []), (385, 2, .bipush 61, []), (387, 3, .if_icmp .ne 32, []),
  (390, 1, .aload_n 0, []), (391, 1, .iload_n 1, []), (392, 2, .bipush 60, []), (394, 3, .if_icmp .ne 9, []), (397, 3, .sipush 300, []), (400, 3, .goto 6, []),
  (403, 3, .sipush 301, []), (406, 3, .putfield 406, [13, 45]), (409, 1, .aload_n 0, []), (410, 1, .dup, []), (411, 3, .getfield 385, [13, 42]), (414, 1, .iconst 1, []),
  (415, 1, .iadd, []), (416, 3, .putfield 385, [13, 42]), (419, 1, .return_, [])]
set_option maxRecDepth 20000 in
def k_X12_isSignByte : List az_I := [
  (0, 1, .iload_n 0, []), (1, 1, .i2l, []), (2, 3, .ldc2_w 417, [59]), (5, 3, .ldc2_w 419, [62]), (8, 3, .invokestatic 211, [0, 159, 3, 999]), (11, 3, .ifCond .ne 63, []),
  (14, 1, .iload_n 0, []), (15, 2, .bipush 35, []), (17, 3, .if_icmp .eq 57, []), (20, 1, .iload_n 0, []), (21, 2, .bipush 43, []), (23, 3, .if_icmp .eq 51, []),
  (26, 1, .iload_n 0, []), (27, 2, .bipush 45, []), (29, 3, .if_icmp .eq 45, []), (32, 1, .iload_n 0, []), (33, 2, .bipush 42, []), (35, 3, .if_icmp .eq 39, []),
  (38, 1, .iload_n 0, []), (39, 2, .bipush 47, []), (41, 3, .if_icmp .eq 33, []), (44, 1, .iload_n 0, []), (45, 2, .bipush 40, []), (47, 3, .if_icmp .eq 27, []),
  (50, 1, .iload_n 0, []), (51, 2, .bipush 41, []), (53, 3, .if_icmp .eq 21, []), (56, 1, .iload_n 0, []), (57, 2, .bipush 91, []), (59, 3, .if_icmp .eq 15, []),
  (62, 1, .iload_n 0, []), (63, 2, .bipush 93, []), (65, 3, .if_icmp .eq 9, []), (68, 1, .iload_n 0, []), (69, 2, .bipush 44, []), (71, 3, .if_icmp .ne 7, []),
  (74, 1, .iconst 1, []), (75, 3, .goto 4, []), (78, 1, .iconst 0, []), (79, 1, .ireturn, [])]
set_option maxRecDepth 20000 in
def k_X12_isSign : List az_I := [
  (0, 1, .aload_n 0, []), (1, 3, .getfield 394, [13, 44]), (4, 1, .iconst 3, []), (5, 3, .if_icmp .ne 15, []), (8, 1, .aload_n 0, []), (9, 3, .getfield 406, [13, 45]),
  (12, 1, .iload_n 1, []), (13, 3, .if_icmp .ne 7, []), (16, 1, .iconst 1, []), (17, 3, .goto 4, []), (20, 1, .iconst 0, []), (21, 1, .ireturn, [])]
set_option maxRecDepth 20000 in
def k_X12_isWord : List az_I := [
  (0, 1, .aload_n 0, []), (1, 3, .getfield 394, [13, 44]), (4, 1, .iconst 1, []), (5, 3, .if_icmp .ne 15, []), (8, 1, .aload_n 0, []), (9, 3, .getfield 406, [13, 45]),
  (12, 1, .iload_n 1, []), (13, 3, .if_icmp .ne 7, []), (16, 1, .iconst 1, []), (17, 3, .goto 4, []), (20, 1, .iconst 0, []), (21, 1, .ireturn, [])]
set_option maxRecDepth 20000 in
def k_X12_errs : List az_I := [
  (0, 1, .aload_n 0, []), (1, 3, .getfield 421, [13, 46]), (4, 3, .ifCond .ne 16, []), (7, 1, .aload_n 0, []), (8, 1, .iload_n 1, []), (9, 3, .putfield 421, [13, 46]),
  (12, 1, .aload_n 0, []), (13, 1, .aload_n 0, []), (14, 3, .getfield 391, [13, 43]), (17, 3, .putfield 424, [13, 47]), (20, 1, .return_, [])]
set_option maxRecDepth 20000 in
def k_X12_emits : List az_I := [
  (0, 1, .aload_n 0, []), (1, 3, .getfield 114, [13, 52]), (4, 1, .aload_n 0, []), (5, 3, .getfield 427, [13, 50]), (8, 1, .iload_n 1, []), (9, 1, .iastore, []),
  (10, 1, .aload_n 0, []), (11, 3, .getfield 117, [13, 53]), (14, 1, .aload_n 0, []), (15, 3, .getfield 427, [13, 50]), (18, 1, .iload_n 2, []), (19, 1, .iastore, []),
  (20, 1, .aload_n 0, []), (21, 1, .dup, []), (22, 3, .getfield 427, [13, 50]), (25, 1, .iconst 1, []), (26, 1, .iadd, []), (27, 3, .putfield 427, [13, 50]),
  (30, 1, .return_, [])]
set_option maxRecDepth 20000 in
def k_X12_opensFrame : List az_I := [
  (0, 1, .aload_n 0, []), (1, 3, .getfield 126, [13, 59]), (4, 1, .aload_n 0, []), (5, 3, .getfield 430, [13, 58]), (8, 1, .iload_n 1, []), (9, 1, .iastore, []),
  (10, 1, .aload_n 0, []), (11, 1, .dup, []), (12, 3, .getfield 430, [13, 58]), (15, 1, .iconst 1, []), (16, 1, .iadd, []), (17, 3, .putfield 430, [13, 58]),
  (20, 1, .return_, [])]
set_option maxRecDepth 20000 in
def k_X12_top : List az_I := [
  (0, 1, .aload_n 0, []), (1, 3, .getfield 126, [13, 59]), (4, 1, .aload_n 0, []), (5, 3, .getfield 430, [13, 58]), (8, 1, .iconst 1, []), (9, 1, .isub, []),
  (10, 1, .iaload, []), (11, 1, .ireturn, [])]
set_option maxRecDepth 20000 in
def k_X12_opensSign : List az_I := [
  (0, 1, .aload_n 0, []), (1, 3, .getfield 433, [13, 63]), (4, 2, .bipush 10, []), (6, 3, .if_icmp .ne 10, []), (9, 1, .aload_n 0, []), (10, 1, .iconst 3, []),
  (11, 3, .invokevirtual 436, [0, 214, 2, 13]), (14, 1, .iconst 0, []), (15, 1, .ireturn, []), (16, 1, .aload_n 0, []), (17, 1, .dup, []), (18, 3, .getfield 433, [13, 63]),
  (21, 1, .iconst 1, []), (22, 1, .iadd, []), (23, 3, .putfield 433, [13, 63]), (26, 1, .aload_n 0, []), (27, 1, .iload_n 1, []), (28, 3, .invokevirtual 439, [0, 216, 2, 13]),
  (31, 1, .aload_n 0, []), (32, 3, .invokevirtual 442, [0, 210, 1, 13]), (35, 1, .iconst 1, []), (36, 1, .ireturn, [])]
set_option maxRecDepth 20000 in
def k_X12_rank : List az_I := [
  (0, 1, .iload_n 0, []), (1, 3, .sipush 407, []), (4, 3, .if_icmp .ne 7, []), (7, 1, .iconst 1, []), (8, 3, .goto 31, []), (11, 1, .iload_n 0, []),
  (12, 3, .sipush 406, []), (15, 3, .if_icmp .ne 7, []), (18, 1, .iconst 2, []), (19, 3, .goto 20, []), (22, 1, .iload_n 0, []), (23, 2, .bipush 43, []),
  (25, 3, .if_icmp .eq 9, []), (28, 1, .iload_n 0, []), (29, 2, .bipush 45, []), (31, 3, .if_icmp .ne 7, []), (34, 1, .iconst 3, []), (35, 3, .goto 4, []),
  (38, 1, .iconst 4, []), (39, 1, .ireturn, [])]
set_option maxRecDepth 20000 in
def k_X12_works : List az_I := [
  (0, 1, .aload_n 0, []), (1, 3, .getfield 445, [13, 60]), (4, 3, .ifCond .le 66, []), (7, 1, .aload_n 0, []), (8, 3, .getfield 132, [13, 62]), (11, 1, .aload_n 0, []),
  (12, 3, .getfield 445, [13, 60]), (15, 1, .iconst 1, []), (16, 1, .isub, []), (17, 1, .iaload, []), (18, 1, .aload_n 0, []), (19, 3, .getfield 430, [13, 58]),
  (22, 3, .if_icmp .ne 48, []), (25, 1, .aload_n 0, []), (26, 3, .getfield 129, [13, 61]), (29, 1, .aload_n 0, []), (30, 3, .getfield 445, [13, 60]), (33, 1, .iconst 1, []),
  (34, 1, .isub, []), (35, 1, .iaload, []), (36, 3, .invokestatic 448, [0, 219, 1, 999]), (39, 1, .iload_n 1, []), (40, 3, .if_icmp .lt 30, []), (43, 1, .aload_n 0, []),
  (44, 1, .dup, []), (45, 3, .getfield 445, [13, 60]), (48, 1, .iconst 1, []), (49, 1, .isub, []), (50, 3, .putfield 445, [13, 60]), (53, 1, .aload_n 0, []),
  (54, 1, .aload_n 0, []), (55, 3, .getfield 129, [13, 61]), (58, 1, .aload_n 0, []), (59, 3, .getfield 445, [13, 60]), (62, 1, .iaload, []), (63, 1, .iconst 0, []),
  (64, 3, .invokevirtual 451, [0, 215, 3, 13]), (67, 3, .goto (-67), []), (70, 1, .return_, [])]
set_option maxRecDepth 20000 in
def k_X12_waitsFor : List az_I := [
  (0, 1, .aload_n 0, []), (1, 1, .iload_n 1, []), (2, 3, .invokestatic 448, [0, 219, 1, 999]), (5, 3, .invokevirtual 455, [0, 220, 2, 13]), (8, 1, .aload_n 0, []), (9, 3, .getfield 129, [13, 61]),
  (12, 1, .aload_n 0, []), (13, 3, .getfield 445, [13, 60]), (16, 1, .iload_n 1, []), (17, 1, .iastore, []), (18, 1, .aload_n 0, []), (19, 3, .getfield 132, [13, 62]),
  (22, 1, .aload_n 0, []), (23, 3, .getfield 445, [13, 60]), (26, 1, .aload_n 0, []), (27, 3, .getfield 430, [13, 58]), (30, 1, .iastore, []), (31, 1, .aload_n 0, []),
  (32, 1, .dup, []), (33, 3, .getfield 445, [13, 60]), (36, 1, .iconst 1, []), (37, 1, .iadd, []), (38, 3, .putfield 445, [13, 60]), (41, 1, .aload_n 0, []),
  (42, 3, .invokevirtual 442, [0, 210, 1, 13]), (45, 1, .return_, [])]
set_option maxRecDepth 20000 in
def k_X12_asks : List az_I := [
  (0, 1, .aload_n 0, []), (1, 1, .iconst 4, []), (2, 3, .invokevirtual 458, [0, 213, 2, 13]), (5, 3, .ifCond .eq 19, []), (8, 1, .aload_n 0, []), (9, 1, .iconst 4, []),
  (10, 3, .invokevirtual 461, [0, 218, 2, 13]), (13, 3, .ifCond .eq 46, []), (16, 1, .aload_n 0, []), (17, 1, .iconst 0, []), (18, 3, .putfield 464, [13, 78]), (21, 3, .goto 38, []),
  (24, 1, .aload_n 0, []), (25, 2, .bipush 91, []), (27, 3, .invokevirtual 467, [0, 212, 2, 13]), (30, 3, .ifCond .eq 19, []), (33, 1, .aload_n 0, []), (34, 1, .iconst 3, []),
  (35, 3, .invokevirtual 461, [0, 218, 2, 13]), (38, 3, .ifCond .eq 21, []), (41, 1, .aload_n 0, []), (42, 1, .iconst 0, []), (43, 3, .putfield 464, [13, 78]), (46, 3, .goto 13, []),
  (49, 1, .aload_n 0, []), (50, 1, .iconst 5, []), (51, 3, .invokevirtual 439, [0, 216, 2, 13]), (54, 1, .aload_n 0, []), (55, 1, .iconst 1, []), (56, 3, .putfield 464, [13, 78]),
  (59, 1, .return_, [])]
set_option maxRecDepth 20000 in
def k_X12_begins : List az_I := [
  (0, 1, .aload_n 0, []), (1, 3, .getfield 394, [13, 44]), (4, 1, .iconst 2, []), (5, 3, .if_icmp .ne 41, []), (8, 1, .aload_n 0, []), (9, 3, .getfield 406, [13, 45]),
  (12, 3, .ldc_w 470, [0, 100000]), (15, 3, .if_icmp .le 9, []), (18, 1, .aload_n 0, []), (19, 1, .iconst 2, []), (20, 3, .invokevirtual 436, [0, 214, 2, 13]), (23, 1, .return_, []),
  (24, 1, .aload_n 0, []), (25, 3, .sipush 400, []), (28, 1, .aload_n 0, []), (29, 3, .getfield 406, [13, 45]), (32, 3, .invokevirtual 451, [0, 215, 3, 13]), (35, 1, .aload_n 0, []),
  (36, 3, .invokevirtual 442, [0, 210, 1, 13]), (39, 1, .aload_n 0, []), (40, 3, .invokevirtual 471, [0, 224, 1, 13]), (43, 3, .goto 153, []), (46, 1, .aload_n 0, []), (47, 3, .getfield 394, [13, 44]),
  (50, 1, .iconst 1, []), (51, 3, .if_icmp .ne 37, []), (54, 1, .aload_n 0, []), (55, 3, .getfield 406, [13, 45]), (58, 2, .bipush 7, []), (60, 3, .if_icmp .lt 28, []),
  (63, 1, .aload_n 0, []), (64, 3, .sipush 401, []), (67, 1, .aload_n 0, []), (68, 3, .getfield 406, [13, 45]), (71, 2, .bipush 7, []), (73, 1, .isub, []),
  (74, 3, .invokevirtual 451, [0, 215, 3, 13]), (77, 1, .aload_n 0, []), (78, 3, .invokevirtual 442, [0, 210, 1, 13]), (81, 1, .aload_n 0, []), (82, 3, .invokevirtual 471, [0, 224, 1, 13]), (85, 3, .goto 111, []),
  (88, 1, .aload_n 0, []), (89, 2, .bipush 40, []), (91, 3, .invokevirtual 467, [0, 212, 2, 13]), (94, 3, .ifCond .eq 13, []), (97, 1, .aload_n 0, []), (98, 2, .bipush 7, []),
  (100, 3, .invokevirtual 461, [0, 218, 2, 13]), (103, 1, .istore_n 1, []), (104, 3, .goto 92, []), (107, 1, .aload_n 0, []), (108, 2, .bipush 45, []), (110, 3, .invokevirtual 467, [0, 212, 2, 13]),
  (113, 3, .ifCond .eq 13, []), (116, 1, .aload_n 0, []), (117, 2, .bipush 8, []), (119, 3, .invokevirtual 461, [0, 218, 2, 13]), (122, 1, .istore_n 1, []), (123, 3, .goto 73, []),
  (126, 1, .aload_n 0, []), (127, 1, .iconst 5, []), (128, 3, .invokevirtual 458, [0, 213, 2, 13]), (131, 3, .ifCond .ne 12, []), (134, 1, .aload_n 0, []), (135, 2, .bipush 6, []),
  (137, 3, .invokevirtual 458, [0, 213, 2, 13]), (140, 3, .ifCond .eq 51, []), (143, 1, .aload_n 0, []), (144, 3, .getfield 406, [13, 45]), (147, 1, .istore_n 1, []), (148, 1, .aload_n 0, []),
  (149, 3, .invokevirtual 442, [0, 210, 1, 13]), (152, 1, .aload_n 0, []), (153, 2, .bipush 40, []), (155, 3, .invokevirtual 467, [0, 212, 2, 13]), (158, 3, .ifCond .ne 11, []), (161, 1, .aload_n 0, []),
  (162, 1, .iconst 1, []), (163, 3, .invokevirtual 436, [0, 214, 2, 13]), (166, 3, .goto 22, []), (169, 1, .aload_n 0, []), (170, 2, .bipush 9, []), (172, 3, .invokevirtual 461, [0, 218, 2, 13]),
  (175, 3, .ifCond .eq 13, []), (178, 1, .aload_n 0, []), (179, 3, .getfield 173, [13, 77]), (182, 1, .aload_n 0, []), (183, 3, .getfield 430, [13, 58]), (186, 1, .iload_n 1, []),
  (187, 1, .iastore, []), (188, 3, .goto 8, []), (191, 1, .aload_n 0, []), (192, 1, .iconst 1, []), (193, 3, .invokevirtual 436, [0, 214, 2, 13]), (196, 1, .return_, [])]
set_option maxRecDepth 20000 in
def k_X12_oneIsOver : List az_I := [
  (0, 1, .aload_n 0, []), (1, 3, .invokevirtual 474, [0, 217, 1, 13]), (4, 2, .bipush 8, []), (6, 3, .if_icmp .ne 34, []), (9, 1, .aload_n 0, []), (10, 1, .dup, []),
  (11, 3, .getfield 430, [13, 58]), (14, 1, .iconst 1, []), (15, 1, .isub, []), (16, 3, .putfield 430, [13, 58]), (19, 1, .aload_n 0, []), (20, 1, .dup, []),
  (21, 3, .getfield 433, [13, 63]), (24, 1, .iconst 1, []), (25, 1, .isub, []), (26, 3, .putfield 433, [13, 63]), (29, 1, .aload_n 0, []), (30, 3, .sipush 402, []),
  (33, 1, .iconst 0, []), (34, 3, .invokevirtual 451, [0, 215, 3, 13]), (37, 3, .goto (-37), []), (40, 1, .aload_n 0, []), (41, 1, .iconst 2, []), (42, 3, .putfield 464, [13, 78]),
  (45, 1, .return_, [])]
set_option maxRecDepth 20000 in
def k_X12_askIsOver : List az_I := [
  (0, 1, .aload_n 0, []), (1, 3, .invokevirtual 474, [0, 217, 1, 13]), (4, 1, .iconst 4, []), (5, 3, .if_icmp .ne 34, []), (8, 1, .aload_n 0, []), (9, 1, .dup, []),
  (10, 3, .getfield 430, [13, 58]), (13, 1, .iconst 1, []), (14, 1, .isub, []), (15, 3, .putfield 430, [13, 58]), (18, 1, .aload_n 0, []), (19, 1, .dup, []),
  (20, 3, .getfield 433, [13, 63]), (23, 1, .iconst 1, []), (24, 1, .isub, []), (25, 3, .putfield 433, [13, 63]), (28, 1, .aload_n 0, []), (29, 3, .sipush 405, []),
  (32, 1, .iconst 0, []), (33, 3, .invokevirtual 451, [0, 215, 3, 13]), (36, 3, .goto (-36), []), (39, 1, .aload_n 0, []), (40, 1, .iconst 3, []), (41, 3, .putfield 464, [13, 78]),
  (44, 1, .return_, [])]
set_option maxRecDepth 20000 in
def k_X12_isAsking : List az_I := [
  (0, 1, .iload_n 0, []), (1, 2, .bipush 60, []), (3, 3, .if_icmp .eq 35, []), (6, 1, .iload_n 0, []), (7, 2, .bipush 62, []), (9, 3, .if_icmp .eq 29, []),
  (12, 1, .iload_n 0, []), (13, 2, .bipush 61, []), (15, 3, .if_icmp .eq 23, []), (18, 1, .iload_n 0, []), (19, 2, .bipush 35, []), (21, 3, .if_icmp .eq 17, []),
  (24, 1, .iload_n 0, []), (25, 3, .sipush 300, []), (28, 3, .if_icmp .eq 10, []), (31, 1, .iload_n 0, []), (32, 3, .sipush 301, []), (35, 3, .if_icmp .ne 7, []),
  (38, 1, .iconst 1, []), (39, 3, .goto 4, []), (42, 1, .iconst 0, []), (43, 1, .ireturn, [])]
set_option maxRecDepth 20000 in
def k_X12_goesOn : List az_I := [
  (0, 1, .aload_n 0, []), (1, 3, .invokevirtual 474, [0, 217, 1, 13]), (4, 1, .istore_n 1, []), (5, 1, .aload_n 0, []), (6, 3, .getfield 394, [13, 44]), (9, 1, .iconst 3, []),
  (10, 3, .if_icmp .ne 53, []), (13, 1, .aload_n 0, []), (14, 3, .getfield 406, [13, 45]), (17, 2, .bipush 43, []), (19, 3, .if_icmp .eq 30, []), (22, 1, .aload_n 0, []),
  (23, 3, .getfield 406, [13, 45]), (26, 2, .bipush 45, []), (28, 3, .if_icmp .eq 21, []), (31, 1, .aload_n 0, []), (32, 3, .getfield 406, [13, 45]), (35, 2, .bipush 42, []),
  (37, 3, .if_icmp .eq 12, []), (40, 1, .aload_n 0, []), (41, 3, .getfield 406, [13, 45]), (44, 2, .bipush 47, []), (46, 3, .if_icmp .ne 17, []), (49, 1, .aload_n 0, []),
  (50, 1, .aload_n 0, []), (51, 3, .getfield 406, [13, 45]), (54, 3, .invokevirtual 478, [0, 221, 2, 13]), (57, 1, .aload_n 0, []), (58, 1, .iconst 1, []), (59, 3, .putfield 464, [13, 78]),
  (62, 1, .return_, []), (63, 1, .iload_n 1, []), (64, 2, .bipush 7, []), (66, 3, .if_icmp .ne 12, []), (69, 1, .aload_n 0, []), (70, 2, .bipush 41, []),
  (72, 3, .invokevirtual 467, [0, 212, 2, 13]), (75, 3, .ifCond .ne 18, []), (78, 1, .iload_n 1, []), (79, 2, .bipush 10, []), (81, 3, .if_icmp .ne 83, []), (84, 1, .aload_n 0, []),
  (85, 2, .bipush 41, []), (87, 3, .invokevirtual 467, [0, 212, 2, 13]), (90, 3, .ifCond .eq 74, []), (93, 1, .aload_n 0, []), (94, 1, .iconst 3, []), (95, 3, .invokevirtual 455, [0, 220, 2, 13]),
  (98, 1, .aload_n 0, []), (99, 3, .getfield 173, [13, 77]), (102, 1, .aload_n 0, []), (103, 3, .getfield 430, [13, 58]), (106, 1, .iaload, []), (107, 1, .istore_n 2, []),
  (108, 1, .aload_n 0, []), (109, 1, .dup, []), (110, 3, .getfield 430, [13, 58]), (113, 1, .iconst 1, []), (114, 1, .isub, []), (115, 3, .putfield 430, [13, 58]),
  (118, 1, .aload_n 0, []), (119, 1, .dup, []), (120, 3, .getfield 433, [13, 63]), (123, 1, .iconst 1, []), (124, 1, .isub, []), (125, 3, .putfield 433, [13, 63]),
  (128, 1, .iload_n 1, []), (129, 2, .bipush 10, []), (131, 3, .if_icmp .ne 22, []), (134, 1, .aload_n 0, []), (135, 1, .iload_n 2, []), (136, 1, .iconst 5, []),
  (137, 3, .if_icmp .ne 9, []), (140, 3, .sipush 403, []), (143, 3, .goto 6, []), (146, 3, .sipush 404, []), (149, 1, .iconst 0, []), (150, 3, .invokevirtual 451, [0, 215, 3, 13]),
  (153, 1, .aload_n 0, []), (154, 3, .invokevirtual 442, [0, 210, 1, 13]), (157, 1, .aload_n 0, []), (158, 3, .invokevirtual 471, [0, 224, 1, 13]), (161, 3, .goto 212, []), (164, 1, .iload_n 1, []),
  (165, 2, .bipush 9, []), (167, 3, .if_icmp .ne 42, []), (170, 1, .aload_n 0, []), (171, 2, .bipush 44, []), (173, 3, .invokevirtual 467, [0, 212, 2, 13]), (176, 3, .ifCond .eq 33, []),
  (179, 1, .aload_n 0, []), (180, 1, .iconst 3, []), (181, 3, .invokevirtual 455, [0, 220, 2, 13]), (184, 1, .aload_n 0, []), (185, 3, .getfield 126, [13, 59]), (188, 1, .aload_n 0, []),
  (189, 3, .getfield 430, [13, 58]), (192, 1, .iconst 1, []), (193, 1, .isub, []), (194, 2, .bipush 10, []), (196, 1, .iastore, []), (197, 1, .aload_n 0, []),
  (198, 3, .invokevirtual 442, [0, 210, 1, 13]), (201, 1, .aload_n 0, []), (202, 1, .iconst 1, []), (203, 3, .putfield 464, [13, 78]), (206, 3, .goto 167, []), (209, 1, .iload_n 1, []),
  (210, 1, .iconst 5, []), (211, 3, .if_icmp .ne 64, []), (214, 1, .aload_n 0, []), (215, 3, .getfield 394, [13, 44]), (218, 1, .iconst 3, []), (219, 3, .if_icmp .ne 56, []),
  (222, 1, .aload_n 0, []), (223, 3, .getfield 406, [13, 45]), (226, 3, .invokestatic 481, [0, 226, 1, 999]), (229, 3, .ifCond .eq 46, []), (232, 1, .aload_n 0, []), (233, 1, .iconst 3, []),
  (234, 3, .invokevirtual 455, [0, 220, 2, 13]), (237, 1, .aload_n 0, []), (238, 3, .getfield 176, [13, 79]), (241, 1, .aload_n 0, []), (242, 3, .getfield 430, [13, 58]), (245, 1, .aload_n 0, []),
  (246, 3, .getfield 406, [13, 45]), (249, 1, .iastore, []), (250, 1, .aload_n 0, []), (251, 3, .getfield 126, [13, 59]), (254, 1, .aload_n 0, []), (255, 3, .getfield 430, [13, 58]),
  (258, 1, .iconst 1, []), (259, 1, .isub, []), (260, 2, .bipush 6, []), (262, 1, .iastore, []), (263, 1, .aload_n 0, []), (264, 3, .invokevirtual 442, [0, 210, 1, 13]),
  (267, 1, .aload_n 0, []), (268, 1, .iconst 1, []), (269, 3, .putfield 464, [13, 78]), (272, 3, .goto 101, []), (275, 1, .iload_n 1, []), (276, 2, .bipush 6, []),
  (278, 3, .if_icmp .ne 41, []), (281, 1, .aload_n 0, []), (282, 1, .iconst 3, []), (283, 3, .invokevirtual 455, [0, 220, 2, 13]), (286, 1, .aload_n 0, []), (287, 3, .getfield 176, [13, 79]),
  (290, 1, .aload_n 0, []), (291, 3, .getfield 430, [13, 58]), (294, 1, .iaload, []), (295, 1, .istore_n 2, []), (296, 1, .aload_n 0, []), (297, 1, .dup, []),
  (298, 3, .getfield 430, [13, 58]), (301, 1, .iconst 1, []), (302, 1, .isub, []), (303, 3, .putfield 430, [13, 58]), (306, 1, .aload_n 0, []), (307, 1, .iload_n 2, []),
  (308, 1, .iconst 0, []), (309, 3, .invokevirtual 451, [0, 215, 3, 13]), (312, 1, .aload_n 0, []), (313, 3, .invokevirtual 484, [0, 225, 1, 13]), (316, 3, .goto 57, []), (319, 1, .iload_n 1, []),
  (320, 1, .iconst 2, []), (321, 3, .if_icmp .ne 47, []), (324, 1, .aload_n 0, []), (325, 2, .bipush 59, []), (327, 3, .invokevirtual 467, [0, 212, 2, 13]), (330, 3, .ifCond .eq 38, []),
  (333, 1, .aload_n 0, []), (334, 1, .iconst 3, []), (335, 3, .invokevirtual 455, [0, 220, 2, 13]), (338, 1, .aload_n 0, []), (339, 1, .dup, []), (340, 3, .getfield 430, [13, 58]),
  (343, 1, .iconst 1, []), (344, 1, .isub, []), (345, 3, .putfield 430, [13, 58]), (348, 1, .aload_n 0, []), (349, 3, .sipush 409, []), (352, 1, .iconst 0, []),
  (353, 3, .invokevirtual 451, [0, 215, 3, 13]), (356, 1, .aload_n 0, []), (357, 3, .invokevirtual 442, [0, 210, 1, 13]), (360, 1, .aload_n 0, []), (361, 1, .iconst 4, []), (362, 3, .putfield 464, [13, 78]),
  (365, 3, .goto 8, []), (368, 1, .aload_n 0, []), (369, 1, .iconst 1, []), (370, 3, .invokevirtual 436, [0, 214, 2, 13]), (373, 1, .return_, [])]
set_option maxRecDepth 20000 in
def k_X12_asksOn : List az_I := [
  (0, 1, .aload_n 0, []), (1, 3, .invokevirtual 474, [0, 217, 1, 13]), (4, 1, .istore_n 1, []), (5, 1, .aload_n 0, []), (6, 1, .iconst 2, []), (7, 3, .invokevirtual 458, [0, 213, 2, 13]),
  (10, 3, .ifCond .ne 11, []), (13, 1, .aload_n 0, []), (14, 1, .iconst 3, []), (15, 3, .invokevirtual 458, [0, 213, 2, 13]), (18, 3, .ifCond .eq 32, []), (21, 1, .aload_n 0, []),
  (22, 1, .aload_n 0, []), (23, 1, .iconst 2, []), (24, 3, .invokevirtual 458, [0, 213, 2, 13]), (27, 3, .ifCond .eq 9, []), (30, 3, .sipush 407, []), (33, 3, .goto 6, []),
  (36, 3, .sipush 406, []), (39, 3, .invokevirtual 478, [0, 221, 2, 13]), (42, 1, .aload_n 0, []), (43, 1, .iconst 0, []), (44, 3, .putfield 464, [13, 78]), (47, 3, .goto 108, []),
  (50, 1, .iload_n 1, []), (51, 1, .iconst 3, []), (52, 3, .if_icmp .ne 48, []), (55, 1, .aload_n 0, []), (56, 2, .bipush 93, []), (58, 3, .invokevirtual 467, [0, 212, 2, 13]),
  (61, 3, .ifCond .eq 39, []), (64, 1, .aload_n 0, []), (65, 1, .iconst 1, []), (66, 3, .invokevirtual 455, [0, 220, 2, 13]), (69, 1, .aload_n 0, []), (70, 1, .dup, []),
  (71, 3, .getfield 430, [13, 58]), (74, 1, .iconst 1, []), (75, 1, .isub, []), (76, 3, .putfield 430, [13, 58]), (79, 1, .aload_n 0, []), (80, 1, .dup, []),
  (81, 3, .getfield 433, [13, 63]), (84, 1, .iconst 1, []), (85, 1, .isub, []), (86, 3, .putfield 433, [13, 63]), (89, 1, .aload_n 0, []), (90, 3, .invokevirtual 442, [0, 210, 1, 13]),
  (93, 1, .aload_n 0, []), (94, 3, .invokevirtual 484, [0, 225, 1, 13]), (97, 3, .goto 58, []), (100, 1, .iload_n 1, []), (101, 1, .iconst 1, []), (102, 3, .if_icmp .ne 48, []),
  (105, 1, .aload_n 0, []), (106, 1, .iconst 1, []), (107, 3, .invokevirtual 458, [0, 213, 2, 13]), (110, 3, .ifCond .eq 40, []), (113, 1, .aload_n 0, []), (114, 1, .iconst 1, []),
  (115, 3, .invokevirtual 455, [0, 220, 2, 13]), (118, 1, .aload_n 0, []), (119, 3, .sipush 408, []), (122, 1, .iconst 0, []), (123, 3, .invokevirtual 451, [0, 215, 3, 13]), (126, 1, .aload_n 0, []),
  (127, 3, .getfield 126, [13, 59]), (130, 1, .aload_n 0, []), (131, 3, .getfield 430, [13, 58]), (134, 1, .iconst 1, []), (135, 1, .isub, []), (136, 1, .iconst 2, []),
  (137, 1, .iastore, []), (138, 1, .aload_n 0, []), (139, 3, .invokevirtual 442, [0, 210, 1, 13]), (142, 1, .aload_n 0, []), (143, 1, .iconst 1, []), (144, 3, .putfield 464, [13, 78]),
  (147, 3, .goto 8, []), (150, 1, .aload_n 0, []), (151, 1, .iconst 1, []), (152, 3, .invokevirtual 436, [0, 214, 2, 13]), (155, 1, .return_, [])]
set_option maxRecDepth 20000 in
def k_X12_rule : List az_I := [
  (0, 1, .aload_n 0, []), (1, 1, .iconst 0, []), (2, 3, .invokevirtual 458, [0, 213, 2, 13]), (5, 3, .ifCond .ne 17, []), (8, 1, .aload_n 0, []), (9, 1, .iconst 1, []),
  (10, 3, .invokevirtual 458, [0, 213, 2, 13]), (13, 3, .ifCond .ne 9, []), (16, 1, .aload_n 0, []), (17, 1, .iconst 1, []), (18, 3, .invokevirtual 436, [0, 214, 2, 13]), (21, 1, .return_, []),
  (22, 1, .aload_n 0, []), (23, 3, .getfield 487, [13, 51]), (26, 2, .bipush 20, []), (28, 3, .if_icmp .ne 9, []), (31, 1, .aload_n 0, []), (32, 1, .iconst 4, []),
  (33, 3, .invokevirtual 436, [0, 214, 2, 13]), (36, 1, .return_, []), (37, 1, .aload_n 0, []), (38, 1, .dup, []), (39, 3, .getfield 487, [13, 51]), (42, 1, .iconst 1, []),
  (43, 1, .iadd, []), (44, 3, .putfield 487, [13, 51]), (47, 1, .aload_n 0, []), (48, 1, .iconst 0, []), (49, 3, .invokevirtual 458, [0, 213, 2, 13]), (52, 1, .istore_n 1, []),
  (53, 1, .aload_n 0, []), (54, 1, .iload_n 1, []), (55, 3, .ifCond .eq 7, []), (58, 1, .iconst 1, []), (59, 3, .goto 4, []), (62, 1, .iconst 2, []),
  (63, 3, .invokevirtual 439, [0, 216, 2, 13]), (66, 1, .aload_n 0, []), (67, 1, .iload_n 1, []), (68, 3, .ifCond .eq 7, []), (71, 1, .iconst 0, []), (72, 3, .goto 4, []),
  (75, 1, .iconst 1, []), (76, 3, .putfield 464, [13, 78]), (79, 1, .aload_n 0, []), (80, 3, .invokevirtual 442, [0, 210, 1, 13]), (83, 1, .return_, [])]
set_option maxRecDepth 20000 in
def k_X12_tariff : List az_I := [
  (0, 1, .aload_n 0, []), (1, 1, .aload_n 0, []), (2, 3, .getfield 340, [13, 40]), (5, 3, .putfield 388, [13, 41]), (8, 1, .aload_n 0, []), (9, 1, .iconst 0, []),
  (10, 3, .putfield 340, [13, 40]), (13, 1, .aload_n 0, []), (14, 1, .iconst 0, []), (15, 3, .putfield 385, [13, 42]), (18, 1, .aload_n 0, []), (19, 1, .iconst 0, []),
  (20, 3, .putfield 421, [13, 46]), (23, 1, .aload_n 0, []), (24, 1, .iconst (-1), []), (25, 3, .putfield 424, [13, 47]), (28, 1, .aload_n 0, []), (29, 1, .iconst 0, []),
  (30, 3, .putfield 427, [13, 50]), (33, 1, .aload_n 0, []), (34, 1, .iconst 0, []), (35, 3, .putfield 487, [13, 51]), (38, 1, .aload_n 0, []), (39, 1, .iconst 0, []),
  (40, 3, .putfield 430, [13, 58]), (43, 1, .aload_n 0, []), (44, 1, .iconst 0, []), (45, 3, .putfield 445, [13, 60]), (48, 1, .aload_n 0, []), (49, 1, .iconst 0, []),
  (50, 3, .putfield 433, [13, 63]), (53, 1, .aload_n 0, []), (54, 1, .iconst 4, []), (55, 3, .putfield 464, [13, 78]), (58, 1, .aload_n 0, []), (59, 3, .invokevirtual 442, [0, 210, 1, 13]),
  (62, 1, .aload_n 0, []), (63, 3, .getfield 421, [13, 46]), (66, 3, .ifCond .ne 89, []), (69, 1, .aload_n 0, []), (70, 3, .getfield 464, [13, 78]), (73, 1, .iconst 4, []),
  (74, 3, .if_icmp .ne 10, []), (77, 1, .aload_n 0, []), (78, 3, .getfield 394, [13, 44]), (81, 3, .ifCond .eq 74, []), (84, 1, .aload_n 0, []), (85, 3, .getfield 464, [13, 78]),
  (88, 32, .tableswitch 60 0 3 #[32, 39, 46, 53], []), (120, 1, .aload_n 0, []), (121, 3, .invokevirtual 490, [0, 222, 1, 13]), (124, 3, .goto (-62), []), (127, 1, .aload_n 0, []), (128, 3, .invokevirtual 493, [0, 223, 1, 13]),
  (131, 3, .goto (-69), []), (134, 1, .aload_n 0, []), (135, 3, .invokevirtual 496, [0, 227, 1, 13]), (138, 3, .goto (-76), []), (141, 1, .aload_n 0, []), (142, 3, .invokevirtual 499, [0, 228, 1, 13]),
  (145, 3, .goto (-83), []), (148, 1, .aload_n 0, []), (149, 3, .invokevirtual 502, [0, 229, 1, 13]), (152, 3, .goto (-90), []), (155, 1, .aload_n 0, []), (156, 1, .aload_n 0, []),
  (157, 3, .getfield 421, [13, 46]), (160, 3, .putfield 107, [13, 48]), (163, 1, .aload_n 0, []), (164, 1, .aload_n 0, []), (165, 3, .getfield 424, [13, 47]), (168, 3, .putfield 111, [13, 49]),
  (171, 1, .aload_n 0, []), (172, 3, .getfield 421, [13, 46]), (175, 3, .ifCond .le 5, []), (178, 1, .iconst (-1), []), (179, 1, .ireturn, []), (180, 1, .aload_n 0, []),
  (181, 1, .aload_n 0, []), (182, 3, .getfield 427, [13, 50]), (185, 3, .putfield 505, [13, 54]), (188, 1, .aload_n 0, []), (189, 1, .aload_n 0, []), (190, 3, .getfield 487, [13, 51]),
  (193, 3, .putfield 508, [13, 55]), (196, 1, .iconst 0, []), (197, 1, .istore_n 1, []), (198, 1, .iload_n 1, []), (199, 1, .aload_n 0, []), (200, 3, .getfield 427, [13, 50]),
  (203, 3, .if_icmp .ge 33, []), (206, 1, .aload_n 0, []), (207, 3, .getfield 120, [13, 56]), (210, 1, .iload_n 1, []), (211, 1, .aload_n 0, []), (212, 3, .getfield 114, [13, 52]),
  (215, 1, .iload_n 1, []), (216, 1, .iaload, []), (217, 1, .iastore, []), (218, 1, .aload_n 0, []), (219, 3, .getfield 123, [13, 57]), (222, 1, .iload_n 1, []),
  (223, 1, .aload_n 0, []), (224, 3, .getfield 117, [13, 53]), (227, 1, .iload_n 1, []), (228, 1, .iaload, []), (229, 1, .iastore, []), (230, 3, .iinc 1 1, []),
  (233, 3, .goto (-35), []), (236, 1, .aload_n 0, []), (237, 3, .getfield 508, [13, 55]), (240, 1, .ireturn, [])]
set_option maxRecDepth 20000 in
def k_X12_fault : List az_I := [
  (0, 1, .iload_n 1, []), (1, 3, .ifCond .ne 10, []), (4, 1, .aload_n 0, []), (5, 3, .getfield 107, [13, 48]), (8, 3, .goto 16, []), (11, 1, .iload_n 1, []),
  (12, 1, .iconst 1, []), (13, 3, .if_icmp .ne 10, []), (16, 1, .aload_n 0, []), (17, 3, .getfield 111, [13, 49]), (20, 3, .goto 4, []), (23, 1, .iconst (-1), []),
  (24, 1, .ireturn, [])]
set_option maxRecDepth 20000 in
def k_X12_bound : List az_I := [
  (0, 1, .lload_n 0, []), (1, 3, .ldc2_w 511, [1000000000]), (4, 1, .lcmp, []), (5, 3, .ifCond .le 9, []), (8, 3, .ldc2_w 511, [1000000000]), (11, 3, .goto 18, []),
  (14, 1, .lload_n 0, []), (15, 3, .ldc2_w 513, [18446744072709551616]), (18, 1, .lcmp, []), (19, 3, .ifCond .ge 9, []), (22, 3, .ldc2_w 513, [18446744072709551616]), (25, 3, .goto 4, []),
  (28, 1, .lload_n 0, []), (29, 1, .lreturn, [])]
set_option maxRecDepth 20000 in
def k_X12_worked : List az_I := [
  (0, 1, .iload_n 0, []), (1, 115, .lookupswitch 250 #[(35, 210), (42, 129), (43, 115), (45, 122), (47, 136), (60, 174), (61, 198), (62, 186), (300, 222), (301, 234), (403, 150), (404, 162), (406, 246)], []), (116, 1, .lload_n 1, []), (117, 1, .lload_n 3, []), (118, 1, .ladd, []), (119, 3, .invokestatic 515, [0, 232, 1, 999]),
  (122, 1, .lreturn, []), (123, 1, .lload_n 1, []), (124, 1, .lload_n 3, []), (125, 1, .lsub, []), (126, 3, .invokestatic 515, [0, 232, 1, 999]), (129, 1, .lreturn, []),
  (130, 1, .lload_n 1, []), (131, 1, .lload_n 3, []), (132, 1, .lmul, []), (133, 3, .invokestatic 515, [0, 232, 1, 999]), (136, 1, .lreturn, []), (137, 1, .lload_n 3, []),
  (138, 1, .lconst 0, []), (139, 1, .lcmp, []), (140, 3, .ifCond .ne 7, []), (143, 1, .lconst 0, []), (144, 3, .goto 6, []), (147, 1, .lload_n 1, []),
  (148, 1, .lload_n 3, []), (149, 1, .ldiv, []), (150, 1, .lreturn, []), (151, 1, .lload_n 1, []), (152, 1, .lload_n 3, []), (153, 1, .lcmp, []),
  (154, 3, .ifCond .ge 7, []), (157, 1, .lload_n 1, []), (158, 3, .goto 4, []), (161, 1, .lload_n 3, []), (162, 1, .lreturn, []), (163, 1, .lload_n 1, []),
  (164, 1, .lload_n 3, []), (165, 1, .lcmp, []), (166, 3, .ifCond .le 7, []), (169, 1, .lload_n 1, []), (170, 3, .goto 4, []), (173, 1, .lload_n 3, []),
  (174, 1, .lreturn, []), (175, 1, .lload_n 1, []), (176, 1, .lload_n 3, []), (177, 1, .lcmp, []), (178, 3, .ifCond .ge 7, []), (181, 1, .lconst 1, []),
  (182, 3, .goto 4, []), (185, 1, .lconst 0, []), (186, 1, .lreturn, []), (187, 1, .lload_n 1, []), (188, 1, .lload_n 3, []), (189, 1, .lcmp, []),
  (190, 3, .ifCond .le 7, []), (193, 1, .lconst 1, []), (194, 3, .goto 4, []), (197, 1, .lconst 0, []), (198, 1, .lreturn, []), (199, 1, .lload_n 1, []),
  (200, 1, .lload_n 3, []), (201, 1, .lcmp, []), (202, 3, .ifCond .ne 7, []), (205, 1, .lconst 1, []), (206, 3, .goto 4, []), (209, 1, .lconst 0, []),
  (210, 1, .lreturn, []), (211, 1, .lload_n 1, []), (212, 1, .lload_n 3, []), (213, 1, .lcmp, []), (214, 3, .ifCond .eq 7, []), (217, 1, .lconst 1, []),
  (218, 3, .goto 4, []), (221, 1, .lconst 0, []), (222, 1, .lreturn, []), (223, 1, .lload_n 1, []), (224, 1, .lload_n 3, []), (225, 1, .lcmp, []),
  (226, 3, .ifCond .gt 7, []), (229, 1, .lconst 1, []), (230, 3, .goto 4, []), (233, 1, .lconst 0, []), (234, 1, .lreturn, []), (235, 1, .lload_n 1, []),
  (236, 1, .lload_n 3, []), (237, 1, .lcmp, []), (238, 3, .ifCond .lt 7, []), (241, 1, .lconst 1, []), (242, 3, .goto 4, []), (245, 1, .lconst 0, []),
  (246, 1, .lreturn, []), (247, 1, .lload_n 1, []), (248, 1, .lload_n 3, []), (249, 1, .lmul, []), (250, 1, .lreturn, []), (251, 1, .lload_n 1, []),
  (252, 1, .lload_n 3, []), (253, 1, .ladd, []), (254, 1, .lconst 0, []), (255, 1, .lcmp, []), (256, 3, .ifCond .le 7, []), (259, 1, .lconst 1, []),
  (260, 3, .goto 4, []), (263, 1, .lconst 0, []), (264, 1, .lreturn, [])]
set_option maxRecDepth 20000 in
def k_X12_given : List az_I := [
  (0, 1, .iconst 0, []), (1, 1, .istore_n 1, []), (2, 1, .iconst 0, []), (3, 1, .istore_n 2, []), (4, 1, .iconst 0, []), (5, 1, .istore_n 3, []),
  (6, 1, .iload_n 3, []), (7, 1, .aload_n 0, []), (8, 3, .getfield 505, [13, 54]), (11, 3, .if_icmp .ge 234, []), (14, 1, .aload_n 0, []), (15, 3, .getfield 120, [13, 56]),
  (18, 1, .iload_n 3, []), (19, 1, .iaload, []), (20, 2, .istore 4, []), (22, 1, .iload_n 2, []), (23, 3, .ifCond .eq 22, []), (26, 2, .iload 4, []),
  (28, 3, .sipush 409, []), (31, 3, .if_icmp .eq 7, []), (34, 1, .iconst 1, []), (35, 3, .goto 4, []), (38, 1, .iconst 0, []), (39, 1, .istore_n 2, []),
  (40, 1, .iconst 0, []), (41, 1, .istore_n 1, []), (42, 3, .goto 197, []), (45, 2, .iload 4, []), (47, 3, .sipush 400, []), (50, 3, .if_icmp .ne 22, []),
  (53, 1, .aload_n 0, []), (54, 3, .getfield 135, [13, 64]), (57, 1, .iload_n 1, []), (58, 1, .aload_n 0, []), (59, 3, .getfield 123, [13, 57]), (62, 1, .iload_n 3, []),
  (63, 1, .iaload, []), (64, 1, .i2l, []), (65, 1, .lastore, []), (66, 3, .iinc 1 1, []), (69, 3, .goto 170, []), (72, 2, .iload 4, []),
  (74, 3, .sipush 401, []), (77, 3, .if_icmp .ne 27, []), (80, 1, .aload_n 0, []), (81, 3, .getfield 135, [13, 64]), (84, 1, .iload_n 1, []), (85, 1, .aload_n 0, []),
  (86, 3, .getfield 139, [13, 65]), (89, 1, .aload_n 0, []), (90, 3, .getfield 123, [13, 57]), (93, 1, .iload_n 3, []), (94, 1, .iaload, []), (95, 1, .iaload, []),
  (96, 1, .i2l, []), (97, 1, .lastore, []), (98, 3, .iinc 1 1, []), (101, 3, .goto 138, []), (104, 2, .iload 4, []), (106, 3, .sipush 402, []),
  (109, 3, .if_icmp .ne 23, []), (112, 1, .aload_n 0, []), (113, 3, .getfield 135, [13, 64]), (116, 1, .iload_n 1, []), (117, 1, .iconst 1, []), (118, 1, .isub, []),
  (119, 1, .aload_n 0, []), (120, 3, .getfield 135, [13, 64]), (123, 1, .iload_n 1, []), (124, 1, .iconst 1, []), (125, 1, .isub, []), (126, 1, .laload, []),
  (127, 1, .lneg, []), (128, 1, .lastore, []), (129, 3, .goto 110, []), (132, 2, .iload 4, []), (134, 3, .sipush 405, []), (137, 3, .if_icmp .ne 24, []),
  (140, 1, .aload_n 0, []), (141, 3, .getfield 135, [13, 64]), (144, 1, .iload_n 1, []), (145, 1, .iconst 1, []), (146, 1, .isub, []), (147, 1, .lconst 1, []),
  (148, 1, .aload_n 0, []), (149, 3, .getfield 135, [13, 64]), (152, 1, .iload_n 1, []), (153, 1, .iconst 1, []), (154, 1, .isub, []), (155, 1, .laload, []),
  (156, 1, .lsub, []), (157, 1, .lastore, []), (158, 3, .goto 81, []), (161, 2, .iload 4, []), (163, 3, .sipush 408, []), (166, 3, .if_icmp .ne 26, []),
  (169, 3, .iinc 1 (-1), []), (172, 1, .aload_n 0, []), (173, 3, .getfield 135, [13, 64]), (176, 1, .iload_n 1, []), (177, 1, .laload, []), (178, 1, .lconst 0, []),
  (179, 1, .lcmp, []), (180, 3, .ifCond .ne 7, []), (183, 1, .iconst 1, []), (184, 3, .goto 4, []), (187, 1, .iconst 0, []), (188, 1, .istore_n 2, []),
  (189, 3, .goto 50, []), (192, 2, .iload 4, []), (194, 3, .sipush 409, []), (197, 3, .if_icmp .ne 12, []), (200, 1, .aload_n 0, []), (201, 3, .getfield 135, [13, 64]),
  (204, 1, .iload_n 1, []), (205, 1, .iconst 1, []), (206, 1, .isub, []), (207, 1, .laload, []), (208, 1, .lreturn, []), (209, 3, .iinc 1 (-1), []),
  (212, 1, .aload_n 0, []), (213, 3, .getfield 135, [13, 64]), (216, 1, .iload_n 1, []), (217, 1, .iconst 1, []), (218, 1, .isub, []), (219, 2, .iload 4, []),
  (221, 1, .aload_n 0, []), (222, 3, .getfield 135, [13, 64]), (225, 1, .iload_n 1, []), (226, 1, .iconst 1, []), (227, 1, .isub, []), (228, 1, .laload, []),
  (229, 1, .aload_n 0, []), (230, 3, .getfield 135, [13, 64]), (233, 1, .iload_n 1, []), (234, 1, .laload, []), (235, 3, .invokestatic 519, [0, 233, 3, 999]), (238, 1, .lastore, []),
  (239, 3, .iinc 3 1, []), (242, 3, .goto (-236), []), (245, 1, .lconst 0, []), (246, 1, .lreturn, [])]
end
section
set_option maxRecDepth 20000 in
def k_X12_gives : List az_I := [
  (0, 1, .aload_n 0, []), (1, 3, .getfield 139, [13, 65]), (4, 1, .iconst 0, []), (5, 1, .iload_n 1, []), (6, 1, .iastore, []), (7, 1, .aload_n 0, []),
  (8, 3, .getfield 139, [13, 65]), (11, 1, .iconst 1, []), (12, 1, .iload_n 2, []), (13, 1, .iastore, []), (14, 1, .aload_n 0, []), (15, 3, .getfield 139, [13, 65]),
  (18, 1, .iconst 2, []), (19, 1, .iconst 0, []), (20, 1, .iastore, []), (21, 1, .aload_n 0, []), (22, 3, .getfield 139, [13, 65]), (25, 1, .iconst 3, []),
  (26, 1, .iload_n 3, []), (27, 1, .iastore, []), (28, 1, .aload_n 0, []), (29, 3, .getfield 139, [13, 65]), (32, 1, .iconst 4, []), (33, 2, .iload 4, []),
  (35, 1, .iastore, []), (36, 1, .aload_n 0, []), (37, 3, .getfield 139, [13, 65]), (40, 1, .iconst 5, []), (41, 2, .iload 5, []), (43, 1, .iastore, []),
  (44, 1, .aload_n 0, []), (45, 3, .getfield 139, [13, 65]), (48, 2, .bipush 6, []), (50, 2, .iload 6, []), (52, 1, .iastore, []), (53, 1, .aload_n 0, []),
  (54, 3, .getfield 139, [13, 65]), (57, 2, .bipush 7, []), (59, 1, .iconst 0, []), (60, 1, .iastore, []), (61, 1, .iconst 0, []), (62, 2, .istore 7, []),
  (64, 2, .iload 7, []), (66, 2, .bipush 8, []), (68, 3, .if_icmp .ge 33, []), (71, 1, .aload_n 0, []), (72, 3, .getfield 139, [13, 65]), (75, 2, .iload 7, []),
  (77, 1, .iaload, []), (78, 1, .i2l, []), (79, 3, .ldc2_w 523, [18446744073708551616]), (82, 3, .ldc2_w 525, [1000000]), (85, 3, .invokestatic 211, [0, 159, 3, 999]), (88, 3, .ifCond .ne 7, []),
  (91, 3, .ldc_w 527, [0, 2294967296]), (94, 1, .ireturn, []), (95, 3, .iinc 7 1, []), (98, 3, .goto (-34), []), (101, 1, .aload_n 0, []), (102, 3, .invokevirtual 528, [0, 234, 1, 13]),
  (105, 1, .l2i, []), (106, 1, .ireturn, [])]
set_option maxRecDepth 20000 in
def k_X12_stall : List az_I := [
  (0, 1, .aload_n 0, []), (1, 1, .iload_n 1, []), (2, 3, .invokevirtual 246, [0, 163, 2, 13]), (5, 3, .ifCond .eq 32, []), (8, 1, .iload_n 2, []), (9, 3, .invokestatic 239, [0, 160, 1, 999]),
  (12, 3, .ifCond .eq 25, []), (15, 1, .iload_n 3, []), (16, 1, .i2l, []), (17, 1, .iload_n 2, []), (18, 1, .i2l, []), (19, 3, .ldc2_w 209, [3599]),
  (22, 3, .invokestatic 211, [0, 159, 3, 999]), (25, 3, .ifCond .eq 12, []), (28, 1, .aload_n 0, []), (29, 3, .getfield 254, [13, 66]), (32, 2, .bipush 10, []), (34, 3, .if_icmp .ne 5, []),
  (37, 1, .iconst (-1), []), (38, 1, .ireturn, []), (39, 1, .aload_n 0, []), (40, 3, .getfield 142, [13, 67]), (43, 1, .aload_n 0, []), (44, 3, .getfield 254, [13, 66]),
  (47, 1, .iload_n 1, []), (48, 1, .iastore, []), (49, 1, .aload_n 0, []), (50, 3, .getfield 145, [13, 68]), (53, 1, .aload_n 0, []), (54, 3, .getfield 254, [13, 66]),
  (57, 1, .iload_n 2, []), (58, 1, .iastore, []), (59, 1, .aload_n 0, []), (60, 3, .getfield 148, [13, 69]), (63, 1, .aload_n 0, []), (64, 3, .getfield 254, [13, 66]),
  (67, 1, .iload_n 3, []), (68, 1, .iastore, []), (69, 1, .iconst 0, []), (70, 2, .istore 4, []), (72, 2, .iload 4, []), (74, 2, .bipush 12, []),
  (76, 3, .if_icmp .ge 25, []), (79, 1, .aload_n 0, []), (80, 3, .getfield 151, [13, 70]), (83, 2, .bipush 12, []), (85, 1, .aload_n 0, []), (86, 3, .getfield 254, [13, 66]),
  (89, 1, .imul, []), (90, 2, .iload 4, []), (92, 1, .iadd, []), (93, 1, .iconst (-1), []), (94, 1, .iastore, []), (95, 3, .iinc 4 1, []),
  (98, 3, .goto (-26), []), (101, 1, .aload_n 0, []), (102, 1, .dup, []), (103, 3, .getfield 254, [13, 66]), (106, 1, .iconst 1, []), (107, 1, .iadd, []),
  (108, 3, .putfield 254, [13, 66]), (111, 1, .aload_n 0, []), (112, 3, .getfield 254, [13, 66]), (115, 1, .iconst 1, []), (116, 1, .isub, []), (117, 1, .ireturn, [])]
set_option maxRecDepth 20000 in
def k_X12_mayPlace : List az_I := [
  (0, 1, .iconst 1, []), (1, 2, .istore 4, []), (3, 1, .aload_n 0, []), (4, 3, .getfield 145, [13, 68]), (7, 1, .iload_n 1, []), (8, 1, .iaload, []),
  (9, 1, .aload_n 0, []), (10, 3, .getfield 225, [13, 3]), (13, 3, .if_icmp .le 12, []), (16, 1, .aload_n 0, []), (17, 3, .getfield 145, [13, 68]), (20, 1, .iload_n 1, []),
  (21, 1, .iaload, []), (22, 3, .goto 7, []), (25, 1, .aload_n 0, []), (26, 3, .getfield 225, [13, 3]), (29, 2, .istore 5, []), (31, 2, .iload 5, []),
  (33, 1, .aload_n 0, []), (34, 3, .getfield 148, [13, 69]), (37, 1, .iload_n 1, []), (38, 1, .iaload, []), (39, 3, .if_icmp .gt 27, []), (42, 2, .iload 4, []),
  (44, 3, .ifCond .eq 22, []), (47, 1, .aload_n 0, []), (48, 1, .iload_n 3, []), (49, 2, .iload 5, []), (51, 1, .aload_n 0, []), (52, 3, .getfield 225, [13, 3]),
  (55, 3, .invokevirtual 532, [0, 183, 4, 13]), (58, 2, .istore 4, []), (60, 3, .iinc 5 1, []), (63, 3, .goto (-32), []), (66, 1, .iconst 0, []), (67, 2, .istore 5, []),
  (69, 2, .iload 5, []), (71, 1, .aload_n 0, []), (72, 3, .getfield 254, [13, 66]), (75, 3, .if_icmp .ge 75, []), (78, 2, .iload 4, []), (80, 3, .ifCond .eq 70, []),
  (83, 2, .iload 5, []), (85, 1, .iload_n 1, []), (86, 3, .if_icmp .eq 51, []), (89, 1, .aload_n 0, []), (90, 3, .getfield 151, [13, 70]), (93, 2, .bipush 12, []),
  (95, 2, .iload 5, []), (97, 1, .imul, []), (98, 1, .iload_n 2, []), (99, 1, .iadd, []), (100, 1, .iaload, []), (101, 1, .iload_n 3, []),
  (102, 3, .if_icmp .ne 35, []), (105, 1, .aload_n 0, []), (106, 3, .getfield 148, [13, 69]), (109, 2, .iload 5, []), (111, 1, .iaload, []), (112, 1, .aload_n 0, []),
  (113, 3, .getfield 145, [13, 68]), (116, 1, .iload_n 1, []), (117, 1, .iaload, []), (118, 3, .if_icmp .lt 19, []), (121, 1, .aload_n 0, []), (122, 3, .getfield 145, [13, 68]),
  (125, 2, .iload 5, []), (127, 1, .iaload, []), (128, 1, .aload_n 0, []), (129, 3, .getfield 148, [13, 69]), (132, 1, .iload_n 1, []), (133, 1, .iaload, []),
  (134, 3, .if_icmp .le 7, []), (137, 1, .iconst 1, []), (138, 3, .goto 4, []), (141, 1, .iconst 0, []), (142, 2, .istore 4, []), (144, 3, .iinc 5 1, []),
  (147, 3, .goto (-78), []), (150, 2, .iload 4, []), (152, 1, .ireturn, [])]
set_option maxRecDepth 20000 in
def k_X12_place : List az_I := [
  (0, 1, .iload_n 1, []), (1, 1, .i2l, []), (2, 1, .lconst 0, []), (3, 1, .aload_n 0, []), (4, 3, .getfield 254, [13, 66]), (7, 1, .iconst 1, []),
  (8, 1, .isub, []), (9, 1, .i2l, []), (10, 3, .invokestatic 211, [0, 159, 3, 999]), (13, 3, .ifCond .eq 33, []), (16, 1, .iload_n 2, []), (17, 3, .invokestatic 228, [0, 161, 1, 999]),
  (20, 3, .ifCond .eq 26, []), (23, 1, .iload_n 3, []), (24, 1, .iconst (-1), []), (25, 3, .if_icmp .eq 23, []), (28, 1, .aload_n 0, []), (29, 1, .iload_n 3, []),
  (30, 3, .invokevirtual 249, [0, 162, 2, 13]), (33, 3, .ifCond .eq 13, []), (36, 1, .aload_n 0, []), (37, 1, .iload_n 1, []), (38, 1, .iload_n 2, []), (39, 1, .iload_n 3, []),
  (40, 3, .invokevirtual 535, [0, 237, 4, 13]), (43, 3, .ifCond .ne 5, []), (46, 1, .iconst 0, []), (47, 1, .ireturn, []), (48, 1, .aload_n 0, []), (49, 3, .getfield 151, [13, 70]),
  (52, 2, .bipush 12, []), (54, 1, .iload_n 1, []), (55, 1, .imul, []), (56, 1, .iload_n 2, []), (57, 1, .iadd, []), (58, 1, .iload_n 3, []),
  (59, 1, .iastore, []), (60, 1, .iconst 1, []), (61, 1, .ireturn, [])]
set_option maxRecDepth 20000 in
def k_X12_placeOf : List az_I := [
  (0, 1, .iload_n 1, []), (1, 1, .i2l, []), (2, 1, .lconst 0, []), (3, 1, .aload_n 0, []), (4, 3, .getfield 254, [13, 66]), (7, 1, .iconst 1, []),
  (8, 1, .isub, []), (9, 1, .i2l, []), (10, 3, .invokestatic 211, [0, 159, 3, 999]), (13, 3, .ifCond .eq 24, []), (16, 1, .iload_n 2, []), (17, 3, .invokestatic 228, [0, 161, 1, 999]),
  (20, 3, .ifCond .eq 17, []), (23, 1, .aload_n 0, []), (24, 3, .getfield 151, [13, 70]), (27, 2, .bipush 12, []), (29, 1, .iload_n 1, []), (30, 1, .imul, []),
  (31, 1, .iload_n 2, []), (32, 1, .iadd, []), (33, 1, .iaload, []), (34, 3, .goto 4, []), (37, 1, .iconst (-1), []), (38, 1, .ireturn, [])]
set_option maxRecDepth 20000 in
def k_X12_charge : List az_I := [
  (0, 1, .lconst 0, []), (1, 2, .lstore 6, []), (3, 1, .iconst 0, []), (4, 2, .istore 8, []), (6, 2, .iload 8, []), (8, 1, .aload_n 0, []),
  (9, 3, .getfield 220, [13, 12]), (12, 3, .if_icmp .ge 148, []), (15, 1, .aload_n 0, []), (16, 3, .getfield 158, [13, 72]), (19, 1, .iload_n 1, []), (20, 1, .iaload, []),
  (21, 2, .iload 8, []), (23, 1, .ishr, []), (24, 1, .iconst 1, []), (25, 1, .iand, []), (26, 3, .ifCond .eq 128, []), (29, 2, .iload 5, []),
  (31, 1, .iconst (-1), []), (32, 3, .if_icmp .eq 18, []), (35, 1, .aload_n 0, []), (36, 3, .getfield 170, [13, 76]), (39, 2, .iload 8, []), (41, 1, .iaload, []),
  (42, 2, .iload 5, []), (44, 3, .if_icmp .eq 6, []), (47, 3, .goto 107, []), (50, 1, .aload_n 0, []), (51, 3, .getfield 139, [13, 65]), (54, 1, .iconst 0, []),
  (55, 1, .iload_n 3, []), (56, 1, .iastore, []), (57, 1, .aload_n 0, []), (58, 3, .getfield 139, [13, 65]), (61, 1, .iconst 1, []), (62, 1, .iload_n 2, []),
  (63, 3, .invokestatic 285, [0, 165, 1, 999]), (66, 1, .iastore, []), (67, 1, .aload_n 0, []), (68, 3, .getfield 139, [13, 65]), (71, 1, .iconst 2, []), (72, 1, .iload_n 2, []),
  (73, 1, .iastore, []), (74, 1, .aload_n 0, []), (75, 3, .getfield 139, [13, 65]), (78, 1, .iconst 3, []), (79, 1, .aload_n 0, []), (80, 3, .getfield 167, [13, 75]),
  (83, 2, .iload 8, []), (85, 1, .iaload, []), (86, 1, .iastore, []), (87, 1, .aload_n 0, []), (88, 3, .getfield 139, [13, 65]), (91, 1, .iconst 4, []),
  (92, 1, .aload_n 0, []), (93, 3, .getfield 161, [13, 73]), (96, 1, .iload_n 1, []), (97, 1, .iaload, []), (98, 1, .iastore, []), (99, 1, .aload_n 0, []),
  (100, 3, .getfield 139, [13, 65]), (103, 1, .iconst 5, []), (104, 1, .aload_n 0, []), (105, 3, .getfield 28, [13, 13]), (108, 2, .iload 8, []), (110, 1, .iaload, []),
  (111, 1, .iastore, []), (112, 1, .aload_n 0, []), (113, 3, .getfield 139, [13, 65]), (116, 2, .bipush 6, []), (118, 2, .iload 8, []), (120, 1, .iastore, []),
  (121, 1, .aload_n 0, []), (122, 3, .getfield 139, [13, 65]), (125, 2, .bipush 7, []), (127, 2, .iload 4, []), (129, 1, .iastore, []), (130, 1, .aload_n 0, []),
  (131, 3, .invokevirtual 528, [0, 234, 1, 13]), (134, 2, .lstore 9, []), (136, 2, .lload 6, []), (138, 2, .lload 9, []), (140, 1, .lconst 0, []), (141, 1, .lcmp, []),
  (142, 3, .ifCond .ge 7, []), (145, 1, .lconst 0, []), (146, 3, .goto 5, []), (149, 2, .lload 9, []), (151, 1, .ladd, []), (152, 2, .lstore 6, []),
  (154, 3, .iinc 8 1, []), (157, 3, .goto (-151), []), (160, 2, .lload 6, []), (162, 1, .lreturn, [])]
set_option maxRecDepth 20000 in
def k_X12_fees : List az_I := [
  (0, 1, .iload_n 1, []), (1, 1, .i2l, []), (2, 1, .lconst 0, []), (3, 1, .aload_n 0, []), (4, 3, .getfield 254, [13, 66]), (7, 1, .iconst 1, []),
  (8, 1, .isub, []), (9, 1, .i2l, []), (10, 3, .invokestatic 211, [0, 159, 3, 999]), (13, 3, .ifCond .eq 38, []), (16, 1, .iload_n 2, []), (17, 1, .i2l, []),
  (18, 1, .aload_n 0, []), (19, 3, .getfield 145, [13, 68]), (22, 1, .iload_n 1, []), (23, 1, .iaload, []), (24, 1, .i2l, []), (25, 1, .aload_n 0, []),
  (26, 3, .getfield 148, [13, 69]), (29, 1, .iload_n 1, []), (30, 1, .iaload, []), (31, 1, .i2l, []), (32, 3, .invokestatic 211, [0, 159, 3, 999]), (35, 3, .ifCond .eq 16, []),
  (38, 1, .iload_n 3, []), (39, 1, .iconst (-1), []), (40, 3, .if_icmp .eq 15, []), (43, 1, .aload_n 0, []), (44, 1, .iload_n 3, []), (45, 3, .invokevirtual 246, [0, 163, 2, 13]),
  (48, 3, .ifCond .ne 7, []), (51, 3, .ldc2_w 513, [18446744072709551616]), (54, 1, .lreturn, []), (55, 1, .lconst 0, []), (56, 2, .lstore 4, []), (58, 1, .iconst 0, []),
  (59, 2, .istore 6, []), (61, 2, .iload 6, []), (63, 2, .bipush 12, []), (65, 3, .if_icmp .ge 66, []), (68, 1, .aload_n 0, []), (69, 3, .getfield 151, [13, 70]),
  (72, 2, .bipush 12, []), (74, 1, .iload_n 1, []), (75, 1, .imul, []), (76, 2, .iload 6, []), (78, 1, .iadd, []), (79, 1, .iaload, []),
  (80, 2, .istore 7, []), (82, 2, .iload 7, []), (84, 3, .ifCond .lt 41, []), (87, 1, .aload_n 0, []), (88, 1, .iload_n 2, []), (89, 2, .iload 6, []),
  (91, 1, .aload_n 0, []), (92, 3, .getfield 225, [13, 3]), (95, 3, .invokevirtual 303, [0, 187, 4, 13]), (98, 1, .aload_n 0, []), (99, 1, .iload_n 2, []), (100, 2, .iload 6, []),
  (102, 1, .aload_n 0, []), (103, 3, .getfield 225, [13, 3]), (106, 3, .invokevirtual 320, [0, 195, 4, 13]), (109, 2, .lload 4, []), (111, 1, .aload_n 0, []), (112, 2, .iload 7, []),
  (114, 1, .iload_n 2, []), (115, 2, .iload 6, []), (117, 1, .iload_n 1, []), (118, 1, .iload_n 3, []), (119, 3, .invokevirtual 538, [0, 240, 6, 13]), (122, 1, .ladd, []),
  (123, 2, .lstore 4, []), (125, 3, .iinc 6 1, []), (128, 3, .goto (-67), []), (131, 2, .lload 4, []), (133, 1, .lreturn, [])]
set_option maxRecDepth 20000 in
def k_X12_isTaken : List az_I := [
  (0, 1, .iconst 0, []), (1, 2, .istore 4, []), (3, 1, .iconst 0, []), (4, 2, .istore 5, []), (6, 2, .iload 5, []), (8, 1, .aload_n 0, []),
  (9, 3, .getfield 254, [13, 66]), (12, 3, .if_icmp .ge 61, []), (15, 2, .iload 4, []), (17, 3, .ifCond .ne 43, []), (20, 1, .iload_n 2, []), (21, 1, .i2l, []),
  (22, 1, .aload_n 0, []), (23, 3, .getfield 145, [13, 68]), (26, 2, .iload 5, []), (28, 1, .iaload, []), (29, 1, .i2l, []), (30, 1, .aload_n 0, []),
  (31, 3, .getfield 148, [13, 69]), (34, 2, .iload 5, []), (36, 1, .iaload, []), (37, 1, .i2l, []), (38, 3, .invokestatic 211, [0, 159, 3, 999]), (41, 3, .ifCond .eq 23, []),
  (44, 1, .aload_n 0, []), (45, 3, .getfield 151, [13, 70]), (48, 2, .bipush 12, []), (50, 2, .iload 5, []), (52, 1, .imul, []), (53, 1, .iload_n 3, []),
  (54, 1, .iadd, []), (55, 1, .iaload, []), (56, 1, .iload_n 1, []), (57, 3, .if_icmp .ne 7, []), (60, 1, .iconst 1, []), (61, 3, .goto 4, []),
  (64, 1, .iconst 0, []), (65, 2, .istore 4, []), (67, 3, .iinc 5 1, []), (70, 3, .goto (-64), []), (73, 2, .iload 4, []), (75, 1, .ireturn, [])]
set_option maxRecDepth 20000 in
def k_X12_beside : List az_I := [
  (0, 1, .iload_n 1, []), (1, 1, .aload_n 0, []), (2, 3, .getfield 200, [13, 0]), (5, 1, .irem, []), (6, 1, .istore_n 3, []), (7, 1, .iload_n 1, []),
  (8, 1, .aload_n 0, []), (9, 3, .getfield 200, [13, 0]), (12, 1, .idiv, []), (13, 2, .istore 4, []), (15, 1, .iload_n 2, []), (16, 32, .tableswitch 80 0 3 #[32, 48, 60, 62], []),
  (48, 2, .iload 4, []), (50, 3, .ifCond .le 12, []), (53, 1, .iload_n 1, []), (54, 1, .aload_n 0, []), (55, 3, .getfield 200, [13, 0]), (58, 1, .isub, []),
  (59, 3, .goto 4, []), (62, 1, .iconst (-1), []), (63, 1, .ireturn, []), (64, 1, .iload_n 3, []), (65, 3, .ifCond .le 9, []), (68, 1, .iload_n 1, []),
  (69, 1, .iconst 1, []), (70, 1, .isub, []), (71, 3, .goto 4, []), (74, 1, .iconst (-1), []), (75, 1, .ireturn, []), (76, 1, .iload_n 1, []),
  (77, 1, .ireturn, []), (78, 1, .iload_n 3, []), (79, 1, .iconst 1, []), (80, 1, .iadd, []), (81, 1, .aload_n 0, []), (82, 3, .getfield 200, [13, 0]),
  (85, 3, .if_icmp .ge 9, []), (88, 1, .iload_n 1, []), (89, 1, .iconst 1, []), (90, 1, .iadd, []), (91, 3, .goto 4, []), (94, 1, .iconst (-1), []),
  (95, 1, .ireturn, []), (96, 2, .iload 4, []), (98, 1, .iconst 1, []), (99, 1, .iadd, []), (100, 1, .aload_n 0, []), (101, 3, .getfield 203, [13, 1]),
  (104, 3, .if_icmp .ge 12, []), (107, 1, .iload_n 1, []), (108, 1, .aload_n 0, []), (109, 3, .getfield 200, [13, 0]), (112, 1, .iadd, []), (113, 3, .goto 4, []),
  (116, 1, .iconst (-1), []), (117, 1, .ireturn, [])]
set_option maxRecDepth 20000 in
def k_X12_nextOf : List az_I := [
  (0, 1, .iconst (-1), []), (1, 1, .istore_n 3, []), (2, 1, .iconst 0, []), (3, 2, .istore 4, []), (5, 2, .iload 4, []), (7, 1, .iconst 5, []),
  (8, 3, .if_icmp .ge 125, []), (11, 1, .aload_n 0, []), (12, 1, .iload_n 1, []), (13, 2, .iload 4, []), (15, 3, .invokevirtual 542, [0, 243, 3, 13]), (18, 2, .istore 5, []),
  (20, 3, .sipush 192, []), (23, 1, .iload_n 2, []), (24, 1, .iconst 1, []), (25, 1, .iadd, []), (26, 1, .imul, []), (27, 2, .iload 5, []),
  (29, 1, .iadd, []), (30, 2, .istore 6, []), (32, 2, .iload 5, []), (34, 3, .ifCond .lt 93, []), (37, 1, .aload_n 0, []), (38, 3, .getfield 188, [13, 83]),
  (41, 2, .iload 6, []), (43, 1, .iaload, []), (44, 3, .sipush 1000, []), (47, 3, .if_icmp .lt 6, []), (50, 3, .goto 77, []), (53, 3, .sipush 192, []),
  (56, 1, .iload_n 2, []), (57, 1, .iconst 1, []), (58, 1, .iadd, []), (59, 1, .imul, []), (60, 1, .iload_n 3, []), (61, 1, .iadd, []),
  (62, 2, .istore 7, []), (64, 1, .iload_n 3, []), (65, 3, .ifCond .lt 55, []), (68, 1, .aload_n 0, []), (69, 3, .getfield 188, [13, 83]), (72, 2, .iload 6, []),
  (74, 1, .iaload, []), (75, 1, .aload_n 0, []), (76, 3, .getfield 188, [13, 83]), (79, 2, .iload 7, []), (81, 1, .iaload, []), (82, 3, .if_icmp .lt 38, []),
  (85, 1, .aload_n 0, []), (86, 3, .getfield 188, [13, 83]), (89, 2, .iload 6, []), (91, 1, .iaload, []), (92, 1, .aload_n 0, []), (93, 3, .getfield 188, [13, 83]),
  (96, 2, .iload 7, []), (98, 1, .iaload, []), (99, 3, .if_icmp .ne 26, []), (102, 1, .aload_n 0, []), (103, 3, .getfield 191, [13, 84]), (106, 2, .iload 6, []),
  (108, 1, .laload, []), (109, 1, .aload_n 0, []), (110, 3, .getfield 191, [13, 84]), (113, 2, .iload 7, []), (115, 1, .laload, []), (116, 1, .lcmp, []),
  (117, 3, .ifCond .ge 8, []), (120, 2, .iload 5, []), (122, 3, .goto 4, []), (125, 1, .iload_n 3, []), (126, 1, .istore_n 3, []), (127, 3, .iinc 4 1, []),
  (130, 3, .goto (-125), []), (133, 1, .iload_n 3, []), (134, 1, .ireturn, [])]
set_option maxRecDepth 20000 in
def k_X12_walk : List az_I := [
  (0, 1, .iload_n 1, []), (1, 3, .invokestatic 239, [0, 160, 1, 999]), (4, 3, .ifCond .eq 41, []), (7, 1, .iload_n 2, []), (8, 3, .invokestatic 228, [0, 161, 1, 999]), (11, 3, .ifCond .eq 34, []),
  (14, 2, .iload 4, []), (16, 1, .i2l, []), (17, 1, .iload_n 2, []), (18, 1, .i2l, []), (19, 3, .ldc2_w 215, [11]), (22, 3, .invokestatic 211, [0, 159, 3, 999]),
  (25, 3, .ifCond .eq 20, []), (28, 1, .aload_n 0, []), (29, 1, .iload_n 3, []), (30, 3, .invokevirtual 249, [0, 162, 2, 13]), (33, 3, .ifCond .eq 12, []), (36, 1, .aload_n 0, []),
  (37, 2, .iload 5, []), (39, 3, .invokevirtual 249, [0, 162, 2, 13]), (42, 3, .ifCond .ne 5, []), (45, 1, .iconst (-1), []), (46, 1, .ireturn, []), (47, 2, .iload 4, []),
  (49, 2, .istore 6, []), (51, 2, .iload 6, []), (53, 1, .iload_n 2, []), (54, 3, .if_icmp .lt 291, []), (57, 1, .aload_n 0, []), (58, 1, .iload_n 1, []),
  (59, 2, .iload 6, []), (61, 1, .aload_n 0, []), (62, 3, .getfield 225, [13, 3]), (65, 3, .invokevirtual 303, [0, 187, 4, 13]), (68, 1, .aload_n 0, []), (69, 1, .iload_n 1, []),
  (70, 2, .iload 6, []), (72, 1, .aload_n 0, []), (73, 3, .getfield 225, [13, 3]), (76, 3, .invokevirtual 320, [0, 195, 4, 13]), (79, 1, .iconst 0, []), (80, 2, .istore 7, []),
  (82, 2, .iload 7, []), (84, 1, .aload_n 0, []), (85, 3, .getfield 206, [13, 2]), (88, 3, .if_icmp .ge 251, []), (91, 3, .sipush 192, []), (94, 2, .iload 6, []),
  (96, 1, .imul, []), (97, 2, .iload 7, []), (99, 1, .iadd, []), (100, 2, .istore 8, []), (102, 1, .aload_n 0, []), (103, 3, .getfield 179, [13, 80]),
  (106, 2, .iload 8, []), (108, 1, .aload_n 0, []), (109, 3, .getfield 164, [13, 74]), (112, 2, .iload 7, []), (114, 1, .baload, []), (115, 3, .ifCond .eq 33, []),
  (118, 1, .aload_n 0, []), (119, 2, .iload 7, []), (121, 1, .iload_n 1, []), (122, 2, .iload 6, []), (124, 3, .invokevirtual 545, [0, 242, 4, 13]), (127, 3, .ifCond .ne 21, []),
  (130, 2, .iload 6, []), (132, 2, .iload 4, []), (134, 3, .if_icmp .lt 10, []), (137, 2, .iload 7, []), (139, 2, .iload 5, []), (141, 3, .if_icmp .ne 7, []),
  (144, 1, .iconst 1, []), (145, 3, .goto 4, []), (148, 1, .iconst 0, []), (149, 1, .bastore, []), (150, 1, .aload_n 0, []), (151, 3, .getfield 182, [13, 81]),
  (154, 2, .iload 8, []), (156, 1, .aload_n 0, []), (157, 3, .getfield 161, [13, 73]), (160, 2, .iload 7, []), (162, 1, .iaload, []), (163, 3, .ifCond .ne 7, []),
  (166, 1, .iconst 1, []), (167, 3, .goto 4, []), (170, 1, .iconst 0, []), (171, 1, .iastore, []), (172, 1, .aload_n 0, []), (173, 3, .getfield 185, [13, 82]),
  (176, 2, .iload 8, []), (178, 1, .aload_n 0, []), (179, 2, .iload 7, []), (181, 1, .iload_n 1, []), (182, 2, .iload 6, []), (184, 1, .iconst (-1), []),
  (185, 1, .iconst (-1), []), (186, 3, .invokevirtual 538, [0, 240, 6, 13]), (189, 1, .lastore, []), (190, 2, .iload 6, []), (192, 2, .iload 4, []), (194, 3, .if_icmp .ne 8, []),
  (197, 2, .iload 7, []), (199, 3, .goto 11, []), (202, 1, .aload_n 0, []), (203, 2, .iload 7, []), (205, 2, .iload 6, []), (207, 3, .invokevirtual 548, [0, 244, 3, 13]),
  (210, 2, .istore 9, []), (212, 1, .aload_n 0, []), (213, 3, .getfield 179, [13, 80]), (216, 2, .iload 8, []), (218, 1, .baload, []), (219, 3, .ifCond .eq 12, []),
  (222, 2, .iload 9, []), (224, 3, .ifCond .lt 7, []), (227, 1, .iconst 1, []), (228, 3, .goto 4, []), (231, 1, .iconst 0, []), (232, 2, .istore 10, []),
  (234, 3, .sipush 192, []), (237, 2, .iload 6, []), (239, 1, .iconst 1, []), (240, 1, .iadd, []), (241, 1, .imul, []), (242, 2, .iload 9, []),
  (244, 1, .iadd, []), (245, 2, .istore 11, []), (247, 1, .aload_n 0, []), (248, 3, .getfield 188, [13, 83]), (251, 2, .iload 8, []), (253, 2, .iload 10, []),
  (255, 3, .ifCond .ne 9, []), (258, 3, .sipush 1000, []), (261, 3, .goto 29, []), (264, 1, .aload_n 0, []), (265, 3, .getfield 182, [13, 81]), (268, 2, .iload 8, []),
  (270, 1, .iaload, []), (271, 2, .iload 6, []), (273, 2, .iload 4, []), (275, 3, .if_icmp .ne 7, []), (278, 1, .iconst 0, []), (279, 3, .goto 10, []),
  (282, 1, .aload_n 0, []), (283, 3, .getfield 188, [13, 83]), (286, 2, .iload 11, []), (288, 1, .iaload, []), (289, 1, .iadd, []), (290, 1, .iastore, []),
  (291, 1, .aload_n 0, []), (292, 3, .getfield 191, [13, 84]), (295, 2, .iload 8, []), (297, 2, .iload 10, []), (299, 3, .ifCond .ne 7, []), (302, 1, .lconst 0, []),
  (303, 3, .goto 29, []), (306, 1, .aload_n 0, []), (307, 3, .getfield 185, [13, 82]), (310, 2, .iload 8, []), (312, 1, .laload, []), (313, 2, .iload 6, []),
  (315, 2, .iload 4, []), (317, 3, .if_icmp .ne 7, []), (320, 1, .lconst 0, []), (321, 3, .goto 10, []), (324, 1, .aload_n 0, []), (325, 3, .getfield 191, [13, 84]),
  (328, 2, .iload 11, []), (330, 1, .laload, []), (331, 1, .ladd, []), (332, 1, .lastore, []), (333, 3, .iinc 7 1, []), (336, 3, .goto (-254), []),
  (339, 3, .iinc 6 (-1), []), (342, 3, .goto (-291), []), (345, 3, .sipush 192, []), (348, 1, .iload_n 2, []), (349, 1, .imul, []), (350, 1, .iload_n 3, []),
  (351, 1, .iadd, []), (352, 2, .istore 6, []), (354, 1, .aload_n 0, []), (355, 3, .getfield 188, [13, 83]), (358, 2, .iload 6, []), (360, 1, .iaload, []),
  (361, 3, .sipush 1000, []), (364, 3, .if_icmp .lt 5, []), (367, 1, .iconst (-1), []), (368, 1, .ireturn, []), (369, 1, .aload_n 0, []), (370, 2, .iload 4, []),
  (372, 1, .iload_n 2, []), (373, 1, .isub, []), (374, 1, .iconst 1, []), (375, 1, .iadd, []), (376, 3, .putfield 551, [13, 85]), (379, 1, .aload_n 0, []),
  (380, 1, .aload_n 0, []), (381, 3, .getfield 191, [13, 84]), (384, 2, .iload 6, []), (386, 1, .laload, []), (387, 3, .putfield 554, [13, 86]), (390, 1, .iload_n 3, []),
  (391, 2, .istore 7, []), (393, 1, .iload_n 2, []), (394, 2, .istore 8, []), (396, 2, .iload 8, []), (398, 2, .iload 4, []), (400, 3, .if_icmp .gt 42, []),
  (403, 1, .aload_n 0, []), (404, 3, .getfield 194, [13, 87]), (407, 2, .iload 8, []), (409, 1, .iload_n 2, []), (410, 1, .isub, []), (411, 2, .iload 7, []),
  (413, 1, .iastore, []), (414, 2, .iload 8, []), (416, 2, .iload 4, []), (418, 3, .if_icmp .ge 14, []), (421, 1, .aload_n 0, []), (422, 2, .iload 7, []),
  (424, 2, .iload 8, []), (426, 3, .invokevirtual 548, [0, 244, 3, 13]), (429, 3, .goto 5, []), (432, 2, .iload 7, []), (434, 2, .istore 7, []), (436, 3, .iinc 8 1, []),
  (439, 3, .goto (-43), []), (442, 1, .aload_n 0, []), (443, 3, .getfield 188, [13, 83]), (446, 2, .iload 6, []), (448, 1, .iaload, []), (449, 1, .ireturn, [])]
set_option maxRecDepth 20000 in
def k_X12_walked : List az_I := [
  (0, 1, .iload_n 1, []), (1, 1, .iconst (-1), []), (2, 3, .if_icmp .ne 17, []), (5, 1, .aload_n 0, []), (6, 3, .getfield 551, [13, 85]), (9, 3, .ifCond .le 10, []),
  (12, 1, .aload_n 0, []), (13, 3, .getfield 554, [13, 86]), (16, 3, .goto 32, []), (19, 1, .iload_n 1, []), (20, 1, .i2l, []), (21, 1, .lconst 0, []),
  (22, 1, .aload_n 0, []), (23, 3, .getfield 551, [13, 85]), (26, 1, .iconst 1, []), (27, 1, .isub, []), (28, 1, .i2l, []), (29, 3, .invokestatic 211, [0, 159, 3, 999]),
  (32, 3, .ifCond .eq 13, []), (35, 1, .aload_n 0, []), (36, 3, .getfield 194, [13, 87]), (39, 1, .iload_n 1, []), (40, 1, .iaload, []), (41, 1, .i2l, []),
  (42, 3, .goto 6, []), (45, 3, .ldc2_w 327, [18446744073709551615]), (48, 1, .lreturn, [])]
set_option maxRecDepth 20000 in
def k_X12_servedBy : List az_I := [
  (0, 1, .iconst 0, []), (1, 2, .istore 5, []), (3, 1, .aload_n 0, []), (4, 1, .iload_n 1, []), (5, 1, .iconst 0, []), (6, 1, .iconst 0, []),
  (7, 2, .iload 4, []), (9, 1, .iload_n 2, []), (10, 1, .iload_n 3, []), (11, 3, .invokevirtual 296, [0, 186, 7, 13]), (14, 1, .iconst 0, []), (15, 2, .istore 6, []),
  (17, 2, .iload 6, []), (19, 1, .aload_n 0, []), (20, 3, .getfield 254, [13, 66]), (23, 3, .if_icmp .ge 92, []), (26, 1, .aload_n 0, []), (27, 3, .getfield 151, [13, 70]),
  (30, 2, .bipush 12, []), (32, 2, .iload 6, []), (34, 1, .imul, []), (35, 1, .iload_n 3, []), (36, 1, .iadd, []), (37, 1, .iaload, []),
  (38, 2, .istore 7, []), (40, 2, .iload 5, []), (42, 2, .iload 7, []), (44, 3, .ifCond .lt 61, []), (47, 1, .iload_n 2, []), (48, 1, .i2l, []),
  (49, 1, .aload_n 0, []), (50, 3, .getfield 145, [13, 68]), (53, 2, .iload 6, []), (55, 1, .iaload, []), (56, 1, .i2l, []), (57, 1, .aload_n 0, []),
  (58, 3, .getfield 148, [13, 69]), (61, 2, .iload 6, []), (63, 1, .iaload, []), (64, 1, .i2l, []), (65, 3, .invokestatic 211, [0, 159, 3, 999]), (68, 3, .ifCond .eq 37, []),
  (71, 1, .aload_n 0, []), (72, 3, .getfield 164, [13, 74]), (75, 2, .iload 7, []), (77, 1, .baload, []), (78, 3, .ifCond .eq 27, []), (81, 1, .aload_n 0, []),
  (82, 3, .getfield 161, [13, 73]), (85, 2, .iload 7, []), (87, 1, .iaload, []), (88, 3, .ifCond .ne 17, []), (91, 1, .aload_n 0, []), (92, 3, .getfield 154, [13, 71]),
  (95, 2, .iload 7, []), (97, 1, .baload, []), (98, 3, .ifCond .eq 7, []), (101, 1, .iconst 1, []), (102, 3, .goto 4, []), (105, 1, .iconst 0, []),
  (106, 1, .iadd, []), (107, 2, .istore 5, []), (109, 3, .iinc 6 1, []), (112, 3, .goto (-95), []), (115, 2, .iload 5, []), (117, 1, .ireturn, [])]
set_option maxRecDepth 20000 in
def k_X12_seeks : List az_I := [
  (0, 1, .iconst 0, []), (1, 1, .istore_n 3, []), (2, 1, .iload_n 3, []), (3, 1, .aload_n 0, []), (4, 3, .getfield 206, [13, 2]), (7, 3, .if_icmp .ge 16, []),
  (10, 1, .aload_n 0, []), (11, 3, .getfield 197, [13, 89]), (14, 1, .iload_n 3, []), (15, 1, .iconst 0, []), (16, 1, .iastore, []), (17, 3, .iinc 3 1, []),
  (20, 3, .goto (-18), []), (23, 1, .iconst 0, []), (24, 1, .istore_n 3, []), (25, 1, .iload_n 3, []), (26, 2, .bipush 12, []), (28, 3, .if_icmp .ge 70, []),
  (31, 1, .aload_n 0, []), (32, 1, .iload_n 1, []), (33, 1, .iload_n 3, []), (34, 1, .aload_n 0, []), (35, 3, .getfield 225, [13, 3]), (38, 3, .invokevirtual 303, [0, 187, 4, 13]),
  (41, 1, .iconst 0, []), (42, 2, .istore 4, []), (44, 2, .iload 4, []), (46, 1, .aload_n 0, []), (47, 3, .getfield 206, [13, 2]), (50, 3, .if_icmp .ge 42, []),
  (53, 1, .aload_n 0, []), (54, 3, .getfield 197, [13, 89]), (57, 2, .iload 4, []), (59, 1, .dup2, []), (60, 1, .iaload, []), (61, 1, .aload_n 0, []),
  (62, 3, .getfield 164, [13, 74]), (65, 2, .iload 4, []), (67, 1, .baload, []), (68, 3, .ifCond .eq 15, []), (71, 1, .aload_n 0, []), (72, 2, .iload 4, []),
  (74, 1, .iload_n 1, []), (75, 1, .iload_n 3, []), (76, 1, .iload_n 2, []), (77, 3, .invokevirtual 558, [0, 247, 5, 13]), (80, 3, .goto 4, []), (83, 1, .iconst 0, []),
  (84, 1, .iadd, []), (85, 1, .iastore, []), (86, 3, .iinc 4 1, []), (89, 3, .goto (-45), []), (92, 3, .iinc 3 1, []), (95, 3, .goto (-70), []),
  (98, 1, .iconst (-1), []), (99, 1, .istore_n 3, []), (100, 1, .iconst 0, []), (101, 2, .istore 4, []), (103, 2, .iload 4, []), (105, 1, .aload_n 0, []),
  (106, 3, .getfield 206, [13, 2]), (109, 3, .if_icmp .ge 94, []), (112, 1, .aload_n 0, []), (113, 2, .iload 4, []), (115, 1, .iload_n 1, []), (116, 1, .aload_n 0, []),
  (117, 3, .getfield 225, [13, 3]), (120, 3, .invokevirtual 532, [0, 183, 4, 13]), (123, 2, .istore 5, []), (125, 1, .iconst 0, []), (126, 2, .istore 6, []), (128, 2, .iload 6, []),
  (130, 2, .bipush 12, []), (132, 3, .if_icmp .ge 33, []), (135, 2, .iload 5, []), (137, 3, .ifCond .eq 19, []), (140, 1, .aload_n 0, []), (141, 2, .iload 4, []),
  (143, 1, .iload_n 1, []), (144, 2, .iload 6, []), (146, 3, .invokevirtual 545, [0, 242, 4, 13]), (149, 3, .ifCond .ne 7, []), (152, 1, .iconst 1, []), (153, 3, .goto 4, []),
  (156, 1, .iconst 0, []), (157, 2, .istore 5, []), (159, 3, .iinc 6 1, []), (162, 3, .goto (-34), []), (165, 2, .iload 5, []), (167, 3, .ifCond .eq 28, []),
  (170, 1, .iload_n 3, []), (171, 3, .ifCond .lt 19, []), (174, 1, .aload_n 0, []), (175, 3, .getfield 197, [13, 89]), (178, 2, .iload 4, []), (180, 1, .iaload, []),
  (181, 1, .aload_n 0, []), (182, 3, .getfield 197, [13, 89]), (185, 1, .iload_n 3, []), (186, 1, .iaload, []), (187, 3, .if_icmp .le 8, []), (190, 2, .iload 4, []),
  (192, 3, .goto 4, []), (195, 1, .iload_n 3, []), (196, 1, .istore_n 3, []), (197, 3, .iinc 4 1, []), (200, 3, .goto (-97), []), (203, 1, .aload_n 0, []),
  (204, 1, .iload_n 3, []), (205, 3, .ifCond .ge 7, []), (208, 1, .iconst (-1), []), (209, 3, .goto 9, []), (212, 1, .aload_n 0, []), (213, 3, .getfield 197, [13, 89]),
  (216, 1, .iload_n 3, []), (217, 1, .iaload, []), (218, 3, .putfield 561, [13, 88]), (221, 1, .iload_n 3, []), (222, 1, .ireturn, [])]
set_option maxRecDepth 20000 in
def k_X12_best : List az_I := [
  (0, 1, .iload_n 1, []), (1, 3, .invokestatic 239, [0, 160, 1, 999]), (4, 3, .ifCond .eq 24, []), (7, 1, .iload_n 2, []), (8, 1, .i2l, []), (9, 1, .lconst 1, []),
  (10, 3, .ldc2_w 252, [60]), (13, 3, .invokestatic 211, [0, 159, 3, 999]), (16, 3, .ifCond .eq 12, []), (19, 1, .aload_n 0, []), (20, 1, .iload_n 1, []), (21, 1, .iload_n 2, []),
  (22, 3, .invokevirtual 564, [0, 248, 3, 13]), (25, 3, .goto 4, []), (28, 1, .iconst (-1), []), (29, 1, .ireturn, [])]
set_option maxRecDepth 20000 in
def k_X12_serves : List az_I := [
  (0, 1, .iload_n 1, []), (1, 3, .invokestatic 239, [0, 160, 1, 999]), (4, 3, .ifCond .eq 15, []), (7, 1, .iload_n 2, []), (8, 1, .i2l, []), (9, 1, .lconst 1, []),
  (10, 3, .ldc2_w 252, [60]), (13, 3, .invokestatic 211, [0, 159, 3, 999]), (16, 3, .ifCond .ne 5, []), (19, 1, .iconst (-1), []), (20, 1, .ireturn, []), (21, 1, .aload_n 0, []),
  (22, 1, .iload_n 1, []), (23, 1, .iload_n 2, []), (24, 3, .invokevirtual 564, [0, 248, 3, 13]), (27, 1, .istore_n 3, []), (28, 1, .aload_n 0, []), (29, 3, .getfield 561, [13, 88]),
  (32, 1, .ireturn, [])]
set_option maxRecDepth 20000 in
def k_X12_about : List az_I := [
  (0, 1, .iconst 0, []), (1, 1, .istore_n 2, []), (2, 1, .iconst 0, []), (3, 1, .istore_n 3, []), (4, 1, .iload_n 3, []), (5, 1, .aload_n 0, []),
  (6, 3, .getfield 220, [13, 12]), (9, 3, .if_icmp .ge 33, []), (12, 1, .iload_n 2, []), (13, 1, .aload_n 0, []), (14, 1, .iload_n 3, []), (15, 1, .aload_n 0, []),
  (16, 3, .getfield 225, [13, 3]), (19, 1, .aload_n 0, []), (20, 3, .getfield 225, [13, 3]), (23, 3, .invokevirtual 282, [0, 181, 4, 13]), (26, 3, .ifCond .lt 7, []), (29, 1, .iconst 1, []),
  (30, 3, .goto 4, []), (33, 1, .iconst 0, []), (34, 1, .iadd, []), (35, 1, .istore_n 2, []), (36, 3, .iinc 3 1, []), (39, 3, .goto (-35), []),
  (42, 1, .iload_n 1, []), (43, 57, .tableswitch 109 0 10 #[57, 62, 67, 72, 77, 82, 87, 92, 97, 102, 107], []), (100, 1, .aload_n 0, []), (101, 3, .getfield 225, [13, 3]), (104, 1, .ireturn, []), (105, 1, .aload_n 0, []),
  (106, 3, .getfield 200, [13, 0]), (109, 1, .ireturn, []), (110, 1, .aload_n 0, []), (111, 3, .getfield 203, [13, 1]), (114, 1, .ireturn, []), (115, 1, .aload_n 0, []),
  (116, 3, .getfield 217, [13, 9]), (119, 1, .ireturn, []), (120, 1, .aload_n 0, []), (121, 3, .getfield 220, [13, 12]), (124, 1, .ireturn, []), (125, 1, .aload_n 0, []),
  (126, 3, .getfield 310, [13, 27]), (129, 1, .ireturn, []), (130, 1, .aload_n 0, []), (131, 3, .getfield 236, [13, 6]), (134, 1, .ireturn, []), (135, 1, .aload_n 0, []),
  (136, 3, .getfield 254, [13, 66]), (139, 1, .ireturn, []), (140, 1, .aload_n 0, []), (141, 3, .getfield 508, [13, 55]), (144, 1, .ireturn, []), (145, 1, .aload_n 0, []),
  (146, 3, .getfield 340, [13, 40]), (149, 1, .ireturn, []), (150, 1, .iload_n 2, []), (151, 1, .ireturn, []), (152, 1, .iconst (-1), []), (153, 1, .ireturn, [])]
set_option maxRecDepth 20000 in
def k_J6_bitCount_0f7a4 : List az_I := [
  (0, 1, .iload_n 0, []), (1, 1, .iload_n 0, []), (2, 1, .iconst 1, []), (3, 1, .iushr, []), (4, 3, .ldc_w 265, [0, 1431655765]), (7, 1, .iand, []),
  (8, 1, .isub, []), (9, 1, .istore_n 0, []), (10, 1, .iload_n 0, []), (11, 3, .ldc_w 266, [0, 858993459]), (14, 1, .iand, []), (15, 1, .iload_n 0, []),
  (16, 1, .iconst 2, []), (17, 1, .iushr, []), (18, 3, .ldc_w 266, [0, 858993459]), (21, 1, .iand, []), (22, 1, .iadd, []), (23, 1, .istore_n 0, []),
  (24, 1, .iload_n 0, []), (25, 1, .iload_n 0, []), (26, 1, .iconst 4, []), (27, 1, .iushr, []), (28, 1, .iadd, []), (29, 3, .ldc_w 267, [0, 252645135]),
  (32, 1, .iand, []), (33, 1, .istore_n 0, []), (34, 1, .iload_n 0, []), (35, 1, .iload_n 0, []), (36, 2, .bipush 8, []), (38, 1, .iushr, []),
  (39, 1, .iadd, []), (40, 1, .istore_n 0, []), (41, 1, .iload_n 0, []), (42, 1, .iload_n 0, []), (43, 2, .bipush 16, []), (45, 1, .iushr, []),
  (46, 1, .iadd, []), (47, 1, .istore_n 0, []), (48, 1, .iload_n 0, []), (49, 2, .bipush 63, []), (51, 1, .iand, []), (52, 1, .ireturn, [])]
set_option maxRecDepth 20000 in
def k_J9_floorDiv_7cf53 : List az_I := [
  (0, 1, .iload_n 0, []), (1, 1, .iload_n 1, []), (2, 1, .idiv, []), (3, 1, .istore_n 2, []), (4, 1, .iload_n 0, []), (5, 1, .iload_n 1, []),
  (6, 1, .ixor, []), (7, 3, .ifCond .ge 14, []), (10, 1, .iload_n 2, []), (11, 1, .iload_n 1, []), (12, 1, .imul, []), (13, 1, .iload_n 0, []),
  (14, 3, .if_icmp .eq 7, []), (17, 1, .iload_n 2, []), (18, 1, .iconst 1, []), (19, 1, .isub, []), (20, 1, .ireturn, []), (21, 1, .iload_n 2, []),
  (22, 1, .ireturn, [])]
set_option maxRecDepth 20000 in
def k_J9_abs_0f7a4 : List az_I := [
  (0, 1, .iload_n 0, []), (1, 3, .ifCond .ge 8, []), (4, 1, .iload_n 0, []), (5, 1, .ineg, []), (6, 3, .goto 4, []), (9, 1, .iload_n 0, []),
  (10, 1, .ireturn, [])]
set_option maxRecDepth 20000 in
def k_J9_max_7cf53 : List az_I := [
  (0, 1, .iload_n 0, []), (1, 1, .iload_n 1, []), (2, 3, .if_icmp .lt 7, []), (5, 1, .iload_n 0, []), (6, 3, .goto 4, []), (9, 1, .iload_n 1, []),
  (10, 1, .ireturn, [])]
set_option maxRecDepth 20000 in
def k_J9_max_f86c9 : List az_I := [
  (0, 1, .lload_n 0, []), (1, 1, .lload_n 2, []), (2, 1, .lcmp, []), (3, 3, .ifCond .lt 7, []), (6, 1, .lload_n 0, []), (7, 3, .goto 4, []),
  (10, 1, .lload_n 2, []), (11, 1, .lreturn, [])]
set_option maxRecDepth 20000 in
def k_J9_min_7cf53 : List az_I := [
  (0, 1, .iload_n 0, []), (1, 1, .iload_n 1, []), (2, 3, .if_icmp .gt 7, []), (5, 1, .iload_n 0, []), (6, 3, .goto 4, []), (9, 1, .iload_n 1, []),
  (10, 1, .ireturn, [])]
set_option maxRecDepth 20000 in
def k_J9_min_f86c9 : List az_I := [
  (0, 1, .lload_n 0, []), (1, 1, .lload_n 2, []), (2, 1, .lcmp, []), (3, 3, .ifCond .gt 7, []), (6, 1, .lload_n 0, []), (7, 3, .goto 4, []),
  (10, 1, .lload_n 2, []), (11, 1, .lreturn, [])]
set_option maxRecDepth 20000 in
def k_J0_length_8abf5 : List az_I := [
  (0, 1, .aload_n 0, []), (1, 3, .getfield 9, [113, 0]), (4, 1, .arraylength, []), (5, 1, .aload_n 0, []), (6, 3, .invokevirtual 335, [0, 261, 1, 113]), (9, 1, .ishr, []),
  (10, 1, .ireturn, [])]
set_option maxRecDepth 20000 in
def k_J0_charAt_5068e : List az_I := [
  (0, 1, .aload_n 0, []), (1, 3, .invokevirtual 492, [0, 262, 1, 113]), (4, 3, .ifCond .eq 12, []), (7, 1, .aload_n 0, []), (8, 3, .getfield 9, [113, 0]), (11, 1, .iload_n 1, []),
  (12, 3, .invokestatic 495, [0, 264, 2, 999]), (15, 1, .ireturn, []), (16, 1, .aload_n 0, []), (17, 3, .getfield 9, [113, 0]), (20, 1, .iload_n 1, []), (24, 1, .ireturn, [])]
set_option maxRecDepth 20000 in
def k_J0_coder_7d493 : List az_I := [
  (0, 3, .getstatic 38, [4, 0]), (3, 3, .ifCond .eq 10, []), (6, 1, .aload_n 0, []), (7, 3, .getfield 15, [113, 1]), (10, 3, .goto 4, []), (13, 1, .iconst 1, []),
  (14, 1, .ireturn, [])]
set_option maxRecDepth 20000 in
def k_J0_isLatin1_aae02 : List az_I := [
  (0, 3, .getstatic 38, [4, 0]), (3, 3, .ifCond .eq 14, []), (6, 1, .aload_n 0, []), (7, 3, .getfield 15, [113, 1]), (10, 3, .ifCond .ne 7, []), (13, 1, .iconst 1, []),
  (14, 3, .goto 4, []), (17, 1, .iconst 0, []), (18, 1, .ireturn, [])]
set_option maxRecDepth 20000 in
def k_J0_checkIndex_df160 : List az_I := [
  (0, 1, .iload_n 0, []), (1, 1, .iload_n 1, []), (2, 3, .getstatic 1053, [3, 2]), (5, 3, .invokestatic 1059, [0, 280, 3, 999]), (8, 1, .pop, []), (9, 1, .return_, [])]
set_option maxRecDepth 20000 in
def k_J1_charAt_3b067 : List az_I := [
  (0, 1, .iload_n 1, []), (1, 1, .aload_n 0, []), (2, 1, .arraylength, []), (3, 3, .invokestatic 9, [0, 263, 2, 999]), (6, 1, .aload_n 0, []), (7, 1, .iload_n 1, []),
  (8, 1, .baload, []), (9, 3, .sipush 255, []), (12, 1, .iand, []), (13, 1, .i2c, []), (14, 1, .ireturn, [])]
set_option maxRecDepth 20000 in
def k_Jxa1e45_init_da8c8 : List az_I := [
  (0, 1, .aload_n 0, []), (1, 3, .invokespecial 1, [1, 2, 3]), (4, 1, .return_, [])]
set_option maxRecDepth 20000 in
def k_Jxc12de_init_da8c8 : List az_I := [
  (0, 1, .aload_n 0, []), (1, 3, .invokespecial 1, [0, 265, 1, 0]), (4, 1, .aload_n 0, []), (5, 1, .iconst 0, []), (6, 3, .putfield 7, [0, 0]), (9, 1, .return_, [])]
set_option maxRecDepth 20000 in
def k_Jx4a65c_init_da8c8 : List az_I := [
  (0, 1, .aload_n 0, []), (1, 3, .invokespecial 1, [0, 266, 1, 0]), (4, 1, .aload_n 0, []), (5, 3, .getstatic 39, [0, 2]), (8, 3, .putfield 9, [0, 1]), (11, 1, .return_, [])]
set_option maxRecDepth 20000 in
def k_Jx4a65c_grow_92f84 : List az_I := [
  (0, 1, .aload_n 0, []), (1, 3, .getfield 9, [0, 1]), (4, 1, .arraylength, []), (5, 1, .istore_n 2, []), (6, 1, .iload_n 2, []), (7, 3, .ifCond .gt 13, []),
  (10, 1, .aload_n 0, []), (11, 3, .getfield 9, [0, 1]), (14, 3, .getstatic 39, [0, 2]), (17, 3, .if_acmp .eq 28, []), (20, 1, .iload_n 2, []), (21, 1, .iload_n 1, []),
  (22, 1, .iload_n 2, []), (23, 1, .isub, []), (24, 1, .iload_n 2, []), (25, 1, .iconst 1, []), (26, 1, .ishr, []), (27, 3, .invokestatic 73, [0, 279, 3, 999]),
  (30, 1, .istore_n 3, []), (31, 1, .aload_n 0, []), (32, 1, .aload_n 0, []), (33, 3, .getfield 9, [0, 1]), (36, 1, .iload_n 3, []), (37, 3, .invokestatic 66, [0, 276, 2, 999]),
  (40, 1, .dup_x1, []), (41, 3, .putfield 9, [0, 1]), (44, 1, .areturn, []), (45, 1, .aload_n 0, []), (46, 2, .bipush 10, []), (48, 1, .iload_n 1, []),
  (49, 3, .invokestatic 79, [0, 255, 2, 999]), (52, 3, .anewarray 7, []), (55, 1, .dup_x1, []), (56, 3, .putfield 9, [0, 1]), (59, 1, .areturn, [])]
set_option maxRecDepth 20000 in
def k_Jx4a65c_grow_d5877 : List az_I := [
  (0, 1, .aload_n 0, []), (1, 1, .aload_n 0, []), (2, 3, .getfield 48, [0, 2]), (5, 1, .iconst 1, []), (6, 1, .iadd, []), (7, 3, .invokevirtual 69, [0, 268, 2, 0]),
  (10, 1, .areturn, [])]
set_option maxRecDepth 20000 in
def k_Jx4a65c_size_8abf5 : List az_I := [
  (0, 1, .aload_n 0, []), (1, 3, .getfield 48, [0, 2]), (4, 1, .ireturn, [])]
set_option maxRecDepth 20000 in
def k_Jx4a65c_elementData_915e3 : List az_I := [
  (0, 1, .aload_n 0, []), (1, 3, .getfield 9, [0, 1]), (4, 1, .iload_n 1, []), (5, 1, .aaload, []), (6, 1, .areturn, [])]
set_option maxRecDepth 20000 in
def k_Jx4a65c_get_915e3 : List az_I := [
  (0, 1, .iload_n 1, []), (1, 1, .aload_n 0, []), (2, 3, .getfield 48, [0, 2]), (5, 3, .invokestatic 118, [0, 278, 2, 999]), (8, 1, .pop, []), (9, 1, .aload_n 0, []),
  (10, 1, .iload_n 1, []), (11, 3, .invokevirtual 123, [0, 271, 2, 0]), (14, 1, .areturn, [])]
set_option maxRecDepth 20000 in
def k_Jx4a65c_add_72be8 : List az_I := [
  (0, 1, .iload_n 3, []), (1, 1, .aload_n 2, []), (2, 1, .arraylength, []), (3, 3, .if_icmp .ne 8, []), (6, 1, .aload_n 0, []), (7, 3, .invokevirtual 129, [0, 269, 1, 0]),
  (10, 1, .astore_n 2, []), (11, 1, .aload_n 2, []), (12, 1, .iload_n 3, []), (13, 1, .aload_n 1, []), (14, 1, .aastore, []), (15, 1, .aload_n 0, []),
  (16, 1, .iload_n 3, []), (17, 1, .iconst 1, []), (18, 1, .iadd, []), (19, 3, .putfield 48, [0, 2]), (22, 1, .return_, [])]
set_option maxRecDepth 20000 in
def k_Jx4a65c_add_9ea2d : List az_I := [
  (0, 1, .aload_n 0, []), (1, 1, .dup, []), (2, 3, .getfield 63, [0, 0]), (5, 1, .iconst 1, []), (6, 1, .iadd, []), (7, 3, .putfield 63, [0, 0]),
  (10, 1, .aload_n 0, []), (11, 1, .aload_n 1, []), (12, 1, .aload_n 0, []), (13, 3, .getfield 9, [0, 1]), (16, 1, .aload_n 0, []), (17, 3, .getfield 48, [0, 2]),
  (20, 3, .invokevirtual 131, [0, 273, 4, 0]), (23, 1, .iconst 1, []), (24, 1, .ireturn, [])]
set_option maxRecDepth 20000 in
def k_J7_fill_53178 : List az_I := [
  (0, 1, .iconst 0, []), (1, 1, .istore_n 2, []), (2, 1, .aload_n 0, []), (3, 1, .arraylength, []), (4, 1, .istore_n 3, []), (5, 1, .iload_n 2, []),
  (6, 1, .iload_n 3, []), (7, 3, .if_icmp .ge 13, []), (10, 1, .aload_n 0, []), (11, 1, .iload_n 2, []), (12, 1, .iload_n 1, []), (13, 1, .iastore, []),
  (14, 3, .iinc 2 1, []), (17, 3, .goto (-12), []), (20, 1, .return_, [])]
set_option maxRecDepth 20000 in
def k_J7_copyOf_1904c : List az_I := [
  (0, 1, .aload_n 0, []), (1, 1, .iload_n 1, []), (2, 1, .aload_n 0, []), (3, 3, .invokevirtual 86, [1, 2, 4]), (6, 3, .invokestatic 300, [0, 277, 3, 999]), (9, 1, .areturn, [])]
set_option maxRecDepth 20000 in
def k_J7_copyOf_6403c : List az_I := [
  (0, 1, .aload_n 2, []), (1, 2, .ldc 110, [1, 1000005]), (3, 3, .if_acmp .ne 10, []), (6, 1, .iload_n 1, []), (7, 3, .anewarray 2, []), (10, 3, .goto 14, []),
  (13, 1, .aload_n 2, []), (17, 1, .iload_n 1, []), (24, 1, .astore_n 3, []), (25, 1, .aload_n 0, []), (26, 1, .iconst 0, []), (27, 1, .aload_n 3, []),
  (28, 1, .iconst 0, []), (29, 1, .aload_n 0, []), (30, 1, .arraylength, []), (31, 1, .iload_n 1, []), (32, 3, .invokestatic 304, [0, 257, 2, 999]), (35, 3, .invokestatic 150, [1, 2, 5]),
  (38, 1, .aload_n 3, []), (39, 1, .areturn, [])]
set_option maxRecDepth 20000 in
def k_J15_checkIndex_7cf53 : List az_I := [
  (0, 1, .iload_n 0, []), (1, 1, .iload_n 1, []), (2, 1, .aconst_null, []), (3, 3, .invokestatic 105, [0, 280, 3, 999]), (6, 1, .ireturn, [])]
set_option maxRecDepth 20000 in
def k_J8_newLength_cabcc : List az_I := [
  (0, 1, .iload_n 0, []), (1, 1, .iload_n 1, []), (2, 1, .iload_n 2, []), (3, 3, .invokestatic 194, [0, 255, 2, 999]), (6, 1, .iadd, []), (7, 1, .istore_n 3, []),
  (8, 1, .iconst 0, []), (9, 1, .iload_n 3, []), (10, 3, .if_icmp .ge 11, []), (13, 1, .iload_n 3, []), (14, 2, .ldc 200, [0, 2147483639]), (16, 3, .if_icmp .gt 5, []),
  (19, 1, .iload_n 3, []), (20, 1, .ireturn, []), (21, 1, .iload_n 0, []), (22, 1, .iload_n 1, []), (26, 1, .ireturn, [])]
set_option maxRecDepth 20000 in
def k_J3_checkIndex_8e157 : List az_I := [
  (0, 1, .iload_n 0, []), (1, 3, .ifCond .lt 8, []), (4, 1, .iload_n 0, []), (5, 1, .iload_n 1, []), (6, 3, .if_icmp .lt 10, []), (9, 1, .aload_n 2, []),
  (10, 1, .iload_n 0, []), (11, 1, .iload_n 1, []), (16, 1, .iload_n 0, []), (17, 1, .ireturn, [])]
set_option maxRecDepth 20000 in
def k_L_cell : List az_I := [
  (0, 1, .iload_n 1, []), (1, 1, .aload_n 0, []), (2, 1, .arraylength, []), (3, 3, .if_icmp .ge 9, []), (6, 1, .aload_n 0, []), (7, 1, .iload_n 1, []),
  (8, 1, .iaload, []), (9, 3, .goto 4, []), (12, 1, .iconst 0, []), (13, 1, .ireturn, [])]
set_option maxRecDepth 20000 in
def k_L_law0 : List az_I := [
  (0, 3, .new 7, [12]), (3, 1, .dup, []), (4, 1, .aload_n 0, []), (5, 1, .iconst 0, []), (6, 3, .invokestatic 9, [0, 281, 2, 999]), (9, 1, .aload_n 0, []),
  (10, 1, .iconst 1, []), (11, 3, .invokestatic 9, [0, 281, 2, 999]), (14, 3, .invokespecial 15, [0, 94, 3, 12]), (17, 1, .astore_n 1, []), (18, 3, .new 18, [13]), (21, 1, .dup, []),
  (22, 1, .aload_n 0, []), (23, 1, .iconst 0, []), (24, 3, .invokestatic 9, [0, 281, 2, 999]), (27, 1, .aload_n 0, []), (28, 1, .iconst 1, []), (29, 3, .invokestatic 9, [0, 281, 2, 999]),
  (32, 3, .invokespecial 20, [0, 158, 3, 13]), (35, 1, .astore_n 2, []), (36, 1, .iconst 2, []), (37, 1, .istore_n 3, []), (38, 1, .iload_n 3, []), (39, 1, .aload_n 0, []),
  (40, 1, .arraylength, []), (41, 2, .bipush 9, []), (43, 1, .isub, []), (44, 3, .if_icmp .gt 1687, []), (47, 1, .aload_n 0, []), (48, 1, .iload_n 3, []),
  (49, 1, .iaload, []), (50, 2, .bipush 63, []), (52, 1, .iand, []), (53, 155, .tableswitch 1672 0 34 #[155, 178, 231, 264, 277, 310, 353, 406, 469, 512, 545, 588, 631, 664, 707, 806, 859, 912, 975, 1028, 1082, 1136, 1199, 1222, 1235, 1258, 1333, 1376, 1419, 1452, 1496, 1559, 1583, 1616, 1649], []), (208, 1, .aload_n 1, []), (209, 1, .aload_n 0, []),
  (210, 1, .iload_n 3, []), (211, 1, .iconst 1, []), (212, 1, .iadd, []), (213, 1, .iaload, []), (214, 3, .invokevirtual 21, [0, 95, 2, 12]), (217, 1, .aload_n 2, []),
  (218, 1, .aload_n 0, []), (219, 1, .iload_n 3, []), (220, 1, .iconst 1, []), (221, 1, .iadd, []), (222, 1, .iaload, []), (223, 3, .invokevirtual 25, [0, 166, 2, 13]),
  (226, 3, .if_icmp .eq 1499, []), (229, 1, .iconst 0, []), (230, 1, .ireturn, []), (231, 1, .aload_n 1, []), (232, 1, .aload_n 0, []), (233, 1, .iload_n 3, []),
  (234, 1, .iconst 1, []), (235, 1, .iadd, []), (236, 1, .iaload, []), (237, 1, .aload_n 0, []), (238, 1, .iload_n 3, []), (239, 1, .iconst 2, []),
  (240, 1, .iadd, []), (241, 1, .iaload, []), (242, 1, .aload_n 0, []), (243, 1, .iload_n 3, []), (244, 1, .iconst 3, []), (245, 1, .iadd, []),
  (246, 1, .iaload, []), (247, 1, .aload_n 0, []), (248, 1, .iload_n 3, []), (249, 1, .iconst 4, []), (250, 1, .iadd, []), (251, 1, .iaload, []),
  (252, 3, .invokevirtual 26, [0, 96, 5, 12]), (255, 1, .aload_n 2, []), (256, 1, .aload_n 0, []), (257, 1, .iload_n 3, []), (258, 1, .iconst 1, []), (259, 1, .iadd, []),
  (260, 1, .iaload, []), (261, 1, .aload_n 0, []), (262, 1, .iload_n 3, []), (263, 1, .iconst 2, []), (264, 1, .iadd, []), (265, 1, .iaload, []),
  (266, 1, .aload_n 0, []), (267, 1, .iload_n 3, []), (268, 1, .iconst 3, []), (269, 1, .iadd, []), (270, 1, .iaload, []), (271, 1, .aload_n 0, []),
  (272, 1, .iload_n 3, []), (273, 1, .iconst 4, []), (274, 1, .iadd, []), (275, 1, .iaload, []), (276, 3, .invokevirtual 30, [0, 167, 5, 13]), (279, 3, .if_icmp .eq 1446, []),
  (282, 1, .iconst 0, []), (283, 1, .ireturn, []), (284, 1, .aload_n 1, []), (285, 1, .aload_n 0, [])]
set_option maxRecDepth 20000 in
def k_L_law1 : List az_I := [
  (286, 1, .iload_n 3, []), (287, 1, .iconst 1, []), (288, 1, .iadd, []), (289, 1, .iaload, []), (290, 1, .aload_n 0, []), (291, 1, .iload_n 3, []),
  (292, 1, .iconst 2, []), (293, 1, .iadd, []), (294, 1, .iaload, []), (295, 3, .invokevirtual 31, [0, 97, 3, 12]), (298, 1, .aload_n 2, []), (299, 1, .aload_n 0, []),
  (300, 1, .iload_n 3, []), (301, 1, .iconst 1, []), (302, 1, .iadd, []), (303, 1, .iaload, []), (304, 1, .aload_n 0, []), (305, 1, .iload_n 3, []),
  (306, 1, .iconst 2, []), (307, 1, .iadd, []), (308, 1, .iaload, []), (309, 3, .invokevirtual 35, [0, 169, 3, 13]), (312, 3, .if_icmp .eq 1413, []), (315, 1, .iconst 0, []),
  (316, 1, .ireturn, []), (317, 1, .aload_n 1, []), (318, 3, .invokevirtual 36, [0, 98, 1, 12]), (321, 1, .aload_n 2, []), (322, 3, .invokevirtual 40, [0, 170, 1, 13]), (325, 3, .if_icmp .eq 1400, []),
  (328, 1, .iconst 0, []), (329, 1, .ireturn, []), (330, 1, .aload_n 1, []), (331, 1, .aload_n 0, []), (332, 1, .iload_n 3, []), (333, 1, .iconst 1, []),
  (334, 1, .iadd, []), (335, 1, .iaload, []), (336, 1, .aload_n 0, []), (337, 1, .iload_n 3, []), (338, 1, .iconst 2, []), (339, 1, .iadd, []),
  (340, 1, .iaload, []), (341, 3, .invokevirtual 41, [0, 99, 3, 12]), (344, 1, .aload_n 2, []), (345, 1, .aload_n 0, []), (346, 1, .iload_n 3, []), (347, 1, .iconst 1, []),
  (348, 1, .iadd, []), (349, 1, .iaload, []), (350, 1, .aload_n 0, []), (351, 1, .iload_n 3, []), (352, 1, .iconst 2, []), (353, 1, .iadd, []),
  (354, 1, .iaload, []), (355, 3, .invokevirtual 45, [0, 171, 3, 13]), (358, 3, .if_icmp .eq 1367, []), (361, 1, .iconst 0, []), (362, 1, .ireturn, []), (363, 1, .aload_n 1, []),
  (364, 1, .aload_n 0, []), (365, 1, .iload_n 3, []), (366, 1, .iconst 1, []), (367, 1, .iadd, []), (368, 1, .iaload, []), (369, 1, .aload_n 0, []),
  (370, 1, .iload_n 3, []), (371, 1, .iconst 2, []), (372, 1, .iadd, []), (373, 1, .iaload, []), (374, 1, .aload_n 0, []), (375, 1, .iload_n 3, []),
  (376, 1, .iconst 3, []), (377, 1, .iadd, []), (378, 1, .iaload, []), (379, 3, .invokevirtual 46, [0, 100, 4, 12]), (382, 1, .aload_n 2, []), (383, 1, .aload_n 0, []),
  (384, 1, .iload_n 3, []), (385, 1, .iconst 1, []), (386, 1, .iadd, []), (387, 1, .iaload, []), (388, 1, .aload_n 0, []), (389, 1, .iload_n 3, []),
  (390, 1, .iconst 2, []), (391, 1, .iadd, []), (392, 1, .iaload, []), (393, 1, .aload_n 0, []), (394, 1, .iload_n 3, []), (395, 1, .iconst 3, []),
  (396, 1, .iadd, []), (397, 1, .iaload, []), (398, 3, .invokevirtual 50, [0, 175, 4, 13]), (401, 3, .if_icmp .eq 1324, []), (404, 1, .iconst 0, []), (405, 1, .ireturn, []),
  (406, 1, .aload_n 1, []), (407, 1, .aload_n 0, []), (408, 1, .iload_n 3, []), (409, 1, .iconst 1, [])]
set_option maxRecDepth 20000 in
def k_L_law2 : List az_I := [
  (410, 1, .iadd, []), (411, 1, .iaload, []), (412, 1, .aload_n 0, []), (413, 1, .iload_n 3, []), (414, 1, .iconst 2, []), (415, 1, .iadd, []),
  (416, 1, .iaload, []), (417, 1, .aload_n 0, []), (418, 1, .iload_n 3, []), (419, 1, .iconst 3, []), (420, 1, .iadd, []), (421, 1, .iaload, []),
  (422, 1, .aload_n 0, []), (423, 1, .iload_n 3, []), (424, 1, .iconst 4, []), (425, 1, .iadd, []), (426, 1, .iaload, []), (427, 3, .invokevirtual 51, [0, 101, 5, 12]),
  (430, 1, .aload_n 2, []), (431, 1, .aload_n 0, []), (432, 1, .iload_n 3, []), (433, 1, .iconst 1, []), (434, 1, .iadd, []), (435, 1, .iaload, []),
  (436, 1, .aload_n 0, []), (437, 1, .iload_n 3, []), (438, 1, .iconst 2, []), (439, 1, .iadd, []), (440, 1, .iaload, []), (441, 1, .aload_n 0, []),
  (442, 1, .iload_n 3, []), (443, 1, .iconst 3, []), (444, 1, .iadd, []), (445, 1, .iaload, []), (446, 1, .aload_n 0, []), (447, 1, .iload_n 3, []),
  (448, 1, .iconst 4, []), (449, 1, .iadd, []), (450, 1, .iaload, []), (451, 3, .invokevirtual 55, [0, 176, 5, 13]), (454, 3, .if_icmp .eq 1271, []), (457, 1, .iconst 0, []),
  (458, 1, .ireturn, []), (459, 1, .aload_n 1, []), (460, 1, .aload_n 0, []), (461, 1, .iload_n 3, []), (462, 1, .iconst 1, []), (463, 1, .iadd, []),
  (464, 1, .iaload, []), (465, 1, .aload_n 0, []), (466, 1, .iload_n 3, []), (467, 1, .iconst 2, []), (468, 1, .iadd, []), (469, 1, .iaload, []),
  (470, 1, .aload_n 0, []), (471, 1, .iload_n 3, []), (472, 1, .iconst 3, []), (473, 1, .iadd, []), (474, 1, .iaload, []), (475, 1, .aload_n 0, []),
  (476, 1, .iload_n 3, []), (477, 1, .iconst 4, []), (478, 1, .iadd, []), (479, 1, .iaload, []), (480, 1, .aload_n 0, []), (481, 1, .iload_n 3, []),
  (482, 1, .iconst 5, []), (483, 1, .iadd, []), (484, 1, .iaload, []), (485, 3, .invokevirtual 56, [0, 102, 6, 12]), (488, 1, .aload_n 2, []), (489, 1, .aload_n 0, []),
  (490, 1, .iload_n 3, []), (491, 1, .iconst 1, []), (492, 1, .iadd, []), (493, 1, .iaload, []), (494, 1, .aload_n 0, []), (495, 1, .iload_n 3, []),
  (496, 1, .iconst 2, []), (497, 1, .iadd, []), (498, 1, .iaload, []), (499, 1, .aload_n 0, []), (500, 1, .iload_n 3, []), (501, 1, .iconst 3, []),
  (502, 1, .iadd, []), (503, 1, .iaload, []), (504, 1, .aload_n 0, []), (505, 1, .iload_n 3, []), (506, 1, .iconst 4, []), (507, 1, .iadd, []),
  (508, 1, .iaload, []), (509, 1, .aload_n 0, []), (510, 1, .iload_n 3, []), (511, 1, .iconst 5, []), (512, 1, .iadd, []), (513, 1, .iaload, []),
  (514, 3, .invokevirtual 60, [0, 177, 6, 13]), (517, 3, .if_icmp .eq 1208, []), (520, 1, .iconst 0, []), (521, 1, .ireturn, [])]
set_option maxRecDepth 20000 in
def k_L_law3 : List az_I := [
  (522, 1, .aload_n 1, []), (523, 1, .aload_n 0, []), (524, 1, .iload_n 3, []), (525, 1, .iconst 1, []), (526, 1, .iadd, []), (527, 1, .iaload, []),
  (528, 1, .aload_n 0, []), (529, 1, .iload_n 3, []), (530, 1, .iconst 2, []), (531, 1, .iadd, []), (532, 1, .iaload, []), (533, 1, .aload_n 0, []),
  (534, 1, .iload_n 3, []), (535, 1, .iconst 3, []), (536, 1, .iadd, []), (537, 1, .iaload, []), (538, 3, .invokevirtual 61, [0, 103, 4, 12]), (541, 1, .aload_n 2, []),
  (542, 1, .aload_n 0, []), (543, 1, .iload_n 3, []), (544, 1, .iconst 1, []), (545, 1, .iadd, []), (546, 1, .iaload, []), (547, 1, .aload_n 0, []),
  (548, 1, .iload_n 3, []), (549, 1, .iconst 2, []), (550, 1, .iadd, []), (551, 1, .iaload, []), (552, 1, .aload_n 0, []), (553, 1, .iload_n 3, []),
  (554, 1, .iconst 3, []), (555, 1, .iadd, []), (556, 1, .iaload, []), (557, 3, .invokevirtual 64, [0, 178, 4, 13]), (560, 3, .if_icmp .eq 1165, []), (563, 1, .iconst 0, []),
  (564, 1, .ireturn, []), (565, 1, .aload_n 1, []), (566, 1, .aload_n 0, []), (567, 1, .iload_n 3, []), (568, 1, .iconst 1, []), (569, 1, .iadd, []),
  (570, 1, .iaload, []), (571, 1, .aload_n 0, []), (572, 1, .iload_n 3, []), (573, 1, .iconst 2, []), (574, 1, .iadd, []), (575, 1, .iaload, []),
  (576, 3, .invokevirtual 65, [0, 104, 3, 12]), (579, 1, .aload_n 2, []), (580, 1, .aload_n 0, []), (581, 1, .iload_n 3, []), (582, 1, .iconst 1, []), (583, 1, .iadd, []),
  (584, 1, .iaload, []), (585, 1, .aload_n 0, []), (586, 1, .iload_n 3, []), (587, 1, .iconst 2, []), (588, 1, .iadd, []), (589, 1, .iaload, []),
  (590, 3, .invokevirtual 68, [0, 179, 3, 13]), (593, 3, .if_icmp .eq 1132, []), (596, 1, .iconst 0, []), (597, 1, .ireturn, []), (598, 1, .aload_n 1, []), (599, 1, .aload_n 0, []),
  (600, 1, .iload_n 3, []), (601, 1, .iconst 1, []), (602, 1, .iadd, []), (603, 1, .iaload, []), (604, 1, .aload_n 0, []), (605, 1, .iload_n 3, []),
  (606, 1, .iconst 2, []), (607, 1, .iadd, []), (608, 1, .iaload, []), (609, 1, .aload_n 0, []), (610, 1, .iload_n 3, []), (611, 1, .iconst 3, []),
  (612, 1, .iadd, []), (613, 1, .iaload, []), (614, 3, .invokevirtual 69, [0, 105, 4, 12]), (617, 1, .aload_n 2, []), (618, 1, .aload_n 0, []), (619, 1, .iload_n 3, []),
  (620, 1, .iconst 1, []), (621, 1, .iadd, []), (622, 1, .iaload, []), (623, 1, .aload_n 0, []), (624, 1, .iload_n 3, []), (625, 1, .iconst 2, []),
  (626, 1, .iadd, []), (627, 1, .iaload, []), (628, 1, .aload_n 0, []), (629, 1, .iload_n 3, []), (630, 1, .iconst 3, []), (631, 1, .iadd, []),
  (632, 1, .iaload, []), (633, 3, .invokevirtual 72, [0, 182, 4, 13]), (636, 3, .if_icmp .eq 1089, []), (639, 1, .iconst 0, [])]
set_option maxRecDepth 20000 in
def k_L_law4 : List az_I := [
  (640, 1, .ireturn, []), (641, 1, .aload_n 1, []), (642, 1, .aload_n 0, []), (643, 1, .iload_n 3, []), (644, 1, .iconst 1, []), (645, 1, .iadd, []),
  (646, 1, .iaload, []), (647, 1, .aload_n 0, []), (648, 1, .iload_n 3, []), (649, 1, .iconst 2, []), (650, 1, .iadd, []), (651, 1, .iaload, []),
  (652, 1, .aload_n 0, []), (653, 1, .iload_n 3, []), (654, 1, .iconst 3, []), (655, 1, .iadd, []), (656, 1, .iaload, []), (657, 3, .invokevirtual 73, [0, 106, 4, 12]),
  (660, 1, .aload_n 2, []), (661, 1, .aload_n 0, []), (662, 1, .iload_n 3, []), (663, 1, .iconst 1, []), (664, 1, .iadd, []), (665, 1, .iaload, []),
  (666, 1, .aload_n 0, []), (667, 1, .iload_n 3, []), (668, 1, .iconst 2, []), (669, 1, .iadd, []), (670, 1, .iaload, []), (671, 1, .aload_n 0, []),
  (672, 1, .iload_n 3, []), (673, 1, .iconst 3, []), (674, 1, .iadd, []), (675, 1, .iaload, []), (676, 3, .invokevirtual 76, [0, 201, 4, 13]), (679, 3, .if_icmp .eq 1046, []),
  (682, 1, .iconst 0, []), (683, 1, .ireturn, []), (684, 1, .aload_n 1, []), (685, 1, .aload_n 0, []), (686, 1, .iload_n 3, []), (687, 1, .iconst 1, []),
  (688, 1, .iadd, []), (689, 1, .iaload, []), (690, 1, .aload_n 0, []), (691, 1, .iload_n 3, []), (692, 1, .iconst 2, []), (693, 1, .iadd, []),
  (694, 1, .iaload, []), (695, 3, .invokevirtual 77, [0, 107, 3, 12]), (698, 1, .aload_n 2, []), (699, 1, .aload_n 0, []), (700, 1, .iload_n 3, []), (701, 1, .iconst 1, []),
  (702, 1, .iadd, []), (703, 1, .iaload, []), (704, 1, .aload_n 0, []), (705, 1, .iload_n 3, []), (706, 1, .iconst 2, []), (707, 1, .iadd, []),
  (708, 1, .iaload, []), (709, 3, .invokevirtual 80, [0, 203, 3, 13]), (712, 3, .if_icmp .eq 1013, []), (715, 1, .iconst 0, []), (716, 1, .ireturn, []), (717, 1, .aload_n 1, []),
  (718, 1, .aload_n 0, []), (719, 1, .iload_n 3, []), (720, 1, .iconst 1, []), (721, 1, .iadd, []), (722, 1, .iaload, []), (723, 1, .aload_n 0, []),
  (724, 1, .iload_n 3, []), (725, 1, .iconst 2, []), (726, 1, .iadd, []), (727, 1, .iaload, []), (728, 1, .aload_n 0, []), (729, 1, .iload_n 3, []),
  (730, 1, .iconst 3, []), (731, 1, .iadd, []), (732, 1, .iaload, []), (733, 3, .invokevirtual 81, [0, 108, 4, 12]), (736, 1, .aload_n 2, []), (737, 1, .aload_n 0, []),
  (738, 1, .iload_n 3, []), (739, 1, .iconst 1, []), (740, 1, .iadd, []), (741, 1, .iaload, []), (742, 1, .aload_n 0, []), (743, 1, .iload_n 3, []),
  (744, 1, .iconst 2, []), (745, 1, .iadd, []), (746, 1, .iaload, []), (747, 1, .aload_n 0, []), (748, 1, .iload_n 3, []), (749, 1, .iconst 3, []),
  (750, 1, .iadd, []), (751, 1, .iaload, []), (752, 3, .invokevirtual 84, [0, 204, 4, 13]), (755, 3, .if_icmp .eq 970, [])]
set_option maxRecDepth 20000 in
def k_L_law5 : List az_I := [
  (758, 1, .iconst 0, []), (759, 1, .ireturn, []), (760, 1, .aload_n 1, []), (761, 1, .aload_n 0, []), (762, 1, .iload_n 3, []), (763, 1, .iconst 1, []),
  (764, 1, .iadd, []), (765, 1, .iaload, []), (766, 1, .aload_n 0, []), (767, 1, .iload_n 3, []), (768, 1, .iconst 2, []), (769, 1, .iadd, []),
  (770, 1, .iaload, []), (771, 1, .aload_n 0, []), (772, 1, .iload_n 3, []), (773, 1, .iconst 3, []), (774, 1, .iadd, []), (775, 1, .iaload, []),
  (776, 1, .aload_n 0, []), (777, 1, .iload_n 3, []), (778, 1, .iconst 4, []), (779, 1, .iadd, []), (780, 1, .iaload, []), (781, 1, .aload_n 0, []),
  (782, 1, .iload_n 3, []), (783, 1, .iconst 5, []), (784, 1, .iadd, []), (785, 1, .iaload, []), (786, 1, .aload_n 0, []), (787, 1, .iload_n 3, []),
  (788, 2, .bipush 6, []), (790, 1, .iadd, []), (791, 1, .iaload, []), (792, 1, .aload_n 0, []), (793, 1, .iload_n 3, []), (794, 2, .bipush 7, []),
  (796, 1, .iadd, []), (797, 1, .iaload, []), (798, 1, .aload_n 0, []), (799, 1, .iload_n 3, []), (800, 2, .bipush 8, []), (802, 1, .iadd, []),
  (803, 1, .iaload, []), (804, 3, .invokevirtual 85, [0, 109, 9, 12]), (807, 1, .aload_n 2, []), (808, 1, .aload_n 0, []), (809, 1, .iload_n 3, []), (810, 1, .iconst 1, []),
  (811, 1, .iadd, []), (812, 1, .iaload, []), (813, 1, .aload_n 0, []), (814, 1, .iload_n 3, []), (815, 1, .iconst 2, []), (816, 1, .iadd, []),
  (817, 1, .iaload, []), (818, 1, .aload_n 0, []), (819, 1, .iload_n 3, []), (820, 1, .iconst 3, []), (821, 1, .iadd, []), (822, 1, .iaload, []),
  (823, 1, .aload_n 0, []), (824, 1, .iload_n 3, []), (825, 1, .iconst 4, []), (826, 1, .iadd, []), (827, 1, .iaload, []), (828, 1, .aload_n 0, []),
  (829, 1, .iload_n 3, []), (830, 1, .iconst 5, []), (831, 1, .iadd, []), (832, 1, .iaload, []), (833, 1, .aload_n 0, []), (834, 1, .iload_n 3, []),
  (835, 2, .bipush 6, []), (837, 1, .iadd, []), (838, 1, .iaload, []), (839, 1, .aload_n 0, []), (840, 1, .iload_n 3, []), (841, 2, .bipush 7, []),
  (843, 1, .iadd, []), (844, 1, .iaload, []), (845, 1, .aload_n 0, []), (846, 1, .iload_n 3, []), (847, 2, .bipush 8, []), (849, 1, .iadd, []),
  (850, 1, .iaload, []), (851, 3, .invokevirtual 89, [0, 191, 9, 13]), (854, 3, .if_icmp .eq 871, []), (857, 1, .iconst 0, []), (858, 1, .ireturn, []), (859, 1, .aload_n 1, []),
  (860, 1, .aload_n 0, []), (861, 1, .iload_n 3, []), (862, 1, .iconst 1, []), (863, 1, .iadd, []), (864, 1, .iaload, []), (865, 1, .aload_n 0, []),
  (866, 1, .iload_n 3, []), (867, 1, .iconst 2, []), (868, 1, .iadd, []), (869, 1, .iaload, [])]
set_option maxRecDepth 20000 in
def k_L_law6 : List az_I := [
  (870, 1, .aload_n 0, []), (871, 1, .iload_n 3, []), (872, 1, .iconst 3, []), (873, 1, .iadd, []), (874, 1, .iaload, []), (875, 1, .aload_n 0, []),
  (876, 1, .iload_n 3, []), (877, 1, .iconst 4, []), (878, 1, .iadd, []), (879, 1, .iaload, []), (880, 3, .invokevirtual 90, [0, 110, 5, 12]), (883, 1, .aload_n 2, []),
  (884, 1, .aload_n 0, []), (885, 1, .iload_n 3, []), (886, 1, .iconst 1, []), (887, 1, .iadd, []), (888, 1, .iaload, []), (889, 1, .aload_n 0, []),
  (890, 1, .iload_n 3, []), (891, 1, .iconst 2, []), (892, 1, .iadd, []), (893, 1, .iaload, []), (894, 1, .aload_n 0, []), (895, 1, .iload_n 3, []),
  (896, 1, .iconst 3, []), (897, 1, .iadd, []), (898, 1, .iaload, []), (899, 1, .aload_n 0, []), (900, 1, .iload_n 3, []), (901, 1, .iconst 4, []),
  (902, 1, .iadd, []), (903, 1, .iaload, []), (904, 3, .invokevirtual 93, [0, 194, 5, 13]), (907, 3, .if_icmp .eq 818, []), (910, 1, .iconst 0, []), (911, 1, .ireturn, []),
  (912, 1, .aload_n 1, []), (913, 1, .aload_n 0, []), (914, 1, .iload_n 3, []), (915, 1, .iconst 1, []), (916, 1, .iadd, []), (917, 1, .iaload, []),
  (918, 1, .aload_n 0, []), (919, 1, .iload_n 3, []), (920, 1, .iconst 2, []), (921, 1, .iadd, []), (922, 1, .iaload, []), (923, 1, .aload_n 0, []),
  (924, 1, .iload_n 3, []), (925, 1, .iconst 3, []), (926, 1, .iadd, []), (927, 1, .iaload, []), (928, 1, .aload_n 0, []), (929, 1, .iload_n 3, []),
  (930, 1, .iconst 4, []), (931, 1, .iadd, []), (932, 1, .iaload, []), (933, 3, .invokevirtual 94, [0, 111, 5, 12]), (936, 1, .aload_n 2, []), (937, 1, .aload_n 0, []),
  (938, 1, .iload_n 3, []), (939, 1, .iconst 1, []), (940, 1, .iadd, []), (941, 1, .iaload, []), (942, 1, .aload_n 0, []), (943, 1, .iload_n 3, []),
  (944, 1, .iconst 2, []), (945, 1, .iadd, []), (946, 1, .iaload, []), (947, 1, .aload_n 0, []), (948, 1, .iload_n 3, []), (949, 1, .iconst 3, []),
  (950, 1, .iadd, []), (951, 1, .iaload, []), (952, 1, .aload_n 0, []), (953, 1, .iload_n 3, []), (954, 1, .iconst 4, []), (955, 1, .iadd, []),
  (956, 1, .iaload, []), (957, 3, .invokevirtual 97, [0, 189, 5, 13]), (960, 3, .if_icmp .eq 765, []), (963, 1, .iconst 0, []), (964, 1, .ireturn, []), (965, 1, .aload_n 1, []),
  (966, 1, .aload_n 0, []), (967, 1, .iload_n 3, []), (968, 1, .iconst 1, []), (969, 1, .iadd, []), (970, 1, .iaload, []), (971, 1, .aload_n 0, []),
  (972, 1, .iload_n 3, []), (973, 1, .iconst 2, []), (974, 1, .iadd, []), (975, 1, .iaload, []), (976, 1, .aload_n 0, []), (977, 1, .iload_n 3, []),
  (978, 1, .iconst 3, []), (979, 1, .iadd, []), (980, 1, .iaload, []), (981, 1, .aload_n 0, [])]
set_option maxRecDepth 20000 in
def k_L_law7 : List az_I := [
  (982, 1, .iload_n 3, []), (983, 1, .iconst 4, []), (984, 1, .iadd, []), (985, 1, .iaload, []), (986, 1, .aload_n 0, []), (987, 1, .iload_n 3, []),
  (988, 1, .iconst 5, []), (989, 1, .iadd, []), (990, 1, .iaload, []), (991, 3, .invokevirtual 98, [0, 112, 6, 12]), (994, 1, .aload_n 2, []), (995, 1, .aload_n 0, []),
  (996, 1, .iload_n 3, []), (997, 1, .iconst 1, []), (998, 1, .iadd, []), (999, 1, .iaload, []), (1000, 1, .aload_n 0, []), (1001, 1, .iload_n 3, []),
  (1002, 1, .iconst 2, []), (1003, 1, .iadd, []), (1004, 1, .iaload, []), (1005, 1, .aload_n 0, []), (1006, 1, .iload_n 3, []), (1007, 1, .iconst 3, []),
  (1008, 1, .iadd, []), (1009, 1, .iaload, []), (1010, 1, .aload_n 0, []), (1011, 1, .iload_n 3, []), (1012, 1, .iconst 4, []), (1013, 1, .iadd, []),
  (1014, 1, .iaload, []), (1015, 1, .aload_n 0, []), (1016, 1, .iload_n 3, []), (1017, 1, .iconst 5, []), (1018, 1, .iadd, []), (1019, 1, .iaload, []),
  (1020, 3, .invokevirtual 101, [0, 197, 6, 13]), (1023, 3, .if_icmp .eq 702, []), (1026, 1, .iconst 0, []), (1027, 1, .ireturn, []), (1028, 1, .aload_n 1, []), (1029, 1, .aload_n 0, []),
  (1030, 1, .iload_n 3, []), (1031, 1, .iconst 1, []), (1032, 1, .iadd, []), (1033, 1, .iaload, []), (1034, 1, .aload_n 0, []), (1035, 1, .iload_n 3, []),
  (1036, 1, .iconst 2, []), (1037, 1, .iadd, []), (1038, 1, .iaload, []), (1039, 1, .aload_n 0, []), (1040, 1, .iload_n 3, []), (1041, 1, .iconst 3, []),
  (1042, 1, .iadd, []), (1043, 1, .iaload, []), (1044, 1, .aload_n 0, []), (1045, 1, .iload_n 3, []), (1046, 1, .iconst 4, []), (1047, 1, .iadd, []),
  (1048, 1, .iaload, []), (1049, 3, .invokevirtual 102, [0, 113, 5, 12]), (1052, 1, .aload_n 2, []), (1053, 1, .aload_n 0, []), (1054, 1, .iload_n 3, []), (1055, 1, .iconst 1, []),
  (1056, 1, .iadd, []), (1057, 1, .iaload, []), (1058, 1, .aload_n 0, []), (1059, 1, .iload_n 3, []), (1060, 1, .iconst 2, []), (1061, 1, .iadd, []),
  (1062, 1, .iaload, []), (1063, 1, .aload_n 0, []), (1064, 1, .iload_n 3, []), (1065, 1, .iconst 3, []), (1066, 1, .iadd, []), (1067, 1, .iaload, []),
  (1068, 1, .aload_n 0, []), (1069, 1, .iload_n 3, []), (1070, 1, .iconst 4, []), (1071, 1, .iadd, []), (1072, 1, .iaload, []), (1073, 3, .invokevirtual 105, [0, 190, 5, 13]),
  (1076, 3, .if_icmp .eq 649, []), (1079, 1, .iconst 0, []), (1080, 1, .ireturn, []), (1081, 1, .aload_n 1, []), (1082, 1, .aload_n 0, []), (1083, 1, .iload_n 3, []),
  (1084, 1, .iconst 1, []), (1085, 1, .iadd, []), (1086, 1, .iaload, []), (1087, 1, .aload_n 0, []), (1088, 1, .iload_n 3, []), (1089, 1, .iconst 2, []),
  (1090, 1, .iadd, []), (1091, 1, .iaload, []), (1092, 1, .aload_n 0, []), (1093, 1, .iload_n 3, [])]
set_option maxRecDepth 20000 in
def k_L_law8 : List az_I := [
  (1094, 1, .iconst 3, []), (1095, 1, .iadd, []), (1096, 1, .iaload, []), (1097, 1, .aload_n 0, []), (1098, 1, .iload_n 3, []), (1099, 1, .iconst 4, []),
  (1100, 1, .iadd, []), (1101, 1, .iaload, []), (1102, 3, .invokevirtual 106, [0, 114, 5, 12]), (1105, 1, .aload_n 2, []), (1106, 1, .aload_n 0, []), (1107, 1, .iload_n 3, []),
  (1108, 1, .iconst 1, []), (1109, 1, .iadd, []), (1110, 1, .iaload, []), (1111, 1, .aload_n 0, []), (1112, 1, .iload_n 3, []), (1113, 1, .iconst 2, []),
  (1114, 1, .iadd, []), (1115, 1, .iaload, []), (1116, 1, .aload_n 0, []), (1117, 1, .iload_n 3, []), (1118, 1, .iconst 3, []), (1119, 1, .iadd, []),
  (1120, 1, .iaload, []), (1121, 1, .aload_n 0, []), (1122, 1, .iload_n 3, []), (1123, 1, .iconst 4, []), (1124, 1, .iadd, []), (1125, 1, .iaload, []),
  (1126, 3, .invokevirtual 110, [0, 199, 5, 13]), (1129, 1, .lcmp, []), (1130, 3, .ifCond .eq 595, []), (1133, 1, .iconst 0, []), (1134, 1, .ireturn, []), (1135, 1, .aload_n 1, []),
  (1136, 1, .aload_n 0, []), (1137, 1, .iload_n 3, []), (1138, 1, .iconst 1, []), (1139, 1, .iadd, []), (1140, 1, .iaload, []), (1141, 1, .aload_n 0, []),
  (1142, 1, .iload_n 3, []), (1143, 1, .iconst 2, []), (1144, 1, .iadd, []), (1145, 1, .iaload, []), (1146, 1, .aload_n 0, []), (1147, 1, .iload_n 3, []),
  (1148, 1, .iconst 3, []), (1149, 1, .iadd, []), (1150, 1, .iaload, []), (1151, 1, .aload_n 0, []), (1152, 1, .iload_n 3, []), (1153, 1, .iconst 4, []),
  (1154, 1, .iadd, []), (1155, 1, .iaload, []), (1156, 3, .invokevirtual 111, [0, 115, 5, 12]), (1159, 1, .aload_n 2, []), (1160, 1, .aload_n 0, []), (1161, 1, .iload_n 3, []),
  (1162, 1, .iconst 1, []), (1163, 1, .iadd, []), (1164, 1, .iaload, []), (1165, 1, .aload_n 0, []), (1166, 1, .iload_n 3, []), (1167, 1, .iconst 2, []),
  (1168, 1, .iadd, []), (1169, 1, .iaload, []), (1170, 1, .aload_n 0, []), (1171, 1, .iload_n 3, []), (1172, 1, .iconst 3, []), (1173, 1, .iadd, []),
  (1174, 1, .iaload, []), (1175, 1, .aload_n 0, []), (1176, 1, .iload_n 3, []), (1177, 1, .iconst 4, []), (1178, 1, .iadd, []), (1179, 1, .iaload, []),
  (1180, 3, .invokevirtual 114, [0, 200, 5, 13]), (1183, 1, .lcmp, []), (1184, 3, .ifCond .eq 541, []), (1187, 1, .iconst 0, []), (1188, 1, .ireturn, []), (1189, 1, .aload_n 1, []),
  (1190, 1, .aload_n 0, []), (1191, 1, .iload_n 3, []), (1192, 1, .iconst 1, []), (1193, 1, .iadd, []), (1194, 1, .iaload, []), (1195, 1, .aload_n 0, []),
  (1196, 1, .iload_n 3, []), (1197, 1, .iconst 2, []), (1198, 1, .iadd, []), (1199, 1, .iaload, []), (1200, 1, .aload_n 0, []), (1201, 1, .iload_n 3, []),
  (1202, 1, .iconst 3, []), (1203, 1, .iadd, []), (1204, 1, .iaload, []), (1205, 1, .aload_n 0, [])]
set_option maxRecDepth 20000 in
def k_L_law9 : List az_I := [
  (1206, 1, .iload_n 3, []), (1207, 1, .iconst 4, []), (1208, 1, .iadd, []), (1209, 1, .iaload, []), (1210, 1, .aload_n 0, []), (1211, 1, .iload_n 3, []),
  (1212, 1, .iconst 5, []), (1213, 1, .iadd, []), (1214, 1, .iaload, []), (1215, 3, .invokevirtual 115, [0, 116, 6, 12]), (1218, 1, .aload_n 2, []), (1219, 1, .aload_n 0, []),
  (1220, 1, .iload_n 3, []), (1221, 1, .iconst 1, []), (1222, 1, .iadd, []), (1223, 1, .iaload, []), (1224, 1, .aload_n 0, []), (1225, 1, .iload_n 3, []),
  (1226, 1, .iconst 2, []), (1227, 1, .iadd, []), (1228, 1, .iaload, []), (1229, 1, .aload_n 0, []), (1230, 1, .iload_n 3, []), (1231, 1, .iconst 3, []),
  (1232, 1, .iadd, []), (1233, 1, .iaload, []), (1234, 1, .aload_n 0, []), (1235, 1, .iload_n 3, []), (1236, 1, .iconst 4, []), (1237, 1, .iadd, []),
  (1238, 1, .iaload, []), (1239, 1, .aload_n 0, []), (1240, 1, .iload_n 3, []), (1241, 1, .iconst 5, []), (1242, 1, .iadd, []), (1243, 1, .iaload, []),
  (1244, 3, .invokevirtual 118, [0, 206, 6, 13]), (1247, 3, .if_icmp .eq 478, []), (1250, 1, .iconst 0, []), (1251, 1, .ireturn, []), (1252, 1, .aload_n 1, []), (1253, 1, .aload_n 0, []),
  (1254, 1, .iload_n 3, []), (1255, 1, .iconst 1, []), (1256, 1, .iadd, []), (1257, 1, .iaload, []), (1258, 3, .invokevirtual 119, [0, 117, 2, 12]), (1261, 1, .aload_n 2, []),
  (1262, 1, .aload_n 0, []), (1263, 1, .iload_n 3, []), (1264, 1, .iconst 1, []), (1265, 1, .iadd, []), (1266, 1, .iaload, []), (1267, 3, .invokevirtual 122, [0, 207, 2, 13]),
  (1270, 3, .if_icmp .eq 455, []), (1273, 1, .iconst 0, []), (1274, 1, .ireturn, []), (1275, 1, .aload_n 1, []), (1276, 3, .invokevirtual 123, [0, 118, 1, 12]), (1279, 1, .aload_n 2, []),
  (1280, 3, .invokevirtual 126, [0, 230, 1, 13]), (1283, 3, .if_icmp .eq 442, []), (1286, 1, .iconst 0, []), (1287, 1, .ireturn, []), (1288, 1, .aload_n 1, []), (1289, 1, .aload_n 0, []),
  (1290, 1, .iload_n 3, []), (1291, 1, .iconst 1, []), (1292, 1, .iadd, []), (1293, 1, .iaload, []), (1294, 3, .invokevirtual 127, [0, 119, 2, 12]), (1297, 1, .aload_n 2, []),
  (1298, 1, .aload_n 0, []), (1299, 1, .iload_n 3, []), (1300, 1, .iconst 1, []), (1301, 1, .iadd, []), (1302, 1, .iaload, []), (1303, 3, .invokevirtual 130, [0, 231, 2, 13]),
  (1306, 3, .if_icmp .eq 419, []), (1309, 1, .iconst 0, []), (1310, 1, .ireturn, []), (1311, 1, .aload_n 1, []), (1312, 1, .aload_n 0, []), (1313, 1, .iload_n 3, []),
  (1314, 1, .iconst 1, []), (1315, 1, .iadd, []), (1316, 1, .iaload, []), (1317, 1, .aload_n 0, []), (1318, 1, .iload_n 3, []), (1319, 1, .iconst 2, []),
  (1320, 1, .iadd, []), (1321, 1, .iaload, []), (1322, 1, .aload_n 0, []), (1323, 1, .iload_n 3, []), (1324, 1, .iconst 3, []), (1325, 1, .iadd, []),
  (1326, 1, .iaload, []), (1327, 1, .aload_n 0, []), (1328, 1, .iload_n 3, []), (1329, 1, .iconst 4, [])]
set_option maxRecDepth 20000 in
def k_L_law10 : List az_I := [
  (1330, 1, .iadd, []), (1331, 1, .iaload, []), (1332, 1, .aload_n 0, []), (1333, 1, .iload_n 3, []), (1334, 1, .iconst 5, []), (1335, 1, .iadd, []),
  (1336, 1, .iaload, []), (1337, 1, .aload_n 0, []), (1338, 1, .iload_n 3, []), (1339, 2, .bipush 6, []), (1341, 1, .iadd, []), (1342, 1, .iaload, []),
  (1343, 3, .invokevirtual 131, [0, 120, 7, 12]), (1346, 1, .aload_n 2, []), (1347, 1, .aload_n 0, []), (1348, 1, .iload_n 3, []), (1349, 1, .iconst 1, []), (1350, 1, .iadd, []),
  (1351, 1, .iaload, []), (1352, 1, .aload_n 0, []), (1353, 1, .iload_n 3, []), (1354, 1, .iconst 2, []), (1355, 1, .iadd, []), (1356, 1, .iaload, []),
  (1357, 1, .aload_n 0, []), (1358, 1, .iload_n 3, []), (1359, 1, .iconst 3, []), (1360, 1, .iadd, []), (1361, 1, .iaload, []), (1362, 1, .aload_n 0, []),
  (1363, 1, .iload_n 3, []), (1364, 1, .iconst 4, []), (1365, 1, .iadd, []), (1366, 1, .iaload, []), (1367, 1, .aload_n 0, []), (1368, 1, .iload_n 3, []),
  (1369, 1, .iconst 5, []), (1370, 1, .iadd, []), (1371, 1, .iaload, []), (1372, 1, .aload_n 0, []), (1373, 1, .iload_n 3, []), (1374, 2, .bipush 6, []),
  (1376, 1, .iadd, []), (1377, 1, .iaload, []), (1378, 3, .invokevirtual 135, [0, 235, 7, 13]), (1381, 3, .if_icmp .eq 344, []), (1384, 1, .iconst 0, []), (1385, 1, .ireturn, []),
  (1386, 1, .aload_n 1, []), (1387, 1, .aload_n 0, []), (1388, 1, .iload_n 3, []), (1389, 1, .iconst 1, []), (1390, 1, .iadd, []), (1391, 1, .iaload, []),
  (1392, 1, .aload_n 0, []), (1393, 1, .iload_n 3, []), (1394, 1, .iconst 2, []), (1395, 1, .iadd, []), (1396, 1, .iaload, []), (1397, 1, .aload_n 0, []),
  (1398, 1, .iload_n 3, []), (1399, 1, .iconst 3, []), (1400, 1, .iadd, []), (1401, 1, .iaload, []), (1402, 3, .invokevirtual 136, [0, 121, 4, 12]), (1405, 1, .aload_n 2, []),
  (1406, 1, .aload_n 0, []), (1407, 1, .iload_n 3, []), (1408, 1, .iconst 1, []), (1409, 1, .iadd, []), (1410, 1, .iaload, []), (1411, 1, .aload_n 0, []),
  (1412, 1, .iload_n 3, []), (1413, 1, .iconst 2, []), (1414, 1, .iadd, []), (1415, 1, .iaload, []), (1416, 1, .aload_n 0, []), (1417, 1, .iload_n 3, []),
  (1418, 1, .iconst 3, []), (1419, 1, .iadd, []), (1420, 1, .iaload, []), (1421, 3, .invokevirtual 139, [0, 236, 4, 13]), (1424, 3, .if_icmp .eq 301, []), (1427, 1, .iconst 0, []),
  (1428, 1, .ireturn, []), (1429, 1, .aload_n 1, []), (1430, 1, .aload_n 0, []), (1431, 1, .iload_n 3, []), (1432, 1, .iconst 1, []), (1433, 1, .iadd, []),
  (1434, 1, .iaload, []), (1435, 1, .aload_n 0, []), (1436, 1, .iload_n 3, []), (1437, 1, .iconst 2, []), (1438, 1, .iadd, []), (1439, 1, .iaload, []),
  (1440, 1, .aload_n 0, []), (1441, 1, .iload_n 3, []), (1442, 1, .iconst 3, []), (1443, 1, .iadd, [])]
set_option maxRecDepth 20000 in
def k_L_law11 : List az_I := [
  (1444, 1, .iaload, []), (1445, 3, .invokevirtual 140, [0, 122, 4, 12]), (1448, 1, .aload_n 2, []), (1449, 1, .aload_n 0, []), (1450, 1, .iload_n 3, []), (1451, 1, .iconst 1, []),
  (1452, 1, .iadd, []), (1453, 1, .iaload, []), (1454, 1, .aload_n 0, []), (1455, 1, .iload_n 3, []), (1456, 1, .iconst 2, []), (1457, 1, .iadd, []),
  (1458, 1, .iaload, []), (1459, 1, .aload_n 0, []), (1460, 1, .iload_n 3, []), (1461, 1, .iconst 3, []), (1462, 1, .iadd, []), (1463, 1, .iaload, []),
  (1464, 3, .invokevirtual 144, [0, 238, 4, 13]), (1467, 3, .if_icmp .eq 258, []), (1470, 1, .iconst 0, []), (1471, 1, .ireturn, []), (1472, 1, .aload_n 1, []), (1473, 1, .aload_n 0, []),
  (1474, 1, .iload_n 3, []), (1475, 1, .iconst 1, []), (1476, 1, .iadd, []), (1477, 1, .iaload, []), (1478, 1, .aload_n 0, []), (1479, 1, .iload_n 3, []),
  (1480, 1, .iconst 2, []), (1481, 1, .iadd, []), (1482, 1, .iaload, []), (1483, 3, .invokevirtual 145, [0, 123, 3, 12]), (1486, 1, .aload_n 2, []), (1487, 1, .aload_n 0, []),
  (1488, 1, .iload_n 3, []), (1489, 1, .iconst 1, []), (1490, 1, .iadd, []), (1491, 1, .iaload, []), (1492, 1, .aload_n 0, []), (1493, 1, .iload_n 3, []),
  (1494, 1, .iconst 2, []), (1495, 1, .iadd, []), (1496, 1, .iaload, []), (1497, 3, .invokevirtual 148, [0, 239, 3, 13]), (1500, 3, .if_icmp .eq 225, []), (1503, 1, .iconst 0, []),
  (1504, 1, .ireturn, []), (1505, 1, .aload_n 1, []), (1506, 1, .aload_n 0, []), (1507, 1, .iload_n 3, []), (1508, 1, .iconst 1, []), (1509, 1, .iadd, []),
  (1510, 1, .iaload, []), (1511, 1, .aload_n 0, []), (1512, 1, .iload_n 3, []), (1513, 1, .iconst 2, []), (1514, 1, .iadd, []), (1515, 1, .iaload, []),
  (1516, 1, .aload_n 0, []), (1517, 1, .iload_n 3, []), (1518, 1, .iconst 3, []), (1519, 1, .iadd, []), (1520, 1, .iaload, []), (1521, 3, .invokevirtual 149, [0, 124, 4, 12]),
  (1524, 1, .aload_n 2, []), (1525, 1, .aload_n 0, []), (1526, 1, .iload_n 3, []), (1527, 1, .iconst 1, []), (1528, 1, .iadd, []), (1529, 1, .iaload, []),
  (1530, 1, .aload_n 0, []), (1531, 1, .iload_n 3, []), (1532, 1, .iconst 2, []), (1533, 1, .iadd, []), (1534, 1, .iaload, []), (1535, 1, .aload_n 0, []),
  (1536, 1, .iload_n 3, []), (1537, 1, .iconst 3, []), (1538, 1, .iadd, []), (1539, 1, .iaload, []), (1540, 3, .invokevirtual 153, [0, 241, 4, 13]), (1543, 1, .lcmp, []),
  (1544, 3, .ifCond .eq 181, []), (1547, 1, .iconst 0, []), (1548, 1, .ireturn, []), (1549, 1, .aload_n 1, []), (1550, 1, .aload_n 0, []), (1551, 1, .iload_n 3, []),
  (1552, 1, .iconst 1, []), (1553, 1, .iadd, []), (1554, 1, .iaload, []), (1555, 1, .aload_n 0, []), (1556, 1, .iload_n 3, []), (1557, 1, .iconst 2, []),
  (1558, 1, .iadd, []), (1559, 1, .iaload, []), (1560, 1, .aload_n 0, []), (1561, 1, .iload_n 3, [])]
set_option maxRecDepth 20000 in
def k_L_law12 : List az_I := [
  (1562, 1, .iconst 3, []), (1563, 1, .iadd, []), (1564, 1, .iaload, []), (1565, 1, .aload_n 0, []), (1566, 1, .iload_n 3, []), (1567, 1, .iconst 4, []),
  (1568, 1, .iadd, []), (1569, 1, .iaload, []), (1570, 1, .aload_n 0, []), (1571, 1, .iload_n 3, []), (1572, 1, .iconst 5, []), (1573, 1, .iadd, []),
  (1574, 1, .iaload, []), (1575, 3, .invokevirtual 154, [0, 125, 6, 12]), (1578, 1, .aload_n 2, []), (1579, 1, .aload_n 0, []), (1580, 1, .iload_n 3, []), (1581, 1, .iconst 1, []),
  (1582, 1, .iadd, []), (1583, 1, .iaload, []), (1584, 1, .aload_n 0, []), (1585, 1, .iload_n 3, []), (1586, 1, .iconst 2, []), (1587, 1, .iadd, []),
  (1588, 1, .iaload, []), (1589, 1, .aload_n 0, []), (1590, 1, .iload_n 3, []), (1591, 1, .iconst 3, []), (1592, 1, .iadd, []), (1593, 1, .iaload, []),
  (1594, 1, .aload_n 0, []), (1595, 1, .iload_n 3, []), (1596, 1, .iconst 4, []), (1597, 1, .iadd, []), (1598, 1, .iaload, []), (1599, 1, .aload_n 0, []),
  (1600, 1, .iload_n 3, []), (1601, 1, .iconst 5, []), (1602, 1, .iadd, []), (1603, 1, .iaload, []), (1604, 3, .invokevirtual 157, [0, 245, 6, 13]), (1607, 3, .if_icmp .eq 118, []),
  (1610, 1, .iconst 0, []), (1611, 1, .ireturn, []), (1612, 1, .aload_n 1, []), (1613, 1, .aload_n 0, []), (1614, 1, .iload_n 3, []), (1615, 1, .iconst 1, []),
  (1616, 1, .iadd, []), (1617, 1, .iaload, []), (1618, 3, .invokevirtual 158, [0, 126, 2, 12]), (1621, 1, .aload_n 2, []), (1622, 1, .aload_n 0, []), (1623, 1, .iload_n 3, []),
  (1624, 1, .iconst 1, []), (1625, 1, .iadd, []), (1626, 1, .iaload, []), (1627, 3, .invokevirtual 162, [0, 246, 2, 13]), (1630, 1, .lcmp, []), (1631, 3, .ifCond .eq 94, []),
  (1634, 1, .iconst 0, []), (1635, 1, .ireturn, []), (1636, 1, .aload_n 1, []), (1637, 1, .aload_n 0, []), (1638, 1, .iload_n 3, []), (1639, 1, .iconst 1, []),
  (1640, 1, .iadd, []), (1641, 1, .iaload, []), (1642, 1, .aload_n 0, []), (1643, 1, .iload_n 3, []), (1644, 1, .iconst 2, []), (1645, 1, .iadd, []),
  (1646, 1, .iaload, []), (1647, 3, .invokevirtual 163, [0, 127, 3, 12]), (1650, 1, .aload_n 2, []), (1651, 1, .aload_n 0, []), (1652, 1, .iload_n 3, []), (1653, 1, .iconst 1, []),
  (1654, 1, .iadd, []), (1655, 1, .iaload, []), (1656, 1, .aload_n 0, []), (1657, 1, .iload_n 3, []), (1658, 1, .iconst 2, []), (1659, 1, .iadd, []),
  (1660, 1, .iaload, []), (1661, 3, .invokevirtual 166, [0, 249, 3, 13]), (1664, 3, .if_icmp .eq 61, []), (1667, 1, .iconst 0, []), (1668, 1, .ireturn, []), (1669, 1, .aload_n 1, []),
  (1670, 1, .aload_n 0, []), (1671, 1, .iload_n 3, []), (1672, 1, .iconst 1, []), (1673, 1, .iadd, []), (1674, 1, .iaload, []), (1675, 1, .aload_n 0, []),
  (1676, 1, .iload_n 3, []), (1677, 1, .iconst 2, []), (1678, 1, .iadd, []), (1679, 1, .iaload, [])]
set_option maxRecDepth 20000 in
def k_L_law13 : List az_I := [
  (1680, 3, .invokevirtual 167, [0, 128, 3, 12]), (1683, 1, .aload_n 2, []), (1684, 1, .aload_n 0, []), (1685, 1, .iload_n 3, []), (1686, 1, .iconst 1, []), (1687, 1, .iadd, []),
  (1688, 1, .iaload, []), (1689, 1, .aload_n 0, []), (1690, 1, .iload_n 3, []), (1691, 1, .iconst 2, []), (1692, 1, .iadd, []), (1693, 1, .iaload, []),
  (1694, 3, .invokevirtual 170, [0, 250, 3, 13]), (1697, 3, .if_icmp .eq 28, []), (1700, 1, .iconst 0, []), (1701, 1, .ireturn, []), (1702, 1, .aload_n 1, []), (1703, 1, .aload_n 0, []),
  (1704, 1, .iload_n 3, []), (1705, 1, .iconst 1, []), (1706, 1, .iadd, []), (1707, 1, .iaload, []), (1708, 3, .invokevirtual 171, [0, 129, 2, 12]), (1711, 1, .aload_n 2, []),
  (1712, 1, .aload_n 0, []), (1713, 1, .iload_n 3, []), (1714, 1, .iconst 1, []), (1715, 1, .iadd, []), (1716, 1, .iaload, []), (1717, 3, .invokevirtual 174, [0, 251, 2, 13]),
  (1720, 3, .if_icmp .eq 5, []), (1723, 1, .iconst 0, []), (1724, 1, .ireturn, []), (1725, 3, .iinc 3 9, []), (1728, 3, .goto (-1690), []), (1731, 1, .iconst 1, []),
  (1732, 1, .ireturn, [])]
def k_L_law : List az_I := k_L_law0 ++ (k_L_law1 ++ (k_L_law2 ++ (k_L_law3 ++ (k_L_law4 ++ (k_L_law5 ++ (k_L_law6 ++ (k_L_law7 ++ (k_L_law8 ++ (k_L_law9 ++ (k_L_law10 ++ (k_L_law11 ++ (k_L_law12 ++ (k_L_law13)))))))))))))
end
section
/-! THE METHODS by their numbers: name, text, locals, type of the answer -/
set_option maxRecDepth 20000 in
def az_msl : List az_M := [
  (yX0_init, cX0_init, 7, none),
  (yX0_limit, cX0_limit, 5, none),
  (yX0_covers, cX0_covers, 4, (some .boolean)),
  (yX0_holdsOn, cX0_holdsOn, 3, (some .boolean)),
  (yX1_init, cX1_init, 3, none),
  (yX1_has, cX1_has, 2, (some .boolean)),
  (yX1_columnOf, cX1_columnOf, 2, (some .int)),
  (yX1_rowOf, cX1_rowOf, 2, (some .int)),
  (yX1_cellAt, cX1_cellAt, 3, (some .int)),
  (yX1_stepsBetween, cX1_stepsBetween, 3, (some .int)),
  (yX2_init, cX2_init, 3, none),
  (yX2_parseInto, cX2_parseInto, 3, (some .boolean)),
  (yX2_fail, cX2_fail, 2, none),
  (yX2_advance, cX2_advance, 1, none),
  (yX2_pass, cX2_pass, 2, none),
  (yX2_open, cX2_open, 3, (some .boolean)),
  (yX2_rule, cX2_rule, 1, none),
  (yX2_either, cX2_either, 3, none),
  (yX2_both, cX2_both, 3, none),
  (yX2_ask, cX2_ask, 3, none),
  (yX2_sum, cX2_sum, 4, none),
  (yX2_product, cX2_product, 4, none),
  (yX2_one, cX2_one, 3, none),
  (yX2_value, cX2_value, 2, none),
  (yX3_init, cX3_init, 1, none),
  (yX3_wasDead, cX3_wasDead, 3, (some .boolean)),
  (yX4_init, cX4_init, 2, none),
  (yX4_startFromBehind, cX4_startFromBehind, 2, none),
  (yX4_goBackAnHour, cX4_goBackAnHour, 3, none),
  (yX4_leadsOn, cX4_leadsOn, 2, (some .boolean)),
  (yX4_bestNext, cX4_bestNext, 7, (some .int)),
  (yX4_isBetter, cX4_isBetter, 3, (some .boolean)),
  (yX4_lead, cX4_lead, 8, none),
  (yX4_follow, cX4_follow, 7, (some .int)),
  (yX4_charges, cX4_charges, 1, (some .long)),
  (yX4_cellOfPath, cX4_cellOfPath, 2, (some .int)),
  (yX5_init, cX5_init, 4, none),
  (yX5_lookAt, cX5_lookAt, 5, none),
  (yX5_turnTo, cX5_turnTo, 6, none),
  (yX5_castShadow, cX5_castShadow, 12, none),
  (yX5_heightOf, cX5_heightOf, 2, (some .int)),
  (yX5_isOpen, cX5_isOpen, 2, (some .boolean)),
  (yX5_shadersOf, cX5_shadersOf, 4, (some .int)),
  (yX5_partsOf, cX5_partsOf, 5, (some .int)),
  (yX5_partsOfAll, cX5_partsOfAll, 5, (some .long)),
  (yX5_cellsShadedBy, cX5_cellsShadedBy, 4, (some .int)),
  (yX6_init, cX6_init, 3, none),
  (yX6_setSun, cX6_setSun, 6, none),
  (yX6_sunX, cX6_sunX, 4, (some .int)),
  (yX6_sunY, cX6_sunY, 4, (some .int)),
  (yX6_isClouded, cX6_isClouded, 4, (some .boolean)),
  (yX6_addCloud, cX6_addCloud, 3, (some .int)),
  (yX7_init, cX7_init, 3, none),
  (yX7_isOn, cX7_isOn, 2, (some .boolean)),
  (yX7_put, cX7_put, 3, none),
  (yX7_cellIn, cX7_cellIn, 2, (some .int)),
  (yX7_hasCell, cX7_hasCell, 3, (some .boolean)),
  (yX8_init, cX8_init, 1, none),
  (yX8_addFour, cX8_addFour, 3, none),
  (yX8_cutIntoTokens, cX8_cutIntoTokens, 5, none),
  (yX8_kindOf, cX8_kindOf, 2, (some .int)),
  (yX8_startOf, cX8_startOf, 2, (some .int)),
  (yX8_valueOf, cX8_valueOf, 2, (some .int)),
  (yX8_byteAt, cX8_byteAt, 2, (some .int)),
  (yX8_addToken, cX8_addToken, 4, none),
  (yX8_isLetter, cX8_isLetter, 1, (some .boolean)),
  (yX8_isDigit, cX8_isDigit, 1, (some .boolean)),
  (yX8_endOfLetters, cX8_endOfLetters, 3, (some .int)),
  (yX8_endOfDigits, cX8_endOfDigits, 3, (some .int)),
  (yX8_numberOf, cX8_numberOf, 5, (some .int)),
  (yX8_addWord, cX8_addWord, 4, none),
  (yX8_nameOf, cX8_nameOf, 3, (some .int)),
  (yX8_kindOfWord, cX8_kindOfWord, 3, (some .int)),
  (yX8_isWord, cX8_isWord, 5, (some .boolean)),
  (yX8_kindOfSign, cX8_kindOfSign, 1, (some .int)),
  (yX9_init, cX9_init, 1, none),
  (yX9_clear, cX9_clear, 1, none),
  (yX9_add, cX9_add, 3, none),
  (yX9_endAsk, cX9_endAsk, 1, none),
  (yX9_endRule, cX9_endRule, 1, none),
  (yX9_answer, cX9_answer, 5, (some .int)),
  (yX9_run, cX9_run, 7, (some .long)),
  (yX9_valueOf, cX9_valueOf, 2, (some .long)),
  (yX9_join, cX9_join, 5, (some .long)),
  (yX9_bounded, cX9_bounded, 2, (some .long)),
  (yX10_init, cX10_init, 5, none),
  (yX10_tell, cX10_tell, 4, none),
  (yX10_forgetLast, cX10_forgetLast, 1, none),
  (yX10_entryValue, cX10_entryValue, 3, (some .int)),
  (yX10_hasFallen, cX10_hasFallen, 1, (some .boolean)),
  (yX10_heightOn, cX10_heightOn, 5, (some .int)),
  (yX10_entryFor, cX10_entryFor, 6, (some .int)),
  (yX10_grownBetween, cX10_grownBetween, 3, (some .int)),
  (yX10_mend, cX10_mend, 5, none),
  (yX11_init, cX11_init, 3, none),
  (yX11_days, cX11_days, 2, (some .int)),
  (yX11_sun, cX11_sun, 5, (some .boolean)),
  (yX11_cloud, cX11_cloud, 3, (some .int)),
  (yX11_person, cX11_person, 1, (some .int)),
  (yX11_died, cX11_died, 4, (some .boolean)),
  (yX11_wall, cX11_wall, 4, (some .int)),
  (yX11_tree, cX11_tree, 6, (some .int)),
  (yX11_pole, cX11_pole, 7, (some .int)),
  (yX11_raise, cX11_raise, 5, (some .int)),
  (yX11_fell, cX11_fell, 4, (some .boolean)),
  (yX11_height, cX11_height, 4, (some .int)),
  (yX11_measure, cX11_measure, 7, (some .int)),
  (yX11_thing, cX11_thing, 4, (some .int)),
  (yX11_entry, cX11_entry, 4, (some .int)),
  (yX11_grant, cX11_grant, 10, (some .int)),
  (yX11_holder, cX11_holder, 5, (some .int)),
  (yX11_shaded, cX11_shaded, 5, (some .int)),
  (yX11_parts, cX11_parts, 6, (some .int)),
  (yX11_shadow, cX11_shadow, 5, (some .int)),
  (yX11_account, cX11_account, 8, (some .long)),
  (yX11_bill, cX11_bill, 10, (some .long)),
  (yX11_feed, cX11_feed, 6, (some .int)),
  (yX11_end, cX11_end, 2, (some .int)),
  (yX11_tariff, cX11_tariff, 3, (some .int)),
  (yX11_fault, cX11_fault, 2, (some .int)),
  (yX11_gives, cX11_gives, 7, (some .int)),
  (yX11_stall, cX11_stall, 4, (some .int)),
  (yX11_place, cX11_place, 4, (some .boolean)),
  (yX11_placeOf, cX11_placeOf, 3, (some .int)),
  (yX11_fees, cX11_fees, 10, (some .long)),
  (yX11_walk, cX11_walk, 7, (some .int)),
  (yX11_walked, cX11_walked, 2, (some .long)),
  (yX11_best, cX11_best, 3, (some .int)),
  (yX11_serves, cX11_serves, 4, (some .int)),
  (yX11_about, cX11_about, 2, (some .int)),
  (yX11_isDay, cX11_isDay, 1, (some .boolean)),
  (yX11_isSpan, cX11_isSpan, 2, (some .boolean)),
  (yX11_isHour, cX11_isHour, 1, (some .boolean)),
  (yX11_isHeight, cX11_isHeight, 1, (some .boolean)),
  (yX11_isWithin, cX11_isWithin, 2, (some .boolean)),
  (yX11_isPairOfTwelve, cX11_isPairOfTwelve, 1, (some .boolean)),
  (yX11_monthOf, cX11_monthOf, 1, (some .int)),
  (yX11_cellsAside, cX11_cellsAside, 2, (some .int)),
  (yX11_isPerson, cX11_isPerson, 2, (some .boolean)),
  (yX11_isThing, cX11_isThing, 2, (some .boolean)),
  (yX11_isStall, cX11_isStall, 2, (some .boolean)),
  (yX11_mayStand, cX11_mayStand, 6, (some .boolean)),
  (yX11_isBuiltOn, cX11_isBuiltOn, 4, (some .boolean)),
  (yX11_addThing, cX11_addThing, 3, (some .int)),
  (yX11_standingNow, cX11_standingNow, 3, (some .int)),
  (yX11_nearestHeight, cX11_nearestHeight, 12, (some .int)),
  (yX11_findHolders, cX11_findHolders, 8, none),
  (yX11_heldBy, cX11_heldBy, 7, (some .int)),
  (yX11_partsOnDay, cX11_partsOnDay, 8, (some .long)),
  (yX11_partsOverYear, cX11_partsOverYear, 6, (some .long)),
  (yX11_chargeOf, cX11_chargeOf, 9, (some .long)),
  (yX11_mayTake, cX11_mayTake, 7, (some .boolean)),
  (yX11_leadThroughHour, cX11_leadThroughHour, 8, none),
  (yX11_mayWalk, cX11_mayWalk, 5, (some .boolean)),
  (yX11_bestTree, cX11_bestTree, 6, (some .int)),
  (yX11_hasStall, cX11_hasStall, 5, (some .boolean)),
  (yX11_serveHour, cX11_serveHour, 6, none),
  (yX11_servePlace, cX11_servePlace, 12, none),
  (yX12_init, cX12_init, 5, none),
  (yX12_in, cX12_in, 6, (some .boolean)),
  (yX12_isDay, cX12_isDay, 1, (some .boolean)),
  (yX12_isHour, cX12_isHour, 1, (some .boolean)),
  (yX12_isCell, cX12_isCell, 2, (some .boolean)),
  (yX12_isPerson, cX12_isPerson, 2, (some .boolean)),
  (yX12_isThing, cX12_isThing, 2, (some .boolean)),
  (yX12_monthOf, cX12_monthOf, 1, (some .int)),
  (yX12_days, cX12_days, 2, (some .int)),
  (yX12_sun, cX12_sun, 5, (some .boolean)),
  (yX12_isCloud, cX12_isCloud, 5, (some .boolean)),
  (yX12_cloud, cX12_cloud, 3, (some .int)),
  (yX12_person, cX12_person, 1, (some .int)),
  (yX12_died, cX12_died, 3, (some .boolean)),
  (yX12_mayStand, cX12_mayStand, 6, (some .boolean)),
  (yX12_stands, cX12_stands, 6, (some .int)),
  (yX12_enters, cX12_enters, 5, none),
  (yX12_wall, cX12_wall, 4, (some .int)),
  (yX12_tree, cX12_tree, 6, (some .int)),
  (yX12_pole, cX12_pole, 7, (some .int)),
  (yX12_raise, cX12_raise, 4, (some .int)),
  (yX12_fell, cX12_fell, 3, (some .boolean)),
  (yX12_entryFor, cX12_entryFor, 6, (some .int)),
  (yX12_heightOf, cX12_heightOf, 6, (some .int)),
  (yX12_height, cX12_height, 4, (some .int)),
  (yX12_isOpen, cX12_isOpen, 6, (some .boolean)),
  (yX12_below, cX12_below, 1, (some .int)),
  (yX12_pointOf, cX12_pointOf, 10, (some .int)),
  (yX12_shades, cX12_shades, 9, none),
  (yX12_looks, cX12_looks, 6, none),
  (yX12_isAsked, cX12_isAsked, 4, (some .boolean)),
  (yX12_shaded, cX12_shaded, 5, (some .int)),
  (yX12_shadow, cX12_shadow, 7, (some .int)),
  (yX12_grant, cX12_grant, 10, (some .int)),
  (yX12_holdsOn, cX12_holdsOn, 8, (some .boolean)),
  (yX12_holderOf, cX12_holderOf, 7, (some .int)),
  (yX12_holder, cX12_holder, 5, (some .int)),
  (yX12_holds, cX12_holds, 5, none),
  (yX12_partsIn, cX12_partsIn, 5, (some .int)),
  (yX12_parts, cX12_parts, 6, (some .int)),
  (yX12_partsOn, cX12_partsOn, 8, (some .long)),
  (yX12_account, cX12_account, 8, (some .long)),
  (yX12_bill, cX12_bill, 8, (some .long)),
  (yX12_measure, cX12_measure, 9, (some .int)),
  (yX12_far, cX12_far, 2, (some .int)),
  (yX12_thing, cX12_thing, 3, (some .int)),
  (yX12_entry, cX12_entry, 5, (some .int)),
  (yX12_put, cX12_put, 2, none),
  (yX12_feed, cX12_feed, 6, (some .int)),
  (yX12_end, cX12_end, 2, (some .int)),
  (yX12_isLetter, cX12_isLetter, 1, (some .boolean)),
  (yX12_wordOf, cX12_wordOf, 2, (some .int)),
  (yX12_next, cX12_next, 5, none),
  (yX12_isSignByte, cX12_isSignByte, 1, (some .boolean)),
  (yX12_isSign, cX12_isSign, 2, (some .boolean)),
  (yX12_isWord, cX12_isWord, 2, (some .boolean)),
  (yX12_errs, cX12_errs, 2, none),
  (yX12_emits, cX12_emits, 3, none),
  (yX12_opensFrame, cX12_opensFrame, 2, none),
  (yX12_top, cX12_top, 1, (some .int)),
  (yX12_opensSign, cX12_opensSign, 2, (some .boolean)),
  (yX12_rank, cX12_rank, 1, (some .int)),
  (yX12_works, cX12_works, 2, none),
  (yX12_waitsFor, cX12_waitsFor, 2, none),
  (yX12_asks, cX12_asks, 1, none),
  (yX12_begins, cX12_begins, 2, none),
  (yX12_oneIsOver, cX12_oneIsOver, 1, none),
  (yX12_askIsOver, cX12_askIsOver, 1, none),
  (yX12_isAsking, cX12_isAsking, 1, (some .boolean)),
  (yX12_goesOn, cX12_goesOn, 3, none),
  (yX12_asksOn, cX12_asksOn, 2, none),
  (yX12_rule, cX12_rule, 2, none),
  (yX12_tariff, cX12_tariff, 2, (some .int)),
  (yX12_fault, cX12_fault, 2, (some .int)),
  (yX12_bound, cX12_bound, 2, (some .long)),
  (yX12_worked, cX12_worked, 5, (some .long)),
  (yX12_given, cX12_given, 5, (some .long)),
  (yX12_gives, cX12_gives, 8, (some .int)),
  (yX12_stall, cX12_stall, 5, (some .int)),
  (yX12_mayPlace, cX12_mayPlace, 6, (some .boolean)),
  (yX12_place, cX12_place, 4, (some .boolean)),
  (yX12_placeOf, cX12_placeOf, 3, (some .int)),
  (yX12_charge, cX12_charge, 11, (some .long)),
  (yX12_fees, cX12_fees, 8, (some .long)),
  (yX12_isTaken, cX12_isTaken, 6, (some .boolean)),
  (yX12_beside, cX12_beside, 5, (some .int)),
  (yX12_nextOf, cX12_nextOf, 8, (some .int)),
  (yX12_walk, cX12_walk, 12, (some .int)),
  (yX12_walked, cX12_walked, 2, (some .long)),
  (yX12_servedBy, cX12_servedBy, 8, (some .int)),
  (yX12_seeks, cX12_seeks, 7, (some .int)),
  (yX12_best, cX12_best, 3, (some .int)),
  (yX12_serves, cX12_serves, 4, (some .int)),
  (yX12_about, cX12_about, 4, (some .int)),
  (yJ6_bitCount_0f7a4, cJ6_bitCount_0f7a4, 1, (some .int)),
  (yJ9_floorDiv_7cf53, cJ9_floorDiv_7cf53, 3, (some .int)),
  (yJ9_abs_0f7a4, cJ9_abs_0f7a4, 1, (some .int)),
  (yJ9_max_7cf53, cJ9_max_7cf53, 2, (some .int)),
  (yJ9_max_f86c9, cJ9_max_f86c9, 4, (some .long)),
  (yJ9_min_7cf53, cJ9_min_7cf53, 2, (some .int)),
  (yJ9_min_f86c9, cJ9_min_f86c9, 4, (some .long)),
  (yJ0_length_8abf5, cJ0_length_8abf5, 1, (some .int)),
  (yJ0_charAt_5068e, cJ0_charAt_5068e, 2, (some .char)),
  (yJ0_coder_7d493, cJ0_coder_7d493, 1, (some .byte)),
  (yJ0_isLatin1_aae02, cJ0_isLatin1_aae02, 1, (some .boolean)),
  (yJ0_checkIndex_df160, cJ0_checkIndex_df160, 2, none),
  (yJ1_charAt_3b067, cJ1_charAt_3b067, 2, (some .char)),
  (yJxa1e45_init_da8c8, cJxa1e45_init_da8c8, 1, none),
  (yJxc12de_init_da8c8, cJxc12de_init_da8c8, 1, none),
  (yJx4a65c_init_da8c8, cJx4a65c_init_da8c8, 1, none),
  (yJx4a65c_grow_92f84, cJx4a65c_grow_92f84, 4, (some (.array (.object "java/lang/Object")))),
  (yJx4a65c_grow_d5877, cJx4a65c_grow_d5877, 1, (some (.array (.object "java/lang/Object")))),
  (yJx4a65c_size_8abf5, cJx4a65c_size_8abf5, 1, (some .int)),
  (yJx4a65c_elementData_915e3, cJx4a65c_elementData_915e3, 2, (some (.object "java/lang/Object"))),
  (yJx4a65c_get_915e3, cJx4a65c_get_915e3, 2, (some (.object "java/lang/Object"))),
  (yJx4a65c_add_72be8, cJx4a65c_add_72be8, 4, none),
  (yJx4a65c_add_9ea2d, cJx4a65c_add_9ea2d, 2, (some .boolean)),
  (yJ7_fill_53178, cJ7_fill_53178, 4, none),
  (yJ7_copyOf_1904c, cJ7_copyOf_1904c, 2, (some (.array (.object "java/lang/Object")))),
  (yJ7_copyOf_6403c, cJ7_copyOf_6403c, 4, (some (.array (.object "java/lang/Object")))),
  (yJ15_checkIndex_7cf53, cJ15_checkIndex_7cf53, 2, (some .int)),
  (yJ8_newLength_cabcc, cJ8_newLength_cabcc, 4, (some .int)),
  (yJ3_checkIndex_8e157, cJ3_checkIndex_8e157, 3, (some .int)),
  (yL_cell, cL_cell, 2, (some .int))]
def az_ms (y : Nat) : Option az_M := az_msl[y]?
set_option maxRecDepth 20000 in
def az_cdl : List (List az_I) := [
  k_X0_init,
  k_X0_limit,
  k_X0_covers,
  k_X0_holdsOn,
  k_X1_init,
  k_X1_has,
  k_X1_columnOf,
  k_X1_rowOf,
  k_X1_cellAt,
  k_X1_stepsBetween,
  k_X2_init,
  k_X2_parseInto,
  k_X2_fail,
  k_X2_advance,
  k_X2_pass,
  k_X2_open,
  k_X2_rule,
  k_X2_either,
  k_X2_both,
  k_X2_ask,
  k_X2_sum,
  k_X2_product,
  k_X2_one,
  k_X2_value,
  k_X3_init,
  k_X3_wasDead,
  k_X4_init,
  k_X4_startFromBehind,
  k_X4_goBackAnHour,
  k_X4_leadsOn,
  k_X4_bestNext,
  k_X4_isBetter,
  k_X4_lead,
  k_X4_follow,
  k_X4_charges,
  k_X4_cellOfPath,
  k_X5_init,
  k_X5_lookAt,
  k_X5_turnTo,
  k_X5_castShadow,
  k_X5_heightOf,
  k_X5_isOpen,
  k_X5_shadersOf,
  k_X5_partsOf,
  k_X5_partsOfAll,
  k_X5_cellsShadedBy,
  k_X6_init,
  k_X6_setSun,
  k_X6_sunX,
  k_X6_sunY,
  k_X6_isClouded,
  k_X6_addCloud,
  k_X7_init,
  k_X7_isOn,
  k_X7_put,
  k_X7_cellIn,
  k_X7_hasCell,
  k_X8_init,
  k_X8_addFour,
  k_X8_cutIntoTokens,
  k_X8_kindOf,
  k_X8_startOf,
  k_X8_valueOf,
  k_X8_byteAt,
  k_X8_addToken,
  k_X8_isLetter,
  k_X8_isDigit,
  k_X8_endOfLetters,
  k_X8_endOfDigits,
  k_X8_numberOf,
  k_X8_addWord,
  k_X8_nameOf,
  k_X8_kindOfWord,
  k_X8_isWord,
  k_X8_kindOfSign,
  k_X9_init,
  k_X9_clear,
  k_X9_add,
  k_X9_endAsk,
  k_X9_endRule,
  k_X9_answer,
  k_X9_run,
  k_X9_valueOf,
  k_X9_join,
  k_X9_bounded,
  k_X10_init,
  k_X10_tell,
  k_X10_forgetLast,
  k_X10_entryValue,
  k_X10_hasFallen,
  k_X10_heightOn,
  k_X10_entryFor,
  k_X10_grownBetween,
  k_X10_mend,
  k_X11_init,
  k_X11_days,
  k_X11_sun,
  k_X11_cloud,
  k_X11_person,
  k_X11_died,
  k_X11_wall,
  k_X11_tree,
  k_X11_pole,
  k_X11_raise,
  k_X11_fell,
  k_X11_height,
  k_X11_measure,
  k_X11_thing,
  k_X11_entry,
  k_X11_grant,
  k_X11_holder,
  k_X11_shaded,
  k_X11_parts,
  k_X11_shadow,
  k_X11_account,
  k_X11_bill,
  k_X11_feed,
  k_X11_end,
  k_X11_tariff,
  k_X11_fault,
  k_X11_gives,
  k_X11_stall,
  k_X11_place,
  k_X11_placeOf,
  k_X11_fees,
  k_X11_walk,
  k_X11_walked,
  k_X11_best,
  k_X11_serves,
  k_X11_about,
  k_X11_isDay,
  k_X11_isSpan,
  k_X11_isHour,
  k_X11_isHeight,
  k_X11_isWithin,
  k_X11_isPairOfTwelve,
  k_X11_monthOf,
  k_X11_cellsAside,
  k_X11_isPerson,
  k_X11_isThing,
  k_X11_isStall,
  k_X11_mayStand,
  k_X11_isBuiltOn,
  k_X11_addThing,
  k_X11_standingNow,
  k_X11_nearestHeight,
  k_X11_findHolders,
  k_X11_heldBy,
  k_X11_partsOnDay,
  k_X11_partsOverYear,
  k_X11_chargeOf,
  k_X11_mayTake,
  k_X11_leadThroughHour,
  k_X11_mayWalk,
  k_X11_bestTree,
  k_X11_hasStall,
  k_X11_serveHour,
  k_X11_servePlace,
  k_X12_init,
  k_X12_in,
  k_X12_isDay,
  k_X12_isHour,
  k_X12_isCell,
  k_X12_isPerson,
  k_X12_isThing,
  k_X12_monthOf,
  k_X12_days,
  k_X12_sun,
  k_X12_isCloud,
  k_X12_cloud,
  k_X12_person,
  k_X12_died,
  k_X12_mayStand,
  k_X12_stands,
  k_X12_enters,
  k_X12_wall,
  k_X12_tree,
  k_X12_pole,
  k_X12_raise,
  k_X12_fell,
  k_X12_entryFor,
  k_X12_heightOf,
  k_X12_height,
  k_X12_isOpen,
  k_X12_below,
  k_X12_pointOf,
  k_X12_shades,
  k_X12_looks,
  k_X12_isAsked,
  k_X12_shaded,
  k_X12_shadow,
  k_X12_grant,
  k_X12_holdsOn,
  k_X12_holderOf,
  k_X12_holder,
  k_X12_holds,
  k_X12_partsIn,
  k_X12_parts,
  k_X12_partsOn,
  k_X12_account,
  k_X12_bill,
  k_X12_measure,
  k_X12_far,
  k_X12_thing,
  k_X12_entry,
  k_X12_put,
  k_X12_feed,
  k_X12_end,
  k_X12_isLetter,
  k_X12_wordOf,
  k_X12_next,
  k_X12_isSignByte,
  k_X12_isSign,
  k_X12_isWord,
  k_X12_errs,
  k_X12_emits,
  k_X12_opensFrame,
  k_X12_top,
  k_X12_opensSign,
  k_X12_rank,
  k_X12_works,
  k_X12_waitsFor,
  k_X12_asks,
  k_X12_begins,
  k_X12_oneIsOver,
  k_X12_askIsOver,
  k_X12_isAsking,
  k_X12_goesOn,
  k_X12_asksOn,
  k_X12_rule,
  k_X12_tariff,
  k_X12_fault,
  k_X12_bound,
  k_X12_worked,
  k_X12_given,
  k_X12_gives,
  k_X12_stall,
  k_X12_mayPlace,
  k_X12_place,
  k_X12_placeOf,
  k_X12_charge,
  k_X12_fees,
  k_X12_isTaken,
  k_X12_beside,
  k_X12_nextOf,
  k_X12_walk,
  k_X12_walked,
  k_X12_servedBy,
  k_X12_seeks,
  k_X12_best,
  k_X12_serves,
  k_X12_about,
  k_J6_bitCount_0f7a4,
  k_J9_floorDiv_7cf53,
  k_J9_abs_0f7a4,
  k_J9_max_7cf53,
  k_J9_max_f86c9,
  k_J9_min_7cf53,
  k_J9_min_f86c9,
  k_J0_length_8abf5,
  k_J0_charAt_5068e,
  k_J0_coder_7d493,
  k_J0_isLatin1_aae02,
  k_J0_checkIndex_df160,
  k_J1_charAt_3b067,
  k_Jxa1e45_init_da8c8,
  k_Jxc12de_init_da8c8,
  k_Jx4a65c_init_da8c8,
  k_Jx4a65c_grow_92f84,
  k_Jx4a65c_grow_d5877,
  k_Jx4a65c_size_8abf5,
  k_Jx4a65c_elementData_915e3,
  k_Jx4a65c_get_915e3,
  k_Jx4a65c_add_72be8,
  k_Jx4a65c_add_9ea2d,
  k_J7_fill_53178,
  k_J7_copyOf_1904c,
  k_J7_copyOf_6403c,
  k_J15_checkIndex_7cf53,
  k_J8_newLength_cabcc,
  k_J3_checkIndex_8e157,
  k_L_cell]
def az_cds (y : Nat) : List az_I := az_cdl.getD y []
def az_pool0 : List az_P := [
  (0, 3, 30, [1, 2, 3], [3175]),
  (0, 9, 1, [1, 0], [3176]),
  (0, 15, 0, [1, 1], [3178]),
  (0, 15, 1, [1, 1], [3178]),
  (0, 19, 1, [1, 2], [3179]),
  (0, 22, 1, [1, 3], [3181]),
  (0, 25, 0, [1, 4], [3183]),
  (0, 25, 1, [1, 4], [3183]),
  (0, 28, 1, [1, 5], [3184]),
  (0, 31, 0, [1, 6], [3186]),
  (0, 34, 0, [1, 7], [3187]),
  (0, 37, 0, [1, 8], [3188]),
  (0, 40, 0, [1, 9], [3189]),
  (0, 43, 0, [1, 10], [3190]),
  (0, 46, 0, [1, 11], [3191]),
  (0, 49, 21, [0, 136, 1, 999], [3233, 3121]),
  (0, 53, 20, [0, 25, 3, 4], [3238, 3239, 4000]),
  (1, 3, 30, [1, 2, 3], [1147]),
  (1, 9, 21, [0, 257, 2, 999], [1148, 1149]),
  (1, 15, 21, [0, 255, 2, 999], [1151, 1152]),
  (1, 18, 0, [2, 0], [1154]),
  (1, 18, 1, [2, 0], [1154]),
  (1, 24, 0, [2, 1], [1157]),
  (1, 24, 1, [2, 1], [1157]),
  (1, 27, 0, [2, 2], [1162]),
  (1, 27, 1, [2, 2], [1162]),
  (1, 30, 20, [0, 6, 2, 2], [5182, 3128, 3129]),
  (1, 34, 21, [0, 254, 1, 999], [5183, 1042]),
  (1, 37, 20, [0, 7, 2, 2], [5184, 3132, 3133]),
  (2, 3, 30, [1, 2, 3], [2001]),
  (2, 9, 0, [3, 0], [2002]),
  (2, 9, 1, [3, 0], [2002]),
  (2, 15, 0, [3, 1], [2003]),
  (2, 19, 20, [0, 76, 1, 10], [4112, 4113, 4114]),
  (2, 24, 20, [0, 59, 1, 9], [4116, 4117, 4118]),
  (2, 29, 0, [3, 2], [2004]),
  (2, 33, 20, [0, 60, 2, 9], [4228, 4229, 4230]),
  (2, 37, 0, [3, 3], [2005]),
  (2, 40, 0, [3, 4], [2006]),
  (2, 43, 0, [3, 5], [2008]),
  (2, 46, 20, [0, 16, 1, 3], [4232, 4234, 25]),
  (2, 49, 20, [0, 61, 2, 9], [5057, 5058, 5059]),
  (2, 52, 20, [0, 13, 1, 3], [5000, 5002, 27]),
  (2, 55, 20, [0, 12, 2, 3], [4236, 4238, 26]),
  (2, 59, 0, [10, 6], [1124]),
  (2, 62, 20, [0, 17, 2, 3], [5004, 5006, 28]),
  (2, 65, 20, [0, 78, 1, 10], [5049, 5050, 5051]),
  (2, 68, 20, [0, 14, 2, 3], [5024, 5026, 32]),
  (2, 71, 20, [0, 20, 2, 3], [5028, 5030, 33]),
  (2, 74, 20, [0, 79, 1, 10], [5053, 5054, 5055]),
  (2, 77, 20, [0, 18, 2, 3], [5008, 5010, 29]),
  (2, 80, 20, [0, 77, 3, 10], [5020, 5021, 5022]),
  (2, 84, 20, [0, 19, 2, 3], [5012, 5014, 30]),
  (2, 87, 20, [0, 15, 3, 3], [5016, 5018, 31]),
  (2, 91, 20, [0, 21, 2, 3], [5032, 5034, 34]),
  (2, 94, 20, [0, 22, 2, 3], [5036, 5038, 35]),
  (2, 97, 20, [0, 23, 1, 3], [5040, 5042, 36]),
  (2, 100, 20, [0, 62, 2, 9], [5044, 5045, 5046]),
  (2, 103, 8, [0, 100000], [5048]),
  (3, 3, 30, [1, 2, 3], [2124]),
  (3, 9, 0, [4, 0], [2125]),
  (3, 15, 0, [4, 1], [2127]),
  (4, 3, 30, [1, 2, 3], [1206]),
  (4, 9, 0, [5, 2], [1210]),
  (4, 9, 1, [5, 2], [1210]),
  (4, 15, 11, [18446744073709551615], [1207]),
  (4, 17, 0, [5, 8], [1216]),
  (4, 21, 0, [5, 0], [1208]),
  (4, 21, 1, [5, 0], [1208]),
  (4, 25, 0, [2, 2], [1160])]
def az_pool1 : List az_P := [
  (4, 31, 0, [5, 1], [1209]),
  (4, 31, 1, [5, 1], [1209]),
  (4, 34, 0, [5, 3], [1211]),
  (4, 37, 0, [5, 4], [1212]),
  (4, 40, 0, [5, 5], [1213]),
  (4, 44, 0, [5, 6], [1214]),
  (4, 47, 21, [0, 275, 2, 999], [5169, 4019]),
  (4, 53, 20, [0, 6, 2, 2], [5197, 3128, 3129]),
  (4, 57, 20, [0, 7, 2, 2], [5198, 3132, 3133]),
  (4, 60, 4, [1, 2], [5199]),
  (4, 63, 4, [2, 2], [5201]),
  (4, 66, 20, [0, 8, 3, 2], [5203, 5204, 5205]),
  (4, 70, 20, [0, 29, 2, 5], [5207, 5208, 5209]),
  (4, 74, 20, [0, 31, 3, 5], [5211, 5213, 43]),
  (4, 78, 0, [5, 7], [1215]),
  (5, 3, 30, [1, 2, 3], [1176]),
  (5, 9, 0, [6, 3], [1180]),
  (5, 9, 1, [6, 3], [1180]),
  (5, 15, 0, [6, 0], [1177]),
  (5, 15, 1, [6, 0], [1177]),
  (5, 19, 0, [6, 1], [1178]),
  (5, 19, 1, [6, 1], [1178]),
  (5, 23, 0, [6, 2], [1179]),
  (5, 23, 1, [6, 2], [1179]),
  (5, 27, 0, [2, 2], [1161]),
  (5, 33, 0, [6, 4], [1181]),
  (5, 33, 1, [6, 4], [1181]),
  (5, 37, 0, [6, 5], [1182]),
  (5, 37, 1, [6, 5], [1182]),
  (5, 40, 0, [6, 6], [1183]),
  (5, 43, 20, [0, 270, 1, 0], [4010, 2116, 2117]),
  (5, 48, 20, [0, 272, 2, 0], [4011, 2200, 2201]),
  (5, 52, 6, [11], [4012]),
  (5, 54, 20, [0, 90, 3, 11], [4013, 3095, 3096]),
  (5, 58, 0, [11, 1], [3010]),
  (5, 61, 21, [0, 275, 2, 999], [4018, 4019]),
  (5, 67, 20, [0, 50, 3, 7], [4021, 2104, 2105]),
  (5, 73, 20, [0, 48, 3, 7], [4022, 3117, 3118]),
  (5, 76, 20, [0, 49, 3, 7], [4023, 3124, 3125]),
  (5, 79, 0, [11, 5], [3018]),
  (5, 82, 0, [11, 6], [3020]),
  (5, 85, 20, [0, 39, 5, 6], [4024, 4026, 12]),
  (5, 89, 0, [2, 0], [1155]),
  (5, 92, 0, [2, 1], [1158]),
  (5, 95, 20, [0, 40, 2, 6], [4028, 4029, 4030]),
  (5, 99, 20, [0, 6, 2, 2], [4032, 3128, 3129]),
  (5, 102, 20, [0, 7, 2, 2], [4033, 3132, 3133]),
  (5, 105, 20, [0, 42, 2, 6], [4050, 4035, 4036]),
  (5, 108, 21, [0, 252, 1, 999], [4051, 4052]),
  (5, 113, 20, [0, 43, 3, 6], [4078, 4047, 4048]),
  (6, 3, 30, [1, 2, 3], [1040]),
  (6, 9, 0, [7, 0], [1044]),
  (6, 9, 1, [7, 0], [1044]),
  (6, 15, 0, [7, 1], [1045]),
  (6, 15, 1, [7, 1], [1045]),
  (6, 18, 0, [7, 2], [1046]),
  (6, 18, 1, [7, 2], [1046]),
  (6, 21, 21, [0, 254, 1, 999], [1041, 1042]),
  (6, 27, 21, [0, 136, 1, 999], [3120, 3121]),
  (6, 30, 0, [7, 3], [1047]),
  (7, 3, 30, [1, 2, 3], [5106]),
  (7, 9, 0, [8, 2], [5112]),
  (7, 9, 1, [8, 2], [5112]),
  (7, 15, 0, [8, 0], [5108]),
  (7, 15, 1, [8, 0], [5108]),
  (7, 19, 0, [8, 1], [5110]),
  (7, 19, 1, [8, 1], [5110]),
  (7, 22, 21, [0, 275, 2, 999], [5107, 4019]),
  (8, 3, 30, [1, 2, 3], [1090]),
  (8, 9, 0, [9, 0], [1091])]
def az_pool2 : List az_P := [
  (8, 9, 1, [9, 0], [1091]),
  (8, 15, 0, [9, 2], [1094]),
  (8, 15, 1, [9, 2], [1094]),
  (8, 18, 0, [9, 3], [1095]),
  (8, 18, 1, [9, 3], [1095]),
  (8, 21, 0, [9, 4], [1096]),
  (8, 21, 1, [9, 4], [1096]),
  (8, 24, 0, [9, 1], [1092]),
  (8, 28, 0, [9, 5], [1097]),
  (8, 31, 20, [0, 63, 2, 9], [4120, 4122, 16]),
  (8, 35, 21, [0, 65, 1, 999], [4124, 4125]),
  (8, 39, 20, [0, 67, 2, 9], [4127, 4129, 17]),
  (8, 42, 20, [0, 70, 3, 9], [4131, 4133, 18]),
  (8, 46, 21, [0, 66, 1, 999], [4212, 4213]),
  (8, 49, 20, [0, 68, 2, 9], [4215, 4217, 23]),
  (8, 52, 20, [0, 69, 3, 9], [4219, 4221, 24]),
  (8, 56, 20, [0, 64, 4, 9], [4208, 4210, 22]),
  (8, 60, 21, [0, 74, 1, 999], [4225, 4226]),
  (8, 63, 8, [0, 100001], [4223]),
  (8, 64, 21, [0, 257, 2, 999], [4224, 1149]),
  (8, 69, 20, [0, 71, 3, 9], [4135, 4137, 19]),
  (8, 72, 20, [0, 72, 3, 9], [4197, 4199, 21]),
  (8, 75, 10, [1, 1000010], []),
  (8, 77, 20, [0, 73, 4, 9], [4140, 4142, 20]),
  (8, 81, 10, [1, 1000011], []),
  (8, 83, 10, [1, 1000012], []),
  (8, 85, 10, [1, 1000013], []),
  (8, 87, 10, [1, 1000014], []),
  (8, 89, 10, [1, 1000015], []),
  (8, 91, 10, [1, 1000016], []),
  (8, 93, 10, [1, 1000017], []),
  (8, 95, 10, [1, 1000018], []),
  (8, 97, 10, [1, 1000019], []),
  (8, 99, 10, [1, 1000020], []),
  (8, 101, 10, [1, 1000021], []),
  (8, 103, 10, [1, 1000022], []),
  (8, 105, 10, [1, 1000023], []),
  (8, 106, 10, [1, 1000024], []),
  (8, 108, 20, [0, 259, 1, 113], [4144, 4145, 4146]),
  (8, 113, 20, [0, 260, 2, 113], [4154, 4155, 4156]),
  (9, 3, 30, [1, 2, 3], [1116]),
  (9, 9, 0, [10, 0], [1117]),
  (9, 9, 1, [10, 0], [1117]),
  (9, 15, 0, [10, 1], [1118]),
  (9, 15, 1, [10, 1], [1118]),
  (9, 18, 0, [10, 2], [1119]),
  (9, 18, 1, [10, 2], [1119]),
  (9, 21, 0, [10, 3], [1120]),
  (9, 21, 1, [10, 3], [1120]),
  (9, 24, 0, [10, 4], [1121]),
  (9, 24, 1, [10, 4], [1121]),
  (9, 28, 0, [10, 5], [1122]),
  (9, 32, 0, [10, 6], [1123]),
  (9, 35, 20, [0, 81, 4, 10], [5076, 5078, 37]),
  (9, 39, 21, [0, 255, 2, 999], [5080, 1152]),
  (9, 47, 21, [0, 82, 2, 999], [5081, 5082]),
  (9, 51, 21, [0, 83, 3, 999], [5084, 5085]),
  (9, 55, 21, [0, 84, 1, 999], [5087, 5088]),
  (9, 59, 21, [0, 258, 2, 999], [5092, 5093]),
  (9, 63, 21, [0, 256, 2, 999], [5095, 5096]),
  (9, 65, 11, [1000000000], [5090]),
  (9, 67, 11, [18446744072709551616], [5091]),
  (10, 3, 30, [1, 2, 3], [3006]),
  (10, 9, 0, [11, 7], [3022]),
  (10, 9, 1, [11, 7], [3022]),
  (10, 15, 0, [11, 8], [3023]),
  (10, 15, 1, [11, 8], [3023]),
  (10, 18, 0, [11, 9], [3024]),
  (10, 18, 1, [11, 9], [3024]),
  (10, 21, 0, [11, 11], [3027])]
def az_pool3 : List az_P := [
  (10, 25, 0, [11, 12], [3029]),
  (10, 28, 0, [11, 13], [3031]),
  (10, 31, 1, [11, 0], [3007]),
  (10, 34, 1, [11, 1], [3009]),
  (10, 37, 1, [11, 2], [3012]),
  (10, 40, 0, [11, 3], [3014]),
  (10, 40, 1, [11, 3], [3014]),
  (10, 43, 0, [11, 10], [3025]),
  (10, 46, 20, [0, 89, 1, 11], [3098, 2239, 3000]),
  (10, 50, 20, [0, 91, 3, 11], [3099, 3101, 8]),
  (10, 54, 20, [0, 92, 3, 11], [3103, 3105, 9]),
  (10, 57, 21, [0, 257, 2, 999], [3107, 1149]),
  (10, 62, 0, [11, 4], [3016]),
  (10, 65, 21, [0, 255, 2, 999], [3146, 1152]),
  (10, 68, 20, [0, 86, 4, 11], [3147, 3067, 3068]),
  (11, 1, 30, [1, 2, 3], [1032]),
  (11, 7, 5, [7], [1035, 1036, 1002]),
  (11, 9, 22, [0, 46, 1, 7], [1037, 1038]),
  (11, 10, 0, [12, 1], [2024]),
  (11, 10, 1, [12, 1], [2024]),
  (11, 16, 5, [0], [1059, 1060, 1006]),
  (11, 18, 22, [0, 267, 1, 0], [1061, 1062]),
  (11, 19, 0, [12, 2], [2025]),
  (11, 19, 1, [12, 2], [2025]),
  (11, 23, 0, [12, 3], [2026]),
  (11, 23, 1, [12, 3], [2026]),
  (11, 26, 0, [12, 4], [2027]),
  (11, 26, 1, [12, 4], [2027]),
  (11, 29, 0, [12, 5], [2028]),
  (11, 29, 1, [12, 5], [2028]),
  (11, 32, 5, [9], [1085, 1086, 1007]),
  (11, 34, 22, [0, 57, 1, 9], [1087, 1088]),
  (11, 35, 0, [12, 7], [2030]),
  (11, 35, 1, [12, 7], [2030]),
  (11, 39, 0, [12, 10], [2033]),
  (11, 39, 1, [12, 10], [2033]),
  (11, 43, 0, [12, 11], [2034]),
  (11, 43, 1, [12, 11], [2034]),
  (11, 46, 5, [10], [1111, 1112, 1008]),
  (11, 48, 22, [0, 75, 1, 10], [1113, 1114]),
  (11, 49, 0, [12, 13], [2036]),
  (11, 53, 0, [12, 14], [2037]),
  (11, 56, 0, [12, 16], [2039]),
  (11, 60, 0, [12, 17], [2040]),
  (11, 63, 5, [2], [1142, 1143, 1009]),
  (11, 65, 22, [0, 4, 3, 2], [1144, 1145]),
  (11, 68, 0, [12, 0], [2023]),
  (11, 68, 1, [12, 0], [2023]),
  (11, 72, 5, [6], [1171, 1172, 1010]),
  (11, 74, 22, [0, 36, 4, 6], [1173, 1174]),
  (11, 77, 0, [12, 6], [2029]),
  (11, 77, 1, [12, 6], [2029]),
  (11, 81, 5, [5], [1201, 1202, 1011]),
  (11, 83, 22, [0, 26, 2, 5], [1203, 1204]),
  (11, 86, 0, [12, 9], [2032]),
  (11, 86, 1, [12, 9], [2032]),
  (11, 90, 5, [3], [1236, 1237, 1012]),
  (11, 92, 22, [0, 10, 3, 3], [1238, 1239]),
  (11, 95, 0, [12, 8], [2031]),
  (11, 95, 1, [12, 8], [2031]),
  (11, 99, 0, [2, 2], [1163]),
  (11, 102, 0, [12, 12], [2035]),
  (11, 102, 1, [12, 12], [2035]),
  (11, 105, 0, [12, 15], [2038]),
  (11, 108, 21, [0, 132, 1, 999], [2086, 2087]),
  (11, 112, 21, [0, 134, 2, 999], [2089, 2090]),
  (11, 116, 20, [0, 47, 5, 7], [2092, 2093, 2094]),
  (11, 120, 21, [0, 130, 1, 999], [2100, 2101]),
  (11, 123, 20, [0, 50, 3, 7], [2103, 2104, 2105]),
  (11, 126, 20, [0, 51, 3, 7], [2107, 2108, 2109])]
def az_pool4 : List az_P := [
  (11, 130, 20, [0, 270, 1, 0], [2115, 2116, 2117]),
  (11, 133, 5, [4], [2119, 2120, 1014]),
  (11, 133, 6, [4], [2119]),
  (11, 135, 22, [0, 24, 1, 4], [2121, 2122]),
  (11, 136, 20, [0, 274, 2, 0], [2134, 2135, 2136]),
  (11, 140, 20, [0, 138, 2, 12], [2195, 2197, 3]),
  (11, 143, 20, [0, 272, 2, 0], [2199, 2200, 2201]),
  (11, 147, 0, [4, 0], [2126]),
  (11, 150, 0, [4, 1], [2128]),
  (11, 153, 20, [0, 141, 4, 12], [2217, 2219, 4]),
  (11, 157, 5, [11], [2237, 3002, 1020]),
  (11, 157, 6, [11], [2237]),
  (11, 159, 22, [0, 85, 5, 11], [3003, 3004]),
  (11, 161, 20, [0, 143, 3, 12], [3062, 3064, 6]),
  (11, 165, 0, [11, 4], [3017]),
  (11, 168, 0, [11, 5], [3019]),
  (11, 171, 0, [11, 6], [3021]),
  (11, 174, 20, [0, 139, 2, 12], [3082, 3084, 7]),
  (11, 177, 21, [0, 133, 1, 999], [2225, 2226]),
  (11, 180, 0, [11, 3], [3015]),
  (11, 183, 20, [0, 89, 1, 11], [2238, 2239, 3000]),
  (11, 187, 0, [11, 10], [3026]),
  (11, 190, 20, [0, 86, 4, 11], [3066, 3067, 3068]),
  (11, 194, 0, [11, 11], [3028]),
  (11, 197, 0, [11, 12], [3030]),
  (11, 200, 20, [0, 90, 3, 11], [3094, 3095, 3096]),
  (11, 203, 20, [0, 5, 2, 2], [2221, 2222, 2223]),
  (11, 206, 0, [11, 13], [3032]),
  (11, 209, 20, [0, 145, 5, 12], [3112, 3114, 10]),
  (11, 213, 20, [0, 93, 3, 11], [3142, 3143, 3144]),
  (11, 216, 0, [11, 0], [3008]),
  (11, 219, 0, [11, 1], [3011]),
  (11, 222, 0, [11, 2], [3013]),
  (11, 225, 20, [0, 88, 3, 11], [3156, 3157, 3158]),
  (11, 228, 21, [0, 135, 1, 999], [3164, 3165]),
  (11, 231, 21, [0, 131, 2, 999], [3167, 3168]),
  (11, 234, 5, [1], [3170, 3171, 1021]),
  (11, 234, 6, [1], [3170]),
  (11, 236, 22, [0, 0, 7, 1], [3172, 3173]),
  (11, 239, 20, [0, 1, 5, 1], [3217, 3218, 3219]),
  (11, 242, 20, [0, 146, 4, 12], [3225, 3227, 11]),
  (11, 245, 20, [0, 37, 3, 6], [4006, 4007, 4008]),
  (11, 248, 20, [0, 38, 2, 6], [4014, 4015, 4016]),
  (11, 252, 20, [0, 42, 2, 6], [4034, 4035, 4036]),
  (11, 256, 20, [0, 147, 5, 12], [4042, 4044, 13]),
  (11, 260, 20, [0, 43, 3, 6], [4046, 4047, 4048]),
  (11, 263, 20, [0, 45, 2, 6], [4061, 4062, 4063]),
  (11, 266, 11, [18446744073709551615], [4069]),
  (11, 268, 20, [0, 148, 4, 12], [4070, 4072, 14]),
  (11, 272, 20, [0, 149, 3, 12], [4083, 4085, 15]),
  (11, 276, 20, [0, 87, 1, 11], [4088, 4089, 4090]),
  (11, 279, 0, [9, 1], [1093]),
  (11, 282, 20, [0, 58, 2, 9], [4096, 4097, 4098]),
  (11, 285, 20, [0, 11, 2, 3], [4108, 4109, 4110]),
  (11, 289, 0, [3, 4], [2007]),
  (11, 290, 0, [3, 5], [2009]),
  (11, 291, 0, [10, 6], [1125]),
  (11, 294, 8, [0, 1000000], [5070]),
  (11, 295, 8, [0, 2294967296], [5071]),
  (11, 296, 20, [0, 80, 2, 10], [5072, 5073, 5074]),
  (11, 300, 5, [8], [2228, 5102, 1026]),
  (11, 300, 6, [8], [2228]),
  (11, 302, 22, [0, 52, 3, 8], [5103, 5104]),
  (11, 303, 20, [0, 140, 2, 12], [5124, 5126, 38]),
  (11, 306, 20, [0, 151, 4, 12], [5128, 5130, 39]),
  (11, 309, 20, [0, 54, 3, 8], [5136, 5137, 5138]),
  (11, 312, 20, [0, 55, 2, 8], [5132, 5133, 5134]),
  (11, 315, 20, [0, 53, 2, 8], [5148, 5149, 5150]),
  (11, 318, 11, [18446744072709551616], [5152]),
  (11, 320, 20, [0, 150, 5, 12], [5153, 5155, 40])]
def az_pool5 : List az_P := [
  (11, 324, 20, [0, 27, 2, 5], [5165, 5166, 5167]),
  (11, 327, 20, [0, 28, 1, 5], [5170, 5171, 5172]),
  (11, 330, 20, [0, 152, 5, 12], [5174, 5176, 41]),
  (11, 334, 20, [0, 33, 4, 5], [5220, 5221, 5222]),
  (11, 338, 20, [0, 34, 1, 5], [5228, 5229, 5230]),
  (11, 342, 20, [0, 35, 2, 5], [5232, 5233, 5234]),
  (11, 345, 20, [0, 154, 3, 12], [6000, 6002, 44]),
  (11, 348, 0, [2, 0], [1156]),
  (11, 351, 0, [2, 1], [1159]),
  (11, 354, 0, [7, 3], [1048]),
  (11, 357, 20, [0, 144, 1, 12], [6025, 6027, 48]),
  (11, 360, 21, [0, 253, 2, 999], [3138, 3139]),
  (11, 365, 0, [8, 1], [5111]),
  (11, 368, 20, [0, 56, 2, 8], [2229, 2230, 2231]),
  (11, 371, 20, [0, 142, 2, 12], [2233, 2235, 5]),
  (11, 374, 20, [0, 48, 3, 7], [3116, 3117, 3118]),
  (11, 377, 20, [0, 49, 3, 7], [3123, 3124, 3125]),
  (11, 380, 20, [0, 6, 2, 2], [3127, 3128, 3129]),
  (11, 383, 20, [0, 7, 2, 2], [3131, 3132, 3133]),
  (11, 386, 21, [0, 137, 2, 999], [3135, 3136]),
  (11, 389, 21, [0, 254, 1, 999], [3141, 1042]),
  (11, 392, 0, [1, 3], [3182]),
  (11, 395, 0, [1, 0], [3177]),
  (11, 398, 0, [1, 5], [3185]),
  (11, 401, 20, [0, 2, 3, 1], [3229, 3230, 3231]),
  (11, 404, 20, [0, 3, 3, 1], [3234, 3235, 3236]),
  (11, 407, 0, [1, 2], [3180]),
  (11, 410, 20, [0, 44, 2, 6], [4074, 4075, 4076]),
  (11, 414, 11, [30], [4087]),
  (11, 416, 0, [6, 6], [1184]),
  (11, 419, 21, [0, 136, 1, 999], [5157, 3121]),
  (11, 422, 21, [0, 252, 1, 999], [5158, 4052]),
  (11, 427, 20, [0, 40, 2, 6], [5159, 4029, 4030]),
  (11, 430, 21, [0, 255, 2, 999], [5160, 1152]),
  (11, 433, 0, [8, 0], [5109]),
  (11, 434, 20, [0, 9, 3, 2], [5178, 5179, 5180]),
  (11, 437, 20, [0, 153, 3, 12], [5185, 5187, 42]),
  (11, 440, 20, [0, 30, 2, 5], [5193, 5194, 5195]),
  (11, 443, 20, [0, 29, 2, 5], [5215, 5208, 5209]),
  (11, 446, 20, [0, 32, 6, 5], [5216, 5217, 5218]),
  (11, 450, 20, [0, 41, 2, 6], [5189, 5190, 5191]),
  (11, 453, 20, [0, 155, 3, 12], [6004, 6006, 45]),
  (11, 456, 20, [0, 156, 3, 12], [6008, 6010, 46]),
  (11, 459, 20, [0, 157, 4, 12], [6012, 6014, 47]),
  (11, 462, 20, [0, 8, 3, 2], [6016, 5204, 5205]),
  (12, 1, 30, [1, 2, 3], [6037]),
  (12, 7, 0, [13, 4], [6042]),
  (12, 7, 1, [13, 4], [6042]),
  (12, 13, 0, [13, 5], [6043]),
  (12, 13, 1, [13, 5], [6043]),
  (12, 16, 0, [13, 7], [6045]),
  (12, 16, 1, [13, 7], [6045]),
  (12, 19, 0, [13, 8], [6046]),
  (12, 19, 1, [13, 8], [6046]),
  (12, 22, 0, [13, 10], [6048]),
  (12, 22, 1, [13, 10], [6048]),
  (12, 25, 0, [13, 11], [6049]),
  (12, 25, 1, [13, 11], [6049]),
  (12, 28, 0, [13, 13], [6051]),
  (12, 28, 1, [13, 13], [6051]),
  (12, 31, 0, [13, 14], [6052]),
  (12, 31, 1, [13, 14], [6052]),
  (12, 34, 0, [13, 15], [6053]),
  (12, 34, 1, [13, 15], [6053]),
  (12, 37, 0, [13, 16], [6054]),
  (12, 37, 1, [13, 16], [6054]),
  (12, 40, 0, [13, 17], [6055]),
  (12, 40, 1, [13, 17], [6055]),
  (12, 43, 0, [13, 18], [6056]),
  (12, 43, 1, [13, 18], [6056])]
def az_pool6 : List az_P := [
  (12, 46, 0, [13, 19], [6057]),
  (12, 46, 1, [13, 19], [6057]),
  (12, 49, 0, [13, 20], [6058]),
  (12, 49, 1, [13, 20], [6058]),
  (12, 52, 0, [13, 21], [6059]),
  (12, 52, 1, [13, 21], [6059]),
  (12, 55, 0, [13, 22], [6060]),
  (12, 55, 1, [13, 22], [6060]),
  (12, 58, 0, [13, 23], [6061]),
  (12, 58, 1, [13, 23], [6061]),
  (12, 61, 0, [13, 24], [6062]),
  (12, 61, 1, [13, 24], [6062]),
  (12, 64, 0, [13, 25], [6063]),
  (12, 64, 1, [13, 25], [6063]),
  (12, 67, 0, [13, 26], [6064]),
  (12, 67, 1, [13, 26], [6064]),
  (12, 70, 0, [13, 28], [6066]),
  (12, 70, 1, [13, 28], [6066]),
  (12, 73, 0, [13, 29], [6067]),
  (12, 73, 1, [13, 29], [6067]),
  (12, 76, 0, [13, 30], [6068]),
  (12, 76, 1, [13, 30], [6068]),
  (12, 79, 0, [13, 31], [6069]),
  (12, 79, 1, [13, 31], [6069]),
  (12, 82, 0, [13, 32], [6070]),
  (12, 82, 1, [13, 32], [6070]),
  (12, 85, 0, [13, 33], [6071]),
  (12, 85, 1, [13, 33], [6071]),
  (12, 88, 0, [13, 34], [6072]),
  (12, 88, 1, [13, 34], [6072]),
  (12, 91, 0, [13, 35], [6073]),
  (12, 91, 1, [13, 35], [6073]),
  (12, 94, 0, [13, 36], [6074]),
  (12, 94, 1, [13, 36], [6074]),
  (12, 97, 0, [13, 37], [6075]),
  (12, 97, 1, [13, 37], [6075]),
  (12, 100, 0, [13, 38], [6076]),
  (12, 100, 1, [13, 38], [6076]),
  (12, 103, 0, [13, 39], [6077]),
  (12, 103, 1, [13, 39], [6077]),
  (12, 107, 0, [13, 48], [6086]),
  (12, 111, 0, [13, 49], [6087]),
  (12, 114, 0, [13, 52], [6090]),
  (12, 114, 1, [13, 52], [6090]),
  (12, 117, 0, [13, 53], [6091]),
  (12, 117, 1, [13, 53], [6091]),
  (12, 120, 0, [13, 56], [6094]),
  (12, 120, 1, [13, 56], [6094]),
  (12, 123, 0, [13, 57], [6095]),
  (12, 123, 1, [13, 57], [6095]),
  (12, 126, 0, [13, 59], [6097]),
  (12, 126, 1, [13, 59], [6097]),
  (12, 129, 0, [13, 61], [6099]),
  (12, 129, 1, [13, 61], [6099]),
  (12, 132, 0, [13, 62], [6100]),
  (12, 132, 1, [13, 62], [6100]),
  (12, 135, 0, [13, 64], [6102]),
  (12, 135, 1, [13, 64], [6102]),
  (12, 139, 0, [13, 65], [6103]),
  (12, 139, 1, [13, 65], [6103]),
  (12, 142, 0, [13, 67], [6105]),
  (12, 142, 1, [13, 67], [6105]),
  (12, 145, 0, [13, 68], [6106]),
  (12, 145, 1, [13, 68], [6106]),
  (12, 148, 0, [13, 69], [6107]),
  (12, 148, 1, [13, 69], [6107]),
  (12, 151, 0, [13, 70], [6108]),
  (12, 151, 1, [13, 70], [6108]),
  (12, 154, 0, [13, 71], [6109]),
  (12, 154, 1, [13, 71], [6109])]
def az_pool7 : List az_P := [
  (12, 158, 0, [13, 72], [6110]),
  (12, 158, 1, [13, 72], [6110]),
  (12, 161, 0, [13, 73], [6111]),
  (12, 161, 1, [13, 73], [6111]),
  (12, 164, 0, [13, 74], [6112]),
  (12, 164, 1, [13, 74], [6112]),
  (12, 167, 0, [13, 75], [6113]),
  (12, 167, 1, [13, 75], [6113]),
  (12, 170, 0, [13, 76], [6114]),
  (12, 170, 1, [13, 76], [6114]),
  (12, 173, 0, [13, 77], [6115]),
  (12, 173, 1, [13, 77], [6115]),
  (12, 176, 0, [13, 79], [6117]),
  (12, 176, 1, [13, 79], [6117]),
  (12, 179, 0, [13, 80], [6118]),
  (12, 179, 1, [13, 80], [6118]),
  (12, 182, 0, [13, 81], [6119]),
  (12, 182, 1, [13, 81], [6119]),
  (12, 185, 0, [13, 82], [6120]),
  (12, 185, 1, [13, 82], [6120]),
  (12, 188, 0, [13, 83], [6121]),
  (12, 188, 1, [13, 83], [6121]),
  (12, 191, 0, [13, 84], [6122]),
  (12, 191, 1, [13, 84], [6122]),
  (12, 194, 0, [13, 87], [6125]),
  (12, 194, 1, [13, 87], [6125]),
  (12, 197, 0, [13, 89], [6127]),
  (12, 197, 1, [13, 89], [6127]),
  (12, 200, 0, [13, 0], [6038]),
  (12, 200, 1, [13, 0], [6038]),
  (12, 203, 0, [13, 1], [6039]),
  (12, 203, 1, [13, 1], [6039]),
  (12, 206, 0, [13, 2], [6040]),
  (12, 206, 1, [13, 2], [6040]),
  (12, 209, 11, [3599], [7094]),
  (12, 211, 21, [0, 159, 3, 999], [7074, 7075]),
  (12, 215, 11, [11], [7081]),
  (12, 217, 0, [13, 9], [6047]),
  (12, 220, 0, [13, 12], [6050]),
  (12, 223, 11, [400], [7073]),
  (12, 225, 0, [13, 3], [6041]),
  (12, 228, 21, [0, 161, 1, 999], [7082, 7083]),
  (12, 232, 11, [18446744073709551316], [7085]),
  (12, 234, 11, [300], [7086]),
  (12, 236, 0, [13, 6], [6044]),
  (12, 239, 21, [0, 160, 1, 999], [7091, 7092]),
  (12, 242, 20, [0, 168, 3, 13], [7095, 7097, 49]),
  (12, 246, 20, [0, 163, 2, 13], [7107, 7109, 50]),
  (12, 249, 20, [0, 162, 2, 13], [7119, 7121, 52]),
  (12, 252, 11, [60], [7123]),
  (12, 254, 0, [13, 66], [6104]),
  (12, 257, 20, [0, 174, 4, 13], [7128, 7130, 54]),
  (12, 261, 20, [0, 172, 4, 13], [7115, 7117, 51]),
  (12, 265, 20, [0, 173, 5, 13], [7124, 7126, 53]),
  (12, 269, 11, [999], [7136]),
  (12, 271, 11, [18446744073709551566], [7141]),
  (12, 273, 11, [50], [7142]),
  (12, 275, 20, [0, 164, 2, 13], [7147, 7149, 55]),
  (12, 278, 20, [0, 180, 4, 13], [7163, 7165, 57]),
  (12, 282, 20, [0, 181, 4, 13], [7159, 7161, 56]),
  (12, 285, 21, [0, 165, 1, 999], [7187, 7188]),
  (12, 289, 21, [0, 184, 1, 999], [7190, 7191]),
  (12, 292, 20, [0, 185, 7, 13], [7183, 7185, 61]),
  (12, 296, 20, [0, 186, 7, 13], [7179, 7181, 60]),
  (12, 300, 20, [0, 188, 4, 13], [7171, 7173, 58]),
  (12, 303, 20, [0, 187, 4, 13], [7175, 7177, 59]),
  (12, 306, 11, [255], [7201]),
  (12, 308, 11, [2], [7202]),
  (12, 310, 0, [13, 27], [6065]),
  (12, 313, 20, [0, 192, 5, 13], [7211, 7213, 63])]
def az_pool8 : List az_P := [
  (12, 317, 20, [0, 193, 5, 13], [7207, 7209, 62]),
  (12, 320, 20, [0, 195, 4, 13], [7219, 7221, 64]),
  (12, 323, 20, [0, 196, 3, 13], [7223, 7225, 65]),
  (12, 327, 11, [18446744073709551615], [7231]),
  (12, 329, 20, [0, 198, 4, 13], [7232, 7234, 66]),
  (12, 333, 11, [3269], [8000]),
  (12, 335, 11, [30], [8001]),
  (12, 337, 21, [0, 202, 2, 999], [8006, 8007]),
  (12, 340, 0, [13, 40], [6078]),
  (12, 343, 20, [0, 205, 2, 13], [8021, 8023, 67]),
  (12, 347, 11, [97], [8040]),
  (12, 349, 11, [122], [8041]),
  (12, 351, 11, [65], [8042]),
  (12, 353, 11, [90], [8043]),
  (12, 355, 11, [14584174], [8048]),
  (12, 357, 11, [10395045], [8049]),
  (12, 359, 11, [3058], [8050]),
  (12, 361, 11, [138148], [8051]),
  (12, 363, 11, [191476], [8052]),
  (12, 365, 11, [186990], [8053]),
  (12, 367, 11, [186488], [8054]),
  (12, 369, 11, [10681714], [8055]),
  (12, 371, 11, [767487272], [8056]),
  (12, 373, 11, [149625], [8057]),
  (12, 375, 11, [43581340212], [8058]),
  (12, 377, 11, [11934649], [8059]),
  (12, 379, 11, [11443108], [8060]),
  (12, 381, 11, [883071911], [8061]),
  (12, 383, 11, [869407532], [8062]),
  (12, 385, 0, [13, 42], [6080]),
  (12, 388, 0, [13, 41], [6079]),
  (12, 391, 0, [13, 43], [6081]),
  (12, 394, 0, [13, 44], [6082]),
  (12, 397, 21, [0, 208, 1, 999], [8037, 8038]),
  (12, 400, 11, [64], [8044]),
  (12, 402, 21, [0, 209, 1, 999], [8045, 8046]),
  (12, 406, 0, [13, 45], [6083]),
  (12, 409, 11, [48], [8063]),
  (12, 411, 11, [57], [8064]),
  (12, 413, 8, [0, 999999], [8065]),
  (12, 414, 21, [0, 211, 1, 999], [8066, 8067]),
  (12, 417, 11, [59], [8069]),
  (12, 419, 11, [62], [8070]),
  (12, 421, 0, [13, 46], [6084]),
  (12, 424, 0, [13, 47], [6085]),
  (12, 427, 0, [13, 50], [6088]),
  (12, 430, 0, [13, 58], [6096]),
  (12, 433, 0, [13, 63], [6101]),
  (12, 436, 20, [0, 214, 2, 13], [8083, 8085, 72]),
  (12, 439, 20, [0, 216, 2, 13], [8087, 8089, 73]),
  (12, 442, 20, [0, 210, 1, 13], [8033, 8035, 68]),
  (12, 445, 0, [13, 60], [6098]),
  (12, 448, 21, [0, 219, 1, 999], [8120, 8121]),
  (12, 451, 20, [0, 215, 3, 13], [8100, 8102, 76]),
  (12, 455, 20, [0, 220, 2, 13], [8123, 8125, 81]),
  (12, 458, 20, [0, 213, 2, 13], [8075, 8077, 70]),
  (12, 461, 20, [0, 218, 2, 13], [8079, 8081, 71]),
  (12, 464, 0, [13, 78], [6116]),
  (12, 467, 20, [0, 212, 2, 13], [8091, 8093, 74]),
  (12, 470, 8, [0, 100000], [8099]),
  (12, 471, 20, [0, 224, 1, 13], [8104, 8106, 77]),
  (12, 474, 20, [0, 217, 1, 13], [8108, 8110, 78]),
  (12, 478, 20, [0, 221, 2, 13], [8116, 8118, 80]),
  (12, 481, 21, [0, 226, 1, 999], [8127, 8128]),
  (12, 484, 20, [0, 225, 1, 13], [8130, 8132, 82]),
  (12, 487, 0, [13, 51], [6089]),
  (12, 490, 20, [0, 222, 1, 13], [8071, 8073, 69]),
  (12, 493, 20, [0, 223, 1, 13], [8095, 8097, 75]),
  (12, 496, 20, [0, 227, 1, 13], [8112, 8114, 79]),
  (12, 499, 20, [0, 228, 1, 13], [8134, 8136, 83])]
def az_pool9 : List az_P := [
  (12, 502, 20, [0, 229, 1, 13], [8138, 8140, 84]),
  (12, 505, 0, [13, 54], [6092]),
  (12, 508, 0, [13, 55], [6093]),
  (12, 511, 11, [1000000000], [8163]),
  (12, 513, 11, [18446744072709551616], [8164]),
  (12, 515, 21, [0, 232, 1, 999], [8160, 8161]),
  (12, 519, 21, [0, 233, 3, 999], [8157, 8158]),
  (12, 523, 11, [18446744073708551616], [8150]),
  (12, 525, 11, [1000000], [8151]),
  (12, 527, 8, [0, 2294967296], [8152]),
  (12, 528, 20, [0, 234, 1, 13], [8153, 8155, 85]),
  (12, 532, 20, [0, 183, 4, 13], [8177, 8179, 87]),
  (12, 535, 20, [0, 237, 4, 13], [8173, 8175, 86]),
  (12, 538, 20, [0, 240, 6, 13], [8189, 8191, 88]),
  (12, 542, 20, [0, 243, 3, 13], [8205, 8207, 91]),
  (12, 545, 20, [0, 242, 4, 13], [8197, 8199, 89]),
  (12, 548, 20, [0, 244, 3, 13], [8201, 8203, 90]),
  (12, 551, 0, [13, 85], [6123]),
  (12, 554, 0, [13, 86], [6124]),
  (12, 558, 20, [0, 247, 5, 13], [8221, 8223, 93]),
  (12, 561, 0, [13, 88], [6126]),
  (12, 564, 20, [0, 248, 3, 13], [8217, 8219, 92]),
  (13, 1, 22, [0, 266, 1, 0], [1064, 1065]),
  (13, 7, 7, [], [2190]),
  (13, 9, 0, [0, 1], [1073]),
  (13, 39, 4, [0, 2], [1071]),
  (13, 48, 0, [0, 2], [1074]),
  (13, 63, 0, [0, 0], [1076, 1077]),
  (13, 66, 21, [0, 276, 2, 999], [2158, 2159]),
  (13, 69, 20, [0, 268, 2, 0], [2146, 2148, 2]),
  (13, 73, 21, [0, 279, 3, 999], [2150, 2151]),
  (13, 79, 21, [0, 255, 2, 999], [2189, 1152]),
  (13, 118, 21, [0, 278, 2, 999], [2203, 2204]),
  (13, 123, 20, [0, 271, 2, 0], [2209, 2210, 2211]),
  (13, 129, 20, [0, 269, 1, 0], [2142, 2144, 1]),
  (13, 131, 20, [0, 273, 4, 0], [2138, 2140, 0]),
  (14, 1, 22, [0, 265, 1, 0], [1067, 1068]),
  (14, 7, 0, [0, 0], [1075]),
  (15, 1, 30, [1, 2, 3], [1070]),
  (16, 9, 3, [113, 0], [9016]),
  (16, 15, 3, [113, 1], [9017]),
  (16, 38, 4, [4, 0], [4152]),
  (16, 335, 20, [0, 261, 1, 113], [4148, 4149, 4150]),
  (16, 492, 20, [0, 262, 1, 113], [4158, 4159, 4160]),
  (16, 495, 21, [0, 264, 2, 999], [4162, 4163]),
  (16, 1053, 4, [3, 2], [4168]),
  (16, 1059, 21, [0, 280, 3, 999], [4170, 2207]),
  (17, 9, 21, [0, 263, 2, 999], [4165, 4166]),
  (20, 265, 8, [0, 1431655765], [4054]),
  (20, 266, 8, [0, 858993459], [4055]),
  (20, 267, 8, [0, 252645135], [4056]),
  (21, 2, 7, [], [2184]),
  (21, 86, 31, [1, 2, 4], [2161]),
  (21, 110, 9, [1, 1000005], [2182]),
  (21, 150, 32, [1, 2, 5], [2186]),
  (21, 300, 21, [0, 277, 3, 999], [2179, 2180]),
  (21, 304, 21, [0, 257, 2, 999], [2185, 1149]),
  (22, 194, 21, [0, 255, 2, 999], [2153, 1152]),
  (22, 200, 8, [0, 2147483639], [2154]),
  (24, 105, 21, [0, 280, 3, 999], [2206, 2207]),
  (25, 7, 5, [12], [1027, 1028, 1001]),
  (25, 9, 21, [0, 281, 2, 999], [6029, 6030]),
  (25, 15, 22, [0, 94, 3, 12], [1029, 1030]),
  (25, 18, 5, [13], [6032, 6033, 1013]),
  (25, 20, 22, [0, 158, 3, 13], [6034, 6035]),
  (25, 21, 20, [0, 95, 2, 12], [2078, 2079, 2080]),
  (25, 25, 20, [0, 166, 2, 13], [7069, 7070, 7071]),
  (25, 26, 20, [0, 96, 5, 12], [2082, 2083, 2084]),
  (25, 30, 20, [0, 167, 5, 13], [7077, 7078, 7079]),
  (25, 31, 20, [0, 97, 3, 12], [2096, 2097, 2098])]
def az_pool10 : List az_P := [
  (25, 35, 20, [0, 169, 3, 13], [7087, 7088, 7089]),
  (25, 36, 20, [0, 98, 1, 12], [2111, 2112, 2113]),
  (25, 40, 20, [0, 170, 1, 13], [7099, 7100, 7101]),
  (25, 41, 20, [0, 99, 3, 12], [2191, 2192, 2193]),
  (25, 45, 20, [0, 171, 3, 13], [7103, 7104, 7105]),
  (25, 46, 20, [0, 100, 4, 12], [2213, 2214, 2215]),
  (25, 50, 20, [0, 175, 4, 13], [7111, 7112, 7113]),
  (25, 51, 20, [0, 101, 5, 12], [3070, 3071, 3072]),
  (25, 55, 20, [0, 176, 5, 13], [7132, 7133, 7134]),
  (25, 56, 20, [0, 102, 6, 12], [3074, 3075, 3076]),
  (25, 60, 20, [0, 177, 6, 13], [7137, 7138, 7139]),
  (25, 61, 20, [0, 103, 4, 12], [3078, 3079, 3080]),
  (25, 64, 20, [0, 178, 4, 13], [7143, 7144, 7145]),
  (25, 65, 20, [0, 104, 3, 12], [3086, 3087, 3088]),
  (25, 68, 20, [0, 179, 3, 13], [7151, 7152, 7153]),
  (25, 69, 20, [0, 105, 4, 12], [3090, 3091, 3092]),
  (25, 72, 20, [0, 182, 4, 13], [7155, 7156, 7157]),
  (25, 73, 20, [0, 106, 4, 12], [3108, 3109, 3110]),
  (25, 76, 20, [0, 201, 4, 13], [8002, 8003, 8004]),
  (25, 77, 20, [0, 107, 3, 12], [3148, 3149, 3150]),
  (25, 80, 20, [0, 203, 3, 13], [8009, 8010, 8011]),
  (25, 81, 20, [0, 108, 4, 12], [3152, 3153, 3154]),
  (25, 84, 20, [0, 204, 4, 13], [8013, 8014, 8015]),
  (25, 85, 20, [0, 109, 9, 12], [3160, 3161, 3162]),
  (25, 89, 20, [0, 191, 9, 13], [7197, 7198, 7199]),
  (25, 90, 20, [0, 110, 5, 12], [3221, 3222, 3223]),
  (25, 93, 20, [0, 194, 5, 13], [7203, 7204, 7205]),
  (25, 94, 20, [0, 111, 5, 12], [4002, 4003, 4004]),
  (25, 97, 20, [0, 189, 5, 13], [7167, 7168, 7169]),
  (25, 98, 20, [0, 112, 6, 12], [4038, 4039, 4040]),
  (25, 101, 20, [0, 197, 6, 13], [7215, 7216, 7217]),
  (25, 102, 20, [0, 113, 5, 12], [4057, 4058, 4059]),
  (25, 105, 20, [0, 190, 5, 13], [7193, 7194, 7195]),
  (25, 106, 20, [0, 114, 5, 12], [4065, 4066, 4067]),
  (25, 110, 20, [0, 199, 5, 13], [7227, 7228, 7229]),
  (25, 111, 20, [0, 115, 5, 12], [4079, 4080, 4081]),
  (25, 114, 20, [0, 200, 5, 13], [7236, 7237, 7238]),
  (25, 115, 20, [0, 116, 6, 12], [4092, 4093, 4094]),
  (25, 118, 20, [0, 206, 6, 13], [8017, 8018, 8019]),
  (25, 119, 20, [0, 117, 2, 12], [4100, 4101, 4102]),
  (25, 122, 20, [0, 207, 2, 13], [8025, 8026, 8027]),
  (25, 123, 20, [0, 118, 1, 12], [4104, 4105, 4106]),
  (25, 126, 20, [0, 230, 1, 13], [8029, 8030, 8031]),
  (25, 127, 20, [0, 119, 2, 12], [5062, 5063, 5064]),
  (25, 130, 20, [0, 231, 2, 13], [8142, 8143, 8144]),
  (25, 131, 20, [0, 120, 7, 12], [5066, 5067, 5068]),
  (25, 135, 20, [0, 235, 7, 13], [8146, 8147, 8148]),
  (25, 136, 20, [0, 121, 4, 12], [5098, 5099, 5100]),
  (25, 139, 20, [0, 236, 4, 13], [8165, 8166, 8167]),
  (25, 140, 20, [0, 122, 4, 12], [5120, 5121, 5122]),
  (25, 144, 20, [0, 238, 4, 13], [8169, 8170, 8171]),
  (25, 145, 20, [0, 123, 3, 12], [5140, 5141, 5142]),
  (25, 148, 20, [0, 239, 3, 13], [8181, 8182, 8183]),
  (25, 149, 20, [0, 124, 4, 12], [5144, 5145, 5146]),
  (25, 153, 20, [0, 241, 4, 13], [8185, 8186, 8187]),
  (25, 154, 20, [0, 125, 6, 12], [5161, 5162, 5163]),
  (25, 157, 20, [0, 245, 6, 13], [8193, 8194, 8195]),
  (25, 158, 20, [0, 126, 2, 12], [5224, 5225, 5226]),
  (25, 162, 20, [0, 246, 2, 13], [8209, 8210, 8211]),
  (25, 163, 20, [0, 127, 3, 12], [5236, 5237, 5238]),
  (25, 166, 20, [0, 249, 3, 13], [8213, 8214, 8215]),
  (25, 167, 20, [0, 128, 3, 12], [6017, 6018, 6019]),
  (25, 170, 20, [0, 250, 3, 13], [8225, 8226, 8227]),
  (25, 171, 20, [0, 129, 2, 12], [6021, 6022, 6023]),
  (25, 174, 20, [0, 251, 2, 13], [8229, 8230, 8231])]
def az_pool : List az_P := az_pool0 ++ (az_pool1 ++ (az_pool2 ++ (az_pool3 ++ (az_pool4 ++ (az_pool5 ++ (az_pool6 ++ (az_pool7 ++ (az_pool8 ++ (az_pool9 ++ (az_pool10))))))))))
end
section
set_option maxRecDepth 20000 in
theorem az_pool0_ok : az_pool0.all (az_pb az_ms) = true := by decide +kernel
end
section
set_option maxRecDepth 20000 in
theorem az_pool1_ok : az_pool1.all (az_pb az_ms) = true := by decide +kernel
end
section
set_option maxRecDepth 20000 in
theorem az_pool2_ok : az_pool2.all (az_pb az_ms) = true := by decide +kernel
end
section
set_option maxRecDepth 20000 in
theorem az_pool3_ok : az_pool3.all (az_pb az_ms) = true := by decide +kernel
end
section
set_option maxRecDepth 20000 in
theorem az_pool4_ok : az_pool4.all (az_pb az_ms) = true := by decide +kernel
end
section
set_option maxRecDepth 20000 in
theorem az_pool5_ok : az_pool5.all (az_pb az_ms) = true := by decide +kernel
end
section
set_option maxRecDepth 20000 in
theorem az_pool6_ok : az_pool6.all (az_pb az_ms) = true := by decide +kernel
end
section
set_option maxRecDepth 20000 in
theorem az_pool7_ok : az_pool7.all (az_pb az_ms) = true := by decide +kernel
end
section
set_option maxRecDepth 20000 in
theorem az_pool8_ok : az_pool8.all (az_pb az_ms) = true := by decide +kernel
end
section
set_option maxRecDepth 20000 in
theorem az_pool9_ok : az_pool9.all (az_pb az_ms) = true := by decide +kernel
end
section
set_option maxRecDepth 20000 in
theorem az_pool10_ok : az_pool10.all (az_pb az_ms) = true := by decide +kernel
end
section
theorem az_pool_ok : ∀ e ∈ az_pool, az_pb az_ms e = true := by
  intro e he
  unfold az_pool at he
  simp only [List.mem_append] at he
  rcases he with h | h | h | h | h | h | h | h | h | h | h
  · exact List.all_eq_true.mp az_pool0_ok e h
  · exact List.all_eq_true.mp az_pool1_ok e h
  · exact List.all_eq_true.mp az_pool2_ok e h
  · exact List.all_eq_true.mp az_pool3_ok e h
  · exact List.all_eq_true.mp az_pool4_ok e h
  · exact List.all_eq_true.mp az_pool5_ok e h
  · exact List.all_eq_true.mp az_pool6_ok e h
  · exact List.all_eq_true.mp az_pool7_ok e h
  · exact List.all_eq_true.mp az_pool8_ok e h
  · exact List.all_eq_true.mp az_pool9_ok e h
  · exact List.all_eq_true.mp az_pool10_ok e h
theorem az_cIn {k j : Nat} {y : MethodName} {b : ByteArray} {n : Nat} {r : Option FieldType} (h : (az_tk1 k)[j]? = some (.code y b n r)) : Cond.code y b n r ∈ az_G := List.mem_filter.mpr ⟨az_tk1_in (List.mem_of_getElem? h), rfl⟩
def az_mb (M : az_M) (c : Nat) : Bool := az_is c (.initialized M.1.cls) && (decide (M.1.cls ≠ "java/lang/invoke/MethodHandle") && (decide (M.1.cls ≠ "java/lang/invoke/VarHandle") && (decide (M.2.2.1 ≤ 60) && plainFor M.1)))
def az_mP (M : az_M) : Prop := Cond.code M.1 M.2.1 M.2.2.1 M.2.2.2 ∈ az_G ∧ ∃ c, az_mb M c = true
end
section
set_option maxRecDepth 20000 in
theorem az_mb0 : az_mP (yX0_init, cX0_init, 7, none) := ⟨az_cIn (k := 3) (j := 174) rfl, 1021, by decide +kernel⟩
set_option maxRecDepth 20000 in
theorem az_mb1 : az_mP (yX0_limit, cX0_limit, 5, none) := ⟨az_cIn (k := 3) (j := 220) rfl, 1021, by decide +kernel⟩
set_option maxRecDepth 20000 in
theorem az_mb2 : az_mP (yX0_covers, cX0_covers, 4, (some .boolean)) := ⟨az_cIn (k := 3) (j := 232) rfl, 1021, by decide +kernel⟩
set_option maxRecDepth 20000 in
theorem az_mb3 : az_mP (yX0_holdsOn, cX0_holdsOn, 3, (some .boolean)) := ⟨az_cIn (k := 3) (j := 237) rfl, 1021, by decide +kernel⟩
set_option maxRecDepth 20000 in
theorem az_mb4 : az_mP (yX1_init, cX1_init, 3, none) := ⟨az_cIn (k := 1) (j := 146) rfl, 1009, by decide +kernel⟩
set_option maxRecDepth 20000 in
theorem az_mb5 : az_mP (yX1_has, cX1_has, 2, (some .boolean)) := ⟨az_cIn (k := 2) (j := 224) rfl, 1009, by decide +kernel⟩
set_option maxRecDepth 20000 in
theorem az_mb6 : az_mP (yX1_columnOf, cX1_columnOf, 2, (some .int)) := ⟨az_cIn (k := 3) (j := 130) rfl, 1009, by decide +kernel⟩
set_option maxRecDepth 20000 in
theorem az_mb7 : az_mP (yX1_rowOf, cX1_rowOf, 2, (some .int)) := ⟨az_cIn (k := 3) (j := 134) rfl, 1009, by decide +kernel⟩
set_option maxRecDepth 20000 in
theorem az_mb8 : az_mP (yX1_cellAt, cX1_cellAt, 3, (some .int)) := ⟨az_cIn (k := 5) (j := 206) rfl, 1009, by decide +kernel⟩
set_option maxRecDepth 20000 in
theorem az_mb9 : az_mP (yX1_stepsBetween, cX1_stepsBetween, 3, (some .int)) := ⟨az_cIn (k := 5) (j := 181) rfl, 1009, by decide +kernel⟩
set_option maxRecDepth 20000 in
theorem az_mb10 : az_mP (yX2_init, cX2_init, 3, none) := ⟨az_cIn (k := 2) (j := 0) rfl, 1012, by decide +kernel⟩
set_option maxRecDepth 20000 in
theorem az_mb11 : az_mP (yX2_parseInto, cX2_parseInto, 3, (some .boolean)) := ⟨az_cIn (k := 4) (j := 111) rfl, 1012, by decide +kernel⟩
set_option maxRecDepth 20000 in
theorem az_mb12 : az_mP (yX2_fail, cX2_fail, 2, none) := ⟨az_cIn (k := 4) (j := 239) rfl, 1012, by decide +kernel⟩
set_option maxRecDepth 20000 in
theorem az_mb13 : az_mP (yX2_advance, cX2_advance, 1, none) := ⟨az_cIn (k := 5) (j := 3) rfl, 1012, by decide +kernel⟩
set_option maxRecDepth 20000 in
theorem az_mb14 : az_mP (yX2_pass, cX2_pass, 2, none) := ⟨az_cIn (k := 5) (j := 27) rfl, 1012, by decide +kernel⟩
set_option maxRecDepth 20000 in
theorem az_mb15 : az_mP (yX2_open, cX2_open, 3, (some .boolean)) := ⟨az_cIn (k := 5) (j := 19) rfl, 1012, by decide +kernel⟩
set_option maxRecDepth 20000 in
theorem az_mb16 : az_mP (yX2_rule, cX2_rule, 1, none) := ⟨az_cIn (k := 4) (j := 235) rfl, 1012, by decide +kernel⟩
set_option maxRecDepth 20000 in
theorem az_mb17 : az_mP (yX2_either, cX2_either, 3, none) := ⟨az_cIn (k := 5) (j := 7) rfl, 1012, by decide +kernel⟩
set_option maxRecDepth 20000 in
theorem az_mb18 : az_mP (yX2_both, cX2_both, 3, none) := ⟨az_cIn (k := 5) (j := 11) rfl, 1012, by decide +kernel⟩
set_option maxRecDepth 20000 in
theorem az_mb19 : az_mP (yX2_ask, cX2_ask, 3, none) := ⟨az_cIn (k := 5) (j := 15) rfl, 1012, by decide +kernel⟩
set_option maxRecDepth 20000 in
theorem az_mb20 : az_mP (yX2_sum, cX2_sum, 4, none) := ⟨az_cIn (k := 5) (j := 31) rfl, 1012, by decide +kernel⟩
set_option maxRecDepth 20000 in
theorem az_mb21 : az_mP (yX2_product, cX2_product, 4, none) := ⟨az_cIn (k := 5) (j := 35) rfl, 1012, by decide +kernel⟩
set_option maxRecDepth 20000 in
theorem az_mb22 : az_mP (yX2_one, cX2_one, 3, none) := ⟨az_cIn (k := 5) (j := 39) rfl, 1012, by decide +kernel⟩
set_option maxRecDepth 20000 in
theorem az_mb23 : az_mP (yX2_value, cX2_value, 2, none) := ⟨az_cIn (k := 5) (j := 43) rfl, 1012, by decide +kernel⟩
set_option maxRecDepth 20000 in
theorem az_mb24 : az_mP (yX3_init, cX3_init, 1, none) := ⟨az_cIn (k := 2) (j := 123) rfl, 1014, by decide +kernel⟩
set_option maxRecDepth 20000 in
theorem az_mb25 : az_mP (yX3_wasDead, cX3_wasDead, 3, (some .boolean)) := ⟨az_cIn (k := 4) (j := 1) rfl, 1014, by decide +kernel⟩
set_option maxRecDepth 20000 in
theorem az_mb26 : az_mP (yX4_init, cX4_init, 2, none) := ⟨az_cIn (k := 1) (j := 205) rfl, 1011, by decide +kernel⟩
set_option maxRecDepth 20000 in
theorem az_mb27 : az_mP (yX4_startFromBehind, cX4_startFromBehind, 2, none) := ⟨az_cIn (k := 5) (j := 168) rfl, 1011, by decide +kernel⟩
set_option maxRecDepth 20000 in
theorem az_mb28 : az_mP (yX4_goBackAnHour, cX4_goBackAnHour, 3, none) := ⟨az_cIn (k := 5) (j := 173) rfl, 1011, by decide +kernel⟩
set_option maxRecDepth 20000 in
theorem az_mb29 : az_mP (yX4_leadsOn, cX4_leadsOn, 2, (some .boolean)) := ⟨az_cIn (k := 5) (j := 210) rfl, 1011, by decide +kernel⟩
set_option maxRecDepth 20000 in
theorem az_mb30 : az_mP (yX4_bestNext, cX4_bestNext, 7, (some .int)) := ⟨az_cIn (k := 5) (j := 196) rfl, 1011, by decide +kernel⟩
set_option maxRecDepth 20000 in
theorem az_mb31 : az_mP (yX4_isBetter, cX4_isBetter, 3, (some .boolean)) := ⟨az_cIn (k := 5) (j := 214) rfl, 1011, by decide +kernel⟩
set_option maxRecDepth 20000 in
theorem az_mb32 : az_mP (yX4_lead, cX4_lead, 8, none) := ⟨az_cIn (k := 5) (j := 219) rfl, 1011, by decide +kernel⟩
set_option maxRecDepth 20000 in
theorem az_mb33 : az_mP (yX4_follow, cX4_follow, 7, (some .int)) := ⟨az_cIn (k := 5) (j := 223) rfl, 1011, by decide +kernel⟩
set_option maxRecDepth 20000 in
theorem az_mb34 : az_mP (yX4_charges, cX4_charges, 1, (some .long)) := ⟨az_cIn (k := 5) (j := 231) rfl, 1011, by decide +kernel⟩
set_option maxRecDepth 20000 in
theorem az_mb35 : az_mP (yX4_cellOfPath, cX4_cellOfPath, 2, (some .int)) := ⟨az_cIn (k := 5) (j := 235) rfl, 1011, by decide +kernel⟩
set_option maxRecDepth 20000 in
theorem az_mb36 : az_mP (yX5_init, cX5_init, 4, none) := ⟨az_cIn (k := 1) (j := 175) rfl, 1010, by decide +kernel⟩
set_option maxRecDepth 20000 in
theorem az_mb37 : az_mP (yX5_lookAt, cX5_lookAt, 5, none) := ⟨az_cIn (k := 4) (j := 9) rfl, 1010, by decide +kernel⟩
set_option maxRecDepth 20000 in
theorem az_mb38 : az_mP (yX5_turnTo, cX5_turnTo, 6, none) := ⟨az_cIn (k := 4) (j := 17) rfl, 1010, by decide +kernel⟩
set_option maxRecDepth 20000 in
theorem az_mb39 : az_mP (yX5_castShadow, cX5_castShadow, 12, none) := ⟨az_cIn (k := 4) (j := 27) rfl, 1010, by decide +kernel⟩
set_option maxRecDepth 20000 in
theorem az_mb40 : az_mP (yX5_heightOf, cX5_heightOf, 2, (some .int)) := ⟨az_cIn (k := 4) (j := 31) rfl, 1010, by decide +kernel⟩
set_option maxRecDepth 20000 in
theorem az_mb41 : az_mP (yX5_isOpen, cX5_isOpen, 2, (some .boolean)) := ⟨az_cIn (k := 5) (j := 192) rfl, 1010, by decide +kernel⟩
set_option maxRecDepth 20000 in
theorem az_mb42 : az_mP (yX5_shadersOf, cX5_shadersOf, 4, (some .int)) := ⟨az_cIn (k := 4) (j := 37) rfl, 1010, by decide +kernel⟩
set_option maxRecDepth 20000 in
theorem az_mb43 : az_mP (yX5_partsOf, cX5_partsOf, 5, (some .int)) := ⟨az_cIn (k := 4) (j := 49) rfl, 1010, by decide +kernel⟩
set_option maxRecDepth 20000 in
theorem az_mb44 : az_mP (yX5_partsOfAll, cX5_partsOfAll, 5, (some .long)) := ⟨az_cIn (k := 4) (j := 77) rfl, 1010, by decide +kernel⟩
set_option maxRecDepth 20000 in
theorem az_mb45 : az_mP (yX5_cellsShadedBy, cX5_cellsShadedBy, 4, (some .int)) := ⟨az_cIn (k := 4) (j := 64) rfl, 1010, by decide +kernel⟩
set_option maxRecDepth 20000 in
theorem az_mb46 : az_mP (yX6_init, cX6_init, 3, none) := ⟨az_cIn (k := 1) (j := 39) rfl, 1002, by decide +kernel⟩
end
section
set_option maxRecDepth 20000 in
theorem az_mb47 : az_mP (yX6_setSun, cX6_setSun, 6, none) := ⟨az_cIn (k := 2) (j := 95) rfl, 1002, by decide +kernel⟩
set_option maxRecDepth 20000 in
theorem az_mb48 : az_mP (yX6_sunX, cX6_sunX, 4, (some .int)) := ⟨az_cIn (k := 3) (j := 119) rfl, 1002, by decide +kernel⟩
set_option maxRecDepth 20000 in
theorem az_mb49 : az_mP (yX6_sunY, cX6_sunY, 4, (some .int)) := ⟨az_cIn (k := 3) (j := 126) rfl, 1002, by decide +kernel⟩
set_option maxRecDepth 20000 in
theorem az_mb50 : az_mP (yX6_isClouded, cX6_isClouded, 4, (some .boolean)) := ⟨az_cIn (k := 2) (j := 106) rfl, 1002, by decide +kernel⟩
set_option maxRecDepth 20000 in
theorem az_mb51 : az_mP (yX6_addCloud, cX6_addCloud, 3, (some .int)) := ⟨az_cIn (k := 2) (j := 110) rfl, 1002, by decide +kernel⟩
set_option maxRecDepth 20000 in
theorem az_mb52 : az_mP (yX7_init, cX7_init, 3, none) := ⟨az_cIn (k := 5) (j := 105) rfl, 1026, by decide +kernel⟩
set_option maxRecDepth 20000 in
theorem az_mb53 : az_mP (yX7_isOn, cX7_isOn, 2, (some .boolean)) := ⟨az_cIn (k := 5) (j := 151) rfl, 1026, by decide +kernel⟩
set_option maxRecDepth 20000 in
theorem az_mb54 : az_mP (yX7_put, cX7_put, 3, none) := ⟨az_cIn (k := 5) (j := 139) rfl, 1026, by decide +kernel⟩
set_option maxRecDepth 20000 in
theorem az_mb55 : az_mP (yX7_cellIn, cX7_cellIn, 2, (some .int)) := ⟨az_cIn (k := 5) (j := 135) rfl, 1026, by decide +kernel⟩
set_option maxRecDepth 20000 in
theorem az_mb56 : az_mP (yX7_hasCell, cX7_hasCell, 3, (some .boolean)) := ⟨az_cIn (k := 2) (j := 232) rfl, 1026, by decide +kernel⟩
set_option maxRecDepth 20000 in
theorem az_mb57 : az_mP (yX8_init, cX8_init, 1, none) := ⟨az_cIn (k := 1) (j := 89) rfl, 1007, by decide +kernel⟩
set_option maxRecDepth 20000 in
theorem az_mb58 : az_mP (yX8_addFour, cX8_addFour, 3, none) := ⟨az_cIn (k := 4) (j := 99) rfl, 1007, by decide +kernel⟩
set_option maxRecDepth 20000 in
theorem az_mb59 : az_mP (yX8_cutIntoTokens, cX8_cutIntoTokens, 5, none) := ⟨az_cIn (k := 4) (j := 119) rfl, 1007, by decide +kernel⟩
set_option maxRecDepth 20000 in
theorem az_mb60 : az_mP (yX8_kindOf, cX8_kindOf, 2, (some .int)) := ⟨az_cIn (k := 4) (j := 231) rfl, 1007, by decide +kernel⟩
set_option maxRecDepth 20000 in
theorem az_mb61 : az_mP (yX8_startOf, cX8_startOf, 2, (some .int)) := ⟨az_cIn (k := 5) (j := 60) rfl, 1007, by decide +kernel⟩
set_option maxRecDepth 20000 in
theorem az_mb62 : az_mP (yX8_valueOf, cX8_valueOf, 2, (some .int)) := ⟨az_cIn (k := 5) (j := 47) rfl, 1007, by decide +kernel⟩
set_option maxRecDepth 20000 in
theorem az_mb63 : az_mP (yX8_byteAt, cX8_byteAt, 2, (some .int)) := ⟨az_cIn (k := 4) (j := 123) rfl, 1007, by decide +kernel⟩
set_option maxRecDepth 20000 in
theorem az_mb64 : az_mP (yX8_addToken, cX8_addToken, 4, none) := ⟨az_cIn (k := 4) (j := 211) rfl, 1007, by decide +kernel⟩
set_option maxRecDepth 20000 in
theorem az_mb65 : az_mP (yX8_isLetter, cX8_isLetter, 1, (some .boolean)) := ⟨az_cIn (k := 4) (j := 126) rfl, 1007, by decide +kernel⟩
set_option maxRecDepth 20000 in
theorem az_mb66 : az_mP (yX8_isDigit, cX8_isDigit, 1, (some .boolean)) := ⟨az_cIn (k := 4) (j := 214) rfl, 1007, by decide +kernel⟩
set_option maxRecDepth 20000 in
theorem az_mb67 : az_mP (yX8_endOfLetters, cX8_endOfLetters, 3, (some .int)) := ⟨az_cIn (k := 4) (j := 130) rfl, 1007, by decide +kernel⟩
set_option maxRecDepth 20000 in
theorem az_mb68 : az_mP (yX8_endOfDigits, cX8_endOfDigits, 3, (some .int)) := ⟨az_cIn (k := 4) (j := 218) rfl, 1007, by decide +kernel⟩
set_option maxRecDepth 20000 in
theorem az_mb69 : az_mP (yX8_numberOf, cX8_numberOf, 5, (some .int)) := ⟨az_cIn (k := 4) (j := 222) rfl, 1007, by decide +kernel⟩
set_option maxRecDepth 20000 in
theorem az_mb70 : az_mP (yX8_addWord, cX8_addWord, 4, none) := ⟨az_cIn (k := 4) (j := 134) rfl, 1007, by decide +kernel⟩
set_option maxRecDepth 20000 in
theorem az_mb71 : az_mP (yX8_nameOf, cX8_nameOf, 3, (some .int)) := ⟨az_cIn (k := 4) (j := 138) rfl, 1007, by decide +kernel⟩
set_option maxRecDepth 20000 in
theorem az_mb72 : az_mP (yX8_kindOfWord, cX8_kindOfWord, 3, (some .int)) := ⟨az_cIn (k := 4) (j := 200) rfl, 1007, by decide +kernel⟩
set_option maxRecDepth 20000 in
theorem az_mb73 : az_mP (yX8_isWord, cX8_isWord, 5, (some .boolean)) := ⟨az_cIn (k := 4) (j := 143) rfl, 1007, by decide +kernel⟩
set_option maxRecDepth 20000 in
theorem az_mb74 : az_mP (yX8_kindOfSign, cX8_kindOfSign, 1, (some .int)) := ⟨az_cIn (k := 4) (j := 227) rfl, 1007, by decide +kernel⟩
set_option maxRecDepth 20000 in
theorem az_mb75 : az_mP (yX9_init, cX9_init, 1, none) := ⟨az_cIn (k := 1) (j := 115) rfl, 1008, by decide +kernel⟩
set_option maxRecDepth 20000 in
theorem az_mb76 : az_mP (yX9_clear, cX9_clear, 1, none) := ⟨az_cIn (k := 4) (j := 115) rfl, 1008, by decide +kernel⟩
set_option maxRecDepth 20000 in
theorem az_mb77 : az_mP (yX9_add, cX9_add, 3, none) := ⟨az_cIn (k := 5) (j := 23) rfl, 1008, by decide +kernel⟩
set_option maxRecDepth 20000 in
theorem az_mb78 : az_mP (yX9_endAsk, cX9_endAsk, 1, none) := ⟨az_cIn (k := 5) (j := 52) rfl, 1008, by decide +kernel⟩
set_option maxRecDepth 20000 in
theorem az_mb79 : az_mP (yX9_endRule, cX9_endRule, 1, none) := ⟨az_cIn (k := 5) (j := 56) rfl, 1008, by decide +kernel⟩
set_option maxRecDepth 20000 in
theorem az_mb80 : az_mP (yX9_answer, cX9_answer, 5, (some .int)) := ⟨az_cIn (k := 5) (j := 75) rfl, 1008, by decide +kernel⟩
set_option maxRecDepth 20000 in
theorem az_mb81 : az_mP (yX9_run, cX9_run, 7, (some .long)) := ⟨az_cIn (k := 5) (j := 79) rfl, 1008, by decide +kernel⟩
set_option maxRecDepth 20000 in
theorem az_mb82 : az_mP (yX9_valueOf, cX9_valueOf, 2, (some .long)) := ⟨az_cIn (k := 5) (j := 83) rfl, 1008, by decide +kernel⟩
set_option maxRecDepth 20000 in
theorem az_mb83 : az_mP (yX9_join, cX9_join, 5, (some .long)) := ⟨az_cIn (k := 5) (j := 86) rfl, 1008, by decide +kernel⟩
set_option maxRecDepth 20000 in
theorem az_mb84 : az_mP (yX9_bounded, cX9_bounded, 2, (some .long)) := ⟨az_cIn (k := 5) (j := 89) rfl, 1008, by decide +kernel⟩
set_option maxRecDepth 20000 in
theorem az_mb85 : az_mP (yX10_init, cX10_init, 5, none) := ⟨az_cIn (k := 3) (j := 5) rfl, 1020, by decide +kernel⟩
set_option maxRecDepth 20000 in
theorem az_mb86 : az_mP (yX10_tell, cX10_tell, 4, none) := ⟨az_cIn (k := 3) (j := 69) rfl, 1020, by decide +kernel⟩
set_option maxRecDepth 20000 in
theorem az_mb87 : az_mP (yX10_forgetLast, cX10_forgetLast, 1, none) := ⟨az_cIn (k := 4) (j := 91) rfl, 1020, by decide +kernel⟩
set_option maxRecDepth 20000 in
theorem az_mb88 : az_mP (yX10_entryValue, cX10_entryValue, 3, (some .int)) := ⟨az_cIn (k := 3) (j := 159) rfl, 1020, by decide +kernel⟩
set_option maxRecDepth 20000 in
theorem az_mb89 : az_mP (yX10_hasFallen, cX10_hasFallen, 1, (some .boolean)) := ⟨az_cIn (k := 3) (j := 1) rfl, 1020, by decide +kernel⟩
set_option maxRecDepth 20000 in
theorem az_mb90 : az_mP (yX10_heightOn, cX10_heightOn, 5, (some .int)) := ⟨az_cIn (k := 3) (j := 97) rfl, 1020, by decide +kernel⟩
set_option maxRecDepth 20000 in
theorem az_mb91 : az_mP (yX10_entryFor, cX10_entryFor, 6, (some .int)) := ⟨az_cIn (k := 3) (j := 102) rfl, 1020, by decide +kernel⟩
set_option maxRecDepth 20000 in
theorem az_mb92 : az_mP (yX10_grownBetween, cX10_grownBetween, 3, (some .int)) := ⟨az_cIn (k := 3) (j := 106) rfl, 1020, by decide +kernel⟩
set_option maxRecDepth 20000 in
theorem az_mb93 : az_mP (yX10_mend, cX10_mend, 5, none) := ⟨az_cIn (k := 3) (j := 145) rfl, 1020, by decide +kernel⟩
end
section
set_option maxRecDepth 20000 in
theorem az_mb94 : az_mP (yX11_init, cX11_init, 3, none) := ⟨az_cIn (k := 1) (j := 31) rfl, 1001, by decide +kernel⟩
set_option maxRecDepth 20000 in
theorem az_mb95 : az_mP (yX11_days, cX11_days, 2, (some .int)) := ⟨az_cIn (k := 2) (j := 81) rfl, 1001, by decide +kernel⟩
set_option maxRecDepth 20000 in
theorem az_mb96 : az_mP (yX11_sun, cX11_sun, 5, (some .boolean)) := ⟨az_cIn (k := 2) (j := 85) rfl, 1001, by decide +kernel⟩
set_option maxRecDepth 20000 in
theorem az_mb97 : az_mP (yX11_cloud, cX11_cloud, 3, (some .int)) := ⟨az_cIn (k := 2) (j := 99) rfl, 1001, by decide +kernel⟩
set_option maxRecDepth 20000 in
theorem az_mb98 : az_mP (yX11_person, cX11_person, 1, (some .int)) := ⟨az_cIn (k := 2) (j := 114) rfl, 1001, by decide +kernel⟩
set_option maxRecDepth 20000 in
theorem az_mb99 : az_mP (yX11_died, cX11_died, 4, (some .boolean)) := ⟨az_cIn (k := 2) (j := 194) rfl, 1001, by decide +kernel⟩
set_option maxRecDepth 20000 in
theorem az_mb100 : az_mP (yX11_wall, cX11_wall, 4, (some .int)) := ⟨az_cIn (k := 2) (j := 216) rfl, 1001, by decide +kernel⟩
set_option maxRecDepth 20000 in
theorem az_mb101 : az_mP (yX11_tree, cX11_tree, 6, (some .int)) := ⟨az_cIn (k := 3) (j := 73) rfl, 1001, by decide +kernel⟩
set_option maxRecDepth 20000 in
theorem az_mb102 : az_mP (yX11_pole, cX11_pole, 7, (some .int)) := ⟨az_cIn (k := 3) (j := 77) rfl, 1001, by decide +kernel⟩
set_option maxRecDepth 20000 in
theorem az_mb103 : az_mP (yX11_raise, cX11_raise, 5, (some .int)) := ⟨az_cIn (k := 3) (j := 81) rfl, 1001, by decide +kernel⟩
set_option maxRecDepth 20000 in
theorem az_mb104 : az_mP (yX11_fell, cX11_fell, 4, (some .boolean)) := ⟨az_cIn (k := 3) (j := 89) rfl, 1001, by decide +kernel⟩
set_option maxRecDepth 20000 in
theorem az_mb105 : az_mP (yX11_height, cX11_height, 4, (some .int)) := ⟨az_cIn (k := 3) (j := 93) rfl, 1001, by decide +kernel⟩
set_option maxRecDepth 20000 in
theorem az_mb106 : az_mP (yX11_measure, cX11_measure, 7, (some .int)) := ⟨az_cIn (k := 3) (j := 111) rfl, 1001, by decide +kernel⟩
set_option maxRecDepth 20000 in
theorem az_mb107 : az_mP (yX11_thing, cX11_thing, 4, (some .int)) := ⟨az_cIn (k := 3) (j := 151) rfl, 1001, by decide +kernel⟩
set_option maxRecDepth 20000 in
theorem az_mb108 : az_mP (yX11_entry, cX11_entry, 4, (some .int)) := ⟨az_cIn (k := 3) (j := 155) rfl, 1001, by decide +kernel⟩
set_option maxRecDepth 20000 in
theorem az_mb109 : az_mP (yX11_grant, cX11_grant, 10, (some .int)) := ⟨az_cIn (k := 3) (j := 163) rfl, 1001, by decide +kernel⟩
set_option maxRecDepth 20000 in
theorem az_mb110 : az_mP (yX11_holder, cX11_holder, 5, (some .int)) := ⟨az_cIn (k := 3) (j := 224) rfl, 1001, by decide +kernel⟩
set_option maxRecDepth 20000 in
theorem az_mb111 : az_mP (yX11_shaded, cX11_shaded, 5, (some .int)) := ⟨az_cIn (k := 4) (j := 5) rfl, 1001, by decide +kernel⟩
set_option maxRecDepth 20000 in
theorem az_mb112 : az_mP (yX11_parts, cX11_parts, 6, (some .int)) := ⟨az_cIn (k := 4) (j := 41) rfl, 1001, by decide +kernel⟩
set_option maxRecDepth 20000 in
theorem az_mb113 : az_mP (yX11_shadow, cX11_shadow, 5, (some .int)) := ⟨az_cIn (k := 4) (j := 60) rfl, 1001, by decide +kernel⟩
set_option maxRecDepth 20000 in
theorem az_mb114 : az_mP (yX11_account, cX11_account, 8, (some .long)) := ⟨az_cIn (k := 4) (j := 68) rfl, 1001, by decide +kernel⟩
set_option maxRecDepth 20000 in
theorem az_mb115 : az_mP (yX11_bill, cX11_bill, 10, (some .long)) := ⟨az_cIn (k := 4) (j := 82) rfl, 1001, by decide +kernel⟩
set_option maxRecDepth 20000 in
theorem az_mb116 : az_mP (yX11_feed, cX11_feed, 6, (some .int)) := ⟨az_cIn (k := 4) (j := 95) rfl, 1001, by decide +kernel⟩
set_option maxRecDepth 20000 in
theorem az_mb117 : az_mP (yX11_end, cX11_end, 2, (some .int)) := ⟨az_cIn (k := 4) (j := 103) rfl, 1001, by decide +kernel⟩
set_option maxRecDepth 20000 in
theorem az_mb118 : az_mP (yX11_tariff, cX11_tariff, 3, (some .int)) := ⟨az_cIn (k := 4) (j := 107) rfl, 1001, by decide +kernel⟩
set_option maxRecDepth 20000 in
theorem az_mb119 : az_mP (yX11_fault, cX11_fault, 2, (some .int)) := ⟨az_cIn (k := 5) (j := 65) rfl, 1001, by decide +kernel⟩
set_option maxRecDepth 20000 in
theorem az_mb120 : az_mP (yX11_gives, cX11_gives, 7, (some .int)) := ⟨az_cIn (k := 5) (j := 69) rfl, 1001, by decide +kernel⟩
set_option maxRecDepth 20000 in
theorem az_mb121 : az_mP (yX11_stall, cX11_stall, 4, (some .int)) := ⟨az_cIn (k := 5) (j := 101) rfl, 1001, by decide +kernel⟩
set_option maxRecDepth 20000 in
theorem az_mb122 : az_mP (yX11_place, cX11_place, 4, (some .boolean)) := ⟨az_cIn (k := 5) (j := 123) rfl, 1001, by decide +kernel⟩
set_option maxRecDepth 20000 in
theorem az_mb123 : az_mP (yX11_placeOf, cX11_placeOf, 3, (some .int)) := ⟨az_cIn (k := 5) (j := 143) rfl, 1001, by decide +kernel⟩
set_option maxRecDepth 20000 in
theorem az_mb124 : az_mP (yX11_fees, cX11_fees, 10, (some .long)) := ⟨az_cIn (k := 5) (j := 147) rfl, 1001, by decide +kernel⟩
set_option maxRecDepth 20000 in
theorem az_mb125 : az_mP (yX11_walk, cX11_walk, 7, (some .int)) := ⟨az_cIn (k := 5) (j := 164) rfl, 1001, by decide +kernel⟩
set_option maxRecDepth 20000 in
theorem az_mb126 : az_mP (yX11_walked, cX11_walked, 2, (some .long)) := ⟨az_cIn (k := 5) (j := 227) rfl, 1001, by decide +kernel⟩
set_option maxRecDepth 20000 in
theorem az_mb127 : az_mP (yX11_best, cX11_best, 3, (some .int)) := ⟨az_cIn (k := 5) (j := 239) rfl, 1001, by decide +kernel⟩
set_option maxRecDepth 20000 in
theorem az_mb128 : az_mP (yX11_serves, cX11_serves, 4, (some .int)) := ⟨az_cIn (k := 6) (j := 20) rfl, 1001, by decide +kernel⟩
set_option maxRecDepth 20000 in
theorem az_mb129 : az_mP (yX11_about, cX11_about, 2, (some .int)) := ⟨az_cIn (k := 6) (j := 24) rfl, 1001, by decide +kernel⟩
set_option maxRecDepth 20000 in
theorem az_mb130 : az_mP (yX11_isDay, cX11_isDay, 1, (some .boolean)) := ⟨az_cIn (k := 2) (j := 102) rfl, 1001, by decide +kernel⟩
set_option maxRecDepth 20000 in
theorem az_mb131 : az_mP (yX11_isSpan, cX11_isSpan, 2, (some .boolean)) := ⟨az_cIn (k := 3) (j := 169) rfl, 1001, by decide +kernel⟩
set_option maxRecDepth 20000 in
theorem az_mb132 : az_mP (yX11_isHour, cX11_isHour, 1, (some .boolean)) := ⟨az_cIn (k := 2) (j := 88) rfl, 1001, by decide +kernel⟩
set_option maxRecDepth 20000 in
theorem az_mb133 : az_mP (yX11_isHeight, cX11_isHeight, 1, (some .boolean)) := ⟨az_cIn (k := 2) (j := 227) rfl, 1001, by decide +kernel⟩
set_option maxRecDepth 20000 in
theorem az_mb134 : az_mP (yX11_isWithin, cX11_isWithin, 2, (some .boolean)) := ⟨az_cIn (k := 2) (j := 91) rfl, 1001, by decide +kernel⟩
set_option maxRecDepth 20000 in
theorem az_mb135 : az_mP (yX11_isPairOfTwelve, cX11_isPairOfTwelve, 1, (some .boolean)) := ⟨az_cIn (k := 3) (j := 166) rfl, 1001, by decide +kernel⟩
set_option maxRecDepth 20000 in
theorem az_mb136 : az_mP (yX11_monthOf, cX11_monthOf, 1, (some .int)) := ⟨az_cIn (k := 3) (j := 122) rfl, 1001, by decide +kernel⟩
set_option maxRecDepth 20000 in
theorem az_mb137 : az_mP (yX11_cellsAside, cX11_cellsAside, 2, (some .int)) := ⟨az_cIn (k := 3) (j := 137) rfl, 1001, by decide +kernel⟩
set_option maxRecDepth 20000 in
theorem az_mb138 : az_mP (yX11_isPerson, cX11_isPerson, 2, (some .boolean)) := ⟨az_cIn (k := 2) (j := 198) rfl, 1001, by decide +kernel⟩
set_option maxRecDepth 20000 in
theorem az_mb139 : az_mP (yX11_isThing, cX11_isThing, 2, (some .boolean)) := ⟨az_cIn (k := 3) (j := 85) rfl, 1001, by decide +kernel⟩
set_option maxRecDepth 20000 in
theorem az_mb140 : az_mP (yX11_isStall, cX11_isStall, 2, (some .boolean)) := ⟨az_cIn (k := 5) (j := 127) rfl, 1001, by decide +kernel⟩
end
section
set_option maxRecDepth 20000 in
theorem az_mb141 : az_mP (yX11_mayStand, cX11_mayStand, 6, (some .boolean)) := ⟨az_cIn (k := 2) (j := 220) rfl, 1001, by decide +kernel⟩
set_option maxRecDepth 20000 in
theorem az_mb142 : az_mP (yX11_isBuiltOn, cX11_isBuiltOn, 4, (some .boolean)) := ⟨az_cIn (k := 2) (j := 236) rfl, 1001, by decide +kernel⟩
set_option maxRecDepth 20000 in
theorem az_mb143 : az_mP (yX11_addThing, cX11_addThing, 3, (some .int)) := ⟨az_cIn (k := 3) (j := 65) rfl, 1001, by decide +kernel⟩
set_option maxRecDepth 20000 in
theorem az_mb144 : az_mP (yX11_standingNow, cX11_standingNow, 3, (some .int)) := ⟨az_cIn (k := 6) (j := 28) rfl, 1001, by decide +kernel⟩
set_option maxRecDepth 20000 in
theorem az_mb145 : az_mP (yX11_nearestHeight, cX11_nearestHeight, 12, (some .int)) := ⟨az_cIn (k := 3) (j := 115) rfl, 1001, by decide +kernel⟩
set_option maxRecDepth 20000 in
theorem az_mb146 : az_mP (yX11_findHolders, cX11_findHolders, 8, none) := ⟨az_cIn (k := 3) (j := 228) rfl, 1001, by decide +kernel⟩
set_option maxRecDepth 20000 in
theorem az_mb147 : az_mP (yX11_heldBy, cX11_heldBy, 7, (some .int)) := ⟨az_cIn (k := 4) (j := 45) rfl, 1001, by decide +kernel⟩
set_option maxRecDepth 20000 in
theorem az_mb148 : az_mP (yX11_partsOnDay, cX11_partsOnDay, 8, (some .long)) := ⟨az_cIn (k := 4) (j := 73) rfl, 1001, by decide +kernel⟩
set_option maxRecDepth 20000 in
theorem az_mb149 : az_mP (yX11_partsOverYear, cX11_partsOverYear, 6, (some .long)) := ⟨az_cIn (k := 4) (j := 86) rfl, 1001, by decide +kernel⟩
set_option maxRecDepth 20000 in
theorem az_mb150 : az_mP (yX11_chargeOf, cX11_chargeOf, 9, (some .long)) := ⟨az_cIn (k := 5) (j := 156) rfl, 1001, by decide +kernel⟩
set_option maxRecDepth 20000 in
theorem az_mb151 : az_mP (yX11_mayTake, cX11_mayTake, 7, (some .boolean)) := ⟨az_cIn (k := 5) (j := 131) rfl, 1001, by decide +kernel⟩
set_option maxRecDepth 20000 in
theorem az_mb152 : az_mP (yX11_leadThroughHour, cX11_leadThroughHour, 8, none) := ⟨az_cIn (k := 5) (j := 177) rfl, 1001, by decide +kernel⟩
set_option maxRecDepth 20000 in
theorem az_mb153 : az_mP (yX11_mayWalk, cX11_mayWalk, 5, (some .boolean)) := ⟨az_cIn (k := 5) (j := 188) rfl, 1001, by decide +kernel⟩
set_option maxRecDepth 20000 in
theorem az_mb154 : az_mP (yX11_bestTree, cX11_bestTree, 6, (some .int)) := ⟨az_cIn (k := 6) (j := 3) rfl, 1001, by decide +kernel⟩
set_option maxRecDepth 20000 in
theorem az_mb155 : az_mP (yX11_hasStall, cX11_hasStall, 5, (some .boolean)) := ⟨az_cIn (k := 6) (j := 7) rfl, 1001, by decide +kernel⟩
set_option maxRecDepth 20000 in
theorem az_mb156 : az_mP (yX11_serveHour, cX11_serveHour, 6, none) := ⟨az_cIn (k := 6) (j := 11) rfl, 1001, by decide +kernel⟩
set_option maxRecDepth 20000 in
theorem az_mb157 : az_mP (yX11_servePlace, cX11_servePlace, 12, none) := ⟨az_cIn (k := 6) (j := 15) rfl, 1001, by decide +kernel⟩
set_option maxRecDepth 20000 in
theorem az_mb158 : az_mP (yX12_init, cX12_init, 5, none) := ⟨az_cIn (k := 6) (j := 36) rfl, 1013, by decide +kernel⟩
set_option maxRecDepth 20000 in
theorem az_mb159 : az_mP (yX12_in, cX12_in, 6, (some .boolean)) := ⟨az_cIn (k := 7) (j := 76) rfl, 1013, by decide +kernel⟩
set_option maxRecDepth 20000 in
theorem az_mb160 : az_mP (yX12_isDay, cX12_isDay, 1, (some .boolean)) := ⟨az_cIn (k := 7) (j := 93) rfl, 1013, by decide +kernel⟩
set_option maxRecDepth 20000 in
theorem az_mb161 : az_mP (yX12_isHour, cX12_isHour, 1, (some .boolean)) := ⟨az_cIn (k := 7) (j := 84) rfl, 1013, by decide +kernel⟩
set_option maxRecDepth 20000 in
theorem az_mb162 : az_mP (yX12_isCell, cX12_isCell, 2, (some .boolean)) := ⟨az_cIn (k := 7) (j := 122) rfl, 1013, by decide +kernel⟩
set_option maxRecDepth 20000 in
theorem az_mb163 : az_mP (yX12_isPerson, cX12_isPerson, 2, (some .boolean)) := ⟨az_cIn (k := 7) (j := 110) rfl, 1013, by decide +kernel⟩
set_option maxRecDepth 20000 in
theorem az_mb164 : az_mP (yX12_isThing, cX12_isThing, 2, (some .boolean)) := ⟨az_cIn (k := 7) (j := 150) rfl, 1013, by decide +kernel⟩
set_option maxRecDepth 20000 in
theorem az_mb165 : az_mP (yX12_monthOf, cX12_monthOf, 1, (some .int)) := ⟨az_cIn (k := 7) (j := 189) rfl, 1013, by decide +kernel⟩
set_option maxRecDepth 20000 in
theorem az_mb166 : az_mP (yX12_days, cX12_days, 2, (some .int)) := ⟨az_cIn (k := 7) (j := 72) rfl, 1013, by decide +kernel⟩
set_option maxRecDepth 20000 in
theorem az_mb167 : az_mP (yX12_sun, cX12_sun, 5, (some .boolean)) := ⟨az_cIn (k := 7) (j := 80) rfl, 1013, by decide +kernel⟩
set_option maxRecDepth 20000 in
theorem az_mb168 : az_mP (yX12_isCloud, cX12_isCloud, 5, (some .boolean)) := ⟨az_cIn (k := 7) (j := 98) rfl, 1013, by decide +kernel⟩
set_option maxRecDepth 20000 in
theorem az_mb169 : az_mP (yX12_cloud, cX12_cloud, 3, (some .int)) := ⟨az_cIn (k := 7) (j := 90) rfl, 1013, by decide +kernel⟩
set_option maxRecDepth 20000 in
theorem az_mb170 : az_mP (yX12_person, cX12_person, 1, (some .int)) := ⟨az_cIn (k := 7) (j := 102) rfl, 1013, by decide +kernel⟩
set_option maxRecDepth 20000 in
theorem az_mb171 : az_mP (yX12_died, cX12_died, 3, (some .boolean)) := ⟨az_cIn (k := 7) (j := 106) rfl, 1013, by decide +kernel⟩
set_option maxRecDepth 20000 in
theorem az_mb172 : az_mP (yX12_mayStand, cX12_mayStand, 6, (some .boolean)) := ⟨az_cIn (k := 7) (j := 118) rfl, 1013, by decide +kernel⟩
set_option maxRecDepth 20000 in
theorem az_mb173 : az_mP (yX12_stands, cX12_stands, 6, (some .int)) := ⟨az_cIn (k := 7) (j := 127) rfl, 1013, by decide +kernel⟩
set_option maxRecDepth 20000 in
theorem az_mb174 : az_mP (yX12_enters, cX12_enters, 5, none) := ⟨az_cIn (k := 7) (j := 131) rfl, 1013, by decide +kernel⟩
set_option maxRecDepth 20000 in
theorem az_mb175 : az_mP (yX12_wall, cX12_wall, 4, (some .int)) := ⟨az_cIn (k := 7) (j := 114) rfl, 1013, by decide +kernel⟩
set_option maxRecDepth 20000 in
theorem az_mb176 : az_mP (yX12_tree, cX12_tree, 6, (some .int)) := ⟨az_cIn (k := 7) (j := 135) rfl, 1013, by decide +kernel⟩
set_option maxRecDepth 20000 in
theorem az_mb177 : az_mP (yX12_pole, cX12_pole, 7, (some .int)) := ⟨az_cIn (k := 7) (j := 140) rfl, 1013, by decide +kernel⟩
set_option maxRecDepth 20000 in
theorem az_mb178 : az_mP (yX12_raise, cX12_raise, 4, (some .int)) := ⟨az_cIn (k := 7) (j := 146) rfl, 1013, by decide +kernel⟩
set_option maxRecDepth 20000 in
theorem az_mb179 : az_mP (yX12_fell, cX12_fell, 3, (some .boolean)) := ⟨az_cIn (k := 7) (j := 154) rfl, 1013, by decide +kernel⟩
set_option maxRecDepth 20000 in
theorem az_mb180 : az_mP (yX12_entryFor, cX12_entryFor, 6, (some .int)) := ⟨az_cIn (k := 7) (j := 166) rfl, 1013, by decide +kernel⟩
set_option maxRecDepth 20000 in
theorem az_mb181 : az_mP (yX12_heightOf, cX12_heightOf, 6, (some .int)) := ⟨az_cIn (k := 7) (j := 162) rfl, 1013, by decide +kernel⟩
set_option maxRecDepth 20000 in
theorem az_mb182 : az_mP (yX12_height, cX12_height, 4, (some .int)) := ⟨az_cIn (k := 7) (j := 158) rfl, 1013, by decide +kernel⟩
set_option maxRecDepth 20000 in
theorem az_mb183 : az_mP (yX12_isOpen, cX12_isOpen, 6, (some .boolean)) := ⟨az_cIn (k := 8) (j := 180) rfl, 1013, by decide +kernel⟩
set_option maxRecDepth 20000 in
theorem az_mb184 : az_mP (yX12_below, cX12_below, 1, (some .int)) := ⟨az_cIn (k := 7) (j := 192) rfl, 1013, by decide +kernel⟩
set_option maxRecDepth 20000 in
theorem az_mb185 : az_mP (yX12_pointOf, cX12_pointOf, 10, (some .int)) := ⟨az_cIn (k := 7) (j := 186) rfl, 1013, by decide +kernel⟩
set_option maxRecDepth 20000 in
theorem az_mb186 : az_mP (yX12_shades, cX12_shades, 9, none) := ⟨az_cIn (k := 7) (j := 182) rfl, 1013, by decide +kernel⟩
set_option maxRecDepth 20000 in
theorem az_mb187 : az_mP (yX12_looks, cX12_looks, 6, none) := ⟨az_cIn (k := 7) (j := 178) rfl, 1013, by decide +kernel⟩
end
section
set_option maxRecDepth 20000 in
theorem az_mb188 : az_mP (yX12_isAsked, cX12_isAsked, 4, (some .boolean)) := ⟨az_cIn (k := 7) (j := 174) rfl, 1013, by decide +kernel⟩
set_option maxRecDepth 20000 in
theorem az_mb189 : az_mP (yX12_shaded, cX12_shaded, 5, (some .int)) := ⟨az_cIn (k := 7) (j := 170) rfl, 1013, by decide +kernel⟩
set_option maxRecDepth 20000 in
theorem az_mb190 : az_mP (yX12_shadow, cX12_shadow, 7, (some .int)) := ⟨az_cIn (k := 7) (j := 196) rfl, 1013, by decide +kernel⟩
set_option maxRecDepth 20000 in
theorem az_mb191 : az_mP (yX12_grant, cX12_grant, 10, (some .int)) := ⟨az_cIn (k := 7) (j := 200) rfl, 1013, by decide +kernel⟩
set_option maxRecDepth 20000 in
theorem az_mb192 : az_mP (yX12_holdsOn, cX12_holdsOn, 8, (some .boolean)) := ⟨az_cIn (k := 7) (j := 214) rfl, 1013, by decide +kernel⟩
set_option maxRecDepth 20000 in
theorem az_mb193 : az_mP (yX12_holderOf, cX12_holderOf, 7, (some .int)) := ⟨az_cIn (k := 7) (j := 210) rfl, 1013, by decide +kernel⟩
set_option maxRecDepth 20000 in
theorem az_mb194 : az_mP (yX12_holder, cX12_holder, 5, (some .int)) := ⟨az_cIn (k := 7) (j := 206) rfl, 1013, by decide +kernel⟩
set_option maxRecDepth 20000 in
theorem az_mb195 : az_mP (yX12_holds, cX12_holds, 5, none) := ⟨az_cIn (k := 7) (j := 222) rfl, 1013, by decide +kernel⟩
set_option maxRecDepth 20000 in
theorem az_mb196 : az_mP (yX12_partsIn, cX12_partsIn, 5, (some .int)) := ⟨az_cIn (k := 7) (j := 226) rfl, 1013, by decide +kernel⟩
set_option maxRecDepth 20000 in
theorem az_mb197 : az_mP (yX12_parts, cX12_parts, 6, (some .int)) := ⟨az_cIn (k := 7) (j := 218) rfl, 1013, by decide +kernel⟩
set_option maxRecDepth 20000 in
theorem az_mb198 : az_mP (yX12_partsOn, cX12_partsOn, 8, (some .long)) := ⟨az_cIn (k := 7) (j := 235) rfl, 1013, by decide +kernel⟩
set_option maxRecDepth 20000 in
theorem az_mb199 : az_mP (yX12_account, cX12_account, 8, (some .long)) := ⟨az_cIn (k := 7) (j := 230) rfl, 1013, by decide +kernel⟩
set_option maxRecDepth 20000 in
theorem az_mb200 : az_mP (yX12_bill, cX12_bill, 8, (some .long)) := ⟨az_cIn (k := 7) (j := 239) rfl, 1013, by decide +kernel⟩
set_option maxRecDepth 20000 in
theorem az_mb201 : az_mP (yX12_measure, cX12_measure, 9, (some .int)) := ⟨az_cIn (k := 8) (j := 5) rfl, 1013, by decide +kernel⟩
set_option maxRecDepth 20000 in
theorem az_mb202 : az_mP (yX12_far, cX12_far, 2, (some .int)) := ⟨az_cIn (k := 8) (j := 8) rfl, 1013, by decide +kernel⟩
set_option maxRecDepth 20000 in
theorem az_mb203 : az_mP (yX12_thing, cX12_thing, 3, (some .int)) := ⟨az_cIn (k := 8) (j := 12) rfl, 1013, by decide +kernel⟩
set_option maxRecDepth 20000 in
theorem az_mb204 : az_mP (yX12_entry, cX12_entry, 5, (some .int)) := ⟨az_cIn (k := 8) (j := 16) rfl, 1013, by decide +kernel⟩
set_option maxRecDepth 20000 in
theorem az_mb205 : az_mP (yX12_put, cX12_put, 2, none) := ⟨az_cIn (k := 8) (j := 24) rfl, 1013, by decide +kernel⟩
set_option maxRecDepth 20000 in
theorem az_mb206 : az_mP (yX12_feed, cX12_feed, 6, (some .int)) := ⟨az_cIn (k := 8) (j := 20) rfl, 1013, by decide +kernel⟩
set_option maxRecDepth 20000 in
theorem az_mb207 : az_mP (yX12_end, cX12_end, 2, (some .int)) := ⟨az_cIn (k := 8) (j := 28) rfl, 1013, by decide +kernel⟩
set_option maxRecDepth 20000 in
theorem az_mb208 : az_mP (yX12_isLetter, cX12_isLetter, 1, (some .boolean)) := ⟨az_cIn (k := 8) (j := 39) rfl, 1013, by decide +kernel⟩
set_option maxRecDepth 20000 in
theorem az_mb209 : az_mP (yX12_wordOf, cX12_wordOf, 2, (some .int)) := ⟨az_cIn (k := 8) (j := 47) rfl, 1013, by decide +kernel⟩
set_option maxRecDepth 20000 in
theorem az_mb210 : az_mP (yX12_next, cX12_next, 5, none) := ⟨az_cIn (k := 8) (j := 36) rfl, 1013, by decide +kernel⟩
set_option maxRecDepth 20000 in
theorem az_mb211 : az_mP (yX12_isSignByte, cX12_isSignByte, 1, (some .boolean)) := ⟨az_cIn (k := 8) (j := 68) rfl, 1013, by decide +kernel⟩
set_option maxRecDepth 20000 in
theorem az_mb212 : az_mP (yX12_isSign, cX12_isSign, 2, (some .boolean)) := ⟨az_cIn (k := 8) (j := 94) rfl, 1013, by decide +kernel⟩
set_option maxRecDepth 20000 in
theorem az_mb213 : az_mP (yX12_isWord, cX12_isWord, 2, (some .boolean)) := ⟨az_cIn (k := 8) (j := 78) rfl, 1013, by decide +kernel⟩
set_option maxRecDepth 20000 in
theorem az_mb214 : az_mP (yX12_errs, cX12_errs, 2, none) := ⟨az_cIn (k := 8) (j := 86) rfl, 1013, by decide +kernel⟩
set_option maxRecDepth 20000 in
theorem az_mb215 : az_mP (yX12_emits, cX12_emits, 3, none) := ⟨az_cIn (k := 8) (j := 103) rfl, 1013, by decide +kernel⟩
set_option maxRecDepth 20000 in
theorem az_mb216 : az_mP (yX12_opensFrame, cX12_opensFrame, 2, none) := ⟨az_cIn (k := 8) (j := 90) rfl, 1013, by decide +kernel⟩
set_option maxRecDepth 20000 in
theorem az_mb217 : az_mP (yX12_top, cX12_top, 1, (some .int)) := ⟨az_cIn (k := 8) (j := 111) rfl, 1013, by decide +kernel⟩
set_option maxRecDepth 20000 in
theorem az_mb218 : az_mP (yX12_opensSign, cX12_opensSign, 2, (some .boolean)) := ⟨az_cIn (k := 8) (j := 82) rfl, 1013, by decide +kernel⟩
set_option maxRecDepth 20000 in
theorem az_mb219 : az_mP (yX12_rank, cX12_rank, 1, (some .int)) := ⟨az_cIn (k := 8) (j := 122) rfl, 1013, by decide +kernel⟩
set_option maxRecDepth 20000 in
theorem az_mb220 : az_mP (yX12_works, cX12_works, 2, none) := ⟨az_cIn (k := 8) (j := 126) rfl, 1013, by decide +kernel⟩
set_option maxRecDepth 20000 in
theorem az_mb221 : az_mP (yX12_waitsFor, cX12_waitsFor, 2, none) := ⟨az_cIn (k := 8) (j := 119) rfl, 1013, by decide +kernel⟩
set_option maxRecDepth 20000 in
theorem az_mb222 : az_mP (yX12_asks, cX12_asks, 1, none) := ⟨az_cIn (k := 8) (j := 74) rfl, 1013, by decide +kernel⟩
set_option maxRecDepth 20000 in
theorem az_mb223 : az_mP (yX12_begins, cX12_begins, 2, none) := ⟨az_cIn (k := 8) (j := 98) rfl, 1013, by decide +kernel⟩
set_option maxRecDepth 20000 in
theorem az_mb224 : az_mP (yX12_oneIsOver, cX12_oneIsOver, 1, none) := ⟨az_cIn (k := 8) (j := 107) rfl, 1013, by decide +kernel⟩
set_option maxRecDepth 20000 in
theorem az_mb225 : az_mP (yX12_askIsOver, cX12_askIsOver, 1, none) := ⟨az_cIn (k := 8) (j := 133) rfl, 1013, by decide +kernel⟩
set_option maxRecDepth 20000 in
theorem az_mb226 : az_mP (yX12_isAsking, cX12_isAsking, 1, (some .boolean)) := ⟨az_cIn (k := 8) (j := 129) rfl, 1013, by decide +kernel⟩
set_option maxRecDepth 20000 in
theorem az_mb227 : az_mP (yX12_goesOn, cX12_goesOn, 3, none) := ⟨az_cIn (k := 8) (j := 115) rfl, 1013, by decide +kernel⟩
set_option maxRecDepth 20000 in
theorem az_mb228 : az_mP (yX12_asksOn, cX12_asksOn, 2, none) := ⟨az_cIn (k := 8) (j := 137) rfl, 1013, by decide +kernel⟩
set_option maxRecDepth 20000 in
theorem az_mb229 : az_mP (yX12_rule, cX12_rule, 2, none) := ⟨az_cIn (k := 8) (j := 141) rfl, 1013, by decide +kernel⟩
set_option maxRecDepth 20000 in
theorem az_mb230 : az_mP (yX12_tariff, cX12_tariff, 2, (some .int)) := ⟨az_cIn (k := 8) (j := 32) rfl, 1013, by decide +kernel⟩
set_option maxRecDepth 20000 in
theorem az_mb231 : az_mP (yX12_fault, cX12_fault, 2, (some .int)) := ⟨az_cIn (k := 8) (j := 145) rfl, 1013, by decide +kernel⟩
set_option maxRecDepth 20000 in
theorem az_mb232 : az_mP (yX12_bound, cX12_bound, 2, (some .long)) := ⟨az_cIn (k := 8) (j := 162) rfl, 1013, by decide +kernel⟩
set_option maxRecDepth 20000 in
theorem az_mb233 : az_mP (yX12_worked, cX12_worked, 5, (some .long)) := ⟨az_cIn (k := 8) (j := 159) rfl, 1013, by decide +kernel⟩
set_option maxRecDepth 20000 in
theorem az_mb234 : az_mP (yX12_given, cX12_given, 5, (some .long)) := ⟨az_cIn (k := 8) (j := 156) rfl, 1013, by decide +kernel⟩
end
section
set_option maxRecDepth 20000 in
theorem az_mb235 : az_mP (yX12_gives, cX12_gives, 8, (some .int)) := ⟨az_cIn (k := 8) (j := 149) rfl, 1013, by decide +kernel⟩
set_option maxRecDepth 20000 in
theorem az_mb236 : az_mP (yX12_stall, cX12_stall, 5, (some .int)) := ⟨az_cIn (k := 8) (j := 168) rfl, 1013, by decide +kernel⟩
set_option maxRecDepth 20000 in
theorem az_mb237 : az_mP (yX12_mayPlace, cX12_mayPlace, 6, (some .boolean)) := ⟨az_cIn (k := 8) (j := 176) rfl, 1013, by decide +kernel⟩
set_option maxRecDepth 20000 in
theorem az_mb238 : az_mP (yX12_place, cX12_place, 4, (some .boolean)) := ⟨az_cIn (k := 8) (j := 172) rfl, 1013, by decide +kernel⟩
set_option maxRecDepth 20000 in
theorem az_mb239 : az_mP (yX12_placeOf, cX12_placeOf, 3, (some .int)) := ⟨az_cIn (k := 8) (j := 184) rfl, 1013, by decide +kernel⟩
set_option maxRecDepth 20000 in
theorem az_mb240 : az_mP (yX12_charge, cX12_charge, 11, (some .long)) := ⟨az_cIn (k := 8) (j := 192) rfl, 1013, by decide +kernel⟩
set_option maxRecDepth 20000 in
theorem az_mb241 : az_mP (yX12_fees, cX12_fees, 8, (some .long)) := ⟨az_cIn (k := 8) (j := 188) rfl, 1013, by decide +kernel⟩
set_option maxRecDepth 20000 in
theorem az_mb242 : az_mP (yX12_isTaken, cX12_isTaken, 6, (some .boolean)) := ⟨az_cIn (k := 8) (j := 200) rfl, 1013, by decide +kernel⟩
set_option maxRecDepth 20000 in
theorem az_mb243 : az_mP (yX12_beside, cX12_beside, 5, (some .int)) := ⟨az_cIn (k := 8) (j := 208) rfl, 1013, by decide +kernel⟩
set_option maxRecDepth 20000 in
theorem az_mb244 : az_mP (yX12_nextOf, cX12_nextOf, 8, (some .int)) := ⟨az_cIn (k := 8) (j := 204) rfl, 1013, by decide +kernel⟩
set_option maxRecDepth 20000 in
theorem az_mb245 : az_mP (yX12_walk, cX12_walk, 12, (some .int)) := ⟨az_cIn (k := 8) (j := 196) rfl, 1013, by decide +kernel⟩
set_option maxRecDepth 20000 in
theorem az_mb246 : az_mP (yX12_walked, cX12_walked, 2, (some .long)) := ⟨az_cIn (k := 8) (j := 212) rfl, 1013, by decide +kernel⟩
set_option maxRecDepth 20000 in
theorem az_mb247 : az_mP (yX12_servedBy, cX12_servedBy, 8, (some .int)) := ⟨az_cIn (k := 8) (j := 224) rfl, 1013, by decide +kernel⟩
set_option maxRecDepth 20000 in
theorem az_mb248 : az_mP (yX12_seeks, cX12_seeks, 7, (some .int)) := ⟨az_cIn (k := 8) (j := 220) rfl, 1013, by decide +kernel⟩
set_option maxRecDepth 20000 in
theorem az_mb249 : az_mP (yX12_best, cX12_best, 3, (some .int)) := ⟨az_cIn (k := 8) (j := 216) rfl, 1013, by decide +kernel⟩
set_option maxRecDepth 20000 in
theorem az_mb250 : az_mP (yX12_serves, cX12_serves, 4, (some .int)) := ⟨az_cIn (k := 8) (j := 228) rfl, 1013, by decide +kernel⟩
set_option maxRecDepth 20000 in
theorem az_mb251 : az_mP (yX12_about, cX12_about, 4, (some .int)) := ⟨az_cIn (k := 8) (j := 232) rfl, 1013, by decide +kernel⟩
set_option maxRecDepth 20000 in
theorem az_mb252 : az_mP (yJ6_bitCount_0f7a4, cJ6_bitCount_0f7a4, 1, (some .int)) := ⟨az_cIn (k := 4) (j := 53) rfl, 1022, by decide +kernel⟩
set_option maxRecDepth 20000 in
theorem az_mb253 : az_mP (yJ9_floorDiv_7cf53, cJ9_floorDiv_7cf53, 3, (some .int)) := ⟨az_cIn (k := 3) (j := 140) rfl, 1003, by decide +kernel⟩
set_option maxRecDepth 20000 in
theorem az_mb254 : az_mP (yJ9_abs_0f7a4, cJ9_abs_0f7a4, 1, (some .int)) := ⟨az_cIn (k := 1) (j := 43) rfl, 1003, by decide +kernel⟩
set_option maxRecDepth 20000 in
theorem az_mb255 : az_mP (yJ9_max_7cf53, cJ9_max_7cf53, 2, (some .int)) := ⟨az_cIn (k := 1) (j := 153) rfl, 1003, by decide +kernel⟩
set_option maxRecDepth 20000 in
theorem az_mb256 : az_mP (yJ9_max_f86c9, cJ9_max_f86c9, 4, (some .long)) := ⟨az_cIn (k := 5) (j := 97) rfl, 1003, by decide +kernel⟩
set_option maxRecDepth 20000 in
theorem az_mb257 : az_mP (yJ9_min_7cf53, cJ9_min_7cf53, 2, (some .int)) := ⟨az_cIn (k := 1) (j := 150) rfl, 1003, by decide +kernel⟩
set_option maxRecDepth 20000 in
theorem az_mb258 : az_mP (yJ9_min_f86c9, cJ9_min_f86c9, 4, (some .long)) := ⟨az_cIn (k := 5) (j := 94) rfl, 1003, by decide +kernel⟩
set_option maxRecDepth 20000 in
theorem az_mb259 : az_mP (yJ0_length_8abf5, cJ0_length_8abf5, 1, (some .int)) := ⟨az_cIn (k := 4) (j := 147) rfl, 1023, by decide +kernel⟩
set_option maxRecDepth 20000 in
theorem az_mb260 : az_mP (yJ0_charAt_5068e, cJ0_charAt_5068e, 2, (some .char)) := ⟨az_cIn (k := 4) (j := 157) rfl, 1023, by decide +kernel⟩
set_option maxRecDepth 20000 in
theorem az_mb261 : az_mP (yJ0_coder_7d493, cJ0_coder_7d493, 1, (some .byte)) := ⟨az_cIn (k := 4) (j := 151) rfl, 1023, by decide +kernel⟩
set_option maxRecDepth 20000 in
theorem az_mb262 : az_mP (yJ0_isLatin1_aae02, cJ0_isLatin1_aae02, 1, (some .boolean)) := ⟨az_cIn (k := 4) (j := 161) rfl, 1023, by decide +kernel⟩
set_option maxRecDepth 20000 in
theorem az_mb263 : az_mP (yJ0_checkIndex_df160, cJ0_checkIndex_df160, 2, none) := ⟨az_cIn (k := 4) (j := 167) rfl, 1023, by decide +kernel⟩
set_option maxRecDepth 20000 in
theorem az_mb264 : az_mP (yJ1_charAt_3b067, cJ1_charAt_3b067, 2, (some .char)) := ⟨az_cIn (k := 4) (j := 164) rfl, 1024, by decide +kernel⟩
set_option maxRecDepth 20000 in
theorem az_mb265 : az_mP (yJxa1e45_init_da8c8, cJxa1e45_init_da8c8, 1, none) := ⟨az_cIn (k := 1) (j := 69) rfl, 1004, by decide +kernel⟩
set_option maxRecDepth 20000 in
theorem az_mb266 : az_mP (yJxc12de_init_da8c8, cJxc12de_init_da8c8, 1, none) := ⟨az_cIn (k := 1) (j := 66) rfl, 1005, by decide +kernel⟩
set_option maxRecDepth 20000 in
theorem az_mb267 : az_mP (yJx4a65c_init_da8c8, cJx4a65c_init_da8c8, 1, none) := ⟨az_cIn (k := 1) (j := 63) rfl, 1006, by decide +kernel⟩
set_option maxRecDepth 20000 in
theorem az_mb268 : az_mP (yJx4a65c_grow_92f84, cJx4a65c_grow_92f84, 4, (some (.array (.object "java/lang/Object")))) := ⟨az_cIn (k := 2) (j := 149) rfl, 1006, by decide +kernel⟩
set_option maxRecDepth 20000 in
theorem az_mb269 : az_mP (yJx4a65c_grow_d5877, cJx4a65c_grow_d5877, 1, (some (.array (.object "java/lang/Object")))) := ⟨az_cIn (k := 2) (j := 145) rfl, 1006, by decide +kernel⟩
set_option maxRecDepth 20000 in
theorem az_mb270 : az_mP (yJx4a65c_size_8abf5, cJx4a65c_size_8abf5, 1, (some .int)) := ⟨az_cIn (k := 2) (j := 118) rfl, 1006, by decide +kernel⟩
set_option maxRecDepth 20000 in
theorem az_mb271 : az_mP (yJx4a65c_elementData_915e3, cJx4a65c_elementData_915e3, 2, (some (.object "java/lang/Object"))) := ⟨az_cIn (k := 2) (j := 212) rfl, 1006, by decide +kernel⟩
set_option maxRecDepth 20000 in
theorem az_mb272 : az_mP (yJx4a65c_get_915e3, cJx4a65c_get_915e3, 2, (some (.object "java/lang/Object"))) := ⟨az_cIn (k := 2) (j := 202) rfl, 1006, by decide +kernel⟩
set_option maxRecDepth 20000 in
theorem az_mb273 : az_mP (yJx4a65c_add_72be8, cJx4a65c_add_72be8, 4, none) := ⟨az_cIn (k := 2) (j := 141) rfl, 1006, by decide +kernel⟩
set_option maxRecDepth 20000 in
theorem az_mb274 : az_mP (yJx4a65c_add_9ea2d, cJx4a65c_add_9ea2d, 2, (some .boolean)) := ⟨az_cIn (k := 2) (j := 137) rfl, 1006, by decide +kernel⟩
set_option maxRecDepth 20000 in
theorem az_mb275 : az_mP (yJ7_fill_53178, cJ7_fill_53178, 4, none) := ⟨az_cIn (k := 4) (j := 20) rfl, 1016, by decide +kernel⟩
set_option maxRecDepth 20000 in
theorem az_mb276 : az_mP (yJ7_copyOf_1904c, cJ7_copyOf_1904c, 2, (some (.array (.object "java/lang/Object")))) := ⟨az_cIn (k := 2) (j := 160) rfl, 1016, by decide +kernel⟩
set_option maxRecDepth 20000 in
theorem az_mb277 : az_mP (yJ7_copyOf_6403c, cJ7_copyOf_6403c, 4, (some (.array (.object "java/lang/Object")))) := ⟨az_cIn (k := 2) (j := 181) rfl, 1016, by decide +kernel⟩
set_option maxRecDepth 20000 in
theorem az_mb278 : az_mP (yJ15_checkIndex_7cf53, cJ15_checkIndex_7cf53, 2, (some .int)) := ⟨az_cIn (k := 2) (j := 205) rfl, 1018, by decide +kernel⟩
set_option maxRecDepth 20000 in
theorem az_mb279 : az_mP (yJ8_newLength_cabcc, cJ8_newLength_cabcc, 4, (some .int)) := ⟨az_cIn (k := 2) (j := 152) rfl, 1015, by decide +kernel⟩
set_option maxRecDepth 20000 in
theorem az_mb280 : az_mP (yJ3_checkIndex_8e157, cJ3_checkIndex_8e157, 3, (some .int)) := ⟨az_cIn (k := 2) (j := 208) rfl, 1019, by decide +kernel⟩
set_option maxRecDepth 20000 in
theorem az_mb281 : az_mP (yL_cell, cL_cell, 2, (some .int)) := ⟨az_cIn (k := 6) (j := 31) rfl, 1000, by decide +kernel⟩
end
section
theorem az_mbs0 : ∀ y M, y < 47 → az_ms (0 + y) = some M → az_mP M := by
  intro y M hy h
  match y, hy, h with
  | 0, _, h => exact (Option.some.inj h) ▸ az_mb0
  | 1, _, h => exact (Option.some.inj h) ▸ az_mb1
  | 2, _, h => exact (Option.some.inj h) ▸ az_mb2
  | 3, _, h => exact (Option.some.inj h) ▸ az_mb3
  | 4, _, h => exact (Option.some.inj h) ▸ az_mb4
  | 5, _, h => exact (Option.some.inj h) ▸ az_mb5
  | 6, _, h => exact (Option.some.inj h) ▸ az_mb6
  | 7, _, h => exact (Option.some.inj h) ▸ az_mb7
  | 8, _, h => exact (Option.some.inj h) ▸ az_mb8
  | 9, _, h => exact (Option.some.inj h) ▸ az_mb9
  | 10, _, h => exact (Option.some.inj h) ▸ az_mb10
  | 11, _, h => exact (Option.some.inj h) ▸ az_mb11
  | 12, _, h => exact (Option.some.inj h) ▸ az_mb12
  | 13, _, h => exact (Option.some.inj h) ▸ az_mb13
  | 14, _, h => exact (Option.some.inj h) ▸ az_mb14
  | 15, _, h => exact (Option.some.inj h) ▸ az_mb15
  | 16, _, h => exact (Option.some.inj h) ▸ az_mb16
  | 17, _, h => exact (Option.some.inj h) ▸ az_mb17
  | 18, _, h => exact (Option.some.inj h) ▸ az_mb18
  | 19, _, h => exact (Option.some.inj h) ▸ az_mb19
  | 20, _, h => exact (Option.some.inj h) ▸ az_mb20
  | 21, _, h => exact (Option.some.inj h) ▸ az_mb21
  | 22, _, h => exact (Option.some.inj h) ▸ az_mb22
  | 23, _, h => exact (Option.some.inj h) ▸ az_mb23
  | 24, _, h => exact (Option.some.inj h) ▸ az_mb24
  | 25, _, h => exact (Option.some.inj h) ▸ az_mb25
  | 26, _, h => exact (Option.some.inj h) ▸ az_mb26
  | 27, _, h => exact (Option.some.inj h) ▸ az_mb27
  | 28, _, h => exact (Option.some.inj h) ▸ az_mb28
  | 29, _, h => exact (Option.some.inj h) ▸ az_mb29
  | 30, _, h => exact (Option.some.inj h) ▸ az_mb30
  | 31, _, h => exact (Option.some.inj h) ▸ az_mb31
  | 32, _, h => exact (Option.some.inj h) ▸ az_mb32
  | 33, _, h => exact (Option.some.inj h) ▸ az_mb33
  | 34, _, h => exact (Option.some.inj h) ▸ az_mb34
  | 35, _, h => exact (Option.some.inj h) ▸ az_mb35
  | 36, _, h => exact (Option.some.inj h) ▸ az_mb36
  | 37, _, h => exact (Option.some.inj h) ▸ az_mb37
  | 38, _, h => exact (Option.some.inj h) ▸ az_mb38
  | 39, _, h => exact (Option.some.inj h) ▸ az_mb39
  | 40, _, h => exact (Option.some.inj h) ▸ az_mb40
  | 41, _, h => exact (Option.some.inj h) ▸ az_mb41
  | 42, _, h => exact (Option.some.inj h) ▸ az_mb42
  | 43, _, h => exact (Option.some.inj h) ▸ az_mb43
  | 44, _, h => exact (Option.some.inj h) ▸ az_mb44
  | 45, _, h => exact (Option.some.inj h) ▸ az_mb45
  | 46, _, h => exact (Option.some.inj h) ▸ az_mb46
  | j + 47, hy, _ => omega
theorem az_mbs1 : ∀ y M, y < 47 → az_ms (47 + y) = some M → az_mP M := by
  intro y M hy h
  match y, hy, h with
  | 0, _, h => exact (Option.some.inj h) ▸ az_mb47
  | 1, _, h => exact (Option.some.inj h) ▸ az_mb48
  | 2, _, h => exact (Option.some.inj h) ▸ az_mb49
  | 3, _, h => exact (Option.some.inj h) ▸ az_mb50
  | 4, _, h => exact (Option.some.inj h) ▸ az_mb51
  | 5, _, h => exact (Option.some.inj h) ▸ az_mb52
  | 6, _, h => exact (Option.some.inj h) ▸ az_mb53
  | 7, _, h => exact (Option.some.inj h) ▸ az_mb54
  | 8, _, h => exact (Option.some.inj h) ▸ az_mb55
  | 9, _, h => exact (Option.some.inj h) ▸ az_mb56
  | 10, _, h => exact (Option.some.inj h) ▸ az_mb57
  | 11, _, h => exact (Option.some.inj h) ▸ az_mb58
  | 12, _, h => exact (Option.some.inj h) ▸ az_mb59
  | 13, _, h => exact (Option.some.inj h) ▸ az_mb60
  | 14, _, h => exact (Option.some.inj h) ▸ az_mb61
  | 15, _, h => exact (Option.some.inj h) ▸ az_mb62
  | 16, _, h => exact (Option.some.inj h) ▸ az_mb63
  | 17, _, h => exact (Option.some.inj h) ▸ az_mb64
  | 18, _, h => exact (Option.some.inj h) ▸ az_mb65
  | 19, _, h => exact (Option.some.inj h) ▸ az_mb66
  | 20, _, h => exact (Option.some.inj h) ▸ az_mb67
  | 21, _, h => exact (Option.some.inj h) ▸ az_mb68
  | 22, _, h => exact (Option.some.inj h) ▸ az_mb69
  | 23, _, h => exact (Option.some.inj h) ▸ az_mb70
  | 24, _, h => exact (Option.some.inj h) ▸ az_mb71
  | 25, _, h => exact (Option.some.inj h) ▸ az_mb72
  | 26, _, h => exact (Option.some.inj h) ▸ az_mb73
  | 27, _, h => exact (Option.some.inj h) ▸ az_mb74
  | 28, _, h => exact (Option.some.inj h) ▸ az_mb75
  | 29, _, h => exact (Option.some.inj h) ▸ az_mb76
  | 30, _, h => exact (Option.some.inj h) ▸ az_mb77
  | 31, _, h => exact (Option.some.inj h) ▸ az_mb78
  | 32, _, h => exact (Option.some.inj h) ▸ az_mb79
  | 33, _, h => exact (Option.some.inj h) ▸ az_mb80
  | 34, _, h => exact (Option.some.inj h) ▸ az_mb81
  | 35, _, h => exact (Option.some.inj h) ▸ az_mb82
  | 36, _, h => exact (Option.some.inj h) ▸ az_mb83
  | 37, _, h => exact (Option.some.inj h) ▸ az_mb84
  | 38, _, h => exact (Option.some.inj h) ▸ az_mb85
  | 39, _, h => exact (Option.some.inj h) ▸ az_mb86
  | 40, _, h => exact (Option.some.inj h) ▸ az_mb87
  | 41, _, h => exact (Option.some.inj h) ▸ az_mb88
  | 42, _, h => exact (Option.some.inj h) ▸ az_mb89
  | 43, _, h => exact (Option.some.inj h) ▸ az_mb90
  | 44, _, h => exact (Option.some.inj h) ▸ az_mb91
  | 45, _, h => exact (Option.some.inj h) ▸ az_mb92
  | 46, _, h => exact (Option.some.inj h) ▸ az_mb93
  | j + 47, hy, _ => omega
theorem az_mbs2 : ∀ y M, y < 47 → az_ms (94 + y) = some M → az_mP M := by
  intro y M hy h
  match y, hy, h with
  | 0, _, h => exact (Option.some.inj h) ▸ az_mb94
  | 1, _, h => exact (Option.some.inj h) ▸ az_mb95
  | 2, _, h => exact (Option.some.inj h) ▸ az_mb96
  | 3, _, h => exact (Option.some.inj h) ▸ az_mb97
  | 4, _, h => exact (Option.some.inj h) ▸ az_mb98
  | 5, _, h => exact (Option.some.inj h) ▸ az_mb99
  | 6, _, h => exact (Option.some.inj h) ▸ az_mb100
  | 7, _, h => exact (Option.some.inj h) ▸ az_mb101
  | 8, _, h => exact (Option.some.inj h) ▸ az_mb102
  | 9, _, h => exact (Option.some.inj h) ▸ az_mb103
  | 10, _, h => exact (Option.some.inj h) ▸ az_mb104
  | 11, _, h => exact (Option.some.inj h) ▸ az_mb105
  | 12, _, h => exact (Option.some.inj h) ▸ az_mb106
  | 13, _, h => exact (Option.some.inj h) ▸ az_mb107
  | 14, _, h => exact (Option.some.inj h) ▸ az_mb108
  | 15, _, h => exact (Option.some.inj h) ▸ az_mb109
  | 16, _, h => exact (Option.some.inj h) ▸ az_mb110
  | 17, _, h => exact (Option.some.inj h) ▸ az_mb111
  | 18, _, h => exact (Option.some.inj h) ▸ az_mb112
  | 19, _, h => exact (Option.some.inj h) ▸ az_mb113
  | 20, _, h => exact (Option.some.inj h) ▸ az_mb114
  | 21, _, h => exact (Option.some.inj h) ▸ az_mb115
  | 22, _, h => exact (Option.some.inj h) ▸ az_mb116
  | 23, _, h => exact (Option.some.inj h) ▸ az_mb117
  | 24, _, h => exact (Option.some.inj h) ▸ az_mb118
  | 25, _, h => exact (Option.some.inj h) ▸ az_mb119
  | 26, _, h => exact (Option.some.inj h) ▸ az_mb120
  | 27, _, h => exact (Option.some.inj h) ▸ az_mb121
  | 28, _, h => exact (Option.some.inj h) ▸ az_mb122
  | 29, _, h => exact (Option.some.inj h) ▸ az_mb123
  | 30, _, h => exact (Option.some.inj h) ▸ az_mb124
  | 31, _, h => exact (Option.some.inj h) ▸ az_mb125
  | 32, _, h => exact (Option.some.inj h) ▸ az_mb126
  | 33, _, h => exact (Option.some.inj h) ▸ az_mb127
  | 34, _, h => exact (Option.some.inj h) ▸ az_mb128
  | 35, _, h => exact (Option.some.inj h) ▸ az_mb129
  | 36, _, h => exact (Option.some.inj h) ▸ az_mb130
  | 37, _, h => exact (Option.some.inj h) ▸ az_mb131
  | 38, _, h => exact (Option.some.inj h) ▸ az_mb132
  | 39, _, h => exact (Option.some.inj h) ▸ az_mb133
  | 40, _, h => exact (Option.some.inj h) ▸ az_mb134
  | 41, _, h => exact (Option.some.inj h) ▸ az_mb135
  | 42, _, h => exact (Option.some.inj h) ▸ az_mb136
  | 43, _, h => exact (Option.some.inj h) ▸ az_mb137
  | 44, _, h => exact (Option.some.inj h) ▸ az_mb138
  | 45, _, h => exact (Option.some.inj h) ▸ az_mb139
  | 46, _, h => exact (Option.some.inj h) ▸ az_mb140
  | j + 47, hy, _ => omega
theorem az_mbs3 : ∀ y M, y < 47 → az_ms (141 + y) = some M → az_mP M := by
  intro y M hy h
  match y, hy, h with
  | 0, _, h => exact (Option.some.inj h) ▸ az_mb141
  | 1, _, h => exact (Option.some.inj h) ▸ az_mb142
  | 2, _, h => exact (Option.some.inj h) ▸ az_mb143
  | 3, _, h => exact (Option.some.inj h) ▸ az_mb144
  | 4, _, h => exact (Option.some.inj h) ▸ az_mb145
  | 5, _, h => exact (Option.some.inj h) ▸ az_mb146
  | 6, _, h => exact (Option.some.inj h) ▸ az_mb147
  | 7, _, h => exact (Option.some.inj h) ▸ az_mb148
  | 8, _, h => exact (Option.some.inj h) ▸ az_mb149
  | 9, _, h => exact (Option.some.inj h) ▸ az_mb150
  | 10, _, h => exact (Option.some.inj h) ▸ az_mb151
  | 11, _, h => exact (Option.some.inj h) ▸ az_mb152
  | 12, _, h => exact (Option.some.inj h) ▸ az_mb153
  | 13, _, h => exact (Option.some.inj h) ▸ az_mb154
  | 14, _, h => exact (Option.some.inj h) ▸ az_mb155
  | 15, _, h => exact (Option.some.inj h) ▸ az_mb156
  | 16, _, h => exact (Option.some.inj h) ▸ az_mb157
  | 17, _, h => exact (Option.some.inj h) ▸ az_mb158
  | 18, _, h => exact (Option.some.inj h) ▸ az_mb159
  | 19, _, h => exact (Option.some.inj h) ▸ az_mb160
  | 20, _, h => exact (Option.some.inj h) ▸ az_mb161
  | 21, _, h => exact (Option.some.inj h) ▸ az_mb162
  | 22, _, h => exact (Option.some.inj h) ▸ az_mb163
  | 23, _, h => exact (Option.some.inj h) ▸ az_mb164
  | 24, _, h => exact (Option.some.inj h) ▸ az_mb165
  | 25, _, h => exact (Option.some.inj h) ▸ az_mb166
  | 26, _, h => exact (Option.some.inj h) ▸ az_mb167
  | 27, _, h => exact (Option.some.inj h) ▸ az_mb168
  | 28, _, h => exact (Option.some.inj h) ▸ az_mb169
  | 29, _, h => exact (Option.some.inj h) ▸ az_mb170
  | 30, _, h => exact (Option.some.inj h) ▸ az_mb171
  | 31, _, h => exact (Option.some.inj h) ▸ az_mb172
  | 32, _, h => exact (Option.some.inj h) ▸ az_mb173
  | 33, _, h => exact (Option.some.inj h) ▸ az_mb174
  | 34, _, h => exact (Option.some.inj h) ▸ az_mb175
  | 35, _, h => exact (Option.some.inj h) ▸ az_mb176
  | 36, _, h => exact (Option.some.inj h) ▸ az_mb177
  | 37, _, h => exact (Option.some.inj h) ▸ az_mb178
  | 38, _, h => exact (Option.some.inj h) ▸ az_mb179
  | 39, _, h => exact (Option.some.inj h) ▸ az_mb180
  | 40, _, h => exact (Option.some.inj h) ▸ az_mb181
  | 41, _, h => exact (Option.some.inj h) ▸ az_mb182
  | 42, _, h => exact (Option.some.inj h) ▸ az_mb183
  | 43, _, h => exact (Option.some.inj h) ▸ az_mb184
  | 44, _, h => exact (Option.some.inj h) ▸ az_mb185
  | 45, _, h => exact (Option.some.inj h) ▸ az_mb186
  | 46, _, h => exact (Option.some.inj h) ▸ az_mb187
  | j + 47, hy, _ => omega
theorem az_mbs4 : ∀ y M, y < 47 → az_ms (188 + y) = some M → az_mP M := by
  intro y M hy h
  match y, hy, h with
  | 0, _, h => exact (Option.some.inj h) ▸ az_mb188
  | 1, _, h => exact (Option.some.inj h) ▸ az_mb189
  | 2, _, h => exact (Option.some.inj h) ▸ az_mb190
  | 3, _, h => exact (Option.some.inj h) ▸ az_mb191
  | 4, _, h => exact (Option.some.inj h) ▸ az_mb192
  | 5, _, h => exact (Option.some.inj h) ▸ az_mb193
  | 6, _, h => exact (Option.some.inj h) ▸ az_mb194
  | 7, _, h => exact (Option.some.inj h) ▸ az_mb195
  | 8, _, h => exact (Option.some.inj h) ▸ az_mb196
  | 9, _, h => exact (Option.some.inj h) ▸ az_mb197
  | 10, _, h => exact (Option.some.inj h) ▸ az_mb198
  | 11, _, h => exact (Option.some.inj h) ▸ az_mb199
  | 12, _, h => exact (Option.some.inj h) ▸ az_mb200
  | 13, _, h => exact (Option.some.inj h) ▸ az_mb201
  | 14, _, h => exact (Option.some.inj h) ▸ az_mb202
  | 15, _, h => exact (Option.some.inj h) ▸ az_mb203
  | 16, _, h => exact (Option.some.inj h) ▸ az_mb204
  | 17, _, h => exact (Option.some.inj h) ▸ az_mb205
  | 18, _, h => exact (Option.some.inj h) ▸ az_mb206
  | 19, _, h => exact (Option.some.inj h) ▸ az_mb207
  | 20, _, h => exact (Option.some.inj h) ▸ az_mb208
  | 21, _, h => exact (Option.some.inj h) ▸ az_mb209
  | 22, _, h => exact (Option.some.inj h) ▸ az_mb210
  | 23, _, h => exact (Option.some.inj h) ▸ az_mb211
  | 24, _, h => exact (Option.some.inj h) ▸ az_mb212
  | 25, _, h => exact (Option.some.inj h) ▸ az_mb213
  | 26, _, h => exact (Option.some.inj h) ▸ az_mb214
  | 27, _, h => exact (Option.some.inj h) ▸ az_mb215
  | 28, _, h => exact (Option.some.inj h) ▸ az_mb216
  | 29, _, h => exact (Option.some.inj h) ▸ az_mb217
  | 30, _, h => exact (Option.some.inj h) ▸ az_mb218
  | 31, _, h => exact (Option.some.inj h) ▸ az_mb219
  | 32, _, h => exact (Option.some.inj h) ▸ az_mb220
  | 33, _, h => exact (Option.some.inj h) ▸ az_mb221
  | 34, _, h => exact (Option.some.inj h) ▸ az_mb222
  | 35, _, h => exact (Option.some.inj h) ▸ az_mb223
  | 36, _, h => exact (Option.some.inj h) ▸ az_mb224
  | 37, _, h => exact (Option.some.inj h) ▸ az_mb225
  | 38, _, h => exact (Option.some.inj h) ▸ az_mb226
  | 39, _, h => exact (Option.some.inj h) ▸ az_mb227
  | 40, _, h => exact (Option.some.inj h) ▸ az_mb228
  | 41, _, h => exact (Option.some.inj h) ▸ az_mb229
  | 42, _, h => exact (Option.some.inj h) ▸ az_mb230
  | 43, _, h => exact (Option.some.inj h) ▸ az_mb231
  | 44, _, h => exact (Option.some.inj h) ▸ az_mb232
  | 45, _, h => exact (Option.some.inj h) ▸ az_mb233
  | 46, _, h => exact (Option.some.inj h) ▸ az_mb234
  | j + 47, hy, _ => omega
theorem az_mbs5 : ∀ y M, y < 47 → az_ms (235 + y) = some M → az_mP M := by
  intro y M hy h
  match y, hy, h with
  | 0, _, h => exact (Option.some.inj h) ▸ az_mb235
  | 1, _, h => exact (Option.some.inj h) ▸ az_mb236
  | 2, _, h => exact (Option.some.inj h) ▸ az_mb237
  | 3, _, h => exact (Option.some.inj h) ▸ az_mb238
  | 4, _, h => exact (Option.some.inj h) ▸ az_mb239
  | 5, _, h => exact (Option.some.inj h) ▸ az_mb240
  | 6, _, h => exact (Option.some.inj h) ▸ az_mb241
  | 7, _, h => exact (Option.some.inj h) ▸ az_mb242
  | 8, _, h => exact (Option.some.inj h) ▸ az_mb243
  | 9, _, h => exact (Option.some.inj h) ▸ az_mb244
  | 10, _, h => exact (Option.some.inj h) ▸ az_mb245
  | 11, _, h => exact (Option.some.inj h) ▸ az_mb246
  | 12, _, h => exact (Option.some.inj h) ▸ az_mb247
  | 13, _, h => exact (Option.some.inj h) ▸ az_mb248
  | 14, _, h => exact (Option.some.inj h) ▸ az_mb249
  | 15, _, h => exact (Option.some.inj h) ▸ az_mb250
  | 16, _, h => exact (Option.some.inj h) ▸ az_mb251
  | 17, _, h => exact (Option.some.inj h) ▸ az_mb252
  | 18, _, h => exact (Option.some.inj h) ▸ az_mb253
  | 19, _, h => exact (Option.some.inj h) ▸ az_mb254
  | 20, _, h => exact (Option.some.inj h) ▸ az_mb255
  | 21, _, h => exact (Option.some.inj h) ▸ az_mb256
  | 22, _, h => exact (Option.some.inj h) ▸ az_mb257
  | 23, _, h => exact (Option.some.inj h) ▸ az_mb258
  | 24, _, h => exact (Option.some.inj h) ▸ az_mb259
  | 25, _, h => exact (Option.some.inj h) ▸ az_mb260
  | 26, _, h => exact (Option.some.inj h) ▸ az_mb261
  | 27, _, h => exact (Option.some.inj h) ▸ az_mb262
  | 28, _, h => exact (Option.some.inj h) ▸ az_mb263
  | 29, _, h => exact (Option.some.inj h) ▸ az_mb264
  | 30, _, h => exact (Option.some.inj h) ▸ az_mb265
  | 31, _, h => exact (Option.some.inj h) ▸ az_mb266
  | 32, _, h => exact (Option.some.inj h) ▸ az_mb267
  | 33, _, h => exact (Option.some.inj h) ▸ az_mb268
  | 34, _, h => exact (Option.some.inj h) ▸ az_mb269
  | 35, _, h => exact (Option.some.inj h) ▸ az_mb270
  | 36, _, h => exact (Option.some.inj h) ▸ az_mb271
  | 37, _, h => exact (Option.some.inj h) ▸ az_mb272
  | 38, _, h => exact (Option.some.inj h) ▸ az_mb273
  | 39, _, h => exact (Option.some.inj h) ▸ az_mb274
  | 40, _, h => exact (Option.some.inj h) ▸ az_mb275
  | 41, _, h => exact (Option.some.inj h) ▸ az_mb276
  | 42, _, h => exact (Option.some.inj h) ▸ az_mb277
  | 43, _, h => exact (Option.some.inj h) ▸ az_mb278
  | 44, _, h => exact (Option.some.inj h) ▸ az_mb279
  | 45, _, h => exact (Option.some.inj h) ▸ az_mb280
  | 46, _, h => exact (Option.some.inj h) ▸ az_mb281
  | j + 47, hy, _ => omega
theorem az_mlen : az_msl.length = 282 := by decide +kernel
theorem az_ms_lt {y : Nat} {M : az_M} (h : az_ms y = some M) : y < 282 := by
  have := (List.getElem?_eq_some_iff.mp h).1
  rw [az_mlen] at this
  exact this
theorem az_mb_all {y : Nat} {M : az_M} (h : az_ms y = some M) : az_mP M := by
  have hl := az_ms_lt h
  by_cases h0 : y < 47
  · exact az_mbs0 (y - 0) M (by omega) (by rw [show 0 + (y - 0) = y by omega]; exact h)
  by_cases h1 : y < 94
  · exact az_mbs1 (y - 47) M (by omega) (by rw [show 47 + (y - 47) = y by omega]; exact h)
  by_cases h2 : y < 141
  · exact az_mbs2 (y - 94) M (by omega) (by rw [show 94 + (y - 94) = y by omega]; exact h)
  by_cases h3 : y < 188
  · exact az_mbs3 (y - 141) M (by omega) (by rw [show 141 + (y - 141) = y by omega]; exact h)
  by_cases h4 : y < 235
  · exact az_mbs4 (y - 188) M (by omega) (by rw [show 188 + (y - 188) = y by omega]; exact h)
  by_cases h5 : y < 282
  · exact az_mbs5 (y - 235) M (by omega) (by rw [show 235 + (y - 235) = y by omega]; exact h)
  omega
theorem az_mok_all : az_mok az_ms ∧ ∀ y M, az_ms y = some M → plainFor M.1 = true := by
  refine ⟨fun y M h => ?_, fun y M h => ?_⟩
  · obtain ⟨h1, c, hc⟩ := az_mb_all h
    simp only [az_mb, Bool.and_eq_true, decide_eq_true_eq] at hc
    obtain ⟨h2, h3, h4, h5, h6⟩ := hc
    exact ⟨h1, az_is_in h2, ⟨h3, h4⟩, h5⟩
  · obtain ⟨h1, c, hc⟩ := az_mb_all h
    simp only [az_mb, Bool.and_eq_true, decide_eq_true_eq] at hc
    exact hc.2.2.2.2
end
section
set_option maxRecDepth 20000 in
theorem az_t0 : ∀ q ∈ k_X0_init, az_iok az_ms (az_o 0) yX0_init.name cX0_init q := az_tc_ok az_pool_ok az_mok_all.1 0 true (fun _ => rfl) (by decide +kernel)
set_option maxRecDepth 20000 in
theorem az_t1 : ∀ q ∈ k_X0_limit, az_iok az_ms (az_o 0) yX0_limit.name cX0_limit q := az_tc_ok az_pool_ok az_mok_all.1 0 false (fun h => by cases h) (by decide +kernel)
set_option maxRecDepth 20000 in
theorem az_t2 : ∀ q ∈ k_X0_covers, az_iok az_ms (az_o 0) yX0_covers.name cX0_covers q := az_tc_ok az_pool_ok az_mok_all.1 0 false (fun h => by cases h) (by decide +kernel)
set_option maxRecDepth 20000 in
theorem az_t3 : ∀ q ∈ k_X0_holdsOn, az_iok az_ms (az_o 0) yX0_holdsOn.name cX0_holdsOn q := az_tc_ok az_pool_ok az_mok_all.1 0 false (fun h => by cases h) (by decide +kernel)
set_option maxRecDepth 20000 in
theorem az_t4 : ∀ q ∈ k_X1_init, az_iok az_ms (az_o 1) yX1_init.name cX1_init q := az_tc_ok az_pool_ok az_mok_all.1 1 true (fun _ => rfl) (by decide +kernel)
set_option maxRecDepth 20000 in
theorem az_t5 : ∀ q ∈ k_X1_has, az_iok az_ms (az_o 1) yX1_has.name cX1_has q := az_tc_ok az_pool_ok az_mok_all.1 1 false (fun h => by cases h) (by decide +kernel)
set_option maxRecDepth 20000 in
theorem az_t6 : ∀ q ∈ k_X1_columnOf, az_iok az_ms (az_o 1) yX1_columnOf.name cX1_columnOf q := az_tc_ok az_pool_ok az_mok_all.1 1 false (fun h => by cases h) (by decide +kernel)
set_option maxRecDepth 20000 in
theorem az_t7 : ∀ q ∈ k_X1_rowOf, az_iok az_ms (az_o 1) yX1_rowOf.name cX1_rowOf q := az_tc_ok az_pool_ok az_mok_all.1 1 false (fun h => by cases h) (by decide +kernel)
set_option maxRecDepth 20000 in
theorem az_t8 : ∀ q ∈ k_X1_cellAt, az_iok az_ms (az_o 1) yX1_cellAt.name cX1_cellAt q := az_tc_ok az_pool_ok az_mok_all.1 1 false (fun h => by cases h) (by decide +kernel)
set_option maxRecDepth 20000 in
theorem az_t9 : ∀ q ∈ k_X1_stepsBetween, az_iok az_ms (az_o 1) yX1_stepsBetween.name cX1_stepsBetween q := az_tc_ok az_pool_ok az_mok_all.1 1 false (fun h => by cases h) (by decide +kernel)
set_option maxRecDepth 20000 in
theorem az_t10 : ∀ q ∈ k_X2_init, az_iok az_ms (az_o 2) yX2_init.name cX2_init q := az_tc_ok az_pool_ok az_mok_all.1 2 true (fun _ => rfl) (by decide +kernel)
set_option maxRecDepth 20000 in
theorem az_t11 : ∀ q ∈ k_X2_parseInto, az_iok az_ms (az_o 2) yX2_parseInto.name cX2_parseInto q := az_tc_ok az_pool_ok az_mok_all.1 2 false (fun h => by cases h) (by decide +kernel)
set_option maxRecDepth 20000 in
theorem az_t12 : ∀ q ∈ k_X2_fail, az_iok az_ms (az_o 2) yX2_fail.name cX2_fail q := az_tc_ok az_pool_ok az_mok_all.1 2 false (fun h => by cases h) (by decide +kernel)
set_option maxRecDepth 20000 in
theorem az_t13 : ∀ q ∈ k_X2_advance, az_iok az_ms (az_o 2) yX2_advance.name cX2_advance q := az_tc_ok az_pool_ok az_mok_all.1 2 false (fun h => by cases h) (by decide +kernel)
set_option maxRecDepth 20000 in
theorem az_t14 : ∀ q ∈ k_X2_pass, az_iok az_ms (az_o 2) yX2_pass.name cX2_pass q := az_tc_ok az_pool_ok az_mok_all.1 2 false (fun h => by cases h) (by decide +kernel)
set_option maxRecDepth 20000 in
theorem az_t15 : ∀ q ∈ k_X2_open, az_iok az_ms (az_o 2) yX2_open.name cX2_open q := az_tc_ok az_pool_ok az_mok_all.1 2 false (fun h => by cases h) (by decide +kernel)
set_option maxRecDepth 20000 in
theorem az_t16 : ∀ q ∈ k_X2_rule, az_iok az_ms (az_o 2) yX2_rule.name cX2_rule q := az_tc_ok az_pool_ok az_mok_all.1 2 false (fun h => by cases h) (by decide +kernel)
set_option maxRecDepth 20000 in
theorem az_t17 : ∀ q ∈ k_X2_either, az_iok az_ms (az_o 2) yX2_either.name cX2_either q := az_tc_ok az_pool_ok az_mok_all.1 2 false (fun h => by cases h) (by decide +kernel)
set_option maxRecDepth 20000 in
theorem az_t18 : ∀ q ∈ k_X2_both, az_iok az_ms (az_o 2) yX2_both.name cX2_both q := az_tc_ok az_pool_ok az_mok_all.1 2 false (fun h => by cases h) (by decide +kernel)
set_option maxRecDepth 20000 in
theorem az_t19 : ∀ q ∈ k_X2_ask, az_iok az_ms (az_o 2) yX2_ask.name cX2_ask q := az_tc_ok az_pool_ok az_mok_all.1 2 false (fun h => by cases h) (by decide +kernel)
set_option maxRecDepth 20000 in
theorem az_t20 : ∀ q ∈ k_X2_sum, az_iok az_ms (az_o 2) yX2_sum.name cX2_sum q := az_tc_ok az_pool_ok az_mok_all.1 2 false (fun h => by cases h) (by decide +kernel)
set_option maxRecDepth 20000 in
theorem az_t21 : ∀ q ∈ k_X2_product, az_iok az_ms (az_o 2) yX2_product.name cX2_product q := az_tc_ok az_pool_ok az_mok_all.1 2 false (fun h => by cases h) (by decide +kernel)
set_option maxRecDepth 20000 in
theorem az_t22 : ∀ q ∈ k_X2_one, az_iok az_ms (az_o 2) yX2_one.name cX2_one q := az_tc_ok az_pool_ok az_mok_all.1 2 false (fun h => by cases h) (by decide +kernel)
set_option maxRecDepth 20000 in
theorem az_t23 : ∀ q ∈ k_X2_value, az_iok az_ms (az_o 2) yX2_value.name cX2_value q := az_tc_ok az_pool_ok az_mok_all.1 2 false (fun h => by cases h) (by decide +kernel)
set_option maxRecDepth 20000 in
theorem az_t24 : ∀ q ∈ k_X3_init, az_iok az_ms (az_o 3) yX3_init.name cX3_init q := az_tc_ok az_pool_ok az_mok_all.1 3 true (fun _ => rfl) (by decide +kernel)
set_option maxRecDepth 20000 in
theorem az_t25 : ∀ q ∈ k_X3_wasDead, az_iok az_ms (az_o 3) yX3_wasDead.name cX3_wasDead q := az_tc_ok az_pool_ok az_mok_all.1 3 false (fun h => by cases h) (by decide +kernel)
set_option maxRecDepth 20000 in
theorem az_t26 : ∀ q ∈ k_X4_init, az_iok az_ms (az_o 4) yX4_init.name cX4_init q := az_tc_ok az_pool_ok az_mok_all.1 4 true (fun _ => rfl) (by decide +kernel)
set_option maxRecDepth 20000 in
theorem az_t27 : ∀ q ∈ k_X4_startFromBehind, az_iok az_ms (az_o 4) yX4_startFromBehind.name cX4_startFromBehind q := az_tc_ok az_pool_ok az_mok_all.1 4 false (fun h => by cases h) (by decide +kernel)
set_option maxRecDepth 20000 in
theorem az_t28 : ∀ q ∈ k_X4_goBackAnHour, az_iok az_ms (az_o 4) yX4_goBackAnHour.name cX4_goBackAnHour q := az_tc_ok az_pool_ok az_mok_all.1 4 false (fun h => by cases h) (by decide +kernel)
set_option maxRecDepth 20000 in
theorem az_t29 : ∀ q ∈ k_X4_leadsOn, az_iok az_ms (az_o 4) yX4_leadsOn.name cX4_leadsOn q := az_tc_ok az_pool_ok az_mok_all.1 4 false (fun h => by cases h) (by decide +kernel)
set_option maxRecDepth 20000 in
theorem az_t30 : ∀ q ∈ k_X4_bestNext, az_iok az_ms (az_o 4) yX4_bestNext.name cX4_bestNext q := az_tc_ok az_pool_ok az_mok_all.1 4 false (fun h => by cases h) (by decide +kernel)
set_option maxRecDepth 20000 in
theorem az_t31 : ∀ q ∈ k_X4_isBetter, az_iok az_ms (az_o 4) yX4_isBetter.name cX4_isBetter q := az_tc_ok az_pool_ok az_mok_all.1 4 false (fun h => by cases h) (by decide +kernel)
set_option maxRecDepth 20000 in
theorem az_t32 : ∀ q ∈ k_X4_lead, az_iok az_ms (az_o 4) yX4_lead.name cX4_lead q := az_tc_ok az_pool_ok az_mok_all.1 4 false (fun h => by cases h) (by decide +kernel)
set_option maxRecDepth 20000 in
theorem az_t33 : ∀ q ∈ k_X4_follow, az_iok az_ms (az_o 4) yX4_follow.name cX4_follow q := az_tc_ok az_pool_ok az_mok_all.1 4 false (fun h => by cases h) (by decide +kernel)
set_option maxRecDepth 20000 in
theorem az_t34 : ∀ q ∈ k_X4_charges, az_iok az_ms (az_o 4) yX4_charges.name cX4_charges q := az_tc_ok az_pool_ok az_mok_all.1 4 false (fun h => by cases h) (by decide +kernel)
set_option maxRecDepth 20000 in
theorem az_t35 : ∀ q ∈ k_X4_cellOfPath, az_iok az_ms (az_o 4) yX4_cellOfPath.name cX4_cellOfPath q := az_tc_ok az_pool_ok az_mok_all.1 4 false (fun h => by cases h) (by decide +kernel)
set_option maxRecDepth 20000 in
theorem az_t36 : ∀ q ∈ k_X5_init, az_iok az_ms (az_o 5) yX5_init.name cX5_init q := az_tc_ok az_pool_ok az_mok_all.1 5 true (fun _ => rfl) (by decide +kernel)
set_option maxRecDepth 20000 in
theorem az_t37 : ∀ q ∈ k_X5_lookAt, az_iok az_ms (az_o 5) yX5_lookAt.name cX5_lookAt q := az_tc_ok az_pool_ok az_mok_all.1 5 false (fun h => by cases h) (by decide +kernel)
set_option maxRecDepth 20000 in
theorem az_t38 : ∀ q ∈ k_X5_turnTo, az_iok az_ms (az_o 5) yX5_turnTo.name cX5_turnTo q := az_tc_ok az_pool_ok az_mok_all.1 5 false (fun h => by cases h) (by decide +kernel)
set_option maxRecDepth 20000 in
theorem az_t39 : ∀ q ∈ k_X5_castShadow, az_iok az_ms (az_o 5) yX5_castShadow.name cX5_castShadow q := az_tc_ok az_pool_ok az_mok_all.1 5 false (fun h => by cases h) (by decide +kernel)
set_option maxRecDepth 20000 in
theorem az_t40 : ∀ q ∈ k_X5_heightOf, az_iok az_ms (az_o 5) yX5_heightOf.name cX5_heightOf q := az_tc_ok az_pool_ok az_mok_all.1 5 false (fun h => by cases h) (by decide +kernel)
set_option maxRecDepth 20000 in
theorem az_t41 : ∀ q ∈ k_X5_isOpen, az_iok az_ms (az_o 5) yX5_isOpen.name cX5_isOpen q := az_tc_ok az_pool_ok az_mok_all.1 5 false (fun h => by cases h) (by decide +kernel)
set_option maxRecDepth 20000 in
theorem az_t42 : ∀ q ∈ k_X5_shadersOf, az_iok az_ms (az_o 5) yX5_shadersOf.name cX5_shadersOf q := az_tc_ok az_pool_ok az_mok_all.1 5 false (fun h => by cases h) (by decide +kernel)
set_option maxRecDepth 20000 in
theorem az_t43 : ∀ q ∈ k_X5_partsOf, az_iok az_ms (az_o 5) yX5_partsOf.name cX5_partsOf q := az_tc_ok az_pool_ok az_mok_all.1 5 false (fun h => by cases h) (by decide +kernel)
set_option maxRecDepth 20000 in
theorem az_t44 : ∀ q ∈ k_X5_partsOfAll, az_iok az_ms (az_o 5) yX5_partsOfAll.name cX5_partsOfAll q := az_tc_ok az_pool_ok az_mok_all.1 5 false (fun h => by cases h) (by decide +kernel)
set_option maxRecDepth 20000 in
theorem az_t45 : ∀ q ∈ k_X5_cellsShadedBy, az_iok az_ms (az_o 5) yX5_cellsShadedBy.name cX5_cellsShadedBy q := az_tc_ok az_pool_ok az_mok_all.1 5 false (fun h => by cases h) (by decide +kernel)
set_option maxRecDepth 20000 in
theorem az_t46 : ∀ q ∈ k_X6_init, az_iok az_ms (az_o 6) yX6_init.name cX6_init q := az_tc_ok az_pool_ok az_mok_all.1 6 true (fun _ => rfl) (by decide +kernel)
end
section
set_option maxRecDepth 20000 in
theorem az_t47 : ∀ q ∈ k_X6_setSun, az_iok az_ms (az_o 6) yX6_setSun.name cX6_setSun q := az_tc_ok az_pool_ok az_mok_all.1 6 false (fun h => by cases h) (by decide +kernel)
set_option maxRecDepth 20000 in
theorem az_t48 : ∀ q ∈ k_X6_sunX, az_iok az_ms (az_o 6) yX6_sunX.name cX6_sunX q := az_tc_ok az_pool_ok az_mok_all.1 6 false (fun h => by cases h) (by decide +kernel)
set_option maxRecDepth 20000 in
theorem az_t49 : ∀ q ∈ k_X6_sunY, az_iok az_ms (az_o 6) yX6_sunY.name cX6_sunY q := az_tc_ok az_pool_ok az_mok_all.1 6 false (fun h => by cases h) (by decide +kernel)
set_option maxRecDepth 20000 in
theorem az_t50 : ∀ q ∈ k_X6_isClouded, az_iok az_ms (az_o 6) yX6_isClouded.name cX6_isClouded q := az_tc_ok az_pool_ok az_mok_all.1 6 false (fun h => by cases h) (by decide +kernel)
set_option maxRecDepth 20000 in
theorem az_t51 : ∀ q ∈ k_X6_addCloud, az_iok az_ms (az_o 6) yX6_addCloud.name cX6_addCloud q := az_tc_ok az_pool_ok az_mok_all.1 6 false (fun h => by cases h) (by decide +kernel)
set_option maxRecDepth 20000 in
theorem az_t52 : ∀ q ∈ k_X7_init, az_iok az_ms (az_o 7) yX7_init.name cX7_init q := az_tc_ok az_pool_ok az_mok_all.1 7 true (fun _ => rfl) (by decide +kernel)
set_option maxRecDepth 20000 in
theorem az_t53 : ∀ q ∈ k_X7_isOn, az_iok az_ms (az_o 7) yX7_isOn.name cX7_isOn q := az_tc_ok az_pool_ok az_mok_all.1 7 false (fun h => by cases h) (by decide +kernel)
set_option maxRecDepth 20000 in
theorem az_t54 : ∀ q ∈ k_X7_put, az_iok az_ms (az_o 7) yX7_put.name cX7_put q := az_tc_ok az_pool_ok az_mok_all.1 7 false (fun h => by cases h) (by decide +kernel)
set_option maxRecDepth 20000 in
theorem az_t55 : ∀ q ∈ k_X7_cellIn, az_iok az_ms (az_o 7) yX7_cellIn.name cX7_cellIn q := az_tc_ok az_pool_ok az_mok_all.1 7 false (fun h => by cases h) (by decide +kernel)
set_option maxRecDepth 20000 in
theorem az_t56 : ∀ q ∈ k_X7_hasCell, az_iok az_ms (az_o 7) yX7_hasCell.name cX7_hasCell q := az_tc_ok az_pool_ok az_mok_all.1 7 false (fun h => by cases h) (by decide +kernel)
set_option maxRecDepth 20000 in
theorem az_t57 : ∀ q ∈ k_X8_init, az_iok az_ms (az_o 8) yX8_init.name cX8_init q := az_tc_ok az_pool_ok az_mok_all.1 8 true (fun _ => rfl) (by decide +kernel)
set_option maxRecDepth 20000 in
theorem az_t58 : ∀ q ∈ k_X8_addFour, az_iok az_ms (az_o 8) yX8_addFour.name cX8_addFour q := az_tc_ok az_pool_ok az_mok_all.1 8 false (fun h => by cases h) (by decide +kernel)
set_option maxRecDepth 20000 in
theorem az_t59 : ∀ q ∈ k_X8_cutIntoTokens, az_iok az_ms (az_o 8) yX8_cutIntoTokens.name cX8_cutIntoTokens q := az_tc_ok az_pool_ok az_mok_all.1 8 false (fun h => by cases h) (by decide +kernel)
set_option maxRecDepth 20000 in
theorem az_t60 : ∀ q ∈ k_X8_kindOf, az_iok az_ms (az_o 8) yX8_kindOf.name cX8_kindOf q := az_tc_ok az_pool_ok az_mok_all.1 8 false (fun h => by cases h) (by decide +kernel)
set_option maxRecDepth 20000 in
theorem az_t61 : ∀ q ∈ k_X8_startOf, az_iok az_ms (az_o 8) yX8_startOf.name cX8_startOf q := az_tc_ok az_pool_ok az_mok_all.1 8 false (fun h => by cases h) (by decide +kernel)
set_option maxRecDepth 20000 in
theorem az_t62 : ∀ q ∈ k_X8_valueOf, az_iok az_ms (az_o 8) yX8_valueOf.name cX8_valueOf q := az_tc_ok az_pool_ok az_mok_all.1 8 false (fun h => by cases h) (by decide +kernel)
set_option maxRecDepth 20000 in
theorem az_t63 : ∀ q ∈ k_X8_byteAt, az_iok az_ms (az_o 8) yX8_byteAt.name cX8_byteAt q := az_tc_ok az_pool_ok az_mok_all.1 8 false (fun h => by cases h) (by decide +kernel)
set_option maxRecDepth 20000 in
theorem az_t64 : ∀ q ∈ k_X8_addToken, az_iok az_ms (az_o 8) yX8_addToken.name cX8_addToken q := az_tc_ok az_pool_ok az_mok_all.1 8 false (fun h => by cases h) (by decide +kernel)
set_option maxRecDepth 20000 in
theorem az_t65 : ∀ q ∈ k_X8_isLetter, az_iok az_ms (az_o 8) yX8_isLetter.name cX8_isLetter q := az_tc_ok az_pool_ok az_mok_all.1 8 false (fun h => by cases h) (by decide +kernel)
set_option maxRecDepth 20000 in
theorem az_t66 : ∀ q ∈ k_X8_isDigit, az_iok az_ms (az_o 8) yX8_isDigit.name cX8_isDigit q := az_tc_ok az_pool_ok az_mok_all.1 8 false (fun h => by cases h) (by decide +kernel)
set_option maxRecDepth 20000 in
theorem az_t67 : ∀ q ∈ k_X8_endOfLetters, az_iok az_ms (az_o 8) yX8_endOfLetters.name cX8_endOfLetters q := az_tc_ok az_pool_ok az_mok_all.1 8 false (fun h => by cases h) (by decide +kernel)
set_option maxRecDepth 20000 in
theorem az_t68 : ∀ q ∈ k_X8_endOfDigits, az_iok az_ms (az_o 8) yX8_endOfDigits.name cX8_endOfDigits q := az_tc_ok az_pool_ok az_mok_all.1 8 false (fun h => by cases h) (by decide +kernel)
set_option maxRecDepth 20000 in
theorem az_t69 : ∀ q ∈ k_X8_numberOf, az_iok az_ms (az_o 8) yX8_numberOf.name cX8_numberOf q := az_tc_ok az_pool_ok az_mok_all.1 8 false (fun h => by cases h) (by decide +kernel)
set_option maxRecDepth 20000 in
theorem az_t70 : ∀ q ∈ k_X8_addWord, az_iok az_ms (az_o 8) yX8_addWord.name cX8_addWord q := az_tc_ok az_pool_ok az_mok_all.1 8 false (fun h => by cases h) (by decide +kernel)
set_option maxRecDepth 20000 in
theorem az_t71 : ∀ q ∈ k_X8_nameOf, az_iok az_ms (az_o 8) yX8_nameOf.name cX8_nameOf q := az_tc_ok az_pool_ok az_mok_all.1 8 false (fun h => by cases h) (by decide +kernel)
set_option maxRecDepth 20000 in
theorem az_t72 : ∀ q ∈ k_X8_kindOfWord, az_iok az_ms (az_o 8) yX8_kindOfWord.name cX8_kindOfWord q := az_tc_ok az_pool_ok az_mok_all.1 8 false (fun h => by cases h) (by decide +kernel)
set_option maxRecDepth 20000 in
theorem az_t73 : ∀ q ∈ k_X8_isWord, az_iok az_ms (az_o 8) yX8_isWord.name cX8_isWord q := az_tc_ok az_pool_ok az_mok_all.1 8 false (fun h => by cases h) (by decide +kernel)
set_option maxRecDepth 20000 in
theorem az_t74 : ∀ q ∈ k_X8_kindOfSign, az_iok az_ms (az_o 8) yX8_kindOfSign.name cX8_kindOfSign q := az_tc_ok az_pool_ok az_mok_all.1 8 false (fun h => by cases h) (by decide +kernel)
set_option maxRecDepth 20000 in
theorem az_t75 : ∀ q ∈ k_X9_init, az_iok az_ms (az_o 9) yX9_init.name cX9_init q := az_tc_ok az_pool_ok az_mok_all.1 9 true (fun _ => rfl) (by decide +kernel)
set_option maxRecDepth 20000 in
theorem az_t76 : ∀ q ∈ k_X9_clear, az_iok az_ms (az_o 9) yX9_clear.name cX9_clear q := az_tc_ok az_pool_ok az_mok_all.1 9 false (fun h => by cases h) (by decide +kernel)
set_option maxRecDepth 20000 in
theorem az_t77 : ∀ q ∈ k_X9_add, az_iok az_ms (az_o 9) yX9_add.name cX9_add q := az_tc_ok az_pool_ok az_mok_all.1 9 false (fun h => by cases h) (by decide +kernel)
set_option maxRecDepth 20000 in
theorem az_t78 : ∀ q ∈ k_X9_endAsk, az_iok az_ms (az_o 9) yX9_endAsk.name cX9_endAsk q := az_tc_ok az_pool_ok az_mok_all.1 9 false (fun h => by cases h) (by decide +kernel)
set_option maxRecDepth 20000 in
theorem az_t79 : ∀ q ∈ k_X9_endRule, az_iok az_ms (az_o 9) yX9_endRule.name cX9_endRule q := az_tc_ok az_pool_ok az_mok_all.1 9 false (fun h => by cases h) (by decide +kernel)
set_option maxRecDepth 20000 in
theorem az_t80 : ∀ q ∈ k_X9_answer, az_iok az_ms (az_o 9) yX9_answer.name cX9_answer q := az_tc_ok az_pool_ok az_mok_all.1 9 false (fun h => by cases h) (by decide +kernel)
set_option maxRecDepth 20000 in
theorem az_t81 : ∀ q ∈ k_X9_run, az_iok az_ms (az_o 9) yX9_run.name cX9_run q := az_tc_ok az_pool_ok az_mok_all.1 9 false (fun h => by cases h) (by decide +kernel)
set_option maxRecDepth 20000 in
theorem az_t82 : ∀ q ∈ k_X9_valueOf, az_iok az_ms (az_o 9) yX9_valueOf.name cX9_valueOf q := az_tc_ok az_pool_ok az_mok_all.1 9 false (fun h => by cases h) (by decide +kernel)
set_option maxRecDepth 20000 in
theorem az_t83 : ∀ q ∈ k_X9_join, az_iok az_ms (az_o 9) yX9_join.name cX9_join q := az_tc_ok az_pool_ok az_mok_all.1 9 false (fun h => by cases h) (by decide +kernel)
set_option maxRecDepth 20000 in
theorem az_t84 : ∀ q ∈ k_X9_bounded, az_iok az_ms (az_o 9) yX9_bounded.name cX9_bounded q := az_tc_ok az_pool_ok az_mok_all.1 9 false (fun h => by cases h) (by decide +kernel)
set_option maxRecDepth 20000 in
theorem az_t85 : ∀ q ∈ k_X10_init, az_iok az_ms (az_o 10) yX10_init.name cX10_init q := az_tc_ok az_pool_ok az_mok_all.1 10 true (fun _ => rfl) (by decide +kernel)
set_option maxRecDepth 20000 in
theorem az_t86 : ∀ q ∈ k_X10_tell, az_iok az_ms (az_o 10) yX10_tell.name cX10_tell q := az_tc_ok az_pool_ok az_mok_all.1 10 false (fun h => by cases h) (by decide +kernel)
set_option maxRecDepth 20000 in
theorem az_t87 : ∀ q ∈ k_X10_forgetLast, az_iok az_ms (az_o 10) yX10_forgetLast.name cX10_forgetLast q := az_tc_ok az_pool_ok az_mok_all.1 10 false (fun h => by cases h) (by decide +kernel)
set_option maxRecDepth 20000 in
theorem az_t88 : ∀ q ∈ k_X10_entryValue, az_iok az_ms (az_o 10) yX10_entryValue.name cX10_entryValue q := az_tc_ok az_pool_ok az_mok_all.1 10 false (fun h => by cases h) (by decide +kernel)
set_option maxRecDepth 20000 in
theorem az_t89 : ∀ q ∈ k_X10_hasFallen, az_iok az_ms (az_o 10) yX10_hasFallen.name cX10_hasFallen q := az_tc_ok az_pool_ok az_mok_all.1 10 false (fun h => by cases h) (by decide +kernel)
set_option maxRecDepth 20000 in
theorem az_t90 : ∀ q ∈ k_X10_heightOn, az_iok az_ms (az_o 10) yX10_heightOn.name cX10_heightOn q := az_tc_ok az_pool_ok az_mok_all.1 10 false (fun h => by cases h) (by decide +kernel)
set_option maxRecDepth 20000 in
theorem az_t91 : ∀ q ∈ k_X10_entryFor, az_iok az_ms (az_o 10) yX10_entryFor.name cX10_entryFor q := az_tc_ok az_pool_ok az_mok_all.1 10 false (fun h => by cases h) (by decide +kernel)
set_option maxRecDepth 20000 in
theorem az_t92 : ∀ q ∈ k_X10_grownBetween, az_iok az_ms (az_o 10) yX10_grownBetween.name cX10_grownBetween q := az_tc_ok az_pool_ok az_mok_all.1 10 false (fun h => by cases h) (by decide +kernel)
set_option maxRecDepth 20000 in
theorem az_t93 : ∀ q ∈ k_X10_mend, az_iok az_ms (az_o 10) yX10_mend.name cX10_mend q := az_tc_ok az_pool_ok az_mok_all.1 10 false (fun h => by cases h) (by decide +kernel)
end
section
set_option maxRecDepth 20000 in
theorem az_t94 : ∀ q ∈ k_X11_init, az_iok az_ms (az_o 11) yX11_init.name cX11_init q := az_tc_ok az_pool_ok az_mok_all.1 11 true (fun _ => rfl) (by decide +kernel)
set_option maxRecDepth 20000 in
theorem az_t95 : ∀ q ∈ k_X11_days, az_iok az_ms (az_o 11) yX11_days.name cX11_days q := az_tc_ok az_pool_ok az_mok_all.1 11 false (fun h => by cases h) (by decide +kernel)
set_option maxRecDepth 20000 in
theorem az_t96 : ∀ q ∈ k_X11_sun, az_iok az_ms (az_o 11) yX11_sun.name cX11_sun q := az_tc_ok az_pool_ok az_mok_all.1 11 false (fun h => by cases h) (by decide +kernel)
set_option maxRecDepth 20000 in
theorem az_t97 : ∀ q ∈ k_X11_cloud, az_iok az_ms (az_o 11) yX11_cloud.name cX11_cloud q := az_tc_ok az_pool_ok az_mok_all.1 11 false (fun h => by cases h) (by decide +kernel)
set_option maxRecDepth 20000 in
theorem az_t98 : ∀ q ∈ k_X11_person, az_iok az_ms (az_o 11) yX11_person.name cX11_person q := az_tc_ok az_pool_ok az_mok_all.1 11 false (fun h => by cases h) (by decide +kernel)
set_option maxRecDepth 20000 in
theorem az_t99 : ∀ q ∈ k_X11_died, az_iok az_ms (az_o 11) yX11_died.name cX11_died q := az_tc_ok az_pool_ok az_mok_all.1 11 false (fun h => by cases h) (by decide +kernel)
set_option maxRecDepth 20000 in
theorem az_t100 : ∀ q ∈ k_X11_wall, az_iok az_ms (az_o 11) yX11_wall.name cX11_wall q := az_tc_ok az_pool_ok az_mok_all.1 11 false (fun h => by cases h) (by decide +kernel)
set_option maxRecDepth 20000 in
theorem az_t101 : ∀ q ∈ k_X11_tree, az_iok az_ms (az_o 11) yX11_tree.name cX11_tree q := az_tc_ok az_pool_ok az_mok_all.1 11 false (fun h => by cases h) (by decide +kernel)
set_option maxRecDepth 20000 in
theorem az_t102 : ∀ q ∈ k_X11_pole, az_iok az_ms (az_o 11) yX11_pole.name cX11_pole q := az_tc_ok az_pool_ok az_mok_all.1 11 false (fun h => by cases h) (by decide +kernel)
set_option maxRecDepth 20000 in
theorem az_t103 : ∀ q ∈ k_X11_raise, az_iok az_ms (az_o 11) yX11_raise.name cX11_raise q := az_tc_ok az_pool_ok az_mok_all.1 11 false (fun h => by cases h) (by decide +kernel)
set_option maxRecDepth 20000 in
theorem az_t104 : ∀ q ∈ k_X11_fell, az_iok az_ms (az_o 11) yX11_fell.name cX11_fell q := az_tc_ok az_pool_ok az_mok_all.1 11 false (fun h => by cases h) (by decide +kernel)
set_option maxRecDepth 20000 in
theorem az_t105 : ∀ q ∈ k_X11_height, az_iok az_ms (az_o 11) yX11_height.name cX11_height q := az_tc_ok az_pool_ok az_mok_all.1 11 false (fun h => by cases h) (by decide +kernel)
set_option maxRecDepth 20000 in
theorem az_t106 : ∀ q ∈ k_X11_measure, az_iok az_ms (az_o 11) yX11_measure.name cX11_measure q := az_tc_ok az_pool_ok az_mok_all.1 11 false (fun h => by cases h) (by decide +kernel)
set_option maxRecDepth 20000 in
theorem az_t107 : ∀ q ∈ k_X11_thing, az_iok az_ms (az_o 11) yX11_thing.name cX11_thing q := az_tc_ok az_pool_ok az_mok_all.1 11 false (fun h => by cases h) (by decide +kernel)
set_option maxRecDepth 20000 in
theorem az_t108 : ∀ q ∈ k_X11_entry, az_iok az_ms (az_o 11) yX11_entry.name cX11_entry q := az_tc_ok az_pool_ok az_mok_all.1 11 false (fun h => by cases h) (by decide +kernel)
set_option maxRecDepth 20000 in
theorem az_t109 : ∀ q ∈ k_X11_grant, az_iok az_ms (az_o 11) yX11_grant.name cX11_grant q := az_tc_ok az_pool_ok az_mok_all.1 11 false (fun h => by cases h) (by decide +kernel)
set_option maxRecDepth 20000 in
theorem az_t110 : ∀ q ∈ k_X11_holder, az_iok az_ms (az_o 11) yX11_holder.name cX11_holder q := az_tc_ok az_pool_ok az_mok_all.1 11 false (fun h => by cases h) (by decide +kernel)
set_option maxRecDepth 20000 in
theorem az_t111 : ∀ q ∈ k_X11_shaded, az_iok az_ms (az_o 11) yX11_shaded.name cX11_shaded q := az_tc_ok az_pool_ok az_mok_all.1 11 false (fun h => by cases h) (by decide +kernel)
set_option maxRecDepth 20000 in
theorem az_t112 : ∀ q ∈ k_X11_parts, az_iok az_ms (az_o 11) yX11_parts.name cX11_parts q := az_tc_ok az_pool_ok az_mok_all.1 11 false (fun h => by cases h) (by decide +kernel)
set_option maxRecDepth 20000 in
theorem az_t113 : ∀ q ∈ k_X11_shadow, az_iok az_ms (az_o 11) yX11_shadow.name cX11_shadow q := az_tc_ok az_pool_ok az_mok_all.1 11 false (fun h => by cases h) (by decide +kernel)
set_option maxRecDepth 20000 in
theorem az_t114 : ∀ q ∈ k_X11_account, az_iok az_ms (az_o 11) yX11_account.name cX11_account q := az_tc_ok az_pool_ok az_mok_all.1 11 false (fun h => by cases h) (by decide +kernel)
set_option maxRecDepth 20000 in
theorem az_t115 : ∀ q ∈ k_X11_bill, az_iok az_ms (az_o 11) yX11_bill.name cX11_bill q := az_tc_ok az_pool_ok az_mok_all.1 11 false (fun h => by cases h) (by decide +kernel)
set_option maxRecDepth 20000 in
theorem az_t116 : ∀ q ∈ k_X11_feed, az_iok az_ms (az_o 11) yX11_feed.name cX11_feed q := az_tc_ok az_pool_ok az_mok_all.1 11 false (fun h => by cases h) (by decide +kernel)
set_option maxRecDepth 20000 in
theorem az_t117 : ∀ q ∈ k_X11_end, az_iok az_ms (az_o 11) yX11_end.name cX11_end q := az_tc_ok az_pool_ok az_mok_all.1 11 false (fun h => by cases h) (by decide +kernel)
set_option maxRecDepth 20000 in
theorem az_t118 : ∀ q ∈ k_X11_tariff, az_iok az_ms (az_o 11) yX11_tariff.name cX11_tariff q := az_tc_ok az_pool_ok az_mok_all.1 11 false (fun h => by cases h) (by decide +kernel)
set_option maxRecDepth 20000 in
theorem az_t119 : ∀ q ∈ k_X11_fault, az_iok az_ms (az_o 11) yX11_fault.name cX11_fault q := az_tc_ok az_pool_ok az_mok_all.1 11 false (fun h => by cases h) (by decide +kernel)
set_option maxRecDepth 20000 in
theorem az_t120 : ∀ q ∈ k_X11_gives, az_iok az_ms (az_o 11) yX11_gives.name cX11_gives q := az_tc_ok az_pool_ok az_mok_all.1 11 false (fun h => by cases h) (by decide +kernel)
set_option maxRecDepth 20000 in
theorem az_t121 : ∀ q ∈ k_X11_stall, az_iok az_ms (az_o 11) yX11_stall.name cX11_stall q := az_tc_ok az_pool_ok az_mok_all.1 11 false (fun h => by cases h) (by decide +kernel)
set_option maxRecDepth 20000 in
theorem az_t122 : ∀ q ∈ k_X11_place, az_iok az_ms (az_o 11) yX11_place.name cX11_place q := az_tc_ok az_pool_ok az_mok_all.1 11 false (fun h => by cases h) (by decide +kernel)
set_option maxRecDepth 20000 in
theorem az_t123 : ∀ q ∈ k_X11_placeOf, az_iok az_ms (az_o 11) yX11_placeOf.name cX11_placeOf q := az_tc_ok az_pool_ok az_mok_all.1 11 false (fun h => by cases h) (by decide +kernel)
set_option maxRecDepth 20000 in
theorem az_t124 : ∀ q ∈ k_X11_fees, az_iok az_ms (az_o 11) yX11_fees.name cX11_fees q := az_tc_ok az_pool_ok az_mok_all.1 11 false (fun h => by cases h) (by decide +kernel)
set_option maxRecDepth 20000 in
theorem az_t125 : ∀ q ∈ k_X11_walk, az_iok az_ms (az_o 11) yX11_walk.name cX11_walk q := az_tc_ok az_pool_ok az_mok_all.1 11 false (fun h => by cases h) (by decide +kernel)
set_option maxRecDepth 20000 in
theorem az_t126 : ∀ q ∈ k_X11_walked, az_iok az_ms (az_o 11) yX11_walked.name cX11_walked q := az_tc_ok az_pool_ok az_mok_all.1 11 false (fun h => by cases h) (by decide +kernel)
set_option maxRecDepth 20000 in
theorem az_t127 : ∀ q ∈ k_X11_best, az_iok az_ms (az_o 11) yX11_best.name cX11_best q := az_tc_ok az_pool_ok az_mok_all.1 11 false (fun h => by cases h) (by decide +kernel)
set_option maxRecDepth 20000 in
theorem az_t128 : ∀ q ∈ k_X11_serves, az_iok az_ms (az_o 11) yX11_serves.name cX11_serves q := az_tc_ok az_pool_ok az_mok_all.1 11 false (fun h => by cases h) (by decide +kernel)
set_option maxRecDepth 20000 in
theorem az_t129 : ∀ q ∈ k_X11_about, az_iok az_ms (az_o 11) yX11_about.name cX11_about q := az_tc_ok az_pool_ok az_mok_all.1 11 false (fun h => by cases h) (by decide +kernel)
set_option maxRecDepth 20000 in
theorem az_t130 : ∀ q ∈ k_X11_isDay, az_iok az_ms (az_o 11) yX11_isDay.name cX11_isDay q := az_tc_ok az_pool_ok az_mok_all.1 11 false (fun h => by cases h) (by decide +kernel)
set_option maxRecDepth 20000 in
theorem az_t131 : ∀ q ∈ k_X11_isSpan, az_iok az_ms (az_o 11) yX11_isSpan.name cX11_isSpan q := az_tc_ok az_pool_ok az_mok_all.1 11 false (fun h => by cases h) (by decide +kernel)
set_option maxRecDepth 20000 in
theorem az_t132 : ∀ q ∈ k_X11_isHour, az_iok az_ms (az_o 11) yX11_isHour.name cX11_isHour q := az_tc_ok az_pool_ok az_mok_all.1 11 false (fun h => by cases h) (by decide +kernel)
set_option maxRecDepth 20000 in
theorem az_t133 : ∀ q ∈ k_X11_isHeight, az_iok az_ms (az_o 11) yX11_isHeight.name cX11_isHeight q := az_tc_ok az_pool_ok az_mok_all.1 11 false (fun h => by cases h) (by decide +kernel)
set_option maxRecDepth 20000 in
theorem az_t134 : ∀ q ∈ k_X11_isWithin, az_iok az_ms (az_o 11) yX11_isWithin.name cX11_isWithin q := az_tc_ok az_pool_ok az_mok_all.1 11 false (fun h => by cases h) (by decide +kernel)
set_option maxRecDepth 20000 in
theorem az_t135 : ∀ q ∈ k_X11_isPairOfTwelve, az_iok az_ms (az_o 11) yX11_isPairOfTwelve.name cX11_isPairOfTwelve q := az_tc_ok az_pool_ok az_mok_all.1 11 false (fun h => by cases h) (by decide +kernel)
set_option maxRecDepth 20000 in
theorem az_t136 : ∀ q ∈ k_X11_monthOf, az_iok az_ms (az_o 11) yX11_monthOf.name cX11_monthOf q := az_tc_ok az_pool_ok az_mok_all.1 11 false (fun h => by cases h) (by decide +kernel)
set_option maxRecDepth 20000 in
theorem az_t137 : ∀ q ∈ k_X11_cellsAside, az_iok az_ms (az_o 11) yX11_cellsAside.name cX11_cellsAside q := az_tc_ok az_pool_ok az_mok_all.1 11 false (fun h => by cases h) (by decide +kernel)
set_option maxRecDepth 20000 in
theorem az_t138 : ∀ q ∈ k_X11_isPerson, az_iok az_ms (az_o 11) yX11_isPerson.name cX11_isPerson q := az_tc_ok az_pool_ok az_mok_all.1 11 false (fun h => by cases h) (by decide +kernel)
set_option maxRecDepth 20000 in
theorem az_t139 : ∀ q ∈ k_X11_isThing, az_iok az_ms (az_o 11) yX11_isThing.name cX11_isThing q := az_tc_ok az_pool_ok az_mok_all.1 11 false (fun h => by cases h) (by decide +kernel)
set_option maxRecDepth 20000 in
theorem az_t140 : ∀ q ∈ k_X11_isStall, az_iok az_ms (az_o 11) yX11_isStall.name cX11_isStall q := az_tc_ok az_pool_ok az_mok_all.1 11 false (fun h => by cases h) (by decide +kernel)
end
section
set_option maxRecDepth 20000 in
theorem az_t141 : ∀ q ∈ k_X11_mayStand, az_iok az_ms (az_o 11) yX11_mayStand.name cX11_mayStand q := az_tc_ok az_pool_ok az_mok_all.1 11 false (fun h => by cases h) (by decide +kernel)
set_option maxRecDepth 20000 in
theorem az_t142 : ∀ q ∈ k_X11_isBuiltOn, az_iok az_ms (az_o 11) yX11_isBuiltOn.name cX11_isBuiltOn q := az_tc_ok az_pool_ok az_mok_all.1 11 false (fun h => by cases h) (by decide +kernel)
set_option maxRecDepth 20000 in
theorem az_t143 : ∀ q ∈ k_X11_addThing, az_iok az_ms (az_o 11) yX11_addThing.name cX11_addThing q := az_tc_ok az_pool_ok az_mok_all.1 11 false (fun h => by cases h) (by decide +kernel)
set_option maxRecDepth 20000 in
theorem az_t144 : ∀ q ∈ k_X11_standingNow, az_iok az_ms (az_o 11) yX11_standingNow.name cX11_standingNow q := az_tc_ok az_pool_ok az_mok_all.1 11 false (fun h => by cases h) (by decide +kernel)
set_option maxRecDepth 20000 in
theorem az_t145 : ∀ q ∈ k_X11_nearestHeight, az_iok az_ms (az_o 11) yX11_nearestHeight.name cX11_nearestHeight q := az_tc_ok az_pool_ok az_mok_all.1 11 false (fun h => by cases h) (by decide +kernel)
set_option maxRecDepth 20000 in
theorem az_t146 : ∀ q ∈ k_X11_findHolders, az_iok az_ms (az_o 11) yX11_findHolders.name cX11_findHolders q := az_tc_ok az_pool_ok az_mok_all.1 11 false (fun h => by cases h) (by decide +kernel)
set_option maxRecDepth 20000 in
theorem az_t147 : ∀ q ∈ k_X11_heldBy, az_iok az_ms (az_o 11) yX11_heldBy.name cX11_heldBy q := az_tc_ok az_pool_ok az_mok_all.1 11 false (fun h => by cases h) (by decide +kernel)
set_option maxRecDepth 20000 in
theorem az_t148 : ∀ q ∈ k_X11_partsOnDay, az_iok az_ms (az_o 11) yX11_partsOnDay.name cX11_partsOnDay q := az_tc_ok az_pool_ok az_mok_all.1 11 false (fun h => by cases h) (by decide +kernel)
set_option maxRecDepth 20000 in
theorem az_t149 : ∀ q ∈ k_X11_partsOverYear, az_iok az_ms (az_o 11) yX11_partsOverYear.name cX11_partsOverYear q := az_tc_ok az_pool_ok az_mok_all.1 11 false (fun h => by cases h) (by decide +kernel)
set_option maxRecDepth 20000 in
theorem az_t150 : ∀ q ∈ k_X11_chargeOf, az_iok az_ms (az_o 11) yX11_chargeOf.name cX11_chargeOf q := az_tc_ok az_pool_ok az_mok_all.1 11 false (fun h => by cases h) (by decide +kernel)
set_option maxRecDepth 20000 in
theorem az_t151 : ∀ q ∈ k_X11_mayTake, az_iok az_ms (az_o 11) yX11_mayTake.name cX11_mayTake q := az_tc_ok az_pool_ok az_mok_all.1 11 false (fun h => by cases h) (by decide +kernel)
set_option maxRecDepth 20000 in
theorem az_t152 : ∀ q ∈ k_X11_leadThroughHour, az_iok az_ms (az_o 11) yX11_leadThroughHour.name cX11_leadThroughHour q := az_tc_ok az_pool_ok az_mok_all.1 11 false (fun h => by cases h) (by decide +kernel)
set_option maxRecDepth 20000 in
theorem az_t153 : ∀ q ∈ k_X11_mayWalk, az_iok az_ms (az_o 11) yX11_mayWalk.name cX11_mayWalk q := az_tc_ok az_pool_ok az_mok_all.1 11 false (fun h => by cases h) (by decide +kernel)
set_option maxRecDepth 20000 in
theorem az_t154 : ∀ q ∈ k_X11_bestTree, az_iok az_ms (az_o 11) yX11_bestTree.name cX11_bestTree q := az_tc_ok az_pool_ok az_mok_all.1 11 false (fun h => by cases h) (by decide +kernel)
set_option maxRecDepth 20000 in
theorem az_t155 : ∀ q ∈ k_X11_hasStall, az_iok az_ms (az_o 11) yX11_hasStall.name cX11_hasStall q := az_tc_ok az_pool_ok az_mok_all.1 11 false (fun h => by cases h) (by decide +kernel)
set_option maxRecDepth 20000 in
theorem az_t156 : ∀ q ∈ k_X11_serveHour, az_iok az_ms (az_o 11) yX11_serveHour.name cX11_serveHour q := az_tc_ok az_pool_ok az_mok_all.1 11 false (fun h => by cases h) (by decide +kernel)
set_option maxRecDepth 20000 in
theorem az_t157 : ∀ q ∈ k_X11_servePlace, az_iok az_ms (az_o 11) yX11_servePlace.name cX11_servePlace q := az_tc_ok az_pool_ok az_mok_all.1 11 false (fun h => by cases h) (by decide +kernel)
set_option maxRecDepth 20000 in
theorem az_t158 : ∀ q ∈ k_X12_init, az_iok az_ms (az_o 12) yX12_init.name cX12_init q := az_tc_ok az_pool_ok az_mok_all.1 12 true (fun _ => rfl) (by decide +kernel)
set_option maxRecDepth 20000 in
theorem az_t159 : ∀ q ∈ k_X12_in, az_iok az_ms (az_o 12) yX12_in.name cX12_in q := az_tc_ok az_pool_ok az_mok_all.1 12 false (fun h => by cases h) (by decide +kernel)
set_option maxRecDepth 20000 in
theorem az_t160 : ∀ q ∈ k_X12_isDay, az_iok az_ms (az_o 12) yX12_isDay.name cX12_isDay q := az_tc_ok az_pool_ok az_mok_all.1 12 false (fun h => by cases h) (by decide +kernel)
set_option maxRecDepth 20000 in
theorem az_t161 : ∀ q ∈ k_X12_isHour, az_iok az_ms (az_o 12) yX12_isHour.name cX12_isHour q := az_tc_ok az_pool_ok az_mok_all.1 12 false (fun h => by cases h) (by decide +kernel)
set_option maxRecDepth 20000 in
theorem az_t162 : ∀ q ∈ k_X12_isCell, az_iok az_ms (az_o 12) yX12_isCell.name cX12_isCell q := az_tc_ok az_pool_ok az_mok_all.1 12 false (fun h => by cases h) (by decide +kernel)
set_option maxRecDepth 20000 in
theorem az_t163 : ∀ q ∈ k_X12_isPerson, az_iok az_ms (az_o 12) yX12_isPerson.name cX12_isPerson q := az_tc_ok az_pool_ok az_mok_all.1 12 false (fun h => by cases h) (by decide +kernel)
set_option maxRecDepth 20000 in
theorem az_t164 : ∀ q ∈ k_X12_isThing, az_iok az_ms (az_o 12) yX12_isThing.name cX12_isThing q := az_tc_ok az_pool_ok az_mok_all.1 12 false (fun h => by cases h) (by decide +kernel)
set_option maxRecDepth 20000 in
theorem az_t165 : ∀ q ∈ k_X12_monthOf, az_iok az_ms (az_o 12) yX12_monthOf.name cX12_monthOf q := az_tc_ok az_pool_ok az_mok_all.1 12 false (fun h => by cases h) (by decide +kernel)
set_option maxRecDepth 20000 in
theorem az_t166 : ∀ q ∈ k_X12_days, az_iok az_ms (az_o 12) yX12_days.name cX12_days q := az_tc_ok az_pool_ok az_mok_all.1 12 false (fun h => by cases h) (by decide +kernel)
set_option maxRecDepth 20000 in
theorem az_t167 : ∀ q ∈ k_X12_sun, az_iok az_ms (az_o 12) yX12_sun.name cX12_sun q := az_tc_ok az_pool_ok az_mok_all.1 12 false (fun h => by cases h) (by decide +kernel)
set_option maxRecDepth 20000 in
theorem az_t168 : ∀ q ∈ k_X12_isCloud, az_iok az_ms (az_o 12) yX12_isCloud.name cX12_isCloud q := az_tc_ok az_pool_ok az_mok_all.1 12 false (fun h => by cases h) (by decide +kernel)
set_option maxRecDepth 20000 in
theorem az_t169 : ∀ q ∈ k_X12_cloud, az_iok az_ms (az_o 12) yX12_cloud.name cX12_cloud q := az_tc_ok az_pool_ok az_mok_all.1 12 false (fun h => by cases h) (by decide +kernel)
set_option maxRecDepth 20000 in
theorem az_t170 : ∀ q ∈ k_X12_person, az_iok az_ms (az_o 12) yX12_person.name cX12_person q := az_tc_ok az_pool_ok az_mok_all.1 12 false (fun h => by cases h) (by decide +kernel)
set_option maxRecDepth 20000 in
theorem az_t171 : ∀ q ∈ k_X12_died, az_iok az_ms (az_o 12) yX12_died.name cX12_died q := az_tc_ok az_pool_ok az_mok_all.1 12 false (fun h => by cases h) (by decide +kernel)
set_option maxRecDepth 20000 in
theorem az_t172 : ∀ q ∈ k_X12_mayStand, az_iok az_ms (az_o 12) yX12_mayStand.name cX12_mayStand q := az_tc_ok az_pool_ok az_mok_all.1 12 false (fun h => by cases h) (by decide +kernel)
set_option maxRecDepth 20000 in
theorem az_t173 : ∀ q ∈ k_X12_stands, az_iok az_ms (az_o 12) yX12_stands.name cX12_stands q := az_tc_ok az_pool_ok az_mok_all.1 12 false (fun h => by cases h) (by decide +kernel)
set_option maxRecDepth 20000 in
theorem az_t174 : ∀ q ∈ k_X12_enters, az_iok az_ms (az_o 12) yX12_enters.name cX12_enters q := az_tc_ok az_pool_ok az_mok_all.1 12 false (fun h => by cases h) (by decide +kernel)
set_option maxRecDepth 20000 in
theorem az_t175 : ∀ q ∈ k_X12_wall, az_iok az_ms (az_o 12) yX12_wall.name cX12_wall q := az_tc_ok az_pool_ok az_mok_all.1 12 false (fun h => by cases h) (by decide +kernel)
set_option maxRecDepth 20000 in
theorem az_t176 : ∀ q ∈ k_X12_tree, az_iok az_ms (az_o 12) yX12_tree.name cX12_tree q := az_tc_ok az_pool_ok az_mok_all.1 12 false (fun h => by cases h) (by decide +kernel)
set_option maxRecDepth 20000 in
theorem az_t177 : ∀ q ∈ k_X12_pole, az_iok az_ms (az_o 12) yX12_pole.name cX12_pole q := az_tc_ok az_pool_ok az_mok_all.1 12 false (fun h => by cases h) (by decide +kernel)
set_option maxRecDepth 20000 in
theorem az_t178 : ∀ q ∈ k_X12_raise, az_iok az_ms (az_o 12) yX12_raise.name cX12_raise q := az_tc_ok az_pool_ok az_mok_all.1 12 false (fun h => by cases h) (by decide +kernel)
set_option maxRecDepth 20000 in
theorem az_t179 : ∀ q ∈ k_X12_fell, az_iok az_ms (az_o 12) yX12_fell.name cX12_fell q := az_tc_ok az_pool_ok az_mok_all.1 12 false (fun h => by cases h) (by decide +kernel)
set_option maxRecDepth 20000 in
theorem az_t180 : ∀ q ∈ k_X12_entryFor, az_iok az_ms (az_o 12) yX12_entryFor.name cX12_entryFor q := az_tc_ok az_pool_ok az_mok_all.1 12 false (fun h => by cases h) (by decide +kernel)
set_option maxRecDepth 20000 in
theorem az_t181 : ∀ q ∈ k_X12_heightOf, az_iok az_ms (az_o 12) yX12_heightOf.name cX12_heightOf q := az_tc_ok az_pool_ok az_mok_all.1 12 false (fun h => by cases h) (by decide +kernel)
set_option maxRecDepth 20000 in
theorem az_t182 : ∀ q ∈ k_X12_height, az_iok az_ms (az_o 12) yX12_height.name cX12_height q := az_tc_ok az_pool_ok az_mok_all.1 12 false (fun h => by cases h) (by decide +kernel)
set_option maxRecDepth 20000 in
theorem az_t183 : ∀ q ∈ k_X12_isOpen, az_iok az_ms (az_o 12) yX12_isOpen.name cX12_isOpen q := az_tc_ok az_pool_ok az_mok_all.1 12 false (fun h => by cases h) (by decide +kernel)
set_option maxRecDepth 20000 in
theorem az_t184 : ∀ q ∈ k_X12_below, az_iok az_ms (az_o 12) yX12_below.name cX12_below q := az_tc_ok az_pool_ok az_mok_all.1 12 false (fun h => by cases h) (by decide +kernel)
set_option maxRecDepth 20000 in
theorem az_t185 : ∀ q ∈ k_X12_pointOf, az_iok az_ms (az_o 12) yX12_pointOf.name cX12_pointOf q := az_tc_ok az_pool_ok az_mok_all.1 12 false (fun h => by cases h) (by decide +kernel)
set_option maxRecDepth 20000 in
theorem az_t186 : ∀ q ∈ k_X12_shades, az_iok az_ms (az_o 12) yX12_shades.name cX12_shades q := az_tc_ok az_pool_ok az_mok_all.1 12 false (fun h => by cases h) (by decide +kernel)
set_option maxRecDepth 20000 in
theorem az_t187 : ∀ q ∈ k_X12_looks, az_iok az_ms (az_o 12) yX12_looks.name cX12_looks q := az_tc_ok az_pool_ok az_mok_all.1 12 false (fun h => by cases h) (by decide +kernel)
end
section
set_option maxRecDepth 20000 in
theorem az_t188 : ∀ q ∈ k_X12_isAsked, az_iok az_ms (az_o 12) yX12_isAsked.name cX12_isAsked q := az_tc_ok az_pool_ok az_mok_all.1 12 false (fun h => by cases h) (by decide +kernel)
set_option maxRecDepth 20000 in
theorem az_t189 : ∀ q ∈ k_X12_shaded, az_iok az_ms (az_o 12) yX12_shaded.name cX12_shaded q := az_tc_ok az_pool_ok az_mok_all.1 12 false (fun h => by cases h) (by decide +kernel)
set_option maxRecDepth 20000 in
theorem az_t190 : ∀ q ∈ k_X12_shadow, az_iok az_ms (az_o 12) yX12_shadow.name cX12_shadow q := az_tc_ok az_pool_ok az_mok_all.1 12 false (fun h => by cases h) (by decide +kernel)
set_option maxRecDepth 20000 in
theorem az_t191 : ∀ q ∈ k_X12_grant, az_iok az_ms (az_o 12) yX12_grant.name cX12_grant q := az_tc_ok az_pool_ok az_mok_all.1 12 false (fun h => by cases h) (by decide +kernel)
set_option maxRecDepth 20000 in
theorem az_t192 : ∀ q ∈ k_X12_holdsOn, az_iok az_ms (az_o 12) yX12_holdsOn.name cX12_holdsOn q := az_tc_ok az_pool_ok az_mok_all.1 12 false (fun h => by cases h) (by decide +kernel)
set_option maxRecDepth 20000 in
theorem az_t193 : ∀ q ∈ k_X12_holderOf, az_iok az_ms (az_o 12) yX12_holderOf.name cX12_holderOf q := az_tc_ok az_pool_ok az_mok_all.1 12 false (fun h => by cases h) (by decide +kernel)
set_option maxRecDepth 20000 in
theorem az_t194 : ∀ q ∈ k_X12_holder, az_iok az_ms (az_o 12) yX12_holder.name cX12_holder q := az_tc_ok az_pool_ok az_mok_all.1 12 false (fun h => by cases h) (by decide +kernel)
set_option maxRecDepth 20000 in
theorem az_t195 : ∀ q ∈ k_X12_holds, az_iok az_ms (az_o 12) yX12_holds.name cX12_holds q := az_tc_ok az_pool_ok az_mok_all.1 12 false (fun h => by cases h) (by decide +kernel)
set_option maxRecDepth 20000 in
theorem az_t196 : ∀ q ∈ k_X12_partsIn, az_iok az_ms (az_o 12) yX12_partsIn.name cX12_partsIn q := az_tc_ok az_pool_ok az_mok_all.1 12 false (fun h => by cases h) (by decide +kernel)
set_option maxRecDepth 20000 in
theorem az_t197 : ∀ q ∈ k_X12_parts, az_iok az_ms (az_o 12) yX12_parts.name cX12_parts q := az_tc_ok az_pool_ok az_mok_all.1 12 false (fun h => by cases h) (by decide +kernel)
set_option maxRecDepth 20000 in
theorem az_t198 : ∀ q ∈ k_X12_partsOn, az_iok az_ms (az_o 12) yX12_partsOn.name cX12_partsOn q := az_tc_ok az_pool_ok az_mok_all.1 12 false (fun h => by cases h) (by decide +kernel)
set_option maxRecDepth 20000 in
theorem az_t199 : ∀ q ∈ k_X12_account, az_iok az_ms (az_o 12) yX12_account.name cX12_account q := az_tc_ok az_pool_ok az_mok_all.1 12 false (fun h => by cases h) (by decide +kernel)
set_option maxRecDepth 20000 in
theorem az_t200 : ∀ q ∈ k_X12_bill, az_iok az_ms (az_o 12) yX12_bill.name cX12_bill q := az_tc_ok az_pool_ok az_mok_all.1 12 false (fun h => by cases h) (by decide +kernel)
set_option maxRecDepth 20000 in
theorem az_t201 : ∀ q ∈ k_X12_measure, az_iok az_ms (az_o 12) yX12_measure.name cX12_measure q := az_tc_ok az_pool_ok az_mok_all.1 12 false (fun h => by cases h) (by decide +kernel)
set_option maxRecDepth 20000 in
theorem az_t202 : ∀ q ∈ k_X12_far, az_iok az_ms (az_o 12) yX12_far.name cX12_far q := az_tc_ok az_pool_ok az_mok_all.1 12 false (fun h => by cases h) (by decide +kernel)
set_option maxRecDepth 20000 in
theorem az_t203 : ∀ q ∈ k_X12_thing, az_iok az_ms (az_o 12) yX12_thing.name cX12_thing q := az_tc_ok az_pool_ok az_mok_all.1 12 false (fun h => by cases h) (by decide +kernel)
set_option maxRecDepth 20000 in
theorem az_t204 : ∀ q ∈ k_X12_entry, az_iok az_ms (az_o 12) yX12_entry.name cX12_entry q := az_tc_ok az_pool_ok az_mok_all.1 12 false (fun h => by cases h) (by decide +kernel)
set_option maxRecDepth 20000 in
theorem az_t205 : ∀ q ∈ k_X12_put, az_iok az_ms (az_o 12) yX12_put.name cX12_put q := az_tc_ok az_pool_ok az_mok_all.1 12 false (fun h => by cases h) (by decide +kernel)
set_option maxRecDepth 20000 in
theorem az_t206 : ∀ q ∈ k_X12_feed, az_iok az_ms (az_o 12) yX12_feed.name cX12_feed q := az_tc_ok az_pool_ok az_mok_all.1 12 false (fun h => by cases h) (by decide +kernel)
set_option maxRecDepth 20000 in
theorem az_t207 : ∀ q ∈ k_X12_end, az_iok az_ms (az_o 12) yX12_end.name cX12_end q := az_tc_ok az_pool_ok az_mok_all.1 12 false (fun h => by cases h) (by decide +kernel)
set_option maxRecDepth 20000 in
theorem az_t208 : ∀ q ∈ k_X12_isLetter, az_iok az_ms (az_o 12) yX12_isLetter.name cX12_isLetter q := az_tc_ok az_pool_ok az_mok_all.1 12 false (fun h => by cases h) (by decide +kernel)
set_option maxRecDepth 20000 in
theorem az_t209 : ∀ q ∈ k_X12_wordOf, az_iok az_ms (az_o 12) yX12_wordOf.name cX12_wordOf q := az_tc_ok az_pool_ok az_mok_all.1 12 false (fun h => by cases h) (by decide +kernel)
set_option maxRecDepth 20000 in
theorem az_t210 : ∀ q ∈ k_X12_next, az_iok az_ms (az_o 12) yX12_next.name cX12_next q := az_tc_ok az_pool_ok az_mok_all.1 12 false (fun h => by cases h) (by decide +kernel)
set_option maxRecDepth 20000 in
theorem az_t211 : ∀ q ∈ k_X12_isSignByte, az_iok az_ms (az_o 12) yX12_isSignByte.name cX12_isSignByte q := az_tc_ok az_pool_ok az_mok_all.1 12 false (fun h => by cases h) (by decide +kernel)
set_option maxRecDepth 20000 in
theorem az_t212 : ∀ q ∈ k_X12_isSign, az_iok az_ms (az_o 12) yX12_isSign.name cX12_isSign q := az_tc_ok az_pool_ok az_mok_all.1 12 false (fun h => by cases h) (by decide +kernel)
set_option maxRecDepth 20000 in
theorem az_t213 : ∀ q ∈ k_X12_isWord, az_iok az_ms (az_o 12) yX12_isWord.name cX12_isWord q := az_tc_ok az_pool_ok az_mok_all.1 12 false (fun h => by cases h) (by decide +kernel)
set_option maxRecDepth 20000 in
theorem az_t214 : ∀ q ∈ k_X12_errs, az_iok az_ms (az_o 12) yX12_errs.name cX12_errs q := az_tc_ok az_pool_ok az_mok_all.1 12 false (fun h => by cases h) (by decide +kernel)
set_option maxRecDepth 20000 in
theorem az_t215 : ∀ q ∈ k_X12_emits, az_iok az_ms (az_o 12) yX12_emits.name cX12_emits q := az_tc_ok az_pool_ok az_mok_all.1 12 false (fun h => by cases h) (by decide +kernel)
set_option maxRecDepth 20000 in
theorem az_t216 : ∀ q ∈ k_X12_opensFrame, az_iok az_ms (az_o 12) yX12_opensFrame.name cX12_opensFrame q := az_tc_ok az_pool_ok az_mok_all.1 12 false (fun h => by cases h) (by decide +kernel)
set_option maxRecDepth 20000 in
theorem az_t217 : ∀ q ∈ k_X12_top, az_iok az_ms (az_o 12) yX12_top.name cX12_top q := az_tc_ok az_pool_ok az_mok_all.1 12 false (fun h => by cases h) (by decide +kernel)
set_option maxRecDepth 20000 in
theorem az_t218 : ∀ q ∈ k_X12_opensSign, az_iok az_ms (az_o 12) yX12_opensSign.name cX12_opensSign q := az_tc_ok az_pool_ok az_mok_all.1 12 false (fun h => by cases h) (by decide +kernel)
set_option maxRecDepth 20000 in
theorem az_t219 : ∀ q ∈ k_X12_rank, az_iok az_ms (az_o 12) yX12_rank.name cX12_rank q := az_tc_ok az_pool_ok az_mok_all.1 12 false (fun h => by cases h) (by decide +kernel)
set_option maxRecDepth 20000 in
theorem az_t220 : ∀ q ∈ k_X12_works, az_iok az_ms (az_o 12) yX12_works.name cX12_works q := az_tc_ok az_pool_ok az_mok_all.1 12 false (fun h => by cases h) (by decide +kernel)
set_option maxRecDepth 20000 in
theorem az_t221 : ∀ q ∈ k_X12_waitsFor, az_iok az_ms (az_o 12) yX12_waitsFor.name cX12_waitsFor q := az_tc_ok az_pool_ok az_mok_all.1 12 false (fun h => by cases h) (by decide +kernel)
set_option maxRecDepth 20000 in
theorem az_t222 : ∀ q ∈ k_X12_asks, az_iok az_ms (az_o 12) yX12_asks.name cX12_asks q := az_tc_ok az_pool_ok az_mok_all.1 12 false (fun h => by cases h) (by decide +kernel)
set_option maxRecDepth 20000 in
theorem az_t223 : ∀ q ∈ k_X12_begins, az_iok az_ms (az_o 12) yX12_begins.name cX12_begins q := az_tc_ok az_pool_ok az_mok_all.1 12 false (fun h => by cases h) (by decide +kernel)
set_option maxRecDepth 20000 in
theorem az_t224 : ∀ q ∈ k_X12_oneIsOver, az_iok az_ms (az_o 12) yX12_oneIsOver.name cX12_oneIsOver q := az_tc_ok az_pool_ok az_mok_all.1 12 false (fun h => by cases h) (by decide +kernel)
set_option maxRecDepth 20000 in
theorem az_t225 : ∀ q ∈ k_X12_askIsOver, az_iok az_ms (az_o 12) yX12_askIsOver.name cX12_askIsOver q := az_tc_ok az_pool_ok az_mok_all.1 12 false (fun h => by cases h) (by decide +kernel)
set_option maxRecDepth 20000 in
theorem az_t226 : ∀ q ∈ k_X12_isAsking, az_iok az_ms (az_o 12) yX12_isAsking.name cX12_isAsking q := az_tc_ok az_pool_ok az_mok_all.1 12 false (fun h => by cases h) (by decide +kernel)
set_option maxRecDepth 20000 in
theorem az_t227 : ∀ q ∈ k_X12_goesOn, az_iok az_ms (az_o 12) yX12_goesOn.name cX12_goesOn q := az_tc_ok az_pool_ok az_mok_all.1 12 false (fun h => by cases h) (by decide +kernel)
set_option maxRecDepth 20000 in
theorem az_t228 : ∀ q ∈ k_X12_asksOn, az_iok az_ms (az_o 12) yX12_asksOn.name cX12_asksOn q := az_tc_ok az_pool_ok az_mok_all.1 12 false (fun h => by cases h) (by decide +kernel)
set_option maxRecDepth 20000 in
theorem az_t229 : ∀ q ∈ k_X12_rule, az_iok az_ms (az_o 12) yX12_rule.name cX12_rule q := az_tc_ok az_pool_ok az_mok_all.1 12 false (fun h => by cases h) (by decide +kernel)
set_option maxRecDepth 20000 in
theorem az_t230 : ∀ q ∈ k_X12_tariff, az_iok az_ms (az_o 12) yX12_tariff.name cX12_tariff q := az_tc_ok az_pool_ok az_mok_all.1 12 false (fun h => by cases h) (by decide +kernel)
set_option maxRecDepth 20000 in
theorem az_t231 : ∀ q ∈ k_X12_fault, az_iok az_ms (az_o 12) yX12_fault.name cX12_fault q := az_tc_ok az_pool_ok az_mok_all.1 12 false (fun h => by cases h) (by decide +kernel)
set_option maxRecDepth 20000 in
theorem az_t232 : ∀ q ∈ k_X12_bound, az_iok az_ms (az_o 12) yX12_bound.name cX12_bound q := az_tc_ok az_pool_ok az_mok_all.1 12 false (fun h => by cases h) (by decide +kernel)
set_option maxRecDepth 20000 in
theorem az_t233 : ∀ q ∈ k_X12_worked, az_iok az_ms (az_o 12) yX12_worked.name cX12_worked q := az_tc_ok az_pool_ok az_mok_all.1 12 false (fun h => by cases h) (by decide +kernel)
set_option maxRecDepth 20000 in
theorem az_t234 : ∀ q ∈ k_X12_given, az_iok az_ms (az_o 12) yX12_given.name cX12_given q := az_tc_ok az_pool_ok az_mok_all.1 12 false (fun h => by cases h) (by decide +kernel)
end
section
set_option maxRecDepth 20000 in
theorem az_t235 : ∀ q ∈ k_X12_gives, az_iok az_ms (az_o 12) yX12_gives.name cX12_gives q := az_tc_ok az_pool_ok az_mok_all.1 12 false (fun h => by cases h) (by decide +kernel)
set_option maxRecDepth 20000 in
theorem az_t236 : ∀ q ∈ k_X12_stall, az_iok az_ms (az_o 12) yX12_stall.name cX12_stall q := az_tc_ok az_pool_ok az_mok_all.1 12 false (fun h => by cases h) (by decide +kernel)
set_option maxRecDepth 20000 in
theorem az_t237 : ∀ q ∈ k_X12_mayPlace, az_iok az_ms (az_o 12) yX12_mayPlace.name cX12_mayPlace q := az_tc_ok az_pool_ok az_mok_all.1 12 false (fun h => by cases h) (by decide +kernel)
set_option maxRecDepth 20000 in
theorem az_t238 : ∀ q ∈ k_X12_place, az_iok az_ms (az_o 12) yX12_place.name cX12_place q := az_tc_ok az_pool_ok az_mok_all.1 12 false (fun h => by cases h) (by decide +kernel)
set_option maxRecDepth 20000 in
theorem az_t239 : ∀ q ∈ k_X12_placeOf, az_iok az_ms (az_o 12) yX12_placeOf.name cX12_placeOf q := az_tc_ok az_pool_ok az_mok_all.1 12 false (fun h => by cases h) (by decide +kernel)
set_option maxRecDepth 20000 in
theorem az_t240 : ∀ q ∈ k_X12_charge, az_iok az_ms (az_o 12) yX12_charge.name cX12_charge q := az_tc_ok az_pool_ok az_mok_all.1 12 false (fun h => by cases h) (by decide +kernel)
set_option maxRecDepth 20000 in
theorem az_t241 : ∀ q ∈ k_X12_fees, az_iok az_ms (az_o 12) yX12_fees.name cX12_fees q := az_tc_ok az_pool_ok az_mok_all.1 12 false (fun h => by cases h) (by decide +kernel)
set_option maxRecDepth 20000 in
theorem az_t242 : ∀ q ∈ k_X12_isTaken, az_iok az_ms (az_o 12) yX12_isTaken.name cX12_isTaken q := az_tc_ok az_pool_ok az_mok_all.1 12 false (fun h => by cases h) (by decide +kernel)
set_option maxRecDepth 20000 in
theorem az_t243 : ∀ q ∈ k_X12_beside, az_iok az_ms (az_o 12) yX12_beside.name cX12_beside q := az_tc_ok az_pool_ok az_mok_all.1 12 false (fun h => by cases h) (by decide +kernel)
set_option maxRecDepth 20000 in
theorem az_t244 : ∀ q ∈ k_X12_nextOf, az_iok az_ms (az_o 12) yX12_nextOf.name cX12_nextOf q := az_tc_ok az_pool_ok az_mok_all.1 12 false (fun h => by cases h) (by decide +kernel)
set_option maxRecDepth 20000 in
theorem az_t245 : ∀ q ∈ k_X12_walk, az_iok az_ms (az_o 12) yX12_walk.name cX12_walk q := az_tc_ok az_pool_ok az_mok_all.1 12 false (fun h => by cases h) (by decide +kernel)
set_option maxRecDepth 20000 in
theorem az_t246 : ∀ q ∈ k_X12_walked, az_iok az_ms (az_o 12) yX12_walked.name cX12_walked q := az_tc_ok az_pool_ok az_mok_all.1 12 false (fun h => by cases h) (by decide +kernel)
set_option maxRecDepth 20000 in
theorem az_t247 : ∀ q ∈ k_X12_servedBy, az_iok az_ms (az_o 12) yX12_servedBy.name cX12_servedBy q := az_tc_ok az_pool_ok az_mok_all.1 12 false (fun h => by cases h) (by decide +kernel)
set_option maxRecDepth 20000 in
theorem az_t248 : ∀ q ∈ k_X12_seeks, az_iok az_ms (az_o 12) yX12_seeks.name cX12_seeks q := az_tc_ok az_pool_ok az_mok_all.1 12 false (fun h => by cases h) (by decide +kernel)
set_option maxRecDepth 20000 in
theorem az_t249 : ∀ q ∈ k_X12_best, az_iok az_ms (az_o 12) yX12_best.name cX12_best q := az_tc_ok az_pool_ok az_mok_all.1 12 false (fun h => by cases h) (by decide +kernel)
set_option maxRecDepth 20000 in
theorem az_t250 : ∀ q ∈ k_X12_serves, az_iok az_ms (az_o 12) yX12_serves.name cX12_serves q := az_tc_ok az_pool_ok az_mok_all.1 12 false (fun h => by cases h) (by decide +kernel)
set_option maxRecDepth 20000 in
theorem az_t251 : ∀ q ∈ k_X12_about, az_iok az_ms (az_o 12) yX12_about.name cX12_about q := az_tc_ok az_pool_ok az_mok_all.1 12 false (fun h => by cases h) (by decide +kernel)
set_option maxRecDepth 20000 in
theorem az_t252 : ∀ q ∈ k_J6_bitCount_0f7a4, az_iok az_ms (az_o 20) yJ6_bitCount_0f7a4.name cJ6_bitCount_0f7a4 q := az_tc_ok az_pool_ok az_mok_all.1 20 false (fun h => by cases h) (by decide +kernel)
set_option maxRecDepth 20000 in
theorem az_t253 : ∀ q ∈ k_J9_floorDiv_7cf53, az_iok az_ms (az_o 23) yJ9_floorDiv_7cf53.name cJ9_floorDiv_7cf53 q := az_tc_ok az_pool_ok az_mok_all.1 23 false (fun h => by cases h) (by decide +kernel)
set_option maxRecDepth 20000 in
theorem az_t254 : ∀ q ∈ k_J9_abs_0f7a4, az_iok az_ms (az_o 23) yJ9_abs_0f7a4.name cJ9_abs_0f7a4 q := az_tc_ok az_pool_ok az_mok_all.1 23 false (fun h => by cases h) (by decide +kernel)
set_option maxRecDepth 20000 in
theorem az_t255 : ∀ q ∈ k_J9_max_7cf53, az_iok az_ms (az_o 23) yJ9_max_7cf53.name cJ9_max_7cf53 q := az_tc_ok az_pool_ok az_mok_all.1 23 false (fun h => by cases h) (by decide +kernel)
set_option maxRecDepth 20000 in
theorem az_t256 : ∀ q ∈ k_J9_max_f86c9, az_iok az_ms (az_o 23) yJ9_max_f86c9.name cJ9_max_f86c9 q := az_tc_ok az_pool_ok az_mok_all.1 23 false (fun h => by cases h) (by decide +kernel)
set_option maxRecDepth 20000 in
theorem az_t257 : ∀ q ∈ k_J9_min_7cf53, az_iok az_ms (az_o 23) yJ9_min_7cf53.name cJ9_min_7cf53 q := az_tc_ok az_pool_ok az_mok_all.1 23 false (fun h => by cases h) (by decide +kernel)
set_option maxRecDepth 20000 in
theorem az_t258 : ∀ q ∈ k_J9_min_f86c9, az_iok az_ms (az_o 23) yJ9_min_f86c9.name cJ9_min_f86c9 q := az_tc_ok az_pool_ok az_mok_all.1 23 false (fun h => by cases h) (by decide +kernel)
set_option maxRecDepth 20000 in
theorem az_t259 : ∀ q ∈ k_J0_length_8abf5, az_iok az_ms (az_o 16) yJ0_length_8abf5.name cJ0_length_8abf5 q := az_tc_ok az_pool_ok az_mok_all.1 16 false (fun h => by cases h) (by decide +kernel)
set_option maxRecDepth 20000 in
theorem az_t260 : ∀ q ∈ k_J0_charAt_5068e, az_iok az_ms (az_o 16) yJ0_charAt_5068e.name cJ0_charAt_5068e q := az_tc_ok az_pool_ok az_mok_all.1 16 false (fun h => by cases h) (by decide +kernel)
set_option maxRecDepth 20000 in
theorem az_t261 : ∀ q ∈ k_J0_coder_7d493, az_iok az_ms (az_o 16) yJ0_coder_7d493.name cJ0_coder_7d493 q := az_tc_ok az_pool_ok az_mok_all.1 16 false (fun h => by cases h) (by decide +kernel)
set_option maxRecDepth 20000 in
theorem az_t262 : ∀ q ∈ k_J0_isLatin1_aae02, az_iok az_ms (az_o 16) yJ0_isLatin1_aae02.name cJ0_isLatin1_aae02 q := az_tc_ok az_pool_ok az_mok_all.1 16 false (fun h => by cases h) (by decide +kernel)
set_option maxRecDepth 20000 in
theorem az_t263 : ∀ q ∈ k_J0_checkIndex_df160, az_iok az_ms (az_o 16) yJ0_checkIndex_df160.name cJ0_checkIndex_df160 q := az_tc_ok az_pool_ok az_mok_all.1 16 false (fun h => by cases h) (by decide +kernel)
set_option maxRecDepth 20000 in
theorem az_t264 : ∀ q ∈ k_J1_charAt_3b067, az_iok az_ms (az_o 17) yJ1_charAt_3b067.name cJ1_charAt_3b067 q := az_tc_ok az_pool_ok az_mok_all.1 17 false (fun h => by cases h) (by decide +kernel)
set_option maxRecDepth 20000 in
theorem az_t265 : ∀ q ∈ k_Jxa1e45_init_da8c8, az_iok az_ms (az_o 15) yJxa1e45_init_da8c8.name cJxa1e45_init_da8c8 q := az_tc_ok az_pool_ok az_mok_all.1 15 true (fun _ => rfl) (by decide +kernel)
set_option maxRecDepth 20000 in
theorem az_t266 : ∀ q ∈ k_Jxc12de_init_da8c8, az_iok az_ms (az_o 14) yJxc12de_init_da8c8.name cJxc12de_init_da8c8 q := az_tc_ok az_pool_ok az_mok_all.1 14 true (fun _ => rfl) (by decide +kernel)
set_option maxRecDepth 20000 in
theorem az_t267 : ∀ q ∈ k_Jx4a65c_init_da8c8, az_iok az_ms (az_o 13) yJx4a65c_init_da8c8.name cJx4a65c_init_da8c8 q := az_tc_ok az_pool_ok az_mok_all.1 13 true (fun _ => rfl) (by decide +kernel)
set_option maxRecDepth 20000 in
theorem az_t268 : ∀ q ∈ k_Jx4a65c_grow_92f84, az_iok az_ms (az_o 13) yJx4a65c_grow_92f84.name cJx4a65c_grow_92f84 q := az_tc_ok az_pool_ok az_mok_all.1 13 false (fun h => by cases h) (by decide +kernel)
set_option maxRecDepth 20000 in
theorem az_t269 : ∀ q ∈ k_Jx4a65c_grow_d5877, az_iok az_ms (az_o 13) yJx4a65c_grow_d5877.name cJx4a65c_grow_d5877 q := az_tc_ok az_pool_ok az_mok_all.1 13 false (fun h => by cases h) (by decide +kernel)
set_option maxRecDepth 20000 in
theorem az_t270 : ∀ q ∈ k_Jx4a65c_size_8abf5, az_iok az_ms (az_o 13) yJx4a65c_size_8abf5.name cJx4a65c_size_8abf5 q := az_tc_ok az_pool_ok az_mok_all.1 13 false (fun h => by cases h) (by decide +kernel)
set_option maxRecDepth 20000 in
theorem az_t271 : ∀ q ∈ k_Jx4a65c_elementData_915e3, az_iok az_ms (az_o 13) yJx4a65c_elementData_915e3.name cJx4a65c_elementData_915e3 q := az_tc_ok az_pool_ok az_mok_all.1 13 false (fun h => by cases h) (by decide +kernel)
set_option maxRecDepth 20000 in
theorem az_t272 : ∀ q ∈ k_Jx4a65c_get_915e3, az_iok az_ms (az_o 13) yJx4a65c_get_915e3.name cJx4a65c_get_915e3 q := az_tc_ok az_pool_ok az_mok_all.1 13 false (fun h => by cases h) (by decide +kernel)
set_option maxRecDepth 20000 in
theorem az_t273 : ∀ q ∈ k_Jx4a65c_add_72be8, az_iok az_ms (az_o 13) yJx4a65c_add_72be8.name cJx4a65c_add_72be8 q := az_tc_ok az_pool_ok az_mok_all.1 13 false (fun h => by cases h) (by decide +kernel)
set_option maxRecDepth 20000 in
theorem az_t274 : ∀ q ∈ k_Jx4a65c_add_9ea2d, az_iok az_ms (az_o 13) yJx4a65c_add_9ea2d.name cJx4a65c_add_9ea2d q := az_tc_ok az_pool_ok az_mok_all.1 13 false (fun h => by cases h) (by decide +kernel)
set_option maxRecDepth 20000 in
theorem az_t275 : ∀ q ∈ k_J7_fill_53178, az_iok az_ms (az_o 21) yJ7_fill_53178.name cJ7_fill_53178 q := az_tc_ok az_pool_ok az_mok_all.1 21 false (fun h => by cases h) (by decide +kernel)
set_option maxRecDepth 20000 in
theorem az_t276 : ∀ q ∈ k_J7_copyOf_1904c, az_iok az_ms (az_o 21) yJ7_copyOf_1904c.name cJ7_copyOf_1904c q := az_tc_ok az_pool_ok az_mok_all.1 21 false (fun h => by cases h) (by decide +kernel)
set_option maxRecDepth 20000 in
theorem az_t277 : ∀ q ∈ k_J7_copyOf_6403c, az_iok az_ms (az_o 21) yJ7_copyOf_6403c.name cJ7_copyOf_6403c q := az_tc_ok az_pool_ok az_mok_all.1 21 false (fun h => by cases h) (by decide +kernel)
set_option maxRecDepth 20000 in
theorem az_t278 : ∀ q ∈ k_J15_checkIndex_7cf53, az_iok az_ms (az_o 24) yJ15_checkIndex_7cf53.name cJ15_checkIndex_7cf53 q := az_tc_ok az_pool_ok az_mok_all.1 24 false (fun h => by cases h) (by decide +kernel)
set_option maxRecDepth 20000 in
theorem az_t279 : ∀ q ∈ k_J8_newLength_cabcc, az_iok az_ms (az_o 22) yJ8_newLength_cabcc.name cJ8_newLength_cabcc q := az_tc_ok az_pool_ok az_mok_all.1 22 false (fun h => by cases h) (by decide +kernel)
set_option maxRecDepth 20000 in
theorem az_t280 : ∀ q ∈ k_J3_checkIndex_8e157, az_iok az_ms (az_o 19) yJ3_checkIndex_8e157.name cJ3_checkIndex_8e157 q := az_tc_ok az_pool_ok az_mok_all.1 19 false (fun h => by cases h) (by decide +kernel)
set_option maxRecDepth 20000 in
theorem az_t281 : ∀ q ∈ k_L_cell, az_iok az_ms (az_o 25) yL_cell.name cL_cell q := az_tc_ok az_pool_ok az_mok_all.1 25 false (fun h => by cases h) (by decide +kernel)
end
section
set_option maxRecDepth 20000 in
theorem az_ts0 : ∀ y M, y < 47 → az_ms (0 + y) = some M → ∀ q ∈ az_cds (0 + y), az_iok az_ms M.1.cls M.1.name M.2.1 q := by
  intro y M hy h
  match y, hy, h with
  | 0, _, h => exact (Option.some.inj h) ▸ az_t0
  | 1, _, h => exact (Option.some.inj h) ▸ az_t1
  | 2, _, h => exact (Option.some.inj h) ▸ az_t2
  | 3, _, h => exact (Option.some.inj h) ▸ az_t3
  | 4, _, h => exact (Option.some.inj h) ▸ az_t4
  | 5, _, h => exact (Option.some.inj h) ▸ az_t5
  | 6, _, h => exact (Option.some.inj h) ▸ az_t6
  | 7, _, h => exact (Option.some.inj h) ▸ az_t7
  | 8, _, h => exact (Option.some.inj h) ▸ az_t8
  | 9, _, h => exact (Option.some.inj h) ▸ az_t9
  | 10, _, h => exact (Option.some.inj h) ▸ az_t10
  | 11, _, h => exact (Option.some.inj h) ▸ az_t11
  | 12, _, h => exact (Option.some.inj h) ▸ az_t12
  | 13, _, h => exact (Option.some.inj h) ▸ az_t13
  | 14, _, h => exact (Option.some.inj h) ▸ az_t14
  | 15, _, h => exact (Option.some.inj h) ▸ az_t15
  | 16, _, h => exact (Option.some.inj h) ▸ az_t16
  | 17, _, h => exact (Option.some.inj h) ▸ az_t17
  | 18, _, h => exact (Option.some.inj h) ▸ az_t18
  | 19, _, h => exact (Option.some.inj h) ▸ az_t19
  | 20, _, h => exact (Option.some.inj h) ▸ az_t20
  | 21, _, h => exact (Option.some.inj h) ▸ az_t21
  | 22, _, h => exact (Option.some.inj h) ▸ az_t22
  | 23, _, h => exact (Option.some.inj h) ▸ az_t23
  | 24, _, h => exact (Option.some.inj h) ▸ az_t24
  | 25, _, h => exact (Option.some.inj h) ▸ az_t25
  | 26, _, h => exact (Option.some.inj h) ▸ az_t26
  | 27, _, h => exact (Option.some.inj h) ▸ az_t27
  | 28, _, h => exact (Option.some.inj h) ▸ az_t28
  | 29, _, h => exact (Option.some.inj h) ▸ az_t29
  | 30, _, h => exact (Option.some.inj h) ▸ az_t30
  | 31, _, h => exact (Option.some.inj h) ▸ az_t31
  | 32, _, h => exact (Option.some.inj h) ▸ az_t32
  | 33, _, h => exact (Option.some.inj h) ▸ az_t33
  | 34, _, h => exact (Option.some.inj h) ▸ az_t34
  | 35, _, h => exact (Option.some.inj h) ▸ az_t35
  | 36, _, h => exact (Option.some.inj h) ▸ az_t36
  | 37, _, h => exact (Option.some.inj h) ▸ az_t37
  | 38, _, h => exact (Option.some.inj h) ▸ az_t38
  | 39, _, h => exact (Option.some.inj h) ▸ az_t39
  | 40, _, h => exact (Option.some.inj h) ▸ az_t40
  | 41, _, h => exact (Option.some.inj h) ▸ az_t41
  | 42, _, h => exact (Option.some.inj h) ▸ az_t42
  | 43, _, h => exact (Option.some.inj h) ▸ az_t43
  | 44, _, h => exact (Option.some.inj h) ▸ az_t44
  | 45, _, h => exact (Option.some.inj h) ▸ az_t45
  | 46, _, h => exact (Option.some.inj h) ▸ az_t46
  | j + 47, hy, _ => omega
set_option maxRecDepth 20000 in
theorem az_ts1 : ∀ y M, y < 47 → az_ms (47 + y) = some M → ∀ q ∈ az_cds (47 + y), az_iok az_ms M.1.cls M.1.name M.2.1 q := by
  intro y M hy h
  match y, hy, h with
  | 0, _, h => exact (Option.some.inj h) ▸ az_t47
  | 1, _, h => exact (Option.some.inj h) ▸ az_t48
  | 2, _, h => exact (Option.some.inj h) ▸ az_t49
  | 3, _, h => exact (Option.some.inj h) ▸ az_t50
  | 4, _, h => exact (Option.some.inj h) ▸ az_t51
  | 5, _, h => exact (Option.some.inj h) ▸ az_t52
  | 6, _, h => exact (Option.some.inj h) ▸ az_t53
  | 7, _, h => exact (Option.some.inj h) ▸ az_t54
  | 8, _, h => exact (Option.some.inj h) ▸ az_t55
  | 9, _, h => exact (Option.some.inj h) ▸ az_t56
  | 10, _, h => exact (Option.some.inj h) ▸ az_t57
  | 11, _, h => exact (Option.some.inj h) ▸ az_t58
  | 12, _, h => exact (Option.some.inj h) ▸ az_t59
  | 13, _, h => exact (Option.some.inj h) ▸ az_t60
  | 14, _, h => exact (Option.some.inj h) ▸ az_t61
  | 15, _, h => exact (Option.some.inj h) ▸ az_t62
  | 16, _, h => exact (Option.some.inj h) ▸ az_t63
  | 17, _, h => exact (Option.some.inj h) ▸ az_t64
  | 18, _, h => exact (Option.some.inj h) ▸ az_t65
  | 19, _, h => exact (Option.some.inj h) ▸ az_t66
  | 20, _, h => exact (Option.some.inj h) ▸ az_t67
  | 21, _, h => exact (Option.some.inj h) ▸ az_t68
  | 22, _, h => exact (Option.some.inj h) ▸ az_t69
  | 23, _, h => exact (Option.some.inj h) ▸ az_t70
  | 24, _, h => exact (Option.some.inj h) ▸ az_t71
  | 25, _, h => exact (Option.some.inj h) ▸ az_t72
  | 26, _, h => exact (Option.some.inj h) ▸ az_t73
  | 27, _, h => exact (Option.some.inj h) ▸ az_t74
  | 28, _, h => exact (Option.some.inj h) ▸ az_t75
  | 29, _, h => exact (Option.some.inj h) ▸ az_t76
  | 30, _, h => exact (Option.some.inj h) ▸ az_t77
  | 31, _, h => exact (Option.some.inj h) ▸ az_t78
  | 32, _, h => exact (Option.some.inj h) ▸ az_t79
  | 33, _, h => exact (Option.some.inj h) ▸ az_t80
  | 34, _, h => exact (Option.some.inj h) ▸ az_t81
  | 35, _, h => exact (Option.some.inj h) ▸ az_t82
  | 36, _, h => exact (Option.some.inj h) ▸ az_t83
  | 37, _, h => exact (Option.some.inj h) ▸ az_t84
  | 38, _, h => exact (Option.some.inj h) ▸ az_t85
  | 39, _, h => exact (Option.some.inj h) ▸ az_t86
  | 40, _, h => exact (Option.some.inj h) ▸ az_t87
  | 41, _, h => exact (Option.some.inj h) ▸ az_t88
  | 42, _, h => exact (Option.some.inj h) ▸ az_t89
  | 43, _, h => exact (Option.some.inj h) ▸ az_t90
  | 44, _, h => exact (Option.some.inj h) ▸ az_t91
  | 45, _, h => exact (Option.some.inj h) ▸ az_t92
  | 46, _, h => exact (Option.some.inj h) ▸ az_t93
  | j + 47, hy, _ => omega
set_option maxRecDepth 20000 in
theorem az_ts2 : ∀ y M, y < 47 → az_ms (94 + y) = some M → ∀ q ∈ az_cds (94 + y), az_iok az_ms M.1.cls M.1.name M.2.1 q := by
  intro y M hy h
  match y, hy, h with
  | 0, _, h => exact (Option.some.inj h) ▸ az_t94
  | 1, _, h => exact (Option.some.inj h) ▸ az_t95
  | 2, _, h => exact (Option.some.inj h) ▸ az_t96
  | 3, _, h => exact (Option.some.inj h) ▸ az_t97
  | 4, _, h => exact (Option.some.inj h) ▸ az_t98
  | 5, _, h => exact (Option.some.inj h) ▸ az_t99
  | 6, _, h => exact (Option.some.inj h) ▸ az_t100
  | 7, _, h => exact (Option.some.inj h) ▸ az_t101
  | 8, _, h => exact (Option.some.inj h) ▸ az_t102
  | 9, _, h => exact (Option.some.inj h) ▸ az_t103
  | 10, _, h => exact (Option.some.inj h) ▸ az_t104
  | 11, _, h => exact (Option.some.inj h) ▸ az_t105
  | 12, _, h => exact (Option.some.inj h) ▸ az_t106
  | 13, _, h => exact (Option.some.inj h) ▸ az_t107
  | 14, _, h => exact (Option.some.inj h) ▸ az_t108
  | 15, _, h => exact (Option.some.inj h) ▸ az_t109
  | 16, _, h => exact (Option.some.inj h) ▸ az_t110
  | 17, _, h => exact (Option.some.inj h) ▸ az_t111
  | 18, _, h => exact (Option.some.inj h) ▸ az_t112
  | 19, _, h => exact (Option.some.inj h) ▸ az_t113
  | 20, _, h => exact (Option.some.inj h) ▸ az_t114
  | 21, _, h => exact (Option.some.inj h) ▸ az_t115
  | 22, _, h => exact (Option.some.inj h) ▸ az_t116
  | 23, _, h => exact (Option.some.inj h) ▸ az_t117
  | 24, _, h => exact (Option.some.inj h) ▸ az_t118
  | 25, _, h => exact (Option.some.inj h) ▸ az_t119
  | 26, _, h => exact (Option.some.inj h) ▸ az_t120
  | 27, _, h => exact (Option.some.inj h) ▸ az_t121
  | 28, _, h => exact (Option.some.inj h) ▸ az_t122
  | 29, _, h => exact (Option.some.inj h) ▸ az_t123
  | 30, _, h => exact (Option.some.inj h) ▸ az_t124
  | 31, _, h => exact (Option.some.inj h) ▸ az_t125
  | 32, _, h => exact (Option.some.inj h) ▸ az_t126
  | 33, _, h => exact (Option.some.inj h) ▸ az_t127
  | 34, _, h => exact (Option.some.inj h) ▸ az_t128
  | 35, _, h => exact (Option.some.inj h) ▸ az_t129
  | 36, _, h => exact (Option.some.inj h) ▸ az_t130
  | 37, _, h => exact (Option.some.inj h) ▸ az_t131
  | 38, _, h => exact (Option.some.inj h) ▸ az_t132
  | 39, _, h => exact (Option.some.inj h) ▸ az_t133
  | 40, _, h => exact (Option.some.inj h) ▸ az_t134
  | 41, _, h => exact (Option.some.inj h) ▸ az_t135
  | 42, _, h => exact (Option.some.inj h) ▸ az_t136
  | 43, _, h => exact (Option.some.inj h) ▸ az_t137
  | 44, _, h => exact (Option.some.inj h) ▸ az_t138
  | 45, _, h => exact (Option.some.inj h) ▸ az_t139
  | 46, _, h => exact (Option.some.inj h) ▸ az_t140
  | j + 47, hy, _ => omega
set_option maxRecDepth 20000 in
theorem az_ts3 : ∀ y M, y < 47 → az_ms (141 + y) = some M → ∀ q ∈ az_cds (141 + y), az_iok az_ms M.1.cls M.1.name M.2.1 q := by
  intro y M hy h
  match y, hy, h with
  | 0, _, h => exact (Option.some.inj h) ▸ az_t141
  | 1, _, h => exact (Option.some.inj h) ▸ az_t142
  | 2, _, h => exact (Option.some.inj h) ▸ az_t143
  | 3, _, h => exact (Option.some.inj h) ▸ az_t144
  | 4, _, h => exact (Option.some.inj h) ▸ az_t145
  | 5, _, h => exact (Option.some.inj h) ▸ az_t146
  | 6, _, h => exact (Option.some.inj h) ▸ az_t147
  | 7, _, h => exact (Option.some.inj h) ▸ az_t148
  | 8, _, h => exact (Option.some.inj h) ▸ az_t149
  | 9, _, h => exact (Option.some.inj h) ▸ az_t150
  | 10, _, h => exact (Option.some.inj h) ▸ az_t151
  | 11, _, h => exact (Option.some.inj h) ▸ az_t152
  | 12, _, h => exact (Option.some.inj h) ▸ az_t153
  | 13, _, h => exact (Option.some.inj h) ▸ az_t154
  | 14, _, h => exact (Option.some.inj h) ▸ az_t155
  | 15, _, h => exact (Option.some.inj h) ▸ az_t156
  | 16, _, h => exact (Option.some.inj h) ▸ az_t157
  | 17, _, h => exact (Option.some.inj h) ▸ az_t158
  | 18, _, h => exact (Option.some.inj h) ▸ az_t159
  | 19, _, h => exact (Option.some.inj h) ▸ az_t160
  | 20, _, h => exact (Option.some.inj h) ▸ az_t161
  | 21, _, h => exact (Option.some.inj h) ▸ az_t162
  | 22, _, h => exact (Option.some.inj h) ▸ az_t163
  | 23, _, h => exact (Option.some.inj h) ▸ az_t164
  | 24, _, h => exact (Option.some.inj h) ▸ az_t165
  | 25, _, h => exact (Option.some.inj h) ▸ az_t166
  | 26, _, h => exact (Option.some.inj h) ▸ az_t167
  | 27, _, h => exact (Option.some.inj h) ▸ az_t168
  | 28, _, h => exact (Option.some.inj h) ▸ az_t169
  | 29, _, h => exact (Option.some.inj h) ▸ az_t170
  | 30, _, h => exact (Option.some.inj h) ▸ az_t171
  | 31, _, h => exact (Option.some.inj h) ▸ az_t172
  | 32, _, h => exact (Option.some.inj h) ▸ az_t173
  | 33, _, h => exact (Option.some.inj h) ▸ az_t174
  | 34, _, h => exact (Option.some.inj h) ▸ az_t175
  | 35, _, h => exact (Option.some.inj h) ▸ az_t176
  | 36, _, h => exact (Option.some.inj h) ▸ az_t177
  | 37, _, h => exact (Option.some.inj h) ▸ az_t178
  | 38, _, h => exact (Option.some.inj h) ▸ az_t179
  | 39, _, h => exact (Option.some.inj h) ▸ az_t180
  | 40, _, h => exact (Option.some.inj h) ▸ az_t181
  | 41, _, h => exact (Option.some.inj h) ▸ az_t182
  | 42, _, h => exact (Option.some.inj h) ▸ az_t183
  | 43, _, h => exact (Option.some.inj h) ▸ az_t184
  | 44, _, h => exact (Option.some.inj h) ▸ az_t185
  | 45, _, h => exact (Option.some.inj h) ▸ az_t186
  | 46, _, h => exact (Option.some.inj h) ▸ az_t187
  | j + 47, hy, _ => omega
set_option maxRecDepth 20000 in
theorem az_ts4 : ∀ y M, y < 47 → az_ms (188 + y) = some M → ∀ q ∈ az_cds (188 + y), az_iok az_ms M.1.cls M.1.name M.2.1 q := by
  intro y M hy h
  match y, hy, h with
  | 0, _, h => exact (Option.some.inj h) ▸ az_t188
  | 1, _, h => exact (Option.some.inj h) ▸ az_t189
  | 2, _, h => exact (Option.some.inj h) ▸ az_t190
  | 3, _, h => exact (Option.some.inj h) ▸ az_t191
  | 4, _, h => exact (Option.some.inj h) ▸ az_t192
  | 5, _, h => exact (Option.some.inj h) ▸ az_t193
  | 6, _, h => exact (Option.some.inj h) ▸ az_t194
  | 7, _, h => exact (Option.some.inj h) ▸ az_t195
  | 8, _, h => exact (Option.some.inj h) ▸ az_t196
  | 9, _, h => exact (Option.some.inj h) ▸ az_t197
  | 10, _, h => exact (Option.some.inj h) ▸ az_t198
  | 11, _, h => exact (Option.some.inj h) ▸ az_t199
  | 12, _, h => exact (Option.some.inj h) ▸ az_t200
  | 13, _, h => exact (Option.some.inj h) ▸ az_t201
  | 14, _, h => exact (Option.some.inj h) ▸ az_t202
  | 15, _, h => exact (Option.some.inj h) ▸ az_t203
  | 16, _, h => exact (Option.some.inj h) ▸ az_t204
  | 17, _, h => exact (Option.some.inj h) ▸ az_t205
  | 18, _, h => exact (Option.some.inj h) ▸ az_t206
  | 19, _, h => exact (Option.some.inj h) ▸ az_t207
  | 20, _, h => exact (Option.some.inj h) ▸ az_t208
  | 21, _, h => exact (Option.some.inj h) ▸ az_t209
  | 22, _, h => exact (Option.some.inj h) ▸ az_t210
  | 23, _, h => exact (Option.some.inj h) ▸ az_t211
  | 24, _, h => exact (Option.some.inj h) ▸ az_t212
  | 25, _, h => exact (Option.some.inj h) ▸ az_t213
  | 26, _, h => exact (Option.some.inj h) ▸ az_t214
  | 27, _, h => exact (Option.some.inj h) ▸ az_t215
  | 28, _, h => exact (Option.some.inj h) ▸ az_t216
  | 29, _, h => exact (Option.some.inj h) ▸ az_t217
  | 30, _, h => exact (Option.some.inj h) ▸ az_t218
  | 31, _, h => exact (Option.some.inj h) ▸ az_t219
  | 32, _, h => exact (Option.some.inj h) ▸ az_t220
  | 33, _, h => exact (Option.some.inj h) ▸ az_t221
  | 34, _, h => exact (Option.some.inj h) ▸ az_t222
  | 35, _, h => exact (Option.some.inj h) ▸ az_t223
  | 36, _, h => exact (Option.some.inj h) ▸ az_t224
  | 37, _, h => exact (Option.some.inj h) ▸ az_t225
  | 38, _, h => exact (Option.some.inj h) ▸ az_t226
  | 39, _, h => exact (Option.some.inj h) ▸ az_t227
  | 40, _, h => exact (Option.some.inj h) ▸ az_t228
  | 41, _, h => exact (Option.some.inj h) ▸ az_t229
  | 42, _, h => exact (Option.some.inj h) ▸ az_t230
  | 43, _, h => exact (Option.some.inj h) ▸ az_t231
  | 44, _, h => exact (Option.some.inj h) ▸ az_t232
  | 45, _, h => exact (Option.some.inj h) ▸ az_t233
  | 46, _, h => exact (Option.some.inj h) ▸ az_t234
  | j + 47, hy, _ => omega
set_option maxRecDepth 20000 in
theorem az_ts5 : ∀ y M, y < 47 → az_ms (235 + y) = some M → ∀ q ∈ az_cds (235 + y), az_iok az_ms M.1.cls M.1.name M.2.1 q := by
  intro y M hy h
  match y, hy, h with
  | 0, _, h => exact (Option.some.inj h) ▸ az_t235
  | 1, _, h => exact (Option.some.inj h) ▸ az_t236
  | 2, _, h => exact (Option.some.inj h) ▸ az_t237
  | 3, _, h => exact (Option.some.inj h) ▸ az_t238
  | 4, _, h => exact (Option.some.inj h) ▸ az_t239
  | 5, _, h => exact (Option.some.inj h) ▸ az_t240
  | 6, _, h => exact (Option.some.inj h) ▸ az_t241
  | 7, _, h => exact (Option.some.inj h) ▸ az_t242
  | 8, _, h => exact (Option.some.inj h) ▸ az_t243
  | 9, _, h => exact (Option.some.inj h) ▸ az_t244
  | 10, _, h => exact (Option.some.inj h) ▸ az_t245
  | 11, _, h => exact (Option.some.inj h) ▸ az_t246
  | 12, _, h => exact (Option.some.inj h) ▸ az_t247
  | 13, _, h => exact (Option.some.inj h) ▸ az_t248
  | 14, _, h => exact (Option.some.inj h) ▸ az_t249
  | 15, _, h => exact (Option.some.inj h) ▸ az_t250
  | 16, _, h => exact (Option.some.inj h) ▸ az_t251
  | 17, _, h => exact (Option.some.inj h) ▸ az_t252
  | 18, _, h => exact (Option.some.inj h) ▸ az_t253
  | 19, _, h => exact (Option.some.inj h) ▸ az_t254
  | 20, _, h => exact (Option.some.inj h) ▸ az_t255
  | 21, _, h => exact (Option.some.inj h) ▸ az_t256
  | 22, _, h => exact (Option.some.inj h) ▸ az_t257
  | 23, _, h => exact (Option.some.inj h) ▸ az_t258
  | 24, _, h => exact (Option.some.inj h) ▸ az_t259
  | 25, _, h => exact (Option.some.inj h) ▸ az_t260
  | 26, _, h => exact (Option.some.inj h) ▸ az_t261
  | 27, _, h => exact (Option.some.inj h) ▸ az_t262
  | 28, _, h => exact (Option.some.inj h) ▸ az_t263
  | 29, _, h => exact (Option.some.inj h) ▸ az_t264
  | 30, _, h => exact (Option.some.inj h) ▸ az_t265
  | 31, _, h => exact (Option.some.inj h) ▸ az_t266
  | 32, _, h => exact (Option.some.inj h) ▸ az_t267
  | 33, _, h => exact (Option.some.inj h) ▸ az_t268
  | 34, _, h => exact (Option.some.inj h) ▸ az_t269
  | 35, _, h => exact (Option.some.inj h) ▸ az_t270
  | 36, _, h => exact (Option.some.inj h) ▸ az_t271
  | 37, _, h => exact (Option.some.inj h) ▸ az_t272
  | 38, _, h => exact (Option.some.inj h) ▸ az_t273
  | 39, _, h => exact (Option.some.inj h) ▸ az_t274
  | 40, _, h => exact (Option.some.inj h) ▸ az_t275
  | 41, _, h => exact (Option.some.inj h) ▸ az_t276
  | 42, _, h => exact (Option.some.inj h) ▸ az_t277
  | 43, _, h => exact (Option.some.inj h) ▸ az_t278
  | 44, _, h => exact (Option.some.inj h) ▸ az_t279
  | 45, _, h => exact (Option.some.inj h) ▸ az_t280
  | 46, _, h => exact (Option.some.inj h) ▸ az_t281
  | j + 47, hy, _ => omega
theorem az_T : ∀ y M, az_ms y = some M → plainFor M.1 = true ∧ ∀ q ∈ az_cds y, az_iok az_ms M.1.cls M.1.name M.2.1 q := by
  intro y M h
  refine ⟨az_mok_all.2 y M h, ?_⟩
  have hl := az_ms_lt h
  by_cases h0 : y < 47
  · have e : 0 + (y - 0) = y := by omega
    have := az_ts0 (y - 0) M (by omega) (by rw [e]; exact h)
    rw [e] at this
    exact this
  by_cases h1 : y < 94
  · have e : 47 + (y - 47) = y := by omega
    have := az_ts1 (y - 47) M (by omega) (by rw [e]; exact h)
    rw [e] at this
    exact this
  by_cases h2 : y < 141
  · have e : 94 + (y - 94) = y := by omega
    have := az_ts2 (y - 94) M (by omega) (by rw [e]; exact h)
    rw [e] at this
    exact this
  by_cases h3 : y < 188
  · have e : 141 + (y - 141) = y := by omega
    have := az_ts3 (y - 141) M (by omega) (by rw [e]; exact h)
    rw [e] at this
    exact this
  by_cases h4 : y < 235
  · have e : 188 + (y - 188) = y := by omega
    have := az_ts4 (y - 188) M (by omega) (by rw [e]; exact h)
    rw [e] at this
    exact this
  by_cases h5 : y < 282
  · have e : 235 + (y - 235) = y := by omega
    have := az_ts5 (y - 235) M (by omega) (by rw [e]; exact h)
    rw [e] at this
    exact this
  omega
end
section
set_option maxRecDepth 20000 in
theorem az_tlaw0 (nm : String) : ∀ q ∈ k_L_law0, az_iok az_ms (az_o 25) nm cL_law q := az_tc_ok az_pool_ok az_mok_all.1 25 false (fun h => by cases h) (by decide +kernel)
set_option maxRecDepth 20000 in
theorem az_tlaw1 (nm : String) : ∀ q ∈ k_L_law1, az_iok az_ms (az_o 25) nm cL_law q := az_tc_ok az_pool_ok az_mok_all.1 25 false (fun h => by cases h) (by decide +kernel)
set_option maxRecDepth 20000 in
theorem az_tlaw2 (nm : String) : ∀ q ∈ k_L_law2, az_iok az_ms (az_o 25) nm cL_law q := az_tc_ok az_pool_ok az_mok_all.1 25 false (fun h => by cases h) (by decide +kernel)
set_option maxRecDepth 20000 in
theorem az_tlaw3 (nm : String) : ∀ q ∈ k_L_law3, az_iok az_ms (az_o 25) nm cL_law q := az_tc_ok az_pool_ok az_mok_all.1 25 false (fun h => by cases h) (by decide +kernel)
set_option maxRecDepth 20000 in
theorem az_tlaw4 (nm : String) : ∀ q ∈ k_L_law4, az_iok az_ms (az_o 25) nm cL_law q := az_tc_ok az_pool_ok az_mok_all.1 25 false (fun h => by cases h) (by decide +kernel)
end
section
set_option maxRecDepth 20000 in
theorem az_tlaw5 (nm : String) : ∀ q ∈ k_L_law5, az_iok az_ms (az_o 25) nm cL_law q := az_tc_ok az_pool_ok az_mok_all.1 25 false (fun h => by cases h) (by decide +kernel)
set_option maxRecDepth 20000 in
theorem az_tlaw6 (nm : String) : ∀ q ∈ k_L_law6, az_iok az_ms (az_o 25) nm cL_law q := az_tc_ok az_pool_ok az_mok_all.1 25 false (fun h => by cases h) (by decide +kernel)
set_option maxRecDepth 20000 in
theorem az_tlaw7 (nm : String) : ∀ q ∈ k_L_law7, az_iok az_ms (az_o 25) nm cL_law q := az_tc_ok az_pool_ok az_mok_all.1 25 false (fun h => by cases h) (by decide +kernel)
set_option maxRecDepth 20000 in
theorem az_tlaw8 (nm : String) : ∀ q ∈ k_L_law8, az_iok az_ms (az_o 25) nm cL_law q := az_tc_ok az_pool_ok az_mok_all.1 25 false (fun h => by cases h) (by decide +kernel)
set_option maxRecDepth 20000 in
theorem az_tlaw9 (nm : String) : ∀ q ∈ k_L_law9, az_iok az_ms (az_o 25) nm cL_law q := az_tc_ok az_pool_ok az_mok_all.1 25 false (fun h => by cases h) (by decide +kernel)
end
section
set_option maxRecDepth 20000 in
theorem az_tlaw10 (nm : String) : ∀ q ∈ k_L_law10, az_iok az_ms (az_o 25) nm cL_law q := az_tc_ok az_pool_ok az_mok_all.1 25 false (fun h => by cases h) (by decide +kernel)
set_option maxRecDepth 20000 in
theorem az_tlaw11 (nm : String) : ∀ q ∈ k_L_law11, az_iok az_ms (az_o 25) nm cL_law q := az_tc_ok az_pool_ok az_mok_all.1 25 false (fun h => by cases h) (by decide +kernel)
set_option maxRecDepth 20000 in
theorem az_tlaw12 (nm : String) : ∀ q ∈ k_L_law12, az_iok az_ms (az_o 25) nm cL_law q := az_tc_ok az_pool_ok az_mok_all.1 25 false (fun h => by cases h) (by decide +kernel)
set_option maxRecDepth 20000 in
theorem az_tlaw13 (nm : String) : ∀ q ∈ k_L_law13, az_iok az_ms (az_o 25) nm cL_law q := az_tc_ok az_pool_ok az_mok_all.1 25 false (fun h => by cases h) (by decide +kernel)
end
section
theorem az_tlaw (nm : String) : ∀ q ∈ k_L_law, az_iok az_ms (az_o 25) nm cL_law q := by
  intro q hq
  unfold k_L_law at hq
  simp only [List.mem_append] at hq
  rcases hq with h | h | h | h | h | h | h | h | h | h | h | h | h | h
  · exact az_tlaw0 nm q h
  · exact az_tlaw1 nm q h
  · exact az_tlaw2 nm q h
  · exact az_tlaw3 nm q h
  · exact az_tlaw4 nm q h
  · exact az_tlaw5 nm q h
  · exact az_tlaw6 nm q h
  · exact az_tlaw7 nm q h
  · exact az_tlaw8 nm q h
  · exact az_tlaw9 nm q h
  · exact az_tlaw10 nm q h
  · exact az_tlaw11 nm q h
  · exact az_tlaw12 nm q h
  · exact az_tlaw13 nm q h
end
section
/-! THE LAW'S START: the abstract store that the machine's start is -/
theorem az_room_mono {s : State} {pl : Platform} {r r' : Room} (hf : r.frames ≤ r'.frames) (hl : r.locals ≤ r'.locals) (hc : r.cells ≤ r'.cells) (hs : r.slots ≤ r'.slots) (h : s.hasRoom pl r' = true) : s.hasRoom pl r = true := by
  simp only [State.hasRoom, Bool.and_eq_true, decide_eq_true_eq] at h ⊢
  obtain ⟨⟨⟨⟨h1, h2⟩, h3⟩, h4⟩, h5⟩ := h
  refine ⟨⟨⟨⟨by omega, ?_⟩, by omega⟩, by omega⟩, h5⟩
  omega
theorem az_W_room {p : Program} {l : Launch} {e : Env} {R R' : Room} {s : State} {m : MethodId} {args : Array Value} {below : List Frame} {meth : Method} {c : Code} {H : Heap} {locs : List Loc} {cells slots : Nat} {Q : State → Prop} {g : JFrame} (hf : R.frames ≤ R'.frames) (hl : R.locals ≤ R'.locals) (hc : R.cells ≤ R'.cells) (hs : R.slots ≤ R'.slots) (h : W p l e R s m args below meth c H locs cells slots Q g) : W p l e R' s m args below meth c H locs cells slots Q g :=
  fun T hT X => h T hT { X with room := az_room_mono hf hl hc hs X.room }
def az_sx (j : Nat) : Int32 := ([0, -1, 0, 1, 0] : List Int32).getD j 0
def az_sy (j : Nat) : Int32 := ([-1, 0, 0, 0, 1] : List Int32).getD j 0
def az_tx : List (List Int32) := [[104, 111, 117, 114], [109, 111, 110, 116, 104], [100, 97, 121], [104, 101, 105, 103, 104, 116], [109, 97, 110, 121], [107, 105, 110, 100], [116, 104, 105, 110, 103], [115, 116, 97, 108, 108], [119, 104, 101, 110], [103, 105, 118, 101], [111, 114], [97, 110, 100], [110, 111, 116], [109, 105, 110], [109, 97, 120]]
def az_tl : List Nat := [4, 5, 3, 6, 4, 4, 5, 5, 4, 4, 2, 3, 3, 3, 3]
def az_ti : List Nat := [75, 81, 83, 85, 87, 89, 91, 93, 95, 97, 99, 101, 103, 105, 106]
def az_sh0 (L a : Nat) : Nat × Nat := if a < 1000000 then (999, 0) else if a = 1000000 then (110, L) else if a = 1000001 then (111, 0) else if a = 1000002 then (110, 5) else if a = 1000003 then (110, 5) else if a = 1000007 then (115, 0) else if 1000010 ≤ a ∧ a < 1000025 then (113, 0) else if 1000030 ≤ a ∧ a < 1000045 then (112, az_tl.getD (a - 1000030) 0) else (999, 0)
def az_i0 (xs : Nat → Int32) (a k : Nat) : Int32 := if a = 1000000 then xs k else if a = 1000002 then az_sx k else if a = 1000003 then az_sy k else if a = 1000007 then (if k = 4 then 1 else 0) else if 1000030 ≤ a ∧ a < 1000045 then (az_tx.getD (a - 1000030) []).getD k 0 else 0
def az_r0 (o : Option Nat) (a k : Nat) : Option Nat := if a = 1000007 then (if k = 0 then some 1000001 else if k = 1 then some 1000002 else if k = 2 then some 1000003 else if k = 3 then o else none) else if 1000010 ≤ a ∧ a < 1000025 then (if k = 0 then some (a + 20) else none) else none
def az_s0 (L : Nat) (xs : Nat → Int32) (o : Option Nat) : az_S := (0, 0, az_sh0 L, az_i0 xs, fun _ _ => 0, az_r0 o)
theorem az_ok0 (L : Nat) (xs : Nat → Int32) (o : Option Nat) : az_ok (az_s0 L xs o) := by
  refine ⟨fun a h => ?_, Nat.zero_le _, fun a h => ?_⟩
  · exfalso
    revert h
    show (az_sh0 L a).1 < 110 → False
    unfold az_sh0
    repeat' split
    all_goals (intro h; omega)
  · right
    show (az_sh0 L a).1 = 999
    simp [az_sh0, h]
theorem az_known {s : State} {args : Array Value} (hts : ∀ w ∈ az_G, w.before args s = true) (hinst : ∀ (ci : Nat) (q : vw_C), vwCl[ci]? = some q → Cond.instantiable q.1 q.2.2 ∈ az_G) (hcls : ∀ w ∈ lw_tbl, w.before args s = true) : ∃ (D : va_G) (cA : Nat → ClassId), va_K D vwCl (az_tys cA) s := by
  have h1 : ∀ ci : Nat, ∃ x : ClassId × (Nat → Nat), ∀ q, vwCl[ci]? = some q → u_Kn s q.1 q.2.1 q.2.2 x.1 x.2 := by
    intro ci
    cases hq : vwCl[ci]? with
    | none => exact ⟨(0, fun _ => 0), fun q h => by cases h⟩
    | some q =>
      obtain ⟨c, iS, h⟩ := u_known (C := q.1) (T := q.2.1) (N := q.2.2) (n := q.2.2) hts (az_cin ci q hq) (hts _ (hinst ci q hq))
      exact ⟨(c, iS), fun q' h' => by cases h'; exact h⟩
  obtain ⟨f, hf⟩ := Classical.axiomOfChoice h1
  obtain ⟨ci, ki, cpi, a1, a2, a3⟩ := Cond.arrayClass_spec (hts _ az_at1)
  obtain ⟨cz, kz, cpz, b1, b2, b3⟩ := Cond.arrayClass_spec (hts _ az_at2)
  obtain ⟨cb, kb, cpb, c1, c2, c3⟩ := Cond.arrayClass_spec (hts _ az_at3)
  obtain ⟨cj, kj, cpj, d1, d2, d3⟩ := Cond.arrayClass_spec (hts _ az_at4)
  obtain ⟨comp, co, ko, e1, e2, e3, e4, e5⟩ := Cond.arrayOver_spec (hcls (.arrayOver (.object "java/lang/Object")) (az_isT_in (w := 2183) (by decide +kernel)))
  refine ⟨(fun k => (f k).1, fun k => (f k).2), fun k => if k = 100 then ci else if k = 101 then cz else if k = 102 then cb else if k = 103 then cj else co, fun c q hq => hf c q hq, ?_⟩
  intro k q hq
  match k, hq with
  | 0, hq => cases hq; exact ⟨fun n z => ⟨fun k h => (by cases h), ki, a2, cpi, a3⟩, a1⟩
  | 1, hq => cases hq; exact ⟨fun n z => ⟨fun k h => (by cases h), kz, b2, cpz, b3⟩, b1⟩
  | 2, hq => cases hq; exact ⟨fun n z => ⟨fun k h => (by cases h), kb, c2, cpb, c3⟩, c1⟩
  | 3, hq => cases hq; exact ⟨fun n z => ⟨fun k h => (by cases h), kj, d2, cpj, d3⟩, d1⟩
  | 4, hq => cases hq; exact ⟨fun n z => ⟨fun k h => (by cases h), ko, e3, comp, e4⟩, ko, comp, e3, e4, e1, e5⟩
  | k + 5, hq => simp [az_tys] at hq
theorem az_inst0 : Cond.instantiable RJx4a65c 3 ∈ az_G := az_is_in (w := 1060) (by decide +kernel)
theorem az_inst1 : Cond.instantiable RX0 12 ∈ az_G := az_is_in (w := 3171) (by decide +kernel)
theorem az_inst2 : Cond.instantiable RX1 3 ∈ az_G := az_is_in (w := 1143) (by decide +kernel)
theorem az_inst3 : Cond.instantiable RX2 6 ∈ az_G := az_is_in (w := 1237) (by decide +kernel)
theorem az_inst4 : Cond.instantiable RX3 2 ∈ az_G := az_is_in (w := 2120) (by decide +kernel)
theorem az_inst5 : Cond.instantiable RX4 9 ∈ az_G := az_is_in (w := 1202) (by decide +kernel)
theorem az_inst6 : Cond.instantiable RX5 7 ∈ az_G := az_is_in (w := 1172) (by decide +kernel)
theorem az_inst7 : Cond.instantiable RX6 4 ∈ az_G := az_is_in (w := 1036) (by decide +kernel)
theorem az_inst8 : Cond.instantiable RX7 3 ∈ az_G := az_is_in (w := 5102) (by decide +kernel)
theorem az_inst9 : Cond.instantiable RX8 6 ∈ az_G := az_is_in (w := 1086) (by decide +kernel)
theorem az_inst10 : Cond.instantiable RX9 7 ∈ az_G := az_is_in (w := 1112) (by decide +kernel)
theorem az_inst11 : Cond.instantiable RX10 14 ∈ az_G := az_is_in (w := 3002) (by decide +kernel)
theorem az_inst12 : Cond.instantiable RX11 18 ∈ az_G := az_is_in (w := 1028) (by decide +kernel)
theorem az_inst13 : Cond.instantiable RX12 90 ∈ az_G := az_is_in (w := 6033) (by decide +kernel)
theorem az_cinst : ∀ (ci : Nat) (q : vw_C), vwCl[ci]? = some q → Cond.instantiable q.1 q.2.2 ∈ az_G := by
  intro ci q hq
  match ci, hq with
  | 0, hq => cases hq; exact az_inst0
  | 1, hq => cases hq; exact az_inst1
  | 2, hq => cases hq; exact az_inst2
  | 3, hq => cases hq; exact az_inst3
  | 4, hq => cases hq; exact az_inst4
  | 5, hq => cases hq; exact az_inst5
  | 6, hq => cases hq; exact az_inst6
  | 7, hq => cases hq; exact az_inst7
  | 8, hq => cases hq; exact az_inst8
  | 9, hq => cases hq; exact az_inst9
  | 10, hq => cases hq; exact az_inst10
  | 11, hq => cases hq; exact az_inst11
  | 12, hq => cases hq; exact az_inst12
  | 13, hq => cases hq; exact az_inst13
  | k + 14, hq => simp [vwCl] at hq
end
section
def az_fl0 : List Cond := flatC (Jvm.Cond.and given_1 narrow_1)
def az_tm (i : Nat) : Term := .string "ShadeRegister$Tape" (az_ti.getD i 0)
def az_tv (i : Nat) : Term := .field (az_tm i) "java/lang/String" "value" "[B"
def az_fp : List Nat := [30, 38, 48, 57, 70, 82, 95, 110, 126, 142, 159, 175, 193, 212, 232]
theorem az_f1 : ∀ i, i < 15 → az_fl0[az_fp.getD i 0]? = some (.exactly (az_tm i) "java/lang/String") := by decide +kernel
theorem az_f2 : ∀ i, i < 15 → az_fl0[az_fp.getD i 0 + 1]? = some (.eq (.field (az_tm i) "java/lang/String" "coder" "B") (.int 0)) := by decide +kernel
theorem az_f3 : ∀ i, i < 15 → az_fl0[az_fp.getD i 0 + 2]? = some (.arrayOf (az_tv i) .byte) := by decide +kernel
theorem az_f4 : ∀ i, i < 15 → az_fl0[az_fp.getD i 0 + 3]? = some (.eq (.length (az_tv i)) (.int (Int32.ofNat (az_tl.getD i 0)))) := by decide +kernel
theorem az_f5 : ∀ i, i < 15 → ∀ j, j < az_tl.getD i 0 → az_fl0[az_fp.getD i 0 + 4 + j]? = some (.eq (.elem (az_tv i) (.int (Int32.ofNat j))) (.int ((az_tx.getD i []).getD j 0))) := by decide +kernel
abbrev az_tE : Term := .static "java/util/ArrayList" "DEFAULTCAPACITY_EMPTY_ELEMENTDATA" "[Ljava/lang/Object;"
abbrev az_tX : Term := .static "ShadeRegister$Route" "STEPS_X" "[I"
abbrev az_tY : Term := .static "ShadeRegister$Route" "STEPS_Y" "[I"
theorem az_g1 : az_fl0[5]? = some (.arrayOf az_tE (.object "java/lang/Object")) := by decide +kernel
theorem az_g2 : az_fl0[7]? = some (.eq (.length az_tE) (.int 0)) := by decide +kernel
theorem az_g3 : az_fl0[8]? = some (.eq (.static "java/lang/String" "COMPACT_STRINGS" "Z") (.int 1)) := by decide +kernel
theorem az_g4 : az_fl0[9]? = some (.isRef (.static "jdk/internal/util/Preconditions" "SIOOBE_FORMATTER" "Ljava/util/function/BiFunction;")) := by decide +kernel
theorem az_g5 : az_fl0[14]? = some (.arrayOf az_tX .int) := by decide +kernel
theorem az_g6 : az_fl0[15]? = some (.eq (.length az_tX) (.int 5)) := by decide +kernel
theorem az_g7 : ∀ j, j < 5 → az_fl0[16 + j]? = some (.eq (.elem az_tX (.int (Int32.ofNat j))) (.int (az_sx j))) := by decide +kernel
theorem az_g8 : az_fl0[22]? = some (.arrayOf az_tY .int) := by decide +kernel
theorem az_g9 : az_fl0[23]? = some (.eq (.length az_tY) (.int 5)) := by decide +kernel
theorem az_g10 : ∀ j, j < 5 → az_fl0[24 + j]? = some (.eq (.elem az_tY (.int (Int32.ofNat j))) (.int (az_sy j))) := by decide +kernel
theorem az_g11 : az_fl0[29]? = some (.isRef (.mirror "[Ljava/lang/Object;")) := by decide +kernel
theorem az_tl_lt : ∀ i, i < 15 → az_tl.getD i 0 < 2 ^ 31 := by decide
theorem az_ss_at : ∀ q ∈ az_ss, ∃ i, i < 15 ∧ q.1 = "ShadeRegister$Tape" ∧ q.2.1 = az_ti.getD i 0 ∧ q.2.2.2 = 1000010 + i := by
  intro q hq
  have h : az_ss.all (fun q => (List.range 15).any (fun i => decide (q.1 = "ShadeRegister$Tape") && (decide (q.2.1 = az_ti.getD i 0) && decide (q.2.2.2 = 1000010 + i)))) = true := by decide +kernel
  have h1 := List.all_eq_true.mp h q hq
  obtain ⟨i, hi, h2⟩ := List.any_eq_true.mp h1
  simp only [Bool.and_eq_true, decide_eq_true_eq] at h2
  exact ⟨i, List.mem_range.mp hi, h2⟩
theorem az_ls0 : Cond.laysStatic "java/util/ArrayList" "DEFAULTCAPACITY_EMPTY_ELEMENTDATA" "[Ljava/lang/Object;" ∈ lw_tbl := az_isT_in (w := 1072) (by decide +kernel)
theorem az_li0 : Cond.initialized "java/util/ArrayList" ∈ az_G := az_is_in (w := 1006) (by decide +kernel)
theorem az_ls1 : Cond.laysStatic "ShadeRegister$Route" "STEPS_X" "[I" ∈ lw_tbl := az_isT_in (w := 5200) (by decide +kernel)
theorem az_li1 : Cond.initialized "ShadeRegister$Route" ∈ az_G := az_is_in (w := 1011) (by decide +kernel)
theorem az_ls2 : Cond.laysStatic "ShadeRegister$Route" "STEPS_Y" "[I" ∈ lw_tbl := az_isT_in (w := 5202) (by decide +kernel)
theorem az_li2 : Cond.initialized "ShadeRegister$Route" ∈ az_G := az_is_in (w := 1011) (by decide +kernel)
theorem az_ls3 : Cond.laysStatic "jdk/internal/util/Preconditions" "SIOOBE_FORMATTER" "Ljava/util/function/BiFunction;" ∈ lw_tbl := az_isT_in (w := 4169) (by decide +kernel)
theorem az_li3 : Cond.initialized "jdk/internal/util/Preconditions" ∈ az_G := az_is_in (w := 1019) (by decide +kernel)
theorem az_ls4 : Cond.laysStatic "java/lang/String" "COMPACT_STRINGS" "Z" ∈ lw_tbl := az_isT_in (w := 4153) (by decide +kernel)
theorem az_li4 : Cond.initialized "java/lang/String" ∈ az_G := az_is_in (w := 1023) (by decide +kernel)
def az_srl : List Nat := [4139, 4190, 4191, 4192, 4193, 4194, 4195, 4196, 4201, 4202, 4203, 4204, 4205, 4206, 4207]
theorem az_sref : ∀ q ∈ az_ss, Cond.stringRef q.1 q.2.1 q.2.2.1 ∈ lw_tbl := by
  intro q hq
  have h : (az_ss.zip az_srl).all (fun x => az_isT x.2 (.stringRef x.1.1 x.1.2.1 x.1.2.2.1)) = true := by decide +kernel
  obtain ⟨i, hi⟩ := List.getElem?_of_mem hq
  have hl : i < az_srl.length := (List.getElem?_eq_some_iff.mp hi).1
  have hz : (q, az_srl[i]) ∈ az_ss.zip az_srl := by
    refine List.mem_of_getElem? (i := i) ?_
    rw [List.getElem?_zip_eq_some]
    exact ⟨hi, List.getElem?_eq_getElem hl⟩
  exact az_isT_in (List.all_eq_true.mp h _ hz)
/-- what the Statement gives of the start, as the constants of the abstract store -/
theorem az_begin {s : State} {b L : Nat} {xs : Nat → Int32} (hts : ∀ w ∈ lw_tbl, w.before #[Value.ref b] s = true) (hX : va_X b L xs s s.heap) (hbl : b < s.heap.size) (hgv : (Jvm.Cond.and given_1 narrow_1).before #[Value.ref b] s = true) :
    ∃ (D : va_G) (cA : Nat → ClassId) (cs : Nat → Nat) (o : Option Nat), cs 1000000 = b ∧ az_Kx D cA cs s ∧ az_C s.heap.size cs (az_s0 L xs o) s := by
  have hfl : ∀ {k : Nat} {c : Cond}, az_fl0[k]? = some c → c.before #[Value.ref b] s = true := fun h => flat_of_before _ hgv _ (List.mem_of_getElem? h)
  have htG : ∀ w ∈ az_G, w.before #[Value.ref b] s = true := fun w hw => hts w (List.mem_filter.mp hw).1
  have hA : ∀ a : Nat, a < s.heap.size → ¬ (fun q => s.heap.size ≤ q) a := fun a ha => Nat.not_le.mpr ha
  obtain ⟨D, cA, hK⟩ := az_known htG az_cinst hts
  -- the strings
  have hstr : ∀ i : Nat, ∃ x : Nat × Nat, i < 15 → (az_tm i).eval #[Value.ref b] s none [] s = some (.ref x.1) ∧ va_O "java/lang/String" x.1 (fun q => s.heap.size ≤ q) s s.heap ∧ va_OF "java/lang/String" "coder" "B" (.int 0) x.1 (fun q => s.heap.size ≤ q) s s.heap ∧ va_OF "java/lang/String" "value" "[B" (.ref x.2) x.1 (fun q => s.heap.size ≤ q) s s.heap ∧ va_T .byte x.2 (az_tl.getD i 0) (fun j => .int ((az_tx.getD i []).getD j 0)) (fun q => s.heap.size ≤ q) s s.heap := by
    intro i
    by_cases hi : i < 15
    · have hex := hfl (az_f1 i hi)
      obtain ⟨a, c, cA', kA, q1, -⟩ := Cond.exactly_spec (args := #[Value.ref b]) (first := s) (o := none) (s := s) (idx := []) (t := az_tm i) (cls := "java/lang/String") hex
      obtain ⟨t, ht, hT⟩ := va_Tof (f := fun j => .int ((az_tx.getD i []).getD j 0)) (A := fun q => s.heap.size ≤ q) (az_tl_lt i hi) (hfl (az_f3 i hi)) (va_eqt (hfl (az_f4 i hi))) (fun j hj => va_eqt (hfl (az_f5 i hi j hj))) hA
      exact ⟨(a, t), fun _ => ⟨q1, va_Oof hex q1 hA, vk_OFof q1 (va_eqt (hfl (az_f2 i hi))) hA, vk_OFof q1 ht hA, hT⟩⟩
    · exact ⟨(0, 0), fun h => absurd h hi⟩
  obtain ⟨ad, had⟩ := Classical.axiomOfChoice hstr
  obtain ⟨tE, hE1, hE2⟩ := va_Tof (N := 0) (f := fun _ => .null) (A := fun q => s.heap.size ≤ q) (by decide) (hfl az_g1) (va_eqt (hfl az_g2)) (fun j hj => absurd hj (Nat.not_lt_zero j)) hA
  obtain ⟨tX, hX1, hX2⟩ := va_Tof (N := 5) (f := fun j => .int (az_sx j)) (A := fun q => s.heap.size ≤ q) (by decide) (hfl az_g5) (va_eqt (hfl az_g6)) (fun j hj => va_eqt (hfl (az_g7 j hj))) hA
  obtain ⟨tY, hY1, hY2⟩ := va_Tof (N := 5) (f := fun j => .int (az_sy j)) (A := fun q => s.heap.size ≤ q) (by decide) (hfl az_g8) (va_eqt (hfl az_g9)) (fun j hj => va_eqt (hfl (az_g10 j hj))) hA
  obtain ⟨mi, hmi⟩ := va_Mi.of (hfl az_g11)
  have zE := va_Zof (A := fun q => s.heap.size ≤ q) (hts _ az_ls0) (htG _ az_li0) hE1 hA
  have zX := va_Zof (A := fun q => s.heap.size ≤ q) (hts _ az_ls1) (htG _ az_li1) hX1 hA
  have zY := va_Zof (A := fun q => s.heap.size ≤ q) (hts _ az_ls2) (htG _ az_li1) hY1 hA
  have zQ := va_Zqof (A := fun q => s.heap.size ≤ q) (hts _ az_ls3) (htG _ az_li3) (hfl az_g4) hA
  have zS := va_Zof (A := fun q => s.heap.size ≤ q) (hts _ az_ls4) (htG _ az_li4) (va_eqi (hfl az_g3)) hA
  obtain ⟨tq, o, ho, hQ⟩ : ∃ (tq : Nat) (o : Option Nat), (o = none ∨ o = some 1000050) ∧ va_Z "jdk/internal/util/Preconditions" "SIOOBE_FORMATTER" "Ljava/util/function/BiFunction;" (va_rf (o.map (fun _ => tq))) (fun q => s.heap.size ≤ q) s s.heap := by
    rcases zQ with h | ⟨t, h⟩
    · exact ⟨0, none, Or.inl rfl, h⟩
    · exact ⟨t, some 1000050, Or.inr rfl, h⟩
  refine ⟨D, cA, fun a => if a = 1000000 then b else if a = 1000001 then tE else if a = 1000002 then tX else if a = 1000003 then tY else if a = 1000005 then mi else if a = 1000050 then tq else if a < 1000025 then (ad (a - 1000010)).1 else (ad (a - 1000030)).2, o, by simp, ⟨hK, ?_, ?_, ?_, ?_, ?_⟩, ?_⟩
  · intro w hw hN
    refine va_Nw.of ?_ (hts w hw)
    cases w <;> first | rfl | (simp [az_isN] at hN)
  · exact va_AO.of (hts _ (az_isT_in (w := 2183) (by decide +kernel)))
  · simpa using hmi
  · exact va_Dc.of (hts _ (az_isT_in (w := 9010) (by decide +kernel)))
  · intro q hq
    obtain ⟨i, hi, h1, h2, h3⟩ := az_ss_at q hq
    have hr := az_sref q hq
    refine vk_R.of (hts _ hr) ?_
    rw [h1, h2, h3]
    have e : (if (1000010 + i) = 1000000 then b else if (1000010 + i) = 1000001 then tE else if (1000010 + i) = 1000002 then tX else if (1000010 + i) = 1000003 then tY else if (1000010 + i) = 1000005 then mi else if (1000010 + i) = 1000050 then tq else if (1000010 + i) < 1000025 then (ad ((1000010 + i) - 1000010)).1 else (ad ((1000010 + i) - 1000030)).2) = (ad i).1 := by
      rw [if_neg (by omega), if_neg (by omega), if_neg (by omega), if_neg (by omega), if_neg (by omega), if_neg (by omega), if_pos (by omega), show 1000010 + i - 1000010 = i by omega]
    exact (had i hi).1.trans (congrArg (fun x => some (Value.ref x)) e.symm)
  · have hsh : ∀ a, (az_sh (az_s0 L xs o) a) = az_sh0 L a := fun _ => rfl
    refine ⟨fun a h => ?_, fun a h => ?_, fun a h => ?_, fun a h => ?_, rfl, fun k q hq => ?_⟩
    · have h' : (az_sh0 L a).1 = 110 := h
      rw [hsh]
      have ha : a = 1000000 ∨ a = 1000002 ∨ a = 1000003 := by
        revert h'
        unfold az_sh0
        repeat' split
        all_goals (intro h'; first | omega | (simp at h'; done))
      rcases ha with rfl | rfl | rfl
      · obtain ⟨scr, x1, x2, x3, x4, x5⟩ := hX
        exact ⟨scr, x1, x2, x3, by rw [x4]; exact Nat.le_refl _, by rw [x4]; rfl, x5, hA b hbl⟩
      · exact hX2
      · exact hY2
    · have h' : (az_sh0 L a).1 = 111 := h
      rw [hsh]
      have ha : a = 1000001 := by
        revert h'
        unfold az_sh0
        repeat' split
        all_goals (intro h'; first | omega | (simp at h'; done))
      subst ha
      exact hE2
    · have h' : (az_sh0 L a).1 = 112 := h
      rw [hsh]
      have ha : 1000030 ≤ a ∧ a < 1000045 := by
        revert h'
        unfold az_sh0
        repeat' split
        all_goals (intro h'; first | omega | (simp at h'; done))
      obtain ⟨i, hi, rfl⟩ : ∃ i, i < 15 ∧ a = 1000030 + i := ⟨a - 1000030, by omega, by omega⟩
      have e1 : az_sh0 L (1000030 + i) = (112, az_tl.getD i 0) := by
        unfold az_sh0
        rw [if_neg (by omega), if_neg (by omega), if_neg (by omega), if_neg (by omega), if_neg (by omega), if_neg (by omega), if_neg (by omega), if_pos (by omega), show 1000030 + i - 1000030 = i by omega]
      have e2 : ∀ j, az_i (az_s0 L xs o) (1000030 + i) j = (az_tx.getD i []).getD j 0 := by
        intro j
        show az_i0 xs (1000030 + i) j = _
        unfold az_i0
        rw [if_neg (by omega), if_neg (by omega), if_neg (by omega), if_neg (by omega), if_pos (by omega), show 1000030 + i - 1000030 = i by omega]
      rw [e1]
      simp only [e2]
      have e : (if (1000030 + i) = 1000000 then b else if (1000030 + i) = 1000001 then tE else if (1000030 + i) = 1000002 then tX else if (1000030 + i) = 1000003 then tY else if (1000030 + i) = 1000005 then mi else if (1000030 + i) = 1000050 then tq else if (1000030 + i) < 1000025 then (ad ((1000030 + i) - 1000010)).1 else (ad ((1000030 + i) - 1000030)).2) = (ad i).2 := by
        rw [if_neg (by omega), if_neg (by omega), if_neg (by omega), if_neg (by omega), if_neg (by omega), if_neg (by omega), if_neg (by omega), show 1000030 + i - 1000030 = i by omega]
      have h9 := (had i hi).2.2.2.2
      rw [← e] at h9
      exact h9
    · have h' : (az_sh0 L a).1 = 113 := h
      have ha : 1000010 ≤ a ∧ a < 1000025 := by
        revert h'
        unfold az_sh0
        repeat' split
        all_goals (intro h'; first | omega | (simp at h'; done))
      obtain ⟨i, hi, rfl⟩ : ∃ i, i < 15 ∧ a = 1000010 + i := ⟨a - 1000010, by omega, by omega⟩
      have e1 : az_r (az_s0 L xs o) (1000010 + i) 0 = some (1000030 + i) := by
        show az_r0 o (1000010 + i) 0 = _
        unfold az_r0
        rw [if_neg (by omega), if_pos (by omega), if_pos rfl, show 1000010 + i + 20 = 1000030 + i by omega]
      have e2 : az_i (az_s0 L xs o) (1000010 + i) 1 = 0 := by
        show az_i0 xs (1000010 + i) 1 = _
        unfold az_i0
        rw [if_neg (by omega), if_neg (by omega), if_neg (by omega), if_neg (by omega), if_neg (by omega)]
      rw [e1, e2]
      have e3 : ∀ (f : Nat → Nat), az_tr (az_ad s.heap.size f) (va_rf (some (1000030 + i))) = .ref (f (1000030 + i)) := by
        intro f
        show Value.ref (az_ad s.heap.size f (1000030 + i)) = _
        rw [az_ad_ge (by omega)]
      rw [e3]
      have e : (if (1000010 + i) = 1000000 then b else if (1000010 + i) = 1000001 then tE else if (1000010 + i) = 1000002 then tX else if (1000010 + i) = 1000003 then tY else if (1000010 + i) = 1000005 then mi else if (1000010 + i) = 1000050 then tq else if (1000010 + i) < 1000025 then (ad ((1000010 + i) - 1000010)).1 else (ad ((1000010 + i) - 1000030)).2) = (ad i).1 := by
        rw [if_neg (by omega), if_neg (by omega), if_neg (by omega), if_neg (by omega), if_neg (by omega), if_neg (by omega), if_pos (by omega), show 1000010 + i - 1000010 = i by omega]
      have e' : (if (1000030 + i) = 1000000 then b else if (1000030 + i) = 1000001 then tE else if (1000030 + i) = 1000002 then tX else if (1000030 + i) = 1000003 then tY else if (1000030 + i) = 1000005 then mi else if (1000030 + i) = 1000050 then tq else if (1000030 + i) < 1000025 then (ad ((1000030 + i) - 1000010)).1 else (ad ((1000030 + i) - 1000030)).2) = (ad i).2 := by
        rw [if_neg (by omega), if_neg (by omega), if_neg (by omega), if_neg (by omega), if_neg (by omega), if_neg (by omega), if_neg (by omega), show 1000030 + i - 1000030 = i by omega]
      simp only [e, e']
      exact ⟨(had i hi).2.2.2.1, (had i hi).2.2.1, (had i hi).2.1⟩
    · match k, hq with
      | 0, hq => cases hq; exact zE
      | 1, hq => cases hq; exact zX
      | 2, hq => cases hq; exact zY
      | 3, hq =>
        cases hq
        show va_Z _ _ _ (az_tr _ (va_rf o)) _ s s.heap
        rcases ho with rfl | rfl
        · exact hQ
        · exact hQ
      | 4, hq => cases hq; exact zS
      | k + 5, hq => simp [az_st] at hq
end
section
def R_law : String := "ShadeRegisterLaw"
def lw_P (b : Addr) (xs : List Int32) (args : Array Value) (s : State) : Prop := args = #[.ref b] ∧ s.IntsAt b xs ∧ xs.length ≤ 4610 ∧ (Jvm.Cond.and given_1 narrow_1).before args s = true
def lw_Q (_ : Array Value) (s : State) (o : Outcome) (t : State) : Prop := o = .returned (some (.int 1)) ∧ Framed s o t [] 600000 7302250
def lw_Z (below : List Frame) (a : Array Value) (s : State) : State → Prop := fun t => ∃ o, t.status = .running ∧ Ended t below o ∧ lw_Q a s o t
/-- what holds at the law's entry: the machine, the code, the tables' words (any of lw_tbl by 'hts w (by decide +kernel)'), the script of L ints xs at the cell b, what the Statement gives of the start (any of its parts by flat_of_before) -/
def lw_At (p : Program) (s : State) (m : MethodId) (meth : Method) (c : Code) (b L : Nat) (xs : Nat → Int32) : Prop :=
  p.tables.exec = Jvm.exec ∧ c.code = code ∧ meth.sig.returnType = ret ∧ c.maxLocals = 4 ∧ s.vm.findClass R_law = some m.cls ∧ (∀ w ∈ lw_tbl, w.before #[Value.ref b] s = true) ∧ va_X b L xs s s.heap ∧ b < s.heap.size ∧ meth.locks = false ∧ (Jvm.Cond.and given_1 narrow_1).before #[Value.ref b] s = true
/-- the law's own end -/
theorem az_lret {p : Program} {l : Launch} {e : Env} {R : Room} {s : State} {m : MethodId} {below : List Frame} {meth : Method} {c : Code} {b : Nat} (hx : p.tables.exec = Jvm.exec) (hb : c.code = code) (hr : meth.sig.returnType = ret) (hlocks : meth.locks = false) {pc : Nat} {H : Heap} {ls : Array Slot} (hdg : decode code pc = .ok (.ireturn, 1)) : W p l e R s m #[Value.ref b] below meth c H [] 600000 7302250 (lw_Z below #[Value.ref b] s) (F0 m pc ls [.int 1]) := by
  intro T hT X
  obtain ⟨fs, hret, hrun, hended, hW, hframe⟩ := X.leave (v := some (.int 1)) (hlocks := hlocks) (fun h => by rw [hr] at h; cases h)
  have hmeth' : T.vm.method? m = some meth := X.method'
  refine ⟨T.setFrames fs, ?_, .returned (some (.int 1)), hrun, hended, rfl, ⟨_, rfl⟩, hW, hframe⟩
  jvm_step X.here [X.here.top, hx, hb, hdg, hmeth', hr, ret, narrow_b1]
  (try refine ⟨rfl, ?_⟩); (try refine ⟨rfl, ?_⟩)
  first | (intro acts; rw [hret _ acts rfl rfl rfl]) | rw [hret _ _ rfl rfl rfl]
  exact Steps.refl _
/-- what is left to show: the abstract machine runs the law to 1 -/
def az_Main : Prop := ∀ (L : Nat) (xs : Nat → Int32) (o : Option Nat), L ≤ 4610 → ∃ (k : Nat) (t : az_S), az_run (az_ev az_ms az_cds 1049) k_L_law (some .boolean) (some (.int 1)) t k (0, [some (.ref 1000000), none, none, none], [], az_s0 L xs o) ∧ az_n t ≤ 600000 ∧ az_sl t ≤ 7302250
set_option maxHeartbeats 4000000 in
theorem az_whole (hmain : az_Main) {p : Program} {e : Env} {s : State} {m : MethodId} {below : List Frame} {meth : Method} {c : Code} (l : Launch) {b L : Nat} {xs : Nat → Int32} (hL : L ≤ 4610) (C0 : lw_At p s m meth c b L xs) : W p l e room_1 s m #[Value.ref b] below meth c s.heap [] 0 0 (lw_Z below #[Value.ref b] s) (entryFrame m ([Value.ref b] : List Value).toArray 4) := by
  obtain ⟨hx, hb, hr, hml, hown, hts, hX, hbl, hlocks, hgv⟩ := C0
  obtain ⟨D, cA, cs, o, hcs, hKx, hCc⟩ := az_begin hts hX hbl hgv
  obtain ⟨k, t, hrun, hn, hsl⟩ := hmain L xs o hL
  have hC : az_Cx D cA s.heap.size cs p s m #[Value.ref b] c code (az_o 25) := ⟨hx, hb, hown, fun w hw => hts w (List.mem_filter.mp hw).1, hKx, Nat.le_refl _⟩
  have eb : ([Value.ref 1000000] : List Value).map (az_tr (az_ad s.heap.size cs)) = [Value.ref b] := by
    show [Value.ref (az_ad s.heap.size cs 1000000)] = _
    rw [az_ad_ge (by decide), hcs]
  have hlv := az_entry_lv (az_ad s.heap.size cs) [Value.ref 1000000] (maxL := 4) (by decide)
  rw [eb] at hlv
  rw [lg_entry_eq]
  refine az_W_room (R := az_rm 1050 600000 7302250) (by decide) (by decide) (by decide) (by decide) ?_
  have hR : az_Rl D cA s.heap.size cs s 4 0 0 (az_s0 L xs o) (az_entry [Value.ref 1000000] 4) s.heap [] ((lg_sl [Value.ref b] ++ List.replicate (4 - (lg_sl [Value.ref b]).length) Slot.unset).toArray) := ⟨fun k q h => by (have h9 : ([] : va_W)[k]? = some q := h); simp at h9, rfl, va_S.rf, az_ok0 L xs o, hCc, hlv, Nat.le_refl _, Nat.le_refl _⟩
  have hm := az_sim_run (p := p) (l := l) (e := e) (below := below) (meth := meth) (Q := lw_Z below #[Value.ref b] s) (ms := az_ms) (d := 1049) (mcT := 600000) (msT := 7302250) (n0 := 0) (s0 := 0) hC hml (by simp) (az_met az_T l D cA s.heap.size cs 1049) (az_tlaw meth.name) ⟨by omega, by omega⟩ ?_ k _ hrun s.heap [] _ hR
  · exact hm
  · intro pc len ins L9 st H locs ls hd hil hrt hR9
    obtain ⟨hP9, hsz9, hS9, -, -, -, -, -⟩ := hR9
    cases ins
    case ireturn =>
      cases hil.resolve_left (by simp [az_il])
      obtain ⟨v, ty, h1, h2, rfl, h4⟩ := hrt
      cases h4
      refine va_forget (fun q hq => hS9.2.2 q hq) ?_
      refine W.widen (k := 600000) (n := 7302250) (by omega) (by omega) ?_
      exact az_lret hx hb hr hlocks hd
    case return_ => obtain ⟨h1, -⟩ := hrt; cases h1
    case lreturn => obtain ⟨v, h1, -⟩ := hrt; cases h1
    case areturn => obtain ⟨v, rt', h1, h2, -⟩ := hrt; cases h1; rcases h2 with ⟨n, h2⟩ | ⟨n, h2⟩ <;> cases h2
    all_goals exact hrt.elim
end
section
/-! RULES: the abstract machine walked instruction by instruction, numbers as whole numbers -/
def iI (z : Int) : Int32 := Int32.ofInt z
def lI (z : Int) : Int64 := Int64.ofInt z
/-- the numbers that an int holds -/
def inI (z : Int) : Prop := -2147483648 ≤ z ∧ z < 2147483648
theorem iI_toInt {z : Int} (h : inI z) : (iI z).toInt = z := Int32.toInt_ofInt_of_le (by have := h.1; omega) (by have := h.2; omega)
theorem iI_add (a b : Int) : iI a + iI b = iI (a + b) := (Int32.ofInt_add a b).symm
theorem iI_sub (a b : Int) : iI a - iI b = iI (a - b) := (Int32.ofInt_sub a b).symm
theorem iI_mul (a b : Int) : iI a * iI b = iI (a * b) := (Int32.ofInt_mul a b).symm
theorem iI_neg (a : Int) : -iI a = iI (-a) := (Int32.ofInt_neg a).symm
theorem iI_lt {a b : Int} (ha : inI a) (hb : inI b) : iI a < iI b ↔ a < b := by rw [Int32.lt_iff_toInt_lt, iI_toInt ha, iI_toInt hb]
theorem iI_le {a b : Int} (ha : inI a) (hb : inI b) : iI a ≤ iI b ↔ a ≤ b := by rw [Int32.le_iff_toInt_le, iI_toInt ha, iI_toInt hb]
theorem iI_eq {a b : Int} (ha : inI a) (hb : inI b) : iI a = iI b ↔ a = b := by rw [← Int32.toInt_inj, iI_toInt ha, iI_toInt hb]
theorem iI_nat (n : Nat) : iI (n : Int) = nI n := rfl
theorem iI_of (x : Int32) : ∃ z : Int, inI z ∧ x = iI z := ⟨x.toInt, ⟨by have := Int32.le_toInt x; omega, by have := Int32.toInt_lt x; omega⟩, (Int32.ofInt_toInt x).symm⟩
theorem iI_clamp {z : Int} (h0 : 0 ≤ z) (h : z < 2147483648) : (iI z).toNatClampNeg = z.toNat := by
  obtain ⟨n, rfl⟩ := Int.eq_ofNat_of_zero_le h0
  rw [iI_nat, nI_clamp (by omega)]
  omega
theorem iI_in {z : Int} {n : Nat} (h0 : 0 ≤ z) (h : z < n) (hn : n ≤ 10000) : vp_in (iI z) n := by
  rw [vp_in_iff, iI_toInt ⟨by omega, by omega⟩]
  exact ⟨h0, h⟩
theorem iI_div {a b : Int} (h0 : 0 ≤ a) (h : a < 2147483648) (hb : 0 < b) (hb2 : b < 2147483648) : iI a / iI b = iI (a / b) := by
  obtain ⟨n, rfl⟩ := Int.eq_ofNat_of_zero_le h0
  obtain ⟨m, rfl⟩ := Int.eq_ofNat_of_zero_le (Int.le_of_lt hb)
  rw [iI_nat, iI_nat, pk_div (by omega) (by omega) (by omega), ← iI_nat]
  congr 1
theorem iI_rem {a b : Int} (h0 : 0 ≤ a) (h : a < 2147483648) (hb : 0 < b) (hb2 : b < 2147483648) : iI a - iI a / iI b * iI b = iI (a % b) := by
  rw [iI_div h0 h hb hb2, iI_mul, iI_sub]
  congr 1
  have := Int.emod_add_mul_ediv a b
  rw [Int.mul_comm] at this
  omega
theorem iI_ne0 {b : Int} (h : inI b) (hb : b ≠ 0) : ¬ iI b = 0 := by
  intro e
  exact hb ((iI_eq h ⟨by decide, by decide⟩).mp (e.trans rfl))
noncomputable def bI (p : Prop) : Int := @ite Int p (Classical.propDecidable p) 1 0
theorem bI_t {p : Prop} (h : p) : bI p = 1 := if_pos h
theorem bI_f {p : Prop} (h : ¬ p) : bI p = 0 := if_neg h
theorem bI_or (p : Prop) : (p ∧ bI p = 1) ∨ (¬ p ∧ bI p = 0) := by
  by_cases h : p
  · exact Or.inl ⟨h, bI_t h⟩
  · exact Or.inr ⟨h, bI_f h⟩
theorem bI_in (p : Prop) : inI (bI p) := by rcases bI_or p with ⟨_, h⟩ | ⟨_, h⟩ <;> rw [h] <;> exact ⟨by decide, by decide⟩
theorem bI_nar (p : Prop) : narrow .boolean (.int (iI (bI p))) = .int (iI (bI p)) := by rcases bI_or p with ⟨_, h⟩ | ⟨_, h⟩ <;> rw [h] <;> rfl
theorem bI_zero (p : Prop) : bI p = 0 ↔ ¬ p := by
  rcases bI_or p with ⟨h1, h⟩ | ⟨h1, h⟩
  · rw [h]; exact ⟨fun q => absurd q (by decide), fun q => absurd h1 q⟩
  · exact ⟨fun _ => h1, fun _ => h⟩
theorem bI_one (p : Prop) : bI p = 1 ↔ p := by
  rcases bI_or p with ⟨h1, h⟩ | ⟨h1, h⟩
  · exact ⟨fun _ => h1, fun _ => h⟩
  · rw [h]; exact ⟨fun q => absurd q (by decide), fun q => absurd q h1⟩
theorem bI_one' (p : Prop) : 1 = bI p ↔ p := by rw [eq_comm]; exact bI_one p
theorem bI_zero' (p : Prop) : 0 = bI p ↔ ¬ p := by rw [eq_comm]; exact bI_zero p
theorem bI_congr {p q : Prop} (h : p ↔ q) : bI p = bI q := by rw [propext h]
/-- a frame of the abstract machine comes to its return with P -/
def aw (d : Nat) (cd : List az_I) (rt : Option FieldType) (P : Option Value → az_S → Prop) (pc : Nat) (L : az_V) (st : List Value) (σ : az_S) : Prop := ∃ r t k, az_run (az_ev az_ms az_cds d) cd rt r t k (pc, L, st, σ) ∧ P r t
/-- a call comes back with P -/
def cal (d y : Nat) (as : List Value) (σ : az_S) (P : Option Value → az_S → Prop) : Prop := ∃ r τ, az_ev az_ms az_cds d y as σ r τ ∧ P r τ
/-- a call that only answers -/
def fn (d y : Nat) (as : List Value) (σ : az_S) (v : Value) : Prop := az_ev az_ms az_cds d y as σ (some v) σ
theorem az_run_mono {E E' : Nat → List Value → az_S → Option Value → az_S → Prop} (hE : ∀ y as σ r τ, E y as σ r τ → E' y as σ r τ) {cd : List az_I} {rt : Option FieldType} {r : Option Value} {t : az_S} : ∀ (k : Nat) (G : az_F), az_run E cd rt r t k G → az_run E' cd rt r t k G := by
  intro k
  induction k with
  | zero => intro G h; exact h.elim
  | succ k ih =>
    intro G h
    obtain ⟨len, ins, aux, hf, h⟩ := h
    refine ⟨len, ins, aux, hf, ?_⟩
    rcases h with h | ⟨F, h1, h2⟩
    · exact Or.inl h
    · refine Or.inr ⟨F, ?_, ih F h2⟩
      unfold az_step at h1 ⊢
      split at h1
      · obtain ⟨a1, a2, a3, a4, r, τ, a5, a6⟩ := h1
        exact ⟨a1, a2, a3, a4, r, τ, hE _ _ _ _ _ a5, a6⟩
      · exact h1
      · exact h1
      · exact h1
      · exact h1
theorem az_ev_mono : ∀ (d d' : Nat), d ≤ d' → ∀ (y : Nat) (as : List Value) (σ : az_S) (r : Option Value) (τ : az_S), az_ev az_ms az_cds d y as σ r τ → az_ev az_ms az_cds d' y as σ r τ := by
  intro d
  induction d with
  | zero => intro d' _ y as σ r τ h; exact h.elim
  | succ d ih =>
    intro d' hd y as σ r τ h
    cases d' with
    | zero => omega
    | succ d' =>
      obtain ⟨M, k, h1, h2, h3⟩ := h
      exact ⟨M, k, h1, h2, az_run_mono (ih d' (by omega)) k _ h3⟩
theorem cal.mono {d d' y : Nat} {as : List Value} {σ : az_S} {P : Option Value → az_S → Prop} (h : cal d y as σ P) (hd : d ≤ d') : cal d' y as σ P := by
  obtain ⟨r, τ, h1, h2⟩ := h
  exact ⟨r, τ, az_ev_mono d d' hd _ _ _ _ _ h1, h2⟩
theorem fn.mono {d d' y : Nat} {as : List Value} {σ : az_S} {v : Value} (h : fn d y as σ v) (hd : d ≤ d') : fn d' y as σ v := az_ev_mono d d' hd _ _ _ _ _ h
theorem cal.imp {d y : Nat} {as : List Value} {σ : az_S} {P P' : Option Value → az_S → Prop} (h : cal d y as σ P) (hp : ∀ r τ, P r τ → P' r τ) : cal d y as σ P' := by
  obtain ⟨r, τ, h1, h2⟩ := h
  exact ⟨r, τ, h1, hp r τ h2⟩
/-- a method by a walk of its text -/
theorem cal_of {d y : Nat} {as : List Value} {σ : az_S} {P : Option Value → az_S → Prop} {M : az_M} (hM : az_ms y = some M) (hl : (az_sl0 as).length ≤ M.2.2.1) {cd : List az_I} (hcd : az_cds y = cd) {L : az_V} (hL : az_entry as M.2.2.1 = L) (h : aw d cd M.2.2.2 P 0 L [] σ) : cal (d + 1) y as σ P := by
  obtain ⟨r, t, k, h1, h2⟩ := h
  subst hcd
  subst hL
  exact ⟨r, t, ⟨M, k, hM, hl, h1⟩, h2⟩
theorem fn_of {d y : Nat} {as : List Value} {σ : az_S} {v : Value} {M : az_M} (hM : az_ms y = some M) (hl : (az_sl0 as).length ≤ M.2.2.1) {cd : List az_I} (hcd : az_cds y = cd) {L : az_V} (hL : az_entry as M.2.2.1 = L) (h : aw d cd M.2.2.2 (fun r τ => r = some v ∧ τ = σ) 0 L [] σ) : fn (d + 1) y as σ v := by
  obtain ⟨r, t, k, h1, h2, h3⟩ := h
  subst hcd
  subst hL
  subst h2
  subst h3
  exact ⟨M, k, hM, hl, h1⟩
section AwRules
variable {d : Nat} {cd : List az_I} {rt : Option FieldType} {P : Option Value → az_S → Prop} {pc p' : Nat} {L : az_V} {st : List Value} {σ : az_S}
theorem aw_step {len : Nat} {ins : Instr} {aux : List Nat} {F : az_F} (hf : az_fetch cd pc = some (len, ins, aux)) (hs : az_step (az_ev az_ms az_cds d) pc len ins aux L st σ F) (h : aw d cd rt P F.1 F.2.1 F.2.2.1 F.2.2.2) : aw d cd rt P pc L st σ := by
  obtain ⟨r, t, k, h1, h2⟩ := h
  exact ⟨r, t, k + 1, ⟨len, ins, aux, hf, Or.inr ⟨F, hs, h1⟩⟩, h2⟩
theorem az_step_n {E : Nat → List Value → az_S → Option Value → az_S → Prop} {pc len : Nat} {ins : Instr} {aux : List Nat} {L : az_V} {st : List Value} {σ : az_S} {F : az_F} (ha : aux.length ≤ 2) (h : az_next pc len ins aux L st σ F) : az_step E pc len ins aux L st σ F := by
  unfold az_step
  split
  · simp at ha
  · simp at ha
  · simp at ha
  · simp at ha
  · exact h
theorem aw_nx {len : Nat} {ins : Instr} {aux : List Nat} {F : az_F} (hf : az_fetch cd pc = some (len, ins, aux)) (ha : aux.length ≤ 2) (hs : az_next pc len ins aux L st σ F) (h : aw d cd rt P F.1 F.2.1 F.2.2.1 F.2.2.2) : aw d cd rt P pc L st σ := aw_step hf (az_step_n ha hs) h
theorem aw_retv (hf : az_fetch cd pc = some (1, .return_, [])) (h : P none σ) : aw d cd none P pc L [] σ := ⟨none, σ, 1, ⟨1, .return_, [], hf, Or.inl ⟨⟨rfl, rfl, rfl⟩, rfl⟩⟩, h⟩
theorem aw_reti {v : Int32} (hf : az_fetch cd pc = some (1, .ireturn, [])) (h : P (some (.int v)) σ) : aw d cd (some .int) P pc L [.int v] σ := ⟨_, σ, 1, ⟨1, .ireturn, [], hf, Or.inl ⟨⟨v, .int, rfl, rfl, rfl, rfl⟩, rfl⟩⟩, h⟩
theorem aw_retn {v : Int32} {ty : FieldType} (hf : az_fetch cd pc = some (1, .ireturn, [])) (hn : narrow ty (.int v) = .int v) (h : P (some (.int v)) σ) : aw d cd (some ty) P pc L [.int v] σ := ⟨_, σ, 1, ⟨1, .ireturn, [], hf, Or.inl ⟨⟨v, ty, rfl, hn, rfl, rfl⟩, rfl⟩⟩, h⟩
theorem aw_retl {v : Int64} (hf : az_fetch cd pc = some (1, .lreturn, [])) (h : P (some (.long v)) σ) : aw d cd (some .long) P pc L [.long v] σ := ⟨_, σ, 1, ⟨1, .lreturn, [], hf, Or.inl ⟨⟨v, rfl, rfl, rfl⟩, rfl⟩⟩, h⟩
theorem aw_retr {o : Option Nat} {rt' : FieldType} (hf : az_fetch cd pc = some (1, .areturn, [])) (hr : (∃ n, rt' = .object n) ∨ ∃ t, rt' = .array t) (h : P (some (va_rf o)) σ) : aw d cd (some rt') P pc L [va_rf o] σ := ⟨_, σ, 1, ⟨1, .areturn, [], hf, Or.inl ⟨⟨o, rt', rfl, hr, rfl, rfl⟩, rfl⟩⟩, h⟩
-- constants and locals
theorem aw_iconst {n : Int} (hf : az_fetch cd pc = some (1, .iconst n, [])) (hp : pc + 1 = p') (h : aw d cd rt P p' L (.int (iI n) :: st) σ) : aw d cd rt P pc L st σ := by subst hp; exact aw_nx hf (Nat.le_of_ble_eq_true rfl) rfl h
theorem aw_bipush {n : Int} (hf : az_fetch cd pc = some (2, .bipush n, [])) (hv : (Int8.ofInt n).toInt32 = iI n) (hp : pc + 2 = p') (h : aw d cd rt P p' L (.int (iI n) :: st) σ) : aw d cd rt P pc L st σ := by subst hp; rw [← hv] at h; exact aw_nx hf (Nat.le_of_ble_eq_true rfl) rfl h
theorem aw_sipush {n : Int} (hf : az_fetch cd pc = some (3, .sipush n, [])) (hv : (Int16.ofInt n).toInt32 = iI n) (hp : pc + 3 = p') (h : aw d cd rt P p' L (.int (iI n) :: st) σ) : aw d cd rt P pc L st σ := by subst hp; rw [← hv] at h; exact aw_nx hf (Nat.le_of_ble_eq_true rfl) rfl h
theorem aw_ldc {i v : Nat} (n : Int) (hf : az_fetch cd pc = some (2, .ldc i, [0, v])) (hv : Int32.ofNat v = iI n) (hp : pc + 2 = p') (h : aw d cd rt P p' L (.int (iI n) :: st) σ) : aw d cd rt P pc L st σ := by subst hp; rw [← hv] at h; exact aw_nx hf (Nat.le_of_ble_eq_true rfl) (Or.inl ⟨v, rfl, rfl⟩) h
theorem aw_ldcr {i v : Nat} (hf : az_fetch cd pc = some (2, .ldc i, [1, v])) (hp : pc + 2 = p') (h : aw d cd rt P p' L (.ref v :: st) σ) : aw d cd rt P pc L st σ := by subst hp; exact aw_nx hf (Nat.le_of_ble_eq_true rfl) (Or.inr ⟨v, rfl, rfl⟩) h
theorem aw_ldcw {i v : Nat} (n : Int) (hf : az_fetch cd pc = some (3, .ldc_w i, [0, v])) (hv : Int32.ofNat v = iI n) (hp : pc + 3 = p') (h : aw d cd rt P p' L (.int (iI n) :: st) σ) : aw d cd rt P pc L st σ := by subst hp; rw [← hv] at h; exact aw_nx hf (Nat.le_of_ble_eq_true rfl) ⟨v, rfl, rfl⟩ h
theorem aw_ldc2 {i v : Nat} (n : Int) (hf : az_fetch cd pc = some (3, .ldc2_w i, [v])) (hv : Int64.ofNat v = lI n) (hp : pc + 3 = p') (h : aw d cd rt P p' L (.long (lI n) :: st) σ) : aw d cd rt P pc L st σ := by subst hp; rw [← hv] at h; exact aw_nx hf (Nat.le_of_ble_eq_true rfl) ⟨v, rfl, rfl⟩ h
theorem aw_lconst {n : Fin 2} (z : Int) (hf : az_fetch cd pc = some (1, .lconst n, [])) (hv : Int64.ofNat (n : Nat) = lI z) (hp : pc + 1 = p') (h : aw d cd rt P p' L (.long (lI z) :: st) σ) : aw d cd rt P pc L st σ := by subst hp; rw [← hv] at h; exact aw_nx hf (Nat.le_of_ble_eq_true rfl) rfl h
theorem aw_null (hf : az_fetch cd pc = some (1, .aconst_null, [])) (hp : pc + 1 = p') (h : aw d cd rt P p' L (.null :: st) σ) : aw d cd rt P pc L st σ := by subst hp; exact aw_nx hf (Nat.le_of_ble_eq_true rfl) rfl h
theorem aw_iload_n {k : Fin 4} {v : Int32} (hf : az_fetch cd pc = some (1, .iload_n k, [])) (hv : az_get L k = some (.int v)) (hp : pc + 1 = p') (h : aw d cd rt P p' L (.int v :: st) σ) : aw d cd rt P pc L st σ := by subst hp; exact aw_nx hf (Nat.le_of_ble_eq_true rfl) ⟨v, hv, rfl⟩ h
theorem aw_iload {k : Nat} {v : Int32} (hf : az_fetch cd pc = some (2, .iload k, [])) (hv : az_get L k = some (.int v)) (hp : pc + 2 = p') (h : aw d cd rt P p' L (.int v :: st) σ) : aw d cd rt P pc L st σ := by subst hp; exact aw_nx hf (Nat.le_of_ble_eq_true rfl) ⟨v, hv, rfl⟩ h
theorem aw_lload_n {k : Fin 4} {v : Int64} (hf : az_fetch cd pc = some (1, .lload_n k, [])) (hv : az_get L k = some (.long v)) (hp : pc + 1 = p') (h : aw d cd rt P p' L (.long v :: st) σ) : aw d cd rt P pc L st σ := by subst hp; exact aw_nx hf (Nat.le_of_ble_eq_true rfl) ⟨v, hv, rfl⟩ h
theorem aw_lload {k : Nat} {v : Int64} (hf : az_fetch cd pc = some (2, .lload k, [])) (hv : az_get L k = some (.long v)) (hp : pc + 2 = p') (h : aw d cd rt P p' L (.long v :: st) σ) : aw d cd rt P pc L st σ := by subst hp; exact aw_nx hf (Nat.le_of_ble_eq_true rfl) ⟨v, hv, rfl⟩ h
theorem aw_aload_n {k : Fin 4} {a : Nat} (hf : az_fetch cd pc = some (1, .aload_n k, [])) (hv : az_get L k = some (.ref a)) (hp : pc + 1 = p') (h : aw d cd rt P p' L (.ref a :: st) σ) : aw d cd rt P pc L st σ := by subst hp; exact aw_nx hf (Nat.le_of_ble_eq_true rfl) ⟨some a, hv, rfl⟩ h
theorem aw_aload {k a : Nat} (hf : az_fetch cd pc = some (2, .aload k, [])) (hv : az_get L k = some (.ref a)) (hp : pc + 2 = p') (h : aw d cd rt P p' L (.ref a :: st) σ) : aw d cd rt P pc L st σ := by subst hp; exact aw_nx hf (Nat.le_of_ble_eq_true rfl) ⟨some a, hv, rfl⟩ h
theorem aw_aload_nq {k : Fin 4} {o : Option Nat} (hf : az_fetch cd pc = some (1, .aload_n k, [])) (hv : az_get L k = some (va_rf o)) (hp : pc + 1 = p') (h : aw d cd rt P p' L (va_rf o :: st) σ) : aw d cd rt P pc L st σ := by subst hp; exact aw_nx hf (Nat.le_of_ble_eq_true rfl) ⟨o, hv, rfl⟩ h
theorem aw_istore_n {k : Fin 4} {v : Int32} {L' : az_V} (hf : az_fetch cd pc = some (1, .istore_n k, [])) (hk : (k : Nat) < L.length) (hL : az_put1 L k (.int v) = L') (hp : pc + 1 = p') (h : aw d cd rt P p' L' st σ) : aw d cd rt P pc L (.int v :: st) σ := by subst hp; subst hL; exact aw_nx hf (Nat.le_of_ble_eq_true rfl) ⟨v, st, rfl, hk, rfl⟩ h
theorem aw_istore {k : Nat} {v : Int32} {L' : az_V} (hf : az_fetch cd pc = some (2, .istore k, [])) (hk : k < L.length) (hL : az_put1 L k (.int v) = L') (hp : pc + 2 = p') (h : aw d cd rt P p' L' st σ) : aw d cd rt P pc L (.int v :: st) σ := by subst hp; subst hL; exact aw_nx hf (Nat.le_of_ble_eq_true rfl) ⟨v, st, rfl, hk, rfl⟩ h
theorem aw_lstore_n {k : Fin 4} {v : Int64} {L' : az_V} (hf : az_fetch cd pc = some (1, .lstore_n k, [])) (hk : (k : Nat) + 1 < L.length) (hL : az_put2 L k (.long v) = L') (hp : pc + 1 = p') (h : aw d cd rt P p' L' st σ) : aw d cd rt P pc L (.long v :: st) σ := by subst hp; subst hL; exact aw_nx hf (Nat.le_of_ble_eq_true rfl) ⟨v, st, rfl, hk, rfl⟩ h
theorem aw_lstore {k : Nat} {v : Int64} {L' : az_V} (hf : az_fetch cd pc = some (2, .lstore k, [])) (hk : k + 1 < L.length) (hL : az_put2 L k (.long v) = L') (hp : pc + 2 = p') (h : aw d cd rt P p' L' st σ) : aw d cd rt P pc L (.long v :: st) σ := by subst hp; subst hL; exact aw_nx hf (Nat.le_of_ble_eq_true rfl) ⟨v, st, rfl, hk, rfl⟩ h
theorem aw_astore_n {k : Fin 4} {a : Nat} {L' : az_V} (hf : az_fetch cd pc = some (1, .astore_n k, [])) (hk : (k : Nat) < L.length) (hL : az_put1 L k (.ref a) = L') (hp : pc + 1 = p') (h : aw d cd rt P p' L' st σ) : aw d cd rt P pc L (.ref a :: st) σ := by subst hp; subst hL; exact aw_nx hf (Nat.le_of_ble_eq_true rfl) ⟨some a, st, rfl, hk, rfl⟩ h
theorem aw_astore {k a : Nat} {L' : az_V} (hf : az_fetch cd pc = some (2, .astore k, [])) (hk : k < L.length) (hL : az_put1 L k (.ref a) = L') (hp : pc + 2 = p') (h : aw d cd rt P p' L' st σ) : aw d cd rt P pc L (.ref a :: st) σ := by subst hp; subst hL; exact aw_nx hf (Nat.le_of_ble_eq_true rfl) ⟨some a, st, rfl, hk, rfl⟩ h
theorem aw_iinc {k : Nat} {n z : Int} {L' : az_V} (hf : az_fetch cd pc = some (3, .iinc k n, [])) (hv : az_get L k = some (.int (iI z))) (hL : az_put1 L k (.int (iI (z + n))) = L') (hp : pc + 3 = p') (h : aw d cd rt P p' L' st σ) : aw d cd rt P pc L st σ := by
  subst hp; subst hL
  refine aw_nx hf (Nat.le_of_ble_eq_true rfl) ⟨iI z, hv, rfl⟩ ?_
  show aw d cd rt P (pc + 3) (az_put1 L k (.int (iI z + iI n))) st σ
  rw [iI_add]
  exact h
-- arithmetic
theorem aw_iadd {a b : Int} (hf : az_fetch cd pc = some (1, .iadd, [])) (hp : pc + 1 = p') (h : aw d cd rt P p' L (.int (iI (a + b)) :: st) σ) : aw d cd rt P pc L (.int (iI b) :: .int (iI a) :: st) σ := by subst hp; rw [← iI_add] at h; exact aw_nx hf (Nat.le_of_ble_eq_true rfl) ⟨_, _, st, rfl, rfl⟩ h
theorem aw_isub {a b : Int} (hf : az_fetch cd pc = some (1, .isub, [])) (hp : pc + 1 = p') (h : aw d cd rt P p' L (.int (iI (a - b)) :: st) σ) : aw d cd rt P pc L (.int (iI b) :: .int (iI a) :: st) σ := by subst hp; rw [← iI_sub] at h; exact aw_nx hf (Nat.le_of_ble_eq_true rfl) ⟨_, _, st, rfl, rfl⟩ h
theorem aw_imul {a b : Int} (hf : az_fetch cd pc = some (1, .imul, [])) (hp : pc + 1 = p') (h : aw d cd rt P p' L (.int (iI (a * b)) :: st) σ) : aw d cd rt P pc L (.int (iI b) :: .int (iI a) :: st) σ := by subst hp; rw [← iI_mul] at h; exact aw_nx hf (Nat.le_of_ble_eq_true rfl) ⟨_, _, st, rfl, rfl⟩ h
theorem aw_ineg {a : Int} (hf : az_fetch cd pc = some (1, .ineg, [])) (hp : pc + 1 = p') (h : aw d cd rt P p' L (.int (iI (-a)) :: st) σ) : aw d cd rt P pc L (.int (iI a) :: st) σ := by subst hp; rw [← iI_neg] at h; exact aw_nx hf (Nat.le_of_ble_eq_true rfl) ⟨_, st, rfl, rfl⟩ h
theorem aw_idiv {a b : Int} (hf : az_fetch cd pc = some (1, .idiv, [])) (h0 : 0 ≤ a) (h1 : a < 2147483648) (h2 : 0 < b) (h3 : b < 2147483648) (hp : pc + 1 = p') (h : aw d cd rt P p' L (.int (iI (a / b)) :: st) σ) : aw d cd rt P pc L (.int (iI b) :: .int (iI a) :: st) σ := by subst hp; rw [← iI_div h0 h1 h2 h3] at h; exact aw_nx hf (Nat.le_of_ble_eq_true rfl) ⟨_, _, st, rfl, iI_ne0 ⟨by omega, h3⟩ (by omega), rfl⟩ h
theorem aw_irem {a b : Int} (hf : az_fetch cd pc = some (1, .irem, [])) (h0 : 0 ≤ a) (h1 : a < 2147483648) (h2 : 0 < b) (h3 : b < 2147483648) (hp : pc + 1 = p') (h : aw d cd rt P p' L (.int (iI (a % b)) :: st) σ) : aw d cd rt P pc L (.int (iI b) :: .int (iI a) :: st) σ := by subst hp; rw [← iI_rem h0 h1 h2 h3] at h; exact aw_nx hf (Nat.le_of_ble_eq_true rfl) ⟨_, _, st, rfl, iI_ne0 ⟨by omega, h3⟩ (by omega), rfl⟩ h
-- the stack
theorem aw_dup {v : Value} (hf : az_fetch cd pc = some (1, .dup, [])) (hc : v.category = 1) (hp : pc + 1 = p') (h : aw d cd rt P p' L (v :: v :: st) σ) : aw d cd rt P pc L (v :: st) σ := by subst hp; exact aw_nx hf (Nat.le_of_ble_eq_true rfl) ⟨v, st, rfl, hc, rfl⟩ h
theorem aw_pop {v : Value} (hf : az_fetch cd pc = some (1, .pop, [])) (hc : v.category = 1) (hp : pc + 1 = p') (h : aw d cd rt P p' L st σ) : aw d cd rt P pc L (v :: st) σ := by subst hp; exact aw_nx hf (Nat.le_of_ble_eq_true rfl) ⟨v, st, rfl, hc, rfl⟩ h
theorem aw_dup_x1 {v w : Value} (hf : az_fetch cd pc = some (1, .dup_x1, [])) (hc : v.category = 1) (hc2 : w.category = 1) (hp : pc + 1 = p') (h : aw d cd rt P p' L (v :: w :: v :: st) σ) : aw d cd rt P pc L (v :: w :: st) σ := by subst hp; exact aw_nx hf (Nat.le_of_ble_eq_true rfl) ⟨v, w, st, rfl, hc, hc2, rfl⟩ h
theorem aw_dup2 {v w : Value} (hf : az_fetch cd pc = some (1, .dup2, [])) (hc : v.category = 1) (hc2 : w.category = 1) (hp : pc + 1 = p') (h : aw d cd rt P p' L (v :: w :: v :: w :: st) σ) : aw d cd rt P pc L (v :: w :: st) σ := by subst hp; exact aw_nx hf (Nat.le_of_ble_eq_true rfl) ⟨v, w, st, rfl, hc, hc2, rfl⟩ h
-- branches
theorem aw_goto {off : Int} (hf : az_fetch cd pc = some (3, .goto off, [])) (hp : az_j pc off = p') (h : aw d cd rt P p' L st σ) : aw d cd rt P pc L st σ := by subst hp; exact aw_nx hf (Nat.le_of_ble_eq_true rfl) rfl h
theorem aw_ifC {c : ClassFile.Cond} {off : Int} {x : Int32} {q : Nat} (hf : az_fetch cd pc = some (3, .ifCond c off, [])) (hp : az_j pc off = p') (hq : pc + 3 = q) (ht : az_cmp c x 0 → aw d cd rt P p' L st σ) (he : ¬ az_cmp c x 0 → aw d cd rt P q L st σ) : aw d cd rt P pc L (.int x :: st) σ := by
  subst hp; subst hq
  by_cases h : az_cmp c x 0
  · exact aw_nx hf (Nat.le_of_ble_eq_true rfl) ⟨x, st, rfl, Or.inl ⟨h, rfl⟩⟩ (ht h)
  · exact aw_nx hf (Nat.le_of_ble_eq_true rfl) ⟨x, st, rfl, Or.inr ⟨h, rfl⟩⟩ (he h)
theorem aw_icmpC {c : ClassFile.Cond} {off : Int} {x y : Int32} {q : Nat} (hf : az_fetch cd pc = some (3, .if_icmp c off, [])) (hp : az_j pc off = p') (hq : pc + 3 = q) (ht : az_cmp c x y → aw d cd rt P p' L st σ) (he : ¬ az_cmp c x y → aw d cd rt P q L st σ) : aw d cd rt P pc L (.int y :: .int x :: st) σ := by
  subst hp; subst hq
  by_cases h : az_cmp c x y
  · exact aw_nx hf (Nat.le_of_ble_eq_true rfl) ⟨x, y, st, rfl, Or.inl ⟨h, rfl⟩⟩ (ht h)
  · exact aw_nx hf (Nat.le_of_ble_eq_true rfl) ⟨x, y, st, rfl, Or.inr ⟨h, rfl⟩⟩ (he h)
/-- a condition on whole numbers -/
def zc (c : ClassFile.Cond) (x y : Int) : Prop := match c with
  | .eq => x = y
  | .ne => ¬ x = y
  | .lt => x < y
  | .ge => y ≤ x
  | .gt => y < x
  | .le => x ≤ y
theorem zc_iff {c : ClassFile.Cond} {a b : Int} (ha : inI a) (hb : inI b) : az_cmp c (iI a) (iI b) ↔ zc c a b := by
  cases c
  · exact iI_eq ha hb
  · exact not_congr (iI_eq ha hb)
  · exact iI_lt ha hb
  · exact iI_le hb ha
  · exact iI_lt hb ha
  · exact iI_le ha hb
theorem aw_if {c : ClassFile.Cond} {off : Int} {a : Int} {q : Nat} (hf : az_fetch cd pc = some (3, .ifCond c off, [])) (ha : inI a) (hp : az_j pc off = p') (hq : pc + 3 = q) (ht : zc c a 0 → aw d cd rt P p' L st σ) (he : ¬ zc c a 0 → aw d cd rt P q L st σ) : aw d cd rt P pc L (.int (iI a) :: st) σ :=
  aw_ifC hf hp hq (fun h => ht ((zc_iff ha ⟨by decide, by decide⟩).mp h)) (fun h => he (fun z => h ((zc_iff (b := 0) ha ⟨by decide, by decide⟩).mpr z)))
theorem aw_icmp {c : ClassFile.Cond} {off : Int} {a b : Int} {q : Nat} (hf : az_fetch cd pc = some (3, .if_icmp c off, [])) (ha : inI a) (hb : inI b) (hp : az_j pc off = p') (hq : pc + 3 = q) (ht : zc c a b → aw d cd rt P p' L st σ) (he : ¬ zc c a b → aw d cd rt P q L st σ) : aw d cd rt P pc L (.int (iI b) :: .int (iI a) :: st) σ :=
  aw_icmpC hf hp hq (fun h => ht ((zc_iff ha hb).mp h)) (fun h => he (fun z => h ((zc_iff ha hb).mpr z)))
theorem aw_ifeqb {p : Prop} {off : Int} {q : Nat} (hf : az_fetch cd pc = some (3, .ifCond .eq off, [])) (hp : az_j pc off = p') (hq : pc + 3 = q) (ht : ¬ p → aw d cd rt P p' L st σ) (he : p → aw d cd rt P q L st σ) : aw d cd rt P pc L (.int (iI (bI p)) :: st) σ :=
  aw_if hf (bI_in p) hp hq (fun h => ht ((bI_zero p).mp h)) (fun h => he (Classical.not_not.mp (fun z => h ((bI_zero p).mpr z))))
theorem aw_ifneb {p : Prop} {off : Int} {q : Nat} (hf : az_fetch cd pc = some (3, .ifCond .ne off, [])) (hp : az_j pc off = p') (hq : pc + 3 = q) (ht : p → aw d cd rt P p' L st σ) (he : ¬ p → aw d cd rt P q L st σ) : aw d cd rt P pc L (.int (iI (bI p)) :: st) σ :=
  aw_if hf (bI_in p) hp hq (fun h => ht (Classical.not_not.mp (fun z => h ((bI_zero p).mpr z)))) (fun h => he ((bI_zero p).mp (Classical.not_not.mp h)))
-- fields and arrays
theorem aw_geti {i ci k a : Nat} {v : Int32} (hf : az_fetch cd pc = some (3, .getfield i, [ci, k])) (hk : az_ft ci k = 0) (hs : (az_sh σ a).1 = ci) (hv : az_i σ a k = v) (hp : pc + 3 = p') (h : aw d cd rt P p' L (.int v :: st) σ) : aw d cd rt P pc L (.ref a :: st) σ := by
  subst hp; subst hv
  refine aw_nx hf (Nat.le_of_ble_eq_true rfl) ⟨ci, k, a, st, rfl, rfl, hs, rfl⟩ ?_
  show aw d cd rt P (pc + 3) L (az_fv σ a k (az_ft ci k) :: st) σ
  rw [hk]
  exact h
theorem aw_getl {i ci k a : Nat} {v : Int64} (hf : az_fetch cd pc = some (3, .getfield i, [ci, k])) (hk : az_ft ci k = 1) (hs : (az_sh σ a).1 = ci) (hv : az_l σ a k = v) (hp : pc + 3 = p') (h : aw d cd rt P p' L (.long v :: st) σ) : aw d cd rt P pc L (.ref a :: st) σ := by
  subst hp; subst hv
  refine aw_nx hf (Nat.le_of_ble_eq_true rfl) ⟨ci, k, a, st, rfl, rfl, hs, rfl⟩ ?_
  show aw d cd rt P (pc + 3) L (az_fv σ a k (az_ft ci k) :: st) σ
  rw [hk]
  exact h
theorem aw_getr {i ci k a b : Nat} (hf : az_fetch cd pc = some (3, .getfield i, [ci, k])) (hk : az_ft ci k = 2) (hs : (az_sh σ a).1 = ci) (hv : az_r σ a k = some b) (hp : pc + 3 = p') (h : aw d cd rt P p' L (.ref b :: st) σ) : aw d cd rt P pc L (.ref a :: st) σ := by
  subst hp
  refine aw_nx hf (Nat.le_of_ble_eq_true rfl) ⟨ci, k, a, st, rfl, rfl, hs, rfl⟩ ?_
  show aw d cd rt P (pc + 3) L (az_fv σ a k (az_ft ci k) :: st) σ
  rw [hk]
  show aw d cd rt P (pc + 3) L (va_rf (az_r σ a k) :: st) σ
  rw [hv]
  exact h
theorem aw_puti {i ci k a : Nat} {v : Int32} (hf : az_fetch cd pc = some (3, .putfield i, [ci, k])) (hk : az_ft ci k = 0) (hs : (az_sh σ a).1 = ci) (hp : pc + 3 = p') (h : aw d cd rt P p' L st (az_pi σ a k v)) : aw d cd rt P pc L (.int v :: .ref a :: st) σ := by
  subst hp
  exact aw_nx hf (Nat.le_of_ble_eq_true rfl) ⟨ci, k, a, rfl, hs, Or.inl ⟨hk, v, st, rfl, rfl⟩⟩ h
theorem aw_putl {i ci k a : Nat} {v : Int64} (hf : az_fetch cd pc = some (3, .putfield i, [ci, k])) (hk : az_ft ci k = 1) (hs : (az_sh σ a).1 = ci) (hp : pc + 3 = p') (h : aw d cd rt P p' L st (az_pl σ a k v)) : aw d cd rt P pc L (.long v :: .ref a :: st) σ := by
  subst hp
  exact aw_nx hf (Nat.le_of_ble_eq_true rfl) ⟨ci, k, a, rfl, hs, Or.inr (Or.inl ⟨hk, v, st, rfl, rfl⟩)⟩ h
theorem aw_putr {i ci k a b : Nat} (hf : az_fetch cd pc = some (3, .putfield i, [ci, k])) (hk : az_ft ci k = 2) (hs : (az_sh σ a).1 = ci) (hp : pc + 3 = p') (h : aw d cd rt P p' L st (az_pr σ a k (some b))) : aw d cd rt P pc L (.ref b :: .ref a :: st) σ := by
  subst hp
  exact aw_nx hf (Nat.le_of_ble_eq_true rfl) ⟨ci, k, a, rfl, hs, Or.inr (Or.inr ⟨hk, some b, st, rfl, rfl⟩)⟩ h
theorem aw_iaload {a N j : Nat} {z : Int} {v : Int32} (hf : az_fetch cd pc = some (1, .iaload, [])) (hs : az_sh σ a = (100, N)) (hN : N ≤ 10000) (hz : z = (j : Int)) (hj : j < N) (hv : az_i σ a j = v) (hp : pc + 1 = p') (h : aw d cd rt P p' L (.int v :: st) σ) : aw d cd rt P pc L (.int (iI z) :: .ref a :: st) σ := by
  subst hp; subst hz; subst hv
  refine aw_nx hf (Nat.le_of_ble_eq_true rfl) ⟨_, a, st, rfl, Or.inl (by rw [hs]), by rw [hs]; exact iI_in (by omega) (by omega) hN, rfl⟩ ?_
  show aw d cd rt P (pc + 1) L (.int (az_i σ a (iI (j : Int)).toNatClampNeg) :: st) σ
  rw [iI_clamp (by omega) (by omega)]
  exact h
theorem aw_ialoadc {a N j : Nat} {z : Int} {v : Int32} (hf : az_fetch cd pc = some (1, .iaload, [])) (hs : az_sh σ a = (110, N)) (hN : N ≤ 10000) (hz : z = (j : Int)) (hj : j < N) (hv : az_i σ a j = v) (hp : pc + 1 = p') (h : aw d cd rt P p' L (.int v :: st) σ) : aw d cd rt P pc L (.int (iI z) :: .ref a :: st) σ := by
  subst hp; subst hz; subst hv
  refine aw_nx hf (Nat.le_of_ble_eq_true rfl) ⟨_, a, st, rfl, Or.inr (by rw [hs]), by rw [hs]; exact iI_in (by omega) (by omega) hN, rfl⟩ ?_
  show aw d cd rt P (pc + 1) L (.int (az_i σ a (iI (j : Int)).toNatClampNeg) :: st) σ
  rw [iI_clamp (by omega) (by omega)]
  exact h
theorem aw_iastore {a N j : Nat} {z : Int} {x : Int32} (hf : az_fetch cd pc = some (1, .iastore, [])) (hs : az_sh σ a = (100, N)) (hN : N ≤ 10000) (hz : z = (j : Int)) (hj : j < N) (hp : pc + 1 = p') (h : aw d cd rt P p' L st (az_pi σ a j x)) : aw d cd rt P pc L (.int x :: .int (iI z) :: .ref a :: st) σ := by
  subst hp; subst hz
  refine aw_nx hf (Nat.le_of_ble_eq_true rfl) ⟨x, _, a, st, rfl, by rw [hs], by rw [hs]; exact iI_in (by omega) (by omega) hN, rfl⟩ ?_
  show aw d cd rt P (pc + 1) L st (az_pi σ a (iI (j : Int)).toNatClampNeg x)
  rw [iI_clamp (by omega) (by omega)]
  exact h
theorem aw_alen {a N kd : Nat} (hf : az_fetch cd pc = some (1, .arraylength, [])) (hs : az_sh σ a = (kd, N)) (hk : (100 ≤ kd ∧ kd ≤ 104) ∨ (110 ≤ kd ∧ kd ≤ 112)) (hp : pc + 1 = p') (h : aw d cd rt P p' L (.int (iI (N : Int)) :: st) σ) : aw d cd rt P pc L (.ref a :: st) σ := by
  subst hp
  refine aw_nx hf (Nat.le_of_ble_eq_true rfl) ⟨a, st, rfl, by rw [hs]; exact hk, rfl⟩ ?_
  show aw d cd rt P (pc + 1) L (.int (Int32.ofNat (az_sh σ a).2) :: st) σ
  rw [hs]
  exact h
-- calls
theorem aw_call {ins : Instr} {y n kc : Nat} {Pc : Option Value → az_S → Prop} (as rest : List Value) (hf : az_fetch cd pc = some (3, ins, [0, y, n, kc])) (hst : st = as.reverse ++ rest) (hlen : as.length = n) (hcat : (rest.map fun v => v.category).sum ≤ 8) (hk : kc = 999 ∨ ∃ a, as.head? = some (.ref a) ∧ (az_sh σ a).1 = kc) (hc : cal d y as σ Pc) (hp : pc + 3 = p') (h : ∀ r τ, Pc r τ → aw d cd rt P p' L (r.toList ++ rest) τ) : aw d cd rt P pc L st σ := by
  subst hp
  subst hst
  subst hlen
  obtain ⟨r, τ, h1, h2⟩ := hc
  have e1 : (as.reverse ++ rest).take as.length = as.reverse := List.take_left' (by simp)
  have e2 : (as.reverse ++ rest).drop as.length = rest := List.drop_left' (by simp)
  refine aw_step (F := (pc + 3, L, r.toList ++ rest, τ)) hf ⟨rfl, by simp, by rw [e2]; exact hcat, by rw [e1, List.reverse_reverse]; exact hk, r, τ, by rw [e1, List.reverse_reverse]; exact h1, by rw [e2]⟩ (h r τ h2)
theorem aw_fn {ins : Instr} {y n kc : Nat} {v : Value} (as rest : List Value) (hf : az_fetch cd pc = some (3, ins, [0, y, n, kc])) (hst : st = as.reverse ++ rest) (hlen : as.length = n) (hcat : (rest.map fun v => v.category).sum ≤ 8) (hk : kc = 999 ∨ ∃ a, as.head? = some (.ref a) ∧ (az_sh σ a).1 = kc) (hc : fn d y as σ v) (hp : pc + 3 = p') (h : aw d cd rt P p' L (v :: rest) σ) : aw d cd rt P pc L st σ :=
  aw_call (Pc := fun r τ => r = some v ∧ τ = σ) as rest hf hst hlen hcat hk ⟨_, _, hc, rfl, rfl⟩ hp (fun r τ q => by obtain ⟨rfl, rfl⟩ := q; exact h)
end AwRules
end
section
def zi (σ : az_S) (a k : Nat) : Int := (az_i σ a k).toInt
theorem zi_eq (σ : az_S) (a k : Nat) : az_i σ a k = iI (zi σ a k) := (Int32.ofInt_toInt _).symm
theorem zi_lo (σ : az_S) (a k : Nat) : -2147483648 ≤ zi σ a k := by have := Int32.le_toInt (az_i σ a k); unfold zi; omega
theorem zi_hi (σ : az_S) (a k : Nat) : zi σ a k < 2147483648 := by have := Int32.toInt_lt (az_i σ a k); unfold zi; omega
theorem lI_toInt {z : Int} (h1 : -9223372036854775808 ≤ z) (h2 : z < 9223372036854775808) : (lI z).toInt = z := Int64.toInt_ofInt_of_le (by omega) (by omega)
theorem lI_of_iI {z : Int} (h : inI z) : (iI z).toInt64 = lI z := by
  have h1 := iI_toInt h
  rw [← Int64.toInt_inj, Int32.toInt_toInt64, h1, lI_toInt (by have := h.1; omega) (by have := h.2; omega)]
section AwRules2
variable {d : Nat} {cd : List az_I} {rt : Option FieldType} {P : Option Value → az_S → Prop} {pc p' : Nat} {L : az_V} {st : List Value} {σ : az_S}
theorem aw_gz {i ci k a : Nat} (hf : az_fetch cd pc = some (3, .getfield i, [ci, k])) (hk : az_ft ci k = 0) (hs : (az_sh σ a).1 = ci) (hp : pc + 3 = p') (h : -2147483648 ≤ zi σ a k → zi σ a k < 2147483648 → aw d cd rt P p' L (.int (iI (zi σ a k)) :: st) σ) : aw d cd rt P pc L (.ref a :: st) σ := aw_geti hf hk hs (zi_eq σ a k) hp (h (zi_lo σ a k) (zi_hi σ a k))
theorem aw_az {a N : Nat} {z : Int} (hf : az_fetch cd pc = some (1, .iaload, [])) (hs : az_sh σ a = (100, N)) (hN : N ≤ 10000) (h0 : 0 ≤ z) (hj : z < N) (hp : pc + 1 = p') (h : -2147483648 ≤ zi σ a z.toNat → zi σ a z.toNat < 2147483648 → aw d cd rt P p' L (.int (iI (zi σ a z.toNat)) :: st) σ) : aw d cd rt P pc L (.int (iI z) :: .ref a :: st) σ := aw_iaload (j := z.toNat) hf hs hN (by omega) (by omega) (zi_eq σ a _) hp (h (zi_lo σ a _) (zi_hi σ a _))
theorem aw_i2l {z : Int} (hf : az_fetch cd pc = some (1, .i2l, [])) (hz : inI z) (hp : pc + 1 = p') (h : aw d cd rt P p' L (.long (lI z) :: st) σ) : aw d cd rt P pc L (.int (iI z) :: st) σ := by subst hp; rw [← lI_of_iI hz] at h; exact aw_nx hf (Nat.le_of_ble_eq_true rfl) ⟨_, st, rfl, rfl⟩ h
theorem aw_lcmp {a b : Int} (hf : az_fetch cd pc = some (1, .lcmp, [])) (h1 : -9223372036854775808 ≤ a) (h2 : a < 9223372036854775808) (h3 : -9223372036854775808 ≤ b) (h4 : b < 9223372036854775808) (hp : pc + 1 = p') (h : aw d cd rt P p' L (.int (iI (if b < a then 1 else if a = b then 0 else -1)) :: st) σ) : aw d cd rt P pc L (.long (lI b) :: .long (lI a) :: st) σ := by
  subst hp
  refine aw_nx hf (Nat.le_of_ble_eq_true rfl) ⟨_, _, st, rfl, rfl⟩ ?_
  show aw d cd rt P (pc + 1) L (.int (lg_cmp (lI a) (lI b)) :: st) σ
  have e : lg_cmp (lI a) (lI b) = iI (if b < a then 1 else if a = b then 0 else -1) := by
    unfold lg_cmp
    have e1 : (lI a > lI b) ↔ b < a := by rw [gt_iff_lt, Int64.lt_iff_toInt_lt, lI_toInt h1 h2, lI_toInt h3 h4]
    have e2 : (lI a = lI b) ↔ a = b := by rw [← Int64.toInt_inj, lI_toInt h1 h2, lI_toInt h3 h4]
    simp only [e1, e2]
    split
    · rfl
    · split <;> rfl
  rw [e]
  exact h
end AwRules2
set_option maxRecDepth 10000 in
theorem m_in {d : Nat} {σ : az_S} {v lo hi : Int} (h1 : inI v) (h2 : inI lo) (h3 : inI hi) : fn (d + 1) 159 [.long (lI v), .long (lI lo), .long (lI hi)] σ (.int (iI (bI (lo ≤ v ∧ v ≤ hi)))) := by
  obtain ⟨h1a, h1b⟩ := h1
  obtain ⟨h2a, h2b⟩ := h2
  obtain ⟨h3a, h3b⟩ := h3
  refine fn_of (M := (yX12_in, cX12_in, 6, some .boolean)) (cd := k_X12_in) (L := [some (.long (lI v)), none, some (.long (lI lo)), none, some (.long (lI hi)), none]) rfl (Nat.le_of_ble_eq_true rfl) rfl rfl ?_
  refine aw_lload_n rfl rfl rfl ?_
  refine aw_lload_n rfl rfl rfl ?_
  refine aw_lcmp rfl (by omega) (by omega) (by omega) (by omega) rfl ?_
  refine aw_if rfl ⟨by split <;> (try split) <;> omega, by split <;> (try split) <;> omega⟩ rfl rfl (fun c => ?_) (fun c => ?_)
  · refine aw_iconst rfl rfl ?_
    refine aw_retn rfl rfl ⟨?_, rfl⟩
    have hc : ¬ (lo ≤ v ∧ v ≤ hi) := by
      simp only [zc] at c
      split at c <;> (try split at c) <;> omega
    rw [bI_f hc]
  · refine aw_lload_n rfl rfl rfl ?_
    refine aw_lload rfl rfl rfl ?_
    refine aw_lcmp rfl (by omega) (by omega) (by omega) (by omega) rfl ?_
    refine aw_if rfl ⟨by split <;> (try split) <;> omega, by split <;> (try split) <;> omega⟩ rfl rfl (fun c2 => ?_) (fun c2 => ?_)
    · refine aw_iconst rfl rfl ?_
      refine aw_retn rfl rfl ⟨?_, rfl⟩
      have hc : ¬ (lo ≤ v ∧ v ≤ hi) := by
        simp only [zc] at c c2
        split at c2 <;> (try split at c2) <;> omega
      rw [bI_f hc]
    · refine aw_iconst rfl rfl ?_
      refine aw_goto rfl rfl ?_
      refine aw_retn rfl rfl ⟨?_, rfl⟩
      have hc : lo ≤ v ∧ v ≤ hi := by
        simp only [zc] at c c2
        split at c2 <;> (try split at c2) <;> (try omega) <;> split at c <;> (try split at c) <;> omega
      rw [bI_t hc]
end
section
/-! THE FIXED PLACES: the class's object at 0, the reference's at 42, what they are made of -/
def fxk (a : Nat) : Nat := ([12, 7, 100, 100, 100, 0, 0, 0, 0, 9, 100, 100, 100, 100, 100, 100, 10, 100, 100, 100, 100, 103, 10, 100, 100, 100, 100, 103, 2, 6, 100, 101, 100, 5, 100, 100, 100, 100, 103, 103, 3, 100, 13, 100, 100, 100, 100, 100, 100, 100, 100, 100, 100, 100, 100, 100, 100, 100, 100, 100, 100, 100, 100, 100, 100, 100, 100, 100, 100, 100, 100, 100, 100, 100, 102, 100, 100, 100, 100, 100, 100, 100, 103, 100, 100, 100, 100, 100, 101, 100, 100, 101, 100, 100, 100, 100, 101, 100, 103, 100, 103, 100, 100] : List Nat).getD a 999
def fxn (sz a : Nat) : Nat := ([18, 4, 144, 144, 60, 3, 3, 3, 3, 6, 400, 401, 401, 401, 8, 24, 7, 400, 400, 20, 20, 64, 7, 400, 400, 20, 20, 64, 3, 7, 24, sz, sz, 9, 12, (12 * sz), sz, sz, sz, sz, 6, sz, 90, 144, 144, 60, 60, 16, 16, 24, 24, 24, 24, 24, 24, 24, 24, 984, 984, 984, 24, 24, 24, 60, 60, 60, 60, 60, 60, 60, 60, 60, 60, 60, 400, 900, 900, 900, 900, 64, 128, 128, 300, 8, 10, 10, 10, 120, 192, 192, 192, 192, 24, 24, 65, 65, 2304, 2304, 2304, 2304, 2304, 12, 192] : List Nat).getD a 0
def fxl : List (Nat × Nat × Nat) := [(0, 0, 28), (0, 1, 1), (0, 2, 5), (0, 3, 6), (0, 4, 7), (0, 5, 8), (0, 6, 29), (0, 7, 9), (0, 8, 40), (0, 9, 33), (0, 10, 14), (0, 11, 15), (0, 12, 41), (1, 0, 2), (1, 1, 3), (1, 2, 4), (9, 0, 10), (9, 2, 11), (9, 3, 12), (9, 4, 13), (16, 0, 17), (16, 1, 18), (16, 2, 19), (16, 3, 20), (16, 4, 21), (22, 0, 23), (22, 1, 24), (22, 2, 25), (22, 3, 26), (22, 4, 27), (29, 0, 28), (29, 1, 1), (29, 2, 6), (29, 3, 30), (29, 4, 31), (29, 5, 32), (33, 0, 28), (33, 1, 35), (33, 2, 34), (40, 0, 9), (42, 4, 43), (42, 5, 44), (42, 7, 45), (42, 8, 46), (42, 10, 47), (42, 11, 48), (42, 13, 49), (42, 14, 50), (42, 15, 51), (42, 16, 52), (42, 17, 53), (42, 18, 54), (42, 19, 55), (42, 20, 56), (42, 21, 57), (42, 22, 58), (42, 23, 59), (42, 24, 60), (42, 25, 61), (42, 26, 62), (42, 28, 63), (42, 29, 64), (42, 30, 65), (42, 31, 66), (42, 32, 67), (42, 33, 68), (42, 34, 69), (42, 35, 70), (42, 36, 71), (42, 37, 72), (42, 38, 73), (42, 39, 74), (42, 52, 75), (42, 53, 76), (42, 56, 77), (42, 57, 78), (42, 59, 79), (42, 61, 80), (42, 62, 81), (42, 64, 82), (42, 65, 83), (42, 67, 84), (42, 68, 85), (42, 69, 86), (42, 70, 87), (42, 71, 88), (42, 72, 89), (42, 73, 90), (42, 74, 91), (42, 75, 92), (42, 76, 93), (42, 77, 94), (42, 79, 95), (42, 80, 96), (42, 81, 97), (42, 82, 98), (42, 83, 99), (42, 84, 100), (42, 87, 101), (42, 89, 102)]
def fxq (a k : Nat) : Option Nat := (fxl.find? (fun q => q.1 == a && q.2.1 == k)).map (fun q => q.2.2)
def FX (sz : Nat) (σ : az_S) : Prop := (16 ≤ sz ∧ sz ≤ 192) ∧ (∀ a, a < 103 → az_sh σ a = (fxk a, fxn sz a)) ∧ ∀ a k b, fxq a k = some b → az_r σ a k = some b
theorem FX.s {sz : Nat} {σ : az_S} (h : FX sz σ) (a : Nat) (ha : Nat.ble (a + 1) 103 = true) : az_sh σ a = (fxk a, fxn sz a) := h.2.1 a (Nat.le_of_ble_eq_true ha)
theorem FX.k {sz : Nat} {σ : az_S} (h : FX sz σ) (a : Nat) (ha : Nat.ble (a + 1) 103 = true) : (az_sh σ a).1 = fxk a := by rw [h.s a ha]
theorem FX.r {sz : Nat} {σ : az_S} (h : FX sz σ) (a k b : Nat) (hq : fxq a k = some b) : az_r σ a k = some b := h.2.2 a k b hq

/-! VIEWS: what stands in a place, as whole numbers -/
def zx (σ : az_S) (a : Nat) (z : Int) : Int := if z < 0 then 0 else zi σ a z.toNat
def zq (σ : az_S) (a : Nat) (z : Int) : Int := if z < 0 then 0 else (az_l σ a z.toNat).toInt
/-- the places of the reference that are more than scratch -/
def pA (a : Nat) : Bool := (Nat.ble 43 a && Nat.ble a 74) || (Nat.ble 84 a && Nat.ble a 87) || Nat.beq a 101
def pF (z : Nat) : Bool := [0, 1, 2, 3, 6, 9, 12, 27, 40, 48, 49, 66, 85].contains z
/-- the reference's state, as a table of whole numbers -/
def V (σ : az_S) (a : Nat) (z : Int) : Int := match pA a with
  | true => zx σ a z
  | false => match Nat.beq a 42 with
    | true => if z < 0 then 0 else (match Nat.beq z.toNat 86 with
      | true => zq σ 42 86
      | false => match pF z.toNat with
        | true => zx σ 42 z
        | false => 0)
    | false => 0
def up (A : Nat → Int → Int) (a : Nat) (z x : Int) : Nat → Int → Int := fun b w => if b = a ∧ w = z then x else A b w
theorem up_self (A : Nat → Int → Int) (a : Nat) (z x : Int) : up A a z x a z = x := if_pos ⟨rfl, rfl⟩
theorem up_ne {A : Nat → Int → Int} {a b : Nat} {z x w : Int} (h : b ≠ a) : up A a z x b w = A b w := if_neg (fun q => h q.1)
theorem up_nz {A : Nat → Int → Int} {a b : Nat} {z x w : Int} (h : w ≠ z) : up A a z x b w = A b w := if_neg (fun q => h q.2)
theorem up_fn {A : Nat → Int → Int} {a b : Nat} {z x : Int} (h : b ≠ a) : up A a z x b = A b := funext fun _ => up_ne h
theorem zx_lo (σ : az_S) (a : Nat) (z : Int) : -2147483648 ≤ zx σ a z := by unfold zx; split; decide; exact zi_lo _ _ _
theorem zx_hi (σ : az_S) (a : Nat) (z : Int) : zx σ a z < 2147483648 := by unfold zx; split; decide; exact zi_hi _ _ _
theorem zx_zi {σ : az_S} {a : Nat} {z : Int} (h : 0 ≤ z) : zx σ a z = zi σ a z.toNat := if_neg (by omega)
theorem zq_lo (σ : az_S) (a : Nat) (z : Int) : -9223372036854775808 ≤ zq σ a z := by unfold zq; split; decide; have := Int64.le_toInt (az_l σ a z.toNat); omega
theorem zq_hi (σ : az_S) (a : Nat) (z : Int) : zq σ a z < 9223372036854775808 := by unfold zq; split; decide; have := Int64.toInt_lt (az_l σ a z.toNat); omega
theorem zq_l {σ : az_S} {a : Nat} {z : Int} (h : 0 ≤ z) : az_l σ a z.toNat = lI (zq σ a z) := by unfold zq lI; rw [if_neg (by omega)]; exact (Int64.ofInt_toInt _).symm
theorem V_lo (σ : az_S) (a : Nat) (z : Int) (h : V σ a z = zx σ a z) : -2147483648 ≤ V σ a z ∧ V σ a z < 2147483648 := by rw [h]; exact ⟨zx_lo _ _ _, zx_hi _ _ _⟩
theorem az_up_i {α : Type} (f : Nat → Nat → α) (a k : Nat) (v : α) (b j : Nat) : az_up f a k v b j = @ite α (b = a ∧ j = k) (instDecidableAnd) v (f b j) := by
  unfold az_up va_up
  by_cases h : b = a
  · subst h; by_cases h2 : j = k
    · simp [h2]
    · simp [h2]
  · simp [h]
theorem zx_pi {σ : az_S} {a : Nat} {z x : Int} (hz : 0 ≤ z) (hx : inI x) (b : Nat) (w : Int) : zx (az_pi σ a z.toNat (iI x)) b w = if b = a ∧ w = z then x else zx σ b w := by
  unfold zx
  by_cases hw : w < 0
  · rw [if_pos hw, if_pos hw, if_neg (by omega)]
  · rw [if_neg hw, if_neg hw]
    show (az_up σ.2.2.2.1 a z.toNat (iI x) b w.toNat).toInt = _
    rw [az_up_i]
    by_cases h : b = a ∧ w = z
    · rw [if_pos h, if_pos ⟨h.1, by rw [h.2]⟩, iI_toInt hx]
    · rw [if_neg h, if_neg (fun q => h ⟨q.1, by omega⟩)]
      rfl
theorem zq_pl {σ : az_S} {a : Nat} {z x : Int} (hz : 0 ≤ z) (h1 : -9223372036854775808 ≤ x) (h2 : x < 9223372036854775808) (b : Nat) (w : Int) : zq (az_pl σ a z.toNat (lI x)) b w = if b = a ∧ w = z then x else zq σ b w := by
  unfold zq
  by_cases hw : w < 0
  · rw [if_pos hw, if_pos hw, if_neg (by omega)]
  · rw [if_neg hw, if_neg hw]
    show (az_up σ.2.2.2.2.1 a z.toNat (lI x) b w.toNat).toInt = _
    rw [az_up_i]
    by_cases h : b = a ∧ w = z
    · rw [if_pos h, if_pos ⟨h.1, by rw [h.2]⟩, lI_toInt h1 h2]
    · rw [if_neg h, if_neg (fun q => h ⟨q.1, by omega⟩)]
/-- what is like: all but the numbers of the places S -/
def Mod (σ τ : az_S) (S : List Nat) : Prop := τ.1 = σ.1 ∧ τ.2.1 = σ.2.1 ∧ az_sh τ = az_sh σ ∧ az_r τ = az_r σ ∧ (∀ a, a ∉ S → az_i τ a = az_i σ a) ∧ ∀ a, a ∉ S → az_l τ a = az_l σ a
theorem Mod.rf {σ : az_S} {S : List Nat} : Mod σ σ S := ⟨rfl, rfl, rfl, rfl, fun _ _ => rfl, fun _ _ => rfl⟩
theorem Mod.tr {σ τ υ : az_S} {S : List Nat} (h : Mod σ τ S) (k : Mod τ υ S) : Mod σ υ S := ⟨k.1.trans h.1, k.2.1.trans h.2.1, k.2.2.1.trans h.2.2.1, k.2.2.2.1.trans h.2.2.2.1, fun a ha => (k.2.2.2.2.1 a ha).trans (h.2.2.2.2.1 a ha), fun a ha => (k.2.2.2.2.2 a ha).trans (h.2.2.2.2.2 a ha)⟩
theorem Mod.su {σ τ : az_S} {S : List Nat} (h : Mod σ τ S) {T : List Nat} (hs : S.all (fun a => T.contains a) = true) : Mod σ τ T := by
  have hx : ∀ a, a ∉ T → a ∉ S := by
    intro a ha hb
    have := List.all_eq_true.mp hs a hb
    exact ha (List.contains_iff_mem.mp this)
  exact ⟨h.1, h.2.1, h.2.2.1, h.2.2.2.1, fun a ha => h.2.2.2.2.1 a (hx a ha), fun a ha => h.2.2.2.2.2 a (hx a ha)⟩
theorem Mod.z {σ τ : az_S} {S : List Nat} (h : Mod σ τ S) (a : Nat) (ha : S.contains a = false) : zx τ a = zx σ a := by
  funext w
  unfold zx zi
  rw [h.2.2.2.2.1 a (fun q => by rw [List.contains_iff_mem.mpr q] at ha; cases ha)]
theorem Mod.q {σ τ : az_S} {S : List Nat} (h : Mod σ τ S) (a : Nat) (ha : S.contains a = false) : zq τ a = zq σ a := by
  funext w
  unfold zq
  rw [h.2.2.2.2.2 a (fun q => by rw [List.contains_iff_mem.mpr q] at ha; cases ha)]
theorem Mod.fx {σ τ : az_S} {S : List Nat} (h : Mod σ τ S) {sz : Nat} (k : FX sz σ) : FX sz τ := by
  refine ⟨k.1, fun a ha => ?_, fun a j b hb => ?_⟩
  · rw [h.2.2.1]; exact k.2.1 a ha
  · rw [h.2.2.2.1]; exact k.2.2 a j b hb
/-- scratch places -/
def sa (a : Nat) : Bool := !pA a && !Nat.beq a 42
theorem Mod.vw {σ τ : az_S} {S : List Nat} (h : Mod σ τ S) (hs : S.all sa = true) : V τ = V σ := by
  have hx : ∀ a, pA a = true → S.contains a = false := by
    intro a ha
    cases hc : S.contains a with
    | false => rfl
    | true =>
      have := List.all_eq_true.mp hs a (List.contains_iff_mem.mp hc)
      unfold sa at this
      rw [ha] at this
      exact absurd this (by simp)
  have h42 : S.contains 42 = false := by
    cases hc : S.contains 42 with
    | false => rfl
    | true =>
      have := List.all_eq_true.mp hs 42 (List.contains_iff_mem.mp hc)
      exact absurd this (by decide)
  funext a w
  unfold V
  cases hp : pA a with
  | true => exact congrFun (h.z a (hx a hp)) w
  | false => simp only [h.z 42 h42, h.q 42 h42]
/-- the reference's state is A -/
def MV (sz : Nat) (A : Nat → Int → Int) (σ : az_S) : Prop := FX sz σ ∧ V σ = A
theorem MV.f {sz : Nat} {A : Nat → Int → Int} {σ : az_S} (h : MV sz A σ) : FX sz σ := h.1
theorem MV.v {sz : Nat} {A : Nat → Int → Int} {σ : az_S} (h : MV sz A σ) : V σ = A := h.2
theorem Mod.M {σ τ : az_S} {S : List Nat} (h : Mod σ τ S) {sz : Nat} {A : Nat → Int → Int} (k : MV sz A σ) (hs : S.all sa = true) : MV sz A τ := ⟨h.fx k.1, (h.vw hs).trans k.2⟩
theorem Mod_pi {σ : az_S} {a k : Nat} {v : Int32} {S : List Nat} (ha : S.contains a = true) : Mod σ (az_pi σ a k v) S := by
  refine ⟨rfl, rfl, rfl, rfl, fun b hb => ?_, fun b hb => rfl⟩
  have : b ≠ a := fun e => hb (by rw [e]; exact List.contains_iff_mem.mp ha)
  show az_up σ.2.2.2.1 a k v b = σ.2.2.2.1 b
  unfold az_up va_up
  simp [this]
theorem Mod_pl {σ : az_S} {a k : Nat} {v : Int64} {S : List Nat} (ha : S.contains a = true) : Mod σ (az_pl σ a k v) S := by
  refine ⟨rfl, rfl, rfl, rfl, fun b hb => rfl, fun b hb => ?_⟩
  have : b ≠ a := fun e => hb (by rw [e]; exact List.contains_iff_mem.mp ha)
  show az_up σ.2.2.2.2.1 a k v b = σ.2.2.2.2.1 b
  unfold az_up va_up
  simp [this]
theorem V_pi {σ : az_S} {a : Nat} {z x : Int} (hz : 0 ≤ z) (hx : inI x) (ha : ∀ τ, V τ a z = zx τ a z) (h42 : a = 42 → z.toNat ≠ 86) : V (az_pi σ a z.toNat (iI x)) = up (V σ) a z x := by
  funext b w
  unfold up
  by_cases h : b = a ∧ w = z
  · rw [if_pos h, h.1, h.2, ha, zx_pi hz hx, if_pos ⟨rfl, rfl⟩]
  · rw [if_neg h]
    unfold V
    have e : zx (az_pi σ a z.toNat (iI x)) b w = zx σ b w := by rw [zx_pi hz hx, if_neg h]
    cases hp : pA b with
    | true => exact e
    | false =>
      cases h42 : Nat.beq b 42 with
      | false => rfl
      | true =>
        have eb : b = 42 := Nat.eq_of_beq_eq_true h42
        subst eb
        simp only [e]
        rfl
section AwRules3
variable {d : Nat} {cd : List az_I} {rt : Option FieldType} {P : Option Value → az_S → Prop} {pc p' : Nat} {L : az_V} {st : List Value} {σ : az_S} {sz : Nat} {A : Nat → Int → Int}
theorem aw_fnc {ins : Instr} {y n kc : Nat} {v : Value} {as rest : List Value} (hc : fn d y as σ v) (hf : az_fetch cd pc = some (3, ins, [0, y, n, kc])) (hst : st = as.reverse ++ rest) (hlen : as.length = n) (hcat : (rest.map fun v => v.category).sum ≤ 8) (hk : kc = 999 ∨ ∃ a, as.head? = some (.ref a) ∧ (az_sh σ a).1 = kc) (hp : pc + 3 = p') (h : aw d cd rt P p' L (v :: rest) σ) : aw d cd rt P pc L st σ := aw_fn as rest hf hst hlen hcat hk hc hp h
theorem aw_calc {ins : Instr} {y n kc : Nat} {Pc : Option Value → az_S → Prop} {as rest : List Value} (hc : cal d y as σ Pc) (hf : az_fetch cd pc = some (3, ins, [0, y, n, kc])) (hst : st = as.reverse ++ rest) (hlen : as.length = n) (hcat : (rest.map fun v => v.category).sum ≤ 8) (hk : kc = 999 ∨ ∃ a, as.head? = some (.ref a) ∧ (az_sh σ a).1 = kc) (hp : pc + 3 = p') (h : ∀ r τ, Pc r τ → aw d cd rt P p' L (r.toList ++ rest) τ) : aw d cd rt P pc L st σ := aw_call as rest hf hst hlen hcat hk hc hp h
-- reading: what is scratch, and the state A
theorem aw_gs {i ci k a : Nat} (j : Int) (hf : az_fetch cd pc = some (3, .getfield i, [ci, k])) (hk : az_ft ci k = 0) (hs : (az_sh σ a).1 = ci) (hj : zx σ a j = zi σ a k) (hp : pc + 3 = p') (h : -2147483648 ≤ zx σ a j → zx σ a j < 2147483648 → aw d cd rt P p' L (.int (iI (zx σ a j)) :: st) σ) : aw d cd rt P pc L (.ref a :: st) σ := aw_geti hf hk hs ((zi_eq σ a k).trans (by rw [hj])) hp (h (zx_lo _ _ _) (zx_hi _ _ _))
theorem aw_gp {i ci k a : Nat} (j : Int) (hM : MV sz A σ) (hf : az_fetch cd pc = some (3, .getfield i, [ci, k])) (hk : az_ft ci k = 0) (hs : (az_sh σ a).1 = ci) (hj : V σ a j = zi σ a k) (hp : pc + 3 = p') (h : -2147483648 ≤ A a j → A a j < 2147483648 → aw d cd rt P p' L (.int (iI (A a j)) :: st) σ) : aw d cd rt P pc L (.ref a :: st) σ := by
  obtain ⟨-, rfl⟩ := hM
  refine aw_geti hf hk hs ((zi_eq σ a k).trans (by rw [← hj])) hp (h ?_ ?_) <;> rw [hj]
  · exact zi_lo _ _ _
  · exact zi_hi _ _ _
theorem aw_as {a N : Nat} {z : Int} (hf : az_fetch cd pc = some (1, .iaload, [])) (hs : az_sh σ a = (100, N)) (hN : N ≤ 10000) (h0 : 0 ≤ z) (hj : z < N) (hp : pc + 1 = p') (h : -2147483648 ≤ zx σ a z → zx σ a z < 2147483648 → aw d cd rt P p' L (.int (iI (zx σ a z)) :: st) σ) : aw d cd rt P pc L (.int (iI z) :: .ref a :: st) σ := aw_iaload (j := z.toNat) hf hs hN (by omega) (by omega) ((zi_eq σ a _).trans (by rw [zx_zi h0])) hp (h (zx_lo σ a _) (zx_hi σ a _))
theorem aw_ap {a N : Nat} {z : Int} (hM : MV sz A σ) (hf : az_fetch cd pc = some (1, .iaload, [])) (hs : az_sh σ a = (100, N)) (hN : N ≤ 10000) (hq : pA a = true) (h0 : 0 ≤ z) (hj : z < N) (hp : pc + 1 = p') (h : -2147483648 ≤ A a z → A a z < 2147483648 → aw d cd rt P p' L (.int (iI (A a z)) :: st) σ) : aw d cd rt P pc L (.int (iI z) :: .ref a :: st) σ := by
  obtain ⟨-, rfl⟩ := hM
  have e : V σ a z = zx σ a z := by unfold V; rw [hq]
  refine aw_as hf hs hN h0 hj hp ?_
  rw [← e]
  exact h
theorem aw_baload {a N j : Nat} {z : Int} {v : Int32} {kd : Nat} (hf : az_fetch cd pc = some (1, .baload, [])) (hs : az_sh σ a = (kd, N)) (hkd : kd = 101 ∨ kd = 102 ∨ kd = 112) (hN : N ≤ 10000) (hz : z = (j : Int)) (hj : j < N) (hv : az_i σ a j = v) (hp : pc + 1 = p') (h : aw d cd rt P p' L (.int v :: st) σ) : aw d cd rt P pc L (.int (iI z) :: .ref a :: st) σ := by
  subst hp; subst hz; subst hv
  refine aw_nx hf (Nat.le_of_ble_eq_true rfl) ⟨_, a, st, rfl, by rw [hs]; exact hkd, by rw [hs]; exact iI_in (by omega) (by omega) hN, rfl⟩ ?_
  show aw d cd rt P (pc + 1) L (.int (az_i σ a (iI (j : Int)).toNatClampNeg) :: st) σ
  rw [iI_clamp (by omega) (by omega)]
  exact h
theorem aw_bs {a N : Nat} {z : Int} {kd : Nat} (hf : az_fetch cd pc = some (1, .baload, [])) (hs : az_sh σ a = (kd, N)) (hkd : kd = 101 ∨ kd = 102 ∨ kd = 112) (hN : N ≤ 10000) (h0 : 0 ≤ z) (hj : z < N) (hp : pc + 1 = p') (h : -2147483648 ≤ zx σ a z → zx σ a z < 2147483648 → aw d cd rt P p' L (.int (iI (zx σ a z)) :: st) σ) : aw d cd rt P pc L (.int (iI z) :: .ref a :: st) σ := aw_baload (j := z.toNat) hf hs hkd hN (by omega) (by omega) ((zi_eq σ a _).trans (by rw [zx_zi h0])) hp (h (zx_lo σ a _) (zx_hi σ a _))
theorem aw_bp {a N : Nat} {z : Int} {kd : Nat} (hM : MV sz A σ) (hf : az_fetch cd pc = some (1, .baload, [])) (hs : az_sh σ a = (kd, N)) (hkd : kd = 101 ∨ kd = 102 ∨ kd = 112) (hN : N ≤ 10000) (hq : pA a = true) (h0 : 0 ≤ z) (hj : z < N) (hp : pc + 1 = p') (h : -2147483648 ≤ A a z → A a z < 2147483648 → aw d cd rt P p' L (.int (iI (A a z)) :: st) σ) : aw d cd rt P pc L (.int (iI z) :: .ref a :: st) σ := by
  obtain ⟨-, rfl⟩ := hM
  have e : V σ a z = zx σ a z := by unfold V; rw [hq]
  refine aw_bs hf hs hkd hN h0 hj hp ?_
  rw [← e]
  exact h
theorem aw_gl {i ci k a : Nat} (j : Int) (hf : az_fetch cd pc = some (3, .getfield i, [ci, k])) (hk : az_ft ci k = 1) (hs : (az_sh σ a).1 = ci) (hj : zq σ a j = (az_l σ a k).toInt) (hp : pc + 3 = p') (h : -9223372036854775808 ≤ zq σ a j → zq σ a j < 9223372036854775808 → aw d cd rt P p' L (.long (lI (zq σ a j)) :: st) σ) : aw d cd rt P pc L (.ref a :: st) σ := aw_getl hf hk hs (by rw [hj]; exact (Int64.ofInt_toInt _).symm) hp (h (zq_lo _ _ _) (zq_hi _ _ _))
theorem aw_lz {a N : Nat} {z : Int} (hf : az_fetch cd pc = some (1, .laload, [])) (hs : az_sh σ a = (103, N)) (hN : N ≤ 10000) (h0 : 0 ≤ z) (hj : z < N) (hp : pc + 1 = p') (h : -9223372036854775808 ≤ zq σ a z → zq σ a z < 9223372036854775808 → aw d cd rt P p' L (.long (lI (zq σ a z)) :: st) σ) : aw d cd rt P pc L (.int (iI z) :: .ref a :: st) σ := by
  subst hp
  refine aw_nx hf (Nat.le_of_ble_eq_true rfl) ⟨_, a, st, rfl, by rw [hs], by rw [hs]; exact iI_in (by omega) (by omega) hN, rfl⟩ ?_
  show aw d cd rt P (pc + 1) L (.long (az_l σ a (iI z).toNatClampNeg) :: st) σ
  rw [iI_clamp (by omega) (by omega), zq_l h0]
  exact h (zq_lo _ _ _) (zq_hi _ _ _)
-- writing
theorem aw_sz {a N : Nat} {z x : Int} (hf : az_fetch cd pc = some (1, .iastore, [])) (hs : az_sh σ a = (100, N)) (hN : N ≤ 10000) (h0 : 0 ≤ z) (hj : z < N) (hp : pc + 1 = p') (h : aw d cd rt P p' L st (az_pi σ a z.toNat (iI x))) : aw d cd rt P pc L (.int (iI x) :: .int (iI z) :: .ref a :: st) σ := aw_iastore (j := z.toNat) hf hs hN (by omega) (by omega) hp h
/-- a store into scratch -/
theorem aw_ss {a N : Nat} {z x : Int} (hM : MV sz A σ) (hf : az_fetch cd pc = some (1, .iastore, [])) (hs : az_sh σ a = (100, N)) (hN : N ≤ 10000) (hq : [a].all sa = true) (h0 : 0 ≤ z) (hj : z < N) (hx : inI x) (hp : pc + 1 = p') (h : ∀ τ, MV sz A τ → Mod σ τ [a] → (∀ w, zx τ a w = if w = z then x else zx σ a w) → aw d cd rt P p' L st τ) : aw d cd rt P pc L (.int (iI x) :: .int (iI z) :: .ref a :: st) σ := by
  have hd : Mod σ (az_pi σ a z.toNat (iI x)) [a] := Mod_pi (by simp)
  refine aw_sz hf hs hN h0 hj hp (h _ (hd.M hM hq) hd (fun w => ?_))
  rw [zx_pi h0 hx]
  simp
/-- a store into the state -/
theorem aw_sp {a N : Nat} {z x : Int} (hM : MV sz A σ) (hf : az_fetch cd pc = some (1, .iastore, [])) (hs : az_sh σ a = (100, N)) (hN : N ≤ 10000) (hq : pA a = true) (h0 : 0 ≤ z) (hj : z < N) (hx : inI x) (hp : pc + 1 = p') (h : ∀ τ, MV sz (up A a z x) τ → Mod σ τ [a] → aw d cd rt P p' L st τ) : aw d cd rt P pc L (.int (iI x) :: .int (iI z) :: .ref a :: st) σ := by
  have hd : Mod σ (az_pi σ a z.toNat (iI x)) [a] := Mod_pi (by simp)
  refine aw_sz hf hs hN h0 hj hp (h _ ⟨hd.fx hM.1, ?_⟩ hd)
  rw [V_pi h0 hx (fun τ => by unfold V; rw [hq]) (fun e => by subst e; exact absurd hq (by decide)), hM.2]
theorem aw_bastore {a N : Nat} {z x : Int} (hf : az_fetch cd pc = some (1, .bastore, [])) (hs : az_sh σ a = (101, N)) (hN : N ≤ 10000) (h0 : 0 ≤ z) (hj : z < N) (hx : x = 0 ∨ x = 1) (hp : pc + 1 = p') (h : aw d cd rt P p' L st (az_pi σ a z.toNat (iI x))) : aw d cd rt P pc L (.int (iI x) :: .int (iI z) :: .ref a :: st) σ := by
  subst hp
  refine aw_nx hf (Nat.le_of_ble_eq_true rfl) ⟨_, _, a, st, rfl, by rw [hs]; exact iI_in (by omega) (by omega) hN, Or.inl ⟨by rw [hs], rfl⟩⟩ ?_
  show aw d cd rt P (pc + 1) L st (az_pi σ a (iI z).toNatClampNeg (vp_nar .boolean (iI x)))
  rw [iI_clamp (by omega) (by omega)]
  rcases hx with rfl | rfl <;> exact h
theorem aw_sb {a N : Nat} {z x : Int} (hM : MV sz A σ) (hf : az_fetch cd pc = some (1, .bastore, [])) (hs : az_sh σ a = (101, N)) (hN : N ≤ 10000) (hq : [a].all sa = true) (h0 : 0 ≤ z) (hj : z < N) (hx : x = 0 ∨ x = 1) (hp : pc + 1 = p') (h : ∀ τ, MV sz A τ → Mod σ τ [a] → (∀ w, zx τ a w = if w = z then x else zx σ a w) → aw d cd rt P p' L st τ) : aw d cd rt P pc L (.int (iI x) :: .int (iI z) :: .ref a :: st) σ := by
  have hd : Mod σ (az_pi σ a z.toNat (iI x)) [a] := Mod_pi (by simp)
  refine aw_bastore hf hs hN h0 hj hx hp (h _ (hd.M hM hq) hd (fun w => ?_))
  rw [zx_pi h0 (by rcases hx with rfl | rfl <;> exact ⟨by decide, by decide⟩)]
  simp
theorem aw_lastore {a N : Nat} {z x : Int} (hf : az_fetch cd pc = some (1, .lastore, [])) (hs : az_sh σ a = (103, N)) (hN : N ≤ 10000) (h0 : 0 ≤ z) (hj : z < N) (hp : pc + 1 = p') (h : aw d cd rt P p' L st (az_pl σ a z.toNat (lI x))) : aw d cd rt P pc L (.long (lI x) :: .int (iI z) :: .ref a :: st) σ := by
  subst hp
  refine aw_nx hf (Nat.le_of_ble_eq_true rfl) ⟨_, _, a, st, rfl, by rw [hs], by rw [hs]; exact iI_in (by omega) (by omega) hN, rfl⟩ ?_
  show aw d cd rt P (pc + 1) L st (az_pl σ a (iI z).toNatClampNeg (lI x))
  rw [iI_clamp (by omega) (by omega)]
  exact h
theorem aw_sl {a N : Nat} {z x : Int} (hM : MV sz A σ) (hf : az_fetch cd pc = some (1, .lastore, [])) (hs : az_sh σ a = (103, N)) (hN : N ≤ 10000) (hq : [a].all sa = true) (h0 : 0 ≤ z) (hj : z < N) (hx1 : -9223372036854775808 ≤ x) (hx2 : x < 9223372036854775808) (hp : pc + 1 = p') (h : ∀ τ, MV sz A τ → Mod σ τ [a] → (∀ w, zq τ a w = if w = z then x else zq σ a w) → aw d cd rt P p' L st τ) : aw d cd rt P pc L (.long (lI x) :: .int (iI z) :: .ref a :: st) σ := by
  have hd : Mod σ (az_pl σ a z.toNat (lI x)) [a] := Mod_pl (by simp)
  refine aw_lastore hf hs hN h0 hj hp (h _ (hd.M hM hq) hd (fun w => ?_))
  rw [zq_pl h0 hx1 hx2]
  simp
/-- a field of the state -/
theorem aw_fp {i ci k a : Nat} {x : Int} (j : Int) (hM : MV sz A σ) (hf : az_fetch cd pc = some (3, .putfield i, [ci, k])) (hk : az_ft ci k = 0) (hs : (az_sh σ a).1 = ci) (hj : j = (k : Int)) (hq : ∀ τ, V τ a j = zx τ a j) (h86 : Nat.beq k 86 = false) (hx : inI x) (hp : pc + 3 = p') (h : ∀ τ, MV sz (up A a j x) τ → Mod σ τ [a] → aw d cd rt P p' L st τ) : aw d cd rt P pc L (.int (iI x) :: .ref a :: st) σ := by
  have hd : Mod σ (az_pi σ a j.toNat (iI x)) [a] := Mod_pi (by simp)
  have e : j.toNat = k := by omega
  have h3 : MV sz (up A a j x) (az_pi σ a j.toNat (iI x)) := by
    refine ⟨hd.fx hM.1, ?_⟩
    rw [V_pi (by omega) hx hq (fun _ q => by rw [e] at q; rw [q] at h86; exact absurd h86 (by decide)), hM.2]
  refine aw_puti hf hk hs hp ?_
  rw [← e]
  exact h _ h3 hd
theorem aw_fs {i ci k a : Nat} {x : Int} (j : Int) (hf : az_fetch cd pc = some (3, .putfield i, [ci, k])) (hk : az_ft ci k = 0) (hs : (az_sh σ a).1 = ci) (hj : j = (k : Int)) (hx : inI x) (hp : pc + 3 = p') (h : ∀ τ, Mod σ τ [a] → (∀ w, zx τ a w = if w = j then x else zx σ a w) → (zq τ a = zq σ a) → aw d cd rt P p' L st τ) : aw d cd rt P pc L (.int (iI x) :: .ref a :: st) σ := by
  have hd : Mod σ (az_pi σ a j.toNat (iI x)) [a] := Mod_pi (by simp)
  have e : j.toNat = k := by omega
  refine aw_puti hf hk hs hp ?_
  rw [← e]
  refine h _ hd (fun w => ?_) rfl
  rw [zx_pi (by omega) hx]
  simp
-- long numbers
theorem lI_add (a b : Int) : lI a + lI b = lI (a + b) := (Int64.ofInt_add a b).symm
theorem lI_sub (a b : Int) : lI a - lI b = lI (a - b) := (Int64.ofInt_sub a b).symm
theorem lI_mul (a b : Int) : lI a * lI b = lI (a * b) := (Int64.ofInt_mul a b).symm
theorem lI_neg (a : Int) : -lI a = lI (-a) := (Int64.ofInt_neg a).symm
theorem aw_ladd {a b : Int} (hf : az_fetch cd pc = some (1, .ladd, [])) (hp : pc + 1 = p') (h : aw d cd rt P p' L (.long (lI (a + b)) :: st) σ) : aw d cd rt P pc L (.long (lI b) :: .long (lI a) :: st) σ := by subst hp; rw [← lI_add] at h; exact aw_nx hf (Nat.le_of_ble_eq_true rfl) ⟨_, _, st, rfl, rfl⟩ h
theorem aw_lsub {a b : Int} (hf : az_fetch cd pc = some (1, .lsub, [])) (hp : pc + 1 = p') (h : aw d cd rt P p' L (.long (lI (a - b)) :: st) σ) : aw d cd rt P pc L (.long (lI b) :: .long (lI a) :: st) σ := by subst hp; rw [← lI_sub] at h; exact aw_nx hf (Nat.le_of_ble_eq_true rfl) ⟨_, _, st, rfl, rfl⟩ h
theorem aw_lmul {a b : Int} (hf : az_fetch cd pc = some (1, .lmul, [])) (hp : pc + 1 = p') (h : aw d cd rt P p' L (.long (lI (a * b)) :: st) σ) : aw d cd rt P pc L (.long (lI b) :: .long (lI a) :: st) σ := by subst hp; rw [← lI_mul] at h; exact aw_nx hf (Nat.le_of_ble_eq_true rfl) ⟨_, _, st, rfl, rfl⟩ h
theorem aw_lneg {a : Int} (hf : az_fetch cd pc = some (1, .lneg, [])) (hp : pc + 1 = p') (h : aw d cd rt P p' L (.long (lI (-a)) :: st) σ) : aw d cd rt P pc L (.long (lI a) :: st) σ := by subst hp; rw [← lI_neg] at h; exact aw_nx hf (Nat.le_of_ble_eq_true rfl) ⟨_, st, rfl, rfl⟩ h
/-- two longs compared and the branch behind it -/
theorem aw_lcif {a b : Int} {c : ClassFile.Cond} {off : Int} {q : Nat} (hf : az_fetch cd pc = some (1, .lcmp, [])) (hf2 : az_fetch cd (pc + 1) = some (3, .ifCond c off, [])) (h1 : -9223372036854775808 ≤ a) (h2 : a < 9223372036854775808) (h3 : -9223372036854775808 ≤ b) (h4 : b < 9223372036854775808) (hp : az_j (pc + 1) off = p') (hq : pc + 4 = q) (ht : zc c a b → aw d cd rt P p' L st σ) (he : ¬ zc c a b → aw d cd rt P q L st σ) : aw d cd rt P pc L (.long (lI b) :: .long (lI a) :: st) σ := by
  refine aw_lcmp hf h1 h2 h3 h4 rfl ?_
  have e : zc c (if b < a then 1 else if a = b then 0 else -1) 0 ↔ zc c a b := by
    cases c <;> simp only [zc] <;> (repeat' split) <;> omega
  refine aw_if hf2 ?_ hp (by omega : pc + 1 + 3 = q) (fun h => ht (e.mp h)) (fun h => he (fun k => h (e.mpr k)))
  constructor <;> (repeat' split) <;> omega
-- switches
theorem aw_tsb (i : Nat) {z off dflt lo hi : Int} {offs : Array Int} {len : Nat} (hf : az_fetch cd pc = some (len, .tableswitch dflt lo hi offs, [])) (ho : offs[i]? = some off) (hz : inI z) (hl : lo + i ≤ hi) (hp : az_j pc off = p') (h1 : z = lo + i → aw d cd rt P p' L st σ) (h2 : ¬ z = lo + i → aw d cd rt P pc L (.int (iI z) :: st) σ) : aw d cd rt P pc L (.int (iI z) :: st) σ := by
  by_cases e : z = lo + i
  · subst hp
    refine aw_nx hf (Nat.le_of_ble_eq_true rfl) ⟨_, st, rfl, Or.inr ⟨off, ?_, ?_, ?_, rfl⟩⟩ (h1 e)
    · rw [iI_toInt hz]; omega
    · rw [iI_toInt hz]; omega
    · rw [iI_toInt hz, show (z - lo).toNat = i by omega]; exact ho
  · exact h2 e
theorem aw_tsd {z dflt lo hi : Int} {offs : Array Int} {len : Nat} (hf : az_fetch cd pc = some (len, .tableswitch dflt lo hi offs, [])) (hz : inI z) (hl : z < lo ∨ hi < z) (hp : az_j pc dflt = p') (h1 : aw d cd rt P p' L st σ) : aw d cd rt P pc L (.int (iI z) :: st) σ := by
  subst hp
  refine aw_nx hf (Nat.le_of_ble_eq_true rfl) ⟨_, st, rfl, Or.inl ⟨?_, rfl⟩⟩ h1
  rw [iI_toInt hz]; exact hl
end AwRules3

/-! WHAT HOLDS of the reference's state -/
def TI (A : Nat → Int → Int) (t : Int) : Prop := (1 ≤ A 56 t ∧ A 56 t ≤ 41) ∧ (A 57 (41 * t) = A 52 t ∧ A 59 (41 * t) = A 52 t) ∧ (∀ i : Int, 0 ≤ i → i < A 56 t → (0 ≤ A 57 (41 * t + i) ∧ A 57 (41 * t + i) ≤ 3599) ∧ (0 ≤ A 58 (41 * t + i) ∧ A 58 (41 * t + i) ≤ 60) ∧ (0 ≤ A 59 (41 * t + i) ∧ A 59 (41 * t + i) ≤ A 42 3)) ∧ ((A 49 t = 1 ∧ 1 ≤ A 53 t ∧ A 53 t ≤ 999) ∨ ((A 49 t = 0 ∨ A 49 t = 2) ∧ A 53 t = 0)) ∧ (0 ≤ A 50 t ∧ A 50 t < A 42 2) ∧ (0 ≤ A 51 t ∧ A 51 t < A 42 9) ∧ (0 ≤ A 52 t ∧ A 52 t ≤ A 42 3) ∧ (-50 ≤ A 54 t ∧ A 54 t ≤ 50 ∧ -50 ≤ A 55 t ∧ A 55 t ≤ 50) ∧ (A 60 t = -1 ∨ (A 52 t ≤ A 60 t ∧ A 60 t ≤ A 42 3 ∧ 0 ≤ A 61 t ∧ A 61 t ≤ A 42 3)) ∧ (A 62 t = -1 ∨ (A 52 t ≤ A 62 t ∧ A 62 t ≤ A 42 3))
def GI (A : Nat → Int → Int) (j : Int) : Prop := (0 ≤ A 63 j ∧ A 63 j < A 42 9) ∧ (0 ≤ A 64 j ∧ A 64 j < A 42 9) ∧ (0 ≤ A 65 j ∧ A 65 j < A 42 12) ∧ (0 ≤ A 66 j ∧ A 66 j ≤ A 67 j ∧ A 67 j ≤ 11) ∧ (0 ≤ A 68 j ∧ A 68 j ≤ 11 ∧ 0 ≤ A 69 j ∧ A 69 j ≤ 11) ∧ (0 ≤ A 70 j ∧ A 70 j ≤ A 71 j ∧ A 71 j ≤ 3599) ∧ (0 ≤ A 72 j ∧ A 72 j ≤ 2) ∧ (0 ≤ A 73 j ∧ A 73 j ≤ A 42 3)
def SI (A : Nat → Int → Int) (j : Int) : Prop := (0 ≤ A 85 j ∧ A 85 j ≤ A 86 j ∧ A 86 j ≤ 3599) ∧ ∀ h : Int, 0 ≤ h → h < 12 → -1 ≤ A 87 (12 * j + h) ∧ A 87 (12 * j + h) < A 42 2
def MI (sz : Nat) (A : Nat → Int → Int) : Prop := (4 ≤ A 42 0 ∧ A 42 0 ≤ 16) ∧ (4 ≤ A 42 1 ∧ A 42 1 ≤ 12) ∧ (A 42 2 = A 42 0 * A 42 1 ∧ A 42 2 = (sz : Int) ∧ 16 ≤ A 42 2 ∧ A 42 2 ≤ 192) ∧ (0 ≤ A 42 3 ∧ A 42 3 ≤ 3599) ∧ (∀ j : Int, 0 ≤ j → j < 144 → (-300 ≤ A 43 j ∧ A 43 j ≤ 300) ∧ (-300 ≤ A 44 j ∧ A 44 j ≤ 300)) ∧ (0 ≤ A 42 6 ∧ A 42 6 ≤ 60) ∧ (∀ j : Int, 0 ≤ j → j < A 42 6 → (0 ≤ A 45 j ∧ A 45 j ≤ 3599) ∧ (0 ≤ A 46 j ∧ A 46 j ≤ 11)) ∧ (0 ≤ A 42 9 ∧ A 42 9 ≤ 16) ∧ (∀ j : Int, 0 ≤ j → j < A 42 9 → A 47 j = -1 ∨ ((0 ≤ A 47 j ∧ A 47 j ≤ A 42 3) ∧ 0 ≤ A 48 j ∧ A 48 j ≤ A 42 3)) ∧ (0 ≤ A 42 12 ∧ A 42 12 ≤ 24) ∧ (∀ t : Int, 0 ≤ t → t < A 42 12 → TI A t) ∧ (0 ≤ A 42 27 ∧ A 42 27 ≤ 60) ∧ (∀ j : Int, 0 ≤ j → j < A 42 27 → GI A j) ∧ (0 ≤ A 42 40 ∧ A 42 40 ≤ 400) ∧ (∀ j : Int, 0 ≤ j → j < 400 → -128 ≤ A 74 j ∧ A 74 j ≤ 127) ∧ (0 ≤ A 42 66 ∧ A 42 66 ≤ 10) ∧ (∀ j : Int, 0 ≤ j → j < A 42 66 → SI A j) ∧ (0 ≤ A 42 85 ∧ A 42 85 ≤ 12)
theorem MI.wide {sz : Nat} {A : Nat → Int → Int} (h : MI sz A) : 4 ≤ A 42 0 ∧ A 42 0 ≤ 16 := h.1
theorem MI.high {sz : Nat} {A : Nat → Int → Int} (h : MI sz A) : 4 ≤ A 42 1 ∧ A 42 1 ≤ 12 := h.2.1
theorem MI.cells {sz : Nat} {A : Nat → Int → Int} (h : MI sz A) : A 42 2 = A 42 0 * A 42 1 ∧ A 42 2 = (sz : Int) ∧ 16 ≤ A 42 2 ∧ A 42 2 ≤ 192 := h.2.2.1
theorem MI.clock {sz : Nat} {A : Nat → Int → Int} (h : MI sz A) : 0 ≤ A 42 3 ∧ A 42 3 ≤ 3599 := h.2.2.2.1
theorem MI.sun {sz : Nat} {A : Nat → Int → Int} (h : MI sz A) : ∀ j : Int, 0 ≤ j → j < 144 → (-300 ≤ A 43 j ∧ A 43 j ≤ 300) ∧ (-300 ≤ A 44 j ∧ A 44 j ≤ 300) := h.2.2.2.2.1
theorem MI.clouds {sz : Nat} {A : Nat → Int → Int} (h : MI sz A) : 0 ≤ A 42 6 ∧ A 42 6 ≤ 60 := h.2.2.2.2.2.1
theorem MI.cloud {sz : Nat} {A : Nat → Int → Int} (h : MI sz A) : ∀ j : Int, 0 ≤ j → j < A 42 6 → (0 ≤ A 45 j ∧ A 45 j ≤ 3599) ∧ (0 ≤ A 46 j ∧ A 46 j ≤ 11) := h.2.2.2.2.2.2.1
theorem MI.people {sz : Nat} {A : Nat → Int → Int} (h : MI sz A) : 0 ≤ A 42 9 ∧ A 42 9 ≤ 16 := h.2.2.2.2.2.2.2.1
theorem MI.person {sz : Nat} {A : Nat → Int → Int} (h : MI sz A) : ∀ j : Int, 0 ≤ j → j < A 42 9 → A 47 j = -1 ∨ ((0 ≤ A 47 j ∧ A 47 j ≤ A 42 3) ∧ 0 ≤ A 48 j ∧ A 48 j ≤ A 42 3) := h.2.2.2.2.2.2.2.2.1
theorem MI.things {sz : Nat} {A : Nat → Int → Int} (h : MI sz A) : 0 ≤ A 42 12 ∧ A 42 12 ≤ 24 := h.2.2.2.2.2.2.2.2.2.1
theorem MI.thing {sz : Nat} {A : Nat → Int → Int} (h : MI sz A) : ∀ t : Int, 0 ≤ t → t < A 42 12 → TI A t := h.2.2.2.2.2.2.2.2.2.2.1
theorem MI.grants {sz : Nat} {A : Nat → Int → Int} (h : MI sz A) : 0 ≤ A 42 27 ∧ A 42 27 ≤ 60 := h.2.2.2.2.2.2.2.2.2.2.2.1
theorem MI.grant {sz : Nat} {A : Nat → Int → Int} (h : MI sz A) : ∀ j : Int, 0 ≤ j → j < A 42 27 → GI A j := h.2.2.2.2.2.2.2.2.2.2.2.2.1
theorem MI.taped {sz : Nat} {A : Nat → Int → Int} (h : MI sz A) : 0 ≤ A 42 40 ∧ A 42 40 ≤ 400 := h.2.2.2.2.2.2.2.2.2.2.2.2.2.1
theorem MI.tape {sz : Nat} {A : Nat → Int → Int} (h : MI sz A) : ∀ j : Int, 0 ≤ j → j < 400 → -128 ≤ A 74 j ∧ A 74 j ≤ 127 := h.2.2.2.2.2.2.2.2.2.2.2.2.2.2.1
theorem MI.stalls {sz : Nat} {A : Nat → Int → Int} (h : MI sz A) : 0 ≤ A 42 66 ∧ A 42 66 ≤ 10 := h.2.2.2.2.2.2.2.2.2.2.2.2.2.2.2.1
theorem MI.stall {sz : Nat} {A : Nat → Int → Int} (h : MI sz A) : ∀ j : Int, 0 ≤ j → j < A 42 66 → SI A j := h.2.2.2.2.2.2.2.2.2.2.2.2.2.2.2.2.1
theorem MI.walks {sz : Nat} {A : Nat → Int → Int} (h : MI sz A) : 0 ≤ A 42 85 ∧ A 42 85 ≤ 12 := h.2.2.2.2.2.2.2.2.2.2.2.2.2.2.2.2.2
end
section
theorem bI_01 (p : Prop) : bI p = 0 ∨ bI p = 1 := by rcases bI_or p with ⟨_, h⟩ | ⟨_, h⟩ <;> simp [h]
theorem bI_r (p : Prop) : 0 ≤ bI p ∧ bI p ≤ 1 := by rcases bI_01 p with h | h <;> omega
theorem mul_b {j u J U : Int} (h1 : 0 ≤ j) (h2 : j ≤ J) (h3 : -U ≤ u) (h4 : u ≤ U) : -(J * U) ≤ j * u ∧ j * u ≤ J * U := by
  have hU : 0 ≤ U := by omega
  have a1 : j * u ≤ j * U := Int.mul_le_mul_of_nonneg_left h4 h1
  have a2 : j * U ≤ J * U := Int.mul_le_mul_of_nonneg_right h2 hU
  have a3 : j * (-U) ≤ j * u := Int.mul_le_mul_of_nonneg_left h3 h1
  have a4 : j * (-U) = -(j * U) := Int.mul_neg j U
  omega
theorem div_b {a g : Int} (h : 0 ≤ a) (hg : 1 ≤ g) : 0 ≤ a / g ∧ a / g ≤ a := ⟨Int.ediv_nonneg h (by omega), Int.ediv_le_self g h⟩
theorem rem_b {a g : Int} (hg : 1 ≤ g) : 0 ≤ a % g ∧ a % g < g := ⟨Int.emod_nonneg a (by omega), Int.emod_lt_of_pos a (by omega)⟩
set_option maxRecDepth 10000 in
set_option maxHeartbeats 2000000 in
theorem m_isDay {d : Nat} {σ : az_S} {z : Int} (hz : inI z) : fn (d + 2) 160 [.int (iI z)] σ (.int (iI (bI (0 ≤ z ∧ z ≤ 3599)))) := by
  obtain ⟨hz1, hz2⟩ := hz
  refine fn_of (M := (yX12_isDay, cX12_isDay, 1, (some .boolean))) (cd := k_X12_isDay) (L := [some (.int (iI z))]) rfl (Nat.le_of_ble_eq_true rfl) rfl rfl ?_
  refine aw_iload_n rfl rfl rfl ?_
  refine aw_i2l rfl ⟨by omega, by omega⟩ rfl ?_
  refine aw_lconst 0 rfl rfl rfl ?_
  refine aw_ldc2 (3599) rfl rfl rfl ?_
  refine aw_fnc (m_in ⟨by omega, by omega⟩ ⟨by omega, by omega⟩ ⟨by omega, by omega⟩) rfl rfl rfl (Nat.le_of_ble_eq_true rfl) (Or.inl rfl) rfl ?_
  refine aw_retn rfl (bI_nar _) ?_
  exact ⟨rfl, rfl⟩
set_option maxRecDepth 10000 in
set_option maxHeartbeats 2000000 in
theorem m_isHour {d : Nat} {σ : az_S} {z : Int} (hz : inI z) : fn (d + 2) 161 [.int (iI z)] σ (.int (iI (bI (0 ≤ z ∧ z ≤ 11)))) := by
  obtain ⟨hz1, hz2⟩ := hz
  refine fn_of (M := (yX12_isHour, cX12_isHour, 1, (some .boolean))) (cd := k_X12_isHour) (L := [some (.int (iI z))]) rfl (Nat.le_of_ble_eq_true rfl) rfl rfl ?_
  refine aw_iload_n rfl rfl rfl ?_
  refine aw_i2l rfl ⟨by omega, by omega⟩ rfl ?_
  refine aw_lconst 0 rfl rfl rfl ?_
  refine aw_ldc2 (11) rfl rfl rfl ?_
  refine aw_fnc (m_in ⟨by omega, by omega⟩ ⟨by omega, by omega⟩ ⟨by omega, by omega⟩) rfl rfl rfl (Nat.le_of_ble_eq_true rfl) (Or.inl rfl) rfl ?_
  refine aw_retn rfl (bI_nar _) ?_
  exact ⟨rfl, rfl⟩
set_option maxRecDepth 10000 in
set_option maxHeartbeats 2000000 in
theorem m_isCell {d : Nat} {sz : Nat} {A : Nat → Int → Int} {σ : az_S} (hM : MV sz A σ) (hI : MI sz A) {z : Int} (hz : inI z) : fn (d + 2) 162 [.ref 42, .int (iI z)] σ (.int (iI (bI (0 ≤ z ∧ z ≤ A 42 2 - 1)))) := by
  obtain ⟨hz1, hz2⟩ := hz
  have hb := hI.cells
  refine fn_of (M := (yX12_isCell, cX12_isCell, 2, (some .boolean))) (cd := k_X12_isCell) (L := [some (.ref 42), some (.int (iI z))]) rfl (Nat.le_of_ble_eq_true rfl) rfl rfl ?_
  refine aw_iload_n rfl rfl rfl ?_
  refine aw_i2l rfl ⟨by omega, by omega⟩ rfl ?_
  refine aw_lconst 0 rfl rfl rfl ?_
  refine aw_aload_n rfl rfl rfl ?_
  refine aw_gp (2) hM rfl rfl (hM.f.k 42 rfl) rfl rfl (fun _ _ => ?_)
  refine aw_iconst rfl rfl ?_
  refine aw_isub rfl rfl ?_
  refine aw_i2l rfl ⟨by omega, by omega⟩ rfl ?_
  refine aw_fnc (m_in ⟨by omega, by omega⟩ ⟨by omega, by omega⟩ ⟨by omega, by omega⟩) rfl rfl rfl (Nat.le_of_ble_eq_true rfl) (Or.inl rfl) rfl ?_
  refine aw_retn rfl (bI_nar _) ?_
  exact ⟨rfl, rfl⟩
set_option maxRecDepth 10000 in
set_option maxHeartbeats 2000000 in
theorem m_isPerson {d : Nat} {sz : Nat} {A : Nat → Int → Int} {σ : az_S} (hM : MV sz A σ) (hI : MI sz A) {z : Int} (hz : inI z) : fn (d + 2) 163 [.ref 42, .int (iI z)] σ (.int (iI (bI (0 ≤ z ∧ z ≤ A 42 9 - 1)))) := by
  obtain ⟨hz1, hz2⟩ := hz
  have hb := hI.people
  refine fn_of (M := (yX12_isPerson, cX12_isPerson, 2, (some .boolean))) (cd := k_X12_isPerson) (L := [some (.ref 42), some (.int (iI z))]) rfl (Nat.le_of_ble_eq_true rfl) rfl rfl ?_
  refine aw_iload_n rfl rfl rfl ?_
  refine aw_i2l rfl ⟨by omega, by omega⟩ rfl ?_
  refine aw_lconst 0 rfl rfl rfl ?_
  refine aw_aload_n rfl rfl rfl ?_
  refine aw_gp (9) hM rfl rfl (hM.f.k 42 rfl) rfl rfl (fun _ _ => ?_)
  refine aw_iconst rfl rfl ?_
  refine aw_isub rfl rfl ?_
  refine aw_i2l rfl ⟨by omega, by omega⟩ rfl ?_
  refine aw_fnc (m_in ⟨by omega, by omega⟩ ⟨by omega, by omega⟩ ⟨by omega, by omega⟩) rfl rfl rfl (Nat.le_of_ble_eq_true rfl) (Or.inl rfl) rfl ?_
  refine aw_retn rfl (bI_nar _) ?_
  exact ⟨rfl, rfl⟩
set_option maxRecDepth 10000 in
set_option maxHeartbeats 2000000 in
theorem m_isThing {d : Nat} {sz : Nat} {A : Nat → Int → Int} {σ : az_S} (hM : MV sz A σ) (hI : MI sz A) {z : Int} (hz : inI z) : fn (d + 2) 164 [.ref 42, .int (iI z)] σ (.int (iI (bI (0 ≤ z ∧ z ≤ A 42 12 - 1)))) := by
  obtain ⟨hz1, hz2⟩ := hz
  have hb := hI.things
  refine fn_of (M := (yX12_isThing, cX12_isThing, 2, (some .boolean))) (cd := k_X12_isThing) (L := [some (.ref 42), some (.int (iI z))]) rfl (Nat.le_of_ble_eq_true rfl) rfl rfl ?_
  refine aw_iload_n rfl rfl rfl ?_
  refine aw_i2l rfl ⟨by omega, by omega⟩ rfl ?_
  refine aw_lconst 0 rfl rfl rfl ?_
  refine aw_aload_n rfl rfl rfl ?_
  refine aw_gp (12) hM rfl rfl (hM.f.k 42 rfl) rfl rfl (fun _ _ => ?_)
  refine aw_iconst rfl rfl ?_
  refine aw_isub rfl rfl ?_
  refine aw_i2l rfl ⟨by omega, by omega⟩ rfl ?_
  refine aw_fnc (m_in ⟨by omega, by omega⟩ ⟨by omega, by omega⟩ ⟨by omega, by omega⟩) rfl rfl rfl (Nat.le_of_ble_eq_true rfl) (Or.inl rfl) rfl ?_
  refine aw_retn rfl (bI_nar _) ?_
  exact ⟨rfl, rfl⟩
set_option maxRecDepth 10000 in
set_option maxHeartbeats 2000000 in
theorem m_isAsked {d : Nat} {sz : Nat} {A : Nat → Int → Int} {σ : az_S} (hM : MV sz A σ) (hI : MI sz A) {x y z : Int} (hx : inI x) (hy : inI y) (hz : inI z) : fn (d + 3) 188 [.ref 42, .int (iI x), .int (iI y), .int (iI z)] σ (.int (iI (bI ((0 ≤ x ∧ x ≤ 3599) ∧ (0 ≤ y ∧ y ≤ 11) ∧ (0 ≤ z ∧ z ≤ 3599))))) := by
  obtain ⟨hx1, hx2⟩ := hx
  obtain ⟨hy1, hy2⟩ := hy
  obtain ⟨hz1, hz2⟩ := hz
  refine fn_of (M := (yX12_isAsked, cX12_isAsked, 4, (some .boolean))) (cd := k_X12_isAsked) (L := [some (.ref 42), some (.int (iI x)), some (.int (iI y)), some (.int (iI z))]) rfl (Nat.le_of_ble_eq_true rfl) rfl rfl ?_
  refine aw_iload_n rfl rfl rfl ?_
  refine aw_fnc (m_isDay ⟨by omega, by omega⟩) rfl rfl rfl (Nat.le_of_ble_eq_true rfl) (Or.inl rfl) rfl ?_
  refine aw_ifeqb (p' := 25) rfl rfl rfl (fun c1 => ?_) (fun c1 => ?_)
  · refine aw_iconst rfl rfl ?_
    refine aw_retn rfl (by first | rfl | exact bI_nar _) ?_
    refine ⟨?_, rfl⟩
    first | rw [bI_t ⟨by omega, by omega, by omega⟩] | rw [bI_f (by omega)]
  · refine aw_iload_n rfl rfl rfl ?_
    refine aw_fnc (m_isHour ⟨by omega, by omega⟩) rfl rfl rfl (Nat.le_of_ble_eq_true rfl) (Or.inl rfl) rfl ?_
    refine aw_ifeqb (p' := 25) rfl rfl rfl (fun c2 => ?_) (fun c2 => ?_)
    · refine aw_iconst rfl rfl ?_
      refine aw_retn rfl (by first | rfl | exact bI_nar _) ?_
      refine ⟨?_, rfl⟩
      first | rw [bI_t ⟨by omega, by omega, by omega⟩] | rw [bI_f (by omega)]
    · refine aw_iload_n rfl rfl rfl ?_
      refine aw_fnc (m_isDay ⟨by omega, by omega⟩) rfl rfl rfl (Nat.le_of_ble_eq_true rfl) (Or.inl rfl) rfl ?_
      refine aw_ifeqb (p' := 25) rfl rfl rfl (fun c3 => ?_) (fun c3 => ?_)
      · refine aw_iconst rfl rfl ?_
        refine aw_retn rfl (by first | rfl | exact bI_nar _) ?_
        refine ⟨?_, rfl⟩
        first | rw [bI_t ⟨by omega, by omega, by omega⟩] | rw [bI_f (by omega)]
      · refine aw_iconst rfl rfl ?_
        refine aw_goto (p' := 26) rfl rfl ?_
        refine aw_retn rfl (by first | rfl | exact bI_nar _) ?_
        refine ⟨?_, rfl⟩
        first | rw [bI_t ⟨by omega, by omega, by omega⟩] | rw [bI_f (by omega)]
set_option maxRecDepth 10000 in
set_option maxHeartbeats 2000000 in
theorem m_monthOf {d : Nat} {σ : az_S} {z : Int} (h0 : 0 ≤ z) (h1 : z < 2147483648) : fn (d + 1) 165 [.int (iI z)] σ (.int (iI (z % 360 / 30))) := by
  refine fn_of (M := (yX12_monthOf, cX12_monthOf, 1, (some .int))) (cd := k_X12_monthOf) (L := [some (.int (iI z))]) rfl (Nat.le_of_ble_eq_true rfl) rfl rfl ?_
  refine aw_iload_n rfl rfl rfl ?_
  refine aw_sipush rfl rfl rfl ?_
  refine aw_irem rfl (by omega) (by omega) (by omega) (by omega) rfl ?_
  refine aw_bipush rfl rfl rfl ?_
  refine aw_idiv rfl (by omega) (by omega) (by omega) (by omega) rfl ?_
  refine aw_reti rfl ?_
  exact ⟨rfl, rfl⟩
set_option maxRecDepth 10000 in
set_option maxHeartbeats 2000000 in
theorem m_far {d : Nat} {σ : az_S} {a b : Int} (ha1 : -1000000 ≤ a) (ha2 : a ≤ 1000000) (hb1 : -1000000 ≤ b) (hb2 : b ≤ 1000000) : fn (d + 1) 202 [.int (iI a), .int (iI b)] σ (.int (iI (if b < a then a - b else b - a))) := by
  refine fn_of (M := (yX12_far, cX12_far, 2, (some .int))) (cd := k_X12_far) (L := [some (.int (iI a)), some (.int (iI b))]) rfl (Nat.le_of_ble_eq_true rfl) rfl rfl ?_
  refine aw_iload_n rfl rfl rfl ?_
  refine aw_iload_n rfl rfl rfl ?_
  refine aw_icmp (p' := 11) rfl ⟨by omega, by omega⟩ ⟨by omega, by omega⟩ rfl rfl (fun c1 => ?_) (fun c1 => ?_)
  · dsimp only [zc] at c1
    refine aw_iload_n rfl rfl rfl ?_
    refine aw_iload_n rfl rfl rfl ?_
    refine aw_isub rfl rfl ?_
    refine aw_reti rfl ?_
    refine ⟨?_, rfl⟩
    split <;> first | rfl | omega
  · dsimp only [zc] at c1
    refine aw_iload_n rfl rfl rfl ?_
    refine aw_iload_n rfl rfl rfl ?_
    refine aw_isub rfl rfl ?_
    refine aw_goto (p' := 14) rfl rfl ?_
    refine aw_reti rfl ?_
    refine ⟨?_, rfl⟩
    split <;> first | rfl | omega
set_option maxRecDepth 10000 in
set_option maxHeartbeats 2000000 in
theorem m_below {d : Nat} {σ : az_S} {a : Int} (ha1 : -1000000000 ≤ a) (ha2 : a ≤ 1000000000) : fn (d + 1) 184 [.int (iI a)] σ (.int (iI (a / 100))) := by
  refine fn_of (M := (yX12_below, cX12_below, 1, (some .int))) (cd := k_X12_below) (L := [some (.int (iI a))]) rfl (Nat.le_of_ble_eq_true rfl) rfl rfl ?_
  refine aw_iload_n rfl rfl rfl ?_
  refine aw_if (p' := 11) rfl ⟨by omega, by omega⟩ rfl rfl (fun c1 => ?_) (fun c1 => ?_)
  · dsimp only [zc] at c1
    refine aw_bipush rfl rfl rfl ?_
    refine aw_iload_n rfl rfl rfl ?_
    refine aw_isub rfl rfl ?_
    refine aw_bipush rfl rfl rfl ?_
    refine aw_idiv rfl (by omega) (by omega) (by omega) (by omega) rfl ?_
    refine aw_ineg rfl rfl ?_
    refine aw_reti rfl ?_
    refine ⟨?_, rfl⟩
    first | rfl | (congr 3; omega)
  · dsimp only [zc] at c1
    refine aw_iload_n rfl rfl rfl ?_
    refine aw_bipush rfl rfl rfl ?_
    refine aw_idiv rfl (by omega) (by omega) (by omega) (by omega) rfl ?_
    refine aw_goto (p' := 19) rfl rfl ?_
    refine aw_reti rfl ?_
    refine ⟨?_, rfl⟩
    first | rfl | (congr 3; omega)
def mCloudTo (A : Nat → Int → Int) (x y k : Int) : Prop := ∃ j : Int, 0 ≤ j ∧ j < k ∧ A 45 j = x ∧ A 46 j = y
abbrev mCloud (A : Nat → Int → Int) (x y : Int) : Prop := mCloudTo A x y (A 42 6)
theorem mCloudTo_s {A : Nat → Int → Int} {x y k : Int} (h0 : 0 ≤ k) : mCloudTo A x y (k + 1) ↔ mCloudTo A x y k ∨ (A 45 k = x ∧ A 46 k = y) := by
  constructor
  · rintro ⟨j, h1, h2, h3⟩
    by_cases e : j < k
    · exact Or.inl ⟨j, h1, e, h3⟩
    · have : k = j := by omega
      rw [this]; exact Or.inr h3
  · rintro (⟨j, h1, h2, h3⟩ | h)
    · exact ⟨j, h1, by omega, h3⟩
    · exact ⟨k, by omega, by omega, h⟩
set_option maxRecDepth 10000 in
set_option maxHeartbeats 2000000 in
theorem m_isCloud_l5 {d : Nat} {sz : Nat} {A : Nat → Int → Int} {σ : az_S} (hM : MV sz A σ) (hI : MI sz A) {x y : Int} (hx : inI x) (hy : inI y) : ∀ (n : Nat) (k b : Int), (A 42 6 - k).toNat = n → 0 ≤ k → k ≤ A 42 6 → b = bI (mCloudTo A x y k) → aw (d) k_X12_isCloud (some .boolean) (fun r τ => r = some (.int (iI (bI (mCloud A x y)))) ∧ τ = σ) 5 [some (.ref 42), some (.int (iI x)), some (.int (iI y)), some (.int (iI b)), some (.int (iI k))] [] σ := by
  intro n
  induction n using Nat.strongRecOn with
  | ind n ih =>
    intro k b hn hk0 hk1 hb
    obtain ⟨hx1, hx2⟩ := hx
    obtain ⟨hy1, hy2⟩ := hy
    obtain ⟨hc0, hc1⟩ := hI.clouds
    have hbi := bI_r (mCloudTo A x y k)
    rw [← hb] at hbi
    obtain ⟨hb1, hb2⟩ := hbi
    have hz := bI_zero (mCloudTo A x y k)
    rw [← hb] at hz
    have hs := mCloudTo_s (A := A) (x := x) (y := y) hk0
    refine aw_iload rfl rfl rfl ?_
    refine aw_aload_n rfl rfl rfl ?_
    refine aw_gp (6) hM rfl rfl (hM.f.k 42 rfl) rfl rfl (fun _ _ => ?_)
    refine aw_icmp (p' := 52) rfl ⟨by omega, by omega⟩ ⟨by omega, by omega⟩ rfl rfl (fun c1 => ?_) (fun c1 => ?_)
    · dsimp only [zc] at c1
      refine aw_iload_n rfl rfl rfl ?_
      refine aw_retn rfl (by rw [hb]; exact bI_nar _) ?_
      refine ⟨?_, rfl⟩
      rw [hb, show k = A 42 6 by omega]
    · dsimp only [zc] at c1
      refine aw_iload_n rfl rfl rfl ?_
      refine aw_if (p' := 40) rfl ⟨by omega, by omega⟩ rfl rfl (fun c2 => ?_) (fun c2 => ?_)
      · dsimp only [zc] at c2
        refine aw_iconst rfl rfl ?_
        refine aw_goto (p' := 45) rfl rfl ?_
        refine aw_istore_n rfl (Nat.le_of_ble_eq_true rfl) rfl rfl ?_
        change aw _ _ _ _ 46 [some (.ref 42), some (.int (iI _)), some (.int (iI _)), some (.int (iI _)), some (.int (iI _))] _ _
        refine aw_iinc rfl rfl rfl rfl ?_
        change aw _ _ _ _ 49 [some (.ref 42), some (.int (iI _)), some (.int (iI _)), some (.int (iI _)), some (.int (iI _))] _ _
        refine aw_goto (p' := 5) rfl rfl ?_
        exact ih _ (by omega) _ _ rfl (by omega) (by omega) (by (first | rw [bI_one', hs] | rw [bI_zero', hs]); clear ih; grind)
      · dsimp only [zc] at c2
        refine aw_aload_n rfl rfl rfl ?_
        refine aw_getr (b := 45) rfl rfl (hM.f.k 42 rfl) (hM.f.r 42 7 45 rfl) rfl ?_
        refine aw_iload rfl rfl rfl ?_
        refine aw_ap (N := 60) hM rfl (hM.f.s 45 rfl) (by omega) rfl (by omega) (by omega) rfl (fun _ _ => ?_)
        refine aw_iload_n rfl rfl rfl ?_
        refine aw_icmp (p' := 44) rfl ⟨by omega, by omega⟩ ⟨by omega, by omega⟩ rfl rfl (fun c3 => ?_) (fun c3 => ?_)
        · dsimp only [zc] at c3
          refine aw_iconst rfl rfl ?_
          refine aw_istore_n rfl (Nat.le_of_ble_eq_true rfl) rfl rfl ?_
          change aw _ _ _ _ 46 [some (.ref 42), some (.int (iI _)), some (.int (iI _)), some (.int (iI _)), some (.int (iI _))] _ _
          refine aw_iinc rfl rfl rfl rfl ?_
          change aw _ _ _ _ 49 [some (.ref 42), some (.int (iI _)), some (.int (iI _)), some (.int (iI _)), some (.int (iI _))] _ _
          refine aw_goto (p' := 5) rfl rfl ?_
          exact ih _ (by omega) _ _ rfl (by omega) (by omega) (by (first | rw [bI_one', hs] | rw [bI_zero', hs]); clear ih; grind)
        · dsimp only [zc] at c3
          refine aw_aload_n rfl rfl rfl ?_
          refine aw_getr (b := 46) rfl rfl (hM.f.k 42 rfl) (hM.f.r 42 8 46 rfl) rfl ?_
          refine aw_iload rfl rfl rfl ?_
          refine aw_ap (N := 60) hM rfl (hM.f.s 46 rfl) (by omega) rfl (by omega) (by omega) rfl (fun _ _ => ?_)
          refine aw_iload_n rfl rfl rfl ?_
          refine aw_icmp (p' := 44) rfl ⟨by omega, by omega⟩ ⟨by omega, by omega⟩ rfl rfl (fun c4 => ?_) (fun c4 => ?_)
          · dsimp only [zc] at c4
            refine aw_iconst rfl rfl ?_
            refine aw_istore_n rfl (Nat.le_of_ble_eq_true rfl) rfl rfl ?_
            change aw _ _ _ _ 46 [some (.ref 42), some (.int (iI _)), some (.int (iI _)), some (.int (iI _)), some (.int (iI _))] _ _
            refine aw_iinc rfl rfl rfl rfl ?_
            change aw _ _ _ _ 49 [some (.ref 42), some (.int (iI _)), some (.int (iI _)), some (.int (iI _)), some (.int (iI _))] _ _
            refine aw_goto (p' := 5) rfl rfl ?_
            exact ih _ (by omega) _ _ rfl (by omega) (by omega) (by (first | rw [bI_one', hs] | rw [bI_zero', hs]); clear ih; grind)
          · dsimp only [zc] at c4
            refine aw_iconst rfl rfl ?_
            refine aw_goto (p' := 45) rfl rfl ?_
            refine aw_istore_n rfl (Nat.le_of_ble_eq_true rfl) rfl rfl ?_
            change aw _ _ _ _ 46 [some (.ref 42), some (.int (iI _)), some (.int (iI _)), some (.int (iI _)), some (.int (iI _))] _ _
            refine aw_iinc rfl rfl rfl rfl ?_
            change aw _ _ _ _ 49 [some (.ref 42), some (.int (iI _)), some (.int (iI _)), some (.int (iI _)), some (.int (iI _))] _ _
            refine aw_goto (p' := 5) rfl rfl ?_
            exact ih _ (by omega) _ _ rfl (by omega) (by omega) (by (first | rw [bI_one', hs] | rw [bI_zero', hs]); clear ih; grind)
set_option maxRecDepth 10000 in
set_option maxHeartbeats 2000000 in
theorem m_isCloud {d : Nat} {sz : Nat} {A : Nat → Int → Int} {σ : az_S} (hM : MV sz A σ) (hI : MI sz A) {x y : Int} (hx : inI x) (hy : inI y) : fn (d + 1) 168 [.ref 42, .int (iI x), .int (iI y)] σ (.int (iI (bI (mCloud A x y)))) := by
  obtain ⟨hx1, hx2⟩ := hx
  obtain ⟨hy1, hy2⟩ := hy
  obtain ⟨hc0, hc1⟩ := hI.clouds
  refine fn_of (M := (yX12_isCloud, cX12_isCloud, 5, (some .boolean))) (cd := k_X12_isCloud) (L := [some (.ref 42), some (.int (iI x)), some (.int (iI y)), none, none]) rfl (Nat.le_of_ble_eq_true rfl) rfl rfl ?_
  refine aw_iconst rfl rfl ?_
  refine aw_istore_n rfl (Nat.le_of_ble_eq_true rfl) rfl rfl ?_
  change aw _ _ _ _ 2 [some (.ref 42), some (.int (iI _)), some (.int (iI _)), some (.int (iI _)), none] _ _
  refine aw_iconst rfl rfl ?_
  refine aw_istore rfl (Nat.le_of_ble_eq_true rfl) rfl rfl ?_
  change aw _ _ _ _ 5 [some (.ref 42), some (.int (iI _)), some (.int (iI _)), some (.int (iI _)), some (.int (iI _))] _ _
  exact m_isCloud_l5 hM hI ⟨hx1, hx2⟩ ⟨hy1, hy2⟩ _ 0 0 rfl (by omega) (by omega) (by rw [bI_zero']; rintro ⟨j, h1, h2⟩; omega)
def bestE (ed et : Int → Int) (d k : Int) : Nat → Int
  | 0 => -1
  | n + 1 => if et n ≤ k ∧ ed n ≤ d ∧ (bestE ed et d k n < 0 ∨ ed (bestE ed et d k n) ≤ ed n) then (n : Int) else bestE ed et d k n
theorem bestE_lo (ed et : Int → Int) (d k : Int) (n : Nat) : -1 ≤ bestE ed et d k n ∧ bestE ed et d k n < n := by
  induction n with
  | zero => unfold bestE; omega
  | succ n ih => unfold bestE; split <;> omega
theorem bestE_pos {ed et : Int → Int} {d k : Int} (h1 : ed 0 ≤ d) (h2 : et 0 ≤ k) : ∀ n, 1 ≤ n → 0 ≤ bestE ed et d k n := by
  intro n
  induction n with
  | zero => intro h; omega
  | succ n ih =>
    intro _
    unfold bestE
    split
    · omega
    · rename_i hc
      by_cases h0 : n = 0
      · subst h0
        exact absurd ⟨h2, h1, Or.inl (by unfold bestE; decide)⟩ hc
      · exact ih (by omega)
theorem bestE_ok {ed et : Int → Int} {d k : Int} : ∀ n, 0 ≤ bestE ed et d k n → ed (bestE ed et d k n) ≤ d ∧ et (bestE ed et d k n) ≤ k := by
  intro n
  induction n with
  | zero => intro h; unfold bestE at h; omega
  | succ n ih =>
    unfold bestE
    split
    · rename_i hc
      intro _
      exact ⟨hc.2.1, hc.1⟩
    · exact ih
abbrev meD (A : Nat → Int → Int) (t : Int) : Int → Int := fun i => A 57 (41 * t + i)
abbrev meT (A : Nat → Int → Int) (t : Int) : Int → Int := fun i => A 59 (41 * t + i)
def mBn (A : Nat → Int → Int) (t d k : Int) (n : Nat) : Int := bestE (meD A t) (meT A t) d k n
def absB (t b : Int) : Int := if b < 0 then -1 else 41 * t + b
theorem mBn_s (A : Nat → Int → Int) (t d k : Int) (j : Nat) {bb i : Int} (hi : i = 41 * t + j) (hbb : bb = absB t (mBn A t d k j)) (ht : 0 ≤ t) :
    ((A 59 i ≤ k ∧ A 57 i ≤ d ∧ (bb < 0 ∨ A 57 bb ≤ A 57 i)) → i = absB t (mBn A t d k (j + 1))) ∧ (¬ (A 59 i ≤ k ∧ A 57 i ≤ d ∧ (bb < 0 ∨ A 57 bb ≤ A 57 i)) → bb = absB t (mBn A t d k (j + 1))) := by
  have hr := bestE_lo (meD A t) (meT A t) d k j
  subst hi
  have e2 : (bb < 0 ∨ A 57 bb ≤ A 57 (41 * t + j)) ↔ (mBn A t d k j < 0 ∨ meD A t (mBn A t d k j) ≤ meD A t j) := by
    by_cases h : mBn A t d k j < 0
    · have : bb < 0 := by rw [hbb]; unfold absB; rw [if_pos h]; decide
      simp [h, this]
    · have h1 : bb = 41 * t + mBn A t d k j := by rw [hbb]; unfold absB; rw [if_neg h]
      have h3 : ¬ bb < 0 := by omega
      rw [h1] at h3 ⊢
      simp only [h, h3, false_or, meD]
  rw [e2]
  refine ⟨fun h => ?_, fun h => ?_⟩
  · show _ = absB t (bestE (meD A t) (meT A t) d k (j + 1))
    unfold bestE
    rw [if_pos (show meT A t ↑j ≤ k ∧ meD A t ↑j ≤ d ∧ (bestE (meD A t) (meT A t) d k j < 0 ∨ meD A t (bestE (meD A t) (meT A t) d k j) ≤ meD A t ↑j) from h)]
    unfold absB
    rw [if_neg (by omega)]
  · show bb = absB t (bestE (meD A t) (meT A t) d k (j + 1))
    unfold bestE
    rw [if_neg (show ¬ (meT A t ↑j ≤ k ∧ meD A t ↑j ≤ d ∧ (bestE (meD A t) (meT A t) d k j < 0 ∨ meD A t (bestE (meD A t) (meT A t) d k j) ≤ meD A t ↑j)) from h)]
    exact hbb
abbrev mB (A : Nat → Int → Int) (t d k : Int) : Int := mBn A t d k (A 56 t).toNat
set_option maxRecDepth 10000 in
set_option maxHeartbeats 2000000 in
theorem m_entryFor_l9 {d : Nat} {sz : Nat} {A : Nat → Int → Int} {σ : az_S} (hM : MV sz A σ) (hI : MI sz A) {t : Int} (ht0 : 0 ≤ t) (ht : t < A 42 12) {x y : Int} (hx : inI x) (hy : inI y) : ∀ (n : Nat) (i bb : Int) (j : Nat), (A 56 t - j).toNat = n → i = 41 * t + j → (j : Int) ≤ A 56 t → bb = absB t (mBn A t x y j) → aw (d) k_X12_entryFor (some .int) (fun r τ => r = some (.int (iI (absB t (mB A t x y)))) ∧ τ = σ) 9 [some (.ref 42), some (.int (iI t)), some (.int (iI x)), some (.int (iI y)), some (.int (iI bb)), some (.int (iI i))] [] σ := by
  intro n
  induction n using Nat.strongRecOn with
  | ind n ih =>
    intro i bb j hn hi hj hbb
    obtain ⟨hx1, hx2⟩ := hx
    obtain ⟨hy1, hy2⟩ := hy
    have hth := hI.things
    have hT := hI.thing t ht0 ht
    obtain ⟨⟨hn0, hn1⟩, -⟩ := hT
    have hstep := mBn_s A t x y j hi hbb ht0
    have hr : -1 ≤ mBn A t x y j ∧ mBn A t x y j < j := bestE_lo _ _ x y j
    have hbr : -1 ≤ bb ∧ bb < 41 * t + j := by
      rw [hbb]; clear hstep; unfold absB; split <;> omega
    obtain ⟨hb1, hb2⟩ := hbr
    refine aw_iload rfl rfl rfl ?_
    refine aw_bipush rfl rfl rfl ?_
    refine aw_iload_n rfl rfl rfl ?_
    refine aw_imul rfl rfl ?_
    refine aw_aload_n rfl rfl rfl ?_
    refine aw_getr (b := 56) rfl rfl (hM.f.k 42 rfl) (hM.f.r 42 20 56 rfl) rfl ?_
    refine aw_iload_n rfl rfl rfl ?_
    refine aw_ap (N := 24) hM rfl (hM.f.s 56 rfl) (by omega) rfl (by omega) (by omega) rfl (fun _ _ => ?_)
    refine aw_iadd rfl rfl ?_
    refine aw_icmp (p' := 84) rfl ⟨by omega, by omega⟩ ⟨by omega, by omega⟩ rfl rfl (fun c1 => ?_) (fun c1 => ?_)
    · dsimp only [zc] at c1
      refine aw_iload rfl rfl rfl ?_
      refine aw_reti rfl ?_
      refine ⟨?_, rfl⟩
      rw [hbb, show j = (A 56 t).toNat by omega]
    · dsimp only [zc] at c1
      refine aw_aload_n rfl rfl rfl ?_
      refine aw_getr (b := 59) rfl rfl (hM.f.k 42 rfl) (hM.f.r 42 23 59 rfl) rfl ?_
      refine aw_iload rfl rfl rfl ?_
      refine aw_ap (N := 984) hM rfl (hM.f.s 59 rfl) (by omega) rfl (by omega) (by omega) rfl (fun _ _ => ?_)
      refine aw_iload_n rfl rfl rfl ?_
      refine aw_icmp (p' := 74) rfl ⟨by omega, by omega⟩ ⟨by omega, by omega⟩ rfl rfl (fun c2 => ?_) (fun c2 => ?_)
      · dsimp only [zc] at c2
        refine aw_iload rfl rfl rfl ?_
        refine aw_istore rfl (Nat.le_of_ble_eq_true rfl) rfl rfl ?_
        change aw _ _ _ _ 78 [some (.ref 42), some (.int (iI _)), some (.int (iI _)), some (.int (iI _)), some (.int (iI _)), some (.int (iI _))] _ _
        refine aw_iinc rfl rfl rfl rfl ?_
        change aw _ _ _ _ 81 [some (.ref 42), some (.int (iI _)), some (.int (iI _)), some (.int (iI _)), some (.int (iI _)), some (.int (iI _))] _ _
        refine aw_goto (p' := 9) rfl rfl ?_
        exact ih _ (by omega) _ _ (j + 1) rfl (by omega) (by omega) (by clear ih; first | exact hstep.1 ⟨by omega, by omega, by omega⟩ | exact hstep.2 (by omega))
      · dsimp only [zc] at c2
        refine aw_aload_n rfl rfl rfl ?_
        refine aw_getr (b := 57) rfl rfl (hM.f.k 42 rfl) (hM.f.r 42 21 57 rfl) rfl ?_
        refine aw_iload rfl rfl rfl ?_
        refine aw_ap (N := 984) hM rfl (hM.f.s 57 rfl) (by omega) rfl (by omega) (by omega) rfl (fun _ _ => ?_)
        refine aw_iload_n rfl rfl rfl ?_
        refine aw_icmp (p' := 74) rfl ⟨by omega, by omega⟩ ⟨by omega, by omega⟩ rfl rfl (fun c3 => ?_) (fun c3 => ?_)
        · dsimp only [zc] at c3
          refine aw_iload rfl rfl rfl ?_
          refine aw_istore rfl (Nat.le_of_ble_eq_true rfl) rfl rfl ?_
          change aw _ _ _ _ 78 [some (.ref 42), some (.int (iI _)), some (.int (iI _)), some (.int (iI _)), some (.int (iI _)), some (.int (iI _))] _ _
          refine aw_iinc rfl rfl rfl rfl ?_
          change aw _ _ _ _ 81 [some (.ref 42), some (.int (iI _)), some (.int (iI _)), some (.int (iI _)), some (.int (iI _)), some (.int (iI _))] _ _
          refine aw_goto (p' := 9) rfl rfl ?_
          exact ih _ (by omega) _ _ (j + 1) rfl (by omega) (by omega) (by clear ih; first | exact hstep.1 ⟨by omega, by omega, by omega⟩ | exact hstep.2 (by omega))
        · dsimp only [zc] at c3
          refine aw_iload rfl rfl rfl ?_
          refine aw_if (p' := 69) rfl ⟨by omega, by omega⟩ rfl rfl (fun c4 => ?_) (fun c4 => ?_)
          · dsimp only [zc] at c4
            refine aw_iload rfl rfl rfl ?_
            refine aw_goto (p' := 76) rfl rfl ?_
            refine aw_istore rfl (Nat.le_of_ble_eq_true rfl) rfl rfl ?_
            change aw _ _ _ _ 78 [some (.ref 42), some (.int (iI _)), some (.int (iI _)), some (.int (iI _)), some (.int (iI _)), some (.int (iI _))] _ _
            refine aw_iinc rfl rfl rfl rfl ?_
            change aw _ _ _ _ 81 [some (.ref 42), some (.int (iI _)), some (.int (iI _)), some (.int (iI _)), some (.int (iI _)), some (.int (iI _))] _ _
            refine aw_goto (p' := 9) rfl rfl ?_
            exact ih _ (by omega) _ _ (j + 1) rfl (by omega) (by omega) (by clear ih; first | exact hstep.1 ⟨by omega, by omega, by omega⟩ | exact hstep.2 (by omega))
          · dsimp only [zc] at c4
            refine aw_aload_n rfl rfl rfl ?_
            refine aw_getr (b := 57) rfl rfl (hM.f.k 42 rfl) (hM.f.r 42 21 57 rfl) rfl ?_
            refine aw_iload rfl rfl rfl ?_
            refine aw_ap (N := 984) hM rfl (hM.f.s 57 rfl) (by omega) rfl (by omega) (by omega) rfl (fun _ _ => ?_)
            refine aw_aload_n rfl rfl rfl ?_
            refine aw_getr (b := 57) rfl rfl (hM.f.k 42 rfl) (hM.f.r 42 21 57 rfl) rfl ?_
            refine aw_iload rfl rfl rfl ?_
            refine aw_ap (N := 984) hM rfl (hM.f.s 57 rfl) (by omega) rfl (by omega) (by omega) rfl (fun _ _ => ?_)
            refine aw_icmp (p' := 74) rfl ⟨by omega, by omega⟩ ⟨by omega, by omega⟩ rfl rfl (fun c5 => ?_) (fun c5 => ?_)
            · dsimp only [zc] at c5
              refine aw_iload rfl rfl rfl ?_
              refine aw_istore rfl (Nat.le_of_ble_eq_true rfl) rfl rfl ?_
              change aw _ _ _ _ 78 [some (.ref 42), some (.int (iI _)), some (.int (iI _)), some (.int (iI _)), some (.int (iI _)), some (.int (iI _))] _ _
              refine aw_iinc rfl rfl rfl rfl ?_
              change aw _ _ _ _ 81 [some (.ref 42), some (.int (iI _)), some (.int (iI _)), some (.int (iI _)), some (.int (iI _)), some (.int (iI _))] _ _
              refine aw_goto (p' := 9) rfl rfl ?_
              exact ih _ (by omega) _ _ (j + 1) rfl (by omega) (by omega) (by clear ih; first | exact hstep.1 ⟨by omega, by omega, by omega⟩ | exact hstep.2 (by omega))
            · dsimp only [zc] at c5
              refine aw_iload rfl rfl rfl ?_
              refine aw_goto (p' := 76) rfl rfl ?_
              refine aw_istore rfl (Nat.le_of_ble_eq_true rfl) rfl rfl ?_
              change aw _ _ _ _ 78 [some (.ref 42), some (.int (iI _)), some (.int (iI _)), some (.int (iI _)), some (.int (iI _)), some (.int (iI _))] _ _
              refine aw_iinc rfl rfl rfl rfl ?_
              change aw _ _ _ _ 81 [some (.ref 42), some (.int (iI _)), some (.int (iI _)), some (.int (iI _)), some (.int (iI _)), some (.int (iI _))] _ _
              refine aw_goto (p' := 9) rfl rfl ?_
              exact ih _ (by omega) _ _ (j + 1) rfl (by omega) (by omega) (by clear ih; first | exact hstep.1 ⟨by omega, by omega, by omega⟩ | exact hstep.2 (by omega))
set_option maxRecDepth 10000 in
set_option maxHeartbeats 2000000 in
theorem m_entryFor {d : Nat} {sz : Nat} {A : Nat → Int → Int} {σ : az_S} (hM : MV sz A σ) (hI : MI sz A) {t : Int} (ht0 : 0 ≤ t) (ht : t < A 42 12) {x y : Int} (hx : inI x) (hy : inI y) : fn (d + 1) 180 [.ref 42, .int (iI t), .int (iI x), .int (iI y)] σ (.int (iI (absB t (mB A t x y)))) := by
  obtain ⟨hx1, hx2⟩ := hx
  obtain ⟨hy1, hy2⟩ := hy
  have hth := hI.things
  have hT := hI.thing t ht0 ht
  obtain ⟨⟨hn0, hn1⟩, -⟩ := hT
  refine fn_of (M := (yX12_entryFor, cX12_entryFor, 6, (some .int))) (cd := k_X12_entryFor) (L := [some (.ref 42), some (.int (iI t)), some (.int (iI x)), some (.int (iI y)), none, none]) rfl (Nat.le_of_ble_eq_true rfl) rfl rfl ?_
  refine aw_iconst rfl rfl ?_
  refine aw_istore rfl (Nat.le_of_ble_eq_true rfl) rfl rfl ?_
  change aw _ _ _ _ 3 [some (.ref 42), some (.int (iI _)), some (.int (iI _)), some (.int (iI _)), some (.int (iI _)), none] _ _
  refine aw_bipush rfl rfl rfl ?_
  refine aw_iload_n rfl rfl rfl ?_
  refine aw_imul rfl rfl ?_
  refine aw_istore rfl (Nat.le_of_ble_eq_true rfl) rfl rfl ?_
  change aw _ _ _ _ 9 [some (.ref 42), some (.int (iI _)), some (.int (iI _)), some (.int (iI _)), some (.int (iI _)), some (.int (iI _))] _ _
  exact m_entryFor_l9 hM hI ht0 ht ⟨hx1, hx2⟩ ⟨hy1, hy2⟩ _ _ _ 0 rfl (by omega) (by omega) rfl
def mGone (A : Nat → Int → Int) (t d k : Int) : Prop := d < A 52 t ∨ k < A 52 t ∨ (0 ≤ A 60 t ∧ A 60 t ≤ d ∧ A 61 t ≤ k)
/-- the height of a thing before the bound of 60 -/
def mRaw (A : Nat → Int → Int) (t d k : Int) : Int := A 58 (41 * t + mB A t d k) + (if A 49 t = 1 then (d - A 57 (41 * t + mB A t d k)) / A 53 t else 0)
noncomputable def mH (A : Nat → Int → Int) (t d k : Int) : Int := @ite Int (mGone A t d k) (Classical.propDecidable _) (-1) (if 60 < mRaw A t d k then 60 else mRaw A t d k)
theorem mH_gone {A : Nat → Int → Int} {t d k : Int} (h : mGone A t d k) : mH A t d k = -1 := if_pos h
theorem mH_up {A : Nat → Int → Int} {t d k : Int} (h : ¬ mGone A t d k) : mH A t d k = (if 60 < mRaw A t d k then 60 else mRaw A t d k) := if_neg h
theorem mB_facts {A : Nat → Int → Int} {t : Int} (hT : TI A t) {d k : Int} (h : ¬ mGone A t d k) : 0 ≤ mB A t d k ∧ mB A t d k < A 56 t ∧ A 57 (41 * t + mB A t d k) ≤ d ∧ 0 ≤ A 57 (41 * t + mB A t d k) ∧ 0 ≤ A 58 (41 * t + mB A t d k) ∧ A 58 (41 * t + mB A t d k) ≤ 60 := by
  obtain ⟨⟨h1, h2⟩, ⟨h3, h4⟩, h5, -⟩ := hT
  unfold mGone at h
  have hp : 0 ≤ mB A t d k := bestE_pos (by simp only [meD, Int.add_zero]; omega) (by simp only [meT, Int.add_zero]; omega) _ (by omega)
  have hl := bestE_lo (meD A t) (meT A t) d k (A 56 t).toNat
  have hk := bestE_ok (ed := meD A t) (et := meT A t) (d := d) (k := k) _ hp
  have hl2 : mB A t d k < A 56 t := by have := hl.2; show bestE _ _ _ _ _ < _; omega
  obtain ⟨⟨a1, a2⟩, ⟨a3, a4⟩, -⟩ := h5 (mB A t d k) (by omega) hl2
  exact ⟨hp, hl2, hk.1, a1, a3, a4⟩
theorem mH_range {A : Nat → Int → Int} {t : Int} (hT : TI A t) (d k : Int) : -1 ≤ mH A t d k ∧ mH A t d k ≤ 60 ∧ (mH A t d k = -1 ↔ mGone A t d k) := by
  by_cases h : mGone A t d k
  · rw [mH_gone h]; exact ⟨by decide, by decide, by simp [h]⟩
  · obtain ⟨b1, b2, b3, b4, b5, b6⟩ := mB_facts hT h
    rw [mH_up h]
    have hr : 0 ≤ mRaw A t d k := by
      unfold mRaw
      split
      · have : 0 ≤ (d - A 57 (41 * t + mB A t d k)) / A 53 t := by
          obtain ⟨-, -, -, h8 | h8, -⟩ := hT
          · exact Int.ediv_nonneg (by omega) (by omega)
          · omega
        omega
      · omega
    have : (if 60 < mRaw A t d k then (60 : Int) else mRaw A t d k) ≤ 60 ∧ 0 ≤ (if 60 < mRaw A t d k then (60 : Int) else mRaw A t d k) := by split <;> omega
    exact ⟨by omega, this.1, ⟨fun q => by omega, fun q => absurd q h⟩⟩
theorem absB_pos {t b : Int} (h : 0 ≤ b) : absB t b = 41 * t + b := by unfold absB; rw [if_neg (by omega)]
set_option maxRecDepth 10000 in
set_option maxHeartbeats 2000000 in
theorem m_heightOf_l51 {d : Nat} {sz : Nat} {A : Nat → Int → Int} {σ : az_S} (hM : MV sz A σ) (hI : MI sz A) {t : Int} (ht0 : 0 ≤ t) (ht : t < A 42 12) {x y : Int} (hx0 : 0 ≤ x) (hx1 : x ≤ 3599) (hy0 : 0 ≤ y) (hy1 : y ≤ 3599) : ∀ (hng : ¬ mGone A t x y),  aw (d + 1) k_X12_heightOf (some .int) (fun r τ => r = some (.int (iI (mH A t x y))) ∧ τ = σ) 51 [some (.ref 42), some (.int (iI t)), some (.int (iI x)), some (.int (iI y)), none, none] [] σ := by
  intro hng
  have hth := hI.things
  have hT := hI.thing t ht0 ht
  have hbf := mB_facts (d := x) (k := y) hT
  obtain ⟨⟨he1, he2⟩, -, -, hkg, -⟩ := hT
  obtain ⟨b1, b2, b3, b4, b5, b6⟩ := hbf hng
  refine aw_aload_n rfl rfl rfl ?_
  refine aw_iload_n rfl rfl rfl ?_
  refine aw_iload_n rfl rfl rfl ?_
  refine aw_iload_n rfl rfl rfl ?_
  refine aw_fnc (m_entryFor hM hI (by omega) (by omega) ⟨by omega, by omega⟩ ⟨by omega, by omega⟩) rfl rfl rfl (Nat.le_of_ble_eq_true rfl) (Or.inr ⟨_, rfl, (hM.f.k 42 rfl)⟩) rfl ?_
  rw [absB_pos b1]
  refine aw_istore rfl (Nat.le_of_ble_eq_true rfl) rfl rfl ?_
  change aw _ _ _ _ 60 [some (.ref 42), some (.int (iI _)), some (.int (iI _)), some (.int (iI _)), some (.int (iI _)), none] _ _
  refine aw_aload_n rfl rfl rfl ?_
  refine aw_getr (b := 58) rfl rfl (hM.f.k 42 rfl) (hM.f.r 42 22 58 rfl) rfl ?_
  refine aw_iload rfl rfl rfl ?_
  refine aw_ap (N := 984) hM rfl (hM.f.s 58 rfl) (by omega) rfl (by omega) (by omega) rfl (fun _ _ => ?_)
  refine aw_aload_n rfl rfl rfl ?_
  refine aw_getr (b := 49) rfl rfl (hM.f.k 42 rfl) (hM.f.r 42 13 49 rfl) rfl ?_
  refine aw_iload_n rfl rfl rfl ?_
  refine aw_ap (N := 24) hM rfl (hM.f.s 49 rfl) (by omega) rfl (by omega) (by omega) rfl (fun _ _ => ?_)
  refine aw_iconst rfl rfl ?_
  refine aw_icmp (p' := 96) rfl ⟨by omega, by omega⟩ ⟨by omega, by omega⟩ rfl rfl (fun c1 => ?_) (fun c1 => ?_)
  · dsimp only [zc] at c1
    refine aw_iconst rfl rfl ?_
    refine aw_iadd rfl rfl ?_
    refine aw_istore rfl (Nat.le_of_ble_eq_true rfl) rfl rfl ?_
    change aw _ _ _ _ 100 [some (.ref 42), some (.int (iI _)), some (.int (iI _)), some (.int (iI _)), some (.int (iI _)), some (.int (iI _))] _ _
    refine aw_iload rfl rfl rfl ?_
    refine aw_bipush rfl rfl rfl ?_
    refine aw_icmp (p' := 112) rfl ⟨by omega, by omega⟩ ⟨by omega, by omega⟩ rfl rfl (fun c2 => ?_) (fun c2 => ?_)
    · dsimp only [zc] at c2
      refine aw_iload rfl rfl rfl ?_
      refine aw_reti rfl ?_
      refine ⟨?_, rfl⟩
      rw [mH_up hng]
      unfold mRaw
      grind
    · dsimp only [zc] at c2
      refine aw_bipush rfl rfl rfl ?_
      refine aw_goto (p' := 114) rfl rfl ?_
      refine aw_reti rfl ?_
      refine ⟨?_, rfl⟩
      rw [mH_up hng]
      unfold mRaw
      grind
  · dsimp only [zc] at c1
    refine aw_iload_n rfl rfl rfl ?_
    refine aw_aload_n rfl rfl rfl ?_
    refine aw_getr (b := 57) rfl rfl (hM.f.k 42 rfl) (hM.f.r 42 21 57 rfl) rfl ?_
    refine aw_iload rfl rfl rfl ?_
    refine aw_ap (N := 984) hM rfl (hM.f.s 57 rfl) (by omega) rfl (by omega) (by omega) rfl (fun _ _ => ?_)
    refine aw_isub rfl rfl ?_
    refine aw_aload_n rfl rfl rfl ?_
    refine aw_getr (b := 53) rfl rfl (hM.f.k 42 rfl) (hM.f.r 42 17 53 rfl) rfl ?_
    refine aw_iload_n rfl rfl rfl ?_
    refine aw_ap (N := 24) hM rfl (hM.f.s 53 rfl) (by omega) rfl (by omega) (by omega) rfl (fun _ _ => ?_)
    have hq := div_b (a := x - A 57 (41 * t + mB A t x y)) (g := A 53 t) (by omega) (by omega)
    refine aw_idiv rfl (by omega) (by omega) (by omega) (by omega) rfl ?_
    refine aw_goto (p' := 97) rfl rfl ?_
    refine aw_iadd rfl rfl ?_
    refine aw_istore rfl (Nat.le_of_ble_eq_true rfl) rfl rfl ?_
    change aw _ _ _ _ 100 [some (.ref 42), some (.int (iI _)), some (.int (iI _)), some (.int (iI _)), some (.int (iI _)), some (.int (iI _))] _ _
    refine aw_iload rfl rfl rfl ?_
    refine aw_bipush rfl rfl rfl ?_
    refine aw_icmp (p' := 112) rfl ⟨by omega, by omega⟩ ⟨by omega, by omega⟩ rfl rfl (fun c3 => ?_) (fun c3 => ?_)
    · dsimp only [zc] at c3
      refine aw_iload rfl rfl rfl ?_
      refine aw_reti rfl ?_
      refine ⟨?_, rfl⟩
      rw [mH_up hng]
      unfold mRaw
      grind
    · dsimp only [zc] at c3
      refine aw_bipush rfl rfl rfl ?_
      refine aw_goto (p' := 114) rfl rfl ?_
      refine aw_reti rfl ?_
      refine ⟨?_, rfl⟩
      rw [mH_up hng]
      unfold mRaw
      grind
set_option maxRecDepth 10000 in
set_option maxHeartbeats 2000000 in
theorem m_heightOf {d : Nat} {sz : Nat} {A : Nat → Int → Int} {σ : az_S} (hM : MV sz A σ) (hI : MI sz A) {t : Int} (ht0 : 0 ≤ t) (ht : t < A 42 12) {x y : Int} (hx0 : 0 ≤ x) (hx1 : x ≤ 3599) (hy0 : 0 ≤ y) (hy1 : y ≤ 3599) : fn (d + 2) 181 [.ref 42, .int (iI t), .int (iI x), .int (iI y)] σ (.int (iI (mH A t x y))) := by
  have hth := hI.things
  have hT := hI.thing t ht0 ht
  have hbf := mB_facts (d := x) (k := y) hT
  obtain ⟨⟨he1, he2⟩, -, -, hkg, -⟩ := hT
  refine fn_of (M := (yX12_heightOf, cX12_heightOf, 6, (some .int))) (cd := k_X12_heightOf) (L := [some (.ref 42), some (.int (iI t)), some (.int (iI x)), some (.int (iI y)), none, none]) rfl (Nat.le_of_ble_eq_true rfl) rfl rfl ?_
  refine aw_aload_n rfl rfl rfl ?_
  refine aw_getr (b := 52) rfl rfl (hM.f.k 42 rfl) (hM.f.r 42 16 52 rfl) rfl ?_
  refine aw_iload_n rfl rfl rfl ?_
  refine aw_ap (N := 24) hM rfl (hM.f.s 52 rfl) (by omega) rfl (by omega) (by omega) rfl (fun _ _ => ?_)
  refine aw_iload_n rfl rfl rfl ?_
  refine aw_icmp (p' := 49) rfl ⟨by omega, by omega⟩ ⟨by omega, by omega⟩ rfl rfl (fun c4 => ?_) (fun c4 => ?_)
  · dsimp only [zc] at c4
    refine aw_iconst rfl rfl ?_
    refine aw_reti rfl ?_
    refine ⟨?_, rfl⟩
    rw [mH_gone (by unfold mGone; omega)]
  · dsimp only [zc] at c4
    refine aw_aload_n rfl rfl rfl ?_
    refine aw_getr (b := 52) rfl rfl (hM.f.k 42 rfl) (hM.f.r 42 16 52 rfl) rfl ?_
    refine aw_iload_n rfl rfl rfl ?_
    refine aw_ap (N := 24) hM rfl (hM.f.s 52 rfl) (by omega) rfl (by omega) (by omega) rfl (fun _ _ => ?_)
    refine aw_iload_n rfl rfl rfl ?_
    refine aw_icmp (p' := 49) rfl ⟨by omega, by omega⟩ ⟨by omega, by omega⟩ rfl rfl (fun c5 => ?_) (fun c5 => ?_)
    · dsimp only [zc] at c5
      refine aw_iconst rfl rfl ?_
      refine aw_reti rfl ?_
      refine ⟨?_, rfl⟩
      rw [mH_gone (by unfold mGone; omega)]
    · dsimp only [zc] at c5
      refine aw_aload_n rfl rfl rfl ?_
      refine aw_getr (b := 60) rfl rfl (hM.f.k 42 rfl) (hM.f.r 42 24 60 rfl) rfl ?_
      refine aw_iload_n rfl rfl rfl ?_
      refine aw_ap (N := 24) hM rfl (hM.f.s 60 rfl) (by omega) rfl (by omega) (by omega) rfl (fun _ _ => ?_)
      refine aw_if (p' := 51) rfl ⟨by omega, by omega⟩ rfl rfl (fun c6 => ?_) (fun c6 => ?_)
      · dsimp only [zc] at c6
        exact m_heightOf_l51 hM hI ht0 ht hx0 hx1 hy0 hy1 (by unfold mGone; omega)
      · dsimp only [zc] at c6
        refine aw_aload_n rfl rfl rfl ?_
        refine aw_getr (b := 60) rfl rfl (hM.f.k 42 rfl) (hM.f.r 42 24 60 rfl) rfl ?_
        refine aw_iload_n rfl rfl rfl ?_
        refine aw_ap (N := 24) hM rfl (hM.f.s 60 rfl) (by omega) rfl (by omega) (by omega) rfl (fun _ _ => ?_)
        refine aw_iload_n rfl rfl rfl ?_
        refine aw_icmp (p' := 51) rfl ⟨by omega, by omega⟩ ⟨by omega, by omega⟩ rfl rfl (fun c7 => ?_) (fun c7 => ?_)
        · dsimp only [zc] at c7
          exact m_heightOf_l51 hM hI ht0 ht hx0 hx1 hy0 hy1 (by unfold mGone; omega)
        · dsimp only [zc] at c7
          refine aw_aload_n rfl rfl rfl ?_
          refine aw_getr (b := 61) rfl rfl (hM.f.k 42 rfl) (hM.f.r 42 25 61 rfl) rfl ?_
          refine aw_iload_n rfl rfl rfl ?_
          refine aw_ap (N := 24) hM rfl (hM.f.s 61 rfl) (by omega) rfl (by omega) (by omega) rfl (fun _ _ => ?_)
          refine aw_iload_n rfl rfl rfl ?_
          refine aw_icmp (p' := 51) rfl ⟨by omega, by omega⟩ ⟨by omega, by omega⟩ rfl rfl (fun c8 => ?_) (fun c8 => ?_)
          · dsimp only [zc] at c8
            exact m_heightOf_l51 hM hI ht0 ht hx0 hx1 hy0 hy1 (by unfold mGone; omega)
          · dsimp only [zc] at c8
            refine aw_iconst rfl rfl ?_
            refine aw_reti rfl ?_
            refine ⟨?_, rfl⟩
            rw [mH_gone (by unfold mGone; omega)]
set_option maxRecDepth 10000 in
set_option maxHeartbeats 2000000 in
theorem m_height {d : Nat} {sz : Nat} {A : Nat → Int → Int} {σ : az_S} (hM : MV sz A σ) (hI : MI sz A) {t x y : Int} (ht : inI t) (hx : inI x) (hy : inI y) : fn (d + 3) 182 [.ref 42, .int (iI t), .int (iI x), .int (iI y)] σ (.int (iI (@ite Int ((0 ≤ t ∧ t ≤ A 42 12 - 1) ∧ (0 ≤ x ∧ x ≤ 3599) ∧ (0 ≤ y ∧ y ≤ 3599)) (Classical.propDecidable _) (mH A t x y) (-1)))) := by
  obtain ⟨ht1, ht2⟩ := ht
  obtain ⟨hx1, hx2⟩ := hx
  obtain ⟨hy1, hy2⟩ := hy
  refine fn_of (M := (yX12_height, cX12_height, 4, (some .int))) (cd := k_X12_height) (L := [some (.ref 42), some (.int (iI t)), some (.int (iI x)), some (.int (iI y))]) rfl (Nat.le_of_ble_eq_true rfl) rfl rfl ?_
  refine aw_aload_n rfl rfl rfl ?_
  refine aw_iload_n rfl rfl rfl ?_
  refine aw_fnc (m_isThing hM hI ⟨by omega, by omega⟩) rfl rfl rfl (Nat.le_of_ble_eq_true rfl) (Or.inr ⟨_, rfl, (hM.f.k 42 rfl)⟩) rfl ?_
  refine aw_ifeqb (p' := 32) rfl rfl rfl (fun c1 => ?_) (fun c1 => ?_)
  · refine aw_iconst rfl rfl ?_
    refine aw_reti rfl ?_
    refine ⟨?_, rfl⟩
    first | rw [if_pos ⟨by omega, by omega, by omega⟩] | rw [if_neg (by omega)]
  · refine aw_iload_n rfl rfl rfl ?_
    refine aw_fnc (m_isDay ⟨by omega, by omega⟩) rfl rfl rfl (Nat.le_of_ble_eq_true rfl) (Or.inl rfl) rfl ?_
    refine aw_ifeqb (p' := 32) rfl rfl rfl (fun c2 => ?_) (fun c2 => ?_)
    · refine aw_iconst rfl rfl ?_
      refine aw_reti rfl ?_
      refine ⟨?_, rfl⟩
      first | rw [if_pos ⟨by omega, by omega, by omega⟩] | rw [if_neg (by omega)]
    · refine aw_iload_n rfl rfl rfl ?_
      refine aw_fnc (m_isDay ⟨by omega, by omega⟩) rfl rfl rfl (Nat.le_of_ble_eq_true rfl) (Or.inl rfl) rfl ?_
      refine aw_ifeqb (p' := 32) rfl rfl rfl (fun c3 => ?_) (fun c3 => ?_)
      · refine aw_iconst rfl rfl ?_
        refine aw_reti rfl ?_
        refine ⟨?_, rfl⟩
        first | rw [if_pos ⟨by omega, by omega, by omega⟩] | rw [if_neg (by omega)]
      · refine aw_aload_n rfl rfl rfl ?_
        refine aw_iload_n rfl rfl rfl ?_
        refine aw_iload_n rfl rfl rfl ?_
        refine aw_iload_n rfl rfl rfl ?_
        refine aw_fnc (m_heightOf hM hI (by omega) (by omega) (by omega) (by omega) (by omega) (by omega)) rfl rfl rfl (Nat.le_of_ble_eq_true rfl) (Or.inr ⟨_, rfl, (hM.f.k 42 rfl)⟩) rfl ?_
        refine aw_goto (p' := 33) rfl rfl ?_
        refine aw_reti rfl ?_
        refine ⟨?_, rfl⟩
        first | rw [if_pos ⟨by omega, by omega, by omega⟩] | rw [if_neg (by omega)]
def mOpenTo (A : Nat → Int → Int) (c d k n : Int) : Prop := ∀ t : Int, 0 ≤ t → t < n → A 50 t ≠ c ∨ mH A t d k < 0
abbrev mOpen (A : Nat → Int → Int) (c d k : Int) : Prop := mOpenTo A c d k (A 42 12)
theorem mOpenTo_s {A : Nat → Int → Int} {c d k n : Int} (h0 : 0 ≤ n) : mOpenTo A c d k (n + 1) ↔ mOpenTo A c d k n ∧ (A 50 n ≠ c ∨ mH A n d k < 0) := by
  constructor
  · intro h; exact ⟨fun t h1 h2 => h t h1 (by omega), h n h0 (by omega)⟩
  · rintro ⟨h1, h2⟩ t h3 h4
    by_cases e : t < n
    · exact h1 t h3 e
    · have : t = n := by omega
      rw [this]; exact h2
set_option maxRecDepth 10000 in
set_option maxHeartbeats 2000000 in
theorem m_isOpen_l6 {d : Nat} {sz : Nat} {A : Nat → Int → Int} {σ : az_S} (hM : MV sz A σ) (hI : MI sz A) {c : Int} (hc : inI c) {x y : Int} (hx0 : 0 ≤ x) (hx1 : x ≤ 3599) (hy0 : 0 ≤ y) (hy1 : y ≤ 3599) : ∀ (n : Nat) (t b : Int), (A 42 12 - t).toNat = n → 0 ≤ t → t ≤ A 42 12 → b = bI (mOpenTo A c x y t) → aw (d + 2) k_X12_isOpen (some .boolean) (fun r τ => r = some (.int (iI (bI (mOpen A c x y)))) ∧ τ = σ) 6 [some (.ref 42), some (.int (iI c)), some (.int (iI x)), some (.int (iI y)), some (.int (iI b)), some (.int (iI t))] [] σ := by
  intro n
  induction n using Nat.strongRecOn with
  | ind n ih =>
    intro t b hn hk0 hk1 hb
    obtain ⟨hc1, hc2⟩ := hc
    have hth := hI.things
    have hbi := bI_r (mOpenTo A c x y t)
    rw [← hb] at hbi
    obtain ⟨hb1, hb2⟩ := hbi
    have hz := bI_zero (mOpenTo A c x y t)
    rw [← hb] at hz
    have hs := mOpenTo_s (A := A) (c := c) (d := x) (k := y) hk0
    have hr : t < A 42 12 → -1 ≤ mH A t x y ∧ mH A t x y ≤ 60 := fun q => ⟨(mH_range (hI.thing t hk0 q) x y).1, (mH_range (hI.thing t hk0 q) x y).2.1⟩
    refine aw_iload rfl rfl rfl ?_
    refine aw_aload_n rfl rfl rfl ?_
    refine aw_gp (12) hM rfl rfl (hM.f.k 42 rfl) rfl rfl (fun _ _ => ?_)
    refine aw_icmp (p' := 55) rfl ⟨by omega, by omega⟩ ⟨by omega, by omega⟩ rfl rfl (fun c1 => ?_) (fun c1 => ?_)
    · dsimp only [zc] at c1
      refine aw_iload rfl rfl rfl ?_
      refine aw_retn rfl (by rw [hb]; exact bI_nar _) ?_
      refine ⟨?_, rfl⟩
      rw [hb, show t = A 42 12 by omega]
    · dsimp only [zc] at c1
      refine aw_iload rfl rfl rfl ?_
      refine aw_if (p' := 46) rfl ⟨by omega, by omega⟩ rfl rfl (fun c2 => ?_) (fun c2 => ?_)
      · dsimp only [zc] at c2
        refine aw_iconst rfl rfl ?_
        refine aw_istore rfl (Nat.le_of_ble_eq_true rfl) rfl rfl ?_
        change aw _ _ _ _ 49 [some (.ref 42), some (.int (iI _)), some (.int (iI _)), some (.int (iI _)), some (.int (iI _)), some (.int (iI _))] _ _
        refine aw_iinc rfl rfl rfl rfl ?_
        change aw _ _ _ _ 52 [some (.ref 42), some (.int (iI _)), some (.int (iI _)), some (.int (iI _)), some (.int (iI _)), some (.int (iI _))] _ _
        refine aw_goto (p' := 6) rfl rfl ?_
        exact ih _ (by omega) _ _ rfl (by omega) (by omega) (by (first | rw [bI_one', hs] | rw [bI_zero', hs]); clear ih; grind)
      · dsimp only [zc] at c2
        refine aw_aload_n rfl rfl rfl ?_
        refine aw_getr (b := 50) rfl rfl (hM.f.k 42 rfl) (hM.f.r 42 14 50 rfl) rfl ?_
        refine aw_iload rfl rfl rfl ?_
        refine aw_ap (N := 24) hM rfl (hM.f.s 50 rfl) (by omega) rfl (by omega) (by omega) rfl (fun _ _ => ?_)
        refine aw_iload_n rfl rfl rfl ?_
        refine aw_icmp (p' := 42) rfl ⟨by omega, by omega⟩ ⟨by omega, by omega⟩ rfl rfl (fun c3 => ?_) (fun c3 => ?_)
        · dsimp only [zc] at c3
          refine aw_iconst rfl rfl ?_
          refine aw_goto (p' := 47) rfl rfl ?_
          refine aw_istore rfl (Nat.le_of_ble_eq_true rfl) rfl rfl ?_
          change aw _ _ _ _ 49 [some (.ref 42), some (.int (iI _)), some (.int (iI _)), some (.int (iI _)), some (.int (iI _)), some (.int (iI _))] _ _
          refine aw_iinc rfl rfl rfl rfl ?_
          change aw _ _ _ _ 52 [some (.ref 42), some (.int (iI _)), some (.int (iI _)), some (.int (iI _)), some (.int (iI _)), some (.int (iI _))] _ _
          refine aw_goto (p' := 6) rfl rfl ?_
          exact ih _ (by omega) _ _ rfl (by omega) (by omega) (by (first | rw [bI_one', hs] | rw [bI_zero', hs]); clear ih; grind)
        · dsimp only [zc] at c3
          refine aw_aload_n rfl rfl rfl ?_
          refine aw_iload rfl rfl rfl ?_
          refine aw_iload_n rfl rfl rfl ?_
          refine aw_iload_n rfl rfl rfl ?_
          refine aw_fnc (m_heightOf hM hI (by omega) (by omega) (by omega) (by omega) (by omega) (by omega)) rfl rfl rfl (Nat.le_of_ble_eq_true rfl) (Or.inr ⟨_, rfl, (hM.f.k 42 rfl)⟩) rfl ?_
          refine aw_if (p' := 46) rfl ⟨by omega, by omega⟩ rfl rfl (fun c4 => ?_) (fun c4 => ?_)
          · dsimp only [zc] at c4
            refine aw_iconst rfl rfl ?_
            refine aw_istore rfl (Nat.le_of_ble_eq_true rfl) rfl rfl ?_
            change aw _ _ _ _ 49 [some (.ref 42), some (.int (iI _)), some (.int (iI _)), some (.int (iI _)), some (.int (iI _)), some (.int (iI _))] _ _
            refine aw_iinc rfl rfl rfl rfl ?_
            change aw _ _ _ _ 52 [some (.ref 42), some (.int (iI _)), some (.int (iI _)), some (.int (iI _)), some (.int (iI _)), some (.int (iI _))] _ _
            refine aw_goto (p' := 6) rfl rfl ?_
            exact ih _ (by omega) _ _ rfl (by omega) (by omega) (by (first | rw [bI_one', hs] | rw [bI_zero', hs]); clear ih; grind)
          · dsimp only [zc] at c4
            refine aw_iconst rfl rfl ?_
            refine aw_goto (p' := 47) rfl rfl ?_
            refine aw_istore rfl (Nat.le_of_ble_eq_true rfl) rfl rfl ?_
            change aw _ _ _ _ 49 [some (.ref 42), some (.int (iI _)), some (.int (iI _)), some (.int (iI _)), some (.int (iI _)), some (.int (iI _))] _ _
            refine aw_iinc rfl rfl rfl rfl ?_
            change aw _ _ _ _ 52 [some (.ref 42), some (.int (iI _)), some (.int (iI _)), some (.int (iI _)), some (.int (iI _)), some (.int (iI _))] _ _
            refine aw_goto (p' := 6) rfl rfl ?_
            exact ih _ (by omega) _ _ rfl (by omega) (by omega) (by (first | rw [bI_one', hs] | rw [bI_zero', hs]); clear ih; grind)
set_option maxRecDepth 10000 in
set_option maxHeartbeats 2000000 in
theorem m_isOpen {d : Nat} {sz : Nat} {A : Nat → Int → Int} {σ : az_S} (hM : MV sz A σ) (hI : MI sz A) {c : Int} (hc : inI c) {x y : Int} (hx0 : 0 ≤ x) (hx1 : x ≤ 3599) (hy0 : 0 ≤ y) (hy1 : y ≤ 3599) : fn (d + 3) 183 [.ref 42, .int (iI c), .int (iI x), .int (iI y)] σ (.int (iI (bI (mOpen A c x y)))) := by
  obtain ⟨hc1, hc2⟩ := hc
  have hth := hI.things
  refine fn_of (M := (yX12_isOpen, cX12_isOpen, 6, (some .boolean))) (cd := k_X12_isOpen) (L := [some (.ref 42), some (.int (iI c)), some (.int (iI x)), some (.int (iI y)), none, none]) rfl (Nat.le_of_ble_eq_true rfl) rfl rfl ?_
  refine aw_iconst rfl rfl ?_
  refine aw_istore rfl (Nat.le_of_ble_eq_true rfl) rfl rfl ?_
  change aw _ _ _ _ 3 [some (.ref 42), some (.int (iI _)), some (.int (iI _)), some (.int (iI _)), some (.int (iI _)), none] _ _
  refine aw_iconst rfl rfl ?_
  refine aw_istore rfl (Nat.le_of_ble_eq_true rfl) rfl rfl ?_
  change aw _ _ _ _ 6 [some (.ref 42), some (.int (iI _)), some (.int (iI _)), some (.int (iI _)), some (.int (iI _)), some (.int (iI _))] _ _
  exact m_isOpen_l6 hM hI ⟨hc1, hc2⟩ hx0 hx1 hy0 hy1 _ 0 1 rfl (by omega) (by omega) (by rw [bI_one']; intro t h1 h2; omega)
end
section
/-! BITS -/
theorem iI_nat' {a : Int} (h : 0 ≤ a) : iI a = nI a.toNat := by
  obtain ⟨n, rfl⟩ := Int.eq_ofNat_of_zero_le h
  rfl
theorem nI_and (a b : Nat) : nI a &&& nI b = nI (a &&& b) := by
  apply Int32.toBitVec_inj.1
  show BitVec.ofNat 32 a &&& BitVec.ofNat 32 b = BitVec.ofNat 32 (a &&& b)
  apply BitVec.eq_of_getLsbD_eq
  intro i hi
  simp [hi]
theorem nI_or (a b : Nat) : nI a ||| nI b = nI (a ||| b) := by
  apply Int32.toBitVec_inj.1
  show BitVec.ofNat 32 a ||| BitVec.ofNat 32 b = BitVec.ofNat 32 (a ||| b)
  apply BitVec.eq_of_getLsbD_eq
  intro i hi
  simp [hi]
theorem nI_shl1 : ∀ l, l < 31 → nI 1 <<< (nI l &&& 31) = nI (2 ^ l) := by decide +kernel
theorem nI_shm : ∀ l, l < 32 → ((nI l &&& 31).toBitVec.smod 32).toNat = l := by decide +kernel
theorem nI_shr {n l : Nat} (hn : n < 2147483648) (hl : l < 32) : nI n >>> (nI l &&& 31) = nI (n / 2 ^ l) := by
  apply Int32.toBitVec_inj.1
  rw [Int32.toBitVec_shiftRight]
  show (BitVec.ofNat 32 n).sshiftRight ((nI l &&& 31).toBitVec.smod 32).toNat = BitVec.ofNat 32 (n / 2 ^ l)
  rw [nI_shm l hl, BitVec.sshiftRight_eq_of_msb_false (by rw [BitVec.msb_eq_decide]; simp; omega)]
  apply BitVec.eq_of_toNat_eq
  rw [BitVec.toNat_ushiftRight, BitVec.toNat_ofNat, BitVec.toNat_ofNat, Nat.mod_eq_of_lt (by omega : n < 2 ^ 32), Nat.shiftRight_eq_div_pow, Nat.mod_eq_of_lt]
  exact Nat.lt_of_le_of_lt (Nat.div_le_self _ _) (by omega)
def zand (a b : Int) : Int := ((a.toNat &&& b.toNat : Nat) : Int)
def zor (a b : Int) : Int := ((a.toNat ||| b.toNat : Nat) : Int)
section AwBits
variable {d : Nat} {cd : List az_I} {rt : Option FieldType} {P : Option Value → az_S → Prop} {pc p' : Nat} {L : az_V} {st : List Value} {σ : az_S}
theorem aw_iand {a b : Int} (hf : az_fetch cd pc = some (1, .iand, [])) (ha : 0 ≤ a) (hb : 0 ≤ b) (hp : pc + 1 = p') (h : aw d cd rt P p' L (.int (iI (zand a b)) :: st) σ) : aw d cd rt P pc L (.int (iI b) :: .int (iI a) :: st) σ := by
  subst hp
  refine aw_nx hf (Nat.le_of_ble_eq_true rfl) ⟨_, _, st, rfl, rfl⟩ ?_
  show aw d cd rt P (pc + 1) L (.int (iI a &&& iI b) :: st) σ
  rw [iI_nat' ha, iI_nat' hb, nI_and]
  exact h
theorem aw_iand1 {a : Int} (hf : az_fetch cd pc = some (1, .iand, [])) (ha : 0 ≤ a) (hp : pc + 1 = p') (h : aw d cd rt P p' L (.int (iI (a % 2)) :: st) σ) : aw d cd rt P pc L (.int (iI 1) :: .int (iI a) :: st) σ := by
  refine aw_iand hf ha (by decide) hp ?_
  have e : zand a 1 = a % 2 := by
    unfold zand
    rw [show (1 : Int).toNat = 1 from rfl, Nat.and_one_is_mod]
    omega
  rw [e]
  exact h
theorem aw_ior {a b : Int} (hf : az_fetch cd pc = some (1, .ior, [])) (ha : 0 ≤ a) (hb : 0 ≤ b) (hp : pc + 1 = p') (h : aw d cd rt P p' L (.int (iI (zor a b)) :: st) σ) : aw d cd rt P pc L (.int (iI b) :: .int (iI a) :: st) σ := by
  subst hp
  refine aw_nx hf (Nat.le_of_ble_eq_true rfl) ⟨_, _, st, rfl, rfl⟩ ?_
  show aw d cd rt P (pc + 1) L (.int (iI a ||| iI b) :: st) σ
  rw [iI_nat' ha, iI_nat' hb, nI_or]
  exact h
theorem zor_p {a : Int} {n : Nat} (h0 : 0 ≤ a) (h1 : a < 2 ^ n) : zor a (2 ^ n) = a + 2 ^ n := by
  obtain ⟨m, rfl⟩ := Int.eq_ofNat_of_zero_le h0
  have h2 : m < 2 ^ n := by
    have : ((2 ^ n : Nat) : Int) = 2 ^ n := by simp
    omega
  unfold zor
  have e : ((2 : Int) ^ n).toNat = 2 ^ n := by
    rw [show (2 : Int) ^ n = ((2 ^ n : Nat) : Int) by simp, Int.toNat_natCast]
  rw [e, Int.toNat_natCast, Nat.or_comm]
  have := Nat.two_pow_add_eq_or_of_lt h2 1
  rw [Nat.mul_one] at this
  rw [← this]
  simp [Int.add_comm]
/-- a bit that is not there is set -/
theorem aw_iorp {a : Int} {n : Nat} (hf : az_fetch cd pc = some (1, .ior, [])) (h0 : 0 ≤ a) (h1 : a < 2 ^ n) (hp : pc + 1 = p') (h : aw d cd rt P p' L (.int (iI (a + 2 ^ n)) :: st) σ) : aw d cd rt P pc L (.int (iI (2 ^ n)) :: .int (iI a) :: st) σ := by
  refine aw_ior hf h0 (Int.le_of_lt (Int.pow_pos (by decide))) hp ?_
  rw [zor_p h0 h1]
  exact h
theorem aw_ishl1 {k : Int} (hf : az_fetch cd pc = some (1, .ishl, [])) (h0 : 0 ≤ k) (h1 : k < 31) (hp : pc + 1 = p') (h : aw d cd rt P p' L (.int (iI (2 ^ k.toNat)) :: st) σ) : aw d cd rt P pc L (.int (iI k) :: .int (iI 1) :: st) σ := by
  subst hp
  refine aw_nx hf (Nat.le_of_ble_eq_true rfl) ⟨_, _, st, rfl, rfl⟩ ?_
  show aw d cd rt P (pc + 1) L (.int (iI 1 <<< (iI k &&& 31)) :: st) σ
  have e : iI 1 <<< (iI k &&& 31) = iI (2 ^ k.toNat) := by
    rw [iI_nat' h0, show iI 1 = nI 1 from rfl, nI_shl1 _ (by omega), show (2 : Int) ^ k.toNat = ((2 ^ k.toNat : Nat) : Int) by simp]
    rfl
  rw [e]
  exact h
theorem aw_ishr {a k : Int} (hf : az_fetch cd pc = some (1, .ishr, [])) (ha : 0 ≤ a) (ha2 : a < 2147483648) (h0 : 0 ≤ k) (h1 : k < 32) (hp : pc + 1 = p') (h : aw d cd rt P p' L (.int (iI (a / 2 ^ k.toNat)) :: st) σ) : aw d cd rt P pc L (.int (iI k) :: .int (iI a) :: st) σ := by
  subst hp
  refine aw_nx hf (Nat.le_of_ble_eq_true rfl) ⟨_, _, st, rfl, rfl⟩ ?_
  show aw d cd rt P (pc + 1) L (.int (iI a >>> (iI k &&& 31)) :: st) σ
  have e : iI a >>> (iI k &&& 31) = iI (a / 2 ^ k.toNat) := by
    obtain ⟨m, rfl⟩ := Int.eq_ofNat_of_zero_le ha
    rw [iI_nat' h0, iI_nat, nI_shr (by omega) (by omega), show (2 : Int) ^ k.toNat = ((2 ^ k.toNat : Nat) : Int) by simp, ← Int.natCast_ediv]
    rfl
  rw [e]
  exact h
end AwBits
theorem p2_b {t : Int} (h0 : 0 ≤ t) (h1 : t < 24) : 1 ≤ (2 : Int) ^ t.toNat ∧ (2 : Int) ^ t.toNat ≤ 8388608 := by
  have hh : ∀ n, n < 24 → 1 ≤ (2 : Int) ^ n ∧ (2 : Int) ^ n ≤ 8388608 := by decide +kernel
  exact hh t.toNat (by omega)
/-! POINTS AND SHADES -/
def mPx (A : Nat → Int → Int) (c lx x h j : Int) : Int := (100 * (c % A 42 0) + 50 + j * (A 43 (12 * (x % 360 / 30) + h) + lx)) / 100
def mPy (A : Nat → Int → Int) (c ly x h j : Int) : Int := (100 * (c / A 42 0) + 50 + j * (A 44 (12 * (x % 360 / 30) + h) + ly)) / 100
def mPoint (A : Nat → Int → Int) (c lx ly x h j : Int) : Int := if (0 ≤ mPx A c lx x h j ∧ mPx A c lx x h j ≤ A 42 0 - 1) ∧ (0 ≤ mPy A c ly x h j ∧ mPy A c ly x h j ≤ A 42 1 - 1) then mPy A c ly x h j * A 42 0 + mPx A c lx x h j else -1
theorem grid_b {w h x y : Int} (hx0 : 0 ≤ x) (hx : x ≤ w - 1) (hy0 : 0 ≤ y) (hy : y ≤ h - 1) : 0 ≤ y * w + x ∧ y * w + x < w * h := by
  have a1 : 0 ≤ y * w := Int.mul_nonneg hy0 (by omega)
  have a2 : y * w ≤ (h - 1) * w := Int.mul_le_mul_of_nonneg_right hy (by omega)
  have a3 : (h - 1) * w = w * h - w := by rw [Int.sub_mul, Int.one_mul, Int.mul_comm]
  omega
theorem mPoint_r {sz : Nat} {A : Nat → Int → Int} (hI : MI sz A) (c lx ly x h j : Int) : -1 ≤ mPoint A c lx ly x h j ∧ mPoint A c lx ly x h j < A 42 2 := by
  have hc := hI.cells
  unfold mPoint
  split
  · rename_i hh
    have := grid_b hh.1.1 hh.1.2 hh.2.1 hh.2.2
    omega
  · omega
set_option maxRecDepth 10000 in
set_option maxHeartbeats 2000000 in
theorem m_pointOf {d : Nat} {sz : Nat} {A : Nat → Int → Int} {σ : az_S} (hM : MV sz A σ) (hI : MI sz A) {c lx ly x h j : Int} (hc0 : 0 ≤ c) (hc : c < A 42 2) (hl1 : -50 ≤ lx) (hl2 : lx ≤ 50) (hm1 : -50 ≤ ly) (hm2 : ly ≤ 50) (hx0 : 0 ≤ x) (hx1 : x ≤ 3599) (hh0 : 0 ≤ h) (hh1 : h ≤ 11) (hj0 : 0 ≤ j) (hj1 : j ≤ 60) : fn (d + 2) 185 [.ref 42, .int (iI c), .int (iI lx), .int (iI ly), .int (iI x), .int (iI h), .int (iI j)] σ (.int (iI (mPoint A c lx ly x h j))) := by
  have hw := hI.wide
  have hg := hI.high
  have hce := hI.cells
  have hs := hI.sun (12 * (x % 360 / 30) + h) (by omega) (by omega)
  have p1 := mul_b (U := 350) hj0 hj1 (show -350 ≤ A 43 (12 * (x % 360 / 30) + h) + lx by omega) (by omega)
  have p2 := mul_b (U := 350) hj0 hj1 (show -350 ≤ A 44 (12 * (x % 360 / 30) + h) + ly by omega) (by omega)
  have r1 := rem_b (a := c) (g := A 42 0) (by omega)
  have r2 := div_b (a := c) (g := A 42 0) hc0 (by omega)
  refine fn_of (M := (yX12_pointOf, cX12_pointOf, 10, (some .int))) (cd := k_X12_pointOf) (L := [some (.ref 42), some (.int (iI c)), some (.int (iI lx)), some (.int (iI ly)), some (.int (iI x)), some (.int (iI h)), some (.int (iI j)), none, none, none]) rfl (Nat.le_of_ble_eq_true rfl) rfl rfl ?_
  refine aw_bipush rfl rfl rfl ?_
  refine aw_iload rfl rfl rfl ?_
  refine aw_fnc (m_monthOf (by omega) (by omega)) rfl rfl rfl (Nat.le_of_ble_eq_true rfl) (Or.inl rfl) rfl ?_
  refine aw_imul rfl rfl ?_
  refine aw_iload rfl rfl rfl ?_
  refine aw_iadd rfl rfl ?_
  refine aw_istore rfl (Nat.le_of_ble_eq_true rfl) rfl rfl ?_
  change aw _ _ _ _ 13 [some (.ref 42), some (.int (iI _)), some (.int (iI _)), some (.int (iI _)), some (.int (iI _)), some (.int (iI _)), some (.int (iI _)), some (.int (iI _)), none, none] _ _
  refine aw_bipush rfl rfl rfl ?_
  refine aw_iload_n rfl rfl rfl ?_
  refine aw_aload_n rfl rfl rfl ?_
  refine aw_gp (0) hM rfl rfl (hM.f.k 42 rfl) rfl rfl (fun _ _ => ?_)
  refine aw_irem rfl (by omega) (by omega) (by omega) (by omega) rfl ?_
  refine aw_imul rfl rfl ?_
  refine aw_bipush rfl rfl rfl ?_
  refine aw_iadd rfl rfl ?_
  refine aw_iload rfl rfl rfl ?_
  refine aw_aload_n rfl rfl rfl ?_
  refine aw_getr (b := 43) rfl rfl (hM.f.k 42 rfl) (hM.f.r 42 4 43 rfl) rfl ?_
  refine aw_iload rfl rfl rfl ?_
  refine aw_ap (N := 144) hM rfl (hM.f.s 43 rfl) (by omega) rfl (by omega) (by omega) rfl (fun _ _ => ?_)
  refine aw_iload_n rfl rfl rfl ?_
  refine aw_iadd rfl rfl ?_
  refine aw_imul rfl rfl ?_
  refine aw_iadd rfl rfl ?_
  refine aw_fnc (m_below (by omega) (by omega)) rfl rfl rfl (Nat.le_of_ble_eq_true rfl) (Or.inl rfl) rfl ?_
  refine aw_istore rfl (Nat.le_of_ble_eq_true rfl) rfl rfl ?_
  change aw _ _ _ _ 43 [some (.ref 42), some (.int (iI _)), some (.int (iI _)), some (.int (iI _)), some (.int (iI _)), some (.int (iI _)), some (.int (iI _)), some (.int (iI _)), some (.int (iI _)), none] _ _
  refine aw_bipush rfl rfl rfl ?_
  refine aw_iload_n rfl rfl rfl ?_
  refine aw_aload_n rfl rfl rfl ?_
  refine aw_gp (0) hM rfl rfl (hM.f.k 42 rfl) rfl rfl (fun _ _ => ?_)
  refine aw_idiv rfl (by omega) (by omega) (by omega) (by omega) rfl ?_
  refine aw_imul rfl rfl ?_
  refine aw_bipush rfl rfl rfl ?_
  refine aw_iadd rfl rfl ?_
  refine aw_iload rfl rfl rfl ?_
  refine aw_aload_n rfl rfl rfl ?_
  refine aw_getr (b := 44) rfl rfl (hM.f.k 42 rfl) (hM.f.r 42 5 44 rfl) rfl ?_
  refine aw_iload rfl rfl rfl ?_
  refine aw_ap (N := 144) hM rfl (hM.f.s 44 rfl) (by omega) rfl (by omega) (by omega) rfl (fun _ _ => ?_)
  refine aw_iload_n rfl rfl rfl ?_
  refine aw_iadd rfl rfl ?_
  refine aw_imul rfl rfl ?_
  refine aw_iadd rfl rfl ?_
  refine aw_fnc (m_below (by omega) (by omega)) rfl rfl rfl (Nat.le_of_ble_eq_true rfl) (Or.inl rfl) rfl ?_
  refine aw_istore rfl (Nat.le_of_ble_eq_true rfl) rfl rfl ?_
  change aw _ _ _ _ 73 [some (.ref 42), some (.int (iI _)), some (.int (iI _)), some (.int (iI _)), some (.int (iI _)), some (.int (iI _)), some (.int (iI _)), some (.int (iI _)), some (.int (iI _)), some (.int (iI _))] _ _
  refine aw_iload rfl rfl rfl ?_
  refine aw_i2l rfl ⟨by omega, by omega⟩ rfl ?_
  refine aw_lconst 0 rfl rfl rfl ?_
  refine aw_aload_n rfl rfl rfl ?_
  refine aw_gp (0) hM rfl rfl (hM.f.k 42 rfl) rfl rfl (fun _ _ => ?_)
  refine aw_iconst rfl rfl ?_
  refine aw_isub rfl rfl ?_
  refine aw_i2l rfl ⟨by omega, by omega⟩ rfl ?_
  refine aw_fnc (m_in ⟨by omega, by omega⟩ ⟨by omega, by omega⟩ ⟨by omega, by omega⟩) rfl rfl rfl (Nat.le_of_ble_eq_true rfl) (Or.inl rfl) rfl ?_
  refine aw_ifeqb (p' := 120) rfl rfl rfl (fun c1 => ?_) (fun c1 => ?_)
  · refine aw_iconst rfl rfl ?_
    refine aw_reti rfl ?_
    refine ⟨?_, rfl⟩
    unfold mPoint
    first | rw [if_pos ⟨by assumption, by assumption⟩]; rfl | rw [if_neg (fun q => absurd q.1 (by assumption))] | rw [if_neg (fun q => absurd q.2 (by assumption))]
  · refine aw_iload rfl rfl rfl ?_
    refine aw_i2l rfl ⟨by omega, by omega⟩ rfl ?_
    refine aw_lconst 0 rfl rfl rfl ?_
    refine aw_aload_n rfl rfl rfl ?_
    refine aw_gp (1) hM rfl rfl (hM.f.k 42 rfl) rfl rfl (fun _ _ => ?_)
    refine aw_iconst rfl rfl ?_
    refine aw_isub rfl rfl ?_
    refine aw_i2l rfl ⟨by omega, by omega⟩ rfl ?_
    refine aw_fnc (m_in ⟨by omega, by omega⟩ ⟨by omega, by omega⟩ ⟨by omega, by omega⟩) rfl rfl rfl (Nat.le_of_ble_eq_true rfl) (Or.inl rfl) rfl ?_
    refine aw_ifeqb (p' := 120) rfl rfl rfl (fun c2 => ?_) (fun c2 => ?_)
    · refine aw_iconst rfl rfl ?_
      refine aw_reti rfl ?_
      refine ⟨?_, rfl⟩
      unfold mPoint
      first | rw [if_pos ⟨by assumption, by assumption⟩]; rfl | rw [if_neg (fun q => absurd q.1 (by assumption))] | rw [if_neg (fun q => absurd q.2 (by assumption))]
    · refine aw_iload rfl rfl rfl ?_
      refine aw_aload_n rfl rfl rfl ?_
      refine aw_gp (0) hM rfl rfl (hM.f.k 42 rfl) rfl rfl (fun _ _ => ?_)
      refine aw_imul rfl rfl ?_
      refine aw_iload rfl rfl rfl ?_
      refine aw_iadd rfl rfl ?_
      refine aw_goto (p' := 121) rfl rfl ?_
      refine aw_reti rfl ?_
      refine ⟨?_, rfl⟩
      unfold mPoint
      first | rw [if_pos ⟨by assumption, by assumption⟩]; rfl | rw [if_neg (fun q => absurd q.1 (by assumption))] | rw [if_neg (fun q => absurd q.2 (by assumption))]
def mDarkTo (A : Nat → Int → Int) (c lx ly x h w n : Int) : Prop := ¬ mCloud A x h ∧ w ≠ c ∧ ∃ i : Int, 1 ≤ i ∧ i < n ∧ mPoint A c lx ly x h i = w
abbrev mDark (A : Nat → Int → Int) (c lx ly tall x h w : Int) : Prop := mDarkTo A c lx ly x h w (tall + 1)
theorem mDarkTo_s {A : Nat → Int → Int} {c lx ly x h w n : Int} (hn : 1 ≤ n) (hc : ¬ mCloud A x h) : mDarkTo A c lx ly x h w (n + 1) ↔ mDarkTo A c lx ly x h w n ∨ (w ≠ c ∧ mPoint A c lx ly x h n = w) := by
  constructor
  · rintro ⟨h1, h2, i, h3, h4, h5⟩
    by_cases e : i < n
    · exact Or.inl ⟨h1, h2, i, h3, e, h5⟩
    · have : i = n := by omega
      rw [this] at h5
      exact Or.inr ⟨h2, h5⟩
  · rintro (⟨h1, h2, i, h3, h4, h5⟩ | ⟨h1, h2⟩)
    · exact ⟨h1, h2, i, h3, by omega, h5⟩
    · exact ⟨hc, h1, n, hn, by omega, h2⟩
set_option maxRecDepth 10000 in
set_option maxHeartbeats 2000000 in
theorem m_shades_l29 {d : Nat} {sz : Nat} {A : Nat → Int → Int} {σ : az_S} (hM : MV sz A σ) (hI : MI sz A) {c lx ly tl x h : Int} (hc0 : 0 ≤ c) (hc : c < A 42 2) (hl1 : -50 ≤ lx) (hl2 : lx ≤ 50) (hm1 : -50 ≤ ly) (hm2 : ly ≤ 50) (ht1 : -1 ≤ tl) (ht2 : tl ≤ 60) (hx0 : 0 ≤ x) (hx1 : x ≤ 3599) (hh0 : 0 ≤ h) (hh1 : h ≤ 11) : ∀ (n : Nat) (τ : az_S) (j : Int) (v : Option Value), (tl + 1 - j).toNat = n → MV sz A τ → Mod σ τ [88] → 1 ≤ j → (j = 1 ∨ j ≤ tl + 1) → (∀ w, 0 ≤ w → w < A 42 2 → zx τ 88 w = bI (mDarkTo A c lx ly x h w j)) → aw (d + 2) k_X12_shades none (fun r τ => r = none ∧ MV sz A τ ∧ Mod σ τ [88] ∧ ∀ w : Int, 0 ≤ w → w < A 42 2 → zx τ 88 w = bI (mDark A c lx ly tl x h w)) 29 [some (.ref 42), some (.int (iI c)), some (.int (iI lx)), some (.int (iI ly)), some (.int (iI tl)), some (.int (iI x)), some (.int (iI h)), some (.int (iI j)), v] [] τ := by
  intro n
  induction n using Nat.strongRecOn with
  | ind n ih =>
    intro τ j v hn hN hD hj0 hj1 hU
    have hce := hI.cells
    have hpr := mPoint_r hI c lx ly x h j
    refine aw_iload rfl rfl rfl ?_
    refine aw_iload rfl rfl rfl ?_
    refine aw_icmp (p' := 87) rfl ⟨by omega, by omega⟩ ⟨by omega, by omega⟩ rfl rfl (fun c1 => ?_) (fun c1 => ?_)
    · dsimp only [zc] at c1
      refine aw_retv rfl ?_
      refine ⟨rfl, hN, (hD.su (T := [88]) rfl), fun w h1 h2 => ?_⟩
      rw [hU w h1 h2]
      refine bI_congr ⟨?_, ?_⟩
      · rintro ⟨q1, q2, i, q3, q4, q5⟩; exact ⟨q1, q2, i, q3, by omega, q5⟩
      · rintro ⟨q1, q2, i, q3, q4, q5⟩; first | exact ⟨q1, q2, i, q3, by omega, q5⟩ | exact absurd (by assumption) q1
    · dsimp only [zc] at c1
      refine aw_aload_n rfl rfl rfl ?_
      refine aw_iload rfl rfl rfl ?_
      refine aw_iload rfl rfl rfl ?_
      refine aw_fnc (m_isCloud hN hI ⟨by omega, by omega⟩ ⟨by omega, by omega⟩) rfl rfl rfl (Nat.le_of_ble_eq_true rfl) (Or.inr ⟨_, rfl, (hN.f.k 42 rfl)⟩) rfl ?_
      refine aw_ifneb (p' := 87) rfl rfl rfl (fun c2 => ?_) (fun c2 => ?_)
      · refine aw_retv rfl ?_
        refine ⟨rfl, hN, (hD.su (T := [88]) rfl), fun w h1 h2 => ?_⟩
        rw [hU w h1 h2]
        refine bI_congr ⟨?_, ?_⟩
        · rintro ⟨q1, q2, i, q3, q4, q5⟩; exact ⟨q1, q2, i, q3, by omega, q5⟩
        · rintro ⟨q1, q2, i, q3, q4, q5⟩; first | exact ⟨q1, q2, i, q3, by omega, q5⟩ | exact absurd (by assumption) q1
      · refine aw_aload_n rfl rfl rfl ?_
        refine aw_iload_n rfl rfl rfl ?_
        refine aw_iload_n rfl rfl rfl ?_
        refine aw_iload_n rfl rfl rfl ?_
        refine aw_iload rfl rfl rfl ?_
        refine aw_iload rfl rfl rfl ?_
        refine aw_iload rfl rfl rfl ?_
        refine aw_fnc (m_pointOf hN hI (by omega) (by omega) (by omega) (by omega) (by omega) (by omega) (by omega) (by omega) (by omega) (by omega) (by omega) (by omega)) rfl rfl rfl (Nat.le_of_ble_eq_true rfl) (Or.inr ⟨_, rfl, (hN.f.k 42 rfl)⟩) rfl ?_
        refine aw_istore rfl (Nat.le_of_ble_eq_true rfl) rfl rfl ?_
        change aw _ _ _ _ 62 [some (.ref 42), some (.int (iI _)), some (.int (iI _)), some (.int (iI _)), some (.int (iI _)), some (.int (iI _)), some (.int (iI _)), some (.int (iI _)), some (.int (iI _))] _ _
        refine aw_iload rfl rfl rfl ?_
        refine aw_if (p' := 81) rfl ⟨by omega, by omega⟩ rfl rfl (fun c3 => ?_) (fun c3 => ?_)
        · dsimp only [zc] at c3
          refine aw_iinc rfl rfl rfl rfl ?_
          change aw _ _ _ _ 84 [some (.ref 42), some (.int (iI _)), some (.int (iI _)), some (.int (iI _)), some (.int (iI _)), some (.int (iI _)), some (.int (iI _)), some (.int (iI _)), some (.int (iI _))] _ _
          refine aw_goto (p' := 29) rfl rfl ?_
          refine ih _ (by omega) _ _ _ rfl hN (hD.su (T := [88]) rfl) (by omega) (by omega) (fun w h1 h2 => ?_)
          have hs := mDarkTo_s (A := A) (c := c) (lx := lx) (ly := ly) (x := x) (h := h) (w := w) hj0 (by assumption)
          rw [hU w h1 h2]; exact bI_congr (by rw [hs]; exact ⟨fun q => Or.inl q, fun q => q.elim id (fun q => by omega)⟩)
        · dsimp only [zc] at c3
          refine aw_iload rfl rfl rfl ?_
          refine aw_iload_n rfl rfl rfl ?_
          refine aw_icmp (p' := 81) rfl ⟨by omega, by omega⟩ ⟨by omega, by omega⟩ rfl rfl (fun c4 => ?_) (fun c4 => ?_)
          · dsimp only [zc] at c4
            refine aw_iinc rfl rfl rfl rfl ?_
            change aw _ _ _ _ 84 [some (.ref 42), some (.int (iI _)), some (.int (iI _)), some (.int (iI _)), some (.int (iI _)), some (.int (iI _)), some (.int (iI _)), some (.int (iI _)), some (.int (iI _))] _ _
            refine aw_goto (p' := 29) rfl rfl ?_
            refine ih _ (by omega) _ _ _ rfl hN (hD.su (T := [88]) rfl) (by omega) (by omega) (fun w h1 h2 => ?_)
            have hs := mDarkTo_s (A := A) (c := c) (lx := lx) (ly := ly) (x := x) (h := h) (w := w) hj0 (by assumption)
            rw [hU w h1 h2]; exact bI_congr (by rw [hs]; exact ⟨fun q => Or.inl q, fun q => q.elim id (fun q => by omega)⟩)
          · dsimp only [zc] at c4
            refine aw_aload_n rfl rfl rfl ?_
            refine aw_getr (b := 88) rfl rfl (hN.f.k 42 rfl) (hN.f.r 42 71 88 rfl) rfl ?_
            refine aw_iload rfl rfl rfl ?_
            refine aw_iconst rfl rfl ?_
            refine aw_sb (N := 192) hN rfl (hN.f.s 88 rfl) (by omega) rfl (by omega) (by omega) (by first | omega | exact bI_01 _) rfl (fun τ5 hM5 hD5 hU5 => ?_)
            refine aw_iinc rfl rfl rfl rfl ?_
            change aw _ _ _ _ 84 [some (.ref 42), some (.int (iI _)), some (.int (iI _)), some (.int (iI _)), some (.int (iI _)), some (.int (iI _)), some (.int (iI _)), some (.int (iI _)), some (.int (iI _))] _ _
            refine aw_goto (p' := 29) rfl rfl ?_
            refine ih _ (by omega) _ _ _ rfl hM5 ((hD.su (T := [88]) rfl).tr (hD5.su (T := [88]) rfl)) (by omega) (by omega) (fun w h1 h2 => ?_)
            have hs := mDarkTo_s (A := A) (c := c) (lx := lx) (ly := ly) (x := x) (h := h) (w := w) hj0 (by assumption)
            rw [hU5 w]
            split
            · rw [bI_one', hs]; exact Or.inr ⟨by omega, by omega⟩
            · rw [hU w h1 h2]; exact bI_congr (by rw [hs]; exact ⟨fun q => Or.inl q, fun q => q.elim id (fun q => by omega)⟩)
set_option maxRecDepth 10000 in
set_option maxHeartbeats 2000000 in
theorem m_shades_l3 {d : Nat} {sz : Nat} {A : Nat → Int → Int} {σ : az_S} (hM : MV sz A σ) (hI : MI sz A) {c lx ly tl x h : Int} (hc0 : 0 ≤ c) (hc : c < A 42 2) (hl1 : -50 ≤ lx) (hl2 : lx ≤ 50) (hm1 : -50 ≤ ly) (hm2 : ly ≤ 50) (ht1 : -1 ≤ tl) (ht2 : tl ≤ 60) (hx0 : 0 ≤ x) (hx1 : x ≤ 3599) (hh0 : 0 ≤ h) (hh1 : h ≤ 11) : ∀ (n : Nat) (τ : az_S) (j : Int), (A 42 2 - j).toNat = n → MV sz A τ → Mod σ τ [88] → 0 ≤ j → j ≤ A 42 2 → (∀ w, 0 ≤ w → w < j → zx τ 88 w = 0) → aw (d + 2) k_X12_shades none (fun r τ => r = none ∧ MV sz A τ ∧ Mod σ τ [88] ∧ ∀ w : Int, 0 ≤ w → w < A 42 2 → zx τ 88 w = bI (mDark A c lx ly tl x h w)) 3 [some (.ref 42), some (.int (iI c)), some (.int (iI lx)), some (.int (iI ly)), some (.int (iI tl)), some (.int (iI x)), some (.int (iI h)), some (.int (iI j)), none] [] τ := by
  intro n
  induction n using Nat.strongRecOn with
  | ind n ih =>
    intro τ j hn hN hD hj0 hj1 hU
    have hce := hI.cells
    refine aw_iload rfl rfl rfl ?_
    refine aw_aload_n rfl rfl rfl ?_
    refine aw_gp (2) hN rfl rfl (hN.f.k 42 rfl) rfl rfl (fun _ _ => ?_)
    refine aw_icmp (p' := 26) rfl ⟨by omega, by omega⟩ ⟨by omega, by omega⟩ rfl rfl (fun c6 => ?_) (fun c6 => ?_)
    · dsimp only [zc] at c6
      refine aw_iconst rfl rfl ?_
      refine aw_istore rfl (Nat.le_of_ble_eq_true rfl) rfl rfl ?_
      change aw _ _ _ _ 29 [some (.ref 42), some (.int (iI _)), some (.int (iI _)), some (.int (iI _)), some (.int (iI _)), some (.int (iI _)), some (.int (iI _)), some (.int (iI _)), none] _ _
      exact m_shades_l29 hM hI hc0 hc hl1 hl2 hm1 hm2 ht1 ht2 hx0 hx1 hh0 hh1 _ _ 1 _ rfl hN (hD.su (T := [88]) rfl) (by omega) (by omega) (fun w h1 h2 => by rw [hU w h1 (by omega)]; rw [bI_zero']; rintro ⟨-, -, i, q1, q2, -⟩; omega)
    · dsimp only [zc] at c6
      refine aw_aload_n rfl rfl rfl ?_
      refine aw_getr (b := 88) rfl rfl (hN.f.k 42 rfl) (hN.f.r 42 71 88 rfl) rfl ?_
      refine aw_iload rfl rfl rfl ?_
      refine aw_iconst rfl rfl ?_
      refine aw_sb (N := 192) hN rfl (hN.f.s 88 rfl) (by omega) rfl (by omega) (by omega) (by first | omega | exact bI_01 _) rfl (fun τ7 hM7 hD7 hU7 => ?_)
      refine aw_iinc rfl rfl rfl rfl ?_
      change aw _ _ _ _ 23 [some (.ref 42), some (.int (iI _)), some (.int (iI _)), some (.int (iI _)), some (.int (iI _)), some (.int (iI _)), some (.int (iI _)), some (.int (iI _)), none] _ _
      refine aw_goto (p' := 3) rfl rfl ?_
      exact ih _ (by omega) _ _ rfl hM7 ((hD.su (T := [88]) rfl).tr (hD7.su (T := [88]) rfl)) (by omega) (by omega) (fun w h1 h2 => by rw [hU7]; split; rfl; exact hU w h1 (by omega))
set_option maxRecDepth 10000 in
set_option maxHeartbeats 2000000 in
theorem m_shades {d : Nat} {sz : Nat} {A : Nat → Int → Int} {σ : az_S} (hM : MV sz A σ) (hI : MI sz A) {c lx ly tl x h : Int} (hc0 : 0 ≤ c) (hc : c < A 42 2) (hl1 : -50 ≤ lx) (hl2 : lx ≤ 50) (hm1 : -50 ≤ ly) (hm2 : ly ≤ 50) (ht1 : -1 ≤ tl) (ht2 : tl ≤ 60) (hx0 : 0 ≤ x) (hx1 : x ≤ 3599) (hh0 : 0 ≤ h) (hh1 : h ≤ 11) : cal (d + 3) 186 [.ref 42, .int (iI c), .int (iI lx), .int (iI ly), .int (iI tl), .int (iI x), .int (iI h)] σ (fun r τ => r = none ∧ MV sz A τ ∧ Mod σ τ [88] ∧ ∀ w : Int, 0 ≤ w → w < A 42 2 → zx τ 88 w = bI (mDark A c lx ly tl x h w)) := by
  have hce := hI.cells
  refine cal_of (M := (yX12_shades, cX12_shades, 9, none)) (cd := k_X12_shades) (L := [some (.ref 42), some (.int (iI c)), some (.int (iI lx)), some (.int (iI ly)), some (.int (iI tl)), some (.int (iI x)), some (.int (iI h)), none, none]) rfl (Nat.le_of_ble_eq_true rfl) rfl rfl ?_
  refine aw_iconst rfl rfl ?_
  refine aw_istore rfl (Nat.le_of_ble_eq_true rfl) rfl rfl ?_
  change aw _ _ _ _ 3 [some (.ref 42), some (.int (iI _)), some (.int (iI _)), some (.int (iI _)), some (.int (iI _)), some (.int (iI _)), some (.int (iI _)), some (.int (iI _)), none] _ _
  exact m_shades_l3 hM hI hc0 hc hl1 hl2 hm1 hm2 ht1 ht2 hx0 hx1 hh0 hh1 _ _ 0 rfl hM Mod.rf (by omega) (by omega) (fun w _ _ => by omega)
end
section
/-! LOOKS: who shades what -/
def mSh (A : Nat → Int → Int) (x h y t c : Int) : Prop := 0 < mH A t x y ∧ mDark A (A 50 t) (A 54 t) (A 55 t) (mH A t x y) x h c ∧ mOpen A c x y
noncomputable def mManyN (A : Nat → Int → Int) (x h y c : Int) : Nat → Int
  | 0 => 0
  | n + 1 => @ite Int (mSh A x h y n c ∧ mManyN A x h y c n < 12) (Classical.propDecidable _) (mManyN A x h y c n + 1) (mManyN A x h y c n)
noncomputable def mSetN (A : Nat → Int → Int) (x h y c : Int) : Nat → Int
  | 0 => 0
  | n + 1 => @ite Int (mSh A x h y n c ∧ mManyN A x h y c n < 12) (Classical.propDecidable _) (mSetN A x h y c n + 2 ^ n) (mSetN A x h y c n)
noncomputable abbrev mMany (A : Nat → Int → Int) (x h y c : Int) : Int := mManyN A x h y c (A 42 12).toNat
noncomputable abbrev mSet (A : Nat → Int → Int) (x h y c : Int) : Int := mSetN A x h y c (A 42 12).toNat
theorem mManyN_r (A : Nat → Int → Int) (x h y c : Int) (n : Nat) : 0 ≤ mManyN A x h y c n ∧ mManyN A x h y c n ≤ 12 ∧ mManyN A x h y c n ≤ n := by
  induction n with
  | zero => unfold mManyN; omega
  | succ n ih => unfold mManyN; split <;> omega
theorem mSetN_r (A : Nat → Int → Int) (x h y c : Int) (n : Nat) : 0 ≤ mSetN A x h y c n ∧ mSetN A x h y c n < 2 ^ n := by
  induction n with
  | zero => unfold mSetN; decide
  | succ n ih =>
    unfold mSetN
    rw [Int.pow_succ]
    split <;> omega
theorem mSM_s {A : Nat → Int → Int} {x h y c t : Int} (ht : 0 ≤ t) : ((mSh A x h y t c ∧ mManyN A x h y c t.toNat < 12) → mManyN A x h y c (t + 1).toNat = mManyN A x h y c t.toNat + 1 ∧ mSetN A x h y c (t + 1).toNat = mSetN A x h y c t.toNat + 2 ^ t.toNat) ∧ (¬ (mSh A x h y t c ∧ mManyN A x h y c t.toNat < 12) → mManyN A x h y c (t + 1).toNat = mManyN A x h y c t.toNat ∧ mSetN A x h y c (t + 1).toNat = mSetN A x h y c t.toNat) := by
  obtain ⟨n, rfl⟩ := Int.eq_ofNat_of_zero_le ht
  have e : ((n : Int) + 1).toNat = n + 1 := by omega
  rw [e]
  simp only [Int.toNat_natCast]
  refine ⟨fun q => ⟨?_, ?_⟩, fun q => ⟨?_, ?_⟩⟩
  · conv => lhs; unfold mManyN
    exact if_pos q
  · conv => lhs; unfold mSetN
    exact if_pos q
  · conv => lhs; unfold mManyN
    exact if_neg q
  · conv => lhs; unfold mSetN
    exact if_neg q
def LKa (A : Nat → Int → Int) (x y n : Int) (τ : az_S) : Prop := ∀ u : Int, 0 ≤ u → u < n → zx τ 92 u = mH A u x y
def LKb (A : Nat → Int → Int) (x h y t : Int) (τ : az_S) : Prop := ∀ w : Int, 0 ≤ w → w < A 42 2 → zx τ 89 w = mSetN A x h y w t.toNat ∧ zx τ 90 w = mManyN A x h y w t.toNat ∧ zx τ 91 w = bI (mOpen A w x y)
/-- what looks leaves behind -/
def LK (A : Nat → Int → Int) (x h y : Int) (τ : az_S) : Prop := LKa A x y (A 42 12) τ ∧ LKb A x h y (A 42 12) τ
theorem LKa.mod {A : Nat → Int → Int} {x y n : Int} {σ τ : az_S} {S : List Nat} (h : LKa A x y n σ) (hd : Mod σ τ S) (h1 : S.contains 92 = false) : LKa A x y n τ := fun u a b => by rw [hd.z 92 h1]; exact h u a b
theorem LKb.mod {A : Nat → Int → Int} {x h y t : Int} {σ τ : az_S} {S : List Nat} (k : LKb A x h y t σ) (hd : Mod σ τ S) (h1 : S.contains 89 = false) (h2 : S.contains 90 = false) (h3 : S.contains 91 = false) : LKb A x h y t τ := fun w a b => by rw [hd.z 89 h1, hd.z 90 h2, hd.z 91 h3]; exact k w a b
theorem LK.mod {A : Nat → Int → Int} {x h y : Int} {σ τ : az_S} {S : List Nat} (k : LK A x h y σ) (hd : Mod σ τ S) (h1 : S.contains 89 = false) (h2 : S.contains 90 = false) (h3 : S.contains 91 = false) (h4 : S.contains 92 = false) : LK A x h y τ := ⟨k.1.mod hd h4, k.2.mod hd h1 h2 h3⟩
set_option maxRecDepth 10000 in
set_option maxHeartbeats 2000000 in
theorem m_looks_l157 {d : Nat} {sz : Nat} {A : Nat → Int → Int} {σ : az_S} (hM : MV sz A σ) (hI : MI sz A) {x h y : Int} (hx0 : 0 ≤ x) (hx1 : x ≤ 3599) (hh0 : 0 ≤ h) (hh1 : h ≤ 11) (hy0 : 0 ≤ y) (hy1 : y ≤ 3599) {t : Int} (ht0 : 0 ≤ t) (ht1 : t < A 42 12) (hp : 0 < mH A t x y) (hK : ∀ (τ : az_S) (v : Option Value), MV sz A τ → Mod σ τ [88, 89, 90, 91, 92] → LKa A x y (A 42 12) τ → LKb A x h y (t + 1) τ → aw (d + 3) k_X12_looks none (fun r τ => r = none ∧ MV sz A τ ∧ Mod σ τ [88, 89, 90, 91, 92] ∧ LK A x h y τ) 101 [some (.ref 42), some (.int (iI x)), some (.int (iI h)), some (.int (iI y)), some (.int (iI (t + 1))), v] [] τ) : ∀ (n : Nat) (τ : az_S) (c : Int), (A 42 2 - c).toNat = n → MV sz A τ → Mod σ τ [88, 89, 90, 91, 92] → 0 ≤ c → c ≤ A 42 2 → LKa A x y (A 42 12) τ → (∀ w, 0 ≤ w → w < A 42 2 → zx τ 88 w = bI (mDark A (A 50 t) (A 54 t) (A 55 t) (mH A t x y) x h w) ∧ zx τ 91 w = bI (mOpen A w x y)) → (∀ w, 0 ≤ w → w < c → zx τ 89 w = mSetN A x h y w (t + 1).toNat ∧ zx τ 90 w = mManyN A x h y w (t + 1).toNat) → (∀ w, c ≤ w → w < A 42 2 → zx τ 89 w = mSetN A x h y w t.toNat ∧ zx τ 90 w = mManyN A x h y w t.toNat) → aw (d + 3) k_X12_looks none (fun r τ => r = none ∧ MV sz A τ ∧ Mod σ τ [88, 89, 90, 91, 92] ∧ LK A x h y τ) 157 [some (.ref 42), some (.int (iI x)), some (.int (iI h)), some (.int (iI y)), some (.int (iI t)), some (.int (iI c))] [] τ := by
  intro n
  induction n using Nat.strongRecOn with
  | ind n ih =>
    intro τ c hn hN hD hc0 hc1 hA hX hB hC
    have hce := hI.cells
    have hth := hI.things
    have hp2 := p2_b (t := t) ht0 (by omega)
    have hs := mSM_s (A := A) (x := x) (h := h) (y := y) (c := c) ht0
    have e1 := bI_zero (mDark A (A 50 t) (A 54 t) (A 55 t) (mH A t x y) x h c)
    have e2 := bI_zero (mOpen A c x y)
    have rS := mSetN_r A x h y c t.toNat
    have rM := mManyN_r A x h y c t.toNat
    have dd : c < A 42 2 → (zx τ 88 c = bI (mDark A (A 50 t) (A 54 t) (A 55 t) (mH A t x y) x h c) ∧ zx τ 91 c = bI (mOpen A c x y)) ∧ zx τ 89 c = mSetN A x h y c t.toNat ∧ zx τ 90 c = mManyN A x h y c t.toNat := fun q => ⟨hX c hc0 q, hC c (by omega) q⟩
    refine aw_iload rfl rfl rfl ?_
    refine aw_aload_n rfl rfl rfl ?_
    refine aw_gp (2) hN rfl rfl (hN.f.k 42 rfl) rfl rfl (fun _ _ => ?_)
    refine aw_icmp (p' := 229) rfl ⟨by omega, by omega⟩ ⟨by omega, by omega⟩ rfl rfl (fun c1 => ?_) (fun c1 => ?_)
    · dsimp only [zc] at c1
      refine aw_iinc rfl rfl rfl rfl ?_
      change aw _ _ _ _ 232 [some (.ref 42), some (.int (iI _)), some (.int (iI _)), some (.int (iI _)), some (.int (iI _)), some (.int (iI _))] _ _
      refine aw_goto (p' := 101) rfl rfl ?_
      exact hK _ _ hN (hD.su (T := [88, 89, 90, 91, 92]) rfl) hA (fun w h1 h2 => ⟨(hB w h1 (by omega)).1, (hB w h1 (by omega)).2, (hX w h1 h2).2⟩)
    · dsimp only [zc] at c1
      have dd := dd (by omega)
      refine aw_aload_n rfl rfl rfl ?_
      refine aw_getr (b := 88) rfl rfl (hN.f.k 42 rfl) (hN.f.r 42 71 88 rfl) rfl ?_
      refine aw_iload rfl rfl rfl ?_
      refine aw_bs (N := 192) rfl (hN.f.s 88 rfl) (by decide) (by omega) (by omega) (by omega) rfl (fun _ _ => ?_)
      refine aw_if (p' := 223) rfl ⟨by omega, by omega⟩ rfl rfl (fun c2 => ?_) (fun c2 => ?_)
      · dsimp only [zc] at c2
        refine aw_iinc rfl rfl rfl rfl ?_
        change aw _ _ _ _ 226 [some (.ref 42), some (.int (iI _)), some (.int (iI _)), some (.int (iI _)), some (.int (iI _)), some (.int (iI _))] _ _
        refine aw_goto (p' := 157) rfl rfl ?_
        have hq := hs.2 (by rintro ⟨⟨-, q1, q2⟩, q3⟩; first | exact (e1.mp (by omega)) q1 | exact (e2.mp (by omega)) q2 | omega)
        refine ih _ (by omega) _ _ rfl hN (hD.su (T := [88, 89, 90, 91, 92]) rfl) (by omega) (by omega) hA hX (fun w h1 h2 => ?_) (fun w h1 h2 => hC w (by omega) h2)
        by_cases e : w = c
        · subst e
          exact ⟨by rw [dd.2.1, hq.2], by rw [dd.2.2, hq.1]⟩
        · exact hB w h1 (by omega)
      · dsimp only [zc] at c2
        refine aw_aload_n rfl rfl rfl ?_
        refine aw_getr (b := 91) rfl rfl (hN.f.k 42 rfl) (hN.f.r 42 74 91 rfl) rfl ?_
        refine aw_iload rfl rfl rfl ?_
        refine aw_bs (N := 192) rfl (hN.f.s 91 rfl) (by decide) (by omega) (by omega) (by omega) rfl (fun _ _ => ?_)
        refine aw_if (p' := 223) rfl ⟨by omega, by omega⟩ rfl rfl (fun c3 => ?_) (fun c3 => ?_)
        · dsimp only [zc] at c3
          refine aw_iinc rfl rfl rfl rfl ?_
          change aw _ _ _ _ 226 [some (.ref 42), some (.int (iI _)), some (.int (iI _)), some (.int (iI _)), some (.int (iI _)), some (.int (iI _))] _ _
          refine aw_goto (p' := 157) rfl rfl ?_
          have hq := hs.2 (by rintro ⟨⟨-, q1, q2⟩, q3⟩; first | exact (e1.mp (by omega)) q1 | exact (e2.mp (by omega)) q2 | omega)
          refine ih _ (by omega) _ _ rfl hN (hD.su (T := [88, 89, 90, 91, 92]) rfl) (by omega) (by omega) hA hX (fun w h1 h2 => ?_) (fun w h1 h2 => hC w (by omega) h2)
          by_cases e : w = c
          · subst e
            exact ⟨by rw [dd.2.1, hq.2], by rw [dd.2.2, hq.1]⟩
          · exact hB w h1 (by omega)
        · dsimp only [zc] at c3
          refine aw_aload_n rfl rfl rfl ?_
          refine aw_getr (b := 90) rfl rfl (hN.f.k 42 rfl) (hN.f.r 42 73 90 rfl) rfl ?_
          refine aw_iload rfl rfl rfl ?_
          refine aw_as (N := 192) rfl (hN.f.s 90 rfl) (by omega) (by omega) (by omega) rfl (fun _ _ => ?_)
          refine aw_bipush rfl rfl rfl ?_
          refine aw_icmp (p' := 223) rfl ⟨by omega, by omega⟩ ⟨by omega, by omega⟩ rfl rfl (fun c4 => ?_) (fun c4 => ?_)
          · dsimp only [zc] at c4
            refine aw_iinc rfl rfl rfl rfl ?_
            change aw _ _ _ _ 226 [some (.ref 42), some (.int (iI _)), some (.int (iI _)), some (.int (iI _)), some (.int (iI _)), some (.int (iI _))] _ _
            refine aw_goto (p' := 157) rfl rfl ?_
            have hq := hs.2 (by rintro ⟨⟨-, q1, q2⟩, q3⟩; first | exact (e1.mp (by omega)) q1 | exact (e2.mp (by omega)) q2 | omega)
            refine ih _ (by omega) _ _ rfl hN (hD.su (T := [88, 89, 90, 91, 92]) rfl) (by omega) (by omega) hA hX (fun w h1 h2 => ?_) (fun w h1 h2 => hC w (by omega) h2)
            by_cases e : w = c
            · subst e
              exact ⟨by rw [dd.2.1, hq.2], by rw [dd.2.2, hq.1]⟩
            · exact hB w h1 (by omega)
          · dsimp only [zc] at c4
            refine aw_aload_n rfl rfl rfl ?_
            refine aw_getr (b := 89) rfl rfl (hN.f.k 42 rfl) (hN.f.r 42 72 89 rfl) rfl ?_
            refine aw_iload rfl rfl rfl ?_
            refine aw_dup2 rfl rfl rfl rfl ?_
            refine aw_as (N := 192) rfl (hN.f.s 89 rfl) (by omega) (by omega) (by omega) rfl (fun _ _ => ?_)
            refine aw_iconst rfl rfl ?_
            refine aw_iload rfl rfl rfl ?_
            refine aw_ishl1 rfl (by omega) (by omega) rfl ?_
            refine aw_iorp rfl (by omega) (by omega) rfl ?_
            refine aw_ss (N := 192) hN rfl (hN.f.s 89 rfl) (by omega) rfl (by omega) (by omega) ⟨by omega, by omega⟩ rfl (fun τ5 hM5 hD5 hU5 => ?_)
            refine aw_aload_n rfl rfl rfl ?_
            refine aw_getr (b := 90) rfl rfl (hM5.f.k 42 rfl) (hM5.f.r 42 73 90 rfl) rfl ?_
            refine aw_iload rfl rfl rfl ?_
            refine aw_dup2 rfl rfl rfl rfl ?_
            refine aw_as (N := 192) rfl (hM5.f.s 90 rfl) (by omega) (by omega) (by omega) rfl (fun _ _ => ?_)
            rw [hD5.z 90 rfl]
            refine aw_iconst rfl rfl ?_
            refine aw_iadd rfl rfl ?_
            refine aw_ss (N := 192) hM5 rfl (hM5.f.s 90 rfl) (by omega) rfl (by omega) (by omega) ⟨by omega, by omega⟩ rfl (fun τ6 hM6 hD6 hU6 => ?_)
            refine aw_iinc rfl rfl rfl rfl ?_
            change aw _ _ _ _ 226 [some (.ref 42), some (.int (iI _)), some (.int (iI _)), some (.int (iI _)), some (.int (iI _)), some (.int (iI _))] _ _
            refine aw_goto (p' := 157) rfl rfl ?_
            have q1 : mDark A (A 50 t) (A 54 t) (A 55 t) (mH A t x y) x h c := Classical.byContradiction (fun q => by have := e1.mpr q; omega)
            have q2 : mOpen A c x y := Classical.byContradiction (fun q => by have := e2.mpr q; omega)
            have hq := hs.1 ⟨⟨hp, q1, q2⟩, by omega⟩
            refine ih _ (by omega) _ _ rfl hM6 (((hD.su (T := [88, 89, 90, 91, 92]) rfl).tr (hD5.su (T := [88, 89, 90, 91, 92]) rfl)).tr (hD6.su (T := [88, 89, 90, 91, 92]) rfl)) (by omega) (by omega) ((hA.mod hD5 rfl).mod hD6 rfl) (fun w h1 h2 => ⟨by rw [hD6.z 88 rfl, hD5.z 88 rfl, (hX w h1 h2).1], by rw [hD6.z 91 rfl, hD5.z 91 rfl, (hX w h1 h2).2]⟩) (fun w h1 h2 => ?_) (fun w h1 h2 => ?_)
            · by_cases e : w = c
              · subst e
                exact ⟨by rw [hD6.z 89 rfl, hU5, if_pos rfl, dd.2.1, hq.2], by rw [hU6, if_pos rfl, dd.2.2, hq.1]⟩
              · exact ⟨by rw [hD6.z 89 rfl, hU5, if_neg e, (hB w h1 (by omega)).1], by rw [hU6, if_neg e, hD5.z 90 rfl, (hB w h1 (by omega)).2]⟩
            · have e : w ≠ c := by omega
              exact ⟨by rw [hD6.z 89 rfl, hU5, if_neg e, (hC w (by omega) h2).1], by rw [hU6, if_neg e, hD5.z 90 rfl, (hC w (by omega) h2).2]⟩
set_option maxRecDepth 10000 in
set_option maxHeartbeats 2000000 in
theorem m_looks_l101 {d : Nat} {sz : Nat} {A : Nat → Int → Int} {σ : az_S} (hM : MV sz A σ) (hI : MI sz A) {x h y : Int} (hx0 : 0 ≤ x) (hx1 : x ≤ 3599) (hh0 : 0 ≤ h) (hh1 : h ≤ 11) (hy0 : 0 ≤ y) (hy1 : y ≤ 3599) : ∀ (n : Nat) (τ : az_S) (t : Int) (v : Option Value), (A 42 12 - t).toNat = n → MV sz A τ → Mod σ τ [88, 89, 90, 91, 92] → 0 ≤ t → t ≤ A 42 12 → LKa A x y (A 42 12) τ → LKb A x h y t τ → aw (d + 3) k_X12_looks none (fun r τ => r = none ∧ MV sz A τ ∧ Mod σ τ [88, 89, 90, 91, 92] ∧ LK A x h y τ) 101 [some (.ref 42), some (.int (iI x)), some (.int (iI h)), some (.int (iI y)), some (.int (iI t)), v] [] τ := by
  intro n
  induction n using Nat.strongRecOn with
  | ind n ih =>
    intro τ t v hn hN hD ht0 ht1 hA hB
    have hce := hI.cells
    have hth := hI.things
    have hT := fun q => hI.thing t ht0 q
    have hr := fun q => mH_range (hT q) x y
    refine aw_iload rfl rfl rfl ?_
    refine aw_aload_n rfl rfl rfl ?_
    refine aw_gp (12) hN rfl rfl (hN.f.k 42 rfl) rfl rfl (fun _ _ => ?_)
    refine aw_icmp (p' := 235) rfl ⟨by omega, by omega⟩ ⟨by omega, by omega⟩ rfl rfl (fun c7 => ?_) (fun c7 => ?_)
    · dsimp only [zc] at c7
      refine aw_retv rfl ?_
      refine ⟨rfl, hN, (hD.su (T := [88, 89, 90, 91, 92]) rfl), hA, ?_⟩
      rw [show t = A 42 12 by omega] at hB
      exact hB
    · dsimp only [zc] at c7
      refine aw_aload_n rfl rfl rfl ?_
      refine aw_getr (b := 92) rfl rfl (hN.f.k 42 rfl) (hN.f.r 42 75 92 rfl) rfl ?_
      refine aw_iload rfl rfl rfl ?_
      refine aw_as (N := 24) rfl (hN.f.s 92 rfl) (by omega) (by omega) (by omega) rfl (fun _ _ => ?_)
      rw [hA t ht0 (by omega)]
      have hr := hr (by omega)
      have hT := hT (by omega)
      obtain ⟨-, -, -, -, hce2, -, -, hll, -⟩ := hT
      refine aw_if (p' := 229) rfl ⟨by omega, by omega⟩ rfl rfl (fun c8 => ?_) (fun c8 => ?_)
      · dsimp only [zc] at c8
        refine aw_iinc rfl rfl rfl rfl ?_
        change aw _ _ _ _ 232 [some (.ref 42), some (.int (iI _)), some (.int (iI _)), some (.int (iI _)), some (.int (iI _)), _] _ _
        refine aw_goto (p' := 101) rfl rfl ?_
        refine ih _ (by omega) _ _ _ rfl hN (hD.su (T := [88, 89, 90, 91, 92]) rfl) (by omega) (by omega) hA (fun w h1 h2 => ?_)
        obtain ⟨a1, a2, a3⟩ := hB w h1 h2
        have hq := (mSM_s (A := A) (x := x) (h := h) (y := y) (c := w) ht0).2 (by rintro ⟨⟨q, -⟩, -⟩; omega)
        exact ⟨by rw [a1, hq.2], by rw [a2, hq.1], a3⟩
      · dsimp only [zc] at c8
        refine aw_aload_n rfl rfl rfl ?_
        refine aw_aload_n rfl rfl rfl ?_
        refine aw_getr (b := 50) rfl rfl (hN.f.k 42 rfl) (hN.f.r 42 14 50 rfl) rfl ?_
        refine aw_iload rfl rfl rfl ?_
        refine aw_ap (N := 24) hN rfl (hN.f.s 50 rfl) (by omega) rfl (by omega) (by omega) rfl (fun _ _ => ?_)
        refine aw_aload_n rfl rfl rfl ?_
        refine aw_getr (b := 54) rfl rfl (hN.f.k 42 rfl) (hN.f.r 42 18 54 rfl) rfl ?_
        refine aw_iload rfl rfl rfl ?_
        refine aw_ap (N := 24) hN rfl (hN.f.s 54 rfl) (by omega) rfl (by omega) (by omega) rfl (fun _ _ => ?_)
        refine aw_aload_n rfl rfl rfl ?_
        refine aw_getr (b := 55) rfl rfl (hN.f.k 42 rfl) (hN.f.r 42 19 55 rfl) rfl ?_
        refine aw_iload rfl rfl rfl ?_
        refine aw_ap (N := 24) hN rfl (hN.f.s 55 rfl) (by omega) rfl (by omega) (by omega) rfl (fun _ _ => ?_)
        refine aw_aload_n rfl rfl rfl ?_
        refine aw_getr (b := 92) rfl rfl (hN.f.k 42 rfl) (hN.f.r 42 75 92 rfl) rfl ?_
        refine aw_iload rfl rfl rfl ?_
        refine aw_as (N := 24) rfl (hN.f.s 92 rfl) (by omega) (by omega) (by omega) rfl (fun _ _ => ?_)
        rw [hA t ht0 (by omega)]
        refine aw_iload_n rfl rfl rfl ?_
        refine aw_iload_n rfl rfl rfl ?_
        refine aw_calc (m_shades hN hI (by omega) (by omega) (by omega) (by omega) (by omega) (by omega) (by omega) (by omega) (by omega) (by omega) (by omega) (by omega)) rfl rfl rfl (Nat.le_of_ble_eq_true rfl) (Or.inr ⟨_, rfl, (hN.f.k 42 rfl)⟩) rfl ?_
        rintro _ τ9 ⟨rfl, hM9, hD9, hU9⟩
        change aw _ _ _ _ 154 [some (.ref 42), some (.int (iI _)), some (.int (iI _)), some (.int (iI _)), some (.int (iI _)), _] [] _
        refine aw_iconst rfl rfl ?_
        refine aw_istore rfl (Nat.le_of_ble_eq_true rfl) rfl rfl ?_
        change aw _ _ _ _ 157 [some (.ref 42), some (.int (iI _)), some (.int (iI _)), some (.int (iI _)), some (.int (iI _)), some (.int (iI _))] _ _
        exact m_looks_l157 hM hI hx0 hx1 hh0 hh1 hy0 hy1 ht0 (by omega) (by omega) (fun τ v k1 k2 k3 k4 => ih _ (by omega) _ _ _ rfl k1 k2 (by omega) (by omega) k3 k4) _ _ 0 rfl hM9 ((hD.su (T := [88, 89, 90, 91, 92]) rfl).tr (hD9.su (T := [88, 89, 90, 91, 92]) rfl)) (by omega) (by omega) (hA.mod hD9 rfl) (fun w h1 h2 => ⟨hU9 w h1 h2, by rw [hD9.z 91 rfl, (hB w h1 h2).2.2]⟩) (fun w _ _ => by omega) (fun w h1 h2 => ⟨by rw [hD9.z 89 rfl, (hB w h1 h2).1], by rw [hD9.z 90 rfl, (hB w h1 h2).2.1]⟩)
set_option maxRecDepth 10000 in
set_option maxHeartbeats 2000000 in
theorem m_looks_l45 {d : Nat} {sz : Nat} {A : Nat → Int → Int} {σ : az_S} (hM : MV sz A σ) (hI : MI sz A) {x h y : Int} (hx0 : 0 ≤ x) (hx1 : x ≤ 3599) (hh0 : 0 ≤ h) (hh1 : h ≤ 11) (hy0 : 0 ≤ y) (hy1 : y ≤ 3599) : ∀ (n : Nat) (τ : az_S) (t : Int), (A 42 12 - t).toNat = n → MV sz A τ → Mod σ τ [88, 89, 90, 91, 92] → 0 ≤ t → t ≤ A 42 12 → LKa A x y t τ → (∀ w, 0 ≤ w → w < A 42 2 → zx τ 89 w = 0 ∧ zx τ 90 w = 0 ∧ zx τ 91 w = bI (mOpenTo A w x y t)) → aw (d + 3) k_X12_looks none (fun r τ => r = none ∧ MV sz A τ ∧ Mod σ τ [88, 89, 90, 91, 92] ∧ LK A x h y τ) 45 [some (.ref 42), some (.int (iI x)), some (.int (iI h)), some (.int (iI y)), some (.int (iI t)), none] [] τ := by
  intro n
  induction n using Nat.strongRecOn with
  | ind n ih =>
    intro τ t hn hN hD ht0 ht1 hA hB
    have hce := hI.cells
    have hth := hI.things
    have hT := fun q => hI.thing t ht0 q
    have hr := fun q => mH_range (hT q) x y
    refine aw_iload rfl rfl rfl ?_
    refine aw_aload_n rfl rfl rfl ?_
    refine aw_gp (12) hN rfl rfl (hN.f.k 42 rfl) rfl rfl (fun _ _ => ?_)
    refine aw_icmp (p' := 98) rfl ⟨by omega, by omega⟩ ⟨by omega, by omega⟩ rfl rfl (fun c10 => ?_) (fun c10 => ?_)
    · dsimp only [zc] at c10
      refine aw_iconst rfl rfl ?_
      refine aw_istore rfl (Nat.le_of_ble_eq_true rfl) rfl rfl ?_
      change aw _ _ _ _ 101 [some (.ref 42), some (.int (iI _)), some (.int (iI _)), some (.int (iI _)), some (.int (iI _)), none] _ _
      exact m_looks_l101 hM hI hx0 hx1 hh0 hh1 hy0 hy1 _ _ 0 _ rfl hN (hD.su (T := [88, 89, 90, 91, 92]) rfl) (by omega) (by omega) (fun u h1 h2 => hA u h1 (by omega)) (fun w h1 h2 => ⟨(hB w h1 h2).1, (hB w h1 h2).2.1, by rw [(hB w h1 h2).2.2, show t = A 42 12 by omega]⟩)
    · dsimp only [zc] at c10
      refine aw_aload_n rfl rfl rfl ?_
      refine aw_getr (b := 92) rfl rfl (hN.f.k 42 rfl) (hN.f.r 42 75 92 rfl) rfl ?_
      refine aw_iload rfl rfl rfl ?_
      refine aw_aload_n rfl rfl rfl ?_
      refine aw_iload rfl rfl rfl ?_
      refine aw_iload_n rfl rfl rfl ?_
      refine aw_iload_n rfl rfl rfl ?_
      refine aw_fnc (m_heightOf hN hI (by omega) (by omega) (by omega) (by omega) (by omega) (by omega)) rfl rfl rfl (Nat.le_of_ble_eq_true rfl) (Or.inr ⟨_, rfl, (hN.f.k 42 rfl)⟩) rfl ?_
      have hr0 := hr (by omega)
      refine aw_ss (N := 24) hN rfl (hN.f.s 92 rfl) (by omega) rfl (by omega) (by omega) ⟨by omega, by omega⟩ rfl (fun τ11 hM11 hD11 hU11 => ?_)
      refine aw_aload_n rfl rfl rfl ?_
      refine aw_getr (b := 92) rfl rfl (hM11.f.k 42 rfl) (hM11.f.r 42 75 92 rfl) rfl ?_
      refine aw_iload rfl rfl rfl ?_
      refine aw_as (N := 24) rfl (hM11.f.s 92 rfl) (by omega) (by omega) (by omega) rfl (fun _ _ => ?_)
      rw [hU11, if_pos rfl]
      have hr := hr (by omega)
      have hT := hT (by omega)
      obtain ⟨-, -, -, -, hce2, -⟩ := hT
      refine aw_if (p' := 92) rfl ⟨by omega, by omega⟩ rfl rfl (fun c12 => ?_) (fun c12 => ?_)
      · dsimp only [zc] at c12
        refine aw_iinc rfl rfl rfl rfl ?_
        change aw _ _ _ _ 95 [some (.ref 42), some (.int (iI _)), some (.int (iI _)), some (.int (iI _)), some (.int (iI _)), none] _ _
        refine aw_goto (p' := 45) rfl rfl ?_
        refine ih _ (by omega) _ _ rfl hM11 ((hD.su (T := [88, 89, 90, 91, 92]) rfl).tr (hD11.su (T := [88, 89, 90, 91, 92]) rfl)) (by omega) (by omega) (fun u h1 h2 => ?_) (fun w h1 h2 => ?_)
        · rw [hU11 u]
          split
          · rename_i e; rw [e]
          · exact hA u h1 (by omega)
        · obtain ⟨a1, a2, a3⟩ := hB w h1 h2
          have hs := mOpenTo_s (A := A) (c := w) (d := x) (k := y) ht0
          refine ⟨by rw [hD11.z 89 rfl, a1], by rw [hD11.z 90 rfl, a2], ?_⟩
          rw [hD11.z 91 rfl, a3]
          exact bI_congr (by rw [hs]; exact ⟨fun q => ⟨q, Or.inr (by omega)⟩, fun q => q.1⟩)
      · dsimp only [zc] at c12
        refine aw_aload_n rfl rfl rfl ?_
        refine aw_getr (b := 91) rfl rfl (hM11.f.k 42 rfl) (hM11.f.r 42 74 91 rfl) rfl ?_
        refine aw_aload_n rfl rfl rfl ?_
        refine aw_getr (b := 50) rfl rfl (hM11.f.k 42 rfl) (hM11.f.r 42 14 50 rfl) rfl ?_
        refine aw_iload rfl rfl rfl ?_
        refine aw_ap (N := 24) hM11 rfl (hM11.f.s 50 rfl) (by omega) rfl (by omega) (by omega) rfl (fun _ _ => ?_)
        refine aw_iconst rfl rfl ?_
        refine aw_sb (N := 192) hM11 rfl (hM11.f.s 91 rfl) (by omega) rfl (by omega) (by omega) (by first | omega | exact bI_01 _) rfl (fun τ13 hM13 hD13 hU13 => ?_)
        refine aw_iinc rfl rfl rfl rfl ?_
        change aw _ _ _ _ 95 [some (.ref 42), some (.int (iI _)), some (.int (iI _)), some (.int (iI _)), some (.int (iI _)), none] _ _
        refine aw_goto (p' := 45) rfl rfl ?_
        refine ih _ (by omega) _ _ rfl hM13 (((hD.su (T := [88, 89, 90, 91, 92]) rfl).tr (hD11.su (T := [88, 89, 90, 91, 92]) rfl)).tr (hD13.su (T := [88, 89, 90, 91, 92]) rfl)) (by omega) (by omega) (fun u h1 h2 => ?_) (fun w h1 h2 => ?_)
        · rw [hD13.z 92 rfl, hU11 u]
          split
          · rename_i e; rw [e]
          · exact hA u h1 (by omega)
        · obtain ⟨a1, a2, a3⟩ := hB w h1 h2
          have hs := mOpenTo_s (A := A) (c := w) (d := x) (k := y) ht0
          refine ⟨by rw [hD13.z 89 rfl, hD11.z 89 rfl, a1], by rw [hD13.z 90 rfl, hD11.z 90 rfl, a2], ?_⟩
          rw [hU13 w, hD11.z 91 rfl]
          split
          · rw [bI_zero', hs]; rintro ⟨-, q⟩; omega
          · rw [a3]; exact bI_congr (by rw [hs]; exact ⟨fun q => ⟨q, Or.inl (by omega)⟩, fun q => q.1⟩)
set_option maxRecDepth 10000 in
set_option maxHeartbeats 2000000 in
theorem m_looks_l3 {d : Nat} {sz : Nat} {A : Nat → Int → Int} {σ : az_S} (hM : MV sz A σ) (hI : MI sz A) {x h y : Int} (hx0 : 0 ≤ x) (hx1 : x ≤ 3599) (hh0 : 0 ≤ h) (hh1 : h ≤ 11) (hy0 : 0 ≤ y) (hy1 : y ≤ 3599) : ∀ (n : Nat) (τ : az_S) (j : Int), (A 42 2 - j).toNat = n → MV sz A τ → Mod σ τ [88, 89, 90, 91, 92] → 0 ≤ j → j ≤ A 42 2 → (∀ w, 0 ≤ w → w < j → zx τ 89 w = 0 ∧ zx τ 90 w = 0 ∧ zx τ 91 w = 1) → aw (d + 3) k_X12_looks none (fun r τ => r = none ∧ MV sz A τ ∧ Mod σ τ [88, 89, 90, 91, 92] ∧ LK A x h y τ) 3 [some (.ref 42), some (.int (iI x)), some (.int (iI h)), some (.int (iI y)), some (.int (iI j)), none] [] τ := by
  intro n
  induction n using Nat.strongRecOn with
  | ind n ih =>
    intro τ j hn hN hD hj0 hj1 hU
    have hce := hI.cells
    have hth := hI.things
    refine aw_iload rfl rfl rfl ?_
    refine aw_aload_n rfl rfl rfl ?_
    refine aw_gp (2) hN rfl rfl (hN.f.k 42 rfl) rfl rfl (fun _ _ => ?_)
    refine aw_icmp (p' := 42) rfl ⟨by omega, by omega⟩ ⟨by omega, by omega⟩ rfl rfl (fun c14 => ?_) (fun c14 => ?_)
    · dsimp only [zc] at c14
      refine aw_iconst rfl rfl ?_
      refine aw_istore rfl (Nat.le_of_ble_eq_true rfl) rfl rfl ?_
      change aw _ _ _ _ 45 [some (.ref 42), some (.int (iI _)), some (.int (iI _)), some (.int (iI _)), some (.int (iI _)), none] _ _
      exact m_looks_l45 hM hI hx0 hx1 hh0 hh1 hy0 hy1 _ _ 0 rfl hN (hD.su (T := [88, 89, 90, 91, 92]) rfl) (by omega) (by omega) (fun u _ _ => by omega) (fun w h1 h2 => ⟨(hU w h1 (by omega)).1, (hU w h1 (by omega)).2.1, by rw [(hU w h1 (by omega)).2.2, bI_one']; intro t q1 q2; omega⟩)
    · dsimp only [zc] at c14
      refine aw_aload_n rfl rfl rfl ?_
      refine aw_getr (b := 89) rfl rfl (hN.f.k 42 rfl) (hN.f.r 42 72 89 rfl) rfl ?_
      refine aw_iload rfl rfl rfl ?_
      refine aw_iconst rfl rfl ?_
      refine aw_ss (N := 192) hN rfl (hN.f.s 89 rfl) (by omega) rfl (by omega) (by omega) ⟨by omega, by omega⟩ rfl (fun τ15 hM15 hD15 hU15 => ?_)
      refine aw_aload_n rfl rfl rfl ?_
      refine aw_getr (b := 90) rfl rfl (hM15.f.k 42 rfl) (hM15.f.r 42 73 90 rfl) rfl ?_
      refine aw_iload rfl rfl rfl ?_
      refine aw_iconst rfl rfl ?_
      refine aw_ss (N := 192) hM15 rfl (hM15.f.s 90 rfl) (by omega) rfl (by omega) (by omega) ⟨by omega, by omega⟩ rfl (fun τ16 hM16 hD16 hU16 => ?_)
      refine aw_aload_n rfl rfl rfl ?_
      refine aw_getr (b := 91) rfl rfl (hM16.f.k 42 rfl) (hM16.f.r 42 74 91 rfl) rfl ?_
      refine aw_iload rfl rfl rfl ?_
      refine aw_iconst rfl rfl ?_
      refine aw_sb (N := 192) hM16 rfl (hM16.f.s 91 rfl) (by omega) rfl (by omega) (by omega) (by first | omega | exact bI_01 _) rfl (fun τ17 hM17 hD17 hU17 => ?_)
      refine aw_iinc rfl rfl rfl rfl ?_
      change aw _ _ _ _ 39 [some (.ref 42), some (.int (iI _)), some (.int (iI _)), some (.int (iI _)), some (.int (iI _)), none] _ _
      refine aw_goto (p' := 3) rfl rfl ?_
      refine ih _ (by omega) _ _ rfl hM17 ((((hD.su (T := [88, 89, 90, 91, 92]) rfl).tr (hD15.su (T := [88, 89, 90, 91, 92]) rfl)).tr (hD16.su (T := [88, 89, 90, 91, 92]) rfl)).tr (hD17.su (T := [88, 89, 90, 91, 92]) rfl)) (by omega) (by omega) (fun w h1 h2 => ?_)
      by_cases e : w = j
      · subst e
        exact ⟨by rw [hD17.z 89 rfl, hD16.z 89 rfl, hU15, if_pos rfl], by rw [hD17.z 90 rfl, hU16, if_pos rfl], by rw [hU17, if_pos rfl]⟩
      · obtain ⟨a1, a2, a3⟩ := hU w h1 (by omega)
        exact ⟨by rw [hD17.z 89 rfl, hD16.z 89 rfl, hU15, if_neg e, a1], by rw [hD17.z 90 rfl, hU16, if_neg e, hD15.z 90 rfl, a2], by rw [hU17, if_neg e, hD16.z 91 rfl, hD15.z 91 rfl, a3]⟩
set_option maxRecDepth 10000 in
set_option maxHeartbeats 2000000 in
theorem m_looks {d : Nat} {sz : Nat} {A : Nat → Int → Int} {σ : az_S} (hM : MV sz A σ) (hI : MI sz A) {x h y : Int} (hx0 : 0 ≤ x) (hx1 : x ≤ 3599) (hh0 : 0 ≤ h) (hh1 : h ≤ 11) (hy0 : 0 ≤ y) (hy1 : y ≤ 3599) : cal (d + 4) 187 [.ref 42, .int (iI x), .int (iI h), .int (iI y)] σ (fun r τ => r = none ∧ MV sz A τ ∧ Mod σ τ [88, 89, 90, 91, 92] ∧ LK A x h y τ) := by
  have hce := hI.cells
  have hth := hI.things
  refine cal_of (M := (yX12_looks, cX12_looks, 6, none)) (cd := k_X12_looks) (L := [some (.ref 42), some (.int (iI x)), some (.int (iI h)), some (.int (iI y)), none, none]) rfl (Nat.le_of_ble_eq_true rfl) rfl rfl ?_
  refine aw_iconst rfl rfl ?_
  refine aw_istore rfl (Nat.le_of_ble_eq_true rfl) rfl rfl ?_
  change aw _ _ _ _ 3 [some (.ref 42), some (.int (iI _)), some (.int (iI _)), some (.int (iI _)), some (.int (iI _)), none] _ _
  exact m_looks_l3 hM hI hx0 hx1 hh0 hh1 hy0 hy1 _ _ 0 rfl hM Mod.rf (by omega) (by omega) (fun w _ _ => by omega)
end
