section
-- ===== PART A: goes FIRST, ahead of the names: the tables' words, and 'selects' of the private methods out of them =====
/-- a private method of a class that the tables say can be made, by its rows of tables_1 -/
def lw_okq (q : MethodName × Nat) : Prop := (q.1.cls ≠ "java/lang/invoke/MethodHandle" ∧ q.1.cls ≠ "java/lang/invoke/VarHandle") ∧ Cond.instantiable q.1.cls q.2 ∈ tables_1 ∧ Cond.privateMethod q.1 ∈ tables_1 ∧ Cond.instanceMethod q.1 ∈ tables_1
theorem lw_p0 : lw_okq (⟨"java/util/ArrayList", "add", "(Ljava/lang/Object;[Ljava/lang/Object;I)V"⟩, 3) := ⟨⟨by decide +kernel, by decide +kernel⟩, List.mem_of_getElem? (i := 60) (by decide +kernel), List.mem_of_getElem? (i := 379) (by decide +kernel), List.mem_of_getElem? (i := 380) (by decide +kernel)⟩
theorem lw_p1 : lw_okq (⟨"java/util/ArrayList", "grow", "()[Ljava/lang/Object;"⟩, 3) := ⟨⟨by decide +kernel, by decide +kernel⟩, List.mem_of_getElem? (i := 60) (by decide +kernel), List.mem_of_getElem? (i := 383) (by decide +kernel), List.mem_of_getElem? (i := 384) (by decide +kernel)⟩
theorem lw_p2 : lw_okq (⟨"java/util/ArrayList", "grow", "(I)[Ljava/lang/Object;"⟩, 3) := ⟨⟨by decide +kernel, by decide +kernel⟩, List.mem_of_getElem? (i := 60) (by decide +kernel), List.mem_of_getElem? (i := 387) (by decide +kernel), List.mem_of_getElem? (i := 388) (by decide +kernel)⟩
theorem lw_p3 : lw_okq (⟨"ShadeRegister", "isPerson", "(I)Z"⟩, 18) := ⟨⟨by decide +kernel, by decide +kernel⟩, List.mem_of_getElem? (i := 28) (by decide +kernel), List.mem_of_getElem? (i := 436) (by decide +kernel), List.mem_of_getElem? (i := 437) (by decide +kernel)⟩
theorem lw_p4 : lw_okq (⟨"ShadeRegister", "mayStand", "(III)Z"⟩, 18) := ⟨⟨by decide +kernel, by decide +kernel⟩, List.mem_of_getElem? (i := 28) (by decide +kernel), List.mem_of_getElem? (i := 458) (by decide +kernel), List.mem_of_getElem? (i := 459) (by decide +kernel)⟩
theorem lw_p5 : lw_okq (⟨"ShadeRegister", "isBuiltOn", "(I)Z"⟩, 18) := ⟨⟨by decide +kernel, by decide +kernel⟩, List.mem_of_getElem? (i := 28) (by decide +kernel), List.mem_of_getElem? (i := 474) (by decide +kernel), List.mem_of_getElem? (i := 475) (by decide +kernel)⟩
theorem lw_p6 : lw_okq (⟨"ShadeRegister", "addThing", "(LShadeRegister$Thing;I)I"⟩, 18) := ⟨⟨by decide +kernel, by decide +kernel⟩, List.mem_of_getElem? (i := 28) (by decide +kernel), List.mem_of_getElem? (i := 543) (by decide +kernel), List.mem_of_getElem? (i := 544) (by decide +kernel)⟩
theorem lw_p7 : lw_okq (⟨"ShadeRegister", "isThing", "(I)Z"⟩, 18) := ⟨⟨by decide +kernel, by decide +kernel⟩, List.mem_of_getElem? (i := 28) (by decide +kernel), List.mem_of_getElem? (i := 563) (by decide +kernel), List.mem_of_getElem? (i := 564) (by decide +kernel)⟩
theorem lw_p8 : lw_okq (⟨"ShadeRegister$Thing", "entryFor", "(II)I"⟩, 14) := ⟨⟨by decide +kernel, by decide +kernel⟩, List.mem_of_getElem? (i := 482) (by decide +kernel), List.mem_of_getElem? (i := 580) (by decide +kernel), List.mem_of_getElem? (i := 581) (by decide +kernel)⟩
theorem lw_p9 : lw_okq (⟨"ShadeRegister$Thing", "grownBetween", "(II)I"⟩, 14) := ⟨⟨by decide +kernel, by decide +kernel⟩, List.mem_of_getElem? (i := 482) (by decide +kernel), List.mem_of_getElem? (i := 584) (by decide +kernel), List.mem_of_getElem? (i := 585) (by decide +kernel)⟩
theorem lw_p10 : lw_okq (⟨"ShadeRegister", "nearestHeight", "(LShadeRegister$Thing;III)I"⟩, 18) := ⟨⟨by decide +kernel, by decide +kernel⟩, List.mem_of_getElem? (i := 28) (by decide +kernel), List.mem_of_getElem? (i := 593) (by decide +kernel), List.mem_of_getElem? (i := 594) (by decide +kernel)⟩
theorem lw_p11 : lw_okq (⟨"ShadeRegister", "findHolders", "(III)V"⟩, 18) := ⟨⟨by decide +kernel, by decide +kernel⟩, List.mem_of_getElem? (i := 28) (by decide +kernel), List.mem_of_getElem? (i := 706) (by decide +kernel), List.mem_of_getElem? (i := 707) (by decide +kernel)⟩
theorem lw_p12 : lw_okq (⟨"ShadeRegister$Scene", "castShadow", "(IIII)V"⟩, 7) := ⟨⟨by decide +kernel, by decide +kernel⟩, List.mem_of_getElem? (i := 172) (by decide +kernel), List.mem_of_getElem? (i := 745) (by decide +kernel), List.mem_of_getElem? (i := 746) (by decide +kernel)⟩
theorem lw_p13 : lw_okq (⟨"ShadeRegister", "heldBy", "(IIII)I"⟩, 18) := ⟨⟨by decide +kernel, by decide +kernel⟩, List.mem_of_getElem? (i := 28) (by decide +kernel), List.mem_of_getElem? (i := 763) (by decide +kernel), List.mem_of_getElem? (i := 764) (by decide +kernel)⟩
theorem lw_p14 : lw_okq (⟨"ShadeRegister", "partsOnDay", "(III)J"⟩, 18) := ⟨⟨by decide +kernel, by decide +kernel⟩, List.mem_of_getElem? (i := 28) (by decide +kernel), List.mem_of_getElem? (i := 791) (by decide +kernel), List.mem_of_getElem? (i := 792) (by decide +kernel)⟩
theorem lw_p15 : lw_okq (⟨"ShadeRegister", "partsOverYear", "(II)J"⟩, 18) := ⟨⟨by decide +kernel, by decide +kernel⟩, List.mem_of_getElem? (i := 28) (by decide +kernel), List.mem_of_getElem? (i := 804) (by decide +kernel), List.mem_of_getElem? (i := 805) (by decide +kernel)⟩
def lw_privs_1 : List (MethodName × Nat) := [(⟨"java/util/ArrayList", "add", "(Ljava/lang/Object;[Ljava/lang/Object;I)V"⟩, 3), (⟨"java/util/ArrayList", "grow", "()[Ljava/lang/Object;"⟩, 3), (⟨"java/util/ArrayList", "grow", "(I)[Ljava/lang/Object;"⟩, 3), (⟨"ShadeRegister", "isPerson", "(I)Z"⟩, 18), (⟨"ShadeRegister", "mayStand", "(III)Z"⟩, 18), (⟨"ShadeRegister", "isBuiltOn", "(I)Z"⟩, 18), (⟨"ShadeRegister", "addThing", "(LShadeRegister$Thing;I)I"⟩, 18), (⟨"ShadeRegister", "isThing", "(I)Z"⟩, 18), (⟨"ShadeRegister$Thing", "entryFor", "(II)I"⟩, 14), (⟨"ShadeRegister$Thing", "grownBetween", "(II)I"⟩, 14), (⟨"ShadeRegister", "nearestHeight", "(LShadeRegister$Thing;III)I"⟩, 18), (⟨"ShadeRegister", "findHolders", "(III)V"⟩, 18), (⟨"ShadeRegister$Scene", "castShadow", "(IIII)V"⟩, 7), (⟨"ShadeRegister", "heldBy", "(IIII)I"⟩, 18), (⟨"ShadeRegister", "partsOnDay", "(III)J"⟩, 18), (⟨"ShadeRegister", "partsOverYear", "(II)J"⟩, 18)]
theorem lw_r1 : ∀ q ∈ lw_privs_1, lw_okq q := List.forall_mem_cons.mpr ⟨lw_p0, List.forall_mem_cons.mpr ⟨lw_p1, List.forall_mem_cons.mpr ⟨lw_p2, List.forall_mem_cons.mpr ⟨lw_p3, List.forall_mem_cons.mpr ⟨lw_p4, List.forall_mem_cons.mpr ⟨lw_p5, List.forall_mem_cons.mpr ⟨lw_p6, List.forall_mem_cons.mpr ⟨lw_p7, List.forall_mem_cons.mpr ⟨lw_p8, List.forall_mem_cons.mpr ⟨lw_p9, List.forall_mem_cons.mpr ⟨lw_p10, List.forall_mem_cons.mpr ⟨lw_p11, List.forall_mem_cons.mpr ⟨lw_p12, List.forall_mem_cons.mpr ⟨lw_p13, List.forall_mem_cons.mpr ⟨lw_p14, List.forall_mem_cons.mpr ⟨lw_p15, fun _ h => absurd h List.not_mem_nil⟩⟩⟩⟩⟩⟩⟩⟩⟩⟩⟩⟩⟩⟩⟩⟩
theorem lw_p16 : lw_okq (⟨"ShadeRegister$Tape", "byteAt", "(I)I"⟩, 6) := ⟨⟨by decide +kernel, by decide +kernel⟩, List.mem_of_getElem? (i := 86) (by decide +kernel), List.mem_of_getElem? (i := 841) (by decide +kernel), List.mem_of_getElem? (i := 842) (by decide +kernel)⟩
theorem lw_p17 : lw_okq (⟨"ShadeRegister$Tape", "endOfLetters", "(I)I"⟩, 6) := ⟨⟨by decide +kernel, by decide +kernel⟩, List.mem_of_getElem? (i := 86) (by decide +kernel), List.mem_of_getElem? (i := 848) (by decide +kernel), List.mem_of_getElem? (i := 849) (by decide +kernel)⟩
theorem lw_p18 : lw_okq (⟨"ShadeRegister$Tape", "addWord", "(II)V"⟩, 6) := ⟨⟨by decide +kernel, by decide +kernel⟩, List.mem_of_getElem? (i := 86) (by decide +kernel), List.mem_of_getElem? (i := 852) (by decide +kernel), List.mem_of_getElem? (i := 853) (by decide +kernel)⟩
theorem lw_p19 : lw_okq (⟨"ShadeRegister$Tape", "nameOf", "(II)I"⟩, 6) := ⟨⟨by decide +kernel, by decide +kernel⟩, List.mem_of_getElem? (i := 86) (by decide +kernel), List.mem_of_getElem? (i := 856) (by decide +kernel), List.mem_of_getElem? (i := 857) (by decide +kernel)⟩
theorem lw_p20 : lw_okq (⟨"ShadeRegister$Tape", "isWord", "(IILjava/lang/String;)Z"⟩, 6) := ⟨⟨by decide +kernel, by decide +kernel⟩, List.mem_of_getElem? (i := 86) (by decide +kernel), List.mem_of_getElem? (i := 861) (by decide +kernel), List.mem_of_getElem? (i := 862) (by decide +kernel)⟩
theorem lw_p21 : lw_okq (⟨"ShadeRegister$Tape", "kindOfWord", "(II)I"⟩, 6) := ⟨⟨by decide +kernel, by decide +kernel⟩, List.mem_of_getElem? (i := 86) (by decide +kernel), List.mem_of_getElem? (i := 918) (by decide +kernel), List.mem_of_getElem? (i := 919) (by decide +kernel)⟩
theorem lw_p22 : lw_okq (⟨"ShadeRegister$Tape", "addToken", "(III)V"⟩, 6) := ⟨⟨by decide +kernel, by decide +kernel⟩, List.mem_of_getElem? (i := 86) (by decide +kernel), List.mem_of_getElem? (i := 929) (by decide +kernel), List.mem_of_getElem? (i := 930) (by decide +kernel)⟩
theorem lw_p23 : lw_okq (⟨"ShadeRegister$Tape", "endOfDigits", "(I)I"⟩, 6) := ⟨⟨by decide +kernel, by decide +kernel⟩, List.mem_of_getElem? (i := 86) (by decide +kernel), List.mem_of_getElem? (i := 936) (by decide +kernel), List.mem_of_getElem? (i := 937) (by decide +kernel)⟩
theorem lw_p24 : lw_okq (⟨"ShadeRegister$Tape", "numberOf", "(II)I"⟩, 6) := ⟨⟨by decide +kernel, by decide +kernel⟩, List.mem_of_getElem? (i := 86) (by decide +kernel), List.mem_of_getElem? (i := 940) (by decide +kernel), List.mem_of_getElem? (i := 941) (by decide +kernel)⟩
theorem lw_p25 : lw_okq (⟨"ShadeRegister$Parser", "rule", "()V"⟩, 6) := ⟨⟨by decide +kernel, by decide +kernel⟩, List.mem_of_getElem? (i := 237) (by decide +kernel), List.mem_of_getElem? (i := 953) (by decide +kernel), List.mem_of_getElem? (i := 954) (by decide +kernel)⟩
theorem lw_p26 : lw_okq (⟨"ShadeRegister$Parser", "fail", "(I)V"⟩, 6) := ⟨⟨by decide +kernel, by decide +kernel⟩, List.mem_of_getElem? (i := 237) (by decide +kernel), List.mem_of_getElem? (i := 957) (by decide +kernel), List.mem_of_getElem? (i := 958) (by decide +kernel)⟩
theorem lw_p27 : lw_okq (⟨"ShadeRegister$Parser", "advance", "()V"⟩, 6) := ⟨⟨by decide +kernel, by decide +kernel⟩, List.mem_of_getElem? (i := 237) (by decide +kernel), List.mem_of_getElem? (i := 961) (by decide +kernel), List.mem_of_getElem? (i := 962) (by decide +kernel)⟩
theorem lw_p28 : lw_okq (⟨"ShadeRegister$Parser", "either", "(I)V"⟩, 6) := ⟨⟨by decide +kernel, by decide +kernel⟩, List.mem_of_getElem? (i := 237) (by decide +kernel), List.mem_of_getElem? (i := 965) (by decide +kernel), List.mem_of_getElem? (i := 966) (by decide +kernel)⟩
theorem lw_p29 : lw_okq (⟨"ShadeRegister$Parser", "both", "(I)V"⟩, 6) := ⟨⟨by decide +kernel, by decide +kernel⟩, List.mem_of_getElem? (i := 237) (by decide +kernel), List.mem_of_getElem? (i := 969) (by decide +kernel), List.mem_of_getElem? (i := 970) (by decide +kernel)⟩
theorem lw_p30 : lw_okq (⟨"ShadeRegister$Parser", "ask", "(I)V"⟩, 6) := ⟨⟨by decide +kernel, by decide +kernel⟩, List.mem_of_getElem? (i := 237) (by decide +kernel), List.mem_of_getElem? (i := 973) (by decide +kernel), List.mem_of_getElem? (i := 974) (by decide +kernel)⟩
theorem lw_p31 : lw_okq (⟨"ShadeRegister$Parser", "open", "(II)Z"⟩, 6) := ⟨⟨by decide +kernel, by decide +kernel⟩, List.mem_of_getElem? (i := 237) (by decide +kernel), List.mem_of_getElem? (i := 977) (by decide +kernel), List.mem_of_getElem? (i := 978) (by decide +kernel)⟩
def lw_privs_2 : List (MethodName × Nat) := [(⟨"ShadeRegister$Tape", "byteAt", "(I)I"⟩, 6), (⟨"ShadeRegister$Tape", "endOfLetters", "(I)I"⟩, 6), (⟨"ShadeRegister$Tape", "addWord", "(II)V"⟩, 6), (⟨"ShadeRegister$Tape", "nameOf", "(II)I"⟩, 6), (⟨"ShadeRegister$Tape", "isWord", "(IILjava/lang/String;)Z"⟩, 6), (⟨"ShadeRegister$Tape", "kindOfWord", "(II)I"⟩, 6), (⟨"ShadeRegister$Tape", "addToken", "(III)V"⟩, 6), (⟨"ShadeRegister$Tape", "endOfDigits", "(I)I"⟩, 6), (⟨"ShadeRegister$Tape", "numberOf", "(II)I"⟩, 6), (⟨"ShadeRegister$Parser", "rule", "()V"⟩, 6), (⟨"ShadeRegister$Parser", "fail", "(I)V"⟩, 6), (⟨"ShadeRegister$Parser", "advance", "()V"⟩, 6), (⟨"ShadeRegister$Parser", "either", "(I)V"⟩, 6), (⟨"ShadeRegister$Parser", "both", "(I)V"⟩, 6), (⟨"ShadeRegister$Parser", "ask", "(I)V"⟩, 6), (⟨"ShadeRegister$Parser", "open", "(II)Z"⟩, 6)]
theorem lw_r2 : ∀ q ∈ lw_privs_2, lw_okq q := List.forall_mem_cons.mpr ⟨lw_p16, List.forall_mem_cons.mpr ⟨lw_p17, List.forall_mem_cons.mpr ⟨lw_p18, List.forall_mem_cons.mpr ⟨lw_p19, List.forall_mem_cons.mpr ⟨lw_p20, List.forall_mem_cons.mpr ⟨lw_p21, List.forall_mem_cons.mpr ⟨lw_p22, List.forall_mem_cons.mpr ⟨lw_p23, List.forall_mem_cons.mpr ⟨lw_p24, List.forall_mem_cons.mpr ⟨lw_p25, List.forall_mem_cons.mpr ⟨lw_p26, List.forall_mem_cons.mpr ⟨lw_p27, List.forall_mem_cons.mpr ⟨lw_p28, List.forall_mem_cons.mpr ⟨lw_p29, List.forall_mem_cons.mpr ⟨lw_p30, List.forall_mem_cons.mpr ⟨lw_p31, fun _ h => absurd h List.not_mem_nil⟩⟩⟩⟩⟩⟩⟩⟩⟩⟩⟩⟩⟩⟩⟩⟩
theorem lw_p32 : lw_okq (⟨"ShadeRegister$Parser", "pass", "(I)V"⟩, 6) := ⟨⟨by decide +kernel, by decide +kernel⟩, List.mem_of_getElem? (i := 237) (by decide +kernel), List.mem_of_getElem? (i := 985) (by decide +kernel), List.mem_of_getElem? (i := 986) (by decide +kernel)⟩
theorem lw_p33 : lw_okq (⟨"ShadeRegister$Parser", "sum", "(I)V"⟩, 6) := ⟨⟨by decide +kernel, by decide +kernel⟩, List.mem_of_getElem? (i := 237) (by decide +kernel), List.mem_of_getElem? (i := 989) (by decide +kernel), List.mem_of_getElem? (i := 990) (by decide +kernel)⟩
theorem lw_p34 : lw_okq (⟨"ShadeRegister$Parser", "product", "(I)V"⟩, 6) := ⟨⟨by decide +kernel, by decide +kernel⟩, List.mem_of_getElem? (i := 237) (by decide +kernel), List.mem_of_getElem? (i := 993) (by decide +kernel), List.mem_of_getElem? (i := 994) (by decide +kernel)⟩
theorem lw_p35 : lw_okq (⟨"ShadeRegister$Parser", "one", "(I)V"⟩, 6) := ⟨⟨by decide +kernel, by decide +kernel⟩, List.mem_of_getElem? (i := 237) (by decide +kernel), List.mem_of_getElem? (i := 997) (by decide +kernel), List.mem_of_getElem? (i := 998) (by decide +kernel)⟩
theorem lw_p36 : lw_okq (⟨"ShadeRegister$Parser", "value", "()V"⟩, 6) := ⟨⟨by decide +kernel, by decide +kernel⟩, List.mem_of_getElem? (i := 237) (by decide +kernel), List.mem_of_getElem? (i := 1001) (by decide +kernel), List.mem_of_getElem? (i := 1002) (by decide +kernel)⟩
theorem lw_p37 : lw_okq (⟨"ShadeRegister$Tariff", "run", "(II[I)J"⟩, 7) := ⟨⟨by decide +kernel, by decide +kernel⟩, List.mem_of_getElem? (i := 112) (by decide +kernel), List.mem_of_getElem? (i := 1037) (by decide +kernel), List.mem_of_getElem? (i := 1038) (by decide +kernel)⟩
theorem lw_p38 : lw_okq (⟨"ShadeRegister", "isStall", "(I)Z"⟩, 18) := ⟨⟨by decide +kernel, by decide +kernel⟩, List.mem_of_getElem? (i := 28) (by decide +kernel), List.mem_of_getElem? (i := 1085) (by decide +kernel), List.mem_of_getElem? (i := 1086) (by decide +kernel)⟩
theorem lw_p39 : lw_okq (⟨"ShadeRegister", "mayTake", "(III)Z"⟩, 18) := ⟨⟨by decide +kernel, by decide +kernel⟩, List.mem_of_getElem? (i := 28) (by decide +kernel), List.mem_of_getElem? (i := 1089) (by decide +kernel), List.mem_of_getElem? (i := 1090) (by decide +kernel)⟩
theorem lw_p40 : lw_okq (⟨"ShadeRegister", "chargeOf", "(IIII)J"⟩, 18) := ⟨⟨by decide +kernel, by decide +kernel⟩, List.mem_of_getElem? (i := 28) (by decide +kernel), List.mem_of_getElem? (i := 1114) (by decide +kernel), List.mem_of_getElem? (i := 1115) (by decide +kernel)⟩
theorem lw_p41 : lw_okq (⟨"ShadeRegister", "leadThroughHour", "(IIIZ)V"⟩, 18) := ⟨⟨by decide +kernel, by decide +kernel⟩, List.mem_of_getElem? (i := 28) (by decide +kernel), List.mem_of_getElem? (i := 1135) (by decide +kernel), List.mem_of_getElem? (i := 1136) (by decide +kernel)⟩
theorem lw_p42 : lw_okq (⟨"ShadeRegister", "mayWalk", "(II)Z"⟩, 18) := ⟨⟨by decide +kernel, by decide +kernel⟩, List.mem_of_getElem? (i := 28) (by decide +kernel), List.mem_of_getElem? (i := 1146) (by decide +kernel), List.mem_of_getElem? (i := 1147) (by decide +kernel)⟩
theorem lw_p43 : lw_okq (⟨"ShadeRegister$Route", "isBetter", "(II)Z"⟩, 9) := ⟨⟨by decide +kernel, by decide +kernel⟩, List.mem_of_getElem? (i := 202) (by decide +kernel), List.mem_of_getElem? (i := 1172) (by decide +kernel), List.mem_of_getElem? (i := 1173) (by decide +kernel)⟩
theorem lw_p44 : lw_okq (⟨"ShadeRegister", "bestTree", "(II)I"⟩, 18) := ⟨⟨by decide +kernel, by decide +kernel⟩, List.mem_of_getElem? (i := 28) (by decide +kernel), List.mem_of_getElem? (i := 1201) (by decide +kernel), List.mem_of_getElem? (i := 1202) (by decide +kernel)⟩
theorem lw_p45 : lw_okq (⟨"ShadeRegister", "hasStall", "(II)Z"⟩, 18) := ⟨⟨by decide +kernel, by decide +kernel⟩, List.mem_of_getElem? (i := 28) (by decide +kernel), List.mem_of_getElem? (i := 1205) (by decide +kernel), List.mem_of_getElem? (i := 1206) (by decide +kernel)⟩
theorem lw_p46 : lw_okq (⟨"ShadeRegister", "serveHour", "(II)V"⟩, 18) := ⟨⟨by decide +kernel, by decide +kernel⟩, List.mem_of_getElem? (i := 28) (by decide +kernel), List.mem_of_getElem? (i := 1209) (by decide +kernel), List.mem_of_getElem? (i := 1210) (by decide +kernel)⟩
theorem lw_p47 : lw_okq (⟨"ShadeRegister", "servePlace", "(III)V"⟩, 18) := ⟨⟨by decide +kernel, by decide +kernel⟩, List.mem_of_getElem? (i := 28) (by decide +kernel), List.mem_of_getElem? (i := 1213) (by decide +kernel), List.mem_of_getElem? (i := 1214) (by decide +kernel)⟩
def lw_privs_3 : List (MethodName × Nat) := [(⟨"ShadeRegister$Parser", "pass", "(I)V"⟩, 6), (⟨"ShadeRegister$Parser", "sum", "(I)V"⟩, 6), (⟨"ShadeRegister$Parser", "product", "(I)V"⟩, 6), (⟨"ShadeRegister$Parser", "one", "(I)V"⟩, 6), (⟨"ShadeRegister$Parser", "value", "()V"⟩, 6), (⟨"ShadeRegister$Tariff", "run", "(II[I)J"⟩, 7), (⟨"ShadeRegister", "isStall", "(I)Z"⟩, 18), (⟨"ShadeRegister", "mayTake", "(III)Z"⟩, 18), (⟨"ShadeRegister", "chargeOf", "(IIII)J"⟩, 18), (⟨"ShadeRegister", "leadThroughHour", "(IIIZ)V"⟩, 18), (⟨"ShadeRegister", "mayWalk", "(II)Z"⟩, 18), (⟨"ShadeRegister$Route", "isBetter", "(II)Z"⟩, 9), (⟨"ShadeRegister", "bestTree", "(II)I"⟩, 18), (⟨"ShadeRegister", "hasStall", "(II)Z"⟩, 18), (⟨"ShadeRegister", "serveHour", "(II)V"⟩, 18), (⟨"ShadeRegister", "servePlace", "(III)V"⟩, 18)]
theorem lw_r3 : ∀ q ∈ lw_privs_3, lw_okq q := List.forall_mem_cons.mpr ⟨lw_p32, List.forall_mem_cons.mpr ⟨lw_p33, List.forall_mem_cons.mpr ⟨lw_p34, List.forall_mem_cons.mpr ⟨lw_p35, List.forall_mem_cons.mpr ⟨lw_p36, List.forall_mem_cons.mpr ⟨lw_p37, List.forall_mem_cons.mpr ⟨lw_p38, List.forall_mem_cons.mpr ⟨lw_p39, List.forall_mem_cons.mpr ⟨lw_p40, List.forall_mem_cons.mpr ⟨lw_p41, List.forall_mem_cons.mpr ⟨lw_p42, List.forall_mem_cons.mpr ⟨lw_p43, List.forall_mem_cons.mpr ⟨lw_p44, List.forall_mem_cons.mpr ⟨lw_p45, List.forall_mem_cons.mpr ⟨lw_p46, List.forall_mem_cons.mpr ⟨lw_p47, fun _ h => absurd h List.not_mem_nil⟩⟩⟩⟩⟩⟩⟩⟩⟩⟩⟩⟩⟩⟩⟩⟩
theorem lw_p48 : lw_okq (⟨"ShadeRegister", "standingNow", "()I"⟩, 18) := ⟨⟨by decide +kernel, by decide +kernel⟩, List.mem_of_getElem? (i := 28) (by decide +kernel), List.mem_of_getElem? (i := 1226) (by decide +kernel), List.mem_of_getElem? (i := 1227) (by decide +kernel)⟩
theorem lw_p49 : lw_okq (⟨"ShadeRegisterModel", "isCloud", "(II)Z"⟩, 90) := ⟨⟨by decide +kernel, by decide +kernel⟩, List.mem_of_getElem? (i := 1233) (by decide +kernel), List.mem_of_getElem? (i := 1536) (by decide +kernel), List.mem_of_getElem? (i := 1537) (by decide +kernel)⟩
theorem lw_p50 : lw_okq (⟨"ShadeRegisterModel", "isPerson", "(I)Z"⟩, 90) := ⟨⟨by decide +kernel, by decide +kernel⟩, List.mem_of_getElem? (i := 1233) (by decide +kernel), List.mem_of_getElem? (i := 1548) (by decide +kernel), List.mem_of_getElem? (i := 1549) (by decide +kernel)⟩
theorem lw_p51 : lw_okq (⟨"ShadeRegisterModel", "mayStand", "(III)Z"⟩, 90) := ⟨⟨by decide +kernel, by decide +kernel⟩, List.mem_of_getElem? (i := 1233) (by decide +kernel), List.mem_of_getElem? (i := 1556) (by decide +kernel), List.mem_of_getElem? (i := 1557) (by decide +kernel)⟩
theorem lw_p52 : lw_okq (⟨"ShadeRegisterModel", "isCell", "(I)Z"⟩, 90) := ⟨⟨by decide +kernel, by decide +kernel⟩, List.mem_of_getElem? (i := 1233) (by decide +kernel), List.mem_of_getElem? (i := 1560) (by decide +kernel), List.mem_of_getElem? (i := 1561) (by decide +kernel)⟩
theorem lw_p53 : lw_okq (⟨"ShadeRegisterModel", "stands", "(IIII)I"⟩, 90) := ⟨⟨by decide +kernel, by decide +kernel⟩, List.mem_of_getElem? (i := 1233) (by decide +kernel), List.mem_of_getElem? (i := 1565) (by decide +kernel), List.mem_of_getElem? (i := 1566) (by decide +kernel)⟩
theorem lw_p54 : lw_okq (⟨"ShadeRegisterModel", "enters", "(III)V"⟩, 90) := ⟨⟨by decide +kernel, by decide +kernel⟩, List.mem_of_getElem? (i := 1233) (by decide +kernel), List.mem_of_getElem? (i := 1569) (by decide +kernel), List.mem_of_getElem? (i := 1570) (by decide +kernel)⟩
theorem lw_p55 : lw_okq (⟨"ShadeRegisterModel", "isThing", "(I)Z"⟩, 90) := ⟨⟨by decide +kernel, by decide +kernel⟩, List.mem_of_getElem? (i := 1233) (by decide +kernel), List.mem_of_getElem? (i := 1588) (by decide +kernel), List.mem_of_getElem? (i := 1589) (by decide +kernel)⟩
theorem lw_p56 : lw_okq (⟨"ShadeRegisterModel", "heightOf", "(III)I"⟩, 90) := ⟨⟨by decide +kernel, by decide +kernel⟩, List.mem_of_getElem? (i := 1233) (by decide +kernel), List.mem_of_getElem? (i := 1600) (by decide +kernel), List.mem_of_getElem? (i := 1601) (by decide +kernel)⟩
theorem lw_p57 : lw_okq (⟨"ShadeRegisterModel", "entryFor", "(III)I"⟩, 90) := ⟨⟨by decide +kernel, by decide +kernel⟩, List.mem_of_getElem? (i := 1233) (by decide +kernel), List.mem_of_getElem? (i := 1604) (by decide +kernel), List.mem_of_getElem? (i := 1605) (by decide +kernel)⟩
theorem lw_p58 : lw_okq (⟨"ShadeRegisterModel", "isAsked", "(III)Z"⟩, 90) := ⟨⟨by decide +kernel, by decide +kernel⟩, List.mem_of_getElem? (i := 1233) (by decide +kernel), List.mem_of_getElem? (i := 1612) (by decide +kernel), List.mem_of_getElem? (i := 1613) (by decide +kernel)⟩
theorem lw_p59 : lw_okq (⟨"ShadeRegisterModel", "looks", "(III)V"⟩, 90) := ⟨⟨by decide +kernel, by decide +kernel⟩, List.mem_of_getElem? (i := 1233) (by decide +kernel), List.mem_of_getElem? (i := 1616) (by decide +kernel), List.mem_of_getElem? (i := 1617) (by decide +kernel)⟩
theorem lw_p60 : lw_okq (⟨"ShadeRegisterModel", "shades", "(IIIIII)V"⟩, 90) := ⟨⟨by decide +kernel, by decide +kernel⟩, List.mem_of_getElem? (i := 1233) (by decide +kernel), List.mem_of_getElem? (i := 1620) (by decide +kernel), List.mem_of_getElem? (i := 1621) (by decide +kernel)⟩
theorem lw_p61 : lw_okq (⟨"ShadeRegisterModel", "pointOf", "(IIIIII)I"⟩, 90) := ⟨⟨by decide +kernel, by decide +kernel⟩, List.mem_of_getElem? (i := 1233) (by decide +kernel), List.mem_of_getElem? (i := 1624) (by decide +kernel), List.mem_of_getElem? (i := 1625) (by decide +kernel)⟩
theorem lw_p62 : lw_okq (⟨"ShadeRegisterModel", "holderOf", "(IIII)I"⟩, 90) := ⟨⟨by decide +kernel, by decide +kernel⟩, List.mem_of_getElem? (i := 1233) (by decide +kernel), List.mem_of_getElem? (i := 1648) (by decide +kernel), List.mem_of_getElem? (i := 1649) (by decide +kernel)⟩
theorem lw_p63 : lw_okq (⟨"ShadeRegisterModel", "holdsOn", "(IIII)Z"⟩, 90) := ⟨⟨by decide +kernel, by decide +kernel⟩, List.mem_of_getElem? (i := 1233) (by decide +kernel), List.mem_of_getElem? (i := 1652) (by decide +kernel), List.mem_of_getElem? (i := 1653) (by decide +kernel)⟩
def lw_privs_4 : List (MethodName × Nat) := [(⟨"ShadeRegister", "standingNow", "()I"⟩, 18), (⟨"ShadeRegisterModel", "isCloud", "(II)Z"⟩, 90), (⟨"ShadeRegisterModel", "isPerson", "(I)Z"⟩, 90), (⟨"ShadeRegisterModel", "mayStand", "(III)Z"⟩, 90), (⟨"ShadeRegisterModel", "isCell", "(I)Z"⟩, 90), (⟨"ShadeRegisterModel", "stands", "(IIII)I"⟩, 90), (⟨"ShadeRegisterModel", "enters", "(III)V"⟩, 90), (⟨"ShadeRegisterModel", "isThing", "(I)Z"⟩, 90), (⟨"ShadeRegisterModel", "heightOf", "(III)I"⟩, 90), (⟨"ShadeRegisterModel", "entryFor", "(III)I"⟩, 90), (⟨"ShadeRegisterModel", "isAsked", "(III)Z"⟩, 90), (⟨"ShadeRegisterModel", "looks", "(III)V"⟩, 90), (⟨"ShadeRegisterModel", "shades", "(IIIIII)V"⟩, 90), (⟨"ShadeRegisterModel", "pointOf", "(IIIIII)I"⟩, 90), (⟨"ShadeRegisterModel", "holderOf", "(IIII)I"⟩, 90), (⟨"ShadeRegisterModel", "holdsOn", "(IIII)Z"⟩, 90)]
theorem lw_r4 : ∀ q ∈ lw_privs_4, lw_okq q := List.forall_mem_cons.mpr ⟨lw_p48, List.forall_mem_cons.mpr ⟨lw_p49, List.forall_mem_cons.mpr ⟨lw_p50, List.forall_mem_cons.mpr ⟨lw_p51, List.forall_mem_cons.mpr ⟨lw_p52, List.forall_mem_cons.mpr ⟨lw_p53, List.forall_mem_cons.mpr ⟨lw_p54, List.forall_mem_cons.mpr ⟨lw_p55, List.forall_mem_cons.mpr ⟨lw_p56, List.forall_mem_cons.mpr ⟨lw_p57, List.forall_mem_cons.mpr ⟨lw_p58, List.forall_mem_cons.mpr ⟨lw_p59, List.forall_mem_cons.mpr ⟨lw_p60, List.forall_mem_cons.mpr ⟨lw_p61, List.forall_mem_cons.mpr ⟨lw_p62, List.forall_mem_cons.mpr ⟨lw_p63, fun _ h => absurd h List.not_mem_nil⟩⟩⟩⟩⟩⟩⟩⟩⟩⟩⟩⟩⟩⟩⟩⟩
theorem lw_p64 : lw_okq (⟨"ShadeRegisterModel", "holds", "(III)V"⟩, 90) := ⟨⟨by decide +kernel, by decide +kernel⟩, List.mem_of_getElem? (i := 1233) (by decide +kernel), List.mem_of_getElem? (i := 1660) (by decide +kernel), List.mem_of_getElem? (i := 1661) (by decide +kernel)⟩
theorem lw_p65 : lw_okq (⟨"ShadeRegisterModel", "partsIn", "(II)I"⟩, 90) := ⟨⟨by decide +kernel, by decide +kernel⟩, List.mem_of_getElem? (i := 1233) (by decide +kernel), List.mem_of_getElem? (i := 1664) (by decide +kernel), List.mem_of_getElem? (i := 1665) (by decide +kernel)⟩
theorem lw_p66 : lw_okq (⟨"ShadeRegisterModel", "partsOn", "(III)J"⟩, 90) := ⟨⟨by decide +kernel, by decide +kernel⟩, List.mem_of_getElem? (i := 1233) (by decide +kernel), List.mem_of_getElem? (i := 1673) (by decide +kernel), List.mem_of_getElem? (i := 1674) (by decide +kernel)⟩
theorem lw_p67 : lw_okq (⟨"ShadeRegisterModel", "put", "(I)V"⟩, 90) := ⟨⟨by decide +kernel, by decide +kernel⟩, List.mem_of_getElem? (i := 1233) (by decide +kernel), List.mem_of_getElem? (i := 1702) (by decide +kernel), List.mem_of_getElem? (i := 1703) (by decide +kernel)⟩
theorem lw_p68 : lw_okq (⟨"ShadeRegisterModel", "next", "()V"⟩, 90) := ⟨⟨by decide +kernel, by decide +kernel⟩, List.mem_of_getElem? (i := 1233) (by decide +kernel), List.mem_of_getElem? (i := 1714) (by decide +kernel), List.mem_of_getElem? (i := 1715) (by decide +kernel)⟩
theorem lw_p69 : lw_okq (⟨"ShadeRegisterModel", "asks", "()V"⟩, 90) := ⟨⟨by decide +kernel, by decide +kernel⟩, List.mem_of_getElem? (i := 1233) (by decide +kernel), List.mem_of_getElem? (i := 1752) (by decide +kernel), List.mem_of_getElem? (i := 1753) (by decide +kernel)⟩
theorem lw_p70 : lw_okq (⟨"ShadeRegisterModel", "isWord", "(I)Z"⟩, 90) := ⟨⟨by decide +kernel, by decide +kernel⟩, List.mem_of_getElem? (i := 1233) (by decide +kernel), List.mem_of_getElem? (i := 1756) (by decide +kernel), List.mem_of_getElem? (i := 1757) (by decide +kernel)⟩
theorem lw_p71 : lw_okq (⟨"ShadeRegisterModel", "opensSign", "(I)Z"⟩, 90) := ⟨⟨by decide +kernel, by decide +kernel⟩, List.mem_of_getElem? (i := 1233) (by decide +kernel), List.mem_of_getElem? (i := 1760) (by decide +kernel), List.mem_of_getElem? (i := 1761) (by decide +kernel)⟩
theorem lw_p72 : lw_okq (⟨"ShadeRegisterModel", "errs", "(I)V"⟩, 90) := ⟨⟨by decide +kernel, by decide +kernel⟩, List.mem_of_getElem? (i := 1233) (by decide +kernel), List.mem_of_getElem? (i := 1764) (by decide +kernel), List.mem_of_getElem? (i := 1765) (by decide +kernel)⟩
theorem lw_p73 : lw_okq (⟨"ShadeRegisterModel", "opensFrame", "(I)V"⟩, 90) := ⟨⟨by decide +kernel, by decide +kernel⟩, List.mem_of_getElem? (i := 1233) (by decide +kernel), List.mem_of_getElem? (i := 1768) (by decide +kernel), List.mem_of_getElem? (i := 1769) (by decide +kernel)⟩
theorem lw_p74 : lw_okq (⟨"ShadeRegisterModel", "isSign", "(I)Z"⟩, 90) := ⟨⟨by decide +kernel, by decide +kernel⟩, List.mem_of_getElem? (i := 1233) (by decide +kernel), List.mem_of_getElem? (i := 1772) (by decide +kernel), List.mem_of_getElem? (i := 1773) (by decide +kernel)⟩
theorem lw_p75 : lw_okq (⟨"ShadeRegisterModel", "begins", "()V"⟩, 90) := ⟨⟨by decide +kernel, by decide +kernel⟩, List.mem_of_getElem? (i := 1233) (by decide +kernel), List.mem_of_getElem? (i := 1776) (by decide +kernel), List.mem_of_getElem? (i := 1777) (by decide +kernel)⟩
theorem lw_p76 : lw_okq (⟨"ShadeRegisterModel", "emits", "(II)V"⟩, 90) := ⟨⟨by decide +kernel, by decide +kernel⟩, List.mem_of_getElem? (i := 1233) (by decide +kernel), List.mem_of_getElem? (i := 1781) (by decide +kernel), List.mem_of_getElem? (i := 1782) (by decide +kernel)⟩
theorem lw_p77 : lw_okq (⟨"ShadeRegisterModel", "oneIsOver", "()V"⟩, 90) := ⟨⟨by decide +kernel, by decide +kernel⟩, List.mem_of_getElem? (i := 1233) (by decide +kernel), List.mem_of_getElem? (i := 1785) (by decide +kernel), List.mem_of_getElem? (i := 1786) (by decide +kernel)⟩
theorem lw_p78 : lw_okq (⟨"ShadeRegisterModel", "top", "()I"⟩, 90) := ⟨⟨by decide +kernel, by decide +kernel⟩, List.mem_of_getElem? (i := 1233) (by decide +kernel), List.mem_of_getElem? (i := 1789) (by decide +kernel), List.mem_of_getElem? (i := 1790) (by decide +kernel)⟩
theorem lw_p79 : lw_okq (⟨"ShadeRegisterModel", "goesOn", "()V"⟩, 90) := ⟨⟨by decide +kernel, by decide +kernel⟩, List.mem_of_getElem? (i := 1233) (by decide +kernel), List.mem_of_getElem? (i := 1793) (by decide +kernel), List.mem_of_getElem? (i := 1794) (by decide +kernel)⟩
def lw_privs_5 : List (MethodName × Nat) := [(⟨"ShadeRegisterModel", "holds", "(III)V"⟩, 90), (⟨"ShadeRegisterModel", "partsIn", "(II)I"⟩, 90), (⟨"ShadeRegisterModel", "partsOn", "(III)J"⟩, 90), (⟨"ShadeRegisterModel", "put", "(I)V"⟩, 90), (⟨"ShadeRegisterModel", "next", "()V"⟩, 90), (⟨"ShadeRegisterModel", "asks", "()V"⟩, 90), (⟨"ShadeRegisterModel", "isWord", "(I)Z"⟩, 90), (⟨"ShadeRegisterModel", "opensSign", "(I)Z"⟩, 90), (⟨"ShadeRegisterModel", "errs", "(I)V"⟩, 90), (⟨"ShadeRegisterModel", "opensFrame", "(I)V"⟩, 90), (⟨"ShadeRegisterModel", "isSign", "(I)Z"⟩, 90), (⟨"ShadeRegisterModel", "begins", "()V"⟩, 90), (⟨"ShadeRegisterModel", "emits", "(II)V"⟩, 90), (⟨"ShadeRegisterModel", "oneIsOver", "()V"⟩, 90), (⟨"ShadeRegisterModel", "top", "()I"⟩, 90), (⟨"ShadeRegisterModel", "goesOn", "()V"⟩, 90)]
theorem lw_r5 : ∀ q ∈ lw_privs_5, lw_okq q := List.forall_mem_cons.mpr ⟨lw_p64, List.forall_mem_cons.mpr ⟨lw_p65, List.forall_mem_cons.mpr ⟨lw_p66, List.forall_mem_cons.mpr ⟨lw_p67, List.forall_mem_cons.mpr ⟨lw_p68, List.forall_mem_cons.mpr ⟨lw_p69, List.forall_mem_cons.mpr ⟨lw_p70, List.forall_mem_cons.mpr ⟨lw_p71, List.forall_mem_cons.mpr ⟨lw_p72, List.forall_mem_cons.mpr ⟨lw_p73, List.forall_mem_cons.mpr ⟨lw_p74, List.forall_mem_cons.mpr ⟨lw_p75, List.forall_mem_cons.mpr ⟨lw_p76, List.forall_mem_cons.mpr ⟨lw_p77, List.forall_mem_cons.mpr ⟨lw_p78, List.forall_mem_cons.mpr ⟨lw_p79, fun _ h => absurd h List.not_mem_nil⟩⟩⟩⟩⟩⟩⟩⟩⟩⟩⟩⟩⟩⟩⟩⟩
theorem lw_p80 : lw_okq (⟨"ShadeRegisterModel", "waitsFor", "(I)V"⟩, 90) := ⟨⟨by decide +kernel, by decide +kernel⟩, List.mem_of_getElem? (i := 1233) (by decide +kernel), List.mem_of_getElem? (i := 1797) (by decide +kernel), List.mem_of_getElem? (i := 1798) (by decide +kernel)⟩
theorem lw_p81 : lw_okq (⟨"ShadeRegisterModel", "works", "(I)V"⟩, 90) := ⟨⟨by decide +kernel, by decide +kernel⟩, List.mem_of_getElem? (i := 1233) (by decide +kernel), List.mem_of_getElem? (i := 1804) (by decide +kernel), List.mem_of_getElem? (i := 1805) (by decide +kernel)⟩
theorem lw_p82 : lw_okq (⟨"ShadeRegisterModel", "askIsOver", "()V"⟩, 90) := ⟨⟨by decide +kernel, by decide +kernel⟩, List.mem_of_getElem? (i := 1233) (by decide +kernel), List.mem_of_getElem? (i := 1811) (by decide +kernel), List.mem_of_getElem? (i := 1812) (by decide +kernel)⟩
theorem lw_p83 : lw_okq (⟨"ShadeRegisterModel", "asksOn", "()V"⟩, 90) := ⟨⟨by decide +kernel, by decide +kernel⟩, List.mem_of_getElem? (i := 1233) (by decide +kernel), List.mem_of_getElem? (i := 1815) (by decide +kernel), List.mem_of_getElem? (i := 1816) (by decide +kernel)⟩
theorem lw_p84 : lw_okq (⟨"ShadeRegisterModel", "rule", "()V"⟩, 90) := ⟨⟨by decide +kernel, by decide +kernel⟩, List.mem_of_getElem? (i := 1233) (by decide +kernel), List.mem_of_getElem? (i := 1819) (by decide +kernel), List.mem_of_getElem? (i := 1820) (by decide +kernel)⟩
theorem lw_p85 : lw_okq (⟨"ShadeRegisterModel", "given", "()J"⟩, 90) := ⟨⟨by decide +kernel, by decide +kernel⟩, List.mem_of_getElem? (i := 1233) (by decide +kernel), List.mem_of_getElem? (i := 1834) (by decide +kernel), List.mem_of_getElem? (i := 1835) (by decide +kernel)⟩
theorem lw_p86 : lw_okq (⟨"ShadeRegisterModel", "mayPlace", "(III)Z"⟩, 90) := ⟨⟨by decide +kernel, by decide +kernel⟩, List.mem_of_getElem? (i := 1233) (by decide +kernel), List.mem_of_getElem? (i := 1854) (by decide +kernel), List.mem_of_getElem? (i := 1855) (by decide +kernel)⟩
theorem lw_p87 : lw_okq (⟨"ShadeRegisterModel", "isOpen", "(III)Z"⟩, 90) := ⟨⟨by decide +kernel, by decide +kernel⟩, List.mem_of_getElem? (i := 1233) (by decide +kernel), List.mem_of_getElem? (i := 1858) (by decide +kernel), List.mem_of_getElem? (i := 1859) (by decide +kernel)⟩
theorem lw_p88 : lw_okq (⟨"ShadeRegisterModel", "charge", "(IIIII)J"⟩, 90) := ⟨⟨by decide +kernel, by decide +kernel⟩, List.mem_of_getElem? (i := 1233) (by decide +kernel), List.mem_of_getElem? (i := 1870) (by decide +kernel), List.mem_of_getElem? (i := 1871) (by decide +kernel)⟩
theorem lw_p89 : lw_okq (⟨"ShadeRegisterModel", "isTaken", "(III)Z"⟩, 90) := ⟨⟨by decide +kernel, by decide +kernel⟩, List.mem_of_getElem? (i := 1233) (by decide +kernel), List.mem_of_getElem? (i := 1878) (by decide +kernel), List.mem_of_getElem? (i := 1879) (by decide +kernel)⟩
theorem lw_p90 : lw_okq (⟨"ShadeRegisterModel", "nextOf", "(II)I"⟩, 90) := ⟨⟨by decide +kernel, by decide +kernel⟩, List.mem_of_getElem? (i := 1233) (by decide +kernel), List.mem_of_getElem? (i := 1882) (by decide +kernel), List.mem_of_getElem? (i := 1883) (by decide +kernel)⟩
theorem lw_p91 : lw_okq (⟨"ShadeRegisterModel", "beside", "(II)I"⟩, 90) := ⟨⟨by decide +kernel, by decide +kernel⟩, List.mem_of_getElem? (i := 1233) (by decide +kernel), List.mem_of_getElem? (i := 1886) (by decide +kernel), List.mem_of_getElem? (i := 1887) (by decide +kernel)⟩
theorem lw_p92 : lw_okq (⟨"ShadeRegisterModel", "seeks", "(II)I"⟩, 90) := ⟨⟨by decide +kernel, by decide +kernel⟩, List.mem_of_getElem? (i := 1233) (by decide +kernel), List.mem_of_getElem? (i := 1898) (by decide +kernel), List.mem_of_getElem? (i := 1899) (by decide +kernel)⟩
theorem lw_p93 : lw_okq (⟨"ShadeRegisterModel", "servedBy", "(IIII)I"⟩, 90) := ⟨⟨by decide +kernel, by decide +kernel⟩, List.mem_of_getElem? (i := 1233) (by decide +kernel), List.mem_of_getElem? (i := 1902) (by decide +kernel), List.mem_of_getElem? (i := 1903) (by decide +kernel)⟩
def lw_privs_6 : List (MethodName × Nat) := [(⟨"ShadeRegisterModel", "waitsFor", "(I)V"⟩, 90), (⟨"ShadeRegisterModel", "works", "(I)V"⟩, 90), (⟨"ShadeRegisterModel", "askIsOver", "()V"⟩, 90), (⟨"ShadeRegisterModel", "asksOn", "()V"⟩, 90), (⟨"ShadeRegisterModel", "rule", "()V"⟩, 90), (⟨"ShadeRegisterModel", "given", "()J"⟩, 90), (⟨"ShadeRegisterModel", "mayPlace", "(III)Z"⟩, 90), (⟨"ShadeRegisterModel", "isOpen", "(III)Z"⟩, 90), (⟨"ShadeRegisterModel", "charge", "(IIIII)J"⟩, 90), (⟨"ShadeRegisterModel", "isTaken", "(III)Z"⟩, 90), (⟨"ShadeRegisterModel", "nextOf", "(II)I"⟩, 90), (⟨"ShadeRegisterModel", "beside", "(II)I"⟩, 90), (⟨"ShadeRegisterModel", "seeks", "(II)I"⟩, 90), (⟨"ShadeRegisterModel", "servedBy", "(IIII)I"⟩, 90)]
theorem lw_r6 : ∀ q ∈ lw_privs_6, lw_okq q := List.forall_mem_cons.mpr ⟨lw_p80, List.forall_mem_cons.mpr ⟨lw_p81, List.forall_mem_cons.mpr ⟨lw_p82, List.forall_mem_cons.mpr ⟨lw_p83, List.forall_mem_cons.mpr ⟨lw_p84, List.forall_mem_cons.mpr ⟨lw_p85, List.forall_mem_cons.mpr ⟨lw_p86, List.forall_mem_cons.mpr ⟨lw_p87, List.forall_mem_cons.mpr ⟨lw_p88, List.forall_mem_cons.mpr ⟨lw_p89, List.forall_mem_cons.mpr ⟨lw_p90, List.forall_mem_cons.mpr ⟨lw_p91, List.forall_mem_cons.mpr ⟨lw_p92, List.forall_mem_cons.mpr ⟨lw_p93, fun _ h => absurd h List.not_mem_nil⟩⟩⟩⟩⟩⟩⟩⟩⟩⟩⟩⟩⟩⟩
def lw_privs : List (MethodName × Nat) := lw_privs_1 ++ (lw_privs_2 ++ (lw_privs_3 ++ (lw_privs_4 ++ (lw_privs_5 ++ (lw_privs_6)))))
def lw_tbl : List Cond := k2_sels lw_privs ++ tables_1
theorem lw_privs_ok : ∀ q ∈ lw_privs, lw_okq q := by
  show ∀ q ∈ lw_privs_1 ++ (lw_privs_2 ++ (lw_privs_3 ++ (lw_privs_4 ++ (lw_privs_5 ++ (lw_privs_6))))), lw_okq q
  exact List.forall_mem_append.mpr ⟨lw_r1, List.forall_mem_append.mpr ⟨lw_r2, List.forall_mem_append.mpr ⟨lw_r3, List.forall_mem_append.mpr ⟨lw_r4, List.forall_mem_append.mpr ⟨lw_r5, lw_r6⟩⟩⟩⟩⟩
-- ===== end of PART A; then your names; then what follows =====
end
section
def RX0 : String := "ShadeRegister$Grant"
def TX0 : u_T := fun k => match k with
  | 0 => ("ShadeRegister$Grant", "giver", "I", true)
  | 1 => ("ShadeRegister$Grant", "willer", "LShadeRegister$Person;", true)
  | 2 => ("ShadeRegister$Grant", "taker", "I", true)
  | 3 => ("ShadeRegister$Grant", "thing", "I", true)
  | 4 => ("ShadeRegister$Grant", "sort", "I", true)
  | 5 => ("ShadeRegister$Grant", "told", "I", true)
  | 6 => ("ShadeRegister$Grant", "firstHour", "I", false)
  | 7 => ("ShadeRegister$Grant", "lastHour", "I", false)
  | 8 => ("ShadeRegister$Grant", "firstMonth", "I", false)
  | 9 => ("ShadeRegister$Grant", "lastMonth", "I", false)
  | 10 => ("ShadeRegister$Grant", "from", "I", false)
  | _ => ("ShadeRegister$Grant", "to", "I", false)
def tyX0 : Nat → FieldType := fun k => match k with
  | 0 => .int
  | 1 => .object "ShadeRegister$Person"
  | 2 => .int
  | 3 => .int
  | 4 => .int
  | 5 => .int
  | 6 => .int
  | 7 => .int
  | 8 => .int
  | 9 => .int
  | 10 => .int
  | _ => .int
abbrev wsX00 : List Cond := u_ws RX0 TX0 12
theorem nmX0 : ∀ a, a < 12 → ∀ b, b < 12 → a ≠ b → (TX0 a).2.1 ≠ (TX0 b).2.1 := by decide +kernel
theorem tyX0_ok : ∀ k, k < 12 → parseFieldDescriptor (TX0 k).2.2.1 = some (tyX0 k) := by decide +kernel
abbrev cX0_init : ByteArray := prog_2_method_1_code
def yX0_init : MethodName := ⟨RX0, "<init>", "(ILShadeRegister$Person;IIII)V"⟩
abbrev cX0_limit : ByteArray := prog_2_method_2_code
def yX0_limit : MethodName := ⟨RX0, "limit", "(IIII)V"⟩
abbrev cX0_covers : ByteArray := prog_2_method_3_code
def yX0_covers : MethodName := ⟨RX0, "covers", "(II)Z"⟩
abbrev cX0_holdsOn : ByteArray := prog_2_method_4_code
def yX0_holdsOn : MethodName := ⟨RX0, "holdsOn", "(II)Z"⟩
def RX1 : String := "ShadeRegister$Ground"
def TX1 : u_T := fun k => match k with
  | 0 => ("ShadeRegister$Ground", "wide", "I", true)
  | 1 => ("ShadeRegister$Ground", "high", "I", true)
  | _ => ("ShadeRegister$Ground", "size", "I", true)
def tyX1 : Nat → FieldType := fun k => match k with
  | 0 => .int
  | 1 => .int
  | _ => .int
abbrev wsX10 : List Cond := u_ws RX1 TX1 3
theorem nmX1 : ∀ a, a < 3 → ∀ b, b < 3 → a ≠ b → (TX1 a).2.1 ≠ (TX1 b).2.1 := by decide +kernel
theorem tyX1_ok : ∀ k, k < 3 → parseFieldDescriptor (TX1 k).2.2.1 = some (tyX1 k) := by decide +kernel
abbrev cX1_init : ByteArray := prog_3_method_1_code
def yX1_init : MethodName := ⟨RX1, "<init>", "(II)V"⟩
abbrev cX1_has : ByteArray := prog_3_method_2_code
def yX1_has : MethodName := ⟨RX1, "has", "(I)Z"⟩
abbrev cX1_columnOf : ByteArray := prog_3_method_3_code
def yX1_columnOf : MethodName := ⟨RX1, "columnOf", "(I)I"⟩
abbrev cX1_rowOf : ByteArray := prog_3_method_4_code
def yX1_rowOf : MethodName := ⟨RX1, "rowOf", "(I)I"⟩
abbrev cX1_cellAt : ByteArray := prog_3_method_5_code
def yX1_cellAt : MethodName := ⟨RX1, "cellAt", "(II)I"⟩
abbrev cX1_stepsBetween : ByteArray := prog_3_method_6_code
def yX1_stepsBetween : MethodName := ⟨RX1, "stepsBetween", "(II)I"⟩
def RX2 : String := "ShadeRegister$Parser"
def TX2 : u_T := fun k => match k with
  | 0 => ("ShadeRegister$Parser", "tape", "LShadeRegister$Tape;", true)
  | 1 => ("ShadeRegister$Parser", "target", "LShadeRegister$Tariff;", false)
  | 2 => ("ShadeRegister$Parser", "at", "I", false)
  | 3 => ("ShadeRegister$Parser", "kind", "I", false)
  | 4 => ("ShadeRegister$Parser", "faultKind", "I", false)
  | _ => ("ShadeRegister$Parser", "faultPlace", "I", false)
def tyX2 : Nat → FieldType := fun k => match k with
  | 0 => .object "ShadeRegister$Tape"
  | 1 => .object "ShadeRegister$Tariff"
  | 2 => .int
  | 3 => .int
  | 4 => .int
  | _ => .int
abbrev wsX20 : List Cond := u_ws RX2 TX2 6
theorem nmX2 : ∀ a, a < 6 → ∀ b, b < 6 → a ≠ b → (TX2 a).2.1 ≠ (TX2 b).2.1 := by decide +kernel
theorem tyX2_ok : ∀ k, k < 6 → parseFieldDescriptor (TX2 k).2.2.1 = some (tyX2 k) := by decide +kernel
abbrev cX2_init : ByteArray := prog_4_method_1_code
def yX2_init : MethodName := ⟨RX2, "<init>", "(LShadeRegister$Tape;LShadeRegister$Tariff;)V"⟩
abbrev cX2_parseInto : ByteArray := prog_4_method_2_code
def yX2_parseInto : MethodName := ⟨RX2, "parseInto", "(LShadeRegister$Tariff;)Z"⟩
abbrev cX2_fail : ByteArray := prog_4_method_3_code
def yX2_fail : MethodName := ⟨RX2, "fail", "(I)V"⟩
abbrev cX2_advance : ByteArray := prog_4_method_4_code
def yX2_advance : MethodName := ⟨RX2, "advance", "()V"⟩
abbrev cX2_pass : ByteArray := prog_4_method_5_code
def yX2_pass : MethodName := ⟨RX2, "pass", "(I)V"⟩
abbrev cX2_open : ByteArray := prog_4_method_6_code
def yX2_open : MethodName := ⟨RX2, "open", "(II)Z"⟩
abbrev cX2_rule : ByteArray := prog_4_method_7_code
def yX2_rule : MethodName := ⟨RX2, "rule", "()V"⟩
abbrev cX2_either : ByteArray := prog_4_method_8_code
def yX2_either : MethodName := ⟨RX2, "either", "(I)V"⟩
abbrev cX2_both : ByteArray := prog_4_method_9_code
def yX2_both : MethodName := ⟨RX2, "both", "(I)V"⟩
abbrev cX2_ask : ByteArray := prog_4_method_10_code
def yX2_ask : MethodName := ⟨RX2, "ask", "(I)V"⟩
abbrev cX2_sum : ByteArray := prog_4_method_11_code
def yX2_sum : MethodName := ⟨RX2, "sum", "(I)V"⟩
abbrev cX2_product : ByteArray := prog_4_method_12_code
def yX2_product : MethodName := ⟨RX2, "product", "(I)V"⟩
abbrev cX2_one : ByteArray := prog_4_method_13_code
def yX2_one : MethodName := ⟨RX2, "one", "(I)V"⟩
abbrev cX2_value : ByteArray := prog_4_method_14_code
def yX2_value : MethodName := ⟨RX2, "value", "()V"⟩
def RX3 : String := "ShadeRegister$Person"
def TX3 : u_T := fun k => match k with
  | 0 => ("ShadeRegister$Person", "diedDay", "I", false)
  | _ => ("ShadeRegister$Person", "diedTold", "I", false)
def tyX3 : Nat → FieldType := fun k => match k with
  | 0 => .int
  | _ => .int
abbrev wsX30 : List Cond := u_ws RX3 TX3 2
theorem nmX3 : ∀ a, a < 2 → ∀ b, b < 2 → a ≠ b → (TX3 a).2.1 ≠ (TX3 b).2.1 := by decide +kernel
theorem tyX3_ok : ∀ k, k < 2 → parseFieldDescriptor (TX3 k).2.2.1 = some (tyX3 k) := by decide +kernel
abbrev cX3_init : ByteArray := prog_5_method_1_code
def yX3_init : MethodName := ⟨RX3, "<init>", "()V"⟩
abbrev cX3_wasDead : ByteArray := prog_5_method_2_code
def yX3_wasDead : MethodName := ⟨RX3, "wasDead", "(II)Z"⟩
def RX4 : String := "ShadeRegister$Route"
def TX4 : u_T := fun k => match k with
  | 0 => ("ShadeRegister$Route", "ground", "LShadeRegister$Ground;", true)
  | 1 => ("ShadeRegister$Route", "nexts", "[I", true)
  | 2 => ("ShadeRegister$Route", "path", "[I", true)
  | 3 => ("ShadeRegister$Route", "sunny", "[I", false)
  | 4 => ("ShadeRegister$Route", "sunnyAfter", "[I", false)
  | 5 => ("ShadeRegister$Route", "costs", "[J", false)
  | 6 => ("ShadeRegister$Route", "costsAfter", "[J", false)
  | 7 => ("ShadeRegister$Route", "pathLength", "I", false)
  | _ => ("ShadeRegister$Route", "pathCost", "J", false)
def tyX4 : Nat → FieldType := fun k => match k with
  | 0 => .object "ShadeRegister$Ground"
  | 1 => .array .int
  | 2 => .array .int
  | 3 => .array .int
  | 4 => .array .int
  | 5 => .array .long
  | 6 => .array .long
  | 7 => .int
  | _ => .long
abbrev wsX40 : List Cond := u_ws RX4 TX4 9
theorem nmX4 : ∀ a, a < 9 → ∀ b, b < 9 → a ≠ b → (TX4 a).2.1 ≠ (TX4 b).2.1 := by decide +kernel
theorem tyX4_ok : ∀ k, k < 9 → parseFieldDescriptor (TX4 k).2.2.1 = some (tyX4 k) := by decide +kernel
abbrev cX4_init : ByteArray := prog_6_method_1_code
def yX4_init : MethodName := ⟨RX4, "<init>", "(LShadeRegister$Ground;)V"⟩
abbrev cX4_startFromBehind : ByteArray := prog_6_method_2_code
def yX4_startFromBehind : MethodName := ⟨RX4, "startFromBehind", "(I)V"⟩
abbrev cX4_goBackAnHour : ByteArray := prog_6_method_3_code
def yX4_goBackAnHour : MethodName := ⟨RX4, "goBackAnHour", "()V"⟩
abbrev cX4_leadsOn : ByteArray := prog_6_method_4_code
def yX4_leadsOn : MethodName := ⟨RX4, "leadsOn", "(I)Z"⟩
abbrev cX4_bestNext : ByteArray := prog_6_method_5_code
def yX4_bestNext : MethodName := ⟨RX4, "bestNext", "(I)I"⟩
abbrev cX4_isBetter : ByteArray := prog_6_method_6_code
def yX4_isBetter : MethodName := ⟨RX4, "isBetter", "(II)Z"⟩
abbrev cX4_lead : ByteArray := prog_6_method_7_code
def yX4_lead : MethodName := ⟨RX4, "lead", "(IIIIJ)V"⟩
abbrev cX4_follow : ByteArray := prog_6_method_8_code
def yX4_follow : MethodName := ⟨RX4, "follow", "(III)I"⟩
abbrev cX4_charges : ByteArray := prog_6_method_9_code
def yX4_charges : MethodName := ⟨RX4, "charges", "()J"⟩
abbrev cX4_cellOfPath : ByteArray := prog_6_method_10_code
def yX4_cellOfPath : MethodName := ⟨RX4, "cellOfPath", "(I)I"⟩
def RX5 : String := "ShadeRegister$Scene"
def TX5 : u_T := fun k => match k with
  | 0 => ("ShadeRegister$Scene", "ground", "LShadeRegister$Ground;", true)
  | 1 => ("ShadeRegister$Scene", "sky", "LShadeRegister$Sky;", true)
  | 2 => ("ShadeRegister$Scene", "things", "Ljava/util/ArrayList;", true)
  | 3 => ("ShadeRegister$Scene", "heights", "[I", true)
  | 4 => ("ShadeRegister$Scene", "built", "[Z", true)
  | 5 => ("ShadeRegister$Scene", "shaders", "[I", true)
  | _ => ("ShadeRegister$Scene", "day", "I", false)
def tyX5 : Nat → FieldType := fun k => match k with
  | 0 => .object "ShadeRegister$Ground"
  | 1 => .object "ShadeRegister$Sky"
  | 2 => .object "java/util/ArrayList"
  | 3 => .array .int
  | 4 => .array .boolean
  | 5 => .array .int
  | _ => .int
abbrev wsX50 : List Cond := u_ws RX5 TX5 7
theorem nmX5 : ∀ a, a < 7 → ∀ b, b < 7 → a ≠ b → (TX5 a).2.1 ≠ (TX5 b).2.1 := by decide +kernel
theorem tyX5_ok : ∀ k, k < 7 → parseFieldDescriptor (TX5 k).2.2.1 = some (tyX5 k) := by decide +kernel
abbrev cX5_init : ByteArray := prog_7_method_1_code
def yX5_init : MethodName := ⟨RX5, "<init>", "(LShadeRegister$Ground;LShadeRegister$Sky;Ljava/util/ArrayList;)V"⟩
abbrev cX5_lookAt : ByteArray := prog_7_method_2_code
def yX5_lookAt : MethodName := ⟨RX5, "lookAt", "(II)V"⟩
abbrev cX5_turnTo : ByteArray := prog_7_method_3_code
def yX5_turnTo : MethodName := ⟨RX5, "turnTo", "(I)V"⟩
abbrev cX5_castShadow : ByteArray := prog_7_method_4_code
def yX5_castShadow : MethodName := ⟨RX5, "castShadow", "(IIII)V"⟩
abbrev cX5_heightOf : ByteArray := prog_7_method_5_code
def yX5_heightOf : MethodName := ⟨RX5, "heightOf", "(I)I"⟩
abbrev cX5_isOpen : ByteArray := prog_7_method_6_code
def yX5_isOpen : MethodName := ⟨RX5, "isOpen", "(I)Z"⟩
abbrev cX5_shadersOf : ByteArray := prog_7_method_7_code
def yX5_shadersOf : MethodName := ⟨RX5, "shadersOf", "(I)I"⟩
abbrev cX5_partsOf : ByteArray := prog_7_method_8_code
def yX5_partsOf : MethodName := ⟨RX5, "partsOf", "(II)I"⟩
abbrev cX5_partsOfAll : ByteArray := prog_7_method_9_code
def yX5_partsOfAll : MethodName := ⟨RX5, "partsOfAll", "(I)J"⟩
abbrev cX5_cellsShadedBy : ByteArray := prog_7_method_10_code
def yX5_cellsShadedBy : MethodName := ⟨RX5, "cellsShadedBy", "(I)I"⟩
def RX6 : String := "ShadeRegister$Sky"
def TX6 : u_T := fun k => match k with
  | 0 => ("ShadeRegister$Sky", "sunXs", "[I", true)
  | 1 => ("ShadeRegister$Sky", "sunYs", "[I", true)
  | 2 => ("ShadeRegister$Sky", "clouded", "[I", true)
  | _ => ("ShadeRegister$Sky", "clouds", "I", false)
def tyX6 : Nat → FieldType := fun k => match k with
  | 0 => .array .int
  | 1 => .array .int
  | 2 => .array .int
  | _ => .int
abbrev wsX60 : List Cond := u_ws RX6 TX6 4
theorem nmX6 : ∀ a, a < 4 → ∀ b, b < 4 → a ≠ b → (TX6 a).2.1 ≠ (TX6 b).2.1 := by decide +kernel
theorem tyX6_ok : ∀ k, k < 4 → parseFieldDescriptor (TX6 k).2.2.1 = some (tyX6 k) := by decide +kernel
abbrev cX6_init : ByteArray := prog_8_method_1_code
def yX6_init : MethodName := ⟨RX6, "<init>", "()V"⟩
abbrev cX6_setSun : ByteArray := prog_8_method_2_code
def yX6_setSun : MethodName := ⟨RX6, "setSun", "(IIII)V"⟩
abbrev cX6_sunX : ByteArray := prog_8_method_3_code
def yX6_sunX : MethodName := ⟨RX6, "sunX", "(II)I"⟩
abbrev cX6_sunY : ByteArray := prog_8_method_4_code
def yX6_sunY : MethodName := ⟨RX6, "sunY", "(II)I"⟩
abbrev cX6_isClouded : ByteArray := prog_8_method_5_code
def yX6_isClouded : MethodName := ⟨RX6, "isClouded", "(II)Z"⟩
abbrev cX6_addCloud : ByteArray := prog_8_method_6_code
def yX6_addCloud : MethodName := ⟨RX6, "addCloud", "(II)I"⟩
def RX7 : String := "ShadeRegister$Stall"
def TX7 : u_T := fun k => match k with
  | 0 => ("ShadeRegister$Stall", "from", "I", true)
  | 1 => ("ShadeRegister$Stall", "to", "I", true)
  | _ => ("ShadeRegister$Stall", "places", "[I", true)
def tyX7 : Nat → FieldType := fun k => match k with
  | 0 => .int
  | 1 => .int
  | _ => .array .int
abbrev wsX70 : List Cond := u_ws RX7 TX7 3
theorem nmX7 : ∀ a, a < 3 → ∀ b, b < 3 → a ≠ b → (TX7 a).2.1 ≠ (TX7 b).2.1 := by decide +kernel
theorem tyX7_ok : ∀ k, k < 3 → parseFieldDescriptor (TX7 k).2.2.1 = some (tyX7 k) := by decide +kernel
abbrev cX7_init : ByteArray := prog_9_method_1_code
def yX7_init : MethodName := ⟨RX7, "<init>", "(II)V"⟩
abbrev cX7_isOn : ByteArray := prog_9_method_2_code
def yX7_isOn : MethodName := ⟨RX7, "isOn", "(I)Z"⟩
abbrev cX7_put : ByteArray := prog_9_method_3_code
def yX7_put : MethodName := ⟨RX7, "put", "(II)V"⟩
abbrev cX7_cellIn : ByteArray := prog_9_method_4_code
def yX7_cellIn : MethodName := ⟨RX7, "cellIn", "(I)I"⟩
abbrev cX7_hasCell : ByteArray := prog_9_method_5_code
def yX7_hasCell : MethodName := ⟨RX7, "hasCell", "(I)Z"⟩
def RX8 : String := "ShadeRegister$Tape"
def TX8 : u_T := fun k => match k with
  | 0 => ("ShadeRegister$Tape", "bytes", "[I", true)
  | 1 => ("ShadeRegister$Tape", "length", "I", false)
  | 2 => ("ShadeRegister$Tape", "kinds", "[I", true)
  | 3 => ("ShadeRegister$Tape", "starts", "[I", true)
  | 4 => ("ShadeRegister$Tape", "values", "[I", true)
  | _ => ("ShadeRegister$Tape", "tokens", "I", false)
def tyX8 : Nat → FieldType := fun k => match k with
  | 0 => .array .int
  | 1 => .int
  | 2 => .array .int
  | 3 => .array .int
  | 4 => .array .int
  | _ => .int
abbrev wsX80 : List Cond := u_ws RX8 TX8 6
theorem nmX8 : ∀ a, a < 6 → ∀ b, b < 6 → a ≠ b → (TX8 a).2.1 ≠ (TX8 b).2.1 := by decide +kernel
theorem tyX8_ok : ∀ k, k < 6 → parseFieldDescriptor (TX8 k).2.2.1 = some (tyX8 k) := by decide +kernel
abbrev cX8_init : ByteArray := prog_10_method_1_code
def yX8_init : MethodName := ⟨RX8, "<init>", "()V"⟩
abbrev cX8_addFour : ByteArray := prog_10_method_2_code
def yX8_addFour : MethodName := ⟨RX8, "addFour", "(I)V"⟩
abbrev cX8_cutIntoTokens : ByteArray := prog_10_method_3_code
def yX8_cutIntoTokens : MethodName := ⟨RX8, "cutIntoTokens", "()V"⟩
abbrev cX8_kindOf : ByteArray := prog_10_method_4_code
def yX8_kindOf : MethodName := ⟨RX8, "kindOf", "(I)I"⟩
abbrev cX8_startOf : ByteArray := prog_10_method_5_code
def yX8_startOf : MethodName := ⟨RX8, "startOf", "(I)I"⟩
abbrev cX8_valueOf : ByteArray := prog_10_method_6_code
def yX8_valueOf : MethodName := ⟨RX8, "valueOf", "(I)I"⟩
abbrev cX8_byteAt : ByteArray := prog_10_method_7_code
def yX8_byteAt : MethodName := ⟨RX8, "byteAt", "(I)I"⟩
abbrev cX8_addToken : ByteArray := prog_10_method_8_code
def yX8_addToken : MethodName := ⟨RX8, "addToken", "(III)V"⟩
abbrev cX8_isLetter : ByteArray := prog_10_method_9_code
def yX8_isLetter : MethodName := ⟨RX8, "isLetter", "(I)Z"⟩
abbrev cX8_isDigit : ByteArray := prog_10_method_10_code
def yX8_isDigit : MethodName := ⟨RX8, "isDigit", "(I)Z"⟩
abbrev cX8_endOfLetters : ByteArray := prog_10_method_11_code
def yX8_endOfLetters : MethodName := ⟨RX8, "endOfLetters", "(I)I"⟩
abbrev cX8_endOfDigits : ByteArray := prog_10_method_12_code
def yX8_endOfDigits : MethodName := ⟨RX8, "endOfDigits", "(I)I"⟩
abbrev cX8_numberOf : ByteArray := prog_10_method_13_code
def yX8_numberOf : MethodName := ⟨RX8, "numberOf", "(II)I"⟩
abbrev cX8_addWord : ByteArray := prog_10_method_14_code
def yX8_addWord : MethodName := ⟨RX8, "addWord", "(II)V"⟩
abbrev cX8_nameOf : ByteArray := prog_10_method_15_code
def yX8_nameOf : MethodName := ⟨RX8, "nameOf", "(II)I"⟩
abbrev cX8_kindOfWord : ByteArray := prog_10_method_16_code
def yX8_kindOfWord : MethodName := ⟨RX8, "kindOfWord", "(II)I"⟩
abbrev cX8_isWord : ByteArray := prog_10_method_17_code
def yX8_isWord : MethodName := ⟨RX8, "isWord", "(IILjava/lang/String;)Z"⟩
abbrev cX8_kindOfSign : ByteArray := prog_10_method_18_code
def yX8_kindOfSign : MethodName := ⟨RX8, "kindOfSign", "(I)I"⟩
def RX9 : String := "ShadeRegister$Tariff"
def TX9 : u_T := fun k => match k with
  | 0 => ("ShadeRegister$Tariff", "steps", "[I", true)
  | 1 => ("ShadeRegister$Tariff", "values", "[I", true)
  | 2 => ("ShadeRegister$Tariff", "endsOfAsk", "[I", true)
  | 3 => ("ShadeRegister$Tariff", "endsOfRule", "[I", true)
  | 4 => ("ShadeRegister$Tariff", "stack", "[J", true)
  | 5 => ("ShadeRegister$Tariff", "length", "I", false)
  | _ => ("ShadeRegister$Tariff", "rules", "I", false)
def tyX9 : Nat → FieldType := fun k => match k with
  | 0 => .array .int
  | 1 => .array .int
  | 2 => .array .int
  | 3 => .array .int
  | 4 => .array .long
  | 5 => .int
  | _ => .int
abbrev wsX90 : List Cond := u_ws RX9 TX9 7
theorem nmX9 : ∀ a, a < 7 → ∀ b, b < 7 → a ≠ b → (TX9 a).2.1 ≠ (TX9 b).2.1 := by decide +kernel
theorem tyX9_ok : ∀ k, k < 7 → parseFieldDescriptor (TX9 k).2.2.1 = some (tyX9 k) := by decide +kernel
abbrev cX9_init : ByteArray := prog_11_method_1_code
def yX9_init : MethodName := ⟨RX9, "<init>", "()V"⟩
abbrev cX9_clear : ByteArray := prog_11_method_2_code
def yX9_clear : MethodName := ⟨RX9, "clear", "()V"⟩
abbrev cX9_add : ByteArray := prog_11_method_3_code
def yX9_add : MethodName := ⟨RX9, "add", "(II)V"⟩
abbrev cX9_endAsk : ByteArray := prog_11_method_4_code
def yX9_endAsk : MethodName := ⟨RX9, "endAsk", "()V"⟩
abbrev cX9_endRule : ByteArray := prog_11_method_5_code
def yX9_endRule : MethodName := ⟨RX9, "endRule", "()V"⟩
abbrev cX9_answer : ByteArray := prog_11_method_6_code
def yX9_answer : MethodName := ⟨RX9, "answer", "([I)I"⟩
abbrev cX9_run : ByteArray := prog_11_method_7_code
def yX9_run : MethodName := ⟨RX9, "run", "(II[I)J"⟩
abbrev cX9_valueOf : ByteArray := prog_11_method_8_code
def yX9_valueOf : MethodName := ⟨RX9, "valueOf", "([II)J"⟩
abbrev cX9_join : ByteArray := prog_11_method_9_code
def yX9_join : MethodName := ⟨RX9, "join", "(IJJ)J"⟩
abbrev cX9_bounded : ByteArray := prog_11_method_10_code
def yX9_bounded : MethodName := ⟨RX9, "bounded", "(J)J"⟩
def RX10 : String := "ShadeRegister$Thing"
def TX10 : u_T := fun k => match k with
  | 0 => ("ShadeRegister$Thing", "kind", "I", true)
  | 1 => ("ShadeRegister$Thing", "cell", "I", true)
  | 2 => ("ShadeRegister$Thing", "owner", "I", true)
  | 3 => ("ShadeRegister$Thing", "from", "I", true)
  | 4 => ("ShadeRegister$Thing", "grows", "I", false)
  | 5 => ("ShadeRegister$Thing", "leanX", "I", false)
  | 6 => ("ShadeRegister$Thing", "leanY", "I", false)
  | 7 => ("ShadeRegister$Thing", "days", "[I", true)
  | 8 => ("ShadeRegister$Thing", "heights", "[I", true)
  | 9 => ("ShadeRegister$Thing", "tolds", "[I", true)
  | 10 => ("ShadeRegister$Thing", "entries", "I", false)
  | 11 => ("ShadeRegister$Thing", "fellDay", "I", false)
  | 12 => ("ShadeRegister$Thing", "fellTold", "I", false)
  | _ => ("ShadeRegister$Thing", "measured", "I", false)
def tyX10 : Nat → FieldType := fun k => match k with
  | 0 => .int
  | 1 => .int
  | 2 => .int
  | 3 => .int
  | 4 => .int
  | 5 => .int
  | 6 => .int
  | 7 => .array .int
  | 8 => .array .int
  | 9 => .array .int
  | 10 => .int
  | 11 => .int
  | 12 => .int
  | _ => .int
abbrev wsX100 : List Cond := u_ws RX10 TX10 14
theorem nmX10 : ∀ a, a < 14 → ∀ b, b < 14 → a ≠ b → (TX10 a).2.1 ≠ (TX10 b).2.1 := by decide +kernel
theorem tyX10_ok : ∀ k, k < 14 → parseFieldDescriptor (TX10 k).2.2.1 = some (tyX10 k) := by decide +kernel
abbrev cX10_init : ByteArray := prog_12_method_1_code
def yX10_init : MethodName := ⟨RX10, "<init>", "(IIII)V"⟩
abbrev cX10_tell : ByteArray := prog_12_method_2_code
def yX10_tell : MethodName := ⟨RX10, "tell", "(III)V"⟩
abbrev cX10_forgetLast : ByteArray := prog_12_method_3_code
def yX10_forgetLast : MethodName := ⟨RX10, "forgetLast", "()V"⟩
abbrev cX10_entryValue : ByteArray := prog_12_method_4_code
def yX10_entryValue : MethodName := ⟨RX10, "entryValue", "(II)I"⟩
abbrev cX10_hasFallen : ByteArray := prog_12_method_5_code
def yX10_hasFallen : MethodName := ⟨RX10, "hasFallen", "()Z"⟩
abbrev cX10_heightOn : ByteArray := prog_12_method_6_code
def yX10_heightOn : MethodName := ⟨RX10, "heightOn", "(II)I"⟩
abbrev cX10_entryFor : ByteArray := prog_12_method_7_code
def yX10_entryFor : MethodName := ⟨RX10, "entryFor", "(II)I"⟩
abbrev cX10_grownBetween : ByteArray := prog_12_method_8_code
def yX10_grownBetween : MethodName := ⟨RX10, "grownBetween", "(II)I"⟩
abbrev cX10_mend : ByteArray := prog_12_method_9_code
def yX10_mend : MethodName := ⟨RX10, "mend", "(II)V"⟩
def RX11 : String := "ShadeRegister"
def TX11 : u_T := fun k => match k with
  | 0 => ("ShadeRegister", "ground", "LShadeRegister$Ground;", true)
  | 1 => ("ShadeRegister", "sky", "LShadeRegister$Sky;", true)
  | 2 => ("ShadeRegister", "persons", "Ljava/util/ArrayList;", true)
  | 3 => ("ShadeRegister", "things", "Ljava/util/ArrayList;", true)
  | 4 => ("ShadeRegister", "grants", "Ljava/util/ArrayList;", true)
  | 5 => ("ShadeRegister", "stalls", "Ljava/util/ArrayList;", true)
  | 6 => ("ShadeRegister", "scene", "LShadeRegister$Scene;", true)
  | 7 => ("ShadeRegister", "tape", "LShadeRegister$Tape;", true)
  | 8 => ("ShadeRegister", "parser", "LShadeRegister$Parser;", true)
  | 9 => ("ShadeRegister", "route", "LShadeRegister$Route;", true)
  | 10 => ("ShadeRegister", "names", "[I", true)
  | 11 => ("ShadeRegister", "holders", "[I", true)
  | 12 => ("ShadeRegister", "served", "[I", true)
  | 13 => ("ShadeRegister", "inForce", "LShadeRegister$Tariff;", false)
  | 14 => ("ShadeRegister", "spare", "LShadeRegister$Tariff;", false)
  | 15 => ("ShadeRegister", "today", "I", false)
  | 16 => ("ShadeRegister", "faultKind", "I", false)
  | _ => ("ShadeRegister", "faultPlace", "I", false)
def tyX11 : Nat → FieldType := fun k => match k with
  | 0 => .object "ShadeRegister$Ground"
  | 1 => .object "ShadeRegister$Sky"
  | 2 => .object "java/util/ArrayList"
  | 3 => .object "java/util/ArrayList"
  | 4 => .object "java/util/ArrayList"
  | 5 => .object "java/util/ArrayList"
  | 6 => .object "ShadeRegister$Scene"
  | 7 => .object "ShadeRegister$Tape"
  | 8 => .object "ShadeRegister$Parser"
  | 9 => .object "ShadeRegister$Route"
  | 10 => .array .int
  | 11 => .array .int
  | 12 => .array .int
  | 13 => .object "ShadeRegister$Tariff"
  | 14 => .object "ShadeRegister$Tariff"
  | 15 => .int
  | 16 => .int
  | _ => .int
abbrev wsX110 : List Cond := u_ws RX11 TX11 18
theorem nmX11 : ∀ a, a < 18 → ∀ b, b < 18 → a ≠ b → (TX11 a).2.1 ≠ (TX11 b).2.1 := by decide +kernel
theorem tyX11_ok : ∀ k, k < 18 → parseFieldDescriptor (TX11 k).2.2.1 = some (tyX11 k) := by decide +kernel
abbrev cX11_init : ByteArray := prog_1_method_1_code
def yX11_init : MethodName := ⟨RX11, "<init>", "(II)V"⟩
abbrev cX11_days : ByteArray := prog_1_method_2_code
def yX11_days : MethodName := ⟨RX11, "days", "(I)I"⟩
abbrev cX11_sun : ByteArray := prog_1_method_3_code
def yX11_sun : MethodName := ⟨RX11, "sun", "(IIII)Z"⟩
abbrev cX11_cloud : ByteArray := prog_1_method_4_code
def yX11_cloud : MethodName := ⟨RX11, "cloud", "(II)I"⟩
abbrev cX11_person : ByteArray := prog_1_method_5_code
def yX11_person : MethodName := ⟨RX11, "person", "()I"⟩
abbrev cX11_died : ByteArray := prog_1_method_6_code
def yX11_died : MethodName := ⟨RX11, "died", "(II)Z"⟩
abbrev cX11_wall : ByteArray := prog_1_method_7_code
def yX11_wall : MethodName := ⟨RX11, "wall", "(III)I"⟩
abbrev cX11_tree : ByteArray := prog_1_method_8_code
def yX11_tree : MethodName := ⟨RX11, "tree", "(IIII)I"⟩
abbrev cX11_pole : ByteArray := prog_1_method_9_code
def yX11_pole : MethodName := ⟨RX11, "pole", "(IIIII)I"⟩
abbrev cX11_raise : ByteArray := prog_1_method_10_code
def yX11_raise : MethodName := ⟨RX11, "raise", "(III)I"⟩
abbrev cX11_fell : ByteArray := prog_1_method_11_code
def yX11_fell : MethodName := ⟨RX11, "fell", "(II)Z"⟩
abbrev cX11_height : ByteArray := prog_1_method_12_code
def yX11_height : MethodName := ⟨RX11, "height", "(III)I"⟩
abbrev cX11_measure : ByteArray := prog_1_method_13_code
def yX11_measure : MethodName := ⟨RX11, "measure", "(III)I"⟩
abbrev cX11_thing : ByteArray := prog_1_method_14_code
def yX11_thing : MethodName := ⟨RX11, "thing", "(II)I"⟩
abbrev cX11_entry : ByteArray := prog_1_method_15_code
def yX11_entry : MethodName := ⟨RX11, "entry", "(III)I"⟩
abbrev cX11_grant : ByteArray := prog_1_method_16_code
def yX11_grant : MethodName := ⟨RX11, "grant", "(IIIIIIII)I"⟩
abbrev cX11_holder : ByteArray := prog_1_method_17_code
def yX11_holder : MethodName := ⟨RX11, "holder", "(IIII)I"⟩
abbrev cX11_shaded : ByteArray := prog_1_method_18_code
def yX11_shaded : MethodName := ⟨RX11, "shaded", "(IIII)I"⟩
abbrev cX11_parts : ByteArray := prog_1_method_19_code
def yX11_parts : MethodName := ⟨RX11, "parts", "(IIIII)I"⟩
abbrev cX11_shadow : ByteArray := prog_1_method_20_code
def yX11_shadow : MethodName := ⟨RX11, "shadow", "(IIII)I"⟩
abbrev cX11_account : ByteArray := prog_1_method_21_code
def yX11_account : MethodName := ⟨RX11, "account", "(IIII)J"⟩
abbrev cX11_bill : ByteArray := prog_1_method_22_code
def yX11_bill : MethodName := ⟨RX11, "bill", "(IIII)J"⟩
abbrev cX11_feed : ByteArray := prog_1_method_23_code
def yX11_feed : MethodName := ⟨RX11, "feed", "(IIIII)I"⟩
abbrev cX11_end : ByteArray := prog_1_method_24_code
def yX11_end : MethodName := ⟨RX11, "end", "(I)I"⟩
abbrev cX11_tariff : ByteArray := prog_1_method_25_code
def yX11_tariff : MethodName := ⟨RX11, "tariff", "()I"⟩
abbrev cX11_fault : ByteArray := prog_1_method_26_code
def yX11_fault : MethodName := ⟨RX11, "fault", "(I)I"⟩
abbrev cX11_gives : ByteArray := prog_1_method_27_code
def yX11_gives : MethodName := ⟨RX11, "gives", "(IIIIII)I"⟩
abbrev cX11_stall : ByteArray := prog_1_method_28_code
def yX11_stall : MethodName := ⟨RX11, "stall", "(III)I"⟩
abbrev cX11_place : ByteArray := prog_1_method_29_code
def yX11_place : MethodName := ⟨RX11, "place", "(III)Z"⟩
abbrev cX11_placeOf : ByteArray := prog_1_method_30_code
def yX11_placeOf : MethodName := ⟨RX11, "placeOf", "(II)I"⟩
abbrev cX11_fees : ByteArray := prog_1_method_31_code
def yX11_fees : MethodName := ⟨RX11, "fees", "(III)J"⟩
abbrev cX11_walk : ByteArray := prog_1_method_32_code
def yX11_walk : MethodName := ⟨RX11, "walk", "(IIIII)I"⟩
abbrev cX11_walked : ByteArray := prog_1_method_33_code
def yX11_walked : MethodName := ⟨RX11, "walked", "(I)J"⟩
abbrev cX11_best : ByteArray := prog_1_method_34_code
def yX11_best : MethodName := ⟨RX11, "best", "(II)I"⟩
abbrev cX11_serves : ByteArray := prog_1_method_35_code
def yX11_serves : MethodName := ⟨RX11, "serves", "(II)I"⟩
abbrev cX11_about : ByteArray := prog_1_method_36_code
def yX11_about : MethodName := ⟨RX11, "about", "(I)I"⟩
abbrev cX11_isDay : ByteArray := prog_1_method_37_code
def yX11_isDay : MethodName := ⟨RX11, "isDay", "(I)Z"⟩
abbrev cX11_isSpan : ByteArray := prog_1_method_38_code
def yX11_isSpan : MethodName := ⟨RX11, "isSpan", "(II)Z"⟩
abbrev cX11_isHour : ByteArray := prog_1_method_39_code
def yX11_isHour : MethodName := ⟨RX11, "isHour", "(I)Z"⟩
abbrev cX11_isHeight : ByteArray := prog_1_method_40_code
def yX11_isHeight : MethodName := ⟨RX11, "isHeight", "(I)Z"⟩
abbrev cX11_isWithin : ByteArray := prog_1_method_41_code
def yX11_isWithin : MethodName := ⟨RX11, "isWithin", "(II)Z"⟩
abbrev cX11_isPairOfTwelve : ByteArray := prog_1_method_42_code
def yX11_isPairOfTwelve : MethodName := ⟨RX11, "isPairOfTwelve", "(I)Z"⟩
abbrev cX11_monthOf : ByteArray := prog_1_method_43_code
def yX11_monthOf : MethodName := ⟨RX11, "monthOf", "(I)I"⟩
abbrev cX11_cellsAside : ByteArray := prog_1_method_44_code
def yX11_cellsAside : MethodName := ⟨RX11, "cellsAside", "(II)I"⟩
abbrev cX11_isPerson : ByteArray := prog_1_method_45_code
def yX11_isPerson : MethodName := ⟨RX11, "isPerson", "(I)Z"⟩
abbrev cX11_isThing : ByteArray := prog_1_method_46_code
def yX11_isThing : MethodName := ⟨RX11, "isThing", "(I)Z"⟩
abbrev cX11_isStall : ByteArray := prog_1_method_47_code
def yX11_isStall : MethodName := ⟨RX11, "isStall", "(I)Z"⟩
abbrev cX11_mayStand : ByteArray := prog_1_method_48_code
def yX11_mayStand : MethodName := ⟨RX11, "mayStand", "(III)Z"⟩
abbrev cX11_isBuiltOn : ByteArray := prog_1_method_49_code
def yX11_isBuiltOn : MethodName := ⟨RX11, "isBuiltOn", "(I)Z"⟩
abbrev cX11_addThing : ByteArray := prog_1_method_50_code
def yX11_addThing : MethodName := ⟨RX11, "addThing", "(LShadeRegister$Thing;I)I"⟩
abbrev cX11_standingNow : ByteArray := prog_1_method_51_code
def yX11_standingNow : MethodName := ⟨RX11, "standingNow", "()I"⟩
abbrev cX11_nearestHeight : ByteArray := prog_1_method_52_code
def yX11_nearestHeight : MethodName := ⟨RX11, "nearestHeight", "(LShadeRegister$Thing;III)I"⟩
abbrev cX11_findHolders : ByteArray := prog_1_method_53_code
def yX11_findHolders : MethodName := ⟨RX11, "findHolders", "(III)V"⟩
abbrev cX11_heldBy : ByteArray := prog_1_method_54_code
def yX11_heldBy : MethodName := ⟨RX11, "heldBy", "(IIII)I"⟩
abbrev cX11_partsOnDay : ByteArray := prog_1_method_55_code
def yX11_partsOnDay : MethodName := ⟨RX11, "partsOnDay", "(III)J"⟩
abbrev cX11_partsOverYear : ByteArray := prog_1_method_56_code
def yX11_partsOverYear : MethodName := ⟨RX11, "partsOverYear", "(II)J"⟩
abbrev cX11_chargeOf : ByteArray := prog_1_method_57_code
def yX11_chargeOf : MethodName := ⟨RX11, "chargeOf", "(IIII)J"⟩
abbrev cX11_mayTake : ByteArray := prog_1_method_58_code
def yX11_mayTake : MethodName := ⟨RX11, "mayTake", "(III)Z"⟩
abbrev cX11_leadThroughHour : ByteArray := prog_1_method_59_code
def yX11_leadThroughHour : MethodName := ⟨RX11, "leadThroughHour", "(IIIZ)V"⟩
abbrev cX11_mayWalk : ByteArray := prog_1_method_60_code
def yX11_mayWalk : MethodName := ⟨RX11, "mayWalk", "(II)Z"⟩
abbrev cX11_bestTree : ByteArray := prog_1_method_61_code
def yX11_bestTree : MethodName := ⟨RX11, "bestTree", "(II)I"⟩
abbrev cX11_hasStall : ByteArray := prog_1_method_62_code
def yX11_hasStall : MethodName := ⟨RX11, "hasStall", "(II)Z"⟩
abbrev cX11_serveHour : ByteArray := prog_1_method_63_code
def yX11_serveHour : MethodName := ⟨RX11, "serveHour", "(II)V"⟩
abbrev cX11_servePlace : ByteArray := prog_1_method_64_code
def yX11_servePlace : MethodName := ⟨RX11, "servePlace", "(III)V"⟩
def RX12 : String := "ShadeRegisterModel"
def TX12 : u_T := fun k => match k with
  | 0 => ("ShadeRegisterModel", "wide", "I", true)
  | 1 => ("ShadeRegisterModel", "high", "I", true)
  | 2 => ("ShadeRegisterModel", "cells", "I", true)
  | 3 => ("ShadeRegisterModel", "clock", "I", false)
  | 4 => ("ShadeRegisterModel", "ux", "[I", true)
  | 5 => ("ShadeRegisterModel", "uy", "[I", true)
  | 6 => ("ShadeRegisterModel", "clouds", "I", false)
  | 7 => ("ShadeRegisterModel", "cloudDay", "[I", true)
  | 8 => ("ShadeRegisterModel", "cloudHour", "[I", true)
  | 9 => ("ShadeRegisterModel", "people", "I", false)
  | 10 => ("ShadeRegisterModel", "diedDay", "[I", true)
  | 11 => ("ShadeRegisterModel", "diedTold", "[I", true)
  | 12 => ("ShadeRegisterModel", "things", "I", false)
  | 13 => ("ShadeRegisterModel", "kind", "[I", true)
  | 14 => ("ShadeRegisterModel", "cellOf", "[I", true)
  | 15 => ("ShadeRegisterModel", "owner", "[I", true)
  | 16 => ("ShadeRegisterModel", "since", "[I", true)
  | 17 => ("ShadeRegisterModel", "growsIn", "[I", true)
  | 18 => ("ShadeRegisterModel", "leanX", "[I", true)
  | 19 => ("ShadeRegisterModel", "leanY", "[I", true)
  | 20 => ("ShadeRegisterModel", "entries", "[I", true)
  | 21 => ("ShadeRegisterModel", "entryDay", "[I", true)
  | 22 => ("ShadeRegisterModel", "entryHeight", "[I", true)
  | 23 => ("ShadeRegisterModel", "entryTold", "[I", true)
  | 24 => ("ShadeRegisterModel", "fellDay", "[I", true)
  | 25 => ("ShadeRegisterModel", "fellTold", "[I", true)
  | 26 => ("ShadeRegisterModel", "measured", "[I", true)
  | 27 => ("ShadeRegisterModel", "grants", "I", false)
  | 28 => ("ShadeRegisterModel", "giver", "[I", true)
  | 29 => ("ShadeRegisterModel", "taker", "[I", true)
  | 30 => ("ShadeRegisterModel", "grantThing", "[I", true)
  | 31 => ("ShadeRegisterModel", "hourFrom", "[I", true)
  | 32 => ("ShadeRegisterModel", "hourTo", "[I", true)
  | 33 => ("ShadeRegisterModel", "monthFrom", "[I", true)
  | 34 => ("ShadeRegisterModel", "monthTo", "[I", true)
  | 35 => ("ShadeRegisterModel", "grantFrom", "[I", true)
  | 36 => ("ShadeRegisterModel", "grantTo", "[I", true)
  | 37 => ("ShadeRegisterModel", "grantSort", "[I", true)
  | 38 => ("ShadeRegisterModel", "grantTold", "[I", true)
  | 39 => ("ShadeRegisterModel", "tape", "[B", true)
  | 40 => ("ShadeRegisterModel", "taped", "I", false)
  | 41 => ("ShadeRegisterModel", "length", "I", false)
  | 42 => ("ShadeRegisterModel", "at", "I", false)
  | 43 => ("ShadeRegisterModel", "token", "I", false)
  | 44 => ("ShadeRegisterModel", "sort", "I", false)
  | 45 => ("ShadeRegisterModel", "told", "I", false)
  | 46 => ("ShadeRegisterModel", "wrong", "I", false)
  | 47 => ("ShadeRegisterModel", "wrongAt", "I", false)
  | 48 => ("ShadeRegisterModel", "fault", "I", false)
  | 49 => ("ShadeRegisterModel", "faultAt", "I", false)
  | 50 => ("ShadeRegisterModel", "newOrders", "I", false)
  | 51 => ("ShadeRegisterModel", "newRules", "I", false)
  | 52 => ("ShadeRegisterModel", "newOrder", "[I", true)
  | 53 => ("ShadeRegisterModel", "newValue", "[I", true)
  | 54 => ("ShadeRegisterModel", "orders", "I", false)
  | 55 => ("ShadeRegisterModel", "rules", "I", false)
  | 56 => ("ShadeRegisterModel", "order", "[I", true)
  | 57 => ("ShadeRegisterModel", "value", "[I", true)
  | 58 => ("ShadeRegisterModel", "frames", "I", false)
  | 59 => ("ShadeRegisterModel", "frame", "[I", true)
  | 60 => ("ShadeRegisterModel", "waits", "I", false)
  | 61 => ("ShadeRegisterModel", "wait", "[I", true)
  | 62 => ("ShadeRegisterModel", "waitFrame", "[I", true)
  | 63 => ("ShadeRegisterModel", "open", "I", false)
  | 64 => ("ShadeRegisterModel", "pile", "[J", true)
  | 65 => ("ShadeRegisterModel", "name", "[I", true)
  | 66 => ("ShadeRegisterModel", "stalls", "I", false)
  | 67 => ("ShadeRegisterModel", "stallOf", "[I", true)
  | 68 => ("ShadeRegisterModel", "stallFrom", "[I", true)
  | 69 => ("ShadeRegisterModel", "stallTo", "[I", true)
  | 70 => ("ShadeRegisterModel", "place", "[I", true)
  | 71 => ("ShadeRegisterModel", "dark", "[Z", true)
  | 72 => ("ShadeRegisterModel", "set", "[I", true)
  | 73 => ("ShadeRegisterModel", "many", "[I", true)
  | 74 => ("ShadeRegisterModel", "isClear", "[Z", true)
  | 75 => ("ShadeRegisterModel", "tall", "[I", true)
  | 76 => ("ShadeRegisterModel", "holders", "[I", true)
  | 77 => ("ShadeRegisterModel", "minOrMax", "[I", true)
  | 78 => ("ShadeRegisterModel", "state", "I", false)
  | 79 => ("ShadeRegisterModel", "compare", "[I", true)
  | 80 => ("ShadeRegisterModel", "mayBe", "[Z", true)
  | 81 => ("ShadeRegisterModel", "sunHere", "[I", true)
  | 82 => ("ShadeRegisterModel", "costHere", "[J", true)
  | 83 => ("ShadeRegisterModel", "sunLeft", "[I", true)
  | 84 => ("ShadeRegisterModel", "costLeft", "[J", true)
  | 85 => ("ShadeRegisterModel", "walkHours", "I", false)
  | 86 => ("ShadeRegisterModel", "walkCost", "J", false)
  | 87 => ("ShadeRegisterModel", "walked", "[I", true)
  | 88 => ("ShadeRegisterModel", "bestServes", "I", false)
  | _ => ("ShadeRegisterModel", "serves", "[I", true)
def tyX12 : Nat → FieldType := fun k => match k with
  | 0 => .int
  | 1 => .int
  | 2 => .int
  | 3 => .int
  | 4 => .array .int
  | 5 => .array .int
  | 6 => .int
  | 7 => .array .int
  | 8 => .array .int
  | 9 => .int
  | 10 => .array .int
  | 11 => .array .int
  | 12 => .int
  | 13 => .array .int
  | 14 => .array .int
  | 15 => .array .int
  | 16 => .array .int
  | 17 => .array .int
  | 18 => .array .int
  | 19 => .array .int
  | 20 => .array .int
  | 21 => .array .int
  | 22 => .array .int
  | 23 => .array .int
  | 24 => .array .int
  | 25 => .array .int
  | 26 => .array .int
  | 27 => .int
  | 28 => .array .int
  | 29 => .array .int
  | 30 => .array .int
  | 31 => .array .int
  | 32 => .array .int
  | 33 => .array .int
  | 34 => .array .int
  | 35 => .array .int
  | 36 => .array .int
  | 37 => .array .int
  | 38 => .array .int
  | 39 => .array .byte
  | 40 => .int
  | 41 => .int
  | 42 => .int
  | 43 => .int
  | 44 => .int
  | 45 => .int
  | 46 => .int
  | 47 => .int
  | 48 => .int
  | 49 => .int
  | 50 => .int
  | 51 => .int
  | 52 => .array .int
  | 53 => .array .int
  | 54 => .int
  | 55 => .int
  | 56 => .array .int
  | 57 => .array .int
  | 58 => .int
  | 59 => .array .int
  | 60 => .int
  | 61 => .array .int
  | 62 => .array .int
  | 63 => .int
  | 64 => .array .long
  | 65 => .array .int
  | 66 => .int
  | 67 => .array .int
  | 68 => .array .int
  | 69 => .array .int
  | 70 => .array .int
  | 71 => .array .boolean
  | 72 => .array .int
  | 73 => .array .int
  | 74 => .array .boolean
  | 75 => .array .int
  | 76 => .array .int
  | 77 => .array .int
  | 78 => .int
  | 79 => .array .int
  | 80 => .array .boolean
  | 81 => .array .int
  | 82 => .array .long
  | 83 => .array .int
  | 84 => .array .long
  | 85 => .int
  | 86 => .long
  | 87 => .array .int
  | 88 => .int
  | _ => .array .int
abbrev wsX120 : List Cond := u_ws RX12 TX12 90
theorem nmX12 : ∀ a, a < 90 → ∀ b, b < 90 → a ≠ b → (TX12 a).2.1 ≠ (TX12 b).2.1 := by decide +kernel
theorem tyX12_ok : ∀ k, k < 90 → parseFieldDescriptor (TX12 k).2.2.1 = some (tyX12 k) := by decide +kernel
abbrev cX12_init : ByteArray := prog_14_method_1_code
def yX12_init : MethodName := ⟨RX12, "<init>", "(II)V"⟩
abbrev cX12_in : ByteArray := prog_14_method_2_code
def yX12_in : MethodName := ⟨RX12, "in", "(JJJ)Z"⟩
abbrev cX12_isDay : ByteArray := prog_14_method_3_code
def yX12_isDay : MethodName := ⟨RX12, "isDay", "(I)Z"⟩
abbrev cX12_isHour : ByteArray := prog_14_method_4_code
def yX12_isHour : MethodName := ⟨RX12, "isHour", "(I)Z"⟩
abbrev cX12_isCell : ByteArray := prog_14_method_5_code
def yX12_isCell : MethodName := ⟨RX12, "isCell", "(I)Z"⟩
abbrev cX12_isPerson : ByteArray := prog_14_method_6_code
def yX12_isPerson : MethodName := ⟨RX12, "isPerson", "(I)Z"⟩
abbrev cX12_isThing : ByteArray := prog_14_method_7_code
def yX12_isThing : MethodName := ⟨RX12, "isThing", "(I)Z"⟩
abbrev cX12_monthOf : ByteArray := prog_14_method_8_code
def yX12_monthOf : MethodName := ⟨RX12, "monthOf", "(I)I"⟩
abbrev cX12_days : ByteArray := prog_14_method_9_code
def yX12_days : MethodName := ⟨RX12, "days", "(I)I"⟩
abbrev cX12_sun : ByteArray := prog_14_method_10_code
def yX12_sun : MethodName := ⟨RX12, "sun", "(IIII)Z"⟩
abbrev cX12_isCloud : ByteArray := prog_14_method_11_code
def yX12_isCloud : MethodName := ⟨RX12, "isCloud", "(II)Z"⟩
abbrev cX12_cloud : ByteArray := prog_14_method_12_code
def yX12_cloud : MethodName := ⟨RX12, "cloud", "(II)I"⟩
abbrev cX12_person : ByteArray := prog_14_method_13_code
def yX12_person : MethodName := ⟨RX12, "person", "()I"⟩
abbrev cX12_died : ByteArray := prog_14_method_14_code
def yX12_died : MethodName := ⟨RX12, "died", "(II)Z"⟩
abbrev cX12_mayStand : ByteArray := prog_14_method_15_code
def yX12_mayStand : MethodName := ⟨RX12, "mayStand", "(III)Z"⟩
abbrev cX12_stands : ByteArray := prog_14_method_16_code
def yX12_stands : MethodName := ⟨RX12, "stands", "(IIII)I"⟩
abbrev cX12_enters : ByteArray := prog_14_method_17_code
def yX12_enters : MethodName := ⟨RX12, "enters", "(III)V"⟩
abbrev cX12_wall : ByteArray := prog_14_method_18_code
def yX12_wall : MethodName := ⟨RX12, "wall", "(III)I"⟩
abbrev cX12_tree : ByteArray := prog_14_method_19_code
def yX12_tree : MethodName := ⟨RX12, "tree", "(IIII)I"⟩
abbrev cX12_pole : ByteArray := prog_14_method_20_code
def yX12_pole : MethodName := ⟨RX12, "pole", "(IIIII)I"⟩
abbrev cX12_raise : ByteArray := prog_14_method_21_code
def yX12_raise : MethodName := ⟨RX12, "raise", "(III)I"⟩
abbrev cX12_fell : ByteArray := prog_14_method_22_code
def yX12_fell : MethodName := ⟨RX12, "fell", "(II)Z"⟩
abbrev cX12_entryFor : ByteArray := prog_14_method_23_code
def yX12_entryFor : MethodName := ⟨RX12, "entryFor", "(III)I"⟩
abbrev cX12_heightOf : ByteArray := prog_14_method_24_code
def yX12_heightOf : MethodName := ⟨RX12, "heightOf", "(III)I"⟩
abbrev cX12_height : ByteArray := prog_14_method_25_code
def yX12_height : MethodName := ⟨RX12, "height", "(III)I"⟩
abbrev cX12_isOpen : ByteArray := prog_14_method_26_code
def yX12_isOpen : MethodName := ⟨RX12, "isOpen", "(III)Z"⟩
abbrev cX12_below : ByteArray := prog_14_method_27_code
def yX12_below : MethodName := ⟨RX12, "below", "(I)I"⟩
abbrev cX12_pointOf : ByteArray := prog_14_method_28_code
def yX12_pointOf : MethodName := ⟨RX12, "pointOf", "(IIIIII)I"⟩
abbrev cX12_shades : ByteArray := prog_14_method_29_code
def yX12_shades : MethodName := ⟨RX12, "shades", "(IIIIII)V"⟩
abbrev cX12_looks : ByteArray := prog_14_method_30_code
def yX12_looks : MethodName := ⟨RX12, "looks", "(III)V"⟩
abbrev cX12_isAsked : ByteArray := prog_14_method_31_code
def yX12_isAsked : MethodName := ⟨RX12, "isAsked", "(III)Z"⟩
abbrev cX12_shaded : ByteArray := prog_14_method_32_code
def yX12_shaded : MethodName := ⟨RX12, "shaded", "(IIII)I"⟩
abbrev cX12_shadow : ByteArray := prog_14_method_33_code
def yX12_shadow : MethodName := ⟨RX12, "shadow", "(IIII)I"⟩
abbrev cX12_grant : ByteArray := prog_14_method_34_code
def yX12_grant : MethodName := ⟨RX12, "grant", "(IIIIIIII)I"⟩
abbrev cX12_holdsOn : ByteArray := prog_14_method_35_code
def yX12_holdsOn : MethodName := ⟨RX12, "holdsOn", "(IIII)Z"⟩
abbrev cX12_holderOf : ByteArray := prog_14_method_36_code
def yX12_holderOf : MethodName := ⟨RX12, "holderOf", "(IIII)I"⟩
abbrev cX12_holder : ByteArray := prog_14_method_37_code
def yX12_holder : MethodName := ⟨RX12, "holder", "(IIII)I"⟩
abbrev cX12_holds : ByteArray := prog_14_method_38_code
def yX12_holds : MethodName := ⟨RX12, "holds", "(III)V"⟩
abbrev cX12_partsIn : ByteArray := prog_14_method_39_code
def yX12_partsIn : MethodName := ⟨RX12, "partsIn", "(II)I"⟩
abbrev cX12_parts : ByteArray := prog_14_method_40_code
def yX12_parts : MethodName := ⟨RX12, "parts", "(IIIII)I"⟩
abbrev cX12_partsOn : ByteArray := prog_14_method_41_code
def yX12_partsOn : MethodName := ⟨RX12, "partsOn", "(III)J"⟩
abbrev cX12_account : ByteArray := prog_14_method_42_code
def yX12_account : MethodName := ⟨RX12, "account", "(IIII)J"⟩
abbrev cX12_bill : ByteArray := prog_14_method_43_code
def yX12_bill : MethodName := ⟨RX12, "bill", "(IIII)J"⟩
abbrev cX12_measure : ByteArray := prog_14_method_44_code
def yX12_measure : MethodName := ⟨RX12, "measure", "(III)I"⟩
abbrev cX12_far : ByteArray := prog_14_method_45_code
def yX12_far : MethodName := ⟨RX12, "far", "(II)I"⟩
abbrev cX12_thing : ByteArray := prog_14_method_46_code
def yX12_thing : MethodName := ⟨RX12, "thing", "(II)I"⟩
abbrev cX12_entry : ByteArray := prog_14_method_47_code
def yX12_entry : MethodName := ⟨RX12, "entry", "(III)I"⟩
abbrev cX12_put : ByteArray := prog_14_method_48_code
def yX12_put : MethodName := ⟨RX12, "put", "(I)V"⟩
abbrev cX12_feed : ByteArray := prog_14_method_49_code
def yX12_feed : MethodName := ⟨RX12, "feed", "(IIIII)I"⟩
abbrev cX12_end : ByteArray := prog_14_method_50_code
def yX12_end : MethodName := ⟨RX12, "end", "(I)I"⟩
abbrev cX12_isLetter : ByteArray := prog_14_method_51_code
def yX12_isLetter : MethodName := ⟨RX12, "isLetter", "(I)Z"⟩
abbrev cX12_wordOf : ByteArray := prog_14_method_52_code
def yX12_wordOf : MethodName := ⟨RX12, "wordOf", "(J)I"⟩
abbrev cX12_next : ByteArray := prog_14_method_53_code
def yX12_next : MethodName := ⟨RX12, "next", "()V"⟩
abbrev cX12_isSignByte : ByteArray := prog_14_method_54_code
def yX12_isSignByte : MethodName := ⟨RX12, "isSignByte", "(I)Z"⟩
abbrev cX12_isSign : ByteArray := prog_14_method_55_code
def yX12_isSign : MethodName := ⟨RX12, "isSign", "(I)Z"⟩
abbrev cX12_isWord : ByteArray := prog_14_method_56_code
def yX12_isWord : MethodName := ⟨RX12, "isWord", "(I)Z"⟩
abbrev cX12_errs : ByteArray := prog_14_method_57_code
def yX12_errs : MethodName := ⟨RX12, "errs", "(I)V"⟩
abbrev cX12_emits : ByteArray := prog_14_method_58_code
def yX12_emits : MethodName := ⟨RX12, "emits", "(II)V"⟩
abbrev cX12_opensFrame : ByteArray := prog_14_method_59_code
def yX12_opensFrame : MethodName := ⟨RX12, "opensFrame", "(I)V"⟩
abbrev cX12_top : ByteArray := prog_14_method_60_code
def yX12_top : MethodName := ⟨RX12, "top", "()I"⟩
abbrev cX12_opensSign : ByteArray := prog_14_method_61_code
def yX12_opensSign : MethodName := ⟨RX12, "opensSign", "(I)Z"⟩
abbrev cX12_rank : ByteArray := prog_14_method_62_code
def yX12_rank : MethodName := ⟨RX12, "rank", "(I)I"⟩
abbrev cX12_works : ByteArray := prog_14_method_63_code
def yX12_works : MethodName := ⟨RX12, "works", "(I)V"⟩
abbrev cX12_waitsFor : ByteArray := prog_14_method_64_code
def yX12_waitsFor : MethodName := ⟨RX12, "waitsFor", "(I)V"⟩
abbrev cX12_asks : ByteArray := prog_14_method_65_code
def yX12_asks : MethodName := ⟨RX12, "asks", "()V"⟩
abbrev cX12_begins : ByteArray := prog_14_method_66_code
def yX12_begins : MethodName := ⟨RX12, "begins", "()V"⟩
abbrev cX12_oneIsOver : ByteArray := prog_14_method_67_code
def yX12_oneIsOver : MethodName := ⟨RX12, "oneIsOver", "()V"⟩
abbrev cX12_askIsOver : ByteArray := prog_14_method_68_code
def yX12_askIsOver : MethodName := ⟨RX12, "askIsOver", "()V"⟩
abbrev cX12_isAsking : ByteArray := prog_14_method_69_code
def yX12_isAsking : MethodName := ⟨RX12, "isAsking", "(I)Z"⟩
abbrev cX12_goesOn : ByteArray := prog_14_method_70_code
def yX12_goesOn : MethodName := ⟨RX12, "goesOn", "()V"⟩
abbrev cX12_asksOn : ByteArray := prog_14_method_71_code
def yX12_asksOn : MethodName := ⟨RX12, "asksOn", "()V"⟩
abbrev cX12_rule : ByteArray := prog_14_method_72_code
def yX12_rule : MethodName := ⟨RX12, "rule", "()V"⟩
abbrev cX12_tariff : ByteArray := prog_14_method_73_code
def yX12_tariff : MethodName := ⟨RX12, "tariff", "()I"⟩
abbrev cX12_fault : ByteArray := prog_14_method_74_code
def yX12_fault : MethodName := ⟨RX12, "fault", "(I)I"⟩
abbrev cX12_bound : ByteArray := prog_14_method_75_code
def yX12_bound : MethodName := ⟨RX12, "bound", "(J)J"⟩
abbrev cX12_worked : ByteArray := prog_14_method_76_code
def yX12_worked : MethodName := ⟨RX12, "worked", "(IJJ)J"⟩
abbrev cX12_given : ByteArray := prog_14_method_77_code
def yX12_given : MethodName := ⟨RX12, "given", "()J"⟩
abbrev cX12_gives : ByteArray := prog_14_method_78_code
def yX12_gives : MethodName := ⟨RX12, "gives", "(IIIIII)I"⟩
abbrev cX12_stall : ByteArray := prog_14_method_79_code
def yX12_stall : MethodName := ⟨RX12, "stall", "(III)I"⟩
abbrev cX12_mayPlace : ByteArray := prog_14_method_80_code
def yX12_mayPlace : MethodName := ⟨RX12, "mayPlace", "(III)Z"⟩
abbrev cX12_place : ByteArray := prog_14_method_81_code
def yX12_place : MethodName := ⟨RX12, "place", "(III)Z"⟩
abbrev cX12_placeOf : ByteArray := prog_14_method_82_code
def yX12_placeOf : MethodName := ⟨RX12, "placeOf", "(II)I"⟩
abbrev cX12_charge : ByteArray := prog_14_method_83_code
def yX12_charge : MethodName := ⟨RX12, "charge", "(IIIII)J"⟩
abbrev cX12_fees : ByteArray := prog_14_method_84_code
def yX12_fees : MethodName := ⟨RX12, "fees", "(III)J"⟩
abbrev cX12_isTaken : ByteArray := prog_14_method_85_code
def yX12_isTaken : MethodName := ⟨RX12, "isTaken", "(III)Z"⟩
abbrev cX12_beside : ByteArray := prog_14_method_86_code
def yX12_beside : MethodName := ⟨RX12, "beside", "(II)I"⟩
abbrev cX12_nextOf : ByteArray := prog_14_method_87_code
def yX12_nextOf : MethodName := ⟨RX12, "nextOf", "(II)I"⟩
abbrev cX12_walk : ByteArray := prog_14_method_88_code
def yX12_walk : MethodName := ⟨RX12, "walk", "(IIIII)I"⟩
abbrev cX12_walked : ByteArray := prog_14_method_89_code
def yX12_walked : MethodName := ⟨RX12, "walked", "(I)J"⟩
abbrev cX12_servedBy : ByteArray := prog_14_method_90_code
def yX12_servedBy : MethodName := ⟨RX12, "servedBy", "(IIII)I"⟩
abbrev cX12_seeks : ByteArray := prog_14_method_91_code
def yX12_seeks : MethodName := ⟨RX12, "seeks", "(II)I"⟩
abbrev cX12_best : ByteArray := prog_14_method_92_code
def yX12_best : MethodName := ⟨RX12, "best", "(II)I"⟩
abbrev cX12_serves : ByteArray := prog_14_method_93_code
def yX12_serves : MethodName := ⟨RX12, "serves", "(II)I"⟩
abbrev cX12_about : ByteArray := prog_14_method_94_code
def yX12_about : MethodName := ⟨RX12, "about", "(I)I"⟩
def RJx145de : String := "java/io/Serializable"
def RJx8e188 : String := "java/lang/Cloneable"
def RJ6 : String := "java/lang/Integer"
abbrev cJ6_bitCount_0f7a4 : ByteArray := prog_17_method_49_code
def yJ6_bitCount_0f7a4 : MethodName := ⟨RJ6, "bitCount", "(I)I"⟩
def RJxab1ab : String := "java/lang/Iterable"
def RJ9 : String := "java/lang/Math"
abbrev cJ9_floorDiv_7cf53 : ByteArray := prog_19_method_47_code
def yJ9_floorDiv_7cf53 : MethodName := ⟨RJ9, "floorDiv", "(II)I"⟩
abbrev cJ9_abs_0f7a4 : ByteArray := prog_19_method_59_code
def yJ9_abs_0f7a4 : MethodName := ⟨RJ9, "abs", "(I)I"⟩
abbrev cJ9_max_7cf53 : ByteArray := prog_19_method_65_code
def yJ9_max_7cf53 : MethodName := ⟨RJ9, "max", "(II)I"⟩
abbrev cJ9_max_f86c9 : ByteArray := prog_19_method_66_code
def yJ9_max_f86c9 : MethodName := ⟨RJ9, "max", "(JJ)J"⟩
abbrev cJ9_min_7cf53 : ByteArray := prog_19_method_69_code
def yJ9_min_7cf53 : MethodName := ⟨RJ9, "min", "(II)I"⟩
abbrev cJ9_min_f86c9 : ByteArray := prog_19_method_70_code
def yJ9_min_f86c9 : MethodName := ⟨RJ9, "min", "(JJ)J"⟩
def RJ0 : String := "java/lang/String"
abbrev cJ0_length_8abf5 : ByteArray := prog_20_method_54_code
def yJ0_length_8abf5 : MethodName := ⟨RJ0, "length", "()I"⟩
abbrev cJ0_charAt_5068e : ByteArray := prog_20_method_56_code
def yJ0_charAt_5068e : MethodName := ⟨RJ0, "charAt", "(I)C"⟩
abbrev cJ0_coder_7d493 : ByteArray := prog_20_method_152_code
def yJ0_coder_7d493 : MethodName := ⟨RJ0, "coder", "()B"⟩
abbrev cJ0_isLatin1_aae02 : ByteArray := prog_20_method_154_code
def yJ0_isLatin1_aae02 : MethodName := ⟨RJ0, "isLatin1", "()Z"⟩
abbrev cJ0_checkIndex_df160 : ByteArray := prog_20_method_155_code
def yJ0_checkIndex_df160 : MethodName := ⟨RJ0, "checkIndex", "(II)V"⟩
def RJ1 : String := "java/lang/StringLatin1"
abbrev cJ1_charAt_3b067 : ByteArray := prog_21_method_2_code
def yJ1_charAt_3b067 : MethodName := ⟨RJ1, "charAt", "([BI)C"⟩
def RJ2 : String := "java/lang/StringUTF16"
abbrev cJ2_getChar_3b067 : ByteArray := prog_22_method_5_code
def yJ2_getChar_3b067 : MethodName := ⟨RJ2, "getChar", "([BI)C"⟩
abbrev cJ2_length_9d52b : ByteArray := prog_22_method_6_code
def yJ2_length_9d52b : MethodName := ⟨RJ2, "length", "([B)I"⟩
abbrev cJ2_charAt_3b067 : ByteArray := prog_22_method_83_code
def yJ2_charAt_3b067 : MethodName := ⟨RJ2, "charAt", "([BI)C"⟩
abbrev cJ2_checkIndex_2214a : ByteArray := prog_22_method_91_code
def yJ2_checkIndex_2214a : MethodName := ⟨RJ2, "checkIndex", "(I[B)V"⟩
def RJ10 : String := "java/lang/System"
def RJxa1e45 : String := "java/util/AbstractCollection"
abbrev cJxa1e45_init_da8c8 : ByteArray := prog_24_method_1_code
def yJxa1e45_init_da8c8 : MethodName := ⟨RJxa1e45, "<init>", "()V"⟩
def RJxc12de : String := "java/util/AbstractList"
abbrev cJxc12de_init_da8c8 : ByteArray := prog_25_method_1_code
def yJxc12de_init_da8c8 : MethodName := ⟨RJxc12de, "<init>", "()V"⟩
def RJx4a65c : String := "java/util/ArrayList"
def TJx4a65c : u_T := fun k => match k with
  | 0 => ("java/util/AbstractList", "modCount", "I", false)
  | 1 => ("java/util/ArrayList", "elementData", "[Ljava/lang/Object;", false)
  | _ => ("java/util/ArrayList", "size", "I", false)
def tyJx4a65c : Nat → FieldType := fun k => match k with
  | 0 => .int
  | 1 => .array (.object "java/lang/Object")
  | _ => .int
abbrev wsJx4a65c0 : List Cond := u_ws RJx4a65c TJx4a65c 3
theorem nmJx4a65c : ∀ a, a < 3 → ∀ b, b < 3 → a ≠ b → (TJx4a65c a).2.1 ≠ (TJx4a65c b).2.1 := by decide +kernel
theorem tyJx4a65c_ok : ∀ k, k < 3 → parseFieldDescriptor (TJx4a65c k).2.2.1 = some (tyJx4a65c k) := by decide +kernel
abbrev cJx4a65c_init_da8c8 : ByteArray := prog_26_method_2_code
def yJx4a65c_init_da8c8 : MethodName := ⟨RJx4a65c, "<init>", "()V"⟩
abbrev cJx4a65c_grow_92f84 : ByteArray := prog_26_method_6_code
def yJx4a65c_grow_92f84 : MethodName := ⟨RJx4a65c, "grow", "(I)[Ljava/lang/Object;"⟩
abbrev cJx4a65c_grow_d5877 : ByteArray := prog_26_method_7_code
def yJx4a65c_grow_d5877 : MethodName := ⟨RJx4a65c, "grow", "()[Ljava/lang/Object;"⟩
abbrev cJx4a65c_size_8abf5 : ByteArray := prog_26_method_8_code
def yJx4a65c_size_8abf5 : MethodName := ⟨RJx4a65c, "size", "()I"⟩
abbrev cJx4a65c_elementData_915e3 : ByteArray := prog_26_method_18_code
def yJx4a65c_elementData_915e3 : MethodName := ⟨RJx4a65c, "elementData", "(I)Ljava/lang/Object;"⟩
abbrev cJx4a65c_get_915e3 : ByteArray := prog_26_method_20_code
def yJx4a65c_get_915e3 : MethodName := ⟨RJx4a65c, "get", "(I)Ljava/lang/Object;"⟩
abbrev cJx4a65c_add_72be8 : ByteArray := prog_26_method_24_code
def yJx4a65c_add_72be8 : MethodName := ⟨RJx4a65c, "add", "(Ljava/lang/Object;[Ljava/lang/Object;I)V"⟩
abbrev cJx4a65c_add_9ea2d : ByteArray := prog_26_method_25_code
def yJx4a65c_add_9ea2d : MethodName := ⟨RJx4a65c, "add", "(Ljava/lang/Object;)Z"⟩
def RJ7 : String := "java/util/Arrays"
abbrev cJ7_fill_53178 : ByteArray := prog_27_method_103_code
def yJ7_fill_53178 : MethodName := ⟨RJ7, "fill", "([II)V"⟩
abbrev cJ7_copyOf_1904c : ByteArray := prog_27_method_119_code
def yJ7_copyOf_1904c : MethodName := ⟨RJ7, "copyOf", "([Ljava/lang/Object;I)[Ljava/lang/Object;"⟩
abbrev cJ7_copyOf_6403c : ByteArray := prog_27_method_120_code
def yJ7_copyOf_6403c : MethodName := ⟨RJ7, "copyOf", "([Ljava/lang/Object;ILjava/lang/Class;)[Ljava/lang/Object;"⟩
def RJx5ef63 : String := "java/util/Collection"
def RJxbd725 : String := "java/util/List"
def RJ15 : String := "java/util/Objects"
abbrev cJ15_checkIndex_7cf53 : ByteArray := prog_30_method_17_code
def yJ15_checkIndex_7cf53 : MethodName := ⟨RJ15, "checkIndex", "(II)I"⟩
def RJxf0a74 : String := "java/util/RandomAccess"
def RJxa66e6 : String := "java/util/SequencedCollection"
def RJ8 : String := "jdk/internal/util/ArraysSupport"
abbrev cJ8_newLength_cabcc : ByteArray := prog_33_method_27_code
def yJ8_newLength_cabcc : MethodName := ⟨RJ8, "newLength", "(III)I"⟩
abbrev cJ8_hugeLength_7cf53 : ByteArray := prog_33_method_28_code
def yJ8_hugeLength_7cf53 : MethodName := ⟨RJ8, "hugeLength", "(II)I"⟩
def RJ3 : String := "jdk/internal/util/Preconditions"
abbrev cJ3_checkIndex_8e157 : ByteArray := prog_34_method_11_code
def yJ3_checkIndex_8e157 : MethodName := ⟨RJ3, "checkIndex", "(IILjava/util/function/BiFunction;)I"⟩
def RL : String := "ShadeRegisterLaw"
abbrev cL_cell : ByteArray := method_2_code
def yL_cell : MethodName := ⟨RL, "cell", "([II)I"⟩
abbrev cL_law : ByteArray := code
def yL_law : MethodName := ⟨RL, "law", "([I)Z"⟩
end
section
/-! THE ABSTRACT MACHINE: a store of ints, longs and references by place and number; locals by their places; one step a function -/
abbrev az_V : Type := List (Option Value)
abbrev az_S : Type := Nat × Nat × (Nat → Nat × Nat) × (Nat → Nat → Int32) × (Nat → Nat → Int64) × (Nat → Nat → Option Nat)
abbrev az_I : Type := Nat × Nat × Instr × List Nat
abbrev az_n (σ : az_S) : Nat := σ.1
abbrev az_sl (σ : az_S) : Nat := σ.2.1
abbrev az_sh (σ : az_S) : Nat → Nat × Nat := σ.2.2.1
abbrev az_i (σ : az_S) : Nat → Nat → Int32 := σ.2.2.2.1
abbrev az_l (σ : az_S) : Nat → Nat → Int64 := σ.2.2.2.2.1
abbrev az_r (σ : az_S) : Nat → Nat → Option Nat := σ.2.2.2.2.2
def az_up {α : Type} (f : Nat → Nat → α) (a k : Nat) (v : α) : Nat → Nat → α := va_up f a (va_up (f a) k v)
abbrev az_pi (σ : az_S) (a k : Nat) (v : Int32) : az_S := (σ.1, σ.2.1, σ.2.2.1, az_up σ.2.2.2.1 a k v, σ.2.2.2.2)
abbrev az_pl (σ : az_S) (a k : Nat) (v : Int64) : az_S := (σ.1, σ.2.1, σ.2.2.1, σ.2.2.2.1, az_up σ.2.2.2.2.1 a k v, σ.2.2.2.2.2)
abbrev az_pr (σ : az_S) (a k : Nat) (v : Option Nat) : az_S := (σ.1, σ.2.1, σ.2.2.1, σ.2.2.2.1, σ.2.2.2.2.1, az_up σ.2.2.2.2.2 a k v)
/-- a new cell of a kind with m slots -/
abbrev az_nw (σ : az_S) (kd m : Nat) : az_S := (σ.1 + 1, σ.2.1 + m, va_up σ.2.2.1 σ.1 (kd, m), va_up σ.2.2.2.1 σ.1 (fun _ => 0), va_up σ.2.2.2.2.1 σ.1 (fun _ => 0), va_up σ.2.2.2.2.2 σ.1 (fun _ => none))
def az_get (L : az_V) (i : Nat) : Option Value := match L[i]? with
  | some u => u
  | none => none
def az_kl (u : Option Value) : Option Value := match u with
  | some (.long _) => none
  | some (.double _) => none
  | w => w
def az_kill (L : az_V) (i : Nat) : az_V := match i with
  | 0 => L
  | j + 1 => L.set j (az_kl (az_get L j))
def az_put1 (L : az_V) (i : Nat) (v : Value) : az_V := (az_kill L i).set i (some v)
def az_put2 (L : az_V) (i : Nat) (v : Value) : az_V := ((az_kill L i).set i (some v)).set (i + 1) none
/-- the kinds of the fields, a row a class in the order of vwCl: 0 a number, 1 a long, 2 a reference -/
def az_ft (ci k : Nat) : Nat := match ci with
  | 113 => ([2, 0] : List Nat).getD k 0
  | 0 => ([0, 2, 0] : List Nat).getD k 0
  | 1 => ([0, 2, 0, 0, 0, 0, 0, 0, 0, 0, 0, 0] : List Nat).getD k 0
  | 2 => ([0, 0, 0] : List Nat).getD k 0
  | 3 => ([2, 2, 0, 0, 0, 0] : List Nat).getD k 0
  | 4 => ([0, 0] : List Nat).getD k 0
  | 5 => ([2, 2, 2, 2, 2, 2, 2, 0, 1] : List Nat).getD k 0
  | 6 => ([2, 2, 2, 2, 2, 2, 0] : List Nat).getD k 0
  | 7 => ([2, 2, 2, 0] : List Nat).getD k 0
  | 8 => ([0, 0, 2] : List Nat).getD k 0
  | 9 => ([2, 0, 2, 2, 2, 0] : List Nat).getD k 0
  | 10 => ([2, 2, 2, 2, 2, 0, 0] : List Nat).getD k 0
  | 11 => ([0, 0, 0, 0, 0, 0, 0, 2, 2, 2, 0, 0, 0, 0] : List Nat).getD k 0
  | 12 => ([2, 2, 2, 2, 2, 2, 2, 2, 2, 2, 2, 2, 2, 2, 2, 0, 0, 0] : List Nat).getD k 0
  | 13 => ([0, 0, 0, 0, 2, 2, 0, 2, 2, 0, 2, 2, 0, 2, 2, 2, 2, 2, 2, 2, 2, 2, 2, 2, 2, 2, 2, 0, 2, 2, 2, 2, 2, 2, 2, 2, 2, 2, 2, 2, 0, 0, 0, 0, 0, 0, 0, 0, 0, 0, 0, 0, 2, 2, 0, 0, 2, 2, 0, 2, 0, 2, 2, 0, 2, 2, 0, 2, 2, 2, 2, 2, 2, 2, 2, 2, 2, 2, 0, 2, 2, 2, 2, 2, 2, 0, 1, 2, 0, 2] : List Nat).getD k 0
  | _ => 0
def az_nf (ci : Nat) : Nat := match ci with
  | 0 => 3
  | 1 => 12
  | 2 => 3
  | 3 => 6
  | 4 => 2
  | 5 => 9
  | 6 => 7
  | 7 => 4
  | 8 => 3
  | 9 => 6
  | 10 => 7
  | 11 => 14
  | 12 => 18
  | 13 => 90
  | _ => 0
def az_fv (σ : az_S) (a k kd : Nat) : Value := match kd with
  | 0 => .int (az_i σ a k)
  | 1 => .long (az_l σ a k)
  | _ => va_rf (az_r σ a k)
def az_cmp (c : ClassFile.Cond) (x y : Int32) : Prop := match c with
  | .eq => x = y
  | .ne => ¬ x = y
  | .lt => x < y
  | .ge => y ≤ x
  | .gt => y < x
  | .le => x ≤ y
abbrev az_F : Type := Nat × az_V × List Value × az_S
def az_j (pc : Nat) (off : Int) : Nat := ((pc : Int) + off).toNat
def az_ty (t : ArrayType) : Nat := match t with
  | .int => 100
  | .boolean => 101
  | .byte => 102
  | .long => 103
  | _ => 0
/-- one step of what is neither a call nor a return nor a branch of two ways -/
def az_next (pc len : Nat) (ins : Instr) (aux : List Nat) (L : az_V) (st : List Value) (σ : az_S) (F : az_F) : Prop := match ins with
  | .iconst n => F = (pc + len, L, .int (Int32.ofInt n) :: st, σ)
  | .bipush n => F = (pc + len, L, .int (Int8.ofInt n).toInt32 :: st, σ)
  | .sipush n => F = (pc + len, L, .int (Int16.ofInt n).toInt32 :: st, σ)
  | .lconst n => F = (pc + len, L, .long (Int64.ofNat (n : Nat)) :: st, σ)
  | .aconst_null => F = (pc + len, L, .null :: st, σ)
  | .iload_n k => ∃ v, az_get L k = some (.int v) ∧ F = (pc + len, L, .int v :: st, σ)
  | .iload k => ∃ v, az_get L k = some (.int v) ∧ F = (pc + len, L, .int v :: st, σ)
  | .lload_n k => ∃ v, az_get L k = some (.long v) ∧ F = (pc + len, L, .long v :: st, σ)
  | .lload k => ∃ v, az_get L k = some (.long v) ∧ F = (pc + len, L, .long v :: st, σ)
  | .aload_n k => ∃ o, az_get L k = some (va_rf o) ∧ F = (pc + len, L, va_rf o :: st, σ)
  | .aload k => ∃ o, az_get L k = some (va_rf o) ∧ F = (pc + len, L, va_rf o :: st, σ)
  | .istore_n k => ∃ v r, st = .int v :: r ∧ (k : Nat) < L.length ∧ F = (pc + len, az_put1 L k (.int v), r, σ)
  | .istore k => ∃ v r, st = .int v :: r ∧ k < L.length ∧ F = (pc + len, az_put1 L k (.int v), r, σ)
  | .lstore_n k => ∃ v r, st = .long v :: r ∧ (k : Nat) + 1 < L.length ∧ F = (pc + len, az_put2 L k (.long v), r, σ)
  | .lstore k => ∃ v r, st = .long v :: r ∧ k + 1 < L.length ∧ F = (pc + len, az_put2 L k (.long v), r, σ)
  | .astore_n k => ∃ o r, st = va_rf o :: r ∧ (k : Nat) < L.length ∧ F = (pc + len, az_put1 L k (va_rf o), r, σ)
  | .astore k => ∃ o r, st = va_rf o :: r ∧ k < L.length ∧ F = (pc + len, az_put1 L k (va_rf o), r, σ)
  | .iinc k n => ∃ v, az_get L k = some (.int v) ∧ F = (pc + len, az_put1 L k (.int (v + Int32.ofInt n)), st, σ)
  | .iadd => ∃ x y r, st = .int y :: .int x :: r ∧ F = (pc + len, L, .int (x + y) :: r, σ)
  | .isub => ∃ x y r, st = .int y :: .int x :: r ∧ F = (pc + len, L, .int (x - y) :: r, σ)
  | .imul => ∃ x y r, st = .int y :: .int x :: r ∧ F = (pc + len, L, .int (x * y) :: r, σ)
  | .idiv => ∃ x y r, st = .int y :: .int x :: r ∧ ¬ y = 0 ∧ F = (pc + len, L, .int (x / y) :: r, σ)
  | .irem => ∃ x y r, st = .int y :: .int x :: r ∧ ¬ y = 0 ∧ F = (pc + len, L, .int (x - x / y * y) :: r, σ)
  | .iand => ∃ x y r, st = .int y :: .int x :: r ∧ F = (pc + len, L, .int (x &&& y) :: r, σ)
  | .ior => ∃ x y r, st = .int y :: .int x :: r ∧ F = (pc + len, L, .int (x ||| y) :: r, σ)
  | .ixor => ∃ x y r, st = .int y :: .int x :: r ∧ F = (pc + len, L, .int (x ^^^ y) :: r, σ)
  | .ishl => ∃ x y r, st = .int y :: .int x :: r ∧ F = (pc + len, L, .int (x <<< (y &&& 31)) :: r, σ)
  | .ishr => ∃ x y r, st = .int y :: .int x :: r ∧ F = (pc + len, L, .int (x >>> (y &&& 31)) :: r, σ)
  | .iushr => ∃ x y r, st = .int y :: .int x :: r ∧ F = (pc + len, L, .int (x.toUInt32 >>> (y.toUInt32 &&& Int32.toUInt32 31)).toInt32 :: r, σ)
  | .ineg => ∃ x r, st = .int x :: r ∧ F = (pc + len, L, .int (-x) :: r, σ)
  | .ladd => ∃ x y r, st = .long y :: .long x :: r ∧ F = (pc + len, L, .long (x + y) :: r, σ)
  | .lsub => ∃ x y r, st = .long y :: .long x :: r ∧ F = (pc + len, L, .long (x - y) :: r, σ)
  | .lmul => ∃ x y r, st = .long y :: .long x :: r ∧ F = (pc + len, L, .long (x * y) :: r, σ)
  | .ldiv => ∃ x y r, st = .long y :: .long x :: r ∧ ¬ y = 0 ∧ F = (pc + len, L, .long (x / y) :: r, σ)
  | .land => ∃ x y r, st = .long y :: .long x :: r ∧ F = (pc + len, L, .long (x &&& y) :: r, σ)
  | .lor => ∃ x y r, st = .long y :: .long x :: r ∧ F = (pc + len, L, .long (x ||| y) :: r, σ)
  | .lneg => ∃ x r, st = .long x :: r ∧ F = (pc + len, L, .long (-x) :: r, σ)
  | .i2l => ∃ x r, st = .int x :: r ∧ F = (pc + len, L, .long x.toInt64 :: r, σ)
  | .l2i => ∃ x r, st = .long x :: r ∧ F = (pc + len, L, .int x.toInt32 :: r, σ)
  | .i2b => ∃ x r, st = .int x :: r ∧ F = (pc + len, L, .int x.toInt8.toInt32 :: r, σ)
  | .i2c => ∃ x r, st = .int x :: r ∧ F = (pc + len, L, .int (x.toUInt32 % 65536).toInt32 :: r, σ)
  | .lcmp => ∃ x y r, st = .long y :: .long x :: r ∧ F = (pc + len, L, .int (lg_cmp x y) :: r, σ)
  | .dup => ∃ v r, st = v :: r ∧ v.category = 1 ∧ F = (pc + len, L, v :: v :: r, σ)
  | .pop => ∃ v r, st = v :: r ∧ v.category = 1 ∧ F = (pc + len, L, r, σ)
  | .dup_x1 => ∃ v w r, st = v :: w :: r ∧ v.category = 1 ∧ w.category = 1 ∧ F = (pc + len, L, v :: w :: v :: r, σ)
  | .dup2 => ∃ v w r, st = v :: w :: r ∧ v.category = 1 ∧ w.category = 1 ∧ F = (pc + len, L, v :: w :: v :: w :: r, σ)
  | .goto off => F = (az_j pc off, L, st, σ)
  | .ifCond c off => ∃ x r, st = .int x :: r ∧ ((az_cmp c x 0 ∧ F = (az_j pc off, L, r, σ)) ∨ (¬ az_cmp c x 0 ∧ F = (pc + len, L, r, σ)))
  | .if_icmp c off => ∃ x y r, st = .int y :: .int x :: r ∧ ((az_cmp c x y ∧ F = (az_j pc off, L, r, σ)) ∨ (¬ az_cmp c x y ∧ F = (pc + len, L, r, σ)))
  | .if_acmp c off => ∃ x r, st = va_rf x :: va_rf x :: r ∧ F = ((match c with | .eq => az_j pc off | .ne => pc + len), L, r, σ)
  | .ifnull off => ∃ x r, st = va_rf x :: r ∧ ((x = none ∧ F = (az_j pc off, L, r, σ)) ∨ (¬ x = none ∧ F = (pc + len, L, r, σ)))
  | .tableswitch dflt lo hi offs => ∃ x r, st = .int x :: r ∧ (((x.toInt < lo ∨ hi < x.toInt) ∧ F = (az_j pc dflt, L, r, σ)) ∨ (∃ off, ¬ x.toInt < lo ∧ ¬ hi < x.toInt ∧ offs[(x.toInt - lo).toNat]? = some off ∧ F = (az_j pc off, L, r, σ)))
  | .lookupswitch dflt ps => ∃ x r, st = .int x :: r ∧ (ps.toList.zip (ps.toList.drop 1)).all (fun (a, next) => a.1 < next.1) = true ∧ F = (az_j pc (Op.lookupswitch.offset ps.toList dflt x.toInt), L, r, σ)
  | .ldc _ => (∃ v, aux = [0, v] ∧ F = (pc + len, L, .int (Int32.ofNat v) :: st, σ)) ∨ (∃ v, aux = [1, v] ∧ F = (pc + len, L, .ref v :: st, σ))
  | .ldc_w _ => (∃ v, aux = [0, v] ∧ F = (pc + len, L, .int (Int32.ofNat v) :: st, σ))
  | .ldc2_w _ => (∃ v, aux = [v] ∧ F = (pc + len, L, .long (Int64.ofNat v) :: st, σ))
  | .getstatic _ => ∃ k kd, aux = [k, kd] ∧ F = (pc + len, L, az_fv σ 1000007 k kd :: st, σ)
  | .getfield _ => ∃ ci k a r, aux = [ci, k] ∧ st = .ref a :: r ∧ (az_sh σ a).1 = ci ∧ F = (pc + len, L, az_fv σ a k (az_ft ci k) :: r, σ)
  | .putfield _ => ∃ ci k a, aux = [ci, k] ∧ (az_sh σ a).1 = ci ∧ ((az_ft ci k = 0 ∧ ∃ v r, st = .int v :: .ref a :: r ∧ F = (pc + len, L, r, az_pi σ a k v)) ∨ (az_ft ci k = 1 ∧ ∃ v r, st = .long v :: .ref a :: r ∧ F = (pc + len, L, r, az_pl σ a k v)) ∨ (az_ft ci k = 2 ∧ ∃ v r, st = va_rf v :: .ref a :: r ∧ F = (pc + len, L, r, az_pr σ a k v)))
  | .iaload => ∃ i a r, st = .int i :: .ref a :: r ∧ ((az_sh σ a).1 = 100 ∨ (az_sh σ a).1 = 110) ∧ vp_in i (az_sh σ a).2 ∧ F = (pc + len, L, .int (az_i σ a i.toNatClampNeg) :: r, σ)
  | .baload => ∃ i a r, st = .int i :: .ref a :: r ∧ ((az_sh σ a).1 = 101 ∨ (az_sh σ a).1 = 102 ∨ (az_sh σ a).1 = 112) ∧ vp_in i (az_sh σ a).2 ∧ F = (pc + len, L, .int (az_i σ a i.toNatClampNeg) :: r, σ)
  | .laload => ∃ i a r, st = .int i :: .ref a :: r ∧ (az_sh σ a).1 = 103 ∧ vp_in i (az_sh σ a).2 ∧ F = (pc + len, L, .long (az_l σ a i.toNatClampNeg) :: r, σ)
  | .aaload => ∃ i a r, st = .int i :: .ref a :: r ∧ (az_sh σ a).1 = 104 ∧ vp_in i (az_sh σ a).2 ∧ F = (pc + len, L, va_rf (az_r σ a i.toNatClampNeg) :: r, σ)
  | .iastore => ∃ x i a r, st = .int x :: .int i :: .ref a :: r ∧ (az_sh σ a).1 = 100 ∧ vp_in i (az_sh σ a).2 ∧ F = (pc + len, L, r, az_pi σ a i.toNatClampNeg x)
  | .bastore => ∃ x i a r, st = .int x :: .int i :: .ref a :: r ∧ vp_in i (az_sh σ a).2 ∧ (((az_sh σ a).1 = 101 ∧ F = (pc + len, L, r, az_pi σ a i.toNatClampNeg (vp_nar .boolean x))) ∨ ((az_sh σ a).1 = 102 ∧ F = (pc + len, L, r, az_pi σ a i.toNatClampNeg (vp_nar .byte x))))
  | .lastore => ∃ x i a r, st = .long x :: .int i :: .ref a :: r ∧ (az_sh σ a).1 = 103 ∧ vp_in i (az_sh σ a).2 ∧ F = (pc + len, L, r, az_pl σ a i.toNatClampNeg x)
  | .aastore => ∃ v i a r, st = .ref v :: .int i :: .ref a :: r ∧ (az_sh σ a).1 = 104 ∧ (az_sh σ v).1 < 14 ∧ vp_in i (az_sh σ a).2 ∧ F = (pc + len, L, r, az_pr σ a i.toNatClampNeg (some v))
  | .arraylength => ∃ a r, st = .ref a :: r ∧ ((100 ≤ (az_sh σ a).1 ∧ (az_sh σ a).1 ≤ 104) ∨ (110 ≤ (az_sh σ a).1 ∧ (az_sh σ a).1 ≤ 112)) ∧ F = (pc + len, L, .int (Int32.ofNat (az_sh σ a).2) :: r, σ)
  | .newarray t => ∃ n r, st = .int n :: r ∧ ¬ n < 0 ∧ n.toNatClampNeg ≤ 10000 ∧ 100 ≤ az_ty t ∧ az_n σ < 1000000 ∧ F = (pc + len, L, .ref (az_n σ) :: r, az_nw σ (az_ty t) n.toNatClampNeg)
  | .anewarray _ => ∃ n r, st = .int n :: r ∧ ¬ n < 0 ∧ n.toNatClampNeg ≤ 10000 ∧ az_n σ < 1000000 ∧ F = (pc + len, L, .ref (az_n σ) :: r, az_nw σ 104 n.toNatClampNeg)
  | .new _ => ∃ ci, aux = [ci] ∧ ci < 14 ∧ az_n σ < 1000000 ∧ F = (pc + len, L, .ref (az_n σ) :: st, az_nw σ ci (az_nf ci))
  | .checkcast _ => ∃ ci a r, aux = [ci] ∧ ci < 14 ∧ st = .ref a :: r ∧ (az_sh σ a).1 = ci ∧ F = (pc + len, L, .ref a :: r, σ)
  | _ => False
/-- the step of a call (op 0 of aux: which method, how many values it takes, the kind of its receiver or 999) or of what stands for one -/
def az_step (E : Nat → List Value → az_S → Option Value → az_S → Prop) (pc len : Nat) (ins : Instr) (aux : List Nat) (L : az_V) (st : List Value) (σ : az_S) (F : az_F) : Prop := match aux with
  | [0, y, n, kc] => len = 3 ∧ n ≤ st.length ∧ ((st.drop n).map fun v => v.category).sum ≤ 8 ∧ (kc = 999 ∨ ∃ a, (st.take n).reverse.head? = some (.ref a) ∧ (az_sh σ a).1 = kc) ∧ ∃ r σ', E y (st.take n).reverse σ r σ' ∧ F = (pc + 3, L, r.toList ++ st.drop n, σ')
  | [1, 2, 3] => len = 3 ∧ ∃ a r, st = .ref a :: r ∧ (r.map fun v => v.category).sum ≤ 8 ∧ F = (pc + 3, L, r, σ)
  | [1, 2, 4] => len = 3 ∧ ∃ a r, st = .ref a :: r ∧ (r.map fun v => v.category).sum ≤ 8 ∧ (az_sh σ a).1 = 104 ∧ F = (pc + 3, L, .ref 1000005 :: r, σ)
  | [1, 2, 5] => len = 3 ∧ ∃ n a r b, st = [.int n, .int 0, .ref b, .int 0, .ref a] ++ r ∧ ¬ n < 0 ∧ (r.map fun v => v.category).sum ≤ 8 ∧ (az_sh σ a).1 = 104 ∧ (az_sh σ b).1 = 104 ∧ a ≠ b ∧ n.toNatClampNeg ≤ (az_sh σ a).2 ∧ n.toNatClampNeg ≤ (az_sh σ b).2 ∧ (∀ j, j < n.toNatClampNeg → ∃ v, az_r σ a j = some v ∧ (az_sh σ v).1 < 14) ∧ F = (pc + 3, L, r, (σ.1, σ.2.1, σ.2.2.1, σ.2.2.2.1, σ.2.2.2.2.1, va_up σ.2.2.2.2.2 b (va_cpy (az_r σ a) (az_r σ b) 0 0 n.toNatClampNeg)))
  | _ => az_next pc len ins aux L st σ F
def az_fetch (cd : List az_I) (pc : Nat) : Option (Nat × Instr × List Nat) := match cd with
  | [] => none
  | q :: r => if q.1 = pc then some q.2 else az_fetch r pc
/-- what a return gives back: of a boolean only 0 and 1 -/
def az_ret (ins : Instr) (rt : Option FieldType) (st : List Value) (r : Option Value) : Prop := match ins with
  | .return_ => rt = none ∧ st = [] ∧ r = none
  | .ireturn => ∃ v ty, rt = some ty ∧ narrow ty (.int v) = .int v ∧ st = [.int v] ∧ r = some (.int v)
  | .lreturn => ∃ v, rt = some .long ∧ st = [.long v] ∧ r = some (.long v)
  | .areturn => ∃ o rt', rt = some rt' ∧ ((∃ n, rt' = .object n) ∨ ∃ t, rt' = .array t) ∧ st = [va_rf o] ∧ r = some (va_rf o)
  | _ => False
/-- n steps from a frame to its return -/
def az_run (E : Nat → List Value → az_S → Option Value → az_S → Prop) (cd : List az_I) (rt : Option FieldType) (r : Option Value) (t : az_S) : Nat → az_F → Prop
  | 0, _ => False
  | n + 1, G => ∃ len ins aux, az_fetch cd G.1 = some (len, ins, aux) ∧ ((az_ret ins rt G.2.2.1 r ∧ G.2.2.2 = t) ∨ ∃ F, az_step E G.1 len ins aux G.2.1 G.2.2.1 G.2.2.2 F ∧ az_run E cd rt r t n F)
end
section
/-! THE WORLD of an abstract store, as cells of the machine's heap -/
def az_ad (base : Nat) (cs : Nat → Nat) (i : Nat) : Nat := if i < 1000000 then base + i else cs i
def az_tr (ad : Nat → Nat) (v : Value) : Value := match v with
  | .ref i => .ref (ad i)
  | w => w
theorem az_tr_rf (ad : Nat → Nat) (o : Option Nat) : az_tr ad (va_rf o) = va_rf (o.map ad) := by cases o <;> rfl
theorem az_tr_cat (ad : Nat → Nat) (v : Value) : (az_tr ad v).category = v.category := by cases v <;> rfl
theorem az_tr_cats (ad : Nat → Nat) (l : List Value) : ((l.map (az_tr ad)).map fun v => v.category) = l.map fun v => v.category := by
  rw [List.map_map]
  congr 1
  funext v
  exact az_tr_cat ad v
def az_E (cA : Nat → ClassId) (ad : Nat → Nat) (σ : az_S) (a : Nat) : va_E :=
  if (az_sh σ a).1 < 14 then .inr ((az_sh σ a).1, (List.range (az_nf (az_sh σ a).1)).map (fun k => az_tr ad (az_fv σ a k (az_ft (az_sh σ a).1 k))))
  else if (az_sh σ a).1 = 103 then .inl (cA 103, (az_sh σ a).2, .inr (.inl (az_l σ a)))
  else if (az_sh σ a).1 = 104 then .inl (cA 104, (az_sh σ a).2, .inr (.inr (.inr (.inr (fun j => (az_r σ a j).map ad)))))
  else .inl (cA (az_sh σ a).1, (az_sh σ a).2, .inl (az_i σ a))
def az_ws (cA : Nat → ClassId) (ad : Nat → Nat) (σ : az_S) : va_W := (List.range (az_n σ)).map (fun a => (ad a, az_E cA ad σ a))
def az_tys (cA : Nat → ClassId) : List (ClassId × FieldType) := [(cA 100, .int), (cA 101, .boolean), (cA 102, .byte), (cA 103, .long), (cA 104, .object "java/lang/Object")]
theorem az_ws_get {cA : Nat → ClassId} {ad : Nat → Nat} {σ : az_S} {a : Nat} (h : a < az_n σ) : (az_ws cA ad σ)[a]? = some (ad a, az_E cA ad σ a) := by
  simp [az_ws, h]
theorem az_D {cA : Nat → ClassId} {base : Nat} {cs : Nat → Nat} {σ : az_S} (h : az_n σ ≤ 1000000) : va_D (fun q => base ≤ q) (az_ws cA (az_ad base cs) σ) := by
  have key : ∀ (k : Nat) (q : Nat × va_E), (az_ws cA (az_ad base cs) σ)[k]? = some q → q.1 = base + k := by
    intro k q hk
    have hl := (List.getElem?_eq_some_iff.mp hk).1
    simp only [az_ws, List.length_map, List.length_range] at hl
    rw [az_ws_get hl] at hk
    cases hk
    simp [az_ad, Nat.lt_of_lt_of_le hl h]
  refine ⟨fun i j x y hx hy e => ?_, fun k q hk => ?_⟩
  · rw [key i x hx, key j y hy] at e
    omega
  · rw [key k q hk]
    exact Nat.le_add_right _ _
theorem az_ws_set {cA : Nat → ClassId} {ad : Nat → Nat} {σ τ : az_S} {a : Nat} (hn : az_n τ = az_n σ) (he : ∀ b, b ≠ a → az_E cA ad τ b = az_E cA ad σ b) : az_ws cA ad τ = (az_ws cA ad σ).set a (ad a, az_E cA ad τ a) := by
  apply List.ext_getElem?
  intro k
  by_cases hk : k < az_n σ
  · rw [az_ws_get (by rw [hn]; exact hk)]
    by_cases hka : k = a
    · subst hka
      rw [List.getElem?_set_self (by simp [az_ws, hk])]
    · rw [List.getElem?_set_ne (Ne.symm hka), az_ws_get hk, he k hka]
  · rw [List.getElem?_eq_none (by simp [az_ws]; omega), List.getElem?_eq_none (by simp [az_ws]; omega)]
theorem az_ws_push {cA : Nat → ClassId} {ad : Nat → Nat} {σ τ : az_S} (hn : az_n τ = az_n σ + 1) (he : ∀ b, b ≠ az_n σ → az_E cA ad τ b = az_E cA ad σ b) : az_ws cA ad τ = az_ws cA ad σ ++ [(ad (az_n σ), az_E cA ad τ (az_n σ))] := by
  unfold az_ws
  rw [hn, List.range_succ, List.map_append]
  congr 1
  apply List.map_congr_left
  intro b hb
  rw [he b (by have := List.mem_range.mp hb; omega)]
theorem az_fv_ne {σ : az_S} {a b k j kd : Nat} {v : Int32} (h : b ≠ a) : az_fv (az_pi σ a k v) b j kd = az_fv σ b j kd := by
  unfold az_fv
  split <;> simp [az_i, az_l, az_r, az_sh, az_pi, az_pl, az_pr, az_up, va_up, h]
theorem az_fvl_ne {σ : az_S} {a b k j kd : Nat} {v : Int64} (h : b ≠ a) : az_fv (az_pl σ a k v) b j kd = az_fv σ b j kd := by
  unfold az_fv
  split <;> simp [az_i, az_l, az_r, az_sh, az_pi, az_pl, az_pr, az_up, va_up, h]
theorem az_fvr_ne {σ : az_S} {a b k j kd : Nat} {v : Option Nat} (h : b ≠ a) : az_fv (az_pr σ a k v) b j kd = az_fv σ b j kd := by
  unfold az_fv
  split <;> simp [az_i, az_l, az_r, az_sh, az_pi, az_pl, az_pr, az_up, va_up, h]
theorem az_E_pi {cA : Nat → ClassId} {ad : Nat → Nat} {σ : az_S} {a b k : Nat} {v : Int32} (h : b ≠ a) : az_E cA ad (az_pi σ a k v) b = az_E cA ad σ b := by
  unfold az_E
  simp only [az_fv_ne h]
  simp [az_i, az_l, az_r, az_sh, az_pi, az_pl, az_pr, az_up, va_up, h]
theorem az_E_pl {cA : Nat → ClassId} {ad : Nat → Nat} {σ : az_S} {a b k : Nat} {v : Int64} (h : b ≠ a) : az_E cA ad (az_pl σ a k v) b = az_E cA ad σ b := by
  unfold az_E
  simp only [az_fvl_ne h]
  simp [az_i, az_l, az_r, az_sh, az_pi, az_pl, az_pr, az_up, va_up, h]
theorem az_E_pr {cA : Nat → ClassId} {ad : Nat → Nat} {σ : az_S} {a b k : Nat} {v : Option Nat} (h : b ≠ a) : az_E cA ad (az_pr σ a k v) b = az_E cA ad σ b := by
  unfold az_E
  simp only [az_fvr_ne h]
  simp [az_i, az_l, az_r, az_sh, az_pi, az_pl, az_pr, az_up, va_up, h]
theorem az_E_nw {cA : Nat → ClassId} {ad : Nat → Nat} {σ : az_S} {b kd m : Nat} (h : b ≠ az_n σ) : az_E cA ad (az_nw σ kd m) b = az_E cA ad σ b := by
  have hf : ∀ j q, az_fv (az_nw σ kd m) b j q = az_fv σ b j q := by
    intro j q
    unfold az_fv
    split <;> simp [az_i, az_l, az_r, az_sh, az_nw, va_up, h]
  unfold az_E
  simp only [hf]
  simp [az_i, az_l, az_r, az_sh, az_nw, va_up, h]
/-- an object's fields with one of them set -/
theorem az_fs_set {N k : Nat} {f : Nat → Value} {v : Value} : ((List.range N).map f).set k v = (List.range N).map (fun j => if j = k then v else f j) := by
  apply List.ext_getElem?
  intro i
  by_cases hi : i < N
  · by_cases hik : i = k
    · subst hik
      rw [List.getElem?_set_self (by simp [hi])]
      simp [hi]
    · rw [List.getElem?_set_ne (Ne.symm hik)]
      simp [hi, hik]
  · rw [List.getElem?_eq_none (by simp; omega), List.getElem?_eq_none (by simp; omega)]
/-- which stores are sound: what has a kind of the world is in it; constants lie apart -/
def az_ok (σ : az_S) : Prop := (∀ a, (az_sh σ a).1 < 110 → a < az_n σ) ∧ az_n σ ≤ 1000000 ∧ (∀ a, a < 1000000 → (az_sh σ a).1 < 110 ∨ (az_sh σ a).1 = 999)
def az_lv (ad : Nat → Nat) (ls : Array Slot) (nL : Nat) (L : az_V) : Prop := ls.size = nL ∧ L.length = nL ∧ lv_wf ls ∧ ∀ i v, az_get L i = some v → ls[i]? = some (.val (az_tr ad v))
def az_ll (ad : Nat → Nat) (L : az_V) : List (Nat × Value) := (List.range L.length).filterMap (fun i => (az_get L i).map (fun v => (i, az_tr ad v)))
theorem az_get_lt {L : az_V} {i : Nat} {v : Value} (h : az_get L i = some v) : i < L.length := by
  unfold az_get at h
  by_cases hi : i < L.length
  · exact hi
  · rw [List.getElem?_eq_none (by omega)] at h
    cases h
theorem az_mem_ll {ad : Nat → Nat} {L : az_V} {q : Nat × Value} : q ∈ az_ll ad L ↔ ∃ v, az_get L q.1 = some v ∧ q.2 = az_tr ad v := by
  unfold az_ll
  rw [List.mem_filterMap]
  constructor
  · rintro ⟨i, _, hi⟩
    cases hg : az_get L i with
    | none => rw [hg] at hi; cases hi
    | some v => rw [hg] at hi; cases hi; exact ⟨v, hg, rfl⟩
  · rintro ⟨v, h1, h2⟩
    refine ⟨q.1, List.mem_range.mpr (az_get_lt h1), ?_⟩
    rw [h1, Option.map_some, ← h2]
theorem az_lv.has {ad : Nat → Nat} {ls : Array Slot} {nL : Nat} {L : az_V} (h : az_lv ad ls nL L) : lv_has ls nL (az_ll ad L) := by
  refine ⟨h.1, h.2.2.1, fun q hq => ?_⟩
  obtain ⟨v, h1, h2⟩ := az_mem_ll.mp hq
  rw [h2]
  exact h.2.2.2 q.1 v h1
theorem az_get_set {L : az_V} {i j : Nat} {u : Option Value} : az_get (L.set i u) j = if j = i ∧ i < L.length then u else az_get L j := by
  unfold az_get
  by_cases hij : j = i
  · subst hij
    by_cases hl : j < L.length
    · rw [List.getElem?_set_self hl]
      simp [hl]
    · simp [hl]
  · rw [List.getElem?_set_ne (Ne.symm hij)]
    simp [hij]
theorem az_kill_len (L : az_V) (i : Nat) : (az_kill L i).length = L.length := by
  cases i <;> simp [az_kill]
theorem az_kl_some {u : Option Value} {v : Value} (h : az_kl u = some v) : u = some v ∧ v.category = 1 := by
  unfold az_kl at h
  split at h
  · cases h
  · cases h
  · rename_i w h1 h2
    subst h
    refine ⟨rfl, ?_⟩
    cases v <;> first | rfl | exact absurd rfl (h1 _) | exact absurd rfl (h2 _)
theorem az_get_kill {L : az_V} {i j : Nat} {v : Value} (h : az_get (az_kill L i) j = some v) : az_get L j = some v ∧ (j + 1 = i → v.category = 1) := by
  cases i with
  | zero => exact ⟨h, fun e => by omega⟩
  | succ k =>
    unfold az_kill at h
    simp only at h
    rw [az_get_set] at h
    split at h
    · rename_i hc
      obtain ⟨h1, h2⟩ := az_kl_some h
      rw [hc.1]
      exact ⟨h1, fun _ => h2⟩
    · rename_i hc
      refine ⟨h, fun e => ?_⟩
      exact absurd ⟨by omega, by have := az_get_lt h; omega⟩ hc
theorem az_lv.put1 {ad : Nat → Nat} {ls ls' : Array Slot} {nL i : Nat} {L : az_V} {v : Value} (h : az_lv ad ls nL L) (h' : lv_has ls' nL ((i, az_tr ad v) :: (az_ll ad L).filter (fun q => !(q.1 == i) && !(q.1 + 1 == i && q.2.category == 2)))) : az_lv ad ls' nL (az_put1 L i v) := by
  refine ⟨h'.1, by simp [az_put1, az_kill_len, h.2.1], h'.2.1, fun j w hj => ?_⟩
  unfold az_put1 at hj
  rw [az_get_set] at hj
  split at hj
  · rename_i hc
    cases hj
    rw [hc.1]
    exact h'.2.2 (i, az_tr ad v) List.mem_cons_self
  · rename_i hc
    obtain ⟨h1, h2⟩ := az_get_kill hj
    have hji : j ≠ i := fun e => hc ⟨e, by rw [az_kill_len, ← e]; exact az_get_lt h1⟩
    refine h'.2.2 (j, az_tr ad w) (List.mem_cons_of_mem _ (List.mem_filter.mpr ⟨az_mem_ll.mpr ⟨w, h1, rfl⟩, ?_⟩))
    by_cases hq : j + 1 = i
    · simp [hji, hq, az_tr_cat, h2 hq]
    · simp [hji, hq]
theorem az_lv.put2 {ad : Nat → Nat} {ls ls' : Array Slot} {nL i : Nat} {L : az_V} {v : Value} (h : az_lv ad ls nL L) (h' : lv_has ls' nL ((i, az_tr ad v) :: (az_ll ad L).filter (fun q => !(q.1 == i) && (!(q.1 == i + 1) && !(q.1 + 1 == i && q.2.category == 2))))) : az_lv ad ls' nL (az_put2 L i v) := by
  refine ⟨h'.1, by simp [az_put2, az_kill_len, h.2.1], h'.2.1, fun j w hj => ?_⟩
  unfold az_put2 at hj
  rw [az_get_set] at hj
  split at hj
  · cases hj
  · rename_i hc2
    rw [az_get_set] at hj
    split at hj
    · rename_i hc
      cases hj
      rw [hc.1]
      exact h'.2.2 (i, az_tr ad v) List.mem_cons_self
    · rename_i hc
      obtain ⟨h1, h2⟩ := az_get_kill hj
      have hl := az_get_lt h1
      have hji : j ≠ i := fun e => hc ⟨e, by rw [az_kill_len, ← e]; exact hl⟩
      have hji2 : j ≠ i + 1 := fun e => hc2 ⟨e, by rw [List.length_set, az_kill_len, ← e]; exact hl⟩
      refine h'.2.2 (j, az_tr ad w) (List.mem_cons_of_mem _ (List.mem_filter.mpr ⟨az_mem_ll.mpr ⟨w, h1, rfl⟩, ?_⟩))
      by_cases hq : j + 1 = i
      · simp [hji, hji2, hq, az_tr_cat, h2 hq]
      · simp [hji, hji2, hq]
end
section
/-! WHAT THE TABLES SAY OF THE CLASSES whose objects the world holds -/
def az_G : List Cond := lw_tbl.filter goodWord
theorem az_Gof {i : Nat} {w : Cond} (h : lw_tbl[i]? = some w) (g : goodWord w = true) : w ∈ az_G := List.mem_filter.mpr ⟨List.mem_of_getElem? h, g⟩
theorem az_Gin {ws : List Cond} (ps : List Nat) (hp : ws = ps.filterMap (fun i => lw_tbl[i]?)) (hg : ws.all goodWord = true) : ∀ w ∈ ws, w ∈ az_G := by
  intro w hw
  have g := List.all_eq_true.mp hg w hw
  rw [hp] at hw
  obtain ⟨i, -, hi⟩ := List.mem_filterMap.mp hw
  exact az_Gof hi g
abbrev vwCl : List vw_C := [(RJx4a65c, TJx4a65c, 3), (RX0, TX0, 12), (RX1, TX1, 3), (RX2, TX2, 6), (RX3, TX3, 2), (RX4, TX4, 9), (RX5, TX5, 7), (RX6, TX6, 4), (RX7, TX7, 3), (RX8, TX8, 6), (RX9, TX9, 7), (RX10, TX10, 14), (RX11, TX11, 18), (RX12, TX12, 90)]
def az_tyc (ci : Nat) (k : Nat) : FieldType := match ci with
  | 0 => tyJx4a65c k
  | 1 => tyX0 k
  | 2 => tyX1 k
  | 3 => tyX2 k
  | 4 => tyX3 k
  | 5 => tyX4 k
  | 6 => tyX5 k
  | 7 => tyX6 k
  | 8 => tyX7 k
  | 9 => tyX8 k
  | 10 => tyX9 k
  | 11 => tyX10 k
  | 12 => tyX11 k
  | 13 => tyX12 k
  | _ => .int
/-- a field's type by its kind -/
def az_tk (kd : Nat) (ty : FieldType) : Bool := match kd with
  | 0 => decide (ty = .int)
  | 1 => decide (ty = .long)
  | _ => match ty with
    | .object _ => true
    | .array _ => true
    | _ => false

set_option maxRecDepth 20000 in
theorem az_in0 : ∀ w ∈ u_ws RJx4a65c TJx4a65c 3, w ∈ az_G := az_Gin [176, 172, 174] (by decide +kernel) (by decide +kernel)
theorem az_tyk0 : ∀ k, k < 3 → az_tk (az_ft 0 k) (tyJx4a65c k) = true := by decide +kernel
set_option maxRecDepth 20000 in
theorem az_in1 : ∀ w ∈ u_ws RX0 TX0 12, w ∈ az_G := az_Gin [766, 768, 770, 772, 774, 776, 778, 780, 782, 784, 786, 788] (by decide +kernel) (by decide +kernel)
theorem az_tyk1 : ∀ k, k < 12 → az_tk (az_ft 1 k) (tyX0 k) = true := by decide +kernel
set_option maxRecDepth 20000 in
theorem az_in2 : ∀ w ∈ u_ws RX1 TX1 3, w ∈ az_G := az_Gin [258, 260, 262] (by decide +kernel) (by decide +kernel)
theorem az_tyk2 : ∀ k, k < 3 → az_tk (az_ft 2 k) (tyX1 k) = true := by decide +kernel
set_option maxRecDepth 20000 in
theorem az_in3 : ∀ w ∈ u_ws RX2 TX2 6, w ∈ az_G := az_Gin [344, 346, 348, 350, 352, 354] (by decide +kernel) (by decide +kernel)
theorem az_tyk3 : ∀ k, k < 6 → az_tk (az_ft 3 k) (tyX2 k) = true := by decide +kernel
set_option maxRecDepth 20000 in
theorem az_in4 : ∀ w ∈ u_ws RX3 TX3 2, w ∈ az_G := az_Gin [463, 465] (by decide +kernel) (by decide +kernel)
theorem az_tyk4 : ∀ k, k < 2 → az_tk (az_ft 4 k) (tyX3 k) = true := by decide +kernel
set_option maxRecDepth 20000 in
theorem az_in5 : ∀ w ∈ u_ws RX4 TX4 9, w ∈ az_G := az_Gin [311, 313, 315, 317, 319, 321, 323, 325, 327] (by decide +kernel) (by decide +kernel)
theorem az_tyk5 : ∀ k, k < 9 → az_tk (az_ft 5 k) (tyX4 k) = true := by decide +kernel
set_option maxRecDepth 20000 in
theorem az_in6 : ∀ w ∈ u_ws RX5 TX5 7, w ∈ az_G := az_Gin [279, 281, 283, 285, 287, 289, 291] (by decide +kernel) (by decide +kernel)
theorem az_tyk6 : ∀ k, k < 7 → az_tk (az_ft 6 k) (tyX5 k) = true := by decide +kernel
set_option maxRecDepth 20000 in
theorem az_in7 : ∀ w ∈ u_ws RX6 TX6 4, w ∈ az_G := az_Gin [143, 145, 147, 149] (by decide +kernel) (by decide +kernel)
theorem az_tyk7 : ∀ k, k < 4 → az_tk (az_ft 7 k) (tyX6 k) = true := by decide +kernel
set_option maxRecDepth 20000 in
theorem az_in8 : ∀ w ∈ u_ws RX7 TX7 3, w ∈ az_G := az_Gin [1167, 1169, 1171] (by decide +kernel) (by decide +kernel)
theorem az_tyk8 : ∀ k, k < 3 → az_tk (az_ft 8 k) (tyX7 k) = true := by decide +kernel
set_option maxRecDepth 20000 in
theorem az_in9 : ∀ w ∈ u_ws RX8 TX8 6, w ∈ az_G := az_Gin [192, 194, 196, 198, 200, 202] (by decide +kernel) (by decide +kernel)
theorem az_tyk9 : ∀ k, k < 6 → az_tk (az_ft 9 k) (tyX8 k) = true := by decide +kernel
set_option maxRecDepth 20000 in
theorem az_in10 : ∀ w ∈ u_ws RX9 TX9 7, w ∈ az_G := az_Gin [220, 222, 224, 226, 228, 230, 232] (by decide +kernel) (by decide +kernel)
theorem az_tyk10 : ∀ k, k < 7 → az_tk (az_ft 10 k) (tyX9 k) = true := by decide +kernel
set_option maxRecDepth 20000 in
theorem az_in11 : ∀ w ∈ u_ws RX10 TX10 14, w ∈ az_G := az_Gin [607, 609, 611, 613, 615, 617, 619, 621, 623, 625, 627, 629, 631, 633] (by decide +kernel) (by decide +kernel)
theorem az_tyk11 : ∀ k, k < 14 → az_tk (az_ft 11 k) (tyX10 k) = true := by decide +kernel
set_option maxRecDepth 20000 in
theorem az_in12 : ∀ w ∈ u_ws RX11 TX11 18, w ∈ az_G := az_Gin [375, 377, 379, 381, 383, 385, 387, 389, 391, 393, 395, 397, 399, 401, 403, 405, 407, 409] (by decide +kernel) (by decide +kernel)
theorem az_tyk12 : ∀ k, k < 18 → az_tk (az_ft 12 k) (tyX11 k) = true := by decide +kernel
set_option maxRecDepth 20000 in
theorem az_in13 : ∀ w ∈ u_ws RX12 TX12 90, w ∈ az_G := az_Gin [1422, 1424, 1426, 1428, 1430, 1432, 1434, 1436, 1438, 1440, 1442, 1444, 1446, 1448, 1450, 1452, 1454, 1456, 1458, 1460, 1462, 1464, 1466, 1468, 1470, 1472, 1474, 1476, 1478, 1480, 1482, 1484, 1486, 1488, 1490, 1492, 1494, 1496, 1498, 1500, 1502, 1504, 1506, 1508, 1510, 1512, 1514, 1516, 1518, 1520, 1522, 1524, 1526, 1528, 1530, 1532, 1534, 1536, 1538, 1540, 1542, 1544, 1546, 1548, 1550, 1552, 1554, 1556, 1558, 1560, 1562, 1564, 1566, 1568, 1570, 1572, 1574, 1576, 1578, 1580, 1582, 1584, 1586, 1588, 1590, 1592, 1594, 1596, 1598, 1600] (by decide +kernel) (by decide +kernel)
theorem az_tyk13 : ∀ k, k < 90 → az_tk (az_ft 13 k) (tyX12 k) = true := by decide +kernel
theorem az_cin : ∀ (ci : Nat) (q : vw_C), vwCl[ci]? = some q → ∀ w ∈ u_ws q.1 q.2.1 q.2.2, w ∈ az_G := by
  intro ci q hq
  match ci, hq with
  | 0, hq => cases hq; exact az_in0
  | 1, hq => cases hq; exact az_in1
  | 2, hq => cases hq; exact az_in2
  | 3, hq => cases hq; exact az_in3
  | 4, hq => cases hq; exact az_in4
  | 5, hq => cases hq; exact az_in5
  | 6, hq => cases hq; exact az_in6
  | 7, hq => cases hq; exact az_in7
  | 8, hq => cases hq; exact az_in8
  | 9, hq => cases hq; exact az_in9
  | 10, hq => cases hq; exact az_in10
  | 11, hq => cases hq; exact az_in11
  | 12, hq => cases hq; exact az_in12
  | 13, hq => cases hq; exact az_in13
  | k + 14, hq => simp [vwCl] at hq

theorem az_cty : ∀ (ci : Nat) (q : vw_C), vwCl[ci]? = some q → ∀ k, k < q.2.2 → parseFieldDescriptor (q.2.1 k).2.2.1 = some (az_tyc ci k) := by
  intro ci q hq
  match ci, hq with
  | 0, hq => cases hq; exact tyJx4a65c_ok
  | 1, hq => cases hq; exact tyX0_ok
  | 2, hq => cases hq; exact tyX1_ok
  | 3, hq => cases hq; exact tyX2_ok
  | 4, hq => cases hq; exact tyX3_ok
  | 5, hq => cases hq; exact tyX4_ok
  | 6, hq => cases hq; exact tyX5_ok
  | 7, hq => cases hq; exact tyX6_ok
  | 8, hq => cases hq; exact tyX7_ok
  | 9, hq => cases hq; exact tyX8_ok
  | 10, hq => cases hq; exact tyX9_ok
  | 11, hq => cases hq; exact tyX10_ok
  | 12, hq => cases hq; exact tyX11_ok
  | 13, hq => cases hq; exact tyX12_ok
  | k + 14, hq => simp [vwCl] at hq

theorem az_cnm : ∀ (ci : Nat) (q : vw_C), vwCl[ci]? = some q → ∀ a, a < q.2.2 → ∀ b, b < q.2.2 → a ≠ b → (q.2.1 a).2.1 ≠ (q.2.1 b).2.1 := by
  intro ci q hq
  match ci, hq with
  | 0, hq => cases hq; exact nmJx4a65c
  | 1, hq => cases hq; exact nmX0
  | 2, hq => cases hq; exact nmX1
  | 3, hq => cases hq; exact nmX2
  | 4, hq => cases hq; exact nmX3
  | 5, hq => cases hq; exact nmX4
  | 6, hq => cases hq; exact nmX5
  | 7, hq => cases hq; exact nmX6
  | 8, hq => cases hq; exact nmX7
  | 9, hq => cases hq; exact nmX8
  | 10, hq => cases hq; exact nmX9
  | 11, hq => cases hq; exact nmX10
  | 12, hq => cases hq; exact nmX11
  | 13, hq => cases hq; exact nmX12
  | k + 14, hq => simp [vwCl] at hq

theorem az_ctk : ∀ (ci : Nat) (q : vw_C), vwCl[ci]? = some q → ∀ k, k < q.2.2 → az_tk (az_ft ci k) (az_tyc ci k) = true := by
  intro ci q hq
  match ci, hq with
  | 0, hq => cases hq; exact az_tyk0
  | 1, hq => cases hq; exact az_tyk1
  | 2, hq => cases hq; exact az_tyk2
  | 3, hq => cases hq; exact az_tyk3
  | 4, hq => cases hq; exact az_tyk4
  | 5, hq => cases hq; exact az_tyk5
  | 6, hq => cases hq; exact az_tyk6
  | 7, hq => cases hq; exact az_tyk7
  | 8, hq => cases hq; exact az_tyk8
  | 9, hq => cases hq; exact az_tyk9
  | 10, hq => cases hq; exact az_tyk10
  | 11, hq => cases hq; exact az_tyk11
  | 12, hq => cases hq; exact az_tyk12
  | 13, hq => cases hq; exact az_tyk13
  | k + 14, hq => simp [vwCl] at hq

theorem az_cnf : ∀ (ci : Nat) (q : vw_C), vwCl[ci]? = some q → az_nf ci = q.2.2 := by
  intro ci q hq
  match ci, hq with
  | 0, hq => cases hq; exact rfl
  | 1, hq => cases hq; exact rfl
  | 2, hq => cases hq; exact rfl
  | 3, hq => cases hq; exact rfl
  | 4, hq => cases hq; exact rfl
  | 5, hq => cases hq; exact rfl
  | 6, hq => cases hq; exact rfl
  | 7, hq => cases hq; exact rfl
  | 8, hq => cases hq; exact rfl
  | 9, hq => cases hq; exact rfl
  | 10, hq => cases hq; exact rfl
  | 11, hq => cases hq; exact rfl
  | 12, hq => cases hq; exact rfl
  | 13, hq => cases hq; exact rfl
  | k + 14, hq => simp [vwCl] at hq

theorem az_clt : ∀ ci, ci < 14 → ∃ q, vwCl[ci]? = some q := by
  intro ci h
  exact ⟨_, List.getElem?_eq_getElem (by simpa [vwCl] using h)⟩

theorem az_cast0 : Cond.castable RJx4a65c "java/lang/Object" ∈ lw_tbl := List.mem_of_getElem? (i := 2009) (by decide +kernel)
theorem az_cast1 : Cond.castable RX0 "java/lang/Object" ∈ lw_tbl := List.mem_of_getElem? (i := 2019) (by decide +kernel)
theorem az_cast2 : Cond.castable RX1 "java/lang/Object" ∈ lw_tbl := List.mem_of_getElem? (i := 2012) (by decide +kernel)
theorem az_cast3 : Cond.castable RX2 "java/lang/Object" ∈ lw_tbl := List.mem_of_getElem? (i := 2015) (by decide +kernel)
theorem az_cast4 : Cond.castable RX3 "java/lang/Object" ∈ lw_tbl := List.mem_of_getElem? (i := 2017) (by decide +kernel)
theorem az_cast5 : Cond.castable RX4 "java/lang/Object" ∈ lw_tbl := List.mem_of_getElem? (i := 2014) (by decide +kernel)
theorem az_cast6 : Cond.castable RX5 "java/lang/Object" ∈ lw_tbl := List.mem_of_getElem? (i := 2013) (by decide +kernel)
theorem az_cast7 : Cond.castable RX6 "java/lang/Object" ∈ lw_tbl := List.mem_of_getElem? (i := 2008) (by decide +kernel)
theorem az_cast8 : Cond.castable RX7 "java/lang/Object" ∈ lw_tbl := List.mem_of_getElem? (i := 2020) (by decide +kernel)
theorem az_cast9 : Cond.castable RX8 "java/lang/Object" ∈ lw_tbl := List.mem_of_getElem? (i := 2010) (by decide +kernel)
theorem az_cast10 : Cond.castable RX9 "java/lang/Object" ∈ lw_tbl := List.mem_of_getElem? (i := 2011) (by decide +kernel)
theorem az_cast11 : Cond.castable RX10 "java/lang/Object" ∈ lw_tbl := List.mem_of_getElem? (i := 2018) (by decide +kernel)
theorem az_cast12 : Cond.castable RX11 "java/lang/Object" ∈ lw_tbl := List.mem_of_getElem? (i := 2007) (by decide +kernel)
theorem az_cast13 : Cond.castable RX12 "java/lang/Object" ∈ lw_tbl := List.mem_of_getElem? (i := 2016) (by decide +kernel)
theorem az_ccast : ∀ (ci : Nat) (q : vw_C), vwCl[ci]? = some q → Cond.castable q.1 "java/lang/Object" ∈ lw_tbl := by
  intro ci q hq
  match ci, hq with
  | 0, hq => cases hq; exact az_cast0
  | 1, hq => cases hq; exact az_cast1
  | 2, hq => cases hq; exact az_cast2
  | 3, hq => cases hq; exact az_cast3
  | 4, hq => cases hq; exact az_cast4
  | 5, hq => cases hq; exact az_cast5
  | 6, hq => cases hq; exact az_cast6
  | 7, hq => cases hq; exact az_cast7
  | 8, hq => cases hq; exact az_cast8
  | 9, hq => cases hq; exact az_cast9
  | 10, hq => cases hq; exact az_cast10
  | 11, hq => cases hq; exact az_cast11
  | 12, hq => cases hq; exact az_cast12
  | 13, hq => cases hq; exact az_cast13
  | k + 14, hq => simp [vwCl] at hq
end
section
/-! WHAT HOLDS IN A FRAME of the machine that runs beside the abstract one -/
def az_isN (w : Cond) : Bool := match w with
  | .fieldLinkNest .. => true
  | .methodLinkNest .. => true
  | .castable .. => true
  | _ => false
def az_ss : List (String × Nat × String × Nat) := [("ShadeRegister$Tape", 75, "hour", 1000010), ("ShadeRegister$Tape", 81, "month", 1000011), ("ShadeRegister$Tape", 83, "day", 1000012), ("ShadeRegister$Tape", 85, "height", 1000013), ("ShadeRegister$Tape", 87, "many", 1000014), ("ShadeRegister$Tape", 89, "kind", 1000015), ("ShadeRegister$Tape", 91, "thing", 1000016), ("ShadeRegister$Tape", 93, "stall", 1000017), ("ShadeRegister$Tape", 95, "when", 1000018), ("ShadeRegister$Tape", 97, "give", 1000019), ("ShadeRegister$Tape", 99, "or", 1000020), ("ShadeRegister$Tape", 101, "and", 1000021), ("ShadeRegister$Tape", 103, "not", 1000022), ("ShadeRegister$Tape", 105, "min", 1000023), ("ShadeRegister$Tape", 106, "max", 1000024)]
def az_st : List (String × String × String × Nat) := [("java/util/ArrayList", "DEFAULTCAPACITY_EMPTY_ELEMENTDATA", "[Ljava/lang/Object;", 2), ("ShadeRegister$Route", "STEPS_X", "[I", 2), ("ShadeRegister$Route", "STEPS_Y", "[I", 2), ("jdk/internal/util/Preconditions", "SIOOBE_FORMATTER", "Ljava/util/function/BiFunction;", 2), ("java/lang/String", "COMPACT_STRINGS", "Z", 0)]
def az_Kx (D : va_G) (cA : Nat → ClassId) (cs : Nat → Nat) (s : State) : Prop :=
  va_K D vwCl (az_tys cA) s ∧ (∀ w ∈ lw_tbl, az_isN w = true → va_Nw w s) ∧ va_AO "java/lang/Object" s ∧ va_Mi "[Ljava/lang/Object;" (cs 1000005) s ∧ va_Dc s ∧ ∀ q ∈ az_ss, vk_R q.1 q.2.1 q.2.2.1 (cs q.2.2.2) s
theorem az_Kx.warm {D : va_G} {cA : Nat → ClassId} {cs : Nat → Nat} {s U : State} (hW : s.WarmedH U.vm) (h : az_Kx D cA cs s) : az_Kx D cA cs U := by
  obtain ⟨h1, h2, h3, h4, h5, h6⟩ := h
  refine ⟨va_K.moved hW.alike h1, fun w hw hN => ?_, h3.moved hW.alike, h4.moved hW.alike, h5.moved hW.alike, fun q hq => (h6 q hq).warm hW⟩
  have h := h2 w hw hN
  cases w <;> first | exact va_Nw.warmF hW h | exact va_Nw.warmM hW h | exact va_Nw.warmC hW h | (simp [az_isN] at hN)
theorem az_Kx.same {D : va_G} {cA : Nat → ClassId} {cs : Nat → Nat} {s U : State} (hv : s.vm = U.vm) (h : az_Kx D cA cs s) : az_Kx D cA cs U := by
  obtain ⟨h1, h2, h3, h4, h5, h6⟩ := h
  have hA : s.vm.Alike U.vm := by rw [hv]; exact Vm.Alike.refl U.vm
  refine ⟨va_K.moved hA h1, fun w hw hN => ?_, h3.moved hA, h4.moved hA, h5.moved hA, fun q hq => (h6 q hq).same hv.symm⟩
  refine va_Nw.same ?_ hv (h2 w hw hN)
  cases w <;> first | rfl | (simp [az_isN] at hN)
/-- the constants that nobody writes -/
def az_C (base : Nat) (cs : Nat → Nat) (σ : az_S) (U : State) : Prop :=
  (∀ a, (az_sh σ a).1 = 110 → va_T .int (cs a) (az_sh σ a).2 (fun j => .int (az_i σ a j)) (fun q => base ≤ q) U U.heap) ∧
  (∀ a, (az_sh σ a).1 = 111 → va_T (.object "java/lang/Object") (cs a) (az_sh σ a).2 (fun _ => .null) (fun q => base ≤ q) U U.heap) ∧
  (∀ a, (az_sh σ a).1 = 112 → va_T .byte (cs a) (az_sh σ a).2 (fun j => .int (az_i σ a j)) (fun q => base ≤ q) U U.heap) ∧
  (∀ a, (az_sh σ a).1 = 113 → va_OF "java/lang/String" "value" "[B" (az_tr (az_ad base cs) (va_rf (az_r σ a 0))) (cs a) (fun q => base ≤ q) U U.heap ∧ va_OF "java/lang/String" "coder" "B" (.int (az_i σ a 1)) (cs a) (fun q => base ≤ q) U U.heap ∧ va_O "java/lang/String" (cs a) (fun q => base ≤ q) U U.heap) ∧
  (az_sh σ 1000007).1 = 115 ∧ ∀ (k : Nat) (q : String × String × String × Nat), az_st[k]? = some q → va_Z q.1 q.2.1 q.2.2.1 (az_tr (az_ad base cs) (az_fv σ 1000007 k q.2.2.2)) (fun q => base ≤ q) U U.heap
theorem az_C.to {base : Nat} {cs : Nat → Nat} {σ : az_S} {u U : State} (hA : u.vm.Alike U.vm) (hh : ∀ q, q < u.heap.size → ¬ base ≤ q → U.heap[q]? = u.heap[q]?) (h : az_C base cs σ u) : az_C base cs σ U := by
  obtain ⟨h1, h2, h3, h4, h5, h6⟩ := h
  exact ⟨fun a k => ((h1 a k).moved hA).kept hh, fun a k => ((h2 a k).moved hA).kept hh, fun a k => ((h3 a k).moved hA).kept hh, fun a k => ⟨((h4 a k).1.moved hA).kept hh, ((h4 a k).2.1.moved hA).kept hh, ((h4 a k).2.2.moved hA).kept hh⟩, h5, fun k q hq => ((h6 k q hq).moved hA).kept hh⟩
theorem az_C.upd {base : Nat} {cs : Nat → Nat} {σ τ : az_S} {U : State} (hs : ∀ b, (110 ≤ (az_sh σ b).1 ∧ (az_sh σ b).1 ≤ 120) ∨ (110 ≤ (az_sh τ b).1 ∧ (az_sh τ b).1 ≤ 120) → az_sh τ b = az_sh σ b ∧ az_i τ b = az_i σ b ∧ az_r τ b = az_r σ b) (h : az_C base cs σ U) : az_C base cs τ U := by
  obtain ⟨h1, h2, h3, h4, h5, h6⟩ := h
  refine ⟨fun a k => ?_, fun a k => ?_, fun a k => ?_, fun a k => ?_, ?_, fun k q hq => ?_⟩
  · obtain ⟨e1, e2, -⟩ := hs a (Or.inr (by omega))
    rw [e1, e2]; exact h1 a (by rw [← e1]; exact k)
  · obtain ⟨e1, e2, -⟩ := hs a (Or.inr (by omega))
    rw [e1]; exact h2 a (by rw [← e1]; exact k)
  · obtain ⟨e1, e2, -⟩ := hs a (Or.inr (by omega))
    rw [e1, e2]; exact h3 a (by rw [← e1]; exact k)
  · obtain ⟨e1, e2, e3⟩ := hs a (Or.inr (by omega))
    rw [e2, e3]; exact h4 a (by rw [← e1]; exact k)
  · obtain ⟨e1, -, -⟩ := hs 1000007 (Or.inl (by omega))
    rw [e1]; exact h5
  · obtain ⟨e1, e2, e3⟩ := hs 1000007 (Or.inl (by omega))
    have hkd : q.2.2.2 = 0 ∨ q.2.2.2 = 2 := by
      match k, hq with
      | 0, hq => cases hq; exact Or.inr rfl
      | 1, hq => cases hq; exact Or.inr rfl
      | 2, hq => cases hq; exact Or.inr rfl
      | 3, hq => cases hq; exact Or.inr rfl
      | 4, hq => cases hq; exact Or.inl rfl
      | k + 5, hq => simp [az_st] at hq
    have h := h6 k q hq
    have e : az_fv τ 1000007 k q.2.2.2 = az_fv σ 1000007 k q.2.2.2 := by
      rcases hkd with e | e <;> rw [e] <;> simp [az_fv, e2, e3]
    rw [e]
    exact h
def az_Rl (D : va_G) (cA : Nat → ClassId) (base : Nat) (cs : Nat → Nat) (s : State) (nL n0 s0 : Nat) (σ : az_S) (L : az_V) (H : Heap) (locs : List Loc) (ls : Array Slot) : Prop :=
  va_P D vwCl (az_ws cA (az_ad base cs) σ) H ∧ H.size = base + az_n σ ∧ va_S (fun q => base ≤ q) s.heap H locs ∧ az_ok σ ∧ az_C base cs σ s ∧ az_lv (az_ad base cs) ls nL L ∧ n0 ≤ az_n σ ∧ s0 ≤ az_sl σ
def az_Cx (D : va_G) (cA : Nat → ClassId) (base : Nat) (cs : Nat → Nat) (p : Program) (s : State) (m : MethodId) (args : Array Value) (c : Code) (cc : ByteArray) (own : String) : Prop :=
  p.tables.exec = Jvm.exec ∧ c.code = cc ∧ s.vm.findClass own = some m.cls ∧ (∀ w ∈ az_G, w.before args s = true) ∧ az_Kx D cA cs s ∧ base ≤ s.heap.size
/-- how a field is linked -/
def az_fl (own : String) (i : Nat) (q : vw_C) (k : Nat) : Prop := (Cond.fieldLink own i (q.2.1 k).1 (q.2.1 k).2.1 (q.2.1 k).2.2.1 ∈ az_G) ∨ (∃ h, Cond.fieldLinkNest own i (q.2.1 k).1 (q.2.1 k).2.1 (q.2.1 k).2.2.1 h ∈ lw_tbl) ∨ (∃ ref, Cond.fieldLink own i ref (q.2.1 k).2.1 (q.2.1 k).2.2.1 ∈ az_G ∧ Cond.sameField ref (q.2.1 k).1 (q.2.1 k).2.1 (q.2.1 k).2.2.1 ∈ az_G)
/-- what the tables must say of an instruction and of what is written beside it -/
def az_link (own nm : String) (ins : Instr) (aux : List Nat) : Prop := match ins with
  | .getfield i => (∃ ci k q, aux = [ci, k] ∧ vwCl[ci]? = some q ∧ k < q.2.2 ∧ az_fl own i q k) ∨ (aux = [113, 0] ∧ Cond.fieldLink own i "java/lang/String" "value" "[B" ∈ az_G) ∨ (aux = [113, 1] ∧ Cond.fieldLink own i "java/lang/String" "coder" "B" ∈ az_G)
  | .putfield i => ∃ ci k q, aux = [ci, k] ∧ vwCl[ci]? = some q ∧ k < q.2.2 ∧ (((q.2.1 k).2.2.2 = false ∧ az_fl own i q k) ∨ ((q.2.1 k).2.2.2 = true ∧ nm = "<init>" ∧ (q.2.1 k).1 = own ∧ Cond.fieldLink own i (q.2.1 k).1 (q.2.1 k).2.1 (q.2.1 k).2.2.1 ∈ az_G))
  | .new i => ∃ ci q, aux = [ci] ∧ vwCl[ci]? = some q ∧ Cond.classLink own i q.1 ∈ az_G ∧ Cond.instantiable q.1 q.2.2 ∈ az_G ∧ Cond.initialized q.1 ∈ az_G
  | .checkcast i => ∃ ci q, aux = [ci] ∧ vwCl[ci]? = some q ∧ Cond.classLink own i q.1 ∈ az_G
  | .anewarray i => Cond.classLink own i "java/lang/Object" ∈ az_G
  | .newarray t => Cond.arrayClass (newarray.typeOf t) ∈ az_G
  | .getstatic i => ∃ k kd q, aux = [k, kd] ∧ az_st[k]? = some q ∧ q.2.2.2 = kd ∧ Cond.fieldLink own i q.1 q.2.1 q.2.2.1 ∈ az_G
  | .ldc i => (∃ v, aux = [0, v] ∧ Cond.constant own i (Int32.ofNat v) ∈ az_G) ∨ (aux = [1, 1000005] ∧ Cond.classLink own i "[Ljava/lang/Object;" ∈ az_G) ∨ (∃ q ∈ az_ss, q.1 = own ∧ q.2.1 = i ∧ aux = [1, q.2.2.2])
  | .ldc_w i => ∃ v, aux = [0, v] ∧ Cond.constant own i (Int32.ofNat v) ∈ az_G
  | .ldc2_w i => ∃ v, aux = [v] ∧ Cond.constantLong own i (Int64.ofNat v) ∈ az_G
  | _ => True
/-- how long an instruction is -/
def az_il (ins : Instr) : Nat := match ins with
  | .bipush _ => 2
  | .sipush _ => 3
  | .iload _ => 2
  | .lload _ => 2
  | .aload _ => 2
  | .istore _ => 2
  | .lstore _ => 2
  | .astore _ => 2
  | .iinc _ _ => 3
  | .goto _ => 3
  | .ifCond _ _ => 3
  | .if_icmp _ _ => 3
  | .if_acmp _ _ => 3
  | .ifnull _ => 3
  | .ldc _ => 2
  | .ldc_w _ => 3
  | .ldc2_w _ => 3
  | .getstatic _ => 3
  | .getfield _ => 3
  | .putfield _ => 3
  | .newarray _ => 2
  | .anewarray _ => 3
  | .new _ => 3
  | .checkcast _ => 3
  | .invokevirtual _ => 3
  | .invokestatic _ => 3
  | .invokespecial _ => 3
  | .tableswitch _ _ _ _ => 0
  | .lookupswitch _ _ => 0
  | _ => 1
/-- a jump lands in the code -/
def az_jok (pc : Nat) (ins : Instr) : Prop := match ins with
  | .goto off => 0 ≤ (pc : Int) + off
  | .ifCond _ off => 0 ≤ (pc : Int) + off
  | .if_icmp _ off => 0 ≤ (pc : Int) + off
  | .if_acmp _ off => 0 ≤ (pc : Int) + off
  | .ifnull off => 0 ≤ (pc : Int) + off
  | .tableswitch d _ _ offs => 0 ≤ (pc : Int) + d ∧ offs.toList.all (fun o => decide (0 ≤ (pc : Int) + o)) = true
  | .lookupswitch d ps => 0 ≤ (pc : Int) + d ∧ ps.toList.all (fun o => decide (0 ≤ (pc : Int) + o.2)) = true
  | _ => True
end
section
/-! ONE STEP: where the abstract machine goes on, the machine goes on -/
theorem az_jt {pc : Nat} {off : Int} (h : 0 ≤ (pc : Int) + off) : (pc : Int) + off = ((az_j pc off : Nat) : Int) := by
  unfold az_j
  omega
theorem az_ad_lt {base : Nat} {cs : Nat → Nat} {a : Nat} (h : a < 1000000) : az_ad base cs a = base + a := by simp [az_ad, h]
theorem az_ad_ge {base : Nat} {cs : Nat → Nat} {a : Nat} (h : ¬ a < 1000000) : az_ad base cs a = cs a := by simp [az_ad, h]
theorem az_E_obj {cA : Nat → ClassId} {ad : Nat → Nat} {σ : az_S} {a ci : Nat} (h : (az_sh σ a).1 = ci) (hc : ci < 14) : az_E cA ad σ a = .inr (ci, (List.range (az_nf ci)).map (fun k => az_tr ad (az_fv σ a k (az_ft ci k)))) := by
  unfold az_E
  rw [h, if_pos hc]
theorem az_E_int {cA : Nat → ClassId} {ad : Nat → Nat} {σ : az_S} {a kd : Nat} (h : (az_sh σ a).1 = kd) (hc : kd = 100 ∨ kd = 101 ∨ kd = 102) : az_E cA ad σ a = .inl (cA kd, (az_sh σ a).2, .inl (az_i σ a)) := by
  unfold az_E
  rw [h, if_neg (by omega), if_neg (by omega), if_neg (by omega)]
theorem az_E_long {cA : Nat → ClassId} {ad : Nat → Nat} {σ : az_S} {a : Nat} (h : (az_sh σ a).1 = 103) : az_E cA ad σ a = .inl (cA 103, (az_sh σ a).2, .inr (.inl (az_l σ a))) := by
  unfold az_E
  rw [h, if_neg (by omega), if_pos rfl]
theorem az_E_ref {cA : Nat → ClassId} {ad : Nat → Nat} {σ : az_S} {a : Nat} (h : (az_sh σ a).1 = 104) : az_E cA ad σ a = .inl (cA 104, (az_sh σ a).2, .inr (.inr (.inr (.inr (fun j => (az_r σ a j).map ad))))) := by
  unfold az_E
  rw [h, if_neg (by omega), if_neg (by omega), if_pos rfl]
theorem az_ok.lt {σ : az_S} {a : Nat} (h : az_ok σ) (hk : (az_sh σ a).1 < 110) : a < az_n σ ∧ a < 1000000 := by
  have := h.1 a hk
  have := h.2.1
  omega
theorem az_ok.ge {σ : az_S} {a : Nat} (h : az_ok σ) (hk : 110 ≤ (az_sh σ a).1 ∧ (az_sh σ a).1 ≤ 120) : ¬ a < 1000000 := by
  intro q
  have := h.2.2 a q
  omega
theorem az_upd_i {α : Type} {f : Nat → Nat → α} {a k : Nat} {v : α} : az_up f a k v a = va_up (f a) k v := by simp [az_up, va_up]
theorem az_ok.pi {σ : az_S} {a k : Nat} {v : Int32} (h : az_ok σ) : az_ok (az_pi σ a k v) := h
theorem az_ok.pl {σ : az_S} {a k : Nat} {v : Int64} (h : az_ok σ) : az_ok (az_pl σ a k v) := h
theorem az_ok.pr {σ : az_S} {a k : Nat} {v : Option Nat} (h : az_ok σ) : az_ok (az_pr σ a k v) := h
theorem az_ok.nw {σ : az_S} {kd m : Nat} (h : az_ok σ) (hn : az_n σ < 1000000) (hk : kd < 110) : az_ok (az_nw σ kd m) := by
  refine ⟨fun a ha => ?_, hn, fun a ha => ?_⟩
  · by_cases e : a = az_n σ
    · subst e; exact Nat.lt_succ_self _
    · have h1 : (az_sh (az_nw σ kd m) a).1 = (az_sh σ a).1 := by simp [az_sh, az_nw, va_up, e]
      rw [h1] at ha
      exact Nat.lt_succ_of_lt (h.1 a ha)
  · by_cases e : a = az_n σ
    · subst e
      left
      show (va_up σ.2.2.1 σ.1 (kd, m) σ.1).1 < 110
      simp [va_up, hk]
    · have h1 : (az_sh (az_nw σ kd m) a).1 = (az_sh σ a).1 := by simp [az_sh, az_nw, va_up, e]
      rw [h1]
      exact h.2.2 a ha
theorem az_C.pi {base : Nat} {cs : Nat → Nat} {σ : az_S} {U : State} {a k : Nat} {v : Int32} (h : az_C base cs σ U) (hk : (az_sh σ a).1 < 110) : az_C base cs (az_pi σ a k v) U := by
  refine h.upd fun b hb => ?_
  have hb' : 110 ≤ (az_sh σ b).1 := by rcases hb with h | h <;> exact h.1
  have e : b ≠ a := fun e => by subst e; omega
  simp [az_sh, az_i, az_r, az_up, va_up, e]
theorem az_C.pl {base : Nat} {cs : Nat → Nat} {σ : az_S} {U : State} {a k : Nat} {v : Int64} (h : az_C base cs σ U) : az_C base cs (az_pl σ a k v) U := az_C.upd (σ := σ) (τ := az_pl σ a k v) (fun b _ => ⟨rfl, rfl, rfl⟩) h
theorem az_C.pr {base : Nat} {cs : Nat → Nat} {σ : az_S} {U : State} {a k : Nat} {v : Option Nat} (h : az_C base cs σ U) (hk : (az_sh σ a).1 < 110) : az_C base cs (az_pr σ a k v) U := by
  refine h.upd fun b hb => ?_
  have hb' : 110 ≤ (az_sh σ b).1 := by rcases hb with h | h <;> exact h.1
  have e : b ≠ a := fun e => by subst e; omega
  simp [az_sh, az_i, az_r, az_up, va_up, e]
theorem az_C.nw {base : Nat} {cs : Nat → Nat} {σ : az_S} {U : State} {kd m : Nat} (h : az_C base cs σ U) (hok : az_ok σ) (hn : az_n σ < 1000000) (hk : kd < 110) : az_C base cs (az_nw σ kd m) U := by
  refine h.upd fun b hb => ?_
  have e : b ≠ az_n σ := by
    intro e
    subst e
    have h1 := hok.2.2 (az_n σ) hn
    have h2 : (az_sh (az_nw σ kd m) (az_n σ)).1 = kd := by simp [az_sh, az_nw, va_up]
    rcases hb with q | q <;> omega
  simp [az_sh, az_i, az_r, az_nw, va_up, e]
theorem az_fs_pi {ad : Nat → Nat} {σ : az_S} {a k ci N : Nat} {v : Int32} (hk : az_ft ci k = 0) : (List.range N).map (fun j => az_tr ad (az_fv (az_pi σ a k v) a j (az_ft ci j))) = ((List.range N).map (fun j => az_tr ad (az_fv σ a j (az_ft ci j)))).set k (.int v) := by
  rw [az_fs_set]
  apply List.map_congr_left
  intro j _
  by_cases e : j = k
  · subst e
    simp [hk, az_fv, az_i, az_up, va_up, az_tr]
  · simp only [e, if_false]
    congr 1
    unfold az_fv
    split <;> simp [az_i, az_l, az_r, az_up, va_up, e]
theorem az_fs_pl {ad : Nat → Nat} {σ : az_S} {a k ci N : Nat} {v : Int64} (hk : az_ft ci k = 1) : (List.range N).map (fun j => az_tr ad (az_fv (az_pl σ a k v) a j (az_ft ci j))) = ((List.range N).map (fun j => az_tr ad (az_fv σ a j (az_ft ci j)))).set k (.long v) := by
  rw [az_fs_set]
  apply List.map_congr_left
  intro j _
  by_cases e : j = k
  · subst e
    simp [hk, az_fv, az_l, az_up, va_up, az_tr]
  · simp only [e, if_false]
    congr 1
    unfold az_fv
    split <;> simp [az_i, az_l, az_r, az_up, va_up, e]
theorem az_fs_pr {ad : Nat → Nat} {σ : az_S} {a k ci N : Nat} {v : Option Nat} (hk : az_ft ci k = 2) : (List.range N).map (fun j => az_tr ad (az_fv (az_pr σ a k v) a j (az_ft ci j))) = ((List.range N).map (fun j => az_tr ad (az_fv σ a j (az_ft ci j)))).set k (va_rf (v.map ad)) := by
  rw [az_fs_set]
  apply List.map_congr_left
  intro j _
  by_cases e : j = k
  · subst e
    rw [hk, if_pos rfl]
    show az_tr ad (va_rf (az_r (az_pr σ a j v) a j)) = _
    rw [az_tr_rf]
    simp [az_r, az_up, va_up]
  · simp only [e, if_false]
    congr 1
    unfold az_fv
    split <;> simp [az_i, az_l, az_r, az_up, va_up, e]
theorem az_upd_eq {f : Nat → Int32} {k : Nat} {x : Int32} : upd f k x = va_up f k x := rfl
theorem az_updL_eq {f : Nat → Int64} {k : Nat} {x : Int64} : vp_updL f k x = va_up f k x := rfl
theorem az_narrow_ref {ty : FieldType} (h : az_tk 2 ty = true) (o : Option Nat) : narrow ty (va_rf o) = va_rf o ∧ fits ty (va_rf o) = true := by
  cases ty <;> first | (cases h; done) | (cases o <;> exact ⟨rfl, rfl⟩)
end
section
theorem az_lk_off (d : Int) (x : Int) (P : Int → Prop) (hd : P d) : ∀ (l : List (Int × Int)), (∀ o ∈ l, P o.2) → P (Op.lookupswitch.offset l d x) := by
  intro l
  induction l with
  | nil => intro _; exact hd
  | cons a r ih =>
    intro h
    obtain ⟨a, o⟩ := a
    rw [Op.lookupswitch.offset_cons]
    split
    · exact h (a, o) List.mem_cons_self
    · exact ih (fun o ho => h o (List.mem_cons_of_mem _ ho))
section AzSim
variable {p : Program} {l : Launch} {e : Env} {R : Room} {s : State} {m : MethodId} {args : Array Value} {below : List Frame} {meth : Method} {c : Code} {Q : State → Prop} {cc : ByteArray} {own : String}
variable {D : va_G} {cA : Nat → ClassId} {base : Nat} {cs : Nat → Nat} {nL n0 s0 : Nat}
set_option maxHeartbeats 4000000 in
/-- what stays on the stack and in the locals -/
theorem az_sim_a {pc len : Nat} {ins : Instr} {aux : List Nat} {L : az_V} {st : List Value} {σ : az_S} {F : az_F} {H : Heap} {locs : List Loc} {ls : Array Slot} (hC : az_Cx D cA base cs p s m args c cc own) (hn : az_next pc len ins aux L st σ F) (hd : decode cc pc = .ok (ins, len)) (hil : az_il ins = 0 ∨ az_il ins = len) (hj : az_jok pc ins)
    (hins : match ins with | .getfield _ => False | .putfield _ => False | .new _ => False | .checkcast _ => False | .anewarray _ => False | .newarray _ => False | .getstatic _ => False | .ldc _ => False | .ldc_w _ => False | .ldc2_w _ => False | .iaload => False | .baload => False | .laload => False | .aaload => False | .iastore => False | .bastore => False | .lastore => False | .aastore => False | .arraylength => False | _ => True)
    (hR : az_Rl D cA base cs s nL n0 s0 σ L H locs ls)
    (kk : ∀ (ls' : Array Slot), az_Rl D cA base cs s nL n0 s0 F.2.2.2 F.2.1 H locs ls' → W p l e R s m args below meth c H locs (az_n F.2.2.2 - n0) (az_sl F.2.2.2 - s0) Q (F0 m F.1 ls' (F.2.2.1.map (az_tr (az_ad base cs))))) :
    W p l e R s m args below meth c H locs (az_n σ - n0) (az_sl σ - s0) Q (F0 m pc ls (st.map (az_tr (az_ad base cs)))) := by
  obtain ⟨hx, hb, hown, hts, hKx, hbase⟩ := hC
  obtain ⟨hP, hsz, hS, hok, hCc, hlv, hn0, hs0⟩ := id hR
  have hst : ∀ {L' : az_V} {ls' : Array Slot}, az_lv (az_ad base cs) ls' nL L' → az_Rl D cA base cs s nL n0 s0 σ L' H locs ls' := fun h => ⟨hP, hsz, hS, hok, hCc, h, hn0, hs0⟩
  cases ins
  case iconst n => cases hn; cases hil.resolve_left (by simp [az_il]); exact lv_iconst hx hb hd rfl (kk ls hR)
  case bipush n => cases hn; cases hil.resolve_left (by simp [az_il]); exact lv_bipush hx hb hd rfl (kk ls hR)
  case sipush n => cases hn; cases hil.resolve_left (by simp [az_il]); exact lv_sipush hx hb hd rfl (kk ls hR)
  case lconst n => cases hn; cases hil.resolve_left (by simp [az_il]); exact lv_lconst hx hb hd rfl (kk ls hR)
  case aconst_null => cases hn; cases hil.resolve_left (by simp [az_il]); exact lv_null hx hb hd (kk ls hR)
  case iload_n k => obtain ⟨v, h1, rfl⟩ := hn; cases hil.resolve_left (by simp [az_il]); exact lv_iload_n hx hb hd rfl (hlv.2.2.2 _ _ h1) (kk ls hR)
  case iload k => obtain ⟨v, h1, rfl⟩ := hn; cases hil.resolve_left (by simp [az_il]); exact lv_iload hx hb hd (hlv.2.2.2 _ _ h1) (kk ls hR)
  case lload_n k => obtain ⟨v, h1, rfl⟩ := hn; cases hil.resolve_left (by simp [az_il]); exact lv_lload_n hx hb hd rfl (hlv.2.2.2 _ _ h1) (kk ls hR)
  case lload k => obtain ⟨v, h1, rfl⟩ := hn; cases hil.resolve_left (by simp [az_il]); exact lv_lload hx hb hd (hlv.2.2.2 _ _ h1) (kk ls hR)
  case aload_n k =>
    obtain ⟨o, h1, rfl⟩ := hn; cases hil.resolve_left (by simp [az_il])
    cases o with
    | none => exact lv_aload_nN hx hb hd rfl (hlv.2.2.2 _ _ h1) (kk ls hR)
    | some x => exact lv_aload_n hx hb hd rfl (hlv.2.2.2 _ _ h1) (kk ls hR)
  case aload k =>
    obtain ⟨o, h1, rfl⟩ := hn; cases hil.resolve_left (by simp [az_il])
    cases o with
    | none => exact lv_aloadN hx hb hd (hlv.2.2.2 _ _ h1) (kk ls hR)
    | some x => exact lv_aload hx hb hd (hlv.2.2.2 _ _ h1) (kk ls hR)
  case istore_n k => obtain ⟨v, r, rfl, h2, rfl⟩ := hn; cases hil.resolve_left (by simp [az_il]); exact lv_istore_n hx hb hd rfl hlv.has (by rw [← hlv.2.1]; exact h2) rfl (fun ls' h => kk ls' (hst (hlv.put1 (v := .int v) h)))
  case istore k => obtain ⟨v, r, rfl, h2, rfl⟩ := hn; cases hil.resolve_left (by simp [az_il]); exact lv_istore hx hb hd hlv.has (by rw [← hlv.2.1]; exact h2) rfl (fun ls' h => kk ls' (hst (hlv.put1 (v := .int v) h)))
  case lstore_n k => obtain ⟨v, r, rfl, h2, rfl⟩ := hn; cases hil.resolve_left (by simp [az_il]); exact lv_lstore_n hx hb hd rfl hlv.has (by rw [← hlv.2.1]; exact h2) rfl (fun ls' h => kk ls' (hst (hlv.put2 (v := .long v) h)))
  case lstore k => obtain ⟨v, r, rfl, h2, rfl⟩ := hn; cases hil.resolve_left (by simp [az_il]); exact lv_lstore hx hb hd hlv.has (by rw [← hlv.2.1]; exact h2) rfl (fun ls' h => kk ls' (hst (hlv.put2 (v := .long v) h)))
  case astore_n k =>
    obtain ⟨o, r, rfl, h2, rfl⟩ := hn; cases hil.resolve_left (by simp [az_il])
    cases o with
    | none => exact lv_astore_nN hx hb hd rfl hlv.has (by rw [← hlv.2.1]; exact h2) rfl (fun ls' h => kk ls' (hst (hlv.put1 (v := .null) h)))
    | some x => exact lv_astore_n hx hb hd rfl hlv.has (by rw [← hlv.2.1]; exact h2) rfl (fun ls' h => kk ls' (hst (hlv.put1 (v := .ref x) h)))
  case astore k =>
    obtain ⟨o, r, rfl, h2, rfl⟩ := hn; cases hil.resolve_left (by simp [az_il])
    cases o with
    | none => exact lv_astoreN hx hb hd hlv.has (by rw [← hlv.2.1]; exact h2) rfl (fun ls' h => kk ls' (hst (hlv.put1 (v := .null) h)))
    | some x => exact lv_astore hx hb hd hlv.has (by rw [← hlv.2.1]; exact h2) rfl (fun ls' h => kk ls' (hst (hlv.put1 (v := .ref x) h)))
  case iinc k n =>
    obtain ⟨v, h1, rfl⟩ := hn; cases hil.resolve_left (by simp [az_il])
    obtain ⟨q, hq⟩ := List.getElem?_of_mem (az_mem_ll.mpr ⟨_, h1, rfl⟩ : (k, Value.int v) ∈ az_ll (az_ad base cs) L)
    exact lv_iinc hx hb hd hlv.has hq rfl (by rw [← hlv.2.1]; exact az_get_lt h1) rfl (fun ls' h => kk ls' (hst (hlv.put1 (v := .int _) h)))
  case iadd => obtain ⟨x, y, r, rfl, rfl⟩ := hn; cases hil.resolve_left (by simp [az_il]); exact lv_iadd hx hb hd (kk ls hR)
  case isub => obtain ⟨x, y, r, rfl, rfl⟩ := hn; cases hil.resolve_left (by simp [az_il]); exact lv_isub hx hb hd (kk ls hR)
  case imul => obtain ⟨x, y, r, rfl, rfl⟩ := hn; cases hil.resolve_left (by simp [az_il]); exact lv_imul hx hb hd (kk ls hR)
  case idiv => obtain ⟨x, y, r, rfl, h0, rfl⟩ := hn; cases hil.resolve_left (by simp [az_il]); exact lv_idiv hx hb hd h0 (kk ls hR)
  case irem => obtain ⟨x, y, r, rfl, h0, rfl⟩ := hn; cases hil.resolve_left (by simp [az_il]); exact lv_irem hx hb hd h0 (kk ls hR)
  case iand => obtain ⟨x, y, r, rfl, rfl⟩ := hn; cases hil.resolve_left (by simp [az_il]); exact lv_iand hx hb hd (kk ls hR)
  case ior => obtain ⟨x, y, r, rfl, rfl⟩ := hn; cases hil.resolve_left (by simp [az_il]); exact lv_ior hx hb hd (kk ls hR)
  case ixor => obtain ⟨x, y, r, rfl, rfl⟩ := hn; cases hil.resolve_left (by simp [az_il]); exact lv_ixor hx hb hd (kk ls hR)
  case ishl => obtain ⟨x, y, r, rfl, rfl⟩ := hn; cases hil.resolve_left (by simp [az_il]); exact lv_ishl hx hb hd (kk ls hR)
  case ishr => obtain ⟨x, y, r, rfl, rfl⟩ := hn; cases hil.resolve_left (by simp [az_il]); exact lv_ishr hx hb hd (kk ls hR)
  case iushr => obtain ⟨x, y, r, rfl, rfl⟩ := hn; cases hil.resolve_left (by simp [az_il]); exact lv_iushr hx hb hd rfl (kk ls hR)
  case ineg => obtain ⟨x, r, rfl, rfl⟩ := hn; cases hil.resolve_left (by simp [az_il]); exact lv_ineg hx hb hd (kk ls hR)
  case ladd => obtain ⟨x, y, r, rfl, rfl⟩ := hn; cases hil.resolve_left (by simp [az_il]); exact lv_ladd hx hb hd (kk ls hR)
  case lsub => obtain ⟨x, y, r, rfl, rfl⟩ := hn; cases hil.resolve_left (by simp [az_il]); exact lv_lsub hx hb hd (kk ls hR)
  case lmul => obtain ⟨x, y, r, rfl, rfl⟩ := hn; cases hil.resolve_left (by simp [az_il]); exact lv_lmul hx hb hd (kk ls hR)
  case ldiv => obtain ⟨x, y, r, rfl, h0, rfl⟩ := hn; cases hil.resolve_left (by simp [az_il]); exact lv_ldiv hx hb hd h0 (kk ls hR)
  case land => obtain ⟨x, y, r, rfl, rfl⟩ := hn; cases hil.resolve_left (by simp [az_il]); exact lv_land hx hb hd (kk ls hR)
  case lor => obtain ⟨x, y, r, rfl, rfl⟩ := hn; cases hil.resolve_left (by simp [az_il]); exact lv_lor hx hb hd (kk ls hR)
  case lneg => obtain ⟨x, r, rfl, rfl⟩ := hn; cases hil.resolve_left (by simp [az_il]); exact lv_lneg hx hb hd (kk ls hR)
  case i2l => obtain ⟨x, r, rfl, rfl⟩ := hn; cases hil.resolve_left (by simp [az_il]); exact lv_i2l hx hb hd rfl (kk ls hR)
  case l2i => obtain ⟨x, r, rfl, rfl⟩ := hn; cases hil.resolve_left (by simp [az_il]); exact lv_l2i hx hb hd rfl (kk ls hR)
  case i2b => obtain ⟨x, r, rfl, rfl⟩ := hn; cases hil.resolve_left (by simp [az_il]); exact lv_i2b hx hb hd rfl (kk ls hR)
  case i2c => obtain ⟨x, r, rfl, rfl⟩ := hn; cases hil.resolve_left (by simp [az_il]); exact lv_i2c hx hb hd rfl (kk ls hR)
  case lcmp => obtain ⟨x, y, r, rfl, rfl⟩ := hn; cases hil.resolve_left (by simp [az_il]); exact W.lcmp hx hb hd (kk ls hR)
  case dup => obtain ⟨v, r, rfl, h1, rfl⟩ := hn; cases hil.resolve_left (by simp [az_il]); exact lv_dup hx hb hd (by rw [az_tr_cat]; exact h1) (kk ls hR)
  case pop => obtain ⟨v, r, rfl, h1, rfl⟩ := hn; cases hil.resolve_left (by simp [az_il]); exact lv_pop hx hb hd (va := az_tr (az_ad base cs) v) (by rw [az_tr_cat]; exact h1) (kk ls hR)
  case dup_x1 => obtain ⟨v, w, r, rfl, h1, h2, rfl⟩ := hn; cases hil.resolve_left (by simp [az_il]); exact lv_dup_x1 hx hb hd (by rw [az_tr_cat]; exact h1) (by rw [az_tr_cat]; exact h2) (kk ls hR)
  case dup2 => obtain ⟨v, w, r, rfl, h1, h2, rfl⟩ := hn; cases hil.resolve_left (by simp [az_il]); exact lv_dup2_11 hx hb hd (by rw [az_tr_cat]; exact h1) (by rw [az_tr_cat]; exact h2) (kk ls hR)
  case goto off => cases hn; cases hil.resolve_left (by simp [az_il]); exact lv_goto hx hb hd (az_jt hj) (kk ls hR)
  case ifCond cd off =>
    obtain ⟨x, r, rfl, h⟩ := hn
    cases hil.resolve_left (by simp [az_il])
    have ht : az_cmp cd x 0 → W p l e R s m args below meth c H locs (az_n σ - n0) (az_sl σ - s0) Q (F0 m (az_j pc off) ls (r.map (az_tr (az_ad base cs)))) := fun q => by
      rcases h with ⟨h1, rfl⟩ | ⟨h1, rfl⟩
      · exact kk ls hR
      · exact absurd q h1
    have hf : ¬ az_cmp cd x 0 → W p l e R s m args below meth c H locs (az_n σ - n0) (az_sl σ - s0) Q (F0 m (pc + 3) ls (r.map (az_tr (az_ad base cs)))) := fun q => by
      rcases h with ⟨h1, rfl⟩ | ⟨h1, rfl⟩
      · exact absurd h1 q
      · exact kk ls hR
    cases cd
    · exact lv_if_eq hx hb hd (az_jt hj) ht hf
    · exact lv_if_ne hx hb hd (az_jt hj) ht (fun q => hf (fun z => z q))
    · exact lv_if_lt hx hb hd (az_jt hj) ht hf
    · exact lv_if_ge hx hb hd (az_jt hj) ht hf
    · exact lv_if_gt hx hb hd (az_jt hj) ht hf
    · exact lv_if_le hx hb hd (az_jt hj) ht hf
  case if_icmp cd off =>
    obtain ⟨x, y, r, rfl, h⟩ := hn
    cases hil.resolve_left (by simp [az_il])
    have ht : az_cmp cd x y → W p l e R s m args below meth c H locs (az_n σ - n0) (az_sl σ - s0) Q (F0 m (az_j pc off) ls (r.map (az_tr (az_ad base cs)))) := fun q => by
      rcases h with ⟨h1, rfl⟩ | ⟨h1, rfl⟩
      · exact kk ls hR
      · exact absurd q h1
    have hf : ¬ az_cmp cd x y → W p l e R s m args below meth c H locs (az_n σ - n0) (az_sl σ - s0) Q (F0 m (pc + 3) ls (r.map (az_tr (az_ad base cs)))) := fun q => by
      rcases h with ⟨h1, rfl⟩ | ⟨h1, rfl⟩
      · exact absurd h1 q
      · exact kk ls hR
    cases cd
    · exact lv_icmp_eq hx hb hd (az_jt hj) ht hf
    · exact lv_icmp_ne hx hb hd (az_jt hj) ht (fun q => hf (fun z => z q))
    · exact lv_icmp_lt hx hb hd (az_jt hj) ht hf
    · exact lv_icmp_ge hx hb hd (az_jt hj) ht hf
    · exact lv_icmp_gt hx hb hd (az_jt hj) ht hf
    · exact lv_icmp_le hx hb hd (az_jt hj) ht hf
  case ifnull off =>
    obtain ⟨x, r, rfl, h⟩ := hn
    cases hil.resolve_left (by simp [az_il])
    cases x with
    | none =>
      rcases h with ⟨h1, rfl⟩ | ⟨h1, rfl⟩
      · exact lv_ifnullN hx hb hd (az_jt hj) (kk ls hR)
      · exact absurd rfl h1
    | some a =>
      rcases h with ⟨h1, rfl⟩ | ⟨h1, rfl⟩
      · cases h1
      · exact lv_ifnull hx hb hd (kk ls hR)
  case tableswitch d lo hi offs =>
    obtain ⟨x, r, rfl, h⟩ := hn
    rcases h with ⟨h1, rfl⟩ | ⟨off, h1, h2, h3, rfl⟩
    · exact lv_tableOut hx hb hd h1 (az_jt hj.1) (kk ls hR)
    · refine lv_tableIn hx hb hd h1 h2 h3 (az_jt ?_) (kk ls hR)
      have hm : off ∈ offs.toList := by
        have := Array.mem_of_getElem? h3
        exact Array.mem_toList_iff.mpr this
      exact of_decide_eq_true (List.all_eq_true.mp hj.2 off hm)
  case lookupswitch d ps =>
    obtain ⟨x, r, rfl, h1, rfl⟩ := hn
    refine lv_lookup hx hb hd h1 rfl (az_jt ?_) (kk ls hR)
    exact az_lk_off d x.toInt (fun o => 0 ≤ (pc : Int) + o) hj.1 ps.toList (fun o ho => of_decide_eq_true (List.all_eq_true.mp hj.2 o ho))
  case if_acmp cd off =>
    obtain ⟨x, r, rfl, rfl⟩ := hn
    cases hil.resolve_left (by simp [az_il])
    have e : (va_rf x :: va_rf x :: r).map (az_tr (az_ad base cs)) = va_rf (x.map (az_ad base cs)) :: va_rf (x.map (az_ad base cs)) :: r.map (az_tr (az_ad base cs)) := by simp only [List.map_cons, az_tr_rf]
    rw [e]
    cases cd
    · exact lv_acmp_eq hx hb hd (az_jt hj) (fun _ => kk ls hR) (fun q => absurd rfl q)
    · exact lv_acmp_ne hx hb hd (az_jt hj) (fun q => absurd rfl q) (fun _ => kk ls hR)
  all_goals first | exact hn.elim | exact hins.elim
end AzSim
end
section
section AzSim2
variable {p : Program} {l : Launch} {e : Env} {R : Room} {s : State} {m : MethodId} {args : Array Value} {below : List Frame} {meth : Method} {c : Code} {Q : State → Prop} {cc : ByteArray} {own : String}
variable {D : va_G} {cA : Nat → ClassId} {base : Nat} {cs : Nat → Nat} {nL n0 s0 : Nat}
theorem az_same {args : Array Value} {s : State} {own : String} {i : Nat} {q : vw_C} {k : Nat} (hts : ∀ w ∈ az_G, w.before args s = true) (hN : ∀ w ∈ lw_tbl, az_isN w = true → va_Nw w s) (h : az_fl own i q k) :
    (∃ ref, (Cond.fieldLink own i ref (q.2.1 k).2.1 (q.2.1 k).2.2.1).before args s = true ∧ ∀ x, s.fieldFound? (q.2.1 k).1 (q.2.1 k).2.1 (q.2.1 k).2.2.1 = some x → s.fieldFound? ref (q.2.1 k).2.1 (q.2.1 k).2.2.1 = some x) ∨
    (∃ ref host, (Cond.fieldLinkNest own i ref (q.2.1 k).2.1 (q.2.1 k).2.2.1 host).before args s = true ∧ ∀ x, s.fieldFound? (q.2.1 k).1 (q.2.1 k).2.1 (q.2.1 k).2.2.1 = some x → s.fieldFound? ref (q.2.1 k).2.1 (q.2.1 k).2.2.1 = some x) := by
  rcases h with h | ⟨host, h⟩ | ⟨ref, h1, h2⟩
  · exact Or.inl ⟨_, hts _ h, fun _ h9 => h9⟩
  · exact Or.inr ⟨_, host, va_Nw.use rfl (hN _ h rfl), fun _ h9 => h9⟩
  · exact Or.inl ⟨ref, hts _ h1, fun x hx => u_same (hts _ h2) x hx⟩
/-- a field is read -/
theorem az_sim_get {pc len i : Nat} {aux : List Nat} {nm : String} {L : az_V} {st : List Value} {σ : az_S} {F : az_F} {H : Heap} {locs : List Loc} {ls : Array Slot} (hC : az_Cx D cA base cs p s m args c cc own) (hn : az_next pc len (.getfield i) aux L st σ F) (hd : decode cc pc = .ok (.getfield i, len)) (hil : len = 3) (hl : az_link own nm (.getfield i) aux)
    (hR : az_Rl D cA base cs s nL n0 s0 σ L H locs ls)
    (kk : ∀ (ls' : Array Slot), az_Rl D cA base cs s nL n0 s0 F.2.2.2 F.2.1 H locs ls' → W p l e R s m args below meth c H locs (az_n F.2.2.2 - n0) (az_sl F.2.2.2 - s0) Q (F0 m F.1 ls' (F.2.2.1.map (az_tr (az_ad base cs))))) :
    W p l e R s m args below meth c H locs (az_n σ - n0) (az_sl σ - s0) Q (F0 m pc ls (st.map (az_tr (az_ad base cs)))) := by
  obtain ⟨hx, hb, hown, hts, hKx, hbase⟩ := hC
  obtain ⟨hP, hsz, hS, hok, hCc, hlv, hn0, hs0⟩ := id hR
  subst hil
  obtain ⟨ci, k, a, r, rfl, rfl, hk, rfl⟩ := hn
  rcases hl with ⟨ci', k', q, hax, hq, hkN, hfl⟩ | ⟨hax, hlk⟩ | ⟨hax, hlk⟩
  · cases hax
    have hci : ci < 14 := by
      have := (List.getElem?_eq_some_iff.mp hq).1
      simpa [vwCl] using this
    obtain ⟨ha, ha6⟩ := hok.lt (a := a) (by rw [hk]; omega)
    have hg : (az_ws cA (az_ad base cs) σ)[a]? = some (az_ad base cs a, .inr (ci, (List.range (az_nf ci)).map (fun k => az_tr (az_ad base cs) (az_fv σ a k (az_ft ci k))))) := by rw [az_ws_get ha, az_E_obj hk hci]
    have hv : ((List.range (az_nf ci)).map (fun k => az_tr (az_ad base cs) (az_fv σ a k (az_ft ci k))))[k]? = some (az_tr (az_ad base cs) (az_fv σ a k (az_ft ci k))) := by
      have : k < az_nf ci := by rw [az_cnf ci q hq]; exact hkN
      simp [this]
    rcases az_same (args := args) hts hKx.2.1 hfl with ⟨ref, h1, h2⟩ | ⟨ref, host, h1, h2⟩
    · exact va_get (D := D) (ci := ci) (C := q.1) (T := q.2.1) (N := q.2.2) hx hb hts (az_cin ci q hq) hown hKx.1 hP a hg hq k hkN h1 h2 hv hd (kk ls hR)
    · exact va_getN (D := D) (ci := ci) (C := q.1) (T := q.2.1) (N := q.2.2) hx hb hts (az_cin ci q hq) hown hKx.1 hP a hg hq k hkN h1 h2 hv hd (kk ls hR)
  · cases hax
    have hg := hok.ge (a := a) (by omega)
    have := (hCc.2.2.2.1 a hk).1
    rw [← az_ad_ge (base := base) (cs := cs) hg] at this
    exact vk_getf hx hb this hS hown (hts _ hlk) (fun _ h => h) hd (kk ls hR)
  · cases hax
    have hg := hok.ge (a := a) (by omega)
    have := (hCc.2.2.2.1 a hk).2.1
    rw [← az_ad_ge (base := base) (cs := cs) hg] at this
    exact vk_getf hx hb this hS hown (hts _ hlk) (fun _ h => h) hd (kk ls hR)
theorem az_sized {H : Heap} {locs : List Loc} {cells slots : Nat} {g : JFrame} (h : H.size ≤ s.heap.size + cells → W p l e R s m args below meth c H locs cells slots Q g) : W p l e R s m args below meth c H locs cells slots Q g := fun T hT X => h (by rw [← hT]; exact X.heapSize) T hT X
theorem az_size {σ : az_S} {H : Heap} {locs : List Loc} (hP : va_P D vwCl (az_ws cA (az_ad base cs) σ) H) (hS : va_S (fun q => base ≤ q) s.heap H locs) (hn : az_n σ ≤ 1000000) (hn0 : n0 ≤ az_n σ) (hb : s.heap.size = base + n0) (hz : H.size ≤ s.heap.size + (az_n σ - n0)) : H.size = base + az_n σ := by
  have h1 : base + az_n σ ≤ H.size := by
    by_cases h0 : az_n σ = 0
    · have := hS.1
      omega
    · have hl : az_n σ - 1 < az_n σ := by omega
      have := (hP (az_n σ - 1) _ (az_ws_get hl)).lt
      simp only at this
      rw [az_ad_lt (by omega)] at this
      omega
  omega
/-- a cell of the world is written -/
theorem az_Rl.set {σ τ : az_S} {L : az_V} {H H1 : Heap} {locs locs1 : List Loc} {ls : Array Slot} {a : Nat} (hR : az_Rl D cA base cs s nL n0 s0 σ L H locs ls) (hn : az_n τ = az_n σ) (hsl : az_sl τ = az_sl σ) (hz : H1.size ≤ s.heap.size + (az_n σ - n0)) (hb : s.heap.size = base + n0) (hP : va_P D vwCl ((az_ws cA (az_ad base cs) σ).set a (az_ad base cs a, az_E cA (az_ad base cs) τ a)) H1) (he : ∀ b, b ≠ a → az_E cA (az_ad base cs) τ b = az_E cA (az_ad base cs) σ b) (hS : va_S (fun q => base ≤ q) s.heap H1 locs1) (hok : az_ok τ) (hC : az_C base cs τ s) : az_Rl D cA base cs s nL n0 s0 τ L H1 locs1 ls := by
  obtain ⟨-, hsz, -, -, -, hlv, hn0, hs0⟩ := hR
  have hP1 : va_P D vwCl (az_ws cA (az_ad base cs) τ) H1 := by rw [az_ws_set hn he]; exact hP
  exact ⟨hP1, az_size hP1 hS hok.2.1 (by rw [hn]; exact hn0) hb (by rw [hn]; exact hz), hS, hok, hC, hlv, by rw [hn]; exact hn0, by rw [hsl]; exact hs0⟩
/-- a cell comes -/
theorem az_Rl.push {σ : az_S} {kd mm : Nat} {L : az_V} {H H1 : Heap} {locs locs1 : List Loc} {ls : Array Slot} {q : Nat} {E : va_E} (hR : az_Rl D cA base cs s nL n0 s0 σ L H locs ls) (hlt : az_n σ < 1000000) (hkd : kd < 110) (hz : H1.size ≤ s.heap.size + (az_n σ - n0 + 1)) (hb : s.heap.size = base + n0) (hP : va_P D vwCl (az_ws cA (az_ad base cs) σ ++ [(q, E)]) H1) (hD : va_D (fun q => base ≤ q) (az_ws cA (az_ad base cs) σ ++ [(q, E)])) (hE : az_E cA (az_ad base cs) (az_nw σ kd mm) (az_n σ) = E) (hS : va_S (fun q => base ≤ q) s.heap H1 locs1) : q = az_ad base cs (az_n σ) ∧ az_Rl D cA base cs s nL n0 s0 (az_nw σ kd mm) L H1 locs1 ls := by
  obtain ⟨-, hsz, -, hok, hC, hlv, hn0, hs0⟩ := hR
  have hlen : (az_ws cA (az_ad base cs) σ).length = az_n σ := by simp [az_ws]
  have hgq : (az_ws cA (az_ad base cs) σ ++ [(q, E)])[az_n σ]? = some (q, E) := by rw [List.getElem?_append_right (by omega), hlen, Nat.sub_self]; rfl
  have hq1 := (hP _ _ hgq).lt
  have hq2 : base ≤ q := hD.2 _ _ hgq
  have hq3 : ∀ i, i < az_n σ → q ≠ base + i := by
    intro i hi e
    have hgi : (az_ws cA (az_ad base cs) σ ++ [(q, E)])[i]? = some (az_ad base cs i, az_E cA (az_ad base cs) σ i) := by rw [List.getElem?_append_left (by omega), az_ws_get hi]
    have := hD.1 (az_n σ) i _ _ hgq hgi (by simp only; rw [az_ad_lt (by omega)]; exact e)
    omega
  have hq : q = base + az_n σ := by
    simp only at hq1
    by_cases h : q < base + az_n σ
    · exact absurd (show q = base + (q - base) by omega) (hq3 (q - base) (by omega))
    · omega
  have hq' : q = az_ad base cs (az_n σ) := by rw [az_ad_lt hlt]; exact hq
  refine ⟨hq', ?_⟩
  have hP1 : va_P D vwCl (az_ws cA (az_ad base cs) (az_nw σ kd mm)) H1 := by
    rw [az_ws_push (σ := σ) rfl (fun b hb => az_E_nw hb), hE, ← hq']
    exact hP
  have hok1 : az_ok (az_nw σ kd mm) := hok.nw hlt hkd
  refine ⟨hP1, az_size (n0 := n0) hP1 hS hok1.2.1 (Nat.le_succ_of_le hn0) hb ?_, hS, hok1, hC.nw hok hlt hkd, hlv, Nat.le_succ_of_le hn0, Nat.le_trans hs0 (Nat.le_add_right _ _)⟩
  show H1.size ≤ s.heap.size + (az_n σ + 1 - n0)
  omega
set_option maxHeartbeats 4000000 in
/-- a field is written -/
theorem az_sim_put {pc len i : Nat} {aux : List Nat} {L : az_V} {st : List Value} {σ : az_S} {F : az_F} {H : Heap} {locs : List Loc} {ls : Array Slot} (hC : az_Cx D cA base cs p s m args c cc own) (hb0 : s.heap.size = base + n0) (hn : az_next pc len (.putfield i) aux L st σ F) (hd : decode cc pc = .ok (.putfield i, len)) (hil : len = 3) (hl : az_link own meth.name (.putfield i) aux)
    (hR : az_Rl D cA base cs s nL n0 s0 σ L H locs ls)
    (kk : ∀ (H' : Heap) (locs' : List Loc) (ls' : Array Slot), az_Rl D cA base cs s nL n0 s0 F.2.2.2 F.2.1 H' locs' ls' → W p l e R s m args below meth c H' locs' (az_n F.2.2.2 - n0) (az_sl F.2.2.2 - s0) Q (F0 m F.1 ls' (F.2.2.1.map (az_tr (az_ad base cs))))) :
    W p l e R s m args below meth c H locs (az_n σ - n0) (az_sl σ - s0) Q (F0 m pc ls (st.map (az_tr (az_ad base cs)))) := by
  obtain ⟨hx, hb, hown, hts, hKx, hbase⟩ := hC
  obtain ⟨hP, hsz, hS, hok, hCc, hlv, hn0, hs0⟩ := id hR
  subst hil
  obtain ⟨ci, k, a, rfl, hk, hcase⟩ := hn
  obtain ⟨ci', k', q, hax, hq, hkN, hfin⟩ := hl
  cases hax
  have hci : ci < 14 := by
    have := (List.getElem?_eq_some_iff.mp hq).1
    simpa [vwCl] using this
  have hk110 : (az_sh σ a).1 < 110 := by rw [hk]; omega
  obtain ⟨ha, ha6⟩ := hok.lt (a := a) hk110
  have hD := az_D (cA := cA) (base := base) (cs := cs) hok.2.1
  have hnf : az_nf ci = q.2.2 := az_cnf ci q hq
  have hg : (az_ws cA (az_ad base cs) σ)[a]? = some (az_ad base cs a, .inr (ci, (List.range (az_nf ci)).map (fun k => az_tr (az_ad base cs) (az_fv σ a k (az_ft ci k))))) := by rw [az_ws_get ha, az_E_obj hk hci]
  have hty := az_cty ci q hq k hkN
  have htk := az_ctk ci q hq k hkN
  have hlen : k < ((List.range (az_nf ci)).map (fun k => az_tr (az_ad base cs) (az_fv σ a k (az_ft ci k)))).length := by simp [hnf, hkN]
  -- the write itself, of a value that fits
  have main : ∀ (v : Value) (r : List Value) (τ : az_S), narrow (az_tyc ci k) v = v → fits (az_tyc ci k) v = true → (∀ H1 locs1, H1.size ≤ s.heap.size + (az_n σ - n0) → va_P D vwCl ((az_ws cA (az_ad base cs) σ).set a (az_ad base cs a, .inr (ci, ((List.range (az_nf ci)).map (fun k => az_tr (az_ad base cs) (az_fv σ a k (az_ft ci k)))).set k v))) H1 → va_S (fun q => base ≤ q) s.heap H1 locs1 → W p l e R s m args below meth c H1 locs1 (az_n σ - n0) (az_sl σ - s0) Q (F0 m (pc + 3) ls r)) → W p l e R s m args below meth c H locs (az_n σ - n0) (az_sl σ - s0) Q (F0 m pc ls (v :: .ref (az_ad base cs a) :: r)) := by
    intro v r τ hnr hft k9
    rcases hfin with ⟨hf, hfl⟩ | ⟨hf, hnm, hdecl, hlk⟩
    · rcases az_same (args := args) hts hKx.2.1 hfl with ⟨ref, h1, h2⟩ | ⟨ref, host, h1, h2⟩
      · exact va_put (D := D) (ci := ci) (C := q.1) (T := q.2.1) (N := q.2.2) hx hb hts (az_cin ci q hq) (az_tyc ci) (az_cty ci q hq) (az_cnm ci q hq) hown hKx.1 hP hD hS a hg hq k hkN h1 h2 hf hty hnr hft hlen hd (fun H1 locs1 hP1 _ hS1 => az_sized (fun hz => k9 H1 locs1 hz hP1 hS1))
      · exact va_putN (D := D) (ci := ci) (C := q.1) (T := q.2.1) (N := q.2.2) hx hb hts (az_cin ci q hq) (az_tyc ci) (az_cty ci q hq) (az_cnm ci q hq) hown hKx.1 hP hD hS a hg hq k hkN h1 h2 hf hty hnr hft hlen hd (fun H1 locs1 hP1 _ hS1 => az_sized (fun hz => k9 H1 locs1 hz hP1 hS1))
    · exact va_putF (D := D) (ci := ci) (C := q.1) (T := q.2.1) (N := q.2.2) hx hb hts (az_cin ci q hq) (az_tyc ci) (az_cty ci q hq) (az_cnm ci q hq) hown hKx.1 hP hD hS a hg hq k hkN (hts _ hlk) (fun _ h9 => h9) hf hnm hdecl hty hnr hft hlen hd (fun H1 locs1 hP1 _ hS1 => az_sized (fun hz => k9 H1 locs1 hz hP1 hS1))
  rcases hcase with ⟨hft, v, r, rfl, rfl⟩ | ⟨hft, v, r, rfl, rfl⟩ | ⟨hft, v, r, rfl, rfl⟩
  · have hT : az_tyc ci k = .int := by rw [hft] at htk; exact of_decide_eq_true htk
    refine main (.int v) (r.map (az_tr (az_ad base cs))) (az_pi σ a k v) (by rw [hT]; rfl) (by rw [hT]; rfl) (fun H1 locs1 hz hP1 hS1 => kk H1 locs1 ls (hR.set (τ := az_pi σ a k v) rfl rfl hz hb0 ?_ (fun b hb => az_E_pi hb) hS1 hok.pi (hCc.pi hk110)))
    rw [az_E_obj (σ := az_pi σ a k v) hk hci, az_fs_pi hft]
    exact hP1
  · have hT : az_tyc ci k = .long := by rw [hft] at htk; exact of_decide_eq_true htk
    refine main (.long v) (r.map (az_tr (az_ad base cs))) (az_pl σ a k v) (by rw [hT]; rfl) (by rw [hT]; rfl) (fun H1 locs1 hz hP1 hS1 => kk H1 locs1 ls (hR.set (τ := az_pl σ a k v) rfl rfl hz hb0 ?_ (fun b hb => az_E_pl hb) hS1 hok.pl hCc.pl))
    rw [az_E_obj (σ := az_pl σ a k v) hk hci, az_fs_pl hft]
    exact hP1
  · have hT : az_tk 2 (az_tyc ci k) = true := by rw [hft] at htk; exact htk
    have e : (va_rf v :: .ref a :: r).map (az_tr (az_ad base cs)) = va_rf (v.map (az_ad base cs)) :: .ref (az_ad base cs a) :: r.map (az_tr (az_ad base cs)) := by simp only [List.map_cons, az_tr_rf]; rfl
    rw [e]
    obtain ⟨g1, g2⟩ := az_narrow_ref hT (v.map (az_ad base cs))
    refine main (va_rf (v.map (az_ad base cs))) (r.map (az_tr (az_ad base cs))) (az_pr σ a k v) g1 g2 (fun H1 locs1 hz hP1 hS1 => kk H1 locs1 ls (hR.set (τ := az_pr σ a k v) rfl rfl hz hb0 ?_ (fun b hb => az_E_pr hb) hS1 hok.pr (hCc.pr hk110)))
    rw [az_E_obj (σ := az_pr σ a k v) hk hci, az_fs_pr hft]
    exact hP1
end AzSim2
end
section
section AzSim3
variable {p : Program} {l : Launch} {e : Env} {R : Room} {s : State} {m : MethodId} {args : Array Value} {below : List Frame} {meth : Method} {c : Code} {Q : State → Prop} {cc : ByteArray} {own : String}
variable {D : va_G} {cA : Nat → ClassId} {base : Nat} {cs : Nat → Nat} {nL n0 s0 : Nat}
theorem az_ss_ge : ∀ q ∈ az_ss, ¬ q.2.2.2 < 1000000 := by decide
theorem az_alen_go {H : Heap} {locs : List Loc} {cells slots : Nat} {ws : va_W} {pc : Nat} {ls : Array Slot} {rest : List Value} {cl : List vw_C} {tys : List (ClassId × FieldType)} {a : Nat} (hexec : p.tables.exec = Jvm.exec) (hb : c.code = cc) (hK : va_K D cl tys s) (hP : va_P D cl ws H) (q0 t0 : Nat) {E : va_E} (ha : ws[q0]? = some (a, E)) {k : ClassId} {x : vp_A} (hE : E = .inl (k, x)) {ty : FieldType} (ht : tys[t0]? = some (k, ty)) (hdg : decode cc pc = .ok (.arraylength, 1))
    (kk : W p l e R s m args below meth c H locs cells slots Q (F0 m (pc + 1) ls (.int (Int32.ofNat x.1) :: rest))) : W p l e R s m args below meth c H locs cells slots Q (F0 m pc ls (.ref a :: rest)) := by
  subst hE
  exact va_alen hexec hb hK hP q0 t0 ha ht rfl hdg kk
set_option maxHeartbeats 4000000 in
/-- arrays are read, constants come, a cast that holds -/
theorem az_sim_b {pc len : Nat} {ins : Instr} {aux : List Nat} {nm : String} {L : az_V} {st : List Value} {σ : az_S} {F : az_F} {H : Heap} {locs : List Loc} {ls : Array Slot} (hC : az_Cx D cA base cs p s m args c cc own) (hn : az_next pc len ins aux L st σ F) (hd : decode cc pc = .ok (ins, len)) (hil : az_il ins = len) (hl : az_link own nm ins aux)
    (hins : match ins with | .checkcast _ => True | .getstatic _ => True | .ldc _ => True | .ldc_w _ => True | .ldc2_w _ => True | .iaload => True | .baload => True | .laload => True | .aaload => True | .arraylength => True | _ => False)
    (hR : az_Rl D cA base cs s nL n0 s0 σ L H locs ls)
    (kk : ∀ (ls' : Array Slot), az_Rl D cA base cs s nL n0 s0 F.2.2.2 F.2.1 H locs ls' → W p l e R s m args below meth c H locs (az_n F.2.2.2 - n0) (az_sl F.2.2.2 - s0) Q (F0 m F.1 ls' (F.2.2.1.map (az_tr (az_ad base cs))))) :
    W p l e R s m args below meth c H locs (az_n σ - n0) (az_sl σ - s0) Q (F0 m pc ls (st.map (az_tr (az_ad base cs)))) := by
  obtain ⟨hx, hb, hown, hts, hKx, hbase⟩ := hC
  obtain ⟨hP, hsz, hS, hok, hCc, hlv, hn0, hs0⟩ := id hR
  subst hil
  cases ins
  case iaload =>
    obtain ⟨i, a, r, rfl, hk, hin, rfl⟩ := hn
    rcases hk with hk | hk
    · obtain ⟨ha, -⟩ := hok.lt (a := a) (by omega)
      exact va_iald hx hb hKx.1 hP a 0 (by rw [az_ws_get ha, az_E_int hk (Or.inl rfl)]) rfl hin hd (kk ls hR)
    · have hg := hok.ge (a := a) (by omega)
      have := hCc.1 a hk
      rw [← az_ad_ge (base := base) (cs := cs) hg] at this
      exact va_ti hx hb this hS hin rfl hd (kk ls hR)
  case baload =>
    obtain ⟨i, a, r, rfl, hk, hin, rfl⟩ := hn
    rcases hk with hk | hk | hk
    · obtain ⟨ha, -⟩ := hok.lt (a := a) (by omega)
      exact va_zald hx hb hKx.1 hP a 1 (by rw [az_ws_get ha, az_E_int hk (Or.inr (Or.inl rfl))]) rfl hin hd (kk ls hR)
    · obtain ⟨ha, -⟩ := hok.lt (a := a) (by omega)
      exact va_bald hx hb hKx.1 hP a 2 (by rw [az_ws_get ha, az_E_int hk (Or.inr (Or.inr rfl))]) rfl hin hd (kk ls hR)
    · have hg := hok.ge (a := a) (by omega)
      have := hCc.2.2.1 a hk
      rw [← az_ad_ge (base := base) (cs := cs) hg] at this
      exact va_tb hx hb this hS hin rfl hd (kk ls hR)
  case laload =>
    obtain ⟨i, a, r, rfl, hk, hin, rfl⟩ := hn
    obtain ⟨ha, -⟩ := hok.lt (a := a) (by omega)
    exact va_lald hx hb hKx.1 hP a 3 (by rw [az_ws_get ha, az_E_long hk]) rfl hin hd (kk ls hR)
  case aaload =>
    obtain ⟨i, a, r, rfl, hk, hin, rfl⟩ := hn
    obtain ⟨ha, -⟩ := hok.lt (a := a) (by omega)
    have h9 := kk ls hR
    simp only [List.map_cons, az_tr_rf] at h9
    have hg := (az_ws_get (cA := cA) (ad := az_ad base cs) ha).trans (by rw [az_E_ref hk])
    exact va_aldq hx hb hKx.1 hP a 4 (C := "java/lang/Object") hg rfl hin hd h9
  case arraylength =>
    obtain ⟨a, r, rfl, hk, rfl⟩ := hn
    by_cases hw : (az_sh σ a).1 < 110
    · obtain ⟨ha, -⟩ := hok.lt (a := a) hw
      by_cases h3 : (az_sh σ a).1 = 103
      · exact az_alen_go hx hb hKx.1 hP a 3 (az_ws_get ha) (az_E_long h3) rfl hd (kk ls hR)
      by_cases h4 : (az_sh σ a).1 = 104
      · exact az_alen_go hx hb hKx.1 hP a 4 (az_ws_get ha) (az_E_ref h4) rfl hd (kk ls hR)
      by_cases h0 : (az_sh σ a).1 = 100
      · exact az_alen_go hx hb hKx.1 hP a 0 (az_ws_get ha) (az_E_int h0 (Or.inl rfl)) rfl hd (kk ls hR)
      by_cases h1 : (az_sh σ a).1 = 101
      · exact az_alen_go hx hb hKx.1 hP a 1 (az_ws_get ha) (az_E_int h1 (Or.inr (Or.inl rfl))) rfl hd (kk ls hR)
      · exact az_alen_go hx hb hKx.1 hP a 2 (az_ws_get ha) (az_E_int (show (az_sh σ a).1 = 102 by omega) (Or.inr (Or.inr rfl))) rfl hd (kk ls hR)
    · have hg := hok.ge (a := a) (by omega)
      by_cases h0 : (az_sh σ a).1 = 110
      · have := hCc.1 a h0
        rw [← az_ad_ge (base := base) (cs := cs) hg] at this
        exact va_tlen hx hb this hS rfl hd (kk ls hR)
      by_cases h1 : (az_sh σ a).1 = 111
      · have := hCc.2.1 a h1
        rw [← az_ad_ge (base := base) (cs := cs) hg] at this
        exact va_tlen hx hb this hS rfl hd (kk ls hR)
      · have := hCc.2.2.1 a (by omega)
        rw [← az_ad_ge (base := base) (cs := cs) hg] at this
        exact va_tlen hx hb this hS rfl hd (kk ls hR)
  case checkcast i =>
    obtain ⟨ci, a, r, rfl, hci, rfl, hk, rfl⟩ := hn
    obtain ⟨ci', q, hax, hq, hlk⟩ := hl
    cases hax
    obtain ⟨ha, -⟩ := hok.lt (a := a) (by omega)
    exact va_castS hx hb hown (hts _ hlk) (hKx.1.1 ci q hq).2 (va_recv hKx.1 hP hq (q0 := a) (by rw [az_ws_get ha, az_E_obj hk hci])) hd (kk ls hR)
  case getstatic i =>
    obtain ⟨k, kd, rfl, rfl⟩ := hn
    obtain ⟨k', kd', q, hax, hq, hkd, hlk⟩ := hl
    cases hax
    subst hkd
    exact va_gets hx hb (hCc.2.2.2.2.2 k q hq) hS hown (hts _ hlk) (fun _ h => h) hd (kk ls hR)
  case ldc i =>
    rcases hn with ⟨v, rfl, rfl⟩ | ⟨v, rfl, rfl⟩
    · rcases hl with ⟨v', hax, hlk⟩ | ⟨hax, hlk⟩ | ⟨q, hq, h1, h2, hax⟩
      · cases hax
        exact lv_ldc hx hb hown (hts _ hlk) hd (kk ls hR)
      · cases hax
      · cases hax
    · rcases hl with ⟨v', hax, hlk⟩ | ⟨hax, hlk⟩ | ⟨q, hq, h1, h2, hax⟩
      · cases hax
      · cases hax
        exact va_ldcM hx hb hown (hts _ hlk) hKx.2.2.2.1 hd (kk ls hR)
      · cases hax
        subst h1
        subst h2
        have hge : ¬ q.2.2.2 < 1000000 := az_ss_ge q hq
        have h9 := kk ls hR
        simp only [List.map_cons, az_tr, az_ad_ge (base := base) (cs := cs) hge] at h9
        exact va_ldcS hx hb hown (hKx.2.2.2.2.2 q hq) hd h9
  case ldc_w i =>
    obtain ⟨v, rfl, rfl⟩ := hn
    obtain ⟨v', hax, hlk⟩ := hl
    cases hax
    exact lv_ldcw hx hb hown (hts _ hlk) hd (kk ls hR)
  case ldc2_w i =>
    obtain ⟨v, rfl, rfl⟩ := hn
    obtain ⟨v', hax, hlk⟩ := hl
    cases hax
    exact lv_ldc2 hx hb hown (hts _ hlk) hd (kk ls hR)
  all_goals exact hins.elim
theorem az_nar_b {x : Int32} : narrow .byte (.int x) = .int (vp_nar .byte x) := rfl
set_option maxHeartbeats 4000000 in
/-- arrays are written -/
theorem az_sim_c {pc len : Nat} {ins : Instr} {aux : List Nat} {L : az_V} {st : List Value} {σ : az_S} {F : az_F} {H : Heap} {locs : List Loc} {ls : Array Slot} (hC : az_Cx D cA base cs p s m args c cc own) (hb0 : s.heap.size = base + n0) (hn : az_next pc len ins aux L st σ F) (hd : decode cc pc = .ok (ins, len)) (hil : az_il ins = len)
    (hins : match ins with | .iastore => True | .bastore => True | .lastore => True | .aastore => True | _ => False)
    (hR : az_Rl D cA base cs s nL n0 s0 σ L H locs ls)
    (kk : ∀ (H' : Heap) (locs' : List Loc) (ls' : Array Slot), az_Rl D cA base cs s nL n0 s0 F.2.2.2 F.2.1 H' locs' ls' → W p l e R s m args below meth c H' locs' (az_n F.2.2.2 - n0) (az_sl F.2.2.2 - s0) Q (F0 m F.1 ls' (F.2.2.1.map (az_tr (az_ad base cs))))) :
    W p l e R s m args below meth c H locs (az_n σ - n0) (az_sl σ - s0) Q (F0 m pc ls (st.map (az_tr (az_ad base cs)))) := by
  obtain ⟨hx, hb, hown, hts, hKx, hbase⟩ := hC
  obtain ⟨hP, hsz, hS, hok, hCc, hlv, hn0, hs0⟩ := id hR
  have hD := az_D (cA := cA) (base := base) (cs := cs) hok.2.1
  subst hil
  cases ins
  case iastore =>
    obtain ⟨x, i, a, r, rfl, hk, hin, rfl⟩ := hn
    have hk110 : (az_sh σ a).1 < 110 := by omega
    obtain ⟨ha, -⟩ := hok.lt hk110
    refine va_iast hx hb hKx.1 hP hD hS a 0 (by rw [az_ws_get ha, az_E_int hk (Or.inl rfl)]) rfl hin hd (fun H1 locs1 hP1 _ hS1 => az_sized (fun hz => kk H1 locs1 ls (hR.set (τ := az_pi σ a _ x) rfl rfl hz hb0 ?_ (fun b hb => az_E_pi hb) hS1 hok.pi (hCc.pi hk110))))
    rw [az_E_int (σ := az_pi σ a _ x) hk (Or.inl rfl), show az_i (az_pi σ a i.toNatClampNeg x) a = upd (az_i σ a) i.toNatClampNeg x from az_upd_i]
    exact hP1
  case bastore =>
    obtain ⟨x, i, a, r, rfl, hin, hcase⟩ := hn
    rcases hcase with ⟨hk, rfl⟩ | ⟨hk, rfl⟩
    · have hk110 : (az_sh σ a).1 < 110 := by omega
      obtain ⟨ha, -⟩ := hok.lt hk110
      refine va_zast hx hb hKx.1 hP hD hS a 1 (by rw [az_ws_get ha, az_E_int hk (Or.inr (Or.inl rfl))]) rfl hin hd (fun H1 locs1 hP1 _ hS1 => az_sized (fun hz => kk H1 locs1 ls (hR.set (τ := az_pi σ a _ _) rfl rfl hz hb0 ?_ (fun b hb => az_E_pi hb) hS1 hok.pi (hCc.pi hk110))))
      rw [az_E_int (σ := az_pi σ a _ _) hk (Or.inr (Or.inl rfl)), show az_i (az_pi σ a i.toNatClampNeg (vp_nar .boolean x)) a = upd (az_i σ a) i.toNatClampNeg (vp_nar .boolean x) from az_upd_i]
      exact hP1
    · have hk110 : (az_sh σ a).1 < 110 := by omega
      obtain ⟨ha, -⟩ := hok.lt hk110
      refine va_bast hx hb hKx.1 hP hD hS a 2 (by rw [az_ws_get ha, az_E_int hk (Or.inr (Or.inr rfl))]) rfl hin hd (fun H1 locs1 hP1 _ hS1 => az_sized (fun hz => kk H1 locs1 ls (hR.set (τ := az_pi σ a _ _) rfl rfl hz hb0 ?_ (fun b hb => az_E_pi hb) hS1 hok.pi (hCc.pi hk110))))
      rw [az_E_int (σ := az_pi σ a _ _) hk (Or.inr (Or.inr rfl)), show az_i (az_pi σ a i.toNatClampNeg (vp_nar .byte x)) a = upd (az_i σ a) i.toNatClampNeg (vp_nar .byte x) from az_upd_i]
      exact hP1
  case lastore =>
    obtain ⟨x, i, a, r, rfl, hk, hin, rfl⟩ := hn
    have hk110 : (az_sh σ a).1 < 110 := by omega
    obtain ⟨ha, -⟩ := hok.lt hk110
    refine va_last hx hb hKx.1 hP hD hS a 3 (by rw [az_ws_get ha, az_E_long hk]) rfl hin hd (fun H1 locs1 hP1 _ hS1 => az_sized (fun hz => kk H1 locs1 ls (hR.set (τ := az_pl σ a _ x) rfl rfl hz hb0 ?_ (fun b hb => az_E_pl hb) hS1 hok.pl hCc.pl)))
    rw [az_E_long (σ := az_pl σ a _ x) hk, show az_l (az_pl σ a i.toNatClampNeg x) a = vp_updL (az_l σ a) i.toNatClampNeg x from az_upd_i]
    exact hP1
  case aastore =>
    obtain ⟨v, i, a, r, rfl, hk, hkv, hin, rfl⟩ := hn
    have hk110 : (az_sh σ a).1 < 110 := by omega
    obtain ⟨ha, -⟩ := hok.lt hk110
    obtain ⟨hv, -⟩ := hok.lt (a := v) (by omega)
    obtain ⟨q, hq⟩ := az_clt _ hkv
    refine va_astqO hx hb hKx.1 hP hD hS a 4 v (az_sh σ v).1 (E := "java/lang/Object") (r := q) (by rw [az_ws_get ha, az_E_ref hk]) rfl (hKx.2.1 _ (az_ccast _ q hq) rfl) (by rw [az_ws_get hv, az_E_obj rfl hkv]) hq hin hd (fun H1 locs1 hP1 _ hS1 => az_sized (fun hz => kk H1 locs1 ls (hR.set (τ := az_pr σ a _ (some v)) rfl rfl hz hb0 ?_ (fun b hb => az_E_pr hb) hS1 hok.pr (hCc.pr hk110))))
    have e : (fun j => (az_r (az_pr σ a i.toNatClampNeg (some v)) a j).map (az_ad base cs)) = va_up (fun j => (az_r σ a j).map (az_ad base cs)) i.toNatClampNeg (some (az_ad base cs v)) := by
      funext j
      by_cases hj : j = i.toNatClampNeg <;> simp [az_r, az_up, va_up, hj]
    rw [az_E_ref (σ := az_pr σ a _ (some v)) hk, e]
    exact hP1
  all_goals exact hins.elim
end AzSim3
end
section
section AzSim4
variable {p : Program} {l : Launch} {e : Env} {R : Room} {s : State} {m : MethodId} {args : Array Value} {below : List Frame} {meth : Method} {c : Code} {Q : State → Prop} {cc : ByteArray} {own : String}
variable {D : va_G} {cA : Nat → ClassId} {base : Nat} {cs : Nat → Nat} {nL n0 s0 : Nat}
theorem az_sh_nw {σ : az_S} {kd mm : Nat} : az_sh (az_nw σ kd mm) (az_n σ) = (kd, mm) := by simp [az_sh, az_nw, va_up]
theorem az_i_nw {σ : az_S} {kd mm : Nat} : az_i (az_nw σ kd mm) (az_n σ) = fun _ => 0 := by simp [az_i, az_nw, va_up]
theorem az_l_nw {σ : az_S} {kd mm : Nat} : az_l (az_nw σ kd mm) (az_n σ) = fun _ => 0 := by simp [az_l, az_nw, va_up]
theorem az_r_nw {σ : az_S} {kd mm : Nat} : az_r (az_nw σ kd mm) (az_n σ) = fun _ => none := by simp [az_r, az_nw, va_up]
def az_dv (kd : Nat) : Value := match kd with
  | 0 => .int 0
  | 1 => .long 0
  | _ => .null
theorem az_dflt {ty : FieldType} {kd : Nat} (h : az_tk kd ty = true) (hk : kd = 0 ∨ kd = 1 ∨ kd = 2) : defaultValue ty = az_dv kd := by
  rcases hk with rfl | rfl | rfl
  · cases (of_decide_eq_true h : ty = .int); rfl
  · cases (of_decide_eq_true h : ty = .long); rfl
  · cases ty <;> first | (cases h; done) | rfl
theorem az_ft_le : ∀ ci, ci < 14 → ∀ k, k < 90 → az_ft ci k = 0 ∨ az_ft ci k = 1 ∨ az_ft ci k = 2 := by decide +kernel
theorem az_nf_le : ∀ ci, ci < 14 → az_nf ci ≤ 90 := by decide
set_option maxHeartbeats 4000000 in
/-- a cell comes -/
theorem az_sim_d {pc len : Nat} {ins : Instr} {aux : List Nat} {nm : String} {L : az_V} {st : List Value} {σ : az_S} {F : az_F} {H : Heap} {locs : List Loc} {ls : Array Slot} (hC : az_Cx D cA base cs p s m args c cc own) (hb0 : s.heap.size = base + n0) (hn : az_next pc len ins aux L st σ F) (hd : decode cc pc = .ok (ins, len)) (hil : az_il ins = len) (hl : az_link own nm ins aux)
    (hins : match ins with | .new _ => True | .newarray _ => True | .anewarray _ => True | _ => False)
    (hR : az_Rl D cA base cs s nL n0 s0 σ L H locs ls) (hroom : az_n F.2.2.2 - n0 ≤ R.cells ∧ az_sl F.2.2.2 - s0 ≤ R.slots)
    (kk : ∀ (H' : Heap) (locs' : List Loc) (ls' : Array Slot), az_Rl D cA base cs s nL n0 s0 F.2.2.2 F.2.1 H' locs' ls' → W p l e R s m args below meth c H' locs' (az_n F.2.2.2 - n0) (az_sl F.2.2.2 - s0) Q (F0 m F.1 ls' (F.2.2.1.map (az_tr (az_ad base cs))))) :
    W p l e R s m args below meth c H locs (az_n σ - n0) (az_sl σ - s0) Q (F0 m pc ls (st.map (az_tr (az_ad base cs)))) := by
  obtain ⟨hx, hb, hown, hts, hKx, hbase⟩ := hC
  obtain ⟨hP, hsz, hS, hok, hCc, hlv, hn0, hs0⟩ := id hR
  have hD := az_D (cA := cA) (base := base) (cs := cs) hok.2.1
  have hA : ∀ q, s.heap.size ≤ q → (fun q => base ≤ q) q := fun q hq => Nat.le_trans hbase hq
  have eN : az_n σ - n0 + 1 = az_n σ + 1 - n0 := by omega
  have eS : ∀ k, az_sl σ - s0 + k = az_sl σ + k - s0 := fun k => by omega
  subst hil
  cases ins
  case new i =>
    obtain ⟨ci, rfl, hci, hlt, rfl⟩ := hn
    obtain ⟨ci', q, hax, hq, h1, h2, h3⟩ := hl
    cases hax
    have hnf : az_nf ci = q.2.2 := az_cnf ci q hq
    have h4 : az_n σ + 1 - n0 ≤ R.cells ∧ az_sl σ + az_nf ci - s0 ≤ R.slots := hroom
    have hE := az_E_obj (cA := cA) (ad := az_ad base cs) (σ := az_nw σ ci (az_nf ci)) (a := az_n σ) (ci := ci) (by rw [az_sh_nw]) hci
    refine va_new (ci := ci) (fs := (List.range (az_nf ci)).map (fun k => az_tr (az_ad base cs) (az_fv (az_nw σ ci (az_nf ci)) (az_n σ) k (az_ft ci k)))) (C := q.1) (T := q.2.1) (N := q.2.2) hx hb hts (az_cin ci q hq) (az_tyc ci) (az_cty ci q hq) hown (hts _ h1) (hts _ h2) (hts _ h3) hKx.1 hP hD hS hA hq (fun j hj => ?_) (by rw [eN]; exact h4.1) (by rw [← hnf, eS]; exact h4.2) hd (fun q9 H1 hP1 hD1 hS1 => az_sized (fun hz => ?_))
    · have hj' : j < az_nf ci := by rw [hnf]; exact hj
      have hv : vp_V ((List.range (az_nf ci)).map (fun k => az_tr (az_ad base cs) (az_fv (az_nw σ ci (az_nf ci)) (az_n σ) k (az_ft ci k)))) j = az_tr (az_ad base cs) (az_fv (az_nw σ ci (az_nf ci)) (az_n σ) j (az_ft ci j)) := by simp [vp_V, hj']
      rw [hv]
      have hk3 := az_ft_le ci hci j (Nat.lt_of_lt_of_le hj' (az_nf_le ci hci))
      rw [az_dflt (az_ctk ci q hq j hj) hk3]
      rcases hk3 with h | h | h <;> rw [h]
      · show _ = Value.int (az_i (az_nw σ ci (az_nf ci)) (az_n σ) j); rw [az_i_nw]; rfl
      · show _ = Value.long (az_l (az_nw σ ci (az_nf ci)) (az_n σ) j); rw [az_l_nw]; rfl
      · show _ = az_tr (az_ad base cs) (va_rf (az_r (az_nw σ ci (az_nf ci)) (az_n σ) j)); rw [az_r_nw]; rfl
    · obtain ⟨e1, hR1⟩ := hR.push (kd := ci) (mm := az_nf ci) hlt (by omega) hz hb0 hP1 hD1 hE hS1
      have h9 := kk H1 locs ls hR1
      rw [e1, ← hnf]
      rw [show az_n σ - n0 + 1 = az_n (az_nw σ ci (az_nf ci)) - n0 from eN, show az_sl σ - s0 + az_nf ci = az_sl (az_nw σ ci (az_nf ci)) - s0 from eS _]
      exact h9
  case newarray t =>
    obtain ⟨n, r, rfl, hn1, hn2, hty, hlt, rfl⟩ := hn
    have h4 : az_n σ + 1 - n0 ≤ R.cells ∧ az_sl σ + n.toNatClampNeg - s0 ≤ R.slots := hroom
    have fin : ∀ (kd : Nat) (ty : FieldType) (t0 : Nat) (a0 : vp_A), newarray.typeOf t = ty → az_ty t = kd → kd < 110 → (az_tys cA)[t0]? = some (cA kd, ty) → (∀ c1 c2, va_RA s c1 ty → va_RA s c2 ty → c1 = c2) → componentBytes ty ≤ 8 → (∀ cA : ClassId, vp_cell cA a0 = arrV cA n.toNatClampNeg (fun _ => defaultValue ty)) → az_E cA (az_ad base cs) (az_nw σ kd n.toNatClampNeg) (az_n σ) = .inl (cA kd, a0) → W p l e R s m args below meth c H locs (az_n σ - n0) (az_sl σ - s0) Q (F0 m pc ls ((Value.int n :: r).map (az_tr (az_ad base cs)))) := by
      intro kd ty t0 a0 hto hk hkd ht0 hun hcb ha0 hE
      refine va_newa (atype := t) hx hb (hts _ hl) hto hKx.1 hP hD hS hA (n := n) ha0 hn1 rfl ?_ (by rw [eN]; exact h4.1) (by rw [eS]; exact h4.2) hd (fun q9 c9 H1 hK9 hP1 hD1 hS1 => az_sized (fun hz => ?_))
      · have : n.toNatClampNeg * componentBytes ty ≤ 10000 * 8 := Nat.mul_le_mul hn2 hcb
        omega
      · have hc9 : c9 = cA kd := hun c9 (cA kd) (hK9.2 (az_tys cA).length (c9, ty) (by rw [List.getElem?_append_right (Nat.le_refl _), Nat.sub_self]; rfl)).2 (hKx.1.2 t0 _ ht0).2
        subst hc9
        obtain ⟨e1, hR1⟩ := hR.push (kd := kd) (mm := n.toNatClampNeg) hlt hkd hz hb0 hP1 hD1 hE hS1
        have h9 := kk H1 locs ls (by rw [hk]; exact hR1)
        rw [e1]
        rw [show az_n σ - n0 + 1 = az_n (az_nw σ kd n.toNatClampNeg) - n0 from eN, show az_sl σ - s0 + n.toNatClampNeg = az_sl (az_nw σ kd n.toNatClampNeg) - s0 from eS _]
        exact h9
    cases t
    case int => exact fin 100 .int 0 (n.toNatClampNeg, .inl (fun _ => 0)) rfl rfl (by decide) rfl (fun c1 c2 h1 h2 => Option.some.inj ((va_nm_int h1).symm.trans (va_nm_int h2))) (by decide) (fun _ => rfl) (by rw [az_E_int (kd := 100) (by rw [az_sh_nw]) (Or.inl rfl), az_sh_nw, az_i_nw])
    case boolean => exact fin 101 .boolean 1 (n.toNatClampNeg, .inl (fun _ => 0)) rfl rfl (by decide) rfl (fun c1 c2 h1 h2 => Option.some.inj ((va_nm_boolean h1).symm.trans (va_nm_boolean h2))) (by decide) (fun _ => rfl) (by rw [az_E_int (kd := 101) (by rw [az_sh_nw]) (Or.inr (Or.inl rfl)), az_sh_nw, az_i_nw])
    case byte => exact fin 102 .byte 2 (n.toNatClampNeg, .inl (fun _ => 0)) rfl rfl (by decide) rfl (fun c1 c2 h1 h2 => Option.some.inj ((va_nm_byte h1).symm.trans (va_nm_byte h2))) (by decide) (fun _ => rfl) (by rw [az_E_int (kd := 102) (by rw [az_sh_nw]) (Or.inr (Or.inr rfl)), az_sh_nw, az_i_nw])
    case long => exact fin 103 .long 3 (n.toNatClampNeg, .inr (.inl (fun _ => 0))) rfl rfl (by decide) rfl (fun c1 c2 h1 h2 => Option.some.inj ((va_nm_long h1).symm.trans (va_nm_long h2))) (by decide) (fun _ => rfl) (by rw [az_E_long (by rw [az_sh_nw]), az_sh_nw, az_l_nw])
    all_goals exact absurd hty (by decide)
  case anewarray i =>
    obtain ⟨n, r, rfl, hn1, hn2, hlt, rfl⟩ := hn
    have h4 : az_n σ + 1 - n0 ≤ R.cells ∧ az_sl σ + n.toNatClampNeg - s0 ≤ R.slots := hroom
    refine va_newq hx hb hown (hts _ hl) hKx.2.2.1 hKx.1 hP hD hS hA (n := n) hn1 rfl (by omega) (by rw [eN]; exact h4.1) (by rw [eS]; exact h4.2) hd (fun q9 c9 H1 hK9 hP1 hD1 hS1 => az_sized (fun hz => ?_))
    have hc9 : c9 = cA 104 := Option.some.inj ((va_nmO (hK9.2 (az_tys cA).length (c9, .object "java/lang/Object") (by rw [List.getElem?_append_right (Nat.le_refl _), Nat.sub_self]; rfl)).2 rfl).symm.trans (va_nmO (hKx.1.2 4 _ rfl).2 rfl))
    subst hc9
    obtain ⟨e1, hR1⟩ := hR.push (kd := 104) (mm := n.toNatClampNeg) hlt (by decide) hz hb0 hP1 hD1 (by rw [az_E_ref (by rw [az_sh_nw]), az_sh_nw, az_r_nw]; rfl) hS1
    have h9 := kk H1 locs ls hR1
    rw [e1]
    rw [show az_n σ - n0 + 1 = az_n (az_nw σ 104 n.toNatClampNeg) - n0 from eN, show az_sl σ - s0 + n.toNatClampNeg = az_sl (az_nw σ 104 n.toNatClampNeg) - s0 from eS _]
    exact h9
  all_goals exact hins.elim
end AzSim4
end
section
/-! CALLS -/
def az_ws1 (Y : MethodName) (bytes : ByteArray) (maxL : Nat) (ret : Option FieldType) : List Cond := Cond.code Y bytes maxL ret :: az_G
def az_rm (d mc ms : Nat) : Room := { frames := d, cells := mc, slots := ms, locals := 80 * d }
def az_Pc (D : va_G) (cA : Nat → ClassId) (base : Nat) (cs : Nat → Nat) (as : List Value) (σ : az_S) : Array Value → State → Prop := va_Pc (as.map (az_tr (az_ad base cs))) (fun U => U.heap.size = base + az_n σ ∧ va_P D vwCl (az_ws cA (az_ad base cs) σ) U.heap ∧ az_Kx D cA cs U ∧ az_C base cs σ U)
def az_Qc (D : va_G) (cA : Nat → ClassId) (base : Nat) (cs : Nat → Nat) (r : Option Value) (τ : az_S) : Array Value → State → Outcome → State → Prop := fun _ st oc t => oc = .returned (r.map (az_tr (az_ad base cs))) ∧ va_P D vwCl (az_ws cA (az_ad base cs) τ) t.heap ∧ t.heap.size = base + az_n τ ∧ ∀ q, q < base → t.heap[q]? = st.heap[q]?
/-- what an abstract run keeps -/
def az_ext (σ τ : az_S) : Prop := az_n σ ≤ az_n τ ∧ az_sl σ ≤ az_sl τ ∧ (az_ok σ → az_ok τ ∧ ∀ (base : Nat) (cs : Nat → Nat) (U : State), az_C base cs σ U → az_C base cs τ U)
theorem az_ext.rf {σ : az_S} : az_ext σ σ := ⟨Nat.le_refl _, Nat.le_refl _, fun h => ⟨h, fun _ _ _ h => h⟩⟩
theorem az_ext.tr {σ τ ρ : az_S} (h1 : az_ext σ τ) (h2 : az_ext τ ρ) : az_ext σ ρ := ⟨Nat.le_trans h1.1 h2.1, Nat.le_trans h1.2.1 h2.2.1, fun h => by
  obtain ⟨a1, b1⟩ := h1.2.2 h
  obtain ⟨a2, b2⟩ := h2.2.2 a1
  exact ⟨a2, fun base cs U h => b2 base cs U (b1 base cs U h)⟩⟩
def az_Met (l : Launch) (D : va_G) (cA : Nat → ClassId) (base : Nat) (cs : Nat → Nat) (d : Nat) (Y : MethodName) (bytes : ByteArray) (maxL : Nat) (ret : Option FieldType) (as : List Value) (σ : az_S) (r : Option Value) (τ : az_S) : Prop :=
  az_ok σ → Met l Y (az_ws1 Y bytes maxL ret) (az_rm d (az_n τ - az_n σ) (az_sl τ - az_sl σ)) (az_Pc D cA base cs as σ) (az_Qc D cA base cs r τ) (az_n τ - az_n σ) (az_sl τ - az_sl σ) (fun q => base ≤ q)
theorem az_GG (Y : MethodName) (bytes : ByteArray) (maxL : Nat) (ret : Option FieldType) (h : Cond.code Y bytes maxL ret ∈ az_G) : GoodIn az_G (az_ws1 Y bytes maxL ret) := by
  intro w hw
  have hw' : w ∈ az_G := by
    rcases List.mem_cons.mp hw with e | e
    · rw [e]; exact h
    · exact e
  exact ⟨hw', good_of_word (List.mem_filter.mp hw').2⟩
theorem az_blind {D : va_G} {cA : Nat → ClassId} {base : Nat} {cs : Nat → Nat} {as : List Value} {σ : az_S} : FrameBlind (az_Pc D cA base cs as σ) := by
  intro a U g mk h
  obtain ⟨h1, h2, h3, h4, h5⟩ := h
  exact ⟨h1, h2, h3, h4.same (s := U) (U := U.calling g mk a) rfl, h5.to (u := U) (U := U.calling g mk a) (Vm.Alike.refl U.vm) (fun _ _ _ => rfl)⟩
/-- what the tables must say of a call -/
def az_clink (own : String) (ins : Instr) (Y : MethodName) (bytes : ByteArray) (maxL : Nat) (ret : Option FieldType) (n kc : Nat) : Prop :=
  Cond.code Y bytes maxL ret ∈ az_G ∧ Cond.initialized Y.cls ∈ az_G ∧ (Y.cls ≠ "java/lang/invoke/MethodHandle" ∧ Y.cls ≠ "java/lang/invoke/VarHandle") ∧ maxL ≤ 60 ∧ match ins with
  | .invokevirtual i => (parseMethodDescriptor Y.desc).map (fun d => d.parameters.length + 1) = some n ∧ ((∃ q, vwCl[kc]? = some q ∧ Y.cls = q.1) ∨ (kc = 113 ∧ Y.cls = "java/lang/String")) ∧ Cond.methodLink own i Y ∈ az_G ∧ Cond.instanceMethod Y ∈ az_G ∧ Cond.selects Y.cls Y Y ∈ az_G
  | .invokestatic i => (parseMethodDescriptor Y.desc).map (fun d => d.parameters.length) = some n ∧ (Cond.methodLink own i Y ∈ az_G ∨ ∃ host, Cond.methodLinkNest own i Y host ∈ lw_tbl) ∧ Cond.static Y ∈ az_G
  | .invokespecial i => (parseMethodDescriptor Y.desc).map (fun d => d.parameters.length + 1) = some n ∧ kc < 999 ∧ ret = none ∧ Y.name = "<init>" ∧ (Cond.methodLink own i Y ∈ az_G ∨ ∃ host, Cond.methodLinkNest own i Y host ∈ lw_tbl) ∧ Cond.instanceMethod Y ∈ az_G
  | _ => False
theorem az_fit {a b n T : Nat} (h1 : a ≤ b) (h2 : n ≤ a) (h3 : b - n ≤ T) : a - n + (b - a) ≤ T := by omega
section AzCall
variable {p : Program} {l : Launch} {e : Env} {s : State} {m : MethodId} {args : Array Value} {below : List Frame} {meth : Method} {c : Code} {Q : State → Prop} {cc : ByteArray} {own : String}
variable {D : va_G} {cA : Nat → ClassId} {base : Nat} {cs : Nat → Nat} {nL n0 s0 : Nat}
/-- behind a call -/
theorem az_back {R : Room} {d pc mc ms : Nat} {σ τ : az_S} {L : az_V} {r : Option Value} {rest st0 : List Value} {H : Heap} {locs : List Loc} {ls : Array Slot} {a : Array Value} (hb0 : s.heap.size = base + n0) (hR : az_Rl D cA base cs s nL n0 s0 σ L H locs ls) (hext : az_ext σ τ) (hmc : mc = az_n τ - az_n σ) (hms : ms = az_sl τ - az_sl σ)
    (hr : va_Run p l e R s m args below meth c H locs (az_n σ - n0) (az_sl σ - s0) mc ms (F0 m pc ls st0) (rest.map (az_tr (az_ad base cs))) (az_Qc D cA base cs r τ a) (fun q => base ≤ q))
    (kk : ∀ (H' : Heap) (locs' : List Loc) (ls' : Array Slot), az_Rl D cA base cs s nL n0 s0 τ L H' locs' ls' → W p l e R s m args below meth c H' locs' (az_n τ - n0) (az_sl τ - s0) Q (F0 m (pc + 3) ls' ((r.toList ++ rest).map (az_tr (az_ad base cs))))) :
    W p l e R s m args below meth c H locs (az_n σ - n0) (az_sl σ - s0) Q (F0 m pc ls st0) := by
  obtain ⟨hP, hsz, hS, hok, hCc, hlv, hn0, hs0⟩ := id hR
  obtain ⟨hx1, hx2, hx3⟩ := hext
  obtain ⟨hok', hC'⟩ := hx3 hok
  intro T hT X
  obtain ⟨v, st₀, t, T', LL, h0, X', hL, e1, e2, ⟨hv, hP1, hz1, hfr⟩, st⟩ := hr T hT X
  cases hv
  have hS1 : va_S (fun q => base ≤ q) s.heap t.heap (locs ++ LL) := by
    refine ⟨?_, fun q h1 h2 => ?_, fun q hq => ?_⟩
    · rw [hz1, hb0]; omega
    · rw [hfr q (by omega), h0]; exact hS.2.1 q h1 h2
    · rcases List.mem_append.mp hq with h | h
      · exact hS.2.2 q h
      · exact hL q h
  have hR1 : az_Rl D cA base cs s nL n0 s0 τ L t.heap (locs ++ LL) ls := ⟨hP1, hz1, hS1, hok', hC' base cs s hCc, hlv, Nat.le_trans hn0 hx1, Nat.le_trans hs0 hx2⟩
  have eN : az_n σ - n0 + mc = az_n τ - n0 := by omega
  have eS : az_sl σ - s0 + ms = az_sl τ - s0 := by omega
  rw [eN, eS] at X'
  obtain ⟨t2, a1, b1⟩ := kk t.heap (locs ++ LL) ls hR1 T' e1 X'
  refine ⟨t2, st t2 ?_, b1⟩
  have ev : (r.map (az_tr (az_ad base cs))).toList ++ rest.map (az_tr (az_ad base cs)) = (r.toList ++ rest).map (az_tr (az_ad base cs)) := by
    cases r <;> simp
  show Steps p.tables e below (T'.setTop (F0 m (pc + 3) ls ((r.map (az_tr (az_ad base cs))).toList ++ rest.map (az_tr (az_ad base cs))))) t2
  rw [ev]
  exact a1
set_option maxHeartbeats 4000000 in
theorem az_sim_call {d pc n kc : Nat} {ins : Instr} {Y : MethodName} {bytes : ByteArray} {maxL : Nat} {ret : Option FieldType} {L : az_V} {st : List Value} {σ τ : az_S} {r : Option Value} {H : Heap} {locs : List Loc} {ls : Array Slot} {mcT msT : Nat} (hC : az_Cx D cA base cs p s m args c cc own) (hml : c.maxLocals = nL) (hb0 : s.heap.size = base + n0) (hd : decode cc pc = .ok (ins, 3)) (hl : az_clink own ins Y bytes maxL ret n kc)
    (hlen : n ≤ st.length) (hcat : ((st.drop n).map fun v => v.category).sum ≤ 8) (hrec : kc = 999 ∨ ∃ a, (st.take n).reverse.head? = some (.ref a) ∧ (az_sh σ a).1 = kc)
    (hext : az_ext σ τ) (hM : az_Met l D cA base cs d Y bytes maxL ret (st.take n).reverse σ r τ)
    (hR : az_Rl D cA base cs s nL n0 s0 σ L H locs ls) (hroom : az_n τ - n0 ≤ mcT ∧ az_sl τ - s0 ≤ msT)
    (kk : ∀ (H' : Heap) (locs' : List Loc) (ls' : Array Slot), az_Rl D cA base cs s nL n0 s0 τ L H' locs' ls' → W p l e (az_rm (d + 1) mcT msT) s m args below meth c H' locs' (az_n τ - n0) (az_sl τ - s0) Q (F0 m (pc + 3) ls' ((r.toList ++ st.drop n).map (az_tr (az_ad base cs))))) :
    W p l e (az_rm (d + 1) mcT msT) s m args below meth c H locs (az_n σ - n0) (az_sl σ - s0) Q (F0 m pc ls (st.map (az_tr (az_ad base cs)))) := by
  obtain ⟨hx, hb, hown, hts, hKx, hbase⟩ := hC
  obtain ⟨hP, hsz, hS, hok, hCc, hlv, hn0, hs0⟩ := id hR
  have hM1 := hM hok
  obtain ⟨hcode, hini, hy, hmL, hl⟩ := hl
  have hcat' : (((st.drop n).map (az_tr (az_ad base cs))).map fun v => v.category).sum ≤ 8 := by rw [az_tr_cats]; exact hcat
  have hsplit : st = (st.take n).reverse.reverse ++ st.drop n := by rw [List.reverse_reverse, List.take_append_drop]
  have hlen2 : (st.take n).reverse.length = n := by simp [Nat.min_eq_left hlen]
  generalize (st.take n).reverse = as at hsplit hlen2 hM1 hrec
  generalize st.drop n = rest at hsplit hcat' kk
  subst hsplit
  have hPre : ∀ U : State, U.heap = H → s.WarmedH U.vm → az_Pc D cA base cs as σ (as.map (az_tr (az_ad base cs))).toArray U := fun U hU hW => ⟨rfl, by rw [hU]; exact hsz, by rw [hU]; exact hP, hKx.warm hW, hCc.to hW.alike (fun q h1 h2 => by rw [hU]; exact hS.2.1 q h1 h2)⟩
  have hfit : az_n σ - n0 + (az_n τ - az_n σ) ≤ (az_rm (d + 1) mcT msT).cells ∧ az_sl σ - s0 + (az_sl τ - az_sl σ) ≤ (az_rm (d + 1) mcT msT).slots := by
    exact ⟨az_fit hext.1 hn0 hroom.1, az_fit hext.2.1 hs0 hroom.2⟩
  have hRm : (az_rm d (az_n τ - az_n σ) (az_sl τ - az_sl σ)).frames + 1 ≤ (az_rm (d + 1) mcT msT).frames ∧ 8 + (maxL + 11) + (az_rm d (az_n τ - az_n σ) (az_sl τ - az_sl σ)).locals ≤ (az_rm (d + 1) mcT msT).locals := by
    show d + 1 ≤ d + 1 ∧ 8 + (maxL + 11) + 80 * d ≤ 80 * (d + 1)
    omega
  have hGG := az_GG Y bytes maxL ret hcode
  have hnp : ∀ {k : Nat}, (parseMethodDescriptor Y.desc).map (fun d => d.parameters.length + 1) = some (k + 1) → (parseMethodDescriptor Y.desc).map (fun d => d.parameters.length) = some k := by
    intro k h
    cases hpd : parseMethodDescriptor Y.desc with
    | none => rw [hpd] at h; cases h
    | some sg => rw [hpd] at h; simp at h ⊢; exact h
  cases ins
  case invokevirtual i =>
    obtain ⟨hnp1, hcls, hlk, hin, hsel⟩ := hl
    have hrec' : ∃ a, as.head? = some (.ref a) ∧ (az_sh σ a).1 = kc := by
      rcases hrec with h | h
      · exfalso
        rcases hcls with ⟨q, hq, -⟩ | ⟨hq, -⟩
        · rw [h] at hq; simp [vwCl] at hq
        · omega
      · exact h
    obtain ⟨b0, hh, hkb⟩ := hrec'
    cases as with
    | nil => cases hh
    | cons v0 As =>
      cases hh
      cases n with
      | zero => cases hlen2
      | succ n =>
      have hAs : As.length = n := Nat.succ.inj hlen2
      have hrv : ∃ cellB : Cell, H[az_ad base cs b0]? = some cellB ∧ cellB.vm.isStatics = false ∧ s.vm.findClass Y.cls = some cellB.cls := by
        rcases hcls with ⟨q, hq, hYc⟩ | ⟨hk, hYc⟩
        · have hci : kc < 14 := by
            have := (List.getElem?_eq_some_iff.mp hq).1
            simpa [vwCl] using this
          obtain ⟨ha, -⟩ := hok.lt (a := b0) (by omega)
          rw [hYc]
          exact va_recv hKx.1 hP hq (q0 := b0) (by rw [az_ws_get ha, az_E_obj hkb hci])
        · have hg := hok.ge (a := b0) (by omega)
          have := (hCc.2.2.2.1 b0 (by rw [hkb, hk])).2.2
          rw [← az_ad_ge (base := base) (cs := cs) hg] at this
          rw [hYc]
          exact va_Orecv this hS
      refine az_back (d := d) (a := (Value.ref (az_ad base cs b0) :: As.map (az_tr (az_ad base cs))).toArray) hb0 hR hext rfl rfl (va_runV (C := Y.cls) (As := As.map (az_tr (az_ad base cs))) (n := n) ⟨hx, hb, hml, hown, hts⟩ hM1 ⟨callB_of (bytes := bytes) (maxL := maxL) (ret := ret) (ws' := az_G) n hts hGG rfl rfl rfl (hts _ hini) (hts _ hlk) ⟨hy.1, hy.2, hnp hnp1⟩ hRm, hts _ hin, hts _ hsel⟩ ⟨az_blind, hrv, hPre⟩ rfl (by simp [hAs]) hlv.1 ?_ (lv_room hcat') hd hfit) kk
      simp [az_tr, List.map_append, List.map_reverse]
  case invokestatic i =>
    obtain ⟨hnp1, hlk, hstt⟩ := hl
    have hst9 : (F0 m pc ls ((as.reverse ++ rest).map (az_tr (az_ad base cs)))).stack = (as.map (az_tr (az_ad base cs))).reverse ++ rest.map (az_tr (az_ad base cs)) := by simp [List.map_append, List.map_reverse]
    rcases hlk with hlk | ⟨host, hlk⟩
    · exact az_back (d := d) (a := (as.map (az_tr (az_ad base cs))).toArray) hb0 hR hext rfl rfl (va_runS (As := as.map (az_tr (az_ad base cs))) (n := n) ⟨hx, hb, hml, hown, hts⟩ hM1 ⟨callB_of (bytes := bytes) (maxL := maxL) (ret := ret) (ws' := az_G) n hts hGG rfl rfl rfl (hts _ hini) (hts _ hlk) ⟨hy.1, hy.2, hnp1⟩ hRm, hts _ hstt⟩ ⟨az_blind, hPre⟩ rfl (by simp [hlen2]) hlv.1 hst9 (lv_room hcat') hd hfit) kk
    · exact az_back (d := d) (a := (as.map (az_tr (az_ad base cs))).toArray) hb0 hR hext rfl rfl (va_runSN (As := as.map (az_tr (az_ad base cs))) (n := n) ⟨hx, hb, hml, hown, hts⟩ hM1 ⟨va_cnB (bytes := bytes) (maxL := maxL) (ret := ret) (ws' := az_G) n hts hGG rfl rfl rfl (hKx.2.1 _ hlk rfl) (hts _ hini) ⟨hy.1, hy.2, hnp1⟩ hRm, hts _ hstt, trivial⟩ ⟨az_blind, hPre⟩ rfl (by simp [hlen2]) hlv.1 hst9 (lv_room hcat') hd hfit) kk
  case invokespecial i =>
    obtain ⟨hnp1, hkc, hret, hnm, hlk, hin⟩ := hl
    subst hret
    have hrec' : ∃ a, as.head? = some (.ref a) ∧ (az_sh σ a).1 = kc := by
      rcases hrec with h | h
      · omega
      · exact h
    obtain ⟨b0, hh, hkb⟩ := hrec'
    cases as with
    | nil => cases hh
    | cons v0 As =>
      cases hh
      cases n with
      | zero => cases hlen2
      | succ n =>
      have hAs : As.length = n := Nat.succ.inj hlen2
      have hst9 : (F0 m pc ls (((Value.ref b0 :: As).reverse ++ rest).map (az_tr (az_ad base cs)))).stack = (As.map (az_tr (az_ad base cs))).reverse ++ .ref (az_ad base cs b0) :: rest.map (az_tr (az_ad base cs)) := by simp [az_tr, List.map_append, List.map_reverse]
      rcases hlk with hlk | ⟨host, hlk⟩
      · exact az_back (d := d) (a := (Value.ref (az_ad base cs b0) :: As.map (az_tr (az_ad base cs))).toArray) hb0 hR hext rfl rfl (va_runI (As := As.map (az_tr (az_ad base cs))) (n := n) ⟨hx, hb, hml, hown, hts⟩ hM1 ⟨callB_of (bytes := bytes) (maxL := maxL) (ret := none) (ws' := az_G) n hts hGG rfl rfl rfl (hts _ hini) (hts _ hlk) ⟨hy.1, hy.2, hnp hnp1⟩ hRm, hnm, hts _ hin⟩ ⟨az_blind, hPre⟩ rfl (by simp [hAs]) hlv.1 hst9 (lv_room hcat') hd hfit) kk
      · exact az_back (d := d) (a := (Value.ref (az_ad base cs b0) :: As.map (az_tr (az_ad base cs))).toArray) hb0 hR hext rfl rfl (va_runIN (As := As.map (az_tr (az_ad base cs))) (n := n) ⟨hx, hb, hml, hown, hts⟩ hM1 ⟨va_cnB (bytes := bytes) (maxL := maxL) (ret := none) (ws' := az_G) n hts hGG rfl rfl rfl (hKx.2.1 _ hlk rfl) (hts _ hini) ⟨hy.1, hy.2, hnp hnp1⟩ hRm, hnm, hts _ hin⟩ ⟨az_blind, hPre⟩ rfl (by simp [hAs]) hlv.1 hst9 (lv_room hcat') hd hfit) kk
  all_goals exact hl.elim
end AzCall
end
section
theorem az_ext.pi {σ : az_S} {a k : Nat} {v : Int32} (hk : (az_sh σ a).1 < 110) : az_ext σ (az_pi σ a k v) := ⟨Nat.le_refl _, Nat.le_refl _, fun h => ⟨h.pi, fun _ _ _ q => q.pi hk⟩⟩
theorem az_ext.pl {σ : az_S} {a k : Nat} {v : Int64} : az_ext σ (az_pl σ a k v) := ⟨Nat.le_refl _, Nat.le_refl _, fun h => ⟨h.pl, fun _ _ _ q => q.pl⟩⟩
theorem az_ext.pr {σ : az_S} {a k : Nat} {v : Option Nat} (hk : (az_sh σ a).1 < 110) : az_ext σ (az_pr σ a k v) := ⟨Nat.le_refl _, Nat.le_refl _, fun h => ⟨h.pr, fun _ _ _ q => q.pr hk⟩⟩
theorem az_ext.nw {σ : az_S} {kd mm : Nat} (hn : az_n σ < 1000000) (hk : kd < 110) : az_ext σ (az_nw σ kd mm) := ⟨Nat.le_succ _, Nat.le_add_right _ _, fun h => ⟨h.nw hn hk, fun _ _ _ q => q.nw h hn hk⟩⟩
theorem az_ft_lt {ci k : Nat} (h : az_ft ci k = 1 ∨ az_ft ci k = 2) : ci < 110 ∨ ci = 113 := by
  by_cases h1 : ci < 110
  · exact Or.inl h1
  by_cases h2 : ci = 113
  · exact Or.inr h2
  exfalso
  unfold az_ft at h
  split at h <;> first | omega | (rcases h with h | h <;> cases h)
set_option maxHeartbeats 4000000 in
theorem az_next_ext {pc len : Nat} {ins : Instr} {aux : List Nat} {L : az_V} {st : List Value} {σ : az_S} {F : az_F} (h : az_next pc len ins aux L st σ F) (hpf : ∀ i ci k, ins = .putfield i → aux = [ci, k] → ci < 14) : az_ext σ F.2.2.2 := by
  cases ins
  case iconst n => cases h; exact .rf
  case bipush n => cases h; exact .rf
  case sipush n => cases h; exact .rf
  case lconst n => cases h; exact .rf
  case aconst_null => cases h; exact .rf
  case iload_n k => obtain ⟨v, h1, rfl⟩ := h; exact .rf
  case iload k => obtain ⟨v, h1, rfl⟩ := h; exact .rf
  case lload_n k => obtain ⟨v, h1, rfl⟩ := h; exact .rf
  case lload k => obtain ⟨v, h1, rfl⟩ := h; exact .rf
  case aload_n k => obtain ⟨v, h1, rfl⟩ := h; exact .rf
  case aload k => obtain ⟨v, h1, rfl⟩ := h; exact .rf
  case istore_n k => obtain ⟨v, r, rfl, h2, rfl⟩ := h; exact .rf
  case istore k => obtain ⟨v, r, rfl, h2, rfl⟩ := h; exact .rf
  case lstore_n k => obtain ⟨v, r, rfl, h2, rfl⟩ := h; exact .rf
  case lstore k => obtain ⟨v, r, rfl, h2, rfl⟩ := h; exact .rf
  case astore_n k => obtain ⟨v, r, rfl, h2, rfl⟩ := h; exact .rf
  case astore k => obtain ⟨v, r, rfl, h2, rfl⟩ := h; exact .rf
  case iinc k n => obtain ⟨v, h1, rfl⟩ := h; exact .rf
  case iadd => obtain ⟨x, y, r, rfl, rfl⟩ := h; exact .rf
  case isub => obtain ⟨x, y, r, rfl, rfl⟩ := h; exact .rf
  case imul => obtain ⟨x, y, r, rfl, rfl⟩ := h; exact .rf
  case idiv => obtain ⟨x, y, r, rfl, h0, rfl⟩ := h; exact .rf
  case irem => obtain ⟨x, y, r, rfl, h0, rfl⟩ := h; exact .rf
  case iand => obtain ⟨x, y, r, rfl, rfl⟩ := h; exact .rf
  case ior => obtain ⟨x, y, r, rfl, rfl⟩ := h; exact .rf
  case ixor => obtain ⟨x, y, r, rfl, rfl⟩ := h; exact .rf
  case ishl => obtain ⟨x, y, r, rfl, rfl⟩ := h; exact .rf
  case ishr => obtain ⟨x, y, r, rfl, rfl⟩ := h; exact .rf
  case iushr => obtain ⟨x, y, r, rfl, rfl⟩ := h; exact .rf
  case ineg => obtain ⟨x, r, rfl, rfl⟩ := h; exact .rf
  case ladd => obtain ⟨x, y, r, rfl, rfl⟩ := h; exact .rf
  case lsub => obtain ⟨x, y, r, rfl, rfl⟩ := h; exact .rf
  case lmul => obtain ⟨x, y, r, rfl, rfl⟩ := h; exact .rf
  case ldiv => obtain ⟨x, y, r, rfl, h0, rfl⟩ := h; exact .rf
  case land => obtain ⟨x, y, r, rfl, rfl⟩ := h; exact .rf
  case lor => obtain ⟨x, y, r, rfl, rfl⟩ := h; exact .rf
  case lneg => obtain ⟨x, r, rfl, rfl⟩ := h; exact .rf
  case i2l => obtain ⟨x, r, rfl, rfl⟩ := h; exact .rf
  case l2i => obtain ⟨x, r, rfl, rfl⟩ := h; exact .rf
  case i2b => obtain ⟨x, r, rfl, rfl⟩ := h; exact .rf
  case i2c => obtain ⟨x, r, rfl, rfl⟩ := h; exact .rf
  case lcmp => obtain ⟨x, y, r, rfl, rfl⟩ := h; exact .rf
  case dup => obtain ⟨v, r, rfl, h1, rfl⟩ := h; exact .rf
  case pop => obtain ⟨v, r, rfl, h1, rfl⟩ := h; exact .rf
  case dup_x1 => obtain ⟨v, w, r, rfl, h1, h2, rfl⟩ := h; exact .rf
  case dup2 => obtain ⟨v, w, r, rfl, h1, h2, rfl⟩ := h; exact .rf
  case goto off => cases h; exact .rf
  case ifCond cd off => obtain ⟨x, r, rfl, ⟨h1, rfl⟩ | ⟨h1, rfl⟩⟩ := h <;> exact .rf
  case if_icmp cd off => obtain ⟨x, y, r, rfl, ⟨h1, rfl⟩ | ⟨h1, rfl⟩⟩ := h <;> exact .rf
  case if_acmp cd off => obtain ⟨x, r, rfl, rfl⟩ := h; exact .rf
  case ifnull off => obtain ⟨x, r, rfl, ⟨h1, rfl⟩ | ⟨h1, rfl⟩⟩ := h <;> exact .rf
  case tableswitch d lo hi offs => obtain ⟨x, r, rfl, ⟨h1, rfl⟩ | ⟨off, h1, h2, h3, rfl⟩⟩ := h <;> exact .rf
  case lookupswitch d ps => obtain ⟨x, r, rfl, h1, rfl⟩ := h; exact .rf
  case ldc i => obtain ⟨v, rfl, rfl⟩ | ⟨v, rfl, rfl⟩ := h <;> exact .rf
  case ldc_w i => obtain ⟨v, rfl, rfl⟩ := h; exact .rf
  case ldc2_w i => obtain ⟨v, rfl, rfl⟩ := h; exact .rf
  case getstatic i => obtain ⟨k, kd, rfl, rfl⟩ := h; exact .rf
  case getfield i => obtain ⟨ci, k, a, r, rfl, rfl, hk, rfl⟩ := h; exact .rf
  case putfield i =>
    obtain ⟨ci, k, a, rfl, hk, h⟩ := h
    have hci := hpf i ci k rfl rfl
    obtain ⟨_, v, r, rfl, rfl⟩ | ⟨_, v, r, rfl, rfl⟩ | ⟨_, v, r, rfl, rfl⟩ := h
    · exact .pi (by omega)
    · exact .pl
    · exact .pr (by omega)
  case iaload => obtain ⟨i, a, r, rfl, hk, hin, rfl⟩ := h; exact .rf
  case baload => obtain ⟨i, a, r, rfl, hk, hin, rfl⟩ := h; exact .rf
  case laload => obtain ⟨i, a, r, rfl, hk, hin, rfl⟩ := h; exact .rf
  case aaload => obtain ⟨i, a, r, rfl, hk, hin, rfl⟩ := h; exact .rf
  case iastore => obtain ⟨x, i, a, r, rfl, hk, hin, rfl⟩ := h; exact .pi (by omega)
  case bastore => obtain ⟨x, i, a, r, rfl, hin, ⟨hk, rfl⟩ | ⟨hk, rfl⟩⟩ := h <;> exact .pi (by omega)
  case lastore => obtain ⟨x, i, a, r, rfl, hk, hin, rfl⟩ := h; exact .pl
  case aastore => obtain ⟨v, i, a, r, rfl, hk, hkv, hin, rfl⟩ := h; exact .pr (by omega)
  case arraylength => obtain ⟨a, r, rfl, hk, rfl⟩ := h; exact .rf
  case newarray t =>
    obtain ⟨n, r, rfl, h1, h2, h3, h4, rfl⟩ := h
    refine .nw h4 ?_
    cases t <;> decide
  case anewarray i => obtain ⟨n, r, rfl, h1, h2, h3, rfl⟩ := h; exact .nw h3 (by decide)
  case new i => obtain ⟨ci, rfl, h1, h2, rfl⟩ := h; exact .nw h2 (by omega)
  case checkcast i => obtain ⟨ci, a, r, rfl, hci, rfl, hk, rfl⟩ := h; exact .rf
  all_goals exact h.elim
/-- an array of references filled out of another -/
abbrev az_cp (σ : az_S) (a b n : Nat) : az_S := (σ.1, σ.2.1, σ.2.2.1, σ.2.2.2.1, σ.2.2.2.2.1, va_up σ.2.2.2.2.2 b (va_cpy (az_r σ a) (az_r σ b) 0 0 n))
theorem az_ext.cp {σ : az_S} {a b n : Nat} (hk : (az_sh σ b).1 < 110) : az_ext σ (az_cp σ a b n) := by
  refine ⟨Nat.le_refl _, Nat.le_refl _, fun h => ⟨h, fun _ _ _ q => ?_⟩⟩
  refine q.upd fun x hx => ?_
  have hb' : 110 ≤ (az_sh σ x).1 := by rcases hx with h | h <;> exact h.1
  have e : x ≠ b := fun e => by subst e; omega
  exact ⟨rfl, rfl, by simp [az_r, va_up, e]⟩
theorem az_E_cp {cA : Nat → ClassId} {ad : Nat → Nat} {σ : az_S} {a b n x : Nat} (h : x ≠ b) : az_E cA ad (az_cp σ a b n) x = az_E cA ad σ x := by
  have hf : ∀ j q, az_fv (az_cp σ a b n) x j q = az_fv σ x j q := by
    intro j q
    unfold az_fv
    split <;> simp [az_i, az_l, az_r, va_up, h]
  unfold az_E
  simp only [hf]
  simp [az_i, az_l, az_r, az_sh, va_up, h]
/-- what the tables must say of the three calls that stand for a step -/
def az_slink (own : String) (k : Nat) (ins : Instr) : Prop := match ins with
  | .invokespecial i => k = 3 ∧ Cond.methodLink own i Lib.objectInit ∈ az_G ∧ Cond.instanceMethod Lib.objectInit ∈ az_G ∧ Cond.code Lib.objectInit ⟨#[0xb1]⟩ 1 none ∈ az_G
  | .invokevirtual i => k = 4 ∧ Cond.methodLink own i ⟨"java/lang/Object", "getClass", "()Ljava/lang/Class;"⟩ ∈ az_G ∧ Cond.selects "[Ljava/lang/Object;" ⟨"java/lang/Object", "getClass", "()Ljava/lang/Class;"⟩ ⟨"java/lang/Object", "getClass", "()Ljava/lang/Class;"⟩ ∈ az_G ∧ Cond.instanceMethod ⟨"java/lang/Object", "getClass", "()Ljava/lang/Class;"⟩ ∈ az_G ∧ Cond.native ⟨"java/lang/Object", "getClass", "()Ljava/lang/Class;"⟩ ∈ az_G
  | .invokestatic i => k = 5 ∧ Cond.methodLink own i arraycopyName ∈ az_G ∧ Cond.native arraycopyName ∈ az_G ∧ Cond.static arraycopyName ∈ az_G ∧ Cond.initialized "java/lang/System" ∈ az_G
  | _ => False
section AzSpec
variable {p : Program} {l : Launch} {e : Env} {s : State} {m : MethodId} {args : Array Value} {below : List Frame} {meth : Method} {c : Code} {Q : State → Prop} {cc : ByteArray} {own : String}
variable {D : va_G} {cA : Nat → ClassId} {base : Nat} {cs : Nat → Nat} {nL n0 s0 : Nat}
set_option maxHeartbeats 4000000 in
theorem az_sim_spec {d pc k : Nat} {ins : Instr} {E : Nat → List Value → az_S → Option Value → az_S → Prop} {L : az_V} {st : List Value} {σ : az_S} {F : az_F} {H : Heap} {locs : List Loc} {ls : Array Slot} {mcT msT : Nat} (hC : az_Cx D cA base cs p s m args c cc own) (hml : c.maxLocals = nL) (hb0 : s.heap.size = base + n0) (hd : decode cc pc = .ok (ins, 3)) (hl : az_slink own k ins) (hn : az_step E pc 3 ins [1, 2, k] L st σ F)
    (hR : az_Rl D cA base cs s nL n0 s0 σ L H locs ls)
    (kk : ∀ (H' : Heap) (locs' : List Loc) (ls' : Array Slot), az_Rl D cA base cs s nL n0 s0 F.2.2.2 F.2.1 H' locs' ls' → W p l e (az_rm (d + 1) mcT msT) s m args below meth c H' locs' (az_n F.2.2.2 - n0) (az_sl F.2.2.2 - s0) Q (F0 m F.1 ls' (F.2.2.1.map (az_tr (az_ad base cs))))) :
    W p l e (az_rm (d + 1) mcT msT) s m args below meth c H locs (az_n σ - n0) (az_sl σ - s0) Q (F0 m pc ls (st.map (az_tr (az_ad base cs)))) := by
  obtain ⟨hx, hb, hown, hts, hKx, hbase⟩ := hC
  obtain ⟨hP, hsz, hS, hok, hCc, hlv, hn0, hs0⟩ := id hR
  have hfr : 1 ≤ (az_rm (d + 1) mcT msT).frames := Nat.le_add_left 1 d
  have hlo : 80 ≤ (az_rm (d + 1) mcT msT).locals := by show 80 ≤ 80 * (d + 1); omega
  cases ins
  case invokespecial i =>
    obtain ⟨rfl, h1, h2, h3⟩ := hl
    obtain ⟨-, a, r, rfl, hcat, rfl⟩ := hn
    have hcat' : ((r.map (az_tr (az_ad base cs))).map fun v => v.category).sum ≤ 8 := by rw [az_tr_cats]; exact hcat
    refine W.objInit (a := az_ad base cs a) (rest := r.map (az_tr (az_ad base cs))) hx hb hown (hts _ h1) (hts _ h2) (hts _ h3) rfl (by rw [hml]; exact hlv.1) rfl hd hfr ?_ (kk H locs ls hR)
    show 2 * 0 + _ + 12 ≤ _
    omega
  case invokevirtual i =>
    obtain ⟨rfl, h1, h2, h3, h4⟩ := hl
    obtain ⟨-, a, r, rfl, hcat, hk, rfl⟩ := hn
    have hcat' : ((r.map (az_tr (az_ad base cs))).map fun v => v.category).sum ≤ 8 := by rw [az_tr_cats]; exact hcat
    obtain ⟨ha, -⟩ := hok.lt (a := a) (by omega)
    have hg := hP a _ (az_ws_get ha)
    rw [az_E_ref hk] at hg
    have hnm := va_nmO (nm := "[Ljava/lang/Object;") (hKx.1.2 4 _ rfl).2 rfl
    have h9 := kk H locs ls hR
    exact va_getC (C := "[Ljava/lang/Object;") (mi := cs 1000005) hx hb (by rw [hml]; exact hlv.1.symm) hown (hts _ h1) (va_Dc.use hKx.2.2.2.2.1) (hts _ h2) (hts _ h3) (hts _ h4) hKx.2.2.2.1 ⟨_, hg, rfl, hnm⟩ hfr (by omega) hd h9
  case invokestatic i =>
    obtain ⟨rfl, h1, h2, h3, h4⟩ := hl
    obtain ⟨-, n, a, r, b, rfl, hn1, hcat, hka, hkb, hab, hla, hlb, hel, rfl⟩ := hn
    have hcat' : ((r.map (az_tr (az_ad base cs))).map fun v => v.category).sum ≤ 8 := by rw [az_tr_cats]; exact hcat
    have hD := az_D (cA := cA) (base := base) (cs := cs) hok.2.1
    obtain ⟨ha, -⟩ := hok.lt (a := a) (by omega)
    obtain ⟨hb2, -⟩ := hok.lt (a := b) (by omega)
    have hga := (az_ws_get (cA := cA) (ad := az_ad base cs) ha).trans (by rw [az_E_ref hka])
    have hgb := (az_ws_get (cA := cA) (ad := az_ad base cs) hb2).trans (by rw [az_E_ref hkb])
    refine va_copyM (E0 := "java/lang/Object") (E1 := "java/lang/Object") (sp := 0) (dp := 0) (n := n) (rest := r.map (az_tr (az_ad base cs))) hx hb (by rw [hml]; exact hlv.1.symm) hown (hts _ h1) (hts _ h2) (hts _ h3) (hts _ h4) hKx.1 hP hD hS a b 4 4 hga hgb rfl rfl (by decide) (by decide) hn1 (by rw [sb_cl0]; omega) (by rw [sb_cl0]; omega) ?_ hfr ?_ hd (fun H1 locs1 hP1 _ hS1 => az_sized (fun hz => kk H1 locs1 ls (hR.set (a := b) (τ := az_cp σ a b n.toNatClampNeg) rfl rfl hz hb0 ?_ (fun x hx => az_E_cp hx) hS1 hok ((az_ext.cp (by omega)).2.2 hok |>.2 base cs s hCc))))
    · intro i hi y hy
      rw [sb_cl0, Nat.zero_add] at hy
      obtain ⟨v, hv1, hv2⟩ := hel i hi
      rw [hv1] at hy
      cases hy
      obtain ⟨q, hq⟩ := az_clt _ hv2
      obtain ⟨hv, -⟩ := hok.lt (a := v) (by omega)
      refine va_rAny hKx.1 hP (q0 := v) (by rw [az_ws_get hv, az_E_obj rfl hv2]) hq ?_
      intro comp c0 hc1 hc2
      obtain ⟨c3, t3, f1, f2, f3⟩ := Cond.castable_spec (va_Nw.use (A := args) rfl (hKx.2.1 _ (az_ccast _ q hq) rfl))
      cases hc1.symm.trans f2
      cases hc2.symm.trans f1
      exact f3
    · have : nativeFrameWords "java/lang/System" "arraycopy" 5 ≤ 40 := by decide
      omega
    · have e : (fun j => (az_r (az_cp σ a b n.toNatClampNeg) b j).map (az_ad base cs)) = va_cpy (fun j => (az_r σ a j).map (az_ad base cs)) (fun j => (az_r σ b j).map (az_ad base cs)) 0 0 n.toNatClampNeg := by
        funext j
        simp only [az_r, va_up, if_true, va_cpy]
        split <;> rfl
      rw [az_E_ref (σ := az_cp σ a b n.toNatClampNeg) hkb, e]
      rw [sb_cl0] at hP1
      exact hP1
  all_goals exact hl.elim
end AzSpec
end
section
/-! RUNS: a frame of the abstract machine from its entry to its return, and the contract that it gives -/
abbrev az_M : Type := MethodName × ByteArray × Nat × Option FieldType
def az_lk (ms : Nat → Option az_M) (own nm : String) (ins : Instr) (aux : List Nat) : Prop := match aux with
  | [0, y, n, kc] => ∃ M, ms y = some M ∧ az_clink own ins M.1 M.2.1 M.2.2.1 M.2.2.2 n kc
  | [1, 2, k] => az_slink own k ins
  | _ => az_link own nm ins aux
def az_iok (ms : Nat → Option az_M) (own nm : String) (cc : ByteArray) (q : az_I) : Prop := decode cc q.1 = .ok (q.2.2.1, q.2.1) ∧ (az_il q.2.2.1 = 0 ∨ az_il q.2.2.1 = q.2.1) ∧ az_jok q.1 q.2.2.1 ∧ az_lk ms own nm q.2.2.1 q.2.2.2
theorem az_lk_plain {ms : Nat → Option az_M} {own nm : String} {ins : Instr} {aux : List Nat} {pc len : Nat} {L : az_V} {st : List Value} {σ : az_S} {F : az_F} (h : az_lk ms own nm ins aux) (g1 : ∀ y n kc, aux = [0, y, n, kc] → False) (hn : az_next pc len ins aux L st σ F) : az_link own nm ins aux := by
  unfold az_lk at h
  split at h
  · exact (g1 _ _ _ rfl).elim
  · cases ins <;> first | exact h.elim | exact hn.elim
  · exact h
theorem az_fetch_in {pc : Nat} {x : Nat × Instr × List Nat} : ∀ {cd : List az_I}, az_fetch cd pc = some x → (pc, x) ∈ cd := by
  intro cd
  induction cd with
  | nil => intro h; cases h
  | cons q r ih =>
    intro h
    unfold az_fetch at h
    split at h
    · rename_i e
      cases h
      rw [← e]
      exact List.mem_cons_self
    · exact List.mem_cons_of_mem _ (ih h)
theorem az_step_ext {ms : Nat → Option az_M} {own nm : String} {cc : ByteArray} {E : Nat → List Value → az_S → Option Value → az_S → Prop} (hE : ∀ y as σ r τ, E y as σ r τ → az_ext σ τ) {pc len : Nat} {ins : Instr} {aux : List Nat} {L : az_V} {st : List Value} {σ : az_S} {F : az_F} (hok : az_iok ms own nm cc (pc, len, ins, aux)) (h : az_step E pc len ins aux L st σ F) : az_ext σ F.2.2.2 := by
  obtain ⟨-, -, -, hl⟩ := hok
  unfold az_step at h
  split at h
  · obtain ⟨-, -, -, -, r, τ, h1, rfl⟩ := h
    exact hE _ _ _ _ _ h1
  · obtain ⟨-, a, r, rfl, -, rfl⟩ := h
    exact .rf
  · obtain ⟨-, a, r, rfl, -, -, rfl⟩ := h
    exact .rf
  · obtain ⟨-, n, a, r, b, rfl, -, -, hka, hkb, -, -, -, -, rfl⟩ := h
    exact az_ext.cp (by omega)
  · rename_i n1 n2 n3 n4
    have hl2 := az_lk_plain hl n1 h
    refine az_next_ext h ?_
    intro i ci k e1 e2
    subst e1
    subst e2
    obtain ⟨ci', k', q, hax, hq, -⟩ := hl2
    cases hax
    have := (List.getElem?_eq_some_iff.mp hq).1
    simpa [vwCl] using this
theorem az_run_ext {ms : Nat → Option az_M} {own nm : String} {cc : ByteArray} {E : Nat → List Value → az_S → Option Value → az_S → Prop} (hE : ∀ y as σ r τ, E y as σ r τ → az_ext σ τ) {cd : List az_I} (hcd : ∀ q ∈ cd, az_iok ms own nm cc q) {rt : Option FieldType} {r : Option Value} {t : az_S} : ∀ (k : Nat) (G : az_F), az_run E cd rt r t k G → az_ext G.2.2.2 t := by
  intro k
  induction k with
  | zero => intro G h; exact h.elim
  | succ k ih =>
    intro G h
    obtain ⟨len, ins, aux, hf, h⟩ := h
    rcases h with ⟨-, h⟩ | ⟨F, h1, h2⟩
    · rw [h]; exact .rf
    · exact (az_step_ext hE (hcd _ (az_fetch_in hf)) h1).tr (ih F h2)
section AzRun
variable {p : Program} {l : Launch} {e : Env} {s : State} {m : MethodId} {args : Array Value} {below : List Frame} {meth : Method} {c : Code} {Q : State → Prop} {cc : ByteArray} {own : String}
variable {D : va_G} {cA : Nat → ClassId} {base : Nat} {cs : Nat → Nat} {nL n0 s0 : Nat}
set_option maxHeartbeats 4000000 in
/-- one step -/
theorem az_sim_step {ms : Nat → Option az_M} {d pc len : Nat} {ins : Instr} {aux : List Nat} {E : Nat → List Value → az_S → Option Value → az_S → Prop} {L : az_V} {st : List Value} {σ : az_S} {F : az_F} {H : Heap} {locs : List Loc} {ls : Array Slot} {mcT msT : Nat} (hC : az_Cx D cA base cs p s m args c cc own) (hml : c.maxLocals = nL) (hb0 : s.heap.size = base + n0)
    (hE : ∀ y as σ r τ, E y as σ r τ → az_ext σ τ ∧ ∀ M, ms y = some M → az_Met l D cA base cs d M.1 M.2.1 M.2.2.1 M.2.2.2 as σ r τ)
    (hok : az_iok ms own meth.name cc (pc, len, ins, aux)) (hn : az_step E pc len ins aux L st σ F)
    (hR : az_Rl D cA base cs s nL n0 s0 σ L H locs ls) (hroom : az_n F.2.2.2 - n0 ≤ mcT ∧ az_sl F.2.2.2 - s0 ≤ msT)
    (kk : ∀ (H' : Heap) (locs' : List Loc) (ls' : Array Slot), az_Rl D cA base cs s nL n0 s0 F.2.2.2 F.2.1 H' locs' ls' → W p l e (az_rm (d + 1) mcT msT) s m args below meth c H' locs' (az_n F.2.2.2 - n0) (az_sl F.2.2.2 - s0) Q (F0 m F.1 ls' (F.2.2.1.map (az_tr (az_ad base cs))))) :
    W p l e (az_rm (d + 1) mcT msT) s m args below meth c H locs (az_n σ - n0) (az_sl σ - s0) Q (F0 m pc ls (st.map (az_tr (az_ad base cs)))) := by
  obtain ⟨hd, hil, hj, hl⟩ := hok
  unfold az_step at hn
  split at hn
  · rename_i y n kc
    obtain ⟨rfl, h1, h2, h3, r, τ, h4, rfl⟩ := hn
    obtain ⟨M, hM, hcl⟩ := hl
    obtain ⟨hx, hmt⟩ := hE _ _ _ _ _ h4
    exact az_sim_call hC hml hb0 hd hcl h1 h2 h3 hx (hmt M hM) hR hroom kk
  · obtain ⟨rfl, h⟩ := hn
    exact az_sim_spec (k := 3) (E := E) hC hml hb0 hd hl ⟨rfl, h⟩ hR kk
  · obtain ⟨rfl, h⟩ := hn
    exact az_sim_spec (k := 4) (E := E) hC hml hb0 hd hl ⟨rfl, h⟩ hR kk
  · obtain ⟨rfl, h⟩ := hn
    exact az_sim_spec (k := 5) (E := E) hC hml hb0 hd hl ⟨rfl, h⟩ hR kk
  · rename_i g1 g2 g3 g4
    have hl := az_lk_plain hl g1 hn
    cases ins
    case getfield i => exact az_sim_get hC hn hd (hil.resolve_left (by simp [az_il])).symm hl hR (fun ls' h => kk H locs ls' h)
    case putfield i => exact az_sim_put hC hb0 hn hd (hil.resolve_left (by simp [az_il])).symm hl hR kk
    case new i => exact az_sim_d hC hb0 hn hd (hil.resolve_left (by simp [az_il])) hl trivial hR hroom kk
    case newarray i => exact az_sim_d hC hb0 hn hd (hil.resolve_left (by simp [az_il])) hl trivial hR hroom kk
    case anewarray i => exact az_sim_d hC hb0 hn hd (hil.resolve_left (by simp [az_il])) hl trivial hR hroom kk
    case iastore => exact az_sim_c hC hb0 hn hd (hil.resolve_left (by simp [az_il])) trivial hR kk
    case bastore => exact az_sim_c hC hb0 hn hd (hil.resolve_left (by simp [az_il])) trivial hR kk
    case lastore => exact az_sim_c hC hb0 hn hd (hil.resolve_left (by simp [az_il])) trivial hR kk
    case aastore => exact az_sim_c hC hb0 hn hd (hil.resolve_left (by simp [az_il])) trivial hR kk
    case checkcast i => exact az_sim_b hC hn hd (hil.resolve_left (by simp [az_il])) hl trivial hR (fun ls' h => kk H locs ls' h)
    case getstatic i => exact az_sim_b hC hn hd (hil.resolve_left (by simp [az_il])) hl trivial hR (fun ls' h => kk H locs ls' h)
    case ldc i => exact az_sim_b hC hn hd (hil.resolve_left (by simp [az_il])) hl trivial hR (fun ls' h => kk H locs ls' h)
    case ldc_w i => exact az_sim_b hC hn hd (hil.resolve_left (by simp [az_il])) hl trivial hR (fun ls' h => kk H locs ls' h)
    case ldc2_w i => exact az_sim_b hC hn hd (hil.resolve_left (by simp [az_il])) hl trivial hR (fun ls' h => kk H locs ls' h)
    case iaload => exact az_sim_b hC hn hd (hil.resolve_left (by simp [az_il])) hl trivial hR (fun ls' h => kk H locs ls' h)
    case baload => exact az_sim_b hC hn hd (hil.resolve_left (by simp [az_il])) hl trivial hR (fun ls' h => kk H locs ls' h)
    case laload => exact az_sim_b hC hn hd (hil.resolve_left (by simp [az_il])) hl trivial hR (fun ls' h => kk H locs ls' h)
    case aaload => exact az_sim_b hC hn hd (hil.resolve_left (by simp [az_il])) hl trivial hR (fun ls' h => kk H locs ls' h)
    case arraylength => exact az_sim_b hC hn hd (hil.resolve_left (by simp [az_il])) hl trivial hR (fun ls' h => kk H locs ls' h)
    all_goals exact az_sim_a hC hn hd hil hj trivial hR (fun ls' h => kk H locs ls' h)
/-- a run of a frame -/
theorem az_sim_run {ms : Nat → Option az_M} {d : Nat} {E : Nat → List Value → az_S → Option Value → az_S → Prop} {cd : List az_I} {rt : Option FieldType} {r : Option Value} {t : az_S} {mcT msT : Nat} (hC : az_Cx D cA base cs p s m args c cc own) (hml : c.maxLocals = nL) (hb0 : s.heap.size = base + n0)
    (hE : ∀ y as σ r τ, E y as σ r τ → az_ext σ τ ∧ ∀ M, ms y = some M → az_Met l D cA base cs d M.1 M.2.1 M.2.2.1 M.2.2.2 as σ r τ)
    (hcd : ∀ q ∈ cd, az_iok ms own meth.name cc q) (hroom : az_n t - n0 ≤ mcT ∧ az_sl t - s0 ≤ msT)
    (hret : ∀ (pc len : Nat) (ins : Instr) (L : az_V) (st : List Value) (H : Heap) (locs : List Loc) (ls : Array Slot), decode cc pc = .ok (ins, len) → (az_il ins = 0 ∨ az_il ins = len) → az_ret ins rt st r → az_Rl D cA base cs s nL n0 s0 t L H locs ls → W p l e (az_rm (d + 1) mcT msT) s m args below meth c H locs (az_n t - n0) (az_sl t - s0) Q (F0 m pc ls (st.map (az_tr (az_ad base cs))))) :
    ∀ (k : Nat) (G : az_F), az_run E cd rt r t k G → ∀ (H : Heap) (locs : List Loc) (ls : Array Slot), az_Rl D cA base cs s nL n0 s0 G.2.2.2 G.2.1 H locs ls → W p l e (az_rm (d + 1) mcT msT) s m args below meth c H locs (az_n G.2.2.2 - n0) (az_sl G.2.2.2 - s0) Q (F0 m G.1 ls (G.2.2.1.map (az_tr (az_ad base cs)))) := by
  intro k
  induction k with
  | zero => intro G h; exact h.elim
  | succ k ih =>
    intro G h H locs ls hR
    obtain ⟨len, ins, aux, hf, h⟩ := h
    have hq := hcd _ (az_fetch_in hf)
    rcases h with ⟨h1, h2⟩ | ⟨F, h1, h2⟩
    · rw [h2] at hR ⊢
      exact hret _ _ _ _ _ _ _ _ hq.1 hq.2.1 h1 hR
    · have hx := az_run_ext (fun y as σ r τ h => (hE y as σ r τ h).1) hcd k F h2
      refine az_sim_step hC hml hb0 hE hq h1 hR ?_ (fun H' locs' ls' hR' => ih F h2 H' locs' ls' hR')
      have a1 := hx.1
      have a2 := hx.2.1
      exact ⟨Nat.le_trans (Nat.sub_le_sub_right a1 _) hroom.1, Nat.le_trans (Nat.sub_le_sub_right a2 _) hroom.2⟩
end AzRun
def az_sl0 (as : List Value) : az_V := as.flatMap (fun v => if v.category = 2 then [some v, none] else [some v])
def az_entry (as : List Value) (maxL : Nat) : az_V := az_sl0 as ++ List.replicate (maxL - (az_sl0 as).length) none
theorem az_sl0_len (ad : Nat → Nat) (as : List Value) : (lg_sl (as.map (az_tr ad))).length = (az_sl0 as).length := by
  induction as with
  | nil => rfl
  | cons v r ih =>
    have h1 : (lg_sl ((v :: r).map (az_tr ad))).length = (if v.category = 2 then 2 else 1) + (lg_sl (r.map (az_tr ad))).length := by
      simp only [lg_sl, List.map_cons, List.flatMap_cons, List.length_append, az_tr_cat]
      split <;> rfl
    have h2 : (az_sl0 (v :: r)).length = (if v.category = 2 then 2 else 1) + (az_sl0 r).length := by
      simp only [az_sl0, List.flatMap_cons, List.length_append]
      split <;> rfl
    rw [h1, h2, ih]
theorem az_sl0_get (ad : Nat → Nat) (as : List Value) : ∀ (i : Nat) (v : Value), (az_sl0 as)[i]? = some (some v) → (lg_sl (as.map (az_tr ad)))[i]? = some (.val (az_tr ad v)) := by
  induction as with
  | nil => intro i v h; simp [az_sl0] at h
  | cons w r ih =>
    intro i v h
    by_cases hc : w.category = 2
    · have e1 : az_sl0 (w :: r) = some w :: none :: az_sl0 r := by simp [az_sl0, hc]
      have e2 : lg_sl ((w :: r).map (az_tr ad)) = .val (az_tr ad w) :: .second :: lg_sl (r.map (az_tr ad)) := by simp [lg_sl, az_tr_cat, hc]
      rw [e1] at h
      rw [e2]
      match i, h with
      | 0, h => simp at h; simp [h]
      | 1, h => simp at h
      | i + 2, h => simp at h ⊢; simpa using ih i v h
    · have e1 : az_sl0 (w :: r) = some w :: az_sl0 r := by simp [az_sl0, hc]
      have e2 : lg_sl ((w :: r).map (az_tr ad)) = .val (az_tr ad w) :: lg_sl (r.map (az_tr ad)) := by simp [lg_sl, az_tr_cat, hc]
      rw [e1] at h
      rw [e2]
      match i, h with
      | 0, h => simp at h; simp [h]
      | i + 1, h => simp at h ⊢; simpa using ih i v h
theorem az_entry_lv (ad : Nat → Nat) (as : List Value) {maxL : Nat} (h : (az_sl0 as).length ≤ maxL) : az_lv ad ((lg_sl (as.map (az_tr ad)) ++ List.replicate (maxL - (lg_sl (as.map (az_tr ad))).length) Slot.unset).toArray) maxL (az_entry as maxL) := by
  have hl := az_sl0_len ad as
  obtain ⟨h1, h2, -⟩ := lv_entry (as.map (az_tr ad)) (n := maxL) (by rw [hl]; exact h)
  refine ⟨h1, by simp [az_entry]; omega, h2, fun i v hi => ?_⟩
  unfold az_get az_entry at hi
  by_cases hlt : i < (az_sl0 as).length
  · rw [List.getElem?_append_left hlt] at hi
    have : (az_sl0 as)[i]? = some (some v) := by
      revert hi
      split
      · intro e; rename_i u hu; rw [hu, e]
      · intro e; cases e
    have := az_sl0_get ad as i v this
    rw [List.getElem?_toArray, List.getElem?_append_left (by rw [hl]; exact hlt)]
    exact this
  · rw [List.getElem?_append_right (by omega)] at hi
    exfalso
    revert hi
    split
    · intro e
      rename_i u hu
      rw [e] at hu
      have := List.mem_of_getElem? hu
      simp at this
    · intro e; cases e
/-- calls, by their depth -/
def az_ev (ms : Nat → Option az_M) (cds : Nat → List az_I) : Nat → Nat → List Value → az_S → Option Value → az_S → Prop
  | 0, _, _, _, _, _ => False
  | d + 1, y, as, σ, r, τ => ∃ M k, ms y = some M ∧ (az_sl0 as).length ≤ M.2.2.1 ∧ az_run (az_ev ms cds d) (cds y) M.2.2.2 r τ k (0, az_entry as M.2.2.1, [], σ)
set_option maxHeartbeats 4000000 in
theorem az_met {ms : Nat → Option az_M} {cds : Nat → List az_I} (hT : ∀ y M, ms y = some M → plainName M.1.cls = true ∧ ∀ q ∈ cds y, az_iok ms M.1.cls M.1.name M.2.1 q) (l : Launch) (D : va_G) (cA : Nat → ClassId) (base : Nat) (cs : Nat → Nat) : ∀ (d y : Nat) (as : List Value) (σ : az_S) (r : Option Value) (τ : az_S), az_ev ms cds d y as σ r τ → az_ext σ τ ∧ ∀ M, ms y = some M → az_Met l D cA base cs d M.1 M.2.1 M.2.2.1 M.2.2.2 as σ r τ := by
  intro d
  induction d with
  | zero => intro y as σ r τ h; exact h.elim
  | succ d ih =>
    intro y as σ r τ h
    obtain ⟨M, k, hM, hlen, hrun⟩ := h
    obtain ⟨hpn, hcd⟩ := hT y M hM
    have hext : az_ext σ τ := az_run_ext (fun y as σ r τ h => (ih y as σ r τ h).1) hcd k _ hrun
    refine ⟨hext, fun M' hM' => ?_⟩
    cases hM.symm.trans hM'
    obtain ⟨Y, bytes, maxL, ret⟩ := M
    intro hok
    refine Met.ofW (cc := bytes) (maxL := maxL) (ret := ret) (ws' := az_G) hpn rfl ?_
    intro p e s m args below meth c s₁ B hml hv
    obtain ⟨hargs, hsz, hP, hKx, hCc⟩ := hv
    subst hargs
    have hx := B.exec
    have hb := B.bytes
    have hr : meth.sig.returnType = ret := B.returns
    have hts0 := atoms_spec (ws := az_ws1 Y bytes maxL ret) B.pre
    have hown : s.vm.findClass Y.cls = some m.cls := findClass_of_methodNamed B.named
    have hlocks := B.notSynchronized
    have hin : meth.name = Y.name := (name_of_methodNamed B.named B.method).1
    have hC : az_Cx D cA base cs p s m (as.map (az_tr (az_ad base cs))).toArray c bytes Y.cls := ⟨hx, hb, hown, fun w hw => hts0 w (List.mem_cons_of_mem _ hw), hKx, by rw [hsz]; exact Nat.le_add_right _ _⟩
    have hlv := az_entry_lv (az_ad base cs) as hlen
    rw [lg_entry_eq]
    have hR : az_Rl D cA base cs s maxL (az_n σ) (az_sl σ) σ (az_entry as maxL) s.heap [] ((lg_sl (as.map (az_tr (az_ad base cs))) ++ List.replicate (maxL - (lg_sl (as.map (az_tr (az_ad base cs)))).length) Slot.unset).toArray) := ⟨hP, hsz, va_S.rf, hok, hCc, hlv, Nat.le_refl _, Nat.le_refl _⟩
    have hmain := az_sim_run (p := p) (l := l) (e := e) (below := below) (meth := meth) (Q := MQ below (az_Qc D cA base cs r τ) (as.map (az_tr (az_ad base cs))).toArray s (az_n τ - az_n σ) (az_sl τ - az_sl σ) (fun q => base ≤ q)) (ms := ms) (d := d) (mcT := az_n τ - az_n σ) (msT := az_sl τ - az_sl σ) (n0 := az_n σ) (s0 := az_sl σ) hC hml hsz ih (by rw [hin]; exact hcd) ⟨Nat.le_refl _, Nat.le_refl _⟩ ?_ k _ hrun s.heap [] _ hR
    · simp only [Nat.sub_self] at hmain
      exact hmain
    · intro pc len ins L st H locs ls hd hil hrt hR9
      obtain ⟨hP9, hsz9, hS9, hok9, hC9, hlv9, -, -⟩ := hR9
      have hq : ∀ t : State, t.heap = H → az_Qc D cA base cs r τ (as.map (az_tr (az_ad base cs))).toArray s (.returned (r.map (az_tr (az_ad base cs)))) t := fun t ht => ⟨rfl, by rw [ht]; exact hP9, by rw [ht]; exact hsz9, fun q hq => by rw [ht]; exact hS9.2.1 q (by omega) (by omega)⟩
      cases ins
      case return_ =>
        cases hil.resolve_left (by simp [az_il])
        obtain ⟨h1, rfl, rfl⟩ := hrt
        exact W.vret hx hb (hr.trans h1) (fun t ht _ => hq t ht) hS9.2.2 hd
      case ireturn =>
        cases hil.resolve_left (by simp [az_il])
        obtain ⟨v, ty, h1, h2, rfl, rfl⟩ := hrt
        exact W.zret hx hb (hr.trans h1) h2 (fun t ht _ => hq t ht) hS9.2.2 hd
      case lreturn =>
        cases hil.resolve_left (by simp [az_il])
        obtain ⟨v, h1, rfl, rfl⟩ := hrt
        exact W.lret hx hb (hr.trans h1) (fun t ht _ => hq t ht) hS9.2.2 hd
      case areturn =>
        cases hil.resolve_left (by simp [az_il])
        obtain ⟨o, rt', h1, h2, rfl, rfl⟩ := hrt
        have e9 : [va_rf o].map (az_tr (az_ad base cs)) = [va_rf (o.map (az_ad base cs))] := by simp only [List.map_cons, List.map_nil, az_tr_rf]
        rw [e9]
        refine W.aret hx hb (hr.trans h1) h2 (va_rf_or _) (fun t ht _ => ?_) hS9.2.2 hd
        have := hq t ht
        simp only [Option.map_some, az_tr_rf] at this
        exact this
      all_goals exact hrt.elim
end
