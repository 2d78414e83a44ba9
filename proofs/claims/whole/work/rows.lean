section
-- ===== PART A: goes FIRST, ahead of the names: the tables' words, and 'selects' of the private methods out of them =====
/-- a private method of a class that the tables say can be made, by its rows of tables_1 -/
def lw_okq (q : MethodName × Nat) : Prop := (q.1.cls ≠ "java/lang/invoke/MethodHandle" ∧ q.1.cls ≠ "java/lang/invoke/VarHandle") ∧ Cond.instantiable q.1.cls q.2 ∈ tables_1 ∧ Cond.privateMethod q.1 ∈ tables_1 ∧ Cond.instanceMethod q.1 ∈ tables_1
theorem lw_p0 : lw_okq (⟨"IceType", "refuse", "(I)I"⟩, 9) := ⟨⟨by decide +kernel, by decide +kernel⟩, List.mem_of_getElem? (i := 20) (by decide +kernel), List.mem_of_getElem? (i := 339) (by decide +kernel), List.mem_of_getElem? (i := 340) (by decide +kernel)⟩
theorem lw_p1 : lw_okq (⟨"IceType$LawReader", "readLevel", "(ILjava/lang/String;I)Z"⟩, 3) := ⟨⟨by decide +kernel, by decide +kernel⟩, List.mem_of_getElem? (i := 234) (by decide +kernel), List.mem_of_getElem? (i := 477) (by decide +kernel), List.mem_of_getElem? (i := 478) (by decide +kernel)⟩
theorem lw_p2 : lw_okq (⟨"IceType$LawReader", "readPart", "(Ljava/lang/String;I)Z"⟩, 3) := ⟨⟨by decide +kernel, by decide +kernel⟩, List.mem_of_getElem? (i := 234) (by decide +kernel), List.mem_of_getElem? (i := 481) (by decide +kernel), List.mem_of_getElem? (i := 482) (by decide +kernel)⟩
theorem lw_p3 : lw_okq (⟨"IceType$LawReader", "readNumber", "()V"⟩, 3) := ⟨⟨by decide +kernel, by decide +kernel⟩, List.mem_of_getElem? (i := 234) (by decide +kernel), List.mem_of_getElem? (i := 494) (by decide +kernel), List.mem_of_getElem? (i := 495) (by decide +kernel)⟩
theorem lw_p4 : lw_okq (⟨"IceType$LawReader", "readOpened", "(ILjava/lang/String;I)Z"⟩, 3) := ⟨⟨by decide +kernel, by decide +kernel⟩, List.mem_of_getElem? (i := 234) (by decide +kernel), List.mem_of_getElem? (i := 499) (by decide +kernel), List.mem_of_getElem? (i := 500) (by decide +kernel)⟩
theorem lw_p5 : lw_okq (⟨"IceType$LawReader", "isJoining", "(II)Z"⟩, 3) := ⟨⟨by decide +kernel, by decide +kernel⟩, List.mem_of_getElem? (i := 234) (by decide +kernel), List.mem_of_getElem? (i := 585) (by decide +kernel), List.mem_of_getElem? (i := 586) (by decide +kernel)⟩
theorem lw_p6 : lw_okq (⟨"IceType$Shop", "timesUpTo", "(I)I"⟩, 15) := ⟨⟨by decide +kernel, by decide +kernel⟩, List.mem_of_getElem? (i := 28) (by decide +kernel), List.mem_of_getElem? (i := 628) (by decide +kernel), List.mem_of_getElem? (i := 629) (by decide +kernel)⟩
theorem lw_p7 : lw_okq (⟨"IceType$Rows", "clearInTurn", "(III)I"⟩, 6) := ⟨⟨by decide +kernel, by decide +kernel⟩, List.mem_of_getElem? (i := 205) (by decide +kernel), List.mem_of_getElem? (i := 738) (by decide +kernel), List.mem_of_getElem? (i := 739) (by decide +kernel)⟩
theorem lw_p8 : lw_okq (⟨"IceType$Rows", "clearOfRow", "(II)I"⟩, 6) := ⟨⟨by decide +kernel, by decide +kernel⟩, List.mem_of_getElem? (i := 205) (by decide +kernel), List.mem_of_getElem? (i := 753) (by decide +kernel), List.mem_of_getElem? (i := 754) (by decide +kernel)⟩
theorem lw_p9 : lw_okq (⟨"IceType$Voices", "speak", "(IIII)I"⟩, 5) := ⟨⟨by decide +kernel, by decide +kernel⟩, List.mem_of_getElem? (i := 253) (by decide +kernel), List.mem_of_getElem? (i := 807) (by decide +kernel), List.mem_of_getElem? (i := 808) (by decide +kernel)⟩
theorem lw_p10 : lw_okq (⟨"IceType$Voices", "part", "(I)I"⟩, 5) := ⟨⟨by decide +kernel, by decide +kernel⟩, List.mem_of_getElem? (i := 253) (by decide +kernel), List.mem_of_getElem? (i := 820) (by decide +kernel), List.mem_of_getElem? (i := 821) (by decide +kernel)⟩
theorem lw_p11 : lw_okq (⟨"IceType$Voices", "castThinly", "(III)I"⟩, 5) := ⟨⟨by decide +kernel, by decide +kernel⟩, List.mem_of_getElem? (i := 253) (by decide +kernel), List.mem_of_getElem? (i := 825) (by decide +kernel), List.mem_of_getElem? (i := 826) (by decide +kernel)⟩
theorem lw_p12 : lw_okq (⟨"IceTypeModel", "whyNotCast", "(III)I"⟩, 26) := ⟨⟨by decide +kernel, by decide +kernel⟩, List.mem_of_getElem? (i := 922) (by decide +kernel), List.mem_of_getElem? (i := 1011) (by decide +kernel), List.mem_of_getElem? (i := 1012) (by decide +kernel)⟩
theorem lw_p13 : lw_okq (⟨"IceTypeModel", "error", "(I)I"⟩, 26) := ⟨⟨by decide +kernel, by decide +kernel⟩, List.mem_of_getElem? (i := 922) (by decide +kernel), List.mem_of_getElem? (i := 1018) (by decide +kernel), List.mem_of_getElem? (i := 1019) (by decide +kernel)⟩
theorem lw_p14 : lw_okq (⟨"IceTypeModel", "casts1", "(III)I"⟩, 26) := ⟨⟨by decide +kernel, by decide +kernel⟩, List.mem_of_getElem? (i := 922) (by decide +kernel), List.mem_of_getElem? (i := 1023) (by decide +kernel), List.mem_of_getElem? (i := 1024) (by decide +kernel)⟩
theorem lw_p15 : lw_okq (⟨"IceTypeModel", "lays1", "(III)V"⟩, 26) := ⟨⟨by decide +kernel, by decide +kernel⟩, List.mem_of_getElem? (i := 922) (by decide +kernel), List.mem_of_getElem? (i := 1027) (by decide +kernel), List.mem_of_getElem? (i := 1028) (by decide +kernel)⟩
def lw_privs_1 : List (MethodName × Nat) := [(⟨"IceType", "refuse", "(I)I"⟩, 9), (⟨"IceType$LawReader", "readLevel", "(ILjava/lang/String;I)Z"⟩, 3), (⟨"IceType$LawReader", "readPart", "(Ljava/lang/String;I)Z"⟩, 3), (⟨"IceType$LawReader", "readNumber", "()V"⟩, 3), (⟨"IceType$LawReader", "readOpened", "(ILjava/lang/String;I)Z"⟩, 3), (⟨"IceType$LawReader", "isJoining", "(II)Z"⟩, 3), (⟨"IceType$Shop", "timesUpTo", "(I)I"⟩, 15), (⟨"IceType$Rows", "clearInTurn", "(III)I"⟩, 6), (⟨"IceType$Rows", "clearOfRow", "(II)I"⟩, 6), (⟨"IceType$Voices", "speak", "(IIII)I"⟩, 5), (⟨"IceType$Voices", "part", "(I)I"⟩, 5), (⟨"IceType$Voices", "castThinly", "(III)I"⟩, 5), (⟨"IceTypeModel", "whyNotCast", "(III)I"⟩, 26), (⟨"IceTypeModel", "error", "(I)I"⟩, 26), (⟨"IceTypeModel", "casts1", "(III)I"⟩, 26), (⟨"IceTypeModel", "lays1", "(III)V"⟩, 26)]
theorem lw_r1 : ∀ q ∈ lw_privs_1, lw_okq q := List.forall_mem_cons.mpr ⟨lw_p0, List.forall_mem_cons.mpr ⟨lw_p1, List.forall_mem_cons.mpr ⟨lw_p2, List.forall_mem_cons.mpr ⟨lw_p3, List.forall_mem_cons.mpr ⟨lw_p4, List.forall_mem_cons.mpr ⟨lw_p5, List.forall_mem_cons.mpr ⟨lw_p6, List.forall_mem_cons.mpr ⟨lw_p7, List.forall_mem_cons.mpr ⟨lw_p8, List.forall_mem_cons.mpr ⟨lw_p9, List.forall_mem_cons.mpr ⟨lw_p10, List.forall_mem_cons.mpr ⟨lw_p11, List.forall_mem_cons.mpr ⟨lw_p12, List.forall_mem_cons.mpr ⟨lw_p13, List.forall_mem_cons.mpr ⟨lw_p14, List.forall_mem_cons.mpr ⟨lw_p15, fun _ h => absurd h List.not_mem_nil⟩⟩⟩⟩⟩⟩⟩⟩⟩⟩⟩⟩⟩⟩⟩⟩
theorem lw_p16 : lw_okq (⟨"IceTypeModel", "whole", "()Z"⟩, 26) := ⟨⟨by decide +kernel, by decide +kernel⟩, List.mem_of_getElem? (i := 922) (by decide +kernel), List.mem_of_getElem? (i := 1043) (by decide +kernel), List.mem_of_getElem? (i := 1044) (by decide +kernel)⟩
theorem lw_p17 : lw_okq (⟨"IceTypeModel", "both", "()Z"⟩, 26) := ⟨⟨by decide +kernel, by decide +kernel⟩, List.mem_of_getElem? (i := 922) (by decide +kernel), List.mem_of_getElem? (i := 1047) (by decide +kernel), List.mem_of_getElem? (i := 1048) (by decide +kernel)⟩
theorem lw_p18 : lw_okq (⟨"IceTypeModel", "compared", "()Z"⟩, 26) := ⟨⟨by decide +kernel, by decide +kernel⟩, List.mem_of_getElem? (i := 922) (by decide +kernel), List.mem_of_getElem? (i := 1051) (by decide +kernel), List.mem_of_getElem? (i := 1052) (by decide +kernel)⟩
theorem lw_p19 : lw_okq (⟨"IceTypeModel", "sum", "()Z"⟩, 26) := ⟨⟨by decide +kernel, by decide +kernel⟩, List.mem_of_getElem? (i := 922) (by decide +kernel), List.mem_of_getElem? (i := 1055) (by decide +kernel), List.mem_of_getElem? (i := 1056) (by decide +kernel)⟩
theorem lw_p20 : lw_okq (⟨"IceTypeModel", "product", "()Z"⟩, 26) := ⟨⟨by decide +kernel, by decide +kernel⟩, List.mem_of_getElem? (i := 922) (by decide +kernel), List.mem_of_getElem? (i := 1059) (by decide +kernel), List.mem_of_getElem? (i := 1060) (by decide +kernel)⟩
theorem lw_p21 : lw_okq (⟨"IceTypeModel", "one", "()Z"⟩, 26) := ⟨⟨by decide +kernel, by decide +kernel⟩, List.mem_of_getElem? (i := 922) (by decide +kernel), List.mem_of_getElem? (i := 1063) (by decide +kernel), List.mem_of_getElem? (i := 1064) (by decide +kernel)⟩
theorem lw_p22 : lw_okq (⟨"IceTypeModel", "look", "()I"⟩, 26) := ⟨⟨by decide +kernel, by decide +kernel⟩, List.mem_of_getElem? (i := 922) (by decide +kernel), List.mem_of_getElem? (i := 1067) (by decide +kernel), List.mem_of_getElem? (i := 1068) (by decide +kernel)⟩
theorem lw_p23 : lw_okq (⟨"IceTypeModel", "isName", "(I)Z"⟩, 26) := ⟨⟨by decide +kernel, by decide +kernel⟩, List.mem_of_getElem? (i := 922) (by decide +kernel), List.mem_of_getElem? (i := 1071) (by decide +kernel), List.mem_of_getElem? (i := 1072) (by decide +kernel)⟩
theorem lw_p24 : lw_okq (⟨"IceTypeModel", "lays", "(II)V"⟩, 26) := ⟨⟨by decide +kernel, by decide +kernel⟩, List.mem_of_getElem? (i := 922) (by decide +kernel), List.mem_of_getElem? (i := 1075) (by decide +kernel), List.mem_of_getElem? (i := 1076) (by decide +kernel)⟩
theorem lw_p25 : lw_okq (⟨"IceTypeModel", "opens", "()Z"⟩, 26) := ⟨⟨by decide +kernel, by decide +kernel⟩, List.mem_of_getElem? (i := 922) (by decide +kernel), List.mem_of_getElem? (i := 1079) (by decide +kernel), List.mem_of_getElem? (i := 1080) (by decide +kernel)⟩
theorem lw_p26 : lw_okq (⟨"IceTypeModel", "hasText", "(I)Z"⟩, 26) := ⟨⟨by decide +kernel, by decide +kernel⟩, List.mem_of_getElem? (i := 922) (by decide +kernel), List.mem_of_getElem? (i := 1087) (by decide +kernel), List.mem_of_getElem? (i := 1088) (by decide +kernel)⟩
theorem lw_p27 : lw_okq (⟨"IceTypeModel", "isLetter", "(I)Z"⟩, 26) := ⟨⟨by decide +kernel, by decide +kernel⟩, List.mem_of_getElem? (i := 922) (by decide +kernel), List.mem_of_getElem? (i := 1095) (by decide +kernel), List.mem_of_getElem? (i := 1096) (by decide +kernel)⟩
theorem lw_p28 : lw_okq (⟨"IceTypeModel", "toldLetter", "(II)I"⟩, 26) := ⟨⟨by decide +kernel, by decide +kernel⟩, List.mem_of_getElem? (i := 922) (by decide +kernel), List.mem_of_getElem? (i := 1099) (by decide +kernel), List.mem_of_getElem? (i := 1100) (by decide +kernel)⟩
theorem lw_p29 : lw_okq (⟨"IceTypeModel", "melts", "(I)I"⟩, 26) := ⟨⟨by decide +kernel, by decide +kernel⟩, List.mem_of_getElem? (i := 922) (by decide +kernel), List.mem_of_getElem? (i := 1103) (by decide +kernel), List.mem_of_getElem? (i := 1104) (by decide +kernel)⟩
theorem lw_p30 : lw_okq (⟨"IceTypeModel", "its", "(II)I"⟩, 26) := ⟨⟨by decide +kernel, by decide +kernel⟩, List.mem_of_getElem? (i := 922) (by decide +kernel), List.mem_of_getElem? (i := 1107) (by decide +kernel), List.mem_of_getElem? (i := 1108) (by decide +kernel)⟩
theorem lw_p31 : lw_okq (⟨"IceTypeModel", "cold", "(I)I"⟩, 26) := ⟨⟨by decide +kernel, by decide +kernel⟩, List.mem_of_getElem? (i := 922) (by decide +kernel), List.mem_of_getElem? (i := 1111) (by decide +kernel), List.mem_of_getElem? (i := 1112) (by decide +kernel)⟩
def lw_privs_2 : List (MethodName × Nat) := [(⟨"IceTypeModel", "whole", "()Z"⟩, 26), (⟨"IceTypeModel", "both", "()Z"⟩, 26), (⟨"IceTypeModel", "compared", "()Z"⟩, 26), (⟨"IceTypeModel", "sum", "()Z"⟩, 26), (⟨"IceTypeModel", "product", "()Z"⟩, 26), (⟨"IceTypeModel", "one", "()Z"⟩, 26), (⟨"IceTypeModel", "look", "()I"⟩, 26), (⟨"IceTypeModel", "isName", "(I)Z"⟩, 26), (⟨"IceTypeModel", "lays", "(II)V"⟩, 26), (⟨"IceTypeModel", "opens", "()Z"⟩, 26), (⟨"IceTypeModel", "hasText", "(I)Z"⟩, 26), (⟨"IceTypeModel", "isLetter", "(I)Z"⟩, 26), (⟨"IceTypeModel", "toldLetter", "(II)I"⟩, 26), (⟨"IceTypeModel", "melts", "(I)I"⟩, 26), (⟨"IceTypeModel", "its", "(II)I"⟩, 26), (⟨"IceTypeModel", "cold", "(I)I"⟩, 26)]
theorem lw_r2 : ∀ q ∈ lw_privs_2, lw_okq q := List.forall_mem_cons.mpr ⟨lw_p16, List.forall_mem_cons.mpr ⟨lw_p17, List.forall_mem_cons.mpr ⟨lw_p18, List.forall_mem_cons.mpr ⟨lw_p19, List.forall_mem_cons.mpr ⟨lw_p20, List.forall_mem_cons.mpr ⟨lw_p21, List.forall_mem_cons.mpr ⟨lw_p22, List.forall_mem_cons.mpr ⟨lw_p23, List.forall_mem_cons.mpr ⟨lw_p24, List.forall_mem_cons.mpr ⟨lw_p25, List.forall_mem_cons.mpr ⟨lw_p26, List.forall_mem_cons.mpr ⟨lw_p27, List.forall_mem_cons.mpr ⟨lw_p28, List.forall_mem_cons.mpr ⟨lw_p29, List.forall_mem_cons.mpr ⟨lw_p30, List.forall_mem_cons.mpr ⟨lw_p31, fun _ h => absurd h List.not_mem_nil⟩⟩⟩⟩⟩⟩⟩⟩⟩⟩⟩⟩⟩⟩⟩⟩
theorem lw_p32 : lw_okq (⟨"IceTypeModel", "dripsTold", "(I)I"⟩, 26) := ⟨⟨by decide +kernel, by decide +kernel⟩, List.mem_of_getElem? (i := 922) (by decide +kernel), List.mem_of_getElem? (i := 1115) (by decide +kernel), List.mem_of_getElem? (i := 1116) (by decide +kernel)⟩
theorem lw_p33 : lw_okq (⟨"IceTypeModel", "worked", "(I)I"⟩, 26) := ⟨⟨by decide +kernel, by decide +kernel⟩, List.mem_of_getElem? (i := 922) (by decide +kernel), List.mem_of_getElem? (i := 1119) (by decide +kernel), List.mem_of_getElem? (i := 1120) (by decide +kernel)⟩
theorem lw_p34 : lw_okq (⟨"IceTypeModel", "read", "(I)I"⟩, 26) := ⟨⟨by decide +kernel, by decide +kernel⟩, List.mem_of_getElem? (i := 922) (by decide +kernel), List.mem_of_getElem? (i := 1126) (by decide +kernel), List.mem_of_getElem? (i := 1127) (by decide +kernel)⟩
theorem lw_p35 : lw_okq (⟨"IceTypeModel", "sees", "(I)I"⟩, 26) := ⟨⟨by decide +kernel, by decide +kernel⟩, List.mem_of_getElem? (i := 922) (by decide +kernel), List.mem_of_getElem? (i := 1130) (by decide +kernel), List.mem_of_getElem? (i := 1131) (by decide +kernel)⟩
theorem lw_p36 : lw_okq (⟨"IceTypeModel", "of", "(II)I"⟩, 26) := ⟨⟨by decide +kernel, by decide +kernel⟩, List.mem_of_getElem? (i := 922) (by decide +kernel), List.mem_of_getElem? (i := 1134) (by decide +kernel), List.mem_of_getElem? (i := 1135) (by decide +kernel)⟩
theorem lw_p37 : lw_okq (⟨"IceTypeModel", "drips", "(I)V"⟩, 26) := ⟨⟨by decide +kernel, by decide +kernel⟩, List.mem_of_getElem? (i := 922) (by decide +kernel), List.mem_of_getElem? (i := 1153) (by decide +kernel), List.mem_of_getElem? (i := 1154) (by decide +kernel)⟩
theorem lw_p38 : lw_okq (⟨"IceTypeModel", "caseOf", "(I)I"⟩, 26) := ⟨⟨by decide +kernel, by decide +kernel⟩, List.mem_of_getElem? (i := 922) (by decide +kernel), List.mem_of_getElem? (i := 1177) (by decide +kernel), List.mem_of_getElem? (i := 1178) (by decide +kernel)⟩
theorem lw_p39 : lw_okq (⟨"IceTypeModel", "seen", "(I)I"⟩, 26) := ⟨⟨by decide +kernel, by decide +kernel⟩, List.mem_of_getElem? (i := 922) (by decide +kernel), List.mem_of_getElem? (i := 1196) (by decide +kernel), List.mem_of_getElem? (i := 1197) (by decide +kernel)⟩
theorem lw_p40 : lw_okq (⟨"IceTypeModel", "sheet1", "(I)I"⟩, 26) := ⟨⟨by decide +kernel, by decide +kernel⟩, List.mem_of_getElem? (i := 922) (by decide +kernel), List.mem_of_getElem? (i := 1204) (by decide +kernel), List.mem_of_getElem? (i := 1205) (by decide +kernel)⟩
theorem lw_p41 : lw_okq (⟨"IceTypeModel", "meltsAll", "(II)V"⟩, 26) := ⟨⟨by decide +kernel, by decide +kernel⟩, List.mem_of_getElem? (i := 922) (by decide +kernel), List.mem_of_getElem? (i := 1208) (by decide +kernel), List.mem_of_getElem? (i := 1209) (by decide +kernel)⟩
theorem lw_p42 : lw_okq (⟨"IceTypeModel", "runOf", "(II)I"⟩, 26) := ⟨⟨by decide +kernel, by decide +kernel⟩, List.mem_of_getElem? (i := 922) (by decide +kernel), List.mem_of_getElem? (i := 1219) (by decide +kernel), List.mem_of_getElem? (i := 1220) (by decide +kernel)⟩
theorem lw_p43 : lw_okq (⟨"IceTypeModel", "tries", "(II)V"⟩, 26) := ⟨⟨by decide +kernel, by decide +kernel⟩, List.mem_of_getElem? (i := 922) (by decide +kernel), List.mem_of_getElem? (i := 1238) (by decide +kernel), List.mem_of_getElem? (i := 1239) (by decide +kernel)⟩
theorem lw_p44 : lw_okq (⟨"IceTypeModel", "clearBy", "(I)I"⟩, 26) := ⟨⟨by decide +kernel, by decide +kernel⟩, List.mem_of_getElem? (i := 922) (by decide +kernel), List.mem_of_getElem? (i := 1242) (by decide +kernel), List.mem_of_getElem? (i := 1243) (by decide +kernel)⟩
theorem lw_p45 : lw_okq (⟨"IceTypeModel", "runIn", "(III)I"⟩, 26) := ⟨⟨by decide +kernel, by decide +kernel⟩, List.mem_of_getElem? (i := 922) (by decide +kernel), List.mem_of_getElem? (i := 1250) (by decide +kernel), List.mem_of_getElem? (i := 1251) (by decide +kernel)⟩
theorem lw_p46 : lw_okq (⟨"IceTypeModel", "lasts", "(III)Z"⟩, 26) := ⟨⟨by decide +kernel, by decide +kernel⟩, List.mem_of_getElem? (i := 922) (by decide +kernel), List.mem_of_getElem? (i := 1258) (by decide +kernel), List.mem_of_getElem? (i := 1259) (by decide +kernel)⟩
theorem lw_p47 : lw_okq (⟨"IceTypeModel", "maySay", "(II)Z"⟩, 26) := ⟨⟨by decide +kernel, by decide +kernel⟩, List.mem_of_getElem? (i := 922) (by decide +kernel), List.mem_of_getElem? (i := 1266) (by decide +kernel), List.mem_of_getElem? (i := 1267) (by decide +kernel)⟩
def lw_privs_3 : List (MethodName × Nat) := [(⟨"IceTypeModel", "dripsTold", "(I)I"⟩, 26), (⟨"IceTypeModel", "worked", "(I)I"⟩, 26), (⟨"IceTypeModel", "read", "(I)I"⟩, 26), (⟨"IceTypeModel", "sees", "(I)I"⟩, 26), (⟨"IceTypeModel", "of", "(II)I"⟩, 26), (⟨"IceTypeModel", "drips", "(I)V"⟩, 26), (⟨"IceTypeModel", "caseOf", "(I)I"⟩, 26), (⟨"IceTypeModel", "seen", "(I)I"⟩, 26), (⟨"IceTypeModel", "sheet1", "(I)I"⟩, 26), (⟨"IceTypeModel", "meltsAll", "(II)V"⟩, 26), (⟨"IceTypeModel", "runOf", "(II)I"⟩, 26), (⟨"IceTypeModel", "tries", "(II)V"⟩, 26), (⟨"IceTypeModel", "clearBy", "(I)I"⟩, 26), (⟨"IceTypeModel", "runIn", "(III)I"⟩, 26), (⟨"IceTypeModel", "lasts", "(III)Z"⟩, 26), (⟨"IceTypeModel", "maySay", "(II)Z"⟩, 26)]
theorem lw_r3 : ∀ q ∈ lw_privs_3, lw_okq q := List.forall_mem_cons.mpr ⟨lw_p32, List.forall_mem_cons.mpr ⟨lw_p33, List.forall_mem_cons.mpr ⟨lw_p34, List.forall_mem_cons.mpr ⟨lw_p35, List.forall_mem_cons.mpr ⟨lw_p36, List.forall_mem_cons.mpr ⟨lw_p37, List.forall_mem_cons.mpr ⟨lw_p38, List.forall_mem_cons.mpr ⟨lw_p39, List.forall_mem_cons.mpr ⟨lw_p40, List.forall_mem_cons.mpr ⟨lw_p41, List.forall_mem_cons.mpr ⟨lw_p42, List.forall_mem_cons.mpr ⟨lw_p43, List.forall_mem_cons.mpr ⟨lw_p44, List.forall_mem_cons.mpr ⟨lw_p45, List.forall_mem_cons.mpr ⟨lw_p46, List.forall_mem_cons.mpr ⟨lw_p47, fun _ h => absurd h List.not_mem_nil⟩⟩⟩⟩⟩⟩⟩⟩⟩⟩⟩⟩⟩⟩⟩⟩
theorem lw_p48 : lw_okq (⟨"IceTypeModel", "day", "()I"⟩, 26) := ⟨⟨by decide +kernel, by decide +kernel⟩, List.mem_of_getElem? (i := 922) (by decide +kernel), List.mem_of_getElem? (i := 1278) (by decide +kernel), List.mem_of_getElem? (i := 1279) (by decide +kernel)⟩
theorem lw_p49 : lw_okq (⟨"IceTypeModel", "draw", "()I"⟩, 26) := ⟨⟨by decide +kernel, by decide +kernel⟩, List.mem_of_getElem? (i := 922) (by decide +kernel), List.mem_of_getElem? (i := 1282) (by decide +kernel), List.mem_of_getElem? (i := 1283) (by decide +kernel)⟩
theorem lw_p50 : lw_okq (⟨"IceTypeModel", "kindNow", "()I"⟩, 26) := ⟨⟨by decide +kernel, by decide +kernel⟩, List.mem_of_getElem? (i := 922) (by decide +kernel), List.mem_of_getElem? (i := 1295) (by decide +kernel), List.mem_of_getElem? (i := 1296) (by decide +kernel)⟩
theorem lw_p51 : lw_okq (⟨"IceTypeModel", "meltsBy", "(II)I"⟩, 26) := ⟨⟨by decide +kernel, by decide +kernel⟩, List.mem_of_getElem? (i := 922) (by decide +kernel), List.mem_of_getElem? (i := 1299) (by decide +kernel), List.mem_of_getElem? (i := 1300) (by decide +kernel)⟩
theorem lw_p52 : lw_okq (⟨"IceTypeModel", "begins", "(I)V"⟩, 26) := ⟨⟨by decide +kernel, by decide +kernel⟩, List.mem_of_getElem? (i := 922) (by decide +kernel), List.mem_of_getElem? (i := 1303) (by decide +kernel), List.mem_of_getElem? (i := 1304) (by decide +kernel)⟩
theorem lw_p53 : lw_okq (⟨"IceTypeModel", "readsBy", "(II)I"⟩, 26) := ⟨⟨by decide +kernel, by decide +kernel⟩, List.mem_of_getElem? (i := 922) (by decide +kernel), List.mem_of_getElem? (i := 1310) (by decide +kernel), List.mem_of_getElem? (i := 1311) (by decide +kernel)⟩
theorem lw_p54 : lw_okq (⟨"IceTypeModel", "mNow", "()I"⟩, 26) := ⟨⟨by decide +kernel, by decide +kernel⟩, List.mem_of_getElem? (i := 922) (by decide +kernel), List.mem_of_getElem? (i := 1314) (by decide +kernel), List.mem_of_getElem? (i := 1315) (by decide +kernel)⟩
theorem lw_p55 : lw_okq (⟨"IceTypeModel", "dripsBy", "(II)I"⟩, 26) := ⟨⟨by decide +kernel, by decide +kernel⟩, List.mem_of_getElem? (i := 922) (by decide +kernel), List.mem_of_getElem? (i := 1318) (by decide +kernel), List.mem_of_getElem? (i := 1319) (by decide +kernel)⟩
theorem lw_p56 : lw_okq (⟨"IceTypeModel", "castsBy", "(II)I"⟩, 26) := ⟨⟨by decide +kernel, by decide +kernel⟩, List.mem_of_getElem? (i := 922) (by decide +kernel), List.mem_of_getElem? (i := 1322) (by decide +kernel), List.mem_of_getElem? (i := 1323) (by decide +kernel)⟩
theorem lw_p57 : lw_okq (⟨"IceTypeModel", "lacks", "(I)I"⟩, 26) := ⟨⟨by decide +kernel, by decide +kernel⟩, List.mem_of_getElem? (i := 922) (by decide +kernel), List.mem_of_getElem? (i := 1349) (by decide +kernel), List.mem_of_getElem? (i := 1350) (by decide +kernel)⟩
theorem lw_p58 : lw_okq (⟨"IceTypeModel", "allIce", "()I"⟩, 26) := ⟨⟨by decide +kernel, by decide +kernel⟩, List.mem_of_getElem? (i := 922) (by decide +kernel), List.mem_of_getElem? (i := 1377) (by decide +kernel), List.mem_of_getElem? (i := 1378) (by decide +kernel)⟩
def lw_privs_4 : List (MethodName × Nat) := [(⟨"IceTypeModel", "day", "()I"⟩, 26), (⟨"IceTypeModel", "draw", "()I"⟩, 26), (⟨"IceTypeModel", "kindNow", "()I"⟩, 26), (⟨"IceTypeModel", "meltsBy", "(II)I"⟩, 26), (⟨"IceTypeModel", "begins", "(I)V"⟩, 26), (⟨"IceTypeModel", "readsBy", "(II)I"⟩, 26), (⟨"IceTypeModel", "mNow", "()I"⟩, 26), (⟨"IceTypeModel", "dripsBy", "(II)I"⟩, 26), (⟨"IceTypeModel", "castsBy", "(II)I"⟩, 26), (⟨"IceTypeModel", "lacks", "(I)I"⟩, 26), (⟨"IceTypeModel", "allIce", "()I"⟩, 26)]
theorem lw_r4 : ∀ q ∈ lw_privs_4, lw_okq q := List.forall_mem_cons.mpr ⟨lw_p48, List.forall_mem_cons.mpr ⟨lw_p49, List.forall_mem_cons.mpr ⟨lw_p50, List.forall_mem_cons.mpr ⟨lw_p51, List.forall_mem_cons.mpr ⟨lw_p52, List.forall_mem_cons.mpr ⟨lw_p53, List.forall_mem_cons.mpr ⟨lw_p54, List.forall_mem_cons.mpr ⟨lw_p55, List.forall_mem_cons.mpr ⟨lw_p56, List.forall_mem_cons.mpr ⟨lw_p57, List.forall_mem_cons.mpr ⟨lw_p58, fun _ h => absurd h List.not_mem_nil⟩⟩⟩⟩⟩⟩⟩⟩⟩⟩⟩
def lw_privs : List (MethodName × Nat) := lw_privs_1 ++ (lw_privs_2 ++ (lw_privs_3 ++ (lw_privs_4)))
def lw_tbl : List Cond := k2_sels lw_privs ++ tables_1
theorem lw_privs_ok : ∀ q ∈ lw_privs, lw_okq q := by
  show ∀ q ∈ lw_privs_1 ++ (lw_privs_2 ++ (lw_privs_3 ++ (lw_privs_4))), lw_okq q
  exact List.forall_mem_append.mpr ⟨lw_r1, List.forall_mem_append.mpr ⟨lw_r2, List.forall_mem_append.mpr ⟨lw_r3, lw_r4⟩⟩⟩
-- ===== end of PART A; then your names; then what follows =====
end
section
def RX0 : String := "IceType$Ahead"
def TX0 : u_T := fun k => match k with
  | 0 => ("IceType$Ahead", "shop", "LIceType$Shop;", true)
  | 1 => ("IceType$Ahead", "letters", "[LIceType$Letter;", true)
  | 2 => ("IceType$Ahead", "length", "I", false)
  | _ => ("IceType$Ahead", "sheets", "I", false)
def tyX0 : Nat → FieldType := fun k => match k with
  | 0 => .object "IceType$Shop"
  | 1 => .array (.object "IceType$Letter")
  | 2 => .int
  | _ => .int
abbrev wsX00 : List Cond := u_ws RX0 TX0 4
theorem nmX0 : ∀ a, a < 4 → ∀ b, b < 4 → a ≠ b → (TX0 a).2.1 ≠ (TX0 b).2.1 := by decide +kernel
theorem tyX0_ok : ∀ k, k < 4 → parseFieldDescriptor (TX0 k).2.2.1 = some (tyX0 k) := by decide +kernel
abbrev cX0_init : ByteArray := prog_2_method_1_code
def yX0_init : MethodName := ⟨RX0, "<init>", "(LIceType$Shop;)V"⟩
abbrev cX0_startPage : ByteArray := prog_2_method_2_code
def yX0_startPage : MethodName := ⟨RX0, "startPage", "(I)V"⟩
abbrev cX0_startLetter : ByteArray := prog_2_method_3_code
def yX0_startLetter : MethodName := ⟨RX0, "startLetter", "(LIceType$Letter;)V"⟩
abbrev cX0_bringTo : ByteArray := prog_2_method_4_code
def yX0_bringTo : MethodName := ⟨RX0, "bringTo", "(I)V"⟩
abbrev cX0_seen : ByteArray := prog_2_method_5_code
def yX0_seen : MethodName := ⟨RX0, "seen", "()I"⟩
abbrev cX0_passSheet : ByteArray := prog_2_method_6_code
def yX0_passSheet : MethodName := ⟨RX0, "passSheet", "()V"⟩
abbrev cX0_waitSheet : ByteArray := prog_2_method_7_code
def yX0_waitSheet : MethodName := ⟨RX0, "waitSheet", "()V"⟩
abbrev cX0_clearInARun : ByteArray := prog_2_method_8_code
def yX0_clearInARun : MethodName := ⟨RX0, "clearInARun", "(I)I"⟩
def RX1 : String := "IceType$Law"
def TX1 : u_T := fun k => match k with
  | 0 => ("IceType$Law", "codes", "LIceType$Row;", true)
  | 1 => ("IceType$Law", "names", "[I", true)
  | _ => ("IceType$Law", "values", "[I", true)
def tyX1 : Nat → FieldType := fun k => match k with
  | 0 => .object "IceType$Row"
  | 1 => .array .int
  | _ => .array .int
abbrev wsX10 : List Cond := u_ws RX1 TX1 3
theorem nmX1 : ∀ a, a < 3 → ∀ b, b < 3 → a ≠ b → (TX1 a).2.1 ≠ (TX1 b).2.1 := by decide +kernel
theorem tyX1_ok : ∀ k, k < 3 → parseFieldDescriptor (TX1 k).2.2.1 = some (tyX1 k) := by decide +kernel
abbrev cX1_init : ByteArray := prog_3_method_1_code
def yX1_init : MethodName := ⟨RX1, "<init>", "()V"⟩
abbrev cX1_isTold : ByteArray := prog_3_method_2_code
def yX1_isTold : MethodName := ⟨RX1, "isTold", "()Z"⟩
abbrev cX1_workOut : ByteArray := prog_3_method_3_code
def yX1_workOut : MethodName := ⟨RX1, "workOut", "(IIII)I"⟩
abbrev cX1_join : ByteArray := prog_3_method_4_code
def yX1_join : MethodName := ⟨RX1, "join", "(III)I"⟩
def RX2 : String := "IceType$LawReader"
def TX2 : u_T := fun k => match k with
  | 0 => ("IceType$LawReader", "tape", "LIceType$Row;", true)
  | 1 => ("IceType$LawReader", "codes", "LIceType$Row;", true)
  | _ => ("IceType$LawReader", "at", "I", false)
def tyX2 : Nat → FieldType := fun k => match k with
  | 0 => .object "IceType$Row"
  | 1 => .object "IceType$Row"
  | _ => .int
abbrev wsX20 : List Cond := u_ws RX2 TX2 3
theorem nmX2 : ∀ a, a < 3 → ∀ b, b < 3 → a ≠ b → (TX2 a).2.1 ≠ (TX2 b).2.1 := by decide +kernel
theorem tyX2_ok : ∀ k, k < 3 → parseFieldDescriptor (TX2 k).2.2.1 = some (tyX2 k) := by decide +kernel
abbrev cX2_init : ByteArray := prog_4_method_1_code
def yX2_init : MethodName := ⟨RX2, "<init>", "(LIceType$Row;)V"⟩
abbrev cX2_faultOfTape : ByteArray := prog_4_method_2_code
def yX2_faultOfTape : MethodName := ⟨RX2, "faultOfTape", "(Ljava/lang/String;)I"⟩
abbrev cX2_readLevel : ByteArray := prog_4_method_3_code
def yX2_readLevel : MethodName := ⟨RX2, "readLevel", "(ILjava/lang/String;I)Z"⟩
abbrev cX2_isJoining : ByteArray := prog_4_method_4_code
def yX2_isJoining : MethodName := ⟨RX2, "isJoining", "(II)Z"⟩
abbrev cX2_readPart : ByteArray := prog_4_method_5_code
def yX2_readPart : MethodName := ⟨RX2, "readPart", "(Ljava/lang/String;I)Z"⟩
abbrev cX2_readOpened : ByteArray := prog_4_method_6_code
def yX2_readOpened : MethodName := ⟨RX2, "readOpened", "(ILjava/lang/String;I)Z"⟩
abbrev cX2_readNumber : ByteArray := prog_4_method_7_code
def yX2_readNumber : MethodName := ⟨RX2, "readNumber", "()V"⟩
abbrev cX2_isDigit : ByteArray := prog_4_method_8_code
def yX2_isDigit : MethodName := ⟨RX2, "isDigit", "(I)Z"⟩
def RX3 : String := "IceType$Letter"
def TX3 : u_T := fun k => match k with
  | 0 => ("IceType$Letter", "kind", "I", false)
  | 1 => ("IceType$Letter", "m", "I", false)
  | 2 => ("IceType$Letter", "glyph", "I", false)
  | 3 => ("IceType$Letter", "ice", "I", false)
  | 4 => ("IceType$Letter", "room", "I", false)
  | 5 => ("IceType$Letter", "page", "I", false)
  | _ => ("IceType$Letter", "age", "I", false)
def tyX3 : Nat → FieldType := fun k => match k with
  | 0 => .int
  | 1 => .int
  | 2 => .int
  | 3 => .int
  | 4 => .int
  | 5 => .int
  | _ => .int
abbrev wsX30 : List Cond := u_ws RX3 TX3 7
theorem nmX3 : ∀ a, a < 7 → ∀ b, b < 7 → a ≠ b → (TX3 a).2.1 ≠ (TX3 b).2.1 := by decide +kernel
theorem tyX3_ok : ∀ k, k < 7 → parseFieldDescriptor (TX3 k).2.2.1 = some (tyX3 k) := by decide +kernel
abbrev cX3_init : ByteArray := prog_5_method_1_code
def yX3_init : MethodName := ⟨RX3, "<init>", "()V"⟩
abbrev cX3_begin : ByteArray := prog_5_method_2_code
def yX3_begin : MethodName := ⟨RX3, "begin", "(IIII)V"⟩
abbrev cX3_takeFrom : ByteArray := prog_5_method_3_code
def yX3_takeFrom : MethodName := ⟨RX3, "takeFrom", "(LIceType$Letter;)V"⟩
abbrev cX3_isOf : ByteArray := prog_5_method_4_code
def yX3_isOf : MethodName := ⟨RX3, "isOf", "(I)Z"⟩
abbrev cX3_change : ByteArray := prog_5_method_5_code
def yX3_change : MethodName := ⟨RX3, "change", "(II)I"⟩
abbrev cX3_takeIce : ByteArray := prog_5_method_6_code
def yX3_takeIce : MethodName := ⟨RX3, "takeIce", "(I)I"⟩
abbrev cX3_grow : ByteArray := prog_5_method_7_code
def yX3_grow : MethodName := ⟨RX3, "grow", "()V"⟩
abbrev cX3_reads : ByteArray := prog_5_method_8_code
def yX3_reads : MethodName := ⟨RX3, "reads", "()I"⟩
def RX4 : String := "IceType$Plate"
def TX4 : u_T := fun k => match k with
  | 0 => ("IceType$Plate", "numbers", "LIceType$Row;", true)
  | _ => ("IceType$Plate", "bits", "I", false)
def tyX4 : Nat → FieldType := fun k => match k with
  | 0 => .object "IceType$Row"
  | _ => .int
abbrev wsX40 : List Cond := u_ws RX4 TX4 2
theorem nmX4 : ∀ a, a < 2 → ∀ b, b < 2 → a ≠ b → (TX4 a).2.1 ≠ (TX4 b).2.1 := by decide +kernel
theorem tyX4_ok : ∀ k, k < 2 → parseFieldDescriptor (TX4 k).2.2.1 = some (tyX4 k) := by decide +kernel
abbrev cX4_init : ByteArray := prog_6_method_1_code
def yX4_init : MethodName := ⟨RX4, "<init>", "()V"⟩
abbrev cX4_isMissing : ByteArray := prog_6_method_2_code
def yX4_isMissing : MethodName := ⟨RX4, "isMissing", "()Z"⟩
abbrev cX4_lowestBits : ByteArray := prog_6_method_3_code
def yX4_lowestBits : MethodName := ⟨RX4, "lowestBits", "(I)I"⟩
def RX5 : String := "IceType$Row"
def TX5 : u_T := fun k => match k with
  | 0 => ("IceType$Row", "numbers", "[I", true)
  | _ => ("IceType$Row", "length", "I", false)
def tyX5 : Nat → FieldType := fun k => match k with
  | 0 => .array .int
  | _ => .int
abbrev wsX50 : List Cond := u_ws RX5 TX5 2
theorem nmX5 : ∀ a, a < 2 → ∀ b, b < 2 → a ≠ b → (TX5 a).2.1 ≠ (TX5 b).2.1 := by decide +kernel
theorem tyX5_ok : ∀ k, k < 2 → parseFieldDescriptor (TX5 k).2.2.1 = some (tyX5 k) := by decide +kernel
abbrev cX5_init : ByteArray := prog_7_method_1_code
def yX5_init : MethodName := ⟨RX5, "<init>", "(I)V"⟩
abbrev cX5_add : ByteArray := prog_7_method_2_code
def yX5_add : MethodName := ⟨RX5, "add", "(I)Z"⟩
abbrev cX5_at : ByteArray := prog_7_method_3_code
def yX5_at : MethodName := ⟨RX5, "at", "(I)I"⟩
abbrev cX5_change : ByteArray := prog_7_method_4_code
def yX5_change : MethodName := ⟨RX5, "change", "(II)Z"⟩
abbrev cX5_clear : ByteArray := prog_7_method_5_code
def yX5_clear : MethodName := ⟨RX5, "clear", "()V"⟩
abbrev cX5_beZeros : ByteArray := prog_7_method_6_code
def yX5_beZeros : MethodName := ⟨RX5, "beZeros", "(I)V"⟩
abbrev cX5_takeFrom : ByteArray := prog_7_method_7_code
def yX5_takeFrom : MethodName := ⟨RX5, "takeFrom", "(LIceType$Row;)V"⟩
abbrev cX5_has : ByteArray := prog_7_method_8_code
def yX5_has : MethodName := ⟨RX5, "has", "(II)Z"⟩
abbrev cX5_bring : ByteArray := prog_7_method_9_code
def yX5_bring : MethodName := ⟨RX5, "bring", "(ILIceType$Row;II)Z"⟩
def RX6 : String := "IceType$Rows"
def TX6 : u_T := fun k => match k with
  | 0 => ("IceType$Rows", "shop", "LIceType$Shop;", true)
  | 1 => ("IceType$Rows", "ahead", "LIceType$Ahead;", true)
  | 2 => ("IceType$Rows", "filled", "LIceType$Row;", true)
  | 3 => ("IceType$Rows", "clearByTurn", "LIceType$Row;", true)
  | 4 => ("IceType$Rows", "best", "LIceType$Row;", true)
  | _ => ("IceType$Rows", "mostClear", "I", false)
def tyX6 : Nat → FieldType := fun k => match k with
  | 0 => .object "IceType$Shop"
  | 1 => .object "IceType$Ahead"
  | 2 => .object "IceType$Row"
  | 3 => .object "IceType$Row"
  | 4 => .object "IceType$Row"
  | _ => .int
abbrev wsX60 : List Cond := u_ws RX6 TX6 6
theorem nmX6 : ∀ a, a < 6 → ∀ b, b < 6 → a ≠ b → (TX6 a).2.1 ≠ (TX6 b).2.1 := by decide +kernel
theorem tyX6_ok : ∀ k, k < 6 → parseFieldDescriptor (TX6 k).2.2.1 = some (tyX6 k) := by decide +kernel
abbrev cX6_init : ByteArray := prog_8_method_1_code
def yX6_init : MethodName := ⟨RX6, "<init>", "(LIceType$Shop;LIceType$Ahead;)V"⟩
abbrev cX6_tryTurns : ByteArray := prog_8_method_2_code
def yX6_tryTurns : MethodName := ⟨RX6, "tryTurns", "(I)V"⟩
abbrev cX6_findBest : ByteArray := prog_8_method_3_code
def yX6_findBest : MethodName := ⟨RX6, "findBest", "()V"⟩
abbrev cX6_clearInTurn : ByteArray := prog_8_method_4_code
def yX6_clearInTurn : MethodName := ⟨RX6, "clearInTurn", "(III)I"⟩
abbrev cX6_clearOfRow : ByteArray := prog_8_method_5_code
def yX6_clearOfRow : MethodName := ⟨RX6, "clearOfRow", "(II)I"⟩
abbrev cX6_chosen : ByteArray := prog_8_method_6_code
def yX6_chosen : MethodName := ⟨RX6, "chosen", "(III)I"⟩
def RX7 : String := "IceType$Shop"
def TX7 : u_T := fun k => match k with
  | 0 => ("IceType$Shop", "cold", "[I", true)
  | 1 => ("IceType$Shop", "water", "I", false)
  | 2 => ("IceType$Shop", "salt", "I", false)
  | 3 => ("IceType$Shop", "mist", "I", false)
  | 4 => ("IceType$Shop", "z", "I", false)
  | 5 => ("IceType$Shop", "letters", "[LIceType$Letter;", true)
  | 6 => ("IceType$Shop", "letterCount", "I", false)
  | 7 => ("IceType$Shop", "pages", "[LIceType$Row;", true)
  | 8 => ("IceType$Shop", "sheets", "[I", true)
  | 9 => ("IceType$Shop", "drips", "LIceType$Law;", true)
  | 10 => ("IceType$Shop", "sees", "LIceType$Law;", true)
  | 11 => ("IceType$Shop", "words", "[LIceType$Row;", true)
  | 12 => ("IceType$Shop", "wordCount", "I", false)
  | 13 => ("IceType$Shop", "tape", "LIceType$Row;", true)
  | _ => ("IceType$Shop", "waiting", "LIceType$Row;", true)
def tyX7 : Nat → FieldType := fun k => match k with
  | 0 => .array .int
  | 1 => .int
  | 2 => .int
  | 3 => .int
  | 4 => .int
  | 5 => .array (.object "IceType$Letter")
  | 6 => .int
  | 7 => .array (.object "IceType$Row")
  | 8 => .array .int
  | 9 => .object "IceType$Law"
  | 10 => .object "IceType$Law"
  | 11 => .array (.object "IceType$Row")
  | 12 => .int
  | 13 => .object "IceType$Row"
  | _ => .object "IceType$Row"
abbrev wsX70 : List Cond := u_ws RX7 TX7 15
theorem nmX7 : ∀ a, a < 15 → ∀ b, b < 15 → a ≠ b → (TX7 a).2.1 ≠ (TX7 b).2.1 := by decide +kernel
theorem tyX7_ok : ∀ k, k < 15 → parseFieldDescriptor (TX7 k).2.2.1 = some (tyX7 k) := by decide +kernel
abbrev cX7_init : ByteArray := prog_9_method_1_code
def yX7_init : MethodName := ⟨RX7, "<init>", "()V"⟩
abbrev cX7_takeFrom : ByteArray := prog_9_method_2_code
def yX7_takeFrom : MethodName := ⟨RX7, "takeFrom", "(LIceType$Shop;)V"⟩
abbrev cX7_hasLetter : ByteArray := prog_9_method_3_code
def yX7_hasLetter : MethodName := ⟨RX7, "hasLetter", "(I)Z"⟩
abbrev cX7_lawOf : ByteArray := prog_9_method_4_code
def yX7_lawOf : MethodName := ⟨RX7, "lawOf", "(I)LIceType$Law;"⟩
abbrev cX7_castError : ByteArray := prog_9_method_5_code
def yX7_castError : MethodName := ⟨RX7, "castError", "(III)I"⟩
abbrev cX7_castLetter : ByteArray := prog_9_method_6_code
def yX7_castLetter : MethodName := ⟨RX7, "castLetter", "(III)I"⟩
abbrev cX7_factOf : ByteArray := prog_9_method_7_code
def yX7_factOf : MethodName := ⟨RX7, "factOf", "(LIceType$Letter;II)I"⟩
abbrev cX7_meltsOf : ByteArray := prog_9_method_8_code
def yX7_meltsOf : MethodName := ⟨RX7, "meltsOf", "(LIceType$Letter;)I"⟩
abbrev cX7_seesOf : ByteArray := prog_9_method_9_code
def yX7_seesOf : MethodName := ⟨RX7, "seesOf", "(LIceType$Letter;I)I"⟩
abbrev cX7_sheetsAround : ByteArray := prog_9_method_10_code
def yX7_sheetsAround : MethodName := ⟨RX7, "sheetsAround", "(LIceType$Letter;)I"⟩
abbrev cX7_dripInto : ByteArray := prog_9_method_11_code
def yX7_dripInto : MethodName := ⟨RX7, "dripInto", "(I)V"⟩
abbrev cX7_iceOfAll : ByteArray := prog_9_method_12_code
def yX7_iceOfAll : MethodName := ⟨RX7, "iceOfAll", "()I"⟩
abbrev cX7_letterIn : ByteArray := prog_9_method_13_code
def yX7_letterIn : MethodName := ⟨RX7, "letterIn", "(II)LIceType$Letter;"⟩
abbrev cX7_seenOf : ByteArray := prog_9_method_14_code
def yX7_seenOf : MethodName := ⟨RX7, "seenOf", "(I)I"⟩
abbrev cX7_pressSheet : ByteArray := prog_9_method_15_code
def yX7_pressSheet : MethodName := ⟨RX7, "pressSheet", "(I)Z"⟩
abbrev cX7_emptyPage : ByteArray := prog_9_method_16_code
def yX7_emptyPage : MethodName := ⟨RX7, "emptyPage", "(I)I"⟩
abbrev cX7_wordFault : ByteArray := prog_9_method_17_code
def yX7_wordFault : MethodName := ⟨RX7, "wordFault", "()I"⟩
abbrev cX7_mayHaveSaid : ByteArray := prog_9_method_18_code
def yX7_mayHaveSaid : MethodName := ⟨RX7, "mayHaveSaid", "(ILIceType$Row;)Z"⟩
abbrev cX7_caseOf : ByteArray := prog_9_method_19_code
def yX7_caseOf : MethodName := ⟨RX7, "caseOf", "(I)I"⟩
abbrev cX7_placeNotSet : ByteArray := prog_9_method_20_code
def yX7_placeNotSet : MethodName := ⟨RX7, "placeNotSet", "()I"⟩
abbrev cX7_timesUpTo : ByteArray := prog_9_method_21_code
def yX7_timesUpTo : MethodName := ⟨RX7, "timesUpTo", "(I)I"⟩
abbrev cX7_warmDay : ByteArray := prog_9_method_22_code
def yX7_warmDay : MethodName := ⟨RX7, "warmDay", "()I"⟩
abbrev cX7_checkWaiting : ByteArray := prog_9_method_23_code
def yX7_checkWaiting : MethodName := ⟨RX7, "checkWaiting", "(I)I"⟩
def RX8 : String := "IceType$Voices"
def TX8 : u_T := fun k => match k with
  | 0 => ("IceType$Voices", "trace", "LIceType$Row;", true)
  | 1 => ("IceType$Voices", "parted", "Z", false)
  | 2 => ("IceType$Voices", "kind", "I", false)
  | 3 => ("IceType$Voices", "m", "I", false)
  | _ => ("IceType$Voices", "k", "I", false)
def tyX8 : Nat → FieldType := fun k => match k with
  | 0 => .object "IceType$Row"
  | 1 => .boolean
  | 2 => .int
  | 3 => .int
  | _ => .int
abbrev wsX80 : List Cond := u_ws RX8 TX8 5
theorem nmX8 : ∀ a, a < 5 → ∀ b, b < 5 → a ≠ b → (TX8 a).2.1 ≠ (TX8 b).2.1 := by decide +kernel
theorem tyX8_ok : ∀ k, k < 5 → parseFieldDescriptor (TX8 k).2.2.1 = some (tyX8 k) := by decide +kernel
abbrev cX8_init : ByteArray := prog_10_method_1_code
def yX8_init : MethodName := ⟨RX8, "<init>", "()V"⟩
abbrev cX8_hear : ByteArray := prog_10_method_2_code
def yX8_hear : MethodName := ⟨RX8, "hear", "(LIceType$Letter;III)I"⟩
abbrev cX8_speak : ByteArray := prog_10_method_3_code
def yX8_speak : MethodName := ⟨RX8, "speak", "(IIII)I"⟩
abbrev cX8_castThinly : ByteArray := prog_10_method_4_code
def yX8_castThinly : MethodName := ⟨RX8, "castThinly", "(III)I"⟩
abbrev cX8_part : ByteArray := prog_10_method_5_code
def yX8_part : MethodName := ⟨RX8, "part", "(I)I"⟩
abbrev cX8_bodyFrom : ByteArray := prog_10_method_6_code
def yX8_bodyFrom : MethodName := ⟨RX8, "bodyFrom", "(II)I"⟩
def RX9 : String := "IceType"
def TX9 : u_T := fun k => match k with
  | 0 => ("IceType", "now", "LIceType$Shop;", true)
  | 1 => ("IceType", "kept", "LIceType$Shop;", true)
  | 2 => ("IceType", "imagesKept", "I", false)
  | 3 => ("IceType", "ahead", "LIceType$Ahead;", true)
  | 4 => ("IceType", "rows", "LIceType$Rows;", true)
  | 5 => ("IceType", "reader", "LIceType$LawReader;", true)
  | 6 => ("IceType", "voices", "LIceType$Voices;", true)
  | 7 => ("IceType", "plates", "[LIceType$Plate;", true)
  | _ => ("IceType", "refusals", "[I", true)
def tyX9 : Nat → FieldType := fun k => match k with
  | 0 => .object "IceType$Shop"
  | 1 => .object "IceType$Shop"
  | 2 => .int
  | 3 => .object "IceType$Ahead"
  | 4 => .object "IceType$Rows"
  | 5 => .object "IceType$LawReader"
  | 6 => .object "IceType$Voices"
  | 7 => .array (.object "IceType$Plate")
  | _ => .array .int
abbrev wsX90 : List Cond := u_ws RX9 TX9 9
theorem nmX9 : ∀ a, a < 9 → ∀ b, b < 9 → a ≠ b → (TX9 a).2.1 ≠ (TX9 b).2.1 := by decide +kernel
theorem tyX9_ok : ∀ k, k < 9 → parseFieldDescriptor (TX9 k).2.2.1 = some (tyX9 k) := by decide +kernel
abbrev cX9_init : ByteArray := prog_1_method_1_code
def yX9_init : MethodName := ⟨RX9, "<init>", "()V"⟩
abbrev cX9_cast : ByteArray := prog_1_method_2_code
def yX9_cast : MethodName := ⟨RX9, "cast", "(III)I"⟩
abbrev cX9_letterIs : ByteArray := prog_1_method_3_code
def yX9_letterIs : MethodName := ⟨RX9, "letterIs", "(II)I"⟩
abbrev cX9_as : ByteArray := prog_1_method_4_code
def yX9_as : MethodName := ⟨RX9, "as", "(II)I"⟩
abbrev cX9_set : ByteArray := prog_1_method_5_code
def yX9_set : MethodName := ⟨RX9, "set", "(III)I"⟩
abbrev cX9_melt : ByteArray := prog_1_method_6_code
def yX9_melt : MethodName := ⟨RX9, "melt", "(I)I"⟩
abbrev cX9_drink : ByteArray := prog_1_method_7_code
def yX9_drink : MethodName := ⟨RX9, "drink", "(I)I"⟩
abbrev cX9_have : ByteArray := prog_1_method_8_code
def yX9_have : MethodName := ⟨RX9, "have", "(II)I"⟩
abbrev cX9_feed : ByteArray := prog_1_method_9_code
def yX9_feed : MethodName := ⟨RX9, "feed", "(JI)I"⟩
abbrev cX9_text : ByteArray := prog_1_method_10_code
def yX9_text : MethodName := ⟨RX9, "text", "(I)I"⟩
abbrev cX9_untell : ByteArray := prog_1_method_11_code
def yX9_untell : MethodName := ⟨RX9, "untell", "(I)I"⟩
abbrev cX9_word : ByteArray := prog_1_method_12_code
def yX9_word : MethodName := ⟨RX9, "word", "()I"⟩
abbrev cX9_decree : ByteArray := prog_1_method_13_code
def yX9_decree : MethodName := ⟨RX9, "decree", "()I"⟩
abbrev cX9_lay : ByteArray := prog_1_method_14_code
def yX9_lay : MethodName := ⟨RX9, "lay", "(II)I"⟩
abbrev cX9_sort : ByteArray := prog_1_method_15_code
def yX9_sort : MethodName := ⟨RX9, "sort", "(I)I"⟩
abbrev cX9_pageIs : ByteArray := prog_1_method_16_code
def yX9_pageIs : MethodName := ⟨RX9, "pageIs", "(II)I"⟩
abbrev cX9_press : ByteArray := prog_1_method_17_code
def yX9_press : MethodName := ⟨RX9, "press", "(II)I"⟩
abbrev cX9_run : ByteArray := prog_1_method_18_code
def yX9_run : MethodName := ⟨RX9, "run", "(II)I"⟩
abbrev cX9_lost : ByteArray := prog_1_method_19_code
def yX9_lost : MethodName := ⟨RX9, "lost", "(I)I"⟩
abbrev cX9_then : ByteArray := prog_1_method_20_code
def yX9_then : MethodName := ⟨RX9, "then", "(III)I"⟩
abbrev cX9_order : ByteArray := prog_1_method_21_code
def yX9_order : MethodName := ⟨RX9, "order", "(II)I"⟩
abbrev cX9_room : ByteArray := prog_1_method_22_code
def yX9_room : MethodName := ⟨RX9, "room", "(II)I"⟩
abbrev cX9_needs : ByteArray := prog_1_method_23_code
def yX9_needs : MethodName := ⟨RX9, "needs", "(II)I"⟩
abbrev cX9_said : ByteArray := prog_1_method_24_code
def yX9_said : MethodName := ⟨RX9, "said", "(I)I"⟩
abbrev cX9_inCase : ByteArray := prog_1_method_25_code
def yX9_inCase : MethodName := ⟨RX9, "inCase", "(I)I"⟩
abbrev cX9_days : ByteArray := prog_1_method_26_code
def yX9_days : MethodName := ⟨RX9, "days", "(I)I"⟩
abbrev cX9_seed : ByteArray := prog_1_method_27_code
def yX9_seed : MethodName := ⟨RX9, "seed", "(I)I"⟩
abbrev cX9_voice : ByteArray := prog_1_method_28_code
def yX9_voice : MethodName := ⟨RX9, "voice", "(III)I"⟩
abbrev cX9_body : ByteArray := prog_1_method_29_code
def yX9_body : MethodName := ⟨RX9, "body", "(I)I"⟩
abbrev cX9_sheet : ByteArray := prog_1_method_30_code
def yX9_sheet : MethodName := ⟨RX9, "sheet", "(III)I"⟩
abbrev cX9_put : ByteArray := prog_1_method_31_code
def yX9_put : MethodName := ⟨RX9, "put", "(III)I"⟩
abbrev cX9_move : ByteArray := prog_1_method_32_code
def yX9_move : MethodName := ⟨RX9, "move", "(IIIII)I"⟩
abbrev cX9_casts : ByteArray := prog_1_method_33_code
def yX9_casts : MethodName := ⟨RX9, "casts", "(I)I"⟩
abbrev cX9_judge : ByteArray := prog_1_method_34_code
def yX9_judge : MethodName := ⟨RX9, "judge", "(II)I"⟩
abbrev cX9_image : ByteArray := prog_1_method_35_code
def yX9_image : MethodName := ⟨RX9, "image", "()I"⟩
abbrev cX9_restore : ByteArray := prog_1_method_36_code
def yX9_restore : MethodName := ⟨RX9, "restore", "()I"⟩
abbrev cX9_tell : ByteArray := prog_1_method_37_code
def yX9_tell : MethodName := ⟨RX9, "tell", "(I)I"⟩
abbrev cX9_check : ByteArray := prog_1_method_38_code
def yX9_check : MethodName := ⟨RX9, "check", "(I)I"⟩
abbrev cX9_count : ByteArray := prog_1_method_39_code
def yX9_count : MethodName := ⟨RX9, "count", "(I)I"⟩
abbrev cX9_told : ByteArray := prog_1_method_40_code
def yX9_told : MethodName := ⟨RX9, "told", "(I)I"⟩
abbrev cX9_refuse : ByteArray := prog_1_method_41_code
def yX9_refuse : MethodName := ⟨RX9, "refuse", "(I)I"⟩
abbrev cX9_isPage : ByteArray := prog_1_method_42_code
def yX9_isPage : MethodName := ⟨RX9, "isPage", "(I)Z"⟩
abbrev cX9_isPlate : ByteArray := prog_1_method_43_code
def yX9_isPlate : MethodName := ⟨RX9, "isPlate", "(I)Z"⟩
abbrev cX9_mostToSet : ByteArray := prog_1_method_44_code
def yX9_mostToSet : MethodName := ⟨RX9, "mostToSet", "(I)I"⟩
abbrev cX9_isWithin : ByteArray := prog_1_method_45_code
def yX9_isWithin : MethodName := ⟨RX9, "isWithin", "(III)Z"⟩
abbrev cX9_hold : ByteArray := prog_1_method_46_code
def yX9_hold : MethodName := ⟨RX9, "hold", "(III)I"⟩
abbrev cX9_quotient : ByteArray := prog_1_method_47_code
def yX9_quotient : MethodName := ⟨RX9, "quotient", "(II)I"⟩
abbrev cX9_isSmallLetter : ByteArray := prog_1_method_48_code
def yX9_isSmallLetter : MethodName := ⟨RX9, "isSmallLetter", "(I)Z"⟩
abbrev cX9_glyphOf : ByteArray := prog_1_method_49_code
def yX9_glyphOf : MethodName := ⟨RX9, "glyphOf", "(I)I"⟩
def RX10 : String := "IceTypeModel"
def TX10 : u_T := fun k => match k with
  | 0 => ("IceTypeModel", "s", "[I", true)
  | 1 => ("IceTypeModel", "kept", "[I", true)
  | 2 => ("IceTypeModel", "put", "[I", true)
  | 3 => ("IceTypeModel", "images", "I", false)
  | 4 => ("IceTypeModel", "errors", "[I", true)
  | 5 => ("IceTypeModel", "at", "I", false)
  | 6 => ("IceTypeModel", "open", "I", false)
  | 7 => ("IceTypeModel", "steps", "I", false)
  | 8 => ("IceTypeModel", "use", "I", false)
  | 9 => ("IceTypeModel", "step", "[I", true)
  | 10 => ("IceTypeModel", "named", "[I", true)
  | 11 => ("IceTypeModel", "pile", "[I", true)
  | 12 => ("IceTypeModel", "used", "[I", true)
  | 13 => ("IceTypeModel", "row", "[I", true)
  | 14 => ("IceTypeModel", "best", "[I", true)
  | 15 => ("IceTypeModel", "pages", "I", false)
  | 16 => ("IceTypeModel", "most", "I", false)
  | 17 => ("IceTypeModel", "put2", "[I", true)
  | 18 => ("IceTypeModel", "trace", "[I", true)
  | 19 => ("IceTypeModel", "traced", "I", false)
  | 20 => ("IceTypeModel", "speaks", "I", false)
  | 21 => ("IceTypeModel", "isParted", "Z", false)
  | 22 => ("IceTypeModel", "bits", "[I", true)
  | 23 => ("IceTypeModel", "sizes", "[I", true)
  | 24 => ("IceTypeModel", "number", "[I", true)
  | _ => ("IceTypeModel", "aside", "[I", true)
def tyX10 : Nat → FieldType := fun k => match k with
  | 0 => .array .int
  | 1 => .array .int
  | 2 => .array .int
  | 3 => .int
  | 4 => .array .int
  | 5 => .int
  | 6 => .int
  | 7 => .int
  | 8 => .int
  | 9 => .array .int
  | 10 => .array .int
  | 11 => .array .int
  | 12 => .array .int
  | 13 => .array .int
  | 14 => .array .int
  | 15 => .int
  | 16 => .int
  | 17 => .array .int
  | 18 => .array .int
  | 19 => .int
  | 20 => .int
  | 21 => .boolean
  | 22 => .array .int
  | 23 => .array .int
  | 24 => .array .int
  | _ => .array .int
abbrev wsX100 : List Cond := u_ws RX10 TX10 26
theorem nmX10 : ∀ a, a < 26 → ∀ b, b < 26 → a ≠ b → (TX10 a).2.1 ≠ (TX10 b).2.1 := by decide +kernel
theorem tyX10_ok : ∀ k, k < 26 → parseFieldDescriptor (TX10 k).2.2.1 = some (tyX10 k) := by decide +kernel
abbrev cX10_init : ByteArray := prog_12_method_1_code
def yX10_init : MethodName := ⟨RX10, "<init>", "()V"⟩
abbrev cX10_error : ByteArray := prog_12_method_2_code
def yX10_error : MethodName := ⟨RX10, "error", "(I)I"⟩
abbrev cX10_in : ByteArray := prog_12_method_3_code
def yX10_in : MethodName := ⟨RX10, "in", "(III)Z"⟩
abbrev cX10_held : ByteArray := prog_12_method_4_code
def yX10_held : MethodName := ⟨RX10, "held", "(III)I"⟩
abbrev cX10_carry : ByteArray := prog_12_method_5_code
def yX10_carry : MethodName := ⟨RX10, "carry", "([I[I)V"⟩
abbrev cX10_isLetter : ByteArray := prog_12_method_6_code
def yX10_isLetter : MethodName := ⟨RX10, "isLetter", "(I)Z"⟩
abbrev cX10_isPage : ByteArray := prog_12_method_7_code
def yX10_isPage : MethodName := ⟨RX10, "isPage", "(I)Z"⟩
abbrev cX10_its : ByteArray := prog_12_method_8_code
def yX10_its : MethodName := ⟨RX10, "its", "(II)I"⟩
abbrev cX10_lays1 : ByteArray := prog_12_method_9_code
def yX10_lays1 : MethodName := ⟨RX10, "lays1", "(III)V"⟩
abbrev cX10_of : ByteArray := prog_12_method_10_code
def yX10_of : MethodName := ⟨RX10, "of", "(II)I"⟩
abbrev cX10_drips : ByteArray := prog_12_method_11_code
def yX10_drips : MethodName := ⟨RX10, "drips", "(I)V"⟩
abbrev cX10_whyNotCast : ByteArray := prog_12_method_12_code
def yX10_whyNotCast : MethodName := ⟨RX10, "whyNotCast", "(III)I"⟩
abbrev cX10_casts1 : ByteArray := prog_12_method_13_code
def yX10_casts1 : MethodName := ⟨RX10, "casts1", "(III)I"⟩
abbrev cX10_cast : ByteArray := prog_12_method_14_code
def yX10_cast : MethodName := ⟨RX10, "cast", "(III)I"⟩
abbrev cX10_feed : ByteArray := prog_12_method_15_code
def yX10_feed : MethodName := ⟨RX10, "feed", "(JI)I"⟩
abbrev cX10_look : ByteArray := prog_12_method_16_code
def yX10_look : MethodName := ⟨RX10, "look", "()I"⟩
abbrev cX10_isName : ByteArray := prog_12_method_17_code
def yX10_isName : MethodName := ⟨RX10, "isName", "(I)Z"⟩
abbrev cX10_lays : ByteArray := prog_12_method_18_code
def yX10_lays : MethodName := ⟨RX10, "lays", "(II)V"⟩
abbrev cX10_whole : ByteArray := prog_12_method_19_code
def yX10_whole : MethodName := ⟨RX10, "whole", "()Z"⟩
abbrev cX10_both : ByteArray := prog_12_method_20_code
def yX10_both : MethodName := ⟨RX10, "both", "()Z"⟩
abbrev cX10_compared : ByteArray := prog_12_method_21_code
def yX10_compared : MethodName := ⟨RX10, "compared", "()Z"⟩
abbrev cX10_sum : ByteArray := prog_12_method_22_code
def yX10_sum : MethodName := ⟨RX10, "sum", "()Z"⟩
abbrev cX10_product : ByteArray := prog_12_method_23_code
def yX10_product : MethodName := ⟨RX10, "product", "()Z"⟩
abbrev cX10_opens : ByteArray := prog_12_method_24_code
def yX10_opens : MethodName := ⟨RX10, "opens", "()Z"⟩
abbrev cX10_one : ByteArray := prog_12_method_25_code
def yX10_one : MethodName := ⟨RX10, "one", "()Z"⟩
abbrev cX10_hasText : ByteArray := prog_12_method_26_code
def yX10_hasText : MethodName := ⟨RX10, "hasText", "(I)Z"⟩
abbrev cX10_text : ByteArray := prog_12_method_27_code
def yX10_text : MethodName := ⟨RX10, "text", "(I)I"⟩
abbrev cX10_untell : ByteArray := prog_12_method_28_code
def yX10_untell : MethodName := ⟨RX10, "untell", "(I)I"⟩
abbrev cX10_joined : ByteArray := prog_12_method_29_code
def yX10_joined : MethodName := ⟨RX10, "joined", "(III)I"⟩
abbrev cX10_worked : ByteArray := prog_12_method_30_code
def yX10_worked : MethodName := ⟨RX10, "worked", "(I)I"⟩
abbrev cX10_cold : ByteArray := prog_12_method_31_code
def yX10_cold : MethodName := ⟨RX10, "cold", "(I)I"⟩
abbrev cX10_dripsTold : ByteArray := prog_12_method_32_code
def yX10_dripsTold : MethodName := ⟨RX10, "dripsTold", "(I)I"⟩
abbrev cX10_melts : ByteArray := prog_12_method_33_code
def yX10_melts : MethodName := ⟨RX10, "melts", "(I)I"⟩
abbrev cX10_read : ByteArray := prog_12_method_34_code
def yX10_read : MethodName := ⟨RX10, "read", "(I)I"⟩
abbrev cX10_sees : ByteArray := prog_12_method_35_code
def yX10_sees : MethodName := ⟨RX10, "sees", "(I)I"⟩
abbrev cX10_toldLetter : ByteArray := prog_12_method_36_code
def yX10_toldLetter : MethodName := ⟨RX10, "toldLetter", "(II)I"⟩
abbrev cX10_letterIs : ByteArray := prog_12_method_37_code
def yX10_letterIs : MethodName := ⟨RX10, "letterIs", "(II)I"⟩
abbrev cX10_isUnder : ByteArray := prog_12_method_38_code
def yX10_isUnder : MethodName := ⟨RX10, "isUnder", "(II)Z"⟩
abbrev cX10_as : ByteArray := prog_12_method_39_code
def yX10_as : MethodName := ⟨RX10, "as", "(II)I"⟩
abbrev cX10_set : ByteArray := prog_12_method_40_code
def yX10_set : MethodName := ⟨RX10, "set", "(III)I"⟩
abbrev cX10_melt : ByteArray := prog_12_method_41_code
def yX10_melt : MethodName := ⟨RX10, "melt", "(I)I"⟩
abbrev cX10_drink : ByteArray := prog_12_method_42_code
def yX10_drink : MethodName := ⟨RX10, "drink", "(I)I"⟩
abbrev cX10_have : ByteArray := prog_12_method_43_code
def yX10_have : MethodName := ⟨RX10, "have", "(II)I"⟩
abbrev cX10_glyphOf : ByteArray := prog_12_method_44_code
def yX10_glyphOf : MethodName := ⟨RX10, "glyphOf", "(I)I"⟩
abbrev cX10_word : ByteArray := prog_12_method_45_code
def yX10_word : MethodName := ⟨RX10, "word", "()I"⟩
abbrev cX10_caseOf : ByteArray := prog_12_method_46_code
def yX10_caseOf : MethodName := ⟨RX10, "caseOf", "(I)I"⟩
abbrev cX10_decree : ByteArray := prog_12_method_47_code
def yX10_decree : MethodName := ⟨RX10, "decree", "()I"⟩
abbrev cX10_lay : ByteArray := prog_12_method_48_code
def yX10_lay : MethodName := ⟨RX10, "lay", "(II)I"⟩
abbrev cX10_sort : ByteArray := prog_12_method_49_code
def yX10_sort : MethodName := ⟨RX10, "sort", "(I)I"⟩
abbrev cX10_seen : ByteArray := prog_12_method_50_code
def yX10_seen : MethodName := ⟨RX10, "seen", "(I)I"⟩
abbrev cX10_pageIs : ByteArray := prog_12_method_51_code
def yX10_pageIs : MethodName := ⟨RX10, "pageIs", "(II)I"⟩
abbrev cX10_meltsAll : ByteArray := prog_12_method_52_code
def yX10_meltsAll : MethodName := ⟨RX10, "meltsAll", "(II)V"⟩
abbrev cX10_sheet1 : ByteArray := prog_12_method_53_code
def yX10_sheet1 : MethodName := ⟨RX10, "sheet1", "(I)I"⟩
abbrev cX10_press : ByteArray := prog_12_method_54_code
def yX10_press : MethodName := ⟨RX10, "press", "(II)I"⟩
abbrev cX10_isAhead : ByteArray := prog_12_method_55_code
def yX10_isAhead : MethodName := ⟨RX10, "isAhead", "(I)Z"⟩
abbrev cX10_runOf : ByteArray := prog_12_method_56_code
def yX10_runOf : MethodName := ⟨RX10, "runOf", "(II)I"⟩
abbrev cX10_run : ByteArray := prog_12_method_57_code
def yX10_run : MethodName := ⟨RX10, "run", "(II)I"⟩
abbrev cX10_lost : ByteArray := prog_12_method_58_code
def yX10_lost : MethodName := ⟨RX10, "lost", "(I)I"⟩
abbrev cX10_then : ByteArray := prog_12_method_59_code
def yX10_then : MethodName := ⟨RX10, "then", "(III)I"⟩
abbrev cX10_clearBy : ByteArray := prog_12_method_60_code
def yX10_clearBy : MethodName := ⟨RX10, "clearBy", "(I)I"⟩
abbrev cX10_tries : ByteArray := prog_12_method_61_code
def yX10_tries : MethodName := ⟨RX10, "tries", "(II)V"⟩
abbrev cX10_order : ByteArray := prog_12_method_62_code
def yX10_order : MethodName := ⟨RX10, "order", "(II)I"⟩
abbrev cX10_runIn : ByteArray := prog_12_method_63_code
def yX10_runIn : MethodName := ⟨RX10, "runIn", "(III)I"⟩
abbrev cX10_room : ByteArray := prog_12_method_64_code
def yX10_room : MethodName := ⟨RX10, "room", "(II)I"⟩
abbrev cX10_lasts : ByteArray := prog_12_method_65_code
def yX10_lasts : MethodName := ⟨RX10, "lasts", "(III)Z"⟩
abbrev cX10_needs : ByteArray := prog_12_method_66_code
def yX10_needs : MethodName := ⟨RX10, "needs", "(II)I"⟩
abbrev cX10_maySay : ByteArray := prog_12_method_67_code
def yX10_maySay : MethodName := ⟨RX10, "maySay", "(II)Z"⟩
abbrev cX10_said : ByteArray := prog_12_method_68_code
def yX10_said : MethodName := ⟨RX10, "said", "(I)I"⟩
abbrev cX10_inCase : ByteArray := prog_12_method_69_code
def yX10_inCase : MethodName := ⟨RX10, "inCase", "(I)I"⟩
abbrev cX10_draw : ByteArray := prog_12_method_70_code
def yX10_draw : MethodName := ⟨RX10, "draw", "()I"⟩
abbrev cX10_day : ByteArray := prog_12_method_71_code
def yX10_day : MethodName := ⟨RX10, "day", "()I"⟩
abbrev cX10_days : ByteArray := prog_12_method_72_code
def yX10_days : MethodName := ⟨RX10, "days", "(I)I"⟩
abbrev cX10_seed : ByteArray := prog_12_method_73_code
def yX10_seed : MethodName := ⟨RX10, "seed", "(I)I"⟩
abbrev cX10_begins : ByteArray := prog_12_method_74_code
def yX10_begins : MethodName := ⟨RX10, "begins", "(I)V"⟩
abbrev cX10_above : ByteArray := prog_12_method_75_code
def yX10_above : MethodName := ⟨RX10, "above", "(I)I"⟩
abbrev cX10_kindNow : ByteArray := prog_12_method_76_code
def yX10_kindNow : MethodName := ⟨RX10, "kindNow", "()I"⟩
abbrev cX10_mNow : ByteArray := prog_12_method_77_code
def yX10_mNow : MethodName := ⟨RX10, "mNow", "()I"⟩
abbrev cX10_meltsBy : ByteArray := prog_12_method_78_code
def yX10_meltsBy : MethodName := ⟨RX10, "meltsBy", "(II)I"⟩
abbrev cX10_readsBy : ByteArray := prog_12_method_79_code
def yX10_readsBy : MethodName := ⟨RX10, "readsBy", "(II)I"⟩
abbrev cX10_dripsBy : ByteArray := prog_12_method_80_code
def yX10_dripsBy : MethodName := ⟨RX10, "dripsBy", "(II)I"⟩
abbrev cX10_castsBy : ByteArray := prog_12_method_81_code
def yX10_castsBy : MethodName := ⟨RX10, "castsBy", "(II)I"⟩
abbrev cX10_voice : ByteArray := prog_12_method_82_code
def yX10_voice : MethodName := ⟨RX10, "voice", "(III)I"⟩
abbrev cX10_body : ByteArray := prog_12_method_83_code
def yX10_body : MethodName := ⟨RX10, "body", "(I)I"⟩
abbrev cX10_isSheet : ByteArray := prog_12_method_84_code
def yX10_isSheet : MethodName := ⟨RX10, "isSheet", "(I)Z"⟩
abbrev cX10_sheet : ByteArray := prog_12_method_85_code
def yX10_sheet : MethodName := ⟨RX10, "sheet", "(III)I"⟩
abbrev cX10_put : ByteArray := prog_12_method_86_code
def yX10_put : MethodName := ⟨RX10, "put", "(III)I"⟩
abbrev cX10_move : ByteArray := prog_12_method_87_code
def yX10_move : MethodName := ⟨RX10, "move", "(IIIII)I"⟩
abbrev cX10_lacks : ByteArray := prog_12_method_88_code
def yX10_lacks : MethodName := ⟨RX10, "lacks", "(I)I"⟩
abbrev cX10_casts : ByteArray := prog_12_method_89_code
def yX10_casts : MethodName := ⟨RX10, "casts", "(I)I"⟩
abbrev cX10_judge : ByteArray := prog_12_method_90_code
def yX10_judge : MethodName := ⟨RX10, "judge", "(II)I"⟩
abbrev cX10_image : ByteArray := prog_12_method_91_code
def yX10_image : MethodName := ⟨RX10, "image", "()I"⟩
abbrev cX10_restore : ByteArray := prog_12_method_92_code
def yX10_restore : MethodName := ⟨RX10, "restore", "()I"⟩
abbrev cX10_tell : ByteArray := prog_12_method_93_code
def yX10_tell : MethodName := ⟨RX10, "tell", "(I)I"⟩
abbrev cX10_check : ByteArray := prog_12_method_94_code
def yX10_check : MethodName := ⟨RX10, "check", "(I)I"⟩
abbrev cX10_allIce : ByteArray := prog_12_method_95_code
def yX10_allIce : MethodName := ⟨RX10, "allIce", "()I"⟩
abbrev cX10_count : ByteArray := prog_12_method_96_code
def yX10_count : MethodName := ⟨RX10, "count", "(I)I"⟩
abbrev cX10_told : ByteArray := prog_12_method_97_code
def yX10_told : MethodName := ⟨RX10, "told", "(I)I"⟩
def RJ11 : String := "java/lang/Character"
def TJ11 : u_T := fun k => match k with
  | _ => ("", "", "", false)
def tyJ11 : Nat → FieldType := fun k => match k with
  | _ => .int
abbrev wsJ110 : List Cond := u_ws RJ11 TJ11 0
theorem nmJ11 : ∀ a, a < 0 → ∀ b, b < 0 → a ≠ b → (TJ11 a).2.1 ≠ (TJ11 b).2.1 := by decide +kernel
theorem tyJ11_ok : ∀ k, k < 0 → parseFieldDescriptor (TJ11 k).2.2.1 = some (tyJ11 k) := by decide +kernel
abbrev cJ11_isValidCodePoint_9a6ad : ByteArray := prog_13_method_11_code
def yJ11_isValidCodePoint_9a6ad : MethodName := ⟨RJ11, "isValidCodePoint", "(I)Z"⟩
abbrev cJ11_highSurrogate_5068e : ByteArray := prog_13_method_28_code
def yJ11_highSurrogate_5068e : MethodName := ⟨RJ11, "highSurrogate", "(I)C"⟩
abbrev cJ11_lowSurrogate_5068e : ByteArray := prog_13_method_29_code
def yJ11_lowSurrogate_5068e : MethodName := ⟨RJ11, "lowSurrogate", "(I)C"⟩
def RJ9 : String := "java/lang/Math"
def TJ9 : u_T := fun k => match k with
  | _ => ("", "", "", false)
def tyJ9 : Nat → FieldType := fun k => match k with
  | _ => .int
abbrev wsJ90 : List Cond := u_ws RJ9 TJ9 0
theorem nmJ9 : ∀ a, a < 0 → ∀ b, b < 0 → a ≠ b → (TJ9 a).2.1 ≠ (TJ9 b).2.1 := by decide +kernel
theorem tyJ9_ok : ∀ k, k < 0 → parseFieldDescriptor (TJ9 k).2.2.1 = some (tyJ9 k) := by decide +kernel
abbrev cJ9_max_7cf53 : ByteArray := prog_14_method_65_code
def yJ9_max_7cf53 : MethodName := ⟨RJ9, "max", "(II)I"⟩
abbrev cJ9_min_7cf53 : ByteArray := prog_14_method_69_code
def yJ9_min_7cf53 : MethodName := ⟨RJ9, "min", "(II)I"⟩
def RJ0 : String := "java/lang/String"
def TJ0 : u_T := fun k => match k with
  | _ => ("", "", "", false)
def tyJ0 : Nat → FieldType := fun k => match k with
  | _ => .int
abbrev wsJ00 : List Cond := u_ws RJ0 TJ0 0
theorem nmJ0 : ∀ a, a < 0 → ∀ b, b < 0 → a ≠ b → (TJ0 a).2.1 ≠ (TJ0 b).2.1 := by decide +kernel
theorem tyJ0_ok : ∀ k, k < 0 → parseFieldDescriptor (TJ0 k).2.2.1 = some (tyJ0 k) := by decide +kernel
abbrev cJ0_length_8abf5 : ByteArray := prog_15_method_54_code
def yJ0_length_8abf5 : MethodName := ⟨RJ0, "length", "()I"⟩
abbrev cJ0_indexOf_0f7a4 : ByteArray := prog_15_method_79_code
def yJ0_indexOf_0f7a4 : MethodName := ⟨RJ0, "indexOf", "(I)I"⟩
abbrev cJ0_indexOf_7cf53 : ByteArray := prog_15_method_80_code
def yJ0_indexOf_7cf53 : MethodName := ⟨RJ0, "indexOf", "(II)I"⟩
abbrev cJ0_coder_7d493 : ByteArray := prog_15_method_152_code
def yJ0_coder_7d493 : MethodName := ⟨RJ0, "coder", "()B"⟩
abbrev cJ0_isLatin1_aae02 : ByteArray := prog_15_method_154_code
def yJ0_isLatin1_aae02 : MethodName := ⟨RJ0, "isLatin1", "()Z"⟩
abbrev cJ0_checkBoundsBeginEnd_23922 : ByteArray := prog_15_method_158_code
def yJ0_checkBoundsBeginEnd_23922 : MethodName := ⟨RJ0, "checkBoundsBeginEnd", "(III)V"⟩
def RJ1 : String := "java/lang/StringLatin1"
def TJ1 : u_T := fun k => match k with
  | _ => ("", "", "", false)
def tyJ1 : Nat → FieldType := fun k => match k with
  | _ => .int
abbrev wsJ10 : List Cond := u_ws RJ1 TJ1 0
theorem nmJ1 : ∀ a, a < 0 → ∀ b, b < 0 → a ≠ b → (TJ1 a).2.1 ≠ (TJ1 b).2.1 := by decide +kernel
theorem tyJ1_ok : ∀ k, k < 0 → parseFieldDescriptor (TJ1 k).2.2.1 = some (tyJ1 k) := by decide +kernel
abbrev cJ1_canEncode_9a6ad : ByteArray := prog_16_method_4_code
def yJ1_canEncode_9a6ad : MethodName := ⟨RJ1, "canEncode", "(I)Z"⟩
abbrev cJ1_indexOf_4cfef : ByteArray := prog_16_method_22_code
def yJ1_indexOf_4cfef : MethodName := ⟨RJ1, "indexOf", "([BIII)I"⟩
abbrev cJ1_indexOfChar_4cfef : ByteArray := prog_16_method_23_code
def yJ1_indexOfChar_4cfef : MethodName := ⟨RJ1, "indexOfChar", "([BIII)I"⟩
def RJ2 : String := "java/lang/StringUTF16"
def TJ2 : u_T := fun k => match k with
  | _ => ("", "", "", false)
def tyJ2 : Nat → FieldType := fun k => match k with
  | _ => .int
abbrev wsJ20 : List Cond := u_ws RJ2 TJ2 0
theorem nmJ2 : ∀ a, a < 0 → ∀ b, b < 0 → a ≠ b → (TJ2 a).2.1 ≠ (TJ2 b).2.1 := by decide +kernel
theorem tyJ2_ok : ∀ k, k < 0 → parseFieldDescriptor (TJ2 k).2.2.1 = some (tyJ2 k) := by decide +kernel
abbrev cJ2_getChar_3b067 : ByteArray := prog_17_method_5_code
def yJ2_getChar_3b067 : MethodName := ⟨RJ2, "getChar", "([BI)C"⟩
abbrev cJ2_length_9d52b : ByteArray := prog_17_method_6_code
def yJ2_length_9d52b : MethodName := ⟨RJ2, "length", "([B)I"⟩
abbrev cJ2_indexOf_4cfef : ByteArray := prog_17_method_40_code
def yJ2_indexOf_4cfef : MethodName := ⟨RJ2, "indexOf", "([BIII)I"⟩
abbrev cJ2_indexOfChar_4cfef : ByteArray := prog_17_method_47_code
def yJ2_indexOfChar_4cfef : MethodName := ⟨RJ2, "indexOfChar", "([BIII)I"⟩
abbrev cJ2_indexOfCharUnsafe_4cfef : ByteArray := prog_17_method_48_code
def yJ2_indexOfCharUnsafe_4cfef : MethodName := ⟨RJ2, "indexOfCharUnsafe", "([BIII)I"⟩
abbrev cJ2_indexOfSupplementary_4cfef : ByteArray := prog_17_method_49_code
def yJ2_indexOfSupplementary_4cfef : MethodName := ⟨RJ2, "indexOfSupplementary", "([BIII)I"⟩
abbrev cJ2_checkBoundsBeginEnd_d044e : ByteArray := prog_17_method_93_code
def yJ2_checkBoundsBeginEnd_d044e : MethodName := ⟨RJ2, "checkBoundsBeginEnd", "(II[B)V"⟩
def RJ10 : String := "java/lang/System"
def TJ10 : u_T := fun k => match k with
  | _ => ("", "", "", false)
def tyJ10 : Nat → FieldType := fun k => match k with
  | _ => .int
abbrev wsJ100 : List Cond := u_ws RJ10 TJ10 0
theorem nmJ10 : ∀ a, a < 0 → ∀ b, b < 0 → a ≠ b → (TJ10 a).2.1 ≠ (TJ10 b).2.1 := by decide +kernel
theorem tyJ10_ok : ∀ k, k < 0 → parseFieldDescriptor (TJ10 k).2.2.1 = some (tyJ10 k) := by decide +kernel
def RJ3 : String := "jdk/internal/util/Preconditions"
def TJ3 : u_T := fun k => match k with
  | _ => ("", "", "", false)
def tyJ3 : Nat → FieldType := fun k => match k with
  | _ => .int
abbrev wsJ30 : List Cond := u_ws RJ3 TJ3 0
theorem nmJ3 : ∀ a, a < 0 → ∀ b, b < 0 → a ≠ b → (TJ3 a).2.1 ≠ (TJ3 b).2.1 := by decide +kernel
theorem tyJ3_ok : ∀ k, k < 0 → parseFieldDescriptor (TJ3 k).2.2.1 = some (tyJ3 k) := by decide +kernel
abbrev cJ3_checkFromToIndex_8c36e : ByteArray := prog_19_method_12_code
def yJ3_checkFromToIndex_8c36e : MethodName := ⟨RJ3, "checkFromToIndex", "(IIILjava/util/function/BiFunction;)I"⟩
def RL : String := "IceTypeLaw"
abbrev cL_law : ByteArray := code
def yL_law : MethodName := ⟨RL, "law", "([I)Z"⟩
end
section
/-! THE SIMULATION: the machine follows a pure program over one memory of ints. -/
-- words that are good in a contract, words of nest mates
def gw (w : Cond) : Prop := w ∈ lw_tbl ∧ goodWord w = true
def tbG : List Cond := lw_tbl.filter goodWord
theorem gw_in {w : Cond} (h : gw w) : w ∈ tbG := List.mem_filter.mpr ⟨h.1, h.2⟩
def nw (w : Cond) : Prop := w ∈ lw_tbl ∧ (match w with | .fieldLinkNest .. => true | .methodLinkNest .. => true | _ => false) = true
-- the memory
abbrev Mm : Type := Nat → Nat → Int32
def wr (M : Mm) (k j : Nat) (v : Int32) : Mm := fun a => if a = k then upd (M k) j v else M a
def cpm (M : Mm) (k0 sp k1 dp n : Nat) : Mm := fun a => if a = k1 then va_cpy (M k0) (M k1) sp dp n else M a
abbrev Sh : Type := (Nat ⊕ (Nat × Nat × Nat × Nat)) ⊕ (Nat × List (Option Nat))
abbrev Gx : Type := va_G × (Nat → ClassId) × (Nat → Nat) × (Nat → Nat)
abbrev rf (G : Gx) (k : Nat) : Value := .ref (G.2.2.1 k)
abbrev xf (G : Gx) (k : Nat) : Value := .ref (G.2.2.2 k)
def fdv (G : Gx) (f : Nat → Int32) (j : Nat) (o : Option Nat) : Value := match o with
  | none => .int (f j)
  | some q => .ref (G.2.2.1 q)
def cel (G : Gx) (sh : Sh) (f : Nat → Int32) : va_E := match sh with
  | .inl (.inl n) => .inl (G.2.1 0, n, .inl f)
  | .inl (.inr (t, b, st, n)) => .inl (G.2.1 t, n, .inr (.inr (.inr (.inr (fun j => some (G.2.2.1 (b + st * j)))))))
  | .inr (ci, fs) => .inr (ci, fs.mapIdx (fdv G f))
def WS (lay : List Sh) (G : Gx) (M : Mm) : va_W := lay.mapIdx (fun k sh => (G.2.2.1 k, cel G sh (M k)))
theorem WS_get {lay : List Sh} {G : Gx} {M : Mm} {k : Nat} {sh : Sh} (h : lay[k]? = some sh) : (WS lay G M)[k]? = some (G.2.2.1 k, cel G sh (M k)) := by
  simp [WS, List.getElem?_mapIdx, h]
theorem WS_len {lay : List Sh} {G : Gx} {M : Mm} : (WS lay G M).length = lay.length := by simp [WS]
theorem WS_set {lay : List Sh} {G : Gx} {M : Mm} {k : Nat} {sh : Sh} (g : Nat → Int32) (h : lay[k]? = some sh) : (WS lay G M).set k (G.2.2.1 k, cel G sh g) = WS lay G (fun a => if a = k then g else M a) := by
  refine List.ext_getElem? fun i => ?_
  rw [List.getElem?_set]
  by_cases hik : k = i
  · subst hik
    have hlt : k < lay.length := (List.getElem?_eq_some_iff.mp h).1
    rw [if_pos rfl, if_pos (by rw [WS_len]; exact hlt), WS_get h, if_pos rfl]
  · rw [if_neg hik]
    simp [WS, List.getElem?_mapIdx, Ne.symm hik]
theorem fdv_set {G : Gx} {f : Nat → Int32} {fs : List (Option Nat)} {j : Nat} {v : Int32} (h : fs[j]? = some none) : (fs.mapIdx (fdv G f)).set j (.int v) = fs.mapIdx (fdv G (upd f j v)) := by
  refine List.ext_getElem? fun i => ?_
  rw [List.getElem?_set]
  by_cases hij : j = i
  · subst hij
    have hlt : j < fs.length := (List.getElem?_eq_some_iff.mp h).1
    rw [if_pos rfl, if_pos (by simpa using hlt), List.getElem?_mapIdx, h]
    simp [fdv, upd]
  · rw [if_neg hij, List.getElem?_mapIdx, List.getElem?_mapIdx]
    cases hi : fs[i]? with
    | none => rfl
    | some o => cases o <;> simp [fdv, upd, Ne.symm hij]
-- classes
abbrev cls : List vw_C := [(RX0, TX0, 4), (RX1, TX1, 3), (RX2, TX2, 3), (RX3, TX3, 7), (RX4, TX4, 2), (RX5, TX5, 2), (RX6, TX6, 6), (RX7, TX7, 15), (RX8, TX8, 5), (RX9, TX9, 9), (RX10, TX10, 26)]
abbrev tys (G : Gx) : List (ClassId × FieldType) := [(G.2.1 0, .int), (G.2.1 1, .object RX3), (G.2.1 2, .object RX5), (G.2.1 3, .object RX4)]
def kd : Nat → List Bool := fun ci => match ci with
  | 0 => [true, true, false, false]
  | 1 => [true, true, true]
  | 2 => [true, true, false]
  | 3 => [false, false, false, false, false, false, false]
  | 4 => [true, false]
  | 5 => [true, false]
  | 6 => [true, true, true, true, true, false]
  | 7 => [true, false, false, false, false, true, false, true, true, true, true, true, false, true, true]
  | 8 => [true, false, false, false, false]
  | 9 => [true, true, false, true, true, true, true, true, true]
  | 10 => [true, true, true, false, true, false, false, false, false, true, true, true, true, true, true, false, false, true, true, false, false, false, true, true, true, true]
  | _ => []
def isC (lay : List Sh) (k ci : Nat) : Bool := match lay[k]? with
  | some (.inr (c, fs)) => c == ci && (fs.map Option.isSome == kd ci)
  | _ => false
def fR (lay : List Sh) (k j : Nat) : Nat := match lay[k]? with
  | some (.inr (_, fs)) => (match fs[j]? with
    | some (some q) => q
    | _ => 0)
  | _ => 0
def isN (lay : List Sh) (k n : Nat) : Bool := match lay[k]? with
  | some (.inl (.inl m)) => m == n
  | _ => false
def aN (lay : List Sh) (k : Nat) : Nat := match lay[k]? with
  | some (.inl (.inl m)) => m
  | _ => 0
def isF (lay : List Sh) (k t b st n : Nat) : Bool := match lay[k]? with
  | some (.inl (.inr (t1, b1, s1, n1))) => t1 == t && b1 == b && s1 == st && n1 == n
  | _ => false
theorem isC_spec {lay : List Sh} {k ci : Nat} (h : isC lay k ci = true) : ∃ fs, lay[k]? = some (.inr (ci, fs)) ∧ fs.map Option.isSome = kd ci := by
  unfold isC at h
  split at h
  · rename_i c fs he
    simp only [Bool.and_eq_true, beq_iff_eq] at h
    obtain ⟨rfl, h2⟩ := h
    exact ⟨fs, he, h2⟩
  · cases h
theorem isN_spec {lay : List Sh} {k n : Nat} (h : isN lay k n = true) : lay[k]? = some (.inl (.inl n)) := by
  unfold isN at h
  split at h
  · rename_i m he
    simp only [beq_iff_eq] at h
    subst h
    exact he
  · cases h
theorem isF_spec {lay : List Sh} {k t b st n : Nat} (h : isF lay k t b st n = true) : lay[k]? = some (.inl (.inr (t, b, st, n))) := by
  unfold isF at h
  split at h
  · rename_i t1 b1 s1 n1 he
    simp only [Bool.and_eq_true, beq_iff_eq] at h
    obtain ⟨⟨⟨rfl, rfl⟩, rfl⟩, rfl⟩ := h
    exact he
  · cases h
theorem kd_int {fs : List (Option Nat)} {ci j : Nat} (h : fs.map Option.isSome = kd ci) (hj : (kd ci)[j]? = some false) : fs[j]? = some none := by
  rw [← h, List.getElem?_map] at hj
  cases hf : fs[j]? with
  | none => rw [hf] at hj; cases hj
  | some o => cases o with
    | none => rfl
    | some q => rw [hf] at hj; cases hj
theorem kd_ref {fs : List (Option Nat)} {ci j : Nat} (h : fs.map Option.isSome = kd ci) (hj : (kd ci)[j]? = some true) : ∃ q, fs[j]? = some (some q) := by
  rw [← h, List.getElem?_map] at hj
  cases hf : fs[j]? with
  | none => rw [hf] at hj; cases hj
  | some o => cases o with
    | none => rw [hf] at hj; cases hj
    | some q => exact ⟨q, rfl⟩
-- pure words of the programs
def gd {α : Type} (c : Bool) (x : Option α) : Option α := match c with
  | true => x
  | false => none
def bd {β γ : Type} (x : Option (β × Mm)) (k : β → Mm → Option (γ × Mm)) : Option (γ × Mm) := match x with
  | some (r, M) => k r M
  | none => none
def lt {α γ : Type} (x : α) (k : α → γ) : γ := k x
def inb (i : Int32) (n : Nat) : Bool := !(decide (i < 0)) && decide (i.toNatClampNeg < n)
def nz (y : Int32) : Bool := !(decide (y = 0))
def bi (b : Bool) : Int32 := match b with
  | true => 1
  | false => 0
def isb (x : Int32) : Bool := decide (x = 0) || decide (x = 1)
abbrev ix (i : Int32) : Nat := i.toNatClampNeg
def loopF {σ γ : Type} (body : (σ → Option γ) → σ → Option γ) : Nat → σ → Option γ
  | 0, _ => none
  | n + 1, s => body (loopF body n) s
theorem inb_vp {i : Int32} {n : Nat} (h : inb i n = true) : vp_in i n := by
  simp only [inb, Bool.and_eq_true, Bool.not_eq_true', decide_eq_false_iff_not, decide_eq_true_eq] at h
  rintro (q | q)
  · exact h.1 q
  · omega
theorem nz_ne {y : Int32} (h : nz y = true) : ¬ y = 0 := by
  simpa [nz] using h
-- contracts
def Rg (lay : List Sh) (G : Gx) : Nat → Prop := fun q => ∃ k, k < lay.length ∧ q = G.2.2.1 k
def Ij (lay : List Sh) (G : Gx) : Prop := ∀ i j, i < lay.length → j < lay.length → G.2.2.1 i = G.2.2.1 j → i = j
theorem WS_D {lay : List Sh} {G : Gx} {M : Mm} (h : Ij lay G) : va_D (Rg lay G) (WS lay G M) := by
  have key : ∀ (k : Nat) (q : Nat × va_E), (WS lay G M)[k]? = some q → k < lay.length ∧ q.1 = G.2.2.1 k := by
    intro k q hq
    have hlt : k < (WS lay G M).length := (List.getElem?_eq_some_iff.mp hq).1
    rw [WS_len] at hlt
    refine ⟨hlt, ?_⟩
    rw [WS_get (List.getElem?_eq_getElem hlt)] at hq
    cases hq
    rfl
  refine ⟨fun i j p q hi hj hpq => ?_, fun k q hq => ?_⟩
  · obtain ⟨a1, a2⟩ := key i p hi
    obtain ⟨b1, b2⟩ := key j q hj
    exact h i j a1 b1 (by rw [← a2, ← b2]; exact hpq)
  · obtain ⟨a1, a2⟩ := key k q hq
    exact ⟨k, a1, a2⟩
def tabA : Nat → Int32 := fun j => ([-1, 0, 0, 1, 2, 0, 0] : List Int32).getD j 0
def tabB : Nat → Int32 := fun j => ([10, 11, 12, 13, 20, 0, 0, 21, 0, 30, 0, 0, 40, 0, 41, 0, 0, 50, 0, 0, 0, 0, 60, 0, 70, 71, 0, 0] : List Int32).getD j 0
abbrev sLen : List Nat := [4, 3]
abbrev sByt : List (List Int32) := [[105, 99, 97, 109], [114, 115, 103]]
/-- what lies outside the world and never changes: links of nest mates, static rows, texts -/
def Ev (lay : List Sh) (G : Gx) (U : State) (H : Heap) : Prop :=
  (∀ w, nw w → va_Nw w U) ∧ va_Z "IceType" "ABOVE" "[I" (xf G 0) (Rg lay G) U H ∧ va_T .int (G.2.2.2 0) 7 (fun j => .int (tabA j)) (Rg lay G) U H ∧ va_Z "IceType$Voices" "BODIES" "[I" (xf G 1) (Rg lay G) U H ∧ va_T .int (G.2.2.2 1) 28 (fun j => .int (tabB j)) (Rg lay G) U H ∧ va_Z "java/lang/String" "COMPACT_STRINGS" "Z" (.int 1) (Rg lay G) U H ∧ vk_R "IceType" 150 "icam" (G.2.2.2 2) U ∧ vk_R "IceType" 152 "rsg" (G.2.2.2 3) U ∧ vk_S 2 sLen sByt (fun i => G.2.2.2 (2 + i)) (fun i => G.2.2.2 (4 + i)) (Rg lay G) U H
theorem nw_warm {w : Cond} (h : nw w) {s U : State} (hW : s.WarmedH U.vm) (hZ : va_Nw w s) : va_Nw w U := by
  obtain ⟨-, h⟩ := h
  cases w with
  | fieldLinkNest => exact va_Nw.warmF hW hZ
  | methodLinkNest => exact va_Nw.warmM hW hZ
  | _ => cases h
theorem nw_tab {w : Cond} (h : nw w) : w.onTables = true := by
  obtain ⟨-, h⟩ := h
  cases w with
  | fieldLinkNest => rfl
  | methodLinkNest => rfl
  | _ => cases h
theorem Ev_calling {lay : List Sh} {G : Gx} {U : State} {g : JFrame} {mk : MethodId} {a : Array Value} (h : Ev lay G U U.heap) : Ev lay G (U.calling g mk a) (U.calling g mk a).heap := by
  obtain ⟨h1, h2, h3, h4, h5, h6, h7, h8, h9⟩ := h
  have hv : U.vm.Alike (U.calling g mk a).vm := Vm.Alike.refl U.vm
  exact ⟨fun w hw => va_Nw.same (nw_tab hw) (u := U) rfl (h1 w hw), va_Z.moved (u := U) hv h2, va_T.moved (u := U) hv h3, va_Z.moved (u := U) hv h4, va_T.moved (u := U) hv h5, va_Z.moved (u := U) hv h6, vk_R.same (u := U) rfl h7, vk_R.same (u := U) rfl h8, vk_S.moved (u := U) hv h9⟩
theorem Ev_move {lay : List Sh} {G : Gx} {s U : State} {H : Heap} {locs : List Loc} (h : Ev lay G s s.heap) (hS : va_S (Rg lay G) s.heap H locs) (hU : U.heap = H) (hW : s.WarmedH U.vm) : Ev lay G U U.heap := by
  obtain ⟨h1, h2, h3, h4, h5, h6, h7, h8, h9⟩ := h
  have hv := hW.alike
  rw [hU]
  exact ⟨fun w hw => nw_warm hw hW (h1 w hw), (va_Z.moved hv h2).kept hS.2.1, (va_T.moved hv h3).kept hS.2.1, (va_Z.moved hv h4).kept hS.2.1, (va_T.moved hv h5).kept hS.2.1, (va_Z.moved hv h6).kept hS.2.1, vk_R.warm hW h7, vk_R.warm hW h8, (vk_S.moved hv h9).kept hS.2.1⟩
def cP (lay : List Sh) (G : Gx) (M : Mm) (av : List Value) : Array Value → State → Prop := va_Pc av (fun U => va_P G.1 cls (WS lay G M) U.heap ∧ va_K G.1 cls (tys G) U ∧ Ev lay G U U.heap)
theorem cP_blind {lay : List Sh} {G : Gx} {M : Mm} {av : List Value} : FrameBlind (cP lay G M av) := by
  intro a U g mk q
  obtain ⟨q0, q1, q2, q3⟩ := q
  exact ⟨q0, q1, va_K.moved (u := U) (U := U.calling g mk a) (Vm.Alike.refl U.vm) q2, Ev_calling q3⟩
abbrev PB (lay : List Sh) (G : Gx) : Mm → State → Prop := fun u t => va_P G.1 cls (WS lay G u) t.heap
def cQi (lay : List Sh) (G : Gx) (res : Int32 × Mm) : Array Value → State → Outcome → State → Prop := va_Qi (fun (r : Int32) (u : Mm) => (r, u) = res) (PB lay G) (Rg lay G)
def cQz (lay : List Sh) (G : Gx) (res : Bool × Mm) : Array Value → State → Outcome → State → Prop := va_Qi (fun (r : Int32) (u : Mm) => r = bi res.1 ∧ u = res.2) (PB lay G) (Rg lay G)
def cQv (lay : List Sh) (G : Gx) (res : Unit × Mm) : Array Value → State → Outcome → State → Prop := va_Qv (fun (u : Mm) => u = res.2) (PB lay G) (Rg lay G)
def cQr (lay : List Sh) (G : Gx) (res : Nat × Mm) : Array Value → State → Outcome → State → Prop := va_Qr (fun (u : Nat × Mm) => u = res) (fun u a t => a = G.2.2.1 u.1 ∧ va_P G.1 cls (WS lay G u.2) t.heap) (Rg lay G)
def rmm (lev : Nat) : Room := { frames := lev, cells := 0, slots := 0, locals := 40 * lev }
def wds (y : MethodName) (b : ByteArray) (maxL : Nat) (ret : Option FieldType) : List Cond := Cond.code y b maxL ret :: tbG
/-- a method's contract: if its pure program gives an answer, the machine gives it too -/
def Mt {β : Type} (Qf : List Sh → Gx → (β × Mm) → Array Value → State → Outcome → State → Prop) (l : Launch) (lay : List Sh) (G : Gx) (lev : Nat) (y : MethodName) (b : ByteArray) (maxL : Nat) (ret : Option FieldType) (av : List Value) (M : Mm) (f : Option (β × Mm)) : Prop :=
  ∀ res, f = some res → Ij lay G → Met l y (wds y b maxL ret) (rmm lev) (cP lay G M av) (Qf lay G res) 0 0 (Rg lay G)
/-- what stays the same in a method's run -/
def Cx (p : Program) (s : State) (m : MethodId) (args : Array Value) (meth : Method) (c : Code) (lay : List Sh) (G : Gx) (b : ByteArray) (own : String) (maxL : Nat) (ret : Option FieldType) : Prop :=
  p.tables.exec = Jvm.exec ∧ c.code = b ∧ c.maxLocals = maxL ∧ s.vm.findClass own = some m.cls ∧ (∀ w ∈ tbG, w.before args s = true) ∧ meth.sig.returnType = ret ∧ va_K G.1 cls (tys G) s ∧ Ev lay G s s.heap ∧ meth.locks = false ∧ Ij lay G
def Sim {β : Type} (Qf : List Sh → Gx → (β × Mm) → Array Value → State → Outcome → State → Prop) (l : Launch) (lay : List Sh) (G : Gx) (lev : Nat) (b : ByteArray) (own : String) (maxL : Nat) (ret : Option FieldType) (pc : Nat) (lv : List (Nat × Value)) (st : List Value) (M : Mm) (f : Option (β × Mm)) : Prop :=
  ∀ res, f = some res → ∀ (p : Program) (e : Env) (s : State) (m : MethodId) (args : Array Value) (below : List Frame) (meth : Method) (c : Code) (H : Heap) (locs : List Loc) (ls : Array Slot), Cx p s m args meth c lay G b own maxL ret → va_P G.1 cls (WS lay G M) H → va_S (Rg lay G) s.heap H locs → lv_has ls maxL lv →
    W p l e (rmm lev) s m args below meth c H locs 0 0 (MQ below (Qf lay G res) args s 0 0 (Rg lay G)) (F0 m pc ls st)
theorem Mt.of {β : Type} {Qf : List Sh → Gx → (β × Mm) → Array Value → State → Outcome → State → Prop} {l : Launch} {lay : List Sh} {G : Gx} {lev : Nat} {y : MethodName} {b : ByteArray} {maxL : Nat} {ret : Option FieldType} {av : List Value} {M : Mm} {f : Option (β × Mm)} {lv : List (Nat × Value)}
    (hy : plainName y.cls = true) (hl : lv_args 0 av = lv) (hn : Nat.ble (lg_sl av).length maxL = true) (h : Sim Qf l lay G lev b y.cls maxL ret 0 lv [] M f) : Mt Qf l lay G lev y b maxL ret av M f := by
  intro res hf hI
  refine Met.ofW (cc := b) (maxL := maxL) (ret := ret) hy rfl ?_
  intro p e s m args below meth c s₁ B hml hv
  obtain ⟨rfl, hP, hK, hE⟩ := hv
  have hts := atoms_spec (ws := wds y b maxL ret) B.pre
  have hown : s.vm.findClass y.cls = some m.cls := findClass_of_methodNamed B.named
  have he := lv_entry av (n := maxL) (Nat.le_of_ble_eq_true hn)
  rw [lg_entry_eq]
  rw [hl] at he
  exact h res hf p e s m _ below meth c s.heap [] _ ⟨B.exec, B.bytes, hml, hown, fun w hw => hts w (List.mem_cons_of_mem _ hw), B.returns, hK, hE, B.notSynchronized, hI⟩ hP va_S.rf he
end
section
section SR
variable {β : Type} {Qf : List Sh → Gx → (β × Mm) → Array Value → State → Outcome → State → Prop} {l : Launch} {lay : List Sh} {G : Gx} {lev : Nat} {b : ByteArray} {own : String} {maxL : Nat} {ret : Option FieldType} {pc : Nat} {lv : List (Nat × Value)} {st : List Value} {M : Mm} {f : Option (β × Mm)}
theorem s_iconst {n : Int} {v : Int32} (d : decode b pc = .ok (.iconst n, 1)) (hv : Int32.ofInt n = v) (kk : Sim Qf l lay G lev b own maxL ret (pc + 1) lv (.int v :: st) M f) : Sim Qf l lay G lev b own maxL ret pc lv st M f := by
  intro res hf p e s m args below meth c H locs ls Cc hP hS hl
  obtain ⟨hx, hb, hml, hown, hts, hr, hK, hE, hlo, hI⟩ := id Cc
  exact lv_iconst hx hb d hv (kk res hf p e s m args below meth c H locs ls Cc hP hS hl)
theorem s_bipush {n : Int} {v : Int32} (d : decode b pc = .ok (.bipush n, 2)) (hv : (Int8.ofInt n).toInt32 = v) (kk : Sim Qf l lay G lev b own maxL ret (pc + 2) lv (.int v :: st) M f) : Sim Qf l lay G lev b own maxL ret pc lv st M f := by
  intro res hf p e s m args below meth c H locs ls Cc hP hS hl
  obtain ⟨hx, hb, hml, hown, hts, hr, hK, hE, hlo, hI⟩ := id Cc
  exact lv_bipush hx hb d hv (kk res hf p e s m args below meth c H locs ls Cc hP hS hl)
theorem s_sipush {n : Int} {v : Int32} (d : decode b pc = .ok (.sipush n, 3)) (hv : (Int16.ofInt n).toInt32 = v) (kk : Sim Qf l lay G lev b own maxL ret (pc + 3) lv (.int v :: st) M f) : Sim Qf l lay G lev b own maxL ret pc lv st M f := by
  intro res hf p e s m args below meth c H locs ls Cc hP hS hl
  obtain ⟨hx, hb, hml, hown, hts, hr, hK, hE, hlo, hI⟩ := id Cc
  exact lv_sipush hx hb d hv (kk res hf p e s m args below meth c H locs ls Cc hP hS hl)
theorem s_ldc {n : Nat} {v : Int32} (d : decode b pc = .ok (.ldc n, 2)) (h : gw (.constant own n v)) (kk : Sim Qf l lay G lev b own maxL ret (pc + 2) lv (.int v :: st) M f) : Sim Qf l lay G lev b own maxL ret pc lv st M f := by
  intro res hf p e s m args below meth c H locs ls Cc hP hS hl
  obtain ⟨hx, hb, hml, hown, hts, hr, hK, hE, hlo, hI⟩ := id Cc
  exact lv_ldc hx hb hown (hts _ (gw_in h)) d (kk res hf p e s m args below meth c H locs ls Cc hP hS hl)
theorem s_ldcw {n : Nat} {v : Int32} (d : decode b pc = .ok (.ldc_w n, 3)) (h : gw (.constant own n v)) (kk : Sim Qf l lay G lev b own maxL ret (pc + 3) lv (.int v :: st) M f) : Sim Qf l lay G lev b own maxL ret pc lv st M f := by
  intro res hf p e s m args below meth c H locs ls Cc hP hS hl
  obtain ⟨hx, hb, hml, hown, hts, hr, hK, hE, hlo, hI⟩ := id Cc
  exact lv_ldcw hx hb hown (hts _ (gw_in h)) d (kk res hf p e s m args below meth c H locs ls Cc hP hS hl)
theorem s_ldc2 {n : Nat} {v : Int64} (d : decode b pc = .ok (.ldc2_w n, 3)) (h : gw (.constantLong own n v)) (kk : Sim Qf l lay G lev b own maxL ret (pc + 3) lv (.long v :: st) M f) : Sim Qf l lay G lev b own maxL ret pc lv st M f := by
  intro res hf p e s m args below meth c H locs ls Cc hP hS hl
  obtain ⟨hx, hb, hml, hown, hts, hr, hK, hE, hlo, hI⟩ := id Cc
  exact lv_ldc2 hx hb hown (hts _ (gw_in h)) d (kk res hf p e s m args below meth c H locs ls Cc hP hS hl)
theorem s_ldcS0 (d : decode b pc = .ok (.ldc 150, 2)) (ho : own = "IceType") (kk : Sim Qf l lay G lev b own maxL ret (pc + 2) lv (xf G 2 :: st) M f) : Sim Qf l lay G lev b own maxL ret pc lv st M f := by
  intro res hf p e s m args below meth c H locs ls Cc hP hS hl
  obtain ⟨hx, hb, hml, hown, hts, hr, hK, hE, hlo, hI⟩ := id Cc
  subst ho
  exact va_ldcS hx hb hown hE.2.2.2.2.2.2.1 d (kk res hf p e s m args below meth c H locs ls Cc hP hS hl)
theorem s_ldcS1 (d : decode b pc = .ok (.ldc 152, 2)) (ho : own = "IceType") (kk : Sim Qf l lay G lev b own maxL ret (pc + 2) lv (xf G 3 :: st) M f) : Sim Qf l lay G lev b own maxL ret pc lv st M f := by
  intro res hf p e s m args below meth c H locs ls Cc hP hS hl
  obtain ⟨hx, hb, hml, hown, hts, hr, hK, hE, hlo, hI⟩ := id Cc
  subst ho
  exact va_ldcS hx hb hown hE.2.2.2.2.2.2.2.1 d (kk res hf p e s m args below meth c H locs ls Cc hP hS hl)
theorem s_iload_n {n : Fin 4} {i : Nat} {x : Int32} (k : Nat) (d : decode b pc = .ok (.iload_n n, 1)) (hi : (n : Nat) = i) (hk : lv[k]? = some (i, .int x)) (kk : Sim Qf l lay G lev b own maxL ret (pc + 1) lv (.int x :: st) M f) : Sim Qf l lay G lev b own maxL ret pc lv st M f := by
  intro res hf p e s m args below meth c H locs ls Cc hP hS hl
  obtain ⟨hx, hb, hml, hown, hts, hr, hK, hE, hlo, hI⟩ := id Cc
  exact lv_iload_n hx hb d hi (lv_at hl k hk) (kk res hf p e s m args below meth c H locs ls Cc hP hS hl)
theorem s_iload {i : Nat} {x : Int32} (k : Nat) (d : decode b pc = .ok (.iload i, 2)) (hk : lv[k]? = some (i, .int x)) (kk : Sim Qf l lay G lev b own maxL ret (pc + 2) lv (.int x :: st) M f) : Sim Qf l lay G lev b own maxL ret pc lv st M f := by
  intro res hf p e s m args below meth c H locs ls Cc hP hS hl
  obtain ⟨hx, hb, hml, hown, hts, hr, hK, hE, hlo, hI⟩ := id Cc
  exact lv_iload hx hb d (lv_at hl k hk) (kk res hf p e s m args below meth c H locs ls Cc hP hS hl)
theorem s_aload_n {n : Fin 4} {i : Nat} {x : Nat} (k : Nat) (d : decode b pc = .ok (.aload_n n, 1)) (hi : (n : Nat) = i) (hk : lv[k]? = some (i, .ref x)) (kk : Sim Qf l lay G lev b own maxL ret (pc + 1) lv (.ref x :: st) M f) : Sim Qf l lay G lev b own maxL ret pc lv st M f := by
  intro res hf p e s m args below meth c H locs ls Cc hP hS hl
  obtain ⟨hx, hb, hml, hown, hts, hr, hK, hE, hlo, hI⟩ := id Cc
  exact lv_aload_n hx hb d hi (lv_at hl k hk) (kk res hf p e s m args below meth c H locs ls Cc hP hS hl)
theorem s_aload {i : Nat} {x : Nat} (k : Nat) (d : decode b pc = .ok (.aload i, 2)) (hk : lv[k]? = some (i, .ref x)) (kk : Sim Qf l lay G lev b own maxL ret (pc + 2) lv (.ref x :: st) M f) : Sim Qf l lay G lev b own maxL ret pc lv st M f := by
  intro res hf p e s m args below meth c H locs ls Cc hP hS hl
  obtain ⟨hx, hb, hml, hown, hts, hr, hK, hE, hlo, hI⟩ := id Cc
  exact lv_aload hx hb d (lv_at hl k hk) (kk res hf p e s m args below meth c H locs ls Cc hP hS hl)
theorem s_lload_n {n : Fin 4} {i : Nat} {x : Int64} (k : Nat) (d : decode b pc = .ok (.lload_n n, 1)) (hi : (n : Nat) = i) (hk : lv[k]? = some (i, .long x)) (kk : Sim Qf l lay G lev b own maxL ret (pc + 1) lv (.long x :: st) M f) : Sim Qf l lay G lev b own maxL ret pc lv st M f := by
  intro res hf p e s m args below meth c H locs ls Cc hP hS hl
  obtain ⟨hx, hb, hml, hown, hts, hr, hK, hE, hlo, hI⟩ := id Cc
  exact lv_lload_n hx hb d hi (lv_at hl k hk) (kk res hf p e s m args below meth c H locs ls Cc hP hS hl)
theorem s_lload {i : Nat} {x : Int64} (k : Nat) (d : decode b pc = .ok (.lload i, 2)) (hk : lv[k]? = some (i, .long x)) (kk : Sim Qf l lay G lev b own maxL ret (pc + 2) lv (.long x :: st) M f) : Sim Qf l lay G lev b own maxL ret pc lv st M f := by
  intro res hf p e s m args below meth c H locs ls Cc hP hS hl
  obtain ⟨hx, hb, hml, hown, hts, hr, hK, hE, hlo, hI⟩ := id Cc
  exact lv_lload hx hb d (lv_at hl k hk) (kk res hf p e s m args below meth c H locs ls Cc hP hS hl)
theorem s_istore_n {n : Fin 4} {i : Nat} {x : Int32} {lv' : List (Nat × Value)} (d : decode b pc = .ok (.istore_n n, 1)) (hi : (n : Nat) = i) (hn : Nat.ble (i + 1) maxL = true) (hl' : (i, Value.int x) :: lv.filter (fun q => !(q.1 == i) && !(q.1 + 1 == i && q.2.category == 2)) = lv') (kk : Sim Qf l lay G lev b own maxL ret (pc + 1) lv' st M f) : Sim Qf l lay G lev b own maxL ret pc lv (.int x :: st) M f := by
  intro res hf p e s m args below meth c H locs ls Cc hP hS hl
  obtain ⟨hx, hb, hml, hown, hts, hr, hK, hE, hlo, hI⟩ := id Cc
  exact lv_istore_n hx hb d hi hl (Nat.le_of_ble_eq_true hn) hl' (fun ls hl => kk res hf p e s m args below meth c H locs ls Cc hP hS hl)
theorem s_istore {i : Nat} {x : Int32} {lv' : List (Nat × Value)} (d : decode b pc = .ok (.istore i, 2)) (hn : Nat.ble (i + 1) maxL = true) (hl' : (i, Value.int x) :: lv.filter (fun q => !(q.1 == i) && !(q.1 + 1 == i && q.2.category == 2)) = lv') (kk : Sim Qf l lay G lev b own maxL ret (pc + 2) lv' st M f) : Sim Qf l lay G lev b own maxL ret pc lv (.int x :: st) M f := by
  intro res hf p e s m args below meth c H locs ls Cc hP hS hl
  obtain ⟨hx, hb, hml, hown, hts, hr, hK, hE, hlo, hI⟩ := id Cc
  exact lv_istore hx hb d hl (Nat.le_of_ble_eq_true hn) hl' (fun ls hl => kk res hf p e s m args below meth c H locs ls Cc hP hS hl)
theorem s_astore_n {n : Fin 4} {i : Nat} {x : Nat} {lv' : List (Nat × Value)} (d : decode b pc = .ok (.astore_n n, 1)) (hi : (n : Nat) = i) (hn : Nat.ble (i + 1) maxL = true) (hl' : (i, Value.ref x) :: lv.filter (fun q => !(q.1 == i) && !(q.1 + 1 == i && q.2.category == 2)) = lv') (kk : Sim Qf l lay G lev b own maxL ret (pc + 1) lv' st M f) : Sim Qf l lay G lev b own maxL ret pc lv (.ref x :: st) M f := by
  intro res hf p e s m args below meth c H locs ls Cc hP hS hl
  obtain ⟨hx, hb, hml, hown, hts, hr, hK, hE, hlo, hI⟩ := id Cc
  exact lv_astore_n hx hb d hi hl (Nat.le_of_ble_eq_true hn) hl' (fun ls hl => kk res hf p e s m args below meth c H locs ls Cc hP hS hl)
theorem s_astore {i : Nat} {x : Nat} {lv' : List (Nat × Value)} (d : decode b pc = .ok (.astore i, 2)) (hn : Nat.ble (i + 1) maxL = true) (hl' : (i, Value.ref x) :: lv.filter (fun q => !(q.1 == i) && !(q.1 + 1 == i && q.2.category == 2)) = lv') (kk : Sim Qf l lay G lev b own maxL ret (pc + 2) lv' st M f) : Sim Qf l lay G lev b own maxL ret pc lv (.ref x :: st) M f := by
  intro res hf p e s m args below meth c H locs ls Cc hP hS hl
  obtain ⟨hx, hb, hml, hown, hts, hr, hK, hE, hlo, hI⟩ := id Cc
  exact lv_astore hx hb d hl (Nat.le_of_ble_eq_true hn) hl' (fun ls hl => kk res hf p e s m args below meth c H locs ls Cc hP hS hl)
theorem s_iinc {i k : Nat} {n : Int} {x v : Int32} {lv' : List (Nat × Value)} (d : decode b pc = .ok (.iinc i n, 3)) (hk : lv[k]? = some (i, .int x)) (hv : Int32.ofInt n = v) (hn : Nat.ble (i + 1) maxL = true) (hl' : (i, Value.int (x + v)) :: lv.filter (fun q => !(q.1 == i) && !(q.1 + 1 == i && q.2.category == 2)) = lv') (kk : Sim Qf l lay G lev b own maxL ret (pc + 3) lv' st M f) : Sim Qf l lay G lev b own maxL ret pc lv st M f := by
  intro res hf p e s m args below meth c H locs ls Cc hP hS hl
  obtain ⟨hx, hb, hml, hown, hts, hr, hK, hE, hlo, hI⟩ := id Cc
  exact lv_iinc hx hb d hl hk (by rw [hv]) (Nat.le_of_ble_eq_true hn) hl' (fun ls hl => kk res hf p e s m args below meth c H locs ls Cc hP hS hl)
theorem s_iadd {x y : Int32} (d : decode b pc = .ok (.iadd, 1)) (kk : Sim Qf l lay G lev b own maxL ret (pc + 1) lv (.int (x + y) :: st) M f) : Sim Qf l lay G lev b own maxL ret pc lv (.int y :: .int x :: st) M f := by
  intro res hf p e s m args below meth c H locs ls Cc hP hS hl
  obtain ⟨hx, hb, hml, hown, hts, hr, hK, hE, hlo, hI⟩ := id Cc
  exact lv_iadd hx hb d (kk res hf p e s m args below meth c H locs ls Cc hP hS hl)
theorem s_isub {x y : Int32} (d : decode b pc = .ok (.isub, 1)) (kk : Sim Qf l lay G lev b own maxL ret (pc + 1) lv (.int (x - y) :: st) M f) : Sim Qf l lay G lev b own maxL ret pc lv (.int y :: .int x :: st) M f := by
  intro res hf p e s m args below meth c H locs ls Cc hP hS hl
  obtain ⟨hx, hb, hml, hown, hts, hr, hK, hE, hlo, hI⟩ := id Cc
  exact lv_isub hx hb d (kk res hf p e s m args below meth c H locs ls Cc hP hS hl)
theorem s_imul {x y : Int32} (d : decode b pc = .ok (.imul, 1)) (kk : Sim Qf l lay G lev b own maxL ret (pc + 1) lv (.int (x * y) :: st) M f) : Sim Qf l lay G lev b own maxL ret pc lv (.int y :: .int x :: st) M f := by
  intro res hf p e s m args below meth c H locs ls Cc hP hS hl
  obtain ⟨hx, hb, hml, hown, hts, hr, hK, hE, hlo, hI⟩ := id Cc
  exact lv_imul hx hb d (kk res hf p e s m args below meth c H locs ls Cc hP hS hl)
theorem s_iand {x y : Int32} (d : decode b pc = .ok (.iand, 1)) (kk : Sim Qf l lay G lev b own maxL ret (pc + 1) lv (.int (x &&& y) :: st) M f) : Sim Qf l lay G lev b own maxL ret pc lv (.int y :: .int x :: st) M f := by
  intro res hf p e s m args below meth c H locs ls Cc hP hS hl
  obtain ⟨hx, hb, hml, hown, hts, hr, hK, hE, hlo, hI⟩ := id Cc
  exact lv_iand hx hb d (kk res hf p e s m args below meth c H locs ls Cc hP hS hl)
theorem s_ior {x y : Int32} (d : decode b pc = .ok (.ior, 1)) (kk : Sim Qf l lay G lev b own maxL ret (pc + 1) lv (.int (x ||| y) :: st) M f) : Sim Qf l lay G lev b own maxL ret pc lv (.int y :: .int x :: st) M f := by
  intro res hf p e s m args below meth c H locs ls Cc hP hS hl
  obtain ⟨hx, hb, hml, hown, hts, hr, hK, hE, hlo, hI⟩ := id Cc
  exact lv_ior hx hb d (kk res hf p e s m args below meth c H locs ls Cc hP hS hl)
theorem s_ixor {x y : Int32} (d : decode b pc = .ok (.ixor, 1)) (kk : Sim Qf l lay G lev b own maxL ret (pc + 1) lv (.int (x ^^^ y) :: st) M f) : Sim Qf l lay G lev b own maxL ret pc lv (.int y :: .int x :: st) M f := by
  intro res hf p e s m args below meth c H locs ls Cc hP hS hl
  obtain ⟨hx, hb, hml, hown, hts, hr, hK, hE, hlo, hI⟩ := id Cc
  exact lv_ixor hx hb d (kk res hf p e s m args below meth c H locs ls Cc hP hS hl)
theorem s_ishl {x y : Int32} (d : decode b pc = .ok (.ishl, 1)) (kk : Sim Qf l lay G lev b own maxL ret (pc + 1) lv (.int (x <<< (y &&& 31)) :: st) M f) : Sim Qf l lay G lev b own maxL ret pc lv (.int y :: .int x :: st) M f := by
  intro res hf p e s m args below meth c H locs ls Cc hP hS hl
  obtain ⟨hx, hb, hml, hown, hts, hr, hK, hE, hlo, hI⟩ := id Cc
  exact lv_ishl hx hb d (kk res hf p e s m args below meth c H locs ls Cc hP hS hl)
theorem s_ishr {x y : Int32} (d : decode b pc = .ok (.ishr, 1)) (kk : Sim Qf l lay G lev b own maxL ret (pc + 1) lv (.int (x >>> (y &&& 31)) :: st) M f) : Sim Qf l lay G lev b own maxL ret pc lv (.int y :: .int x :: st) M f := by
  intro res hf p e s m args below meth c H locs ls Cc hP hS hl
  obtain ⟨hx, hb, hml, hown, hts, hr, hK, hE, hlo, hI⟩ := id Cc
  exact lv_ishr hx hb d (kk res hf p e s m args below meth c H locs ls Cc hP hS hl)
theorem s_idiv {x y : Int32} (d : decode b pc = .ok (.idiv, 1)) (hne : nz y = true) (kk : Sim Qf l lay G lev b own maxL ret (pc + 1) lv (.int (x / y) :: st) M f) : Sim Qf l lay G lev b own maxL ret pc lv (.int y :: .int x :: st) M f := by
  intro res hf p e s m args below meth c H locs ls Cc hP hS hl
  obtain ⟨hx, hb, hml, hown, hts, hr, hK, hE, hlo, hI⟩ := id Cc
  exact lv_idiv hx hb d (nz_ne hne) (kk res hf p e s m args below meth c H locs ls Cc hP hS hl)
theorem s_irem {x y : Int32} (d : decode b pc = .ok (.irem, 1)) (hne : nz y = true) (kk : Sim Qf l lay G lev b own maxL ret (pc + 1) lv (.int (x - x / y * y) :: st) M f) : Sim Qf l lay G lev b own maxL ret pc lv (.int y :: .int x :: st) M f := by
  intro res hf p e s m args below meth c H locs ls Cc hP hS hl
  obtain ⟨hx, hb, hml, hown, hts, hr, hK, hE, hlo, hI⟩ := id Cc
  exact lv_irem hx hb d (nz_ne hne) (kk res hf p e s m args below meth c H locs ls Cc hP hS hl)
theorem s_ineg {x : Int32} (d : decode b pc = .ok (.ineg, 1)) (kk : Sim Qf l lay G lev b own maxL ret (pc + 1) lv (.int (-x) :: st) M f) : Sim Qf l lay G lev b own maxL ret pc lv (.int x :: st) M f := by
  intro res hf p e s m args below meth c H locs ls Cc hP hS hl
  obtain ⟨hx, hb, hml, hown, hts, hr, hK, hE, hlo, hI⟩ := id Cc
  exact lv_ineg hx hb d (kk res hf p e s m args below meth c H locs ls Cc hP hS hl)
theorem s_iushr {x y : Int32} (d : decode b pc = .ok (.iushr, 1)) (kk : Sim Qf l lay G lev b own maxL ret (pc + 1) lv (.int ((x.toUInt32 >>> (y.toUInt32 &&& Int32.toUInt32 31)).toInt32) :: st) M f) : Sim Qf l lay G lev b own maxL ret pc lv (.int y :: .int x :: st) M f := by
  intro res hf p e s m args below meth c H locs ls Cc hP hS hl
  obtain ⟨hx, hb, hml, hown, hts, hr, hK, hE, hlo, hI⟩ := id Cc
  exact lv_iushr hx hb d rfl (kk res hf p e s m args below meth c H locs ls Cc hP hS hl)
theorem s_land {x y : Int64} (d : decode b pc = .ok (.land, 1)) (kk : Sim Qf l lay G lev b own maxL ret (pc + 1) lv (.long (x &&& y) :: st) M f) : Sim Qf l lay G lev b own maxL ret pc lv (.long y :: .long x :: st) M f := by
  intro res hf p e s m args below meth c H locs ls Cc hP hS hl
  obtain ⟨hx, hb, hml, hown, hts, hr, hK, hE, hlo, hI⟩ := id Cc
  exact lv_land hx hb d (kk res hf p e s m args below meth c H locs ls Cc hP hS hl)
theorem s_lmul {x y : Int64} (d : decode b pc = .ok (.lmul, 1)) (kk : Sim Qf l lay G lev b own maxL ret (pc + 1) lv (.long (x * y) :: st) M f) : Sim Qf l lay G lev b own maxL ret pc lv (.long y :: .long x :: st) M f := by
  intro res hf p e s m args below meth c H locs ls Cc hP hS hl
  obtain ⟨hx, hb, hml, hown, hts, hr, hK, hE, hlo, hI⟩ := id Cc
  exact lv_lmul hx hb d (kk res hf p e s m args below meth c H locs ls Cc hP hS hl)
theorem s_ldiv {x y : Int64} (d : decode b pc = .ok (.ldiv, 1)) (hne : (!(decide (y = 0))) = true) (kk : Sim Qf l lay G lev b own maxL ret (pc + 1) lv (.long (x / y) :: st) M f) : Sim Qf l lay G lev b own maxL ret pc lv (.long y :: .long x :: st) M f := by
  intro res hf p e s m args below meth c H locs ls Cc hP hS hl
  obtain ⟨hx, hb, hml, hown, hts, hr, hK, hE, hlo, hI⟩ := id Cc
  exact lv_ldiv hx hb d (by simpa using hne) (kk res hf p e s m args below meth c H locs ls Cc hP hS hl)
theorem s_lushr {x : Int64} {y : Int32} (d : decode b pc = .ok (.lushr, 1)) (kk : Sim Qf l lay G lev b own maxL ret (pc + 1) lv (.long ((x.toUInt64 >>> (y.toInt64.toUInt64 &&& Int64.toUInt64 63)).toInt64) :: st) M f) : Sim Qf l lay G lev b own maxL ret pc lv (.int y :: .long x :: st) M f := by
  intro res hf p e s m args below meth c H locs ls Cc hP hS hl
  obtain ⟨hx, hb, hml, hown, hts, hr, hK, hE, hlo, hI⟩ := id Cc
  exact lv_lushr hx hb d rfl (kk res hf p e s m args below meth c H locs ls Cc hP hS hl)
theorem s_lshr {x : Int64} {y : Int32} (d : decode b pc = .ok (.lshr, 1)) (kk : Sim Qf l lay G lev b own maxL ret (pc + 1) lv (.long (x >>> (y.toInt64 &&& 63)) :: st) M f) : Sim Qf l lay G lev b own maxL ret pc lv (.int y :: .long x :: st) M f := by
  intro res hf p e s m args below meth c H locs ls Cc hP hS hl
  obtain ⟨hx, hb, hml, hown, hts, hr, hK, hE, hlo, hI⟩ := id Cc
  exact lv_lshr hx hb d rfl (kk res hf p e s m args below meth c H locs ls Cc hP hS hl)
theorem s_i2l {x : Int32} (d : decode b pc = .ok (.i2l, 1)) (kk : Sim Qf l lay G lev b own maxL ret (pc + 1) lv (.long x.toInt64 :: st) M f) : Sim Qf l lay G lev b own maxL ret pc lv (.int x :: st) M f := by
  intro res hf p e s m args below meth c H locs ls Cc hP hS hl
  obtain ⟨hx, hb, hml, hown, hts, hr, hK, hE, hlo, hI⟩ := id Cc
  exact lv_i2l hx hb d rfl (kk res hf p e s m args below meth c H locs ls Cc hP hS hl)
theorem s_l2i {x : Int64} (d : decode b pc = .ok (.l2i, 1)) (kk : Sim Qf l lay G lev b own maxL ret (pc + 1) lv (.int x.toInt32 :: st) M f) : Sim Qf l lay G lev b own maxL ret pc lv (.long x :: st) M f := by
  intro res hf p e s m args below meth c H locs ls Cc hP hS hl
  obtain ⟨hx, hb, hml, hown, hts, hr, hK, hE, hlo, hI⟩ := id Cc
  exact lv_l2i hx hb d rfl (kk res hf p e s m args below meth c H locs ls Cc hP hS hl)
theorem s_i2b {x : Int32} (d : decode b pc = .ok (.i2b, 1)) (kk : Sim Qf l lay G lev b own maxL ret (pc + 1) lv (.int (x.toInt8.toInt32) :: st) M f) : Sim Qf l lay G lev b own maxL ret pc lv (.int x :: st) M f := by
  intro res hf p e s m args below meth c H locs ls Cc hP hS hl
  obtain ⟨hx, hb, hml, hown, hts, hr, hK, hE, hlo, hI⟩ := id Cc
  exact lv_i2b hx hb d rfl (kk res hf p e s m args below meth c H locs ls Cc hP hS hl)
theorem s_i2s {x : Int32} (d : decode b pc = .ok (.i2s, 1)) (kk : Sim Qf l lay G lev b own maxL ret (pc + 1) lv (.int (x.toInt16.toInt32) :: st) M f) : Sim Qf l lay G lev b own maxL ret pc lv (.int x :: st) M f := by
  intro res hf p e s m args below meth c H locs ls Cc hP hS hl
  obtain ⟨hx, hb, hml, hown, hts, hr, hK, hE, hlo, hI⟩ := id Cc
  exact lv_i2s hx hb d rfl (kk res hf p e s m args below meth c H locs ls Cc hP hS hl)
theorem s_i2c {x : Int32} (d : decode b pc = .ok (.i2c, 1)) (kk : Sim Qf l lay G lev b own maxL ret (pc + 1) lv (.int ((x.toUInt32 % 65536).toInt32) :: st) M f) : Sim Qf l lay G lev b own maxL ret pc lv (.int x :: st) M f := by
  intro res hf p e s m args below meth c H locs ls Cc hP hS hl
  obtain ⟨hx, hb, hml, hown, hts, hr, hK, hE, hlo, hI⟩ := id Cc
  exact lv_i2c hx hb d rfl (kk res hf p e s m args below meth c H locs ls Cc hP hS hl)
theorem s_dup {v : Value} (d : decode b pc = .ok (.dup, 1)) (hc : v.category = 1) (kk : Sim Qf l lay G lev b own maxL ret (pc + 1) lv (v :: v :: st) M f) : Sim Qf l lay G lev b own maxL ret pc lv (v :: st) M f := by
  intro res hf p e s m args below meth c H locs ls Cc hP hS hl
  obtain ⟨hx, hb, hml, hown, hts, hr, hK, hE, hlo, hI⟩ := id Cc
  exact lv_dup hx hb d hc (kk res hf p e s m args below meth c H locs ls Cc hP hS hl)
theorem s_pop {v : Value} (d : decode b pc = .ok (.pop, 1)) (hc : v.category = 1) (kk : Sim Qf l lay G lev b own maxL ret (pc + 1) lv st M f) : Sim Qf l lay G lev b own maxL ret pc lv (v :: st) M f := by
  intro res hf p e s m args below meth c H locs ls Cc hP hS hl
  obtain ⟨hx, hb, hml, hown, hts, hr, hK, hE, hlo, hI⟩ := id Cc
  exact lv_pop hx hb d hc (kk res hf p e s m args below meth c H locs ls Cc hP hS hl)
theorem s_dup2 {v w : Value} (d : decode b pc = .ok (.dup2, 1)) (hc : v.category = 1) (hd : w.category = 1) (kk : Sim Qf l lay G lev b own maxL ret (pc + 1) lv (v :: w :: v :: w :: st) M f) : Sim Qf l lay G lev b own maxL ret pc lv (v :: w :: st) M f := by
  intro res hf p e s m args below meth c H locs ls Cc hP hS hl
  obtain ⟨hx, hb, hml, hown, hts, hr, hK, hE, hlo, hI⟩ := id Cc
  exact lv_dup2_11 hx hb d hc hd (kk res hf p e s m args below meth c H locs ls Cc hP hS hl)
theorem s_ifeq {x : Int32} {off : Int} {tgt : Nat} {f1 f2 : Option (β × Mm)} (d : decode b pc = .ok (.ifCond .eq off, 3)) (ht : (pc : Int) + off = (tgt : Int)) (kt : Sim Qf l lay G lev b own maxL ret tgt lv st M f1) (kf : Sim Qf l lay G lev b own maxL ret (pc + 3) lv st M f2) : Sim Qf l lay G lev b own maxL ret pc lv (.int x :: st) M (if x = 0 then f1 else f2) := by
  intro res hf p e s m args below meth c H locs ls Cc hP hS hl
  obtain ⟨hx, hb, hml, hown, hts, hr, hK, hE, hlo, hI⟩ := id Cc
  refine lv_if_eq hx hb d ht (fun h => kt res ?_ p e s m args below meth c H locs ls Cc hP hS hl) (fun h => kf res ?_ p e s m args below meth c H locs ls Cc hP hS hl)
  · rw [if_pos h] at hf; exact hf
  · rw [if_neg h] at hf; exact hf
theorem s_ifne {x : Int32} {off : Int} {tgt : Nat} {f1 f2 : Option (β × Mm)} (d : decode b pc = .ok (.ifCond .ne off, 3)) (ht : (pc : Int) + off = (tgt : Int)) (kt : Sim Qf l lay G lev b own maxL ret tgt lv st M f1) (kf : Sim Qf l lay G lev b own maxL ret (pc + 3) lv st M f2) : Sim Qf l lay G lev b own maxL ret pc lv (.int x :: st) M (if x = 0 then f2 else f1) := by
  intro res hf p e s m args below meth c H locs ls Cc hP hS hl
  obtain ⟨hx, hb, hml, hown, hts, hr, hK, hE, hlo, hI⟩ := id Cc
  refine lv_if_ne hx hb d ht (fun h => kt res ?_ p e s m args below meth c H locs ls Cc hP hS hl) (fun h => kf res ?_ p e s m args below meth c H locs ls Cc hP hS hl)
  · rw [if_neg h] at hf; exact hf
  · rw [if_pos h] at hf; exact hf
theorem s_iflt {x : Int32} {off : Int} {tgt : Nat} {f1 f2 : Option (β × Mm)} (d : decode b pc = .ok (.ifCond .lt off, 3)) (ht : (pc : Int) + off = (tgt : Int)) (kt : Sim Qf l lay G lev b own maxL ret tgt lv st M f1) (kf : Sim Qf l lay G lev b own maxL ret (pc + 3) lv st M f2) : Sim Qf l lay G lev b own maxL ret pc lv (.int x :: st) M (if x < 0 then f1 else f2) := by
  intro res hf p e s m args below meth c H locs ls Cc hP hS hl
  obtain ⟨hx, hb, hml, hown, hts, hr, hK, hE, hlo, hI⟩ := id Cc
  refine lv_if_lt hx hb d ht (fun h => kt res ?_ p e s m args below meth c H locs ls Cc hP hS hl) (fun h => kf res ?_ p e s m args below meth c H locs ls Cc hP hS hl)
  · rw [if_pos h] at hf; exact hf
  · rw [if_neg h] at hf; exact hf
theorem s_ifge {x : Int32} {off : Int} {tgt : Nat} {f1 f2 : Option (β × Mm)} (d : decode b pc = .ok (.ifCond .ge off, 3)) (ht : (pc : Int) + off = (tgt : Int)) (kt : Sim Qf l lay G lev b own maxL ret tgt lv st M f1) (kf : Sim Qf l lay G lev b own maxL ret (pc + 3) lv st M f2) : Sim Qf l lay G lev b own maxL ret pc lv (.int x :: st) M (if 0 ≤ x then f1 else f2) := by
  intro res hf p e s m args below meth c H locs ls Cc hP hS hl
  obtain ⟨hx, hb, hml, hown, hts, hr, hK, hE, hlo, hI⟩ := id Cc
  refine lv_if_ge hx hb d ht (fun h => kt res ?_ p e s m args below meth c H locs ls Cc hP hS hl) (fun h => kf res ?_ p e s m args below meth c H locs ls Cc hP hS hl)
  · rw [if_pos h] at hf; exact hf
  · rw [if_neg h] at hf; exact hf
theorem s_ifgt {x : Int32} {off : Int} {tgt : Nat} {f1 f2 : Option (β × Mm)} (d : decode b pc = .ok (.ifCond .gt off, 3)) (ht : (pc : Int) + off = (tgt : Int)) (kt : Sim Qf l lay G lev b own maxL ret tgt lv st M f1) (kf : Sim Qf l lay G lev b own maxL ret (pc + 3) lv st M f2) : Sim Qf l lay G lev b own maxL ret pc lv (.int x :: st) M (if 0 < x then f1 else f2) := by
  intro res hf p e s m args below meth c H locs ls Cc hP hS hl
  obtain ⟨hx, hb, hml, hown, hts, hr, hK, hE, hlo, hI⟩ := id Cc
  refine lv_if_gt hx hb d ht (fun h => kt res ?_ p e s m args below meth c H locs ls Cc hP hS hl) (fun h => kf res ?_ p e s m args below meth c H locs ls Cc hP hS hl)
  · rw [if_pos h] at hf; exact hf
  · rw [if_neg h] at hf; exact hf
theorem s_ifle {x : Int32} {off : Int} {tgt : Nat} {f1 f2 : Option (β × Mm)} (d : decode b pc = .ok (.ifCond .le off, 3)) (ht : (pc : Int) + off = (tgt : Int)) (kt : Sim Qf l lay G lev b own maxL ret tgt lv st M f1) (kf : Sim Qf l lay G lev b own maxL ret (pc + 3) lv st M f2) : Sim Qf l lay G lev b own maxL ret pc lv (.int x :: st) M (if x ≤ 0 then f1 else f2) := by
  intro res hf p e s m args below meth c H locs ls Cc hP hS hl
  obtain ⟨hx, hb, hml, hown, hts, hr, hK, hE, hlo, hI⟩ := id Cc
  refine lv_if_le hx hb d ht (fun h => kt res ?_ p e s m args below meth c H locs ls Cc hP hS hl) (fun h => kf res ?_ p e s m args below meth c H locs ls Cc hP hS hl)
  · rw [if_pos h] at hf; exact hf
  · rw [if_neg h] at hf; exact hf
theorem s_icmpeq {x y : Int32} {off : Int} {tgt : Nat} {f1 f2 : Option (β × Mm)} (d : decode b pc = .ok (.if_icmp .eq off, 3)) (ht : (pc : Int) + off = (tgt : Int)) (kt : Sim Qf l lay G lev b own maxL ret tgt lv st M f1) (kf : Sim Qf l lay G lev b own maxL ret (pc + 3) lv st M f2) : Sim Qf l lay G lev b own maxL ret pc lv (.int y :: .int x :: st) M (if x = y then f1 else f2) := by
  intro res hf p e s m args below meth c H locs ls Cc hP hS hl
  obtain ⟨hx, hb, hml, hown, hts, hr, hK, hE, hlo, hI⟩ := id Cc
  refine lv_icmp_eq hx hb d ht (fun h => kt res ?_ p e s m args below meth c H locs ls Cc hP hS hl) (fun h => kf res ?_ p e s m args below meth c H locs ls Cc hP hS hl)
  · rw [if_pos h] at hf; exact hf
  · rw [if_neg h] at hf; exact hf
theorem s_icmpne {x y : Int32} {off : Int} {tgt : Nat} {f1 f2 : Option (β × Mm)} (d : decode b pc = .ok (.if_icmp .ne off, 3)) (ht : (pc : Int) + off = (tgt : Int)) (kt : Sim Qf l lay G lev b own maxL ret tgt lv st M f1) (kf : Sim Qf l lay G lev b own maxL ret (pc + 3) lv st M f2) : Sim Qf l lay G lev b own maxL ret pc lv (.int y :: .int x :: st) M (if x = y then f2 else f1) := by
  intro res hf p e s m args below meth c H locs ls Cc hP hS hl
  obtain ⟨hx, hb, hml, hown, hts, hr, hK, hE, hlo, hI⟩ := id Cc
  refine lv_icmp_ne hx hb d ht (fun h => kt res ?_ p e s m args below meth c H locs ls Cc hP hS hl) (fun h => kf res ?_ p e s m args below meth c H locs ls Cc hP hS hl)
  · rw [if_neg h] at hf; exact hf
  · rw [if_pos h] at hf; exact hf
theorem s_icmplt {x y : Int32} {off : Int} {tgt : Nat} {f1 f2 : Option (β × Mm)} (d : decode b pc = .ok (.if_icmp .lt off, 3)) (ht : (pc : Int) + off = (tgt : Int)) (kt : Sim Qf l lay G lev b own maxL ret tgt lv st M f1) (kf : Sim Qf l lay G lev b own maxL ret (pc + 3) lv st M f2) : Sim Qf l lay G lev b own maxL ret pc lv (.int y :: .int x :: st) M (if x < y then f1 else f2) := by
  intro res hf p e s m args below meth c H locs ls Cc hP hS hl
  obtain ⟨hx, hb, hml, hown, hts, hr, hK, hE, hlo, hI⟩ := id Cc
  refine lv_icmp_lt hx hb d ht (fun h => kt res ?_ p e s m args below meth c H locs ls Cc hP hS hl) (fun h => kf res ?_ p e s m args below meth c H locs ls Cc hP hS hl)
  · rw [if_pos h] at hf; exact hf
  · rw [if_neg h] at hf; exact hf
theorem s_icmpge {x y : Int32} {off : Int} {tgt : Nat} {f1 f2 : Option (β × Mm)} (d : decode b pc = .ok (.if_icmp .ge off, 3)) (ht : (pc : Int) + off = (tgt : Int)) (kt : Sim Qf l lay G lev b own maxL ret tgt lv st M f1) (kf : Sim Qf l lay G lev b own maxL ret (pc + 3) lv st M f2) : Sim Qf l lay G lev b own maxL ret pc lv (.int y :: .int x :: st) M (if y ≤ x then f1 else f2) := by
  intro res hf p e s m args below meth c H locs ls Cc hP hS hl
  obtain ⟨hx, hb, hml, hown, hts, hr, hK, hE, hlo, hI⟩ := id Cc
  refine lv_icmp_ge hx hb d ht (fun h => kt res ?_ p e s m args below meth c H locs ls Cc hP hS hl) (fun h => kf res ?_ p e s m args below meth c H locs ls Cc hP hS hl)
  · rw [if_pos h] at hf; exact hf
  · rw [if_neg h] at hf; exact hf
theorem s_icmpgt {x y : Int32} {off : Int} {tgt : Nat} {f1 f2 : Option (β × Mm)} (d : decode b pc = .ok (.if_icmp .gt off, 3)) (ht : (pc : Int) + off = (tgt : Int)) (kt : Sim Qf l lay G lev b own maxL ret tgt lv st M f1) (kf : Sim Qf l lay G lev b own maxL ret (pc + 3) lv st M f2) : Sim Qf l lay G lev b own maxL ret pc lv (.int y :: .int x :: st) M (if y < x then f1 else f2) := by
  intro res hf p e s m args below meth c H locs ls Cc hP hS hl
  obtain ⟨hx, hb, hml, hown, hts, hr, hK, hE, hlo, hI⟩ := id Cc
  refine lv_icmp_gt hx hb d ht (fun h => kt res ?_ p e s m args below meth c H locs ls Cc hP hS hl) (fun h => kf res ?_ p e s m args below meth c H locs ls Cc hP hS hl)
  · rw [if_pos h] at hf; exact hf
  · rw [if_neg h] at hf; exact hf
theorem s_icmple {x y : Int32} {off : Int} {tgt : Nat} {f1 f2 : Option (β × Mm)} (d : decode b pc = .ok (.if_icmp .le off, 3)) (ht : (pc : Int) + off = (tgt : Int)) (kt : Sim Qf l lay G lev b own maxL ret tgt lv st M f1) (kf : Sim Qf l lay G lev b own maxL ret (pc + 3) lv st M f2) : Sim Qf l lay G lev b own maxL ret pc lv (.int y :: .int x :: st) M (if x ≤ y then f1 else f2) := by
  intro res hf p e s m args below meth c H locs ls Cc hP hS hl
  obtain ⟨hx, hb, hml, hown, hts, hr, hK, hE, hlo, hI⟩ := id Cc
  refine lv_icmp_le hx hb d ht (fun h => kt res ?_ p e s m args below meth c H locs ls Cc hP hS hl) (fun h => kf res ?_ p e s m args below meth c H locs ls Cc hP hS hl)
  · rw [if_pos h] at hf; exact hf
  · rw [if_neg h] at hf; exact hf
theorem s_ifeqB {r : Bool} {off : Int} {tgt : Nat} {f1 f2 : Option (β × Mm)} (d : decode b pc = .ok (.ifCond .eq off, 3)) (ht : (pc : Int) + off = (tgt : Int)) (kt : Sim Qf l lay G lev b own maxL ret tgt lv st M f1) (kf : Sim Qf l lay G lev b own maxL ret (pc + 3) lv st M f2) : Sim Qf l lay G lev b own maxL ret pc lv (.int (bi r) :: st) M (if r = true then f2 else f1) := by
  cases r with
  | true => exact fun res hf => s_ifeq (f1 := f1) (f2 := f2) d ht kt kf res (by rw [if_neg (by decide)]; exact hf)
  | false => exact fun res hf => s_ifeq (f1 := f1) (f2 := f2) d ht kt kf res (by rw [if_pos (by decide)]; exact hf)
theorem s_ifneB {r : Bool} {off : Int} {tgt : Nat} {f1 f2 : Option (β × Mm)} (d : decode b pc = .ok (.ifCond .ne off, 3)) (ht : (pc : Int) + off = (tgt : Int)) (kt : Sim Qf l lay G lev b own maxL ret tgt lv st M f1) (kf : Sim Qf l lay G lev b own maxL ret (pc + 3) lv st M f2) : Sim Qf l lay G lev b own maxL ret pc lv (.int (bi r) :: st) M (if r = true then f1 else f2) := by
  cases r with
  | true => exact fun res hf => s_ifne (f1 := f1) (f2 := f2) d ht kt kf res (by rw [if_neg (by decide)]; exact hf)
  | false => exact fun res hf => s_ifne (f1 := f1) (f2 := f2) d ht kt kf res (by rw [if_pos (by decide)]; exact hf)
theorem s_goto {off : Int} {tgt : Nat} (d : decode b pc = .ok (.goto off, 3)) (ht : (pc : Int) + off = (tgt : Int)) (kk : Sim Qf l lay G lev b own maxL ret tgt lv st M f) : Sim Qf l lay G lev b own maxL ret pc lv st M f := by
  intro res hf p e s m args below meth c H locs ls Cc hP hS hl
  obtain ⟨hx, hb, hml, hown, hts, hr, hK, hE, hlo, hI⟩ := id Cc
  exact lv_goto hx hb d ht (kk res hf p e s m args below meth c H locs ls Cc hP hS hl)
/-- where a lookup of x goes, the program f going on there -/
def LK {β : Type} (Qf : List Sh → Gx → (β × Mm) → Array Value → State → Outcome → State → Prop) (l : Launch) (lay : List Sh) (G : Gx) (lev : Nat) (b : ByteArray) (own : String) (maxL : Nat) (ret : Option FieldType) (pc : Nat) (lv : List (Nat × Value)) (st : List Value) (M : Mm) (x : Int32) (ps : List (Int × Int)) (dflt : Int) (f : Option (β × Mm)) : Prop :=
  ∀ tgt : Nat, (pc : Int) + Op.lookupswitch.offset ps dflt x.toInt = (tgt : Int) → Sim Qf l lay G lev b own maxL ret tgt lv st M f
theorem lk_cons {x k : Int32} {a o d : Int} {r : List (Int × Int)} {tgt : Nat} {f1 f2 : Option (β × Mm)} (hk : k.toInt = a) (ht : (pc : Int) + o = (tgt : Int)) (h1 : Sim Qf l lay G lev b own maxL ret tgt lv st M f1) (h2 : LK Qf l lay G lev b own maxL ret pc lv st M x r d f2) : LK Qf l lay G lev b own maxL ret pc lv st M x ((a, o) :: r) d (if x = k then f1 else f2) := by
  intro t2 h
  by_cases hx : x = k
  · rw [if_pos hx]
    have e : Op.lookupswitch.offset ((a, o) :: r) d x.toInt = o := by
      rw [hx, hk]; simp [Op.lookupswitch.offset]
    rw [e] at h
    have : tgt = t2 := by omega
    subst this
    exact h1
  · rw [if_neg hx]
    rw [lv_osw hx hk] at h
    exact h2 t2 h
theorem lk_nil {x : Int32} {d : Int} {tgt : Nat} (ht : (pc : Int) + d = (tgt : Int)) (h : Sim Qf l lay G lev b own maxL ret tgt lv st M f) : LK Qf l lay G lev b own maxL ret pc lv st M x [] d f := by
  intro t2 h2
  have e : Op.lookupswitch.offset [] d x.toInt = d := by simp [Op.lookupswitch.offset]
  rw [e] at h2
  have : tgt = t2 := by omega
  subst this
  exact h
theorem s_lookup {dflt : Int} {ps : Array (Int × Int)} {len tgt : Nat} {x : Int32} (d : decode b pc = .ok (.lookupswitch dflt ps, len)) (hp : (ps.toList.zip (ps.toList.drop 1)).all (fun (a, next) => a.1 < next.1) = true) (hpos : ps.toList.all (fun a => decide (0 ≤ (pc : Int) + a.2)) = true) (hd : (pc : Int) + dflt = (tgt : Int)) (kk : LK Qf l lay G lev b own maxL ret pc lv st M x ps.toList dflt f) : Sim Qf l lay G lev b own maxL ret pc lv (.int x :: st) M f := by
  intro res hf p e s m args below meth c H locs ls Cc hP hS hl
  obtain ⟨hx, hb, hml, hown, hts, hr, hK, hE, hlo, hI⟩ := id Cc
  have hoff : ∃ t : Nat, (pc : Int) + Op.lookupswitch.offset ps.toList dflt x.toInt = (t : Int) := by
    generalize ps.toList = L at hpos
    clear hp kk
    induction L with
    | nil => exact ⟨tgt, by simpa [Op.lookupswitch.offset] using hd⟩
    | cons q r ih =>
      obtain ⟨a, o⟩ := q
      simp only [List.all_cons, Bool.and_eq_true, decide_eq_true_eq] at hpos
      by_cases h : x.toInt = a
      · refine ⟨((pc : Int) + o).toNat, ?_⟩
        have e : Op.lookupswitch.offset ((a, o) :: r) dflt x.toInt = o := by rw [h]; simp [Op.lookupswitch.offset]
        rw [e]; omega
      · obtain ⟨t, ht⟩ := ih hpos.2
        refine ⟨t, ?_⟩
        have e : Op.lookupswitch.offset ((a, o) :: r) dflt x.toInt = Op.lookupswitch.offset r dflt x.toInt := by
          simp only [Op.lookupswitch.offset]
          first | rw [if_neg (fun z => h z.symm)] | rw [if_neg h] | (split <;> first | rfl | (exfalso; simp_all))
        rw [e]; exact ht
  obtain ⟨t, ht⟩ := hoff
  exact lv_lookup hx hb d hp rfl ht (kk t ht res hf p e s m args below meth c H locs ls Cc hP hS hl)
/-- the offsets of a table as pairs -/
def tbp : Int → List Int → List (Int × Int)
  | _, [] => []
  | lo, o :: r => (lo, o) :: tbp (lo + 1) r
theorem tbp_out {x d : Int} : ∀ (offs : List Int) (lo : Int), (x < lo ∨ lo + offs.length ≤ x) → Op.lookupswitch.offset (tbp lo offs) d x = d
  | [], lo, _ => by simp [tbp, Op.lookupswitch.offset]
  | o :: r, lo, h => by
    have hne : ¬ x = lo := by simp only [List.length_cons] at h; omega
    have ih := tbp_out (x := x) (d := d) r (lo + 1) (by simp only [List.length_cons] at h; omega)
    simp only [tbp, Op.lookupswitch.offset]
    first | (rw [if_neg (fun z => hne z.symm)]; exact ih) | (rw [if_neg hne]; exact ih) | (split <;> first | exact ih | (exfalso; simp_all))
theorem tbp_in {x d o : Int} : ∀ (offs : List Int) (lo : Int), ¬ x < lo → offs[(x - lo).toNat]? = some o → Op.lookupswitch.offset (tbp lo offs) d x = o
  | [], lo, _, h => by simp at h
  | q :: r, lo, h1, h => by
    by_cases hx : x = lo
    · subst hx
      have e : (x - x).toNat = 0 := by omega
      rw [e] at h
      simp only [List.getElem?_cons_zero, Option.some.injEq] at h
      subst h
      simp [tbp, Op.lookupswitch.offset]
    · have e : (x - lo).toNat = (x - (lo + 1)).toNat + 1 := by omega
      rw [e, List.getElem?_cons_succ] at h
      have ih := tbp_in (x := x) (d := d) (o := o) r (lo + 1) (by omega) h
      simp only [tbp, Op.lookupswitch.offset]
      first | (rw [if_neg (fun z => hx z.symm)]; exact ih) | (rw [if_neg hx]; exact ih) | (split <;> first | exact ih | (exfalso; simp_all))
theorem s_table {dflt lo hi : Int} {offs : Array Int} {len tgt : Nat} {x : Int32} (d : decode b pc = .ok (.tableswitch dflt lo hi offs, len)) (hh : hi + 1 = lo + offs.toList.length) (hpos : offs.toList.all (fun a => decide (0 ≤ (pc : Int) + a)) = true) (hd : (pc : Int) + dflt = (tgt : Int)) (kk : LK Qf l lay G lev b own maxL ret pc lv st M x (tbp lo offs.toList) dflt f) : Sim Qf l lay G lev b own maxL ret pc lv (.int x :: st) M f := by
  intro res hf p e s m args below meth c H locs ls Cc hP hS hl
  obtain ⟨hx, hb, hml, hown, hts, hr, hK, hE, hlo, hI⟩ := id Cc
  by_cases h1 : x.toInt < lo ∨ hi < x.toInt
  · have eo := tbp_out (x := x.toInt) (d := dflt) offs.toList lo (by omega)
    exact lv_tableOut hx hb d h1 hd (kk tgt (by rw [eo]; exact hd) res hf p e s m args below meth c H locs ls Cc hP hS hl)
  · have h2 : ¬ x.toInt < lo := fun z => h1 (Or.inl z)
    have h3 : ¬ hi < x.toInt := fun z => h1 (Or.inr z)
    have hlt : (x.toInt - lo).toNat < offs.toList.length := by omega
    have hget : offs[(x.toInt - lo).toNat]? = some (offs.toList[(x.toInt - lo).toNat]) := by
      rw [← Array.getElem?_toList, List.getElem?_eq_getElem hlt]
    have hmem := List.all_eq_true.mp hpos _ (List.getElem_mem hlt)
    simp only [decide_eq_true_eq] at hmem
    have eo := tbp_in (d := dflt) offs.toList lo h2 (List.getElem?_eq_getElem hlt)
    exact lv_tableIn (tgt := ((pc : Int) + offs.toList[(x.toInt - lo).toNat]).toNat) hx hb d h2 h3 hget (by omega) (kk _ (by rw [eo]; omega) res hf p e s m args below meth c H locs ls Cc hP hS hl)
theorem s_getI {ci j k idx n : Nat} {C : String} {T : u_T} (hc : isC lay k ci = true) (hcl : cls[ci]? = some (C, T, n)) (hin : ∀ w ∈ u_ws C T n, w ∈ tbG) (hj : (kd ci)[j]? = some false) (hjn : Nat.ble (j + 1) n = true) (hsm : (T j).1 = C) (d : decode b pc = .ok (.getfield idx, 3)) (hk : gw (.fieldLink own idx C (T j).2.1 (T j).2.2.1)) (kk : Sim Qf l lay G lev b own maxL ret (pc + 3) lv (.int (M k j) :: st) M f) : Sim Qf l lay G lev b own maxL ret pc lv (rf G k :: st) M f := by
  intro res hf p e s m args below meth c H locs ls Cc hP hS hl
  obtain ⟨hx, hb, hml, hown, hts, hr, hK, hE, hlo, hI⟩ := id Cc
  obtain ⟨fs, h1, h2⟩ := isC_spec hc
  have h3 := kd_int h2 hj
  exact va_get (D := G.1) (cl := cls) (C := C) (T := T) (N := n) hx hb hts hin hown hK hP k (WS_get h1) hcl j (Nat.le_of_ble_eq_true hjn) (hts _ (gw_in hk)) (fun _ z => by rw [hsm] at z; exact z) (v := .int (M k j)) (by rw [List.getElem?_mapIdx, h3]; rfl) d (kk res hf p e s m args below meth c H locs ls Cc hP hS hl)
theorem s_getR {ci j k idx n q : Nat} {C : String} {T : u_T} (hc : isC lay k ci = true) (hq : fR lay k j = q) (hcl : cls[ci]? = some (C, T, n)) (hin : ∀ w ∈ u_ws C T n, w ∈ tbG) (hj : (kd ci)[j]? = some true) (hjn : Nat.ble (j + 1) n = true) (hsm : (T j).1 = C) (d : decode b pc = .ok (.getfield idx, 3)) (hk : gw (.fieldLink own idx C (T j).2.1 (T j).2.2.1)) (kk : Sim Qf l lay G lev b own maxL ret (pc + 3) lv (rf G q :: st) M f) : Sim Qf l lay G lev b own maxL ret pc lv (rf G k :: st) M f := by
  intro res hf p e s m args below meth c H locs ls Cc hP hS hl
  obtain ⟨hx, hb, hml, hown, hts, hr, hK, hE, hlo, hI⟩ := id Cc
  obtain ⟨fs, h1, h2⟩ := isC_spec hc
  obtain ⟨q1, h3⟩ := kd_ref h2 hj
  have h4 : fR lay k j = q1 := by simp [fR, h1, h3]
  rw [hq] at h4
  subst h4
  exact va_get (D := G.1) (cl := cls) (C := C) (T := T) (N := n) hx hb hts hin hown hK hP k (WS_get h1) hcl j (Nat.le_of_ble_eq_true hjn) (hts _ (gw_in hk)) (fun _ z => by rw [hsm] at z; exact z) (v := rf G q) (by rw [List.getElem?_mapIdx, h3]; rfl) d (kk res hf p e s m args below meth c H locs ls Cc hP hS hl)
theorem s_putI {ci j k idx n : Nat} {C : String} {T : u_T} {v : Int32} {ty0 : Nat → FieldType} (hc : isC lay k ci = true) (hcl : cls[ci]? = some (C, T, n)) (hin : ∀ w ∈ u_ws C T n, w ∈ tbG) (hty : ∀ k, k < n → parseFieldDescriptor (T k).2.2.1 = some (ty0 k)) (hnm : ∀ a, a < n → ∀ b, b < n → a ≠ b → (T a).2.1 ≠ (T b).2.1) (hj : (kd ci)[j]? = some false) (hjn : Nat.ble (j + 1) n = true) (hsm : (T j).1 = C) (hfin : (T j).2.2.2 = false) (hnr : narrow (ty0 j) (.int v) = .int v) (hft : fits (ty0 j) (.int v) = true) (d : decode b pc = .ok (.putfield idx, 3)) (hk : gw (.fieldLink own idx C (T j).2.1 (T j).2.2.1)) (kk : Sim Qf l lay G lev b own maxL ret (pc + 3) lv st (wr M k j v) f) : Sim Qf l lay G lev b own maxL ret pc lv (.int v :: rf G k :: st) M f := by
  intro res hf p e s m args below meth c H locs ls Cc hP hS hl
  obtain ⟨hx, hb, hml, hown, hts, hr, hK, hE, hlo, hI⟩ := id Cc
  obtain ⟨fs, h1, h2⟩ := isC_spec hc
  have h3 := kd_int h2 hj
  have hj2 : j < n := Nat.le_of_ble_eq_true hjn
  refine va_put (D := G.1) (cl := cls) (C := C) (T := T) (N := n) hx hb hts hin ty0 hty hnm hown hK hP (WS_D hI) hS k (WS_get h1) hcl j hj2 (hts _ (gw_in hk)) (fun _ z => by rw [hsm] at z; exact z) hfin (ty := ty0 j) (v := .int v) (hty j hj2) hnr hft (by rw [List.length_mapIdx]; exact (List.getElem?_eq_some_iff.mp h3).1) d (fun H1 locs1 hP1 hD1 hS1 => kk res hf p e s m args below meth c H1 locs1 ls Cc ?_ hS1 hl)
  rw [fdv_set h3] at hP1
  have e9 := WS_set (G := G) (M := M) (upd (M k) j v) h1
  simp only [cel] at e9
  rw [e9] at hP1
  exact hP1
theorem s_getIN {ci j k idx n : Nat} {C : String} {T : u_T} {host : String} (hc : isC lay k ci = true) (hcl : cls[ci]? = some (C, T, n)) (hin : ∀ w ∈ u_ws C T n, w ∈ tbG) (hj : (kd ci)[j]? = some false) (hjn : Nat.ble (j + 1) n = true) (hsm : (T j).1 = C) (d : decode b pc = .ok (.getfield idx, 3)) (hk : nw (.fieldLinkNest own idx C (T j).2.1 (T j).2.2.1 host)) (kk : Sim Qf l lay G lev b own maxL ret (pc + 3) lv (.int (M k j) :: st) M f) : Sim Qf l lay G lev b own maxL ret pc lv (rf G k :: st) M f := by
  intro res hf p e s m args below meth c H locs ls Cc hP hS hl
  obtain ⟨hx, hb, hml, hown, hts, hr, hK, hE, hlo, hI⟩ := id Cc
  obtain ⟨fs, h1, h2⟩ := isC_spec hc
  have h3 := kd_int h2 hj
  exact va_getN (D := G.1) (cl := cls) (C := C) (T := T) (N := n) hx hb hts hin hown hK hP k (WS_get h1) hcl j (Nat.le_of_ble_eq_true hjn) (va_Nw.use rfl (hE.1 _ hk)) (fun _ z => by rw [hsm] at z; exact z) (v := .int (M k j)) (by rw [List.getElem?_mapIdx, h3]; rfl) d (kk res hf p e s m args below meth c H locs ls Cc hP hS hl)
theorem s_getRN {ci j k idx n q : Nat} {C : String} {T : u_T} {host : String} (hc : isC lay k ci = true) (hq : fR lay k j = q) (hcl : cls[ci]? = some (C, T, n)) (hin : ∀ w ∈ u_ws C T n, w ∈ tbG) (hj : (kd ci)[j]? = some true) (hjn : Nat.ble (j + 1) n = true) (hsm : (T j).1 = C) (d : decode b pc = .ok (.getfield idx, 3)) (hk : nw (.fieldLinkNest own idx C (T j).2.1 (T j).2.2.1 host)) (kk : Sim Qf l lay G lev b own maxL ret (pc + 3) lv (rf G q :: st) M f) : Sim Qf l lay G lev b own maxL ret pc lv (rf G k :: st) M f := by
  intro res hf p e s m args below meth c H locs ls Cc hP hS hl
  obtain ⟨hx, hb, hml, hown, hts, hr, hK, hE, hlo, hI⟩ := id Cc
  obtain ⟨fs, h1, h2⟩ := isC_spec hc
  obtain ⟨q1, h3⟩ := kd_ref h2 hj
  have h4 : fR lay k j = q1 := by simp [fR, h1, h3]
  rw [hq] at h4
  subst h4
  exact va_getN (D := G.1) (cl := cls) (C := C) (T := T) (N := n) hx hb hts hin hown hK hP k (WS_get h1) hcl j (Nat.le_of_ble_eq_true hjn) (va_Nw.use rfl (hE.1 _ hk)) (fun _ z => by rw [hsm] at z; exact z) (v := rf G q) (by rw [List.getElem?_mapIdx, h3]; rfl) d (kk res hf p e s m args below meth c H locs ls Cc hP hS hl)
theorem s_putIN {ci j k idx n : Nat} {C : String} {T : u_T} {host : String} {v : Int32} {ty0 : Nat → FieldType} (hc : isC lay k ci = true) (hcl : cls[ci]? = some (C, T, n)) (hin : ∀ w ∈ u_ws C T n, w ∈ tbG) (hty : ∀ k, k < n → parseFieldDescriptor (T k).2.2.1 = some (ty0 k)) (hnm : ∀ a, a < n → ∀ b, b < n → a ≠ b → (T a).2.1 ≠ (T b).2.1) (hj : (kd ci)[j]? = some false) (hjn : Nat.ble (j + 1) n = true) (hsm : (T j).1 = C) (hfin : (T j).2.2.2 = false) (hnr : narrow (ty0 j) (.int v) = .int v) (hft : fits (ty0 j) (.int v) = true) (d : decode b pc = .ok (.putfield idx, 3)) (hk : nw (.fieldLinkNest own idx C (T j).2.1 (T j).2.2.1 host)) (kk : Sim Qf l lay G lev b own maxL ret (pc + 3) lv st (wr M k j v) f) : Sim Qf l lay G lev b own maxL ret pc lv (.int v :: rf G k :: st) M f := by
  intro res hf p e s m args below meth c H locs ls Cc hP hS hl
  obtain ⟨hx, hb, hml, hown, hts, hr, hK, hE, hlo, hI⟩ := id Cc
  obtain ⟨fs, h1, h2⟩ := isC_spec hc
  have h3 := kd_int h2 hj
  have hj2 : j < n := Nat.le_of_ble_eq_true hjn
  refine va_putN (D := G.1) (cl := cls) (C := C) (T := T) (N := n) hx hb hts hin ty0 hty hnm hown hK hP (WS_D hI) hS k (WS_get h1) hcl j hj2 (va_Nw.use rfl (hE.1 _ hk)) (fun _ z => by rw [hsm] at z; exact z) hfin (ty := ty0 j) (v := .int v) (hty j hj2) hnr hft (by rw [List.length_mapIdx]; exact (List.getElem?_eq_some_iff.mp h3).1) d (fun H1 locs1 hP1 hD1 hS1 => kk res hf p e s m args below meth c H1 locs1 ls Cc ?_ hS1 hl)
  rw [fdv_set h3] at hP1
  have e9 := WS_set (G := G) (M := M) (upd (M k) j v) h1
  simp only [cel] at e9
  rw [e9] at hP1
  exact hP1
theorem s_iald {k n : Nat} {i : Int32} (ha : isN lay k n = true) (hi : inb i n = true) (d : decode b pc = .ok (.iaload, 1)) (kk : Sim Qf l lay G lev b own maxL ret (pc + 1) lv (.int (M k i.toNatClampNeg) :: st) M f) : Sim Qf l lay G lev b own maxL ret pc lv (.int i :: rf G k :: st) M f := by
  intro res hf p e s m args below meth c H locs ls Cc hP hS hl
  obtain ⟨hx, hb, hml, hown, hts, hr, hK, hE, hlo, hI⟩ := id Cc
  exact va_iald (D := G.1) (cl := cls) hx hb hK hP k 0 (WS_get (isN_spec ha)) rfl (inb_vp hi) d (kk res hf p e s m args below meth c H locs ls Cc hP hS hl)
theorem s_iast {k n : Nat} {i x : Int32} (ha : isN lay k n = true) (hi : inb i n = true) (d : decode b pc = .ok (.iastore, 1)) (kk : Sim Qf l lay G lev b own maxL ret (pc + 1) lv st (wr M k i.toNatClampNeg x) f) : Sim Qf l lay G lev b own maxL ret pc lv (.int x :: .int i :: rf G k :: st) M f := by
  intro res hf p e s m args below meth c H locs ls Cc hP hS hl
  obtain ⟨hx, hb, hml, hown, hts, hr, hK, hE, hlo, hI⟩ := id Cc
  refine va_iast (D := G.1) (cl := cls) hx hb hK hP (WS_D hI) hS k 0 (WS_get (isN_spec ha)) rfl (inb_vp hi) d (fun H1 locs1 hP1 hD1 hS1 => kk res hf p e s m args below meth c H1 locs1 ls Cc ?_ hS1 hl)
  have e9 := WS_set (G := G) (M := M) (upd (M k) i.toNatClampNeg x) (isN_spec ha)
  simp only [cel] at e9
  rw [e9] at hP1
  exact hP1
theorem s_alen {k n : Nat} {v : Int32} (ha : isN lay k n = true) (hv : Int32.ofNat n = v) (d : decode b pc = .ok (.arraylength, 1)) (kk : Sim Qf l lay G lev b own maxL ret (pc + 1) lv (.int v :: st) M f) : Sim Qf l lay G lev b own maxL ret pc lv (rf G k :: st) M f := by
  intro res hf p e s m args below meth c H locs ls Cc hP hS hl
  obtain ⟨hx, hb, hml, hown, hts, hr, hK, hE, hlo, hI⟩ := id Cc
  exact va_alen (D := G.1) (cl := cls) hx hb hK hP k 0 (WS_get (isN_spec ha)) (ty := .int) rfl hv d (kk res hf p e s m args below meth c H locs ls Cc hP hS hl)
theorem s_aald {k t bs sd n : Nat} {i : Int32} {cn : String} (ha : isF lay k t bs sd n = true) (ht : (tys G)[t]? = some (G.2.1 t, .object cn)) (hi : inb i n = true) (d : decode b pc = .ok (.aaload, 1)) (kk : Sim Qf l lay G lev b own maxL ret (pc + 1) lv (rf G (bs + sd * i.toNatClampNeg) :: st) M f) : Sim Qf l lay G lev b own maxL ret pc lv (.int i :: rf G k :: st) M f := by
  intro res hf p e s m args below meth c H locs ls Cc hP hS hl
  obtain ⟨hx, hb, hml, hown, hts, hr, hK, hE, hlo, hI⟩ := id Cc
  exact va_aldq (D := G.1) (cl := cls) hx hb hK hP k t (WS_get (isF_spec ha)) ht (inb_vp hi) d (kk res hf p e s m args below meth c H locs ls Cc hP hS hl)
theorem s_copy {k0 n0 k1 n1 idx : Nat} {sp dp n : Int32} (h0 : isN lay k0 n0 = true) (h1 : isN lay k1 n1 = true) (hg : (!(decide (sp < 0)) && !(decide (dp < 0)) && !(decide (n < 0)) && decide (sp.toNatClampNeg + n.toNatClampNeg ≤ n0) && decide (dp.toNatClampNeg + n.toNatClampNeg ≤ n1)) = true) (hlv : Nat.ble 1 lev = true) (hst : st = []) (hk : gw (.methodLink own idx arraycopyName)) (hn : gw (.native arraycopyName)) (hs : gw (.static arraycopyName)) (hi : gw (.initialized "java/lang/System")) (d : decode b pc = .ok (.invokestatic idx, 3)) (kk : Sim Qf l lay G lev b own maxL ret (pc + 3) lv st (cpm M k0 sp.toNatClampNeg k1 dp.toNatClampNeg n.toNatClampNeg) f) : Sim Qf l lay G lev b own maxL ret pc lv (.int n :: .int dp :: rf G k1 :: .int sp :: rf G k0 :: st) M f := by
  intro res hf p e s m args below meth c H locs ls Cc hP hS hl
  obtain ⟨hx, hb, hml, hown, hts, hr, hK, hE, hlo, hI⟩ := id Cc
  simp only [Bool.and_eq_true, Bool.not_eq_true', decide_eq_false_iff_not, decide_eq_true_eq] at hg
  obtain ⟨⟨⟨⟨g1, g2⟩, g3⟩, g4⟩, g5⟩ := hg
  have hlv1 : 1 ≤ lev := Nat.le_of_ble_eq_true hlv
  subst hst
  refine va_copyi (D := G.1) (cl := cls) hx hb (hml.trans hl.1.symm) hown (hts _ (gw_in hk)) (hts _ (gw_in hn)) (hts _ (gw_in hs)) (hts _ (gw_in hi)) hK hP (WS_D hI) hS k0 k1 0 0 (WS_get (isN_spec h0)) (WS_get (isN_spec h1)) (ty := .int) rfl rfl rfl g1 g2 g3 g4 g5 (fun _ _ => rfl) hlv1 ?_ d (fun H1 locs1 hP1 hD1 hS1 => kk res hf p e s m args below meth c H1 locs1 ls Cc ?_ hS1 hl)
  · show 0 + _ ≤ 40 * lev
    have : nativeFrameWords "java/lang/System" "arraycopy" 5 + 11 ≤ 40 := by decide
    omega
  · have e9 := WS_set (G := G) (M := M) (va_cpy (M k0) (M k1) sp.toNatClampNeg dp.toNatClampNeg n.toNatClampNeg) (isN_spec h1)
    simp only [cel] at e9
    rw [e9] at hP1
    exact hP1
theorem s_getsA {idx : Nat} (hk : gw (.fieldLink own idx "IceType" "ABOVE" "[I")) (d : decode b pc = .ok (.getstatic idx, 3)) (kk : Sim Qf l lay G lev b own maxL ret (pc + 3) lv (xf G 0 :: st) M f) : Sim Qf l lay G lev b own maxL ret pc lv st M f := by
  intro res hf p e s m args below meth c H locs ls Cc hP hS hl
  obtain ⟨hx, hb, hml, hown, hts, hr, hK, hE, hlo, hI⟩ := id Cc
  exact va_gets hx hb hE.2.1 hS hown (hts _ (gw_in hk)) (fun _ z => z) d (kk res hf p e s m args below meth c H locs ls Cc hP hS hl)
theorem s_getsB {idx : Nat} (hk : gw (.fieldLink own idx "IceType$Voices" "BODIES" "[I")) (d : decode b pc = .ok (.getstatic idx, 3)) (kk : Sim Qf l lay G lev b own maxL ret (pc + 3) lv (xf G 1 :: st) M f) : Sim Qf l lay G lev b own maxL ret pc lv st M f := by
  intro res hf p e s m args below meth c H locs ls Cc hP hS hl
  obtain ⟨hx, hb, hml, hown, hts, hr, hK, hE, hlo, hI⟩ := id Cc
  exact va_gets hx hb hE.2.2.2.1 hS hown (hts _ (gw_in hk)) (fun _ z => z) d (kk res hf p e s m args below meth c H locs ls Cc hP hS hl)
theorem s_getsC {idx : Nat} (hk : gw (.fieldLink own idx "java/lang/String" "COMPACT_STRINGS" "Z")) (d : decode b pc = .ok (.getstatic idx, 3)) (kk : Sim Qf l lay G lev b own maxL ret (pc + 3) lv (.int 1 :: st) M f) : Sim Qf l lay G lev b own maxL ret pc lv st M f := by
  intro res hf p e s m args below meth c H locs ls Cc hP hS hl
  obtain ⟨hx, hb, hml, hown, hts, hr, hK, hE, hlo, hI⟩ := id Cc
  exact va_gets hx hb hE.2.2.2.2.2.1 hS hown (hts _ (gw_in hk)) (fun _ z => z) d (kk res hf p e s m args below meth c H locs ls Cc hP hS hl)
theorem s_sldA {i : Int32} (hi : inb i 7 = true) (d : decode b pc = .ok (.iaload, 1)) (kk : Sim Qf l lay G lev b own maxL ret (pc + 1) lv (.int (tabA i.toNatClampNeg) :: st) M f) : Sim Qf l lay G lev b own maxL ret pc lv (.int i :: xf G 0 :: st) M f := by
  intro res hf p e s m args below meth c H locs ls Cc hP hS hl
  obtain ⟨hx, hb, hml, hown, hts, hr, hK, hE, hlo, hI⟩ := id Cc
  exact va_ti hx hb hE.2.2.1 hS (inb_vp hi) rfl d (kk res hf p e s m args below meth c H locs ls Cc hP hS hl)
theorem s_sldB {i : Int32} (hi : inb i 28 = true) (d : decode b pc = .ok (.iaload, 1)) (kk : Sim Qf l lay G lev b own maxL ret (pc + 1) lv (.int (tabB i.toNatClampNeg) :: st) M f) : Sim Qf l lay G lev b own maxL ret pc lv (.int i :: xf G 1 :: st) M f := by
  intro res hf p e s m args below meth c H locs ls Cc hP hS hl
  obtain ⟨hx, hb, hml, hown, hts, hr, hK, hE, hlo, hI⟩ := id Cc
  exact va_ti hx hb hE.2.2.2.2.1 hS (inb_vp hi) rfl d (kk res hf p e s m args below meth c H locs ls Cc hP hS hl)
theorem s_gd {cnd : Bool} (kk : cnd = true → Sim Qf l lay G lev b own maxL ret pc lv st M f) : Sim Qf l lay G lev b own maxL ret pc lv st M (gd cnd f) := by
  intro res hf
  cases hc : cnd with
  | true => rw [hc] at hf; exact kk hc res hf
  | false => rw [hc] at hf; cases hf
theorem s_lt {α : Type} {x : α} {k : α → Option (β × Mm)} (kk : Sim Qf l lay G lev b own maxL ret pc lv st M (k x)) : Sim Qf l lay G lev b own maxL ret pc lv st M (lt x k) := kk
theorem s_leti {x : Int32} {k : Int32 → Option (β × Mm)} (kk : ∀ y : Int32, Sim Qf l lay G lev b own maxL ret pc lv (.int y :: st) M (k y)) : Sim Qf l lay G lev b own maxL ret pc lv (.int x :: st) M (lt x k) := kk x
theorem s_letM {k : Mm → Option (β × Mm)} (kk : ∀ N : Mm, Sim Qf l lay G lev b own maxL ret pc lv st N (k N)) : Sim Qf l lay G lev b own maxL ret pc lv st M (lt M k) := kk M
theorem s_none : Sim Qf l lay G lev b own maxL ret pc lv st M (none : Option (β × Mm)) := fun res hf => by cases hf
theorem s_iret {v : Int32} (hret : ret = some .int) (d : decode b pc = .ok (.ireturn, 1)) : Sim cQi l lay G lev b own maxL ret pc lv [.int v] M (some (v, M)) := by
  intro res hf p e s m args below meth c H locs ls Cc hP hS hl
  obtain ⟨hx, hb, hml, hown, hts, hr, hK, hE, hlo, hI⟩ := id Cc
  subst hret
  cases hf
  exact W.iret (v := v) hx hb hr (fun t ht hW => ⟨⟨v, M, rfl, rfl, by show va_P _ _ _ t.heap; rw [ht]; exact hP⟩, hS.F ht⟩) hS.2.2 d hlo
theorem s_zretB {r : Bool} (hret : ret = some .boolean) (d : decode b pc = .ok (.ireturn, 1)) : Sim cQz l lay G lev b own maxL ret pc lv [.int (bi r)] M (some (r, M)) := by
  intro res hf p e s m args below meth c H locs ls Cc hP hS hl
  obtain ⟨hx, hb, hml, hown, hts, hr, hK, hE, hlo, hI⟩ := id Cc
  subst hret
  cases hf
  exact W.zret (v := bi r) (ty := .boolean) hx hb hr (by cases r <;> rfl) (fun t ht hW => ⟨⟨bi r, M, rfl, ⟨rfl, rfl⟩, by show va_P _ _ _ t.heap; rw [ht]; exact hP⟩, hS.F ht⟩) hS.2.2 d hlo
theorem s_zret0 (hret : ret = some .boolean) (d : decode b pc = .ok (.ireturn, 1)) : Sim cQz l lay G lev b own maxL ret pc lv [.int 0] M (some (false, M)) := s_zretB (r := false) hret d
theorem s_zret1 (hret : ret = some .boolean) (d : decode b pc = .ok (.ireturn, 1)) : Sim cQz l lay G lev b own maxL ret pc lv [.int 1] M (some (true, M)) := s_zretB (r := true) hret d
theorem s_zretI {x : Int32} (hret : ret = some .boolean) (d : decode b pc = .ok (.ireturn, 1)) : Sim cQz l lay G lev b own maxL ret pc lv [.int x] M (gd (isb x) (some (decide (x = 1), M))) := by
  refine s_gd fun h => ?_
  simp only [isb, Bool.or_eq_true, decide_eq_true_eq] at h
  rcases h with rfl | rfl
  · exact s_zret0 hret d
  · exact s_zret1 hret d
theorem s_vret (hret : ret = none) (d : decode b pc = .ok (.return_, 1)) : Sim cQv l lay G lev b own maxL ret pc lv [] M (some ((), M)) := by
  intro res hf p e s m args below meth c H locs ls Cc hP hS hl
  obtain ⟨hx, hb, hml, hown, hts, hr, hK, hE, hlo, hI⟩ := id Cc
  subst hret
  cases hf
  exact W.vret hx hb hr (fun t ht hW => ⟨⟨M, rfl, rfl, by show va_P _ _ _ t.heap; rw [ht]; exact hP⟩, hS.F ht⟩) hS.2.2 d hlo
theorem s_aret {k : Nat} {cn : String} (hret : ret = some (.object cn)) (d : decode b pc = .ok (.areturn, 1)) : Sim cQr l lay G lev b own maxL ret pc lv [rf G k] M (some (k, M)) := by
  intro res hf p e s m args below meth c H locs ls Cc hP hS hl
  obtain ⟨hx, hb, hml, hown, hts, hr, hK, hE, hlo, hI⟩ := id Cc
  subst hret
  cases hf
  exact W.aret (v := rf G k) hx hb hr (Or.inl ⟨cn, rfl⟩) (Or.inr ⟨_, rfl⟩) (fun t ht hW => ⟨⟨(k, M), _, rfl, rfl, rfl, by rw [ht]; exact hP⟩, hS.F ht⟩) hS.2.2 d hlo
end SR
end
section
/-! CALLS: a callee's contract, its words, its frame. -/
def okC (y : MethodName) (b : ByteArray) (maxL : Nat) (ret : Option FieldType) (n : Nat) : Prop := gw (.code y b maxL ret) ∧ gw (.initialized y.cls) ∧ (y.cls ≠ "java/lang/invoke/MethodHandle" ∧ y.cls ≠ "java/lang/invoke/VarHandle" ∧ (parseMethodDescriptor y.desc).map (fun d => d.parameters.length) = some n) ∧ Nat.ble maxL 21 = true
def lkS (own : String) (idx : Nat) (y : MethodName) : Prop := gw (.methodLink own idx y) ∧ gw (.static y)
def lkV (own : String) (idx : Nat) (y : MethodName) (C : String) : Prop := gw (.methodLink own idx y) ∧ gw (.instanceMethod y) ∧ gw (.selects C y y)
def lkSN (own : String) (idx : Nat) (y : MethodName) (host : String) : Prop := nw (.methodLinkNest own idx y host) ∧ gw (.static y)
theorem wds_good {y : MethodName} {b : ByteArray} {maxL : Nat} {ret : Option FieldType} (h : gw (.code y b maxL ret)) : GoodIn tbG (wds y b maxL ret) := by
  intro w hw
  rcases List.mem_cons.mp hw with rfl | hw
  · exact ⟨gw_in h, good_of_word h.2⟩
  · exact ⟨hw, good_of_word (List.mem_filter.mp hw).2⟩
theorem rmm_ok {lev lev' maxL : Nat} (h : Nat.ble (lev' + 1) lev = true) (h2 : Nat.ble maxL 21 = true) : (rmm lev').frames + 1 ≤ (rmm lev).frames ∧ 8 + (maxL + 11) + (rmm lev').locals ≤ (rmm lev).locals := by
  have h1 := Nat.le_of_ble_eq_true h
  have h3 := Nat.le_of_ble_eq_true h2
  constructor
  · exact h1
  · show 8 + (maxL + 11) + 40 * lev' ≤ 40 * lev
    omega
section SC
variable {β : Type} {Qf : List Sh → Gx → (β × Mm) → Array Value → State → Outcome → State → Prop} {l : Launch} {lay : List Sh} {G : Gx} {lev : Nat} {b : ByteArray} {own : String} {maxL : Nat} {ret : Option FieldType} {pc : Nat} {lv : List (Nat × Value)} {st : List Value} {M : Mm} {f : Option (β × Mm)}
variable {γ : Type} {Qc : List Sh → Gx → (γ × Mm) → Array Value → State → Outcome → State → Prop} {lev' : Nat} {y : MethodName} {b' : ByteArray} {maxL' : Nat} {ret' : Option FieldType} {av : List Value} {fc : Option (γ × Mm)} {rest : List Value} {n idx : Nat}
/-- a call at pc runs, and comes back with what the callee's program gives -/
def RunP {γ : Type} (Qc : List Sh → Gx → (γ × Mm) → Array Value → State → Outcome → State → Prop) (l : Launch) (lay : List Sh) (G : Gx) (lev : Nat) (b : ByteArray) (own : String) (maxL : Nat) (ret : Option FieldType) (pc : Nat) (lv : List (Nat × Value)) (st rest : List Value) (M : Mm) (fc : Option (γ × Mm)) (a : Array Value) : Prop :=
  ∀ rc, fc = some rc → ∀ (p : Program) (e : Env) (s : State) (m : MethodId) (args : Array Value) (below : List Frame) (meth : Method) (c : Code) (H : Heap) (locs : List Loc) (ls : Array Slot), Cx p s m args meth c lay G b own maxL ret → va_P G.1 cls (WS lay G M) H → va_S (Rg lay G) s.heap H locs → lv_has ls maxL lv →
    va_Run p l e (rmm lev) s m args below meth c H locs 0 0 0 0 (F0 m pc ls st) rest (Qc lay G rc a) (Rg lay G)
theorem s_runS (hM : Mt Qc l lay G lev' y b' maxL' ret' av M fc) (ok : okC y b' maxL' ret' n) (lk : lkS own idx y) (hlev : Nat.ble (lev' + 1) lev = true) (hn : av.length = n) (hst : st = av.reverse ++ rest) (hr8 : Nat.ble ((rest.map fun v => v.category).sum) 8 = true) (d : decode b pc = .ok (.invokestatic idx, 3)) : RunP Qc l lay G lev b own maxL ret pc lv st rest M fc av.toArray := by
  intro rc hfc p e s m args below meth c H locs ls Cc hP hS hl
  obtain ⟨hx, hb, hml, hown, hts, hr, hK, hE, hlo, hI⟩ := id Cc
  obtain ⟨k1, k2, k3, k4⟩ := ok
  exact va_runS (As := av) (rest := rest) ⟨hx, hb, hml, hown, hts⟩ (hM rc hfc hI) ⟨callB_of n hts (wds_good k1) rfl rfl rfl (hts _ (gw_in k2)) (hts _ (gw_in lk.1)) k3 (rmm_ok hlev k4), hts _ (gw_in lk.2)⟩ ⟨cP_blind, fun U hU hW => ⟨rfl, by rw [hU]; exact hP, va_K.moved hW.alike hK, Ev_move hE hS hU hW⟩⟩ rfl hn hl.1 hst (lv_room (Nat.le_of_ble_eq_true hr8)) d ⟨Nat.le_refl 0, Nat.le_refl 0⟩
theorem s_runSN {host : String} (hM : Mt Qc l lay G lev' y b' maxL' ret' av M fc) (ok : okC y b' maxL' ret' n) (lk : lkSN own idx y host) (hlev : Nat.ble (lev' + 1) lev = true) (hn : av.length = n) (hst : st = av.reverse ++ rest) (hr8 : Nat.ble ((rest.map fun v => v.category).sum) 8 = true) (d : decode b pc = .ok (.invokestatic idx, 3)) : RunP Qc l lay G lev b own maxL ret pc lv st rest M fc av.toArray := by
  intro rc hfc p e s m args below meth c H locs ls Cc hP hS hl
  obtain ⟨hx, hb, hml, hown, hts, hr, hK, hE, hlo, hI⟩ := id Cc
  obtain ⟨k1, k2, k3, k4⟩ := ok
  exact va_runSN (As := av) (rest := rest) ⟨hx, hb, hml, hown, hts⟩ (hM rc hfc hI) ⟨va_cnB n hts (wds_good k1) rfl rfl rfl (hE.1 _ lk.1) (hts _ (gw_in k2)) k3 (rmm_ok hlev k4), hts _ (gw_in lk.2), trivial⟩ ⟨cP_blind, fun U hU hW => ⟨rfl, by rw [hU]; exact hP, va_K.moved hW.alike hK, Ev_move hE hS hU hW⟩⟩ rfl hn hl.1 hst (lv_room (Nat.le_of_ble_eq_true hr8)) d ⟨Nat.le_refl 0, Nat.le_refl 0⟩
theorem s_runV {k ci N : Nat} {C : String} {T : u_T} (hc : isC lay k ci = true) (hcl : cls[ci]? = some (C, T, N)) (hM : Mt Qc l lay G lev' y b' maxL' ret' (rf G k :: av) M fc) (ok : okC y b' maxL' ret' n) (lk : lkV own idx y C) (hlev : Nat.ble (lev' + 1) lev = true) (hn : av.length = n) (hst : st = av.reverse ++ rf G k :: rest) (hr8 : Nat.ble ((rest.map fun v => v.category).sum) 8 = true) (d : decode b pc = .ok (.invokevirtual idx, 3)) : RunP Qc l lay G lev b own maxL ret pc lv st rest M fc (rf G k :: av).toArray := by
  intro rc hfc p e s m args below meth c H locs ls Cc hP hS hl
  obtain ⟨hx, hb, hml, hown, hts, hr, hK, hE, hlo, hI⟩ := id Cc
  obtain ⟨k1, k2, k3, k4⟩ := ok
  obtain ⟨fs, h1, h2⟩ := isC_spec hc
  exact va_runV (As := av) (rest := rest) (C := C) ⟨hx, hb, hml, hown, hts⟩ (hM rc hfc hI) ⟨callB_of n hts (wds_good k1) rfl rfl rfl (hts _ (gw_in k2)) (hts _ (gw_in lk.1)) k3 (rmm_ok hlev k4), hts _ (gw_in lk.2.1), hts _ (gw_in lk.2.2)⟩ ⟨cP_blind, va_recv hK hP hcl (WS_get h1), fun U hU hW => ⟨rfl, by rw [hU]; exact hP, va_K.moved hW.alike hK, Ev_move hE hS hU hW⟩⟩ rfl hn hl.1 hst (lv_room (Nat.le_of_ble_eq_true hr8)) d ⟨Nat.le_refl 0, Nat.le_refl 0⟩
theorem bd_some {x : Option (γ × Mm)} {k : γ → Mm → Option (β × Mm)} {res : β × Mm} (h : bd x k = some res) : ∃ r N, x = some (r, N) ∧ k r N = some res := by
  cases x with
  | none => cases h
  | some q => exact ⟨q.1, q.2, rfl, h⟩
theorem s_call_i {fc : Option (Int32 × Mm)} {a : Array Value} {k : Int32 → Mm → Option (β × Mm)} (hR : RunP cQi l lay G lev b own maxL ret pc lv st rest M fc a) (kk : ∀ (r : Int32) (N : Mm), Sim Qf l lay G lev b own maxL ret (pc + 3) lv (.int r :: rest) N (k r N)) : Sim Qf l lay G lev b own maxL ret pc lv st M (bd fc k) := by
  intro res hf p e s m args below meth c H locs ls Cc hP hS hl
  obtain ⟨r0, N0, h1, h2⟩ := bd_some hf
  refine va_calli (hR (r0, N0) h1 p e s m args below meth c H locs ls Cc hP hS hl) hS (fun q _ h => h) (fun q h => h) (fun r u t H1 locs1 ht hvm hw hB hz1 hk1 hS1 => ?_)
  cases hw
  have hB : va_P G.1 cls (WS lay G N0) t.heap := hB
  rw [ht] at hB
  exact kk r0 N0 res h2 p e s m args below meth c H1 locs1 ls Cc hB hS1 hl
theorem s_call_z {fc : Option (Bool × Mm)} {a : Array Value} {k : Bool → Mm → Option (β × Mm)} (hR : RunP cQz l lay G lev b own maxL ret pc lv st rest M fc a) (kk : ∀ (r : Bool) (N : Mm), Sim Qf l lay G lev b own maxL ret (pc + 3) lv (.int (bi r) :: rest) N (k r N)) : Sim Qf l lay G lev b own maxL ret pc lv st M (bd fc k) := by
  intro res hf p e s m args below meth c H locs ls Cc hP hS hl
  obtain ⟨r0, N0, h1, h2⟩ := bd_some hf
  refine va_calli (hR (r0, N0) h1 p e s m args below meth c H locs ls Cc hP hS hl) hS (fun q _ h => h) (fun q h => h) (fun r u t H1 locs1 ht hvm hw hB hz1 hk1 hS1 => ?_)
  obtain ⟨hw1, hw2⟩ := hw
  have hw2 : u = N0 := hw2
  rw [hw1]
  have hB : va_P G.1 cls (WS lay G u) t.heap := hB
  rw [hw2] at hB
  rw [ht] at hB
  exact kk r0 N0 res h2 p e s m args below meth c H1 locs1 ls Cc hB hS1 hl
theorem s_call_v {fc : Option (Unit × Mm)} {a : Array Value} {k : Unit → Mm → Option (β × Mm)} (hR : RunP cQv l lay G lev b own maxL ret pc lv st rest M fc a) (kk : ∀ (r : Unit) (N : Mm), Sim Qf l lay G lev b own maxL ret (pc + 3) lv rest N (k r N)) : Sim Qf l lay G lev b own maxL ret pc lv st M (bd fc k) := by
  intro res hf p e s m args below meth c H locs ls Cc hP hS hl
  obtain ⟨r0, N0, h1, h2⟩ := bd_some hf
  refine va_callv (hR (r0, N0) h1 p e s m args below meth c H locs ls Cc hP hS hl) hS (fun q _ h => h) (fun q h => h) (fun u t H1 locs1 ht hvm hw hB hz1 hk1 hS1 => ?_)
  have hw : u = N0 := hw
  subst hw
  have hB : va_P G.1 cls (WS lay G u) t.heap := hB
  rw [ht] at hB
  exact kk r0 u res h2 p e s m args below meth c H1 locs1 ls Cc hB hS1 hl
theorem s_call_r {fc : Option (Nat × Mm)} {a : Array Value} {k : Nat → Mm → Option (β × Mm)} (hR : RunP cQr l lay G lev b own maxL ret pc lv st rest M fc a) (kk : ∀ (r : Nat) (N : Mm), Sim Qf l lay G lev b own maxL ret (pc + 3) lv (rf G r :: rest) N (k r N)) : Sim Qf l lay G lev b own maxL ret pc lv st M (bd fc k) := by
  intro res hf p e s m args below meth c H locs ls Cc hP hS hl
  obtain ⟨r0, N0, h1, h2⟩ := bd_some hf
  refine va_callr (hR (r0, N0) h1 p e s m args below meth c H locs ls Cc hP hS hl) hS (fun q _ h => h) (fun q h => h) (fun u ra t H1 locs1 ht hvm hw hB hz1 hk1 hS1 => ?_)
  cases hw
  obtain ⟨hB1, hB2⟩ := hB
  subst hB1
  rw [ht] at hB2
  exact kk r0 N0 res h2 p e s m args below meth c H1 locs1 ls Cc hB2 hS1 hl
/-- Math.max, Math.min -/
theorem s_max {x y : Int32} (hlv : Nat.ble 1 lev = true) (hr8 : Nat.ble ((st.map fun v => v.category).sum) 20 = true) (hk : gw (.methodLink own idx Lib.Math.max.name)) (hs : gw (.static Lib.Math.max.name)) (hi : gw (.initialized "java/lang/Math")) (hc : gw (.code Lib.Math.max.name Lib.Math.max.code 2 (some .int))) (d : decode b pc = .ok (.invokestatic idx, 3)) (kk : Sim Qf l lay G lev b own maxL ret (pc + 3) lv (.int (if x < y then y else x) :: st) M f) : Sim Qf l lay G lev b own maxL ret pc lv (.int y :: .int x :: st) M f := by
  intro res hf p e s m args below meth c H locs ls Cc hP hS hl
  obtain ⟨hx, hb, hml, hown, hts, hr, hK, hE, hlo, hI⟩ := id Cc
  have h1 := Nat.le_of_ble_eq_true hlv
  have h2 := Nat.le_of_ble_eq_true hr8
  exact va_mmax hx hb (hml.trans hl.1.symm) hown (hts _ (gw_in hk)) (hts _ (gw_in hs)) (hts _ (gw_in hi)) (hts _ (gw_in hc)) h1 (by show _ ≤ 40 * lev; omega) (Nat.le_refl 0) (Nat.le_refl 0) d (kk res hf p e s m args below meth c H locs ls Cc hP hS hl)
theorem s_min {x y : Int32} (hlv : Nat.ble 1 lev = true) (hr8 : Nat.ble ((st.map fun v => v.category).sum) 20 = true) (hk : gw (.methodLink own idx Lib.Math.min.name)) (hs : gw (.static Lib.Math.min.name)) (hi : gw (.initialized "java/lang/Math")) (hc : gw (.code Lib.Math.min.name Lib.Math.min.code 2 (some .int))) (d : decode b pc = .ok (.invokestatic idx, 3)) (kk : Sim Qf l lay G lev b own maxL ret (pc + 3) lv (.int (if y < x then y else x) :: st) M f) : Sim Qf l lay G lev b own maxL ret pc lv (.int y :: .int x :: st) M f := by
  intro res hf p e s m args below meth c H locs ls Cc hP hS hl
  obtain ⟨hx, hb, hml, hown, hts, hr, hK, hE, hlo, hI⟩ := id Cc
  have h1 := Nat.le_of_ble_eq_true hlv
  have h2 := Nat.le_of_ble_eq_true hr8
  exact va_mmin hx hb (hml.trans hl.1.symm) hown (hts _ (gw_in hk)) (hts _ (gw_in hs)) (hts _ (gw_in hi)) (hts _ (gw_in hc)) h1 (by show _ ≤ 40 * lev; omega) (Nat.le_refl 0) (Nat.le_refl 0) d (kk res hf p e s m args below meth c H locs ls Cc hP hS hl)
end SC
end
