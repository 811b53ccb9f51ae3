section
-- ===== PART A: goes FIRST, ahead of the names: the tables' words, and 'selects' of the private methods out of them =====
/-- a private method of a class that the tables say can be made, by its rows of tables_1 -/
def lw_okq (q : MethodName × Nat) : Prop := (q.1.cls ≠ "java/lang/invoke/MethodHandle" ∧ q.1.cls ≠ "java/lang/invoke/VarHandle") ∧ Cond.instantiable q.1.cls q.2 ∈ tables_1 ∧ Cond.privateMethod q.1 ∈ tables_1 ∧ Cond.instanceMethod q.1 ∈ tables_1
theorem lw_p0 : lw_okq (⟨"DanceFloors$Text", "readDigit", "(II)Z"⟩, 6) := ⟨⟨by decide +kernel, by decide +kernel⟩, List.mem_of_getElem? (i := 27) (by decide +kernel), List.mem_of_getElem? (i := 317) (by decide +kernel), List.mem_of_getElem? (i := 318) (by decide +kernel)⟩
theorem lw_p1 : lw_okq (⟨"DanceFloors$Text", "digitWithin", "(II)I"⟩, 6) := ⟨⟨by decide +kernel, by decide +kernel⟩, List.mem_of_getElem? (i := 27) (by decide +kernel), List.mem_of_getElem? (i := 321) (by decide +kernel), List.mem_of_getElem? (i := 322) (by decide +kernel)⟩
theorem lw_p2 : lw_okq (⟨"DanceFloors$Text", "keepNumber", "(I)Z"⟩, 6) := ⟨⟨by decide +kernel, by decide +kernel⟩, List.mem_of_getElem? (i := 27) (by decide +kernel), List.mem_of_getElem? (i := 328) (by decide +kernel), List.mem_of_getElem? (i := 329) (by decide +kernel)⟩
theorem lw_p3 : lw_okq (⟨"DanceFloors$Text", "readTwoDigits", "(II)Z"⟩, 6) := ⟨⟨by decide +kernel, by decide +kernel⟩, List.mem_of_getElem? (i := 27) (by decide +kernel), List.mem_of_getElem? (i := 332) (by decide +kernel), List.mem_of_getElem? (i := 333) (by decide +kernel)⟩
theorem lw_p4 : lw_okq (⟨"DanceFloors$Text", "readKind", "()Z"⟩, 6) := ⟨⟨by decide +kernel, by decide +kernel⟩, List.mem_of_getElem? (i := 27) (by decide +kernel), List.mem_of_getElem? (i := 342) (by decide +kernel), List.mem_of_getElem? (i := 343) (by decide +kernel)⟩
theorem lw_p5 : lw_okq (⟨"DanceFloors$Text", "readPlace", "()Z"⟩, 6) := ⟨⟨by decide +kernel, by decide +kernel⟩, List.mem_of_getElem? (i := 27) (by decide +kernel), List.mem_of_getElem? (i := 346) (by decide +kernel), List.mem_of_getElem? (i := 347) (by decide +kernel)⟩
theorem lw_p6 : lw_okq (⟨"DanceFloors$Text", "readDancer", "()Z"⟩, 6) := ⟨⟨by decide +kernel, by decide +kernel⟩, List.mem_of_getElem? (i := 27) (by decide +kernel), List.mem_of_getElem? (i := 350) (by decide +kernel), List.mem_of_getElem? (i := 351) (by decide +kernel)⟩
theorem lw_p7 : lw_okq (⟨"DanceFloors$Text", "readLesson", "()Z"⟩, 6) := ⟨⟨by decide +kernel, by decide +kernel⟩, List.mem_of_getElem? (i := 27) (by decide +kernel), List.mem_of_getElem? (i := 354) (by decide +kernel), List.mem_of_getElem? (i := 355) (by decide +kernel)⟩
theorem lw_p8 : lw_okq (⟨"DanceFloors$Studio", "copyRowsFrom", "(LDanceFloors$Studio;)V"⟩, 14) := ⟨⟨by decide +kernel, by decide +kernel⟩, List.mem_of_getElem? (i := 57) (by decide +kernel), List.mem_of_getElem? (i := 366) (by decide +kernel), List.mem_of_getElem? (i := 367) (by decide +kernel)⟩
theorem lw_p9 : lw_okq (⟨"DanceFloors$Studio", "holdLesson", "(LDanceFloors$Lesson;)I"⟩, 14) := ⟨⟨by decide +kernel, by decide +kernel⟩, List.mem_of_getElem? (i := 57) (by decide +kernel), List.mem_of_getElem? (i := 390) (by decide +kernel), List.mem_of_getElem? (i := 391) (by decide +kernel)⟩
theorem lw_p10 : lw_okq (⟨"DanceFloors$Studio", "countComers", "(LDanceFloors$Lesson;)I"⟩, 14) := ⟨⟨by decide +kernel, by decide +kernel⟩, List.mem_of_getElem? (i := 57) (by decide +kernel), List.mem_of_getElem? (i := 394) (by decide +kernel), List.mem_of_getElem? (i := 395) (by decide +kernel)⟩
theorem lw_p11 : lw_okq (⟨"DanceFloors$Studio", "comes", "(ILDanceFloors$Lesson;)Z"⟩, 14) := ⟨⟨by decide +kernel, by decide +kernel⟩, List.mem_of_getElem? (i := 57) (by decide +kernel), List.mem_of_getElem? (i := 398) (by decide +kernel), List.mem_of_getElem? (i := 399) (by decide +kernel)⟩
theorem lw_p12 : lw_okq (⟨"java/lang/Throwable", "fillInStackTrace", "(I)Ljava/lang/Throwable;"⟩, 6) := ⟨⟨by decide +kernel, by decide +kernel⟩, List.mem_of_getElem? (i := 465) (by decide +kernel), List.mem_of_getElem? (i := 463) (by decide +kernel), List.mem_of_getElem? (i := 464) (by decide +kernel)⟩
theorem lw_p13 : lw_okq (⟨"DanceFloors", "doCommandsOfText", "()I"⟩, 6) := ⟨⟨by decide +kernel, by decide +kernel⟩, List.mem_of_getElem? (i := 19) (by decide +kernel), List.mem_of_getElem? (i := 530) (by decide +kernel), List.mem_of_getElem? (i := 531) (by decide +kernel)⟩
theorem lw_p14 : lw_okq (⟨"DanceFloors", "doCommand", "(C[I)Z"⟩, 6) := ⟨⟨by decide +kernel, by decide +kernel⟩, List.mem_of_getElem? (i := 19) (by decide +kernel), List.mem_of_getElem? (i := 537) (by decide +kernel), List.mem_of_getElem? (i := 538) (by decide +kernel)⟩
theorem lw_p15 : lw_okq (⟨"DanceFloors$Studio", "isFloorInUse", "(III)Z"⟩, 14) := ⟨⟨by decide +kernel, by decide +kernel⟩, List.mem_of_getElem? (i := 57) (by decide +kernel), List.mem_of_getElem? (i := 565) (by decide +kernel), List.mem_of_getElem? (i := 566) (by decide +kernel)⟩
def lw_privs_1 : List (MethodName × Nat) := [(⟨"DanceFloors$Text", "readDigit", "(II)Z"⟩, 6), (⟨"DanceFloors$Text", "digitWithin", "(II)I"⟩, 6), (⟨"DanceFloors$Text", "keepNumber", "(I)Z"⟩, 6), (⟨"DanceFloors$Text", "readTwoDigits", "(II)Z"⟩, 6), (⟨"DanceFloors$Text", "readKind", "()Z"⟩, 6), (⟨"DanceFloors$Text", "readPlace", "()Z"⟩, 6), (⟨"DanceFloors$Text", "readDancer", "()Z"⟩, 6), (⟨"DanceFloors$Text", "readLesson", "()Z"⟩, 6), (⟨"DanceFloors$Studio", "copyRowsFrom", "(LDanceFloors$Studio;)V"⟩, 14), (⟨"DanceFloors$Studio", "holdLesson", "(LDanceFloors$Lesson;)I"⟩, 14), (⟨"DanceFloors$Studio", "countComers", "(LDanceFloors$Lesson;)I"⟩, 14), (⟨"DanceFloors$Studio", "comes", "(ILDanceFloors$Lesson;)Z"⟩, 14), (⟨"java/lang/Throwable", "fillInStackTrace", "(I)Ljava/lang/Throwable;"⟩, 6), (⟨"DanceFloors", "doCommandsOfText", "()I"⟩, 6), (⟨"DanceFloors", "doCommand", "(C[I)Z"⟩, 6), (⟨"DanceFloors$Studio", "isFloorInUse", "(III)Z"⟩, 14)]
theorem lw_r1 : ∀ q ∈ lw_privs_1, lw_okq q := List.forall_mem_cons.mpr ⟨lw_p0, List.forall_mem_cons.mpr ⟨lw_p1, List.forall_mem_cons.mpr ⟨lw_p2, List.forall_mem_cons.mpr ⟨lw_p3, List.forall_mem_cons.mpr ⟨lw_p4, List.forall_mem_cons.mpr ⟨lw_p5, List.forall_mem_cons.mpr ⟨lw_p6, List.forall_mem_cons.mpr ⟨lw_p7, List.forall_mem_cons.mpr ⟨lw_p8, List.forall_mem_cons.mpr ⟨lw_p9, List.forall_mem_cons.mpr ⟨lw_p10, List.forall_mem_cons.mpr ⟨lw_p11, List.forall_mem_cons.mpr ⟨lw_p12, List.forall_mem_cons.mpr ⟨lw_p13, List.forall_mem_cons.mpr ⟨lw_p14, List.forall_mem_cons.mpr ⟨lw_p15, fun _ h => absurd h List.not_mem_nil⟩⟩⟩⟩⟩⟩⟩⟩⟩⟩⟩⟩⟩⟩⟩⟩
theorem lw_p16 : lw_okq (⟨"DanceFloors$Studio", "isTeacherInUse", "(III)Z"⟩, 14) := ⟨⟨by decide +kernel, by decide +kernel⟩, List.mem_of_getElem? (i := 57) (by decide +kernel), List.mem_of_getElem? (i := 573) (by decide +kernel), List.mem_of_getElem? (i := 574) (by decide +kernel)⟩
theorem lw_p17 : lw_okq (⟨"DanceFloors$Studio", "isDancerSeatedAt", "(III)Z"⟩, 14) := ⟨⟨by decide +kernel, by decide +kernel⟩, List.mem_of_getElem? (i := 57) (by decide +kernel), List.mem_of_getElem? (i := 621) (by decide +kernel), List.mem_of_getElem? (i := 622) (by decide +kernel)⟩
theorem lw_p18 : lw_okq (⟨"DanceFloors", "tryGroup", "(I)Z"⟩, 6) := ⟨⟨by decide +kernel, by decide +kernel⟩, List.mem_of_getElem? (i := 19) (by decide +kernel), List.mem_of_getElem? (i := 919) (by decide +kernel), List.mem_of_getElem? (i := 920) (by decide +kernel)⟩
theorem lw_p19 : lw_okq (⟨"DanceFloors", "tryTurn", "(I)I"⟩, 6) := ⟨⟨by decide +kernel, by decide +kernel⟩, List.mem_of_getElem? (i := 19) (by decide +kernel), List.mem_of_getElem? (i := 932) (by decide +kernel), List.mem_of_getElem? (i := 933) (by decide +kernel)⟩
theorem lw_p20 : lw_okq (⟨"DanceFloors", "tryLeaving", "(I)V"⟩, 6) := ⟨⟨by decide +kernel, by decide +kernel⟩, List.mem_of_getElem? (i := 19) (by decide +kernel), List.mem_of_getElem? (i := 936) (by decide +kernel), List.mem_of_getElem? (i := 937) (by decide +kernel)⟩
theorem lw_p21 : lw_okq (⟨"DanceFloorsModel", "anew", "()V"⟩, 9) := ⟨⟨by decide +kernel, by decide +kernel⟩, List.mem_of_getElem? (i := 954) (by decide +kernel), List.mem_of_getElem? (i := 960) (by decide +kernel), List.mem_of_getElem? (i := 961) (by decide +kernel)⟩
theorem lw_p22 : lw_okq (⟨"DanceFloorsModel", "holds", "(I)Z"⟩, 9) := ⟨⟨by decide +kernel, by decide +kernel⟩, List.mem_of_getElem? (i := 954) (by decide +kernel), List.mem_of_getElem? (i := 1003) (by decide +kernel), List.mem_of_getElem? (i := 1004) (by decide +kernel)⟩
theorem lw_p23 : lw_okq (⟨"DanceFloorsModel", "isStudio", "()Z"⟩, 9) := ⟨⟨by decide +kernel, by decide +kernel⟩, List.mem_of_getElem? (i := 954) (by decide +kernel), List.mem_of_getElem? (i := 1015) (by decide +kernel), List.mem_of_getElem? (i := 1016) (by decide +kernel)⟩
theorem lw_p24 : lw_okq (⟨"DanceFloorsModel", "takesSign", "(I)Z"⟩, 9) := ⟨⟨by decide +kernel, by decide +kernel⟩, List.mem_of_getElem? (i := 954) (by decide +kernel), List.mem_of_getElem? (i := 1019) (by decide +kernel), List.mem_of_getElem? (i := 1020) (by decide +kernel)⟩
theorem lw_p25 : lw_okq (⟨"DanceFloorsModel", "sign", "()I"⟩, 9) := ⟨⟨by decide +kernel, by decide +kernel⟩, List.mem_of_getElem? (i := 954) (by decide +kernel), List.mem_of_getElem? (i := 1023) (by decide +kernel), List.mem_of_getElem? (i := 1024) (by decide +kernel)⟩
theorem lw_p26 : lw_okq (⟨"DanceFloorsModel", "readsCommand", "()Z"⟩, 9) := ⟨⟨by decide +kernel, by decide +kernel⟩, List.mem_of_getElem? (i := 954) (by decide +kernel), List.mem_of_getElem? (i := 1027) (by decide +kernel), List.mem_of_getElem? (i := 1028) (by decide +kernel)⟩
theorem lw_p27 : lw_okq (⟨"DanceFloorsModel", "figure", "(III)Z"⟩, 9) := ⟨⟨by decide +kernel, by decide +kernel⟩, List.mem_of_getElem? (i := 954) (by decide +kernel), List.mem_of_getElem? (i := 1031) (by decide +kernel), List.mem_of_getElem? (i := 1032) (by decide +kernel)⟩
theorem lw_p28 : lw_okq (⟨"DanceFloorsModel", "figures", "(III)Z"⟩, 9) := ⟨⟨by decide +kernel, by decide +kernel⟩, List.mem_of_getElem? (i := 954) (by decide +kernel), List.mem_of_getElem? (i := 1035) (by decide +kernel), List.mem_of_getElem? (i := 1036) (by decide +kernel)⟩
theorem lw_p29 : lw_okq (⟨"DanceFloorsModel", "readsClass", "()Z"⟩, 9) := ⟨⟨by decide +kernel, by decide +kernel⟩, List.mem_of_getElem? (i := 954) (by decide +kernel), List.mem_of_getElem? (i := 1039) (by decide +kernel), List.mem_of_getElem? (i := 1040) (by decide +kernel)⟩
theorem lw_p30 : lw_okq (⟨"DanceFloorsModel", "can", "()Z"⟩, 9) := ⟨⟨by decide +kernel, by decide +kernel⟩, List.mem_of_getElem? (i := 954) (by decide +kernel), List.mem_of_getElem? (i := 1047) (by decide +kernel), List.mem_of_getElem? (i := 1048) (by decide +kernel)⟩
theorem lw_p31 : lw_okq (⟨"DanceFloorsModel", "canSet", "()Z"⟩, 9) := ⟨⟨by decide +kernel, by decide +kernel⟩, List.mem_of_getElem? (i := 954) (by decide +kernel), List.mem_of_getElem? (i := 1051) (by decide +kernel), List.mem_of_getElem? (i := 1052) (by decide +kernel)⟩
def lw_privs_2 : List (MethodName × Nat) := [(⟨"DanceFloors$Studio", "isTeacherInUse", "(III)Z"⟩, 14), (⟨"DanceFloors$Studio", "isDancerSeatedAt", "(III)Z"⟩, 14), (⟨"DanceFloors", "tryGroup", "(I)Z"⟩, 6), (⟨"DanceFloors", "tryTurn", "(I)I"⟩, 6), (⟨"DanceFloors", "tryLeaving", "(I)V"⟩, 6), (⟨"DanceFloorsModel", "anew", "()V"⟩, 9), (⟨"DanceFloorsModel", "holds", "(I)Z"⟩, 9), (⟨"DanceFloorsModel", "isStudio", "()Z"⟩, 9), (⟨"DanceFloorsModel", "takesSign", "(I)Z"⟩, 9), (⟨"DanceFloorsModel", "sign", "()I"⟩, 9), (⟨"DanceFloorsModel", "readsCommand", "()Z"⟩, 9), (⟨"DanceFloorsModel", "figure", "(III)Z"⟩, 9), (⟨"DanceFloorsModel", "figures", "(III)Z"⟩, 9), (⟨"DanceFloorsModel", "readsClass", "()Z"⟩, 9), (⟨"DanceFloorsModel", "can", "()Z"⟩, 9), (⟨"DanceFloorsModel", "canSet", "()Z"⟩, 9)]
theorem lw_r2 : ∀ q ∈ lw_privs_2, lw_okq q := List.forall_mem_cons.mpr ⟨lw_p16, List.forall_mem_cons.mpr ⟨lw_p17, List.forall_mem_cons.mpr ⟨lw_p18, List.forall_mem_cons.mpr ⟨lw_p19, List.forall_mem_cons.mpr ⟨lw_p20, List.forall_mem_cons.mpr ⟨lw_p21, List.forall_mem_cons.mpr ⟨lw_p22, List.forall_mem_cons.mpr ⟨lw_p23, List.forall_mem_cons.mpr ⟨lw_p24, List.forall_mem_cons.mpr ⟨lw_p25, List.forall_mem_cons.mpr ⟨lw_p26, List.forall_mem_cons.mpr ⟨lw_p27, List.forall_mem_cons.mpr ⟨lw_p28, List.forall_mem_cons.mpr ⟨lw_p29, List.forall_mem_cons.mpr ⟨lw_p30, List.forall_mem_cons.mpr ⟨lw_p31, fun _ h => absurd h List.not_mem_nil⟩⟩⟩⟩⟩⟩⟩⟩⟩⟩⟩⟩⟩⟩⟩⟩
theorem lw_p32 : lw_okq (⟨"DanceFloorsModel", "isFloor", "(I)Z"⟩, 9) := ⟨⟨by decide +kernel, by decide +kernel⟩, List.mem_of_getElem? (i := 954) (by decide +kernel), List.mem_of_getElem? (i := 1055) (by decide +kernel), List.mem_of_getElem? (i := 1056) (by decide +kernel)⟩
theorem lw_p33 : lw_okq (⟨"DanceFloorsModel", "isTeacher", "(I)Z"⟩, 9) := ⟨⟨by decide +kernel, by decide +kernel⟩, List.mem_of_getElem? (i := 954) (by decide +kernel), List.mem_of_getElem? (i := 1059) (by decide +kernel), List.mem_of_getElem? (i := 1060) (by decide +kernel)⟩
theorem lw_p34 : lw_okq (⟨"DanceFloorsModel", "whyNo", "(IIIIII)I"⟩, 9) := ⟨⟨by decide +kernel, by decide +kernel⟩, List.mem_of_getElem? (i := 954) (by decide +kernel), List.mem_of_getElem? (i := 1063) (by decide +kernel), List.mem_of_getElem? (i := 1064) (by decide +kernel)⟩
theorem lw_p35 : lw_okq (⟨"DanceFloorsModel", "ofClass", "(II)I"⟩, 9) := ⟨⟨by decide +kernel, by decide +kernel⟩, List.mem_of_getElem? (i := 954) (by decide +kernel), List.mem_of_getElem? (i := 1067) (by decide +kernel), List.mem_of_getElem? (i := 1068) (by decide +kernel)⟩
theorem lw_p36 : lw_okq (⟨"DanceFloorsModel", "isSpring", "(III)Z"⟩, 9) := ⟨⟨by decide +kernel, by decide +kernel⟩, List.mem_of_getElem? (i := 954) (by decide +kernel), List.mem_of_getElem? (i := 1071) (by decide +kernel), List.mem_of_getElem? (i := 1072) (by decide +kernel)⟩
theorem lw_p37 : lw_okq (⟨"DanceFloorsModel", "spring", "(I)I"⟩, 9) := ⟨⟨by decide +kernel, by decide +kernel⟩, List.mem_of_getElem? (i := 954) (by decide +kernel), List.mem_of_getElem? (i := 1075) (by decide +kernel), List.mem_of_getElem? (i := 1076) (by decide +kernel)⟩
theorem lw_p38 : lw_okq (⟨"DanceFloorsModel", "barre", "(I)I"⟩, 9) := ⟨⟨by decide +kernel, by decide +kernel⟩, List.mem_of_getElem? (i := 954) (by decide +kernel), List.mem_of_getElem? (i := 1079) (by decide +kernel), List.mem_of_getElem? (i := 1080) (by decide +kernel)⟩
theorem lw_p39 : lw_okq (⟨"DanceFloorsModel", "mirrors", "(I)I"⟩, 9) := ⟨⟨by decide +kernel, by decide +kernel⟩, List.mem_of_getElem? (i := 954) (by decide +kernel), List.mem_of_getElem? (i := 1083) (by decide +kernel), List.mem_of_getElem? (i := 1084) (by decide +kernel)⟩
theorem lw_p40 : lw_okq (⟨"DanceFloorsModel", "canPass", "(I)Z"⟩, 9) := ⟨⟨by decide +kernel, by decide +kernel⟩, List.mem_of_getElem? (i := 954) (by decide +kernel), List.mem_of_getElem? (i := 1087) (by decide +kernel), List.mem_of_getElem? (i := 1088) (by decide +kernel)⟩
theorem lw_p41 : lw_okq (⟨"DanceFloorsModel", "isDancer", "(I)Z"⟩, 9) := ⟨⟨by decide +kernel, by decide +kernel⟩, List.mem_of_getElem? (i := 954) (by decide +kernel), List.mem_of_getElem? (i := 1091) (by decide +kernel), List.mem_of_getElem? (i := 1092) (by decide +kernel)⟩
theorem lw_p42 : lw_okq (⟨"DanceFloorsModel", "ofDancer", "(II)I"⟩, 9) := ⟨⟨by decide +kernel, by decide +kernel⟩, List.mem_of_getElem? (i := 954) (by decide +kernel), List.mem_of_getElem? (i := 1095) (by decide +kernel), List.mem_of_getElem? (i := 1096) (by decide +kernel)⟩
theorem lw_p43 : lw_okq (⟨"DanceFloorsModel", "areBoth", "()Z"⟩, 9) := ⟨⟨by decide +kernel, by decide +kernel⟩, List.mem_of_getElem? (i := 954) (by decide +kernel), List.mem_of_getElem? (i := 1099) (by decide +kernel), List.mem_of_getElem? (i := 1100) (by decide +kernel)⟩
theorem lw_p44 : lw_okq (⟨"DanceFloorsModel", "isClass", "(I)Z"⟩, 9) := ⟨⟨by decide +kernel, by decide +kernel⟩, List.mem_of_getElem? (i := 954) (by decide +kernel), List.mem_of_getElem? (i := 1103) (by decide +kernel), List.mem_of_getElem? (i := 1104) (by decide +kernel)⟩
theorem lw_p45 : lw_okq (⟨"DanceFloorsModel", "whyNoSeat", "(II)I"⟩, 9) := ⟨⟨by decide +kernel, by decide +kernel⟩, List.mem_of_getElem? (i := 954) (by decide +kernel), List.mem_of_getElem? (i := 1107) (by decide +kernel), List.mem_of_getElem? (i := 1108) (by decide +kernel)⟩
theorem lw_p46 : lw_okq (⟨"DanceFloorsModel", "hasSeat", "(II)Z"⟩, 9) := ⟨⟨by decide +kernel, by decide +kernel⟩, List.mem_of_getElem? (i := 954) (by decide +kernel), List.mem_of_getElem? (i := 1111) (by decide +kernel), List.mem_of_getElem? (i := 1112) (by decide +kernel)⟩
theorem lw_p47 : lw_okq (⟨"DanceFloorsModel", "classTakes", "(I)I"⟩, 9) := ⟨⟨by decide +kernel, by decide +kernel⟩, List.mem_of_getElem? (i := 954) (by decide +kernel), List.mem_of_getElem? (i := 1118) (by decide +kernel), List.mem_of_getElem? (i := 1119) (by decide +kernel)⟩
def lw_privs_3 : List (MethodName × Nat) := [(⟨"DanceFloorsModel", "isFloor", "(I)Z"⟩, 9), (⟨"DanceFloorsModel", "isTeacher", "(I)Z"⟩, 9), (⟨"DanceFloorsModel", "whyNo", "(IIIIII)I"⟩, 9), (⟨"DanceFloorsModel", "ofClass", "(II)I"⟩, 9), (⟨"DanceFloorsModel", "isSpring", "(III)Z"⟩, 9), (⟨"DanceFloorsModel", "spring", "(I)I"⟩, 9), (⟨"DanceFloorsModel", "barre", "(I)I"⟩, 9), (⟨"DanceFloorsModel", "mirrors", "(I)I"⟩, 9), (⟨"DanceFloorsModel", "canPass", "(I)Z"⟩, 9), (⟨"DanceFloorsModel", "isDancer", "(I)Z"⟩, 9), (⟨"DanceFloorsModel", "ofDancer", "(II)I"⟩, 9), (⟨"DanceFloorsModel", "areBoth", "()Z"⟩, 9), (⟨"DanceFloorsModel", "isClass", "(I)Z"⟩, 9), (⟨"DanceFloorsModel", "whyNoSeat", "(II)I"⟩, 9), (⟨"DanceFloorsModel", "hasSeat", "(II)Z"⟩, 9), (⟨"DanceFloorsModel", "classTakes", "(I)I"⟩, 9)]
theorem lw_r3 : ∀ q ∈ lw_privs_3, lw_okq q := List.forall_mem_cons.mpr ⟨lw_p32, List.forall_mem_cons.mpr ⟨lw_p33, List.forall_mem_cons.mpr ⟨lw_p34, List.forall_mem_cons.mpr ⟨lw_p35, List.forall_mem_cons.mpr ⟨lw_p36, List.forall_mem_cons.mpr ⟨lw_p37, List.forall_mem_cons.mpr ⟨lw_p38, List.forall_mem_cons.mpr ⟨lw_p39, List.forall_mem_cons.mpr ⟨lw_p40, List.forall_mem_cons.mpr ⟨lw_p41, List.forall_mem_cons.mpr ⟨lw_p42, List.forall_mem_cons.mpr ⟨lw_p43, List.forall_mem_cons.mpr ⟨lw_p44, List.forall_mem_cons.mpr ⟨lw_p45, List.forall_mem_cons.mpr ⟨lw_p46, List.forall_mem_cons.mpr ⟨lw_p47, fun _ h => absurd h List.not_mem_nil⟩⟩⟩⟩⟩⟩⟩⟩⟩⟩⟩⟩⟩⟩⟩⟩
theorem lw_p48 : lw_okq (⟨"DanceFloorsModel", "takes", "(II)I"⟩, 9) := ⟨⟨by decide +kernel, by decide +kernel⟩, List.mem_of_getElem? (i := 954) (by decide +kernel), List.mem_of_getElem? (i := 1122) (by decide +kernel), List.mem_of_getElem? (i := 1123) (by decide +kernel)⟩
theorem lw_p49 : lw_okq (⟨"DanceFloorsModel", "does", "()V"⟩, 9) := ⟨⟨by decide +kernel, by decide +kernel⟩, List.mem_of_getElem? (i := 954) (by decide +kernel), List.mem_of_getElem? (i := 1126) (by decide +kernel), List.mem_of_getElem? (i := 1127) (by decide +kernel)⟩
theorem lw_p50 : lw_okq (⟨"DanceFloorsModel", "floors", "(IIII)I"⟩, 9) := ⟨⟨by decide +kernel, by decide +kernel⟩, List.mem_of_getElem? (i := 954) (by decide +kernel), List.mem_of_getElem? (i := 1130) (by decide +kernel), List.mem_of_getElem? (i := 1131) (by decide +kernel)⟩
theorem lw_p51 : lw_okq (⟨"DanceFloorsModel", "teachers", "(II)I"⟩, 9) := ⟨⟨by decide +kernel, by decide +kernel⟩, List.mem_of_getElem? (i := 954) (by decide +kernel), List.mem_of_getElem? (i := 1134) (by decide +kernel), List.mem_of_getElem? (i := 1135) (by decide +kernel)⟩
theorem lw_p52 : lw_okq (⟨"DanceFloorsModel", "sets", "(IIIIII)V"⟩, 9) := ⟨⟨by decide +kernel, by decide +kernel⟩, List.mem_of_getElem? (i := 954) (by decide +kernel), List.mem_of_getElem? (i := 1138) (by decide +kernel), List.mem_of_getElem? (i := 1139) (by decide +kernel)⟩
theorem lw_p53 : lw_okq (⟨"DanceFloorsModel", "dancers", "()I"⟩, 9) := ⟨⟨by decide +kernel, by decide +kernel⟩, List.mem_of_getElem? (i := 954) (by decide +kernel), List.mem_of_getElem? (i := 1142) (by decide +kernel), List.mem_of_getElem? (i := 1143) (by decide +kernel)⟩
theorem lw_p54 : lw_okq (⟨"DanceFloorsModel", "passes", "(I)I"⟩, 9) := ⟨⟨by decide +kernel, by decide +kernel⟩, List.mem_of_getElem? (i := 954) (by decide +kernel), List.mem_of_getElem? (i := 1146) (by decide +kernel), List.mem_of_getElem? (i := 1147) (by decide +kernel)⟩
theorem lw_p55 : lw_okq (⟨"DanceFloorsModel", "adds", "(II)V"⟩, 9) := ⟨⟨by decide +kernel, by decide +kernel⟩, List.mem_of_getElem? (i := 954) (by decide +kernel), List.mem_of_getElem? (i := 1150) (by decide +kernel), List.mem_of_getElem? (i := 1151) (by decide +kernel)⟩
theorem lw_p56 : lw_okq (⟨"DanceFloorsModel", "enters", "(II)V"⟩, 9) := ⟨⟨by decide +kernel, by decide +kernel⟩, List.mem_of_getElem? (i := 954) (by decide +kernel), List.mem_of_getElem? (i := 1154) (by decide +kernel), List.mem_of_getElem? (i := 1155) (by decide +kernel)⟩
theorem lw_p57 : lw_okq (⟨"DanceFloorsModel", "leaves", "(II)I"⟩, 9) := ⟨⟨by decide +kernel, by decide +kernel⟩, List.mem_of_getElem? (i := 954) (by decide +kernel), List.mem_of_getElem? (i := 1158) (by decide +kernel), List.mem_of_getElem? (i := 1159) (by decide +kernel)⟩
theorem lw_p58 : lw_okq (⟨"DanceFloorsModel", "drops", "(I)I"⟩, 9) := ⟨⟨by decide +kernel, by decide +kernel⟩, List.mem_of_getElem? (i := 954) (by decide +kernel), List.mem_of_getElem? (i := 1162) (by decide +kernel), List.mem_of_getElem? (i := 1163) (by decide +kernel)⟩
theorem lw_p59 : lw_okq (⟨"DanceFloorsModel", "weeksGo", "(I)I"⟩, 9) := ⟨⟨by decide +kernel, by decide +kernel⟩, List.mem_of_getElem? (i := 954) (by decide +kernel), List.mem_of_getElem? (i := 1166) (by decide +kernel), List.mem_of_getElem? (i := 1167) (by decide +kernel)⟩
theorem lw_p60 : lw_okq (⟨"DanceFloorsModel", "week", "()I"⟩, 9) := ⟨⟨by decide +kernel, by decide +kernel⟩, List.mem_of_getElem? (i := 954) (by decide +kernel), List.mem_of_getElem? (i := 1170) (by decide +kernel), List.mem_of_getElem? (i := 1171) (by decide +kernel)⟩
theorem lw_p61 : lw_okq (⟨"DanceFloorsModel", "coming", "(I)I"⟩, 9) := ⟨⟨by decide +kernel, by decide +kernel⟩, List.mem_of_getElem? (i := 954) (by decide +kernel), List.mem_of_getElem? (i := 1174) (by decide +kernel), List.mem_of_getElem? (i := 1175) (by decide +kernel)⟩
theorem lw_p62 : lw_okq (⟨"DanceFloorsModel", "dances", "(II)V"⟩, 9) := ⟨⟨by decide +kernel, by decide +kernel⟩, List.mem_of_getElem? (i := 954) (by decide +kernel), List.mem_of_getElem? (i := 1178) (by decide +kernel), List.mem_of_getElem? (i := 1179) (by decide +kernel)⟩
theorem lw_p63 : lw_okq (⟨"DanceFloorsModel", "tells", "(I)I"⟩, 9) := ⟨⟨by decide +kernel, by decide +kernel⟩, List.mem_of_getElem? (i := 954) (by decide +kernel), List.mem_of_getElem? (i := 1186) (by decide +kernel), List.mem_of_getElem? (i := 1187) (by decide +kernel)⟩
def lw_privs_4 : List (MethodName × Nat) := [(⟨"DanceFloorsModel", "takes", "(II)I"⟩, 9), (⟨"DanceFloorsModel", "does", "()V"⟩, 9), (⟨"DanceFloorsModel", "floors", "(IIII)I"⟩, 9), (⟨"DanceFloorsModel", "teachers", "(II)I"⟩, 9), (⟨"DanceFloorsModel", "sets", "(IIIIII)V"⟩, 9), (⟨"DanceFloorsModel", "dancers", "()I"⟩, 9), (⟨"DanceFloorsModel", "passes", "(I)I"⟩, 9), (⟨"DanceFloorsModel", "adds", "(II)V"⟩, 9), (⟨"DanceFloorsModel", "enters", "(II)V"⟩, 9), (⟨"DanceFloorsModel", "leaves", "(II)I"⟩, 9), (⟨"DanceFloorsModel", "drops", "(I)I"⟩, 9), (⟨"DanceFloorsModel", "weeksGo", "(I)I"⟩, 9), (⟨"DanceFloorsModel", "week", "()I"⟩, 9), (⟨"DanceFloorsModel", "coming", "(I)I"⟩, 9), (⟨"DanceFloorsModel", "dances", "(II)V"⟩, 9), (⟨"DanceFloorsModel", "tells", "(I)I"⟩, 9)]
theorem lw_r4 : ∀ q ∈ lw_privs_4, lw_okq q := List.forall_mem_cons.mpr ⟨lw_p48, List.forall_mem_cons.mpr ⟨lw_p49, List.forall_mem_cons.mpr ⟨lw_p50, List.forall_mem_cons.mpr ⟨lw_p51, List.forall_mem_cons.mpr ⟨lw_p52, List.forall_mem_cons.mpr ⟨lw_p53, List.forall_mem_cons.mpr ⟨lw_p54, List.forall_mem_cons.mpr ⟨lw_p55, List.forall_mem_cons.mpr ⟨lw_p56, List.forall_mem_cons.mpr ⟨lw_p57, List.forall_mem_cons.mpr ⟨lw_p58, List.forall_mem_cons.mpr ⟨lw_p59, List.forall_mem_cons.mpr ⟨lw_p60, List.forall_mem_cons.mpr ⟨lw_p61, List.forall_mem_cons.mpr ⟨lw_p62, List.forall_mem_cons.mpr ⟨lw_p63, fun _ h => absurd h List.not_mem_nil⟩⟩⟩⟩⟩⟩⟩⟩⟩⟩⟩⟩⟩⟩⟩⟩
theorem lw_p64 : lw_okq (⟨"DanceFloorsModel", "seats", "()I"⟩, 9) := ⟨⟨by decide +kernel, by decide +kernel⟩, List.mem_of_getElem? (i := 954) (by decide +kernel), List.mem_of_getElem? (i := 1190) (by decide +kernel), List.mem_of_getElem? (i := 1191) (by decide +kernel)⟩
theorem lw_p65 : lw_okq (⟨"DanceFloorsModel", "left", "()I"⟩, 9) := ⟨⟨by decide +kernel, by decide +kernel⟩, List.mem_of_getElem? (i := 954) (by decide +kernel), List.mem_of_getElem? (i := 1194) (by decide +kernel), List.mem_of_getElem? (i := 1195) (by decide +kernel)⟩
theorem lw_p66 : lw_okq (⟨"DanceFloorsModel", "classes", "(II)I"⟩, 9) := ⟨⟨by decide +kernel, by decide +kernel⟩, List.mem_of_getElem? (i := 954) (by decide +kernel), List.mem_of_getElem? (i := 1202) (by decide +kernel), List.mem_of_getElem? (i := 1203) (by decide +kernel)⟩
theorem lw_p67 : lw_okq (⟨"DanceFloorsModel", "daysOf", "(I)I"⟩, 9) := ⟨⟨by decide +kernel, by decide +kernel⟩, List.mem_of_getElem? (i := 954) (by decide +kernel), List.mem_of_getElem? (i := 1210) (by decide +kernel), List.mem_of_getElem? (i := 1211) (by decide +kernel)⟩
theorem lw_p68 : lw_okq (⟨"DanceFloorsModel", "seatsOf", "(I)I"⟩, 9) := ⟨⟨by decide +kernel, by decide +kernel⟩, List.mem_of_getElem? (i := 954) (by decide +kernel), List.mem_of_getElem? (i := 1222) (by decide +kernel), List.mem_of_getElem? (i := 1223) (by decide +kernel)⟩
theorem lw_p69 : lw_okq (⟨"DanceFloorsModel", "remember", "()V"⟩, 9) := ⟨⟨by decide +kernel, by decide +kernel⟩, List.mem_of_getElem? (i := 954) (by decide +kernel), List.mem_of_getElem? (i := 1241) (by decide +kernel), List.mem_of_getElem? (i := 1242) (by decide +kernel)⟩
theorem lw_p70 : lw_okq (⟨"DanceFloorsModel", "copies", "(II)V"⟩, 9) := ⟨⟨by decide +kernel, by decide +kernel⟩, List.mem_of_getElem? (i := 954) (by decide +kernel), List.mem_of_getElem? (i := 1245) (by decide +kernel), List.mem_of_getElem? (i := 1246) (by decide +kernel)⟩
theorem lw_p71 : lw_okq (⟨"DanceFloorsModel", "triesClass", "(IIIIII)I"⟩, 9) := ⟨⟨by decide +kernel, by decide +kernel⟩, List.mem_of_getElem? (i := 954) (by decide +kernel), List.mem_of_getElem? (i := 1260) (by decide +kernel), List.mem_of_getElem? (i := 1261) (by decide +kernel)⟩
theorem lw_p72 : lw_okq (⟨"DanceFloorsModel", "triesSeat", "(II)I"⟩, 9) := ⟨⟨by decide +kernel, by decide +kernel⟩, List.mem_of_getElem? (i := 954) (by decide +kernel), List.mem_of_getElem? (i := 1280) (by decide +kernel), List.mem_of_getElem? (i := 1281) (by decide +kernel)⟩
theorem lw_p73 : lw_okq (⟨"DanceFloorsModel", "isCommand", "(I)Z"⟩, 9) := ⟨⟨by decide +kernel, by decide +kernel⟩, List.mem_of_getElem? (i := 954) (by decide +kernel), List.mem_of_getElem? (i := 1330) (by decide +kernel), List.mem_of_getElem? (i := 1331) (by decide +kernel)⟩
theorem lw_p74 : lw_okq (⟨"DanceFloorsModel", "turns", "(II)V"⟩, 9) := ⟨⟨by decide +kernel, by decide +kernel⟩, List.mem_of_getElem? (i := 954) (by decide +kernel), List.mem_of_getElem? (i := 1340) (by decide +kernel), List.mem_of_getElem? (i := 1341) (by decide +kernel)⟩
theorem lw_p75 : lw_okq (⟨"DanceFloorsModel", "dancersTurn", "(II)V"⟩, 9) := ⟨⟨by decide +kernel, by decide +kernel⟩, List.mem_of_getElem? (i := 954) (by decide +kernel), List.mem_of_getElem? (i := 1344) (by decide +kernel), List.mem_of_getElem? (i := 1345) (by decide +kernel)⟩
def lw_privs_5 : List (MethodName × Nat) := [(⟨"DanceFloorsModel", "seats", "()I"⟩, 9), (⟨"DanceFloorsModel", "left", "()I"⟩, 9), (⟨"DanceFloorsModel", "classes", "(II)I"⟩, 9), (⟨"DanceFloorsModel", "daysOf", "(I)I"⟩, 9), (⟨"DanceFloorsModel", "seatsOf", "(I)I"⟩, 9), (⟨"DanceFloorsModel", "remember", "()V"⟩, 9), (⟨"DanceFloorsModel", "copies", "(II)V"⟩, 9), (⟨"DanceFloorsModel", "triesClass", "(IIIIII)I"⟩, 9), (⟨"DanceFloorsModel", "triesSeat", "(II)I"⟩, 9), (⟨"DanceFloorsModel", "isCommand", "(I)Z"⟩, 9), (⟨"DanceFloorsModel", "turns", "(II)V"⟩, 9), (⟨"DanceFloorsModel", "dancersTurn", "(II)V"⟩, 9)]
theorem lw_r5 : ∀ q ∈ lw_privs_5, lw_okq q := List.forall_mem_cons.mpr ⟨lw_p64, List.forall_mem_cons.mpr ⟨lw_p65, List.forall_mem_cons.mpr ⟨lw_p66, List.forall_mem_cons.mpr ⟨lw_p67, List.forall_mem_cons.mpr ⟨lw_p68, List.forall_mem_cons.mpr ⟨lw_p69, List.forall_mem_cons.mpr ⟨lw_p70, List.forall_mem_cons.mpr ⟨lw_p71, List.forall_mem_cons.mpr ⟨lw_p72, List.forall_mem_cons.mpr ⟨lw_p73, List.forall_mem_cons.mpr ⟨lw_p74, List.forall_mem_cons.mpr ⟨lw_p75, fun _ h => absurd h List.not_mem_nil⟩⟩⟩⟩⟩⟩⟩⟩⟩⟩⟩⟩
def lw_privs : List (MethodName × Nat) := lw_privs_1 ++ (lw_privs_2 ++ (lw_privs_3 ++ (lw_privs_4 ++ (lw_privs_5))))
def lw_tbl : List Cond := k2_sels lw_privs ++ tables_1
theorem lw_privs_ok : ∀ q ∈ lw_privs, lw_okq q := by
  show ∀ q ∈ lw_privs_1 ++ (lw_privs_2 ++ (lw_privs_3 ++ (lw_privs_4 ++ (lw_privs_5)))), lw_okq q
  exact List.forall_mem_append.mpr ⟨lw_r1, List.forall_mem_append.mpr ⟨lw_r2, List.forall_mem_append.mpr ⟨lw_r3, List.forall_mem_append.mpr ⟨lw_r4, lw_r5⟩⟩⟩⟩

/-! ===== BEGIN words of one list among another's, by their places ===== -/
theorem goodIn_r {big : List Cond} (ws : List Cond) (ps : List Nat) (hp : ws = ps.filterMap (fun i => big[i]?)) (h : ws.all goodWord = true) : GoodIn big ws := by
  intro w hw
  have h1 := List.all_eq_true.mp h w hw
  rw [hp] at hw
  obtain ⟨i, -, hi⟩ := List.mem_filterMap.mp hw
  have hm : w ∈ big := by first | exact List.mem_of_getElem? hi | exact List.getElem?_mem hi
  exact ⟨hm, good_of_word h1⟩
theorem goodIn_app {big a b : List Cond} (ha : GoodIn big a) (hb : GoodIn big b) : GoodIn big (a ++ b) := fun w h => (List.mem_append.mp h).elim (ha w) (hb w)
theorem goodIn_ca {big a b : List Cond} {c : Cond} (ha : GoodIn big (c :: a)) (hb : GoodIn big b) : GoodIn big (c :: (a ++ b)) := fun w h => (List.mem_cons.mp h).elim (fun e => ha w (List.mem_cons.mpr (Or.inl e))) (fun h => (List.mem_append.mp h).elim (fun h => ha w (List.mem_cons.mpr (Or.inr h))) (hb w))
theorem goodIn_sub {big ws : List Cond} (hm : ∀ w ∈ ws, w ∈ big) (h : ws.all goodWord = true) : GoodIn big ws := fun w hw => ⟨hm w hw, good_of_word (List.all_eq_true.mp h w hw)⟩
/-! ===== END ===== -/

/-! ===== BEGIN exceptions that leave a method, and their catching by the caller (launches without stack traces) ===== -/
section VXA
/-! The laws vx_back, vx_callV, vx_callS, vx_callSW, vx_throw0, vx_throwS follow proofs of the library, with one case more: JvmDerived/Free/Laws.lean (Back.of_free), Shelf42/LK1.lean (callV, callS), Shelf/KitTraced.lean (throwNew0V, throwNewS). -/
/-- where a method has thrown q: the class by its name, the cell, what was written, the world -/
def vx_T (XC : String → State → State → Prop) (st : State) (q : Addr) (t : State) (mc ms : Nat) (free : Addr → Prop) : Prop :=
  ∃ (E : String) (ce : Cell) (L : List Loc), XC E st t ∧ t.heap[q]? = some ce ∧ ce.vm = .none ∧ st.vm.findClass E = some ce.cls ∧ st.WarmedH t.vm ∧ st.sameButNew ({ t with vm := st.vm } : State) L mc ms ∧ ∀ z ∈ L, free z.base
def vx_Q (Qc : Array Value → State → Outcome → State → Prop) (XC : String → State → State → Prop) (mc ms : Nat) (free : Addr → Prop) : Array Value → State → Outcome → State → Prop := fun a st o t =>
  (Qc a st o t ∧ ∃ L, FrameEnd st o t L mc ms ∧ ∀ q ∈ L, free q.base) ∨ ∃ q, o = .threw q ∧ vx_T XC st q t mc ms free
/-- a callee that returns or throws -/
def vx_Met (l : Launch) (y : MethodName) (ws : List Cond) (rm : Room) (Pc : Array Value → State → Prop) (Qc : Array Value → State → Outcome → State → Prop) (XC : String → State → State → Prop) (mc ms : Nat) (free : Addr → Prop) : Prop :=
  MetFree l y (headSpec ws rm) Pc (fun _ _ _ _ _ => True) (vx_Q Qc XC mc ms free)
def vx_Post (XC : String → State → State → Prop) (mc ms : Nat) (free : Addr → Prop) : Pt → Array Value → Addr → Pt → Prop := fun A a q B =>
  ∃ (g : JFrame) (mk : MethodId) (t : State) (L : List Loc) (E : String) (ce : Cell), B.U.heap = t.heap ∧ B.U.vm = t.vm ∧ XC E (A.U.calling g mk a) t ∧ t.heap[q]? = some ce ∧ ce.vm = .none ∧ A.U.vm.findClass E = some ce.cls ∧ B.locs = A.locs ++ L ∧ (∀ z ∈ L, free z.base) ∧ B.cells = A.cells + mc ∧ B.slots = A.slots + ms
def vx_Back (l : Launch) (R : Room) (p : Program) (e : Env) (below : List Frame) (s : State) (sargs : Array Value) (y : MethodName) (len W9 : Nat)
    (Pre : Pt → Array Value → Prop) (Post : Pt → Array Value → Option Value → Pt → Prop) (PostX : Pt → Array Value → Addr → Pt → Prop) : Prop :=
  ∀ (m : MethodId) (meth : Method) (c : Code) (A : Pt) (g : JFrame) (ig : Instr) (mk : MethodId) (a : Array Value),
    Stand p l e R s m sargs below meth c A.U A.locs A.cells A.slots → g.method = m → g.locals.size = c.maxLocals → decode c.code g.pc = .ok (ig, len) →
    2 * g.monitorRoom + (g.stack.map fun v => v.category).sum ≤ W9 → A.U.methodNamed? y = some mk → Pre A a →
    (∃ (v : Option Value) (B : Pt), Stand p l e R s m sargs below meth c B.U B.locs B.cells B.slots ∧ Post A a v B ∧
      Steps p.tables e below (doInvoke e (A.U.setTop g) [] mk a).1 (B.U.setTop { g with pc := g.pc + len, stack := v.toList ++ g.stack })) ∨
    (∃ (q : Addr) (B : Pt), Stand p l e R s m sargs below meth c B.U B.locs B.cells B.slots ∧ PostX A a q B ∧
      Steps p.tables e below (doInvoke e (A.U.setTop g) [] mk a).1 ((B.U.setTop g).pushFrame (.throwing q)))
section Payer
variable {l : Launch} {R : Room} {p : Program} {e : Env} {below : List Frame} {s : State} {sargs : Array Value} {y : MethodName} {len W9 : Nat}
theorem vx_back {ws : List Cond} {rm : Room} {Pc : Array Value → State → Prop} {Qc : Array Value → State → Outcome → State → Prop} {XC : String → State → State → Prop} {mc ms : Nat} {free : Addr → Prop} {bytes : ByteArray} {maxL : Nat} {ret : Option FieldType}
    (hM : vx_Met l y ws rm Pc Qc XC mc ms free) (hblind : FrameBlind Pc) (hrc : rm.cells = mc) (hrs : rm.slots = ms)
    (hframes : rm.frames + 1 ≤ R.frames) (hlocals : W9 + (maxL + 11) + rm.locals ≤ R.locals)
    (hws : ∀ w ∈ ws, ∀ a' U, s.WarmedH U.vm → w.before a' U = true) (hcode : Cond.code y bytes maxL ret ∈ ws) (hinit : ∀ a' U, s.WarmedH U.vm → (Cond.initialized y.cls).before a' U = true) :
    vx_Back l R p e below s sargs y len W9 (PreOf R mc ms Pc) (PostOf Qc mc ms free) (vx_Post XC mc ms free) := by
  intro m meth c A g ig mk a X hg hsize hdg hW hn hp
  have h1 : (headSpec ws rm).pre.before a A.U = true := atoms_intro fun w hw => hws w hw _ _ X.warmed
  have h2 : (Cond.code y bytes maxL ret).before a A.U = true := hws _ hcode _ _ X.warmed
  have h3 : (Cond.initialized y.cls).before a A.U = true := hinit _ _ X.warmed
  have h4 : A.cells + (headSpec ws rm).room.cells ≤ R.cells := by rw [show (headSpec ws rm).room.cells = mc from hrc]; exact hp.1
  have h5 : A.slots + (headSpec ws rm).room.slots ≤ R.slots := by rw [show (headSpec ws rm).room.slots = ms from hrs]; exact hp.2.1
  have hPc : Pc a (A.U.calling g mk a) := hblind _ _ _ _ hp.2.2
  obtain ⟨U, Ls, c0, s0⟩ := A
  dsimp only [Pt.U, Pt.locs, Pt.cells, Pt.slots] at h1 h2 h3 h4 h5 X hn hPc ⊢
  obtain ⟨methY, cY, hmY, hcY, -, hlY, -, -, -, -⟩ := Cond.code_spec hn h2
  obtain ⟨kY, hkY, -⟩ := className_of_methodNamed hn
  have hinitY : kY.init = .initialized := Cond.initialized_spec (findClass_of_methodNamed hn) hkY h3
  have h : At U g.method c below := by rw [hg]; exact X.here
  have hlocals9 : W9 + (maxL + 11) + (headSpec ws rm).room.locals ≤ R.locals := hlocals
  have happ : (headSpec ws rm).appliesLoose y e.platform (U.calling g mk a) = true :=
    Spec.appliesLoose_calling (g := g) h hdg hn hkY hinitY
      (X.room_calling (g := g) (R' := (headSpec ws rm).room) hsize hmY hcY hframes (by rw [hlY]; omega) h4 h5) h1
  obtain ⟨mid, hmid⟩ := h.above
  have hfr : (U.setTop g).frames = (.java g :: mid) ++ below := by rw [State.frames_setTop' g h.top, hmid]; rfl
  obtain ⟨o, s₂, hsteps, -, hend, hq⟩ := Steps.callFree hM p X.admits X.cas X.clock (acts := []) hfr happ hPc trivial
  have hq' : vx_Q Qc XC mc ms free a (U.calling g mk a) o s₂ := hq
  rw [State.frames_setTop' g h.top] at hend
  obtain ⟨g₀, hg0⟩ := Option.isSome_iff_exists.mp h.top
  obtain ⟨r, hr⟩ := State.topJava?_eq_some.mp hg0
  have hr' : (({ U with heap := s₂.heap, slotsUsed := s₂.slotsUsed } : State).setVm s₂.vm).frames = .java g₀ :: r := hr
  rcases hq' with ⟨hqc, L, hfe, hL⟩ | ⟨q, rfl, E, ce, L, hx, hce, hcv, hcl, hW₂, hsm, hL⟩
  · obtain ⟨⟨v, rfl⟩, hW₂, e2, q2, q3, q4, q5, q6⟩ := id hfe
    have e3 : s₂ = ({ (U.calling g mk a).setFrames s₂.frames with heap := s₂.heap, slotsUsed := s₂.slotsUsed } : State).setVm s₂.vm := by
      have : s₂ = ({ s₂ with vm := (U.calling g mk a).vm } : State).setVm s₂.vm := rfl
      rw [e2] at this
      exact this
    obtain ⟨c₂, i₂, len₂, hc₂, hd₂, hf₂⟩ := hend
    have hW' : U.WarmedH s₂.vm := hW₂
    have hcc : c₂ = c := by
      have h1 : s₂.code? g.method = U.code? g.method := by
        rw [State.code?_eq, State.code?_eq, hW'.alike.method?]
      exact Option.some.inj (hc₂.symm.trans (h1.trans h.code))
    subst hcc
    have hlen : len₂ = len := by rw [hdg] at hd₂; cases hd₂; rfl
    subst hlen
    have hs₂ : s₂ = (({ U with heap := s₂.heap, slotsUsed := s₂.slotsUsed } : State).setVm s₂.vm).setTop { g with pc := g.pc + len₂, stack := v.toList ++ g.stack } := by
      refine e3.trans ?_
      rw [hf₂, State.calling_eq h.top, State.setFrames_setFrames, State.setTop_of_frames _ hr', hr]
      rfl
    have hsame : U.sameButNew ({ U with heap := s₂.heap, slotsUsed := s₂.slotsUsed } : State) L mc ms := by
      refine ⟨?_, q2, q3, q4, q5, q6⟩
      obtain ⟨t, ht, -⟩ := State.frames_cons hr
      show ({ U with heap := s₂.heap, slotsUsed := s₂.slotsUsed } : State) = { U.setFrames U.frames with heap := s₂.heap, slotsUsed := s₂.slotsUsed }
      rw [State.setFrames_self ht]
    subst hg
    refine Or.inl ⟨v, ⟨(({ U with heap := s₂.heap, slotsUsed := s₂.slotsUsed } : State).setVm s₂.vm), Ls ++ L, c0 + mc, s0 + ms⟩,
      ⟨X.admits, X.cas, X.clock, X.frames, X.room, X.hears, X.method, X.code, (X.here.setHeapUsed s₂.heap s₂.slotsUsed).setVm hW'.alike, X.tail, State.WarmedH.trans X.warmed hW', X.limits, X.bytes, X.same.trans (hsame.setVm s.vm)⟩,
      ⟨g, mk, s₂, L, rfl, rfl, hqc, rfl, hL, rfl, rfl⟩, ?_⟩
    show Steps p.tables e below _ ((({ U with heap := s₂.heap, slotsUsed := s₂.slotsUsed } : State).setVm s₂.vm).setTop { g with pc := g.pc + len₂, stack := v.toList ++ g.stack })
    rw [← hs₂]
    exact hsteps
  · obtain ⟨e2, q2, q3, q4, q5, q6⟩ := id hsm
    have e3 : s₂ = ({ (U.calling g mk a).setFrames s₂.frames with heap := s₂.heap, slotsUsed := s₂.slotsUsed } : State).setVm s₂.vm := by
      have : s₂ = ({ s₂ with vm := (U.calling g mk a).vm } : State).setVm s₂.vm := rfl
      rw [e2] at this
      exact this
    have hf₂ : s₂.frames = .throwing q :: .java g :: U.frames.tail := hend
    have hW' : U.WarmedH s₂.vm := hW₂
    have hs₂ : s₂ = ((({ U with heap := s₂.heap, slotsUsed := s₂.slotsUsed } : State).setVm s₂.vm).setTop g).pushFrame (.throwing q) := by
      refine e3.trans ?_
      rw [hf₂, State.calling_eq h.top, State.setFrames_setFrames, State.pushFrame, State.frames_setTop _ hr', State.setTop_of_frames _ hr', State.setFrames_setFrames, hr]
      rfl
    have hsame : U.sameButNew ({ U with heap := s₂.heap, slotsUsed := s₂.slotsUsed } : State) L mc ms := by
      refine ⟨?_, q2, q3, q4, q5, q6⟩
      obtain ⟨t, ht, -⟩ := State.frames_cons hr
      show ({ U with heap := s₂.heap, slotsUsed := s₂.slotsUsed } : State) = { U.setFrames U.frames with heap := s₂.heap, slotsUsed := s₂.slotsUsed }
      rw [State.setFrames_self ht]
    subst hg
    refine Or.inr ⟨q, ⟨(({ U with heap := s₂.heap, slotsUsed := s₂.slotsUsed } : State).setVm s₂.vm), Ls ++ L, c0 + mc, s0 + ms⟩,
      ⟨X.admits, X.cas, X.clock, X.frames, X.room, X.hears, X.method, X.code, (X.here.setHeapUsed s₂.heap s₂.slotsUsed).setVm hW'.alike, X.tail, State.WarmedH.trans X.warmed hW', X.limits, X.bytes, X.same.trans (hsame.setVm s.vm)⟩,
      ⟨g, mk, s₂, L, E, ce, rfl, rfl, hx, hce, hcv, hcl, rfl, hL, rfl, rfl⟩, ?_⟩
    show Steps p.tables e below _ (((({ U with heap := s₂.heap, slotsUsed := s₂.slotsUsed } : State).setVm s₂.vm).setTop g).pushFrame (.throwing q))
    rw [← hs₂]
    exact hsteps
end Payer
section Calls
variable {p : Program} {l : Launch} {e : Env} {R : Room} {s : State} {m : MethodId} {args : Array Value} {below : List Frame} {meth : Method} {c : Code} {T : State} {locs : List Loc} {cells slots : Nat}
theorem vx_callV (X : Stand p l e R s m args below meth c T locs cells slots) (hexec : p.tables.exec = Jvm.exec) {own C : String} {index : Nat} {y : MethodName} {bytes : ByteArray} {maxL : Nat} {ret : Option FieldType}
    (hown : s.vm.findClass own = some m.cls) (hlink : (Cond.methodLink own index y).before args s = true) (hinst : (Cond.instanceMethod y).before args s = true) (hsel : (Cond.selects C y y).before args s = true)
    (hcode : (Cond.code y bytes maxL ret).before args s = true) (hy : y.cls ≠ "java/lang/invoke/MethodHandle" ∧ y.cls ≠ "java/lang/invoke/VarHandle")
    {W9 : Nat} {Pre : Pt → Array Value → Prop} {Post : Pt → Array Value → Option Value → Pt → Prop} {PostX : Pt → Array Value → Addr → Pt → Prop} (hK : vx_Back l R p e below s args y 3 W9 Pre Post PostX)
    {b : Addr} {cellB : Cell} (hcell : T.heap[b]? = some cellB) (hobj : cellB.vm.isStatics = false) (hcls : s.vm.findClass C = some cellB.cls)
    {g : JFrame} (hg : g.method = m) (hsize : g.locals.size = c.maxLocals) {argsL rest : List Value} (hlen : ∀ sig, parseMethodDescriptor y.desc = some sig → argsL.length = sig.parameters.length)
    (hstack : g.stack = argsL.reverse ++ .ref b :: rest) (hW : 2 * g.monitorRoom + (rest.map fun v => v.category).sum ≤ W9) (hdg : decode c.code g.pc = .ok (.invokevirtual index, 3))
    (hpre : ∀ vm₁, s.WarmedH vm₁ → Pre ⟨T.setVm vm₁, locs, cells, slots⟩ (Value.ref b :: argsL).toArray) :
    (∃ (v : Option Value) (vm₁ : Vm) (B : Pt), s.WarmedH vm₁ ∧ Stand p l e R s m args below meth c B.U B.locs B.cells B.slots ∧ Post ⟨T.setVm vm₁, locs, cells, slots⟩ (Value.ref b :: argsL).toArray v B ∧
      ∀ target, Steps p.tables e below (B.U.setTop { g with pc := g.pc + 3, stack := v.toList ++ rest }) target → Steps p.tables e below (T.setTop g) target) ∨
    (∃ (q : Addr) (vm₁ : Vm) (B : Pt), s.WarmedH vm₁ ∧ Stand p l e R s m args below meth c B.U B.locs B.cells B.slots ∧ PostX ⟨T.setVm vm₁, locs, cells, slots⟩ (Value.ref b :: argsL).toArray q B ∧
      Steps p.tables e below (T.setTop g) ((B.U.setTop { g with stack := rest }).pushFrame (.throwing q))) := by
  obtain ⟨mk, methM, hnamed, hmethM, hstM, habM⟩ := Cond.instanceMethod_spec hinst
  obtain ⟨methM', cM, hmethM', -, -, -, -, -, -, hsigM⟩ := Cond.code_spec hnamed hcode
  cases hmethM.symm.trans hmethM'
  obtain ⟨c2, r2, m2, q1, q2, q3, q4, kP, hkP, hkPi⟩ := Cond.selects_spec hsel
  cases hcls.symm.trans q1
  cases (State.methodFound?_of_named hnamed hy).symm.trans q2
  cases hnamed.symm.trans q3
  have hselP : selectMethod e.platform s.vm cellB.cls mk = .method mk := by rw [Launch.admits_selectMethod X.admits]; exact q4
  obtain ⟨vm₁, X₁, hstep₁⟩ := X.invokevirtual hexec hown hlink hnamed hmethM hstM hkP hkPi hy (a := b) (cell := cellB) hcell
    (fun z h => by rw [h] at hobj; cases hobj) hselP hmethM habM hkP hkPi (g := g) hg (argsL := argsL) (rest := rest) (hlen _ hsigM) hstack hdg
  rcases hK m meth c ⟨T.setVm vm₁, locs, cells, slots⟩ { g with stack := rest } (.invokevirtual index) mk (Value.ref b :: argsL).toArray X₁ hg hsize hdg hW (X₁.named hnamed) (hpre vm₁ X₁.warmed) with ⟨v, B, X', hpost, hsteps⟩ | ⟨q, B, X', hpost, hsteps⟩
  · exact Or.inl ⟨v, vm₁, B, X₁.warmed, X', hpost, fun target h => hstep₁ _ fun acts => by rw [doInvoke_state]; exact hsteps.trans h⟩
  · exact Or.inr ⟨q, vm₁, B, X₁.warmed, X', hpost, hstep₁ _ fun acts => by rw [doInvoke_state]; exact hsteps⟩
theorem vx_callS (X : Stand p l e R s m args below meth c T locs cells slots) (hexec : p.tables.exec = Jvm.exec) {own : String} {index : Nat} {y : MethodName} {bytes : ByteArray} {maxL : Nat} {ret : Option FieldType}
    (hown : s.vm.findClass own = some m.cls) (hlink : (Cond.methodLink own index y).before args s = true) (hstat : (Cond.static y).before args s = true) (hinit : (Cond.initialized y.cls).before args s = true)
    (hcode : (Cond.code y bytes maxL ret).before args s = true) (hy : y.cls ≠ "java/lang/invoke/MethodHandle" ∧ y.cls ≠ "java/lang/invoke/VarHandle")
    {W9 : Nat} {Pre : Pt → Array Value → Prop} {Post : Pt → Array Value → Option Value → Pt → Prop} {PostX : Pt → Array Value → Addr → Pt → Prop} (hK : vx_Back l R p e below s args y 3 W9 Pre Post PostX)
    {g : JFrame} (hg : g.method = m) (hsize : g.locals.size = c.maxLocals) {argsL rest : List Value} (hlen : ∀ sig, parseMethodDescriptor y.desc = some sig → argsL.length = sig.parameters.length)
    (hstack : g.stack = argsL.reverse ++ rest) (hW : 2 * g.monitorRoom + (rest.map fun v => v.category).sum ≤ W9) (hdg : decode c.code g.pc = .ok (.invokestatic index, 3))
    (hpre : ∀ vm₁, s.WarmedH vm₁ → Pre ⟨T.setVm vm₁, locs, cells, slots⟩ argsL.toArray) :
    (∃ (v : Option Value) (vm₁ : Vm) (B : Pt), s.WarmedH vm₁ ∧ Stand p l e R s m args below meth c B.U B.locs B.cells B.slots ∧ Post ⟨T.setVm vm₁, locs, cells, slots⟩ argsL.toArray v B ∧
      ∀ target, Steps p.tables e below (B.U.setTop { g with pc := g.pc + 3, stack := v.toList ++ rest }) target → Steps p.tables e below (T.setTop g) target) ∨
    (∃ (q : Addr) (vm₁ : Vm) (B : Pt), s.WarmedH vm₁ ∧ Stand p l e R s m args below meth c B.U B.locs B.cells B.slots ∧ PostX ⟨T.setVm vm₁, locs, cells, slots⟩ argsL.toArray q B ∧
      Steps p.tables e below (T.setTop g) ((B.U.setTop { g with stack := rest }).pushFrame (.throwing q))) := by
  obtain ⟨mk, hnamed⟩ := Cond.code_named hcode
  obtain ⟨methM, cM, hmethM, -, -, -, -, -, -, hsigM⟩ := Cond.code_spec hnamed hcode
  have hstatic : methM.isStatic = true := Cond.static_spec hnamed hmethM hstat
  obtain ⟨kP, hkP, -⟩ := className_of_methodNamed hnamed
  have hinitP : kP.init = .initialized := Cond.initialized_spec (findClass_of_methodNamed hnamed) hkP hinit
  obtain ⟨vm₁, X₁, hstep₁⟩ := X.invokestatic hexec hown hlink hnamed hmethM hstatic hkP hinitP hy (g := g) hg (argsL := argsL) (rest := rest) (hlen _ hsigM) hstack hdg
  rcases hK m meth c ⟨T.setVm vm₁, locs, cells, slots⟩ { g with stack := rest } (.invokestatic index) mk argsL.toArray X₁ hg hsize hdg hW (X₁.named hnamed) (hpre vm₁ X₁.warmed) with ⟨v, B, X', hpost, hsteps⟩ | ⟨q, B, X', hpost, hsteps⟩
  · exact Or.inl ⟨v, vm₁, B, X₁.warmed, X', hpost, fun target h => hstep₁ _ fun acts => by rw [doInvoke_state]; exact hsteps.trans h⟩
  · exact Or.inr ⟨q, vm₁, B, X₁.warmed, X', hpost, hstep₁ _ fun acts => by rw [doInvoke_state]; exact hsteps⟩
end Calls
theorem vx_cls {s : State} {T : State} {vm₁ : Vm} {E : String} {k : ClassId} (hW : s.WarmedH vm₁) (h : (T.setVm vm₁).vm.findClass E = some k) : s.vm.findClass E = some k := by
  have h1 : vm₁.findClass E = some k := h
  rw [hW.alike.findClass] at h1
  exact h1
/-- the method's frame g, with q thrown over it -/
def vx_W (p : Program) (l : Launch) (e : Env) (R : Room) (s : State) (m : MethodId) (args : Array Value) (below : List Frame) (meth : Method) (c : Code) (H : Heap) (locs : List Loc) (cells slots : Nat) (Q : State → Prop) (g : JFrame) (q : Addr) : Prop :=
  ∀ T : State, T.heap = H → Stand p l e R s m args below meth c T locs cells slots → ∃ t, Steps p.tables e below ((T.setTop g).pushFrame (.throwing q)) t ∧ Q t
def vx_Run (p : Program) (l : Launch) (e : Env) (R : Room) (s : State) (m : MethodId) (args : Array Value) (below : List Frame) (meth : Method) (c : Code) (H : Heap) (locs : List Loc) (cells slots mc ms : Nat) (g : JFrame) (rest : List Value) (Qa : State → Outcome → State → Prop) (XC : String → State → State → Prop) (free : Addr → Prop) : Prop :=
  ∀ T : State, T.heap = H → Stand p l e R s m args below meth c T locs cells slots →
    (∃ (v : Option Value) (st₀ t T' : State) (L : List Loc), st₀.heap = H ∧ Stand p l e R s m args below meth c T' (locs ++ L) (cells + mc) (slots + ms) ∧ (∀ q ∈ L, free q.base) ∧ T'.heap = t.heap ∧ T'.vm = t.vm ∧ Qa st₀ (.returned v) t ∧
      Goes p e below T g T' { g with pc := g.pc + 3, stack := v.toList ++ rest }) ∨
    (∃ (q : Addr) (st₀ t T' : State) (L : List Loc) (E : String) (ce : Cell), st₀.heap = H ∧ Stand p l e R s m args below meth c T' (locs ++ L) (cells + mc) (slots + ms) ∧ (∀ z ∈ L, free z.base) ∧ T'.heap = t.heap ∧ T'.vm = t.vm ∧ XC E st₀ t ∧ t.heap[q]? = some ce ∧ ce.vm = .none ∧ s.vm.findClass E = some ce.cls ∧
      Steps p.tables e below (T.setTop g) ((T'.setTop { g with stack := rest }).pushFrame (.throwing q)))
def vx_X {S : Type} (px : S → Prop) (B : String → S → State → Prop) (A : Nat → Prop) : String → State → State → Prop := fun E st t => ∃ u : S, px u ∧ B E u t ∧ va_F A st t
section Runs
variable {p : Program} {l : Launch} {e : Env} {R : Room} {s : State} {m : MethodId} {args : Array Value} {below : List Frame} {meth : Method} {c : Code} {H : Heap} {locs : List Loc} {cells slots : Nat}
variable {y : MethodName} {bytes cc : ByteArray} {maxL nL mc ms n index : Nat} {ret : Option FieldType} {ws : List Cond} {rm : Room} {Pc : Array Value → State → Prop} {Qc : Array Value → State → Outcome → State → Prop} {XC : String → State → State → Prop} {free : Addr → Prop} {Ts : List Cond} {own C : String} {b : Addr} {As rest : List Value} {g : JFrame}
theorem vx_callBack (cb : CallB R s args own index y bytes maxL ret ws rm mc ms n) (hM : vx_Met l y ws rm Pc Qc XC mc ms free) (hbl : FrameBlind Pc) : vx_Back l R p e below s args y 3 8 (PreOf R mc ms Pc) (PostOf Qc mc ms free) (vx_Post XC mc ms free) := by
  obtain ⟨hrc, hrs, hfr, hlo, hws, hcw, -, hini, -⟩ := cb
  exact vx_back (bytes := bytes) (maxL := maxL) (ret := ret) hM hbl hrc hrs hfr hlo hws hcw (fun a' U hW => word_at hW (Or.inl (by first | rfl | simp [Cond.onTables, Cond.keeps, Cond.steady])) hini)
theorem vx_runV (S : CallFix p m c cc nL s args Ts own) (hM : vx_Met l y ws rm Pc Qc XC mc ms free) (cw : CallW R s args own C index y bytes maxL ret ws rm mc ms n) (hp : PreV s H C b Pc As)
    (hg : g.method = m) (hn : As.length = n) (hsize : g.locals.size = nL) (hstack : g.stack = As.reverse ++ .ref b :: rest) (hW : 2 * g.monitorRoom + (rest.map fun v => v.category).sum ≤ 8) (hdg : decode cc g.pc = .ok (.invokevirtual index, 3)) (hf : cells + mc ≤ R.cells ∧ slots + ms ≤ R.slots) :
    vx_Run p l e R s m args below meth c H locs cells slots mc ms g rest (Qc (Value.ref b :: As).toArray) XC free := by
  have hK : vx_Back l R p e below s args y 3 8 (PreOf R mc ms Pc) (PostOf Qc mc ms free) (vx_Post XC mc ms free) := vx_callBack cw.1 hM hp.1
  obtain ⟨⟨-, -, -, -, -, -, hcode, -, hy, hlen, hl⟩, hin, hse⟩ := cw
  obtain ⟨hx, hb, hml, ho, -⟩ := S
  obtain ⟨-, ⟨cellB, hcB, hoB, hclB⟩, hPc⟩ := hp
  intro T hT X
  rcases vx_callV X hx (C := C) (bytes := bytes) (maxL := maxL) (ret := ret) ho hl hin hse hcode hy hK (by rw [hT]; exact hcB) hoB hclB hg (hsize.trans hml.symm) (argsL := As) (rest := rest) (fun sig h => hn.trans (hlen sig h)) hstack hW (by rw [hb]; exact hdg)
    (fun vm₁ hW₁ => ⟨hf.1, hf.2, hPc (T.setVm vm₁) hT hW₁⟩) with ⟨v, vm₁, ⟨U', l2, c2, s2⟩, hW₁, X', ⟨g', mk, t, L, e1, e2, hq, h1, hL, h2, h3⟩, st⟩ | ⟨q, vm₁, ⟨U', l2, c2, s2⟩, hW₁, X', ⟨g', mk, t, L, E, ce, e1, e2, hq, hce, hcv, hcl, h1, hL, h2, h3⟩, st⟩
  · dsimp only [Pt.U, Pt.locs, Pt.cells, Pt.slots] at X' e1 e2 h1 h2 h3 st
    subst h1; subst h2; subst h3
    exact Or.inl ⟨v, (T.setVm vm₁).calling g' mk (Value.ref b :: As).toArray, t, U', L, hT, X', hL, e1, e2, hq, st⟩
  · dsimp only [Pt.U, Pt.locs, Pt.cells, Pt.slots] at X' e1 e2 h1 h2 h3 st hcl
    subst h1; subst h2; subst h3
    exact Or.inr ⟨q, (T.setVm vm₁).calling g' mk (Value.ref b :: As).toArray, t, U', L, E, ce, hT, X', hL, e1, e2, hq, hce, hcv, vx_cls hW₁ hcl, st⟩
theorem vx_runS (S : CallFix p m c cc nL s args Ts own) (hM : vx_Met l y ws rm Pc Qc XC mc ms free) (cw : CallB R s args own index y bytes maxL ret ws rm mc ms n ∧ (Cond.static y).before args s = true) (hp : PreS s H Pc As)
    (hg : g.method = m) (hn : As.length = n) (hsize : g.locals.size = nL) (hstack : g.stack = As.reverse ++ rest) (hW : 2 * g.monitorRoom + (rest.map fun v => v.category).sum ≤ 8) (hdg : decode cc g.pc = .ok (.invokestatic index, 3)) (hf : cells + mc ≤ R.cells ∧ slots + ms ≤ R.slots) :
    vx_Run p l e R s m args below meth c H locs cells slots mc ms g rest (Qc As.toArray) XC free := by
  have hK : vx_Back l R p e below s args y 3 8 (PreOf R mc ms Pc) (PostOf Qc mc ms free) (vx_Post XC mc ms free) := vx_callBack cw.1 hM hp.1
  obtain ⟨⟨-, -, -, -, -, -, hcode, hini, hy, hlen, hl⟩, hstt⟩ := cw
  obtain ⟨hx, hb, hml, ho, -⟩ := S
  intro T hT X
  rcases vx_callS X hx (bytes := bytes) (maxL := maxL) (ret := ret) ho hl hstt hini hcode hy hK hg (hsize.trans hml.symm) (argsL := As) (rest := rest) (fun sig h => hn.trans (hlen sig h)) hstack hW (by rw [hb]; exact hdg)
    (fun vm₁ hW₁ => ⟨hf.1, hf.2, hp.2 (T.setVm vm₁) hT hW₁⟩) with ⟨v, vm₁, ⟨U', l2, c2, s2⟩, hW₁, X', ⟨g', mk, t, L, e1, e2, hq, h1, hL, h2, h3⟩, st⟩ | ⟨q, vm₁, ⟨U', l2, c2, s2⟩, hW₁, X', ⟨g', mk, t, L, E, ce, e1, e2, hq, hce, hcv, hcl, h1, hL, h2, h3⟩, st⟩
  · dsimp only [Pt.U, Pt.locs, Pt.cells, Pt.slots] at X' e1 e2 h1 h2 h3 st
    subst h1; subst h2; subst h3
    exact Or.inl ⟨v, (T.setVm vm₁).calling g' mk As.toArray, t, U', L, hT, X', hL, e1, e2, hq, st⟩
  · dsimp only [Pt.U, Pt.locs, Pt.cells, Pt.slots] at X' e1 e2 h1 h2 h3 st hcl
    subst h1; subst h2; subst h3
    exact Or.inr ⟨q, (T.setVm vm₁).calling g' mk As.toArray, t, U', L, E, ce, hT, X', hL, e1, e2, hq, hce, hcv, vx_cls hW₁ hcl, st⟩
end Runs
section Rows
variable {p : Program} {l : Launch} {e : Env} {R : Room} {s : State} {m : MethodId} {args : Array Value} {below : List Frame} {meth : Method} {c : Code} {H : Heap} {locs : List Loc} {cells slots : Nat} {Q : State → Prop}
variable {mc ms : Nat} {free : Addr → Prop} {A0 A1 : Nat → Prop} {H0 : Heap} {a : Array Value} {pc : Nat} {ls : Array Slot} {st0 rest : List Value}
theorem vx_keep {st₀ t T' : State} {L : List Loc} (h0 : st₀.heap = H) (e1 : T'.heap = t.heap) (hS : va_S A0 H0 H locs) (hA : ∀ q, q < H.size → A1 q → A0 q) (hf : ∀ q, free q → A0 q) (hL : ∀ q ∈ L, free q.base) (hF : va_F A1 st₀ t) :
    H.size ≤ T'.heap.size ∧ (∀ q : Nat, q < H.size → ¬ A1 q → T'.heap[q]? = H[q]?) ∧ va_S A0 H0 T'.heap (locs ++ L) := by
  obtain ⟨hz, hk⟩ := hF
  rw [h0] at hz hk
  exact ⟨by rw [e1]; exact hz, fun q h1 h2 => by rw [e1]; exact hk q h1 h2,
    ⟨Nat.le_trans hS.1 (by rw [e1]; exact hz), fun q h1 h2 => by rw [e1, hk q (Nat.lt_of_lt_of_le h1 hS.1) (fun z => h2 (hA q (Nat.lt_of_lt_of_le h1 hS.1) z))]; exact hS.2.1 q h1 h2, fun q hq => by
      rcases List.mem_append.mp hq with h | h
      · exact hS.2.2 q h
      · exact hf _ (hL q h)⟩⟩
theorem vx_calli {S SX : Type} {post : Int32 → S → Prop} {px : SX → Prop} {B : S → State → Prop} {BX : String → SX → State → Prop} {AX : Nat → Prop} (hr : vx_Run p l e R s m args below meth c H locs cells slots mc ms (F0 m pc ls st0) rest (va_Qi post B A1 a) (vx_X px BX AX) free) (hS : va_S A0 H0 H locs) (hA : ∀ q, q < H.size → A1 q → A0 q) (hf : ∀ q, free q → A0 q) (hAX : ∀ q, q < H.size → AX q → A0 q)
    (kx : ∀ (E : String) (ce : Cell) (q9 : Addr) (u : SX) (t : State) (H1 : Heap) (locs1 : List Loc), t.heap = H1 → s.vm.Alike t.vm → px u → BX E u t → H.size ≤ H1.size → (∀ q : Nat, q < H.size → ¬ AX q → H1[q]? = H[q]?) → va_S A0 H0 H1 locs1 → H1[q9]? = some ce → ce.vm = .none → s.vm.findClass E = some ce.cls → vx_W p l e R s m args below meth c H1 locs1 (cells + mc) (slots + ms) Q (F0 m pc ls rest) q9)
    (kk : ∀ (r : Int32) (u : S) (t : State) (H1 : Heap) (locs1 : List Loc), t.heap = H1 → s.vm.Alike t.vm → post r u → B u t → H.size ≤ H1.size → (∀ q : Nat, q < H.size → ¬ A1 q → H1[q]? = H[q]?) → va_S A0 H0 H1 locs1 → W p l e R s m args below meth c H1 locs1 (cells + mc) (slots + ms) Q (F0 m (pc + 3) ls (.int r :: rest))) : W p l e R s m args below meth c H locs cells slots Q (F0 m pc ls st0) := by
  intro T hT X
  rcases hr T hT X with ⟨v, st₀, t, T', L, h0, X', hL, e1, e2, ⟨⟨r, u, hv, hp, hb⟩, hF⟩, st⟩ | ⟨q, st₀, t, T', L, E, ce, h0, X', hL, e1, e2, ⟨u, hp, hb, hF⟩, hce, hcv, hcl, st⟩
  · cases hv
    obtain ⟨k1, k2, k3⟩ := vx_keep h0 e1 hS hA hf hL hF
    obtain ⟨t2, a1, b1⟩ := kk r u t T'.heap (locs ++ L) e1.symm (by rw [← e2]; exact X'.warmed.alike) hp hb k1 k2 k3 T' rfl X'
    exact ⟨t2, st t2 a1, b1⟩
  · obtain ⟨k1, k2, k3⟩ := vx_keep h0 e1 hS hAX hf hL hF
    obtain ⟨t2, a1, b1⟩ := kx E ce q u t T'.heap (locs ++ L) e1.symm (by rw [← e2]; exact X'.warmed.alike) hp hb k1 k2 k3 (by rw [e1]; exact hce) hcv hcl T' rfl X'
    exact ⟨t2, st.trans a1, b1⟩
theorem vx_calll {S SX : Type} {post : Int64 → S → Prop} {px : SX → Prop} {B : S → State → Prop} {BX : String → SX → State → Prop} {AX : Nat → Prop} (hr : vx_Run p l e R s m args below meth c H locs cells slots mc ms (F0 m pc ls st0) rest (va_Ql post B A1 a) (vx_X px BX AX) free) (hS : va_S A0 H0 H locs) (hA : ∀ q, q < H.size → A1 q → A0 q) (hf : ∀ q, free q → A0 q) (hAX : ∀ q, q < H.size → AX q → A0 q)
    (kx : ∀ (E : String) (ce : Cell) (q9 : Addr) (u : SX) (t : State) (H1 : Heap) (locs1 : List Loc), t.heap = H1 → s.vm.Alike t.vm → px u → BX E u t → H.size ≤ H1.size → (∀ q : Nat, q < H.size → ¬ AX q → H1[q]? = H[q]?) → va_S A0 H0 H1 locs1 → H1[q9]? = some ce → ce.vm = .none → s.vm.findClass E = some ce.cls → vx_W p l e R s m args below meth c H1 locs1 (cells + mc) (slots + ms) Q (F0 m pc ls rest) q9)
    (kk : ∀ (r : Int64) (u : S) (t : State) (H1 : Heap) (locs1 : List Loc), t.heap = H1 → s.vm.Alike t.vm → post r u → B u t → H.size ≤ H1.size → (∀ q : Nat, q < H.size → ¬ A1 q → H1[q]? = H[q]?) → va_S A0 H0 H1 locs1 → W p l e R s m args below meth c H1 locs1 (cells + mc) (slots + ms) Q (F0 m (pc + 3) ls (.long r :: rest))) : W p l e R s m args below meth c H locs cells slots Q (F0 m pc ls st0) := by
  intro T hT X
  rcases hr T hT X with ⟨v, st₀, t, T', L, h0, X', hL, e1, e2, ⟨⟨r, u, hv, hp, hb⟩, hF⟩, st⟩ | ⟨q, st₀, t, T', L, E, ce, h0, X', hL, e1, e2, ⟨u, hp, hb, hF⟩, hce, hcv, hcl, st⟩
  · cases hv
    obtain ⟨k1, k2, k3⟩ := vx_keep h0 e1 hS hA hf hL hF
    obtain ⟨t2, a1, b1⟩ := kk r u t T'.heap (locs ++ L) e1.symm (by rw [← e2]; exact X'.warmed.alike) hp hb k1 k2 k3 T' rfl X'
    exact ⟨t2, st t2 a1, b1⟩
  · obtain ⟨k1, k2, k3⟩ := vx_keep h0 e1 hS hAX hf hL hF
    obtain ⟨t2, a1, b1⟩ := kx E ce q u t T'.heap (locs ++ L) e1.symm (by rw [← e2]; exact X'.warmed.alike) hp hb k1 k2 k3 (by rw [e1]; exact hce) hcv hcl T' rfl X'
    exact ⟨t2, st.trans a1, b1⟩
theorem vx_callf {S SX : Type} {post : UInt32 → S → Prop} {px : SX → Prop} {B : S → State → Prop} {BX : String → SX → State → Prop} {AX : Nat → Prop} (hr : vx_Run p l e R s m args below meth c H locs cells slots mc ms (F0 m pc ls st0) rest (va_Qf post B A1 a) (vx_X px BX AX) free) (hS : va_S A0 H0 H locs) (hA : ∀ q, q < H.size → A1 q → A0 q) (hf : ∀ q, free q → A0 q) (hAX : ∀ q, q < H.size → AX q → A0 q)
    (kx : ∀ (E : String) (ce : Cell) (q9 : Addr) (u : SX) (t : State) (H1 : Heap) (locs1 : List Loc), t.heap = H1 → s.vm.Alike t.vm → px u → BX E u t → H.size ≤ H1.size → (∀ q : Nat, q < H.size → ¬ AX q → H1[q]? = H[q]?) → va_S A0 H0 H1 locs1 → H1[q9]? = some ce → ce.vm = .none → s.vm.findClass E = some ce.cls → vx_W p l e R s m args below meth c H1 locs1 (cells + mc) (slots + ms) Q (F0 m pc ls rest) q9)
    (kk : ∀ (r : UInt32) (u : S) (t : State) (H1 : Heap) (locs1 : List Loc), t.heap = H1 → s.vm.Alike t.vm → post r u → B u t → H.size ≤ H1.size → (∀ q : Nat, q < H.size → ¬ A1 q → H1[q]? = H[q]?) → va_S A0 H0 H1 locs1 → W p l e R s m args below meth c H1 locs1 (cells + mc) (slots + ms) Q (F0 m (pc + 3) ls (.float r :: rest))) : W p l e R s m args below meth c H locs cells slots Q (F0 m pc ls st0) := by
  intro T hT X
  rcases hr T hT X with ⟨v, st₀, t, T', L, h0, X', hL, e1, e2, ⟨⟨r, u, hv, hp, hb⟩, hF⟩, st⟩ | ⟨q, st₀, t, T', L, E, ce, h0, X', hL, e1, e2, ⟨u, hp, hb, hF⟩, hce, hcv, hcl, st⟩
  · cases hv
    obtain ⟨k1, k2, k3⟩ := vx_keep h0 e1 hS hA hf hL hF
    obtain ⟨t2, a1, b1⟩ := kk r u t T'.heap (locs ++ L) e1.symm (by rw [← e2]; exact X'.warmed.alike) hp hb k1 k2 k3 T' rfl X'
    exact ⟨t2, st t2 a1, b1⟩
  · obtain ⟨k1, k2, k3⟩ := vx_keep h0 e1 hS hAX hf hL hF
    obtain ⟨t2, a1, b1⟩ := kx E ce q u t T'.heap (locs ++ L) e1.symm (by rw [← e2]; exact X'.warmed.alike) hp hb k1 k2 k3 (by rw [e1]; exact hce) hcv hcl T' rfl X'
    exact ⟨t2, st.trans a1, b1⟩
theorem vx_calld {S SX : Type} {post : UInt64 → S → Prop} {px : SX → Prop} {B : S → State → Prop} {BX : String → SX → State → Prop} {AX : Nat → Prop} (hr : vx_Run p l e R s m args below meth c H locs cells slots mc ms (F0 m pc ls st0) rest (va_Qd post B A1 a) (vx_X px BX AX) free) (hS : va_S A0 H0 H locs) (hA : ∀ q, q < H.size → A1 q → A0 q) (hf : ∀ q, free q → A0 q) (hAX : ∀ q, q < H.size → AX q → A0 q)
    (kx : ∀ (E : String) (ce : Cell) (q9 : Addr) (u : SX) (t : State) (H1 : Heap) (locs1 : List Loc), t.heap = H1 → s.vm.Alike t.vm → px u → BX E u t → H.size ≤ H1.size → (∀ q : Nat, q < H.size → ¬ AX q → H1[q]? = H[q]?) → va_S A0 H0 H1 locs1 → H1[q9]? = some ce → ce.vm = .none → s.vm.findClass E = some ce.cls → vx_W p l e R s m args below meth c H1 locs1 (cells + mc) (slots + ms) Q (F0 m pc ls rest) q9)
    (kk : ∀ (r : UInt64) (u : S) (t : State) (H1 : Heap) (locs1 : List Loc), t.heap = H1 → s.vm.Alike t.vm → post r u → B u t → H.size ≤ H1.size → (∀ q : Nat, q < H.size → ¬ A1 q → H1[q]? = H[q]?) → va_S A0 H0 H1 locs1 → W p l e R s m args below meth c H1 locs1 (cells + mc) (slots + ms) Q (F0 m (pc + 3) ls (.double r :: rest))) : W p l e R s m args below meth c H locs cells slots Q (F0 m pc ls st0) := by
  intro T hT X
  rcases hr T hT X with ⟨v, st₀, t, T', L, h0, X', hL, e1, e2, ⟨⟨r, u, hv, hp, hb⟩, hF⟩, st⟩ | ⟨q, st₀, t, T', L, E, ce, h0, X', hL, e1, e2, ⟨u, hp, hb, hF⟩, hce, hcv, hcl, st⟩
  · cases hv
    obtain ⟨k1, k2, k3⟩ := vx_keep h0 e1 hS hA hf hL hF
    obtain ⟨t2, a1, b1⟩ := kk r u t T'.heap (locs ++ L) e1.symm (by rw [← e2]; exact X'.warmed.alike) hp hb k1 k2 k3 T' rfl X'
    exact ⟨t2, st t2 a1, b1⟩
  · obtain ⟨k1, k2, k3⟩ := vx_keep h0 e1 hS hAX hf hL hF
    obtain ⟨t2, a1, b1⟩ := kx E ce q u t T'.heap (locs ++ L) e1.symm (by rw [← e2]; exact X'.warmed.alike) hp hb k1 k2 k3 (by rw [e1]; exact hce) hcv hcl T' rfl X'
    exact ⟨t2, st.trans a1, b1⟩
theorem vx_callv {S SX : Type} {post : S → Prop} {px : SX → Prop} {B : S → State → Prop} {BX : String → SX → State → Prop} {AX : Nat → Prop} (hr : vx_Run p l e R s m args below meth c H locs cells slots mc ms (F0 m pc ls st0) rest (va_Qv post B A1 a) (vx_X px BX AX) free) (hS : va_S A0 H0 H locs) (hA : ∀ q, q < H.size → A1 q → A0 q) (hf : ∀ q, free q → A0 q) (hAX : ∀ q, q < H.size → AX q → A0 q)
    (kx : ∀ (E : String) (ce : Cell) (q9 : Addr) (u : SX) (t : State) (H1 : Heap) (locs1 : List Loc), t.heap = H1 → s.vm.Alike t.vm → px u → BX E u t → H.size ≤ H1.size → (∀ q : Nat, q < H.size → ¬ AX q → H1[q]? = H[q]?) → va_S A0 H0 H1 locs1 → H1[q9]? = some ce → ce.vm = .none → s.vm.findClass E = some ce.cls → vx_W p l e R s m args below meth c H1 locs1 (cells + mc) (slots + ms) Q (F0 m pc ls rest) q9)
    (kk : ∀ (u : S) (t : State) (H1 : Heap) (locs1 : List Loc), t.heap = H1 → s.vm.Alike t.vm → post u → B u t → H.size ≤ H1.size → (∀ q : Nat, q < H.size → ¬ A1 q → H1[q]? = H[q]?) → va_S A0 H0 H1 locs1 → W p l e R s m args below meth c H1 locs1 (cells + mc) (slots + ms) Q (F0 m (pc + 3) ls (rest))) : W p l e R s m args below meth c H locs cells slots Q (F0 m pc ls st0) := by
  intro T hT X
  rcases hr T hT X with ⟨v, st₀, t, T', L, h0, X', hL, e1, e2, ⟨⟨u, hv, hp, hb⟩, hF⟩, st⟩ | ⟨q, st₀, t, T', L, E, ce, h0, X', hL, e1, e2, ⟨u, hp, hb, hF⟩, hce, hcv, hcl, st⟩
  · cases hv
    obtain ⟨k1, k2, k3⟩ := vx_keep h0 e1 hS hA hf hL hF
    obtain ⟨t2, a1, b1⟩ := kk u t T'.heap (locs ++ L) e1.symm (by rw [← e2]; exact X'.warmed.alike) hp hb k1 k2 k3 T' rfl X'
    exact ⟨t2, st t2 a1, b1⟩
  · obtain ⟨k1, k2, k3⟩ := vx_keep h0 e1 hS hAX hf hL hF
    obtain ⟨t2, a1, b1⟩ := kx E ce q u t T'.heap (locs ++ L) e1.symm (by rw [← e2]; exact X'.warmed.alike) hp hb k1 k2 k3 (by rw [e1]; exact hce) hcv hcl T' rfl X'
    exact ⟨t2, st.trans a1, b1⟩
/-- caught by the row x of this method's table; the rows ahead don't take it -/
theorem vx_catch {own name : String} {E : String} {ce : Cell} {q : Addr} (hown : s.vm.findClass own = some m.cls) (pre : List ExceptionTableEntry) (x : ExceptionTableEntry) (suf : List ExceptionTableEntry) (hsplit : c.exceptionTable.toList = pre ++ x :: suf)
    (hpass : ∀ z ∈ pre, covers z pc = false ∨ (z.catchType ≠ 0 ∧ ∃ nm : String, (Cond.classLink own z.catchType nm).before args s = true ∧ va_Nc E nm s)) (hx : covers x pc = true) (h0 : x.catchType ≠ 0)
    (hlink : (Cond.classLink own x.catchType name).before args s = true) (hcast : (Cond.castable E name).before args s = true) (hcell : H[q]? = some ce) (hv : ce.vm = .none) (hcl : s.vm.findClass E = some ce.cls)
    (kk : W p l e R s m args below meth c H locs cells slots Q (F0 m x.handlerPc ls [.ref q])) : vx_W p l e R s m args below meth c H locs cells slots Q (F0 m pc ls rest) q := by
  intro T hT X
  have hpl : e.platform.magicAccessors = ({} : Platform).magicAccessors := by rw [X.admits.platform]
  obtain ⟨c3, c4, hc3, hc4, hasg⟩ := Cond.castable_spec hcast
  cases Option.some.inj (hc3.symm.trans hcl)
  obtain ⟨c5, hc5, hcl5⟩ := Cond.classLink_spec hown hlink e.platform hpl
  cases Option.some.inj (hc4.symm.trans hc5)
  obtain ⟨vm', X', st⟩ := X.thenCaughtThrough q (g := F0 m pc ls rest) rfl (Steps.refl _) (by rw [hT]; exact hcell) (by rw [hv]; rfl) (by obtain ⟨k9, h9, -⟩ := Vm.findClass_spec hcl; exact ⟨k9, h9⟩) pre x suf hsplit
    (fun z hz => by
      rcases hpass z hz with h | ⟨hz0, nm, hl1, hn1⟩
      · exact Or.inl h
      · obtain ⟨c6, hc6, hcl6⟩ := Cond.classLink_spec hown hl1 e.platform hpl
        obtain ⟨a8, b8, h1, h2, h3⟩ := hn1
        cases Option.some.inj (h1.symm.trans hcl)
        cases Option.some.inj (h2.symm.trans hc6)
        exact Or.inr ⟨hz0, _, hcl6, h3⟩) hx (Or.inr ⟨h0, c4, hcl5, hasg⟩)
  obtain ⟨t, a1, b1⟩ := kk (T.setVm vm') hT X'
  exact ⟨t, st.trans a1, b1⟩
end Rows
section Ends
variable {p : Program} {l : Launch} {e : Env} {R : Room} {s : State} {m : MethodId} {args : Array Value} {below : List Frame} {meth : Method} {c : Code} {H : Heap} {locs : List Loc} {cells slots : Nat} {Q : State → Prop}
variable {mc ms : Nat} {free : Addr → Prop} {A0 A1 : Nat → Prop} {H0 : Heap} {a : Array Value} {ls : Array Slot} {st0 rest : List Value}
variable {Qc : Array Value → State → Outcome → State → Prop} {XC : String → State → State → Prop}
/-- what a body that may throw owes at its end -/
def vx_MQ (below : List Frame) (Qc : Array Value → State → Outcome → State → Prop) (XC : String → State → State → Prop) (a : Array Value) (s : State) (mc ms : Nat) (free : Addr → Prop) : State → Prop := fun t =>
  ∃ o, t.status = .running ∧ Ended t below o ∧ vx_Q Qc XC mc ms free a s o t
theorem vx_ret {g : JFrame} {mc ms : Nat} (k : W p l e R s m args below meth c H locs cells slots (MQ below Qc args s mc ms free) g) : W p l e R s m args below meth c H locs cells slots (vx_MQ below Qc XC args s mc ms free) g := by
  intro T hT X
  obtain ⟨t, a1, o, b1, b2, b3, b4⟩ := k T hT X
  exact ⟨t, a1, o, b1, b2, Or.inl ⟨b3, b4⟩⟩
/-- not caught here: it goes on to the caller -/
theorem vx_widen {g : JFrame} {q : Addr} {k n : Nat} (h1 : cells ≤ k) (h2 : slots ≤ n) (kk : vx_W p l e R s m args below meth c H locs k n Q g q) : vx_W p l e R s m args below meth c H locs cells slots Q g q := fun T hT X => kk T hT (stand_widen X h1 h2)
theorem vx_out {pc : Nat} {E : String} {ce : Cell} {q : Addr} {mc ms : Nat} (hout : ∀ x ∈ c.exceptionTable.toList, covers x pc = false) (hlocks : meth.locks = false) (hcell : H[q]? = some ce) (hv : ce.vm = .none) (hcl : s.vm.findClass E = some ce.cls)
    (hx : ∀ t : State, t.heap = H → s.vm.Alike t.vm → XC E s t) (hf : ∀ z ∈ locs, free z.base) (hc : cells ≤ mc) (hs : slots ≤ ms) :
    vx_W p l e R s m args below meth c H locs cells slots (vx_MQ below Qc XC args s mc ms free) (F0 m pc ls rest) q := by
  intro T hT X
  obtain ⟨st1, hrun, hend, hW, hsm⟩ := X.leaveThrown q (g := F0 m pc ls rest) rfl rfl rfl hout hlocks
  have hcell9 : (T.setFrames (.throwing q :: below)).heap[q]? = some ce := by
    show T.heap[q]? = some ce
    rw [hT]; exact hcell
  exact ⟨_, st1, .threw q, hrun, hend, Or.inr ⟨q, rfl, E, ce, locs, hx _ hT hW.alike, hcell9, hv, hcl, hW, hsm.mono hc hs, hf⟩⟩
theorem vx_frame {U : State} {k n : Nat} (h : s.sameButNew ({ U with vm := s.vm } : State) locs k n) : s.heap.size ≤ U.heap.size ∧ ∀ q : Nat, q < s.heap.size → (∀ z ∈ locs, z.base ≠ q) → U.heap[q]? = s.heap[q]? := by
  obtain ⟨-, h2, -, -, -, h6⟩ := h
  refine ⟨h2, fun q hq hz => ?_⟩
  obtain ⟨c9, e1, e2, e3, e4⟩ := h6 q _ (Array.getElem?_eq_getElem hq)
  have hs : c9.slots = (s.heap[q]).slots := Array.ext_getElem? fun i => e4 i fun hm => hz _ hm rfl
  have h9 : c9 = s.heap[q] := by
    rw [hs] at e2
    exact e2
  have e5 : U.heap[q]? = some c9 := e1
  rw [e5, h9, Array.getElem?_eq_getElem hq]
/-- the words of a throw but the four that speak of the heap -/
def vx_no (w : Cond) : Bool := decide (w ≠ .isRef (.static Bundle.tN "UNASSIGNED_STACK" Bundle.steD)) && decide (w ≠ .isRef (.static Bundle.tN "SUPPRESSED_SENTINEL" Bundle.listD)) && decide (w ≠ .laysStatic Bundle.tN "UNASSIGNED_STACK" Bundle.steD) && decide (w ≠ .laysStatic Bundle.tN "SUPPRESSED_SENTINEL" Bundle.listD)
def vx_at0 (own : String) (ic : Nat) (X : String) (names : List String) : List Cond := (Bundle.ownAtoms0 own ic X names).filter vx_no
def vx_atS (own : String) (ic : Nat) (X : String) (names : List String) : List Cond := (Bundle.ownAtoms own ic X names).filter vx_no
/-- a word that the tables alone decide, or a good one -/
def vx_ot (w : Cond) : Bool := w.onTables || goodWord w
theorem vx_ot_at {args a' : Array Value} {s U : State} {w : Cond} (hW : s.WarmedH U.vm) (hvm : s.vm = U.vm) (hg : vx_ot w = true) (h : w.before args s = true) : w.before a' U = true := by
  simp only [vx_ot, Bool.or_eq_true] at hg
  rcases hg with hg | hg
  · exact va_tabs hg hvm h
  · exact word_at hW (good_of_word hg) h
/-- a list's words: the good ones out of the method's own list, the others by premises of their own -/
theorem vx_hat {args : Array Value} {s : State} {L B : List Cond} (h1 : ∀ w ∈ L.filter goodWord, w.before args s = true) (h2 : ∀ w ∈ L.filter (fun w => !goodWord w), w ∈ B) (h3 : ∀ w ∈ B, w.before args s = true) : ∀ w ∈ L, w.before args s = true := by
  intro w hw
  by_cases g : goodWord w = true
  · exact h1 w (List.mem_filter.mpr ⟨hw, g⟩)
  · refine h3 w (h2 w (List.mem_filter.mpr ⟨hw, ?_⟩))
    show (!goodWord w) = true
    cases hgw : goodWord w
    · rfl
    · exact absurd hgw g
theorem vx_c {args : Array Value} {s : State} {w : Cond} {B : List Cond} (h : w.before args s = true) (t : ∀ w ∈ B, w.before args s = true) : ∀ w' ∈ w :: B, w'.before args s = true := fun w' h' => (List.mem_cons.mp h').elim (fun e => by rw [e]; exact h) (t w')
theorem vx_n {args : Array Value} {s : State} : ∀ w ∈ ([] : List Cond), w.before args s = true := fun _ h => nomatch h
theorem vx_own {args : Array Value} {s : State} {L : List Cond} (h1 : ∀ w ∈ L.filter vx_no, w.before args s = true)
    (hU : (Cond.isRef (.static Bundle.tN "UNASSIGNED_STACK" Bundle.steD)).before args s = true) (hN : (Cond.isRef (.static Bundle.tN "SUPPRESSED_SENTINEL" Bundle.listD)).before args s = true)
    (lU : (Cond.laysStatic Bundle.tN "UNASSIGNED_STACK" Bundle.steD).before args s = true) (lN : (Cond.laysStatic Bundle.tN "SUPPRESSED_SENTINEL" Bundle.listD).before args s = true) : ∀ w ∈ L, w.before args s = true := by
  intro w hw
  by_cases e1 : w = .isRef (.static Bundle.tN "UNASSIGNED_STACK" Bundle.steD)
  · rw [e1]; exact hU
  · by_cases e2 : w = .isRef (.static Bundle.tN "SUPPRESSED_SENTINEL" Bundle.listD)
    · rw [e2]; exact hN
    · by_cases e3 : w = .laysStatic Bundle.tN "UNASSIGNED_STACK" Bundle.steD
      · rw [e3]; exact lU
      · by_cases e4 : w = .laysStatic Bundle.tN "SUPPRESSED_SENTINEL" Bundle.listD
        · rw [e4]; exact lN
        · exact h1 w (List.mem_filter.mpr ⟨hw, by unfold vx_no; rw [decide_eq_true e1, decide_eq_true e2, decide_eq_true e3, decide_eq_true e4]; rfl⟩)
/-- where a static field lies, its class's statics cell in H -/
def vx_L (C n d : String) (A : Nat → Prop) (U : State) (H : Heap) : Prop := ∃ (c : ClassId) (k : Class) (i : Nat) (f : Field) (a : Nat) (cell : Cell), U.vm.findClass C = some c ∧ U.fieldFound? C n d = some (c, k, i, f) ∧ f.isStatic = true ∧ k.statics = some a ∧ H[a]? = some cell ∧ cell.vm.isStatics = true ∧ cell.cls = c ∧ f.slot < cell.slots.size ∧ k.staticTypes[f.slot]? = some f.type ∧ ¬ A a
theorem vx_L.moved {C n d : String} {A : Nat → Prop} {u U : State} {H : Heap} (hvm : u.vm.Alike U.vm) (h : vx_L C n d A u H) : vx_L C n d A U H := by
  obtain ⟨c, k, i, f, a, cell, h1, h2, h3, h4, h5, h6, h7, h8, h9, h10⟩ := h
  obtain ⟨k', hi', he⟩ := State.fieldFound?_setVm hvm h2
  exact ⟨c, k', i, f, a, cell, by rw [hvm.findClass]; exact h1, hi', h3, by rw [he]; exact h4, h5, h6, h7, h8, by rw [he]; exact h9, h10⟩
theorem vx_L.kept {C n d : String} {A : Nat → Prop} {U : State} {H H1 : Heap} (h : vx_L C n d A U H) (hq : ∀ a : Nat, a < H.size → ¬ A a → H1[a]? = H[a]?) : vx_L C n d A U H1 := by
  obtain ⟨c, k, i, f, a, cell, h1, h2, h3, h4, h5, h6, h7, h8, h9, h10⟩ := h
  exact ⟨c, k, i, f, a, cell, h1, h2, h3, h4, by rw [hq a (Array.getElem?_eq_some_iff.mp h5).1 h10]; exact h5, h6, h7, h8, h9, h10⟩
theorem vx_L.narrow {C n d : String} {A B : Nat → Prop} {U : State} {H : Heap} (h : vx_L C n d A U H) (hAB : ∀ q, B q → A q) : vx_L C n d B U H := by
  obtain ⟨c, k, i, f, a, cell, h1, h2, h3, h4, h5, h6, h7, h8, h9, h10⟩ := h
  exact ⟨c, k, i, f, a, cell, h1, h2, h3, h4, h5, h6, h7, h8, h9, fun z => h10 (hAB _ z)⟩
theorem vx_L.word {C n d : String} {A : Nat → Prop} {s : State} {args : Array Value} (h : vx_L C n d A s s.heap) : (Cond.laysStatic C n d).before args s = true := by
  obtain ⟨c, k, i, f, a, cell, h1, h2, h3, h4, h5, h6, h7, h8, h9, -⟩ := h
  show (Cond.laysStatic C n d).holds args s none s [] = true
  exact Cond.laysStatic_of h1 h2 h3 h4 h5 h6 h7 h8 h9
/-- .. and what it holds: null or some reference -/
def vx_Zq (C n d : String) (A : Nat → Prop) (U : State) (H : Heap) : Prop := va_Zq C n d A U H ∧ vx_L C n d A U H
theorem vx_Zq.moved {C n d : String} {A : Nat → Prop} {u U : State} {H : Heap} (hvm : u.vm.Alike U.vm) (h : vx_Zq C n d A u H) : vx_Zq C n d A U H := ⟨va_Zq.moved hvm h.1, vx_L.moved hvm h.2⟩
theorem vx_Zq.kept {C n d : String} {A : Nat → Prop} {U : State} {H H1 : Heap} (h : vx_Zq C n d A U H) (hq : ∀ a : Nat, a < H.size → ¬ A a → H1[a]? = H[a]?) : vx_Zq C n d A U H1 := ⟨va_Zq.kept h.1 hq, vx_L.kept h.2 hq⟩
theorem vx_Zq.narrow {C n d : String} {A B : Nat → Prop} {U : State} {H : Heap} (h : vx_Zq C n d A U H) (hAB : ∀ q, B q → A q) : vx_Zq C n d B U H := ⟨va_Zq.narrow h.1 hAB, vx_L.narrow h.2 hAB⟩
theorem vx_Zqof {args : Array Value} {s : State} {C n d : String} {A : Nat → Prop} (hl : (Cond.laysStatic C n d).before args s = true) (hini : (Cond.initialized C).before args s = true) (h : (Cond.isRef (.static C n d)).before args s = true) (hA : ∀ a : Nat, a < s.heap.size → ¬ A a) : vx_Zq C n d A s s.heap := by
  refine ⟨va_Zqof hl hini h hA, ?_⟩
  obtain ⟨c, k, i, f, a, cell, h1, h2, h3, h4, h5, h6, h7, h8, h9⟩ := Cond.laysStatic_spec hl
  exact ⟨c, k, i, f, a, cell, h1, h2, h3, h4, h5, h6, h7, h8, h9, hA a (Array.getElem?_eq_some_iff.mp h5).1⟩
theorem vx_isRef {C n d : String} {v : Value} {A : Nat → Prop} {s : State} {args : Array Value} (h : va_Z C n d v A s s.heap) (hv : v.isRef = true) : (Cond.isRef (.static C n d)).before args s = true := by
  obtain ⟨cf, kf, fi, f, a, cell, h1, h2, h3, h4, h5, h6, h7, -⟩ := h
  have he : (Term.static C n d).eval args s none [] s = some v := by
    simp [Term.eval, State.fieldNamed?, h1, h2, h4, h5, h6, h7]
  simp only [Cond.before, Cond.holds, Cond.value, he]
  cases v <;> simp_all [Value.isRef]
theorem vx_isRefq {C n d : String} {A : Nat → Prop} {s : State} {args : Array Value} (h : va_Zq C n d A s s.heap) : (Cond.isRef (.static C n d)).before args s = true := by
  rcases h with h | ⟨t, h⟩
  · exact vx_isRef h rfl
  · exact vx_isRef h rfl
/-- the same frame, seen from here: as if the method were called anew in this heap -/
theorem vx_rebase {T : State} (X : Stand p l e R s m args below meth c T locs cells slots) {R' : Room} (hf : R'.frames ≤ R.frames) (hl : R'.locals ≤ R.locals) (hc : cells + R'.cells ≤ R.cells) (hs : slots + R'.slots ≤ R.slots) :
    Stand p l e R' ((T.setVm s.vm).setFrames (.invoking m args :: below)) m args below meth c T [] 0 0 := by
  have htop : (T.setVm s.vm).topJava?.isSome := X.here.top
  have hF : ((T.setVm s.vm).setFrames (.invoking m args :: below)).frames = .invoking m args :: below := State.frames_setFrames _ (State.cur_lt_of_top htop)
  obtain ⟨g₀, hg0⟩ := Option.isSome_iff_exists.mp htop
  obtain ⟨r, hr⟩ := State.topJava?_eq_some.mp hg0
  have hl9 : e.platform.stackLimits (T.setVm s.vm).me = e.platform.stackLimits s.me := X.limits
  have hb9 : (T.setVm s.vm).me.stackBytes = s.me.stackBytes := X.bytes
  refine ⟨X.admits, X.cas, X.clock, hF, ?_, X.hears, X.method, X.code, X.here, X.tail, X.warmed, ?_, ?_, ?_⟩
  · have h := X.room
    have hU : ((T.setVm s.vm).setFrames (.invoking m args :: below)).localsInUse = s.localsInUse := by
      rw [State.localsInUse_invoking hF (meth := meth) (c := c) X.method X.code, State.localsInUse_invoking X.frames X.method X.code]
    simp only [State.hasRoom, Bool.and_eq_true, decide_eq_true_eq] at h ⊢
    obtain ⟨⟨⟨⟨h1, h2, h3, h4, h5, h6⟩, h7⟩, h8⟩, h9⟩ := h
    rw [X.frames, List.length_cons] at h2 h3
    have q1 := X.heapSize
    have q2 := X.used
    simp only [hF, hU, List.length_cons, State.stackLimits_setFrames, State.stackBytes_setFrames, hl9, hb9]
    refine ⟨⟨⟨⟨by omega, by omega, by omega, by omega, by omega, h6⟩, ?_⟩, ?_⟩, X.book⟩
    · show T.heap.size + R'.cells ≤ e.platform.maxCells
      omega
    · show T.slotsUsed + R'.slots ≤ e.platform.maxSlots
      omega
  · rw [State.stackLimits_setFrames]; rfl
  · rw [State.stackBytes_setFrames]; rfl
  · refine ⟨?_, Nat.le_refl _, Nat.le_refl _, ?_, ?_, fun a c9 h9 => ⟨c9, h9, rfl, rfl, fun _ _ => rfl⟩⟩
    · obtain ⟨t, ht, -⟩ := State.frames_cons hr
      show T.setVm s.vm = { ((T.setVm s.vm).setFrames (.invoking m args :: below)).setFrames (T.setVm s.vm).frames with heap := T.heap, slotsUsed := T.slotsUsed }
      rw [State.setFrames_setFrames, State.setFrames_self ht]
      rfl
    · show T.slotsUsed = T.slotsUsed + ((T.heap.toList.drop T.heap.size).map (·.slots.size)).sum
      rw [List.drop_eq_nil_of_le (Nat.le_of_eq Array.length_toList)]
      rfl
    · show ((T.heap.toList.drop T.heap.size).map (·.slots.size)).sum ≤ 0
      rw [List.drop_eq_nil_of_le (Nat.le_of_eq Array.length_toList)]
      exact Nat.le_refl _
/-- 'throw new E()': new; dup; invokespecial; athrow -/
theorem vx_throw0 {cc : ByteArray} {pc : Nat} (hexec : p.tables.exec = Jvm.exec) (hb : c.code = cc) (hl : l.stackTraces = false) {own cls : String} {names : List String} {ik ic mc ms : Nat} {A : Nat → Prop}
    (hown : s.vm.findClass own = some m.cls) (hcls : Bundle.fit cls = true) (hnames : ∀ n ∈ names, Bundle.fit n = true)
    (hk : (Cond.classLink own ik cls).before args s = true) (hini : (Cond.initialized cls).before args s = true) (hat : ∀ w ∈ vx_at0 own ic cls names, w.before args s = true)
    (hgood : ∀ w ∈ Cond.classLink own ik cls :: Cond.initialized cls :: vx_at0 own ic cls names, vx_ot w = true)
    (hU : vx_Zq Bundle.tN "UNASSIGNED_STACK" Bundle.steD A s s.heap) (hN : vx_Zq Bundle.tN "SUPPRESSED_SENTINEL" Bundle.listD A s s.heap) (hS : va_S A s.heap H locs) (hsize : ls.size = c.maxLocals)
    (d0 : decode cc pc = .ok (.new ik, 3)) (d3 : decode cc (pc + 3) = .ok (.dup, 1)) (d4 : decode cc (pc + 4) = .ok (.invokespecial ic, 3)) (d7 : decode cc (pc + 7) = .ok (.athrow, 1))
    (hout : ∀ x ∈ c.exceptionTable.toList, covers x (pc + 7) = false)
    (hRframes : names.length + 3 < R.frames) (hRlocals : (rest.map fun v => v.category).sum + (13 * (names.length + 1) + 42) ≤ R.locals) (hRcells : cells + 1 ≤ R.cells) (hRslots : slots + 6 ≤ R.slots) (hlocks : meth.locks = false)
    (hx : ∀ t : State, s.vm.Alike t.vm → H.size ≤ t.heap.size → (∀ q : Nat, q < H.size → t.heap[q]? = H[q]?) → XC cls s t)
    (hf : ∀ z ∈ locs, free z.base) (hc : cells + 1 ≤ mc) (hs : slots + 6 ≤ ms) :
    W p l e R s m args below meth c H locs cells slots (vx_MQ below Qc XC args s mc ms free) (F0 m pc ls rest) := by
  intro T hT X
  have htr : e.platform.stackTraces = false := (show e.platform.stackTraces = l.stackTraces by rw [X.admits.platform]).trans hl
  have Y := vx_rebase X (R' := { frames := R.frames, locals := R.locals, cells := 1, slots := 6 }) (Nat.le_refl _) (Nat.le_refl _) hRcells hRslots
  obtain ⟨s', hA⟩ : ∃ z, z = (T.setVm s.vm).setFrames (.invoking m args :: below) := ⟨_, rfl⟩
  rw [← hA] at Y
  have hvm : s'.vm = s.vm := by rw [hA]; rfl
  have hhp : s'.heap = H := by rw [hA]; exact hT
  have hW0 : s.WarmedH s'.vm := by rw [hvm]; exact State.WarmedH.refl s
  have hat' : ∀ w ∈ vx_at0 own ic cls names, w.before args s' = true := fun w hw => vx_ot_at hW0 hvm.symm (hgood w (List.mem_cons_of_mem _ (List.mem_cons_of_mem _ hw))) (hat w hw)
  have hk' : (Cond.classLink own ik cls).before args s' = true := vx_ot_at hW0 hvm.symm (hgood _ List.mem_cons_self) hk
  have hini' : (Cond.initialized cls).before args s' = true := vx_ot_at hW0 hvm.symm (hgood _ (List.mem_cons_of_mem _ List.mem_cons_self)) hini
  have hU' : vx_Zq Bundle.tN "UNASSIGNED_STACK" Bundle.steD A s' s'.heap := by rw [hhp]; exact vx_Zq.moved hW0.alike (hU.kept hS.2.1)
  have hN' : vx_Zq Bundle.tN "SUPPRESSED_SENTINEL" Bundle.listD A s' s'.heap := by rw [hhp]; exact vx_Zq.moved hW0.alike (hN.kept hS.2.1)
  have h : ∀ w ∈ Bundle.ownAtoms0 own ic cls names, w.before args s' = true := vx_own hat' (vx_isRefq hU'.1) (vx_isRefq hN'.1) hU'.2.word hN'.2.word
  have hown' : s'.vm.findClass own = some m.cls := by rw [hvm]; exact hown
  have hins : (Cond.instantiable cls 6).before args s' = true := h _ (by simp [Bundle.ownAtoms0])
  obtain ⟨vm₁, cX, kX, hfX, hkX, -, -, X₁, st1⟩ := Y.newCold hexec (own := own) (C := cls) (index := ik) (n := 6) hown' hk' hins hini'
    (g := F0 m pc ls rest) rfl (by rw [hb]; exact d0) (Nat.le_refl _) (Nat.le_refl _)
  generalize hT1 : (T.setVm vm₁).pushCell { cls := cX, slots := kX.instanceTypes.map defaultValue, vm := .none } = T1 at X₁ st1
  have hcat : (Value.ref T.heap.size).category = 1 := rfl
  have hcellA : T1.heap[T.heap.size]? = some (freshCell cX kX) := by rw [← hT1]; exact State.heap_pushCell_size _ _
  have d3' : decode c.code (pc + 3) = .ok (.dup, 1) := by rw [hb]; exact d3
  obtain ⟨U, hsteps, hrun, hend, hW, hsame, ce, hce, hO⟩ := X₁.ctorThrow0 hexec htr (own := own) (cls := cls) (names := names) (ic := ic) hown' hcls hnames h (fun x hx => nomatch hx) hfX hkX hcellA (by rw [hhp, hT]; exact Nat.le_refl _)
    (g := { method := m, pc := pc + 4, locals := ls, stack := .ref T.heap.size :: .ref T.heap.size :: rest, locked := none }) rfl hsize rfl rfl (rest := rest) rfl
    (by rw [hb]; exact d4) (by rw [hb]; exact d7) hout hRframes (by simp only [List.map_cons, List.sum_cons, hcat]; omega) hlocks
  obtain ⟨f1, f2⟩ := vx_frame hsame
  rw [hhp] at f1 f2
  have hWs : s.WarmedH U.vm := State.WarmedH.trans hW0 hW
  have hcl : s.vm.findClass cls = some ce.cls := by
    have h9 := hO.cls
    rw [hvm] at h9
    exact h9
  have hall : s.sameButNew ({ U with vm := s.vm } : State) locs mc ms := by
    subst hA
    obtain ⟨e1, e2⟩ := hsame
    rw [State.setFrames_setFrames] at e1
    have h2 : (T.setVm s.vm).sameButNew ({ U with vm := s.vm } : State) [] (0 + 1) (0 + 6) := ⟨e1, e2⟩
    have h3 := X.same.trans h2
    rw [List.append_nil] at h3
    exact h3.mono hc hs
  refine ⟨U, ?_, .threw T.heap.size, hrun, hend, Or.inr ⟨T.heap.size, rfl, cls, ce, locs, hx U hWs.alike f1 (fun q hq => f2 q hq (fun z hz => nomatch hz)), hce, hO.vm, hcl, hWs, hall, hf⟩⟩
  refine st1 _ ?_
  show Steps p.tables e below (T1.setTop { method := m, pc := pc + 3, locals := ls, stack := .ref T.heap.size :: rest, locked := none }) _
  jvm_step X₁.here [X₁.here.top, hexec, d3', Value.category]
  exact hsteps
/-- 'throw new E("text")': new; dup; ldc; invokespecial; athrow -/
theorem vx_throwS {cc : ByteArray} {pc : Nat} (hexec : p.tables.exec = Jvm.exec) (hb : c.code = cc) (hl : l.stackTraces = false) {own cls text : String} {names : List String} {ik is ic mc ms sa : Nat} {A : Nat → Prop}
    (hown : s.vm.findClass own = some m.cls) (hcls : Bundle.fit cls = true) (hnames : ∀ n ∈ names, Bundle.fit n = true)
    (hk : (Cond.classLink own ik cls).before args s = true) (hini : (Cond.initialized cls).before args s = true) (hstr : vk_R own is text sa s) (hat : ∀ w ∈ vx_atS own ic cls names, w.before args s = true)
    (hgood : ∀ w ∈ Cond.classLink own ik cls :: Cond.initialized cls :: vx_atS own ic cls names, vx_ot w = true)
    (hU : vx_Zq Bundle.tN "UNASSIGNED_STACK" Bundle.steD A s s.heap) (hN : vx_Zq Bundle.tN "SUPPRESSED_SENTINEL" Bundle.listD A s s.heap) (hS : va_S A s.heap H locs) (hsize : ls.size = c.maxLocals)
    (d0 : decode cc pc = .ok (.new ik, 3)) (d3 : decode cc (pc + 3) = .ok (.dup, 1)) (d4 : decode cc (pc + 4) = .ok (.ldc is, 2)) (d6 : decode cc (pc + 6) = .ok (.invokespecial ic, 3)) (d9 : decode cc (pc + 9) = .ok (.athrow, 1))
    (hout : ∀ x ∈ c.exceptionTable.toList, covers x (pc + 9) = false)
    (hRframes : names.length + 3 < R.frames) (hRlocals : (rest.map fun v => v.category).sum + (13 * (names.length + 1) + 43) ≤ R.locals) (hRcells : cells + 1 ≤ R.cells) (hRslots : slots + 6 ≤ R.slots) (hlocks : meth.locks = false)
    (hx : ∀ t : State, s.vm.Alike t.vm → H.size ≤ t.heap.size → (∀ q : Nat, q < H.size → t.heap[q]? = H[q]?) → XC cls s t)
    (hf : ∀ z ∈ locs, free z.base) (hc : cells + 1 ≤ mc) (hs : slots + 6 ≤ ms) :
    W p l e R s m args below meth c H locs cells slots (vx_MQ below Qc XC args s mc ms free) (F0 m pc ls rest) := by
  intro T hT X
  have htr : e.platform.stackTraces = false := (show e.platform.stackTraces = l.stackTraces by rw [X.admits.platform]).trans hl
  have Y := vx_rebase X (R' := { frames := R.frames, locals := R.locals, cells := 1, slots := 6 }) (Nat.le_refl _) (Nat.le_refl _) hRcells hRslots
  obtain ⟨s', hA⟩ : ∃ z, z = (T.setVm s.vm).setFrames (.invoking m args :: below) := ⟨_, rfl⟩
  rw [← hA] at Y
  have hvm : s'.vm = s.vm := by rw [hA]; rfl
  have hhp : s'.heap = H := by rw [hA]; exact hT
  have hW0 : s.WarmedH s'.vm := by rw [hvm]; exact State.WarmedH.refl s
  have hat' : ∀ w ∈ vx_atS own ic cls names, w.before args s' = true := fun w hw => vx_ot_at hW0 hvm.symm (hgood w (List.mem_cons_of_mem _ (List.mem_cons_of_mem _ hw))) (hat w hw)
  have hk' : (Cond.classLink own ik cls).before args s' = true := vx_ot_at hW0 hvm.symm (hgood _ List.mem_cons_self) hk
  have hini' : (Cond.initialized cls).before args s' = true := vx_ot_at hW0 hvm.symm (hgood _ (List.mem_cons_of_mem _ List.mem_cons_self)) hini
  have hU' : vx_Zq Bundle.tN "UNASSIGNED_STACK" Bundle.steD A s' s'.heap := by rw [hhp]; exact vx_Zq.moved hW0.alike (hU.kept hS.2.1)
  have hN' : vx_Zq Bundle.tN "SUPPRESSED_SENTINEL" Bundle.listD A s' s'.heap := by rw [hhp]; exact vx_Zq.moved hW0.alike (hN.kept hS.2.1)
  have h : ∀ w ∈ Bundle.ownAtoms own ic cls names, w.before args s' = true := vx_own hat' (vx_isRefq hU'.1) (vx_isRefq hN'.1) hU'.2.word hN'.2.word
  have hown' : s'.vm.findClass own = some m.cls := by rw [hvm]; exact hown
  have hins : (Cond.instantiable cls 6).before args s' = true := h _ (by simp [Bundle.ownAtoms])
  obtain ⟨vm₁, cX, kX, hfX, hkX, -, -, X₁, st1⟩ := Y.newCold hexec (own := own) (C := cls) (index := ik) (n := 6) hown' hk' hins hini'
    (g := F0 m pc ls rest) rfl (by rw [hb]; exact d0) (Nat.le_refl _) (Nat.le_refl _)
  generalize hT1 : (T.setVm vm₁).pushCell { cls := cX, slots := kX.instanceTypes.map defaultValue, vm := .none } = T1 at X₁ st1
  have hcat : (Value.ref T.heap.size).category = 1 := rfl
  have hcellA : T1.heap[T.heap.size]? = some (freshCell cX kX) := by rw [← hT1]; exact State.heap_pushCell_size _ _
  have d3' : decode c.code (pc + 3) = .ok (.dup, 1) := by rw [hb]; exact d3
  have d4' : decode c.code (pc + 4) = .ok (.ldc is, 2) := by rw [hb]; exact d4
  have hstr' : vk_R own is text sa s' := vk_R.warm hW0 hstr
  obtain ⟨U, hsteps, hrun, hend, hW, hsame, ce, hce, hO⟩ := X₁.ctorThrowS hexec htr (own := own) (cls := cls) (names := names) (ic := ic) hown' hcls hnames h (fun x hx => nomatch hx) hfX hkX hcellA (by rw [hhp, hT]; exact Nat.le_refl _) (msg := .ref sa) rfl
    (g := { method := m, pc := pc + 6, locals := ls, stack := .ref sa :: .ref T.heap.size :: .ref T.heap.size :: rest, locked := none }) rfl hsize rfl rfl (rest := rest) rfl
    (by rw [hb]; exact d6) (by rw [hb]; exact d9) hout hRframes (by simp only [List.map_cons, List.sum_cons, hcat]; omega) hlocks
  obtain ⟨f1, f2⟩ := vx_frame hsame
  rw [hhp] at f1 f2
  have hWs : s.WarmedH U.vm := State.WarmedH.trans hW0 hW
  have hcl : s.vm.findClass cls = some ce.cls := by
    have h9 := hO.cls
    rw [hvm] at h9
    exact h9
  have hall : s.sameButNew ({ U with vm := s.vm } : State) locs mc ms := by
    subst hA
    obtain ⟨e1, e2⟩ := hsame
    rw [State.setFrames_setFrames] at e1
    have h2 : (T.setVm s.vm).sameButNew ({ U with vm := s.vm } : State) [] (0 + 1) (0 + 6) := ⟨e1, e2⟩
    have h3 := X.same.trans h2
    rw [List.append_nil] at h3
    exact h3.mono hc hs
  refine ⟨U, ?_, .threw T.heap.size, hrun, hend, Or.inr ⟨T.heap.size, rfl, cls, ce, locs, hx U hWs.alike f1 (fun q hq => f2 q hq (fun z hz => nomatch hz)), hce, hO.vm, hcl, hWs, hall, hf⟩⟩
  refine st1 _ ?_
  show Steps p.tables e below (T1.setTop { method := m, pc := pc + 3, locals := ls, stack := .ref T.heap.size :: rest, locked := none }) _
  jvm_step X₁.here [X₁.here.top, hexec, d3', Value.category]
  exact X₁.ldcString hexec (own := own) (text := text) (index := is) (a := sa) hown' hstr'.1 hstr'.2
    (g := { method := m, pc := pc + 4, locals := ls, stack := .ref T.heap.size :: .ref T.heap.size :: rest, locked := none }) rfl d4' _ hsteps
/-- 'throw new E("text")', the text by a wide index -/
theorem vx_throwSW {cc : ByteArray} {pc : Nat} (hexec : p.tables.exec = Jvm.exec) (hb : c.code = cc) (hl : l.stackTraces = false) {own cls text : String} {names : List String} {ik is ic mc ms sa : Nat} {A : Nat → Prop}
    (hown : s.vm.findClass own = some m.cls) (hcls : Bundle.fit cls = true) (hnames : ∀ n ∈ names, Bundle.fit n = true)
    (hk : (Cond.classLink own ik cls).before args s = true) (hini : (Cond.initialized cls).before args s = true) (hstr : vk_R own is text sa s) (hat : ∀ w ∈ vx_atS own ic cls names, w.before args s = true)
    (hgood : ∀ w ∈ Cond.classLink own ik cls :: Cond.initialized cls :: vx_atS own ic cls names, vx_ot w = true)
    (hU : vx_Zq Bundle.tN "UNASSIGNED_STACK" Bundle.steD A s s.heap) (hN : vx_Zq Bundle.tN "SUPPRESSED_SENTINEL" Bundle.listD A s s.heap) (hS : va_S A s.heap H locs) (hsize : ls.size = c.maxLocals)
    (d0 : decode cc pc = .ok (.new ik, 3)) (d3 : decode cc (pc + 3) = .ok (.dup, 1)) (d4 : decode cc (pc + 4) = .ok (.ldc_w is, 3)) (d7 : decode cc (pc + 7) = .ok (.invokespecial ic, 3)) (d10 : decode cc (pc + 10) = .ok (.athrow, 1))
    (hout : ∀ x ∈ c.exceptionTable.toList, covers x (pc + 10) = false)
    (hRframes : names.length + 3 < R.frames) (hRlocals : (rest.map fun v => v.category).sum + (13 * (names.length + 1) + 43) ≤ R.locals) (hRcells : cells + 1 ≤ R.cells) (hRslots : slots + 6 ≤ R.slots) (hlocks : meth.locks = false)
    (hx : ∀ t : State, s.vm.Alike t.vm → H.size ≤ t.heap.size → (∀ q : Nat, q < H.size → t.heap[q]? = H[q]?) → XC cls s t)
    (hf : ∀ z ∈ locs, free z.base) (hc : cells + 1 ≤ mc) (hs : slots + 6 ≤ ms) :
    W p l e R s m args below meth c H locs cells slots (vx_MQ below Qc XC args s mc ms free) (F0 m pc ls rest) := by
  intro T hT X
  have htr : e.platform.stackTraces = false := (show e.platform.stackTraces = l.stackTraces by rw [X.admits.platform]).trans hl
  have Y := vx_rebase X (R' := { frames := R.frames, locals := R.locals, cells := 1, slots := 6 }) (Nat.le_refl _) (Nat.le_refl _) hRcells hRslots
  obtain ⟨s', hA⟩ : ∃ z, z = (T.setVm s.vm).setFrames (.invoking m args :: below) := ⟨_, rfl⟩
  rw [← hA] at Y
  have hvm : s'.vm = s.vm := by rw [hA]; rfl
  have hhp : s'.heap = H := by rw [hA]; exact hT
  have hW0 : s.WarmedH s'.vm := by rw [hvm]; exact State.WarmedH.refl s
  have hat' : ∀ w ∈ vx_atS own ic cls names, w.before args s' = true := fun w hw => vx_ot_at hW0 hvm.symm (hgood w (List.mem_cons_of_mem _ (List.mem_cons_of_mem _ hw))) (hat w hw)
  have hk' : (Cond.classLink own ik cls).before args s' = true := vx_ot_at hW0 hvm.symm (hgood _ List.mem_cons_self) hk
  have hini' : (Cond.initialized cls).before args s' = true := vx_ot_at hW0 hvm.symm (hgood _ (List.mem_cons_of_mem _ List.mem_cons_self)) hini
  have hU' : vx_Zq Bundle.tN "UNASSIGNED_STACK" Bundle.steD A s' s'.heap := by rw [hhp]; exact vx_Zq.moved hW0.alike (hU.kept hS.2.1)
  have hN' : vx_Zq Bundle.tN "SUPPRESSED_SENTINEL" Bundle.listD A s' s'.heap := by rw [hhp]; exact vx_Zq.moved hW0.alike (hN.kept hS.2.1)
  have h : ∀ w ∈ Bundle.ownAtoms own ic cls names, w.before args s' = true := vx_own hat' (vx_isRefq hU'.1) (vx_isRefq hN'.1) hU'.2.word hN'.2.word
  have hown' : s'.vm.findClass own = some m.cls := by rw [hvm]; exact hown
  have hins : (Cond.instantiable cls 6).before args s' = true := h _ (by simp [Bundle.ownAtoms])
  obtain ⟨vm₁, cX, kX, hfX, hkX, -, -, X₁, st1⟩ := Y.newCold hexec (own := own) (C := cls) (index := ik) (n := 6) hown' hk' hins hini'
    (g := F0 m pc ls rest) rfl (by rw [hb]; exact d0) (Nat.le_refl _) (Nat.le_refl _)
  generalize hT1 : (T.setVm vm₁).pushCell { cls := cX, slots := kX.instanceTypes.map defaultValue, vm := .none } = T1 at X₁ st1
  have hcat : (Value.ref T.heap.size).category = 1 := rfl
  have hcellA : T1.heap[T.heap.size]? = some (freshCell cX kX) := by rw [← hT1]; exact State.heap_pushCell_size _ _
  have d3' : decode c.code (pc + 3) = .ok (.dup, 1) := by rw [hb]; exact d3
  have d4' : decode c.code (pc + 4) = .ok (.ldc_w is, 3) := by rw [hb]; exact d4
  have hstr' : vk_R own is text sa s' := vk_R.warm hW0 hstr
  obtain ⟨U, hsteps, hrun, hend, hW, hsame, ce, hce, hO⟩ := X₁.ctorThrowS hexec htr (own := own) (cls := cls) (names := names) (ic := ic) hown' hcls hnames h (fun x hx => nomatch hx) hfX hkX hcellA (by rw [hhp, hT]; exact Nat.le_refl _) (msg := .ref sa) rfl
    (g := { method := m, pc := pc + 7, locals := ls, stack := .ref sa :: .ref T.heap.size :: .ref T.heap.size :: rest, locked := none }) rfl hsize rfl rfl (rest := rest) rfl
    (by rw [hb]; exact d7) (by rw [hb]; exact d10) hout hRframes (by simp only [List.map_cons, List.sum_cons, hcat]; omega) hlocks
  obtain ⟨f1, f2⟩ := vx_frame hsame
  rw [hhp] at f1 f2
  have hWs : s.WarmedH U.vm := State.WarmedH.trans hW0 hW
  have hcl : s.vm.findClass cls = some ce.cls := by
    have h9 := hO.cls
    rw [hvm] at h9
    exact h9
  have hall : s.sameButNew ({ U with vm := s.vm } : State) locs mc ms := by
    subst hA
    obtain ⟨e1, e2⟩ := hsame
    rw [State.setFrames_setFrames] at e1
    have h2 : (T.setVm s.vm).sameButNew ({ U with vm := s.vm } : State) [] (0 + 1) (0 + 6) := ⟨e1, e2⟩
    have h3 := X.same.trans h2
    rw [List.append_nil] at h3
    exact h3.mono hc hs
  refine ⟨U, ?_, .threw T.heap.size, hrun, hend, Or.inr ⟨T.heap.size, rfl, cls, ce, locs, hx U hWs.alike f1 (fun q hq => f2 q hq (fun z hz => nomatch hz)), hce, hO.vm, hcl, hWs, hall, hf⟩⟩
  refine st1 _ ?_
  show Steps p.tables e below (T1.setTop { method := m, pc := pc + 3, locals := ls, stack := .ref T.heap.size :: rest, locked := none }) _
  jvm_step X₁.here [X₁.here.top, hexec, d3', Value.category]
  exact X₁.ldcStringW hexec (own := own) (text := text) (index := is) (a := sa) hown' hstr'.1 hstr'.2
    (g := { method := m, pc := pc + 4, locals := ls, stack := .ref T.heap.size :: .ref T.heap.size :: rest, locked := none }) rfl d4' _ hsteps
end Ends
section Bodies
variable {l : Launch}
theorem vx_ofW {y : MethodName} {ws ws' : List Cond} {rm : Room} {Pc : Array Value → State → Prop} {Qc : Array Value → State → Outcome → State → Prop} {XC : String → State → State → Prop} {mc ms : Nat} {free : Addr → Prop} {cc : ByteArray} {maxL : Nat} {ret : Option FieldType}
    (hy : plainName y.cls = true) (hw : ws = Cond.code y cc maxL ret :: ws')
    (body : ∀ p e s m args below meth c s₁, BodyLoose p l y (headSpec ws rm) cc maxL ret e s m args below meth c s₁ → c.maxLocals = maxL → (∀ x ∈ c.exceptionTable.toList, False) → Pc args s →
      W p l e (headSpec ws rm).room s m args below meth c s.heap [] 0 0 (vx_MQ below Qc XC args s mc ms free) (entryFrame m args maxL)) : vx_Met l y ws rm Pc Qc XC mc ms free := by
  refine MetFree.of_bodyS (code := cc) (maxLocals := maxL) (ret := ret) hy ?_ ?_
  · intro args s m h hn
    obtain ⟨meth, c, h1, h2, h3, h4, h5, h6, -, -⟩ := Cond.code_spec hn (atoms_spec (ws := ws) h _ (by rw [hw]; exact List.mem_cons_self))
    exact ⟨meth, c, h1, h2, h3, h4, h5, h6⟩
  · intro p e s m args below meth c s₁ B hml hP _
    have hh0 : s₁.heap = s.heap := by rw [B.state]; rfl
    have ht : ∀ x ∈ c.exceptionTable.toList, False := by
      obtain ⟨meth9, c9, h1, h2, -, -, -, -, h7, -⟩ := Cond.code_spec B.named (atoms_spec (ws := ws) B.pre _ (by rw [hw]; exact List.mem_cons_self))
      cases Option.some.inj (h1.symm.trans B.method)
      cases Option.some.inj (h2.symm.trans (Stand.of_body B).code)
      intro x hx
      rw [Array.isEmpty_iff.mp h7] at hx
      cases hx
    obtain ⟨t, a1, o, b1, b2, b3⟩ := body p e s m args below meth c s₁ B hml ht hP s₁ hh0 (Stand.of_body B)
    exact ⟨t, o, a1, b1, b2, b3⟩
/-- the table of a body with handlers -/
theorem vx_table {p : Program} {x y : MethodName} {S : Spec} {cc bytes : ByteArray} {maxL maxL' : Nat} {ret ret' : Option FieldType} {e : Env} {s s₁ : State} {m : MethodId} {args : Array Value} {below : List Frame} {meth : Method} {c : Code} {hh : List (Nat × Nat × Nat × Nat)}
    (B : BodyLoose p l y S cc maxL ret e s m args below meth c s₁) (h : (Cond.codeWith y bytes maxL' ret' hh).before args s = true) : c.exceptionTable.toList = tableOf hh := by
  obtain ⟨m9, meth9, c9, hn9, h1, h2, -, -, h6, -⟩ := Cond.codeWith_spec h
  cases Option.some.inj (hn9.symm.trans B.named)
  cases Option.some.inj (h1.symm.trans B.method)
  cases Option.some.inj (h2.symm.trans (Stand.of_body B).code)
  rw [← h6, table_eq]
end Bodies
end VXA
/-! ===== END ===== -/
/-! ===== BEGIN a static call of a method with an exception table ===== -/
section VXS
variable {p : Program} {l : Launch} {e : Env} {R : Room} {s : State} {m : MethodId} {args : Array Value} {below : List Frame} {meth : Method} {c : Code} {T : State} {H : Heap} {locs : List Loc} {cells slots : Nat}
abbrev vx_CSW (R : Room) (s : State) (args : Array Value) (own : String) (index : Nat) (y : MethodName) (bytes : ByteArray) (maxL : Nat) (ret : Option FieldType) (hh : List (Nat × Nat × Nat × Nat)) (ws : List Cond) (rm : Room) (mc ms n : Nat) : Prop :=
  (rm.cells = mc ∧ rm.slots = ms ∧ rm.frames + 1 ≤ R.frames ∧ 8 + (maxL + 11) + rm.locals ≤ R.locals ∧ (∀ w ∈ ws, ∀ (a' : Array Value) (U : State), s.WarmedH U.vm → w.before a' U = true) ∧ Cond.codeWith y bytes maxL ret hh ∈ ws) ∧
  (Cond.codeWith y bytes maxL ret hh).before args s = true ∧ (Cond.initialized y.cls).before args s = true ∧ (y.cls ≠ "java/lang/invoke/MethodHandle" ∧ y.cls ≠ "java/lang/invoke/VarHandle") ∧
  (∀ sig, parseMethodDescriptor y.desc = some sig → n = sig.parameters.length) ∧ (Cond.methodLink own index y).before args s = true ∧ (Cond.static y).before args s = true
theorem vx_cwSW {own : String} {index maxL mc ms : Nat} {y : MethodName} {bytes : ByteArray} {ret : Option FieldType} {hh : List (Nat × Nat × Nat × Nat)} {Ts ws ws' : List Cond} {rm : Room} (n : Nat) (ht : ∀ w ∈ Ts, w.before args s = true) (hT : GoodIn Ts (va_wsS own index y ws)) (hw : ws = Cond.codeWith y bytes maxL ret hh :: ws') (hrc : rm.cells = mc) (hrs : rm.slots = ms)
    (hd : y.cls ≠ "java/lang/invoke/MethodHandle" ∧ y.cls ≠ "java/lang/invoke/VarHandle" ∧ (parseMethodDescriptor y.desc).map (fun d => d.parameters.length) = some n) (hR : rm.frames + 1 ≤ R.frames ∧ 8 + (maxL + 11) + rm.locals ≤ R.locals) :
    vx_CSW R s args own index y bytes maxL ret hh ws rm mc ms n := by
  have ok : ∀ w ∈ va_wsS own index y ws, w.before args s = true := fun w h => ht w (hT w h).1
  have hG : GoodIn Ts ws := fun w h => hT w (by unfold va_wsS; exact List.mem_append_right _ h)
  have hc : Cond.codeWith y bytes maxL ret hh ∈ ws := by rw [hw]; exact List.mem_cons_self
  refine ⟨⟨hrc, hrs, hR.1, hR.2, pay_in ht hG, hc⟩, ht _ (hG _ hc).1, ok _ (by simp [va_wsS]), ⟨hd.1, hd.2.1⟩, fun sig h => ?_, ok _ (by simp [va_wsS]), ok _ (by simp [va_wsS])⟩
  have h2 := hd.2.2
  rw [h] at h2
  exact (Option.some.inj h2).symm
theorem vx_callSW (X : Stand p l e R s m args below meth c T locs cells slots) (hexec : p.tables.exec = Jvm.exec) {own : String} {index : Nat} {y : MethodName} {bytes : ByteArray} {maxL : Nat} {ret : Option FieldType} {hh : List (Nat × Nat × Nat × Nat)}
    (hown : s.vm.findClass own = some m.cls) (hlink : (Cond.methodLink own index y).before args s = true) (hstat : (Cond.static y).before args s = true) (hinit : (Cond.initialized y.cls).before args s = true)
    (hcode : (Cond.codeWith y bytes maxL ret hh).before args s = true) (hy : y.cls ≠ "java/lang/invoke/MethodHandle" ∧ y.cls ≠ "java/lang/invoke/VarHandle")
    {W9 : Nat} {Pre : Pt → Array Value → Prop} {Post : Pt → Array Value → Option Value → Pt → Prop} (hK : Back l R p e below s args y 3 W9 Pre Post)
    {g : JFrame} (hg : g.method = m) (hsize : g.locals.size = c.maxLocals) {argsL rest : List Value} (hlen : ∀ sig, parseMethodDescriptor y.desc = some sig → argsL.length = sig.parameters.length)
    (hstack : g.stack = argsL.reverse ++ rest) (hW : 2 * g.monitorRoom + (rest.map fun v => v.category).sum ≤ W9) (hdg : decode c.code g.pc = .ok (.invokestatic index, 3))
    (hpre : ∀ vm₁, s.WarmedH vm₁ → Pre ⟨T.setVm vm₁, locs, cells, slots⟩ argsL.toArray) :
    ∃ (v : Option Value) (vm₁ : Vm) (B : Pt), s.WarmedH vm₁ ∧ Stand p l e R s m args below meth c B.U B.locs B.cells B.slots ∧ Post ⟨T.setVm vm₁, locs, cells, slots⟩ argsL.toArray v B ∧
      ∀ target, Steps p.tables e below (B.U.setTop { g with pc := g.pc + 3, stack := v.toList ++ rest }) target → Steps p.tables e below (T.setTop g) target := by
  obtain ⟨mk, methM, cM, hnamed, hmethM, -, -, -, -, -, -, hsigM⟩ := Cond.codeWith_spec hcode
  have hstatic : methM.isStatic = true := Cond.static_spec hnamed hmethM hstat
  obtain ⟨kP, hkP, -⟩ := className_of_methodNamed hnamed
  have hinitP : kP.init = .initialized := Cond.initialized_spec (findClass_of_methodNamed hnamed) hkP hinit
  obtain ⟨vm₁, X₁, hstep₁⟩ := X.invokestatic hexec hown hlink hnamed hmethM hstatic hkP hinitP hy (g := g) hg (argsL := argsL) (rest := rest) (hlen _ hsigM) hstack hdg
  obtain ⟨v, B, X', hpost, hsteps⟩ := hK m meth c ⟨T.setVm vm₁, locs, cells, slots⟩ { g with stack := rest } (.invokestatic index) mk argsL.toArray X₁ hg hsize hdg hW (X₁.named hnamed) (hpre vm₁ X₁.warmed)
  exact ⟨v, vm₁, B, X₁.warmed, X', hpost, fun target h => hstep₁ _ fun acts => by rw [doInvoke_state]; exact hsteps.trans h⟩
theorem vx_runSW {y : MethodName} {bytes cc : ByteArray} {maxL nL mc ms n index : Nat} {ret : Option FieldType} {hh : List (Nat × Nat × Nat × Nat)} {ws : List Cond} {rm : Room} {Pc : Array Value → State → Prop} {Qc : Array Value → State → Outcome → State → Prop} {free : Addr → Prop} {Ts : List Cond} {own : String} {As rest : List Value} {g : JFrame}
    (S : CallFix p m c cc nL s args Ts own) (hM : Met l y ws rm Pc Qc mc ms free) (cw : vx_CSW R s args own index y bytes maxL ret hh ws rm mc ms n) (hp : PreS s H Pc As)
    (hg : g.method = m) (hn : As.length = n) (hsize : g.locals.size = nL) (hstack : g.stack = As.reverse ++ rest) (hW : 2 * g.monitorRoom + (rest.map fun v => v.category).sum ≤ 8) (hdg : decode cc g.pc = .ok (.invokestatic index, 3)) (hf : cells + mc ≤ R.cells ∧ slots + ms ≤ R.slots) :
    va_Run p l e R s m args below meth c H locs cells slots mc ms g rest (Qc As.toArray) (free) := by
  obtain ⟨⟨hrc, hrs, hfr, hlo, hws, hcw⟩, hcode, hini, hy, hlen, hl, hstt⟩ := cw
  have hK : Back l R p e below s args y 3 8 (PreOf R mc ms Pc) (PostOf Qc mc ms free) := va_backW (hh := hh) (bytes := bytes) (maxL := maxL) (ret := ret) hM hp.1 hrc hrs hfr hlo hws hcw (fun a' U hW => word_at hW (Or.inl (by first | rfl | simp [Cond.onTables, Cond.keeps, Cond.steady])) hini)
  obtain ⟨hx, hb, hml, ho, -⟩ := S
  intro T hT X
  obtain ⟨v, vm₁, ⟨U', l2, c2, s2⟩, hW₁, X', ⟨g', mk, t, L, e1, e2, hq, h1, hL, h2, h3⟩, st⟩ := vx_callSW X hx (hh := hh) (bytes := bytes) (maxL := maxL) (ret := ret) ho hl hstt hini hcode hy hK hg (hsize.trans hml.symm) (argsL := As) (rest := rest) (fun sig h => hn.trans (hlen sig h)) hstack hW (by rw [hb]; exact hdg)
    (fun vm₁ hW₁ => ⟨hf.1, hf.2, hp.2 (T.setVm vm₁) hT hW₁⟩)
  dsimp only [Pt.U, Pt.locs, Pt.cells, Pt.slots] at X' e1 e2 h1 h2 h3 st
  subst h1; subst h2; subst h3
  exact ⟨v, (T.setVm vm₁).calling g' mk As.toArray, t, U', L, hT, X', hL, e1, e2, hq, st⟩
/-- not caught here, past rows that name other classes: it goes on to the caller -/
theorem vx_outP {p : Program} {l : Launch} {e : Env} {R : Room} {s : State} {m : MethodId} {args : Array Value} {below : List Frame} {meth : Method} {c : Code} {H : Heap} {locs : List Loc} {cells slots : Nat} {free : Addr → Prop} {ls : Array Slot} {rest : List Value} {Qc : Array Value → State → Outcome → State → Prop} {XC : String → State → State → Prop}
    {pc : Nat} {own E : String} {ce : Cell} {q : Addr} {mc ms : Nat} (hown : s.vm.findClass own = some m.cls) (hlocks : meth.locks = false)
    (hpass : ∀ z ∈ c.exceptionTable.toList, covers z pc = false ∨ (z.catchType ≠ 0 ∧ ∃ nm : String, (Cond.classLink own z.catchType nm).before args s = true ∧ va_Nc E nm s)) (hcell : H[q]? = some ce) (hv : ce.vm = .none) (hcl : s.vm.findClass E = some ce.cls)
    (hx : ∀ t : State, t.heap = H → s.vm.Alike t.vm → XC E s t) (hf : ∀ z ∈ locs, free z.base) (hc : cells ≤ mc) (hs : slots ≤ ms) :
    vx_W p l e R s m args below meth c H locs cells slots (vx_MQ below Qc XC args s mc ms free) (F0 m pc ls rest) q := by
  intro T hT X
  have hpl : e.platform.magicAccessors = ({} : Platform).magicAccessors := by rw [X.admits.platform]
  obtain ⟨vm', hW', X', st⟩ := X.outThrough hlocks q (g := F0 m pc ls rest) rfl rfl rfl (cell := ce) (by rw [hT]; exact hcell) (by rw [hv]; rfl)
    (by obtain ⟨k9, h9, -⟩ := Vm.findClass_spec hcl; exact ⟨k9, h9⟩) (fun z hz => by
      rcases hpass z hz with h | ⟨hz0, nm, hl1, hn1⟩
      · exact Or.inl h
      · obtain ⟨c6, hc6, hcl6⟩ := Cond.classLink_spec hown hl1 e.platform hpl
        obtain ⟨a8, b8, h1, h2, h3⟩ := hn1
        cases Option.some.inj (h1.symm.trans hcl)
        cases Option.some.inj (h2.symm.trans hc6)
        exact Or.inr ⟨hz0, _, hcl6, h3⟩)
  obtain ⟨g₀, hfr⟩ := X'.frames_eq
  have hcell9 : ((T.setVm vm').setFrames (.throwing q :: below)).heap[q]? = some ce := by
    show T.heap[q]? = some ce
    rw [hT]; exact hcell
  have hend : Ended ((T.setVm vm').setFrames (.throwing q :: below)) below (.threw q) := State.frames_setFrames _ (State.cur_lt_of_frames hfr)
  refine ⟨(T.setVm vm').setFrames (.throwing q :: below), ?_, .threw q, X'.here.running, hend, Or.inr ⟨q, rfl, E, ce, locs, hx _ hT (X'.ends _).1.alike, hcell9, hv, hcl, (X'.ends _).1, (X'.ends _).2.mono hc hs, hf⟩⟩
  rw [X.pushThrowing_eq]
  exact st
/-- a thing of a world lies in the heap -/
theorem vx_lt {D : va_G} {cl : List vw_C} {ws : va_W} {H1 : Heap} (h : va_P D cl ws H1) {k : Nat} {q : Nat × va_E} (hk : ws[k]? = some q) : q.1 < H1.size := (h k q hk).lt
end VXS
/-! ===== END ===== -/
/-! ===== BEGIN methods with a table of their own: called by a name, returning or throwing ===== -/
section VXH
/-! vx_backW, vx_callVX, vx_callSX, vx_callVW, vx_runVW, vx_runVX, vx_runSX, vx_ofWH follow the same proofs as their sisters above (Free/Laws.lean, Shelf42/LK1.lean); vx_outP calls Shelf42/NT130.lean (outThrough). -/
section
variable {l : Launch} {R : Room} {p : Program} {e : Env} {below : List Frame} {s : State} {sargs : Array Value} {y : MethodName} {len W9 : Nat}
theorem vx_backW {ws : List Cond} {rm : Room} {Pc : Array Value → State → Prop} {Qc : Array Value → State → Outcome → State → Prop} {XC : String → State → State → Prop} {mc ms : Nat} {free : Addr → Prop} {bytes : ByteArray} {maxL : Nat} {ret : Option FieldType} {hh : List (Nat × Nat × Nat × Nat)}
    (hM : vx_Met l y ws rm Pc Qc XC mc ms free) (hblind : FrameBlind Pc) (hrc : rm.cells = mc) (hrs : rm.slots = ms)
    (hframes : rm.frames + 1 ≤ R.frames) (hlocals : W9 + (maxL + 11) + rm.locals ≤ R.locals)
    (hws : ∀ w ∈ ws, ∀ a' U, s.WarmedH U.vm → w.before a' U = true) (hcode : Cond.codeWith y bytes maxL ret hh ∈ ws) (hinit : ∀ a' U, s.WarmedH U.vm → (Cond.initialized y.cls).before a' U = true) :
    vx_Back l R p e below s sargs y len W9 (PreOf R mc ms Pc) (PostOf Qc mc ms free) (vx_Post XC mc ms free) := by
  intro m meth c A g ig mk a X hg hsize hdg hW hn hp
  have h1 : (headSpec ws rm).pre.before a A.U = true := atoms_intro fun w hw => hws w hw _ _ X.warmed
  have h2 : (Cond.codeWith y bytes maxL ret hh).before a A.U = true := hws _ hcode _ _ X.warmed
  have h3 : (Cond.initialized y.cls).before a A.U = true := hinit _ _ X.warmed
  have h4 : A.cells + (headSpec ws rm).room.cells ≤ R.cells := by rw [show (headSpec ws rm).room.cells = mc from hrc]; exact hp.1
  have h5 : A.slots + (headSpec ws rm).room.slots ≤ R.slots := by rw [show (headSpec ws rm).room.slots = ms from hrs]; exact hp.2.1
  have hPc : Pc a (A.U.calling g mk a) := hblind _ _ _ _ hp.2.2
  obtain ⟨U, Ls, c0, s0⟩ := A
  dsimp only [Pt.U, Pt.locs, Pt.cells, Pt.slots] at h1 h2 h3 h4 h5 X hn hPc ⊢
  obtain ⟨m9, methY, cY, hn9, hmY, hcY, -, hlY, -⟩ := Cond.codeWith_spec h2
  cases Option.some.inj (hn9.symm.trans hn)
  obtain ⟨kY, hkY, -⟩ := className_of_methodNamed hn
  have hinitY : kY.init = .initialized := Cond.initialized_spec (findClass_of_methodNamed hn) hkY h3
  have h : At U g.method c below := by rw [hg]; exact X.here
  have hlocals9 : W9 + (maxL + 11) + (headSpec ws rm).room.locals ≤ R.locals := hlocals
  have happ : (headSpec ws rm).appliesLoose y e.platform (U.calling g mk a) = true :=
    Spec.appliesLoose_calling (g := g) h hdg hn hkY hinitY
      (X.room_calling (g := g) (R' := (headSpec ws rm).room) hsize hmY hcY hframes (by rw [hlY]; omega) h4 h5) h1
  obtain ⟨mid, hmid⟩ := h.above
  have hfr : (U.setTop g).frames = (.java g :: mid) ++ below := by rw [State.frames_setTop' g h.top, hmid]; rfl
  obtain ⟨o, s₂, hsteps, -, hend, hq⟩ := Steps.callFree hM p X.admits X.cas X.clock (acts := []) hfr happ hPc trivial
  have hq' : vx_Q Qc XC mc ms free a (U.calling g mk a) o s₂ := hq
  rw [State.frames_setTop' g h.top] at hend
  obtain ⟨g₀, hg0⟩ := Option.isSome_iff_exists.mp h.top
  obtain ⟨r, hr⟩ := State.topJava?_eq_some.mp hg0
  have hr' : (({ U with heap := s₂.heap, slotsUsed := s₂.slotsUsed } : State).setVm s₂.vm).frames = .java g₀ :: r := hr
  rcases hq' with ⟨hqc, L, hfe, hL⟩ | ⟨q, rfl, E, ce, L, hx, hce, hcv, hcl, hW₂, hsm, hL⟩
  · obtain ⟨⟨v, rfl⟩, hW₂, e2, q2, q3, q4, q5, q6⟩ := id hfe
    have e3 : s₂ = ({ (U.calling g mk a).setFrames s₂.frames with heap := s₂.heap, slotsUsed := s₂.slotsUsed } : State).setVm s₂.vm := by
      have : s₂ = ({ s₂ with vm := (U.calling g mk a).vm } : State).setVm s₂.vm := rfl
      rw [e2] at this
      exact this
    obtain ⟨c₂, i₂, len₂, hc₂, hd₂, hf₂⟩ := hend
    have hW' : U.WarmedH s₂.vm := hW₂
    have hcc : c₂ = c := by
      have h1 : s₂.code? g.method = U.code? g.method := by
        rw [State.code?_eq, State.code?_eq, hW'.alike.method?]
      exact Option.some.inj (hc₂.symm.trans (h1.trans h.code))
    subst hcc
    have hlen : len₂ = len := by rw [hdg] at hd₂; cases hd₂; rfl
    subst hlen
    have hs₂ : s₂ = (({ U with heap := s₂.heap, slotsUsed := s₂.slotsUsed } : State).setVm s₂.vm).setTop { g with pc := g.pc + len₂, stack := v.toList ++ g.stack } := by
      refine e3.trans ?_
      rw [hf₂, State.calling_eq h.top, State.setFrames_setFrames, State.setTop_of_frames _ hr', hr]
      rfl
    have hsame : U.sameButNew ({ U with heap := s₂.heap, slotsUsed := s₂.slotsUsed } : State) L mc ms := by
      refine ⟨?_, q2, q3, q4, q5, q6⟩
      obtain ⟨t, ht, -⟩ := State.frames_cons hr
      show ({ U with heap := s₂.heap, slotsUsed := s₂.slotsUsed } : State) = { U.setFrames U.frames with heap := s₂.heap, slotsUsed := s₂.slotsUsed }
      rw [State.setFrames_self ht]
    subst hg
    refine Or.inl ⟨v, ⟨(({ U with heap := s₂.heap, slotsUsed := s₂.slotsUsed } : State).setVm s₂.vm), Ls ++ L, c0 + mc, s0 + ms⟩,
      ⟨X.admits, X.cas, X.clock, X.frames, X.room, X.hears, X.method, X.code, (X.here.setHeapUsed s₂.heap s₂.slotsUsed).setVm hW'.alike, X.tail, State.WarmedH.trans X.warmed hW', X.limits, X.bytes, X.same.trans (hsame.setVm s.vm)⟩,
      ⟨g, mk, s₂, L, rfl, rfl, hqc, rfl, hL, rfl, rfl⟩, ?_⟩
    show Steps p.tables e below _ ((({ U with heap := s₂.heap, slotsUsed := s₂.slotsUsed } : State).setVm s₂.vm).setTop { g with pc := g.pc + len₂, stack := v.toList ++ g.stack })
    rw [← hs₂]
    exact hsteps
  · obtain ⟨e2, q2, q3, q4, q5, q6⟩ := id hsm
    have e3 : s₂ = ({ (U.calling g mk a).setFrames s₂.frames with heap := s₂.heap, slotsUsed := s₂.slotsUsed } : State).setVm s₂.vm := by
      have : s₂ = ({ s₂ with vm := (U.calling g mk a).vm } : State).setVm s₂.vm := rfl
      rw [e2] at this
      exact this
    have hf₂ : s₂.frames = .throwing q :: .java g :: U.frames.tail := hend
    have hW' : U.WarmedH s₂.vm := hW₂
    have hs₂ : s₂ = ((({ U with heap := s₂.heap, slotsUsed := s₂.slotsUsed } : State).setVm s₂.vm).setTop g).pushFrame (.throwing q) := by
      refine e3.trans ?_
      rw [hf₂, State.calling_eq h.top, State.setFrames_setFrames, State.pushFrame, State.frames_setTop _ hr', State.setTop_of_frames _ hr', State.setFrames_setFrames, hr]
      rfl
    have hsame : U.sameButNew ({ U with heap := s₂.heap, slotsUsed := s₂.slotsUsed } : State) L mc ms := by
      refine ⟨?_, q2, q3, q4, q5, q6⟩
      obtain ⟨t, ht, -⟩ := State.frames_cons hr
      show ({ U with heap := s₂.heap, slotsUsed := s₂.slotsUsed } : State) = { U.setFrames U.frames with heap := s₂.heap, slotsUsed := s₂.slotsUsed }
      rw [State.setFrames_self ht]
    subst hg
    refine Or.inr ⟨q, ⟨(({ U with heap := s₂.heap, slotsUsed := s₂.slotsUsed } : State).setVm s₂.vm), Ls ++ L, c0 + mc, s0 + ms⟩,
      ⟨X.admits, X.cas, X.clock, X.frames, X.room, X.hears, X.method, X.code, (X.here.setHeapUsed s₂.heap s₂.slotsUsed).setVm hW'.alike, X.tail, State.WarmedH.trans X.warmed hW', X.limits, X.bytes, X.same.trans (hsame.setVm s.vm)⟩,
      ⟨g, mk, s₂, L, E, ce, rfl, rfl, hx, hce, hcv, hcl, rfl, hL, rfl, rfl⟩, ?_⟩
    show Steps p.tables e below _ (((({ U with heap := s₂.heap, slotsUsed := s₂.slotsUsed } : State).setVm s₂.vm).setTop g).pushFrame (.throwing q))
    rw [← hs₂]
    exact hsteps
end
variable {p : Program} {l : Launch} {e : Env} {R : Room} {s : State} {m : MethodId} {args : Array Value} {below : List Frame} {meth : Method} {c : Code} {T : State} {H : Heap} {locs : List Loc} {cells slots : Nat}
theorem vx_callVX (X : Stand p l e R s m args below meth c T locs cells slots) (hexec : p.tables.exec = Jvm.exec) {own C : String} {index : Nat} {y : MethodName} {bytes : ByteArray} {maxL : Nat} {ret : Option FieldType} {hh : List (Nat × Nat × Nat × Nat)}
    (hown : s.vm.findClass own = some m.cls) (hlink : (Cond.methodLink own index y).before args s = true) (hinst : (Cond.instanceMethod y).before args s = true) (hsel : (Cond.selects C y y).before args s = true)
    (hcode : (Cond.codeWith y bytes maxL ret hh).before args s = true) (hy : y.cls ≠ "java/lang/invoke/MethodHandle" ∧ y.cls ≠ "java/lang/invoke/VarHandle")
    {W9 : Nat} {Pre : Pt → Array Value → Prop} {Post : Pt → Array Value → Option Value → Pt → Prop} {PostX : Pt → Array Value → Addr → Pt → Prop} (hK : vx_Back l R p e below s args y 3 W9 Pre Post PostX)
    {b : Addr} {cellB : Cell} (hcell : T.heap[b]? = some cellB) (hobj : cellB.vm.isStatics = false) (hcls : s.vm.findClass C = some cellB.cls)
    {g : JFrame} (hg : g.method = m) (hsize : g.locals.size = c.maxLocals) {argsL rest : List Value} (hlen : ∀ sig, parseMethodDescriptor y.desc = some sig → argsL.length = sig.parameters.length)
    (hstack : g.stack = argsL.reverse ++ .ref b :: rest) (hW : 2 * g.monitorRoom + (rest.map fun v => v.category).sum ≤ W9) (hdg : decode c.code g.pc = .ok (.invokevirtual index, 3))
    (hpre : ∀ vm₁, s.WarmedH vm₁ → Pre ⟨T.setVm vm₁, locs, cells, slots⟩ (Value.ref b :: argsL).toArray) :
    (∃ (v : Option Value) (vm₁ : Vm) (B : Pt), s.WarmedH vm₁ ∧ Stand p l e R s m args below meth c B.U B.locs B.cells B.slots ∧ Post ⟨T.setVm vm₁, locs, cells, slots⟩ (Value.ref b :: argsL).toArray v B ∧
      ∀ target, Steps p.tables e below (B.U.setTop { g with pc := g.pc + 3, stack := v.toList ++ rest }) target → Steps p.tables e below (T.setTop g) target) ∨
    (∃ (q : Addr) (vm₁ : Vm) (B : Pt), s.WarmedH vm₁ ∧ Stand p l e R s m args below meth c B.U B.locs B.cells B.slots ∧ PostX ⟨T.setVm vm₁, locs, cells, slots⟩ (Value.ref b :: argsL).toArray q B ∧
      Steps p.tables e below (T.setTop g) ((B.U.setTop { g with stack := rest }).pushFrame (.throwing q))) := by
  obtain ⟨mk, methM, hnamed, hmethM, hstM, habM⟩ := Cond.instanceMethod_spec hinst
  obtain ⟨m8, methM', cM, hn8, hmethM', -, -, -, -, -, -, hsigM⟩ := Cond.codeWith_spec hcode
  cases Option.some.inj (hn8.symm.trans hnamed)
  cases hmethM.symm.trans hmethM'
  obtain ⟨c2, r2, m2, q1, q2, q3, q4, kP, hkP, hkPi⟩ := Cond.selects_spec hsel
  cases hcls.symm.trans q1
  cases (State.methodFound?_of_named hnamed hy).symm.trans q2
  cases hnamed.symm.trans q3
  have hselP : selectMethod e.platform s.vm cellB.cls mk = .method mk := by rw [Launch.admits_selectMethod X.admits]; exact q4
  obtain ⟨vm₁, X₁, hstep₁⟩ := X.invokevirtual hexec hown hlink hnamed hmethM hstM hkP hkPi hy (a := b) (cell := cellB) hcell
    (fun z h => by rw [h] at hobj; cases hobj) hselP hmethM habM hkP hkPi (g := g) hg (argsL := argsL) (rest := rest) (hlen _ hsigM) hstack hdg
  rcases hK m meth c ⟨T.setVm vm₁, locs, cells, slots⟩ { g with stack := rest } (.invokevirtual index) mk (Value.ref b :: argsL).toArray X₁ hg hsize hdg hW (X₁.named hnamed) (hpre vm₁ X₁.warmed) with ⟨v, B, X', hpost, hsteps⟩ | ⟨q, B, X', hpost, hsteps⟩
  · exact Or.inl ⟨v, vm₁, B, X₁.warmed, X', hpost, fun target h => hstep₁ _ fun acts => by rw [doInvoke_state]; exact hsteps.trans h⟩
  · exact Or.inr ⟨q, vm₁, B, X₁.warmed, X', hpost, hstep₁ _ fun acts => by rw [doInvoke_state]; exact hsteps⟩
theorem vx_callSX (X : Stand p l e R s m args below meth c T locs cells slots) (hexec : p.tables.exec = Jvm.exec) {own : String} {index : Nat} {y : MethodName} {bytes : ByteArray} {maxL : Nat} {ret : Option FieldType} {hh : List (Nat × Nat × Nat × Nat)}
    (hown : s.vm.findClass own = some m.cls) (hlink : (Cond.methodLink own index y).before args s = true) (hstat : (Cond.static y).before args s = true) (hinit : (Cond.initialized y.cls).before args s = true)
    (hcode : (Cond.codeWith y bytes maxL ret hh).before args s = true) (hy : y.cls ≠ "java/lang/invoke/MethodHandle" ∧ y.cls ≠ "java/lang/invoke/VarHandle")
    {W9 : Nat} {Pre : Pt → Array Value → Prop} {Post : Pt → Array Value → Option Value → Pt → Prop} {PostX : Pt → Array Value → Addr → Pt → Prop} (hK : vx_Back l R p e below s args y 3 W9 Pre Post PostX)
    {g : JFrame} (hg : g.method = m) (hsize : g.locals.size = c.maxLocals) {argsL rest : List Value} (hlen : ∀ sig, parseMethodDescriptor y.desc = some sig → argsL.length = sig.parameters.length)
    (hstack : g.stack = argsL.reverse ++ rest) (hW : 2 * g.monitorRoom + (rest.map fun v => v.category).sum ≤ W9) (hdg : decode c.code g.pc = .ok (.invokestatic index, 3))
    (hpre : ∀ vm₁, s.WarmedH vm₁ → Pre ⟨T.setVm vm₁, locs, cells, slots⟩ argsL.toArray) :
    (∃ (v : Option Value) (vm₁ : Vm) (B : Pt), s.WarmedH vm₁ ∧ Stand p l e R s m args below meth c B.U B.locs B.cells B.slots ∧ Post ⟨T.setVm vm₁, locs, cells, slots⟩ argsL.toArray v B ∧
      ∀ target, Steps p.tables e below (B.U.setTop { g with pc := g.pc + 3, stack := v.toList ++ rest }) target → Steps p.tables e below (T.setTop g) target) ∨
    (∃ (q : Addr) (vm₁ : Vm) (B : Pt), s.WarmedH vm₁ ∧ Stand p l e R s m args below meth c B.U B.locs B.cells B.slots ∧ PostX ⟨T.setVm vm₁, locs, cells, slots⟩ argsL.toArray q B ∧
      Steps p.tables e below (T.setTop g) ((B.U.setTop { g with stack := rest }).pushFrame (.throwing q))) := by
  obtain ⟨mk, methM, cM, hnamed, hmethM, -, -, -, -, -, -, hsigM⟩ := Cond.codeWith_spec hcode
  have hstatic : methM.isStatic = true := Cond.static_spec hnamed hmethM hstat
  obtain ⟨kP, hkP, -⟩ := className_of_methodNamed hnamed
  have hinitP : kP.init = .initialized := Cond.initialized_spec (findClass_of_methodNamed hnamed) hkP hinit
  obtain ⟨vm₁, X₁, hstep₁⟩ := X.invokestatic hexec hown hlink hnamed hmethM hstatic hkP hinitP hy (g := g) hg (argsL := argsL) (rest := rest) (hlen _ hsigM) hstack hdg
  rcases hK m meth c ⟨T.setVm vm₁, locs, cells, slots⟩ { g with stack := rest } (.invokestatic index) mk argsL.toArray X₁ hg hsize hdg hW (X₁.named hnamed) (hpre vm₁ X₁.warmed) with ⟨v, B, X', hpost, hsteps⟩ | ⟨q, B, X', hpost, hsteps⟩
  · exact Or.inl ⟨v, vm₁, B, X₁.warmed, X', hpost, fun target h => hstep₁ _ fun acts => by rw [doInvoke_state]; exact hsteps.trans h⟩
  · exact Or.inr ⟨q, vm₁, B, X₁.warmed, X', hpost, hstep₁ _ fun acts => by rw [doInvoke_state]; exact hsteps⟩
theorem vx_callVW (X : Stand p l e R s m args below meth c T locs cells slots) (hexec : p.tables.exec = Jvm.exec) {own C : String} {index : Nat} {y : MethodName} {bytes : ByteArray} {maxL : Nat} {ret : Option FieldType} {hh : List (Nat × Nat × Nat × Nat)}
    (hown : s.vm.findClass own = some m.cls) (hlink : (Cond.methodLink own index y).before args s = true) (hinst : (Cond.instanceMethod y).before args s = true) (hsel : (Cond.selects C y y).before args s = true)
    (hcode : (Cond.codeWith y bytes maxL ret hh).before args s = true) (hy : y.cls ≠ "java/lang/invoke/MethodHandle" ∧ y.cls ≠ "java/lang/invoke/VarHandle")
    {W9 : Nat} {Pre : Pt → Array Value → Prop} {Post : Pt → Array Value → Option Value → Pt → Prop} (hK : Back l R p e below s args y 3 W9 Pre Post)
    {b : Addr} {cellB : Cell} (hcell : T.heap[b]? = some cellB) (hobj : cellB.vm.isStatics = false) (hcls : s.vm.findClass C = some cellB.cls)
    {g : JFrame} (hg : g.method = m) (hsize : g.locals.size = c.maxLocals) {argsL rest : List Value} (hlen : ∀ sig, parseMethodDescriptor y.desc = some sig → argsL.length = sig.parameters.length)
    (hstack : g.stack = argsL.reverse ++ .ref b :: rest) (hW : 2 * g.monitorRoom + (rest.map fun v => v.category).sum ≤ W9) (hdg : decode c.code g.pc = .ok (.invokevirtual index, 3))
    (hpre : ∀ vm₁, s.WarmedH vm₁ → Pre ⟨T.setVm vm₁, locs, cells, slots⟩ (Value.ref b :: argsL).toArray) :
    ∃ (v : Option Value) (vm₁ : Vm) (B : Pt), s.WarmedH vm₁ ∧ Stand p l e R s m args below meth c B.U B.locs B.cells B.slots ∧ Post ⟨T.setVm vm₁, locs, cells, slots⟩ (Value.ref b :: argsL).toArray v B ∧
      ∀ target, Steps p.tables e below (B.U.setTop { g with pc := g.pc + 3, stack := v.toList ++ rest }) target → Steps p.tables e below (T.setTop g) target := by
  obtain ⟨mk, methM, hnamed, hmethM, hstM, habM⟩ := Cond.instanceMethod_spec hinst
  obtain ⟨m8, methM', cM, hn8, hmethM', -, -, -, -, -, -, hsigM⟩ := Cond.codeWith_spec hcode
  cases Option.some.inj (hn8.symm.trans hnamed)
  cases hmethM.symm.trans hmethM'
  obtain ⟨c2, r2, m2, q1, q2, q3, q4, kP, hkP, hkPi⟩ := Cond.selects_spec hsel
  cases hcls.symm.trans q1
  cases (State.methodFound?_of_named hnamed hy).symm.trans q2
  cases hnamed.symm.trans q3
  have hselP : selectMethod e.platform s.vm cellB.cls mk = .method mk := by rw [Launch.admits_selectMethod X.admits]; exact q4
  obtain ⟨vm₁, X₁, hstep₁⟩ := X.invokevirtual hexec hown hlink hnamed hmethM hstM hkP hkPi hy (a := b) (cell := cellB) hcell
    (fun z h => by rw [h] at hobj; cases hobj) hselP hmethM habM hkP hkPi (g := g) hg (argsL := argsL) (rest := rest) (hlen _ hsigM) hstack hdg
  obtain ⟨v, B, X', hpost, hsteps⟩ := hK m meth c ⟨T.setVm vm₁, locs, cells, slots⟩ { g with stack := rest } (.invokevirtual index) mk (Value.ref b :: argsL).toArray X₁ hg hsize hdg hW (X₁.named hnamed) (hpre vm₁ X₁.warmed)
  exact ⟨v, vm₁, B, X₁.warmed, X', hpost, fun target h => hstep₁ _ fun acts => by rw [doInvoke_state]; exact hsteps.trans h⟩
abbrev vx_CVW (R : Room) (s : State) (args : Array Value) (own C : String) (index : Nat) (y : MethodName) (bytes : ByteArray) (maxL : Nat) (ret : Option FieldType) (hh : List (Nat × Nat × Nat × Nat)) (ws : List Cond) (rm : Room) (mc ms n : Nat) : Prop :=
  (rm.cells = mc ∧ rm.slots = ms ∧ rm.frames + 1 ≤ R.frames ∧ 8 + (maxL + 11) + rm.locals ≤ R.locals ∧ (∀ w ∈ ws, ∀ (a' : Array Value) (U : State), s.WarmedH U.vm → w.before a' U = true) ∧ Cond.codeWith y bytes maxL ret hh ∈ ws) ∧
  (Cond.codeWith y bytes maxL ret hh).before args s = true ∧ (Cond.initialized y.cls).before args s = true ∧ (y.cls ≠ "java/lang/invoke/MethodHandle" ∧ y.cls ≠ "java/lang/invoke/VarHandle") ∧
  (∀ sig, parseMethodDescriptor y.desc = some sig → n = sig.parameters.length) ∧ (Cond.methodLink own index y).before args s = true ∧ (Cond.instanceMethod y).before args s = true ∧ (Cond.selects C y y).before args s = true
theorem vx_cwVW {own C : String} {index maxL mc ms : Nat} {y : MethodName} {bytes : ByteArray} {ret : Option FieldType} {hh : List (Nat × Nat × Nat × Nat)} {Ts ws ws' : List Cond} {rm : Room} (n : Nat) (ht : ∀ w ∈ Ts, w.before args s = true) (hT : GoodIn Ts (wsV own index C y ws)) (hw : ws = Cond.codeWith y bytes maxL ret hh :: ws') (hrc : rm.cells = mc) (hrs : rm.slots = ms)
    (hd : y.cls = C ∧ y.cls ≠ "java/lang/invoke/MethodHandle" ∧ y.cls ≠ "java/lang/invoke/VarHandle" ∧ (parseMethodDescriptor y.desc).map (fun d => d.parameters.length) = some n) (hR : rm.frames + 1 ≤ R.frames ∧ 8 + (maxL + 11) + rm.locals ≤ R.locals) :
    vx_CVW R s args own C index y bytes maxL ret hh ws rm mc ms n := by
  obtain ⟨hC, hd⟩ := hd
  subst hC
  have ok : ∀ w ∈ wsV own index y.cls y ws, w.before args s = true := fun w h => ht w (hT w h).1
  have hG : GoodIn Ts ws := fun w h => hT w (by unfold wsV; exact List.mem_append_right _ h)
  have hc : Cond.codeWith y bytes maxL ret hh ∈ ws := by rw [hw]; exact List.mem_cons_self
  refine ⟨⟨hrc, hrs, hR.1, hR.2, pay_in ht hG, hc⟩, ht _ (hG _ hc).1, ok _ (by simp [wsV]), ⟨hd.1, hd.2.1⟩, fun sig h => ?_, ok _ (by simp [wsV]), ok _ (by simp [wsV]), ok _ (by simp [wsV])⟩
  have h2 := hd.2.2
  rw [h] at h2
  exact (Option.some.inj h2).symm
theorem vx_runVW {y : MethodName} {bytes cc : ByteArray} {maxL nL mc ms n index : Nat} {ret : Option FieldType} {hh : List (Nat × Nat × Nat × Nat)} {ws : List Cond} {rm : Room} {Pc : Array Value → State → Prop} {Qc : Array Value → State → Outcome → State → Prop} {free : Addr → Prop} {Ts : List Cond} {own C : String} {b : Addr} {As rest : List Value} {g : JFrame}
    (S : CallFix p m c cc nL s args Ts own) (hM : Met l y ws rm Pc Qc mc ms free) (cw : vx_CVW R s args own C index y bytes maxL ret hh ws rm mc ms n) (hp : PreV s H C b Pc As)
    (hg : g.method = m) (hn : As.length = n) (hsize : g.locals.size = nL) (hstack : g.stack = As.reverse ++ .ref b :: rest) (hW : 2 * g.monitorRoom + (rest.map fun v => v.category).sum ≤ 8) (hdg : decode cc g.pc = .ok (.invokevirtual index, 3)) (hf : cells + mc ≤ R.cells ∧ slots + ms ≤ R.slots) :
    va_Run p l e R s m args below meth c H locs cells slots mc ms g rest (Qc (Value.ref b :: As).toArray) free := by
  obtain ⟨⟨hrc, hrs, hfr, hlo, hws, hcw⟩, hcode, hini, hy, hlen, hl, hin, hse⟩ := cw
  have hK : Back l R p e below s args y 3 8 (PreOf R mc ms Pc) (PostOf Qc mc ms free) := va_backW (hh := hh) (bytes := bytes) (maxL := maxL) (ret := ret) hM hp.1 hrc hrs hfr hlo hws hcw (fun a' U hW => word_at hW (Or.inl (by first | rfl | simp [Cond.onTables, Cond.keeps, Cond.steady])) hini)
  obtain ⟨hx, hb, hml, ho, -⟩ := S
  obtain ⟨-, ⟨cellB, hcB, hoB, hclB⟩, hPc⟩ := hp
  intro T hT X
  obtain ⟨v, vm₁, ⟨U', l2, c2, s2⟩, hW₁, X', ⟨g', mk, t, L, e1, e2, hq, h1, hL, h2, h3⟩, st⟩ := vx_callVW X hx (C := C) (hh := hh) (bytes := bytes) (maxL := maxL) (ret := ret) ho hl hin hse hcode hy hK (by rw [hT]; exact hcB) hoB hclB hg (hsize.trans hml.symm) (argsL := As) (rest := rest) (fun sig h => hn.trans (hlen sig h)) hstack hW (by rw [hb]; exact hdg)
    (fun vm₁ hW₁ => ⟨hf.1, hf.2, hPc (T.setVm vm₁) hT hW₁⟩)
  dsimp only [Pt.U, Pt.locs, Pt.cells, Pt.slots] at X' e1 e2 h1 h2 h3 st
  subst h1; subst h2; subst h3
  exact ⟨v, (T.setVm vm₁).calling g' mk (Value.ref b :: As).toArray, t, U', L, hT, X', hL, e1, e2, hq, st⟩
section
variable {y : MethodName} {bytes cc : ByteArray} {maxL nL mc ms n index : Nat} {ret : Option FieldType} {ws : List Cond} {rm : Room} {Pc : Array Value → State → Prop} {Qc : Array Value → State → Outcome → State → Prop} {XC : String → State → State → Prop} {free : Addr → Prop} {Ts : List Cond} {own C : String} {b : Addr} {As rest : List Value} {g : JFrame}
theorem vx_runVX {hh : List (Nat × Nat × Nat × Nat)} (S : CallFix p m c cc nL s args Ts own) (hM : vx_Met l y ws rm Pc Qc XC mc ms free) (cw : vx_CVW R s args own C index y bytes maxL ret hh ws rm mc ms n) (hp : PreV s H C b Pc As)
    (hg : g.method = m) (hn : As.length = n) (hsize : g.locals.size = nL) (hstack : g.stack = As.reverse ++ .ref b :: rest) (hW : 2 * g.monitorRoom + (rest.map fun v => v.category).sum ≤ 8) (hdg : decode cc g.pc = .ok (.invokevirtual index, 3)) (hf : cells + mc ≤ R.cells ∧ slots + ms ≤ R.slots) :
    vx_Run p l e R s m args below meth c H locs cells slots mc ms g rest (Qc (Value.ref b :: As).toArray) XC free := by
  obtain ⟨⟨hrc, hrs, hfr, hlo, hws, hcw⟩, hcode, hini, hy, hlen, hl, hin, hse⟩ := cw
  have hK : vx_Back l R p e below s args y 3 8 (PreOf R mc ms Pc) (PostOf Qc mc ms free) (vx_Post XC mc ms free) := vx_backW (hh := hh) (bytes := bytes) (maxL := maxL) (ret := ret) hM hp.1 hrc hrs hfr hlo hws hcw (fun a' U hW => word_at hW (Or.inl (by first | rfl | simp [Cond.onTables, Cond.keeps, Cond.steady])) hini)
  obtain ⟨hx, hb, hml, ho, -⟩ := S
  obtain ⟨-, ⟨cellB, hcB, hoB, hclB⟩, hPc⟩ := hp
  intro T hT X
  rcases vx_callVX X hx (C := C) (hh := hh) (bytes := bytes) (maxL := maxL) (ret := ret) ho hl hin hse hcode hy hK (by rw [hT]; exact hcB) hoB hclB hg (hsize.trans hml.symm) (argsL := As) (rest := rest) (fun sig h => hn.trans (hlen sig h)) hstack hW (by rw [hb]; exact hdg)
    (fun vm₁ hW₁ => ⟨hf.1, hf.2, hPc (T.setVm vm₁) hT hW₁⟩) with ⟨v, vm₁, ⟨U', l2, c2, s2⟩, hW₁, X', ⟨g', mk, t, L, e1, e2, hq, h1, hL, h2, h3⟩, st⟩ | ⟨q, vm₁, ⟨U', l2, c2, s2⟩, hW₁, X', ⟨g', mk, t, L, E, ce, e1, e2, hq, hce, hcv, hcl, h1, hL, h2, h3⟩, st⟩
  · dsimp only [Pt.U, Pt.locs, Pt.cells, Pt.slots] at X' e1 e2 h1 h2 h3 st
    subst h1; subst h2; subst h3
    exact Or.inl ⟨v, (T.setVm vm₁).calling g' mk (Value.ref b :: As).toArray, t, U', L, hT, X', hL, e1, e2, hq, st⟩
  · dsimp only [Pt.U, Pt.locs, Pt.cells, Pt.slots] at X' e1 e2 h1 h2 h3 st hcl
    subst h1; subst h2; subst h3
    exact Or.inr ⟨q, (T.setVm vm₁).calling g' mk (Value.ref b :: As).toArray, t, U', L, E, ce, hT, X', hL, e1, e2, hq, hce, hcv, vx_cls hW₁ hcl, st⟩
theorem vx_runSX {hh : List (Nat × Nat × Nat × Nat)} (S : CallFix p m c cc nL s args Ts own) (hM : vx_Met l y ws rm Pc Qc XC mc ms free) (cw : vx_CSW R s args own index y bytes maxL ret hh ws rm mc ms n) (hp : PreS s H Pc As)
    (hg : g.method = m) (hn : As.length = n) (hsize : g.locals.size = nL) (hstack : g.stack = As.reverse ++ rest) (hW : 2 * g.monitorRoom + (rest.map fun v => v.category).sum ≤ 8) (hdg : decode cc g.pc = .ok (.invokestatic index, 3)) (hf : cells + mc ≤ R.cells ∧ slots + ms ≤ R.slots) :
    vx_Run p l e R s m args below meth c H locs cells slots mc ms g rest (Qc As.toArray) XC free := by
  obtain ⟨⟨hrc, hrs, hfr, hlo, hws, hcw⟩, hcode, hini, hy, hlen, hl, hstt⟩ := cw
  have hK : vx_Back l R p e below s args y 3 8 (PreOf R mc ms Pc) (PostOf Qc mc ms free) (vx_Post XC mc ms free) := vx_backW (hh := hh) (bytes := bytes) (maxL := maxL) (ret := ret) hM hp.1 hrc hrs hfr hlo hws hcw (fun a' U hW => word_at hW (Or.inl (by first | rfl | simp [Cond.onTables, Cond.keeps, Cond.steady])) hini)
  obtain ⟨hx, hb, hml, ho, -⟩ := S
  intro T hT X
  rcases vx_callSX X hx (hh := hh) (bytes := bytes) (maxL := maxL) (ret := ret) ho hl hstt hini hcode hy hK hg (hsize.trans hml.symm) (argsL := As) (rest := rest) (fun sig h => hn.trans (hlen sig h)) hstack hW (by rw [hb]; exact hdg)
    (fun vm₁ hW₁ => ⟨hf.1, hf.2, hp.2 (T.setVm vm₁) hT hW₁⟩) with ⟨v, vm₁, ⟨U', l2, c2, s2⟩, hW₁, X', ⟨g', mk, t, L, e1, e2, hq, h1, hL, h2, h3⟩, st⟩ | ⟨q, vm₁, ⟨U', l2, c2, s2⟩, hW₁, X', ⟨g', mk, t, L, E, ce, e1, e2, hq, hce, hcv, hcl, h1, hL, h2, h3⟩, st⟩
  · dsimp only [Pt.U, Pt.locs, Pt.cells, Pt.slots] at X' e1 e2 h1 h2 h3 st
    subst h1; subst h2; subst h3
    exact Or.inl ⟨v, (T.setVm vm₁).calling g' mk As.toArray, t, U', L, hT, X', hL, e1, e2, hq, st⟩
  · dsimp only [Pt.U, Pt.locs, Pt.cells, Pt.slots] at X' e1 e2 h1 h2 h3 st hcl
    subst h1; subst h2; subst h3
    exact Or.inr ⟨q, (T.setVm vm₁).calling g' mk As.toArray, t, U', L, E, ce, hT, X', hL, e1, e2, hq, hce, hcv, vx_cls hW₁ hcl, st⟩
end
end VXH
theorem vx_ofWH {l : Launch} {y : MethodName} {ws ws' : List Cond} {rm : Room} {Pc : Array Value → State → Prop} {Qc : Array Value → State → Outcome → State → Prop} {XC : String → State → State → Prop} {mc ms : Nat} {free : Addr → Prop} {cc : ByteArray} {maxL : Nat} {ret : Option FieldType} {hh : List (Nat × Nat × Nat × Nat)}
    (hy : plainName y.cls = true) (hw : ws = Cond.codeWith y cc maxL ret hh :: ws')
    (body : ∀ p e s m args below meth c s₁, BodyLoose p l y (headSpec ws rm) cc maxL ret e s m args below meth c s₁ → c.maxLocals = maxL → Pc args s →
      W p l e (headSpec ws rm).room s m args below meth c s.heap [] 0 0 (vx_MQ below Qc XC args s mc ms free) (entryFrame m args maxL)) : vx_Met l y ws rm Pc Qc XC mc ms free := by
  refine MetFree.of_bodyS (code := cc) (maxLocals := maxL) (ret := ret) hy ?_ ?_
  · intro args s m h hn
    obtain ⟨m9, meth, c, hn9, h1, h2, h3, h4, -, h5, h6, -⟩ := Cond.codeWith_spec (atoms_spec (ws := ws) h _ (by rw [hw]; exact List.mem_cons_self))
    cases hn.symm.trans hn9
    exact ⟨meth, c, h1, h2, h3, h4, h5, h6⟩
  · intro p e s m args below meth c s₁ B hml hP _
    have hh0 : s₁.heap = s.heap := by rw [B.state]; rfl
    obtain ⟨t, a1, o, b1, b2, b3⟩ := body p e s m args below meth c s₁ B hml hP s₁ hh0 (Stand.of_body B)
    exact ⟨t, o, a1, b1, b2, b3⟩
/-! ===== END ===== -/

/-! ===== BEGIN a constructor that throws (launches without stack traces) ===== -/
section VXIA
variable {p : Program} {l : Launch} {e : Env} {R : Room} {s : State} {m : MethodId} {args : Array Value} {below : List Frame} {meth : Method} {c : Code} {T : State} {locs : List Loc} {cells slots : Nat}
theorem vx_callI (X : Stand p l e R s m args below meth c T locs cells slots) (hexec : p.tables.exec = Jvm.exec) {own : String} {index : Nat} {y : MethodName} {bytes : ByteArray} {maxL : Nat}
    (hown : s.vm.findClass own = some m.cls) (hy1 : y.name = "<init>") (hlink : (Cond.methodLink own index y).before args s = true) (hinst : (Cond.instanceMethod y).before args s = true)
    (hcode : (Cond.code y bytes maxL none).before args s = true) (hy : y.cls ≠ "java/lang/invoke/MethodHandle" ∧ y.cls ≠ "java/lang/invoke/VarHandle")
    {W9 : Nat} {Pre : Pt → Array Value → Prop} {Post : Pt → Array Value → Option Value → Pt → Prop} {PostX : Pt → Array Value → Addr → Pt → Prop} (hK : vx_Back l R p e below s args y 3 W9 Pre Post PostX)
    {g : JFrame} (hg : g.method = m) (hsize : g.locals.size = c.maxLocals) {a : Addr} {argsL rest : List Value} (hlen : ∀ sig, parseMethodDescriptor y.desc = some sig → argsL.length = sig.parameters.length)
    (hstack : g.stack = argsL.reverse ++ .ref a :: rest) (hW : 2 * g.monitorRoom + (rest.map fun v => v.category).sum ≤ W9) (hdg : decode c.code g.pc = .ok (.invokespecial index, 3))
    (hpre : ∀ vm₁, s.WarmedH vm₁ → Pre ⟨T.setVm vm₁, locs, cells, slots⟩ (Value.ref a :: argsL).toArray) :
    (∃ (v : Option Value) (vm₁ : Vm) (B : Pt), s.WarmedH vm₁ ∧ Stand p l e R s m args below meth c B.U B.locs B.cells B.slots ∧ Post ⟨T.setVm vm₁, locs, cells, slots⟩ (Value.ref a :: argsL).toArray v B ∧
      ∀ target, Steps p.tables e below (B.U.setTop { g with pc := g.pc + 3, stack := v.toList ++ rest }) target → Steps p.tables e below (T.setTop g) target) ∨
    (∃ (q : Addr) (vm₁ : Vm) (B : Pt), s.WarmedH vm₁ ∧ Stand p l e R s m args below meth c B.U B.locs B.cells B.slots ∧ PostX ⟨T.setVm vm₁, locs, cells, slots⟩ (Value.ref a :: argsL).toArray q B ∧
      Steps p.tables e below (T.setTop g) ((B.U.setTop { g with stack := rest }).pushFrame (.throwing q))) := by
  subst hg
  have hpl : e.platform.magicAccessors = ({} : Platform).magicAccessors := by rw [X.admits.platform]
  obtain ⟨mk, methM, cM, kP, vm₁, hnamed, hmethM, hcodeM, -, hlocalsM, -, hkP, -, hW₁, hstep₁⟩ := Steps.initColdArgs (e := e) X.here hexec X.warmed hpl hown hy1 hy hlink hinst hcode (f := g) rfl hlen hstack hdg
  have X₁ := X.noted hW₁
  rcases hK g.method meth c ⟨T.setVm vm₁, locs, cells, slots⟩ { g with stack := rest } (.invokespecial index) mk (Value.ref a :: argsL).toArray X₁ rfl hsize hdg hW (X₁.named hnamed) (hpre vm₁ X₁.warmed) with ⟨v, B, X', hpost, hsteps⟩ | ⟨q, B, X', hpost, hsteps⟩
  · exact Or.inl ⟨v, vm₁, B, X₁.warmed, X', hpost, fun target h => hstep₁ _ fun acts => by rw [doInvoke_state]; exact hsteps.trans h⟩
  · exact Or.inr ⟨q, vm₁, B, X₁.warmed, X', hpost, hstep₁ _ fun acts => by rw [doInvoke_state]; exact hsteps⟩
end VXIA
section VXIB
variable {p : Program} {l : Launch} {e : Env} {R : Room} {s : State} {m : MethodId} {args : Array Value} {below : List Frame} {meth : Method} {c : Code} {H : Heap} {locs : List Loc} {cells slots : Nat}
variable {y : MethodName} {bytes cc : ByteArray} {maxL nL mc ms n index : Nat} {ret : Option FieldType} {ws : List Cond} {rm : Room} {Pc : Array Value → State → Prop} {Qc : Array Value → State → Outcome → State → Prop} {XC : String → State → State → Prop} {free : Addr → Prop} {Ts : List Cond} {own C : String} {b : Addr} {As rest : List Value} {g : JFrame}
theorem vx_runI (S : CallFix p m c cc nL s args Ts own) (hM : vx_Met l y ws rm Pc Qc XC mc ms free) (cw : CallB R s args own index y bytes maxL none ws rm mc ms n ∧ y.name = "<init>" ∧ (Cond.instanceMethod y).before args s = true) (hp : PreS s H Pc (.ref b :: As))
    (hg : g.method = m) (hn : As.length = n) (hsize : g.locals.size = nL) (hstack : g.stack = As.reverse ++ .ref b :: rest) (hW : 2 * g.monitorRoom + (rest.map fun v => v.category).sum ≤ 8) (hdg : decode cc g.pc = .ok (.invokespecial index, 3)) (hf : cells + mc ≤ R.cells ∧ slots + ms ≤ R.slots) :
    vx_Run p l e R s m args below meth c H locs cells slots mc ms g rest (Qc (Value.ref b :: As).toArray) XC free := by
  have hK : vx_Back l R p e below s args y 3 8 (PreOf R mc ms Pc) (PostOf Qc mc ms free) (vx_Post XC mc ms free) := vx_callBack cw.1 hM hp.1
  obtain ⟨⟨-, -, -, -, -, -, hcode, -, hy, hlen, hl⟩, hy1, hin⟩ := cw
  obtain ⟨hx, hb, hml, ho, -⟩ := S
  have hPc := hp.2
  intro T hT X
  rcases vx_callI X hx (bytes := bytes) (maxL := maxL) ho hy1 hl hin hcode hy hK hg (hsize.trans hml.symm) (a := b) (argsL := As) (rest := rest) (fun sig h => hn.trans (hlen sig h)) hstack hW (by rw [hb]; exact hdg)
    (fun vm₁ hW₁ => ⟨hf.1, hf.2, hPc (T.setVm vm₁) hT hW₁⟩) with ⟨v, vm₁, ⟨U', l2, c2, s2⟩, hW₁, X', ⟨g', mk, t, L, e1, e2, hq, h1, hL, h2, h3⟩, st⟩ | ⟨q, vm₁, ⟨U', l2, c2, s2⟩, hW₁, X', ⟨g', mk, t, L, E, ce, e1, e2, hq, hce, hcv, hcl, h1, hL, h2, h3⟩, st⟩
  · dsimp only [Pt.U, Pt.locs, Pt.cells, Pt.slots] at X' e1 e2 h1 h2 h3 st
    subst h1; subst h2; subst h3
    exact Or.inl ⟨v, (T.setVm vm₁).calling g' mk (Value.ref b :: As).toArray, t, U', L, hT, X', hL, e1, e2, hq, st⟩
  · dsimp only [Pt.U, Pt.locs, Pt.cells, Pt.slots] at X' e1 e2 h1 h2 h3 st hcl
    subst h1; subst h2; subst h3
    exact Or.inr ⟨q, (T.setVm vm₁).calling g' mk (Value.ref b :: As).toArray, t, U', L, E, ce, hT, X', hL, e1, e2, hq, hce, hcv, vx_cls hW₁ hcl, st⟩
end VXIB
/-! ===== END ===== -/
/-! ===== BEGIN a private constructor of a nest mate that throws ===== -/
section VXIC
variable {p : Program} {l : Launch} {e : Env} {R : Room} {s : State} {m : MethodId} {args : Array Value} {below : List Frame} {meth : Method} {c : Code} {T : State} {locs : List Loc} {cells slots : Nat}
theorem vx_callIN (X : Stand p l e R s m args below meth c T locs cells slots) (hexec : p.tables.exec = Jvm.exec) {own : String} {index : Nat} {host : String} {y : MethodName} {bytes : ByteArray} {maxL : Nat}
    (hown : s.vm.findClass own = some m.cls) (hy1 : y.name = "<init>") (hlink : (Cond.methodLinkNest own index y host).before args s = true) (hinst : (Cond.instanceMethod y).before args s = true)
    (hcode : (Cond.code y bytes maxL none).before args s = true) (hy : y.cls ≠ "java/lang/invoke/MethodHandle" ∧ y.cls ≠ "java/lang/invoke/VarHandle")
    {W9 : Nat} {Pre : Pt → Array Value → Prop} {Post : Pt → Array Value → Option Value → Pt → Prop} {PostX : Pt → Array Value → Addr → Pt → Prop} (hK : vx_Back l R p e below s args y 3 W9 Pre Post PostX)
    {g : JFrame} (hg : g.method = m) (hsize : g.locals.size = c.maxLocals) {a : Addr} {argsL rest : List Value} (hlen : ∀ sig, parseMethodDescriptor y.desc = some sig → argsL.length = sig.parameters.length)
    (hstack : g.stack = argsL.reverse ++ .ref a :: rest) (hW : 2 * g.monitorRoom + (rest.map fun v => v.category).sum ≤ W9) (hdg : decode c.code g.pc = .ok (.invokespecial index, 3))
    (hpre : ∀ vm₁, s.WarmedH vm₁ → Pre ⟨T.setVm vm₁, locs, cells, slots⟩ (Value.ref a :: argsL).toArray) :
    (∃ (v : Option Value) (vm₁ : Vm) (B : Pt), s.WarmedH vm₁ ∧ Stand p l e R s m args below meth c B.U B.locs B.cells B.slots ∧ Post ⟨T.setVm vm₁, locs, cells, slots⟩ (Value.ref a :: argsL).toArray v B ∧
      ∀ target, Steps p.tables e below (B.U.setTop { g with pc := g.pc + 3, stack := v.toList ++ rest }) target → Steps p.tables e below (T.setTop g) target) ∨
    (∃ (q : Addr) (vm₁ : Vm) (B : Pt), s.WarmedH vm₁ ∧ Stand p l e R s m args below meth c B.U B.locs B.cells B.slots ∧ PostX ⟨T.setVm vm₁, locs, cells, slots⟩ (Value.ref a :: argsL).toArray q B ∧
      Steps p.tables e below (T.setTop g) ((B.U.setTop { g with stack := rest }).pushFrame (.throwing q))) := by
  subst hg
  have hpl : e.platform.magicAccessors = ({} : Platform).magicAccessors := by rw [X.admits.platform]
  obtain ⟨mk, methM, cM, kP, vm₁, hnamed, hmethM, hcodeM, -, hlocalsM, -, hkP, -, hW₁, hstep₁⟩ := Steps.initColdArgsNest (e := e) X.here hexec X.warmed hpl hown hy1 hy hlink hinst hcode (f := g) rfl hlen hstack hdg
  have X₁ := X.noted hW₁
  rcases hK g.method meth c ⟨T.setVm vm₁, locs, cells, slots⟩ { g with stack := rest } (.invokespecial index) mk (Value.ref a :: argsL).toArray X₁ rfl hsize hdg hW (X₁.named hnamed) (hpre vm₁ X₁.warmed) with ⟨v, B, X', hpost, hsteps⟩ | ⟨q, B, X', hpost, hsteps⟩
  · exact Or.inl ⟨v, vm₁, B, X₁.warmed, X', hpost, fun target h => hstep₁ _ fun acts => by rw [doInvoke_state]; exact hsteps.trans h⟩
  · exact Or.inr ⟨q, vm₁, B, X₁.warmed, X', hpost, hstep₁ _ fun acts => by rw [doInvoke_state]; exact hsteps⟩
end VXIC
section VXID
variable {p : Program} {l : Launch} {e : Env} {R : Room} {s : State} {m : MethodId} {args : Array Value} {below : List Frame} {meth : Method} {c : Code} {H : Heap} {locs : List Loc} {cells slots : Nat}
theorem vx_runIN {y : MethodName} {bytes cc : ByteArray} {maxL nL mc ms n index : Nat} {ws : List Cond} {rm : Room} {Pc : Array Value → State → Prop} {Qc : Array Value → State → Outcome → State → Prop} {XC : String → State → State → Prop} {free : Addr → Prop} {Ts : List Cond} {own host : String} {b : Addr} {As rest : List Value} {g : JFrame}
    (S : CallFix p m c cc nL s args Ts own) (hM : vx_Met l y ws rm Pc Qc XC mc ms free) (cw : va_CN R s args own index y host bytes maxL none ws rm mc ms n ∧ y.name = "<init>" ∧ (Cond.instanceMethod y).before args s = true) (hp : PreS s H Pc (.ref b :: As))
    (hg : g.method = m) (hn : As.length = n) (hsize : g.locals.size = nL) (hstack : g.stack = As.reverse ++ .ref b :: rest) (hW : 2 * g.monitorRoom + (rest.map fun v => v.category).sum ≤ 8) (hdg : decode cc g.pc = .ok (.invokespecial index, 3)) (hf : cells + mc ≤ R.cells ∧ slots + ms ≤ R.slots) :
    vx_Run p l e R s m args below meth c H locs cells slots mc ms g rest (Qc (Value.ref b :: As).toArray) XC free := by
  obtain ⟨⟨⟨hrc, hrs, hfr, hlo, hws, hcw⟩, hcode, hini, hy, hlen, hl⟩, hx1, hx2⟩ := cw
  have hK : vx_Back l R p e below s args y 3 8 (PreOf R mc ms Pc) (PostOf Qc mc ms free) (vx_Post XC mc ms free) := vx_back (bytes := bytes) (maxL := maxL) (ret := none) hM hp.1 hrc hrs hfr hlo hws hcw (fun a' U hW => word_at hW (Or.inl (by first | rfl | simp [Cond.onTables, Cond.keeps, Cond.steady])) hini)
  obtain ⟨hx, hb, hml, ho, -⟩ := S
  have hPc := hp.2
  intro T hT X
  rcases vx_callIN X hx (bytes := bytes) (maxL := maxL) ho hx1 hl hx2 hcode hy hK hg (hsize.trans hml.symm) (a := b) (argsL := As) (rest := rest) (fun sig h => hn.trans (hlen sig h)) hstack hW (by rw [hb]; exact hdg)
    (fun vm₁ hW₁ => ⟨hf.1, hf.2, hPc (T.setVm vm₁) hT hW₁⟩) with ⟨v, vm₁, ⟨U', l2, c2, s2⟩, hW₁, X', ⟨g', mk, t, L, e1, e2, hq, h1, hL, h2, h3⟩, st⟩ | ⟨q, vm₁, ⟨U', l2, c2, s2⟩, hW₁, X', ⟨g', mk, t, L, E, ce, e1, e2, hq, hce, hcv, hcl, h1, hL, h2, h3⟩, st⟩
  · dsimp only [Pt.U, Pt.locs, Pt.cells, Pt.slots] at X' e1 e2 h1 h2 h3 st
    subst h1; subst h2; subst h3
    exact Or.inl ⟨v, (T.setVm vm₁).calling g' mk (Value.ref b :: As).toArray, t, U', L, hT, X', hL, e1, e2, hq, st⟩
  · dsimp only [Pt.U, Pt.locs, Pt.cells, Pt.slots] at X' e1 e2 h1 h2 h3 st hcl
    subst h1; subst h2; subst h3
    exact Or.inr ⟨q, (T.setVm vm₁).calling g' mk (Value.ref b :: As).toArray, t, U', L, E, ce, hT, X', hL, e1, e2, hq, hce, hcv, vx_cls hW₁ hcl, st⟩
end VXID
/-! ===== END ===== -/
/-! ===== BEGIN a private method of a nest mate that may throw (follows va_callVN, va_callSN, va_runVN, va_runSN) ===== -/
section
variable {p : Program} {l : Launch} {e : Env} {R : Room} {s : State} {m : MethodId} {args : Array Value} {below : List Frame} {meth : Method} {c : Code} {H : Heap} {locs : List Loc} {cells slots : Nat}
variable {T : State}
theorem vx_callVN (X : Stand p l e R s m args below meth c T locs cells slots) (hexec : p.tables.exec = Jvm.exec) {own C : String} {index : Nat} {host : String} {y : MethodName} {bytes : ByteArray} {maxL : Nat} {ret : Option FieldType}
    (hown : s.vm.findClass own = some m.cls) (hlink : (Cond.methodLinkNest own index y host).before args s = true) (hinst : (Cond.instanceMethod y).before args s = true) (hsel : (Cond.selects C y y).before args s = true)
    (hcode : (Cond.code y bytes maxL ret).before args s = true) (hy : y.cls ≠ "java/lang/invoke/MethodHandle" ∧ y.cls ≠ "java/lang/invoke/VarHandle")
    {W : Nat} {Pre : Pt → Array Value → Prop} {Post : Pt → Array Value → Option Value → Pt → Prop} {PostX : Pt → Array Value → Addr → Pt → Prop} (hK : vx_Back l R p e below s args y 3 W Pre Post PostX)
    {b : Addr} {cellB : Cell} (hcell : T.heap[b]? = some cellB) (hobj : cellB.vm.isStatics = false) (hcls : s.vm.findClass C = some cellB.cls)
    {g : JFrame} (hg : g.method = m) (hsize : g.locals.size = c.maxLocals) {argsL rest : List Value} (hlen : ∀ sig, parseMethodDescriptor y.desc = some sig → argsL.length = sig.parameters.length)
    (hstack : g.stack = argsL.reverse ++ .ref b :: rest) (hW : 2 * g.monitorRoom + (rest.map fun v => v.category).sum ≤ W) (hdg : decode c.code g.pc = .ok (.invokevirtual index, 3))
    (hpre : ∀ vm₁, s.WarmedH vm₁ → Pre ⟨T.setVm vm₁, locs, cells, slots⟩ (Value.ref b :: argsL).toArray) :
    (∃ (v : Option Value) (vm₁ : Vm) (B : Pt), s.WarmedH vm₁ ∧ Stand p l e R s m args below meth c B.U B.locs B.cells B.slots ∧ Post ⟨T.setVm vm₁, locs, cells, slots⟩ (Value.ref b :: argsL).toArray v B ∧
      ∀ target, Steps p.tables e below (B.U.setTop { g with pc := g.pc + 3, stack := v.toList ++ rest }) target → Steps p.tables e below (T.setTop g) target) ∨
    (∃ (q : Addr) (vm₁ : Vm) (B : Pt), s.WarmedH vm₁ ∧ Stand p l e R s m args below meth c B.U B.locs B.cells B.slots ∧ PostX ⟨T.setVm vm₁, locs, cells, slots⟩ (Value.ref b :: argsL).toArray q B ∧
      Steps p.tables e below (T.setTop g) ((B.U.setTop { g with stack := rest }).pushFrame (.throwing q))) := by
  obtain ⟨mk, methM, hnamed, hmethM, hstM, habM⟩ := Cond.instanceMethod_spec hinst
  obtain ⟨methM', cM, hmethM', -, -, -, -, -, -, hsigM⟩ := Cond.code_spec hnamed hcode
  cases hmethM.symm.trans hmethM'
  obtain ⟨c2, r2, m2, q1, q2, q3, q4, kP, hkP, hkPi⟩ := Cond.selects_spec hsel
  cases hcls.symm.trans q1
  cases (State.methodFound?_of_named hnamed hy).symm.trans q2
  cases hnamed.symm.trans q3
  have hselP : selectMethod e.platform s.vm cellB.cls mk = .method mk := by rw [Launch.admits_selectMethod X.admits]; exact q4
  obtain ⟨vm₁, X₁, hstep₁⟩ := X.invokevirtualNest hexec hown hlink hnamed hmethM hstM hkP hkPi hy (a := b) (cell := cellB) hcell
    (fun z h => by rw [h] at hobj; cases hobj) hselP hmethM habM hkP hkPi (g := g) hg (argsL := argsL) (rest := rest) (hlen _ hsigM) hstack hdg
  rcases hK m meth c ⟨T.setVm vm₁, locs, cells, slots⟩ { g with stack := rest } (.invokevirtual index) mk (Value.ref b :: argsL).toArray X₁ hg hsize hdg hW (X₁.named hnamed) (hpre vm₁ X₁.warmed) with ⟨v, B, X', hpost, hsteps⟩ | ⟨q, B, X', hpost, hsteps⟩
  · exact Or.inl ⟨v, vm₁, B, X₁.warmed, X', hpost, fun target h => hstep₁ _ fun acts => by rw [doInvoke_state]; exact hsteps.trans h⟩
  · exact Or.inr ⟨q, vm₁, B, X₁.warmed, X', hpost, hstep₁ _ fun acts => by rw [doInvoke_state]; exact hsteps⟩
theorem vx_callSN (X : Stand p l e R s m args below meth c T locs cells slots) (hexec : p.tables.exec = Jvm.exec) {own : String} {index : Nat} {host : String} {y : MethodName} {bytes : ByteArray} {maxL : Nat} {ret : Option FieldType}
    (hown : s.vm.findClass own = some m.cls) (hlink : (Cond.methodLinkNest own index y host).before args s = true) (hstat : (Cond.static y).before args s = true) (hinit : (Cond.initialized y.cls).before args s = true)
    (hcode : (Cond.code y bytes maxL ret).before args s = true) (hy : y.cls ≠ "java/lang/invoke/MethodHandle" ∧ y.cls ≠ "java/lang/invoke/VarHandle")
    {W : Nat} {Pre : Pt → Array Value → Prop} {Post : Pt → Array Value → Option Value → Pt → Prop} {PostX : Pt → Array Value → Addr → Pt → Prop} (hK : vx_Back l R p e below s args y 3 W Pre Post PostX)
    {g : JFrame} (hg : g.method = m) (hsize : g.locals.size = c.maxLocals) {argsL rest : List Value} (hlen : ∀ sig, parseMethodDescriptor y.desc = some sig → argsL.length = sig.parameters.length)
    (hstack : g.stack = argsL.reverse ++ rest) (hW : 2 * g.monitorRoom + (rest.map fun v => v.category).sum ≤ W) (hdg : decode c.code g.pc = .ok (.invokestatic index, 3))
    (hpre : ∀ vm₁, s.WarmedH vm₁ → Pre ⟨T.setVm vm₁, locs, cells, slots⟩ argsL.toArray) :
    (∃ (v : Option Value) (vm₁ : Vm) (B : Pt), s.WarmedH vm₁ ∧ Stand p l e R s m args below meth c B.U B.locs B.cells B.slots ∧ Post ⟨T.setVm vm₁, locs, cells, slots⟩ argsL.toArray v B ∧
      ∀ target, Steps p.tables e below (B.U.setTop { g with pc := g.pc + 3, stack := v.toList ++ rest }) target → Steps p.tables e below (T.setTop g) target) ∨
    (∃ (q : Addr) (vm₁ : Vm) (B : Pt), s.WarmedH vm₁ ∧ Stand p l e R s m args below meth c B.U B.locs B.cells B.slots ∧ PostX ⟨T.setVm vm₁, locs, cells, slots⟩ argsL.toArray q B ∧
      Steps p.tables e below (T.setTop g) ((B.U.setTop { g with stack := rest }).pushFrame (.throwing q))) := by
  obtain ⟨mk, hnamed⟩ := Cond.code_named hcode
  obtain ⟨methM, cM, hmethM, -, -, -, -, -, -, hsigM⟩ := Cond.code_spec hnamed hcode
  have hstatic : methM.isStatic = true := Cond.static_spec hnamed hmethM hstat
  obtain ⟨kP, hkP, -⟩ := className_of_methodNamed hnamed
  have hinitP : kP.init = .initialized := Cond.initialized_spec (findClass_of_methodNamed hnamed) hkP hinit
  obtain ⟨vm₁, X₁, hstep₁⟩ := X.invokestaticNest hexec hown hlink hnamed hmethM hstatic hkP hinitP hy (g := g) hg (argsL := argsL) (rest := rest) (hlen _ hsigM) hstack hdg
  rcases hK m meth c ⟨T.setVm vm₁, locs, cells, slots⟩ { g with stack := rest } (.invokestatic index) mk argsL.toArray X₁ hg hsize hdg hW (X₁.named hnamed) (hpre vm₁ X₁.warmed) with ⟨v, B, X', hpost, hsteps⟩ | ⟨q, B, X', hpost, hsteps⟩
  · exact Or.inl ⟨v, vm₁, B, X₁.warmed, X', hpost, fun target h => hstep₁ _ fun acts => by rw [doInvoke_state]; exact hsteps.trans h⟩
  · exact Or.inr ⟨q, vm₁, B, X₁.warmed, X', hpost, hstep₁ _ fun acts => by rw [doInvoke_state]; exact hsteps⟩
theorem vx_runVN {y : MethodName} {bytes cc : ByteArray} {maxL nL mc ms n index : Nat} {ret : Option FieldType} {ws : List Cond} {rm : Room} {Pc : Array Value → State → Prop} {Qc : Array Value → State → Outcome → State → Prop} {XC : String → State → State → Prop} {free : Addr → Prop} {Ts : List Cond} {own C host : String} {b : Addr} {As rest : List Value} {g : JFrame}
    (S : CallFix p m c cc nL s args Ts own) (hM : vx_Met l y ws rm Pc Qc XC mc ms free) (cw : va_CN R s args own index y host bytes maxL ret ws rm mc ms n ∧ (Cond.instanceMethod y).before args s = true ∧ (Cond.selects C y y).before args s = true) (hp : PreV s H C b Pc As)
    (hg : g.method = m) (hn : As.length = n) (hsize : g.locals.size = nL) (hstack : g.stack = As.reverse ++ .ref b :: rest) (hW : 2 * g.monitorRoom + (rest.map fun v => v.category).sum ≤ 8) (hdg : decode cc g.pc = .ok (.invokevirtual index, 3)) (hf : cells + mc ≤ R.cells ∧ slots + ms ≤ R.slots) :
    vx_Run p l e R s m args below meth c H locs cells slots mc ms g rest (Qc (Value.ref b :: As).toArray) XC free := by
  obtain ⟨⟨⟨hrc, hrs, hfr, hlo, hws, hcw⟩, hcode, hini, hy, hlen, hl⟩, hx1, hx2⟩ := cw
  have hK : vx_Back l R p e below s args y 3 8 (PreOf R mc ms Pc) (PostOf Qc mc ms free) (vx_Post XC mc ms free) := vx_back (bytes := bytes) (maxL := maxL) (ret := ret) hM hp.1 hrc hrs hfr hlo hws hcw (fun a' U hW => word_at hW (Or.inl (by first | rfl | simp [Cond.onTables, Cond.keeps, Cond.steady])) hini)
  obtain ⟨hx, hb, hml, ho, -⟩ := S
  obtain ⟨-, ⟨cellB, hcB, hoB, hclB⟩, hPc⟩ := hp
  intro T hT X
  rcases vx_callVN X hx (C := C) (bytes := bytes) (maxL := maxL) (ret := ret) ho hl hx1 hx2 hcode hy hK (by rw [hT]; exact hcB) hoB hclB hg (hsize.trans hml.symm) (argsL := As) (rest := rest) (fun sig h => hn.trans (hlen sig h)) hstack hW (by rw [hb]; exact hdg)
    (fun vm₁ hW₁ => ⟨hf.1, hf.2, hPc (T.setVm vm₁) hT hW₁⟩) with ⟨v, vm₁, ⟨U', l2, c2, s2⟩, hW₁, X', ⟨g', mk, t, L, e1, e2, hq, h1, hL, h2, h3⟩, st⟩ | ⟨q, vm₁, ⟨U', l2, c2, s2⟩, hW₁, X', ⟨g', mk, t, L, E, ce, e1, e2, hq, hce, hcv, hcl, h1, hL, h2, h3⟩, st⟩
  · dsimp only [Pt.U, Pt.locs, Pt.cells, Pt.slots] at X' e1 e2 h1 h2 h3 st
    subst h1; subst h2; subst h3
    exact Or.inl ⟨v, (T.setVm vm₁).calling g' mk (Value.ref b :: As).toArray, t, U', L, hT, X', hL, e1, e2, hq, st⟩
  · dsimp only [Pt.U, Pt.locs, Pt.cells, Pt.slots] at X' e1 e2 h1 h2 h3 st hcl
    subst h1; subst h2; subst h3
    exact Or.inr ⟨q, (T.setVm vm₁).calling g' mk (Value.ref b :: As).toArray, t, U', L, E, ce, hT, X', hL, e1, e2, hq, hce, hcv, vx_cls hW₁ hcl, st⟩
theorem vx_runSN {y : MethodName} {bytes cc : ByteArray} {maxL nL mc ms n index : Nat} {ret : Option FieldType} {ws : List Cond} {rm : Room} {Pc : Array Value → State → Prop} {Qc : Array Value → State → Outcome → State → Prop} {XC : String → State → State → Prop} {free : Addr → Prop} {Ts : List Cond} {own host : String} {As rest : List Value} {g : JFrame}
    (S : CallFix p m c cc nL s args Ts own) (hM : vx_Met l y ws rm Pc Qc XC mc ms free) (cw : va_CN R s args own index y host bytes maxL ret ws rm mc ms n ∧ (Cond.static y).before args s = true ∧ True) (hp : PreS s H Pc As)
    (hg : g.method = m) (hn : As.length = n) (hsize : g.locals.size = nL) (hstack : g.stack = As.reverse ++ rest) (hW : 2 * g.monitorRoom + (rest.map fun v => v.category).sum ≤ 8) (hdg : decode cc g.pc = .ok (.invokestatic index, 3)) (hf : cells + mc ≤ R.cells ∧ slots + ms ≤ R.slots) :
    vx_Run p l e R s m args below meth c H locs cells slots mc ms g rest (Qc As.toArray) XC free := by
  obtain ⟨⟨⟨hrc, hrs, hfr, hlo, hws, hcw⟩, hcode, hini, hy, hlen, hl⟩, hx1, hx2⟩ := cw
  have hK : vx_Back l R p e below s args y 3 8 (PreOf R mc ms Pc) (PostOf Qc mc ms free) (vx_Post XC mc ms free) := vx_back (bytes := bytes) (maxL := maxL) (ret := ret) hM hp.1 hrc hrs hfr hlo hws hcw (fun a' U hW => word_at hW (Or.inl (by first | rfl | simp [Cond.onTables, Cond.keeps, Cond.steady])) hini)
  obtain ⟨hx, hb, hml, ho, -⟩ := S
  have hPc := hp.2
  intro T hT X
  rcases vx_callSN X hx (bytes := bytes) (maxL := maxL) (ret := ret) ho hl hx1 hini hcode hy hK hg (hsize.trans hml.symm) (argsL := As) (rest := rest) (fun sig h => hn.trans (hlen sig h)) hstack hW (by rw [hb]; exact hdg)
    (fun vm₁ hW₁ => ⟨hf.1, hf.2, hPc (T.setVm vm₁) hT hW₁⟩) with ⟨v, vm₁, ⟨U', l2, c2, s2⟩, hW₁, X', ⟨g', mk, t, L, e1, e2, hq, h1, hL, h2, h3⟩, st⟩ | ⟨q, vm₁, ⟨U', l2, c2, s2⟩, hW₁, X', ⟨g', mk, t, L, E, ce, e1, e2, hq, hce, hcv, hcl, h1, hL, h2, h3⟩, st⟩
  · dsimp only [Pt.U, Pt.locs, Pt.cells, Pt.slots] at X' e1 e2 h1 h2 h3 st
    subst h1; subst h2; subst h3
    exact Or.inl ⟨v, (T.setVm vm₁).calling g' mk As.toArray, t, U', L, hT, X', hL, e1, e2, hq, st⟩
  · dsimp only [Pt.U, Pt.locs, Pt.cells, Pt.slots] at X' e1 e2 h1 h2 h3 st hcl
    subst h1; subst h2; subst h3
    exact Or.inr ⟨q, (T.setVm vm₁).calling g' mk As.toArray, t, U', L, E, ce, hT, X', hL, e1, e2, hq, hce, hcv, vx_cls hW₁ hcl, st⟩
end
/-! ===== END ===== -/
end
section
def RX0 : String := "DanceFloors$Dancer"
def TX0 : u_T := fun k => match k with
  | 0 => ("DanceFloors$Dancer", "level", "I", false)
  | 1 => ("DanceFloors$Dancer", "steps", "I", false)
  | 2 => ("DanceFloors$Dancer", "left", "I", false)
  | _ => ("DanceFloors$Dancer", "passes", "I", false)
def tyX0 : Nat → FieldType := fun k => match k with
  | 0 => .int
  | 1 => .int
  | 2 => .int
  | _ => .int
abbrev wsX00 : List Cond := u_ws RX0 TX0 4
theorem nmX0 : ∀ a, a < 4 → ∀ b, b < 4 → a ≠ b → (TX0 a).2.1 ≠ (TX0 b).2.1 := by decide +kernel
theorem tyX0_ok : ∀ k, k < 4 → parseFieldDescriptor (TX0 k).2.2.1 = some (tyX0 k) := by decide +kernel
abbrev cX0_init : ByteArray := prog_2_method_1_code
def yX0_init : MethodName := ⟨RX0, "<init>", "()V"⟩
abbrev cX0_copyFrom : ByteArray := prog_2_method_2_code
def yX0_copyFrom : MethodName := ⟨RX0, "copyFrom", "(LDanceFloors$Dancer;)V"⟩
abbrev cX0_usesSoFar : ByteArray := prog_2_method_3_code
def yX0_usesSoFar : MethodName := ⟨RX0, "usesSoFar", "()I"⟩
abbrev cX0_dance : ByteArray := prog_2_method_4_code
def yX0_dance : MethodName := ⟨RX0, "dance", "(I)V"⟩
abbrev cX0_riseWith : ByteArray := prog_2_method_5_code
def yX0_riseWith : MethodName := ⟨RX0, "riseWith", "(I)V"⟩
def RX1 : String := "DanceFloors$Floor"
def TX1 : u_T := fun k => match k with
  | 0 => ("DanceFloors$Floor", "spring", "I", false)
  | 1 => ("DanceFloors$Floor", "mirrors", "I", false)
  | 2 => ("DanceFloors$Floor", "barre", "I", false)
  | _ => ("DanceFloors$Floor", "places", "I", false)
def tyX1 : Nat → FieldType := fun k => match k with
  | 0 => .int
  | 1 => .int
  | 2 => .int
  | _ => .int
abbrev wsX10 : List Cond := u_ws RX1 TX1 4
theorem nmX1 : ∀ a, a < 4 → ∀ b, b < 4 → a ≠ b → (TX1 a).2.1 ≠ (TX1 b).2.1 := by decide +kernel
theorem tyX1_ok : ∀ k, k < 4 → parseFieldDescriptor (TX1 k).2.2.1 = some (tyX1 k) := by decide +kernel
abbrev cX1_init : ByteArray := prog_3_method_1_code
def yX1_init : MethodName := ⟨RX1, "<init>", "()V"⟩
abbrev cX1_copyFrom : ByteArray := prog_3_method_2_code
def yX1_copyFrom : MethodName := ⟨RX1, "copyFrom", "(LDanceFloors$Floor;)V"⟩
abbrev cX1_hasSpringFor : ByteArray := prog_3_method_3_code
def yX1_hasSpringFor : MethodName := ⟨RX1, "hasSpringFor", "(II)Z"⟩
abbrev cX1_hasBarreFor : ByteArray := prog_3_method_4_code
def yX1_hasBarreFor : MethodName := ⟨RX1, "hasBarreFor", "(II)Z"⟩
abbrev cX1_hasMirrorsFor : ByteArray := prog_3_method_5_code
def yX1_hasMirrorsFor : MethodName := ⟨RX1, "hasMirrorsFor", "(II)Z"⟩
abbrev cX1_roomFor : ByteArray := prog_3_method_6_code
def yX1_roomFor : MethodName := ⟨RX1, "roomFor", "(I)I"⟩
def RX2 : String := "DanceFloors$History"
def TX2 : u_T := fun k => match k with
  | 0 => ("DanceFloors$History", "rows", "[LDanceFloors$Studio;", true)
  | 1 => ("DanceFloors$History", "oldest", "I", false)
  | _ => ("DanceFloors$History", "count", "I", false)
def tyX2 : Nat → FieldType := fun k => match k with
  | 0 => .array (.object "DanceFloors$Studio")
  | 1 => .int
  | _ => .int
abbrev wsX20 : List Cond := u_ws RX2 TX2 3
theorem nmX2 : ∀ a, a < 3 → ∀ b, b < 3 → a ≠ b → (TX2 a).2.1 ≠ (TX2 b).2.1 := by decide +kernel
theorem tyX2_ok : ∀ k, k < 3 → parseFieldDescriptor (TX2 k).2.2.1 = some (tyX2 k) := by decide +kernel
abbrev cX2_init : ByteArray := prog_4_method_1_code
def yX2_init : MethodName := ⟨RX2, "<init>", "()V"⟩
abbrev cX2_remember : ByteArray := prog_4_method_2_code
def yX2_remember : MethodName := ⟨RX2, "remember", "(LDanceFloors$Studio;)V"⟩
abbrev cX2_takeBack : ByteArray := prog_4_method_3_code
def yX2_takeBack : MethodName := ⟨RX2, "takeBack", "(LDanceFloors$Studio;)I"⟩
abbrev cX2_forgetAll : ByteArray := prog_4_method_4_code
def yX2_forgetAll : MethodName := ⟨RX2, "forgetAll", "()V"⟩
def RX3 : String := "DanceFloors$Lesson"
def TX3 : u_T := fun k => match k with
  | 0 => ("DanceFloors$Lesson", "style", "I", false)
  | 1 => ("DanceFloors$Lesson", "level", "I", false)
  | 2 => ("DanceFloors$Lesson", "floor", "I", false)
  | 3 => ("DanceFloors$Lesson", "teacher", "I", false)
  | 4 => ("DanceFloors$Lesson", "day", "I", false)
  | 5 => ("DanceFloors$Lesson", "hour", "I", false)
  | 6 => ("DanceFloors$Lesson", "seats", "I", false)
  | 7 => ("DanceFloors$Lesson", "weeksHeld", "I", false)
  | _ => ("DanceFloors$Lesson", "uses", "I", false)
def tyX3 : Nat → FieldType := fun k => match k with
  | 0 => .int
  | 1 => .int
  | 2 => .int
  | 3 => .int
  | 4 => .int
  | 5 => .int
  | 6 => .int
  | 7 => .int
  | _ => .int
abbrev wsX30 : List Cond := u_ws RX3 TX3 9
theorem nmX3 : ∀ a, a < 9 → ∀ b, b < 9 → a ≠ b → (TX3 a).2.1 ≠ (TX3 b).2.1 := by decide +kernel
theorem tyX3_ok : ∀ k, k < 9 → parseFieldDescriptor (TX3 k).2.2.1 = some (tyX3 k) := by decide +kernel
abbrev cX3_init : ByteArray := prog_5_method_1_code
def yX3_init : MethodName := ⟨RX3, "<init>", "()V"⟩
abbrev cX3_copyFrom : ByteArray := prog_5_method_2_code
def yX3_copyFrom : MethodName := ⟨RX3, "copyFrom", "(LDanceFloors$Lesson;)V"⟩
abbrev cX3_isAt : ByteArray := prog_5_method_3_code
def yX3_isAt : MethodName := ⟨RX3, "isAt", "(II)Z"⟩
abbrev cX3_seatsDancer : ByteArray := prog_5_method_4_code
def yX3_seatsDancer : MethodName := ⟨RX3, "seatsDancer", "(I)Z"⟩
abbrev cX3_countSeats : ByteArray := prog_5_method_5_code
def yX3_countSeats : MethodName := ⟨RX3, "countSeats", "()I"⟩
def RX4 : String := "DanceFloors$Studio"
def TX4 : u_T := fun k => match k with
  | 0 => ("DanceFloors$Studio", "floors", "[LDanceFloors$Floor;", true)
  | 1 => ("DanceFloors$Studio", "teachers", "[LDanceFloors$Teacher;", true)
  | 2 => ("DanceFloors$Studio", "lessons", "[LDanceFloors$Lesson;", true)
  | 3 => ("DanceFloors$Studio", "dancers", "[LDanceFloors$Dancer;", true)
  | 4 => ("DanceFloors$Studio", "settings", "[I", true)
  | 5 => ("DanceFloors$Studio", "floorCount", "I", false)
  | 6 => ("DanceFloors$Studio", "teacherCount", "I", false)
  | 7 => ("DanceFloors$Studio", "lessonCount", "I", false)
  | 8 => ("DanceFloors$Studio", "dancerCount", "I", false)
  | 9 => ("DanceFloors$Studio", "weekCount", "I", false)
  | 10 => ("DanceFloors$Studio", "heldCount", "I", false)
  | 11 => ("DanceFloors$Studio", "notHeldCount", "I", false)
  | 12 => ("DanceFloors$Studio", "refusedCount", "I", false)
  | _ => ("DanceFloors$Studio", "usesOfDropped", "I", false)
def tyX4 : Nat → FieldType := fun k => match k with
  | 0 => .array (.object "DanceFloors$Floor")
  | 1 => .array (.object "DanceFloors$Teacher")
  | 2 => .array (.object "DanceFloors$Lesson")
  | 3 => .array (.object "DanceFloors$Dancer")
  | 4 => .array .int
  | 5 => .int
  | 6 => .int
  | 7 => .int
  | 8 => .int
  | 9 => .int
  | 10 => .int
  | 11 => .int
  | 12 => .int
  | _ => .int
abbrev wsX40 : List Cond := u_ws RX4 TX4 14
theorem nmX4 : ∀ a, a < 14 → ∀ b, b < 14 → a ≠ b → (TX4 a).2.1 ≠ (TX4 b).2.1 := by decide +kernel
theorem tyX4_ok : ∀ k, k < 14 → parseFieldDescriptor (TX4 k).2.2.1 = some (tyX4 k) := by decide +kernel
abbrev cX4_init : ByteArray := prog_6_method_1_code
def yX4_init : MethodName := ⟨RX4, "<init>", "()V"⟩
abbrev cX4_makeNew : ByteArray := prog_6_method_2_code
def yX4_makeNew : MethodName := ⟨RX4, "makeNew", "()V"⟩
abbrev cX4_copyFrom : ByteArray := prog_6_method_3_code
def yX4_copyFrom : MethodName := ⟨RX4, "copyFrom", "(LDanceFloors$Studio;)V"⟩
abbrev cX4_copyRowsFrom : ByteArray := prog_6_method_4_code
def yX4_copyRowsFrom : MethodName := ⟨RX4, "copyRowsFrom", "(LDanceFloors$Studio;)V"⟩
abbrev cX4_hasFloor : ByteArray := prog_6_method_5_code
def yX4_hasFloor : MethodName := ⟨RX4, "hasFloor", "(I)Z"⟩
abbrev cX4_hasTeacher : ByteArray := prog_6_method_6_code
def yX4_hasTeacher : MethodName := ⟨RX4, "hasTeacher", "(I)Z"⟩
abbrev cX4_hasLesson : ByteArray := prog_6_method_7_code
def yX4_hasLesson : MethodName := ⟨RX4, "hasLesson", "(I)Z"⟩
abbrev cX4_hasDancer : ByteArray := prog_6_method_8_code
def yX4_hasDancer : MethodName := ⟨RX4, "hasDancer", "(I)Z"⟩
abbrev cX4_hasSeat : ByteArray := prog_6_method_9_code
def yX4_hasSeat : MethodName := ⟨RX4, "hasSeat", "(II)Z"⟩
abbrev cX4_mayHavePass : ByteArray := prog_6_method_10_code
def yX4_mayHavePass : MethodName := ⟨RX4, "mayHavePass", "(I)Z"⟩
abbrev cX4_addFloor : ByteArray := prog_6_method_11_code
def yX4_addFloor : MethodName := ⟨RX4, "addFloor", "(IIII)I"⟩
abbrev cX4_addTeacher : ByteArray := prog_6_method_12_code
def yX4_addTeacher : MethodName := ⟨RX4, "addTeacher", "(II)I"⟩
abbrev cX4_addDancer : ByteArray := prog_6_method_13_code
def yX4_addDancer : MethodName := ⟨RX4, "addDancer", "()I"⟩
abbrev cX4_addLesson : ByteArray := prog_6_method_14_code
def yX4_addLesson : MethodName := ⟨RX4, "addLesson", "(IIIIII)I"⟩
abbrev cX4_dropLesson : ByteArray := prog_6_method_15_code
def yX4_dropLesson : MethodName := ⟨RX4, "dropLesson", "(I)I"⟩
abbrev cX4_givePass : ByteArray := prog_6_method_16_code
def yX4_givePass : MethodName := ⟨RX4, "givePass", "(I)I"⟩
abbrev cX4_takeSeat : ByteArray := prog_6_method_17_code
def yX4_takeSeat : MethodName := ⟨RX4, "takeSeat", "(II)I"⟩
abbrev cX4_giveUpSeat : ByteArray := prog_6_method_18_code
def yX4_giveUpSeat : MethodName := ⟨RX4, "giveUpSeat", "(II)I"⟩
abbrev cX4_countRefusal : ByteArray := prog_6_method_19_code
def yX4_countRefusal : MethodName := ⟨RX4, "countRefusal", "(I)I"⟩
abbrev cX4_reasonAgainstLesson : ByteArray := prog_6_method_20_code
def yX4_reasonAgainstLesson : MethodName := ⟨RX4, "reasonAgainstLesson", "(IIIIII)I"⟩
abbrev cX4_isFloorInUse : ByteArray := prog_6_method_21_code
def yX4_isFloorInUse : MethodName := ⟨RX4, "isFloorInUse", "(III)Z"⟩
abbrev cX4_isTeacherInUse : ByteArray := prog_6_method_22_code
def yX4_isTeacherInUse : MethodName := ⟨RX4, "isTeacherInUse", "(III)Z"⟩
abbrev cX4_reasonAgainstSeat : ByteArray := prog_6_method_23_code
def yX4_reasonAgainstSeat : MethodName := ⟨RX4, "reasonAgainstSeat", "(II)I"⟩
abbrev cX4_isDancerSeatedAt : ByteArray := prog_6_method_24_code
def yX4_isDancerSeatedAt : MethodName := ⟨RX4, "isDancerSeatedAt", "(III)Z"⟩
abbrev cX4_roomIn : ByteArray := prog_6_method_25_code
def yX4_roomIn : MethodName := ⟨RX4, "roomIn", "(LDanceFloors$Lesson;)I"⟩
abbrev cX4_roomiestFloor : ByteArray := prog_6_method_26_code
def yX4_roomiestFloor : MethodName := ⟨RX4, "roomiestFloor", "(IIIII)I"⟩
abbrev cX4_passWeeks : ByteArray := prog_6_method_27_code
def yX4_passWeeks : MethodName := ⟨RX4, "passWeeks", "(I)I"⟩
abbrev cX4_passWeek : ByteArray := prog_6_method_28_code
def yX4_passWeek : MethodName := ⟨RX4, "passWeek", "()I"⟩
abbrev cX4_holdLesson : ByteArray := prog_6_method_29_code
def yX4_holdLesson : MethodName := ⟨RX4, "holdLesson", "(LDanceFloors$Lesson;)I"⟩
abbrev cX4_countComers : ByteArray := prog_6_method_30_code
def yX4_countComers : MethodName := ⟨RX4, "countComers", "(LDanceFloors$Lesson;)I"⟩
abbrev cX4_comes : ByteArray := prog_6_method_31_code
def yX4_comes : MethodName := ⟨RX4, "comes", "(ILDanceFloors$Lesson;)Z"⟩
abbrev cX4_countSeats : ByteArray := prog_6_method_32_code
def yX4_countSeats : MethodName := ⟨RX4, "countSeats", "()I"⟩
abbrev cX4_countSeatsOfDancer : ByteArray := prog_6_method_33_code
def yX4_countSeatsOfDancer : MethodName := ⟨RX4, "countSeatsOfDancer", "(I)I"⟩
abbrev cX4_countLessonsOnFloor : ByteArray := prog_6_method_34_code
def yX4_countLessonsOnFloor : MethodName := ⟨RX4, "countLessonsOnFloor", "(I)I"⟩
abbrev cX4_countLessonsOfTeacher : ByteArray := prog_6_method_35_code
def yX4_countLessonsOfTeacher : MethodName := ⟨RX4, "countLessonsOfTeacher", "(I)I"⟩
abbrev cX4_countDaysOfTeacher : ByteArray := prog_6_method_36_code
def yX4_countDaysOfTeacher : MethodName := ⟨RX4, "countDaysOfTeacher", "(I)I"⟩
abbrev cX4_countPasses : ByteArray := prog_6_method_37_code
def yX4_countPasses : MethodName := ⟨RX4, "countPasses", "()I"⟩
abbrev cX4_countLeft : ByteArray := prog_6_method_38_code
def yX4_countLeft : MethodName := ⟨RX4, "countLeft", "()I"⟩
abbrev cX4_countUsesByDancers : ByteArray := prog_6_method_39_code
def yX4_countUsesByDancers : MethodName := ⟨RX4, "countUsesByDancers", "()I"⟩
abbrev cX4_countUsesByLessons : ByteArray := prog_6_method_40_code
def yX4_countUsesByLessons : MethodName := ⟨RX4, "countUsesByLessons", "()I"⟩
def RX5 : String := "DanceFloors$Teacher"
def TX5 : u_T := fun k => match k with
  | 0 => ("DanceFloors$Teacher", "styles", "I", false)
  | _ => ("DanceFloors$Teacher", "highest", "I", false)
def tyX5 : Nat → FieldType := fun k => match k with
  | 0 => .int
  | _ => .int
abbrev wsX50 : List Cond := u_ws RX5 TX5 2
theorem nmX5 : ∀ a, a < 2 → ∀ b, b < 2 → a ≠ b → (TX5 a).2.1 ≠ (TX5 b).2.1 := by decide +kernel
theorem tyX5_ok : ∀ k, k < 2 → parseFieldDescriptor (TX5 k).2.2.1 = some (tyX5 k) := by decide +kernel
abbrev cX5_init : ByteArray := prog_7_method_1_code
def yX5_init : MethodName := ⟨RX5, "<init>", "()V"⟩
abbrev cX5_copyFrom : ByteArray := prog_7_method_2_code
def yX5_copyFrom : MethodName := ⟨RX5, "copyFrom", "(LDanceFloors$Teacher;)V"⟩
abbrev cX5_teaches : ByteArray := prog_7_method_3_code
def yX5_teaches : MethodName := ⟨RX5, "teaches", "(II)Z"⟩
def RX6 : String := "DanceFloors$Text"
def TX6 : u_T := fun k => match k with
  | 0 => ("DanceFloors$Text", "signs", "[C", true)
  | 1 => ("DanceFloors$Text", "numbers", "[I", true)
  | 2 => ("DanceFloors$Text", "length", "I", false)
  | 3 => ("DanceFloors$Text", "at", "I", false)
  | 4 => ("DanceFloors$Text", "numberCount", "I", false)
  | _ => ("DanceFloors$Text", "letter", "C", false)
def tyX6 : Nat → FieldType := fun k => match k with
  | 0 => .array .char
  | 1 => .array .int
  | 2 => .int
  | 3 => .int
  | 4 => .int
  | _ => .char
abbrev wsX60 : List Cond := u_ws RX6 TX6 6
theorem nmX6 : ∀ a, a < 6 → ∀ b, b < 6 → a ≠ b → (TX6 a).2.1 ≠ (TX6 b).2.1 := by decide +kernel
theorem tyX6_ok : ∀ k, k < 6 → parseFieldDescriptor (TX6 k).2.2.1 = some (tyX6 k) := by decide +kernel
abbrev cX6_init : ByteArray := prog_8_method_1_code
def yX6_init : MethodName := ⟨RX6, "<init>", "()V"⟩
abbrev cX6_addSign : ByteArray := prog_8_method_2_code
def yX6_addSign : MethodName := ⟨RX6, "addSign", "(C)I"⟩
abbrev cX6_makeEmpty : ByteArray := prog_8_method_3_code
def yX6_makeEmpty : MethodName := ⟨RX6, "makeEmpty", "()I"⟩
abbrev cX6_findError : ByteArray := prog_8_method_4_code
def yX6_findError : MethodName := ⟨RX6, "findError", "()I"⟩
abbrev cX6_hasMore : ByteArray := prog_8_method_5_code
def yX6_hasMore : MethodName := ⟨RX6, "hasMore", "()Z"⟩
abbrev cX6_readStart : ByteArray := prog_8_method_6_code
def yX6_readStart : MethodName := ⟨RX6, "readStart", "()Z"⟩
abbrev cX6_readCommand : ByteArray := prog_8_method_7_code
def yX6_readCommand : MethodName := ⟨RX6, "readCommand", "()Z"⟩
abbrev cX6_readKind : ByteArray := prog_8_method_8_code
def yX6_readKind : MethodName := ⟨RX6, "readKind", "()Z"⟩
abbrev cX6_readPlace : ByteArray := prog_8_method_9_code
def yX6_readPlace : MethodName := ⟨RX6, "readPlace", "()Z"⟩
abbrev cX6_readLesson : ByteArray := prog_8_method_10_code
def yX6_readLesson : MethodName := ⟨RX6, "readLesson", "()Z"⟩
abbrev cX6_readDancer : ByteArray := prog_8_method_11_code
def yX6_readDancer : MethodName := ⟨RX6, "readDancer", "()Z"⟩
abbrev cX6_readDigit : ByteArray := prog_8_method_12_code
def yX6_readDigit : MethodName := ⟨RX6, "readDigit", "(II)Z"⟩
abbrev cX6_readTwoDigits : ByteArray := prog_8_method_13_code
def yX6_readTwoDigits : MethodName := ⟨RX6, "readTwoDigits", "(II)Z"⟩
abbrev cX6_digitWithin : ByteArray := prog_8_method_14_code
def yX6_digitWithin : MethodName := ⟨RX6, "digitWithin", "(II)I"⟩
abbrev cX6_keepNumber : ByteArray := prog_8_method_15_code
def yX6_keepNumber : MethodName := ⟨RX6, "keepNumber", "(I)Z"⟩
def RX7 : String := "DanceFloors"
def TX7 : u_T := fun k => match k with
  | 0 => ("DanceFloors", "text", "LDanceFloors$Text;", true)
  | 1 => ("DanceFloors", "studio", "LDanceFloors$Studio;", true)
  | 2 => ("DanceFloors", "trial", "LDanceFloors$Studio;", true)
  | 3 => ("DanceFloors", "history", "LDanceFloors$History;", true)
  | 4 => ("DanceFloors", "slots", "[LDanceFloors$Studio;", true)
  | _ => ("DanceFloors", "slotFilled", "[Z", true)
def tyX7 : Nat → FieldType := fun k => match k with
  | 0 => .object "DanceFloors$Text"
  | 1 => .object "DanceFloors$Studio"
  | 2 => .object "DanceFloors$Studio"
  | 3 => .object "DanceFloors$History"
  | 4 => .array (.object "DanceFloors$Studio")
  | _ => .array .boolean
abbrev wsX70 : List Cond := u_ws RX7 TX7 6
theorem nmX7 : ∀ a, a < 6 → ∀ b, b < 6 → a ≠ b → (TX7 a).2.1 ≠ (TX7 b).2.1 := by decide +kernel
theorem tyX7_ok : ∀ k, k < 6 → parseFieldDescriptor (TX7 k).2.2.1 = some (tyX7 k) := by decide +kernel
abbrev cX7_init : ByteArray := prog_1_method_1_code
def yX7_init : MethodName := ⟨RX7, "<init>", "()V"⟩
abbrev cX7_append : ByteArray := prog_1_method_2_code
def yX7_append : MethodName := ⟨RX7, "append", "(I)I"⟩
abbrev cX7_clearText : ByteArray := prog_1_method_3_code
def yX7_clearText : MethodName := ⟨RX7, "clearText", "()I"⟩
abbrev cX7_errorPosition : ByteArray := prog_1_method_4_code
def yX7_errorPosition : MethodName := ⟨RX7, "errorPosition", "()I"⟩
abbrev cX7_load : ByteArray := prog_1_method_5_code
def yX7_load : MethodName := ⟨RX7, "load", "()I"⟩
abbrev cX7_about : ByteArray := prog_1_method_6_code
def yX7_about : MethodName := ⟨RX7, "about", "(I)I"⟩
abbrev cX7_floorOf : ByteArray := prog_1_method_7_code
def yX7_floorOf : MethodName := ⟨RX7, "floorOf", "(II)I"⟩
abbrev cX7_teacherOf : ByteArray := prog_1_method_8_code
def yX7_teacherOf : MethodName := ⟨RX7, "teacherOf", "(II)I"⟩
abbrev cX7_classOf : ByteArray := prog_1_method_9_code
def yX7_classOf : MethodName := ⟨RX7, "classOf", "(II)I"⟩
abbrev cX7_dancerOf : ByteArray := prog_1_method_10_code
def yX7_dancerOf : MethodName := ⟨RX7, "dancerOf", "(II)I"⟩
abbrev cX7_uses : ByteArray := prog_1_method_11_code
def yX7_uses : MethodName := ⟨RX7, "uses", "(I)I"⟩
abbrev cX7_setting : ByteArray := prog_1_method_12_code
def yX7_setting : MethodName := ⟨RX7, "setting", "(I)I"⟩
abbrev cX7_floor : ByteArray := prog_1_method_13_code
def yX7_floor : MethodName := ⟨RX7, "floor", "(IIII)I"⟩
abbrev cX7_teacher : ByteArray := prog_1_method_14_code
def yX7_teacher : MethodName := ⟨RX7, "teacher", "(II)I"⟩
abbrev cX7_set : ByteArray := prog_1_method_15_code
def yX7_set : MethodName := ⟨RX7, "set", "(IIIIII)I"⟩
abbrev cX7_drop : ByteArray := prog_1_method_16_code
def yX7_drop : MethodName := ⟨RX7, "drop", "(I)I"⟩
abbrev cX7_dancer : ByteArray := prog_1_method_17_code
def yX7_dancer : MethodName := ⟨RX7, "dancer", "()I"⟩
abbrev cX7_pass : ByteArray := prog_1_method_18_code
def yX7_pass : MethodName := ⟨RX7, "pass", "(I)I"⟩
abbrev cX7_enter : ByteArray := prog_1_method_19_code
def yX7_enter : MethodName := ⟨RX7, "enter", "(II)I"⟩
abbrev cX7_leave : ByteArray := prog_1_method_20_code
def yX7_leave : MethodName := ⟨RX7, "leave", "(II)I"⟩
abbrev cX7_weeks : ByteArray := prog_1_method_21_code
def yX7_weeks : MethodName := ⟨RX7, "weeks", "(I)I"⟩
abbrev cX7_tune : ByteArray := prog_1_method_22_code
def yX7_tune : MethodName := ⟨RX7, "tune", "(II)I"⟩
abbrev cX7_undo : ByteArray := prog_1_method_23_code
def yX7_undo : MethodName := ⟨RX7, "undo", "()I"⟩
abbrev cX7_why : ByteArray := prog_1_method_24_code
def yX7_why : MethodName := ⟨RX7, "why", "(IIIIII)I"⟩
abbrev cX7_whySeat : ByteArray := prog_1_method_25_code
def yX7_whySeat : MethodName := ⟨RX7, "whySeat", "(II)I"⟩
abbrev cX7_bestFloor : ByteArray := prog_1_method_26_code
def yX7_bestFloor : MethodName := ⟨RX7, "bestFloor", "(IIIII)I"⟩
abbrev cX7_emptyIn : ByteArray := prog_1_method_27_code
def yX7_emptyIn : MethodName := ⟨RX7, "emptyIn", "(I)I"⟩
abbrev cX7_held : ByteArray := prog_1_method_28_code
def yX7_held : MethodName := ⟨RX7, "held", "()I"⟩
abbrev cX7_runScript : ByteArray := prog_1_method_29_code
def yX7_runScript : MethodName := ⟨RX7, "runScript", "(IJ)I"⟩
abbrev cX7_simulate : ByteArray := prog_1_method_30_code
def yX7_simulate : MethodName := ⟨RX7, "simulate", "(JI)I"⟩
abbrev cX7_save : ByteArray := prog_1_method_31_code
def yX7_save : MethodName := ⟨RX7, "save", "(I)I"⟩
abbrev cX7_restore : ByteArray := prog_1_method_32_code
def yX7_restore : MethodName := ⟨RX7, "restore", "(I)I"⟩
abbrev cX7_isWithin : ByteArray := prog_1_method_33_code
def yX7_isWithin : MethodName := ⟨RX7, "isWithin", "(III)Z"⟩
abbrev cX7_requireIndex : ByteArray := prog_1_method_34_code
def yX7_requireIndex : MethodName := ⟨RX7, "requireIndex", "(Z)V"⟩
abbrev cX7_requireArgument : ByteArray := prog_1_method_35_code
def yX7_requireArgument : MethodName := ⟨RX7, "requireArgument", "(Z)V"⟩
abbrev cX7_requireState : ByteArray := prog_1_method_36_code
def yX7_requireState : MethodName := ⟨RX7, "requireState", "(Z)V"⟩
abbrev cX7_requireLessonArguments : ByteArray := prog_1_method_37_code
def yX7_requireLessonArguments : MethodName := ⟨RX7, "requireLessonArguments", "(IIII)V"⟩
abbrev cX7_doCommandsOfText : ByteArray := prog_1_method_38_code
def yX7_doCommandsOfText : MethodName := ⟨RX7, "doCommandsOfText", "()I"⟩
abbrev cX7_doCommand : ByteArray := prog_1_method_39_code
def yX7_doCommand : MethodName := ⟨RX7, "doCommand", "(C[I)Z"⟩
abbrev cX7_withoutGroups : ByteArray := prog_1_method_40_code
def yX7_withoutGroups : MethodName := ⟨RX7, "withoutGroups", "(JI)J"⟩
abbrev cX7_tryGroup : ByteArray := prog_1_method_41_code
def yX7_tryGroup : MethodName := ⟨RX7, "tryGroup", "(I)Z"⟩
abbrev cX7_tryTurn : ByteArray := prog_1_method_42_code
def yX7_tryTurn : MethodName := ⟨RX7, "tryTurn", "(I)I"⟩
abbrev cX7_tryLeaving : ByteArray := prog_1_method_43_code
def yX7_tryLeaving : MethodName := ⟨RX7, "tryLeaving", "(I)V"⟩
def RX8 : String := "DanceFloorsModel"
def TX8 : u_T := fun k => match k with
  | 0 => ("DanceFloorsModel", "thrown", "I", false)
  | 1 => ("DanceFloorsModel", "s", "[I", true)
  | 2 => ("DanceFloorsModel", "remembered", "I", false)
  | 3 => ("DanceFloorsModel", "isSaved", "[I", true)
  | 4 => ("DanceFloorsModel", "text", "[I", true)
  | 5 => ("DanceFloorsModel", "length", "I", false)
  | 6 => ("DanceFloorsModel", "at", "I", false)
  | 7 => ("DanceFloorsModel", "letter", "I", false)
  | _ => ("DanceFloorsModel", "a", "[I", true)
def tyX8 : Nat → FieldType := fun k => match k with
  | 0 => .int
  | 1 => .array .int
  | 2 => .int
  | 3 => .array .int
  | 4 => .array .int
  | 5 => .int
  | 6 => .int
  | 7 => .int
  | _ => .array .int
abbrev wsX80 : List Cond := u_ws RX8 TX8 9
theorem nmX8 : ∀ a, a < 9 → ∀ b, b < 9 → a ≠ b → (TX8 a).2.1 ≠ (TX8 b).2.1 := by decide +kernel
theorem tyX8_ok : ∀ k, k < 9 → parseFieldDescriptor (TX8 k).2.2.1 = some (tyX8 k) := by decide +kernel
abbrev cX8_init : ByteArray := prog_10_method_1_code
def yX8_init : MethodName := ⟨RX8, "<init>", "()V"⟩
abbrev cX8_thrown : ByteArray := prog_10_method_2_code
def yX8_thrown : MethodName := ⟨RX8, "thrown", "()I"⟩
abbrev cX8_in : ByteArray := prog_10_method_3_code
def yX8_in : MethodName := ⟨RX8, "in", "(III)Z"⟩
abbrev cX8_holds : ByteArray := prog_10_method_4_code
def yX8_holds : MethodName := ⟨RX8, "holds", "(I)Z"⟩
abbrev cX8_anew : ByteArray := prog_10_method_5_code
def yX8_anew : MethodName := ⟨RX8, "anew", "()V"⟩
abbrev cX8_isFloor : ByteArray := prog_10_method_6_code
def yX8_isFloor : MethodName := ⟨RX8, "isFloor", "(I)Z"⟩
abbrev cX8_isTeacher : ByteArray := prog_10_method_7_code
def yX8_isTeacher : MethodName := ⟨RX8, "isTeacher", "(I)Z"⟩
abbrev cX8_isClass : ByteArray := prog_10_method_8_code
def yX8_isClass : MethodName := ⟨RX8, "isClass", "(I)Z"⟩
abbrev cX8_isDancer : ByteArray := prog_10_method_9_code
def yX8_isDancer : MethodName := ⟨RX8, "isDancer", "(I)Z"⟩
abbrev cX8_ofClass : ByteArray := prog_10_method_10_code
def yX8_ofClass : MethodName := ⟨RX8, "ofClass", "(II)I"⟩
abbrev cX8_ofDancer : ByteArray := prog_10_method_11_code
def yX8_ofDancer : MethodName := ⟨RX8, "ofDancer", "(II)I"⟩
abbrev cX8_adds : ByteArray := prog_10_method_12_code
def yX8_adds : MethodName := ⟨RX8, "adds", "(II)V"⟩
abbrev cX8_bits : ByteArray := prog_10_method_13_code
def yX8_bits : MethodName := ⟨RX8, "bits", "(I)I"⟩
abbrev cX8_spring : ByteArray := prog_10_method_14_code
def yX8_spring : MethodName := ⟨RX8, "spring", "(I)I"⟩
abbrev cX8_mirrors : ByteArray := prog_10_method_15_code
def yX8_mirrors : MethodName := ⟨RX8, "mirrors", "(I)I"⟩
abbrev cX8_barre : ByteArray := prog_10_method_16_code
def yX8_barre : MethodName := ⟨RX8, "barre", "(I)I"⟩
abbrev cX8_takes : ByteArray := prog_10_method_17_code
def yX8_takes : MethodName := ⟨RX8, "takes", "(II)I"⟩
abbrev cX8_isSpring : ByteArray := prog_10_method_18_code
def yX8_isSpring : MethodName := ⟨RX8, "isSpring", "(III)Z"⟩
abbrev cX8_whyNo : ByteArray := prog_10_method_19_code
def yX8_whyNo : MethodName := ⟨RX8, "whyNo", "(IIIIII)I"⟩
abbrev cX8_hasSeat : ByteArray := prog_10_method_20_code
def yX8_hasSeat : MethodName := ⟨RX8, "hasSeat", "(II)Z"⟩
abbrev cX8_classTakes : ByteArray := prog_10_method_21_code
def yX8_classTakes : MethodName := ⟨RX8, "classTakes", "(I)I"⟩
abbrev cX8_whyNoSeat : ByteArray := prog_10_method_22_code
def yX8_whyNoSeat : MethodName := ⟨RX8, "whyNoSeat", "(II)I"⟩
abbrev cX8_floors : ByteArray := prog_10_method_23_code
def yX8_floors : MethodName := ⟨RX8, "floors", "(IIII)I"⟩
abbrev cX8_teachers : ByteArray := prog_10_method_24_code
def yX8_teachers : MethodName := ⟨RX8, "teachers", "(II)I"⟩
abbrev cX8_sets : ByteArray := prog_10_method_25_code
def yX8_sets : MethodName := ⟨RX8, "sets", "(IIIIII)V"⟩
abbrev cX8_drops : ByteArray := prog_10_method_26_code
def yX8_drops : MethodName := ⟨RX8, "drops", "(I)I"⟩
abbrev cX8_dancers : ByteArray := prog_10_method_27_code
def yX8_dancers : MethodName := ⟨RX8, "dancers", "()I"⟩
abbrev cX8_passes : ByteArray := prog_10_method_28_code
def yX8_passes : MethodName := ⟨RX8, "passes", "(I)I"⟩
abbrev cX8_enters : ByteArray := prog_10_method_29_code
def yX8_enters : MethodName := ⟨RX8, "enters", "(II)V"⟩
abbrev cX8_leaves : ByteArray := prog_10_method_30_code
def yX8_leaves : MethodName := ⟨RX8, "leaves", "(II)I"⟩
abbrev cX8_coming : ByteArray := prog_10_method_31_code
def yX8_coming : MethodName := ⟨RX8, "coming", "(I)I"⟩
abbrev cX8_dances : ByteArray := prog_10_method_32_code
def yX8_dances : MethodName := ⟨RX8, "dances", "(II)V"⟩
abbrev cX8_week : ByteArray := prog_10_method_33_code
def yX8_week : MethodName := ⟨RX8, "week", "()I"⟩
abbrev cX8_weeksGo : ByteArray := prog_10_method_34_code
def yX8_weeksGo : MethodName := ⟨RX8, "weeksGo", "(I)I"⟩
abbrev cX8_copies : ByteArray := prog_10_method_35_code
def yX8_copies : MethodName := ⟨RX8, "copies", "(II)V"⟩
abbrev cX8_remember : ByteArray := prog_10_method_36_code
def yX8_remember : MethodName := ⟨RX8, "remember", "()V"⟩
abbrev cX8_append : ByteArray := prog_10_method_37_code
def yX8_append : MethodName := ⟨RX8, "append", "(I)I"⟩
abbrev cX8_clearText : ByteArray := prog_10_method_38_code
def yX8_clearText : MethodName := ⟨RX8, "clearText", "()I"⟩
abbrev cX8_sign : ByteArray := prog_10_method_39_code
def yX8_sign : MethodName := ⟨RX8, "sign", "()I"⟩
abbrev cX8_takesSign : ByteArray := prog_10_method_40_code
def yX8_takesSign : MethodName := ⟨RX8, "takesSign", "(I)Z"⟩
abbrev cX8_figure : ByteArray := prog_10_method_41_code
def yX8_figure : MethodName := ⟨RX8, "figure", "(III)Z"⟩
abbrev cX8_figures : ByteArray := prog_10_method_42_code
def yX8_figures : MethodName := ⟨RX8, "figures", "(III)Z"⟩
abbrev cX8_readsClass : ByteArray := prog_10_method_43_code
def yX8_readsClass : MethodName := ⟨RX8, "readsClass", "()Z"⟩
abbrev cX8_readsCommand : ByteArray := prog_10_method_44_code
def yX8_readsCommand : MethodName := ⟨RX8, "readsCommand", "()Z"⟩
abbrev cX8_isStudio : ByteArray := prog_10_method_45_code
def yX8_isStudio : MethodName := ⟨RX8, "isStudio", "()Z"⟩
abbrev cX8_errorPosition : ByteArray := prog_10_method_46_code
def yX8_errorPosition : MethodName := ⟨RX8, "errorPosition", "()I"⟩
abbrev cX8_canSet : ByteArray := prog_10_method_47_code
def yX8_canSet : MethodName := ⟨RX8, "canSet", "()Z"⟩
abbrev cX8_areBoth : ByteArray := prog_10_method_48_code
def yX8_areBoth : MethodName := ⟨RX8, "areBoth", "()Z"⟩
abbrev cX8_canPass : ByteArray := prog_10_method_49_code
def yX8_canPass : MethodName := ⟨RX8, "canPass", "(I)Z"⟩
abbrev cX8_can : ByteArray := prog_10_method_50_code
def yX8_can : MethodName := ⟨RX8, "can", "()Z"⟩
abbrev cX8_does : ByteArray := prog_10_method_51_code
def yX8_does : MethodName := ⟨RX8, "does", "()V"⟩
abbrev cX8_load : ByteArray := prog_10_method_52_code
def yX8_load : MethodName := ⟨RX8, "load", "()I"⟩
abbrev cX8_seats : ByteArray := prog_10_method_53_code
def yX8_seats : MethodName := ⟨RX8, "seats", "()I"⟩
abbrev cX8_left : ByteArray := prog_10_method_54_code
def yX8_left : MethodName := ⟨RX8, "left", "()I"⟩
abbrev cX8_tells : ByteArray := prog_10_method_55_code
def yX8_tells : MethodName := ⟨RX8, "tells", "(I)I"⟩
abbrev cX8_about : ByteArray := prog_10_method_56_code
def yX8_about : MethodName := ⟨RX8, "about", "(I)I"⟩
abbrev cX8_classes : ByteArray := prog_10_method_57_code
def yX8_classes : MethodName := ⟨RX8, "classes", "(II)I"⟩
abbrev cX8_floorOf : ByteArray := prog_10_method_58_code
def yX8_floorOf : MethodName := ⟨RX8, "floorOf", "(II)I"⟩
abbrev cX8_daysOf : ByteArray := prog_10_method_59_code
def yX8_daysOf : MethodName := ⟨RX8, "daysOf", "(I)I"⟩
abbrev cX8_teacherOf : ByteArray := prog_10_method_60_code
def yX8_teacherOf : MethodName := ⟨RX8, "teacherOf", "(II)I"⟩
abbrev cX8_classOf : ByteArray := prog_10_method_61_code
def yX8_classOf : MethodName := ⟨RX8, "classOf", "(II)I"⟩
abbrev cX8_seatsOf : ByteArray := prog_10_method_62_code
def yX8_seatsOf : MethodName := ⟨RX8, "seatsOf", "(I)I"⟩
abbrev cX8_dancerOf : ByteArray := prog_10_method_63_code
def yX8_dancerOf : MethodName := ⟨RX8, "dancerOf", "(II)I"⟩
abbrev cX8_uses : ByteArray := prog_10_method_64_code
def yX8_uses : MethodName := ⟨RX8, "uses", "(I)I"⟩
abbrev cX8_setting : ByteArray := prog_10_method_65_code
def yX8_setting : MethodName := ⟨RX8, "setting", "(I)I"⟩
abbrev cX8_isFloorLike : ByteArray := prog_10_method_66_code
def yX8_isFloorLike : MethodName := ⟨RX8, "isFloorLike", "(IIII)Z"⟩
abbrev cX8_floor : ByteArray := prog_10_method_67_code
def yX8_floor : MethodName := ⟨RX8, "floor", "(IIII)I"⟩
abbrev cX8_teacher : ByteArray := prog_10_method_68_code
def yX8_teacher : MethodName := ⟨RX8, "teacher", "(II)I"⟩
abbrev cX8_isTime : ByteArray := prog_10_method_69_code
def yX8_isTime : MethodName := ⟨RX8, "isTime", "(IIII)Z"⟩
abbrev cX8_triesClass : ByteArray := prog_10_method_70_code
def yX8_triesClass : MethodName := ⟨RX8, "triesClass", "(IIIIII)I"⟩
abbrev cX8_triesSeat : ByteArray := prog_10_method_71_code
def yX8_triesSeat : MethodName := ⟨RX8, "triesSeat", "(II)I"⟩
abbrev cX8_set : ByteArray := prog_10_method_72_code
def yX8_set : MethodName := ⟨RX8, "set", "(IIIIII)I"⟩
abbrev cX8_drop : ByteArray := prog_10_method_73_code
def yX8_drop : MethodName := ⟨RX8, "drop", "(I)I"⟩
abbrev cX8_dancer : ByteArray := prog_10_method_74_code
def yX8_dancer : MethodName := ⟨RX8, "dancer", "()I"⟩
abbrev cX8_pass : ByteArray := prog_10_method_75_code
def yX8_pass : MethodName := ⟨RX8, "pass", "(I)I"⟩
abbrev cX8_enter : ByteArray := prog_10_method_76_code
def yX8_enter : MethodName := ⟨RX8, "enter", "(II)I"⟩
abbrev cX8_leave : ByteArray := prog_10_method_77_code
def yX8_leave : MethodName := ⟨RX8, "leave", "(II)I"⟩
abbrev cX8_weeks : ByteArray := prog_10_method_78_code
def yX8_weeks : MethodName := ⟨RX8, "weeks", "(I)I"⟩
abbrev cX8_tune : ByteArray := prog_10_method_79_code
def yX8_tune : MethodName := ⟨RX8, "tune", "(II)I"⟩
abbrev cX8_undo : ByteArray := prog_10_method_80_code
def yX8_undo : MethodName := ⟨RX8, "undo", "()I"⟩
abbrev cX8_why : ByteArray := prog_10_method_81_code
def yX8_why : MethodName := ⟨RX8, "why", "(IIIIII)I"⟩
abbrev cX8_whySeat : ByteArray := prog_10_method_82_code
def yX8_whySeat : MethodName := ⟨RX8, "whySeat", "(II)I"⟩
abbrev cX8_bestFloor : ByteArray := prog_10_method_83_code
def yX8_bestFloor : MethodName := ⟨RX8, "bestFloor", "(IIIII)I"⟩
abbrev cX8_emptyIn : ByteArray := prog_10_method_84_code
def yX8_emptyIn : MethodName := ⟨RX8, "emptyIn", "(I)I"⟩
abbrev cX8_held : ByteArray := prog_10_method_85_code
def yX8_held : MethodName := ⟨RX8, "held", "()I"⟩
abbrev cX8_isCommand : ByteArray := prog_10_method_86_code
def yX8_isCommand : MethodName := ⟨RX8, "isCommand", "(I)Z"⟩
abbrev cX8_size : ByteArray := prog_10_method_87_code
def yX8_size : MethodName := ⟨RX8, "size", "(I)J"⟩
abbrev cX8_runScript : ByteArray := prog_10_method_88_code
def yX8_runScript : MethodName := ⟨RX8, "runScript", "(IJ)I"⟩
abbrev cX8_turns : ByteArray := prog_10_method_89_code
def yX8_turns : MethodName := ⟨RX8, "turns", "(II)V"⟩
abbrev cX8_dancersTurn : ByteArray := prog_10_method_90_code
def yX8_dancersTurn : MethodName := ⟨RX8, "dancersTurn", "(II)V"⟩
abbrev cX8_simulate : ByteArray := prog_10_method_91_code
def yX8_simulate : MethodName := ⟨RX8, "simulate", "(JI)I"⟩
abbrev cX8_save : ByteArray := prog_10_method_92_code
def yX8_save : MethodName := ⟨RX8, "save", "(I)I"⟩
abbrev cX8_restore : ByteArray := prog_10_method_93_code
def yX8_restore : MethodName := ⟨RX8, "restore", "(I)I"⟩
def RJ6 : String := "java/lang/Integer"
def TJ6 : u_T := fun k => match k with
  | _ => ("", "", "", false)
def tyJ6 : Nat → FieldType := fun k => match k with
  | _ => .int
abbrev wsJ60 : List Cond := u_ws RJ6 TJ6 0
theorem nmJ6 : ∀ a, a < 0 → ∀ b, b < 0 → a ≠ b → (TJ6 a).2.1 ≠ (TJ6 b).2.1 := by decide +kernel
theorem tyJ6_ok : ∀ k, k < 0 → parseFieldDescriptor (TJ6 k).2.2.1 = some (tyJ6 k) := by decide +kernel
abbrev cJ6_bitCount_0f7a4 : ByteArray := prog_15_method_49_code
def yJ6_bitCount_0f7a4 : MethodName := ⟨RJ6, "bitCount", "(I)I"⟩
def RJ9 : String := "java/lang/Math"
def TJ9 : u_T := fun k => match k with
  | _ => ("", "", "", false)
def tyJ9 : Nat → FieldType := fun k => match k with
  | _ => .int
abbrev wsJ90 : List Cond := u_ws RJ9 TJ9 0
theorem nmJ9 : ∀ a, a < 0 → ∀ b, b < 0 → a ≠ b → (TJ9 a).2.1 ≠ (TJ9 b).2.1 := by decide +kernel
theorem tyJ9_ok : ∀ k, k < 0 → parseFieldDescriptor (TJ9 k).2.2.1 = some (tyJ9 k) := by decide +kernel
abbrev cJ9_max_7cf53 : ByteArray := prog_16_method_65_code
def yJ9_max_7cf53 : MethodName := ⟨RJ9, "max", "(II)I"⟩
abbrev cJ9_min_7cf53 : ByteArray := prog_16_method_69_code
def yJ9_min_7cf53 : MethodName := ⟨RJ9, "min", "(II)I"⟩
def RJ0 : String := "java/lang/String"
def TJ0 : u_T := fun k => match k with
  | _ => ("", "", "", false)
def tyJ0 : Nat → FieldType := fun k => match k with
  | _ => .int
abbrev wsJ00 : List Cond := u_ws RJ0 TJ0 0
theorem nmJ0 : ∀ a, a < 0 → ∀ b, b < 0 → a ≠ b → (TJ0 a).2.1 ≠ (TJ0 b).2.1 := by decide +kernel
theorem tyJ0_ok : ∀ k, k < 0 → parseFieldDescriptor (TJ0 k).2.2.1 = some (tyJ0 k) := by decide +kernel
def RL : String := "DanceFloorsLaw"
abbrev cL_append : ByteArray := method_3_code
def yL_append : MethodName := ⟨RL, "append", "(LDanceFloors;I[J)I"⟩
abbrev cL_load : ByteArray := method_4_code
def yL_load : MethodName := ⟨RL, "load", "(LDanceFloors;[J)I"⟩
abbrev cL_about : ByteArray := method_5_code
def yL_about : MethodName := ⟨RL, "about", "(LDanceFloors;I[J)I"⟩
abbrev cL_floorOf : ByteArray := method_6_code
def yL_floorOf : MethodName := ⟨RL, "floorOf", "(LDanceFloors;II[J)I"⟩
abbrev cL_teacherOf : ByteArray := method_7_code
def yL_teacherOf : MethodName := ⟨RL, "teacherOf", "(LDanceFloors;II[J)I"⟩
abbrev cL_classOf : ByteArray := method_8_code
def yL_classOf : MethodName := ⟨RL, "classOf", "(LDanceFloors;II[J)I"⟩
abbrev cL_dancerOf : ByteArray := method_9_code
def yL_dancerOf : MethodName := ⟨RL, "dancerOf", "(LDanceFloors;II[J)I"⟩
abbrev cL_uses : ByteArray := method_10_code
def yL_uses : MethodName := ⟨RL, "uses", "(LDanceFloors;I[J)I"⟩
abbrev cL_setting : ByteArray := method_11_code
def yL_setting : MethodName := ⟨RL, "setting", "(LDanceFloors;I[J)I"⟩
abbrev cL_floor : ByteArray := method_12_code
def yL_floor : MethodName := ⟨RL, "floor", "(LDanceFloors;IIII[J)I"⟩
abbrev cL_teacher : ByteArray := method_13_code
def yL_teacher : MethodName := ⟨RL, "teacher", "(LDanceFloors;II[J)I"⟩
abbrev cL_set : ByteArray := method_14_code
def yL_set : MethodName := ⟨RL, "set", "(LDanceFloors;IIIIII[J)I"⟩
abbrev cL_drop : ByteArray := method_15_code
def yL_drop : MethodName := ⟨RL, "drop", "(LDanceFloors;I[J)I"⟩
abbrev cL_dancer : ByteArray := method_16_code
def yL_dancer : MethodName := ⟨RL, "dancer", "(LDanceFloors;[J)I"⟩
abbrev cL_pass : ByteArray := method_17_code
def yL_pass : MethodName := ⟨RL, "pass", "(LDanceFloors;I[J)I"⟩
abbrev cL_enter : ByteArray := method_18_code
def yL_enter : MethodName := ⟨RL, "enter", "(LDanceFloors;II[J)I"⟩
abbrev cL_leave : ByteArray := method_19_code
def yL_leave : MethodName := ⟨RL, "leave", "(LDanceFloors;II[J)I"⟩
abbrev cL_weeks : ByteArray := method_20_code
def yL_weeks : MethodName := ⟨RL, "weeks", "(LDanceFloors;I[J)I"⟩
abbrev cL_tune : ByteArray := method_21_code
def yL_tune : MethodName := ⟨RL, "tune", "(LDanceFloors;II[J)I"⟩
abbrev cL_undo : ByteArray := method_22_code
def yL_undo : MethodName := ⟨RL, "undo", "(LDanceFloors;[J)I"⟩
abbrev cL_why : ByteArray := method_23_code
def yL_why : MethodName := ⟨RL, "why", "(LDanceFloors;IIIIII[J)I"⟩
abbrev cL_whySeat : ByteArray := method_24_code
def yL_whySeat : MethodName := ⟨RL, "whySeat", "(LDanceFloors;II[J)I"⟩
abbrev cL_bestFloor : ByteArray := method_25_code
def yL_bestFloor : MethodName := ⟨RL, "bestFloor", "(LDanceFloors;IIIII[J)I"⟩
abbrev cL_emptyIn : ByteArray := method_26_code
def yL_emptyIn : MethodName := ⟨RL, "emptyIn", "(LDanceFloors;I[J)I"⟩
abbrev cL_runScript : ByteArray := method_27_code
def yL_runScript : MethodName := ⟨RL, "runScript", "(LDanceFloors;IJ[J)I"⟩
abbrev cL_simulate : ByteArray := method_28_code
def yL_simulate : MethodName := ⟨RL, "simulate", "(LDanceFloors;JI[J)I"⟩
abbrev cL_save : ByteArray := method_29_code
def yL_save : MethodName := ⟨RL, "save", "(LDanceFloors;I[J)I"⟩
abbrev cL_restore : ByteArray := method_30_code
def yL_restore : MethodName := ⟨RL, "restore", "(LDanceFloors;I[J)I"⟩
abbrev cL_law : ByteArray := code
def yL_law : MethodName := ⟨RL, "law", "([I)Z"⟩
abbrev vwCl : List vw_C := [(RX0, TX0, 4), (RX1, TX1, 4), (RX2, TX2, 3), (RX3, TX3, 9), (RX4, TX4, 14), (RX5, TX5, 2), (RX6, TX6, 6), (RX7, TX7, 6), (RX8, TX8, 9)]
end
section
/-! ===== THE FRAME: a clean machine over numbered cells; G is the kit's W under it ===== -/
abbrev Sh : Type := Nat × Nat × List Nat
abbrev Mem : Type := Nat → Nat → Int32
abbrev Kp : Type := Nat × (Nat → Option Sh) × Bool
abbrev Rs : Type := Option Value ⊕ Nat
abbrev Xs : Type := Nat × (Nat → Int32)
abbrev Lo : Type := List (Nat × Option Value)
abbrev MI : Type := MethodName × ByteArray × Nat × Option FieldType × Option (List (Nat × Nat × Nat × Nat)) × Room
abbrev rmOf (y : MI) : Room := y.2.2.2.2.2
theorem nle {a b : Nat} (h : Nat.ble a b = true) : a ≤ b := Nat.le_of_ble_eq_true h
def tblG : List Cond := lw_tbl.filter goodWord
def cwOf (y : MI) : Cond := match y.2.2.2.2.1 with
  | none => .code y.1 y.2.1 y.2.2.1 y.2.2.2.1
  | some hh => .codeWith y.1 y.2.1 y.2.2.1 y.2.2.2.1 hh
def wsOf (y : MI) : List Cond := cwOf y :: tblG
theorem tblG_in {w : Cond} {i : Nat} (h : lw_tbl[i]? = some w) (hg : goodWord w = true) : w ∈ tblG := List.mem_filter.mpr ⟨List.mem_of_getElem? h, hg⟩
theorem tblG_good {w : Cond} (h : w ∈ tblG) : (w.onTables && w.keeps) = true ∨ ∃ ty, w = .arrayClass ty := good_of_word (List.mem_filter.mp h).2
theorem good_wsOf {y z : MI} (h : cwOf z ∈ tblG) : GoodIn (wsOf y) (wsOf z) := by
  intro w hw
  have hw' : w ∈ tblG := by
    rcases List.mem_cons.mp hw with e | e
    · rw [e]; exact h
    · exact e
  exact ⟨List.mem_cons_of_mem _ hw', tblG_good hw'⟩
/-- addresses: 0 is the script, k + 1 the k-th cell from Z on -/
def ad (b Z : Nat) (r : Nat) : Nat := match r with
  | 0 => b
  | k + 1 => Z + k
def tv (b Z : Nat) (v : Value) : Value := match v with
  | .ref r => .ref (ad b Z r)
  | v => v
theorem tv_cat (b Z : Nat) (v : Value) : (tv b Z v).category = v.category := by cases v <;> rfl
def fv (b Z : Nat) (M : Mem) (o : Nat) (cs : List Nat) (k : Nat) : Value := match cs.getD k 0 with
  | 0 => .int (M o k)
  | 1 => .null
  | c + 2 => .ref (ad b Z c)
def clN (c : Nat) : String := match vwCl[c]? with
  | some q => q.1
  | none => ""
def aty (t : Nat) : FieldType := if t = 16 then .int else if t = 17 then .char else if t = 18 then .boolean else if t = 19 then .long else .object (clN (t - 20))
def aev (b Z : Nat) (M : Mem) (o t : Nat) (cs : List Nat) (j : Nat) : Value := if t < 19 then .int (M o j) else if t = 19 then .long (M o j).toInt64 else fv b Z M o cs j
def cellOK (b Z : Nat) (D : va_G) (M : Mem) (U : State) (H : Heap) (r : Nat) (sh : Sh) : Prop :=
  if sh.1 < 16 then ∃ q : vw_C, vwCl[sh.1]? = some q ∧ q.2.2 = sh.2.1 ∧ sh.2.2.length = sh.2.1 ∧ t_OB (ad b Z r) (D.1 sh.1) q.2.2 (D.2 sh.1) H (fv b Z M r sh.2.2)
  else ∃ cA : ClassId, H[ad b Z r]? = some (arrV cA sh.2.1 (aev b Z M r sh.1 sh.2.2)) ∧ ArrOfT U cA (aty sh.1) ∧ va_RA U cA (aty sh.1)
/-- words that are no good words: they go with the state -/
def nestW : List (String × Nat × MethodName × String) := [(RX4, 17, yX1_init, RX7), (RX4, 24, yX5_init, RX7), (RX4, 31, yX3_init, RX7), (RX4, 38, yX0_init, RX7), (RX6, 78, yX7_isWithin, RX7)]
def overW : List String := [RX0, RX1, RX3, RX4, RX5]
def ncW : List (String × String) := [("java/lang/IllegalStateException", "java/lang/IllegalArgumentException"), ("java/lang/IllegalArgumentException", "java/lang/IndexOutOfBoundsException"), ("java/lang/IllegalStateException", "java/lang/IndexOutOfBoundsException")]
def strW : List (String × Nat × String) := [(RX7, 114, "what is out of range"), (RX7, 328, "there is no such thing"), (RX7, 331, "an argument is out of range"), (RX7, 335, "this cannot be done now")]
def castW : List String := ["java/lang/IllegalArgumentException", "java/lang/IllegalStateException", "java/lang/IndexOutOfBoundsException"]
def declW : List MethodName := [⟨"java/lang/RuntimeException", "<init>", "(Ljava/lang/String;)V"⟩, ⟨"java/lang/Exception", "<init>", "(Ljava/lang/String;)V"⟩, ⟨"java/lang/Throwable", "<init>", "(Ljava/lang/String;)V"⟩]
def NW (U : State) : Prop := (∀ q ∈ nestW, va_Nw (.methodLinkNest q.1 q.2.1 q.2.2.1 q.2.2.2) U) ∧ (∀ q ∈ overW, va_AO q U) ∧ (∀ q ∈ ncW, va_Nc q.1 q.2 U) ∧ (∀ q ∈ strW, ∃ a : Nat, vk_R q.1 q.2.1 q.2.2 a U) ∧ (∀ q ∈ castW, va_Nw (.castable q q) U) ∧ (∀ q ∈ declW, va_Nw (.declares q) U)
def Wd (X : Xs) (b Z : Nat) (D : va_G) (U : State) : Prop :=
  va_K D vwCl [] U ∧ va_X b X.1 X.2 U U.heap ∧ b < Z ∧ Z ≤ U.heap.size ∧ vx_Zq Bundle.tN "UNASSIGNED_STACK" Bundle.steD (fun q => Z ≤ q) U U.heap ∧ vx_Zq Bundle.tN "SUPPRESSED_SENTINEL" Bundle.listD (fun q => Z ≤ q) U U.heap ∧ NW U
def Rel (b Z : Nat) (D : va_G) (κ : Kp) (M : Mem) (U : State) (H : Heap) : Prop :=
  (∀ (r : Nat) (sh : Sh), κ.2.1 r = some sh → (1 ≤ r ∧ r ≤ κ.1) ∧ cellOK b Z D M U H r sh) ∧ Z + κ.1 ≤ H.size ∧ (κ.2.2 = true → Z + κ.1 = H.size)
/-- locals: the newest row counts -/
def lg : Lo → Nat → Option Value
  | [], _ => none
  | q :: t, i => bif Nat.beq q.1 i then q.2 else lg t i
def lk (lo : Lo) (i : Nat) : Lo := match lg lo (i - 1) with
  | some w => bif Nat.beq w.category 2 then (i - 1, none) :: lo else lo
  | none => lo
def ls1 (lo : Lo) (i : Nat) (v : Value) : Lo := (i, some v) :: lk lo i
def ls2 (lo : Lo) (i : Nat) (v : Value) : Lo := (i, some v) :: (i + 1, none) :: lk lo i
def LoOk (b Z : Nat) (ls : Array Slot) (n : Nat) (lo : Lo) : Prop := ls.size = n ∧ lv_wf ls ∧ ∀ (i : Nat) (v : Value), lg lo i = some v → ls[i]? = some (.val (tv b Z v))
def subLo (lo : Lo) : Lo → Prop
  | [] => True
  | q :: t => lg lo q.1 = q.2 ∧ q.2 ≠ none ∧ subLo lo t
theorem lg_cons (q : Nat × Option Value) (t : Lo) (i : Nat) : lg (q :: t) i = if q.1 = i then q.2 else lg t i := by
  show (bif Nat.beq q.1 i then q.2 else lg t i) = _
  by_cases h : q.1 = i
  · have : Nat.beq q.1 i = true := Nat.beq_eq.mpr h
    rw [this, if_pos h]; rfl
  · have : Nat.beq q.1 i = false := by
      cases hb : Nat.beq q.1 i
      · rfl
      · exact absurd (Nat.beq_eq.mp hb) h
    rw [this, if_neg h]; rfl
theorem subLo_lg {lo : Lo} : ∀ {lo' : Lo}, subLo lo lo' → ∀ (i : Nat) (v : Value), lg lo' i = some v → lg lo i = some v
  | [], _, i, v, h => by cases h
  | q :: t, hs, i, v, h => by
    rw [lg_cons] at h
    by_cases hq : q.1 = i
    · rw [if_pos hq] at h
      rw [← hq, hs.1, h]
    · rw [if_neg hq] at h
      exact subLo_lg hs.2.2 i v h
theorem LoOk.sub {b Z : Nat} {ls : Array Slot} {n : Nat} {lo lo' : Lo} (h : LoOk b Z ls n lo) (hs : subLo lo lo') : LoOk b Z ls n lo' := ⟨h.1, h.2.1, fun i v hv => h.2.2 i v (subLo_lg hs i v hv)⟩
theorem lk_lg {lo : Lo} {i j : Nat} {v : Value} (h : lg (lk lo i) j = some v) : lg lo j = some v ∧ (j + 1 = i → v.category ≠ 2) := by
  unfold lk at h
  cases hg : lg lo (i - 1) with
  | none =>
    rw [hg] at h
    refine ⟨h, fun hj => ?_⟩
    have : j = i - 1 := by omega
    rw [this, hg] at h; cases h
  | some w =>
    rw [hg] at h
    dsimp only at h
    cases hc : Nat.beq w.category 2 with
    | true =>
      rw [hc] at h
      have h : lg ((i - 1, none) :: lo) j = some v := h
      rw [lg_cons] at h
      by_cases hj : i - 1 = j
      · rw [if_pos hj] at h; cases h
      · rw [if_neg hj] at h
        exact ⟨h, fun h2 => absurd (by omega) hj⟩
    | false =>
      rw [hc] at h
      have h : lg lo j = some v := h
      refine ⟨h, fun hj h2 => ?_⟩
      have : j = i - 1 := by omega
      rw [this, hg] at h
      cases h
      rw [h2] at hc
      cases hc
def lall (b Z n : Nat) (lo : Lo) : List (Nat × Value) := (List.range n).filterMap fun j => (lg lo j).map fun w => (j, tv b Z w)
theorem lall_mem {b Z n : Nat} {ls : Array Slot} {lo : Lo} (h : LoOk b Z ls n lo) {j : Nat} {v : Value} (hg : lg lo j = some v) : (j, tv b Z v) ∈ lall b Z n lo := by
  have hj : j < n := by rw [← h.1]; exact lv_lt (h.2.2 j v hg)
  exact List.mem_filterMap.mpr ⟨j, List.mem_range.mpr hj, by rw [hg]; rfl⟩
theorem lall_has {b Z n : Nat} {ls : Array Slot} {lo : Lo} (h : LoOk b Z ls n lo) : lv_has ls n (lall b Z n lo) := by
  refine ⟨h.1, h.2.1, fun q hq => ?_⟩
  obtain ⟨j, -, hj⟩ := List.mem_filterMap.mp hq
  cases hg : lg lo j with
  | none => rw [hg] at hj; cases hj
  | some v =>
    rw [hg] at hj
    cases hj
    exact h.2.2 j v hg
theorem LoOk.klo {b Z n : Nat} {ls : Array Slot} {lo : Lo} (h : LoOk b Z ls n lo) (i : Nat) : LoOk b Z ls n (lk lo i) := ⟨h.1, h.2.1, fun j v hv => h.2.2 j v (lk_lg hv).1⟩
theorem LoOk.st1 {b Z n i : Nat} {ls ls' : Array Slot} {lo : Lo} {x : Value} (h : LoOk b Z ls n lo) (h' : lv_has ls' n ((i, tv b Z x) :: (lall b Z n (lk lo i)).filter (fun q => !(q.1 == i) && !(q.1 + 1 == i && q.2.category == 2)))) : LoOk b Z ls' n (ls1 lo i x) := by
  refine ⟨h'.1, h'.2.1, fun j v hv => ?_⟩
  have hv : lg ((i, some x) :: lk lo i) j = some v := hv
  rw [lg_cons] at hv
  by_cases hj : i = j
  · rw [if_pos hj] at hv
    cases hv
    subst hj
    exact h'.2.2 (i, tv b Z x) List.mem_cons_self
  · rw [if_neg hj] at hv
    have hm := lall_mem (h.klo i) hv
    refine h'.2.2 (j, tv b Z v) (List.mem_cons_of_mem _ (List.mem_filter.mpr ⟨hm, ?_⟩))
    have h2 := (lk_lg hv).2
    simp only [tv_cat, Bool.and_eq_true, Bool.not_eq_true', beq_eq_false_iff_ne, ne_eq, Bool.and_eq_false_iff]
    refine ⟨Ne.symm hj, ?_⟩
    by_cases hi : j + 1 = i
    · exact Or.inr (h2 hi)
    · exact Or.inl hi
theorem LoOk.st2 {b Z n i : Nat} {ls ls' : Array Slot} {lo : Lo} {x : Value} (h : LoOk b Z ls n lo) (h' : lv_has ls' n ((i, tv b Z x) :: (lall b Z n (lk lo i)).filter (fun q => !(q.1 == i) && (!(q.1 == i + 1) && !(q.1 + 1 == i && q.2.category == 2))))) : LoOk b Z ls' n (ls2 lo i x) := by
  refine ⟨h'.1, h'.2.1, fun j v hv => ?_⟩
  have hv : lg ((i, some x) :: (i + 1, none) :: lk lo i) j = some v := hv
  rw [lg_cons] at hv
  by_cases hj : i = j
  · rw [if_pos hj] at hv
    cases hv
    subst hj
    exact h'.2.2 (i, tv b Z x) List.mem_cons_self
  · rw [if_neg hj, lg_cons] at hv
    by_cases hj1 : i + 1 = j
    · rw [if_pos hj1] at hv; cases hv
    · rw [if_neg hj1] at hv
      have hm := lall_mem (h.klo i) hv
      refine h'.2.2 (j, tv b Z v) (List.mem_cons_of_mem _ (List.mem_filter.mpr ⟨hm, ?_⟩))
      have h2 := (lk_lg hv).2
      simp only [tv_cat, Bool.and_eq_true, Bool.not_eq_true', beq_eq_false_iff_ne, ne_eq, Bool.and_eq_false_iff]
      refine ⟨Ne.symm hj, Ne.symm hj1, ?_⟩
      by_cases hi : j + 1 = i
      · exact Or.inr (h2 hi)
      · exact Or.inl hi
/-- the code from pc on -/
def CdAt (cc : ByteArray) : Nat → List (Instr × Nat) → Prop
  | _, [] => True
  | pc, q :: t => decode cc pc = .ok q ∧ CdAt cc (pc + q.2) t
def atB (cc : ByteArray) : Nat → List (Instr × Nat) → Bool
  | _, [] => true
  | pc, q :: t => decide (decode cc pc = .ok q) && atB cc (pc + q.2) t
theorem at_of {cc : ByteArray} : ∀ {l : List (Instr × Nat)} {pc : Nat}, atB cc pc l = true → CdAt cc pc l
  | [], _, _ => trivial
  | q :: t, pc, h => by
    have h : (decide (decode cc pc = .ok q) && atB cc (pc + q.2) t) = true := h
    rw [Bool.and_eq_true] at h
    exact ⟨of_decide_eq_true h.1, at_of h.2⟩
/-- what a method owes and gets -/
def zPc (X : Xs) (b Z : Nat) (D : va_G) (as : List Value) (κ : Kp) (M : Mem) : Array Value → State → Prop := fun v U => v = (as.map (tv b Z)).toArray ∧ Wd X b Z D U ∧ Rel b Z D κ M U U.heap
def zQc (b Z : Nat) (D : va_G) (Q : Rs → Kp → Mem → Prop) : Array Value → State → Outcome → State → Prop := fun _ st oc t => (∃ (r : Option Value) (κ : Kp) (M : Mem), oc = .returned (r.map (tv b Z)) ∧ Q (.inl r) κ M ∧ Rel b Z D κ M t t.heap) ∧ va_F (fun q => Z ≤ q) st t
def exN (e : Nat) : String := match e with
  | 0 => "java/lang/IllegalArgumentException"
  | 1 => "java/lang/IllegalStateException"
  | _ => "java/lang/IndexOutOfBoundsException"
def zXC (b Z : Nat) (D : va_G) (Q : Rs → Kp → Mem → Prop) : String → State → State → Prop := fun E st t => (∃ (e : Nat) (κ : Kp) (M : Mem), E = exN e ∧ Q (.inr e) κ M ∧ Rel b Z D κ M t t.heap) ∧ va_F (fun q => Z ≤ q) st t
def Ct (X : Xs) (y : MI) (as : List Value) (κ : Kp) (M : Mem) (Q : Rs → Kp → Mem → Prop) : Prop := ∀ l : Launch, l.stackTraces = false → ∀ (b Z : Nat) (D : va_G), vx_Met l y.1 (wsOf y) (rmOf y) (zPc X b Z D as κ M) (zQc b Z D Q) (zXC b Z D Q) (rmOf y).cells (rmOf y).slots (fun q => Z ≤ q)
def Cx (X : Xs) (y : MI) (l : Launch) (p : Program) (s : State) (m : MethodId) (args : Array Value) (meth : Method) (c : Code) (b Z : Nat) (D : va_G) : Prop :=
  l.stackTraces = false ∧ p.tables.exec = Jvm.exec ∧ c.code = y.2.1 ∧ c.maxLocals = y.2.2.1 ∧ meth.sig.returnType = y.2.2.2.1 ∧ meth.locks = false ∧ meth.name = y.1.name ∧
  c.exceptionTable.toList = tableOf (y.2.2.2.2.1.getD []) ∧ s.vm.findClass y.1.cls = some m.cls ∧ (∀ w ∈ wsOf y, w.before args s = true) ∧ Wd X b Z D s
def G (X : Xs) (y : MI) (is : List (Instr × Nat)) (pc : Nat) (lo : Lo) (st : List Value) (n k : Nat) (κ : Kp) (M : Mem) (Q : Rs → Kp → Mem → Prop) : Prop :=
  CdAt y.2.1 pc is → ∀ (l : Launch) (p : Program) (e : Env) (s : State) (m : MethodId) (args : Array Value) (below : List Frame) (meth : Method) (c : Code) (b Z : Nat) (D : va_G) (H : Heap) (locs : List Loc) (ls : Array Slot),
    Cx X y l p s m args meth c b Z D → Rel b Z D κ M s H → va_S (fun q => Z ≤ q) s.heap H locs → LoOk b Z ls y.2.2.1 lo →
    W p l e (rmOf y) s m args below meth c H locs n k (vx_MQ below (zQc b Z D Q) (zXC b Z D Q) args s (rmOf y).cells (rmOf y).slots (fun q => Z ≤ q)) (F0 m pc ls (st.map (tv b Z)))
theorem Cx.own {X : Xs} {y : MI} {l : Launch} {p : Program} {s : State} {m : MethodId} {args : Array Value} {meth : Method} {c : Code} {b Z : Nat} {D : va_G} (h : Cx X y l p s m args meth c b Z D) : s.vm.findClass y.1.cls = some m.cls := h.2.2.2.2.2.2.2.2.1
theorem Cx.words {X : Xs} {y : MI} {l : Launch} {p : Program} {s : State} {m : MethodId} {args : Array Value} {meth : Method} {c : Code} {b Z : Nat} {D : va_G} (h : Cx X y l p s m args meth c b Z D) : ∀ w ∈ wsOf y, w.before args s = true := h.2.2.2.2.2.2.2.2.2.1
theorem Cx.word {X : Xs} {y : MI} {l : Launch} {p : Program} {s : State} {m : MethodId} {args : Array Value} {meth : Method} {c : Code} {b Z : Nat} {D : va_G} (h : Cx X y l p s m args meth c b Z D) {w : Cond} (hw : w ∈ tblG) : w.before args s = true := h.words w (List.mem_cons_of_mem _ hw)
theorem Cx.wd {X : Xs} {y : MI} {l : Launch} {p : Program} {s : State} {m : MethodId} {args : Array Value} {meth : Method} {c : Code} {b Z : Nat} {D : va_G} (h : Cx X y l p s m args meth c b Z D) : Wd X b Z D s := h.2.2.2.2.2.2.2.2.2.2
theorem lv_has_cons {ls : Array Slot} {n : Nat} {l : List (Nat × Value)} {i : Nat} {v : Value} (h : lv_has ls n l) (hv : ls[i]? = some (.val v)) : lv_has ls n ((i, v) :: l) := ⟨h.1, h.2.1, fun q hq => by
  rcases List.mem_cons.mp hq with e | e
  · rw [e]; exact hv
  · exact h.2.2 q e⟩
section ROWS
theorem g_iconst {X : Xs} {y : MI} {is : List (Instr × Nat)} {pc : Nat} {lo : Lo} {st : List Value} {nc ks : Nat} {κ : Kp} {M : Mem} {Q : Rs → Kp → Mem → Prop} {i : Int} {v : Int32} (hv : Int32.ofInt i = v) (kk : G X y is (pc + 1) lo (.int v :: st) nc ks κ M Q) : G X y (((.iconst i), 1) :: is) pc lo st nc ks κ M Q := by
  intro hA l p e s m args below meth c b Z D H locs ls hC hR hS hL
  have hx := hC.2.1
  have hb := hC.2.2.1
  exact lv_iconst hx hb hA.1 hv (kk hA.2 l p e s m args below meth c b Z D H locs ls hC hR hS hL)
theorem g_bipush {X : Xs} {y : MI} {is : List (Instr × Nat)} {pc : Nat} {lo : Lo} {st : List Value} {nc ks : Nat} {κ : Kp} {M : Mem} {Q : Rs → Kp → Mem → Prop} {i : Int} {v : Int32} (hv : (Int8.ofInt i).toInt32 = v) (kk : G X y is (pc + 2) lo (.int v :: st) nc ks κ M Q) : G X y (((.bipush i), 2) :: is) pc lo st nc ks κ M Q := by
  intro hA l p e s m args below meth c b Z D H locs ls hC hR hS hL
  have hx := hC.2.1
  have hb := hC.2.2.1
  exact lv_bipush hx hb hA.1 hv (kk hA.2 l p e s m args below meth c b Z D H locs ls hC hR hS hL)
theorem g_sipush {X : Xs} {y : MI} {is : List (Instr × Nat)} {pc : Nat} {lo : Lo} {st : List Value} {nc ks : Nat} {κ : Kp} {M : Mem} {Q : Rs → Kp → Mem → Prop} {i : Int} {v : Int32} (hv : (Int16.ofInt i).toInt32 = v) (kk : G X y is (pc + 3) lo (.int v :: st) nc ks κ M Q) : G X y (((.sipush i), 3) :: is) pc lo st nc ks κ M Q := by
  intro hA l p e s m args below meth c b Z D H locs ls hC hR hS hL
  have hx := hC.2.1
  have hb := hC.2.2.1
  exact lv_sipush hx hb hA.1 hv (kk hA.2 l p e s m args below meth c b Z D H locs ls hC hR hS hL)
theorem g_lconst {X : Xs} {y : MI} {is : List (Instr × Nat)} {pc : Nat} {lo : Lo} {st : List Value} {nc ks : Nat} {κ : Kp} {M : Mem} {Q : Rs → Kp → Mem → Prop} {i : Fin 2} {v : Int64} (hv : Int64.ofNat (i : Nat) = v) (kk : G X y is (pc + 1) lo (.long v :: st) nc ks κ M Q) : G X y (((.lconst i), 1) :: is) pc lo st nc ks κ M Q := by
  intro hA l p e s m args below meth c b Z D H locs ls hC hR hS hL
  have hx := hC.2.1
  have hb := hC.2.2.1
  exact lv_lconst hx hb hA.1 hv (kk hA.2 l p e s m args below meth c b Z D H locs ls hC hR hS hL)
theorem g_iload_n {X : Xs} {y : MI} {is : List (Instr × Nat)} {pc : Nat} {lo : Lo} {st : List Value} {nc ks : Nat} {κ : Kp} {M : Mem} {Q : Rs → Kp → Mem → Prop} {j : Fin 4} {x : Int32} (h : lg lo (j : Nat) = some (.int x)) (kk : G X y is (pc + 1) lo (.int x :: st) nc ks κ M Q) : G X y (((.iload_n j), 1) :: is) pc lo st nc ks κ M Q := by
  intro hA l p e s m args below meth c b Z D H locs ls hC hR hS hL
  have hx := hC.2.1
  have hb := hC.2.2.1
  exact lv_iload_n hx hb hA.1 rfl (hL.2.2 _ _ h) (kk hA.2 l p e s m args below meth c b Z D H locs ls hC hR hS hL)
theorem g_iload {X : Xs} {y : MI} {is : List (Instr × Nat)} {pc : Nat} {lo : Lo} {st : List Value} {nc ks : Nat} {κ : Kp} {M : Mem} {Q : Rs → Kp → Mem → Prop} {i : Nat} {x : Int32} (h : lg lo i = some (.int x)) (kk : G X y is (pc + 2) lo (.int x :: st) nc ks κ M Q) : G X y (((.iload i), 2) :: is) pc lo st nc ks κ M Q := by
  intro hA l p e s m args below meth c b Z D H locs ls hC hR hS hL
  have hx := hC.2.1
  have hb := hC.2.2.1
  exact lv_iload hx hb hA.1 (hL.2.2 _ _ h) (kk hA.2 l p e s m args below meth c b Z D H locs ls hC hR hS hL)
theorem g_lload_n {X : Xs} {y : MI} {is : List (Instr × Nat)} {pc : Nat} {lo : Lo} {st : List Value} {nc ks : Nat} {κ : Kp} {M : Mem} {Q : Rs → Kp → Mem → Prop} {j : Fin 4} {x : Int64} (h : lg lo (j : Nat) = some (.long x)) (kk : G X y is (pc + 1) lo (.long x :: st) nc ks κ M Q) : G X y (((.lload_n j), 1) :: is) pc lo st nc ks κ M Q := by
  intro hA l p e s m args below meth c b Z D H locs ls hC hR hS hL
  have hx := hC.2.1
  have hb := hC.2.2.1
  exact lv_lload_n hx hb hA.1 rfl (hL.2.2 _ _ h) (kk hA.2 l p e s m args below meth c b Z D H locs ls hC hR hS hL)
theorem g_lload {X : Xs} {y : MI} {is : List (Instr × Nat)} {pc : Nat} {lo : Lo} {st : List Value} {nc ks : Nat} {κ : Kp} {M : Mem} {Q : Rs → Kp → Mem → Prop} {i : Nat} {x : Int64} (h : lg lo i = some (.long x)) (kk : G X y is (pc + 2) lo (.long x :: st) nc ks κ M Q) : G X y (((.lload i), 2) :: is) pc lo st nc ks κ M Q := by
  intro hA l p e s m args below meth c b Z D H locs ls hC hR hS hL
  have hx := hC.2.1
  have hb := hC.2.2.1
  exact lv_lload hx hb hA.1 (hL.2.2 _ _ h) (kk hA.2 l p e s m args below meth c b Z D H locs ls hC hR hS hL)
theorem g_aload_n {X : Xs} {y : MI} {is : List (Instr × Nat)} {pc : Nat} {lo : Lo} {st : List Value} {nc ks : Nat} {κ : Kp} {M : Mem} {Q : Rs → Kp → Mem → Prop} {j : Fin 4} {x : Nat} (h : lg lo (j : Nat) = some (.ref x)) (kk : G X y is (pc + 1) lo (.ref x :: st) nc ks κ M Q) : G X y (((.aload_n j), 1) :: is) pc lo st nc ks κ M Q := by
  intro hA l p e s m args below meth c b Z D H locs ls hC hR hS hL
  have hx := hC.2.1
  have hb := hC.2.2.1
  exact lv_aload_n hx hb hA.1 rfl (hL.2.2 _ _ h) (kk hA.2 l p e s m args below meth c b Z D H locs ls hC hR hS hL)
theorem g_aload {X : Xs} {y : MI} {is : List (Instr × Nat)} {pc : Nat} {lo : Lo} {st : List Value} {nc ks : Nat} {κ : Kp} {M : Mem} {Q : Rs → Kp → Mem → Prop} {i : Nat} {x : Nat} (h : lg lo i = some (.ref x)) (kk : G X y is (pc + 2) lo (.ref x :: st) nc ks κ M Q) : G X y (((.aload i), 2) :: is) pc lo st nc ks κ M Q := by
  intro hA l p e s m args below meth c b Z D H locs ls hC hR hS hL
  have hx := hC.2.1
  have hb := hC.2.2.1
  exact lv_aload hx hb hA.1 (hL.2.2 _ _ h) (kk hA.2 l p e s m args below meth c b Z D H locs ls hC hR hS hL)
theorem g_istore {X : Xs} {y : MI} {is : List (Instr × Nat)} {pc : Nat} {lo : Lo} {st : List Value} {nc ks : Nat} {κ : Kp} {M : Mem} {Q : Rs → Kp → Mem → Prop} {i : Nat} {x : Int32} (hi : i < y.2.2.1) (kk : G X y is (pc + 2) (ls1 lo i (.int x)) st nc ks κ M Q) : G X y (((.istore i), 2) :: is) pc lo (.int x :: st) nc ks κ M Q := by
  intro hA l p e s m args below meth c b Z D H locs ls hC hR hS hL
  have hx := hC.2.1
  have hb := hC.2.2.1
  exact lv_istore hx hb hA.1 (lall_has (hL.klo i)) hi rfl fun ls' h' => kk hA.2 l p e s m args below meth c b Z D H locs ls' hC hR hS (hL.st1 (x := .int x) h')
theorem g_istore_n {X : Xs} {y : MI} {is : List (Instr × Nat)} {pc : Nat} {lo : Lo} {st : List Value} {nc ks : Nat} {κ : Kp} {M : Mem} {Q : Rs → Kp → Mem → Prop} {j : Fin 4} {x : Int32} (hi : (j : Nat) < y.2.2.1) (kk : G X y is (pc + 1) (ls1 lo (j : Nat) (.int x)) st nc ks κ M Q) : G X y (((.istore_n j), 1) :: is) pc lo (.int x :: st) nc ks κ M Q := by
  intro hA l p e s m args below meth c b Z D H locs ls hC hR hS hL
  have hx := hC.2.1
  have hb := hC.2.2.1
  exact lv_istore_n hx hb hA.1 rfl (lall_has (hL.klo (j : Nat))) hi rfl fun ls' h' => kk hA.2 l p e s m args below meth c b Z D H locs ls' hC hR hS (hL.st1 (x := .int x) h')
theorem g_lstore {X : Xs} {y : MI} {is : List (Instr × Nat)} {pc : Nat} {lo : Lo} {st : List Value} {nc ks : Nat} {κ : Kp} {M : Mem} {Q : Rs → Kp → Mem → Prop} {i : Nat} {x : Int64} (hi : i + 1 < y.2.2.1) (kk : G X y is (pc + 2) (ls2 lo i (.long x)) st nc ks κ M Q) : G X y (((.lstore i), 2) :: is) pc lo (.long x :: st) nc ks κ M Q := by
  intro hA l p e s m args below meth c b Z D H locs ls hC hR hS hL
  have hx := hC.2.1
  have hb := hC.2.2.1
  exact lv_lstore hx hb hA.1 (lall_has (hL.klo i)) hi rfl fun ls' h' => kk hA.2 l p e s m args below meth c b Z D H locs ls' hC hR hS (hL.st2 (x := .long x) h')
theorem g_lstore_n {X : Xs} {y : MI} {is : List (Instr × Nat)} {pc : Nat} {lo : Lo} {st : List Value} {nc ks : Nat} {κ : Kp} {M : Mem} {Q : Rs → Kp → Mem → Prop} {j : Fin 4} {x : Int64} (hi : (j : Nat) + 1 < y.2.2.1) (kk : G X y is (pc + 1) (ls2 lo (j : Nat) (.long x)) st nc ks κ M Q) : G X y (((.lstore_n j), 1) :: is) pc lo (.long x :: st) nc ks κ M Q := by
  intro hA l p e s m args below meth c b Z D H locs ls hC hR hS hL
  have hx := hC.2.1
  have hb := hC.2.2.1
  exact lv_lstore_n hx hb hA.1 rfl (lall_has (hL.klo (j : Nat))) hi rfl fun ls' h' => kk hA.2 l p e s m args below meth c b Z D H locs ls' hC hR hS (hL.st2 (x := .long x) h')
theorem g_astore {X : Xs} {y : MI} {is : List (Instr × Nat)} {pc : Nat} {lo : Lo} {st : List Value} {nc ks : Nat} {κ : Kp} {M : Mem} {Q : Rs → Kp → Mem → Prop} {i : Nat} {x : Nat} (hi : i < y.2.2.1) (kk : G X y is (pc + 2) (ls1 lo i (.ref x)) st nc ks κ M Q) : G X y (((.astore i), 2) :: is) pc lo (.ref x :: st) nc ks κ M Q := by
  intro hA l p e s m args below meth c b Z D H locs ls hC hR hS hL
  have hx := hC.2.1
  have hb := hC.2.2.1
  exact lv_astore hx hb hA.1 (lall_has (hL.klo i)) hi rfl fun ls' h' => kk hA.2 l p e s m args below meth c b Z D H locs ls' hC hR hS (hL.st1 (x := .ref x) h')
theorem g_astore_n {X : Xs} {y : MI} {is : List (Instr × Nat)} {pc : Nat} {lo : Lo} {st : List Value} {nc ks : Nat} {κ : Kp} {M : Mem} {Q : Rs → Kp → Mem → Prop} {j : Fin 4} {x : Nat} (hi : (j : Nat) < y.2.2.1) (kk : G X y is (pc + 1) (ls1 lo (j : Nat) (.ref x)) st nc ks κ M Q) : G X y (((.astore_n j), 1) :: is) pc lo (.ref x :: st) nc ks κ M Q := by
  intro hA l p e s m args below meth c b Z D H locs ls hC hR hS hL
  have hx := hC.2.1
  have hb := hC.2.2.1
  exact lv_astore_n hx hb hA.1 rfl (lall_has (hL.klo (j : Nat))) hi rfl fun ls' h' => kk hA.2 l p e s m args below meth c b Z D H locs ls' hC hR hS (hL.st1 (x := .ref x) h')
theorem g_iinc {X : Xs} {y : MI} {is : List (Instr × Nat)} {pc : Nat} {lo : Lo} {st : List Value} {nc ks : Nat} {κ : Kp} {M : Mem} {Q : Rs → Kp → Mem → Prop} {i : Nat} {d : Int} {x v : Int32} (h : lg lo i = some (.int x)) (hv : x + Int32.ofInt d = v) (hi : i < y.2.2.1) (kk : G X y is (pc + 3) (ls1 lo i (.int v)) st nc ks κ M Q) : G X y (((.iinc i d), 3) :: is) pc lo st nc ks κ M Q := by
  intro hA l p e s m args below meth c b Z D H locs ls hC hR hS hL
  have hx := hC.2.1
  have hb := hC.2.2.1
  have hj : ls[i]? = some (.val (.int x)) := hL.2.2 i (.int x) h
  have hm := lv_has_cons (lall_has (hL.klo i)) hj
  refine lv_iinc hx hb hA.1 hm (k := 0) rfl hv hi rfl fun ls' h' => kk hA.2 l p e s m args below meth c b Z D H locs ls' hC hR hS (hL.st1 (x := .int v) ?_)
  simpa [tv] using h'
theorem g_iadd {X : Xs} {y : MI} {is : List (Instr × Nat)} {pc : Nat} {lo : Lo} {st : List Value} {nc ks : Nat} {κ : Kp} {M : Mem} {Q : Rs → Kp → Mem → Prop} {x z : Int32} (kk : G X y is (pc + 1) lo (.int (x + z) :: st) nc ks κ M Q) : G X y (((.iadd), 1) :: is) pc lo (.int z :: .int x :: st) nc ks κ M Q := by
  intro hA l p e s m args below meth c b Z D H locs ls hC hR hS hL
  have hx := hC.2.1
  have hb := hC.2.2.1
  exact lv_iadd hx hb hA.1 (kk hA.2 l p e s m args below meth c b Z D H locs ls hC hR hS hL)
theorem g_isub {X : Xs} {y : MI} {is : List (Instr × Nat)} {pc : Nat} {lo : Lo} {st : List Value} {nc ks : Nat} {κ : Kp} {M : Mem} {Q : Rs → Kp → Mem → Prop} {x z : Int32} (kk : G X y is (pc + 1) lo (.int (x - z) :: st) nc ks κ M Q) : G X y (((.isub), 1) :: is) pc lo (.int z :: .int x :: st) nc ks κ M Q := by
  intro hA l p e s m args below meth c b Z D H locs ls hC hR hS hL
  have hx := hC.2.1
  have hb := hC.2.2.1
  exact lv_isub hx hb hA.1 (kk hA.2 l p e s m args below meth c b Z D H locs ls hC hR hS hL)
theorem g_imul {X : Xs} {y : MI} {is : List (Instr × Nat)} {pc : Nat} {lo : Lo} {st : List Value} {nc ks : Nat} {κ : Kp} {M : Mem} {Q : Rs → Kp → Mem → Prop} {x z : Int32} (kk : G X y is (pc + 1) lo (.int (x * z) :: st) nc ks κ M Q) : G X y (((.imul), 1) :: is) pc lo (.int z :: .int x :: st) nc ks κ M Q := by
  intro hA l p e s m args below meth c b Z D H locs ls hC hR hS hL
  have hx := hC.2.1
  have hb := hC.2.2.1
  exact lv_imul hx hb hA.1 (kk hA.2 l p e s m args below meth c b Z D H locs ls hC hR hS hL)
theorem g_iand {X : Xs} {y : MI} {is : List (Instr × Nat)} {pc : Nat} {lo : Lo} {st : List Value} {nc ks : Nat} {κ : Kp} {M : Mem} {Q : Rs → Kp → Mem → Prop} {x z : Int32} (kk : G X y is (pc + 1) lo (.int (x &&& z) :: st) nc ks κ M Q) : G X y (((.iand), 1) :: is) pc lo (.int z :: .int x :: st) nc ks κ M Q := by
  intro hA l p e s m args below meth c b Z D H locs ls hC hR hS hL
  have hx := hC.2.1
  have hb := hC.2.2.1
  exact lv_iand hx hb hA.1 (kk hA.2 l p e s m args below meth c b Z D H locs ls hC hR hS hL)
theorem g_ior {X : Xs} {y : MI} {is : List (Instr × Nat)} {pc : Nat} {lo : Lo} {st : List Value} {nc ks : Nat} {κ : Kp} {M : Mem} {Q : Rs → Kp → Mem → Prop} {x z : Int32} (kk : G X y is (pc + 1) lo (.int (x ||| z) :: st) nc ks κ M Q) : G X y (((.ior), 1) :: is) pc lo (.int z :: .int x :: st) nc ks κ M Q := by
  intro hA l p e s m args below meth c b Z D H locs ls hC hR hS hL
  have hx := hC.2.1
  have hb := hC.2.2.1
  exact lv_ior hx hb hA.1 (kk hA.2 l p e s m args below meth c b Z D H locs ls hC hR hS hL)
theorem g_ixor {X : Xs} {y : MI} {is : List (Instr × Nat)} {pc : Nat} {lo : Lo} {st : List Value} {nc ks : Nat} {κ : Kp} {M : Mem} {Q : Rs → Kp → Mem → Prop} {x z : Int32} (kk : G X y is (pc + 1) lo (.int (x ^^^ z) :: st) nc ks κ M Q) : G X y (((.ixor), 1) :: is) pc lo (.int z :: .int x :: st) nc ks κ M Q := by
  intro hA l p e s m args below meth c b Z D H locs ls hC hR hS hL
  have hx := hC.2.1
  have hb := hC.2.2.1
  exact lv_ixor hx hb hA.1 (kk hA.2 l p e s m args below meth c b Z D H locs ls hC hR hS hL)
theorem g_ladd {X : Xs} {y : MI} {is : List (Instr × Nat)} {pc : Nat} {lo : Lo} {st : List Value} {nc ks : Nat} {κ : Kp} {M : Mem} {Q : Rs → Kp → Mem → Prop} {x z : Int64} (kk : G X y is (pc + 1) lo (.long (x + z) :: st) nc ks κ M Q) : G X y (((.ladd), 1) :: is) pc lo (.long z :: .long x :: st) nc ks κ M Q := by
  intro hA l p e s m args below meth c b Z D H locs ls hC hR hS hL
  have hx := hC.2.1
  have hb := hC.2.2.1
  exact lv_ladd hx hb hA.1 (kk hA.2 l p e s m args below meth c b Z D H locs ls hC hR hS hL)
theorem g_lmul {X : Xs} {y : MI} {is : List (Instr × Nat)} {pc : Nat} {lo : Lo} {st : List Value} {nc ks : Nat} {κ : Kp} {M : Mem} {Q : Rs → Kp → Mem → Prop} {x z : Int64} (kk : G X y is (pc + 1) lo (.long (x * z) :: st) nc ks κ M Q) : G X y (((.lmul), 1) :: is) pc lo (.long z :: .long x :: st) nc ks κ M Q := by
  intro hA l p e s m args below meth c b Z D H locs ls hC hR hS hL
  have hx := hC.2.1
  have hb := hC.2.2.1
  exact lv_lmul hx hb hA.1 (kk hA.2 l p e s m args below meth c b Z D H locs ls hC hR hS hL)
theorem g_land {X : Xs} {y : MI} {is : List (Instr × Nat)} {pc : Nat} {lo : Lo} {st : List Value} {nc ks : Nat} {κ : Kp} {M : Mem} {Q : Rs → Kp → Mem → Prop} {x z : Int64} (kk : G X y is (pc + 1) lo (.long (x &&& z) :: st) nc ks κ M Q) : G X y (((.land), 1) :: is) pc lo (.long z :: .long x :: st) nc ks κ M Q := by
  intro hA l p e s m args below meth c b Z D H locs ls hC hR hS hL
  have hx := hC.2.1
  have hb := hC.2.2.1
  exact lv_land hx hb hA.1 (kk hA.2 l p e s m args below meth c b Z D H locs ls hC hR hS hL)
theorem g_lor {X : Xs} {y : MI} {is : List (Instr × Nat)} {pc : Nat} {lo : Lo} {st : List Value} {nc ks : Nat} {κ : Kp} {M : Mem} {Q : Rs → Kp → Mem → Prop} {x z : Int64} (kk : G X y is (pc + 1) lo (.long (x ||| z) :: st) nc ks κ M Q) : G X y (((.lor), 1) :: is) pc lo (.long z :: .long x :: st) nc ks κ M Q := by
  intro hA l p e s m args below meth c b Z D H locs ls hC hR hS hL
  have hx := hC.2.1
  have hb := hC.2.2.1
  exact lv_lor hx hb hA.1 (kk hA.2 l p e s m args below meth c b Z D H locs ls hC hR hS hL)
theorem g_idiv {X : Xs} {y : MI} {is : List (Instr × Nat)} {pc : Nat} {lo : Lo} {st : List Value} {nc ks : Nat} {κ : Kp} {M : Mem} {Q : Rs → Kp → Mem → Prop} {x z : Int32} (hz : ¬ z = 0) (kk : G X y is (pc + 1) lo (.int (x / z) :: st) nc ks κ M Q) : G X y (((.idiv), 1) :: is) pc lo (.int z :: .int x :: st) nc ks κ M Q := by
  intro hA l p e s m args below meth c b Z D H locs ls hC hR hS hL
  have hx := hC.2.1
  have hb := hC.2.2.1
  exact lv_idiv hx hb hA.1 hz (kk hA.2 l p e s m args below meth c b Z D H locs ls hC hR hS hL)
theorem g_irem {X : Xs} {y : MI} {is : List (Instr × Nat)} {pc : Nat} {lo : Lo} {st : List Value} {nc ks : Nat} {κ : Kp} {M : Mem} {Q : Rs → Kp → Mem → Prop} {x z : Int32} (hz : ¬ z = 0) (kk : G X y is (pc + 1) lo (.int (x - x / z * z) :: st) nc ks κ M Q) : G X y (((.irem), 1) :: is) pc lo (.int z :: .int x :: st) nc ks κ M Q := by
  intro hA l p e s m args below meth c b Z D H locs ls hC hR hS hL
  have hx := hC.2.1
  have hb := hC.2.2.1
  exact lv_irem hx hb hA.1 hz (kk hA.2 l p e s m args below meth c b Z D H locs ls hC hR hS hL)
theorem g_ldiv {X : Xs} {y : MI} {is : List (Instr × Nat)} {pc : Nat} {lo : Lo} {st : List Value} {nc ks : Nat} {κ : Kp} {M : Mem} {Q : Rs → Kp → Mem → Prop} {x z : Int64} (hz : ¬ z = 0) (kk : G X y is (pc + 1) lo (.long (x / z) :: st) nc ks κ M Q) : G X y (((.ldiv), 1) :: is) pc lo (.long z :: .long x :: st) nc ks κ M Q := by
  intro hA l p e s m args below meth c b Z D H locs ls hC hR hS hL
  have hx := hC.2.1
  have hb := hC.2.2.1
  exact lv_ldiv hx hb hA.1 hz (kk hA.2 l p e s m args below meth c b Z D H locs ls hC hR hS hL)
theorem g_lrem {X : Xs} {y : MI} {is : List (Instr × Nat)} {pc : Nat} {lo : Lo} {st : List Value} {nc ks : Nat} {κ : Kp} {M : Mem} {Q : Rs → Kp → Mem → Prop} {x z : Int64} (hz : ¬ z = 0) (kk : G X y is (pc + 1) lo (.long (x - x / z * z) :: st) nc ks κ M Q) : G X y (((.lrem), 1) :: is) pc lo (.long z :: .long x :: st) nc ks κ M Q := by
  intro hA l p e s m args below meth c b Z D H locs ls hC hR hS hL
  have hx := hC.2.1
  have hb := hC.2.2.1
  exact lv_lrem hx hb hA.1 hz (kk hA.2 l p e s m args below meth c b Z D H locs ls hC hR hS hL)
theorem g_ineg {X : Xs} {y : MI} {is : List (Instr × Nat)} {pc : Nat} {lo : Lo} {st : List Value} {nc ks : Nat} {κ : Kp} {M : Mem} {Q : Rs → Kp → Mem → Prop} {x : Int32} (kk : G X y is (pc + 1) lo (.int (-x) :: st) nc ks κ M Q) : G X y (((.ineg), 1) :: is) pc lo (.int x :: st) nc ks κ M Q := by
  intro hA l p e s m args below meth c b Z D H locs ls hC hR hS hL
  have hx := hC.2.1
  have hb := hC.2.2.1
  exact lv_ineg hx hb hA.1 (kk hA.2 l p e s m args below meth c b Z D H locs ls hC hR hS hL)
theorem g_ishl {X : Xs} {y : MI} {is : List (Instr × Nat)} {pc : Nat} {lo : Lo} {st : List Value} {nc ks : Nat} {κ : Kp} {M : Mem} {Q : Rs → Kp → Mem → Prop} {x z : Int32} (kk : G X y is (pc + 1) lo (.int (x <<< (z &&& 31)) :: st) nc ks κ M Q) : G X y (((.ishl), 1) :: is) pc lo (.int z :: .int x :: st) nc ks κ M Q := by
  intro hA l p e s m args below meth c b Z D H locs ls hC hR hS hL
  have hx := hC.2.1
  have hb := hC.2.2.1
  exact lv_ishl hx hb hA.1 (kk hA.2 l p e s m args below meth c b Z D H locs ls hC hR hS hL)
theorem g_ishr {X : Xs} {y : MI} {is : List (Instr × Nat)} {pc : Nat} {lo : Lo} {st : List Value} {nc ks : Nat} {κ : Kp} {M : Mem} {Q : Rs → Kp → Mem → Prop} {x z : Int32} (kk : G X y is (pc + 1) lo (.int (x >>> (z &&& 31)) :: st) nc ks κ M Q) : G X y (((.ishr), 1) :: is) pc lo (.int z :: .int x :: st) nc ks κ M Q := by
  intro hA l p e s m args below meth c b Z D H locs ls hC hR hS hL
  have hx := hC.2.1
  have hb := hC.2.2.1
  exact lv_ishr hx hb hA.1 (kk hA.2 l p e s m args below meth c b Z D H locs ls hC hR hS hL)
theorem g_iushr {X : Xs} {y : MI} {is : List (Instr × Nat)} {pc : Nat} {lo : Lo} {st : List Value} {nc ks : Nat} {κ : Kp} {M : Mem} {Q : Rs → Kp → Mem → Prop} {x z : Int32} (kk : G X y is (pc + 1) lo (.int ((x.toUInt32 >>> (z.toUInt32 &&& Int32.toUInt32 31)).toInt32) :: st) nc ks κ M Q) : G X y (((.iushr), 1) :: is) pc lo (.int z :: .int x :: st) nc ks κ M Q := by
  intro hA l p e s m args below meth c b Z D H locs ls hC hR hS hL
  have hx := hC.2.1
  have hb := hC.2.2.1
  exact lv_iushr hx hb hA.1 rfl (kk hA.2 l p e s m args below meth c b Z D H locs ls hC hR hS hL)
theorem g_lushr {X : Xs} {y : MI} {is : List (Instr × Nat)} {pc : Nat} {lo : Lo} {st : List Value} {nc ks : Nat} {κ : Kp} {M : Mem} {Q : Rs → Kp → Mem → Prop} {x : Int64} {z : Int32} (kk : G X y is (pc + 1) lo (.long ((x.toUInt64 >>> (z.toInt64.toUInt64 &&& Int64.toUInt64 63)).toInt64) :: st) nc ks κ M Q) : G X y (((.lushr), 1) :: is) pc lo (.int z :: .long x :: st) nc ks κ M Q := by
  intro hA l p e s m args below meth c b Z D H locs ls hC hR hS hL
  have hx := hC.2.1
  have hb := hC.2.2.1
  exact lv_lushr hx hb hA.1 rfl (kk hA.2 l p e s m args below meth c b Z D H locs ls hC hR hS hL)
theorem g_lshl {X : Xs} {y : MI} {is : List (Instr × Nat)} {pc : Nat} {lo : Lo} {st : List Value} {nc ks : Nat} {κ : Kp} {M : Mem} {Q : Rs → Kp → Mem → Prop} {x : Int64} {z : Int32} (kk : G X y is (pc + 1) lo (.long (x <<< (z.toInt64 &&& 63)) :: st) nc ks κ M Q) : G X y (((.lshl), 1) :: is) pc lo (.int z :: .long x :: st) nc ks κ M Q := by
  intro hA l p e s m args below meth c b Z D H locs ls hC hR hS hL
  have hx := hC.2.1
  have hb := hC.2.2.1
  exact lv_lshl hx hb hA.1 rfl (kk hA.2 l p e s m args below meth c b Z D H locs ls hC hR hS hL)
theorem g_i2l {X : Xs} {y : MI} {is : List (Instr × Nat)} {pc : Nat} {lo : Lo} {st : List Value} {nc ks : Nat} {κ : Kp} {M : Mem} {Q : Rs → Kp → Mem → Prop} {x : Int32} (kk : G X y is (pc + 1) lo (.long x.toInt64 :: st) nc ks κ M Q) : G X y (((.i2l), 1) :: is) pc lo (.int x :: st) nc ks κ M Q := by
  intro hA l p e s m args below meth c b Z D H locs ls hC hR hS hL
  have hx := hC.2.1
  have hb := hC.2.2.1
  exact lv_i2l hx hb hA.1 rfl (kk hA.2 l p e s m args below meth c b Z D H locs ls hC hR hS hL)
theorem g_l2i {X : Xs} {y : MI} {is : List (Instr × Nat)} {pc : Nat} {lo : Lo} {st : List Value} {nc ks : Nat} {κ : Kp} {M : Mem} {Q : Rs → Kp → Mem → Prop} {x : Int64} (kk : G X y is (pc + 1) lo (.int x.toInt32 :: st) nc ks κ M Q) : G X y (((.l2i), 1) :: is) pc lo (.long x :: st) nc ks κ M Q := by
  intro hA l p e s m args below meth c b Z D H locs ls hC hR hS hL
  have hx := hC.2.1
  have hb := hC.2.2.1
  exact lv_l2i hx hb hA.1 rfl (kk hA.2 l p e s m args below meth c b Z D H locs ls hC hR hS hL)
theorem g_i2c {X : Xs} {y : MI} {is : List (Instr × Nat)} {pc : Nat} {lo : Lo} {st : List Value} {nc ks : Nat} {κ : Kp} {M : Mem} {Q : Rs → Kp → Mem → Prop} {x : Int32} (kk : G X y is (pc + 1) lo (.int (x.toUInt32 % 65536).toInt32 :: st) nc ks κ M Q) : G X y (((.i2c), 1) :: is) pc lo (.int x :: st) nc ks κ M Q := by
  intro hA l p e s m args below meth c b Z D H locs ls hC hR hS hL
  have hx := hC.2.1
  have hb := hC.2.2.1
  exact lv_i2c hx hb hA.1 rfl (kk hA.2 l p e s m args below meth c b Z D H locs ls hC hR hS hL)
theorem g_lcmp {X : Xs} {y : MI} {is : List (Instr × Nat)} {pc : Nat} {lo : Lo} {st : List Value} {nc ks : Nat} {κ : Kp} {M : Mem} {Q : Rs → Kp → Mem → Prop} {x z : Int64} (kk : G X y is (pc + 1) lo (.int (lg_cmp x z) :: st) nc ks κ M Q) : G X y (((.lcmp), 1) :: is) pc lo (.long z :: .long x :: st) nc ks κ M Q := by
  intro hA l p e s m args below meth c b Z D H locs ls hC hR hS hL
  have hx := hC.2.1
  have hb := hC.2.2.1
  exact W.lcmp hx hb hA.1 (kk hA.2 l p e s m args below meth c b Z D H locs ls hC hR hS hL)
theorem g_dup {X : Xs} {y : MI} {is : List (Instr × Nat)} {pc : Nat} {lo : Lo} {st : List Value} {nc ks : Nat} {κ : Kp} {M : Mem} {Q : Rs → Kp → Mem → Prop} {v : Value} (hv : v.category = 1) (kk : G X y is (pc + 1) lo (v :: v :: st) nc ks κ M Q) : G X y (((.dup), 1) :: is) pc lo (v :: st) nc ks κ M Q := by
  intro hA l p e s m args below meth c b Z D H locs ls hC hR hS hL
  have hx := hC.2.1
  have hb := hC.2.2.1
  exact lv_dup hx hb hA.1 ((tv_cat _ _ v).trans hv) (kk hA.2 l p e s m args below meth c b Z D H locs ls hC hR hS hL)
theorem g_pop {X : Xs} {y : MI} {is : List (Instr × Nat)} {pc : Nat} {lo : Lo} {st : List Value} {nc ks : Nat} {κ : Kp} {M : Mem} {Q : Rs → Kp → Mem → Prop} {v : Value} (hv : v.category = 1) (kk : G X y is (pc + 1) lo st nc ks κ M Q) : G X y (((.pop), 1) :: is) pc lo (v :: st) nc ks κ M Q := by
  intro hA l p e s m args below meth c b Z D H locs ls hC hR hS hL
  have hx := hC.2.1
  have hb := hC.2.2.1
  exact lv_pop hx hb hA.1 ((tv_cat _ _ v).trans hv) (kk hA.2 l p e s m args below meth c b Z D H locs ls hC hR hS hL)
theorem g_dup2 {X : Xs} {y : MI} {is : List (Instr × Nat)} {pc : Nat} {lo : Lo} {st : List Value} {nc ks : Nat} {κ : Kp} {M : Mem} {Q : Rs → Kp → Mem → Prop} {v w : Value} (hv : v.category = 1) (hw : w.category = 1) (kk : G X y is (pc + 1) lo (v :: w :: v :: w :: st) nc ks κ M Q) : G X y (((.dup2), 1) :: is) pc lo (v :: w :: st) nc ks κ M Q := by
  intro hA l p e s m args below meth c b Z D H locs ls hC hR hS hL
  have hx := hC.2.1
  have hb := hC.2.2.1
  exact lv_dup2_11 hx hb hA.1 ((tv_cat _ _ v).trans hv) ((tv_cat _ _ w).trans hw) (kk hA.2 l p e s m args below meth c b Z D H locs ls hC hR hS hL)
theorem g_goto {X : Xs} {y : MI} {is : List (Instr × Nat)} {pc : Nat} {lo : Lo} {st : List Value} {nc ks : Nat} {κ : Kp} {M : Mem} {Q : Rs → Kp → Mem → Prop} {off : Int} {tgt : Nat} {is' : List (Instr × Nat)} (ht : (pc : Int) + off = (tgt : Int)) (hA' : CdAt y.2.1 tgt is') (kk : G X y is' tgt lo st nc ks κ M Q) : G X y (((.goto off), 3) :: is) pc lo st nc ks κ M Q := by
  intro hA l p e s m args below meth c b Z D H locs ls hC hR hS hL
  exact lv_goto hC.2.1 hC.2.2.1 hA.1 ht (kk hA' l p e s m args below meth c b Z D H locs ls hC hR hS hL)
theorem g_if_eq {X : Xs} {y : MI} {is : List (Instr × Nat)} {pc : Nat} {lo : Lo} {st : List Value} {nc ks : Nat} {κ : Kp} {M : Mem} {Q : Rs → Kp → Mem → Prop} {x : Int32} {off : Int} {tgt : Nat} {is' : List (Instr × Nat)} (ht : (pc : Int) + off = (tgt : Int)) (hA' : CdAt y.2.1 tgt is') (kt : x = 0 → G X y is' tgt lo st nc ks κ M Q) (kf : ¬ (x = 0) → G X y is (pc + 3) lo st nc ks κ M Q) : G X y (((.ifCond .eq off), 3) :: is) pc lo (.int x :: st) nc ks κ M Q := by
  intro hA l p e s m args below meth c b Z D H locs ls hC hR hS hL
  exact lv_if_eq hC.2.1 hC.2.2.1 hA.1 ht (fun h => kt h hA' l p e s m args below meth c b Z D H locs ls hC hR hS hL) (fun h => kf h hA.2 l p e s m args below meth c b Z D H locs ls hC hR hS hL)
theorem g_icmp_eq {X : Xs} {y : MI} {is : List (Instr × Nat)} {pc : Nat} {lo : Lo} {st : List Value} {nc ks : Nat} {κ : Kp} {M : Mem} {Q : Rs → Kp → Mem → Prop} {x z : Int32} {off : Int} {tgt : Nat} {is' : List (Instr × Nat)} (ht : (pc : Int) + off = (tgt : Int)) (hA' : CdAt y.2.1 tgt is') (kt : x = z → G X y is' tgt lo st nc ks κ M Q) (kf : ¬ (x = z) → G X y is (pc + 3) lo st nc ks κ M Q) : G X y (((.if_icmp .eq off), 3) :: is) pc lo (.int z :: .int x :: st) nc ks κ M Q := by
  intro hA l p e s m args below meth c b Z D H locs ls hC hR hS hL
  exact lv_icmp_eq hC.2.1 hC.2.2.1 hA.1 ht (fun h => kt h hA' l p e s m args below meth c b Z D H locs ls hC hR hS hL) (fun h => kf h hA.2 l p e s m args below meth c b Z D H locs ls hC hR hS hL)
theorem g_if_ne {X : Xs} {y : MI} {is : List (Instr × Nat)} {pc : Nat} {lo : Lo} {st : List Value} {nc ks : Nat} {κ : Kp} {M : Mem} {Q : Rs → Kp → Mem → Prop} {x : Int32} {off : Int} {tgt : Nat} {is' : List (Instr × Nat)} (ht : (pc : Int) + off = (tgt : Int)) (hA' : CdAt y.2.1 tgt is') (kt : ¬ x = 0 → G X y is' tgt lo st nc ks κ M Q) (kf : x = 0 → G X y is (pc + 3) lo st nc ks κ M Q) : G X y (((.ifCond .ne off), 3) :: is) pc lo (.int x :: st) nc ks κ M Q := by
  intro hA l p e s m args below meth c b Z D H locs ls hC hR hS hL
  exact lv_if_ne hC.2.1 hC.2.2.1 hA.1 ht (fun h => kt h hA' l p e s m args below meth c b Z D H locs ls hC hR hS hL) (fun h => kf h hA.2 l p e s m args below meth c b Z D H locs ls hC hR hS hL)
theorem g_icmp_ne {X : Xs} {y : MI} {is : List (Instr × Nat)} {pc : Nat} {lo : Lo} {st : List Value} {nc ks : Nat} {κ : Kp} {M : Mem} {Q : Rs → Kp → Mem → Prop} {x z : Int32} {off : Int} {tgt : Nat} {is' : List (Instr × Nat)} (ht : (pc : Int) + off = (tgt : Int)) (hA' : CdAt y.2.1 tgt is') (kt : ¬ x = z → G X y is' tgt lo st nc ks κ M Q) (kf : x = z → G X y is (pc + 3) lo st nc ks κ M Q) : G X y (((.if_icmp .ne off), 3) :: is) pc lo (.int z :: .int x :: st) nc ks κ M Q := by
  intro hA l p e s m args below meth c b Z D H locs ls hC hR hS hL
  exact lv_icmp_ne hC.2.1 hC.2.2.1 hA.1 ht (fun h => kt h hA' l p e s m args below meth c b Z D H locs ls hC hR hS hL) (fun h => kf h hA.2 l p e s m args below meth c b Z D H locs ls hC hR hS hL)
theorem g_if_lt {X : Xs} {y : MI} {is : List (Instr × Nat)} {pc : Nat} {lo : Lo} {st : List Value} {nc ks : Nat} {κ : Kp} {M : Mem} {Q : Rs → Kp → Mem → Prop} {x : Int32} {off : Int} {tgt : Nat} {is' : List (Instr × Nat)} (ht : (pc : Int) + off = (tgt : Int)) (hA' : CdAt y.2.1 tgt is') (kt : x < 0 → G X y is' tgt lo st nc ks κ M Q) (kf : ¬ (x < 0) → G X y is (pc + 3) lo st nc ks κ M Q) : G X y (((.ifCond .lt off), 3) :: is) pc lo (.int x :: st) nc ks κ M Q := by
  intro hA l p e s m args below meth c b Z D H locs ls hC hR hS hL
  exact lv_if_lt hC.2.1 hC.2.2.1 hA.1 ht (fun h => kt h hA' l p e s m args below meth c b Z D H locs ls hC hR hS hL) (fun h => kf h hA.2 l p e s m args below meth c b Z D H locs ls hC hR hS hL)
theorem g_icmp_lt {X : Xs} {y : MI} {is : List (Instr × Nat)} {pc : Nat} {lo : Lo} {st : List Value} {nc ks : Nat} {κ : Kp} {M : Mem} {Q : Rs → Kp → Mem → Prop} {x z : Int32} {off : Int} {tgt : Nat} {is' : List (Instr × Nat)} (ht : (pc : Int) + off = (tgt : Int)) (hA' : CdAt y.2.1 tgt is') (kt : x < z → G X y is' tgt lo st nc ks κ M Q) (kf : ¬ (x < z) → G X y is (pc + 3) lo st nc ks κ M Q) : G X y (((.if_icmp .lt off), 3) :: is) pc lo (.int z :: .int x :: st) nc ks κ M Q := by
  intro hA l p e s m args below meth c b Z D H locs ls hC hR hS hL
  exact lv_icmp_lt hC.2.1 hC.2.2.1 hA.1 ht (fun h => kt h hA' l p e s m args below meth c b Z D H locs ls hC hR hS hL) (fun h => kf h hA.2 l p e s m args below meth c b Z D H locs ls hC hR hS hL)
theorem g_if_ge {X : Xs} {y : MI} {is : List (Instr × Nat)} {pc : Nat} {lo : Lo} {st : List Value} {nc ks : Nat} {κ : Kp} {M : Mem} {Q : Rs → Kp → Mem → Prop} {x : Int32} {off : Int} {tgt : Nat} {is' : List (Instr × Nat)} (ht : (pc : Int) + off = (tgt : Int)) (hA' : CdAt y.2.1 tgt is') (kt : 0 ≤ x → G X y is' tgt lo st nc ks κ M Q) (kf : ¬ (0 ≤ x) → G X y is (pc + 3) lo st nc ks κ M Q) : G X y (((.ifCond .ge off), 3) :: is) pc lo (.int x :: st) nc ks κ M Q := by
  intro hA l p e s m args below meth c b Z D H locs ls hC hR hS hL
  exact lv_if_ge hC.2.1 hC.2.2.1 hA.1 ht (fun h => kt h hA' l p e s m args below meth c b Z D H locs ls hC hR hS hL) (fun h => kf h hA.2 l p e s m args below meth c b Z D H locs ls hC hR hS hL)
theorem g_icmp_ge {X : Xs} {y : MI} {is : List (Instr × Nat)} {pc : Nat} {lo : Lo} {st : List Value} {nc ks : Nat} {κ : Kp} {M : Mem} {Q : Rs → Kp → Mem → Prop} {x z : Int32} {off : Int} {tgt : Nat} {is' : List (Instr × Nat)} (ht : (pc : Int) + off = (tgt : Int)) (hA' : CdAt y.2.1 tgt is') (kt : z ≤ x → G X y is' tgt lo st nc ks κ M Q) (kf : ¬ (z ≤ x) → G X y is (pc + 3) lo st nc ks κ M Q) : G X y (((.if_icmp .ge off), 3) :: is) pc lo (.int z :: .int x :: st) nc ks κ M Q := by
  intro hA l p e s m args below meth c b Z D H locs ls hC hR hS hL
  exact lv_icmp_ge hC.2.1 hC.2.2.1 hA.1 ht (fun h => kt h hA' l p e s m args below meth c b Z D H locs ls hC hR hS hL) (fun h => kf h hA.2 l p e s m args below meth c b Z D H locs ls hC hR hS hL)
theorem g_if_gt {X : Xs} {y : MI} {is : List (Instr × Nat)} {pc : Nat} {lo : Lo} {st : List Value} {nc ks : Nat} {κ : Kp} {M : Mem} {Q : Rs → Kp → Mem → Prop} {x : Int32} {off : Int} {tgt : Nat} {is' : List (Instr × Nat)} (ht : (pc : Int) + off = (tgt : Int)) (hA' : CdAt y.2.1 tgt is') (kt : 0 < x → G X y is' tgt lo st nc ks κ M Q) (kf : ¬ (0 < x) → G X y is (pc + 3) lo st nc ks κ M Q) : G X y (((.ifCond .gt off), 3) :: is) pc lo (.int x :: st) nc ks κ M Q := by
  intro hA l p e s m args below meth c b Z D H locs ls hC hR hS hL
  exact lv_if_gt hC.2.1 hC.2.2.1 hA.1 ht (fun h => kt h hA' l p e s m args below meth c b Z D H locs ls hC hR hS hL) (fun h => kf h hA.2 l p e s m args below meth c b Z D H locs ls hC hR hS hL)
theorem g_icmp_gt {X : Xs} {y : MI} {is : List (Instr × Nat)} {pc : Nat} {lo : Lo} {st : List Value} {nc ks : Nat} {κ : Kp} {M : Mem} {Q : Rs → Kp → Mem → Prop} {x z : Int32} {off : Int} {tgt : Nat} {is' : List (Instr × Nat)} (ht : (pc : Int) + off = (tgt : Int)) (hA' : CdAt y.2.1 tgt is') (kt : z < x → G X y is' tgt lo st nc ks κ M Q) (kf : ¬ (z < x) → G X y is (pc + 3) lo st nc ks κ M Q) : G X y (((.if_icmp .gt off), 3) :: is) pc lo (.int z :: .int x :: st) nc ks κ M Q := by
  intro hA l p e s m args below meth c b Z D H locs ls hC hR hS hL
  exact lv_icmp_gt hC.2.1 hC.2.2.1 hA.1 ht (fun h => kt h hA' l p e s m args below meth c b Z D H locs ls hC hR hS hL) (fun h => kf h hA.2 l p e s m args below meth c b Z D H locs ls hC hR hS hL)
theorem g_if_le {X : Xs} {y : MI} {is : List (Instr × Nat)} {pc : Nat} {lo : Lo} {st : List Value} {nc ks : Nat} {κ : Kp} {M : Mem} {Q : Rs → Kp → Mem → Prop} {x : Int32} {off : Int} {tgt : Nat} {is' : List (Instr × Nat)} (ht : (pc : Int) + off = (tgt : Int)) (hA' : CdAt y.2.1 tgt is') (kt : x ≤ 0 → G X y is' tgt lo st nc ks κ M Q) (kf : ¬ (x ≤ 0) → G X y is (pc + 3) lo st nc ks κ M Q) : G X y (((.ifCond .le off), 3) :: is) pc lo (.int x :: st) nc ks κ M Q := by
  intro hA l p e s m args below meth c b Z D H locs ls hC hR hS hL
  exact lv_if_le hC.2.1 hC.2.2.1 hA.1 ht (fun h => kt h hA' l p e s m args below meth c b Z D H locs ls hC hR hS hL) (fun h => kf h hA.2 l p e s m args below meth c b Z D H locs ls hC hR hS hL)
theorem g_icmp_le {X : Xs} {y : MI} {is : List (Instr × Nat)} {pc : Nat} {lo : Lo} {st : List Value} {nc ks : Nat} {κ : Kp} {M : Mem} {Q : Rs → Kp → Mem → Prop} {x z : Int32} {off : Int} {tgt : Nat} {is' : List (Instr × Nat)} (ht : (pc : Int) + off = (tgt : Int)) (hA' : CdAt y.2.1 tgt is') (kt : x ≤ z → G X y is' tgt lo st nc ks κ M Q) (kf : ¬ (x ≤ z) → G X y is (pc + 3) lo st nc ks κ M Q) : G X y (((.if_icmp .le off), 3) :: is) pc lo (.int z :: .int x :: st) nc ks κ M Q := by
  intro hA l p e s m args below meth c b Z D H locs ls hC hR hS hL
  exact lv_icmp_le hC.2.1 hC.2.2.1 hA.1 ht (fun h => kt h hA' l p e s m args below meth c b Z D H locs ls hC hR hS hL) (fun h => kf h hA.2 l p e s m args below meth c b Z D H locs ls hC hR hS hL)
theorem g_tabIn {X : Xs} {y : MI} {is : List (Instr × Nat)} {pc : Nat} {lo : Lo} {st : List Value} {nc ks : Nat} {κ : Kp} {M : Mem} {Q : Rs → Kp → Mem → Prop} {dflt l0 h0 : Int} {offs : Array Int} {len : Nat} {x : Int32} {off : Int} {tgt : Nat} {is' : List (Instr × Nat)} (h1 : ¬ x.toInt < l0) (h2 : ¬ h0 < x.toInt) (ho : offs[(x.toInt - l0).toNat]? = some off) (ht : (pc : Int) + off = (tgt : Int)) (hA' : CdAt y.2.1 tgt is') (kk : G X y is' tgt lo st nc ks κ M Q) : G X y (((.tableswitch dflt l0 h0 offs), len) :: is) pc lo (.int x :: st) nc ks κ M Q := by
  intro hA l p e s m args below meth c b Z D H locs ls hC hR hS hL
  exact lv_tableIn hC.2.1 hC.2.2.1 hA.1 h1 h2 ho ht (kk hA' l p e s m args below meth c b Z D H locs ls hC hR hS hL)
theorem g_tabOut {X : Xs} {y : MI} {is : List (Instr × Nat)} {pc : Nat} {lo : Lo} {st : List Value} {nc ks : Nat} {κ : Kp} {M : Mem} {Q : Rs → Kp → Mem → Prop} {dflt l0 h0 : Int} {offs : Array Int} {len : Nat} {x : Int32} {tgt : Nat} {is' : List (Instr × Nat)} (h1 : x.toInt < l0 ∨ h0 < x.toInt) (ht : (pc : Int) + dflt = (tgt : Int)) (hA' : CdAt y.2.1 tgt is') (kk : G X y is' tgt lo st nc ks κ M Q) : G X y (((.tableswitch dflt l0 h0 offs), len) :: is) pc lo (.int x :: st) nc ks κ M Q := by
  intro hA l p e s m args below meth c b Z D H locs ls hC hR hS hL
  exact lv_tableOut hC.2.1 hC.2.2.1 hA.1 h1 ht (kk hA' l p e s m args below meth c b Z D H locs ls hC hR hS hL)
theorem g_lookup {X : Xs} {y : MI} {is : List (Instr × Nat)} {pc : Nat} {lo : Lo} {st : List Value} {nc ks : Nat} {κ : Kp} {M : Mem} {Q : Rs → Kp → Mem → Prop} {dflt : Int} {ps : Array (Int × Int)} {len : Nat} {x : Int32} {off : Int} {tgt : Nat} {is' : List (Instr × Nat)} (hp : (ps.toList.zip (ps.toList.drop 1)).all (fun (a, next) => a.1 < next.1) = true) (ho : Op.lookupswitch.offset ps.toList dflt x.toInt = off) (ht : (pc : Int) + off = (tgt : Int)) (hA' : CdAt y.2.1 tgt is') (kk : G X y is' tgt lo st nc ks κ M Q) : G X y (((.lookupswitch dflt ps), len) :: is) pc lo (.int x :: st) nc ks κ M Q := by
  intro hA l p e s m args below meth c b Z D H locs ls hC hR hS hL
  exact lv_lookup hC.2.1 hC.2.2.1 hA.1 hp ho ht (kk hA' l p e s m args below meth c b Z D H locs ls hC hR hS hL)
theorem g_ldc {X : Xs} {y : MI} {is : List (Instr × Nat)} {pc : Nat} {lo : Lo} {st : List Value} {nc ks : Nat} {κ : Kp} {M : Mem} {Q : Rs → Kp → Mem → Prop} {own : String} {idx : Nat} {v : Int32} (ho : y.1.cls = own) (hw : Cond.constant own idx v ∈ tblG) (kk : G X y is (pc + 2) lo (.int v :: st) nc ks κ M Q) : G X y (((.ldc idx), 2) :: is) pc lo st nc ks κ M Q := by
  intro hA l p e s m args below meth c b Z D H locs ls hC hR hS hL
  have hx := hC.2.1
  have hb := hC.2.2.1
  subst ho
  exact lv_ldc hx hb hC.own (hC.word hw) hA.1 (kk hA.2 l p e s m args below meth c b Z D H locs ls hC hR hS hL)
theorem g_ldcw {X : Xs} {y : MI} {is : List (Instr × Nat)} {pc : Nat} {lo : Lo} {st : List Value} {nc ks : Nat} {κ : Kp} {M : Mem} {Q : Rs → Kp → Mem → Prop} {own : String} {idx : Nat} {v : Int32} (ho : y.1.cls = own) (hw : Cond.constant own idx v ∈ tblG) (kk : G X y is (pc + 3) lo (.int v :: st) nc ks κ M Q) : G X y (((.ldc_w idx), 3) :: is) pc lo st nc ks κ M Q := by
  intro hA l p e s m args below meth c b Z D H locs ls hC hR hS hL
  have hx := hC.2.1
  have hb := hC.2.2.1
  subst ho
  exact lv_ldcw hx hb hC.own (hC.word hw) hA.1 (kk hA.2 l p e s m args below meth c b Z D H locs ls hC hR hS hL)
theorem g_ldc2 {X : Xs} {y : MI} {is : List (Instr × Nat)} {pc : Nat} {lo : Lo} {st : List Value} {nc ks : Nat} {κ : Kp} {M : Mem} {Q : Rs → Kp → Mem → Prop} {own : String} {idx : Nat} {v : Int64} (ho : y.1.cls = own) (hw : Cond.constantLong own idx v ∈ tblG) (kk : G X y is (pc + 3) lo (.long v :: st) nc ks κ M Q) : G X y (((.ldc2_w idx), 3) :: is) pc lo st nc ks κ M Q := by
  intro hA l p e s m args below meth c b Z D H locs ls hC hR hS hL
  have hx := hC.2.1
  have hb := hC.2.2.1
  subst ho
  exact lv_ldc2 hx hb hC.own (hC.word hw) hA.1 (kk hA.2 l p e s m args below meth c b Z D H locs ls hC hR hS hL)
theorem g_lab {X : Xs} {y : MI} {is : List (Instr × Nat)} {pc : Nat} {lo : Lo} {st : List Value} {nc ks : Nat} {κ : Kp} {M : Mem} {Q : Rs → Kp → Mem → Prop} {is' : List (Instr × Nat)} (hA' : CdAt y.2.1 pc is') (kk : G X y is' pc lo st nc ks κ M Q) : G X y is pc lo st nc ks κ M Q := fun _ => kk hA'
theorem g_lo {X : Xs} {y : MI} {is : List (Instr × Nat)} {pc : Nat} {lo : Lo} {st : List Value} {nc ks : Nat} {κ : Kp} {M : Mem} {Q : Rs → Kp → Mem → Prop} (lo' : Lo) (h : subLo lo lo') (kk : G X y is pc lo' st nc ks κ M Q) : G X y is pc lo st nc ks κ M Q := fun hA l p e s m args below meth c b Z D H locs ls hC hR hS hL => kk hA l p e s m args below meth c b Z D H locs ls hC hR hS (hL.sub h)
theorem g_wide {X : Xs} {y : MI} {is : List (Instr × Nat)} {pc : Nat} {lo : Lo} {st : List Value} {nc ks : Nat} {κ : Kp} {M : Mem} {Q : Rs → Kp → Mem → Prop} {n2 k2 : Nat} (h1 : nc ≤ n2) (h2 : ks ≤ k2) (kk : G X y is pc lo st n2 k2 κ M Q) : G X y is pc lo st nc ks κ M Q := fun hA l p e s m args below meth c b Z D H locs ls hC hR hS hL => W.widen h1 h2 (kk hA l p e s m args below meth c b Z D H locs ls hC hR hS hL)
end ROWS
end
section
def upM (M : Mem) (r k : Nat) (x : Int32) : Mem := fun r' j => if r' = r ∧ j = k then x else M r' j
theorem upM_s (M : Mem) (r k : Nat) (x : Int32) : upM M r k x r k = x := if_pos ⟨rfl, rfl⟩
theorem upM_o (M : Mem) (r k : Nat) (x : Int32) {r' : Nat} (h : r' ≠ r) (j : Nat) : upM M r k x r' j = M r' j := if_neg fun q => h q.1
theorem upM_j (M : Mem) (r k : Nat) (x : Int32) {j : Nat} (h : j ≠ k) (r' : Nat) : upM M r k x r' j = M r' j := if_neg fun q => h q.2
theorem upM_f (M : Mem) (r k : Nat) (x : Int32) : upM M r k x r = upd (M r) k x := by
  funext j
  by_cases h : j = k
  · subst h; simp [upM, upd]
  · simp [upM, upd, h]
def upS (S : Nat → Option Sh) (r : Nat) (sh : Sh) : Nat → Option Sh := fun r' => if r' = r then some sh else S r'
theorem upS_s (S : Nat → Option Sh) (r : Nat) (sh : Sh) : upS S r sh r = some sh := if_pos rfl
theorem upS_o (S : Nat → Option Sh) (r : Nat) (sh : Sh) {r' : Nat} (h : r' ≠ r) : upS S r sh r' = S r' := if_neg h
def FL (own : String) (idx ci k : Nat) : Prop := ∃ q : vw_C, vwCl[ci]? = some q ∧ k < q.2.2 ∧ Cond.fieldLink own idx (q.2.1 k).1 (q.2.1 k).2.1 (q.2.1 k).2.2.1 ∈ tblG ∧ (∀ w ∈ u_ws q.1 q.2.1 q.2.2, w ∈ tblG)
def PL (own : String) (idx ci k : Nat) (ty : FieldType) (fin : Bool) : Prop := ∃ q : vw_C, vwCl[ci]? = some q ∧ k < q.2.2 ∧ Cond.fieldLink own idx (q.2.1 k).1 (q.2.1 k).2.1 (q.2.1 k).2.2.1 ∈ tblG ∧ (∀ w ∈ u_ws q.1 q.2.1 q.2.2, w ∈ tblG) ∧
  (∀ a, a < q.2.2 → ∀ b, b < q.2.2 → a ≠ b → (q.2.1 a).2.1 ≠ (q.2.1 b).2.1) ∧ (∃ ty0 : Nat → FieldType, ∀ k, k < q.2.2 → parseFieldDescriptor (q.2.1 k).2.2.1 = some (ty0 k)) ∧ (q.2.1 k).2.2.2 = fin ∧ parseFieldDescriptor (q.2.1 k).2.2.1 = some ty ∧ (fin = true → (q.2.1 k).1 = own)
theorem ad_ne {b Z r r' : Nat} (h : 1 ≤ r) (h' : 1 ≤ r') (hn : r' ≠ r) : ad b Z r' ≠ ad b Z r := by
  cases r with
  | zero => omega
  | succ a => cases r' with
    | zero => omega
    | succ c => show Z + c ≠ Z + a; omega
theorem ad_ge {b Z r : Nat} (h : 1 ≤ r) : Z ≤ ad b Z r := by
  cases r with
  | zero => omega
  | succ a => exact Nat.le_add_right Z a
theorem cellOK.kept {b Z : Nat} {D : va_G} {M M' : Mem} {U : State} {H H' : Heap} {r : Nat} {sh : Sh} (h : cellOK b Z D M U H r sh) (hq : H'[ad b Z r]? = H[ad b Z r]?) (hM : ∀ j, M' r j = M r j) : cellOK b Z D M' U H' r sh := by
  have hf : fv b Z M' r sh.2.2 = fv b Z M r sh.2.2 := by
    funext k; unfold fv; rw [hM]
  have he : aev b Z M' r sh.1 sh.2.2 = aev b Z M r sh.1 sh.2.2 := by
    funext k; unfold aev; rw [hM, hf]
  unfold cellOK at h ⊢
  rw [hf, he]
  split at h
  · rename_i hc
    rw [if_pos hc]
    obtain ⟨q, h1, h2, h3, h4⟩ := h
    exact ⟨q, h1, h2, h3, h4.kept hq⟩
  · rename_i hc
    rw [if_neg hc, hq]
    exact h
theorem cellOK.moved {b Z : Nat} {D : va_G} {M : Mem} {u U : State} {H : Heap} {r : Nat} {sh : Sh} (hvm : u.vm.Alike U.vm) (h : cellOK b Z D M u H r sh) : cellOK b Z D M U H r sh := by
  unfold cellOK at h ⊢
  split at h
  · rename_i hc
    rw [if_pos hc]; exact h
  · rename_i hc
    rw [if_neg hc]
    obtain ⟨cA, h1, h2, h3⟩ := h
    exact ⟨cA, h1, arrOfT_moved hvm h2, h3.moved hvm⟩
theorem Rel.moved {b Z : Nat} {D : va_G} {κ : Kp} {M : Mem} {u U : State} {H : Heap} (hvm : u.vm.Alike U.vm) (h : Rel b Z D κ M u H) : Rel b Z D κ M U H := ⟨fun r sh hs => ⟨(h.1 r sh hs).1, (h.1 r sh hs).2.moved hvm⟩, h.2⟩
theorem Rel.put {b Z : Nat} {D : va_G} {κ κ' : Kp} {M M' : Mem} {U : State} {H H' : Heap} {r : Nat} {sh' : Sh} (hR : Rel b Z D κ M U H) (hr : 1 ≤ r ∧ r ≤ κ.1) (hz : H'.size = H.size) (ho : ∀ q, q ≠ ad b Z r → H'[q]? = H[q]?)
    (hκ1 : κ'.1 = κ.1) (hκ3 : κ'.2.2 = κ.2.2) (hκ : ∀ r', r' ≠ r → κ'.2.1 r' = κ.2.1 r') (hr' : κ'.2.1 r = some sh') (hc : cellOK b Z D M' U H' r sh') (hM : ∀ r', r' ≠ r → ∀ j, M' r' j = M r' j) : Rel b Z D κ' M' U H' := by
  refine ⟨fun r2 sh hs => ?_, by rw [hκ1, hz]; exact hR.2.1, by rw [hκ1, hκ3, hz]; exact hR.2.2⟩
  rw [hκ1]
  by_cases h : r2 = r
  · subst h
    rw [hr'] at hs
    cases hs
    exact ⟨hr, hc⟩
  · rw [hκ r2 h] at hs
    obtain ⟨h1, h2⟩ := hR.1 r2 sh hs
    exact ⟨h1, h2.kept (ho _ (ad_ne hr.1 h1.1 h)) (hM r2 h)⟩
theorem cell_obj {b Z : Nat} {D : va_G} {κ : Kp} {M : Mem} {U : State} {H : Heap} {r ci N : Nat} {cs : List Nat} {q : vw_C} (hR : Rel b Z D κ M U H) (hs : κ.2.1 r = some (ci, N, cs)) (hq : vwCl[ci]? = some q) : q.2.2 = N ∧ cs.length = N ∧ t_OB (ad b Z r) (D.1 ci) q.2.2 (D.2 ci) H (fv b Z M r cs) := by
  have h := (hR.1 r _ hs).2
  have hci : ci < 16 := Nat.lt_of_lt_of_le (List.getElem?_eq_some_iff.mp hq).1 (by decide)
  unfold cellOK at h
  rw [if_pos hci] at h
  obtain ⟨q', h1, h2, h3, h4⟩ := h
  cases hq.symm.trans h1
  exact ⟨h2, h3, h4⟩
theorem cell_arr {b Z : Nat} {D : va_G} {κ : Kp} {M : Mem} {U : State} {H : Heap} {r t N : Nat} {cs : List Nat} (hR : Rel b Z D κ M U H) (hs : κ.2.1 r = some (t, N, cs)) (ht : 16 ≤ t) : ∃ cA : ClassId, H[ad b Z r]? = some (arrV cA N (aev b Z M r t cs)) ∧ ArrOfT U cA (aty t) ∧ va_RA U cA (aty t) := by
  have h := (hR.1 r _ hs).2
  unfold cellOK at h
  rw [if_neg (by show ¬ t < 16; omega)] at h
  exact h
theorem ix_in {i : Int32} {j N : Nat} (hi : i = nI j) (hj : j < N) (hN : N < 2147483648) : vp_in i N ∧ i.toNatClampNeg = j := by
  subst hi
  exact ⟨vp_in_nI hj hN, nI_clamp (Nat.lt_trans hj hN)⟩
section HEAPROWS

theorem g_getI {X : Xs} {y : MI} {is : List (Instr × Nat)} {pc : Nat} {lo : Lo} {st : List Value} {nc ks : Nat} {κ : Kp} {M : Mem} {Q : Rs → Kp → Mem → Prop} {own : String} {idx ci k N r : Nat} {cs : List Nat} (hf : FL own idx ci k) (ho : y.1.cls = own) (hs : κ.2.1 r = some (ci, N, cs)) (hc : cs.getD k 0 = 0) (kk : G X y is (pc + 3) lo (.int (M r k) :: st) nc ks κ M Q) : G X y (((.getfield idx), 3) :: is) pc lo (.ref r :: st) nc ks κ M Q := by
  intro hA l p e s m args below meth c b Z D H locs ls hC hR hS hL
  have hx := hC.2.1
  have hb := hC.2.2.1
  subst ho
  obtain ⟨q, hq, hk, hlink, hws⟩ := hf
  obtain ⟨hN, hlen, cell, q1, q2, q3, q4⟩ := cell_obj hR hs hq
  obtain ⟨hSl, hfc, kC, hkC, hkind⟩ := hC.wd.1.1 ci _ hq
  obtain ⟨cf, kf, fi, f, hi, hsl⟩ := hSl k hk
  refine W.getf hx hb hC.own (hC.word hlink) hi (u_facts hfc hkC (u_lays hC.words (fun w h => List.mem_cons_of_mem _ (hws w h)) hk) hi).1 q1 (by rw [q3]; exact fun h => by cases h) (v := tv b Z (.int (M r k))) ?_ rfl rfl hA.1 (kk hA.2 l p e s m args below meth c b Z D H locs ls hC hR hS hL)
  rw [hsl, q4 k hk]
  unfold fv
  rw [hc]
  rfl
theorem g_getR {X : Xs} {y : MI} {is : List (Instr × Nat)} {pc : Nat} {lo : Lo} {st : List Value} {nc ks : Nat} {κ : Kp} {M : Mem} {Q : Rs → Kp → Mem → Prop} {own : String} {idx ci k N r : Nat} {w : Nat} {cs : List Nat} (hf : FL own idx ci k) (ho : y.1.cls = own) (hs : κ.2.1 r = some (ci, N, cs)) (hc : cs.getD k 0 = w + 2) (kk : G X y is (pc + 3) lo (.ref w :: st) nc ks κ M Q) : G X y (((.getfield idx), 3) :: is) pc lo (.ref r :: st) nc ks κ M Q := by
  intro hA l p e s m args below meth c b Z D H locs ls hC hR hS hL
  have hx := hC.2.1
  have hb := hC.2.2.1
  subst ho
  obtain ⟨q, hq, hk, hlink, hws⟩ := hf
  obtain ⟨hN, hlen, cell, q1, q2, q3, q4⟩ := cell_obj hR hs hq
  obtain ⟨hSl, hfc, kC, hkC, hkind⟩ := hC.wd.1.1 ci _ hq
  obtain ⟨cf, kf, fi, f, hi, hsl⟩ := hSl k hk
  refine W.getf hx hb hC.own (hC.word hlink) hi (u_facts hfc hkC (u_lays hC.words (fun w h => List.mem_cons_of_mem _ (hws w h)) hk) hi).1 q1 (by rw [q3]; exact fun h => by cases h) (v := tv b Z (.ref w)) ?_ rfl rfl hA.1 (kk hA.2 l p e s m args below meth c b Z D H locs ls hC hR hS hL)
  rw [hsl, q4 k hk]
  unfold fv
  rw [hc]
  rfl
theorem g_putI {X : Xs} {y : MI} {is : List (Instr × Nat)} {pc : Nat} {lo : Lo} {st : List Value} {nc ks : Nat} {κ : Kp} {M : Mem} {Q : Rs → Kp → Mem → Prop} {own : String} {idx ci k N r : Nat} {cs : List Nat} {ty : FieldType} {x : Int32} (hf : PL own idx ci k ty false) (ho : y.1.cls = own) (hs : κ.2.1 r = some (ci, N, cs)) (hc : cs.getD k 0 = 0) (hn : narrow ty (.int x) = .int x) (hft : fits ty (.int x) = true) (kk : G X y is (pc + 3) lo st nc ks κ (upM M r k x) Q) : G X y (((.putfield idx), 3) :: is) pc lo (.int x :: .ref r :: st) nc ks κ M Q := by
  intro hA l p e s m args below meth c b Z D H locs ls hC hR hS hL
  have hx := hC.2.1
  have hb := hC.2.2.1
  subst ho
  obtain ⟨q, hq, hk, hlink, hws, hnm, ⟨ty0, hty⟩, hfin, hpd, -⟩ := hf
  obtain ⟨hN, hlen, cell, q1, q2, q3, q4⟩ := cell_obj hR hs hq
  have hin : ∀ w ∈ u_ws q.1 q.2.1 q.2.2, w ∈ wsOf y := fun w h => List.mem_cons_of_mem _ (hws w h)
  have hap := va_apart (own := y.1.cls) hC.words hin ty0 hty hnm hC.wd.1 hq
  obtain ⟨hSl, hfc, kC, hkC, hkind⟩ := hC.wd.1.1 ci _ hq
  obtain ⟨cf, kf, fi, f, hi, hsl⟩ := hSl k hk
  have hlay := hC.words _ (hin _ (u_in_lay hk))
  unfold u_lay at hlay
  rw [if_neg (by rw [hfin]; decide)] at hlay
  have hst := (u_facts hfc hkC (u_lays hC.words hin hk) hi).1
  have h6 := u_store hfc hkC hkind hlay hi hpd hn hft
  refine W.putK hx hb (f := f) ⟨hC.own, hC.word hlink, ⟨_, _, _, hi⟩, hst⟩ (by rw [q2]; exact h6) q1 q3 (by rw [hsl]; exact k2_hasslot (q4 k hk)) rfl rfl hA.1 fun H1 e1 e2 e3 => ?_
  have hr := (hR.1 r _ hs).1
  refine kk hA.2 l p e s m args below meth c b Z D H1 _ ls hC (hR.put hr e2 e3 rfl rfl (fun _ _ => rfl) hs ?_ (fun r2 h2 j => upM_o M r k x h2 j)) (hS.put e2 e3 (ad_ge hr.1)) hL
  rw [hsl] at e1
  have hci : ci < 16 := Nat.lt_of_lt_of_le (List.getElem?_eq_some_iff.mp hq).1 (by decide)
  unfold cellOK
  rw [if_pos hci]
  refine ⟨q, hq, hN, hlen, t_OB.to (V := updV (fv b Z M r cs) k (.int x)) ⟨_, e1, q2, q3, t_set q4 hap hk _⟩ (fun j _ => ?_)⟩
  show updV (fv b Z M r cs) k (.int x) j = fv b Z (upM M r k x) r cs j
  by_cases hj : j = k
  · subst hj
    simp only [updV, if_pos]
    unfold fv
    rw [hc, upM_s]
  · simp only [updV, if_neg hj]
    unfold fv
    rw [upM_j M r k x hj]
theorem g_putR {X : Xs} {y : MI} {is : List (Instr × Nat)} {pc : Nat} {lo : Lo} {st : List Value} {nc ks : Nat} {κ : Kp} {M : Mem} {Q : Rs → Kp → Mem → Prop} {own : String} {idx ci k N r w : Nat} {cs : List Nat} {ty : FieldType} (hf : PL own idx ci k ty true) (ho : y.1.cls = own) (hin2 : y.1.name = "<init>") (hs : κ.2.1 r = some (ci, N, cs)) (hn : ∀ a, narrow ty (.ref a) = .ref a) (hft : ∀ a, fits ty (.ref a) = true) (kk : G X y is (pc + 3) lo st nc ks (κ.1, upS κ.2.1 r (ci, N, cs.set k (w + 2)), κ.2.2) M Q) : G X y (((.putfield idx), 3) :: is) pc lo (.ref w :: .ref r :: st) nc ks κ M Q := by
  intro hA l p e s m args below meth c b Z D H locs ls hC hR hS hL
  have hx := hC.2.1
  have hb := hC.2.2.1
  subst ho
  obtain ⟨q, hq, hk, hlink, hws, hnm, ⟨ty0, hty⟩, hfin, hpd, hdecl⟩ := hf
  obtain ⟨hN, hlen, cell, q1, q2, q3, q4⟩ := cell_obj hR hs hq
  have hin : ∀ w ∈ u_ws q.1 q.2.1 q.2.2, w ∈ wsOf y := fun w h => List.mem_cons_of_mem _ (hws w h)
  have hap := va_apart (own := y.1.cls) hC.words hin ty0 hty hnm hC.wd.1 hq
  obtain ⟨hSl, hfc, kC, hkC, hkind⟩ := hC.wd.1.1 ci _ hq
  obtain ⟨cf, kf, fi, f, hi, hsl⟩ := hSl k hk
  have hst := (u_facts hfc hkC (u_lays hC.words hin hk) hi).1
  have h6 := u_fits hfc hkC hkind (u_lays hC.words hin hk) hi hpd (hn (ad b Z w)) (hft (ad b Z w))
  have hlay := hC.words _ (hin _ (u_in_lay hk))
  unfold u_lay at hlay
  rw [if_pos hfin] at hlay
  have hcf : m.cls = cf := by
    obtain ⟨_, _, c', _, _, _, -, -, hf', -, -, -, hown2, -⟩ := Cond.laysFinal_spec hlay
    have e1 : c' = cf := by have := hi.symm.trans hf'; simp at this; exact this.1.symm
    rw [hdecl rfl] at hown2
    rw [← e1]; exact Option.some.inj (hC.own.symm.trans hown2)
  refine W.putFinK hx hb hC.own (hC.word hlink) hi hst hcf (by rw [hC.2.2.2.2.2.2.1]; exact hin2) (by rw [q2]; exact h6) q1 q3 (by rw [hsl]; exact k2_hasslot (q4 k hk)) rfl rfl hA.1 fun H1 e1 e2 e3 => ?_
  have hr := (hR.1 r _ hs).1
  refine kk hA.2 l p e s m args below meth c b Z D H1 _ ls hC (hR.put hr e2 e3 rfl rfl (fun _ h => upS_o _ _ _ h) (upS_s _ _ _) ?_ (fun _ _ _ => rfl)) (hS.put e2 e3 (ad_ge hr.1)) hL
  rw [hsl] at e1
  have hci : ci < 16 := Nat.lt_of_lt_of_le (List.getElem?_eq_some_iff.mp hq).1 (by decide)
  unfold cellOK
  rw [if_pos hci]
  refine ⟨q, hq, hN, by simp only [List.length_set]; exact hlen, t_OB.to (V := updV (fv b Z M r cs) k (.ref (ad b Z w))) ⟨_, e1, q2, q3, t_set q4 hap hk _⟩ (fun j _ => ?_)⟩
  show updV (fv b Z M r cs) k (.ref (ad b Z w)) j = fv b Z M r (cs.set k (w + 2)) j
  have hkl : k < cs.length := by rw [hlen, ← hN]; exact hk
  by_cases hj : j = k
  · subst hj
    simp only [updV, if_pos]
    unfold fv
    simp [hkl]
  · simp only [updV, if_neg hj]
    unfold fv
    simp [List.getElem?_set_ne (Ne.symm hj)]
theorem g_iaload {X : Xs} {y : MI} {is : List (Instr × Nat)} {pc : Nat} {lo : Lo} {st : List Value} {nc ks : Nat} {κ : Kp} {M : Mem} {Q : Rs → Kp → Mem → Prop} {r N j : Nat} {cs : List Nat} {i : Int32} (hs : κ.2.1 r = some (16, N, cs)) (hi : i = nI j) (hj : j < N) (hN : N < 2147483648) (kk : G X y is (pc + 1) lo (.int (M r j) :: st) nc ks κ M Q) : G X y (((.iaload), 1) :: is) pc lo (.int i :: .ref r :: st) nc ks κ M Q := by
  intro hA l p e s m args below meth c b Z D H locs ls hC hR hS hL
  have hx := hC.2.1
  have hb := hC.2.2.1
  obtain ⟨cA, h1, h2, h3⟩ := cell_arr hR hs (by decide)
  obtain ⟨hin, hcl⟩ := ix_in hi hj hN
  refine W.iald (v := .int (M r j)) hx hb h1 (h2 N _) (fun q => by cases q) (by rw [arrV_size]; exact hin) (by rw [hcl, arrV_read _ _ hj]; rfl) rfl rfl hA.1 (kk hA.2 l p e s m args below meth c b Z D H locs ls hC hR hS hL)
theorem g_caload {X : Xs} {y : MI} {is : List (Instr × Nat)} {pc : Nat} {lo : Lo} {st : List Value} {nc ks : Nat} {κ : Kp} {M : Mem} {Q : Rs → Kp → Mem → Prop} {r N j : Nat} {cs : List Nat} {i : Int32} (hs : κ.2.1 r = some (17, N, cs)) (hi : i = nI j) (hj : j < N) (hN : N < 2147483648) (kk : G X y is (pc + 1) lo (.int (M r j) :: st) nc ks κ M Q) : G X y (((.caload), 1) :: is) pc lo (.int i :: .ref r :: st) nc ks κ M Q := by
  intro hA l p e s m args below meth c b Z D H locs ls hC hR hS hL
  have hx := hC.2.1
  have hb := hC.2.2.1
  obtain ⟨cA, h1, h2, h3⟩ := cell_arr hR hs (by decide)
  obtain ⟨hin, hcl⟩ := ix_in hi hj hN
  refine W.cald (v := .int (M r j)) hx hb h1 (h2 N _) (fun q => by cases q) (by rw [arrV_size]; exact hin) (by rw [hcl, arrV_read _ _ hj]; rfl) rfl rfl hA.1 (kk hA.2 l p e s m args below meth c b Z D H locs ls hC hR hS hL)
theorem g_baload {X : Xs} {y : MI} {is : List (Instr × Nat)} {pc : Nat} {lo : Lo} {st : List Value} {nc ks : Nat} {κ : Kp} {M : Mem} {Q : Rs → Kp → Mem → Prop} {r N j : Nat} {cs : List Nat} {i : Int32} (hs : κ.2.1 r = some (18, N, cs)) (hi : i = nI j) (hj : j < N) (hN : N < 2147483648) (kk : G X y is (pc + 1) lo (.int (M r j) :: st) nc ks κ M Q) : G X y (((.baload), 1) :: is) pc lo (.int i :: .ref r :: st) nc ks κ M Q := by
  intro hA l p e s m args below meth c b Z D H locs ls hC hR hS hL
  have hx := hC.2.1
  have hb := hC.2.2.1
  obtain ⟨cA, h1, h2, h3⟩ := cell_arr hR hs (by decide)
  obtain ⟨hin, hcl⟩ := ix_in hi hj hN
  refine W.zald (v := .int (M r j)) hx hb h1 (h2 N _) (fun q => by cases q) (by rw [arrV_size]; exact hin) (by rw [hcl, arrV_read _ _ hj]; rfl) rfl rfl hA.1 (kk hA.2 l p e s m args below meth c b Z D H locs ls hC hR hS hL)
theorem g_laload {X : Xs} {y : MI} {is : List (Instr × Nat)} {pc : Nat} {lo : Lo} {st : List Value} {nc ks : Nat} {κ : Kp} {M : Mem} {Q : Rs → Kp → Mem → Prop} {r N j : Nat} {cs : List Nat} {i : Int32} (hs : κ.2.1 r = some (19, N, cs)) (hi : i = nI j) (hj : j < N) (hN : N < 2147483648) (kk : G X y is (pc + 1) lo (.long (M r j).toInt64 :: st) nc ks κ M Q) : G X y (((.laload), 1) :: is) pc lo (.int i :: .ref r :: st) nc ks κ M Q := by
  intro hA l p e s m args below meth c b Z D H locs ls hC hR hS hL
  have hx := hC.2.1
  have hb := hC.2.2.1
  obtain ⟨cA, h1, h2, h3⟩ := cell_arr hR hs (by decide)
  obtain ⟨hin, hcl⟩ := ix_in hi hj hN
  refine W.lald (v := .long (M r j).toInt64) hx hb h1 (h2 N _) (fun q => by cases q) (by rw [arrV_size]; exact hin) (by rw [hcl, arrV_read _ _ hj]; rfl) rfl rfl hA.1 (kk hA.2 l p e s m args below meth c b Z D H locs ls hC hR hS hL)
theorem g_aaload {X : Xs} {y : MI} {is : List (Instr × Nat)} {pc : Nat} {lo : Lo} {st : List Value} {nc ks : Nat} {κ : Kp} {M : Mem} {Q : Rs → Kp → Mem → Prop} {r t N j w : Nat} {cs : List Nat} {i : Int32} (hs : κ.2.1 r = some (t, N, cs)) (ht : 20 ≤ t) (hi : i = nI j) (hj : j < N) (hN : N < 2147483648) (hc : cs.getD j 0 = w + 2) (kk : G X y is (pc + 1) lo (.ref w :: st) nc ks κ M Q) : G X y (((.aaload), 1) :: is) pc lo (.int i :: .ref r :: st) nc ks κ M Q := by
  intro hA l p e s m args below meth c b Z D H locs ls hC hR hS hL
  have hx := hC.2.1
  have hb := hC.2.2.1
  obtain ⟨cA, h1, h2, h3⟩ := cell_arr hR hs (by omega)
  obtain ⟨hin, hcl⟩ := ix_in hi hj hN
  have hty : aty t = .object (clN (t - 20)) := by simp [aty, show ¬ t = 16 by omega, show ¬ t = 17 by omega, show ¬ t = 18 by omega, show ¬ t = 19 by omega]
  refine W.aald (v := .ref (ad b Z w)) (ty := aty t) hx hb h1 (h2 N _) (by rw [hty]; rfl) (fun q => by cases q) (by rw [arrV_size]; exact hin) ?_ rfl rfl hA.1 (kk hA.2 l p e s m args below meth c b Z D H locs ls hC hR hS hL)
  rw [hcl, arrV_read _ _ hj]
  unfold aev
  rw [if_neg (by omega), if_neg (by omega)]
  unfold fv
  rw [hc]
theorem g_iastore {X : Xs} {y : MI} {is : List (Instr × Nat)} {pc : Nat} {lo : Lo} {st : List Value} {nc ks : Nat} {κ : Kp} {M : Mem} {Q : Rs → Kp → Mem → Prop} {r N j : Nat} {cs : List Nat} {i x : Int32} (hs : κ.2.1 r = some (16, N, cs)) (hi : i = nI j) (hj : j < N) (hN : N < 2147483648) (kk : G X y is (pc + 1) lo st nc ks κ (upM M r j x) Q) : G X y (((.iastore), 1) :: is) pc lo (.int x :: .int i :: .ref r :: st) nc ks κ M Q := by
  intro hA l p e s m args below meth c b Z D H locs ls hC hR hS hL
  have hx := hC.2.1
  have hb := hC.2.2.1
  obtain ⟨cA, h1, h2, h3⟩ := cell_arr hR hs (by decide)
  obtain ⟨hin, hcl⟩ := ix_in hi hj hN
  have hr := (hR.1 r _ hs).1
  refine W.iast hx hb h1 (h2 N _) (fun q => by cases q) (by rw [arrV_size]; exact hin) rfl rfl hA.1 fun H1 e1 e2 e3 => ?_
  refine kk hA.2 l p e s m args below meth c b Z D H1 _ ls hC (hR.put hr e2 e3 rfl rfl (fun _ _ => rfl) hs ?_ (fun r2 h2 j2 => upM_o M r j x h2 j2)) (hS.put e2 e3 (ad_ge hr.1)) hL
  unfold cellOK
  rw [if_neg (by show ¬ (16 : Nat) < 16; decide)]
  refine ⟨cA, ?_, h2, h3⟩
  rw [e1, hcl, arrV_store]
  congr 2
  funext a
  by_cases ha : a = j
  · subst ha
    simp [updV, aev, upM_s]
  · simp only [updV, if_neg ha]
    simp only [aev, upM_j M r j x ha]
    rfl
theorem g_castore {X : Xs} {y : MI} {is : List (Instr × Nat)} {pc : Nat} {lo : Lo} {st : List Value} {nc ks : Nat} {κ : Kp} {M : Mem} {Q : Rs → Kp → Mem → Prop} {r N j : Nat} {cs : List Nat} {i x : Int32} (hs : κ.2.1 r = some (17, N, cs)) (hi : i = nI j) (hj : j < N) (hN : N < 2147483648) (hn : narrow .char (.int x) = .int x) (kk : G X y is (pc + 1) lo st nc ks κ (upM M r j x) Q) : G X y (((.castore), 1) :: is) pc lo (.int x :: .int i :: .ref r :: st) nc ks κ M Q := by
  intro hA l p e s m args below meth c b Z D H locs ls hC hR hS hL
  have hx := hC.2.1
  have hb := hC.2.2.1
  obtain ⟨cA, h1, h2, h3⟩ := cell_arr hR hs (by decide)
  obtain ⟨hin, hcl⟩ := ix_in hi hj hN
  have hr := (hR.1 r _ hs).1
  refine W.cast hx hb h1 (h2 N _) (fun q => by cases q) (by rw [arrV_size]; exact hin) rfl rfl hA.1 fun H1 e1 e2 e3 => ?_
  refine kk hA.2 l p e s m args below meth c b Z D H1 _ ls hC (hR.put hr e2 e3 rfl rfl (fun _ _ => rfl) hs ?_ (fun r2 h2 j2 => upM_o M r j x h2 j2)) (hS.put e2 e3 (ad_ge hr.1)) hL
  unfold cellOK
  rw [if_neg (by show ¬ (17 : Nat) < 16; decide)]
  refine ⟨cA, ?_, h2, h3⟩
  rw [e1, hcl, hn, arrV_store]
  congr 2
  funext a
  by_cases ha : a = j
  · subst ha
    simp [updV, aev, upM_s]
  · simp only [updV, if_neg ha]
    simp only [aev, upM_j M r j x ha]
    rfl
theorem g_bastore {X : Xs} {y : MI} {is : List (Instr × Nat)} {pc : Nat} {lo : Lo} {st : List Value} {nc ks : Nat} {κ : Kp} {M : Mem} {Q : Rs → Kp → Mem → Prop} {r N j : Nat} {cs : List Nat} {i x : Int32} (hs : κ.2.1 r = some (18, N, cs)) (hi : i = nI j) (hj : j < N) (hN : N < 2147483648) (hn : narrow .boolean (.int x) = .int x) (kk : G X y is (pc + 1) lo st nc ks κ (upM M r j x) Q) : G X y (((.bastore), 1) :: is) pc lo (.int x :: .int i :: .ref r :: st) nc ks κ M Q := by
  intro hA l p e s m args below meth c b Z D H locs ls hC hR hS hL
  have hx := hC.2.1
  have hb := hC.2.2.1
  obtain ⟨cA, h1, h2, h3⟩ := cell_arr hR hs (by decide)
  obtain ⟨hin, hcl⟩ := ix_in hi hj hN
  have hr := (hR.1 r _ hs).1
  refine W.zast hx hb h1 (h2 N _) (fun q => by cases q) (by rw [arrV_size]; exact hin) rfl rfl hA.1 fun H1 e1 e2 e3 => ?_
  refine kk hA.2 l p e s m args below meth c b Z D H1 _ ls hC (hR.put hr e2 e3 rfl rfl (fun _ _ => rfl) hs ?_ (fun r2 h2 j2 => upM_o M r j x h2 j2)) (hS.put e2 e3 (ad_ge hr.1)) hL
  unfold cellOK
  rw [if_neg (by show ¬ (18 : Nat) < 16; decide)]
  refine ⟨cA, ?_, h2, h3⟩
  rw [e1, hcl, hn, arrV_store]
  congr 2
  funext a
  by_cases ha : a = j
  · subst ha
    simp [updV, aev, upM_s]
  · simp only [updV, if_neg ha]
    simp only [aev, upM_j M r j x ha]
    rfl
theorem g_lastore {X : Xs} {y : MI} {is : List (Instr × Nat)} {pc : Nat} {lo : Lo} {st : List Value} {nc ks : Nat} {κ : Kp} {M : Mem} {Q : Rs → Kp → Mem → Prop} {r N j : Nat} {cs : List Nat} {i x : Int32} (hs : κ.2.1 r = some (19, N, cs)) (hi : i = nI j) (hj : j < N) (hN : N < 2147483648) (kk : G X y is (pc + 1) lo st nc ks κ (upM M r j x) Q) : G X y (((.lastore), 1) :: is) pc lo (.long x.toInt64 :: .int i :: .ref r :: st) nc ks κ M Q := by
  intro hA l p e s m args below meth c b Z D H locs ls hC hR hS hL
  have hx := hC.2.1
  have hb := hC.2.2.1
  obtain ⟨cA, h1, h2, h3⟩ := cell_arr hR hs (by decide)
  obtain ⟨hin, hcl⟩ := ix_in hi hj hN
  have hr := (hR.1 r _ hs).1
  refine W.last hx hb h1 (h2 N _) (fun q => by cases q) (by rw [arrV_size]; exact hin) rfl rfl hA.1 fun H1 e1 e2 e3 => ?_
  refine kk hA.2 l p e s m args below meth c b Z D H1 _ ls hC (hR.put hr e2 e3 rfl rfl (fun _ _ => rfl) hs ?_ (fun r2 h2 j2 => upM_o M r j x h2 j2)) (hS.put e2 e3 (ad_ge hr.1)) hL
  unfold cellOK
  rw [if_neg (by show ¬ (19 : Nat) < 16; decide)]
  refine ⟨cA, ?_, h2, h3⟩
  rw [e1, hcl, arrV_store]
  congr 2
  funext a
  by_cases ha : a = j
  · subst ha
    simp [updV, aev, upM_s]
  · simp only [updV, if_neg ha]
    simp only [aev, upM_j M r j x ha]
    rfl
theorem g_sload {X : Xs} {y : MI} {is : List (Instr × Nat)} {pc : Nat} {lo : Lo} {st : List Value} {nc ks : Nat} {κ : Kp} {M : Mem} {Q : Rs → Kp → Mem → Prop} {i : Int32} {j : Nat} (hi : i = nI j) (hj : j < X.1) (hN : X.1 < 2147483648) (kk : G X y is (pc + 1) lo (.int (X.2 j) :: st) nc ks κ M Q) : G X y (((.iaload), 1) :: is) pc lo (.int i :: .ref 0 :: st) nc ks κ M Q := by
  intro hA l p e s m args below meth c b Z D H locs ls hC hR hS hL
  have hx := hC.2.1
  have hb := hC.2.2.1
  obtain ⟨hin, hcl⟩ := ix_in hi hj hN
  obtain ⟨-, hXx, hbZ, hZs, -⟩ := hC.wd
  refine va_sld hx hb hXx (Nat.lt_of_lt_of_le hbZ hZs) (Nat.not_le.mpr hbZ) hS hin hA.1 ?_
  rw [hcl]
  exact kk hA.2 l p e s m args below meth c b Z D H locs ls hC hR hS hL
theorem g_slen {X : Xs} {y : MI} {is : List (Instr × Nat)} {pc : Nat} {lo : Lo} {st : List Value} {nc ks : Nat} {κ : Kp} {M : Mem} {Q : Rs → Kp → Mem → Prop}  (kk : G X y is (pc + 1) lo (.int (nI X.1) :: st) nc ks κ M Q) : G X y (((.arraylength), 1) :: is) pc lo (.ref 0 :: st) nc ks κ M Q := by
  intro hA l p e s m args below meth c b Z D H locs ls hC hR hS hL
  have hx := hC.2.1
  have hb := hC.2.2.1
  obtain ⟨-, hXx, hbZ, hZs, -⟩ := hC.wd
  exact va_slen hx hb hXx (Nat.lt_of_lt_of_le hbZ hZs) (Nat.not_le.mpr hbZ) hS hA.1 (kk hA.2 l p e s m args below meth c b Z D H locs ls hC hR hS hL)
end HEAPROWS
end
section
theorem castI {s : State} {q : String} (h : va_Nw (.castable q q) s) {args : Array Value} : (Cond.castable q q).before args s = true := va_Nw.use rfl h
theorem NW.warm {s U : State} (hW : s.WarmedH U.vm) (h : NW s) : NW U := by
  obtain ⟨h1, h2, h3, h4, h5, h6⟩ := h
  refine ⟨fun q hq => va_Nw.warmM hW (h1 q hq), fun q hq => (h2 q hq).moved hW.alike, fun q hq => (h3 q hq).moved hW.alike, fun q hq => ?_, fun q hq => va_Nw.warmC hW (h5 q hq), fun q hq => va_Nw.warmD hW (h6 q hq)⟩
  obtain ⟨a, ha⟩ := h4 q hq
  exact ⟨a, vk_R.warm hW ha⟩
theorem Wd.go {X : Xs} {b Z : Nat} {D : va_G} {s U : State} (hW : s.WarmedH U.vm) (hz : s.heap.size ≤ U.heap.size) (hq : ∀ a : Nat, a < s.heap.size → ¬ Z ≤ a → U.heap[a]? = s.heap[a]?) (h : Wd X b Z D s) : Wd X b Z D U := by
  obtain ⟨h1, h2, h3, h4, h5, h6, h7⟩ := h
  have hv : s.vm.Alike U.vm := hW.alike
  exact ⟨h1.moved hv, (h2.moved hv).kept (hq b (Nat.lt_of_lt_of_le h3 h4) (Nat.not_le.mpr h3)), h3, Nat.le_trans h4 hz, vx_Zq.moved hv (h5.kept hq), vx_Zq.moved hv (h6.kept hq), h7.warm hW⟩
theorem zPc_blind (X : Xs) (b Z : Nat) (D : va_G) (as : List Value) (κ : Kp) (M : Mem) : FrameBlind (zPc X b Z D as κ M) := by
  intro a U g mk h
  obtain ⟨h1, h2, h3⟩ := h
  have hW : U.WarmedH (U.calling g mk a).vm := State.WarmedH.refl U
  exact ⟨h1, h2.go hW (Nat.le_refl _) (fun _ _ _ => rfl), Rel.moved hW.alike h3⟩
theorem zPc_call {X : Xs} {b Z : Nat} {D : va_G} {as : List Value} {κ : Kp} {M : Mem} {s U : State} {H : Heap} {locs : List Loc} (hwd : Wd X b Z D s) (hR : Rel b Z D κ M s H) (hS : va_S (fun q => Z ≤ q) s.heap H locs) (hU : U.heap = H) (hW : s.WarmedH U.vm) : zPc X b Z D as κ M ((as.map (tv b Z)).toArray) U := by
  subst hU
  exact ⟨rfl, hwd.go hW hS.1 (fun a h1 h2 => hS.2.1 a h1 h2), Rel.moved hW.alike hR⟩
/-- what is known of a method that is called -/
def MK (z : MI) (n : Nat) : Prop := cwOf z ∈ tblG ∧ Cond.initialized z.1.cls ∈ tblG ∧ z.2.2.2.2.1 = none ∧ (z.1.cls ≠ "java/lang/invoke/MethodHandle" ∧ z.1.cls ≠ "java/lang/invoke/VarHandle" ∧ (parseMethodDescriptor z.1.desc).map (fun d => d.parameters.length) = some n)
def roomB (y z : MI) (nc ks : Nat) : Prop := ((rmOf z).frames + 1 ≤ (rmOf y).frames ∧ 8 + (z.2.2.1 + 11) + (rmOf z).locals ≤ (rmOf y).locals) ∧ (nc + (rmOf z).cells ≤ (rmOf y).cells ∧ ks + (rmOf z).slots ≤ (rmOf y).slots)
theorem cwOf_none {z : MI} (h : z.2.2.2.2.1 = none) : cwOf z = .code z.1 z.2.1 z.2.2.1 z.2.2.2.1 := by unfold cwOf; rw [h]
theorem cwOf_some {z : MI} {hh : List (Nat × Nat × Nat × Nat)} (h : z.2.2.2.2.1 = some hh) : cwOf z = .codeWith z.1 z.2.1 z.2.2.1 z.2.2.2.1 hh := by unfold cwOf; rw [h]
def Kq (X : Xs) (y : MI) (is : List (Instr × Nat)) (pc : Nat) (lo : Lo) (st : List Value) (nc ks : Nat) (Q : Rs → Kp → Mem → Prop) : Rs → Kp → Mem → Prop := fun o κ M => match o with
  | .inl (some v) => G X y is pc lo (v :: st) nc ks κ M Q
  | .inl none => G X y is pc lo st nc ks κ M Q
  | .inr e => Q (.inr e) κ M
section CORE
variable {p : Program} {l : Launch} {e : Env} {R : Room} {s : State} {m : MethodId} {args : Array Value} {below : List Frame} {meth : Method} {c : Code} {H : Heap} {locs : List Loc} {nc ks mc ms : Nat} {Qf : State → Prop} {pc : Nat} {ls : Array Slot} {st0 rest : List Value} {b Z : Nat} {D : va_G} {K : Rs → Kp → Mem → Prop} {a : Array Value}
theorem call_core (hr : vx_Run p l e R s m args below meth c H locs nc ks mc ms (F0 m pc ls st0) rest (zQc b Z D K a) (zXC b Z D K) (fun q => Z ≤ q)) (hS : va_S (fun q => Z ≤ q) s.heap H locs)
    (hret : ∀ (v : Option Value) (κ' : Kp) (M' : Mem) (H' : Heap) (locs' : List Loc), K (.inl v) κ' M' → Rel b Z D κ' M' s H' → va_S (fun q => Z ≤ q) s.heap H' locs' → W p l e R s m args below meth c H' locs' (nc + mc) (ks + ms) Qf (F0 m (pc + 3) ls ((v.map (tv b Z)).toList ++ rest)))
    (hexc : ∀ (ex : Nat) (κ' : Kp) (M' : Mem) (H' : Heap) (locs' : List Loc) (q : Nat) (ce : Cell), K (.inr ex) κ' M' → Rel b Z D κ' M' s H' → va_S (fun q => Z ≤ q) s.heap H' locs' → H'[q]? = some ce → ce.vm = .none → s.vm.findClass (exN ex) = some ce.cls → vx_W p l e R s m args below meth c H' locs' (nc + mc) (ks + ms) Qf (F0 m pc ls rest) q) :
    W p l e R s m args below meth c H locs nc ks Qf (F0 m pc ls st0) := by
  intro T hT X
  rcases hr T hT X with ⟨v, st₀, t, T', L, h0, X', hL, e1, e2, ⟨⟨r, κ', M', hv, hK, hRel⟩, hF⟩, st⟩ | ⟨q, st₀, t, T', L, E, ce, h0, X', hL, e1, e2, ⟨⟨ex, κ', M', hE, hK, hRel⟩, hF⟩, hce, hcv, hcl, st⟩
  · obtain ⟨k1, k2, k3⟩ := vx_keep h0 e1 hS (fun _ _ h => h) (fun _ h => h) hL hF
    have hal : t.vm.Alike s.vm := by rw [← e2]; exact X'.warmed.alike.symm
    have hv' : v = r.map (tv b Z) := Outcome.returned.inj hv
    subst hv'
    obtain ⟨t2, a1, b1⟩ := hret r κ' M' T'.heap (locs ++ L) hK (by rw [e1]; exact hRel.moved hal) k3 T' rfl X'
    exact ⟨t2, st t2 a1, b1⟩
  · obtain ⟨k1, k2, k3⟩ := vx_keep h0 e1 hS (fun _ _ h => h) (fun _ h => h) hL hF
    have hal : t.vm.Alike s.vm := by rw [← e2]; exact X'.warmed.alike.symm
    subst hE
    obtain ⟨t2, a1, b1⟩ := hexc ex κ' M' T'.heap (locs ++ L) q ce hK (by rw [e1]; exact hRel.moved hal) k3 (by rw [e1]; exact hce) hcv hcl T' rfl X'
    exact ⟨t2, st.trans a1, b1⟩
end CORE
section CALLROWS
variable {X : Xs} {y : MI} {is : List (Instr × Nat)} {pc : Nat} {lo : Lo} {st stk as : List Value} {nc ks : Nat} {κ : Kp} {M : Mem} {Q : Rs → Kp → Mem → Prop} {own : String} {idx n r ci N : Nat} {cs : List Nat} {z : MI}
theorem hexc_out {p : Program} {l : Launch} {e : Env} {s : State} {m : MethodId} {args : Array Value} {below : List Frame} {meth : Method} {c : Code} {b Z : Nat} {D : va_G} (hy : y.2.2.2.2.1 = none) (hC : Cx X y l p s m args meth c b Z D) {ls : Array Slot} {rest : List Value} {K : Rs → Kp → Mem → Prop} (hK : ∀ e κ M, K (.inr e) κ M → Q (.inr e) κ M) {n2 k2 : Nat} (hr1 : n2 ≤ (rmOf y).cells) (hr2 : k2 ≤ (rmOf y).slots)
    (ex : Nat) (κ' : Kp) (M' : Mem) (H' : Heap) (locs' : List Loc) (q : Nat) (ce : Cell) (hk : K (.inr ex) κ' M') (hRel : Rel b Z D κ' M' s H') (hS : va_S (fun q => Z ≤ q) s.heap H' locs') (hce : H'[q]? = some ce) (hcv : ce.vm = .none) (hcl : s.vm.findClass (exN ex) = some ce.cls) :
    vx_W p l e (rmOf y) s m args below meth c H' locs' n2 k2 (vx_MQ below (zQc b Z D Q) (zXC b Z D Q) args s (rmOf y).cells (rmOf y).slots (fun q => Z ≤ q)) (F0 m pc ls rest) q := by
  refine vx_out (E := exN ex) (ce := ce) ?_ hC.2.2.2.2.2.1 hce hcv hcl ?_ hS.2.2 hr1 hr2
  · intro x hx
    rw [hC.2.2.2.2.2.2.2.1, hy] at hx
    cases hx
  · intro t ht hal
    exact ⟨⟨ex, κ', M', rfl, hK _ _ _ hk, by rw [ht]; exact hRel.moved hal⟩, hS.F ht⟩
theorem map_rev (b Z : Nat) (as : List Value) (v : List Value) : (as.reverse ++ v).map (tv b Z) = (as.map (tv b Z)).reverse ++ v.map (tv b Z) := by simp
theorem cat_map (b Z : Nat) (st : List Value) : ((st.map (tv b Z)).map fun v => v.category).sum = (st.map Value.category).sum := by
  rw [List.map_map]
  congr 2
  funext v
  exact tv_cat b Z v
theorem MK.cb {p : Program} {l : Launch} {s : State} {m : MethodId} {args : Array Value} {meth : Method} {c : Code} {b Z : Nat} {D : va_G} (hC : Cx X y l p s m args meth c b Z D) (hk : MK z n) (hl : Cond.methodLink own idx z.1 ∈ tblG) (hrm : roomB y z nc ks) :
    CallB (rmOf y) s args own idx z.1 z.2.1 z.2.2.1 z.2.2.2.1 (wsOf z) (rmOf z) (rmOf z).cells (rmOf z).slots n :=
  callB_of (ws' := tblG) n hC.words (good_wsOf hk.1) (by unfold wsOf; rw [cwOf_none hk.2.2.1]) rfl rfl (hC.word hk.2.1) (hC.word hl) hk.2.2.2 hrm.1
theorem g_callV (hk : MK z n) (hl : Cond.methodLink own idx z.1 ∈ tblG) (hi : Cond.instanceMethod z.1 ∈ tblG) (hv : Cond.selects z.1.cls z.1 z.1 ∈ tblG) (ho : y.1.cls = own) (hy : y.2.2.2.2.1 = none) (hrm : roomB y z nc ks) (hs : κ.2.1 r = some (ci, N, cs)) (hci : (vwCl[ci]?).map (fun q => q.1) = some z.1.cls)
    (hstk : stk = as.reverse ++ .ref r :: st) (hn : as.length = n) (hcat : (st.map Value.category).sum ≤ 8) (hz : Ct X z (.ref r :: as) κ M (Kq X y is (pc + 3) lo st (nc + (rmOf z).cells) (ks + (rmOf z).slots) Q)) : G X y ((.invokevirtual idx, 3) :: is) pc lo stk nc ks κ M Q := by
  intro hA l p e s m args below meth c b Z D H locs ls hC hR hS hL
  subst ho
  subst hstk
  obtain ⟨q, hq, hqn⟩ := Option.map_eq_some_iff.mp hci
  obtain ⟨hN, hlen, cell, q1, q2, q3, q4⟩ := cell_obj hR hs hq
  have hfc : s.vm.findClass z.1.cls = some cell.cls := by rw [q2, ← hqn]; exact (hC.wd.1.1 ci _ hq).2.1
  have hr := vx_runV (C := z.1.cls) (As := as.map (tv b Z)) (rest := st.map (tv b Z)) (n := n) (b := ad b Z r) (g := F0 m pc ls ((as.reverse ++ .ref r :: st).map (tv b Z))) (cells := nc) (slots := ks) (locs := locs) (H := H) (p := p) (e := e) (below := below) (meth := meth) (c := c) (index := idx) (own := y.1.cls)
    ⟨hC.2.1, hC.2.2.1, hC.2.2.2.1, hC.own, hC.words⟩ (hz l hC.1 b Z D) ⟨hk.cb hC hl hrm, hC.word hi, hC.word hv⟩
    ⟨zPc_blind _ _ _ _ _ _ _, ⟨cell, q1, by rw [q3]; rfl, hfc⟩, fun U hU hW => zPc_call hC.wd hR hS hU hW⟩ rfl (by rw [List.length_map]; exact hn) hL.1 (map_rev b Z as (.ref r :: st)) (lv_room (by rw [cat_map]; exact hcat)) hA.1 hrm.2
  refine call_core hr hS (fun v κ' M' H' locs' hK hRel hS' => ?_) (hexc_out (Q := Q) (K := Kq X y is (pc + 3) lo st (nc + (rmOf z).cells) (ks + (rmOf z).slots) Q) hy hC (fun e κ M h => h) hrm.2.1 hrm.2.2)
  cases v with
  | none => exact hK hA.2 l p e s m args below meth c b Z D H' locs' ls hC hRel hS' hL
  | some v => exact hK hA.2 l p e s m args below meth c b Z D H' locs' ls hC hRel hS' hL
theorem g_callS (hk : MK z n) (hl : Cond.methodLink own idx z.1 ∈ tblG) (hi : Cond.static z.1 ∈ tblG) (ho : y.1.cls = own) (hy : y.2.2.2.2.1 = none) (hrm : roomB y z nc ks)
    (hstk : stk = as.reverse ++ st) (hn : as.length = n) (hcat : (st.map Value.category).sum ≤ 8) (hz : Ct X z as κ M (Kq X y is (pc + 3) lo st (nc + (rmOf z).cells) (ks + (rmOf z).slots) Q)) : G X y ((.invokestatic idx, 3) :: is) pc lo stk nc ks κ M Q := by
  intro hA l p e s m args below meth c b Z D H locs ls hC hR hS hL
  subst ho
  subst hstk
  have hr := vx_runS (As := as.map (tv b Z)) (rest := st.map (tv b Z)) (n := n) (g := F0 m pc ls ((as.reverse ++ st).map (tv b Z))) (cells := nc) (slots := ks) (locs := locs) (H := H) (p := p) (e := e) (below := below) (meth := meth) (c := c) (index := idx) (own := y.1.cls)
    ⟨hC.2.1, hC.2.2.1, hC.2.2.2.1, hC.own, hC.words⟩ (hz l hC.1 b Z D) ⟨hk.cb hC hl hrm, hC.word hi⟩
    ⟨zPc_blind _ _ _ _ _ _ _, fun U hU hW => zPc_call hC.wd hR hS hU hW⟩ rfl (by rw [List.length_map]; exact hn) hL.1 (map_rev b Z as st) (lv_room (by rw [cat_map]; exact hcat)) hA.1 hrm.2
  refine call_core hr hS (fun v κ' M' H' locs' hK hRel hS' => ?_) (hexc_out (Q := Q) (K := Kq X y is (pc + 3) lo st (nc + (rmOf z).cells) (ks + (rmOf z).slots) Q) hy hC (fun e κ M h => h) hrm.2.1 hrm.2.2)
  cases v with
  | none => exact hK hA.2 l p e s m args below meth c b Z D H' locs' ls hC hRel hS' hL
  | some v => exact hK hA.2 l p e s m args below meth c b Z D H' locs' ls hC hRel hS' hL
theorem g_callI (hk : MK z n) (hl : Cond.methodLink own idx z.1 ∈ tblG) (hi : Cond.instanceMethod z.1 ∈ tblG) (hin : z.1.name = "<init>") (hret : z.2.2.2.1 = none) (ho : y.1.cls = own) (hy : y.2.2.2.2.1 = none) (hrm : roomB y z nc ks)
    (hstk : stk = as.reverse ++ .ref r :: st) (hn : as.length = n) (hcat : (st.map Value.category).sum ≤ 8) (hz : Ct X z (.ref r :: as) κ M (Kq X y is (pc + 3) lo st (nc + (rmOf z).cells) (ks + (rmOf z).slots) Q)) : G X y ((.invokespecial idx, 3) :: is) pc lo stk nc ks κ M Q := by
  intro hA l p e s m args below meth c b Z D H locs ls hC hR hS hL
  subst ho
  subst hstk
  have hcb := hk.cb hC hl hrm
  rw [hret] at hcb
  have hr := vx_runI (As := as.map (tv b Z)) (rest := st.map (tv b Z)) (n := n) (b := ad b Z r) (g := F0 m pc ls ((as.reverse ++ .ref r :: st).map (tv b Z))) (cells := nc) (slots := ks) (locs := locs) (H := H) (p := p) (e := e) (below := below) (meth := meth) (c := c) (index := idx) (own := y.1.cls)
    ⟨hC.2.1, hC.2.2.1, hC.2.2.2.1, hC.own, hC.words⟩ (hz l hC.1 b Z D) ⟨hcb, hin, hC.word hi⟩
    ⟨zPc_blind _ _ _ _ _ _ _, fun U hU hW => zPc_call hC.wd hR hS hU hW⟩ rfl (by rw [List.length_map]; exact hn) hL.1 (map_rev b Z as (.ref r :: st)) (lv_room (by rw [cat_map]; exact hcat)) hA.1 hrm.2
  refine call_core hr hS (fun v κ' M' H' locs' hK hRel hS' => ?_) (hexc_out (Q := Q) (K := Kq X y is (pc + 3) lo st (nc + (rmOf z).cells) (ks + (rmOf z).slots) Q) hy hC (fun e κ M h => h) hrm.2.1 hrm.2.2)
  cases v with
  | none => exact hK hA.2 l p e s m args below meth c b Z D H' locs' ls hC hRel hS' hL
  | some v => exact hK hA.2 l p e s m args below meth c b Z D H' locs' ls hC hRel hS' hL
theorem MK.cn {p : Program} {l : Launch} {s : State} {m : MethodId} {args : Array Value} {meth : Method} {c : Code} {b Z : Nat} {D : va_G} {host : String} (hC : Cx X y l p s m args meth c b Z D) (hk : MK z n) (hl : (own, idx, z.1, host) ∈ nestW) (hrm : roomB y z nc ks) :
    va_CN (rmOf y) s args own idx z.1 host z.2.1 z.2.2.1 z.2.2.2.1 (wsOf z) (rmOf z) (rmOf z).cells (rmOf z).slots n :=
  va_cnB (ws' := tblG) n hC.words (good_wsOf hk.1) (by unfold wsOf; rw [cwOf_none hk.2.2.1]) rfl rfl (hC.wd.2.2.2.2.2.2.1 _ hl) (hC.word hk.2.1) hk.2.2.2 hrm.1
theorem g_callIN {host : String} (hk : MK z n) (hl : (own, idx, z.1, host) ∈ nestW) (hi : Cond.instanceMethod z.1 ∈ tblG) (hin : z.1.name = "<init>") (hret : z.2.2.2.1 = none) (ho : y.1.cls = own) (hy : y.2.2.2.2.1 = none) (hrm : roomB y z nc ks)
    (hstk : stk = as.reverse ++ .ref r :: st) (hn : as.length = n) (hcat : (st.map Value.category).sum ≤ 8) (hz : Ct X z (.ref r :: as) κ M (Kq X y is (pc + 3) lo st (nc + (rmOf z).cells) (ks + (rmOf z).slots) Q)) : G X y ((.invokespecial idx, 3) :: is) pc lo stk nc ks κ M Q := by
  intro hA l p e s m args below meth c b Z D H locs ls hC hR hS hL
  subst ho
  subst hstk
  have hcb := hk.cn hC hl hrm
  rw [hret] at hcb
  have hr := vx_runIN (As := as.map (tv b Z)) (rest := st.map (tv b Z)) (n := n) (b := ad b Z r) (g := F0 m pc ls ((as.reverse ++ .ref r :: st).map (tv b Z))) (cells := nc) (slots := ks) (locs := locs) (H := H) (p := p) (e := e) (below := below) (meth := meth) (c := c) (index := idx) (own := y.1.cls)
    ⟨hC.2.1, hC.2.2.1, hC.2.2.2.1, hC.own, hC.words⟩ (hz l hC.1 b Z D) ⟨hcb, hin, hC.word hi⟩
    ⟨zPc_blind _ _ _ _ _ _ _, fun U hU hW => zPc_call hC.wd hR hS hU hW⟩ rfl (by rw [List.length_map]; exact hn) hL.1 (map_rev b Z as (.ref r :: st)) (lv_room (by rw [cat_map]; exact hcat)) hA.1 hrm.2
  refine call_core hr hS (fun v κ' M' H' locs' hK hRel hS' => ?_) (hexc_out (Q := Q) (K := Kq X y is (pc + 3) lo st (nc + (rmOf z).cells) (ks + (rmOf z).slots) Q) hy hC (fun e κ M h => h) hrm.2.1 hrm.2.2)
  cases v with
  | none => exact hK hA.2 l p e s m args below meth c b Z D H' locs' ls hC hRel hS' hL
  | some v => exact hK hA.2 l p e s m args below meth c b Z D H' locs' ls hC hRel hS' hL
theorem g_callSN {host : String} (hk : MK z n) (hl : (own, idx, z.1, host) ∈ nestW) (hi : Cond.static z.1 ∈ tblG) (ho : y.1.cls = own) (hy : y.2.2.2.2.1 = none) (hrm : roomB y z nc ks)
    (hstk : stk = as.reverse ++ st) (hn : as.length = n) (hcat : (st.map Value.category).sum ≤ 8) (hz : Ct X z as κ M (Kq X y is (pc + 3) lo st (nc + (rmOf z).cells) (ks + (rmOf z).slots) Q)) : G X y ((.invokestatic idx, 3) :: is) pc lo stk nc ks κ M Q := by
  intro hA l p e s m args below meth c b Z D H locs ls hC hR hS hL
  subst ho
  subst hstk
  have hr := vx_runSN (As := as.map (tv b Z)) (rest := st.map (tv b Z)) (n := n) (g := F0 m pc ls ((as.reverse ++ st).map (tv b Z))) (cells := nc) (slots := ks) (locs := locs) (H := H) (p := p) (e := e) (below := below) (meth := meth) (c := c) (index := idx) (own := y.1.cls)
    ⟨hC.2.1, hC.2.2.1, hC.2.2.2.1, hC.own, hC.words⟩ (hz l hC.1 b Z D) ⟨hk.cn hC hl hrm, hC.word hi, trivial⟩
    ⟨zPc_blind _ _ _ _ _ _ _, fun U hU hW => zPc_call hC.wd hR hS hU hW⟩ rfl (by rw [List.length_map]; exact hn) hL.1 (map_rev b Z as st) (lv_room (by rw [cat_map]; exact hcat)) hA.1 hrm.2
  refine call_core hr hS (fun v κ' M' H' locs' hK hRel hS' => ?_) (hexc_out (Q := Q) (K := Kq X y is (pc + 3) lo st (nc + (rmOf z).cells) (ks + (rmOf z).slots) Q) hy hC (fun e κ M h => h) hrm.2.1 hrm.2.2)
  cases v with
  | none => exact hK hA.2 l p e s m args below meth c b Z D H' locs' ls hC hRel hS' hL
  | some v => exact hK hA.2 l p e s m args below meth c b Z D H' locs' ls hC hRel hS' hL
/-- Object.<init>() -/
theorem g_objI (hl : Cond.methodLink own idx Lib.objectInit ∈ tblG) (hi : Cond.instanceMethod Lib.objectInit ∈ tblG) (hc : Cond.code Lib.objectInit ⟨#[0xb1]⟩ 1 none ∈ tblG) (ho : y.1.cls = own) (hf : 1 ≤ (rmOf y).frames) (hlo : (st.map Value.category).sum + 12 ≤ (rmOf y).locals)
    (kk : G X y is (pc + 3) lo st nc ks κ M Q) : G X y ((.invokespecial idx, 3) :: is) pc lo (.ref r :: st) nc ks κ M Q := by
  intro hA l p e s m args below meth c b Z D H locs ls hC hR hS hL
  subst ho
  refine W.objInit (a := ad b Z r) (rest := st.map (tv b Z)) hC.2.1 hC.2.2.1 hC.own (hC.word hl) (hC.word hi) (hC.word hc) rfl (hL.1.trans hC.2.2.2.1.symm) rfl hA.1 hf ?_ (kk hA.2 l p e s m args below meth c b Z D H locs ls hC hR hS hL)
  rw [cat_map]
  show 2 * 0 + _ + 12 ≤ _
  omega
/-- the ends -/
theorem g_iret {v : Int32} (hr : y.2.2.2.1 = some .int) (h1 : nc ≤ (rmOf y).cells) (h2 : ks ≤ (rmOf y).slots) (hq : Q (.inl (some (.int v))) κ M) : G X y ((.ireturn, 1) :: is) pc lo [.int v] nc ks κ M Q := by
  intro hA l p e s m args below meth c b Z D H locs ls hC hR hS hL
  refine W.widen h1 h2 (vx_ret (W.iret hC.2.1 hC.2.2.1 (hC.2.2.2.2.1.trans hr) (fun t ht hW => ⟨⟨some (.int v), κ, M, rfl, hq, ?_⟩, hS.F ht⟩) hS.2.2 hA.1 hC.2.2.2.2.2.1))
  rw [ht]; exact hR.moved hW.alike
theorem g_zret {v : Int32} {ty : FieldType} (hr : y.2.2.2.1 = some ty) (hn : narrow ty (.int v) = .int v) (h1 : nc ≤ (rmOf y).cells) (h2 : ks ≤ (rmOf y).slots) (hq : Q (.inl (some (.int v))) κ M) : G X y ((.ireturn, 1) :: is) pc lo [.int v] nc ks κ M Q := by
  intro hA l p e s m args below meth c b Z D H locs ls hC hR hS hL
  refine W.widen h1 h2 (vx_ret (W.zret hC.2.1 hC.2.2.1 (hC.2.2.2.2.1.trans hr) hn (fun t ht hW => ⟨⟨some (.int v), κ, M, rfl, hq, ?_⟩, hS.F ht⟩) hS.2.2 hA.1 hC.2.2.2.2.2.1))
  rw [ht]; exact hR.moved hW.alike
theorem g_lret {v : Int64} (hr : y.2.2.2.1 = some .long) (h1 : nc ≤ (rmOf y).cells) (h2 : ks ≤ (rmOf y).slots) (hq : Q (.inl (some (.long v))) κ M) : G X y ((.lreturn, 1) :: is) pc lo [.long v] nc ks κ M Q := by
  intro hA l p e s m args below meth c b Z D H locs ls hC hR hS hL
  refine W.widen h1 h2 (vx_ret (W.lret hC.2.1 hC.2.2.1 (hC.2.2.2.2.1.trans hr) (fun t ht hW => ⟨⟨some (.long v), κ, M, rfl, hq, ?_⟩, hS.F ht⟩) hS.2.2 hA.1 hC.2.2.2.2.2.1))
  rw [ht]; exact hR.moved hW.alike
theorem g_vret (hr : y.2.2.2.1 = none) (h1 : nc ≤ (rmOf y).cells) (h2 : ks ≤ (rmOf y).slots) (hq : Q (.inl none) κ M) : G X y ((.return_, 1) :: is) pc lo [] nc ks κ M Q := by
  intro hA l p e s m args below meth c b Z D H locs ls hC hR hS hL
  refine W.widen h1 h2 (vx_ret (W.vret hC.2.1 hC.2.2.1 (hC.2.2.2.2.1.trans hr) (fun t ht hW => ⟨⟨none, κ, M, rfl, hq, ?_⟩, hS.F ht⟩) hS.2.2 hA.1 hC.2.2.2.2.2.1))
  rw [ht]; exact hR.moved hW.alike
end CALLROWS
/-- the start of a method -/
def loA : Nat → List Value → Lo
  | _, [] => []
  | i, v :: vs => (i, some v) :: loA (bif Nat.beq v.category 2 then i + 2 else i + 1) vs
theorem loA_in (b Z : Nat) : ∀ (vs : List Value) (k i : Nat) (v : Value), lg (loA k vs) i = some v → (i, tv b Z v) ∈ lv_args k (vs.map (tv b Z))
  | [], _, _, _, h => by cases h
  | w :: vs, k, i, v, h => by
    have h : lg ((k, some w) :: loA (bif Nat.beq w.category 2 then k + 2 else k + 1) vs) i = some v := h
    have he : (bif Nat.beq w.category 2 then k + 2 else k + 1) = (if (tv b Z w).category = 2 then k + 2 else k + 1) := by
      rw [tv_cat]
      rcases lv_cat w with e | e <;> rw [e] <;> rfl
    rw [he] at h
    show (i, tv b Z v) ∈ (k, tv b Z w) :: lv_args (if (tv b Z w).category = 2 then k + 2 else k + 1) (vs.map (tv b Z))
    rw [lg_cons] at h
    by_cases hk : k = i
    · rw [if_pos hk] at h
      cases h
      rw [hk]
      exact List.mem_cons_self
    · rw [if_neg hk] at h
      exact List.mem_cons_of_mem _ (loA_in b Z vs _ i v h)
theorem ct_body {X : Xs} {y : MI} {as : List Value} {κ : Kp} {M : Mem} {Q : Rs → Kp → Mem → Prop} {is : List (Instr × Nat)} (hsz : (as.map Value.category).sum ≤ y.2.2.1) (hA : CdAt y.2.1 0 is) (h : G X y is 0 (loA 0 as) [] 0 0 κ M Q)
    {p : Program} {l : Launch} {e : Env} {s : State} {m : MethodId} {args : Array Value} {below : List Frame} {meth : Method} {c : Code} {s₁ : State} {b Z : Nat} {D : va_G} (hl : l.stackTraces = false) (B : BodyLoose p l y.1 (headSpec (wsOf y) (rmOf y)) y.2.1 y.2.2.1 y.2.2.2.1 e s m args below meth c s₁) (hml : c.maxLocals = y.2.2.1) (ht : c.exceptionTable.toList = tableOf (y.2.2.2.2.1.getD [])) (hv : zPc X b Z D as κ M args s) :
    W p l e (rmOf y) s m args below meth c s.heap [] 0 0 (vx_MQ below (zQc b Z D Q) (zXC b Z D Q) args s (rmOf y).cells (rmOf y).slots (fun q => Z ≤ q)) (entryFrame m args y.2.2.1) := by
  obtain ⟨rfl, hwd, hR⟩ := hv
  have hin : meth.name = y.1.name := (name_of_methodNamed B.named B.method).1
  have hsl : (lg_sl (as.map (tv b Z))).length = (as.map Value.category).sum := by
    clear hwd hR hsz h B
    induction as with
    | nil => rfl
    | cons v vs ih =>
      have e1 : lg_sl ((v :: vs).map (tv b Z)) = (if (tv b Z v).category = 2 then [Slot.val (tv b Z v), .second] else [Slot.val (tv b Z v)]) ++ lg_sl (vs.map (tv b Z)) := rfl
      rw [e1, List.length_append, ih, tv_cat]
      rcases lv_cat v with e | e <;> simp [e]
  have hl0 := lv_entry (as.map (tv b Z)) (n := y.2.2.1) (by rw [hsl]; exact hsz)
  rw [lg_entry_eq]
  exact h hA l p e s m _ below meth c b Z D s.heap [] _ ⟨hl, B.exec, B.bytes, hml, B.returns, B.notSynchronized, hin, ht, findClass_of_methodNamed B.named, atoms_spec (ws := wsOf y) B.pre, hwd⟩ hR va_S.rf
    ⟨hl0.1, hl0.2.1, fun i v hg => hl0.2.2 (i, tv b Z v) (loA_in b Z as 0 i v hg)⟩
theorem ct_of {X : Xs} {y : MI} {as : List Value} {κ : Kp} {M : Mem} {Q : Rs → Kp → Mem → Prop} (is : List (Instr × Nat)) (hp : plainName y.1.cls = true) (hh : y.2.2.2.2.1 = none) (hsz : (as.map Value.category).sum ≤ y.2.2.1) (hA : CdAt y.2.1 0 is) (h : G X y is 0 (loA 0 as) [] 0 0 κ M Q) : Ct X y as κ M Q := by
  intro l hl b Z D
  refine vx_ofW (cc := y.2.1) (maxL := y.2.2.1) (ret := y.2.2.2.1) (ws' := tblG) hp (by unfold wsOf; rw [cwOf_none hh]) ?_
  intro p e s m args below meth c s₁ B hml ht hv
  refine ct_body hsz hA h hl B hml ?_ hv
  rw [hh]
  cases hc : c.exceptionTable.toList with
  | nil => rfl
  | cons a t => exact absurd (ht a (by rw [hc]; exact List.mem_cons_self)) (fun h => h)
theorem ct_ofH {X : Xs} {y : MI} {as : List Value} {κ : Kp} {M : Mem} {Q : Rs → Kp → Mem → Prop} {hh : List (Nat × Nat × Nat × Nat)} (is : List (Instr × Nat)) (hp : plainName y.1.cls = true) (hy : y.2.2.2.2.1 = some hh) (hsz : (as.map Value.category).sum ≤ y.2.2.1) (hA : CdAt y.2.1 0 is) (h : G X y is 0 (loA 0 as) [] 0 0 κ M Q) : Ct X y as κ M Q := by
  intro l hl b Z D
  refine vx_ofWH (cc := y.2.1) (maxL := y.2.2.1) (ret := y.2.2.2.1) (ws' := tblG) (hh := hh) hp (by unfold wsOf; rw [cwOf_some hy]) ?_
  intro p e s m args below meth c s₁ B hml hv
  refine ct_body hsz hA h hl B hml ?_ hv
  rw [hy]
  have hw : (cwOf y).before args s = true := atoms_spec (ws := wsOf y) B.pre _ List.mem_cons_self
  rw [cwOf_some hy] at hw
  exact vx_table (x := y.1) B hw
theorem Ct.mono {X : Xs} {y : MI} {as : List Value} {κ : Kp} {M : Mem} {Q Q' : Rs → Kp → Mem → Prop} (h : Ct X y as κ M Q) (hQ : ∀ o κ M, Q o κ M → Q' o κ M) : Ct X y as κ M Q' := by
  intro l hl b Z D
  refine MetFree.mono (h l hl b Z D) (fun _ _ hp => hp) (fun _ _ _ _ _ hk => hk) (fun a st o t _ hq => ?_)
  rcases hq with ⟨⟨⟨r, κ', M', h1, h2, h3⟩, hF⟩, hL⟩ | ⟨q, ho, E, ce, L, ⟨⟨ex, κ', M', hE, h2, h3⟩, hF⟩, hrest⟩
  · exact Or.inl ⟨⟨⟨r, κ', M', h1, hQ _ _ _ h2, h3⟩, hF⟩, hL⟩
  · exact Or.inr ⟨q, ho, E, ce, L, ⟨⟨ex, κ', M', hE, hQ _ _ _ h2, h3⟩, hF⟩, hrest⟩
/-- a throw: 'throw new E("..")' -/
theorem Rel.grow {b Z : Nat} {D : va_G} {κ : Kp} {M : Mem} {U : State} {H H' : Heap} (hR : Rel b Z D κ M U H) (hz : H.size ≤ H'.size) (hq : ∀ q : Nat, q < H.size → H'[q]? = H[q]?) : Rel b Z D (κ.1, κ.2.1, false) M U H' := by
  refine ⟨fun r sh hs => ⟨(hR.1 r sh hs).1, (hR.1 r sh hs).2.kept (hq _ ?_) (fun _ => rfl)⟩, Nat.le_trans hR.2.1 hz, fun h => by cases h⟩
  obtain ⟨h1, h2⟩ := (hR.1 r sh hs).1
  have h3 := hR.2.1
  cases r with
  | zero => omega
  | succ a => show Z + a < H.size; omega
def thrN : List String := ["java/lang/RuntimeException", "java/lang/Exception"]
def TH (own : String) (ik ic e : Nat) : Prop := Cond.classLink own ik (exN e) ∈ tblG ∧ Cond.initialized (exN e) ∈ tblG ∧ (∀ w ∈ (vx_atS own ic (exN e) thrN).filter goodWord, w ∈ tblG) ∧
  (∀ w ∈ (vx_atS own ic (exN e) thrN).filter (fun w => !goodWord w), w ∈ Cond.castable (exN e) (exN e) :: declW.map Cond.declares) ∧ (∀ w ∈ Cond.classLink own ik (exN e) :: Cond.initialized (exN e) :: vx_atS own ic (exN e) thrN, vx_ot w = true) ∧ exN e ∈ castW ∧ Bundle.fit (exN e) = true
theorem thrN_fit : ∀ n ∈ thrN, Bundle.fit n = true := by decide +kernel
section THROWS
variable {X : Xs} {y : MI} {is : List (Instr × Nat)} {pc : Nat} {lo : Lo} {st : List Value} {nc ks : Nat} {κ : Kp} {M : Mem} {Q : Rs → Kp → Mem → Prop}
theorem g_throw {own text : String} {ik ic isx e : Nat} (hth : TH own ik ic e) (htx : (own, isx, text) ∈ strW) (ho : y.1.cls = own) (hy : y.2.2.2.2.1 = none) (hf : 5 < (rmOf y).frames) (hlo : (st.map Value.category).sum + 82 ≤ (rmOf y).locals) (h1 : nc + 1 ≤ (rmOf y).cells) (h2 : ks + 6 ≤ (rmOf y).slots)
    (hq : Q (.inr e) (κ.1, κ.2.1, false) M) : G X y ((.new ik, 3) :: (.dup, 1) :: (.ldc isx, 2) :: (.invokespecial ic, 3) :: (.athrow, 1) :: is) pc lo st nc ks κ M Q := by
  intro hA l p e' s m args below meth c b Z D H locs ls hC hR hS hL
  subst ho
  obtain ⟨t1, t2, t3, t4, t5, t6, t7⟩ := hth
  obtain ⟨-, -, -, hZs, hU, hN, hnw⟩ := hC.wd
  obtain ⟨sa, hstr⟩ := hnw.2.2.2.1 _ htx
  have hB : ∀ w ∈ Cond.castable (exN e) (exN e) :: declW.map Cond.declares, w.before args s = true := by
    intro w hw
    rcases List.mem_cons.mp hw with hw | hw
    · rw [hw]; exact va_Nw.use rfl (hnw.2.2.2.2.1 _ t6)
    · obtain ⟨q, hq1, rfl⟩ := List.mem_map.mp hw
      exact va_Nw.use rfl (hnw.2.2.2.2.2 _ hq1)
  have hat : ∀ w ∈ vx_atS y.1.cls ic (exN e) thrN, w.before args s = true := vx_hat (fun w hw => hC.word (t3 w hw)) t4 hB
  have hout : ∀ x ∈ c.exceptionTable.toList, covers x (pc + 9) = false := by
    intro x hx
    rw [hC.2.2.2.2.2.2.2.1, hy] at hx
    cases hx
  refine vx_throwS (names := thrN) (A := fun q => Z ≤ q) hC.2.1 hC.2.2.1 hC.1 hC.own t7 thrN_fit (hC.word t1) (hC.word t2) hstr hat t5 hU hN hS (hL.1.trans hC.2.2.2.1.symm) hA.1 hA.2.1 hA.2.2.1 hA.2.2.2.1 hA.2.2.2.2.1 hout hf ?_ h1 h2 hC.2.2.2.2.2.1 ?_ hS.2.2 h1 h2
  · rw [cat_map]; exact hlo
  · intro t hal hz hk
    exact ⟨⟨e, _, M, rfl, hq, (hR.moved hal).grow hz hk⟩, ⟨Nat.le_trans hS.1 hz, fun q h3 h4 => (hk q (Nat.lt_of_lt_of_le h3 hS.1)).trans (hS.2.1 q h3 h4)⟩⟩
theorem g_throwW {own text : String} {ik ic isx e : Nat} (hth : TH own ik ic e) (htx : (own, isx, text) ∈ strW) (ho : y.1.cls = own) (hy : y.2.2.2.2.1 = none) (hf : 5 < (rmOf y).frames) (hlo : (st.map Value.category).sum + 82 ≤ (rmOf y).locals) (h1 : nc + 1 ≤ (rmOf y).cells) (h2 : ks + 6 ≤ (rmOf y).slots)
    (hq : Q (.inr e) (κ.1, κ.2.1, false) M) : G X y ((.new ik, 3) :: (.dup, 1) :: (.ldc_w isx, 3) :: (.invokespecial ic, 3) :: (.athrow, 1) :: is) pc lo st nc ks κ M Q := by
  intro hA l p e' s m args below meth c b Z D H locs ls hC hR hS hL
  subst ho
  obtain ⟨t1, t2, t3, t4, t5, t6, t7⟩ := hth
  obtain ⟨-, -, -, hZs, hU, hN, hnw⟩ := hC.wd
  obtain ⟨sa, hstr⟩ := hnw.2.2.2.1 _ htx
  have hB : ∀ w ∈ Cond.castable (exN e) (exN e) :: declW.map Cond.declares, w.before args s = true := by
    intro w hw
    rcases List.mem_cons.mp hw with hw | hw
    · rw [hw]; exact va_Nw.use rfl (hnw.2.2.2.2.1 _ t6)
    · obtain ⟨q, hq1, rfl⟩ := List.mem_map.mp hw
      exact va_Nw.use rfl (hnw.2.2.2.2.2 _ hq1)
  have hat : ∀ w ∈ vx_atS y.1.cls ic (exN e) thrN, w.before args s = true := vx_hat (fun w hw => hC.word (t3 w hw)) t4 hB
  have hout : ∀ x ∈ c.exceptionTable.toList, covers x (pc + 10) = false := by
    intro x hx
    rw [hC.2.2.2.2.2.2.2.1, hy] at hx
    cases hx
  refine vx_throwSW (names := thrN) (A := fun q => Z ≤ q) hC.2.1 hC.2.2.1 hC.1 hC.own t7 thrN_fit (hC.word t1) (hC.word t2) hstr hat t5 hU hN hS (hL.1.trans hC.2.2.2.1.symm) hA.1 hA.2.1 hA.2.2.1 hA.2.2.2.1 hA.2.2.2.2.1 hout hf ?_ h1 h2 hC.2.2.2.2.2.1 ?_ hS.2.2 h1 h2
  · rw [cat_map]; exact hlo
  · intro t hal hz hk
    exact ⟨⟨e, _, M, rfl, hq, (hR.moved hal).grow hz hk⟩, ⟨Nat.le_trans hS.1 hz, fun q h3 h4 => (hk q (Nat.lt_of_lt_of_le h3 hS.1)).trans (hS.2.1 q h3 h4)⟩⟩
/-- a handler of the law's methods: 'catch (E e) { return j; }' -/
def Hdl (y : MI) (hh : List (Nat × Nat × Nat × Nat)) (pc e : Nat) (j : Int32) : Prop := ∃ (pre : List (Nat × Nat × Nat × Nat)) (x : Nat × Nat × Nat × Nat) (suf : List (Nat × Nat × Nat × Nat)) (ia : Instr × Nat) (i : Int) (a : Nat), hh = pre ++ x :: suf ∧
  (∀ z ∈ pre, z.2.2.2 ≠ 0 ∧ ∃ nm : String, Cond.classLink y.1.cls z.2.2.2 nm ∈ tblG ∧ (exN e, nm) ∈ ncW) ∧ covers ⟨x.1, x.2.1, x.2.2.1, x.2.2.2⟩ pc = true ∧ x.2.2.2 ≠ 0 ∧ Cond.classLink y.1.cls x.2.2.2 (exN e) ∈ tblG ∧ exN e ∈ castW ∧
  (ia = (.astore a, 2) ∨ ∃ f : Fin 4, (f : Nat) = a ∧ ia = (.astore_n f, 1)) ∧ a < y.2.2.1 ∧ Int32.ofInt i = j ∧ CdAt y.2.1 x.2.2.1 [ia, (.iconst i, 1), (.ireturn, 1)]
theorem g_callVh {own : String} {idx n r ci N : Nat} {cs : List Nat} {z : MI} {as stk : List Value} {hh : List (Nat × Nat × Nat × Nat)} (hk : MK z n) (hl : Cond.methodLink own idx z.1 ∈ tblG) (hi : Cond.instanceMethod z.1 ∈ tblG) (hv : Cond.selects z.1.cls z.1 z.1 ∈ tblG) (ho : y.1.cls = own) (hy : y.2.2.2.2.1 = some hh) (hret : y.2.2.2.1 = some .int) (hrm : roomB y z nc ks) (hs : κ.2.1 r = some (ci, N, cs)) (hci : (vwCl[ci]?).map (fun q => q.1) = some z.1.cls)
    (hstk : stk = as.reverse ++ .ref r :: st) (hn : as.length = n) (hcat : (st.map Value.category).sum ≤ 8)
    (hz : Ct X z (.ref r :: as) κ M (fun o κ' M' => match o with
      | .inl (some v) => G X y is (pc + 3) lo (v :: st) (nc + (rmOf z).cells) (ks + (rmOf z).slots) κ' M' Q
      | .inl none => G X y is (pc + 3) lo st (nc + (rmOf z).cells) (ks + (rmOf z).slots) κ' M' Q
      | .inr e => ∃ j : Int32, Hdl y hh pc e j ∧ Q (.inl (some (.int j))) κ' M')) : G X y ((.invokevirtual idx, 3) :: is) pc lo stk nc ks κ M Q := by
  intro hA l p e s m args below meth c b Z D H locs ls hC hR hS hL
  subst ho
  subst hstk
  obtain ⟨q, hq, hqn⟩ := Option.map_eq_some_iff.mp hci
  obtain ⟨hN, hlen, cell, q1, q2, q3, q4⟩ := cell_obj hR hs hq
  have hfc : s.vm.findClass z.1.cls = some cell.cls := by rw [q2, ← hqn]; exact (hC.wd.1.1 ci _ hq).2.1
  have hr := vx_runV (C := z.1.cls) (As := as.map (tv b Z)) (rest := st.map (tv b Z)) (n := n) (b := ad b Z r) (g := F0 m pc ls ((as.reverse ++ .ref r :: st).map (tv b Z))) (cells := nc) (slots := ks) (locs := locs) (H := H) (p := p) (e := e) (below := below) (meth := meth) (c := c) (index := idx) (own := y.1.cls)
    ⟨hC.2.1, hC.2.2.1, hC.2.2.2.1, hC.own, hC.words⟩ (hz l hC.1 b Z D) ⟨hk.cb hC hl hrm, hC.word hi, hC.word hv⟩
    ⟨zPc_blind _ _ _ _ _ _ _, ⟨cell, q1, by rw [q3]; rfl, hfc⟩, fun U hU hW => zPc_call hC.wd hR hS hU hW⟩ rfl (by rw [List.length_map]; exact hn) hL.1 (map_rev b Z as (.ref r :: st)) (lv_room (by rw [cat_map]; exact hcat)) hA.1 hrm.2
  refine call_core hr hS (fun v κ' M' H' locs' hK hRel hS' => ?_) (fun ex κ' M' H' locs' qa ce hK hRel hS' hce hcv hcl => ?_)
  · cases v with
    | none => exact hK hA.2 l p e s m args below meth c b Z D H' locs' ls hC hRel hS' hL
    | some v => exact hK hA.2 l p e s m args below meth c b Z D H' locs' ls hC hRel hS' hL
  · obtain ⟨j, ⟨pre, x, suf, ia, i, a, e1, e2, e3, e4, e5, e6, e7, e8, e9, e10⟩, hQ⟩ := hK
    obtain ⟨-, -, -, -, -, -, hnw⟩ := hC.wd
    have htab : c.exceptionTable.toList = tableOf hh := by rw [hC.2.2.2.2.2.2.2.1, hy]; rfl
    refine vx_catch (own := y.1.cls) (name := exN ex) (E := exN ex) hC.own (tableOf pre) ⟨x.1, x.2.1, x.2.2.1, x.2.2.2⟩ (tableOf suf) ?_ ?_ e3 e4 (hC.word e5) (va_Nw.use rfl (hnw.2.2.2.2.1 _ e6)) hce hcv hcl ?_
    · rw [htab, e1]; simp [tableOf]
    · intro z hz
      obtain ⟨w, hw, rfl⟩ := List.mem_map.mp hz
      obtain ⟨h1, nm, h2, h3⟩ := e2 w hw
      exact Or.inr ⟨h1, nm, hC.word h2, hnw.2.2.1 _ h3⟩
    · obtain ⟨d1, d2, d3, -⟩ := e10
      have fin : ∀ ls' : Array Slot, W p l e (rmOf y) s m args below meth c H' locs' (nc + (rmOf z).cells) (ks + (rmOf z).slots) (vx_MQ below (zQc b Z D Q) (zXC b Z D Q) args s (rmOf y).cells (rmOf y).slots (fun q => Z ≤ q)) (F0 m (x.2.2.1 + ia.2) ls' []) := by
        intro ls'
        refine lv_iconst (v := j) hC.2.1 hC.2.2.1 d2 e9 ?_
        refine W.widen hrm.2.1 hrm.2.2 (vx_ret (W.iret hC.2.1 hC.2.2.1 (hC.2.2.2.2.1.trans hret) (fun t ht hW => ⟨⟨some (.int j), κ', M', rfl, hQ, ?_⟩, hS'.F ht⟩) hS'.2.2 d3 hC.2.2.2.2.2.1))
        rw [ht]; exact hRel.moved hW.alike
      have hls : lv_has ls y.2.2.1 [] := ⟨hL.1, hL.2.1, fun q hq => by cases hq⟩
      rcases e7 with rfl | ⟨f, hf, rfl⟩
      · exact lv_astore (lv := []) hC.2.1 hC.2.2.1 d1 hls e8 rfl (fun ls' _ => fin ls')
      · subst hf
        exact lv_astore_n (lv := []) hC.2.1 hC.2.2.1 d1 rfl hls e8 rfl (fun ls' _ => fin ls')
end THROWS
end
section
def zM (M : Mem) (r : Nat) : Mem := fun r' j => if r' = r then 0 else M r' j
theorem zM_s (M : Mem) (r j : Nat) : zM M r r j = 0 := if_pos rfl
theorem zM_o (M : Mem) (r : Nat) {r' : Nat} (h : r' ≠ r) (j : Nat) : zM M r r' j = M r' j := if_neg h
def NWK (own : String) (idx ci N : Nat) (ds : List Nat) : Prop := ∃ q : vw_C, vwCl[ci]? = some q ∧ q.2.2 = N ∧ ds.length = N ∧ Cond.classLink own idx q.1 ∈ tblG ∧ Cond.instantiable q.1 q.2.2 ∈ tblG ∧ Cond.initialized q.1 ∈ tblG ∧ (∀ w ∈ u_ws q.1 q.2.1 q.2.2, w ∈ tblG) ∧
  ∃ ty0 : Nat → FieldType, (∀ k, k < q.2.2 → parseFieldDescriptor (q.2.1 k).2.2.1 = some (ty0 k)) ∧ (∀ k, k < q.2.2 → (ds.getD k 0 = 0 ∧ defaultValue (ty0 k) = .int 0) ∨ (ds.getD k 0 = 1 ∧ defaultValue (ty0 k) = .null))
section MAKES
variable {X : Xs} {y : MI} {is : List (Instr × Nat)} {pc : Nat} {lo : Lo} {st : List Value} {nc ks : Nat} {κ : Kp} {M : Mem} {Q : Rs → Kp → Mem → Prop}
theorem Rel.push {b Z : Nat} {D : va_G} {U : State} {H H' : Heap} {sh : Sh} (hR : Rel b Z D κ M U H) (hf : κ.2.2 = true) (hz : H'.size = H.size + 1) (ho : ∀ q, q < H.size → H'[q]? = H[q]?) (hc : cellOK b Z D (zM M (κ.1 + 1)) U H' (κ.1 + 1) sh) : Rel b Z D (κ.1 + 1, upS κ.2.1 (κ.1 + 1) sh, true) (zM M (κ.1 + 1)) U H' := by
  have he := hR.2.2 hf
  refine ⟨fun r2 sh2 hs => ?_, by show Z + (κ.1 + 1) ≤ _; omega, fun _ => by show Z + (κ.1 + 1) = _; omega⟩
  by_cases h : r2 = κ.1 + 1
  · subst h
    have hs : upS κ.2.1 (κ.1 + 1) sh (κ.1 + 1) = some sh2 := hs
    rw [upS_s] at hs
    cases hs
    exact ⟨⟨by omega, Nat.le_refl _⟩, hc⟩
  · have hs : upS κ.2.1 (κ.1 + 1) sh r2 = some sh2 := hs
    rw [upS_o _ _ _ h] at hs
    obtain ⟨⟨h1, h2⟩, h3⟩ := hR.1 r2 sh2 hs
    refine ⟨⟨h1, Nat.le_succ_of_le h2⟩, h3.kept (ho _ ?_) (fun j => zM_o M _ h j)⟩
    cases r2 with
    | zero => omega
    | succ a => show Z + a < H.size; omega
theorem ad_new {b Z : Nat} {D : va_G} {U : State} {H : Heap} (hR : Rel b Z D κ M U H) (hf : κ.2.2 = true) : ad b Z (κ.1 + 1) = H.size := hR.2.2 hf
theorem g_new {own : String} {idx ci N : Nat} {ds : List Nat} (hk : NWK own idx ci N ds) (ho : y.1.cls = own) (hf : κ.2.2 = true) (h1 : nc + 1 ≤ (rmOf y).cells) (h2 : ks + N ≤ (rmOf y).slots)
    (kk : G X y is (pc + 3) lo (.ref (κ.1 + 1) :: st) (nc + 1) (ks + N) (κ.1 + 1, upS κ.2.1 (κ.1 + 1) (ci, N, ds), true) (zM M (κ.1 + 1)) Q) : G X y ((.new idx, 3) :: is) pc lo st nc ks κ M Q := by
  intro hA l p e s m args below meth c b Z D H locs ls hC hR hS hL
  subst ho
  obtain ⟨q, hq, hN, hlen, k1, k2, k3, k4, ty0, k5, k6⟩ := hk
  subst hN
  have hKn := hC.wd.1.1 ci _ hq
  refine W.newcK hC.2.1 hC.2.2.1 hC.own (hC.word k1) (hC.word k2) (hC.word k3) rfl hA.1 h1 h2 hKn.2.1 (ad_new hR hf).symm fun H1 kC hkC e1 z1 o1 => ?_
  rw [ad_new hR hf] at z1 o1
  have hci : ci < 16 := Nat.lt_of_lt_of_le (List.getElem?_eq_some_iff.mp hq).1 (by decide)
  refine kk hA.2 l p e s m args below meth c b Z D H1 locs ls hC (hR.push hf z1 o1 ?_) ⟨Nat.le_trans hS.1 (by omega), fun x g1 g2 => (o1 x (Nat.lt_of_lt_of_le g1 hS.1)).trans (hS.2.1 x g1 g2), hS.2.2⟩ hL
  unfold cellOK
  rw [if_pos hci]
  refine ⟨q, hq, rfl, hlen, (u_born ty0 hC.words (fun w h => List.mem_cons_of_mem _ (k4 w h)) hKn hkC e1 k5).to fun k hk => ?_⟩
  unfold fv
  rcases k6 k hk with ⟨g1, g2⟩ | ⟨g1, g2⟩
  · rw [g1, g2, zM_s]
  · rw [g1, g2]
theorem g_newarray {at_ : ArrayType} {tag N : Nat} {i : Int32} (hw : Cond.arrayClass (newarray.typeOf at_) ∈ tblG) (htag : 16 ≤ tag ∧ tag < 20) (hty : aty tag = newarray.typeOf at_) (hi : i = nI N) (hN : N < 1000000) (hf : κ.2.2 = true) (h1 : nc + 1 ≤ (rmOf y).cells) (h2 : ks + N ≤ (rmOf y).slots)
    (kk : G X y is (pc + 2) lo (.ref (κ.1 + 1) :: st) (nc + 1) (ks + N) (κ.1 + 1, upS κ.2.1 (κ.1 + 1) (tag, N, []), true) (zM M (κ.1 + 1)) Q) : G X y ((.newarray at_, 2) :: is) pc lo (.int i :: st) nc ks κ M Q := by
  intro hA l p e s m args below meth c b Z D H locs ls hC hR hS hL
  subst hi
  have hN2 : N < 2147483648 := Nat.lt_trans hN (by decide)
  have hb8 : componentBytes (newarray.typeOf at_) ≤ 8 := by cases at_ <;> decide
  have hbytes : N * componentBytes (newarray.typeOf at_) ≤ 536870912 := Nat.le_trans (Nat.mul_le_mul (Nat.le_of_lt hN) hb8) (by decide)
  refine va_newaK hC.2.1 hC.2.2.1 (hC.word hw) rfl hA.1 rfl (nI_pos hN2) (nI_clamp hN2) hbytes h1 h2 (ad_new hR hf).symm fun H1 cA e1 z1 o1 hAr hNm => ?_
  rw [ad_new hR hf] at z1 o1
  refine kk hA.2 l p e s m args below meth c b Z D H1 locs ls hC (hR.push hf z1 o1 ?_) ⟨Nat.le_trans hS.1 (by omega), fun x g1 g2 => (o1 x (Nat.lt_of_lt_of_le g1 hS.1)).trans (hS.2.1 x g1 g2), hS.2.2⟩ hL
  unfold cellOK
  rw [if_neg (by show ¬ tag < 16; omega)]
  refine ⟨cA, ?_, by show ArrOfT s cA (aty tag); rw [hty]; exact hAr, by show va_RA s cA (aty tag); rw [hty]; cases at_ <;> exact hNm⟩
  rw [e1]
  congr 2
  funext j
  have htg : tag = 16 ∨ tag = 17 ∨ tag = 18 ∨ tag = 19 := by omega
  have hd : defaultValue (newarray.typeOf at_) = if tag = 19 then .long 0 else .int 0 := by
    rw [← hty]
    rcases htg with rfl | rfl | rfl | rfl <;> rfl
  rw [hd]
  unfold aev
  rw [zM_s]
  rcases htg with rfl | rfl | rfl | rfl <;> rfl
def AWK (own : String) (idx ci : Nat) : Prop := Cond.classLink own idx (clN ci) ∈ tblG ∧ clN ci ∈ overW
theorem g_anewarray {own : String} {idx ci N : Nat} {i : Int32} (hk : AWK own idx ci) (ho : y.1.cls = own) (hi : i = nI N) (hN : N < 1000000) (hf : κ.2.2 = true) (h1 : nc + 1 ≤ (rmOf y).cells) (h2 : ks + N ≤ (rmOf y).slots)
    (kk : G X y is (pc + 3) lo (.ref (κ.1 + 1) :: st) (nc + 1) (ks + N) (κ.1 + 1, upS κ.2.1 (κ.1 + 1) (20 + ci, N, List.replicate N 1), true) (zM M (κ.1 + 1)) Q) : G X y ((.anewarray idx, 3) :: is) pc lo (.int i :: st) nc ks κ M Q := by
  intro hA l p e s m args below meth c b Z D H locs ls hC hR hS hL
  subst ho
  subst hi
  have hN2 : N < 2147483648 := Nat.lt_trans hN (by decide)
  obtain ⟨-, -, -, -, -, -, hnw⟩ := hC.wd
  refine W.anew hC.2.1 hC.2.2.1 hC.own (hC.word hk.1) (va_AO.use (hnw.2.1 _ hk.2)) rfl hA.1 rfl (nI_pos hN2) (by rw [nI_clamp hN2]; omega) h1 (by rw [nI_clamp hN2]; exact h2) fun cA kA comp g1 g2 g3 g4 => ?_
  rw [nI_clamp hN2]
  have he : H.size = ad b Z (κ.1 + 1) := (ad_new hR hf).symm
  have o1 : ∀ (x : Cell) (q : Nat), q < H.size → (H.push x)[q]? = H[q]? := fun x q hq => by rw [Array.getElem?_push, if_neg (Nat.ne_of_lt hq)]
  rw [he]
  refine kk hA.2 l p e s m args below meth c b Z D _ locs ls hC (hR.push hf (by simp) (o1 _) ?_) ⟨Nat.le_trans hS.1 (by simp), fun x k1 k2 => (o1 _ x (Nat.lt_of_lt_of_le k1 hS.1)).trans (hS.2.1 x k1 k2), hS.2.2⟩ hL
  have hty : aty (20 + ci) = .object (clN ci) := by simp [aty, show ¬ 20 + ci = 16 by omega, show ¬ 20 + ci = 17 by omega, show ¬ 20 + ci = 18 by omega, show ¬ 20 + ci = 19 by omega]
  unfold cellOK
  rw [if_neg (by show ¬ 20 + ci < 16; omega)]
  refine ⟨cA, ?_, ?_, ?_⟩
  · rw [← he, arrV_new]
    simp only [Array.getElem?_push_size, Option.some.injEq]
    have : ∀ j, j < N → aev b Z (zM M (κ.1 + 1)) (κ.1 + 1) (20 + ci) (List.replicate N 1) j = .null := fun j hj => by
      unfold aev
      rw [if_neg (by omega), if_neg (by omega)]
      unfold fv
      simp [hj]
    unfold arrV
    congr 1
    apply Array.ext
    · simp
    · intro j hj1 hj2
      simp at hj1
      simp [this j hj1]
  · show ArrOfT s cA (aty (20 + ci))
    rw [hty]
    exact fun n z => ⟨fun k h => (by cases h), kA, g2, comp, g3⟩
  · show va_RA s cA (aty (20 + ci))
    rw [hty]
    exact ⟨kA, comp, g2, g3, g4, g1⟩
theorem g_aastore {r v N N2 ci j : Nat} {cs ds : List Nat} {i : Int32} (hs : κ.2.1 r = some (20 + ci, N, cs)) (hv : κ.2.1 v = some (ci, N2, ds)) (hci : ci < 9) (hcl : cs.length = N) (hi : i = nI j) (hj : j < N) (hN : N < 2147483648)
    (kk : G X y is (pc + 1) lo st nc ks (κ.1, upS κ.2.1 r (20 + ci, N, cs.set j (v + 2)), κ.2.2) M Q) : G X y ((.aastore, 1) :: is) pc lo (.ref v :: .int i :: .ref r :: st) nc ks κ M Q := by
  intro hA l p e s m args below meth c b Z D H locs ls hC hR hS hL
  have hty : aty (20 + ci) = .object (clN ci) := by simp [aty, show ¬ 20 + ci = 16 by omega, show ¬ 20 + ci = 17 by omega, show ¬ 20 + ci = 18 by omega, show ¬ 20 + ci = 19 by omega]
  obtain ⟨cA, h1, h2, h3⟩ := cell_arr hR hs (by omega)
  obtain ⟨hin, hcn⟩ := ix_in hi hj hN
  have hr := (hR.1 r _ hs).1
  have h2' := h2
  have h3' := h3
  rw [hty] at h3
  obtain ⟨kA, comp, g1, g2, g3, g4⟩ := h3
  obtain ⟨q, hq⟩ : ∃ q, vwCl[ci]? = some q := by
    have : ci < vwCl.length := hci
    exact ⟨_, List.getElem?_eq_getElem this⟩
  obtain ⟨hNq, hlen, cell, q1, q2, q3, q4⟩ := cell_obj hR hv hq
  have hKn := hC.wd.1.1 ci _ hq
  have hcln : clN ci = q.1 := by unfold clN; rw [hq]
  have hcomp : comp = D.1 ci := by
    rw [hcln] at g3
    exact Option.some.inj (g3.symm.trans hKn.2.1)
  obtain ⟨-, kq, hkq, hkind⟩ := hKn.2
  refine W.aast (k := kA) (kv := kq) (kcomp := kq) (comp := comp) (t := .object (clN ci)) hC.2.1 hC.2.2.1 h1 (fun q h => by cases h) (fun h => by cases h) g1 g2 rfl (by rw [hcomp]; exact hkq) ⟨fun h => hin (Or.inl h), by rw [hcn, arrV_size]; exact hj⟩ q1 (fun z h => by rw [q3] at h; cases h) (by rw [q2]; exact hkq) (by rw [q2, hcomp]; exact va_assign hKn.2) rfl rfl hA.1 fun H1 e1 e2 e3 => ?_
  refine kk hA.2 l p e s m args below meth c b Z D H1 _ ls hC (hR.put hr e2 e3 rfl rfl (fun _ h => upS_o _ _ _ h) (upS_s _ _ _) ?_ (fun _ _ _ => rfl)) (hS.put e2 e3 (ad_ge hr.1)) hL
  unfold cellOK
  rw [if_neg (by show ¬ 20 + ci < 16; omega)]
  refine ⟨cA, ?_, h2', h3'⟩
  rw [e1, hcn, arrV_store]
  congr 2
  funext a
  show updV (aev b Z M r (20 + ci) cs) j (.ref (ad b Z v)) a = aev b Z M r (20 + ci) (cs.set j (v + 2)) a
  have hjl : j < cs.length := by rw [hcl]; exact hj
  unfold aev
  by_cases ha : a = j
  · subst ha
    simp only [updV, if_pos]
    rw [if_neg (by omega), if_neg (by omega)]
    unfold fv
    simp [hjl]
  · simp only [updV, if_neg ha]
    rw [if_neg (by omega), if_neg (by omega), if_neg (by omega), if_neg (by omega)]
    unfold fv
    simp [List.getElem?_set_ne (Ne.symm ha)]
end MAKES
end
section
theorem tM1 {w : Cond} (h : w ∈ tables_1_1) : w ∈ lw_tbl := List.mem_append_right _ (List.mem_append_left _ h)
theorem tG1 {w : Cond} {i : Nat} (h : tables_1_1[i]? = some w) (hg : goodWord w = true) : w ∈ tblG := List.mem_filter.mpr ⟨tM1 (List.mem_of_getElem? h), hg⟩
theorem tM2 {w : Cond} (h : w ∈ tables_1_2) : w ∈ lw_tbl := List.mem_append_right _ (List.mem_append_right _ (List.mem_append_left _ h))
theorem tG2 {w : Cond} {i : Nat} (h : tables_1_2[i]? = some w) (hg : goodWord w = true) : w ∈ tblG := List.mem_filter.mpr ⟨tM2 (List.mem_of_getElem? h), hg⟩
theorem tM3 {w : Cond} (h : w ∈ tables_1_3) : w ∈ lw_tbl := List.mem_append_right _ (List.mem_append_right _ (List.mem_append_right _ (List.mem_append_left _ h)))
theorem tG3 {w : Cond} {i : Nat} (h : tables_1_3[i]? = some w) (hg : goodWord w = true) : w ∈ tblG := List.mem_filter.mpr ⟨tM3 (List.mem_of_getElem? h), hg⟩
theorem tM4 {w : Cond} (h : w ∈ tables_1_4) : w ∈ lw_tbl := List.mem_append_right _ (List.mem_append_right _ (List.mem_append_right _ (List.mem_append_right _ (List.mem_append_left _ h))))
theorem tG4 {w : Cond} {i : Nat} (h : tables_1_4[i]? = some w) (hg : goodWord w = true) : w ∈ tblG := List.mem_filter.mpr ⟨tM4 (List.mem_of_getElem? h), hg⟩
theorem tM5 {w : Cond} (h : w ∈ tables_1_5) : w ∈ lw_tbl := List.mem_append_right _ (List.mem_append_right _ (List.mem_append_right _ (List.mem_append_right _ (List.mem_append_right _ (List.mem_append_left _ h)))))
theorem tG5 {w : Cond} {i : Nat} (h : tables_1_5[i]? = some w) (hg : goodWord w = true) : w ∈ tblG := List.mem_filter.mpr ⟨tM5 (List.mem_of_getElem? h), hg⟩
theorem tM6 {w : Cond} (h : w ∈ tables_1_6) : w ∈ lw_tbl := List.mem_append_right _ (List.mem_append_right _ (List.mem_append_right _ (List.mem_append_right _ (List.mem_append_right _ (List.mem_append_right _ (h))))))
theorem tG6 {w : Cond} {i : Nat} (h : tables_1_6[i]? = some w) (hg : goodWord w = true) : w ∈ tblG := List.mem_filter.mpr ⟨tM6 (List.mem_of_getElem? h), hg⟩
theorem tGs {w : Cond} {i : Nat} (h : (k2_sels lw_privs)[i]? = some w) (hg : goodWord w = true) : w ∈ tblG := List.mem_filter.mpr ⟨List.mem_append_left _ (List.mem_of_getElem? h), hg⟩
def m_X0_init : MI := (yX0_init, cX0_init, 1, none, none, { frames := 1, cells := 0, slots := 0, locals := 24 })
def m_X0_copyFrom : MI := (yX0_copyFrom, cX0_copyFrom, 2, none, none, { frames := 0, cells := 0, slots := 0, locals := 0 })
def m_X0_usesSoFar : MI := (yX0_usesSoFar, cX0_usesSoFar, 1, some .int, none, { frames := 0, cells := 0, slots := 0, locals := 0 })
def m_X0_dance : MI := (yX0_dance, cX0_dance, 2, none, none, { frames := 0, cells := 0, slots := 0, locals := 0 })
def m_X0_riseWith : MI := (yX0_riseWith, cX0_riseWith, 2, none, none, { frames := 0, cells := 0, slots := 0, locals := 0 })
def m_X1_init : MI := (yX1_init, cX1_init, 1, none, none, { frames := 1, cells := 0, slots := 0, locals := 24 })
def m_X1_copyFrom : MI := (yX1_copyFrom, cX1_copyFrom, 2, none, none, { frames := 0, cells := 0, slots := 0, locals := 0 })
def m_X1_hasSpringFor : MI := (yX1_hasSpringFor, cX1_hasSpringFor, 3, some .boolean, none, { frames := 0, cells := 0, slots := 0, locals := 0 })
def m_X1_hasBarreFor : MI := (yX1_hasBarreFor, cX1_hasBarreFor, 3, some .boolean, none, { frames := 0, cells := 0, slots := 0, locals := 0 })
def m_X1_hasMirrorsFor : MI := (yX1_hasMirrorsFor, cX1_hasMirrorsFor, 3, some .boolean, none, { frames := 0, cells := 0, slots := 0, locals := 0 })
def m_X1_roomFor : MI := (yX1_roomFor, cX1_roomFor, 2, some .int, none, { frames := 1, cells := 0, slots := 0, locals := 21 })
def m_X2_init : MI := (yX2_init, cX2_init, 2, none, none, { frames := 3, cells := 519, slots := 2968, locals := 65 })
def m_X2_remember : MI := (yX2_remember, cX2_remember, 2, none, none, { frames := 3, cells := 0, slots := 0, locals := 64 })
def m_X2_takeBack : MI := (yX2_takeBack, cX2_takeBack, 2, some .int, none, { frames := 3, cells := 0, slots := 0, locals := 64 })
def m_X2_forgetAll : MI := (yX2_forgetAll, cX2_forgetAll, 1, none, none, { frames := 0, cells := 0, slots := 0, locals := 0 })
def m_X3_init : MI := (yX3_init, cX3_init, 1, none, none, { frames := 1, cells := 0, slots := 0, locals := 24 })
def m_X3_copyFrom : MI := (yX3_copyFrom, cX3_copyFrom, 2, none, none, { frames := 0, cells := 0, slots := 0, locals := 0 })
def m_X3_isAt : MI := (yX3_isAt, cX3_isAt, 3, some .boolean, none, { frames := 0, cells := 0, slots := 0, locals := 0 })
def m_X3_seatsDancer : MI := (yX3_seatsDancer, cX3_seatsDancer, 2, some .boolean, none, { frames := 0, cells := 0, slots := 0, locals := 0 })
def m_X3_countSeats : MI := (yX3_countSeats, cX3_countSeats, 1, some .int, none, { frames := 1, cells := 0, slots := 0, locals := 20 })
def m_X4_init : MI := (yX4_init, cX4_init, 2, none, none, { frames := 2, cells := 36, slots := 197, locals := 44 })
def m_X4_makeNew : MI := (yX4_makeNew, cX4_makeNew, 1, none, none, { frames := 0, cells := 0, slots := 0, locals := 0 })
def m_X4_copyFrom : MI := (yX4_copyFrom, cX4_copyFrom, 2, none, none, { frames := 2, cells := 0, slots := 0, locals := 43 })
def m_X4_copyRowsFrom : MI := (yX4_copyRowsFrom, cX4_copyRowsFrom, 3, none, none, { frames := 1, cells := 0, slots := 0, locals := 21 })
def m_X4_hasFloor : MI := (yX4_hasFloor, cX4_hasFloor, 2, some .boolean, none, { frames := 0, cells := 0, slots := 0, locals := 0 })
def m_X4_hasTeacher : MI := (yX4_hasTeacher, cX4_hasTeacher, 2, some .boolean, none, { frames := 0, cells := 0, slots := 0, locals := 0 })
def m_X4_hasLesson : MI := (yX4_hasLesson, cX4_hasLesson, 2, some .boolean, none, { frames := 0, cells := 0, slots := 0, locals := 0 })
def m_X4_hasDancer : MI := (yX4_hasDancer, cX4_hasDancer, 2, some .boolean, none, { frames := 0, cells := 0, slots := 0, locals := 0 })
def m_X4_hasSeat : MI := (yX4_hasSeat, cX4_hasSeat, 3, some .boolean, none, { frames := 1, cells := 0, slots := 0, locals := 21 })
def m_X4_mayHavePass : MI := (yX4_mayHavePass, cX4_mayHavePass, 2, some .boolean, none, { frames := 1, cells := 0, slots := 0, locals := 21 })
def m_X4_addFloor : MI := (yX4_addFloor, cX4_addFloor, 6, some .int, none, { frames := 0, cells := 0, slots := 0, locals := 0 })
def m_X4_addTeacher : MI := (yX4_addTeacher, cX4_addTeacher, 4, some .int, none, { frames := 0, cells := 0, slots := 0, locals := 0 })
def m_X4_addDancer : MI := (yX4_addDancer, cX4_addDancer, 2, some .int, none, { frames := 0, cells := 0, slots := 0, locals := 0 })
def m_X4_addLesson : MI := (yX4_addLesson, cX4_addLesson, 9, some .int, none, { frames := 3, cells := 0, slots := 0, locals := 72 })
def m_X4_dropLesson : MI := (yX4_dropLesson, cX4_dropLesson, 4, some .int, none, { frames := 2, cells := 0, slots := 0, locals := 40 })
def m_X4_givePass : MI := (yX4_givePass, cX4_givePass, 2, some .int, none, { frames := 2, cells := 0, slots := 0, locals := 42 })
def m_X4_takeSeat : MI := (yX4_takeSeat, cX4_takeSeat, 4, some .int, none, { frames := 4, cells := 0, slots := 0, locals := 86 })
def m_X4_giveUpSeat : MI := (yX4_giveUpSeat, cX4_giveUpSeat, 3, some .int, none, { frames := 2, cells := 0, slots := 0, locals := 43 })
def m_X4_countRefusal : MI := (yX4_countRefusal, cX4_countRefusal, 2, some .int, none, { frames := 0, cells := 0, slots := 0, locals := 0 })
def m_X4_reasonAgainstLesson : MI := (yX4_reasonAgainstLesson, cX4_reasonAgainstLesson, 7, some .int, none, { frames := 2, cells := 0, slots := 0, locals := 46 })
def m_X4_isFloorInUse : MI := (yX4_isFloorInUse, cX4_isFloorInUse, 5, some .boolean, none, { frames := 1, cells := 0, slots := 0, locals := 22 })
def m_X4_isTeacherInUse : MI := (yX4_isTeacherInUse, cX4_isTeacherInUse, 5, some .boolean, none, { frames := 1, cells := 0, slots := 0, locals := 22 })
def m_X4_reasonAgainstSeat : MI := (yX4_reasonAgainstSeat, cX4_reasonAgainstSeat, 4, some .int, none, { frames := 3, cells := 0, slots := 0, locals := 63 })
def m_X4_isDancerSeatedAt : MI := (yX4_isDancerSeatedAt, cX4_isDancerSeatedAt, 5, some .boolean, none, { frames := 1, cells := 0, slots := 0, locals := 22 })
def m_X4_roomIn : MI := (yX4_roomIn, cX4_roomIn, 2, some .int, none, { frames := 2, cells := 0, slots := 0, locals := 42 })
def m_X4_roomiestFloor : MI := (yX4_roomiestFloor, cX4_roomiestFloor, 10, some .int, none, { frames := 3, cells := 0, slots := 0, locals := 72 })
def m_X4_passWeeks : MI := (yX4_passWeeks, cX4_passWeeks, 4, some .int, none, { frames := 5, cells := 0, slots := 0, locals := 111 })
def m_X4_passWeek : MI := (yX4_passWeek, cX4_passWeek, 3, some .int, none, { frames := 4, cells := 0, slots := 0, locals := 89 })
def m_X4_holdLesson : MI := (yX4_holdLesson, cX4_holdLesson, 4, some .int, none, { frames := 3, cells := 0, slots := 0, locals := 66 })
def m_X4_countComers : MI := (yX4_countComers, cX4_countComers, 4, some .int, none, { frames := 2, cells := 0, slots := 0, locals := 43 })
def m_X4_comes : MI := (yX4_comes, cX4_comes, 3, some .boolean, none, { frames := 1, cells := 0, slots := 0, locals := 21 })
def m_X4_countSeats : MI := (yX4_countSeats, cX4_countSeats, 3, some .int, none, { frames := 2, cells := 0, slots := 0, locals := 40 })
def m_X4_countSeatsOfDancer : MI := (yX4_countSeatsOfDancer, cX4_countSeatsOfDancer, 4, some .int, none, { frames := 1, cells := 0, slots := 0, locals := 21 })
def m_X4_countLessonsOnFloor : MI := (yX4_countLessonsOnFloor, cX4_countLessonsOnFloor, 4, some .int, none, { frames := 0, cells := 0, slots := 0, locals := 0 })
def m_X4_countLessonsOfTeacher : MI := (yX4_countLessonsOfTeacher, cX4_countLessonsOfTeacher, 4, some .int, none, { frames := 0, cells := 0, slots := 0, locals := 0 })
def m_X4_countDaysOfTeacher : MI := (yX4_countDaysOfTeacher, cX4_countDaysOfTeacher, 4, some .int, none, { frames := 1, cells := 0, slots := 0, locals := 20 })
def m_X4_countPasses : MI := (yX4_countPasses, cX4_countPasses, 3, some .int, none, { frames := 0, cells := 0, slots := 0, locals := 0 })
def m_X4_countLeft : MI := (yX4_countLeft, cX4_countLeft, 3, some .int, none, { frames := 0, cells := 0, slots := 0, locals := 0 })
def m_X4_countUsesByDancers : MI := (yX4_countUsesByDancers, cX4_countUsesByDancers, 3, some .int, none, { frames := 1, cells := 0, slots := 0, locals := 20 })
def m_X4_countUsesByLessons : MI := (yX4_countUsesByLessons, cX4_countUsesByLessons, 3, some .int, none, { frames := 0, cells := 0, slots := 0, locals := 0 })
def m_X5_init : MI := (yX5_init, cX5_init, 1, none, none, { frames := 1, cells := 0, slots := 0, locals := 24 })
def m_X5_copyFrom : MI := (yX5_copyFrom, cX5_copyFrom, 2, none, none, { frames := 0, cells := 0, slots := 0, locals := 0 })
def m_X5_teaches : MI := (yX5_teaches, cX5_teaches, 3, some .boolean, none, { frames := 0, cells := 0, slots := 0, locals := 0 })
def m_X6_init : MI := (yX6_init, cX6_init, 1, none, none, { frames := 1, cells := 2, slots := 126, locals := 24 })
def m_X6_addSign : MI := (yX6_addSign, cX6_addSign, 2, some .int, none, { frames := 0, cells := 0, slots := 0, locals := 0 })
def m_X6_makeEmpty : MI := (yX6_makeEmpty, cX6_makeEmpty, 2, some .int, none, { frames := 0, cells := 0, slots := 0, locals := 0 })
def m_X6_findError : MI := (yX6_findError, cX6_findError, 2, some .int, none, { frames := 5, cells := 0, slots := 0, locals := 108 })
def m_X6_hasMore : MI := (yX6_hasMore, cX6_hasMore, 1, some .boolean, none, { frames := 0, cells := 0, slots := 0, locals := 0 })
def m_X6_readStart : MI := (yX6_readStart, cX6_readStart, 1, some .boolean, none, { frames := 1, cells := 0, slots := 0, locals := 20 })
def m_X6_readCommand : MI := (yX6_readCommand, cX6_readCommand, 1, some .boolean, none, { frames := 4, cells := 0, slots := 0, locals := 88 })
def m_X6_readKind : MI := (yX6_readKind, cX6_readKind, 1, some .boolean, none, { frames := 3, cells := 0, slots := 0, locals := 67 })
def m_X6_readPlace : MI := (yX6_readPlace, cX6_readPlace, 1, some .boolean, none, { frames := 3, cells := 0, slots := 0, locals := 67 })
def m_X6_readLesson : MI := (yX6_readLesson, cX6_readLesson, 1, some .boolean, none, { frames := 3, cells := 0, slots := 0, locals := 67 })
def m_X6_readDancer : MI := (yX6_readDancer, cX6_readDancer, 1, some .boolean, none, { frames := 3, cells := 0, slots := 0, locals := 68 })
def m_X6_readDigit : MI := (yX6_readDigit, cX6_readDigit, 4, some .boolean, none, { frames := 2, cells := 0, slots := 0, locals := 44 })
def m_X6_readTwoDigits : MI := (yX6_readTwoDigits, cX6_readTwoDigits, 5, some .boolean, none, { frames := 2, cells := 0, slots := 0, locals := 44 })
def m_X6_digitWithin : MI := (yX6_digitWithin, cX6_digitWithin, 3, some .int, none, { frames := 1, cells := 0, slots := 0, locals := 22 })
def m_X6_keepNumber : MI := (yX6_keepNumber, cX6_keepNumber, 2, some .boolean, none, { frames := 0, cells := 0, slots := 0, locals := 0 })
def m_X7_init : MI := (yX7_init, cX7_init, 2, none, none, { frames := 4, cells := 673, slots := 3951, locals := 86 })
def m_X7_append : MI := (yX7_append, cX7_append, 2, some .int, none, { frames := 7, cells := 2, slots := 12, locals := 112 })
def m_X7_clearText : MI := (yX7_clearText, cX7_clearText, 1, some .int, none, { frames := 1, cells := 0, slots := 0, locals := 21 })
def m_X7_errorPosition : MI := (yX7_errorPosition, cX7_errorPosition, 1, some .int, none, { frames := 6, cells := 0, slots := 0, locals := 129 })
def m_X7_load : MI := (yX7_load, cX7_load, 2, some .int, none, { frames := 8, cells := 1, slots := 6, locals := 178 })
def m_X7_about : MI := (yX7_about, cX7_about, 2, some .int, none, { frames := 6, cells := 1, slots := 6, locals := 92 })
def m_X7_floorOf : MI := (yX7_floorOf, cX7_floorOf, 4, some .int, none, { frames := 7, cells := 2, slots := 12, locals := 112 })
def m_X7_teacherOf : MI := (yX7_teacherOf, cX7_teacherOf, 4, some .int, none, { frames := 7, cells := 2, slots := 12, locals := 112 })
def m_X7_classOf : MI := (yX7_classOf, cX7_classOf, 4, some .int, none, { frames := 7, cells := 2, slots := 12, locals := 112 })
def m_X7_dancerOf : MI := (yX7_dancerOf, cX7_dancerOf, 4, some .int, none, { frames := 7, cells := 2, slots := 12, locals := 112 })
def m_X7_uses : MI := (yX7_uses, cX7_uses, 2, some .int, none, { frames := 7, cells := 1, slots := 6, locals := 112 })
def m_X7_setting : MI := (yX7_setting, cX7_setting, 2, some .int, none, { frames := 7, cells := 1, slots := 6, locals := 112 })
def m_X7_floor : MI := (yX7_floor, cX7_floor, 5, some .int, none, { frames := 7, cells := 5, slots := 30, locals := 112 })
def m_X7_teacher : MI := (yX7_teacher, cX7_teacher, 3, some .int, none, { frames := 7, cells := 3, slots := 18, locals := 112 })
def m_X7_set : MI := (yX7_set, cX7_set, 7, some .int, none, { frames := 8, cells := 7, slots := 42, locals := 135 })
def m_X7_drop : MI := (yX7_drop, cX7_drop, 2, some .int, none, { frames := 7, cells := 1, slots := 6, locals := 112 })
def m_X7_dancer : MI := (yX7_dancer, cX7_dancer, 1, some .int, none, { frames := 7, cells := 1, slots := 6, locals := 112 })
def m_X7_pass : MI := (yX7_pass, cX7_pass, 2, some .int, none, { frames := 7, cells := 2, slots := 12, locals := 112 })
def m_X7_enter : MI := (yX7_enter, cX7_enter, 3, some .int, none, { frames := 7, cells := 2, slots := 12, locals := 112 })
def m_X7_leave : MI := (yX7_leave, cX7_leave, 3, some .int, none, { frames := 7, cells := 3, slots := 18, locals := 112 })
def m_X7_weeks : MI := (yX7_weeks, cX7_weeks, 2, some .int, none, { frames := 7, cells := 1, slots := 6, locals := 134 })
def m_X7_tune : MI := (yX7_tune, cX7_tune, 4, some .int, none, { frames := 7, cells := 2, slots := 12, locals := 112 })
def m_X7_undo : MI := (yX7_undo, cX7_undo, 1, some .int, none, { frames := 7, cells := 1, slots := 6, locals := 112 })
def m_X7_why : MI := (yX7_why, cX7_why, 7, some .int, none, { frames := 8, cells := 6, slots := 36, locals := 135 })
def m_X7_whySeat : MI := (yX7_whySeat, cX7_whySeat, 3, some .int, none, { frames := 7, cells := 2, slots := 12, locals := 112 })
def m_X7_bestFloor : MI := (yX7_bestFloor, cX7_bestFloor, 6, some .int, none, { frames := 8, cells := 5, slots := 30, locals := 135 })
def m_X7_emptyIn : MI := (yX7_emptyIn, cX7_emptyIn, 3, some .int, none, { frames := 7, cells := 1, slots := 6, locals := 112 })
def m_X7_held : MI := (yX7_held, cX7_held, 3, some .int, none, { frames := 5, cells := 0, slots := 0, locals := 111 })
def m_X7_runScript : MI := (yX7_runScript, cX7_runScript, 5, some .int, none, { frames := 7, cells := 2, slots := 12, locals := 160 })
def m_X7_simulate : MI := (yX7_simulate, cX7_simulate, 8, some .int, none, { frames := 7, cells := 1, slots := 6, locals := 156 })
def m_X7_save : MI := (yX7_save, cX7_save, 2, some .int, none, { frames := 7, cells := 1, slots := 6, locals := 112 })
def m_X7_restore : MI := (yX7_restore, cX7_restore, 2, some .int, none, { frames := 7, cells := 2, slots := 12, locals := 112 })
def m_X7_isWithin : MI := (yX7_isWithin, cX7_isWithin, 3, some .boolean, none, { frames := 0, cells := 0, slots := 0, locals := 0 })
def m_X7_requireIndex : MI := (yX7_requireIndex, cX7_requireIndex, 1, none, none, { frames := 6, cells := 1, slots := 6, locals := 92 })
def m_X7_requireArgument : MI := (yX7_requireArgument, cX7_requireArgument, 1, none, none, { frames := 6, cells := 1, slots := 6, locals := 92 })
def m_X7_requireState : MI := (yX7_requireState, cX7_requireState, 1, none, none, { frames := 6, cells := 1, slots := 6, locals := 92 })
def m_X7_requireLessonArguments : MI := (yX7_requireLessonArguments, cX7_requireLessonArguments, 4, none, none, { frames := 7, cells := 4, slots := 24, locals := 112 })
def m_X7_doCommandsOfText : MI := (yX7_doCommandsOfText, cX7_doCommandsOfText, 3, some .int, none, { frames := 7, cells := 0, slots := 0, locals := 156 })
def m_X7_doCommand : MI := (yX7_doCommand, cX7_doCommand, 3, some .boolean, none, { frames := 6, cells := 0, slots := 0, locals := 134 })
def m_X7_withoutGroups : MI := (yX7_withoutGroups, cX7_withoutGroups, 6, some .long, none, { frames := 0, cells := 0, slots := 0, locals := 0 })
def m_X7_tryGroup : MI := (yX7_tryGroup, cX7_tryGroup, 7, some .boolean, none, { frames := 6, cells := 0, slots := 0, locals := 134 })
def m_X7_tryTurn : MI := (yX7_tryTurn, cX7_tryTurn, 3, some .int, none, { frames := 6, cells := 0, slots := 0, locals := 134 })
def m_X7_tryLeaving : MI := (yX7_tryLeaving, cX7_tryLeaving, 2, none, none, { frames := 3, cells := 0, slots := 0, locals := 65 })
def m_X8_init : MI := (yX8_init, cX8_init, 1, none, none, { frames := 1, cells := 4, slots := 3530, locals := 24 })
def m_X8_thrown : MI := (yX8_thrown, cX8_thrown, 1, some .int, none, { frames := 0, cells := 0, slots := 0, locals := 0 })
def m_X8_in : MI := (yX8_in, cX8_in, 3, some .boolean, none, { frames := 0, cells := 0, slots := 0, locals := 0 })
def m_X8_holds : MI := (yX8_holds, cX8_holds, 2, some .boolean, none, { frames := 0, cells := 0, slots := 0, locals := 0 })
def m_X8_anew : MI := (yX8_anew, cX8_anew, 2, none, none, { frames := 0, cells := 0, slots := 0, locals := 0 })
def m_X8_isFloor : MI := (yX8_isFloor, cX8_isFloor, 2, some .boolean, none, { frames := 1, cells := 0, slots := 0, locals := 22 })
def m_X8_isTeacher : MI := (yX8_isTeacher, cX8_isTeacher, 2, some .boolean, none, { frames := 1, cells := 0, slots := 0, locals := 22 })
def m_X8_isClass : MI := (yX8_isClass, cX8_isClass, 2, some .boolean, none, { frames := 1, cells := 0, slots := 0, locals := 22 })
def m_X8_isDancer : MI := (yX8_isDancer, cX8_isDancer, 2, some .boolean, none, { frames := 1, cells := 0, slots := 0, locals := 22 })
def m_X8_ofClass : MI := (yX8_ofClass, cX8_ofClass, 3, some .int, none, { frames := 0, cells := 0, slots := 0, locals := 0 })
def m_X8_ofDancer : MI := (yX8_ofDancer, cX8_ofDancer, 3, some .int, none, { frames := 0, cells := 0, slots := 0, locals := 0 })
def m_X8_adds : MI := (yX8_adds, cX8_adds, 3, none, none, { frames := 0, cells := 0, slots := 0, locals := 0 })
def m_X8_bits : MI := (yX8_bits, cX8_bits, 3, some .int, none, { frames := 0, cells := 0, slots := 0, locals := 0 })
def m_X8_spring : MI := (yX8_spring, cX8_spring, 2, some .int, none, { frames := 0, cells := 0, slots := 0, locals := 0 })
def m_X8_mirrors : MI := (yX8_mirrors, cX8_mirrors, 2, some .int, none, { frames := 0, cells := 0, slots := 0, locals := 0 })
def m_X8_barre : MI := (yX8_barre, cX8_barre, 2, some .int, none, { frames := 0, cells := 0, slots := 0, locals := 0 })
def m_X8_takes : MI := (yX8_takes, cX8_takes, 5, some .int, none, { frames := 1, cells := 0, slots := 0, locals := 21 })
def m_X8_isSpring : MI := (yX8_isSpring, cX8_isSpring, 4, some .boolean, none, { frames := 1, cells := 0, slots := 0, locals := 21 })
def m_X8_whyNo : MI := (yX8_whyNo, cX8_whyNo, 11, some .int, none, { frames := 2, cells := 0, slots := 0, locals := 44 })
def m_X8_hasSeat : MI := (yX8_hasSeat, cX8_hasSeat, 3, some .boolean, none, { frames := 1, cells := 0, slots := 0, locals := 22 })
def m_X8_classTakes : MI := (yX8_classTakes, cX8_classTakes, 2, some .int, none, { frames := 2, cells := 0, slots := 0, locals := 45 })
def m_X8_whyNoSeat : MI := (yX8_whyNoSeat, cX8_whyNoSeat, 4, some .int, none, { frames := 3, cells := 0, slots := 0, locals := 66 })
def m_X8_floors : MI := (yX8_floors, cX8_floors, 6, some .int, none, { frames := 0, cells := 0, slots := 0, locals := 0 })
def m_X8_teachers : MI := (yX8_teachers, cX8_teachers, 3, some .int, none, { frames := 0, cells := 0, slots := 0, locals := 0 })
def m_X8_sets : MI := (yX8_sets, cX8_sets, 8, none, none, { frames := 0, cells := 0, slots := 0, locals := 0 })
def m_X8_drops : MI := (yX8_drops, cX8_drops, 4, some .int, none, { frames := 1, cells := 0, slots := 0, locals := 22 })
def m_X8_dancers : MI := (yX8_dancers, cX8_dancers, 3, some .int, none, { frames := 0, cells := 0, slots := 0, locals := 0 })
def m_X8_passes : MI := (yX8_passes, cX8_passes, 2, some .int, none, { frames := 1, cells := 0, slots := 0, locals := 22 })
def m_X8_enters : MI := (yX8_enters, cX8_enters, 3, none, none, { frames := 1, cells := 0, slots := 0, locals := 22 })
def m_X8_leaves : MI := (yX8_leaves, cX8_leaves, 3, some .int, none, { frames := 1, cells := 0, slots := 0, locals := 22 })
def m_X8_coming : MI := (yX8_coming, cX8_coming, 4, some .int, none, { frames := 2, cells := 0, slots := 0, locals := 44 })
def m_X8_dances : MI := (yX8_dances, cX8_dances, 5, none, none, { frames := 1, cells := 0, slots := 0, locals := 22 })
def m_X8_week : MI := (yX8_week, cX8_week, 5, some .int, none, { frames := 3, cells := 0, slots := 0, locals := 67 })
def m_X8_weeksGo : MI := (yX8_weeksGo, cX8_weeksGo, 4, some .int, none, { frames := 4, cells := 0, slots := 0, locals := 91 })
def m_X8_copies : MI := (yX8_copies, cX8_copies, 4, none, none, { frames := 0, cells := 0, slots := 0, locals := 0 })
def m_X8_remember : MI := (yX8_remember, cX8_remember, 2, none, none, { frames := 1, cells := 0, slots := 0, locals := 23 })
def m_X8_append : MI := (yX8_append, cX8_append, 2, some .int, none, { frames := 1, cells := 0, slots := 0, locals := 22 })
def m_X8_clearText : MI := (yX8_clearText, cX8_clearText, 2, some .int, none, { frames := 0, cells := 0, slots := 0, locals := 0 })
def m_X8_sign : MI := (yX8_sign, cX8_sign, 1, some .int, none, { frames := 0, cells := 0, slots := 0, locals := 0 })
def m_X8_takesSign : MI := (yX8_takesSign, cX8_takesSign, 3, some .boolean, none, { frames := 1, cells := 0, slots := 0, locals := 20 })
def m_X8_figure : MI := (yX8_figure, cX8_figure, 5, some .boolean, none, { frames := 1, cells := 0, slots := 0, locals := 22 })
def m_X8_figures : MI := (yX8_figures, cX8_figures, 6, some .boolean, none, { frames := 2, cells := 0, slots := 0, locals := 46 })
def m_X8_readsClass : MI := (yX8_readsClass, cX8_readsClass, 1, some .boolean, none, { frames := 2, cells := 0, slots := 0, locals := 46 })
def m_X8_readsCommand : MI := (yX8_readsCommand, cX8_readsCommand, 1, some .boolean, none, { frames := 3, cells := 0, slots := 0, locals := 71 })
def m_X8_isStudio : MI := (yX8_isStudio, cX8_isStudio, 1, some .boolean, none, { frames := 4, cells := 0, slots := 0, locals := 91 })
def m_X8_errorPosition : MI := (yX8_errorPosition, cX8_errorPosition, 1, some .int, none, { frames := 5, cells := 0, slots := 0, locals := 111 })
def m_X8_canSet : MI := (yX8_canSet, cX8_canSet, 1, some .boolean, none, { frames := 2, cells := 0, slots := 0, locals := 43 })
def m_X8_areBoth : MI := (yX8_areBoth, cX8_areBoth, 1, some .boolean, none, { frames := 2, cells := 0, slots := 0, locals := 43 })
def m_X8_canPass : MI := (yX8_canPass, cX8_canPass, 2, some .boolean, none, { frames := 2, cells := 0, slots := 0, locals := 43 })
def m_X8_can : MI := (yX8_can, cX8_can, 1, some .boolean, none, { frames := 4, cells := 0, slots := 0, locals := 89 })
def m_X8_does : MI := (yX8_does, cX8_does, 1, none, none, { frames := 5, cells := 0, slots := 0, locals := 114 })
def m_X8_load : MI := (yX8_load, cX8_load, 2, some .int, none, { frames := 6, cells := 0, slots := 0, locals := 134 })
def m_X8_seats : MI := (yX8_seats, cX8_seats, 3, some .int, none, { frames := 1, cells := 0, slots := 0, locals := 22 })
def m_X8_left : MI := (yX8_left, cX8_left, 3, some .int, none, { frames := 1, cells := 0, slots := 0, locals := 22 })
def m_X8_tells : MI := (yX8_tells, cX8_tells, 2, some .int, none, { frames := 2, cells := 0, slots := 0, locals := 44 })
def m_X8_about : MI := (yX8_about, cX8_about, 2, some .int, none, { frames := 3, cells := 0, slots := 0, locals := 65 })
def m_X8_classes : MI := (yX8_classes, cX8_classes, 5, some .int, none, { frames := 1, cells := 0, slots := 0, locals := 22 })
def m_X8_floorOf : MI := (yX8_floorOf, cX8_floorOf, 3, some .int, none, { frames := 2, cells := 0, slots := 0, locals := 46 })
def m_X8_daysOf : MI := (yX8_daysOf, cX8_daysOf, 4, some .int, none, { frames := 1, cells := 0, slots := 0, locals := 22 })
def m_X8_teacherOf : MI := (yX8_teacherOf, cX8_teacherOf, 3, some .int, none, { frames := 2, cells := 0, slots := 0, locals := 46 })
def m_X8_classOf : MI := (yX8_classOf, cX8_classOf, 3, some .int, none, { frames := 3, cells := 0, slots := 0, locals := 66 })
def m_X8_seatsOf : MI := (yX8_seatsOf, cX8_seatsOf, 4, some .int, none, { frames := 2, cells := 0, slots := 0, locals := 44 })
def m_X8_dancerOf : MI := (yX8_dancerOf, cX8_dancerOf, 3, some .int, none, { frames := 3, cells := 0, slots := 0, locals := 67 })
def m_X8_uses : MI := (yX8_uses, cX8_uses, 2, some .int, none, { frames := 1, cells := 0, slots := 0, locals := 22 })
def m_X8_setting : MI := (yX8_setting, cX8_setting, 2, some .int, none, { frames := 1, cells := 0, slots := 0, locals := 22 })
def m_X8_isFloorLike : MI := (yX8_isFloorLike, cX8_isFloorLike, 4, some .boolean, none, { frames := 1, cells := 0, slots := 0, locals := 22 })
def m_X8_floor : MI := (yX8_floor, cX8_floor, 5, some .int, none, { frames := 2, cells := 0, slots := 0, locals := 45 })
def m_X8_teacher : MI := (yX8_teacher, cX8_teacher, 4, some .int, none, { frames := 2, cells := 0, slots := 0, locals := 44 })
def m_X8_isTime : MI := (yX8_isTime, cX8_isTime, 4, some .boolean, none, { frames := 1, cells := 0, slots := 0, locals := 22 })
def m_X8_triesClass : MI := (yX8_triesClass, cX8_triesClass, 8, some .int, none, { frames := 3, cells := 0, slots := 0, locals := 74 })
def m_X8_triesSeat : MI := (yX8_triesSeat, cX8_triesSeat, 4, some .int, none, { frames := 4, cells := 0, slots := 0, locals := 89 })
def m_X8_set : MI := (yX8_set, cX8_set, 8, some .int, none, { frames := 4, cells := 0, slots := 0, locals := 101 })
def m_X8_drop : MI := (yX8_drop, cX8_drop, 2, some .int, none, { frames := 2, cells := 0, slots := 0, locals := 45 })
def m_X8_dancer : MI := (yX8_dancer, cX8_dancer, 1, some .int, none, { frames := 2, cells := 0, slots := 0, locals := 44 })
def m_X8_pass : MI := (yX8_pass, cX8_pass, 2, some .int, none, { frames := 3, cells := 0, slots := 0, locals := 64 })
def m_X8_enter : MI := (yX8_enter, cX8_enter, 3, some .int, none, { frames := 5, cells := 0, slots := 0, locals := 112 })
def m_X8_leave : MI := (yX8_leave, cX8_leave, 4, some .int, none, { frames := 2, cells := 0, slots := 0, locals := 44 })
def m_X8_weeks : MI := (yX8_weeks, cX8_weeks, 2, some .int, none, { frames := 5, cells := 0, slots := 0, locals := 114 })
def m_X8_tune : MI := (yX8_tune, cX8_tune, 4, some .int, none, { frames := 2, cells := 0, slots := 0, locals := 44 })
def m_X8_undo : MI := (yX8_undo, cX8_undo, 1, some .int, none, { frames := 1, cells := 0, slots := 0, locals := 23 })
def m_X8_why : MI := (yX8_why, cX8_why, 8, some .int, none, { frames := 3, cells := 0, slots := 0, locals := 74 })
def m_X8_whySeat : MI := (yX8_whySeat, cX8_whySeat, 3, some .int, none, { frames := 4, cells := 0, slots := 0, locals := 89 })
def m_X8_bestFloor : MI := (yX8_bestFloor, cX8_bestFloor, 10, some .int, none, { frames := 3, cells := 0, slots := 0, locals := 74 })
def m_X8_emptyIn : MI := (yX8_emptyIn, cX8_emptyIn, 4, some .int, none, { frames := 4, cells := 0, slots := 0, locals := 91 })
def m_X8_held : MI := (yX8_held, cX8_held, 2, some .int, none, { frames := 4, cells := 0, slots := 0, locals := 91 })
def m_X8_isCommand : MI := (yX8_isCommand, cX8_isCommand, 6, some .boolean, none, { frames := 5, cells := 0, slots := 0, locals := 114 })
def m_X8_size : MI := (yX8_size, cX8_size, 1, some .long, none, { frames := 0, cells := 0, slots := 0, locals := 0 })
def m_X8_runScript : MI := (yX8_runScript, cX8_runScript, 10, some .int, none, { frames := 6, cells := 0, slots := 0, locals := 139 })
def m_X8_turns : MI := (yX8_turns, cX8_turns, 5, none, none, { frames := 4, cells := 0, slots := 0, locals := 101 })
def m_X8_dancersTurn : MI := (yX8_dancersTurn, cX8_dancersTurn, 5, none, none, { frames := 5, cells := 0, slots := 0, locals := 114 })
def m_X8_simulate : MI := (yX8_simulate, cX8_simulate, 9, some .int, none, { frames := 6, cells := 0, slots := 0, locals := 138 })
def m_X8_save : MI := (yX8_save, cX8_save, 2, some .int, none, { frames := 1, cells := 0, slots := 0, locals := 23 })
def m_X8_restore : MI := (yX8_restore, cX8_restore, 3, some .int, none, { frames := 1, cells := 0, slots := 0, locals := 23 })
def m_J6_bitCount_0f7a4 : MI := (yJ6_bitCount_0f7a4, cJ6_bitCount_0f7a4, 1, some .int, none, { frames := 0, cells := 0, slots := 0, locals := 0 })
def m_J9_max_7cf53 : MI := (yJ9_max_7cf53, cJ9_max_7cf53, 2, some .int, none, { frames := 0, cells := 0, slots := 0, locals := 0 })
def m_J9_min_7cf53 : MI := (yJ9_min_7cf53, cJ9_min_7cf53, 2, some .int, none, { frames := 0, cells := 0, slots := 0, locals := 0 })
def m_L_append : MI := (yL_append, cL_append, 4, some .int, some [(0, 9, 12, 13), (0, 9, 15, 15)], { frames := 8, cells := 2, slots := 12, locals := 133 })
def m_L_load : MI := (yL_load, cL_load, 3, some .int, some [(0, 8, 11, 15)], { frames := 9, cells := 1, slots := 6, locals := 199 })
def m_L_about : MI := (yL_about, cL_about, 4, some .int, some [(0, 9, 12, 13)], { frames := 7, cells := 1, slots := 6, locals := 113 })
def m_L_floorOf : MI := (yL_floorOf, cL_floorOf, 5, some .int, some [(0, 10, 13, 28), (0, 10, 17, 13)], { frames := 8, cells := 2, slots := 12, locals := 135 })
def m_L_teacherOf : MI := (yL_teacherOf, cL_teacherOf, 5, some .int, some [(0, 10, 13, 28), (0, 10, 17, 13)], { frames := 8, cells := 2, slots := 12, locals := 135 })
def m_L_classOf : MI := (yL_classOf, cL_classOf, 5, some .int, some [(0, 10, 13, 28), (0, 10, 17, 13)], { frames := 8, cells := 2, slots := 12, locals := 135 })
def m_L_dancerOf : MI := (yL_dancerOf, cL_dancerOf, 5, some .int, some [(0, 10, 13, 28), (0, 10, 17, 13)], { frames := 8, cells := 2, slots := 12, locals := 135 })
def m_L_uses : MI := (yL_uses, cL_uses, 4, some .int, some [(0, 9, 12, 13)], { frames := 8, cells := 1, slots := 6, locals := 133 })
def m_L_setting : MI := (yL_setting, cL_setting, 4, some .int, some [(0, 9, 12, 13)], { frames := 8, cells := 1, slots := 6, locals := 133 })
def m_L_floor : MI := (yL_floor, cL_floor, 7, some .int, some [(0, 14, 17, 13), (0, 14, 21, 15)], { frames := 8, cells := 5, slots := 30, locals := 136 })
def m_L_teacher : MI := (yL_teacher, cL_teacher, 5, some .int, some [(0, 10, 13, 13), (0, 10, 17, 15)], { frames := 8, cells := 3, slots := 18, locals := 134 })
def m_L_set : MI := (yL_set, cL_set, 9, some .int, some [(0, 18, 21, 28), (0, 18, 25, 13), (0, 18, 29, 15)], { frames := 9, cells := 7, slots := 42, locals := 161 })
def m_L_drop : MI := (yL_drop, cL_drop, 4, some .int, some [(0, 9, 12, 28)], { frames := 8, cells := 1, slots := 6, locals := 133 })
def m_L_dancer : MI := (yL_dancer, cL_dancer, 3, some .int, some [(0, 8, 11, 15)], { frames := 8, cells := 1, slots := 6, locals := 132 })
def m_L_pass : MI := (yL_pass, cL_pass, 4, some .int, some [(0, 9, 12, 28), (0, 9, 15, 15)], { frames := 8, cells := 2, slots := 12, locals := 133 })
def m_L_enter : MI := (yL_enter, cL_enter, 5, some .int, some [(0, 10, 13, 28)], { frames := 8, cells := 2, slots := 12, locals := 134 })
def m_L_leave : MI := (yL_leave, cL_leave, 5, some .int, some [(0, 10, 13, 28), (0, 10, 17, 15)], { frames := 8, cells := 3, slots := 18, locals := 134 })
def m_L_weeks : MI := (yL_weeks, cL_weeks, 4, some .int, some [(0, 9, 12, 13)], { frames := 8, cells := 1, slots := 6, locals := 155 })
def m_L_tune : MI := (yL_tune, cL_tune, 5, some .int, some [(0, 10, 13, 13)], { frames := 8, cells := 2, slots := 12, locals := 135 })
def m_L_undo : MI := (yL_undo, cL_undo, 3, some .int, some [(0, 8, 11, 15)], { frames := 8, cells := 1, slots := 6, locals := 132 })
def m_L_why : MI := (yL_why, cL_why, 9, some .int, some [(0, 18, 21, 28), (0, 18, 25, 13)], { frames := 9, cells := 6, slots := 36, locals := 161 })
def m_L_whySeat : MI := (yL_whySeat, cL_whySeat, 5, some .int, some [(0, 10, 13, 28)], { frames := 8, cells := 2, slots := 12, locals := 134 })
def m_L_bestFloor : MI := (yL_bestFloor, cL_bestFloor, 8, some .int, some [(0, 16, 19, 28), (0, 16, 23, 13)], { frames := 9, cells := 5, slots := 30, locals := 160 })
def m_L_emptyIn : MI := (yL_emptyIn, cL_emptyIn, 4, some .int, some [(0, 9, 12, 28)], { frames := 8, cells := 1, slots := 6, locals := 134 })
def m_L_runScript : MI := (yL_runScript, cL_runScript, 6, some .int, some [(0, 11, 14, 13)], { frames := 8, cells := 2, slots := 12, locals := 184 })
def m_L_simulate : MI := (yL_simulate, cL_simulate, 6, some .int, some [(0, 11, 14, 13)], { frames := 8, cells := 1, slots := 6, locals := 183 })
def m_L_save : MI := (yL_save, cL_save, 4, some .int, some [(0, 9, 12, 28)], { frames := 8, cells := 1, slots := 6, locals := 133 })
def m_L_restore : MI := (yL_restore, cL_restore, 4, some .int, some [(0, 9, 12, 28), (0, 9, 15, 15)], { frames := 8, cells := 2, slots := 12, locals := 133 })
def m_L_law : MI := (x, code, maxLocals, ret, none, room_1)
theorem cw_X0_init : cwOf m_X0_init ∈ tblG := tG1 (i := 165) (by decide +kernel) (by decide +kernel)
theorem mk_X0_init : MK m_X0_init 0 := ⟨cw_X0_init, tG1 (i := 7) (by decide +kernel) (by decide +kernel), rfl, by decide +kernel⟩
theorem im_X0_init : Cond.instanceMethod (m_X0_init.1) ∈ tblG := tG1 (i := 164) (by decide +kernel) (by decide +kernel)
theorem cw_X0_copyFrom : cwOf m_X0_copyFrom ∈ tblG := tG2 (i := 144) (by decide +kernel) (by decide +kernel)
theorem mk_X0_copyFrom : MK m_X0_copyFrom 1 := ⟨cw_X0_copyFrom, tG1 (i := 7) (by decide +kernel) (by decide +kernel), rfl, by decide +kernel⟩
theorem im_X0_copyFrom : Cond.instanceMethod (m_X0_copyFrom.1) ∈ tblG := tG2 (i := 142) (by decide +kernel) (by decide +kernel)
theorem se_X0_copyFrom : Cond.selects m_X0_copyFrom.1.cls m_X0_copyFrom.1 m_X0_copyFrom.1 ∈ tblG := tG2 (i := 143) (by decide +kernel) (by decide +kernel)
theorem cw_X0_usesSoFar : cwOf m_X0_usesSoFar ∈ tblG := tG3 (i := 202) (by decide +kernel) (by decide +kernel)
theorem mk_X0_usesSoFar : MK m_X0_usesSoFar 0 := ⟨cw_X0_usesSoFar, tG1 (i := 7) (by decide +kernel) (by decide +kernel), rfl, by decide +kernel⟩
theorem im_X0_usesSoFar : Cond.instanceMethod (m_X0_usesSoFar.1) ∈ tblG := tG3 (i := 200) (by decide +kernel) (by decide +kernel)
theorem se_X0_usesSoFar : Cond.selects m_X0_usesSoFar.1.cls m_X0_usesSoFar.1 m_X0_usesSoFar.1 ∈ tblG := tG3 (i := 201) (by decide +kernel) (by decide +kernel)
theorem cw_X0_dance : cwOf m_X0_dance ∈ tblG := tG2 (i := 168) (by decide +kernel) (by decide +kernel)
theorem mk_X0_dance : MK m_X0_dance 1 := ⟨cw_X0_dance, tG1 (i := 7) (by decide +kernel) (by decide +kernel), rfl, by decide +kernel⟩
theorem im_X0_dance : Cond.instanceMethod (m_X0_dance.1) ∈ tblG := tG2 (i := 166) (by decide +kernel) (by decide +kernel)
theorem se_X0_dance : Cond.selects m_X0_dance.1.cls m_X0_dance.1 m_X0_dance.1 ∈ tblG := tG2 (i := 167) (by decide +kernel) (by decide +kernel)
theorem cw_X0_riseWith : cwOf m_X0_riseWith ∈ tblG := tG2 (i := 172) (by decide +kernel) (by decide +kernel)
theorem mk_X0_riseWith : MK m_X0_riseWith 1 := ⟨cw_X0_riseWith, tG1 (i := 7) (by decide +kernel) (by decide +kernel), rfl, by decide +kernel⟩
theorem im_X0_riseWith : Cond.instanceMethod (m_X0_riseWith.1) ∈ tblG := tG2 (i := 170) (by decide +kernel) (by decide +kernel)
theorem se_X0_riseWith : Cond.selects m_X0_riseWith.1.cls m_X0_riseWith.1 m_X0_riseWith.1 ∈ tblG := tG2 (i := 171) (by decide +kernel) (by decide +kernel)
theorem cw_X1_init : cwOf m_X1_init ∈ tblG := tG1 (i := 67) (by decide +kernel) (by decide +kernel)
theorem mk_X1_init : MK m_X1_init 0 := ⟨cw_X1_init, tG1 (i := 4) (by decide +kernel) (by decide +kernel), rfl, by decide +kernel⟩
theorem im_X1_init : Cond.instanceMethod (m_X1_init.1) ∈ tblG := tG1 (i := 66) (by decide +kernel) (by decide +kernel)
theorem cw_X1_copyFrom : cwOf m_X1_copyFrom ∈ tblG := tG2 (i := 132) (by decide +kernel) (by decide +kernel)
theorem mk_X1_copyFrom : MK m_X1_copyFrom 1 := ⟨cw_X1_copyFrom, tG1 (i := 4) (by decide +kernel) (by decide +kernel), rfl, by decide +kernel⟩
theorem im_X1_copyFrom : Cond.instanceMethod (m_X1_copyFrom.1) ∈ tblG := tG2 (i := 130) (by decide +kernel) (by decide +kernel)
theorem se_X1_copyFrom : Cond.selects m_X1_copyFrom.1.cls m_X1_copyFrom.1 m_X1_copyFrom.1 ∈ tblG := tG2 (i := 131) (by decide +kernel) (by decide +kernel)
theorem cw_X1_hasSpringFor : cwOf m_X1_hasSpringFor ∈ tblG := tG3 (i := 103) (by decide +kernel) (by decide +kernel)
theorem mk_X1_hasSpringFor : MK m_X1_hasSpringFor 2 := ⟨cw_X1_hasSpringFor, tG1 (i := 4) (by decide +kernel) (by decide +kernel), rfl, by decide +kernel⟩
theorem im_X1_hasSpringFor : Cond.instanceMethod (m_X1_hasSpringFor.1) ∈ tblG := tG3 (i := 101) (by decide +kernel) (by decide +kernel)
theorem se_X1_hasSpringFor : Cond.selects m_X1_hasSpringFor.1.cls m_X1_hasSpringFor.1 m_X1_hasSpringFor.1 ∈ tblG := tG3 (i := 102) (by decide +kernel) (by decide +kernel)
theorem cw_X1_hasBarreFor : cwOf m_X1_hasBarreFor ∈ tblG := tG3 (i := 107) (by decide +kernel) (by decide +kernel)
theorem mk_X1_hasBarreFor : MK m_X1_hasBarreFor 2 := ⟨cw_X1_hasBarreFor, tG1 (i := 4) (by decide +kernel) (by decide +kernel), rfl, by decide +kernel⟩
theorem im_X1_hasBarreFor : Cond.instanceMethod (m_X1_hasBarreFor.1) ∈ tblG := tG3 (i := 105) (by decide +kernel) (by decide +kernel)
theorem se_X1_hasBarreFor : Cond.selects m_X1_hasBarreFor.1.cls m_X1_hasBarreFor.1 m_X1_hasBarreFor.1 ∈ tblG := tG3 (i := 106) (by decide +kernel) (by decide +kernel)
theorem cw_X1_hasMirrorsFor : cwOf m_X1_hasMirrorsFor ∈ tblG := tG3 (i := 111) (by decide +kernel) (by decide +kernel)
theorem mk_X1_hasMirrorsFor : MK m_X1_hasMirrorsFor 2 := ⟨cw_X1_hasMirrorsFor, tG1 (i := 4) (by decide +kernel) (by decide +kernel), rfl, by decide +kernel⟩
theorem im_X1_hasMirrorsFor : Cond.instanceMethod (m_X1_hasMirrorsFor.1) ∈ tblG := tG3 (i := 109) (by decide +kernel) (by decide +kernel)
theorem se_X1_hasMirrorsFor : Cond.selects m_X1_hasMirrorsFor.1.cls m_X1_hasMirrorsFor.1 m_X1_hasMirrorsFor.1 ∈ tblG := tG3 (i := 110) (by decide +kernel) (by decide +kernel)
theorem cw_X1_roomFor : cwOf m_X1_roomFor ∈ tblG := tG3 (i := 161) (by decide +kernel) (by decide +kernel)
theorem mk_X1_roomFor : MK m_X1_roomFor 1 := ⟨cw_X1_roomFor, tG1 (i := 4) (by decide +kernel) (by decide +kernel), rfl, by decide +kernel⟩
theorem im_X1_roomFor : Cond.instanceMethod (m_X1_roomFor.1) ∈ tblG := tG3 (i := 159) (by decide +kernel) (by decide +kernel)
theorem se_X1_roomFor : Cond.selects m_X1_roomFor.1.cls m_X1_roomFor.1 m_X1_roomFor.1 ∈ tblG := tG3 (i := 160) (by decide +kernel) (by decide +kernel)
theorem cw_X2_init : cwOf m_X2_init ∈ tblG := tG2 (i := 12) (by decide +kernel) (by decide +kernel)
theorem mk_X2_init : MK m_X2_init 0 := ⟨cw_X2_init, tG1 (i := 8) (by decide +kernel) (by decide +kernel), rfl, by decide +kernel⟩
theorem im_X2_init : Cond.instanceMethod (m_X2_init.1) ∈ tblG := tG2 (i := 11) (by decide +kernel) (by decide +kernel)
theorem cw_X2_remember : cwOf m_X2_remember ∈ tblG := tG4 (i := 68) (by decide +kernel) (by decide +kernel)
theorem mk_X2_remember : MK m_X2_remember 1 := ⟨cw_X2_remember, tG1 (i := 8) (by decide +kernel) (by decide +kernel), rfl, by decide +kernel⟩
theorem im_X2_remember : Cond.instanceMethod (m_X2_remember.1) ∈ tblG := tG4 (i := 66) (by decide +kernel) (by decide +kernel)
theorem se_X2_remember : Cond.selects m_X2_remember.1.cls m_X2_remember.1 m_X2_remember.1 ∈ tblG := tG4 (i := 67) (by decide +kernel) (by decide +kernel)
theorem cw_X2_takeBack : cwOf m_X2_takeBack ∈ tblG := tG4 (i := 152) (by decide +kernel) (by decide +kernel)
theorem mk_X2_takeBack : MK m_X2_takeBack 1 := ⟨cw_X2_takeBack, tG1 (i := 8) (by decide +kernel) (by decide +kernel), rfl, by decide +kernel⟩
theorem im_X2_takeBack : Cond.instanceMethod (m_X2_takeBack.1) ∈ tblG := tG4 (i := 150) (by decide +kernel) (by decide +kernel)
theorem se_X2_takeBack : Cond.selects m_X2_takeBack.1.cls m_X2_takeBack.1 m_X2_takeBack.1 ∈ tblG := tG4 (i := 151) (by decide +kernel) (by decide +kernel)
theorem cw_X2_forgetAll : cwOf m_X2_forgetAll ∈ tblG := tG3 (i := 48) (by decide +kernel) (by decide +kernel)
theorem mk_X2_forgetAll : MK m_X2_forgetAll 0 := ⟨cw_X2_forgetAll, tG1 (i := 8) (by decide +kernel) (by decide +kernel), rfl, by decide +kernel⟩
theorem im_X2_forgetAll : Cond.instanceMethod (m_X2_forgetAll.1) ∈ tblG := tG3 (i := 46) (by decide +kernel) (by decide +kernel)
theorem se_X2_forgetAll : Cond.selects m_X2_forgetAll.1.cls m_X2_forgetAll.1 m_X2_forgetAll.1 ∈ tblG := tG3 (i := 47) (by decide +kernel) (by decide +kernel)
theorem cw_X3_init : cwOf m_X3_init ∈ tblG := tG1 (i := 113) (by decide +kernel) (by decide +kernel)
theorem mk_X3_init : MK m_X3_init 0 := ⟨cw_X3_init, tG1 (i := 6) (by decide +kernel) (by decide +kernel), rfl, by decide +kernel⟩
theorem im_X3_init : Cond.instanceMethod (m_X3_init.1) ∈ tblG := tG1 (i := 112) (by decide +kernel) (by decide +kernel)
theorem cw_X3_copyFrom : cwOf m_X3_copyFrom ∈ tblG := tG2 (i := 140) (by decide +kernel) (by decide +kernel)
theorem mk_X3_copyFrom : MK m_X3_copyFrom 1 := ⟨cw_X3_copyFrom, tG1 (i := 6) (by decide +kernel) (by decide +kernel), rfl, by decide +kernel⟩
theorem im_X3_copyFrom : Cond.instanceMethod (m_X3_copyFrom.1) ∈ tblG := tG2 (i := 138) (by decide +kernel) (by decide +kernel)
theorem se_X3_copyFrom : Cond.selects m_X3_copyFrom.1.cls m_X3_copyFrom.1 m_X3_copyFrom.1 ∈ tblG := tG2 (i := 139) (by decide +kernel) (by decide +kernel)
theorem cw_X3_isAt : cwOf m_X3_isAt ∈ tblG := tG3 (i := 91) (by decide +kernel) (by decide +kernel)
theorem mk_X3_isAt : MK m_X3_isAt 2 := ⟨cw_X3_isAt, tG1 (i := 6) (by decide +kernel) (by decide +kernel), rfl, by decide +kernel⟩
theorem im_X3_isAt : Cond.instanceMethod (m_X3_isAt.1) ∈ tblG := tG3 (i := 89) (by decide +kernel) (by decide +kernel)
theorem se_X3_isAt : Cond.selects m_X3_isAt.1.cls m_X3_isAt.1 m_X3_isAt.1 ∈ tblG := tG3 (i := 90) (by decide +kernel) (by decide +kernel)
theorem cw_X3_seatsDancer : cwOf m_X3_seatsDancer ∈ tblG := tG2 (i := 164) (by decide +kernel) (by decide +kernel)
theorem mk_X3_seatsDancer : MK m_X3_seatsDancer 1 := ⟨cw_X3_seatsDancer, tG1 (i := 6) (by decide +kernel) (by decide +kernel), rfl, by decide +kernel⟩
theorem im_X3_seatsDancer : Cond.instanceMethod (m_X3_seatsDancer.1) ∈ tblG := tG2 (i := 162) (by decide +kernel) (by decide +kernel)
theorem se_X3_seatsDancer : Cond.selects m_X3_seatsDancer.1.cls m_X3_seatsDancer.1 m_X3_seatsDancer.1 ∈ tblG := tG2 (i := 163) (by decide +kernel) (by decide +kernel)
theorem cw_X3_countSeats : cwOf m_X3_countSeats ∈ tblG := tG3 (i := 147) (by decide +kernel) (by decide +kernel)
theorem mk_X3_countSeats : MK m_X3_countSeats 0 := ⟨cw_X3_countSeats, tG1 (i := 6) (by decide +kernel) (by decide +kernel), rfl, by decide +kernel⟩
theorem im_X3_countSeats : Cond.instanceMethod (m_X3_countSeats.1) ∈ tblG := tG3 (i := 145) (by decide +kernel) (by decide +kernel)
theorem se_X3_countSeats : Cond.selects m_X3_countSeats.1.cls m_X3_countSeats.1 m_X3_countSeats.1 ∈ tblG := tG3 (i := 146) (by decide +kernel) (by decide +kernel)
theorem cw_X4_init : cwOf m_X4_init ∈ tblG := tG1 (i := 60) (by decide +kernel) (by decide +kernel)
theorem mk_X4_init : MK m_X4_init 0 := ⟨cw_X4_init, tG1 (i := 3) (by decide +kernel) (by decide +kernel), rfl, by decide +kernel⟩
theorem im_X4_init : Cond.instanceMethod (m_X4_init.1) ∈ tblG := tG1 (i := 59) (by decide +kernel) (by decide +kernel)
theorem cw_X4_makeNew : cwOf m_X4_makeNew ∈ tblG := tG1 (i := 191) (by decide +kernel) (by decide +kernel)
theorem mk_X4_makeNew : MK m_X4_makeNew 0 := ⟨cw_X4_makeNew, tG1 (i := 3) (by decide +kernel) (by decide +kernel), rfl, by decide +kernel⟩
theorem im_X4_makeNew : Cond.instanceMethod (m_X4_makeNew.1) ∈ tblG := tG1 (i := 189) (by decide +kernel) (by decide +kernel)
theorem se_X4_makeNew : Cond.selects m_X4_makeNew.1.cls m_X4_makeNew.1 m_X4_makeNew.1 ∈ tblG := tG1 (i := 190) (by decide +kernel) (by decide +kernel)
theorem cw_X4_copyFrom : cwOf m_X4_copyFrom ∈ tblG := tG2 (i := 124) (by decide +kernel) (by decide +kernel)
theorem mk_X4_copyFrom : MK m_X4_copyFrom 1 := ⟨cw_X4_copyFrom, tG1 (i := 3) (by decide +kernel) (by decide +kernel), rfl, by decide +kernel⟩
theorem im_X4_copyFrom : Cond.instanceMethod (m_X4_copyFrom.1) ∈ tblG := tG2 (i := 122) (by decide +kernel) (by decide +kernel)
theorem se_X4_copyFrom : Cond.selects m_X4_copyFrom.1.cls m_X4_copyFrom.1 m_X4_copyFrom.1 ∈ tblG := tG2 (i := 123) (by decide +kernel) (by decide +kernel)
theorem cw_X4_copyRowsFrom : cwOf m_X4_copyRowsFrom ∈ tblG := tG2 (i := 128) (by decide +kernel) (by decide +kernel)
theorem mk_X4_copyRowsFrom : MK m_X4_copyRowsFrom 1 := ⟨cw_X4_copyRowsFrom, tG1 (i := 3) (by decide +kernel) (by decide +kernel), rfl, by decide +kernel⟩
theorem im_X4_copyRowsFrom : Cond.instanceMethod (m_X4_copyRowsFrom.1) ∈ tblG := tG2 (i := 127) (by decide +kernel) (by decide +kernel)
theorem se_X4_copyRowsFrom : Cond.selects m_X4_copyRowsFrom.1.cls m_X4_copyRowsFrom.1 m_X4_copyRowsFrom.1 ∈ tblG := tGs (i := 8) (by decide +kernel) (by decide +kernel)
theorem cw_X4_hasFloor : cwOf m_X4_hasFloor ∈ tblG := tG3 (i := 75) (by decide +kernel) (by decide +kernel)
theorem mk_X4_hasFloor : MK m_X4_hasFloor 1 := ⟨cw_X4_hasFloor, tG1 (i := 3) (by decide +kernel) (by decide +kernel), rfl, by decide +kernel⟩
theorem im_X4_hasFloor : Cond.instanceMethod (m_X4_hasFloor.1) ∈ tblG := tG3 (i := 73) (by decide +kernel) (by decide +kernel)
theorem se_X4_hasFloor : Cond.selects m_X4_hasFloor.1.cls m_X4_hasFloor.1 m_X4_hasFloor.1 ∈ tblG := tG3 (i := 74) (by decide +kernel) (by decide +kernel)
theorem cw_X4_hasTeacher : cwOf m_X4_hasTeacher ∈ tblG := tG3 (i := 79) (by decide +kernel) (by decide +kernel)
theorem mk_X4_hasTeacher : MK m_X4_hasTeacher 1 := ⟨cw_X4_hasTeacher, tG1 (i := 3) (by decide +kernel) (by decide +kernel), rfl, by decide +kernel⟩
theorem im_X4_hasTeacher : Cond.instanceMethod (m_X4_hasTeacher.1) ∈ tblG := tG3 (i := 77) (by decide +kernel) (by decide +kernel)
theorem se_X4_hasTeacher : Cond.selects m_X4_hasTeacher.1.cls m_X4_hasTeacher.1 m_X4_hasTeacher.1 ∈ tblG := tG3 (i := 78) (by decide +kernel) (by decide +kernel)
theorem cw_X4_hasLesson : cwOf m_X4_hasLesson ∈ tblG := tG3 (i := 135) (by decide +kernel) (by decide +kernel)
theorem mk_X4_hasLesson : MK m_X4_hasLesson 1 := ⟨cw_X4_hasLesson, tG1 (i := 3) (by decide +kernel) (by decide +kernel), rfl, by decide +kernel⟩
theorem im_X4_hasLesson : Cond.instanceMethod (m_X4_hasLesson.1) ∈ tblG := tG3 (i := 133) (by decide +kernel) (by decide +kernel)
theorem se_X4_hasLesson : Cond.selects m_X4_hasLesson.1.cls m_X4_hasLesson.1 m_X4_hasLesson.1 ∈ tblG := tG3 (i := 134) (by decide +kernel) (by decide +kernel)
theorem cw_X4_hasDancer : cwOf m_X4_hasDancer ∈ tblG := tG3 (i := 127) (by decide +kernel) (by decide +kernel)
theorem mk_X4_hasDancer : MK m_X4_hasDancer 1 := ⟨cw_X4_hasDancer, tG1 (i := 3) (by decide +kernel) (by decide +kernel), rfl, by decide +kernel⟩
theorem im_X4_hasDancer : Cond.instanceMethod (m_X4_hasDancer.1) ∈ tblG := tG3 (i := 125) (by decide +kernel) (by decide +kernel)
theorem se_X4_hasDancer : Cond.selects m_X4_hasDancer.1.cls m_X4_hasDancer.1 m_X4_hasDancer.1 ∈ tblG := tG3 (i := 126) (by decide +kernel) (by decide +kernel)
theorem cw_X4_hasSeat : cwOf m_X4_hasSeat ∈ tblG := tG3 (i := 170) (by decide +kernel) (by decide +kernel)
theorem mk_X4_hasSeat : MK m_X4_hasSeat 2 := ⟨cw_X4_hasSeat, tG1 (i := 3) (by decide +kernel) (by decide +kernel), rfl, by decide +kernel⟩
theorem im_X4_hasSeat : Cond.instanceMethod (m_X4_hasSeat.1) ∈ tblG := tG3 (i := 168) (by decide +kernel) (by decide +kernel)
theorem se_X4_hasSeat : Cond.selects m_X4_hasSeat.1.cls m_X4_hasSeat.1 m_X4_hasSeat.1 ∈ tblG := tG3 (i := 169) (by decide +kernel) (by decide +kernel)
theorem cw_X4_mayHavePass : cwOf m_X4_mayHavePass ∈ tblG := tG3 (i := 123) (by decide +kernel) (by decide +kernel)
theorem mk_X4_mayHavePass : MK m_X4_mayHavePass 1 := ⟨cw_X4_mayHavePass, tG1 (i := 3) (by decide +kernel) (by decide +kernel), rfl, by decide +kernel⟩
theorem im_X4_mayHavePass : Cond.instanceMethod (m_X4_mayHavePass.1) ∈ tblG := tG3 (i := 121) (by decide +kernel) (by decide +kernel)
theorem se_X4_mayHavePass : Cond.selects m_X4_mayHavePass.1.cls m_X4_mayHavePass.1 m_X4_mayHavePass.1 ∈ tblG := tG3 (i := 122) (by decide +kernel) (by decide +kernel)
theorem cw_X4_addFloor : cwOf m_X4_addFloor ∈ tblG := tG3 (i := 63) (by decide +kernel) (by decide +kernel)
theorem mk_X4_addFloor : MK m_X4_addFloor 4 := ⟨cw_X4_addFloor, tG1 (i := 3) (by decide +kernel) (by decide +kernel), rfl, by decide +kernel⟩
theorem im_X4_addFloor : Cond.instanceMethod (m_X4_addFloor.1) ∈ tblG := tG3 (i := 61) (by decide +kernel) (by decide +kernel)
theorem se_X4_addFloor : Cond.selects m_X4_addFloor.1.cls m_X4_addFloor.1 m_X4_addFloor.1 ∈ tblG := tG3 (i := 62) (by decide +kernel) (by decide +kernel)
theorem cw_X4_addTeacher : cwOf m_X4_addTeacher ∈ tblG := tG3 (i := 67) (by decide +kernel) (by decide +kernel)
theorem mk_X4_addTeacher : MK m_X4_addTeacher 2 := ⟨cw_X4_addTeacher, tG1 (i := 3) (by decide +kernel) (by decide +kernel), rfl, by decide +kernel⟩
theorem im_X4_addTeacher : Cond.instanceMethod (m_X4_addTeacher.1) ∈ tblG := tG3 (i := 65) (by decide +kernel) (by decide +kernel)
theorem se_X4_addTeacher : Cond.selects m_X4_addTeacher.1.cls m_X4_addTeacher.1 m_X4_addTeacher.1 ∈ tblG := tG3 (i := 66) (by decide +kernel) (by decide +kernel)
theorem cw_X4_addDancer : cwOf m_X4_addDancer ∈ tblG := tG3 (i := 115) (by decide +kernel) (by decide +kernel)
theorem mk_X4_addDancer : MK m_X4_addDancer 0 := ⟨cw_X4_addDancer, tG1 (i := 3) (by decide +kernel) (by decide +kernel), rfl, by decide +kernel⟩
theorem im_X4_addDancer : Cond.instanceMethod (m_X4_addDancer.1) ∈ tblG := tG3 (i := 113) (by decide +kernel) (by decide +kernel)
theorem se_X4_addDancer : Cond.selects m_X4_addDancer.1.cls m_X4_addDancer.1 m_X4_addDancer.1 ∈ tblG := tG3 (i := 114) (by decide +kernel) (by decide +kernel)
theorem cw_X4_addLesson : cwOf m_X4_addLesson ∈ tblG := tG3 (i := 71) (by decide +kernel) (by decide +kernel)
theorem mk_X4_addLesson : MK m_X4_addLesson 6 := ⟨cw_X4_addLesson, tG1 (i := 3) (by decide +kernel) (by decide +kernel), rfl, by decide +kernel⟩
theorem im_X4_addLesson : Cond.instanceMethod (m_X4_addLesson.1) ∈ tblG := tG3 (i := 69) (by decide +kernel) (by decide +kernel)
theorem se_X4_addLesson : Cond.selects m_X4_addLesson.1.cls m_X4_addLesson.1 m_X4_addLesson.1 ∈ tblG := tG3 (i := 70) (by decide +kernel) (by decide +kernel)
theorem cw_X4_dropLesson : cwOf m_X4_dropLesson ∈ tblG := tG3 (i := 174) (by decide +kernel) (by decide +kernel)
theorem mk_X4_dropLesson : MK m_X4_dropLesson 1 := ⟨cw_X4_dropLesson, tG1 (i := 3) (by decide +kernel) (by decide +kernel), rfl, by decide +kernel⟩
theorem im_X4_dropLesson : Cond.instanceMethod (m_X4_dropLesson.1) ∈ tblG := tG3 (i := 172) (by decide +kernel) (by decide +kernel)
theorem se_X4_dropLesson : Cond.selects m_X4_dropLesson.1.cls m_X4_dropLesson.1 m_X4_dropLesson.1 ∈ tblG := tG3 (i := 173) (by decide +kernel) (by decide +kernel)
theorem cw_X4_givePass : cwOf m_X4_givePass ∈ tblG := tG3 (i := 119) (by decide +kernel) (by decide +kernel)
theorem mk_X4_givePass : MK m_X4_givePass 1 := ⟨cw_X4_givePass, tG1 (i := 3) (by decide +kernel) (by decide +kernel), rfl, by decide +kernel⟩
theorem im_X4_givePass : Cond.instanceMethod (m_X4_givePass.1) ∈ tblG := tG3 (i := 117) (by decide +kernel) (by decide +kernel)
theorem se_X4_givePass : Cond.selects m_X4_givePass.1.cls m_X4_givePass.1 m_X4_givePass.1 ∈ tblG := tG3 (i := 118) (by decide +kernel) (by decide +kernel)
theorem cw_X4_takeSeat : cwOf m_X4_takeSeat ∈ tblG := tG3 (i := 131) (by decide +kernel) (by decide +kernel)
theorem mk_X4_takeSeat : MK m_X4_takeSeat 2 := ⟨cw_X4_takeSeat, tG1 (i := 3) (by decide +kernel) (by decide +kernel), rfl, by decide +kernel⟩
theorem im_X4_takeSeat : Cond.instanceMethod (m_X4_takeSeat.1) ∈ tblG := tG3 (i := 129) (by decide +kernel) (by decide +kernel)
theorem se_X4_takeSeat : Cond.selects m_X4_takeSeat.1.cls m_X4_takeSeat.1 m_X4_takeSeat.1 ∈ tblG := tG3 (i := 130) (by decide +kernel) (by decide +kernel)
theorem cw_X4_giveUpSeat : cwOf m_X4_giveUpSeat ∈ tblG := tG3 (i := 166) (by decide +kernel) (by decide +kernel)
theorem mk_X4_giveUpSeat : MK m_X4_giveUpSeat 2 := ⟨cw_X4_giveUpSeat, tG1 (i := 3) (by decide +kernel) (by decide +kernel), rfl, by decide +kernel⟩
theorem im_X4_giveUpSeat : Cond.instanceMethod (m_X4_giveUpSeat.1) ∈ tblG := tG3 (i := 164) (by decide +kernel) (by decide +kernel)
theorem se_X4_giveUpSeat : Cond.selects m_X4_giveUpSeat.1.cls m_X4_giveUpSeat.1 m_X4_giveUpSeat.1 ∈ tblG := tG3 (i := 165) (by decide +kernel) (by decide +kernel)
theorem cw_X4_countRefusal : cwOf m_X4_countRefusal ∈ tblG := tG4 (i := 90) (by decide +kernel) (by decide +kernel)
theorem mk_X4_countRefusal : MK m_X4_countRefusal 1 := ⟨cw_X4_countRefusal, tG1 (i := 3) (by decide +kernel) (by decide +kernel), rfl, by decide +kernel⟩
theorem im_X4_countRefusal : Cond.instanceMethod (m_X4_countRefusal.1) ∈ tblG := tG4 (i := 88) (by decide +kernel) (by decide +kernel)
theorem se_X4_countRefusal : Cond.selects m_X4_countRefusal.1.cls m_X4_countRefusal.1 m_X4_countRefusal.1 ∈ tblG := tG4 (i := 89) (by decide +kernel) (by decide +kernel)
theorem cw_X4_reasonAgainstLesson : cwOf m_X4_reasonAgainstLesson ∈ tblG := tG3 (i := 83) (by decide +kernel) (by decide +kernel)
theorem mk_X4_reasonAgainstLesson : MK m_X4_reasonAgainstLesson 6 := ⟨cw_X4_reasonAgainstLesson, tG1 (i := 3) (by decide +kernel) (by decide +kernel), rfl, by decide +kernel⟩
theorem im_X4_reasonAgainstLesson : Cond.instanceMethod (m_X4_reasonAgainstLesson.1) ∈ tblG := tG3 (i := 81) (by decide +kernel) (by decide +kernel)
theorem se_X4_reasonAgainstLesson : Cond.selects m_X4_reasonAgainstLesson.1.cls m_X4_reasonAgainstLesson.1 m_X4_reasonAgainstLesson.1 ∈ tblG := tG3 (i := 82) (by decide +kernel) (by decide +kernel)
theorem cw_X4_isFloorInUse : cwOf m_X4_isFloorInUse ∈ tblG := tG3 (i := 87) (by decide +kernel) (by decide +kernel)
theorem mk_X4_isFloorInUse : MK m_X4_isFloorInUse 3 := ⟨cw_X4_isFloorInUse, tG1 (i := 3) (by decide +kernel) (by decide +kernel), rfl, by decide +kernel⟩
theorem im_X4_isFloorInUse : Cond.instanceMethod (m_X4_isFloorInUse.1) ∈ tblG := tG3 (i := 86) (by decide +kernel) (by decide +kernel)
theorem se_X4_isFloorInUse : Cond.selects m_X4_isFloorInUse.1.cls m_X4_isFloorInUse.1 m_X4_isFloorInUse.1 ∈ tblG := tGs (i := 15) (by decide +kernel) (by decide +kernel)
theorem cw_X4_isTeacherInUse : cwOf m_X4_isTeacherInUse ∈ tblG := tG3 (i := 95) (by decide +kernel) (by decide +kernel)
theorem mk_X4_isTeacherInUse : MK m_X4_isTeacherInUse 3 := ⟨cw_X4_isTeacherInUse, tG1 (i := 3) (by decide +kernel) (by decide +kernel), rfl, by decide +kernel⟩
theorem im_X4_isTeacherInUse : Cond.instanceMethod (m_X4_isTeacherInUse.1) ∈ tblG := tG3 (i := 94) (by decide +kernel) (by decide +kernel)
theorem se_X4_isTeacherInUse : Cond.selects m_X4_isTeacherInUse.1.cls m_X4_isTeacherInUse.1 m_X4_isTeacherInUse.1 ∈ tblG := tGs (i := 16) (by decide +kernel) (by decide +kernel)
theorem cw_X4_reasonAgainstSeat : cwOf m_X4_reasonAgainstSeat ∈ tblG := tG3 (i := 139) (by decide +kernel) (by decide +kernel)
theorem mk_X4_reasonAgainstSeat : MK m_X4_reasonAgainstSeat 2 := ⟨cw_X4_reasonAgainstSeat, tG1 (i := 3) (by decide +kernel) (by decide +kernel), rfl, by decide +kernel⟩
theorem im_X4_reasonAgainstSeat : Cond.instanceMethod (m_X4_reasonAgainstSeat.1) ∈ tblG := tG3 (i := 137) (by decide +kernel) (by decide +kernel)
theorem se_X4_reasonAgainstSeat : Cond.selects m_X4_reasonAgainstSeat.1.cls m_X4_reasonAgainstSeat.1 m_X4_reasonAgainstSeat.1 ∈ tblG := tG3 (i := 138) (by decide +kernel) (by decide +kernel)
theorem cw_X4_isDancerSeatedAt : cwOf m_X4_isDancerSeatedAt ∈ tblG := tG3 (i := 143) (by decide +kernel) (by decide +kernel)
theorem mk_X4_isDancerSeatedAt : MK m_X4_isDancerSeatedAt 3 := ⟨cw_X4_isDancerSeatedAt, tG1 (i := 3) (by decide +kernel) (by decide +kernel), rfl, by decide +kernel⟩
theorem im_X4_isDancerSeatedAt : Cond.instanceMethod (m_X4_isDancerSeatedAt.1) ∈ tblG := tG3 (i := 142) (by decide +kernel) (by decide +kernel)
theorem se_X4_isDancerSeatedAt : Cond.selects m_X4_isDancerSeatedAt.1.cls m_X4_isDancerSeatedAt.1 m_X4_isDancerSeatedAt.1 ∈ tblG := tGs (i := 17) (by decide +kernel) (by decide +kernel)
theorem cw_X4_roomIn : cwOf m_X4_roomIn ∈ tblG := tG3 (i := 157) (by decide +kernel) (by decide +kernel)
theorem mk_X4_roomIn : MK m_X4_roomIn 1 := ⟨cw_X4_roomIn, tG1 (i := 3) (by decide +kernel) (by decide +kernel), rfl, by decide +kernel⟩
theorem im_X4_roomIn : Cond.instanceMethod (m_X4_roomIn.1) ∈ tblG := tG3 (i := 155) (by decide +kernel) (by decide +kernel)
theorem se_X4_roomIn : Cond.selects m_X4_roomIn.1.cls m_X4_roomIn.1 m_X4_roomIn.1 ∈ tblG := tG3 (i := 156) (by decide +kernel) (by decide +kernel)
theorem cw_X4_roomiestFloor : cwOf m_X4_roomiestFloor ∈ tblG := tG4 (i := 179) (by decide +kernel) (by decide +kernel)
theorem mk_X4_roomiestFloor : MK m_X4_roomiestFloor 5 := ⟨cw_X4_roomiestFloor, tG1 (i := 3) (by decide +kernel) (by decide +kernel), rfl, by decide +kernel⟩
theorem im_X4_roomiestFloor : Cond.instanceMethod (m_X4_roomiestFloor.1) ∈ tblG := tG4 (i := 177) (by decide +kernel) (by decide +kernel)
theorem se_X4_roomiestFloor : Cond.selects m_X4_roomiestFloor.1.cls m_X4_roomiestFloor.1 m_X4_roomiestFloor.1 ∈ tblG := tG4 (i := 178) (by decide +kernel) (by decide +kernel)
theorem cw_X4_passWeeks : cwOf m_X4_passWeeks ∈ tblG := tG3 (i := 178) (by decide +kernel) (by decide +kernel)
theorem mk_X4_passWeeks : MK m_X4_passWeeks 1 := ⟨cw_X4_passWeeks, tG1 (i := 3) (by decide +kernel) (by decide +kernel), rfl, by decide +kernel⟩
theorem im_X4_passWeeks : Cond.instanceMethod (m_X4_passWeeks.1) ∈ tblG := tG3 (i := 176) (by decide +kernel) (by decide +kernel)
theorem se_X4_passWeeks : Cond.selects m_X4_passWeeks.1.cls m_X4_passWeeks.1 m_X4_passWeeks.1 ∈ tblG := tG3 (i := 177) (by decide +kernel) (by decide +kernel)
theorem cw_X4_passWeek : cwOf m_X4_passWeek ∈ tblG := tG2 (i := 148) (by decide +kernel) (by decide +kernel)
theorem mk_X4_passWeek : MK m_X4_passWeek 0 := ⟨cw_X4_passWeek, tG1 (i := 3) (by decide +kernel) (by decide +kernel), rfl, by decide +kernel⟩
theorem im_X4_passWeek : Cond.instanceMethod (m_X4_passWeek.1) ∈ tblG := tG2 (i := 146) (by decide +kernel) (by decide +kernel)
theorem se_X4_passWeek : Cond.selects m_X4_passWeek.1.cls m_X4_passWeek.1 m_X4_passWeek.1 ∈ tblG := tG2 (i := 147) (by decide +kernel) (by decide +kernel)
theorem cw_X4_holdLesson : cwOf m_X4_holdLesson ∈ tblG := tG2 (i := 152) (by decide +kernel) (by decide +kernel)
theorem mk_X4_holdLesson : MK m_X4_holdLesson 1 := ⟨cw_X4_holdLesson, tG1 (i := 3) (by decide +kernel) (by decide +kernel), rfl, by decide +kernel⟩
theorem im_X4_holdLesson : Cond.instanceMethod (m_X4_holdLesson.1) ∈ tblG := tG2 (i := 151) (by decide +kernel) (by decide +kernel)
theorem se_X4_holdLesson : Cond.selects m_X4_holdLesson.1.cls m_X4_holdLesson.1 m_X4_holdLesson.1 ∈ tblG := tGs (i := 9) (by decide +kernel) (by decide +kernel)
theorem cw_X4_countComers : cwOf m_X4_countComers ∈ tblG := tG2 (i := 156) (by decide +kernel) (by decide +kernel)
theorem mk_X4_countComers : MK m_X4_countComers 1 := ⟨cw_X4_countComers, tG1 (i := 3) (by decide +kernel) (by decide +kernel), rfl, by decide +kernel⟩
theorem im_X4_countComers : Cond.instanceMethod (m_X4_countComers.1) ∈ tblG := tG2 (i := 155) (by decide +kernel) (by decide +kernel)
theorem se_X4_countComers : Cond.selects m_X4_countComers.1.cls m_X4_countComers.1 m_X4_countComers.1 ∈ tblG := tGs (i := 10) (by decide +kernel) (by decide +kernel)
theorem cw_X4_comes : cwOf m_X4_comes ∈ tblG := tG2 (i := 160) (by decide +kernel) (by decide +kernel)
theorem mk_X4_comes : MK m_X4_comes 2 := ⟨cw_X4_comes, tG1 (i := 3) (by decide +kernel) (by decide +kernel), rfl, by decide +kernel⟩
theorem im_X4_comes : Cond.instanceMethod (m_X4_comes.1) ∈ tblG := tG2 (i := 159) (by decide +kernel) (by decide +kernel)
theorem se_X4_comes : Cond.selects m_X4_comes.1.cls m_X4_comes.1 m_X4_comes.1 ∈ tblG := tGs (i := 11) (by decide +kernel) (by decide +kernel)
theorem cw_X4_countSeats : cwOf m_X4_countSeats ∈ tblG := tG3 (i := 190) (by decide +kernel) (by decide +kernel)
theorem mk_X4_countSeats : MK m_X4_countSeats 0 := ⟨cw_X4_countSeats, tG1 (i := 3) (by decide +kernel) (by decide +kernel), rfl, by decide +kernel⟩
theorem im_X4_countSeats : Cond.instanceMethod (m_X4_countSeats.1) ∈ tblG := tG3 (i := 188) (by decide +kernel) (by decide +kernel)
theorem se_X4_countSeats : Cond.selects m_X4_countSeats.1.cls m_X4_countSeats.1 m_X4_countSeats.1 ∈ tblG := tG3 (i := 189) (by decide +kernel) (by decide +kernel)
theorem cw_X4_countSeatsOfDancer : cwOf m_X4_countSeatsOfDancer ∈ tblG := tG4 (i := 39) (by decide +kernel) (by decide +kernel)
theorem mk_X4_countSeatsOfDancer : MK m_X4_countSeatsOfDancer 1 := ⟨cw_X4_countSeatsOfDancer, tG1 (i := 3) (by decide +kernel) (by decide +kernel), rfl, by decide +kernel⟩
theorem im_X4_countSeatsOfDancer : Cond.instanceMethod (m_X4_countSeatsOfDancer.1) ∈ tblG := tG4 (i := 37) (by decide +kernel) (by decide +kernel)
theorem se_X4_countSeatsOfDancer : Cond.selects m_X4_countSeatsOfDancer.1.cls m_X4_countSeatsOfDancer.1 m_X4_countSeatsOfDancer.1 ∈ tblG := tG4 (i := 38) (by decide +kernel) (by decide +kernel)
theorem cw_X4_countLessonsOnFloor : cwOf m_X4_countLessonsOnFloor ∈ tblG := tG3 (i := 239) (by decide +kernel) (by decide +kernel)
theorem mk_X4_countLessonsOnFloor : MK m_X4_countLessonsOnFloor 1 := ⟨cw_X4_countLessonsOnFloor, tG1 (i := 3) (by decide +kernel) (by decide +kernel), rfl, by decide +kernel⟩
theorem im_X4_countLessonsOnFloor : Cond.instanceMethod (m_X4_countLessonsOnFloor.1) ∈ tblG := tG3 (i := 237) (by decide +kernel) (by decide +kernel)
theorem se_X4_countLessonsOnFloor : Cond.selects m_X4_countLessonsOnFloor.1.cls m_X4_countLessonsOnFloor.1 m_X4_countLessonsOnFloor.1 ∈ tblG := tG3 (i := 238) (by decide +kernel) (by decide +kernel)
theorem cw_X4_countLessonsOfTeacher : cwOf m_X4_countLessonsOfTeacher ∈ tblG := tG4 (i := 11) (by decide +kernel) (by decide +kernel)
theorem mk_X4_countLessonsOfTeacher : MK m_X4_countLessonsOfTeacher 1 := ⟨cw_X4_countLessonsOfTeacher, tG1 (i := 3) (by decide +kernel) (by decide +kernel), rfl, by decide +kernel⟩
theorem im_X4_countLessonsOfTeacher : Cond.instanceMethod (m_X4_countLessonsOfTeacher.1) ∈ tblG := tG4 (i := 9) (by decide +kernel) (by decide +kernel)
theorem se_X4_countLessonsOfTeacher : Cond.selects m_X4_countLessonsOfTeacher.1.cls m_X4_countLessonsOfTeacher.1 m_X4_countLessonsOfTeacher.1 ∈ tblG := tG4 (i := 10) (by decide +kernel) (by decide +kernel)
theorem cw_X4_countDaysOfTeacher : cwOf m_X4_countDaysOfTeacher ∈ tblG := tG4 (i := 15) (by decide +kernel) (by decide +kernel)
theorem mk_X4_countDaysOfTeacher : MK m_X4_countDaysOfTeacher 1 := ⟨cw_X4_countDaysOfTeacher, tG1 (i := 3) (by decide +kernel) (by decide +kernel), rfl, by decide +kernel⟩
theorem im_X4_countDaysOfTeacher : Cond.instanceMethod (m_X4_countDaysOfTeacher.1) ∈ tblG := tG4 (i := 13) (by decide +kernel) (by decide +kernel)
theorem se_X4_countDaysOfTeacher : Cond.selects m_X4_countDaysOfTeacher.1.cls m_X4_countDaysOfTeacher.1 m_X4_countDaysOfTeacher.1 ∈ tblG := tG4 (i := 14) (by decide +kernel) (by decide +kernel)
theorem cw_X4_countPasses : cwOf m_X4_countPasses ∈ tblG := tG3 (i := 194) (by decide +kernel) (by decide +kernel)
theorem mk_X4_countPasses : MK m_X4_countPasses 0 := ⟨cw_X4_countPasses, tG1 (i := 3) (by decide +kernel) (by decide +kernel), rfl, by decide +kernel⟩
theorem im_X4_countPasses : Cond.instanceMethod (m_X4_countPasses.1) ∈ tblG := tG3 (i := 192) (by decide +kernel) (by decide +kernel)
theorem se_X4_countPasses : Cond.selects m_X4_countPasses.1.cls m_X4_countPasses.1 m_X4_countPasses.1 ∈ tblG := tG3 (i := 193) (by decide +kernel) (by decide +kernel)
theorem cw_X4_countLeft : cwOf m_X4_countLeft ∈ tblG := tG3 (i := 206) (by decide +kernel) (by decide +kernel)
theorem mk_X4_countLeft : MK m_X4_countLeft 0 := ⟨cw_X4_countLeft, tG1 (i := 3) (by decide +kernel) (by decide +kernel), rfl, by decide +kernel⟩
theorem im_X4_countLeft : Cond.instanceMethod (m_X4_countLeft.1) ∈ tblG := tG3 (i := 204) (by decide +kernel) (by decide +kernel)
theorem se_X4_countLeft : Cond.selects m_X4_countLeft.1.cls m_X4_countLeft.1 m_X4_countLeft.1 ∈ tblG := tG3 (i := 205) (by decide +kernel) (by decide +kernel)
theorem cw_X4_countUsesByDancers : cwOf m_X4_countUsesByDancers ∈ tblG := tG3 (i := 198) (by decide +kernel) (by decide +kernel)
theorem mk_X4_countUsesByDancers : MK m_X4_countUsesByDancers 0 := ⟨cw_X4_countUsesByDancers, tG1 (i := 3) (by decide +kernel) (by decide +kernel), rfl, by decide +kernel⟩
theorem im_X4_countUsesByDancers : Cond.instanceMethod (m_X4_countUsesByDancers.1) ∈ tblG := tG3 (i := 196) (by decide +kernel) (by decide +kernel)
theorem se_X4_countUsesByDancers : Cond.selects m_X4_countUsesByDancers.1.cls m_X4_countUsesByDancers.1 m_X4_countUsesByDancers.1 ∈ tblG := tG3 (i := 197) (by decide +kernel) (by decide +kernel)
theorem cw_X4_countUsesByLessons : cwOf m_X4_countUsesByLessons ∈ tblG := tG4 (i := 50) (by decide +kernel) (by decide +kernel)
theorem mk_X4_countUsesByLessons : MK m_X4_countUsesByLessons 0 := ⟨cw_X4_countUsesByLessons, tG1 (i := 3) (by decide +kernel) (by decide +kernel), rfl, by decide +kernel⟩
theorem im_X4_countUsesByLessons : Cond.instanceMethod (m_X4_countUsesByLessons.1) ∈ tblG := tG4 (i := 48) (by decide +kernel) (by decide +kernel)
theorem se_X4_countUsesByLessons : Cond.selects m_X4_countUsesByLessons.1.cls m_X4_countUsesByLessons.1 m_X4_countUsesByLessons.1 ∈ tblG := tG4 (i := 49) (by decide +kernel) (by decide +kernel)
theorem cw_X5_init : cwOf m_X5_init ∈ tblG := tG1 (i := 95) (by decide +kernel) (by decide +kernel)
theorem mk_X5_init : MK m_X5_init 0 := ⟨cw_X5_init, tG1 (i := 5) (by decide +kernel) (by decide +kernel), rfl, by decide +kernel⟩
theorem im_X5_init : Cond.instanceMethod (m_X5_init.1) ∈ tblG := tG1 (i := 94) (by decide +kernel) (by decide +kernel)
theorem cw_X5_copyFrom : cwOf m_X5_copyFrom ∈ tblG := tG2 (i := 136) (by decide +kernel) (by decide +kernel)
theorem mk_X5_copyFrom : MK m_X5_copyFrom 1 := ⟨cw_X5_copyFrom, tG1 (i := 5) (by decide +kernel) (by decide +kernel), rfl, by decide +kernel⟩
theorem im_X5_copyFrom : Cond.instanceMethod (m_X5_copyFrom.1) ∈ tblG := tG2 (i := 134) (by decide +kernel) (by decide +kernel)
theorem se_X5_copyFrom : Cond.selects m_X5_copyFrom.1.cls m_X5_copyFrom.1 m_X5_copyFrom.1 ∈ tblG := tG2 (i := 135) (by decide +kernel) (by decide +kernel)
theorem cw_X5_teaches : cwOf m_X5_teaches ∈ tblG := tG3 (i := 99) (by decide +kernel) (by decide +kernel)
theorem mk_X5_teaches : MK m_X5_teaches 2 := ⟨cw_X5_teaches, tG1 (i := 5) (by decide +kernel) (by decide +kernel), rfl, by decide +kernel⟩
theorem im_X5_teaches : Cond.instanceMethod (m_X5_teaches.1) ∈ tblG := tG3 (i := 97) (by decide +kernel) (by decide +kernel)
theorem se_X5_teaches : Cond.selects m_X5_teaches.1.cls m_X5_teaches.1 m_X5_teaches.1 ∈ tblG := tG3 (i := 98) (by decide +kernel) (by decide +kernel)
theorem cw_X6_init : cwOf m_X6_init ∈ tblG := tG1 (i := 30) (by decide +kernel) (by decide +kernel)
theorem mk_X6_init : MK m_X6_init 0 := ⟨cw_X6_init, tG1 (i := 2) (by decide +kernel) (by decide +kernel), rfl, by decide +kernel⟩
theorem im_X6_init : Cond.instanceMethod (m_X6_init.1) ∈ tblG := tG1 (i := 29) (by decide +kernel) (by decide +kernel)
theorem cw_X6_addSign : cwOf m_X6_addSign ∈ tblG := tG3 (i := 36) (by decide +kernel) (by decide +kernel)
theorem mk_X6_addSign : MK m_X6_addSign 1 := ⟨cw_X6_addSign, tG1 (i := 2) (by decide +kernel) (by decide +kernel), rfl, by decide +kernel⟩
theorem im_X6_addSign : Cond.instanceMethod (m_X6_addSign.1) ∈ tblG := tG3 (i := 34) (by decide +kernel) (by decide +kernel)
theorem se_X6_addSign : Cond.selects m_X6_addSign.1.cls m_X6_addSign.1 m_X6_addSign.1 ∈ tblG := tG3 (i := 35) (by decide +kernel) (by decide +kernel)
theorem cw_X6_makeEmpty : cwOf m_X6_makeEmpty ∈ tblG := tG2 (i := 55) (by decide +kernel) (by decide +kernel)
theorem mk_X6_makeEmpty : MK m_X6_makeEmpty 0 := ⟨cw_X6_makeEmpty, tG1 (i := 2) (by decide +kernel) (by decide +kernel), rfl, by decide +kernel⟩
theorem im_X6_makeEmpty : Cond.instanceMethod (m_X6_makeEmpty.1) ∈ tblG := tG2 (i := 53) (by decide +kernel) (by decide +kernel)
theorem se_X6_makeEmpty : Cond.selects m_X6_makeEmpty.1.cls m_X6_makeEmpty.1 m_X6_makeEmpty.1 ∈ tblG := tG2 (i := 54) (by decide +kernel) (by decide +kernel)
theorem cw_X6_findError : cwOf m_X6_findError ∈ tblG := tG2 (i := 63) (by decide +kernel) (by decide +kernel)
theorem mk_X6_findError : MK m_X6_findError 0 := ⟨cw_X6_findError, tG1 (i := 2) (by decide +kernel) (by decide +kernel), rfl, by decide +kernel⟩
theorem im_X6_findError : Cond.instanceMethod (m_X6_findError.1) ∈ tblG := tG2 (i := 61) (by decide +kernel) (by decide +kernel)
theorem se_X6_findError : Cond.selects m_X6_findError.1.cls m_X6_findError.1 m_X6_findError.1 ∈ tblG := tG2 (i := 62) (by decide +kernel) (by decide +kernel)
theorem cw_X6_hasMore : cwOf m_X6_hasMore ∈ tblG := tG2 (i := 71) (by decide +kernel) (by decide +kernel)
theorem mk_X6_hasMore : MK m_X6_hasMore 0 := ⟨cw_X6_hasMore, tG1 (i := 2) (by decide +kernel) (by decide +kernel), rfl, by decide +kernel⟩
theorem im_X6_hasMore : Cond.instanceMethod (m_X6_hasMore.1) ∈ tblG := tG2 (i := 69) (by decide +kernel) (by decide +kernel)
theorem se_X6_hasMore : Cond.selects m_X6_hasMore.1.cls m_X6_hasMore.1 m_X6_hasMore.1 ∈ tblG := tG2 (i := 70) (by decide +kernel) (by decide +kernel)
theorem cw_X6_readStart : cwOf m_X6_readStart ∈ tblG := tG2 (i := 67) (by decide +kernel) (by decide +kernel)
theorem mk_X6_readStart : MK m_X6_readStart 0 := ⟨cw_X6_readStart, tG1 (i := 2) (by decide +kernel) (by decide +kernel), rfl, by decide +kernel⟩
theorem im_X6_readStart : Cond.instanceMethod (m_X6_readStart.1) ∈ tblG := tG2 (i := 65) (by decide +kernel) (by decide +kernel)
theorem se_X6_readStart : Cond.selects m_X6_readStart.1.cls m_X6_readStart.1 m_X6_readStart.1 ∈ tblG := tG2 (i := 66) (by decide +kernel) (by decide +kernel)
theorem cw_X6_readCommand : cwOf m_X6_readCommand ∈ tblG := tG2 (i := 75) (by decide +kernel) (by decide +kernel)
theorem mk_X6_readCommand : MK m_X6_readCommand 0 := ⟨cw_X6_readCommand, tG1 (i := 2) (by decide +kernel) (by decide +kernel), rfl, by decide +kernel⟩
theorem im_X6_readCommand : Cond.instanceMethod (m_X6_readCommand.1) ∈ tblG := tG2 (i := 73) (by decide +kernel) (by decide +kernel)
theorem se_X6_readCommand : Cond.selects m_X6_readCommand.1.cls m_X6_readCommand.1 m_X6_readCommand.1 ∈ tblG := tG2 (i := 74) (by decide +kernel) (by decide +kernel)
theorem cw_X6_readKind : cwOf m_X6_readKind ∈ tblG := tG2 (i := 104) (by decide +kernel) (by decide +kernel)
theorem mk_X6_readKind : MK m_X6_readKind 0 := ⟨cw_X6_readKind, tG1 (i := 2) (by decide +kernel) (by decide +kernel), rfl, by decide +kernel⟩
theorem im_X6_readKind : Cond.instanceMethod (m_X6_readKind.1) ∈ tblG := tG2 (i := 103) (by decide +kernel) (by decide +kernel)
theorem se_X6_readKind : Cond.selects m_X6_readKind.1.cls m_X6_readKind.1 m_X6_readKind.1 ∈ tblG := tGs (i := 4) (by decide +kernel) (by decide +kernel)
theorem cw_X6_readPlace : cwOf m_X6_readPlace ∈ tblG := tG2 (i := 108) (by decide +kernel) (by decide +kernel)
theorem mk_X6_readPlace : MK m_X6_readPlace 0 := ⟨cw_X6_readPlace, tG1 (i := 2) (by decide +kernel) (by decide +kernel), rfl, by decide +kernel⟩
theorem im_X6_readPlace : Cond.instanceMethod (m_X6_readPlace.1) ∈ tblG := tG2 (i := 107) (by decide +kernel) (by decide +kernel)
theorem se_X6_readPlace : Cond.selects m_X6_readPlace.1.cls m_X6_readPlace.1 m_X6_readPlace.1 ∈ tblG := tGs (i := 5) (by decide +kernel) (by decide +kernel)
theorem cw_X6_readLesson : cwOf m_X6_readLesson ∈ tblG := tG2 (i := 116) (by decide +kernel) (by decide +kernel)
theorem mk_X6_readLesson : MK m_X6_readLesson 0 := ⟨cw_X6_readLesson, tG1 (i := 2) (by decide +kernel) (by decide +kernel), rfl, by decide +kernel⟩
theorem im_X6_readLesson : Cond.instanceMethod (m_X6_readLesson.1) ∈ tblG := tG2 (i := 115) (by decide +kernel) (by decide +kernel)
theorem se_X6_readLesson : Cond.selects m_X6_readLesson.1.cls m_X6_readLesson.1 m_X6_readLesson.1 ∈ tblG := tGs (i := 7) (by decide +kernel) (by decide +kernel)
theorem cw_X6_readDancer : cwOf m_X6_readDancer ∈ tblG := tG2 (i := 112) (by decide +kernel) (by decide +kernel)
theorem mk_X6_readDancer : MK m_X6_readDancer 0 := ⟨cw_X6_readDancer, tG1 (i := 2) (by decide +kernel) (by decide +kernel), rfl, by decide +kernel⟩
theorem im_X6_readDancer : Cond.instanceMethod (m_X6_readDancer.1) ∈ tblG := tG2 (i := 111) (by decide +kernel) (by decide +kernel)
theorem se_X6_readDancer : Cond.selects m_X6_readDancer.1.cls m_X6_readDancer.1 m_X6_readDancer.1 ∈ tblG := tGs (i := 6) (by decide +kernel) (by decide +kernel)
theorem cw_X6_readDigit : cwOf m_X6_readDigit ∈ tblG := tG2 (i := 79) (by decide +kernel) (by decide +kernel)
theorem mk_X6_readDigit : MK m_X6_readDigit 2 := ⟨cw_X6_readDigit, tG1 (i := 2) (by decide +kernel) (by decide +kernel), rfl, by decide +kernel⟩
theorem im_X6_readDigit : Cond.instanceMethod (m_X6_readDigit.1) ∈ tblG := tG2 (i := 78) (by decide +kernel) (by decide +kernel)
theorem se_X6_readDigit : Cond.selects m_X6_readDigit.1.cls m_X6_readDigit.1 m_X6_readDigit.1 ∈ tblG := tGs (i := 0) (by decide +kernel) (by decide +kernel)
theorem cw_X6_readTwoDigits : cwOf m_X6_readTwoDigits ∈ tblG := tG2 (i := 94) (by decide +kernel) (by decide +kernel)
theorem mk_X6_readTwoDigits : MK m_X6_readTwoDigits 2 := ⟨cw_X6_readTwoDigits, tG1 (i := 2) (by decide +kernel) (by decide +kernel), rfl, by decide +kernel⟩
theorem im_X6_readTwoDigits : Cond.instanceMethod (m_X6_readTwoDigits.1) ∈ tblG := tG2 (i := 93) (by decide +kernel) (by decide +kernel)
theorem se_X6_readTwoDigits : Cond.selects m_X6_readTwoDigits.1.cls m_X6_readTwoDigits.1 m_X6_readTwoDigits.1 ∈ tblG := tGs (i := 3) (by decide +kernel) (by decide +kernel)
theorem cw_X6_digitWithin : cwOf m_X6_digitWithin ∈ tblG := tG2 (i := 83) (by decide +kernel) (by decide +kernel)
theorem mk_X6_digitWithin : MK m_X6_digitWithin 2 := ⟨cw_X6_digitWithin, tG1 (i := 2) (by decide +kernel) (by decide +kernel), rfl, by decide +kernel⟩
theorem im_X6_digitWithin : Cond.instanceMethod (m_X6_digitWithin.1) ∈ tblG := tG2 (i := 82) (by decide +kernel) (by decide +kernel)
theorem se_X6_digitWithin : Cond.selects m_X6_digitWithin.1.cls m_X6_digitWithin.1 m_X6_digitWithin.1 ∈ tblG := tGs (i := 1) (by decide +kernel) (by decide +kernel)
theorem cw_X6_keepNumber : cwOf m_X6_keepNumber ∈ tblG := tG2 (i := 90) (by decide +kernel) (by decide +kernel)
theorem mk_X6_keepNumber : MK m_X6_keepNumber 1 := ⟨cw_X6_keepNumber, tG1 (i := 2) (by decide +kernel) (by decide +kernel), rfl, by decide +kernel⟩
theorem im_X6_keepNumber : Cond.instanceMethod (m_X6_keepNumber.1) ∈ tblG := tG2 (i := 89) (by decide +kernel) (by decide +kernel)
theorem se_X6_keepNumber : Cond.selects m_X6_keepNumber.1.cls m_X6_keepNumber.1 m_X6_keepNumber.1 ∈ tblG := tGs (i := 2) (by decide +kernel) (by decide +kernel)
theorem cw_X7_init : cwOf m_X7_init ∈ tblG := tG1 (i := 22) (by decide +kernel) (by decide +kernel)
theorem mk_X7_init : MK m_X7_init 0 := ⟨cw_X7_init, tG1 (i := 1) (by decide +kernel) (by decide +kernel), rfl, by decide +kernel⟩
theorem im_X7_init : Cond.instanceMethod (m_X7_init.1) ∈ tblG := tG1 (i := 21) (by decide +kernel) (by decide +kernel)
theorem cw_X7_append : cwOf m_X7_append ∈ tblG := tG2 (i := 181) (by decide +kernel) (by decide +kernel)
theorem mk_X7_append : MK m_X7_append 1 := ⟨cw_X7_append, tG1 (i := 1) (by decide +kernel) (by decide +kernel), rfl, by decide +kernel⟩
theorem im_X7_append : Cond.instanceMethod (m_X7_append.1) ∈ tblG := tG2 (i := 179) (by decide +kernel) (by decide +kernel)
theorem se_X7_append : Cond.selects m_X7_append.1.cls m_X7_append.1 m_X7_append.1 ∈ tblG := tG2 (i := 180) (by decide +kernel) (by decide +kernel)
theorem cw_X7_clearText : cwOf m_X7_clearText ∈ tblG := tG2 (i := 51) (by decide +kernel) (by decide +kernel)
theorem mk_X7_clearText : MK m_X7_clearText 0 := ⟨cw_X7_clearText, tG1 (i := 1) (by decide +kernel) (by decide +kernel), rfl, by decide +kernel⟩
theorem im_X7_clearText : Cond.instanceMethod (m_X7_clearText.1) ∈ tblG := tG2 (i := 49) (by decide +kernel) (by decide +kernel)
theorem se_X7_clearText : Cond.selects m_X7_clearText.1.cls m_X7_clearText.1 m_X7_clearText.1 ∈ tblG := tG2 (i := 50) (by decide +kernel) (by decide +kernel)
theorem cw_X7_errorPosition : cwOf m_X7_errorPosition ∈ tblG := tG2 (i := 59) (by decide +kernel) (by decide +kernel)
theorem mk_X7_errorPosition : MK m_X7_errorPosition 0 := ⟨cw_X7_errorPosition, tG1 (i := 1) (by decide +kernel) (by decide +kernel), rfl, by decide +kernel⟩
theorem im_X7_errorPosition : Cond.instanceMethod (m_X7_errorPosition.1) ∈ tblG := tG2 (i := 57) (by decide +kernel) (by decide +kernel)
theorem se_X7_errorPosition : Cond.selects m_X7_errorPosition.1.cls m_X7_errorPosition.1 m_X7_errorPosition.1 ∈ tblG := tG2 (i := 58) (by decide +kernel) (by decide +kernel)
theorem cw_X7_load : cwOf m_X7_load ∈ tblG := tG3 (i := 43) (by decide +kernel) (by decide +kernel)
theorem mk_X7_load : MK m_X7_load 0 := ⟨cw_X7_load, tG1 (i := 1) (by decide +kernel) (by decide +kernel), rfl, by decide +kernel⟩
theorem im_X7_load : Cond.instanceMethod (m_X7_load.1) ∈ tblG := tG3 (i := 41) (by decide +kernel) (by decide +kernel)
theorem se_X7_load : Cond.selects m_X7_load.1.cls m_X7_load.1 m_X7_load.1 ∈ tblG := tG3 (i := 42) (by decide +kernel) (by decide +kernel)
theorem cw_X7_about : cwOf m_X7_about ∈ tblG := tG3 (i := 186) (by decide +kernel) (by decide +kernel)
theorem mk_X7_about : MK m_X7_about 1 := ⟨cw_X7_about, tG1 (i := 1) (by decide +kernel) (by decide +kernel), rfl, by decide +kernel⟩
theorem im_X7_about : Cond.instanceMethod (m_X7_about.1) ∈ tblG := tG3 (i := 184) (by decide +kernel) (by decide +kernel)
theorem se_X7_about : Cond.selects m_X7_about.1.cls m_X7_about.1 m_X7_about.1 ∈ tblG := tG3 (i := 185) (by decide +kernel) (by decide +kernel)
theorem cw_X7_floorOf : cwOf m_X7_floorOf ∈ tblG := tG3 (i := 215) (by decide +kernel) (by decide +kernel)
theorem mk_X7_floorOf : MK m_X7_floorOf 2 := ⟨cw_X7_floorOf, tG1 (i := 1) (by decide +kernel) (by decide +kernel), rfl, by decide +kernel⟩
theorem im_X7_floorOf : Cond.instanceMethod (m_X7_floorOf.1) ∈ tblG := tG3 (i := 213) (by decide +kernel) (by decide +kernel)
theorem se_X7_floorOf : Cond.selects m_X7_floorOf.1.cls m_X7_floorOf.1 m_X7_floorOf.1 ∈ tblG := tG3 (i := 214) (by decide +kernel) (by decide +kernel)
theorem cw_X7_teacherOf : cwOf m_X7_teacherOf ∈ tblG := tG4 (i := 6) (by decide +kernel) (by decide +kernel)
theorem mk_X7_teacherOf : MK m_X7_teacherOf 2 := ⟨cw_X7_teacherOf, tG1 (i := 1) (by decide +kernel) (by decide +kernel), rfl, by decide +kernel⟩
theorem im_X7_teacherOf : Cond.instanceMethod (m_X7_teacherOf.1) ∈ tblG := tG4 (i := 4) (by decide +kernel) (by decide +kernel)
theorem se_X7_teacherOf : Cond.selects m_X7_teacherOf.1.cls m_X7_teacherOf.1 m_X7_teacherOf.1 ∈ tblG := tG4 (i := 5) (by decide +kernel) (by decide +kernel)
theorem cw_X7_classOf : cwOf m_X7_classOf ∈ tblG := tG4 (i := 23) (by decide +kernel) (by decide +kernel)
theorem mk_X7_classOf : MK m_X7_classOf 2 := ⟨cw_X7_classOf, tG1 (i := 1) (by decide +kernel) (by decide +kernel), rfl, by decide +kernel⟩
theorem im_X7_classOf : Cond.instanceMethod (m_X7_classOf.1) ∈ tblG := tG4 (i := 21) (by decide +kernel) (by decide +kernel)
theorem se_X7_classOf : Cond.selects m_X7_classOf.1.cls m_X7_classOf.1 m_X7_classOf.1 ∈ tblG := tG4 (i := 22) (by decide +kernel) (by decide +kernel)
theorem cw_X7_dancerOf : cwOf m_X7_dancerOf ∈ tblG := tG4 (i := 33) (by decide +kernel) (by decide +kernel)
theorem mk_X7_dancerOf : MK m_X7_dancerOf 2 := ⟨cw_X7_dancerOf, tG1 (i := 1) (by decide +kernel) (by decide +kernel), rfl, by decide +kernel⟩
theorem im_X7_dancerOf : Cond.instanceMethod (m_X7_dancerOf.1) ∈ tblG := tG4 (i := 31) (by decide +kernel) (by decide +kernel)
theorem se_X7_dancerOf : Cond.selects m_X7_dancerOf.1.cls m_X7_dancerOf.1 m_X7_dancerOf.1 ∈ tblG := tG4 (i := 32) (by decide +kernel) (by decide +kernel)
theorem cw_X7_uses : cwOf m_X7_uses ∈ tblG := tG4 (i := 46) (by decide +kernel) (by decide +kernel)
theorem mk_X7_uses : MK m_X7_uses 1 := ⟨cw_X7_uses, tG1 (i := 1) (by decide +kernel) (by decide +kernel), rfl, by decide +kernel⟩
theorem im_X7_uses : Cond.instanceMethod (m_X7_uses.1) ∈ tblG := tG4 (i := 44) (by decide +kernel) (by decide +kernel)
theorem se_X7_uses : Cond.selects m_X7_uses.1.cls m_X7_uses.1 m_X7_uses.1 ∈ tblG := tG4 (i := 45) (by decide +kernel) (by decide +kernel)
theorem cw_X7_setting : cwOf m_X7_setting ∈ tblG := tG4 (i := 57) (by decide +kernel) (by decide +kernel)
theorem mk_X7_setting : MK m_X7_setting 1 := ⟨cw_X7_setting, tG1 (i := 1) (by decide +kernel) (by decide +kernel), rfl, by decide +kernel⟩
theorem im_X7_setting : Cond.instanceMethod (m_X7_setting.1) ∈ tblG := tG4 (i := 55) (by decide +kernel) (by decide +kernel)
theorem se_X7_setting : Cond.selects m_X7_setting.1.cls m_X7_setting.1 m_X7_setting.1 ∈ tblG := tG4 (i := 56) (by decide +kernel) (by decide +kernel)
theorem cw_X7_floor : cwOf m_X7_floor ∈ tblG := tG4 (i := 64) (by decide +kernel) (by decide +kernel)
theorem mk_X7_floor : MK m_X7_floor 4 := ⟨cw_X7_floor, tG1 (i := 1) (by decide +kernel) (by decide +kernel), rfl, by decide +kernel⟩
theorem im_X7_floor : Cond.instanceMethod (m_X7_floor.1) ∈ tblG := tG4 (i := 62) (by decide +kernel) (by decide +kernel)
theorem se_X7_floor : Cond.selects m_X7_floor.1.cls m_X7_floor.1 m_X7_floor.1 ∈ tblG := tG4 (i := 63) (by decide +kernel) (by decide +kernel)
theorem cw_X7_teacher : cwOf m_X7_teacher ∈ tblG := tG4 (i := 76) (by decide +kernel) (by decide +kernel)
theorem mk_X7_teacher : MK m_X7_teacher 2 := ⟨cw_X7_teacher, tG1 (i := 1) (by decide +kernel) (by decide +kernel), rfl, by decide +kernel⟩
theorem im_X7_teacher : Cond.instanceMethod (m_X7_teacher.1) ∈ tblG := tG4 (i := 74) (by decide +kernel) (by decide +kernel)
theorem se_X7_teacher : Cond.selects m_X7_teacher.1.cls m_X7_teacher.1 m_X7_teacher.1 ∈ tblG := tG4 (i := 75) (by decide +kernel) (by decide +kernel)
theorem cw_X7_set : cwOf m_X7_set ∈ tblG := tG4 (i := 83) (by decide +kernel) (by decide +kernel)
theorem mk_X7_set : MK m_X7_set 6 := ⟨cw_X7_set, tG1 (i := 1) (by decide +kernel) (by decide +kernel), rfl, by decide +kernel⟩
theorem im_X7_set : Cond.instanceMethod (m_X7_set.1) ∈ tblG := tG4 (i := 81) (by decide +kernel) (by decide +kernel)
theorem se_X7_set : Cond.selects m_X7_set.1.cls m_X7_set.1 m_X7_set.1 ∈ tblG := tG4 (i := 82) (by decide +kernel) (by decide +kernel)
theorem cw_X7_drop : cwOf m_X7_drop ∈ tblG := tG4 (i := 97) (by decide +kernel) (by decide +kernel)
theorem mk_X7_drop : MK m_X7_drop 1 := ⟨cw_X7_drop, tG1 (i := 1) (by decide +kernel) (by decide +kernel), rfl, by decide +kernel⟩
theorem im_X7_drop : Cond.instanceMethod (m_X7_drop.1) ∈ tblG := tG4 (i := 95) (by decide +kernel) (by decide +kernel)
theorem se_X7_drop : Cond.selects m_X7_drop.1.cls m_X7_drop.1 m_X7_drop.1 ∈ tblG := tG4 (i := 96) (by decide +kernel) (by decide +kernel)
theorem cw_X7_dancer : cwOf m_X7_dancer ∈ tblG := tG4 (i := 104) (by decide +kernel) (by decide +kernel)
theorem mk_X7_dancer : MK m_X7_dancer 0 := ⟨cw_X7_dancer, tG1 (i := 1) (by decide +kernel) (by decide +kernel), rfl, by decide +kernel⟩
theorem im_X7_dancer : Cond.instanceMethod (m_X7_dancer.1) ∈ tblG := tG4 (i := 102) (by decide +kernel) (by decide +kernel)
theorem se_X7_dancer : Cond.selects m_X7_dancer.1.cls m_X7_dancer.1 m_X7_dancer.1 ∈ tblG := tG4 (i := 103) (by decide +kernel) (by decide +kernel)
theorem cw_X7_pass : cwOf m_X7_pass ∈ tblG := tG4 (i := 111) (by decide +kernel) (by decide +kernel)
theorem mk_X7_pass : MK m_X7_pass 1 := ⟨cw_X7_pass, tG1 (i := 1) (by decide +kernel) (by decide +kernel), rfl, by decide +kernel⟩
theorem im_X7_pass : Cond.instanceMethod (m_X7_pass.1) ∈ tblG := tG4 (i := 109) (by decide +kernel) (by decide +kernel)
theorem se_X7_pass : Cond.selects m_X7_pass.1.cls m_X7_pass.1 m_X7_pass.1 ∈ tblG := tG4 (i := 110) (by decide +kernel) (by decide +kernel)
theorem cw_X7_enter : cwOf m_X7_enter ∈ tblG := tG4 (i := 119) (by decide +kernel) (by decide +kernel)
theorem mk_X7_enter : MK m_X7_enter 2 := ⟨cw_X7_enter, tG1 (i := 1) (by decide +kernel) (by decide +kernel), rfl, by decide +kernel⟩
theorem im_X7_enter : Cond.instanceMethod (m_X7_enter.1) ∈ tblG := tG4 (i := 117) (by decide +kernel) (by decide +kernel)
theorem se_X7_enter : Cond.selects m_X7_enter.1.cls m_X7_enter.1 m_X7_enter.1 ∈ tblG := tG4 (i := 118) (by decide +kernel) (by decide +kernel)
theorem cw_X7_leave : cwOf m_X7_leave ∈ tblG := tG4 (i := 126) (by decide +kernel) (by decide +kernel)
theorem mk_X7_leave : MK m_X7_leave 2 := ⟨cw_X7_leave, tG1 (i := 1) (by decide +kernel) (by decide +kernel), rfl, by decide +kernel⟩
theorem im_X7_leave : Cond.instanceMethod (m_X7_leave.1) ∈ tblG := tG4 (i := 124) (by decide +kernel) (by decide +kernel)
theorem se_X7_leave : Cond.selects m_X7_leave.1.cls m_X7_leave.1 m_X7_leave.1 ∈ tblG := tG4 (i := 125) (by decide +kernel) (by decide +kernel)
theorem cw_X7_weeks : cwOf m_X7_weeks ∈ tblG := tG4 (i := 134) (by decide +kernel) (by decide +kernel)
theorem mk_X7_weeks : MK m_X7_weeks 1 := ⟨cw_X7_weeks, tG1 (i := 1) (by decide +kernel) (by decide +kernel), rfl, by decide +kernel⟩
theorem im_X7_weeks : Cond.instanceMethod (m_X7_weeks.1) ∈ tblG := tG4 (i := 132) (by decide +kernel) (by decide +kernel)
theorem se_X7_weeks : Cond.selects m_X7_weeks.1.cls m_X7_weeks.1 m_X7_weeks.1 ∈ tblG := tG4 (i := 133) (by decide +kernel) (by decide +kernel)
theorem cw_X7_tune : cwOf m_X7_tune ∈ tblG := tG4 (i := 141) (by decide +kernel) (by decide +kernel)
theorem mk_X7_tune : MK m_X7_tune 2 := ⟨cw_X7_tune, tG1 (i := 1) (by decide +kernel) (by decide +kernel), rfl, by decide +kernel⟩
theorem im_X7_tune : Cond.instanceMethod (m_X7_tune.1) ∈ tblG := tG4 (i := 139) (by decide +kernel) (by decide +kernel)
theorem se_X7_tune : Cond.selects m_X7_tune.1.cls m_X7_tune.1 m_X7_tune.1 ∈ tblG := tG4 (i := 140) (by decide +kernel) (by decide +kernel)
theorem cw_X7_undo : cwOf m_X7_undo ∈ tblG := tG4 (i := 148) (by decide +kernel) (by decide +kernel)
theorem mk_X7_undo : MK m_X7_undo 0 := ⟨cw_X7_undo, tG1 (i := 1) (by decide +kernel) (by decide +kernel), rfl, by decide +kernel⟩
theorem im_X7_undo : Cond.instanceMethod (m_X7_undo.1) ∈ tblG := tG4 (i := 146) (by decide +kernel) (by decide +kernel)
theorem se_X7_undo : Cond.selects m_X7_undo.1.cls m_X7_undo.1 m_X7_undo.1 ∈ tblG := tG4 (i := 147) (by decide +kernel) (by decide +kernel)
theorem cw_X7_why : cwOf m_X7_why ∈ tblG := tG4 (i := 159) (by decide +kernel) (by decide +kernel)
theorem mk_X7_why : MK m_X7_why 6 := ⟨cw_X7_why, tG1 (i := 1) (by decide +kernel) (by decide +kernel), rfl, by decide +kernel⟩
theorem im_X7_why : Cond.instanceMethod (m_X7_why.1) ∈ tblG := tG4 (i := 157) (by decide +kernel) (by decide +kernel)
theorem se_X7_why : Cond.selects m_X7_why.1.cls m_X7_why.1 m_X7_why.1 ∈ tblG := tG4 (i := 158) (by decide +kernel) (by decide +kernel)
theorem cw_X7_whySeat : cwOf m_X7_whySeat ∈ tblG := tG4 (i := 167) (by decide +kernel) (by decide +kernel)
theorem mk_X7_whySeat : MK m_X7_whySeat 2 := ⟨cw_X7_whySeat, tG1 (i := 1) (by decide +kernel) (by decide +kernel), rfl, by decide +kernel⟩
theorem im_X7_whySeat : Cond.instanceMethod (m_X7_whySeat.1) ∈ tblG := tG4 (i := 165) (by decide +kernel) (by decide +kernel)
theorem se_X7_whySeat : Cond.selects m_X7_whySeat.1.cls m_X7_whySeat.1 m_X7_whySeat.1 ∈ tblG := tG4 (i := 166) (by decide +kernel) (by decide +kernel)
theorem cw_X7_bestFloor : cwOf m_X7_bestFloor ∈ tblG := tG4 (i := 175) (by decide +kernel) (by decide +kernel)
theorem mk_X7_bestFloor : MK m_X7_bestFloor 5 := ⟨cw_X7_bestFloor, tG1 (i := 1) (by decide +kernel) (by decide +kernel), rfl, by decide +kernel⟩
theorem im_X7_bestFloor : Cond.instanceMethod (m_X7_bestFloor.1) ∈ tblG := tG4 (i := 173) (by decide +kernel) (by decide +kernel)
theorem se_X7_bestFloor : Cond.selects m_X7_bestFloor.1.cls m_X7_bestFloor.1 m_X7_bestFloor.1 ∈ tblG := tG4 (i := 174) (by decide +kernel) (by decide +kernel)
theorem cw_X7_emptyIn : cwOf m_X7_emptyIn ∈ tblG := tG4 (i := 186) (by decide +kernel) (by decide +kernel)
theorem mk_X7_emptyIn : MK m_X7_emptyIn 1 := ⟨cw_X7_emptyIn, tG1 (i := 1) (by decide +kernel) (by decide +kernel), rfl, by decide +kernel⟩
theorem im_X7_emptyIn : Cond.instanceMethod (m_X7_emptyIn.1) ∈ tblG := tG4 (i := 184) (by decide +kernel) (by decide +kernel)
theorem se_X7_emptyIn : Cond.selects m_X7_emptyIn.1.cls m_X7_emptyIn.1 m_X7_emptyIn.1 ∈ tblG := tG4 (i := 185) (by decide +kernel) (by decide +kernel)
theorem cw_X7_held : cwOf m_X7_held ∈ tblG := tG2 (i := 120) (by decide +kernel) (by decide +kernel)
theorem mk_X7_held : MK m_X7_held 0 := ⟨cw_X7_held, tG1 (i := 1) (by decide +kernel) (by decide +kernel), rfl, by decide +kernel⟩
theorem im_X7_held : Cond.instanceMethod (m_X7_held.1) ∈ tblG := tG2 (i := 118) (by decide +kernel) (by decide +kernel)
theorem se_X7_held : Cond.selects m_X7_held.1.cls m_X7_held.1 m_X7_held.1 ∈ tblG := tG2 (i := 119) (by decide +kernel) (by decide +kernel)
theorem cw_X7_runScript : cwOf m_X7_runScript ∈ tblG := tG4 (i := 193) (by decide +kernel) (by decide +kernel)
theorem mk_X7_runScript : MK m_X7_runScript 2 := ⟨cw_X7_runScript, tG1 (i := 1) (by decide +kernel) (by decide +kernel), rfl, by decide +kernel⟩
theorem im_X7_runScript : Cond.instanceMethod (m_X7_runScript.1) ∈ tblG := tG4 (i := 191) (by decide +kernel) (by decide +kernel)
theorem se_X7_runScript : Cond.selects m_X7_runScript.1.cls m_X7_runScript.1 m_X7_runScript.1 ∈ tblG := tG4 (i := 192) (by decide +kernel) (by decide +kernel)
theorem cw_X7_simulate : cwOf m_X7_simulate ∈ tblG := tG4 (i := 208) (by decide +kernel) (by decide +kernel)
theorem mk_X7_simulate : MK m_X7_simulate 2 := ⟨cw_X7_simulate, tG1 (i := 1) (by decide +kernel) (by decide +kernel), rfl, by decide +kernel⟩
theorem im_X7_simulate : Cond.instanceMethod (m_X7_simulate.1) ∈ tblG := tG4 (i := 206) (by decide +kernel) (by decide +kernel)
theorem se_X7_simulate : Cond.selects m_X7_simulate.1.cls m_X7_simulate.1 m_X7_simulate.1 ∈ tblG := tG4 (i := 207) (by decide +kernel) (by decide +kernel)
theorem cw_X7_save : cwOf m_X7_save ∈ tblG := tG4 (i := 225) (by decide +kernel) (by decide +kernel)
theorem mk_X7_save : MK m_X7_save 1 := ⟨cw_X7_save, tG1 (i := 1) (by decide +kernel) (by decide +kernel), rfl, by decide +kernel⟩
theorem im_X7_save : Cond.instanceMethod (m_X7_save.1) ∈ tblG := tG4 (i := 223) (by decide +kernel) (by decide +kernel)
theorem se_X7_save : Cond.selects m_X7_save.1.cls m_X7_save.1 m_X7_save.1 ∈ tblG := tG4 (i := 224) (by decide +kernel) (by decide +kernel)
theorem cw_X7_restore : cwOf m_X7_restore ∈ tblG := tG4 (i := 232) (by decide +kernel) (by decide +kernel)
theorem mk_X7_restore : MK m_X7_restore 1 := ⟨cw_X7_restore, tG1 (i := 1) (by decide +kernel) (by decide +kernel), rfl, by decide +kernel⟩
theorem im_X7_restore : Cond.instanceMethod (m_X7_restore.1) ∈ tblG := tG4 (i := 230) (by decide +kernel) (by decide +kernel)
theorem se_X7_restore : Cond.selects m_X7_restore.1.cls m_X7_restore.1 m_X7_restore.1 ∈ tblG := tG4 (i := 231) (by decide +kernel) (by decide +kernel)
theorem cw_X7_isWithin : cwOf m_X7_isWithin ∈ tblG := tG2 (i := 86) (by decide +kernel) (by decide +kernel)
theorem mk_X7_isWithin : MK m_X7_isWithin 3 := ⟨cw_X7_isWithin, tG1 (i := 1) (by decide +kernel) (by decide +kernel), rfl, by decide +kernel⟩
theorem sm_X7_isWithin : Cond.static (m_X7_isWithin.1) ∈ tblG := tG2 (i := 85) (by decide +kernel) (by decide +kernel)
theorem cw_X7_requireIndex : cwOf m_X7_requireIndex ∈ tblG := tG3 (i := 219) (by decide +kernel) (by decide +kernel)
theorem mk_X7_requireIndex : MK m_X7_requireIndex 1 := ⟨cw_X7_requireIndex, tG1 (i := 1) (by decide +kernel) (by decide +kernel), rfl, by decide +kernel⟩
theorem sm_X7_requireIndex : Cond.static (m_X7_requireIndex.1) ∈ tblG := tG3 (i := 218) (by decide +kernel) (by decide +kernel)
theorem cw_X7_requireArgument : cwOf m_X7_requireArgument ∈ tblG := tG2 (i := 185) (by decide +kernel) (by decide +kernel)
theorem mk_X7_requireArgument : MK m_X7_requireArgument 1 := ⟨cw_X7_requireArgument, tG1 (i := 1) (by decide +kernel) (by decide +kernel), rfl, by decide +kernel⟩
theorem sm_X7_requireArgument : Cond.static (m_X7_requireArgument.1) ∈ tblG := tG2 (i := 184) (by decide +kernel) (by decide +kernel)
theorem cw_X7_requireState : cwOf m_X7_requireState ∈ tblG := tG3 (i := 16) (by decide +kernel) (by decide +kernel)
theorem mk_X7_requireState : MK m_X7_requireState 1 := ⟨cw_X7_requireState, tG1 (i := 1) (by decide +kernel) (by decide +kernel), rfl, by decide +kernel⟩
theorem sm_X7_requireState : Cond.static (m_X7_requireState.1) ∈ tblG := tG3 (i := 15) (by decide +kernel) (by decide +kernel)
theorem cw_X7_requireLessonArguments : cwOf m_X7_requireLessonArguments ∈ tblG := tG4 (i := 86) (by decide +kernel) (by decide +kernel)
theorem mk_X7_requireLessonArguments : MK m_X7_requireLessonArguments 4 := ⟨cw_X7_requireLessonArguments, tG1 (i := 1) (by decide +kernel) (by decide +kernel), rfl, by decide +kernel⟩
theorem sm_X7_requireLessonArguments : Cond.static (m_X7_requireLessonArguments.1) ∈ tblG := tG4 (i := 85) (by decide +kernel) (by decide +kernel)
theorem cw_X7_doCommandsOfText : cwOf m_X7_doCommandsOfText ∈ tblG := tG3 (i := 52) (by decide +kernel) (by decide +kernel)
theorem mk_X7_doCommandsOfText : MK m_X7_doCommandsOfText 0 := ⟨cw_X7_doCommandsOfText, tG1 (i := 1) (by decide +kernel) (by decide +kernel), rfl, by decide +kernel⟩
theorem im_X7_doCommandsOfText : Cond.instanceMethod (m_X7_doCommandsOfText.1) ∈ tblG := tG3 (i := 51) (by decide +kernel) (by decide +kernel)
theorem se_X7_doCommandsOfText : Cond.selects m_X7_doCommandsOfText.1.cls m_X7_doCommandsOfText.1 m_X7_doCommandsOfText.1 ∈ tblG := tGs (i := 13) (by decide +kernel) (by decide +kernel)
theorem cw_X7_doCommand : cwOf m_X7_doCommand ∈ tblG := tG3 (i := 59) (by decide +kernel) (by decide +kernel)
theorem mk_X7_doCommand : MK m_X7_doCommand 2 := ⟨cw_X7_doCommand, tG1 (i := 1) (by decide +kernel) (by decide +kernel), rfl, by decide +kernel⟩
theorem im_X7_doCommand : Cond.instanceMethod (m_X7_doCommand.1) ∈ tblG := tG3 (i := 58) (by decide +kernel) (by decide +kernel)
theorem se_X7_doCommand : Cond.selects m_X7_doCommand.1.cls m_X7_doCommand.1 m_X7_doCommand.1 ∈ tblG := tGs (i := 14) (by decide +kernel) (by decide +kernel)
theorem cw_X7_withoutGroups : cwOf m_X7_withoutGroups ∈ tblG := tG4 (i := 196) (by decide +kernel) (by decide +kernel)
theorem mk_X7_withoutGroups : MK m_X7_withoutGroups 2 := ⟨cw_X7_withoutGroups, tG1 (i := 1) (by decide +kernel) (by decide +kernel), rfl, by decide +kernel⟩
theorem sm_X7_withoutGroups : Cond.static (m_X7_withoutGroups.1) ∈ tblG := tG4 (i := 195) (by decide +kernel) (by decide +kernel)
theorem cw_X7_tryGroup : cwOf m_X7_tryGroup ∈ tblG := tG4 (i := 201) (by decide +kernel) (by decide +kernel)
theorem mk_X7_tryGroup : MK m_X7_tryGroup 1 := ⟨cw_X7_tryGroup, tG1 (i := 1) (by decide +kernel) (by decide +kernel), rfl, by decide +kernel⟩
theorem im_X7_tryGroup : Cond.instanceMethod (m_X7_tryGroup.1) ∈ tblG := tG4 (i := 200) (by decide +kernel) (by decide +kernel)
theorem se_X7_tryGroup : Cond.selects m_X7_tryGroup.1.cls m_X7_tryGroup.1 m_X7_tryGroup.1 ∈ tblG := tGs (i := 18) (by decide +kernel) (by decide +kernel)
theorem cw_X7_tryTurn : cwOf m_X7_tryTurn ∈ tblG := tG4 (i := 214) (by decide +kernel) (by decide +kernel)
theorem mk_X7_tryTurn : MK m_X7_tryTurn 1 := ⟨cw_X7_tryTurn, tG1 (i := 1) (by decide +kernel) (by decide +kernel), rfl, by decide +kernel⟩
theorem im_X7_tryTurn : Cond.instanceMethod (m_X7_tryTurn.1) ∈ tblG := tG4 (i := 213) (by decide +kernel) (by decide +kernel)
theorem se_X7_tryTurn : Cond.selects m_X7_tryTurn.1.cls m_X7_tryTurn.1 m_X7_tryTurn.1 ∈ tblG := tGs (i := 19) (by decide +kernel) (by decide +kernel)
theorem cw_X7_tryLeaving : cwOf m_X7_tryLeaving ∈ tblG := tG4 (i := 218) (by decide +kernel) (by decide +kernel)
theorem mk_X7_tryLeaving : MK m_X7_tryLeaving 1 := ⟨cw_X7_tryLeaving, tG1 (i := 1) (by decide +kernel) (by decide +kernel), rfl, by decide +kernel⟩
theorem im_X7_tryLeaving : Cond.instanceMethod (m_X7_tryLeaving.1) ∈ tblG := tG4 (i := 217) (by decide +kernel) (by decide +kernel)
theorem se_X7_tryLeaving : Cond.selects m_X7_tryLeaving.1.cls m_X7_tryLeaving.1 m_X7_tryLeaving.1 ∈ tblG := tGs (i := 20) (by decide +kernel) (by decide +kernel)
theorem cw_X8_init : cwOf m_X8_init ∈ tblG := tG4 (i := 237) (by decide +kernel) (by decide +kernel)
theorem mk_X8_init : MK m_X8_init 0 := ⟨cw_X8_init, tG1 (i := 9) (by decide +kernel) (by decide +kernel), rfl, by decide +kernel⟩
theorem im_X8_init : Cond.instanceMethod (m_X8_init.1) ∈ tblG := tG4 (i := 236) (by decide +kernel) (by decide +kernel)
theorem cw_X8_thrown : cwOf m_X8_thrown ∈ tblG := tG5 (i := 34) (by decide +kernel) (by decide +kernel)
theorem mk_X8_thrown : MK m_X8_thrown 0 := ⟨cw_X8_thrown, tG1 (i := 9) (by decide +kernel) (by decide +kernel), rfl, by decide +kernel⟩
theorem im_X8_thrown : Cond.instanceMethod (m_X8_thrown.1) ∈ tblG := tG5 (i := 32) (by decide +kernel) (by decide +kernel)
theorem se_X8_thrown : Cond.selects m_X8_thrown.1.cls m_X8_thrown.1 m_X8_thrown.1 ∈ tblG := tG5 (i := 33) (by decide +kernel) (by decide +kernel)
theorem cw_X8_in : cwOf m_X8_in ∈ tblG := tG5 (i := 41) (by decide +kernel) (by decide +kernel)
theorem mk_X8_in : MK m_X8_in 3 := ⟨cw_X8_in, tG1 (i := 9) (by decide +kernel) (by decide +kernel), rfl, by decide +kernel⟩
theorem sm_X8_in : Cond.static (m_X8_in.1) ∈ tblG := tG5 (i := 40) (by decide +kernel) (by decide +kernel)
theorem cw_X8_holds : cwOf m_X8_holds ∈ tblG := tG5 (i := 45) (by decide +kernel) (by decide +kernel)
theorem mk_X8_holds : MK m_X8_holds 1 := ⟨cw_X8_holds, tG1 (i := 9) (by decide +kernel) (by decide +kernel), rfl, by decide +kernel⟩
theorem im_X8_holds : Cond.instanceMethod (m_X8_holds.1) ∈ tblG := tG5 (i := 44) (by decide +kernel) (by decide +kernel)
theorem se_X8_holds : Cond.selects m_X8_holds.1.cls m_X8_holds.1 m_X8_holds.1 ∈ tblG := tGs (i := 22) (by decide +kernel) (by decide +kernel)
theorem cw_X8_anew : cwOf m_X8_anew ∈ tblG := tG5 (i := 2) (by decide +kernel) (by decide +kernel)
theorem mk_X8_anew : MK m_X8_anew 0 := ⟨cw_X8_anew, tG1 (i := 9) (by decide +kernel) (by decide +kernel), rfl, by decide +kernel⟩
theorem im_X8_anew : Cond.instanceMethod (m_X8_anew.1) ∈ tblG := tG5 (i := 1) (by decide +kernel) (by decide +kernel)
theorem se_X8_anew : Cond.selects m_X8_anew.1.cls m_X8_anew.1 m_X8_anew.1 ∈ tblG := tGs (i := 21) (by decide +kernel) (by decide +kernel)
theorem cw_X8_isFloor : cwOf m_X8_isFloor ∈ tblG := tG5 (i := 97) (by decide +kernel) (by decide +kernel)
theorem mk_X8_isFloor : MK m_X8_isFloor 1 := ⟨cw_X8_isFloor, tG1 (i := 9) (by decide +kernel) (by decide +kernel), rfl, by decide +kernel⟩
theorem im_X8_isFloor : Cond.instanceMethod (m_X8_isFloor.1) ∈ tblG := tG5 (i := 96) (by decide +kernel) (by decide +kernel)
theorem se_X8_isFloor : Cond.selects m_X8_isFloor.1.cls m_X8_isFloor.1 m_X8_isFloor.1 ∈ tblG := tGs (i := 32) (by decide +kernel) (by decide +kernel)
theorem cw_X8_isTeacher : cwOf m_X8_isTeacher ∈ tblG := tG5 (i := 101) (by decide +kernel) (by decide +kernel)
theorem mk_X8_isTeacher : MK m_X8_isTeacher 1 := ⟨cw_X8_isTeacher, tG1 (i := 9) (by decide +kernel) (by decide +kernel), rfl, by decide +kernel⟩
theorem im_X8_isTeacher : Cond.instanceMethod (m_X8_isTeacher.1) ∈ tblG := tG5 (i := 100) (by decide +kernel) (by decide +kernel)
theorem se_X8_isTeacher : Cond.selects m_X8_isTeacher.1.cls m_X8_isTeacher.1 m_X8_isTeacher.1 ∈ tblG := tGs (i := 33) (by decide +kernel) (by decide +kernel)
theorem cw_X8_isClass : cwOf m_X8_isClass ∈ tblG := tG5 (i := 145) (by decide +kernel) (by decide +kernel)
theorem mk_X8_isClass : MK m_X8_isClass 1 := ⟨cw_X8_isClass, tG1 (i := 9) (by decide +kernel) (by decide +kernel), rfl, by decide +kernel⟩
theorem im_X8_isClass : Cond.instanceMethod (m_X8_isClass.1) ∈ tblG := tG5 (i := 144) (by decide +kernel) (by decide +kernel)
theorem se_X8_isClass : Cond.selects m_X8_isClass.1.cls m_X8_isClass.1 m_X8_isClass.1 ∈ tblG := tGs (i := 44) (by decide +kernel) (by decide +kernel)
theorem cw_X8_isDancer : cwOf m_X8_isDancer ∈ tblG := tG5 (i := 133) (by decide +kernel) (by decide +kernel)
theorem mk_X8_isDancer : MK m_X8_isDancer 1 := ⟨cw_X8_isDancer, tG1 (i := 9) (by decide +kernel) (by decide +kernel), rfl, by decide +kernel⟩
theorem im_X8_isDancer : Cond.instanceMethod (m_X8_isDancer.1) ∈ tblG := tG5 (i := 132) (by decide +kernel) (by decide +kernel)
theorem se_X8_isDancer : Cond.selects m_X8_isDancer.1.cls m_X8_isDancer.1 m_X8_isDancer.1 ∈ tblG := tGs (i := 41) (by decide +kernel) (by decide +kernel)
theorem cw_X8_ofClass : cwOf m_X8_ofClass ∈ tblG := tG5 (i := 109) (by decide +kernel) (by decide +kernel)
theorem mk_X8_ofClass : MK m_X8_ofClass 2 := ⟨cw_X8_ofClass, tG1 (i := 9) (by decide +kernel) (by decide +kernel), rfl, by decide +kernel⟩
theorem im_X8_ofClass : Cond.instanceMethod (m_X8_ofClass.1) ∈ tblG := tG5 (i := 108) (by decide +kernel) (by decide +kernel)
theorem se_X8_ofClass : Cond.selects m_X8_ofClass.1.cls m_X8_ofClass.1 m_X8_ofClass.1 ∈ tblG := tGs (i := 35) (by decide +kernel) (by decide +kernel)
theorem cw_X8_ofDancer : cwOf m_X8_ofDancer ∈ tblG := tG5 (i := 137) (by decide +kernel) (by decide +kernel)
theorem mk_X8_ofDancer : MK m_X8_ofDancer 2 := ⟨cw_X8_ofDancer, tG1 (i := 9) (by decide +kernel) (by decide +kernel), rfl, by decide +kernel⟩
theorem im_X8_ofDancer : Cond.instanceMethod (m_X8_ofDancer.1) ∈ tblG := tG5 (i := 136) (by decide +kernel) (by decide +kernel)
theorem se_X8_ofDancer : Cond.selects m_X8_ofDancer.1.cls m_X8_ofDancer.1 m_X8_ofDancer.1 ∈ tblG := tGs (i := 42) (by decide +kernel) (by decide +kernel)
theorem cw_X8_adds : cwOf m_X8_adds ∈ tblG := tG5 (i := 192) (by decide +kernel) (by decide +kernel)
theorem mk_X8_adds : MK m_X8_adds 2 := ⟨cw_X8_adds, tG1 (i := 9) (by decide +kernel) (by decide +kernel), rfl, by decide +kernel⟩
theorem im_X8_adds : Cond.instanceMethod (m_X8_adds.1) ∈ tblG := tG5 (i := 191) (by decide +kernel) (by decide +kernel)
theorem se_X8_adds : Cond.selects m_X8_adds.1.cls m_X8_adds.1 m_X8_adds.1 ∈ tblG := tGs (i := 55) (by decide +kernel) (by decide +kernel)
theorem cw_X8_bits : cwOf m_X8_bits ∈ tblG := tG5 (i := 156) (by decide +kernel) (by decide +kernel)
theorem mk_X8_bits : MK m_X8_bits 1 := ⟨cw_X8_bits, tG1 (i := 9) (by decide +kernel) (by decide +kernel), rfl, by decide +kernel⟩
theorem sm_X8_bits : Cond.static (m_X8_bits.1) ∈ tblG := tG5 (i := 155) (by decide +kernel) (by decide +kernel)
theorem cw_X8_spring : cwOf m_X8_spring ∈ tblG := tG5 (i := 117) (by decide +kernel) (by decide +kernel)
theorem mk_X8_spring : MK m_X8_spring 1 := ⟨cw_X8_spring, tG1 (i := 9) (by decide +kernel) (by decide +kernel), rfl, by decide +kernel⟩
theorem im_X8_spring : Cond.instanceMethod (m_X8_spring.1) ∈ tblG := tG5 (i := 116) (by decide +kernel) (by decide +kernel)
theorem se_X8_spring : Cond.selects m_X8_spring.1.cls m_X8_spring.1 m_X8_spring.1 ∈ tblG := tGs (i := 37) (by decide +kernel) (by decide +kernel)
theorem cw_X8_mirrors : cwOf m_X8_mirrors ∈ tblG := tG5 (i := 125) (by decide +kernel) (by decide +kernel)
theorem mk_X8_mirrors : MK m_X8_mirrors 1 := ⟨cw_X8_mirrors, tG1 (i := 9) (by decide +kernel) (by decide +kernel), rfl, by decide +kernel⟩
theorem im_X8_mirrors : Cond.instanceMethod (m_X8_mirrors.1) ∈ tblG := tG5 (i := 124) (by decide +kernel) (by decide +kernel)
theorem se_X8_mirrors : Cond.selects m_X8_mirrors.1.cls m_X8_mirrors.1 m_X8_mirrors.1 ∈ tblG := tGs (i := 39) (by decide +kernel) (by decide +kernel)
theorem cw_X8_barre : cwOf m_X8_barre ∈ tblG := tG5 (i := 121) (by decide +kernel) (by decide +kernel)
theorem mk_X8_barre : MK m_X8_barre 1 := ⟨cw_X8_barre, tG1 (i := 9) (by decide +kernel) (by decide +kernel), rfl, by decide +kernel⟩
theorem im_X8_barre : Cond.instanceMethod (m_X8_barre.1) ∈ tblG := tG5 (i := 120) (by decide +kernel) (by decide +kernel)
theorem se_X8_barre : Cond.selects m_X8_barre.1.cls m_X8_barre.1 m_X8_barre.1 ∈ tblG := tGs (i := 38) (by decide +kernel) (by decide +kernel)
theorem cw_X8_takes : cwOf m_X8_takes ∈ tblG := tG5 (i := 164) (by decide +kernel) (by decide +kernel)
theorem mk_X8_takes : MK m_X8_takes 2 := ⟨cw_X8_takes, tG1 (i := 9) (by decide +kernel) (by decide +kernel), rfl, by decide +kernel⟩
theorem im_X8_takes : Cond.instanceMethod (m_X8_takes.1) ∈ tblG := tG5 (i := 163) (by decide +kernel) (by decide +kernel)
theorem se_X8_takes : Cond.selects m_X8_takes.1.cls m_X8_takes.1 m_X8_takes.1 ∈ tblG := tGs (i := 48) (by decide +kernel) (by decide +kernel)
theorem cw_X8_isSpring : cwOf m_X8_isSpring ∈ tblG := tG5 (i := 113) (by decide +kernel) (by decide +kernel)
theorem mk_X8_isSpring : MK m_X8_isSpring 3 := ⟨cw_X8_isSpring, tG1 (i := 9) (by decide +kernel) (by decide +kernel), rfl, by decide +kernel⟩
theorem im_X8_isSpring : Cond.instanceMethod (m_X8_isSpring.1) ∈ tblG := tG5 (i := 112) (by decide +kernel) (by decide +kernel)
theorem se_X8_isSpring : Cond.selects m_X8_isSpring.1.cls m_X8_isSpring.1 m_X8_isSpring.1 ∈ tblG := tGs (i := 36) (by decide +kernel) (by decide +kernel)
theorem cw_X8_whyNo : cwOf m_X8_whyNo ∈ tblG := tG5 (i := 105) (by decide +kernel) (by decide +kernel)
theorem mk_X8_whyNo : MK m_X8_whyNo 6 := ⟨cw_X8_whyNo, tG1 (i := 9) (by decide +kernel) (by decide +kernel), rfl, by decide +kernel⟩
theorem im_X8_whyNo : Cond.instanceMethod (m_X8_whyNo.1) ∈ tblG := tG5 (i := 104) (by decide +kernel) (by decide +kernel)
theorem se_X8_whyNo : Cond.selects m_X8_whyNo.1.cls m_X8_whyNo.1 m_X8_whyNo.1 ∈ tblG := tGs (i := 34) (by decide +kernel) (by decide +kernel)
theorem cw_X8_hasSeat : cwOf m_X8_hasSeat ∈ tblG := tG5 (i := 153) (by decide +kernel) (by decide +kernel)
theorem mk_X8_hasSeat : MK m_X8_hasSeat 2 := ⟨cw_X8_hasSeat, tG1 (i := 9) (by decide +kernel) (by decide +kernel), rfl, by decide +kernel⟩
theorem im_X8_hasSeat : Cond.instanceMethod (m_X8_hasSeat.1) ∈ tblG := tG5 (i := 152) (by decide +kernel) (by decide +kernel)
theorem se_X8_hasSeat : Cond.selects m_X8_hasSeat.1.cls m_X8_hasSeat.1 m_X8_hasSeat.1 ∈ tblG := tGs (i := 46) (by decide +kernel) (by decide +kernel)
theorem cw_X8_classTakes : cwOf m_X8_classTakes ∈ tblG := tG5 (i := 160) (by decide +kernel) (by decide +kernel)
theorem mk_X8_classTakes : MK m_X8_classTakes 1 := ⟨cw_X8_classTakes, tG1 (i := 9) (by decide +kernel) (by decide +kernel), rfl, by decide +kernel⟩
theorem im_X8_classTakes : Cond.instanceMethod (m_X8_classTakes.1) ∈ tblG := tG5 (i := 159) (by decide +kernel) (by decide +kernel)
theorem se_X8_classTakes : Cond.selects m_X8_classTakes.1.cls m_X8_classTakes.1 m_X8_classTakes.1 ∈ tblG := tGs (i := 47) (by decide +kernel) (by decide +kernel)
theorem cw_X8_whyNoSeat : cwOf m_X8_whyNoSeat ∈ tblG := tG5 (i := 149) (by decide +kernel) (by decide +kernel)
theorem mk_X8_whyNoSeat : MK m_X8_whyNoSeat 2 := ⟨cw_X8_whyNoSeat, tG1 (i := 9) (by decide +kernel) (by decide +kernel), rfl, by decide +kernel⟩
theorem im_X8_whyNoSeat : Cond.instanceMethod (m_X8_whyNoSeat.1) ∈ tblG := tG5 (i := 148) (by decide +kernel) (by decide +kernel)
theorem se_X8_whyNoSeat : Cond.selects m_X8_whyNoSeat.1.cls m_X8_whyNoSeat.1 m_X8_whyNoSeat.1 ∈ tblG := tGs (i := 45) (by decide +kernel) (by decide +kernel)
theorem cw_X8_floors : cwOf m_X8_floors ∈ tblG := tG5 (i := 172) (by decide +kernel) (by decide +kernel)
theorem mk_X8_floors : MK m_X8_floors 4 := ⟨cw_X8_floors, tG1 (i := 9) (by decide +kernel) (by decide +kernel), rfl, by decide +kernel⟩
theorem im_X8_floors : Cond.instanceMethod (m_X8_floors.1) ∈ tblG := tG5 (i := 171) (by decide +kernel) (by decide +kernel)
theorem se_X8_floors : Cond.selects m_X8_floors.1.cls m_X8_floors.1 m_X8_floors.1 ∈ tblG := tGs (i := 50) (by decide +kernel) (by decide +kernel)
theorem cw_X8_teachers : cwOf m_X8_teachers ∈ tblG := tG5 (i := 176) (by decide +kernel) (by decide +kernel)
theorem mk_X8_teachers : MK m_X8_teachers 2 := ⟨cw_X8_teachers, tG1 (i := 9) (by decide +kernel) (by decide +kernel), rfl, by decide +kernel⟩
theorem im_X8_teachers : Cond.instanceMethod (m_X8_teachers.1) ∈ tblG := tG5 (i := 175) (by decide +kernel) (by decide +kernel)
theorem se_X8_teachers : Cond.selects m_X8_teachers.1.cls m_X8_teachers.1 m_X8_teachers.1 ∈ tblG := tGs (i := 51) (by decide +kernel) (by decide +kernel)
theorem cw_X8_sets : cwOf m_X8_sets ∈ tblG := tG5 (i := 180) (by decide +kernel) (by decide +kernel)
theorem mk_X8_sets : MK m_X8_sets 6 := ⟨cw_X8_sets, tG1 (i := 9) (by decide +kernel) (by decide +kernel), rfl, by decide +kernel⟩
theorem im_X8_sets : Cond.instanceMethod (m_X8_sets.1) ∈ tblG := tG5 (i := 179) (by decide +kernel) (by decide +kernel)
theorem se_X8_sets : Cond.selects m_X8_sets.1.cls m_X8_sets.1 m_X8_sets.1 ∈ tblG := tGs (i := 52) (by decide +kernel) (by decide +kernel)
theorem cw_X8_drops : cwOf m_X8_drops ∈ tblG := tG5 (i := 204) (by decide +kernel) (by decide +kernel)
theorem mk_X8_drops : MK m_X8_drops 1 := ⟨cw_X8_drops, tG1 (i := 9) (by decide +kernel) (by decide +kernel), rfl, by decide +kernel⟩
theorem im_X8_drops : Cond.instanceMethod (m_X8_drops.1) ∈ tblG := tG5 (i := 203) (by decide +kernel) (by decide +kernel)
theorem se_X8_drops : Cond.selects m_X8_drops.1.cls m_X8_drops.1 m_X8_drops.1 ∈ tblG := tGs (i := 58) (by decide +kernel) (by decide +kernel)
theorem cw_X8_dancers : cwOf m_X8_dancers ∈ tblG := tG5 (i := 184) (by decide +kernel) (by decide +kernel)
theorem mk_X8_dancers : MK m_X8_dancers 0 := ⟨cw_X8_dancers, tG1 (i := 9) (by decide +kernel) (by decide +kernel), rfl, by decide +kernel⟩
theorem im_X8_dancers : Cond.instanceMethod (m_X8_dancers.1) ∈ tblG := tG5 (i := 183) (by decide +kernel) (by decide +kernel)
theorem se_X8_dancers : Cond.selects m_X8_dancers.1.cls m_X8_dancers.1 m_X8_dancers.1 ∈ tblG := tGs (i := 53) (by decide +kernel) (by decide +kernel)
theorem cw_X8_passes : cwOf m_X8_passes ∈ tblG := tG5 (i := 188) (by decide +kernel) (by decide +kernel)
theorem mk_X8_passes : MK m_X8_passes 1 := ⟨cw_X8_passes, tG1 (i := 9) (by decide +kernel) (by decide +kernel), rfl, by decide +kernel⟩
theorem im_X8_passes : Cond.instanceMethod (m_X8_passes.1) ∈ tblG := tG5 (i := 187) (by decide +kernel) (by decide +kernel)
theorem se_X8_passes : Cond.selects m_X8_passes.1.cls m_X8_passes.1 m_X8_passes.1 ∈ tblG := tGs (i := 54) (by decide +kernel) (by decide +kernel)
theorem cw_X8_enters : cwOf m_X8_enters ∈ tblG := tG5 (i := 196) (by decide +kernel) (by decide +kernel)
theorem mk_X8_enters : MK m_X8_enters 2 := ⟨cw_X8_enters, tG1 (i := 9) (by decide +kernel) (by decide +kernel), rfl, by decide +kernel⟩
theorem im_X8_enters : Cond.instanceMethod (m_X8_enters.1) ∈ tblG := tG5 (i := 195) (by decide +kernel) (by decide +kernel)
theorem se_X8_enters : Cond.selects m_X8_enters.1.cls m_X8_enters.1 m_X8_enters.1 ∈ tblG := tGs (i := 56) (by decide +kernel) (by decide +kernel)
theorem cw_X8_leaves : cwOf m_X8_leaves ∈ tblG := tG5 (i := 200) (by decide +kernel) (by decide +kernel)
theorem mk_X8_leaves : MK m_X8_leaves 2 := ⟨cw_X8_leaves, tG1 (i := 9) (by decide +kernel) (by decide +kernel), rfl, by decide +kernel⟩
theorem im_X8_leaves : Cond.instanceMethod (m_X8_leaves.1) ∈ tblG := tG5 (i := 199) (by decide +kernel) (by decide +kernel)
theorem se_X8_leaves : Cond.selects m_X8_leaves.1.cls m_X8_leaves.1 m_X8_leaves.1 ∈ tblG := tGs (i := 57) (by decide +kernel) (by decide +kernel)
theorem cw_X8_coming : cwOf m_X8_coming ∈ tblG := tG5 (i := 216) (by decide +kernel) (by decide +kernel)
theorem mk_X8_coming : MK m_X8_coming 1 := ⟨cw_X8_coming, tG1 (i := 9) (by decide +kernel) (by decide +kernel), rfl, by decide +kernel⟩
theorem im_X8_coming : Cond.instanceMethod (m_X8_coming.1) ∈ tblG := tG5 (i := 215) (by decide +kernel) (by decide +kernel)
theorem se_X8_coming : Cond.selects m_X8_coming.1.cls m_X8_coming.1 m_X8_coming.1 ∈ tblG := tGs (i := 61) (by decide +kernel) (by decide +kernel)
theorem cw_X8_dances : cwOf m_X8_dances ∈ tblG := tG5 (i := 220) (by decide +kernel) (by decide +kernel)
theorem mk_X8_dances : MK m_X8_dances 2 := ⟨cw_X8_dances, tG1 (i := 9) (by decide +kernel) (by decide +kernel), rfl, by decide +kernel⟩
theorem im_X8_dances : Cond.instanceMethod (m_X8_dances.1) ∈ tblG := tG5 (i := 219) (by decide +kernel) (by decide +kernel)
theorem se_X8_dances : Cond.selects m_X8_dances.1.cls m_X8_dances.1 m_X8_dances.1 ∈ tblG := tGs (i := 62) (by decide +kernel) (by decide +kernel)
theorem cw_X8_week : cwOf m_X8_week ∈ tblG := tG5 (i := 212) (by decide +kernel) (by decide +kernel)
theorem mk_X8_week : MK m_X8_week 0 := ⟨cw_X8_week, tG1 (i := 9) (by decide +kernel) (by decide +kernel), rfl, by decide +kernel⟩
theorem im_X8_week : Cond.instanceMethod (m_X8_week.1) ∈ tblG := tG5 (i := 211) (by decide +kernel) (by decide +kernel)
theorem se_X8_week : Cond.selects m_X8_week.1.cls m_X8_week.1 m_X8_week.1 ∈ tblG := tGs (i := 60) (by decide +kernel) (by decide +kernel)
theorem cw_X8_weeksGo : cwOf m_X8_weeksGo ∈ tblG := tG5 (i := 208) (by decide +kernel) (by decide +kernel)
theorem mk_X8_weeksGo : MK m_X8_weeksGo 1 := ⟨cw_X8_weeksGo, tG1 (i := 9) (by decide +kernel) (by decide +kernel), rfl, by decide +kernel⟩
theorem im_X8_weeksGo : Cond.instanceMethod (m_X8_weeksGo.1) ∈ tblG := tG5 (i := 207) (by decide +kernel) (by decide +kernel)
theorem se_X8_weeksGo : Cond.selects m_X8_weeksGo.1.cls m_X8_weeksGo.1 m_X8_weeksGo.1 ∈ tblG := tGs (i := 59) (by decide +kernel) (by decide +kernel)
theorem cw_X8_copies : cwOf m_X8_copies ∈ tblG := tG6 (i := 47) (by decide +kernel) (by decide +kernel)
theorem mk_X8_copies : MK m_X8_copies 2 := ⟨cw_X8_copies, tG1 (i := 9) (by decide +kernel) (by decide +kernel), rfl, by decide +kernel⟩
theorem im_X8_copies : Cond.instanceMethod (m_X8_copies.1) ∈ tblG := tG6 (i := 46) (by decide +kernel) (by decide +kernel)
theorem se_X8_copies : Cond.selects m_X8_copies.1.cls m_X8_copies.1 m_X8_copies.1 ∈ tblG := tGs (i := 70) (by decide +kernel) (by decide +kernel)
theorem cw_X8_remember : cwOf m_X8_remember ∈ tblG := tG6 (i := 43) (by decide +kernel) (by decide +kernel)
theorem mk_X8_remember : MK m_X8_remember 0 := ⟨cw_X8_remember, tG1 (i := 9) (by decide +kernel) (by decide +kernel), rfl, by decide +kernel⟩
theorem im_X8_remember : Cond.instanceMethod (m_X8_remember.1) ∈ tblG := tG6 (i := 42) (by decide +kernel) (by decide +kernel)
theorem se_X8_remember : Cond.selects m_X8_remember.1.cls m_X8_remember.1 m_X8_remember.1 ∈ tblG := tGs (i := 69) (by decide +kernel) (by decide +kernel)
theorem cw_X8_append : cwOf m_X8_append ∈ tblG := tG5 (i := 38) (by decide +kernel) (by decide +kernel)
theorem mk_X8_append : MK m_X8_append 1 := ⟨cw_X8_append, tG1 (i := 9) (by decide +kernel) (by decide +kernel), rfl, by decide +kernel⟩
theorem im_X8_append : Cond.instanceMethod (m_X8_append.1) ∈ tblG := tG5 (i := 36) (by decide +kernel) (by decide +kernel)
theorem se_X8_append : Cond.selects m_X8_append.1.cls m_X8_append.1 m_X8_append.1 ∈ tblG := tG5 (i := 37) (by decide +kernel) (by decide +kernel)
theorem cw_X8_clearText : cwOf m_X8_clearText ∈ tblG := tG5 (i := 49) (by decide +kernel) (by decide +kernel)
theorem mk_X8_clearText : MK m_X8_clearText 0 := ⟨cw_X8_clearText, tG1 (i := 9) (by decide +kernel) (by decide +kernel), rfl, by decide +kernel⟩
theorem im_X8_clearText : Cond.instanceMethod (m_X8_clearText.1) ∈ tblG := tG5 (i := 47) (by decide +kernel) (by decide +kernel)
theorem se_X8_clearText : Cond.selects m_X8_clearText.1.cls m_X8_clearText.1 m_X8_clearText.1 ∈ tblG := tG5 (i := 48) (by decide +kernel) (by decide +kernel)
theorem cw_X8_sign : cwOf m_X8_sign ∈ tblG := tG5 (i := 65) (by decide +kernel) (by decide +kernel)
theorem mk_X8_sign : MK m_X8_sign 0 := ⟨cw_X8_sign, tG1 (i := 9) (by decide +kernel) (by decide +kernel), rfl, by decide +kernel⟩
theorem im_X8_sign : Cond.instanceMethod (m_X8_sign.1) ∈ tblG := tG5 (i := 64) (by decide +kernel) (by decide +kernel)
theorem se_X8_sign : Cond.selects m_X8_sign.1.cls m_X8_sign.1 m_X8_sign.1 ∈ tblG := tGs (i := 25) (by decide +kernel) (by decide +kernel)
theorem cw_X8_takesSign : cwOf m_X8_takesSign ∈ tblG := tG5 (i := 61) (by decide +kernel) (by decide +kernel)
theorem mk_X8_takesSign : MK m_X8_takesSign 1 := ⟨cw_X8_takesSign, tG1 (i := 9) (by decide +kernel) (by decide +kernel), rfl, by decide +kernel⟩
theorem im_X8_takesSign : Cond.instanceMethod (m_X8_takesSign.1) ∈ tblG := tG5 (i := 60) (by decide +kernel) (by decide +kernel)
theorem se_X8_takesSign : Cond.selects m_X8_takesSign.1.cls m_X8_takesSign.1 m_X8_takesSign.1 ∈ tblG := tGs (i := 24) (by decide +kernel) (by decide +kernel)
theorem cw_X8_figure : cwOf m_X8_figure ∈ tblG := tG5 (i := 73) (by decide +kernel) (by decide +kernel)
theorem mk_X8_figure : MK m_X8_figure 3 := ⟨cw_X8_figure, tG1 (i := 9) (by decide +kernel) (by decide +kernel), rfl, by decide +kernel⟩
theorem im_X8_figure : Cond.instanceMethod (m_X8_figure.1) ∈ tblG := tG5 (i := 72) (by decide +kernel) (by decide +kernel)
theorem se_X8_figure : Cond.selects m_X8_figure.1.cls m_X8_figure.1 m_X8_figure.1 ∈ tblG := tGs (i := 27) (by decide +kernel) (by decide +kernel)
theorem cw_X8_figures : cwOf m_X8_figures ∈ tblG := tG5 (i := 77) (by decide +kernel) (by decide +kernel)
theorem mk_X8_figures : MK m_X8_figures 3 := ⟨cw_X8_figures, tG1 (i := 9) (by decide +kernel) (by decide +kernel), rfl, by decide +kernel⟩
theorem im_X8_figures : Cond.instanceMethod (m_X8_figures.1) ∈ tblG := tG5 (i := 76) (by decide +kernel) (by decide +kernel)
theorem se_X8_figures : Cond.selects m_X8_figures.1.cls m_X8_figures.1 m_X8_figures.1 ∈ tblG := tGs (i := 28) (by decide +kernel) (by decide +kernel)
theorem cw_X8_readsClass : cwOf m_X8_readsClass ∈ tblG := tG5 (i := 81) (by decide +kernel) (by decide +kernel)
theorem mk_X8_readsClass : MK m_X8_readsClass 0 := ⟨cw_X8_readsClass, tG1 (i := 9) (by decide +kernel) (by decide +kernel), rfl, by decide +kernel⟩
theorem im_X8_readsClass : Cond.instanceMethod (m_X8_readsClass.1) ∈ tblG := tG5 (i := 80) (by decide +kernel) (by decide +kernel)
theorem se_X8_readsClass : Cond.selects m_X8_readsClass.1.cls m_X8_readsClass.1 m_X8_readsClass.1 ∈ tblG := tGs (i := 29) (by decide +kernel) (by decide +kernel)
theorem cw_X8_readsCommand : cwOf m_X8_readsCommand ∈ tblG := tG5 (i := 69) (by decide +kernel) (by decide +kernel)
theorem mk_X8_readsCommand : MK m_X8_readsCommand 0 := ⟨cw_X8_readsCommand, tG1 (i := 9) (by decide +kernel) (by decide +kernel), rfl, by decide +kernel⟩
theorem im_X8_readsCommand : Cond.instanceMethod (m_X8_readsCommand.1) ∈ tblG := tG5 (i := 68) (by decide +kernel) (by decide +kernel)
theorem se_X8_readsCommand : Cond.selects m_X8_readsCommand.1.cls m_X8_readsCommand.1 m_X8_readsCommand.1 ∈ tblG := tGs (i := 26) (by decide +kernel) (by decide +kernel)
theorem cw_X8_isStudio : cwOf m_X8_isStudio ∈ tblG := tG5 (i := 57) (by decide +kernel) (by decide +kernel)
theorem mk_X8_isStudio : MK m_X8_isStudio 0 := ⟨cw_X8_isStudio, tG1 (i := 9) (by decide +kernel) (by decide +kernel), rfl, by decide +kernel⟩
theorem im_X8_isStudio : Cond.instanceMethod (m_X8_isStudio.1) ∈ tblG := tG5 (i := 56) (by decide +kernel) (by decide +kernel)
theorem se_X8_isStudio : Cond.selects m_X8_isStudio.1.cls m_X8_isStudio.1 m_X8_isStudio.1 ∈ tblG := tGs (i := 23) (by decide +kernel) (by decide +kernel)
theorem cw_X8_errorPosition : cwOf m_X8_errorPosition ∈ tblG := tG5 (i := 53) (by decide +kernel) (by decide +kernel)
theorem mk_X8_errorPosition : MK m_X8_errorPosition 0 := ⟨cw_X8_errorPosition, tG1 (i := 9) (by decide +kernel) (by decide +kernel), rfl, by decide +kernel⟩
theorem im_X8_errorPosition : Cond.instanceMethod (m_X8_errorPosition.1) ∈ tblG := tG5 (i := 51) (by decide +kernel) (by decide +kernel)
theorem se_X8_errorPosition : Cond.selects m_X8_errorPosition.1.cls m_X8_errorPosition.1 m_X8_errorPosition.1 ∈ tblG := tG5 (i := 52) (by decide +kernel) (by decide +kernel)
theorem cw_X8_canSet : cwOf m_X8_canSet ∈ tblG := tG5 (i := 93) (by decide +kernel) (by decide +kernel)
theorem mk_X8_canSet : MK m_X8_canSet 0 := ⟨cw_X8_canSet, tG1 (i := 9) (by decide +kernel) (by decide +kernel), rfl, by decide +kernel⟩
theorem im_X8_canSet : Cond.instanceMethod (m_X8_canSet.1) ∈ tblG := tG5 (i := 92) (by decide +kernel) (by decide +kernel)
theorem se_X8_canSet : Cond.selects m_X8_canSet.1.cls m_X8_canSet.1 m_X8_canSet.1 ∈ tblG := tGs (i := 31) (by decide +kernel) (by decide +kernel)
theorem cw_X8_areBoth : cwOf m_X8_areBoth ∈ tblG := tG5 (i := 141) (by decide +kernel) (by decide +kernel)
theorem mk_X8_areBoth : MK m_X8_areBoth 0 := ⟨cw_X8_areBoth, tG1 (i := 9) (by decide +kernel) (by decide +kernel), rfl, by decide +kernel⟩
theorem im_X8_areBoth : Cond.instanceMethod (m_X8_areBoth.1) ∈ tblG := tG5 (i := 140) (by decide +kernel) (by decide +kernel)
theorem se_X8_areBoth : Cond.selects m_X8_areBoth.1.cls m_X8_areBoth.1 m_X8_areBoth.1 ∈ tblG := tGs (i := 43) (by decide +kernel) (by decide +kernel)
theorem cw_X8_canPass : cwOf m_X8_canPass ∈ tblG := tG5 (i := 129) (by decide +kernel) (by decide +kernel)
theorem mk_X8_canPass : MK m_X8_canPass 1 := ⟨cw_X8_canPass, tG1 (i := 9) (by decide +kernel) (by decide +kernel), rfl, by decide +kernel⟩
theorem im_X8_canPass : Cond.instanceMethod (m_X8_canPass.1) ∈ tblG := tG5 (i := 128) (by decide +kernel) (by decide +kernel)
theorem se_X8_canPass : Cond.selects m_X8_canPass.1.cls m_X8_canPass.1 m_X8_canPass.1 ∈ tblG := tGs (i := 40) (by decide +kernel) (by decide +kernel)
theorem cw_X8_can : cwOf m_X8_can ∈ tblG := tG5 (i := 89) (by decide +kernel) (by decide +kernel)
theorem mk_X8_can : MK m_X8_can 0 := ⟨cw_X8_can, tG1 (i := 9) (by decide +kernel) (by decide +kernel), rfl, by decide +kernel⟩
theorem im_X8_can : Cond.instanceMethod (m_X8_can.1) ∈ tblG := tG5 (i := 88) (by decide +kernel) (by decide +kernel)
theorem se_X8_can : Cond.selects m_X8_can.1.cls m_X8_can.1 m_X8_can.1 ∈ tblG := tGs (i := 30) (by decide +kernel) (by decide +kernel)
theorem cw_X8_does : cwOf m_X8_does ∈ tblG := tG5 (i := 168) (by decide +kernel) (by decide +kernel)
theorem mk_X8_does : MK m_X8_does 0 := ⟨cw_X8_does, tG1 (i := 9) (by decide +kernel) (by decide +kernel), rfl, by decide +kernel⟩
theorem im_X8_does : Cond.instanceMethod (m_X8_does.1) ∈ tblG := tG5 (i := 167) (by decide +kernel) (by decide +kernel)
theorem se_X8_does : Cond.selects m_X8_does.1.cls m_X8_does.1 m_X8_does.1 ∈ tblG := tGs (i := 49) (by decide +kernel) (by decide +kernel)
theorem cw_X8_load : cwOf m_X8_load ∈ tblG := tG5 (i := 85) (by decide +kernel) (by decide +kernel)
theorem mk_X8_load : MK m_X8_load 0 := ⟨cw_X8_load, tG1 (i := 9) (by decide +kernel) (by decide +kernel), rfl, by decide +kernel⟩
theorem im_X8_load : Cond.instanceMethod (m_X8_load.1) ∈ tblG := tG5 (i := 83) (by decide +kernel) (by decide +kernel)
theorem se_X8_load : Cond.selects m_X8_load.1.cls m_X8_load.1 m_X8_load.1 ∈ tblG := tG5 (i := 84) (by decide +kernel) (by decide +kernel)
theorem cw_X8_seats : cwOf m_X8_seats ∈ tblG := tG5 (i := 232) (by decide +kernel) (by decide +kernel)
theorem mk_X8_seats : MK m_X8_seats 0 := ⟨cw_X8_seats, tG1 (i := 9) (by decide +kernel) (by decide +kernel), rfl, by decide +kernel⟩
theorem im_X8_seats : Cond.instanceMethod (m_X8_seats.1) ∈ tblG := tG5 (i := 231) (by decide +kernel) (by decide +kernel)
theorem se_X8_seats : Cond.selects m_X8_seats.1.cls m_X8_seats.1 m_X8_seats.1 ∈ tblG := tGs (i := 64) (by decide +kernel) (by decide +kernel)
theorem cw_X8_left : cwOf m_X8_left ∈ tblG := tG5 (i := 236) (by decide +kernel) (by decide +kernel)
theorem mk_X8_left : MK m_X8_left 0 := ⟨cw_X8_left, tG1 (i := 9) (by decide +kernel) (by decide +kernel), rfl, by decide +kernel⟩
theorem im_X8_left : Cond.instanceMethod (m_X8_left.1) ∈ tblG := tG5 (i := 235) (by decide +kernel) (by decide +kernel)
theorem se_X8_left : Cond.selects m_X8_left.1.cls m_X8_left.1 m_X8_left.1 ∈ tblG := tGs (i := 65) (by decide +kernel) (by decide +kernel)
theorem cw_X8_tells : cwOf m_X8_tells ∈ tblG := tG5 (i := 228) (by decide +kernel) (by decide +kernel)
theorem mk_X8_tells : MK m_X8_tells 1 := ⟨cw_X8_tells, tG1 (i := 9) (by decide +kernel) (by decide +kernel), rfl, by decide +kernel⟩
theorem im_X8_tells : Cond.instanceMethod (m_X8_tells.1) ∈ tblG := tG5 (i := 227) (by decide +kernel) (by decide +kernel)
theorem se_X8_tells : Cond.selects m_X8_tells.1.cls m_X8_tells.1 m_X8_tells.1 ∈ tblG := tGs (i := 63) (by decide +kernel) (by decide +kernel)
theorem cw_X8_about : cwOf m_X8_about ∈ tblG := tG5 (i := 224) (by decide +kernel) (by decide +kernel)
theorem mk_X8_about : MK m_X8_about 1 := ⟨cw_X8_about, tG1 (i := 9) (by decide +kernel) (by decide +kernel), rfl, by decide +kernel⟩
theorem im_X8_about : Cond.instanceMethod (m_X8_about.1) ∈ tblG := tG5 (i := 222) (by decide +kernel) (by decide +kernel)
theorem se_X8_about : Cond.selects m_X8_about.1.cls m_X8_about.1 m_X8_about.1 ∈ tblG := tG5 (i := 223) (by decide +kernel) (by decide +kernel)
theorem cw_X8_classes : cwOf m_X8_classes ∈ tblG := tG6 (i := 4) (by decide +kernel) (by decide +kernel)
theorem mk_X8_classes : MK m_X8_classes 2 := ⟨cw_X8_classes, tG1 (i := 9) (by decide +kernel) (by decide +kernel), rfl, by decide +kernel⟩
theorem im_X8_classes : Cond.instanceMethod (m_X8_classes.1) ∈ tblG := tG6 (i := 3) (by decide +kernel) (by decide +kernel)
theorem se_X8_classes : Cond.selects m_X8_classes.1.cls m_X8_classes.1 m_X8_classes.1 ∈ tblG := tGs (i := 66) (by decide +kernel) (by decide +kernel)
theorem cw_X8_floorOf : cwOf m_X8_floorOf ∈ tblG := tG6 (i := 0) (by decide +kernel) (by decide +kernel)
theorem mk_X8_floorOf : MK m_X8_floorOf 2 := ⟨cw_X8_floorOf, tG1 (i := 9) (by decide +kernel) (by decide +kernel), rfl, by decide +kernel⟩
theorem im_X8_floorOf : Cond.instanceMethod (m_X8_floorOf.1) ∈ tblG := tG5 (i := 238) (by decide +kernel) (by decide +kernel)
theorem se_X8_floorOf : Cond.selects m_X8_floorOf.1.cls m_X8_floorOf.1 m_X8_floorOf.1 ∈ tblG := tG5 (i := 239) (by decide +kernel) (by decide +kernel)
theorem cw_X8_daysOf : cwOf m_X8_daysOf ∈ tblG := tG6 (i := 12) (by decide +kernel) (by decide +kernel)
theorem mk_X8_daysOf : MK m_X8_daysOf 1 := ⟨cw_X8_daysOf, tG1 (i := 9) (by decide +kernel) (by decide +kernel), rfl, by decide +kernel⟩
theorem im_X8_daysOf : Cond.instanceMethod (m_X8_daysOf.1) ∈ tblG := tG6 (i := 11) (by decide +kernel) (by decide +kernel)
theorem se_X8_daysOf : Cond.selects m_X8_daysOf.1.cls m_X8_daysOf.1 m_X8_daysOf.1 ∈ tblG := tGs (i := 67) (by decide +kernel) (by decide +kernel)
theorem cw_X8_teacherOf : cwOf m_X8_teacherOf ∈ tblG := tG6 (i := 8) (by decide +kernel) (by decide +kernel)
theorem mk_X8_teacherOf : MK m_X8_teacherOf 2 := ⟨cw_X8_teacherOf, tG1 (i := 9) (by decide +kernel) (by decide +kernel), rfl, by decide +kernel⟩
theorem im_X8_teacherOf : Cond.instanceMethod (m_X8_teacherOf.1) ∈ tblG := tG6 (i := 6) (by decide +kernel) (by decide +kernel)
theorem se_X8_teacherOf : Cond.selects m_X8_teacherOf.1.cls m_X8_teacherOf.1 m_X8_teacherOf.1 ∈ tblG := tG6 (i := 7) (by decide +kernel) (by decide +kernel)
theorem cw_X8_classOf : cwOf m_X8_classOf ∈ tblG := tG6 (i := 16) (by decide +kernel) (by decide +kernel)
theorem mk_X8_classOf : MK m_X8_classOf 2 := ⟨cw_X8_classOf, tG1 (i := 9) (by decide +kernel) (by decide +kernel), rfl, by decide +kernel⟩
theorem im_X8_classOf : Cond.instanceMethod (m_X8_classOf.1) ∈ tblG := tG6 (i := 14) (by decide +kernel) (by decide +kernel)
theorem se_X8_classOf : Cond.selects m_X8_classOf.1.cls m_X8_classOf.1 m_X8_classOf.1 ∈ tblG := tG6 (i := 15) (by decide +kernel) (by decide +kernel)
theorem cw_X8_seatsOf : cwOf m_X8_seatsOf ∈ tblG := tG6 (i := 24) (by decide +kernel) (by decide +kernel)
theorem mk_X8_seatsOf : MK m_X8_seatsOf 1 := ⟨cw_X8_seatsOf, tG1 (i := 9) (by decide +kernel) (by decide +kernel), rfl, by decide +kernel⟩
theorem im_X8_seatsOf : Cond.instanceMethod (m_X8_seatsOf.1) ∈ tblG := tG6 (i := 23) (by decide +kernel) (by decide +kernel)
theorem se_X8_seatsOf : Cond.selects m_X8_seatsOf.1.cls m_X8_seatsOf.1 m_X8_seatsOf.1 ∈ tblG := tGs (i := 68) (by decide +kernel) (by decide +kernel)
theorem cw_X8_dancerOf : cwOf m_X8_dancerOf ∈ tblG := tG6 (i := 20) (by decide +kernel) (by decide +kernel)
theorem mk_X8_dancerOf : MK m_X8_dancerOf 2 := ⟨cw_X8_dancerOf, tG1 (i := 9) (by decide +kernel) (by decide +kernel), rfl, by decide +kernel⟩
theorem im_X8_dancerOf : Cond.instanceMethod (m_X8_dancerOf.1) ∈ tblG := tG6 (i := 18) (by decide +kernel) (by decide +kernel)
theorem se_X8_dancerOf : Cond.selects m_X8_dancerOf.1.cls m_X8_dancerOf.1 m_X8_dancerOf.1 ∈ tblG := tG6 (i := 19) (by decide +kernel) (by decide +kernel)
theorem cw_X8_uses : cwOf m_X8_uses ∈ tblG := tG6 (i := 28) (by decide +kernel) (by decide +kernel)
theorem mk_X8_uses : MK m_X8_uses 1 := ⟨cw_X8_uses, tG1 (i := 9) (by decide +kernel) (by decide +kernel), rfl, by decide +kernel⟩
theorem im_X8_uses : Cond.instanceMethod (m_X8_uses.1) ∈ tblG := tG6 (i := 26) (by decide +kernel) (by decide +kernel)
theorem se_X8_uses : Cond.selects m_X8_uses.1.cls m_X8_uses.1 m_X8_uses.1 ∈ tblG := tG6 (i := 27) (by decide +kernel) (by decide +kernel)
theorem cw_X8_setting : cwOf m_X8_setting ∈ tblG := tG6 (i := 32) (by decide +kernel) (by decide +kernel)
theorem mk_X8_setting : MK m_X8_setting 1 := ⟨cw_X8_setting, tG1 (i := 9) (by decide +kernel) (by decide +kernel), rfl, by decide +kernel⟩
theorem im_X8_setting : Cond.instanceMethod (m_X8_setting.1) ∈ tblG := tG6 (i := 30) (by decide +kernel) (by decide +kernel)
theorem se_X8_setting : Cond.selects m_X8_setting.1.cls m_X8_setting.1 m_X8_setting.1 ∈ tblG := tG6 (i := 31) (by decide +kernel) (by decide +kernel)
theorem cw_X8_isFloorLike : cwOf m_X8_isFloorLike ∈ tblG := tG6 (i := 39) (by decide +kernel) (by decide +kernel)
theorem mk_X8_isFloorLike : MK m_X8_isFloorLike 4 := ⟨cw_X8_isFloorLike, tG1 (i := 9) (by decide +kernel) (by decide +kernel), rfl, by decide +kernel⟩
theorem sm_X8_isFloorLike : Cond.static (m_X8_isFloorLike.1) ∈ tblG := tG6 (i := 38) (by decide +kernel) (by decide +kernel)
theorem cw_X8_floor : cwOf m_X8_floor ∈ tblG := tG6 (i := 36) (by decide +kernel) (by decide +kernel)
theorem mk_X8_floor : MK m_X8_floor 4 := ⟨cw_X8_floor, tG1 (i := 9) (by decide +kernel) (by decide +kernel), rfl, by decide +kernel⟩
theorem im_X8_floor : Cond.instanceMethod (m_X8_floor.1) ∈ tblG := tG6 (i := 34) (by decide +kernel) (by decide +kernel)
theorem se_X8_floor : Cond.selects m_X8_floor.1.cls m_X8_floor.1 m_X8_floor.1 ∈ tblG := tG6 (i := 35) (by decide +kernel) (by decide +kernel)
theorem cw_X8_teacher : cwOf m_X8_teacher ∈ tblG := tG6 (i := 51) (by decide +kernel) (by decide +kernel)
theorem mk_X8_teacher : MK m_X8_teacher 2 := ⟨cw_X8_teacher, tG1 (i := 9) (by decide +kernel) (by decide +kernel), rfl, by decide +kernel⟩
theorem im_X8_teacher : Cond.instanceMethod (m_X8_teacher.1) ∈ tblG := tG6 (i := 49) (by decide +kernel) (by decide +kernel)
theorem se_X8_teacher : Cond.selects m_X8_teacher.1.cls m_X8_teacher.1 m_X8_teacher.1 ∈ tblG := tG6 (i := 50) (by decide +kernel) (by decide +kernel)
theorem cw_X8_isTime : cwOf m_X8_isTime ∈ tblG := tG6 (i := 58) (by decide +kernel) (by decide +kernel)
theorem mk_X8_isTime : MK m_X8_isTime 4 := ⟨cw_X8_isTime, tG1 (i := 9) (by decide +kernel) (by decide +kernel), rfl, by decide +kernel⟩
theorem sm_X8_isTime : Cond.static (m_X8_isTime.1) ∈ tblG := tG6 (i := 57) (by decide +kernel) (by decide +kernel)
theorem cw_X8_triesClass : cwOf m_X8_triesClass ∈ tblG := tG6 (i := 62) (by decide +kernel) (by decide +kernel)
theorem mk_X8_triesClass : MK m_X8_triesClass 6 := ⟨cw_X8_triesClass, tG1 (i := 9) (by decide +kernel) (by decide +kernel), rfl, by decide +kernel⟩
theorem im_X8_triesClass : Cond.instanceMethod (m_X8_triesClass.1) ∈ tblG := tG6 (i := 61) (by decide +kernel) (by decide +kernel)
theorem se_X8_triesClass : Cond.selects m_X8_triesClass.1.cls m_X8_triesClass.1 m_X8_triesClass.1 ∈ tblG := tGs (i := 71) (by decide +kernel) (by decide +kernel)
theorem cw_X8_triesSeat : cwOf m_X8_triesSeat ∈ tblG := tG6 (i := 82) (by decide +kernel) (by decide +kernel)
theorem mk_X8_triesSeat : MK m_X8_triesSeat 2 := ⟨cw_X8_triesSeat, tG1 (i := 9) (by decide +kernel) (by decide +kernel), rfl, by decide +kernel⟩
theorem im_X8_triesSeat : Cond.instanceMethod (m_X8_triesSeat.1) ∈ tblG := tG6 (i := 81) (by decide +kernel) (by decide +kernel)
theorem se_X8_triesSeat : Cond.selects m_X8_triesSeat.1.cls m_X8_triesSeat.1 m_X8_triesSeat.1 ∈ tblG := tGs (i := 72) (by decide +kernel) (by decide +kernel)
theorem cw_X8_set : cwOf m_X8_set ∈ tblG := tG6 (i := 55) (by decide +kernel) (by decide +kernel)
theorem mk_X8_set : MK m_X8_set 6 := ⟨cw_X8_set, tG1 (i := 9) (by decide +kernel) (by decide +kernel), rfl, by decide +kernel⟩
theorem im_X8_set : Cond.instanceMethod (m_X8_set.1) ∈ tblG := tG6 (i := 53) (by decide +kernel) (by decide +kernel)
theorem se_X8_set : Cond.selects m_X8_set.1.cls m_X8_set.1 m_X8_set.1 ∈ tblG := tG6 (i := 54) (by decide +kernel) (by decide +kernel)
theorem cw_X8_drop : cwOf m_X8_drop ∈ tblG := tG6 (i := 66) (by decide +kernel) (by decide +kernel)
theorem mk_X8_drop : MK m_X8_drop 1 := ⟨cw_X8_drop, tG1 (i := 9) (by decide +kernel) (by decide +kernel), rfl, by decide +kernel⟩
theorem im_X8_drop : Cond.instanceMethod (m_X8_drop.1) ∈ tblG := tG6 (i := 64) (by decide +kernel) (by decide +kernel)
theorem se_X8_drop : Cond.selects m_X8_drop.1.cls m_X8_drop.1 m_X8_drop.1 ∈ tblG := tG6 (i := 65) (by decide +kernel) (by decide +kernel)
theorem cw_X8_dancer : cwOf m_X8_dancer ∈ tblG := tG6 (i := 70) (by decide +kernel) (by decide +kernel)
theorem mk_X8_dancer : MK m_X8_dancer 0 := ⟨cw_X8_dancer, tG1 (i := 9) (by decide +kernel) (by decide +kernel), rfl, by decide +kernel⟩
theorem im_X8_dancer : Cond.instanceMethod (m_X8_dancer.1) ∈ tblG := tG6 (i := 68) (by decide +kernel) (by decide +kernel)
theorem se_X8_dancer : Cond.selects m_X8_dancer.1.cls m_X8_dancer.1 m_X8_dancer.1 ∈ tblG := tG6 (i := 69) (by decide +kernel) (by decide +kernel)
theorem cw_X8_pass : cwOf m_X8_pass ∈ tblG := tG6 (i := 74) (by decide +kernel) (by decide +kernel)
theorem mk_X8_pass : MK m_X8_pass 1 := ⟨cw_X8_pass, tG1 (i := 9) (by decide +kernel) (by decide +kernel), rfl, by decide +kernel⟩
theorem im_X8_pass : Cond.instanceMethod (m_X8_pass.1) ∈ tblG := tG6 (i := 72) (by decide +kernel) (by decide +kernel)
theorem se_X8_pass : Cond.selects m_X8_pass.1.cls m_X8_pass.1 m_X8_pass.1 ∈ tblG := tG6 (i := 73) (by decide +kernel) (by decide +kernel)
theorem cw_X8_enter : cwOf m_X8_enter ∈ tblG := tG6 (i := 78) (by decide +kernel) (by decide +kernel)
theorem mk_X8_enter : MK m_X8_enter 2 := ⟨cw_X8_enter, tG1 (i := 9) (by decide +kernel) (by decide +kernel), rfl, by decide +kernel⟩
theorem im_X8_enter : Cond.instanceMethod (m_X8_enter.1) ∈ tblG := tG6 (i := 76) (by decide +kernel) (by decide +kernel)
theorem se_X8_enter : Cond.selects m_X8_enter.1.cls m_X8_enter.1 m_X8_enter.1 ∈ tblG := tG6 (i := 77) (by decide +kernel) (by decide +kernel)
theorem cw_X8_leave : cwOf m_X8_leave ∈ tblG := tG6 (i := 86) (by decide +kernel) (by decide +kernel)
theorem mk_X8_leave : MK m_X8_leave 2 := ⟨cw_X8_leave, tG1 (i := 9) (by decide +kernel) (by decide +kernel), rfl, by decide +kernel⟩
theorem im_X8_leave : Cond.instanceMethod (m_X8_leave.1) ∈ tblG := tG6 (i := 84) (by decide +kernel) (by decide +kernel)
theorem se_X8_leave : Cond.selects m_X8_leave.1.cls m_X8_leave.1 m_X8_leave.1 ∈ tblG := tG6 (i := 85) (by decide +kernel) (by decide +kernel)
theorem cw_X8_weeks : cwOf m_X8_weeks ∈ tblG := tG6 (i := 90) (by decide +kernel) (by decide +kernel)
theorem mk_X8_weeks : MK m_X8_weeks 1 := ⟨cw_X8_weeks, tG1 (i := 9) (by decide +kernel) (by decide +kernel), rfl, by decide +kernel⟩
theorem im_X8_weeks : Cond.instanceMethod (m_X8_weeks.1) ∈ tblG := tG6 (i := 88) (by decide +kernel) (by decide +kernel)
theorem se_X8_weeks : Cond.selects m_X8_weeks.1.cls m_X8_weeks.1 m_X8_weeks.1 ∈ tblG := tG6 (i := 89) (by decide +kernel) (by decide +kernel)
theorem cw_X8_tune : cwOf m_X8_tune ∈ tblG := tG6 (i := 94) (by decide +kernel) (by decide +kernel)
theorem mk_X8_tune : MK m_X8_tune 2 := ⟨cw_X8_tune, tG1 (i := 9) (by decide +kernel) (by decide +kernel), rfl, by decide +kernel⟩
theorem im_X8_tune : Cond.instanceMethod (m_X8_tune.1) ∈ tblG := tG6 (i := 92) (by decide +kernel) (by decide +kernel)
theorem se_X8_tune : Cond.selects m_X8_tune.1.cls m_X8_tune.1 m_X8_tune.1 ∈ tblG := tG6 (i := 93) (by decide +kernel) (by decide +kernel)
theorem cw_X8_undo : cwOf m_X8_undo ∈ tblG := tG6 (i := 98) (by decide +kernel) (by decide +kernel)
theorem mk_X8_undo : MK m_X8_undo 0 := ⟨cw_X8_undo, tG1 (i := 9) (by decide +kernel) (by decide +kernel), rfl, by decide +kernel⟩
theorem im_X8_undo : Cond.instanceMethod (m_X8_undo.1) ∈ tblG := tG6 (i := 96) (by decide +kernel) (by decide +kernel)
theorem se_X8_undo : Cond.selects m_X8_undo.1.cls m_X8_undo.1 m_X8_undo.1 ∈ tblG := tG6 (i := 97) (by decide +kernel) (by decide +kernel)
theorem cw_X8_why : cwOf m_X8_why ∈ tblG := tG6 (i := 102) (by decide +kernel) (by decide +kernel)
theorem mk_X8_why : MK m_X8_why 6 := ⟨cw_X8_why, tG1 (i := 9) (by decide +kernel) (by decide +kernel), rfl, by decide +kernel⟩
theorem im_X8_why : Cond.instanceMethod (m_X8_why.1) ∈ tblG := tG6 (i := 100) (by decide +kernel) (by decide +kernel)
theorem se_X8_why : Cond.selects m_X8_why.1.cls m_X8_why.1 m_X8_why.1 ∈ tblG := tG6 (i := 101) (by decide +kernel) (by decide +kernel)
theorem cw_X8_whySeat : cwOf m_X8_whySeat ∈ tblG := tG6 (i := 106) (by decide +kernel) (by decide +kernel)
theorem mk_X8_whySeat : MK m_X8_whySeat 2 := ⟨cw_X8_whySeat, tG1 (i := 9) (by decide +kernel) (by decide +kernel), rfl, by decide +kernel⟩
theorem im_X8_whySeat : Cond.instanceMethod (m_X8_whySeat.1) ∈ tblG := tG6 (i := 104) (by decide +kernel) (by decide +kernel)
theorem se_X8_whySeat : Cond.selects m_X8_whySeat.1.cls m_X8_whySeat.1 m_X8_whySeat.1 ∈ tblG := tG6 (i := 105) (by decide +kernel) (by decide +kernel)
theorem cw_X8_bestFloor : cwOf m_X8_bestFloor ∈ tblG := tG6 (i := 110) (by decide +kernel) (by decide +kernel)
theorem mk_X8_bestFloor : MK m_X8_bestFloor 5 := ⟨cw_X8_bestFloor, tG1 (i := 9) (by decide +kernel) (by decide +kernel), rfl, by decide +kernel⟩
theorem im_X8_bestFloor : Cond.instanceMethod (m_X8_bestFloor.1) ∈ tblG := tG6 (i := 108) (by decide +kernel) (by decide +kernel)
theorem se_X8_bestFloor : Cond.selects m_X8_bestFloor.1.cls m_X8_bestFloor.1 m_X8_bestFloor.1 ∈ tblG := tG6 (i := 109) (by decide +kernel) (by decide +kernel)
theorem cw_X8_emptyIn : cwOf m_X8_emptyIn ∈ tblG := tG6 (i := 114) (by decide +kernel) (by decide +kernel)
theorem mk_X8_emptyIn : MK m_X8_emptyIn 1 := ⟨cw_X8_emptyIn, tG1 (i := 9) (by decide +kernel) (by decide +kernel), rfl, by decide +kernel⟩
theorem im_X8_emptyIn : Cond.instanceMethod (m_X8_emptyIn.1) ∈ tblG := tG6 (i := 112) (by decide +kernel) (by decide +kernel)
theorem se_X8_emptyIn : Cond.selects m_X8_emptyIn.1.cls m_X8_emptyIn.1 m_X8_emptyIn.1 ∈ tblG := tG6 (i := 113) (by decide +kernel) (by decide +kernel)
theorem cw_X8_held : cwOf m_X8_held ∈ tblG := tG6 (i := 118) (by decide +kernel) (by decide +kernel)
theorem mk_X8_held : MK m_X8_held 0 := ⟨cw_X8_held, tG1 (i := 9) (by decide +kernel) (by decide +kernel), rfl, by decide +kernel⟩
theorem im_X8_held : Cond.instanceMethod (m_X8_held.1) ∈ tblG := tG6 (i := 116) (by decide +kernel) (by decide +kernel)
theorem se_X8_held : Cond.selects m_X8_held.1.cls m_X8_held.1 m_X8_held.1 ∈ tblG := tG6 (i := 117) (by decide +kernel) (by decide +kernel)
theorem cw_X8_isCommand : cwOf m_X8_isCommand ∈ tblG := tG6 (i := 132) (by decide +kernel) (by decide +kernel)
theorem mk_X8_isCommand : MK m_X8_isCommand 1 := ⟨cw_X8_isCommand, tG1 (i := 9) (by decide +kernel) (by decide +kernel), rfl, by decide +kernel⟩
theorem im_X8_isCommand : Cond.instanceMethod (m_X8_isCommand.1) ∈ tblG := tG6 (i := 131) (by decide +kernel) (by decide +kernel)
theorem se_X8_isCommand : Cond.selects m_X8_isCommand.1.cls m_X8_isCommand.1 m_X8_isCommand.1 ∈ tblG := tGs (i := 73) (by decide +kernel) (by decide +kernel)
theorem cw_X8_size : cwOf m_X8_size ∈ tblG := tG6 (i := 125) (by decide +kernel) (by decide +kernel)
theorem mk_X8_size : MK m_X8_size 1 := ⟨cw_X8_size, tG1 (i := 9) (by decide +kernel) (by decide +kernel), rfl, by decide +kernel⟩
theorem sm_X8_size : Cond.static (m_X8_size.1) ∈ tblG := tG6 (i := 124) (by decide +kernel) (by decide +kernel)
theorem cw_X8_runScript : cwOf m_X8_runScript ∈ tblG := tG6 (i := 122) (by decide +kernel) (by decide +kernel)
theorem mk_X8_runScript : MK m_X8_runScript 2 := ⟨cw_X8_runScript, tG1 (i := 9) (by decide +kernel) (by decide +kernel), rfl, by decide +kernel⟩
theorem im_X8_runScript : Cond.instanceMethod (m_X8_runScript.1) ∈ tblG := tG6 (i := 120) (by decide +kernel) (by decide +kernel)
theorem se_X8_runScript : Cond.selects m_X8_runScript.1.cls m_X8_runScript.1 m_X8_runScript.1 ∈ tblG := tG6 (i := 121) (by decide +kernel) (by decide +kernel)
theorem cw_X8_turns : cwOf m_X8_turns ∈ tblG := tG6 (i := 142) (by decide +kernel) (by decide +kernel)
theorem mk_X8_turns : MK m_X8_turns 2 := ⟨cw_X8_turns, tG1 (i := 9) (by decide +kernel) (by decide +kernel), rfl, by decide +kernel⟩
theorem im_X8_turns : Cond.instanceMethod (m_X8_turns.1) ∈ tblG := tG6 (i := 141) (by decide +kernel) (by decide +kernel)
theorem se_X8_turns : Cond.selects m_X8_turns.1.cls m_X8_turns.1 m_X8_turns.1 ∈ tblG := tGs (i := 74) (by decide +kernel) (by decide +kernel)
theorem cw_X8_dancersTurn : cwOf m_X8_dancersTurn ∈ tblG := tG6 (i := 146) (by decide +kernel) (by decide +kernel)
theorem mk_X8_dancersTurn : MK m_X8_dancersTurn 2 := ⟨cw_X8_dancersTurn, tG1 (i := 9) (by decide +kernel) (by decide +kernel), rfl, by decide +kernel⟩
theorem im_X8_dancersTurn : Cond.instanceMethod (m_X8_dancersTurn.1) ∈ tblG := tG6 (i := 145) (by decide +kernel) (by decide +kernel)
theorem se_X8_dancersTurn : Cond.selects m_X8_dancersTurn.1.cls m_X8_dancersTurn.1 m_X8_dancersTurn.1 ∈ tblG := tGs (i := 75) (by decide +kernel) (by decide +kernel)
theorem cw_X8_simulate : cwOf m_X8_simulate ∈ tblG := tG6 (i := 136) (by decide +kernel) (by decide +kernel)
theorem mk_X8_simulate : MK m_X8_simulate 2 := ⟨cw_X8_simulate, tG1 (i := 9) (by decide +kernel) (by decide +kernel), rfl, by decide +kernel⟩
theorem im_X8_simulate : Cond.instanceMethod (m_X8_simulate.1) ∈ tblG := tG6 (i := 134) (by decide +kernel) (by decide +kernel)
theorem se_X8_simulate : Cond.selects m_X8_simulate.1.cls m_X8_simulate.1 m_X8_simulate.1 ∈ tblG := tG6 (i := 135) (by decide +kernel) (by decide +kernel)
theorem cw_X8_save : cwOf m_X8_save ∈ tblG := tG6 (i := 150) (by decide +kernel) (by decide +kernel)
theorem mk_X8_save : MK m_X8_save 1 := ⟨cw_X8_save, tG1 (i := 9) (by decide +kernel) (by decide +kernel), rfl, by decide +kernel⟩
theorem im_X8_save : Cond.instanceMethod (m_X8_save.1) ∈ tblG := tG6 (i := 148) (by decide +kernel) (by decide +kernel)
theorem se_X8_save : Cond.selects m_X8_save.1.cls m_X8_save.1 m_X8_save.1 ∈ tblG := tG6 (i := 149) (by decide +kernel) (by decide +kernel)
theorem cw_X8_restore : cwOf m_X8_restore ∈ tblG := tG6 (i := 154) (by decide +kernel) (by decide +kernel)
theorem mk_X8_restore : MK m_X8_restore 1 := ⟨cw_X8_restore, tG1 (i := 9) (by decide +kernel) (by decide +kernel), rfl, by decide +kernel⟩
theorem im_X8_restore : Cond.instanceMethod (m_X8_restore.1) ∈ tblG := tG6 (i := 152) (by decide +kernel) (by decide +kernel)
theorem se_X8_restore : Cond.selects m_X8_restore.1.cls m_X8_restore.1 m_X8_restore.1 ∈ tblG := tG6 (i := 153) (by decide +kernel) (by decide +kernel)
theorem cw_J6_bitCount_0f7a4 : cwOf m_J6_bitCount_0f7a4 ∈ tblG := tG3 (i := 150) (by decide +kernel) (by decide +kernel)
theorem mk_J6_bitCount_0f7a4 : MK m_J6_bitCount_0f7a4 1 := ⟨cw_J6_bitCount_0f7a4, tG1 (i := 16) (by decide +kernel) (by decide +kernel), rfl, by decide +kernel⟩
theorem sm_J6_bitCount_0f7a4 : Cond.static (m_J6_bitCount_0f7a4.1) ∈ tblG := tG3 (i := 149) (by decide +kernel) (by decide +kernel)
theorem cw_J9_max_7cf53 : cwOf m_J9_max_7cf53 ∈ tblG := tG2 (i := 97) (by decide +kernel) (by decide +kernel)
theorem mk_J9_max_7cf53 : MK m_J9_max_7cf53 2 := ⟨cw_J9_max_7cf53, tG1 (i := 15) (by decide +kernel) (by decide +kernel), rfl, by decide +kernel⟩
theorem sm_J9_max_7cf53 : Cond.static (m_J9_max_7cf53.1) ∈ tblG := tG2 (i := 96) (by decide +kernel) (by decide +kernel)
theorem cw_J9_min_7cf53 : cwOf m_J9_min_7cf53 ∈ tblG := tG2 (i := 100) (by decide +kernel) (by decide +kernel)
theorem mk_J9_min_7cf53 : MK m_J9_min_7cf53 2 := ⟨cw_J9_min_7cf53, tG1 (i := 15) (by decide +kernel) (by decide +kernel), rfl, by decide +kernel⟩
theorem sm_J9_min_7cf53 : Cond.static (m_J9_min_7cf53.1) ∈ tblG := tG2 (i := 99) (by decide +kernel) (by decide +kernel)
theorem cw_L_append : cwOf m_L_append ∈ tblG := tG2 (i := 175) (by decide +kernel) (by decide +kernel)
theorem sm_L_append : Cond.static (m_L_append.1) ∈ tblG := tG2 (i := 174) (by decide +kernel) (by decide +kernel)
theorem cw_L_load : cwOf m_L_load ∈ tblG := tG3 (i := 39) (by decide +kernel) (by decide +kernel)
theorem sm_L_load : Cond.static (m_L_load.1) ∈ tblG := tG3 (i := 38) (by decide +kernel) (by decide +kernel)
theorem cw_L_about : cwOf m_L_about ∈ tblG := tG3 (i := 182) (by decide +kernel) (by decide +kernel)
theorem sm_L_about : Cond.static (m_L_about.1) ∈ tblG := tG3 (i := 181) (by decide +kernel) (by decide +kernel)
theorem cw_L_floorOf : cwOf m_L_floorOf ∈ tblG := tG3 (i := 210) (by decide +kernel) (by decide +kernel)
theorem sm_L_floorOf : Cond.static (m_L_floorOf.1) ∈ tblG := tG3 (i := 209) (by decide +kernel) (by decide +kernel)
theorem cw_L_teacherOf : cwOf m_L_teacherOf ∈ tblG := tG4 (i := 2) (by decide +kernel) (by decide +kernel)
theorem sm_L_teacherOf : Cond.static (m_L_teacherOf.1) ∈ tblG := tG4 (i := 1) (by decide +kernel) (by decide +kernel)
theorem cw_L_classOf : cwOf m_L_classOf ∈ tblG := tG4 (i := 19) (by decide +kernel) (by decide +kernel)
theorem sm_L_classOf : Cond.static (m_L_classOf.1) ∈ tblG := tG4 (i := 18) (by decide +kernel) (by decide +kernel)
theorem cw_L_dancerOf : cwOf m_L_dancerOf ∈ tblG := tG4 (i := 29) (by decide +kernel) (by decide +kernel)
theorem sm_L_dancerOf : Cond.static (m_L_dancerOf.1) ∈ tblG := tG4 (i := 28) (by decide +kernel) (by decide +kernel)
theorem cw_L_uses : cwOf m_L_uses ∈ tblG := tG4 (i := 42) (by decide +kernel) (by decide +kernel)
theorem sm_L_uses : Cond.static (m_L_uses.1) ∈ tblG := tG4 (i := 41) (by decide +kernel) (by decide +kernel)
theorem cw_L_setting : cwOf m_L_setting ∈ tblG := tG4 (i := 53) (by decide +kernel) (by decide +kernel)
theorem sm_L_setting : Cond.static (m_L_setting.1) ∈ tblG := tG4 (i := 52) (by decide +kernel) (by decide +kernel)
theorem cw_L_floor : cwOf m_L_floor ∈ tblG := tG4 (i := 60) (by decide +kernel) (by decide +kernel)
theorem sm_L_floor : Cond.static (m_L_floor.1) ∈ tblG := tG4 (i := 59) (by decide +kernel) (by decide +kernel)
theorem cw_L_teacher : cwOf m_L_teacher ∈ tblG := tG4 (i := 72) (by decide +kernel) (by decide +kernel)
theorem sm_L_teacher : Cond.static (m_L_teacher.1) ∈ tblG := tG4 (i := 71) (by decide +kernel) (by decide +kernel)
theorem cw_L_set : cwOf m_L_set ∈ tblG := tG4 (i := 79) (by decide +kernel) (by decide +kernel)
theorem sm_L_set : Cond.static (m_L_set.1) ∈ tblG := tG4 (i := 78) (by decide +kernel) (by decide +kernel)
theorem cw_L_drop : cwOf m_L_drop ∈ tblG := tG4 (i := 93) (by decide +kernel) (by decide +kernel)
theorem sm_L_drop : Cond.static (m_L_drop.1) ∈ tblG := tG4 (i := 92) (by decide +kernel) (by decide +kernel)
theorem cw_L_dancer : cwOf m_L_dancer ∈ tblG := tG4 (i := 100) (by decide +kernel) (by decide +kernel)
theorem sm_L_dancer : Cond.static (m_L_dancer.1) ∈ tblG := tG4 (i := 99) (by decide +kernel) (by decide +kernel)
theorem cw_L_pass : cwOf m_L_pass ∈ tblG := tG4 (i := 107) (by decide +kernel) (by decide +kernel)
theorem sm_L_pass : Cond.static (m_L_pass.1) ∈ tblG := tG4 (i := 106) (by decide +kernel) (by decide +kernel)
theorem cw_L_enter : cwOf m_L_enter ∈ tblG := tG4 (i := 115) (by decide +kernel) (by decide +kernel)
theorem sm_L_enter : Cond.static (m_L_enter.1) ∈ tblG := tG4 (i := 114) (by decide +kernel) (by decide +kernel)
theorem cw_L_leave : cwOf m_L_leave ∈ tblG := tG4 (i := 122) (by decide +kernel) (by decide +kernel)
theorem sm_L_leave : Cond.static (m_L_leave.1) ∈ tblG := tG4 (i := 121) (by decide +kernel) (by decide +kernel)
theorem cw_L_weeks : cwOf m_L_weeks ∈ tblG := tG4 (i := 130) (by decide +kernel) (by decide +kernel)
theorem sm_L_weeks : Cond.static (m_L_weeks.1) ∈ tblG := tG4 (i := 129) (by decide +kernel) (by decide +kernel)
theorem cw_L_tune : cwOf m_L_tune ∈ tblG := tG4 (i := 137) (by decide +kernel) (by decide +kernel)
theorem sm_L_tune : Cond.static (m_L_tune.1) ∈ tblG := tG4 (i := 136) (by decide +kernel) (by decide +kernel)
theorem cw_L_undo : cwOf m_L_undo ∈ tblG := tG4 (i := 144) (by decide +kernel) (by decide +kernel)
theorem sm_L_undo : Cond.static (m_L_undo.1) ∈ tblG := tG4 (i := 143) (by decide +kernel) (by decide +kernel)
theorem cw_L_why : cwOf m_L_why ∈ tblG := tG4 (i := 155) (by decide +kernel) (by decide +kernel)
theorem sm_L_why : Cond.static (m_L_why.1) ∈ tblG := tG4 (i := 154) (by decide +kernel) (by decide +kernel)
theorem cw_L_whySeat : cwOf m_L_whySeat ∈ tblG := tG4 (i := 163) (by decide +kernel) (by decide +kernel)
theorem sm_L_whySeat : Cond.static (m_L_whySeat.1) ∈ tblG := tG4 (i := 162) (by decide +kernel) (by decide +kernel)
theorem cw_L_bestFloor : cwOf m_L_bestFloor ∈ tblG := tG4 (i := 171) (by decide +kernel) (by decide +kernel)
theorem sm_L_bestFloor : Cond.static (m_L_bestFloor.1) ∈ tblG := tG4 (i := 170) (by decide +kernel) (by decide +kernel)
theorem cw_L_emptyIn : cwOf m_L_emptyIn ∈ tblG := tG4 (i := 182) (by decide +kernel) (by decide +kernel)
theorem sm_L_emptyIn : Cond.static (m_L_emptyIn.1) ∈ tblG := tG4 (i := 181) (by decide +kernel) (by decide +kernel)
theorem cw_L_runScript : cwOf m_L_runScript ∈ tblG := tG4 (i := 189) (by decide +kernel) (by decide +kernel)
theorem sm_L_runScript : Cond.static (m_L_runScript.1) ∈ tblG := tG4 (i := 188) (by decide +kernel) (by decide +kernel)
theorem cw_L_simulate : cwOf m_L_simulate ∈ tblG := tG4 (i := 204) (by decide +kernel) (by decide +kernel)
theorem sm_L_simulate : Cond.static (m_L_simulate.1) ∈ tblG := tG4 (i := 203) (by decide +kernel) (by decide +kernel)
theorem cw_L_save : cwOf m_L_save ∈ tblG := tG4 (i := 221) (by decide +kernel) (by decide +kernel)
theorem sm_L_save : Cond.static (m_L_save.1) ∈ tblG := tG4 (i := 220) (by decide +kernel) (by decide +kernel)
theorem cw_L_restore : cwOf m_L_restore ∈ tblG := tG4 (i := 228) (by decide +kernel) (by decide +kernel)
theorem sm_L_restore : Cond.static (m_L_restore.1) ∈ tblG := tG4 (i := 227) (by decide +kernel) (by decide +kernel)
theorem ml_L_7 : Cond.methodLink RL 7 (m_X7_append.1) ∈ tblG := tG2 (i := 178) (by decide +kernel) (by decide +kernel)
theorem ml_L_17 : Cond.methodLink RL 17 (m_X7_load.1) ∈ tblG := tG3 (i := 40) (by decide +kernel) (by decide +kernel)
theorem ml_L_21 : Cond.methodLink RL 21 (m_X7_about.1) ∈ tblG := tG3 (i := 183) (by decide +kernel) (by decide +kernel)
theorem ml_L_24 : Cond.methodLink RL 24 (m_X7_floorOf.1) ∈ tblG := tG3 (i := 212) (by decide +kernel) (by decide +kernel)
theorem ml_L_30 : Cond.methodLink RL 30 (m_X7_teacherOf.1) ∈ tblG := tG4 (i := 3) (by decide +kernel) (by decide +kernel)
theorem ml_L_33 : Cond.methodLink RL 33 (m_X7_classOf.1) ∈ tblG := tG4 (i := 20) (by decide +kernel) (by decide +kernel)
theorem ml_L_36 : Cond.methodLink RL 36 (m_X7_dancerOf.1) ∈ tblG := tG4 (i := 30) (by decide +kernel) (by decide +kernel)
theorem ml_L_39 : Cond.methodLink RL 39 (m_X7_uses.1) ∈ tblG := tG4 (i := 43) (by decide +kernel) (by decide +kernel)
theorem ml_L_42 : Cond.methodLink RL 42 (m_X7_setting.1) ∈ tblG := tG4 (i := 54) (by decide +kernel) (by decide +kernel)
theorem ml_L_45 : Cond.methodLink RL 45 (m_X7_floor.1) ∈ tblG := tG4 (i := 61) (by decide +kernel) (by decide +kernel)
theorem ml_L_49 : Cond.methodLink RL 49 (m_X7_teacher.1) ∈ tblG := tG4 (i := 73) (by decide +kernel) (by decide +kernel)
theorem ml_L_52 : Cond.methodLink RL 52 (m_X7_set.1) ∈ tblG := tG4 (i := 80) (by decide +kernel) (by decide +kernel)
theorem ml_L_56 : Cond.methodLink RL 56 (m_X7_drop.1) ∈ tblG := tG4 (i := 94) (by decide +kernel) (by decide +kernel)
theorem ml_L_59 : Cond.methodLink RL 59 (m_X7_dancer.1) ∈ tblG := tG4 (i := 101) (by decide +kernel) (by decide +kernel)
theorem ml_L_62 : Cond.methodLink RL 62 (m_X7_pass.1) ∈ tblG := tG4 (i := 108) (by decide +kernel) (by decide +kernel)
theorem ml_L_65 : Cond.methodLink RL 65 (m_X7_enter.1) ∈ tblG := tG4 (i := 116) (by decide +kernel) (by decide +kernel)
theorem ml_L_68 : Cond.methodLink RL 68 (m_X7_leave.1) ∈ tblG := tG4 (i := 123) (by decide +kernel) (by decide +kernel)
theorem ml_L_71 : Cond.methodLink RL 71 (m_X7_weeks.1) ∈ tblG := tG4 (i := 131) (by decide +kernel) (by decide +kernel)
theorem ml_L_74 : Cond.methodLink RL 74 (m_X7_tune.1) ∈ tblG := tG4 (i := 138) (by decide +kernel) (by decide +kernel)
theorem ml_L_77 : Cond.methodLink RL 77 (m_X7_undo.1) ∈ tblG := tG4 (i := 145) (by decide +kernel) (by decide +kernel)
theorem ml_L_80 : Cond.methodLink RL 80 (m_X7_why.1) ∈ tblG := tG4 (i := 156) (by decide +kernel) (by decide +kernel)
theorem ml_L_83 : Cond.methodLink RL 83 (m_X7_whySeat.1) ∈ tblG := tG4 (i := 164) (by decide +kernel) (by decide +kernel)
theorem ml_L_86 : Cond.methodLink RL 86 (m_X7_bestFloor.1) ∈ tblG := tG4 (i := 172) (by decide +kernel) (by decide +kernel)
theorem ml_L_90 : Cond.methodLink RL 90 (m_X7_emptyIn.1) ∈ tblG := tG4 (i := 183) (by decide +kernel) (by decide +kernel)
theorem ml_L_93 : Cond.methodLink RL 93 (m_X7_runScript.1) ∈ tblG := tG4 (i := 190) (by decide +kernel) (by decide +kernel)
theorem ml_L_97 : Cond.methodLink RL 97 (m_X7_simulate.1) ∈ tblG := tG4 (i := 205) (by decide +kernel) (by decide +kernel)
theorem ml_L_101 : Cond.methodLink RL 101 (m_X7_save.1) ∈ tblG := tG4 (i := 222) (by decide +kernel) (by decide +kernel)
theorem ml_L_104 : Cond.methodLink RL 104 (m_X7_restore.1) ∈ tblG := tG4 (i := 229) (by decide +kernel) (by decide +kernel)
theorem ml_L_107 : Cond.methodLink RL 107 (m_X7_init.1) ∈ tblG := tG1 (i := 20) (by decide +kernel) (by decide +kernel)
theorem ml_L_110 : Cond.methodLink RL 110 (m_X8_init.1) ∈ tblG := tG4 (i := 235) (by decide +kernel) (by decide +kernel)
theorem ml_L_111 : Cond.methodLink RL 111 (m_L_append.1) ∈ tblG := tG2 (i := 173) (by decide +kernel) (by decide +kernel)
theorem ml_L_116 : Cond.methodLink RL 116 (m_X8_append.1) ∈ tblG := tG5 (i := 35) (by decide +kernel) (by decide +kernel)
theorem ml_L_117 : Cond.methodLink RL 117 (m_X8_thrown.1) ∈ tblG := tG5 (i := 31) (by decide +kernel) (by decide +kernel)
theorem ml_L_120 : Cond.methodLink RL 120 (m_X7_clearText.1) ∈ tblG := tG2 (i := 48) (by decide +kernel) (by decide +kernel)
theorem ml_L_123 : Cond.methodLink RL 123 (m_X8_clearText.1) ∈ tblG := tG5 (i := 46) (by decide +kernel) (by decide +kernel)
theorem ml_L_124 : Cond.methodLink RL 124 (m_X7_errorPosition.1) ∈ tblG := tG2 (i := 56) (by decide +kernel) (by decide +kernel)
theorem ml_L_127 : Cond.methodLink RL 127 (m_X8_errorPosition.1) ∈ tblG := tG5 (i := 50) (by decide +kernel) (by decide +kernel)
theorem ml_L_128 : Cond.methodLink RL 128 (m_L_load.1) ∈ tblG := tG3 (i := 37) (by decide +kernel) (by decide +kernel)
theorem ml_L_131 : Cond.methodLink RL 131 (m_X8_load.1) ∈ tblG := tG5 (i := 82) (by decide +kernel) (by decide +kernel)
theorem ml_L_132 : Cond.methodLink RL 132 (m_L_about.1) ∈ tblG := tG3 (i := 180) (by decide +kernel) (by decide +kernel)
theorem ml_L_134 : Cond.methodLink RL 134 (m_X8_about.1) ∈ tblG := tG5 (i := 221) (by decide +kernel) (by decide +kernel)
theorem ml_L_135 : Cond.methodLink RL 135 (m_L_floorOf.1) ∈ tblG := tG3 (i := 208) (by decide +kernel) (by decide +kernel)
theorem ml_L_138 : Cond.methodLink RL 138 (m_X8_floorOf.1) ∈ tblG := tG5 (i := 237) (by decide +kernel) (by decide +kernel)
theorem ml_L_139 : Cond.methodLink RL 139 (m_L_teacherOf.1) ∈ tblG := tG4 (i := 0) (by decide +kernel) (by decide +kernel)
theorem ml_L_141 : Cond.methodLink RL 141 (m_X8_teacherOf.1) ∈ tblG := tG6 (i := 5) (by decide +kernel) (by decide +kernel)
theorem ml_L_142 : Cond.methodLink RL 142 (m_L_classOf.1) ∈ tblG := tG4 (i := 17) (by decide +kernel) (by decide +kernel)
theorem ml_L_144 : Cond.methodLink RL 144 (m_X8_classOf.1) ∈ tblG := tG6 (i := 13) (by decide +kernel) (by decide +kernel)
theorem ml_L_145 : Cond.methodLink RL 145 (m_L_dancerOf.1) ∈ tblG := tG4 (i := 27) (by decide +kernel) (by decide +kernel)
theorem ml_L_147 : Cond.methodLink RL 147 (m_X8_dancerOf.1) ∈ tblG := tG6 (i := 17) (by decide +kernel) (by decide +kernel)
theorem ml_L_148 : Cond.methodLink RL 148 (m_L_uses.1) ∈ tblG := tG4 (i := 40) (by decide +kernel) (by decide +kernel)
theorem ml_L_150 : Cond.methodLink RL 150 (m_X8_uses.1) ∈ tblG := tG6 (i := 25) (by decide +kernel) (by decide +kernel)
theorem ml_L_151 : Cond.methodLink RL 151 (m_L_setting.1) ∈ tblG := tG4 (i := 51) (by decide +kernel) (by decide +kernel)
theorem ml_L_153 : Cond.methodLink RL 153 (m_X8_setting.1) ∈ tblG := tG6 (i := 29) (by decide +kernel) (by decide +kernel)
theorem ml_L_154 : Cond.methodLink RL 154 (m_L_floor.1) ∈ tblG := tG4 (i := 58) (by decide +kernel) (by decide +kernel)
theorem ml_L_157 : Cond.methodLink RL 157 (m_X8_floor.1) ∈ tblG := tG6 (i := 33) (by decide +kernel) (by decide +kernel)
theorem ml_L_158 : Cond.methodLink RL 158 (m_L_teacher.1) ∈ tblG := tG4 (i := 70) (by decide +kernel) (by decide +kernel)
theorem ml_L_160 : Cond.methodLink RL 160 (m_X8_teacher.1) ∈ tblG := tG6 (i := 48) (by decide +kernel) (by decide +kernel)
theorem ml_L_161 : Cond.methodLink RL 161 (m_L_set.1) ∈ tblG := tG4 (i := 77) (by decide +kernel) (by decide +kernel)
theorem ml_L_164 : Cond.methodLink RL 164 (m_X8_set.1) ∈ tblG := tG6 (i := 52) (by decide +kernel) (by decide +kernel)
theorem ml_L_165 : Cond.methodLink RL 165 (m_L_drop.1) ∈ tblG := tG4 (i := 91) (by decide +kernel) (by decide +kernel)
theorem ml_L_167 : Cond.methodLink RL 167 (m_X8_drop.1) ∈ tblG := tG6 (i := 63) (by decide +kernel) (by decide +kernel)
theorem ml_L_168 : Cond.methodLink RL 168 (m_L_dancer.1) ∈ tblG := tG4 (i := 98) (by decide +kernel) (by decide +kernel)
theorem ml_L_170 : Cond.methodLink RL 170 (m_X8_dancer.1) ∈ tblG := tG6 (i := 67) (by decide +kernel) (by decide +kernel)
theorem ml_L_171 : Cond.methodLink RL 171 (m_L_pass.1) ∈ tblG := tG4 (i := 105) (by decide +kernel) (by decide +kernel)
theorem ml_L_173 : Cond.methodLink RL 173 (m_X8_pass.1) ∈ tblG := tG6 (i := 71) (by decide +kernel) (by decide +kernel)
theorem ml_L_174 : Cond.methodLink RL 174 (m_L_enter.1) ∈ tblG := tG4 (i := 113) (by decide +kernel) (by decide +kernel)
theorem ml_L_176 : Cond.methodLink RL 176 (m_X8_enter.1) ∈ tblG := tG6 (i := 75) (by decide +kernel) (by decide +kernel)
theorem ml_L_177 : Cond.methodLink RL 177 (m_L_leave.1) ∈ tblG := tG4 (i := 120) (by decide +kernel) (by decide +kernel)
theorem ml_L_179 : Cond.methodLink RL 179 (m_X8_leave.1) ∈ tblG := tG6 (i := 83) (by decide +kernel) (by decide +kernel)
theorem ml_L_180 : Cond.methodLink RL 180 (m_L_weeks.1) ∈ tblG := tG4 (i := 128) (by decide +kernel) (by decide +kernel)
theorem ml_L_182 : Cond.methodLink RL 182 (m_X8_weeks.1) ∈ tblG := tG6 (i := 87) (by decide +kernel) (by decide +kernel)
theorem ml_L_183 : Cond.methodLink RL 183 (m_L_tune.1) ∈ tblG := tG4 (i := 135) (by decide +kernel) (by decide +kernel)
theorem ml_L_185 : Cond.methodLink RL 185 (m_X8_tune.1) ∈ tblG := tG6 (i := 91) (by decide +kernel) (by decide +kernel)
theorem ml_L_186 : Cond.methodLink RL 186 (m_L_undo.1) ∈ tblG := tG4 (i := 142) (by decide +kernel) (by decide +kernel)
theorem ml_L_188 : Cond.methodLink RL 188 (m_X8_undo.1) ∈ tblG := tG6 (i := 95) (by decide +kernel) (by decide +kernel)
theorem ml_L_189 : Cond.methodLink RL 189 (m_L_why.1) ∈ tblG := tG4 (i := 153) (by decide +kernel) (by decide +kernel)
theorem ml_L_191 : Cond.methodLink RL 191 (m_X8_why.1) ∈ tblG := tG6 (i := 99) (by decide +kernel) (by decide +kernel)
theorem ml_L_192 : Cond.methodLink RL 192 (m_L_whySeat.1) ∈ tblG := tG4 (i := 161) (by decide +kernel) (by decide +kernel)
theorem ml_L_194 : Cond.methodLink RL 194 (m_X8_whySeat.1) ∈ tblG := tG6 (i := 103) (by decide +kernel) (by decide +kernel)
theorem ml_L_195 : Cond.methodLink RL 195 (m_L_bestFloor.1) ∈ tblG := tG4 (i := 169) (by decide +kernel) (by decide +kernel)
theorem ml_L_198 : Cond.methodLink RL 198 (m_X8_bestFloor.1) ∈ tblG := tG6 (i := 107) (by decide +kernel) (by decide +kernel)
theorem ml_L_199 : Cond.methodLink RL 199 (m_L_emptyIn.1) ∈ tblG := tG4 (i := 180) (by decide +kernel) (by decide +kernel)
theorem ml_L_201 : Cond.methodLink RL 201 (m_X8_emptyIn.1) ∈ tblG := tG6 (i := 111) (by decide +kernel) (by decide +kernel)
theorem ml_L_202 : Cond.methodLink RL 202 (m_X7_held.1) ∈ tblG := tG2 (i := 117) (by decide +kernel) (by decide +kernel)
theorem ml_L_205 : Cond.methodLink RL 205 (m_X8_held.1) ∈ tblG := tG6 (i := 115) (by decide +kernel) (by decide +kernel)
theorem ml_L_208 : Cond.methodLink RL 208 (m_L_runScript.1) ∈ tblG := tG4 (i := 187) (by decide +kernel) (by decide +kernel)
theorem ml_L_211 : Cond.methodLink RL 211 (m_X8_runScript.1) ∈ tblG := tG6 (i := 119) (by decide +kernel) (by decide +kernel)
theorem ml_L_212 : Cond.methodLink RL 212 (m_L_simulate.1) ∈ tblG := tG4 (i := 202) (by decide +kernel) (by decide +kernel)
theorem ml_L_215 : Cond.methodLink RL 215 (m_X8_simulate.1) ∈ tblG := tG6 (i := 133) (by decide +kernel) (by decide +kernel)
theorem ml_L_216 : Cond.methodLink RL 216 (m_L_save.1) ∈ tblG := tG4 (i := 219) (by decide +kernel) (by decide +kernel)
theorem ml_L_218 : Cond.methodLink RL 218 (m_X8_save.1) ∈ tblG := tG6 (i := 147) (by decide +kernel) (by decide +kernel)
theorem ml_L_219 : Cond.methodLink RL 219 (m_L_restore.1) ∈ tblG := tG4 (i := 226) (by decide +kernel) (by decide +kernel)
theorem ml_L_221 : Cond.methodLink RL 221 (m_X8_restore.1) ∈ tblG := tG6 (i := 151) (by decide +kernel) (by decide +kernel)
theorem ml_X0_3 : Cond.methodLink RX0 3 Lib.objectInit ∈ tblG := tG1 (i := 166) (by decide +kernel) (by decide +kernel)
theorem ml_X1_3 : Cond.methodLink RX1 3 Lib.objectInit ∈ tblG := tG1 (i := 68) (by decide +kernel) (by decide +kernel)
theorem ml_X1_24 : Cond.methodLink RX1 24 (m_J9_min_7cf53.1) ∈ tblG := tG3 (i := 162) (by decide +kernel) (by decide +kernel)
theorem ml_X2_3 : Cond.methodLink RX2 3 Lib.objectInit ∈ tblG := tG2 (i := 13) (by decide +kernel) (by decide +kernel)
theorem ml_X2_17 : Cond.methodLink RX2 17 (m_X4_init.1) ∈ tblG := tG2 (i := 16) (by decide +kernel) (by decide +kernel)
theorem ml_X2_25 : Cond.methodLink RX2 25 (m_X4_copyFrom.1) ∈ tblG := tG4 (i := 69) (by decide +kernel) (by decide +kernel)
theorem ml_X3_1 : Cond.methodLink RX3 1 Lib.objectInit ∈ tblG := tG1 (i := 114) (by decide +kernel) (by decide +kernel)
theorem ml_X3_37 : Cond.methodLink RX3 37 (m_J6_bitCount_0f7a4.1) ∈ tblG := tG3 (i := 148) (by decide +kernel) (by decide +kernel)
theorem ml_X4_3 : Cond.methodLink RX4 3 Lib.objectInit ∈ tblG := tG1 (i := 61) (by decide +kernel) (by decide +kernel)
theorem ml_X4_43 : Cond.methodLink RX4 43 (m_X4_makeNew.1) ∈ tblG := tG1 (i := 188) (by decide +kernel) (by decide +kernel)
theorem ml_X4_74 : Cond.methodLink RX4 74 (m_X4_copyRowsFrom.1) ∈ tblG := tG2 (i := 125) (by decide +kernel) (by decide +kernel)
theorem ml_X4_78 : Cond.methodLink RX4 78 (m_X1_copyFrom.1) ∈ tblG := tG2 (i := 129) (by decide +kernel) (by decide +kernel)
theorem ml_X4_82 : Cond.methodLink RX4 82 (m_X5_copyFrom.1) ∈ tblG := tG2 (i := 133) (by decide +kernel) (by decide +kernel)
theorem ml_X4_85 : Cond.methodLink RX4 85 (m_X3_copyFrom.1) ∈ tblG := tG2 (i := 137) (by decide +kernel) (by decide +kernel)
theorem ml_X4_88 : Cond.methodLink RX4 88 (m_X0_copyFrom.1) ∈ tblG := tG2 (i := 141) (by decide +kernel) (by decide +kernel)
theorem ml_X4_91 : Cond.methodLink RX4 91 (m_X4_hasDancer.1) ∈ tblG := tG3 (i := 124) (by decide +kernel) (by decide +kernel)
theorem ml_X4_95 : Cond.methodLink RX4 95 (m_X4_hasLesson.1) ∈ tblG := tG3 (i := 132) (by decide +kernel) (by decide +kernel)
theorem ml_X4_98 : Cond.methodLink RX4 98 (m_X3_seatsDancer.1) ∈ tblG := tG2 (i := 161) (by decide +kernel) (by decide +kernel)
theorem ml_X4_131 : Cond.methodLink RX4 131 (m_X4_hasFloor.1) ∈ tblG := tG3 (i := 72) (by decide +kernel) (by decide +kernel)
theorem ml_X4_134 : Cond.methodLink RX4 134 (m_X4_hasTeacher.1) ∈ tblG := tG3 (i := 76) (by decide +kernel) (by decide +kernel)
theorem ml_X4_137 : Cond.methodLink RX4 137 (m_X4_reasonAgainstLesson.1) ∈ tblG := tG3 (i := 80) (by decide +kernel) (by decide +kernel)
theorem ml_X4_166 : Cond.methodLink RX4 166 (m_X3_countSeats.1) ∈ tblG := tG3 (i := 144) (by decide +kernel) (by decide +kernel)
theorem ml_X4_170 : Cond.methodLink RX4 170 (m_X4_mayHavePass.1) ∈ tblG := tG3 (i := 120) (by decide +kernel) (by decide +kernel)
theorem ml_X4_173 : Cond.methodLink RX4 173 (m_X4_reasonAgainstSeat.1) ∈ tblG := tG3 (i := 136) (by decide +kernel) (by decide +kernel)
theorem ml_X4_177 : Cond.methodLink RX4 177 (m_X4_hasSeat.1) ∈ tblG := tG3 (i := 167) (by decide +kernel) (by decide +kernel)
theorem ml_X4_181 : Cond.methodLink RX4 181 (m_X4_isFloorInUse.1) ∈ tblG := tG3 (i := 84) (by decide +kernel) (by decide +kernel)
theorem ml_X4_185 : Cond.methodLink RX4 185 (m_X4_isTeacherInUse.1) ∈ tblG := tG3 (i := 92) (by decide +kernel) (by decide +kernel)
theorem ml_X4_188 : Cond.methodLink RX4 188 (m_X5_teaches.1) ∈ tblG := tG3 (i := 96) (by decide +kernel) (by decide +kernel)
theorem ml_X4_191 : Cond.methodLink RX4 191 (m_X1_hasSpringFor.1) ∈ tblG := tG3 (i := 100) (by decide +kernel) (by decide +kernel)
theorem ml_X4_194 : Cond.methodLink RX4 194 (m_X1_hasBarreFor.1) ∈ tblG := tG3 (i := 104) (by decide +kernel) (by decide +kernel)
theorem ml_X4_197 : Cond.methodLink RX4 197 (m_X1_hasMirrorsFor.1) ∈ tblG := tG3 (i := 108) (by decide +kernel) (by decide +kernel)
theorem ml_X4_200 : Cond.methodLink RX4 200 (m_X3_isAt.1) ∈ tblG := tG3 (i := 88) (by decide +kernel) (by decide +kernel)
theorem ml_X4_203 : Cond.methodLink RX4 203 (m_X4_isDancerSeatedAt.1) ∈ tblG := tG3 (i := 140) (by decide +kernel) (by decide +kernel)
theorem ml_X4_206 : Cond.methodLink RX4 206 (m_X4_roomIn.1) ∈ tblG := tG3 (i := 154) (by decide +kernel) (by decide +kernel)
theorem ml_X4_210 : Cond.methodLink RX4 210 (m_X1_roomFor.1) ∈ tblG := tG3 (i := 158) (by decide +kernel) (by decide +kernel)
theorem ml_X4_214 : Cond.methodLink RX4 214 (m_X4_passWeek.1) ∈ tblG := tG3 (i := 179) (by decide +kernel) (by decide +kernel)
theorem ml_X4_217 : Cond.methodLink RX4 217 (m_X4_holdLesson.1) ∈ tblG := tG2 (i := 149) (by decide +kernel) (by decide +kernel)
theorem ml_X4_220 : Cond.methodLink RX4 220 (m_X0_riseWith.1) ∈ tblG := tG2 (i := 169) (by decide +kernel) (by decide +kernel)
theorem ml_X4_224 : Cond.methodLink RX4 224 (m_X4_countComers.1) ∈ tblG := tG2 (i := 153) (by decide +kernel) (by decide +kernel)
theorem ml_X4_227 : Cond.methodLink RX4 227 (m_X4_comes.1) ∈ tblG := tG2 (i := 157) (by decide +kernel) (by decide +kernel)
theorem ml_X4_231 : Cond.methodLink RX4 231 (m_X0_dance.1) ∈ tblG := tG2 (i := 165) (by decide +kernel) (by decide +kernel)
theorem ml_X4_234 : Cond.methodLink RX4 234 (m_J6_bitCount_0f7a4.1) ∈ tblG := tG4 (i := 16) (by decide +kernel) (by decide +kernel)
theorem ml_X4_239 : Cond.methodLink RX4 239 (m_X0_usesSoFar.1) ∈ tblG := tG3 (i := 199) (by decide +kernel) (by decide +kernel)
theorem ml_X5_1 : Cond.methodLink RX5 1 Lib.objectInit ∈ tblG := tG1 (i := 96) (by decide +kernel) (by decide +kernel)
theorem ml_X6_3 : Cond.methodLink RX6 3 Lib.objectInit ∈ tblG := tG1 (i := 31) (by decide +kernel) (by decide +kernel)
theorem ml_X6_23 : Cond.methodLink RX6 23 (m_X6_readStart.1) ∈ tblG := tG2 (i := 64) (by decide +kernel) (by decide +kernel)
theorem ml_X6_30 : Cond.methodLink RX6 30 (m_X6_hasMore.1) ∈ tblG := tG2 (i := 68) (by decide +kernel) (by decide +kernel)
theorem ml_X6_33 : Cond.methodLink RX6 33 (m_X6_readCommand.1) ∈ tblG := tG2 (i := 72) (by decide +kernel) (by decide +kernel)
theorem ml_X6_43 : Cond.methodLink RX6 43 (m_X6_readDigit.1) ∈ tblG := tG2 (i := 76) (by decide +kernel) (by decide +kernel)
theorem ml_X6_47 : Cond.methodLink RX6 47 (m_X6_readTwoDigits.1) ∈ tblG := tG2 (i := 91) (by decide +kernel) (by decide +kernel)
theorem ml_X6_50 : Cond.methodLink RX6 50 (m_X6_readKind.1) ∈ tblG := tG2 (i := 101) (by decide +kernel) (by decide +kernel)
theorem ml_X6_53 : Cond.methodLink RX6 53 (m_X6_readPlace.1) ∈ tblG := tG2 (i := 105) (by decide +kernel) (by decide +kernel)
theorem ml_X6_56 : Cond.methodLink RX6 56 (m_X6_readDancer.1) ∈ tblG := tG2 (i := 109) (by decide +kernel) (by decide +kernel)
theorem ml_X6_59 : Cond.methodLink RX6 59 (m_X6_readLesson.1) ∈ tblG := tG2 (i := 113) (by decide +kernel) (by decide +kernel)
theorem ml_X6_62 : Cond.methodLink RX6 62 (m_X6_digitWithin.1) ∈ tblG := tG2 (i := 80) (by decide +kernel) (by decide +kernel)
theorem ml_X6_66 : Cond.methodLink RX6 66 (m_X6_keepNumber.1) ∈ tblG := tG2 (i := 87) (by decide +kernel) (by decide +kernel)
theorem ml_X6_70 : Cond.methodLink RX6 70 (m_J9_max_7cf53.1) ∈ tblG := tG2 (i := 95) (by decide +kernel) (by decide +kernel)
theorem ml_X6_75 : Cond.methodLink RX6 75 (m_J9_min_7cf53.1) ∈ tblG := tG2 (i := 98) (by decide +kernel) (by decide +kernel)
theorem ml_X7_1 : Cond.methodLink RX7 1 Lib.objectInit ∈ tblG := tG1 (i := 23) (by decide +kernel) (by decide +kernel)
theorem ml_X7_9 : Cond.methodLink RX7 9 (m_X6_init.1) ∈ tblG := tG1 (i := 28) (by decide +kernel) (by decide +kernel)
theorem ml_X7_18 : Cond.methodLink RX7 18 (m_X4_init.1) ∈ tblG := tG1 (i := 58) (by decide +kernel) (by decide +kernel)
theorem ml_X7_28 : Cond.methodLink RX7 28 (m_X2_init.1) ∈ tblG := tG2 (i := 10) (by decide +kernel) (by decide +kernel)
theorem ml_X7_41 : Cond.methodLink RX7 41 (m_X7_isWithin.1) ∈ tblG := tG2 (i := 182) (by decide +kernel) (by decide +kernel)
theorem ml_X7_45 : Cond.methodLink RX7 45 (m_X7_requireArgument.1) ∈ tblG := tG2 (i := 183) (by decide +kernel) (by decide +kernel)
theorem ml_X7_53 : Cond.methodLink RX7 53 (m_X7_requireState.1) ∈ tblG := tG3 (i := 14) (by decide +kernel) (by decide +kernel)
theorem ml_X7_56 : Cond.methodLink RX7 56 (m_X6_addSign.1) ∈ tblG := tG3 (i := 33) (by decide +kernel) (by decide +kernel)
theorem ml_X7_60 : Cond.methodLink RX7 60 (m_X6_makeEmpty.1) ∈ tblG := tG2 (i := 52) (by decide +kernel) (by decide +kernel)
theorem ml_X7_64 : Cond.methodLink RX7 64 (m_X6_findError.1) ∈ tblG := tG2 (i := 60) (by decide +kernel) (by decide +kernel)
theorem ml_X7_67 : Cond.methodLink RX7 67 (m_X4_makeNew.1) ∈ tblG := tG3 (i := 44) (by decide +kernel) (by decide +kernel)
theorem ml_X7_70 : Cond.methodLink RX7 70 (m_X2_forgetAll.1) ∈ tblG := tG3 (i := 45) (by decide +kernel) (by decide +kernel)
theorem ml_X7_73 : Cond.methodLink RX7 73 (m_X7_doCommandsOfText.1) ∈ tblG := tG3 (i := 49) (by decide +kernel) (by decide +kernel)
theorem ml_X7_91 : Cond.methodLink RX7 91 (m_X4_countSeats.1) ∈ tblG := tG3 (i := 187) (by decide +kernel) (by decide +kernel)
theorem ml_X7_94 : Cond.methodLink RX7 94 (m_X4_countPasses.1) ∈ tblG := tG3 (i := 191) (by decide +kernel) (by decide +kernel)
theorem ml_X7_97 : Cond.methodLink RX7 97 (m_X4_countUsesByDancers.1) ∈ tblG := tG3 (i := 195) (by decide +kernel) (by decide +kernel)
theorem ml_X7_100 : Cond.methodLink RX7 100 (m_X4_countLeft.1) ∈ tblG := tG3 (i := 203) (by decide +kernel) (by decide +kernel)
theorem ml_X7_119 : Cond.methodLink RX7 119 (m_X4_hasFloor.1) ∈ tblG := tG3 (i := 216) (by decide +kernel) (by decide +kernel)
theorem ml_X7_123 : Cond.methodLink RX7 123 (m_X7_requireIndex.1) ∈ tblG := tG3 (i := 217) (by decide +kernel) (by decide +kernel)
theorem ml_X7_144 : Cond.methodLink RX7 144 (m_X4_countLessonsOnFloor.1) ∈ tblG := tG3 (i := 236) (by decide +kernel) (by decide +kernel)
theorem ml_X7_148 : Cond.methodLink RX7 148 (m_X4_hasTeacher.1) ∈ tblG := tG4 (i := 7) (by decide +kernel) (by decide +kernel)
theorem ml_X7_163 : Cond.methodLink RX7 163 (m_X4_countLessonsOfTeacher.1) ∈ tblG := tG4 (i := 8) (by decide +kernel) (by decide +kernel)
theorem ml_X7_166 : Cond.methodLink RX7 166 (m_X4_countDaysOfTeacher.1) ∈ tblG := tG4 (i := 12) (by decide +kernel) (by decide +kernel)
theorem ml_X7_169 : Cond.methodLink RX7 169 (m_X4_hasLesson.1) ∈ tblG := tG4 (i := 24) (by decide +kernel) (by decide +kernel)
theorem ml_X7_196 : Cond.methodLink RX7 196 (m_X4_roomIn.1) ∈ tblG := tG4 (i := 25) (by decide +kernel) (by decide +kernel)
theorem ml_X7_200 : Cond.methodLink RX7 200 (m_X3_countSeats.1) ∈ tblG := tG4 (i := 26) (by decide +kernel) (by decide +kernel)
theorem ml_X7_207 : Cond.methodLink RX7 207 (m_X4_hasDancer.1) ∈ tblG := tG4 (i := 34) (by decide +kernel) (by decide +kernel)
theorem ml_X7_223 : Cond.methodLink RX7 223 (m_X0_usesSoFar.1) ∈ tblG := tG4 (i := 35) (by decide +kernel) (by decide +kernel)
theorem ml_X7_229 : Cond.methodLink RX7 229 (m_X4_countSeatsOfDancer.1) ∈ tblG := tG4 (i := 36) (by decide +kernel) (by decide +kernel)
theorem ml_X7_232 : Cond.methodLink RX7 232 (m_X4_countUsesByLessons.1) ∈ tblG := tG4 (i := 47) (by decide +kernel) (by decide +kernel)
theorem ml_X7_239 : Cond.methodLink RX7 239 (m_X2_remember.1) ∈ tblG := tG4 (i := 65) (by decide +kernel) (by decide +kernel)
theorem ml_X7_243 : Cond.methodLink RX7 243 (m_X4_addFloor.1) ∈ tblG := tG3 (i := 60) (by decide +kernel) (by decide +kernel)
theorem ml_X7_247 : Cond.methodLink RX7 247 (m_X4_addTeacher.1) ∈ tblG := tG3 (i := 64) (by decide +kernel) (by decide +kernel)
theorem ml_X7_251 : Cond.methodLink RX7 251 (m_X7_requireLessonArguments.1) ∈ tblG := tG4 (i := 84) (by decide +kernel) (by decide +kernel)
theorem ml_X7_255 : Cond.methodLink RX7 255 (m_X4_addLesson.1) ∈ tblG := tG3 (i := 68) (by decide +kernel) (by decide +kernel)
theorem ml_X7_259 : Cond.methodLink RX7 259 (m_X4_countRefusal.1) ∈ tblG := tG4 (i := 87) (by decide +kernel) (by decide +kernel)
theorem ml_X7_262 : Cond.methodLink RX7 262 (m_X4_dropLesson.1) ∈ tblG := tG3 (i := 171) (by decide +kernel) (by decide +kernel)
theorem ml_X7_265 : Cond.methodLink RX7 265 (m_X4_addDancer.1) ∈ tblG := tG3 (i := 112) (by decide +kernel) (by decide +kernel)
theorem ml_X7_268 : Cond.methodLink RX7 268 (m_X4_mayHavePass.1) ∈ tblG := tG4 (i := 112) (by decide +kernel) (by decide +kernel)
theorem ml_X7_271 : Cond.methodLink RX7 271 (m_X4_givePass.1) ∈ tblG := tG3 (i := 116) (by decide +kernel) (by decide +kernel)
theorem ml_X7_274 : Cond.methodLink RX7 274 (m_X4_takeSeat.1) ∈ tblG := tG3 (i := 128) (by decide +kernel) (by decide +kernel)
theorem ml_X7_277 : Cond.methodLink RX7 277 (m_X4_hasSeat.1) ∈ tblG := tG4 (i := 127) (by decide +kernel) (by decide +kernel)
theorem ml_X7_281 : Cond.methodLink RX7 281 (m_X4_giveUpSeat.1) ∈ tblG := tG3 (i := 163) (by decide +kernel) (by decide +kernel)
theorem ml_X7_284 : Cond.methodLink RX7 284 (m_X4_passWeeks.1) ∈ tblG := tG3 (i := 175) (by decide +kernel) (by decide +kernel)
theorem ml_X7_290 : Cond.methodLink RX7 290 (m_X2_takeBack.1) ∈ tblG := tG4 (i := 149) (by decide +kernel) (by decide +kernel)
theorem ml_X7_294 : Cond.methodLink RX7 294 (m_X4_reasonAgainstLesson.1) ∈ tblG := tG4 (i := 160) (by decide +kernel) (by decide +kernel)
theorem ml_X7_297 : Cond.methodLink RX7 297 (m_X4_reasonAgainstSeat.1) ∈ tblG := tG4 (i := 168) (by decide +kernel) (by decide +kernel)
theorem ml_X7_300 : Cond.methodLink RX7 300 (m_X4_roomiestFloor.1) ∈ tblG := tG4 (i := 176) (by decide +kernel) (by decide +kernel)
theorem ml_X7_304 : Cond.methodLink RX7 304 (m_X4_copyFrom.1) ∈ tblG := tG2 (i := 121) (by decide +kernel) (by decide +kernel)
theorem ml_X7_307 : Cond.methodLink RX7 307 (m_X4_passWeek.1) ∈ tblG := tG2 (i := 145) (by decide +kernel) (by decide +kernel)
theorem ml_X7_310 : Cond.methodLink RX7 310 (m_X7_withoutGroups.1) ∈ tblG := tG4 (i := 194) (by decide +kernel) (by decide +kernel)
theorem ml_X7_316 : Cond.methodLink RX7 316 (m_X7_tryGroup.1) ∈ tblG := tG4 (i := 198) (by decide +kernel) (by decide +kernel)
theorem ml_X7_323 : Cond.methodLink RX7 323 (m_X7_tryTurn.1) ∈ tblG := tG4 (i := 211) (by decide +kernel) (by decide +kernel)
theorem ml_X7_338 : Cond.methodLink RX7 338 (m_X6_readStart.1) ∈ tblG := tG3 (i := 53) (by decide +kernel) (by decide +kernel)
theorem ml_X7_342 : Cond.methodLink RX7 342 (m_X6_hasMore.1) ∈ tblG := tG3 (i := 54) (by decide +kernel) (by decide +kernel)
theorem ml_X7_345 : Cond.methodLink RX7 345 (m_X6_readCommand.1) ∈ tblG := tG3 (i := 55) (by decide +kernel) (by decide +kernel)
theorem ml_X7_355 : Cond.methodLink RX7 355 (m_X7_doCommand.1) ∈ tblG := tG3 (i := 56) (by decide +kernel) (by decide +kernel)
theorem ml_X7_359 : Cond.methodLink RX7 359 (m_X7_tryLeaving.1) ∈ tblG := tG4 (i := 215) (by decide +kernel) (by decide +kernel)
theorem ml_X8_1 : Cond.methodLink RX8 1 Lib.objectInit ∈ tblG := tG4 (i := 238) (by decide +kernel) (by decide +kernel)
theorem ml_X8_22 : Cond.methodLink RX8 22 (m_X8_anew.1) ∈ tblG := tG4 (i := 239) (by decide +kernel) (by decide +kernel)
theorem ml_X8_29 : Cond.methodLink RX8 29 (m_X8_in.1) ∈ tblG := tG5 (i := 39) (by decide +kernel) (by decide +kernel)
theorem ml_X8_33 : Cond.methodLink RX8 33 (m_X8_barre.1) ∈ tblG := tG5 (i := 118) (by decide +kernel) (by decide +kernel)
theorem ml_X8_37 : Cond.methodLink RX8 37 (m_X8_spring.1) ∈ tblG := tG5 (i := 114) (by decide +kernel) (by decide +kernel)
theorem ml_X8_40 : Cond.methodLink RX8 40 (m_X8_ofClass.1) ∈ tblG := tG5 (i := 106) (by decide +kernel) (by decide +kernel)
theorem ml_X8_44 : Cond.methodLink RX8 44 (m_X8_isSpring.1) ∈ tblG := tG5 (i := 110) (by decide +kernel) (by decide +kernel)
theorem ml_X8_47 : Cond.methodLink RX8 47 (m_X8_mirrors.1) ∈ tblG := tG5 (i := 122) (by decide +kernel) (by decide +kernel)
theorem ml_X8_50 : Cond.methodLink RX8 50 (m_X8_takes.1) ∈ tblG := tG5 (i := 161) (by decide +kernel) (by decide +kernel)
theorem ml_X8_53 : Cond.methodLink RX8 53 (m_X8_hasSeat.1) ∈ tblG := tG5 (i := 150) (by decide +kernel) (by decide +kernel)
theorem ml_X8_57 : Cond.methodLink RX8 57 (m_X8_ofDancer.1) ∈ tblG := tG5 (i := 134) (by decide +kernel) (by decide +kernel)
theorem ml_X8_60 : Cond.methodLink RX8 60 (m_X8_bits.1) ∈ tblG := tG5 (i := 154) (by decide +kernel) (by decide +kernel)
theorem ml_X8_63 : Cond.methodLink RX8 63 (m_X8_classTakes.1) ∈ tblG := tG5 (i := 157) (by decide +kernel) (by decide +kernel)
theorem ml_X8_66 : Cond.methodLink RX8 66 (m_X8_adds.1) ∈ tblG := tG5 (i := 189) (by decide +kernel) (by decide +kernel)
theorem ml_X8_70 : Cond.methodLink RX8 70 (m_X8_coming.1) ∈ tblG := tG5 (i := 213) (by decide +kernel) (by decide +kernel)
theorem ml_X8_73 : Cond.methodLink RX8 73 (m_X8_dances.1) ∈ tblG := tG5 (i := 217) (by decide +kernel) (by decide +kernel)
theorem ml_X8_76 : Cond.methodLink RX8 76 (m_X8_week.1) ∈ tblG := tG5 (i := 209) (by decide +kernel) (by decide +kernel)
theorem ml_X8_83 : Cond.methodLink RX8 83 (m_X8_copies.1) ∈ tblG := tG6 (i := 44) (by decide +kernel) (by decide +kernel)
theorem ml_X8_89 : Cond.methodLink RX8 89 (m_X8_holds.1) ∈ tblG := tG5 (i := 42) (by decide +kernel) (by decide +kernel)
theorem ml_X8_96 : Cond.methodLink RX8 96 (m_X8_sign.1) ∈ tblG := tG5 (i := 62) (by decide +kernel) (by decide +kernel)
theorem ml_X8_99 : Cond.methodLink RX8 99 (m_X8_figure.1) ∈ tblG := tG5 (i := 70) (by decide +kernel) (by decide +kernel)
theorem ml_X8_105 : Cond.methodLink RX8 105 (m_X8_takesSign.1) ∈ tblG := tG5 (i := 58) (by decide +kernel) (by decide +kernel)
theorem ml_X8_108 : Cond.methodLink RX8 108 (m_X8_figures.1) ∈ tblG := tG5 (i := 74) (by decide +kernel) (by decide +kernel)
theorem ml_X8_111 : Cond.methodLink RX8 111 (m_X8_readsClass.1) ∈ tblG := tG5 (i := 78) (by decide +kernel) (by decide +kernel)
theorem ml_X8_115 : Cond.methodLink RX8 115 (m_X8_readsCommand.1) ∈ tblG := tG5 (i := 66) (by decide +kernel) (by decide +kernel)
theorem ml_X8_118 : Cond.methodLink RX8 118 (m_X8_isStudio.1) ∈ tblG := tG5 (i := 54) (by decide +kernel) (by decide +kernel)
theorem ml_X8_121 : Cond.methodLink RX8 121 (m_X8_isFloor.1) ∈ tblG := tG5 (i := 94) (by decide +kernel) (by decide +kernel)
theorem ml_X8_124 : Cond.methodLink RX8 124 (m_X8_isTeacher.1) ∈ tblG := tG5 (i := 98) (by decide +kernel) (by decide +kernel)
theorem ml_X8_127 : Cond.methodLink RX8 127 (m_X8_isDancer.1) ∈ tblG := tG5 (i := 130) (by decide +kernel) (by decide +kernel)
theorem ml_X8_130 : Cond.methodLink RX8 130 (m_X8_isClass.1) ∈ tblG := tG5 (i := 142) (by decide +kernel) (by decide +kernel)
theorem ml_X8_133 : Cond.methodLink RX8 133 (m_X8_canSet.1) ∈ tblG := tG5 (i := 90) (by decide +kernel) (by decide +kernel)
theorem ml_X8_136 : Cond.methodLink RX8 136 (m_X8_whyNo.1) ∈ tblG := tG5 (i := 102) (by decide +kernel) (by decide +kernel)
theorem ml_X8_140 : Cond.methodLink RX8 140 (m_X8_canPass.1) ∈ tblG := tG5 (i := 126) (by decide +kernel) (by decide +kernel)
theorem ml_X8_143 : Cond.methodLink RX8 143 (m_X8_areBoth.1) ∈ tblG := tG5 (i := 138) (by decide +kernel) (by decide +kernel)
theorem ml_X8_146 : Cond.methodLink RX8 146 (m_X8_whyNoSeat.1) ∈ tblG := tG5 (i := 146) (by decide +kernel) (by decide +kernel)
theorem ml_X8_149 : Cond.methodLink RX8 149 (m_X8_floors.1) ∈ tblG := tG5 (i := 169) (by decide +kernel) (by decide +kernel)
theorem ml_X8_153 : Cond.methodLink RX8 153 (m_X8_teachers.1) ∈ tblG := tG5 (i := 173) (by decide +kernel) (by decide +kernel)
theorem ml_X8_156 : Cond.methodLink RX8 156 (m_X8_sets.1) ∈ tblG := tG5 (i := 177) (by decide +kernel) (by decide +kernel)
theorem ml_X8_160 : Cond.methodLink RX8 160 (m_X8_dancers.1) ∈ tblG := tG5 (i := 181) (by decide +kernel) (by decide +kernel)
theorem ml_X8_163 : Cond.methodLink RX8 163 (m_X8_passes.1) ∈ tblG := tG5 (i := 185) (by decide +kernel) (by decide +kernel)
theorem ml_X8_166 : Cond.methodLink RX8 166 (m_X8_enters.1) ∈ tblG := tG5 (i := 193) (by decide +kernel) (by decide +kernel)
theorem ml_X8_169 : Cond.methodLink RX8 169 (m_X8_leaves.1) ∈ tblG := tG5 (i := 197) (by decide +kernel) (by decide +kernel)
theorem ml_X8_172 : Cond.methodLink RX8 172 (m_X8_drops.1) ∈ tblG := tG5 (i := 201) (by decide +kernel) (by decide +kernel)
theorem ml_X8_175 : Cond.methodLink RX8 175 (m_X8_weeksGo.1) ∈ tblG := tG5 (i := 205) (by decide +kernel) (by decide +kernel)
theorem ml_X8_178 : Cond.methodLink RX8 178 (m_X8_can.1) ∈ tblG := tG5 (i := 86) (by decide +kernel) (by decide +kernel)
theorem ml_X8_181 : Cond.methodLink RX8 181 (m_X8_does.1) ∈ tblG := tG5 (i := 165) (by decide +kernel) (by decide +kernel)
theorem ml_X8_184 : Cond.methodLink RX8 184 (m_X8_seats.1) ∈ tblG := tG5 (i := 229) (by decide +kernel) (by decide +kernel)
theorem ml_X8_187 : Cond.methodLink RX8 187 (m_X8_left.1) ∈ tblG := tG5 (i := 233) (by decide +kernel) (by decide +kernel)
theorem ml_X8_190 : Cond.methodLink RX8 190 (m_X8_tells.1) ∈ tblG := tG5 (i := 225) (by decide +kernel) (by decide +kernel)
theorem ml_X8_193 : Cond.methodLink RX8 193 (m_X8_classes.1) ∈ tblG := tG6 (i := 1) (by decide +kernel) (by decide +kernel)
theorem ml_X8_196 : Cond.methodLink RX8 196 (m_X8_daysOf.1) ∈ tblG := tG6 (i := 9) (by decide +kernel) (by decide +kernel)
theorem ml_X8_199 : Cond.methodLink RX8 199 (m_X8_seatsOf.1) ∈ tblG := tG6 (i := 21) (by decide +kernel) (by decide +kernel)
theorem ml_X8_202 : Cond.methodLink RX8 202 (m_X8_isFloorLike.1) ∈ tblG := tG6 (i := 37) (by decide +kernel) (by decide +kernel)
theorem ml_X8_206 : Cond.methodLink RX8 206 (m_X8_remember.1) ∈ tblG := tG6 (i := 40) (by decide +kernel) (by decide +kernel)
theorem ml_X8_209 : Cond.methodLink RX8 209 (m_X8_isTime.1) ∈ tblG := tG6 (i := 56) (by decide +kernel) (by decide +kernel)
theorem ml_X8_212 : Cond.methodLink RX8 212 (m_X8_triesClass.1) ∈ tblG := tG6 (i := 59) (by decide +kernel) (by decide +kernel)
theorem ml_X8_215 : Cond.methodLink RX8 215 (m_X8_triesSeat.1) ∈ tblG := tG6 (i := 79) (by decide +kernel) (by decide +kernel)
theorem ml_X8_224 : Cond.methodLink RX8 224 (m_X8_size.1) ∈ tblG := tG6 (i := 123) (by decide +kernel) (by decide +kernel)
theorem ml_X8_228 : Cond.methodLink RX8 228 (m_X8_isCommand.1) ∈ tblG := tG6 (i := 129) (by decide +kernel) (by decide +kernel)
theorem ml_X8_235 : Cond.methodLink RX8 235 (m_X8_turns.1) ∈ tblG := tG6 (i := 139) (by decide +kernel) (by decide +kernel)
theorem ml_X8_238 : Cond.methodLink RX8 238 (m_X8_dancersTurn.1) ∈ tblG := tG6 (i := 143) (by decide +kernel) (by decide +kernel)
theorem obj_im : Cond.instanceMethod Lib.objectInit ∈ tblG := tG1 (i := 24) (by decide +kernel) (by decide +kernel)
theorem obj_cd : Cond.code Lib.objectInit ⟨#[0xb1]⟩ 1 none ∈ tblG := tG1 (i := 25) (by decide +kernel) (by decide +kernel)
theorem uw_X0 : ∀ w ∈ u_ws RX0 TX0 4, w ∈ tblG := List.forall_mem_cons.mpr ⟨tG1 (i := 179) (by decide +kernel) (by decide +kernel), List.forall_mem_cons.mpr ⟨tG1 (i := 181) (by decide +kernel) (by decide +kernel), List.forall_mem_cons.mpr ⟨tG1 (i := 183) (by decide +kernel) (by decide +kernel), List.forall_mem_cons.mpr ⟨tG1 (i := 185) (by decide +kernel) (by decide +kernel), List.forall_mem_nil _⟩⟩⟩⟩
theorem uw_X1 : ∀ w ∈ u_ws RX1 TX1 4, w ∈ tblG := List.forall_mem_cons.mpr ⟨tG1 (i := 81) (by decide +kernel) (by decide +kernel), List.forall_mem_cons.mpr ⟨tG1 (i := 83) (by decide +kernel) (by decide +kernel), List.forall_mem_cons.mpr ⟨tG1 (i := 85) (by decide +kernel) (by decide +kernel), List.forall_mem_cons.mpr ⟨tG1 (i := 87) (by decide +kernel) (by decide +kernel), List.forall_mem_nil _⟩⟩⟩⟩
theorem uw_X2 : ∀ w ∈ u_ws RX2 TX2 3, w ∈ tblG := List.forall_mem_cons.mpr ⟨tG2 (i := 21) (by decide +kernel) (by decide +kernel), List.forall_mem_cons.mpr ⟨tG2 (i := 23) (by decide +kernel) (by decide +kernel), List.forall_mem_cons.mpr ⟨tG2 (i := 25) (by decide +kernel) (by decide +kernel), List.forall_mem_nil _⟩⟩⟩
theorem uw_X3 : ∀ w ∈ u_ws RX3 TX3 9, w ∈ tblG := List.forall_mem_cons.mpr ⟨tG1 (i := 141) (by decide +kernel) (by decide +kernel), List.forall_mem_cons.mpr ⟨tG1 (i := 143) (by decide +kernel) (by decide +kernel), List.forall_mem_cons.mpr ⟨tG1 (i := 145) (by decide +kernel) (by decide +kernel), List.forall_mem_cons.mpr ⟨tG1 (i := 147) (by decide +kernel) (by decide +kernel), List.forall_mem_cons.mpr ⟨tG1 (i := 149) (by decide +kernel) (by decide +kernel), List.forall_mem_cons.mpr ⟨tG1 (i := 151) (by decide +kernel) (by decide +kernel), List.forall_mem_cons.mpr ⟨tG1 (i := 153) (by decide +kernel) (by decide +kernel), List.forall_mem_cons.mpr ⟨tG1 (i := 155) (by decide +kernel) (by decide +kernel), List.forall_mem_cons.mpr ⟨tG1 (i := 157) (by decide +kernel) (by decide +kernel), List.forall_mem_nil _⟩⟩⟩⟩⟩⟩⟩⟩⟩
theorem uw_X4 : ∀ w ∈ u_ws RX4 TX4 14, w ∈ tblG := List.forall_mem_cons.mpr ⟨tG1 (i := 219) (by decide +kernel) (by decide +kernel), List.forall_mem_cons.mpr ⟨tG1 (i := 221) (by decide +kernel) (by decide +kernel), List.forall_mem_cons.mpr ⟨tG1 (i := 223) (by decide +kernel) (by decide +kernel), List.forall_mem_cons.mpr ⟨tG1 (i := 225) (by decide +kernel) (by decide +kernel), List.forall_mem_cons.mpr ⟨tG1 (i := 227) (by decide +kernel) (by decide +kernel), List.forall_mem_cons.mpr ⟨tG1 (i := 229) (by decide +kernel) (by decide +kernel), List.forall_mem_cons.mpr ⟨tG1 (i := 231) (by decide +kernel) (by decide +kernel), List.forall_mem_cons.mpr ⟨tG1 (i := 233) (by decide +kernel) (by decide +kernel), List.forall_mem_cons.mpr ⟨tG1 (i := 235) (by decide +kernel) (by decide +kernel), List.forall_mem_cons.mpr ⟨tG1 (i := 237) (by decide +kernel) (by decide +kernel), List.forall_mem_cons.mpr ⟨tG1 (i := 239) (by decide +kernel) (by decide +kernel), List.forall_mem_cons.mpr ⟨tG2 (i := 1) (by decide +kernel) (by decide +kernel), List.forall_mem_cons.mpr ⟨tG2 (i := 3) (by decide +kernel) (by decide +kernel), List.forall_mem_cons.mpr ⟨tG2 (i := 5) (by decide +kernel) (by decide +kernel), List.forall_mem_nil _⟩⟩⟩⟩⟩⟩⟩⟩⟩⟩⟩⟩⟩⟩
theorem uw_X5 : ∀ w ∈ u_ws RX5 TX5 2, w ∈ tblG := List.forall_mem_cons.mpr ⟨tG1 (i := 103) (by decide +kernel) (by decide +kernel), List.forall_mem_cons.mpr ⟨tG1 (i := 105) (by decide +kernel) (by decide +kernel), List.forall_mem_nil _⟩⟩
theorem uw_X6 : ∀ w ∈ u_ws RX6 TX6 6, w ∈ tblG := List.forall_mem_cons.mpr ⟨tG1 (i := 41) (by decide +kernel) (by decide +kernel), List.forall_mem_cons.mpr ⟨tG1 (i := 43) (by decide +kernel) (by decide +kernel), List.forall_mem_cons.mpr ⟨tG1 (i := 45) (by decide +kernel) (by decide +kernel), List.forall_mem_cons.mpr ⟨tG1 (i := 47) (by decide +kernel) (by decide +kernel), List.forall_mem_cons.mpr ⟨tG1 (i := 49) (by decide +kernel) (by decide +kernel), List.forall_mem_cons.mpr ⟨tG1 (i := 51) (by decide +kernel) (by decide +kernel), List.forall_mem_nil _⟩⟩⟩⟩⟩⟩
theorem uw_X7 : ∀ w ∈ u_ws RX7 TX7 6, w ∈ tblG := List.forall_mem_cons.mpr ⟨tG2 (i := 34) (by decide +kernel) (by decide +kernel), List.forall_mem_cons.mpr ⟨tG2 (i := 36) (by decide +kernel) (by decide +kernel), List.forall_mem_cons.mpr ⟨tG2 (i := 38) (by decide +kernel) (by decide +kernel), List.forall_mem_cons.mpr ⟨tG2 (i := 40) (by decide +kernel) (by decide +kernel), List.forall_mem_cons.mpr ⟨tG2 (i := 42) (by decide +kernel) (by decide +kernel), List.forall_mem_cons.mpr ⟨tG2 (i := 44) (by decide +kernel) (by decide +kernel), List.forall_mem_nil _⟩⟩⟩⟩⟩⟩
theorem uw_X8 : ∀ w ∈ u_ws RX8 TX8 9, w ∈ tblG := List.forall_mem_cons.mpr ⟨tG5 (i := 12) (by decide +kernel) (by decide +kernel), List.forall_mem_cons.mpr ⟨tG5 (i := 14) (by decide +kernel) (by decide +kernel), List.forall_mem_cons.mpr ⟨tG5 (i := 16) (by decide +kernel) (by decide +kernel), List.forall_mem_cons.mpr ⟨tG5 (i := 18) (by decide +kernel) (by decide +kernel), List.forall_mem_cons.mpr ⟨tG5 (i := 20) (by decide +kernel) (by decide +kernel), List.forall_mem_cons.mpr ⟨tG5 (i := 22) (by decide +kernel) (by decide +kernel), List.forall_mem_cons.mpr ⟨tG5 (i := 24) (by decide +kernel) (by decide +kernel), List.forall_mem_cons.mpr ⟨tG5 (i := 26) (by decide +kernel) (by decide +kernel), List.forall_mem_cons.mpr ⟨tG5 (i := 28) (by decide +kernel) (by decide +kernel), List.forall_mem_nil _⟩⟩⟩⟩⟩⟩⟩⟩⟩
theorem fl_X0_9 : FL RX0 9 0 0 := ⟨(RX0, TX0, 4), rfl, nle rfl, tG1 (i := 167) (by decide +kernel) (by decide +kernel), uw_X0⟩
theorem pl_X0_9 : PL RX0 9 0 0 .int false := ⟨(RX0, TX0, 4), rfl, nle rfl, tG1 (i := 167) (by decide +kernel) (by decide +kernel), uw_X0, nmX0, ⟨tyX0, tyX0_ok⟩, rfl, by decide +kernel, (fun h => by cases h)⟩
theorem fl_X0_15 : FL RX0 15 0 1 := ⟨(RX0, TX0, 4), rfl, nle rfl, tG1 (i := 170) (by decide +kernel) (by decide +kernel), uw_X0⟩
theorem pl_X0_15 : PL RX0 15 0 1 .int false := ⟨(RX0, TX0, 4), rfl, nle rfl, tG1 (i := 170) (by decide +kernel) (by decide +kernel), uw_X0, nmX0, ⟨tyX0, tyX0_ok⟩, rfl, by decide +kernel, (fun h => by cases h)⟩
theorem fl_X0_18 : FL RX0 18 0 2 := ⟨(RX0, TX0, 4), rfl, nle rfl, tG1 (i := 173) (by decide +kernel) (by decide +kernel), uw_X0⟩
theorem pl_X0_18 : PL RX0 18 0 2 .int false := ⟨(RX0, TX0, 4), rfl, nle rfl, tG1 (i := 173) (by decide +kernel) (by decide +kernel), uw_X0, nmX0, ⟨tyX0, tyX0_ok⟩, rfl, by decide +kernel, (fun h => by cases h)⟩
theorem fl_X0_21 : FL RX0 21 0 3 := ⟨(RX0, TX0, 4), rfl, nle rfl, tG1 (i := 176) (by decide +kernel) (by decide +kernel), uw_X0⟩
theorem pl_X0_21 : PL RX0 21 0 3 .int false := ⟨(RX0, TX0, 4), rfl, nle rfl, tG1 (i := 176) (by decide +kernel) (by decide +kernel), uw_X0, nmX0, ⟨tyX0, tyX0_ok⟩, rfl, by decide +kernel, (fun h => by cases h)⟩
theorem fl_X1_9 : FL RX1 9 1 0 := ⟨(RX1, TX1, 4), rfl, nle rfl, tG1 (i := 69) (by decide +kernel) (by decide +kernel), uw_X1⟩
theorem pl_X1_9 : PL RX1 9 1 0 .int false := ⟨(RX1, TX1, 4), rfl, nle rfl, tG1 (i := 69) (by decide +kernel) (by decide +kernel), uw_X1, nmX1, ⟨tyX1, tyX1_ok⟩, rfl, by decide +kernel, (fun h => by cases h)⟩
theorem fl_X1_15 : FL RX1 15 1 1 := ⟨(RX1, TX1, 4), rfl, nle rfl, tG1 (i := 72) (by decide +kernel) (by decide +kernel), uw_X1⟩
theorem pl_X1_15 : PL RX1 15 1 1 .int false := ⟨(RX1, TX1, 4), rfl, nle rfl, tG1 (i := 72) (by decide +kernel) (by decide +kernel), uw_X1, nmX1, ⟨tyX1, tyX1_ok⟩, rfl, by decide +kernel, (fun h => by cases h)⟩
theorem fl_X1_18 : FL RX1 18 1 2 := ⟨(RX1, TX1, 4), rfl, nle rfl, tG1 (i := 75) (by decide +kernel) (by decide +kernel), uw_X1⟩
theorem pl_X1_18 : PL RX1 18 1 2 .int false := ⟨(RX1, TX1, 4), rfl, nle rfl, tG1 (i := 75) (by decide +kernel) (by decide +kernel), uw_X1, nmX1, ⟨tyX1, tyX1_ok⟩, rfl, by decide +kernel, (fun h => by cases h)⟩
theorem fl_X1_21 : FL RX1 21 1 3 := ⟨(RX1, TX1, 4), rfl, nle rfl, tG1 (i := 78) (by decide +kernel) (by decide +kernel), uw_X1⟩
theorem pl_X1_21 : PL RX1 21 1 3 .int false := ⟨(RX1, TX1, 4), rfl, nle rfl, tG1 (i := 78) (by decide +kernel) (by decide +kernel), uw_X1, nmX1, ⟨tyX1, tyX1_ok⟩, rfl, by decide +kernel, (fun h => by cases h)⟩
theorem fl_X2_11 : FL RX2 11 2 0 := ⟨(RX2, TX2, 3), rfl, nle rfl, tG2 (i := 17) (by decide +kernel) (by decide +kernel), uw_X2⟩
theorem pl_X2_11 : PL RX2 11 2 0 (.array (.object "DanceFloors$Studio")) true := ⟨(RX2, TX2, 3), rfl, nle rfl, tG2 (i := 17) (by decide +kernel) (by decide +kernel), uw_X2, nmX2, ⟨tyX2, tyX2_ok⟩, rfl, by decide +kernel, (fun _ => rfl)⟩
theorem fl_X2_18 : FL RX2 18 2 1 := ⟨(RX2, TX2, 3), rfl, nle rfl, tG2 (i := 18) (by decide +kernel) (by decide +kernel), uw_X2⟩
theorem pl_X2_18 : PL RX2 18 2 1 .int false := ⟨(RX2, TX2, 3), rfl, nle rfl, tG2 (i := 18) (by decide +kernel) (by decide +kernel), uw_X2, nmX2, ⟨tyX2, tyX2_ok⟩, rfl, by decide +kernel, (fun h => by cases h)⟩
theorem fl_X2_22 : FL RX2 22 2 2 := ⟨(RX2, TX2, 3), rfl, nle rfl, tG2 (i := 19) (by decide +kernel) (by decide +kernel), uw_X2⟩
theorem pl_X2_22 : PL RX2 22 2 2 .int false := ⟨(RX2, TX2, 3), rfl, nle rfl, tG2 (i := 19) (by decide +kernel) (by decide +kernel), uw_X2, nmX2, ⟨tyX2, tyX2_ok⟩, rfl, by decide +kernel, (fun h => by cases h)⟩
theorem fl_X3_7 : FL RX3 7 3 0 := ⟨(RX3, TX3, 9), rfl, nle rfl, tG1 (i := 115) (by decide +kernel) (by decide +kernel), uw_X3⟩
theorem pl_X3_7 : PL RX3 7 3 0 .int false := ⟨(RX3, TX3, 9), rfl, nle rfl, tG1 (i := 115) (by decide +kernel) (by decide +kernel), uw_X3, nmX3, ⟨tyX3, tyX3_ok⟩, rfl, by decide +kernel, (fun h => by cases h)⟩
theorem fl_X3_13 : FL RX3 13 3 1 := ⟨(RX3, TX3, 9), rfl, nle rfl, tG1 (i := 118) (by decide +kernel) (by decide +kernel), uw_X3⟩
theorem pl_X3_13 : PL RX3 13 3 1 .int false := ⟨(RX3, TX3, 9), rfl, nle rfl, tG1 (i := 118) (by decide +kernel) (by decide +kernel), uw_X3, nmX3, ⟨tyX3, tyX3_ok⟩, rfl, by decide +kernel, (fun h => by cases h)⟩
theorem fl_X3_16 : FL RX3 16 3 2 := ⟨(RX3, TX3, 9), rfl, nle rfl, tG1 (i := 121) (by decide +kernel) (by decide +kernel), uw_X3⟩
theorem pl_X3_16 : PL RX3 16 3 2 .int false := ⟨(RX3, TX3, 9), rfl, nle rfl, tG1 (i := 121) (by decide +kernel) (by decide +kernel), uw_X3, nmX3, ⟨tyX3, tyX3_ok⟩, rfl, by decide +kernel, (fun h => by cases h)⟩
theorem fl_X3_19 : FL RX3 19 3 3 := ⟨(RX3, TX3, 9), rfl, nle rfl, tG1 (i := 124) (by decide +kernel) (by decide +kernel), uw_X3⟩
theorem pl_X3_19 : PL RX3 19 3 3 .int false := ⟨(RX3, TX3, 9), rfl, nle rfl, tG1 (i := 124) (by decide +kernel) (by decide +kernel), uw_X3, nmX3, ⟨tyX3, tyX3_ok⟩, rfl, by decide +kernel, (fun h => by cases h)⟩
theorem fl_X3_22 : FL RX3 22 3 4 := ⟨(RX3, TX3, 9), rfl, nle rfl, tG1 (i := 127) (by decide +kernel) (by decide +kernel), uw_X3⟩
theorem pl_X3_22 : PL RX3 22 3 4 .int false := ⟨(RX3, TX3, 9), rfl, nle rfl, tG1 (i := 127) (by decide +kernel) (by decide +kernel), uw_X3, nmX3, ⟨tyX3, tyX3_ok⟩, rfl, by decide +kernel, (fun h => by cases h)⟩
theorem fl_X3_25 : FL RX3 25 3 5 := ⟨(RX3, TX3, 9), rfl, nle rfl, tG1 (i := 130) (by decide +kernel) (by decide +kernel), uw_X3⟩
theorem pl_X3_25 : PL RX3 25 3 5 .int false := ⟨(RX3, TX3, 9), rfl, nle rfl, tG1 (i := 130) (by decide +kernel) (by decide +kernel), uw_X3, nmX3, ⟨tyX3, tyX3_ok⟩, rfl, by decide +kernel, (fun h => by cases h)⟩
theorem fl_X3_28 : FL RX3 28 3 6 := ⟨(RX3, TX3, 9), rfl, nle rfl, tG1 (i := 133) (by decide +kernel) (by decide +kernel), uw_X3⟩
theorem pl_X3_28 : PL RX3 28 3 6 .int false := ⟨(RX3, TX3, 9), rfl, nle rfl, tG1 (i := 133) (by decide +kernel) (by decide +kernel), uw_X3, nmX3, ⟨tyX3, tyX3_ok⟩, rfl, by decide +kernel, (fun h => by cases h)⟩
theorem fl_X3_31 : FL RX3 31 3 7 := ⟨(RX3, TX3, 9), rfl, nle rfl, tG1 (i := 135) (by decide +kernel) (by decide +kernel), uw_X3⟩
theorem pl_X3_31 : PL RX3 31 3 7 .int false := ⟨(RX3, TX3, 9), rfl, nle rfl, tG1 (i := 135) (by decide +kernel) (by decide +kernel), uw_X3, nmX3, ⟨tyX3, tyX3_ok⟩, rfl, by decide +kernel, (fun h => by cases h)⟩
theorem fl_X3_34 : FL RX3 34 3 8 := ⟨(RX3, TX3, 9), rfl, nle rfl, tG1 (i := 138) (by decide +kernel) (by decide +kernel), uw_X3⟩
theorem pl_X3_34 : PL RX3 34 3 8 .int false := ⟨(RX3, TX3, 9), rfl, nle rfl, tG1 (i := 138) (by decide +kernel) (by decide +kernel), uw_X3, nmX3, ⟨tyX3, tyX3_ok⟩, rfl, by decide +kernel, (fun h => by cases h)⟩
theorem fl_X4_11 : FL RX4 11 4 0 := ⟨(RX4, TX4, 14), rfl, nle rfl, tG1 (i := 192) (by decide +kernel) (by decide +kernel), uw_X4⟩
theorem pl_X4_11 : PL RX4 11 4 0 (.array (.object "DanceFloors$Floor")) true := ⟨(RX4, TX4, 14), rfl, nle rfl, tG1 (i := 192) (by decide +kernel) (by decide +kernel), uw_X4, nmX4, ⟨tyX4, tyX4_ok⟩, rfl, by decide +kernel, (fun _ => rfl)⟩
theorem fl_X4_20 : FL RX4 20 4 1 := ⟨(RX4, TX4, 14), rfl, nle rfl, tG1 (i := 194) (by decide +kernel) (by decide +kernel), uw_X4⟩
theorem pl_X4_20 : PL RX4 20 4 1 (.array (.object "DanceFloors$Teacher")) true := ⟨(RX4, TX4, 14), rfl, nle rfl, tG1 (i := 194) (by decide +kernel) (by decide +kernel), uw_X4, nmX4, ⟨tyX4, tyX4_ok⟩, rfl, by decide +kernel, (fun _ => rfl)⟩
theorem fl_X4_27 : FL RX4 27 4 2 := ⟨(RX4, TX4, 14), rfl, nle rfl, tG1 (i := 196) (by decide +kernel) (by decide +kernel), uw_X4⟩
theorem pl_X4_27 : PL RX4 27 4 2 (.array (.object "DanceFloors$Lesson")) true := ⟨(RX4, TX4, 14), rfl, nle rfl, tG1 (i := 196) (by decide +kernel) (by decide +kernel), uw_X4, nmX4, ⟨tyX4, tyX4_ok⟩, rfl, by decide +kernel, (fun _ => rfl)⟩
theorem fl_X4_34 : FL RX4 34 4 3 := ⟨(RX4, TX4, 14), rfl, nle rfl, tG1 (i := 198) (by decide +kernel) (by decide +kernel), uw_X4⟩
theorem pl_X4_34 : PL RX4 34 4 3 (.array (.object "DanceFloors$Dancer")) true := ⟨(RX4, TX4, 14), rfl, nle rfl, tG1 (i := 198) (by decide +kernel) (by decide +kernel), uw_X4, nmX4, ⟨tyX4, tyX4_ok⟩, rfl, by decide +kernel, (fun _ => rfl)⟩
theorem fl_X4_39 : FL RX4 39 4 4 := ⟨(RX4, TX4, 14), rfl, nle rfl, tG1 (i := 200) (by decide +kernel) (by decide +kernel), uw_X4⟩
theorem pl_X4_39 : PL RX4 39 4 4 (.array .int) true := ⟨(RX4, TX4, 14), rfl, nle rfl, tG1 (i := 200) (by decide +kernel) (by decide +kernel), uw_X4, nmX4, ⟨tyX4, tyX4_ok⟩, rfl, by decide +kernel, (fun _ => rfl)⟩
theorem fl_X4_46 : FL RX4 46 4 5 := ⟨(RX4, TX4, 14), rfl, nle rfl, tG1 (i := 202) (by decide +kernel) (by decide +kernel), uw_X4⟩
theorem pl_X4_46 : PL RX4 46 4 5 .int false := ⟨(RX4, TX4, 14), rfl, nle rfl, tG1 (i := 202) (by decide +kernel) (by decide +kernel), uw_X4, nmX4, ⟨tyX4, tyX4_ok⟩, rfl, by decide +kernel, (fun h => by cases h)⟩
theorem fl_X4_50 : FL RX4 50 4 6 := ⟨(RX4, TX4, 14), rfl, nle rfl, tG1 (i := 204) (by decide +kernel) (by decide +kernel), uw_X4⟩
theorem pl_X4_50 : PL RX4 50 4 6 .int false := ⟨(RX4, TX4, 14), rfl, nle rfl, tG1 (i := 204) (by decide +kernel) (by decide +kernel), uw_X4, nmX4, ⟨tyX4, tyX4_ok⟩, rfl, by decide +kernel, (fun h => by cases h)⟩
theorem fl_X4_53 : FL RX4 53 4 7 := ⟨(RX4, TX4, 14), rfl, nle rfl, tG1 (i := 206) (by decide +kernel) (by decide +kernel), uw_X4⟩
theorem pl_X4_53 : PL RX4 53 4 7 .int false := ⟨(RX4, TX4, 14), rfl, nle rfl, tG1 (i := 206) (by decide +kernel) (by decide +kernel), uw_X4, nmX4, ⟨tyX4, tyX4_ok⟩, rfl, by decide +kernel, (fun h => by cases h)⟩
theorem fl_X4_56 : FL RX4 56 4 8 := ⟨(RX4, TX4, 14), rfl, nle rfl, tG1 (i := 208) (by decide +kernel) (by decide +kernel), uw_X4⟩
theorem pl_X4_56 : PL RX4 56 4 8 .int false := ⟨(RX4, TX4, 14), rfl, nle rfl, tG1 (i := 208) (by decide +kernel) (by decide +kernel), uw_X4, nmX4, ⟨tyX4, tyX4_ok⟩, rfl, by decide +kernel, (fun h => by cases h)⟩
theorem fl_X4_59 : FL RX4 59 4 9 := ⟨(RX4, TX4, 14), rfl, nle rfl, tG1 (i := 210) (by decide +kernel) (by decide +kernel), uw_X4⟩
theorem pl_X4_59 : PL RX4 59 4 9 .int false := ⟨(RX4, TX4, 14), rfl, nle rfl, tG1 (i := 210) (by decide +kernel) (by decide +kernel), uw_X4, nmX4, ⟨tyX4, tyX4_ok⟩, rfl, by decide +kernel, (fun h => by cases h)⟩
theorem fl_X4_62 : FL RX4 62 4 10 := ⟨(RX4, TX4, 14), rfl, nle rfl, tG1 (i := 212) (by decide +kernel) (by decide +kernel), uw_X4⟩
theorem pl_X4_62 : PL RX4 62 4 10 .int false := ⟨(RX4, TX4, 14), rfl, nle rfl, tG1 (i := 212) (by decide +kernel) (by decide +kernel), uw_X4, nmX4, ⟨tyX4, tyX4_ok⟩, rfl, by decide +kernel, (fun h => by cases h)⟩
theorem fl_X4_65 : FL RX4 65 4 11 := ⟨(RX4, TX4, 14), rfl, nle rfl, tG1 (i := 214) (by decide +kernel) (by decide +kernel), uw_X4⟩
theorem pl_X4_65 : PL RX4 65 4 11 .int false := ⟨(RX4, TX4, 14), rfl, nle rfl, tG1 (i := 214) (by decide +kernel) (by decide +kernel), uw_X4, nmX4, ⟨tyX4, tyX4_ok⟩, rfl, by decide +kernel, (fun h => by cases h)⟩
theorem fl_X4_68 : FL RX4 68 4 12 := ⟨(RX4, TX4, 14), rfl, nle rfl, tG1 (i := 216) (by decide +kernel) (by decide +kernel), uw_X4⟩
theorem pl_X4_68 : PL RX4 68 4 12 .int false := ⟨(RX4, TX4, 14), rfl, nle rfl, tG1 (i := 216) (by decide +kernel) (by decide +kernel), uw_X4, nmX4, ⟨tyX4, tyX4_ok⟩, rfl, by decide +kernel, (fun h => by cases h)⟩
theorem fl_X4_71 : FL RX4 71 4 13 := ⟨(RX4, TX4, 14), rfl, nle rfl, tG1 (i := 218) (by decide +kernel) (by decide +kernel), uw_X4⟩
theorem pl_X4_71 : PL RX4 71 4 13 .int false := ⟨(RX4, TX4, 14), rfl, nle rfl, tG1 (i := 218) (by decide +kernel) (by decide +kernel), uw_X4, nmX4, ⟨tyX4, tyX4_ok⟩, rfl, by decide +kernel, (fun h => by cases h)⟩
theorem fl_X4_101 : FL RX4 101 0 2 := ⟨(RX0, TX0, 4), rfl, nle rfl, tG1 (i := 174) (by decide +kernel) (by decide +kernel), uw_X0⟩
theorem pl_X4_101 : PL RX4 101 0 2 .int false := ⟨(RX0, TX0, 4), rfl, nle rfl, tG1 (i := 174) (by decide +kernel) (by decide +kernel), uw_X0, nmX0, ⟨tyX0, tyX0_ok⟩, rfl, by decide +kernel, (fun h => by cases h)⟩
theorem pl_X4_104 : PL RX4 104 1 0 .int false := ⟨(RX1, TX1, 4), rfl, nle rfl, tG1 (i := 71) (by decide +kernel) (by decide +kernel), uw_X1, nmX1, ⟨tyX1, tyX1_ok⟩, rfl, by decide +kernel, (fun h => by cases h)⟩
theorem pl_X4_107 : PL RX4 107 1 1 .int false := ⟨(RX1, TX1, 4), rfl, nle rfl, tG1 (i := 74) (by decide +kernel) (by decide +kernel), uw_X1, nmX1, ⟨tyX1, tyX1_ok⟩, rfl, by decide +kernel, (fun h => by cases h)⟩
theorem pl_X4_110 : PL RX4 110 1 2 .int false := ⟨(RX1, TX1, 4), rfl, nle rfl, tG1 (i := 77) (by decide +kernel) (by decide +kernel), uw_X1, nmX1, ⟨tyX1, tyX1_ok⟩, rfl, by decide +kernel, (fun h => by cases h)⟩
theorem pl_X4_113 : PL RX4 113 1 3 .int false := ⟨(RX1, TX1, 4), rfl, nle rfl, tG1 (i := 80) (by decide +kernel) (by decide +kernel), uw_X1, nmX1, ⟨tyX1, tyX1_ok⟩, rfl, by decide +kernel, (fun h => by cases h)⟩
theorem pl_X4_116 : PL RX4 116 5 0 .int false := ⟨(RX5, TX5, 2), rfl, nle rfl, tG1 (i := 99) (by decide +kernel) (by decide +kernel), uw_X5, nmX5, ⟨tyX5, tyX5_ok⟩, rfl, by decide +kernel, (fun h => by cases h)⟩
theorem pl_X4_119 : PL RX4 119 5 1 .int false := ⟨(RX5, TX5, 2), rfl, nle rfl, tG1 (i := 102) (by decide +kernel) (by decide +kernel), uw_X5, nmX5, ⟨tyX5, tyX5_ok⟩, rfl, by decide +kernel, (fun h => by cases h)⟩
theorem fl_X4_122 : FL RX4 122 0 0 := ⟨(RX0, TX0, 4), rfl, nle rfl, tG1 (i := 169) (by decide +kernel) (by decide +kernel), uw_X0⟩
theorem pl_X4_122 : PL RX4 122 0 0 .int false := ⟨(RX0, TX0, 4), rfl, nle rfl, tG1 (i := 169) (by decide +kernel) (by decide +kernel), uw_X0, nmX0, ⟨tyX0, tyX0_ok⟩, rfl, by decide +kernel, (fun h => by cases h)⟩
theorem pl_X4_125 : PL RX4 125 0 1 .int false := ⟨(RX0, TX0, 4), rfl, nle rfl, tG1 (i := 172) (by decide +kernel) (by decide +kernel), uw_X0, nmX0, ⟨tyX0, tyX0_ok⟩, rfl, by decide +kernel, (fun h => by cases h)⟩
theorem fl_X4_128 : FL RX4 128 0 3 := ⟨(RX0, TX0, 4), rfl, nle rfl, tG1 (i := 178) (by decide +kernel) (by decide +kernel), uw_X0⟩
theorem pl_X4_128 : PL RX4 128 0 3 .int false := ⟨(RX0, TX0, 4), rfl, nle rfl, tG1 (i := 178) (by decide +kernel) (by decide +kernel), uw_X0, nmX0, ⟨tyX0, tyX0_ok⟩, rfl, by decide +kernel, (fun h => by cases h)⟩
theorem fl_X4_141 : FL RX4 141 3 0 := ⟨(RX3, TX3, 9), rfl, nle rfl, tG1 (i := 117) (by decide +kernel) (by decide +kernel), uw_X3⟩
theorem pl_X4_141 : PL RX4 141 3 0 .int false := ⟨(RX3, TX3, 9), rfl, nle rfl, tG1 (i := 117) (by decide +kernel) (by decide +kernel), uw_X3, nmX3, ⟨tyX3, tyX3_ok⟩, rfl, by decide +kernel, (fun h => by cases h)⟩
theorem fl_X4_144 : FL RX4 144 3 1 := ⟨(RX3, TX3, 9), rfl, nle rfl, tG1 (i := 120) (by decide +kernel) (by decide +kernel), uw_X3⟩
theorem pl_X4_144 : PL RX4 144 3 1 .int false := ⟨(RX3, TX3, 9), rfl, nle rfl, tG1 (i := 120) (by decide +kernel) (by decide +kernel), uw_X3, nmX3, ⟨tyX3, tyX3_ok⟩, rfl, by decide +kernel, (fun h => by cases h)⟩
theorem fl_X4_145 : FL RX4 145 3 2 := ⟨(RX3, TX3, 9), rfl, nle rfl, tG1 (i := 123) (by decide +kernel) (by decide +kernel), uw_X3⟩
theorem pl_X4_145 : PL RX4 145 3 2 .int false := ⟨(RX3, TX3, 9), rfl, nle rfl, tG1 (i := 123) (by decide +kernel) (by decide +kernel), uw_X3, nmX3, ⟨tyX3, tyX3_ok⟩, rfl, by decide +kernel, (fun h => by cases h)⟩
theorem fl_X4_148 : FL RX4 148 3 3 := ⟨(RX3, TX3, 9), rfl, nle rfl, tG1 (i := 126) (by decide +kernel) (by decide +kernel), uw_X3⟩
theorem pl_X4_148 : PL RX4 148 3 3 .int false := ⟨(RX3, TX3, 9), rfl, nle rfl, tG1 (i := 126) (by decide +kernel) (by decide +kernel), uw_X3, nmX3, ⟨tyX3, tyX3_ok⟩, rfl, by decide +kernel, (fun h => by cases h)⟩
theorem fl_X4_151 : FL RX4 151 3 4 := ⟨(RX3, TX3, 9), rfl, nle rfl, tG1 (i := 129) (by decide +kernel) (by decide +kernel), uw_X3⟩
theorem pl_X4_151 : PL RX4 151 3 4 .int false := ⟨(RX3, TX3, 9), rfl, nle rfl, tG1 (i := 129) (by decide +kernel) (by decide +kernel), uw_X3, nmX3, ⟨tyX3, tyX3_ok⟩, rfl, by decide +kernel, (fun h => by cases h)⟩
theorem fl_X4_154 : FL RX4 154 3 5 := ⟨(RX3, TX3, 9), rfl, nle rfl, tG1 (i := 132) (by decide +kernel) (by decide +kernel), uw_X3⟩
theorem pl_X4_154 : PL RX4 154 3 5 .int false := ⟨(RX3, TX3, 9), rfl, nle rfl, tG1 (i := 132) (by decide +kernel) (by decide +kernel), uw_X3, nmX3, ⟨tyX3, tyX3_ok⟩, rfl, by decide +kernel, (fun h => by cases h)⟩
theorem fl_X4_157 : FL RX4 157 3 6 := ⟨(RX3, TX3, 9), rfl, nle rfl, tG1 (i := 134) (by decide +kernel) (by decide +kernel), uw_X3⟩
theorem pl_X4_157 : PL RX4 157 3 6 .int false := ⟨(RX3, TX3, 9), rfl, nle rfl, tG1 (i := 134) (by decide +kernel) (by decide +kernel), uw_X3, nmX3, ⟨tyX3, tyX3_ok⟩, rfl, by decide +kernel, (fun h => by cases h)⟩
theorem fl_X4_160 : FL RX4 160 3 7 := ⟨(RX3, TX3, 9), rfl, nle rfl, tG1 (i := 137) (by decide +kernel) (by decide +kernel), uw_X3⟩
theorem pl_X4_160 : PL RX4 160 3 7 .int false := ⟨(RX3, TX3, 9), rfl, nle rfl, tG1 (i := 137) (by decide +kernel) (by decide +kernel), uw_X3, nmX3, ⟨tyX3, tyX3_ok⟩, rfl, by decide +kernel, (fun h => by cases h)⟩
theorem fl_X4_163 : FL RX4 163 3 8 := ⟨(RX3, TX3, 9), rfl, nle rfl, tG1 (i := 140) (by decide +kernel) (by decide +kernel), uw_X3⟩
theorem pl_X4_163 : PL RX4 163 3 8 .int false := ⟨(RX3, TX3, 9), rfl, nle rfl, tG1 (i := 140) (by decide +kernel) (by decide +kernel), uw_X3, nmX3, ⟨tyX3, tyX3_ok⟩, rfl, by decide +kernel, (fun h => by cases h)⟩
theorem fl_X5_7 : FL RX5 7 5 0 := ⟨(RX5, TX5, 2), rfl, nle rfl, tG1 (i := 97) (by decide +kernel) (by decide +kernel), uw_X5⟩
theorem pl_X5_7 : PL RX5 7 5 0 .int false := ⟨(RX5, TX5, 2), rfl, nle rfl, tG1 (i := 97) (by decide +kernel) (by decide +kernel), uw_X5, nmX5, ⟨tyX5, tyX5_ok⟩, rfl, by decide +kernel, (fun h => by cases h)⟩
theorem fl_X5_13 : FL RX5 13 5 1 := ⟨(RX5, TX5, 2), rfl, nle rfl, tG1 (i := 100) (by decide +kernel) (by decide +kernel), uw_X5⟩
theorem pl_X5_13 : PL RX5 13 5 1 .int false := ⟨(RX5, TX5, 2), rfl, nle rfl, tG1 (i := 100) (by decide +kernel) (by decide +kernel), uw_X5, nmX5, ⟨tyX5, tyX5_ok⟩, rfl, by decide +kernel, (fun h => by cases h)⟩
theorem fl_X6_9 : FL RX6 9 6 0 := ⟨(RX6, TX6, 6), rfl, nle rfl, tG1 (i := 32) (by decide +kernel) (by decide +kernel), uw_X6⟩
theorem pl_X6_9 : PL RX6 9 6 0 (.array .char) true := ⟨(RX6, TX6, 6), rfl, nle rfl, tG1 (i := 32) (by decide +kernel) (by decide +kernel), uw_X6, nmX6, ⟨tyX6, tyX6_ok⟩, rfl, by decide +kernel, (fun _ => rfl)⟩
theorem fl_X6_15 : FL RX6 15 6 1 := ⟨(RX6, TX6, 6), rfl, nle rfl, tG1 (i := 33) (by decide +kernel) (by decide +kernel), uw_X6⟩
theorem pl_X6_15 : PL RX6 15 6 1 (.array .int) true := ⟨(RX6, TX6, 6), rfl, nle rfl, tG1 (i := 33) (by decide +kernel) (by decide +kernel), uw_X6, nmX6, ⟨tyX6, tyX6_ok⟩, rfl, by decide +kernel, (fun _ => rfl)⟩
theorem fl_X6_19 : FL RX6 19 6 2 := ⟨(RX6, TX6, 6), rfl, nle rfl, tG1 (i := 35) (by decide +kernel) (by decide +kernel), uw_X6⟩
theorem pl_X6_19 : PL RX6 19 6 2 .int false := ⟨(RX6, TX6, 6), rfl, nle rfl, tG1 (i := 35) (by decide +kernel) (by decide +kernel), uw_X6, nmX6, ⟨tyX6, tyX6_ok⟩, rfl, by decide +kernel, (fun h => by cases h)⟩
theorem fl_X6_27 : FL RX6 27 6 3 := ⟨(RX6, TX6, 6), rfl, nle rfl, tG1 (i := 37) (by decide +kernel) (by decide +kernel), uw_X6⟩
theorem pl_X6_27 : PL RX6 27 6 3 .int false := ⟨(RX6, TX6, 6), rfl, nle rfl, tG1 (i := 37) (by decide +kernel) (by decide +kernel), uw_X6, nmX6, ⟨tyX6, tyX6_ok⟩, rfl, by decide +kernel, (fun h => by cases h)⟩
theorem fl_X6_36 : FL RX6 36 6 5 := ⟨(RX6, TX6, 6), rfl, nle rfl, tG1 (i := 39) (by decide +kernel) (by decide +kernel), uw_X6⟩
theorem pl_X6_36 : PL RX6 36 6 5 .char false := ⟨(RX6, TX6, 6), rfl, nle rfl, tG1 (i := 39) (by decide +kernel) (by decide +kernel), uw_X6, nmX6, ⟨tyX6, tyX6_ok⟩, rfl, by decide +kernel, (fun h => by cases h)⟩
theorem fl_X6_40 : FL RX6 40 6 4 := ⟨(RX6, TX6, 6), rfl, nle rfl, tG1 (i := 38) (by decide +kernel) (by decide +kernel), uw_X6⟩
theorem pl_X6_40 : PL RX6 40 6 4 .int false := ⟨(RX6, TX6, 6), rfl, nle rfl, tG1 (i := 38) (by decide +kernel) (by decide +kernel), uw_X6, nmX6, ⟨tyX6, tyX6_ok⟩, rfl, by decide +kernel, (fun h => by cases h)⟩
theorem fl_X7_10 : FL RX7 10 7 0 := ⟨(RX7, TX7, 6), rfl, nle rfl, tG2 (i := 28) (by decide +kernel) (by decide +kernel), uw_X7⟩
theorem pl_X7_10 : PL RX7 10 7 0 (.object "DanceFloors$Text") true := ⟨(RX7, TX7, 6), rfl, nle rfl, tG2 (i := 28) (by decide +kernel) (by decide +kernel), uw_X7, nmX7, ⟨tyX7, tyX7_ok⟩, rfl, by decide +kernel, (fun _ => rfl)⟩
theorem fl_X7_19 : FL RX7 19 7 1 := ⟨(RX7, TX7, 6), rfl, nle rfl, tG2 (i := 29) (by decide +kernel) (by decide +kernel), uw_X7⟩
theorem pl_X7_19 : PL RX7 19 7 1 (.object "DanceFloors$Studio") true := ⟨(RX7, TX7, 6), rfl, nle rfl, tG2 (i := 29) (by decide +kernel) (by decide +kernel), uw_X7, nmX7, ⟨tyX7, tyX7_ok⟩, rfl, by decide +kernel, (fun _ => rfl)⟩
theorem fl_X7_23 : FL RX7 23 7 2 := ⟨(RX7, TX7, 6), rfl, nle rfl, tG2 (i := 30) (by decide +kernel) (by decide +kernel), uw_X7⟩
theorem pl_X7_23 : PL RX7 23 7 2 (.object "DanceFloors$Studio") true := ⟨(RX7, TX7, 6), rfl, nle rfl, tG2 (i := 30) (by decide +kernel) (by decide +kernel), uw_X7, nmX7, ⟨tyX7, tyX7_ok⟩, rfl, by decide +kernel, (fun _ => rfl)⟩
theorem fl_X7_29 : FL RX7 29 7 3 := ⟨(RX7, TX7, 6), rfl, nle rfl, tG2 (i := 31) (by decide +kernel) (by decide +kernel), uw_X7⟩
theorem pl_X7_29 : PL RX7 29 7 3 (.object "DanceFloors$History") true := ⟨(RX7, TX7, 6), rfl, nle rfl, tG2 (i := 31) (by decide +kernel) (by decide +kernel), uw_X7, nmX7, ⟨tyX7, tyX7_ok⟩, rfl, by decide +kernel, (fun _ => rfl)⟩
theorem fl_X7_33 : FL RX7 33 7 4 := ⟨(RX7, TX7, 6), rfl, nle rfl, tG2 (i := 32) (by decide +kernel) (by decide +kernel), uw_X7⟩
theorem pl_X7_33 : PL RX7 33 7 4 (.array (.object "DanceFloors$Studio")) true := ⟨(RX7, TX7, 6), rfl, nle rfl, tG2 (i := 32) (by decide +kernel) (by decide +kernel), uw_X7, nmX7, ⟨tyX7, tyX7_ok⟩, rfl, by decide +kernel, (fun _ => rfl)⟩
theorem fl_X7_37 : FL RX7 37 7 5 := ⟨(RX7, TX7, 6), rfl, nle rfl, tG2 (i := 33) (by decide +kernel) (by decide +kernel), uw_X7⟩
theorem pl_X7_37 : PL RX7 37 7 5 (.array .boolean) true := ⟨(RX7, TX7, 6), rfl, nle rfl, tG2 (i := 33) (by decide +kernel) (by decide +kernel), uw_X7, nmX7, ⟨tyX7, tyX7_ok⟩, rfl, by decide +kernel, (fun _ => rfl)⟩
theorem fl_X7_49 : FL RX7 49 6 2 := ⟨(RX6, TX6, 6), rfl, nle rfl, tG1 (i := 36) (by decide +kernel) (by decide +kernel), uw_X6⟩
theorem fl_X7_76 : FL RX7 76 4 5 := ⟨(RX4, TX4, 14), rfl, nle rfl, tG1 (i := 203) (by decide +kernel) (by decide +kernel), uw_X4⟩
theorem fl_X7_79 : FL RX7 79 4 6 := ⟨(RX4, TX4, 14), rfl, nle rfl, tG1 (i := 205) (by decide +kernel) (by decide +kernel), uw_X4⟩
theorem fl_X7_82 : FL RX7 82 4 7 := ⟨(RX4, TX4, 14), rfl, nle rfl, tG1 (i := 207) (by decide +kernel) (by decide +kernel), uw_X4⟩
theorem fl_X7_85 : FL RX7 85 4 8 := ⟨(RX4, TX4, 14), rfl, nle rfl, tG1 (i := 209) (by decide +kernel) (by decide +kernel), uw_X4⟩
theorem fl_X7_88 : FL RX7 88 4 9 := ⟨(RX4, TX4, 14), rfl, nle rfl, tG1 (i := 211) (by decide +kernel) (by decide +kernel), uw_X4⟩
theorem fl_X7_103 : FL RX7 103 4 10 := ⟨(RX4, TX4, 14), rfl, nle rfl, tG1 (i := 213) (by decide +kernel) (by decide +kernel), uw_X4⟩
theorem fl_X7_106 : FL RX7 106 4 11 := ⟨(RX4, TX4, 14), rfl, nle rfl, tG1 (i := 215) (by decide +kernel) (by decide +kernel), uw_X4⟩
theorem fl_X7_109 : FL RX7 109 4 12 := ⟨(RX4, TX4, 14), rfl, nle rfl, tG1 (i := 217) (by decide +kernel) (by decide +kernel), uw_X4⟩
theorem fl_X7_126 : FL RX7 126 4 0 := ⟨(RX4, TX4, 14), rfl, nle rfl, tG1 (i := 193) (by decide +kernel) (by decide +kernel), uw_X4⟩
theorem fl_X7_130 : FL RX7 130 1 0 := ⟨(RX1, TX1, 4), rfl, nle rfl, tG1 (i := 70) (by decide +kernel) (by decide +kernel), uw_X1⟩
theorem fl_X7_135 : FL RX7 135 1 1 := ⟨(RX1, TX1, 4), rfl, nle rfl, tG1 (i := 73) (by decide +kernel) (by decide +kernel), uw_X1⟩
theorem fl_X7_138 : FL RX7 138 1 2 := ⟨(RX1, TX1, 4), rfl, nle rfl, tG1 (i := 76) (by decide +kernel) (by decide +kernel), uw_X1⟩
theorem fl_X7_141 : FL RX7 141 1 3 := ⟨(RX1, TX1, 4), rfl, nle rfl, tG1 (i := 79) (by decide +kernel) (by decide +kernel), uw_X1⟩
theorem fl_X7_151 : FL RX7 151 4 1 := ⟨(RX4, TX4, 14), rfl, nle rfl, tG1 (i := 195) (by decide +kernel) (by decide +kernel), uw_X4⟩
theorem fl_X7_155 : FL RX7 155 5 0 := ⟨(RX5, TX5, 2), rfl, nle rfl, tG1 (i := 98) (by decide +kernel) (by decide +kernel), uw_X5⟩
theorem fl_X7_160 : FL RX7 160 5 1 := ⟨(RX5, TX5, 2), rfl, nle rfl, tG1 (i := 101) (by decide +kernel) (by decide +kernel), uw_X5⟩
theorem fl_X7_172 : FL RX7 172 4 2 := ⟨(RX4, TX4, 14), rfl, nle rfl, tG1 (i := 197) (by decide +kernel) (by decide +kernel), uw_X4⟩
theorem fl_X7_176 : FL RX7 176 3 0 := ⟨(RX3, TX3, 9), rfl, nle rfl, tG1 (i := 116) (by decide +kernel) (by decide +kernel), uw_X3⟩
theorem fl_X7_181 : FL RX7 181 3 1 := ⟨(RX3, TX3, 9), rfl, nle rfl, tG1 (i := 119) (by decide +kernel) (by decide +kernel), uw_X3⟩
theorem fl_X7_184 : FL RX7 184 3 2 := ⟨(RX3, TX3, 9), rfl, nle rfl, tG1 (i := 122) (by decide +kernel) (by decide +kernel), uw_X3⟩
theorem fl_X7_187 : FL RX7 187 3 3 := ⟨(RX3, TX3, 9), rfl, nle rfl, tG1 (i := 125) (by decide +kernel) (by decide +kernel), uw_X3⟩
theorem fl_X7_190 : FL RX7 190 3 4 := ⟨(RX3, TX3, 9), rfl, nle rfl, tG1 (i := 128) (by decide +kernel) (by decide +kernel), uw_X3⟩
theorem fl_X7_193 : FL RX7 193 3 5 := ⟨(RX3, TX3, 9), rfl, nle rfl, tG1 (i := 131) (by decide +kernel) (by decide +kernel), uw_X3⟩
theorem fl_X7_201 : FL RX7 201 3 7 := ⟨(RX3, TX3, 9), rfl, nle rfl, tG1 (i := 136) (by decide +kernel) (by decide +kernel), uw_X3⟩
theorem fl_X7_204 : FL RX7 204 3 8 := ⟨(RX3, TX3, 9), rfl, nle rfl, tG1 (i := 139) (by decide +kernel) (by decide +kernel), uw_X3⟩
theorem fl_X7_210 : FL RX7 210 4 3 := ⟨(RX4, TX4, 14), rfl, nle rfl, tG1 (i := 199) (by decide +kernel) (by decide +kernel), uw_X4⟩
theorem fl_X7_214 : FL RX7 214 0 0 := ⟨(RX0, TX0, 4), rfl, nle rfl, tG1 (i := 168) (by decide +kernel) (by decide +kernel), uw_X0⟩
theorem fl_X7_217 : FL RX7 217 0 1 := ⟨(RX0, TX0, 4), rfl, nle rfl, tG1 (i := 171) (by decide +kernel) (by decide +kernel), uw_X0⟩
theorem fl_X7_220 : FL RX7 220 0 2 := ⟨(RX0, TX0, 4), rfl, nle rfl, tG1 (i := 175) (by decide +kernel) (by decide +kernel), uw_X0⟩
theorem fl_X7_226 : FL RX7 226 0 3 := ⟨(RX0, TX0, 4), rfl, nle rfl, tG1 (i := 177) (by decide +kernel) (by decide +kernel), uw_X0⟩
theorem fl_X7_235 : FL RX7 235 4 4 := ⟨(RX4, TX4, 14), rfl, nle rfl, tG1 (i := 201) (by decide +kernel) (by decide +kernel), uw_X4⟩
theorem fl_X7_287 : FL RX7 287 2 2 := ⟨(RX2, TX2, 3), rfl, nle rfl, tG2 (i := 20) (by decide +kernel) (by decide +kernel), uw_X2⟩
theorem fl_X7_348 : FL RX7 348 6 5 := ⟨(RX6, TX6, 6), rfl, nle rfl, tG1 (i := 40) (by decide +kernel) (by decide +kernel), uw_X6⟩
theorem fl_X7_352 : FL RX7 352 6 1 := ⟨(RX6, TX6, 6), rfl, nle rfl, tG1 (i := 34) (by decide +kernel) (by decide +kernel), uw_X6⟩
theorem fl_X8_7 : FL RX8 7 8 1 := ⟨(RX8, TX8, 9), rfl, nle rfl, tG5 (i := 4) (by decide +kernel) (by decide +kernel), uw_X8⟩
theorem pl_X8_7 : PL RX8 7 8 1 (.array .int) true := ⟨(RX8, TX8, 9), rfl, nle rfl, tG5 (i := 4) (by decide +kernel) (by decide +kernel), uw_X8, nmX8, ⟨tyX8, tyX8_ok⟩, rfl, by decide +kernel, (fun _ => rfl)⟩
theorem fl_X8_13 : FL RX8 13 8 3 := ⟨(RX8, TX8, 9), rfl, nle rfl, tG5 (i := 6) (by decide +kernel) (by decide +kernel), uw_X8⟩
theorem pl_X8_13 : PL RX8 13 8 3 (.array .int) true := ⟨(RX8, TX8, 9), rfl, nle rfl, tG5 (i := 6) (by decide +kernel) (by decide +kernel), uw_X8, nmX8, ⟨tyX8, tyX8_ok⟩, rfl, by decide +kernel, (fun _ => rfl)⟩
theorem fl_X8_16 : FL RX8 16 8 4 := ⟨(RX8, TX8, 9), rfl, nle rfl, tG5 (i := 7) (by decide +kernel) (by decide +kernel), uw_X8⟩
theorem pl_X8_16 : PL RX8 16 8 4 (.array .int) true := ⟨(RX8, TX8, 9), rfl, nle rfl, tG5 (i := 7) (by decide +kernel) (by decide +kernel), uw_X8, nmX8, ⟨tyX8, tyX8_ok⟩, rfl, by decide +kernel, (fun _ => rfl)⟩
theorem fl_X8_19 : FL RX8 19 8 8 := ⟨(RX8, TX8, 9), rfl, nle rfl, tG5 (i := 11) (by decide +kernel) (by decide +kernel), uw_X8⟩
theorem pl_X8_19 : PL RX8 19 8 8 (.array .int) true := ⟨(RX8, TX8, 9), rfl, nle rfl, tG5 (i := 11) (by decide +kernel) (by decide +kernel), uw_X8, nmX8, ⟨tyX8, tyX8_ok⟩, rfl, by decide +kernel, (fun _ => rfl)⟩
theorem fl_X8_25 : FL RX8 25 8 0 := ⟨(RX8, TX8, 9), rfl, nle rfl, tG5 (i := 3) (by decide +kernel) (by decide +kernel), uw_X8⟩
theorem pl_X8_25 : PL RX8 25 8 0 .int false := ⟨(RX8, TX8, 9), rfl, nle rfl, tG5 (i := 3) (by decide +kernel) (by decide +kernel), uw_X8, nmX8, ⟨tyX8, tyX8_ok⟩, rfl, by decide +kernel, (fun h => by cases h)⟩
theorem fl_X8_80 : FL RX8 80 8 2 := ⟨(RX8, TX8, 9), rfl, nle rfl, tG5 (i := 5) (by decide +kernel) (by decide +kernel), uw_X8⟩
theorem pl_X8_80 : PL RX8 80 8 2 .int false := ⟨(RX8, TX8, 9), rfl, nle rfl, tG5 (i := 5) (by decide +kernel) (by decide +kernel), uw_X8, nmX8, ⟨tyX8, tyX8_ok⟩, rfl, by decide +kernel, (fun h => by cases h)⟩
theorem fl_X8_86 : FL RX8 86 8 5 := ⟨(RX8, TX8, 9), rfl, nle rfl, tG5 (i := 8) (by decide +kernel) (by decide +kernel), uw_X8⟩
theorem pl_X8_86 : PL RX8 86 8 5 .int false := ⟨(RX8, TX8, 9), rfl, nle rfl, tG5 (i := 8) (by decide +kernel) (by decide +kernel), uw_X8, nmX8, ⟨tyX8, tyX8_ok⟩, rfl, by decide +kernel, (fun h => by cases h)⟩
theorem fl_X8_93 : FL RX8 93 8 6 := ⟨(RX8, TX8, 9), rfl, nle rfl, tG5 (i := 9) (by decide +kernel) (by decide +kernel), uw_X8⟩
theorem pl_X8_93 : PL RX8 93 8 6 .int false := ⟨(RX8, TX8, 9), rfl, nle rfl, tG5 (i := 9) (by decide +kernel) (by decide +kernel), uw_X8, nmX8, ⟨tyX8, tyX8_ok⟩, rfl, by decide +kernel, (fun h => by cases h)⟩
theorem fl_X8_102 : FL RX8 102 8 7 := ⟨(RX8, TX8, 9), rfl, nle rfl, tG5 (i := 10) (by decide +kernel) (by decide +kernel), uw_X8⟩
theorem pl_X8_102 : PL RX8 102 8 7 .int false := ⟨(RX8, TX8, 9), rfl, nle rfl, tG5 (i := 10) (by decide +kernel) (by decide +kernel), uw_X8, nmX8, ⟨tyX8, tyX8_ok⟩, rfl, by decide +kernel, (fun h => by cases h)⟩
theorem kc_X7_314 : Cond.constantLong RX7 314 100000 ∈ tblG := tG4 (i := 197) (by decide +kernel) (by decide +kernel)
theorem kc_X7_319 : Cond.constantLong RX7 319 6364136223846793005 ∈ tblG := tG4 (i := 209) (by decide +kernel) (by decide +kernel)
theorem kc_X7_321 : Cond.constantLong RX7 321 1442695040888963407 ∈ tblG := tG4 (i := 210) (by decide +kernel) (by decide +kernel)
theorem kc_L_206 : Cond.constantLong RL 206 4294967295 ∈ tblG := tG6 (i := 155) (by decide +kernel) (by decide +kernel)
theorem kc_X8_218 : Cond.constantLong RX8 218 100000 ∈ tblG := tG6 (i := 126) (by decide +kernel) (by decide +kernel)
theorem kc_X8_220 : Cond.constantLong RX8 220 10000000000 ∈ tblG := tG6 (i := 127) (by decide +kernel) (by decide +kernel)
theorem kc_X8_222 : Cond.constantLong RX8 222 1000000000000000 ∈ tblG := tG6 (i := 128) (by decide +kernel) (by decide +kernel)
theorem kc_X8_231 : Cond.constantLong RX8 231 6364136223846793005 ∈ tblG := tG6 (i := 137) (by decide +kernel) (by decide +kernel)
theorem kc_X8_233 : Cond.constantLong RX8 233 1442695040888963407 ∈ tblG := tG6 (i := 138) (by decide +kernel) (by decide +kernel)
theorem kc_J6_265 : Cond.constant RJ6 265 1431655765 ∈ tblG := tG3 (i := 151) (by decide +kernel) (by decide +kernel)
theorem kc_J6_266 : Cond.constant RJ6 266 858993459 ∈ tblG := tG3 (i := 152) (by decide +kernel) (by decide +kernel)
theorem kc_J6_267 : Cond.constant RJ6 267 252645135 ∈ tblG := tG3 (i := 153) (by decide +kernel) (by decide +kernel)
theorem bk_6 : (Int8.ofInt (6)).toInt32 = 6 := by decide
theorem bk_7 : (Int8.ofInt (7)).toInt32 = 7 := by decide
theorem bk_8 : (Int8.ofInt (8)).toInt32 = 8 := by decide
theorem bk_9 : (Int8.ofInt (9)).toInt32 = 9 := by decide
theorem bk_10 : (Int8.ofInt (10)).toInt32 = 10 := by decide
theorem bk_11 : (Int8.ofInt (11)).toInt32 = 11 := by decide
theorem bk_12 : (Int8.ofInt (12)).toInt32 = 12 := by decide
theorem bk_13 : (Int8.ofInt (13)).toInt32 = 13 := by decide
theorem bk_14 : (Int8.ofInt (14)).toInt32 = 14 := by decide
theorem bk_15 : (Int8.ofInt (15)).toInt32 = 15 := by decide
theorem bk_16 : (Int8.ofInt (16)).toInt32 = 16 := by decide
theorem bk_17 : (Int8.ofInt (17)).toInt32 = 17 := by decide
theorem bk_29 : (Int8.ofInt (29)).toInt32 = 29 := by decide
theorem bk_30 : (Int8.ofInt (30)).toInt32 = 30 := by decide
theorem bk_31 : (Int8.ofInt (31)).toInt32 = 31 := by decide
theorem bk_32 : (Int8.ofInt (32)).toInt32 = 32 := by decide
theorem bk_33 : (Int8.ofInt (33)).toInt32 = 33 := by decide
theorem bk_36 : (Int8.ofInt (36)).toInt32 = 36 := by decide
theorem bk_39 : (Int8.ofInt (39)).toInt32 = 39 := by decide
theorem bk_48 : (Int8.ofInt (48)).toInt32 = 48 := by decide
theorem bk_50 : (Int8.ofInt (50)).toInt32 = 50 := by decide
theorem bk_60 : (Int8.ofInt (60)).toInt32 = 60 := by decide
theorem bk_61 : (Int8.ofInt (61)).toInt32 = 61 := by decide
theorem bk_63 : (Int8.ofInt (63)).toInt32 = 63 := by decide
theorem bk_83 : (Int8.ofInt (83)).toInt32 = 83 := by decide
theorem bk_90 : (Int8.ofInt (90)).toInt32 = 90 := by decide
theorem bk_99 : (Int8.ofInt (99)).toInt32 = 99 := by decide
theorem bk_100 : (Int8.ofInt (100)).toInt32 = 100 := by decide
theorem bk_101 : (Int8.ofInt (101)).toInt32 = 101 := by decide
theorem bk_102 : (Int8.ofInt (102)).toInt32 = 102 := by decide
theorem bk_108 : (Int8.ofInt (108)).toInt32 = 108 := by decide
theorem bk_112 : (Int8.ofInt (112)).toInt32 = 112 := by decide
theorem bk_116 : (Int8.ofInt (116)).toInt32 = 116 := by decide
theorem bk_119 : (Int8.ofInt (119)).toInt32 = 119 := by decide
theorem bk_120 : (Int8.ofInt (120)).toInt32 = 120 := by decide
theorem ik_m1 : Int32.ofInt (-1) = -1 := by decide
theorem ik_0 : Int32.ofInt (0) = 0 := by decide
theorem ik_1 : Int32.ofInt (1) = 1 := by decide
theorem ik_2 : Int32.ofInt (2) = 2 := by decide
theorem ik_3 : Int32.ofInt (3) = 3 := by decide
theorem ik_4 : Int32.ofInt (4) = 4 := by decide
theorem ik_5 : Int32.ofInt (5) = 5 := by decide
theorem sk_128 : (Int16.ofInt (128)).toInt32 = 128 := by decide
theorem sk_129 : (Int16.ofInt (129)).toInt32 = 129 := by decide
theorem sk_189 : (Int16.ofInt (189)).toInt32 = 189 := by decide
theorem sk_255 : (Int16.ofInt (255)).toInt32 = 255 := by decide
theorem sk_256 : (Int16.ofInt (256)).toInt32 = 256 := by decide
theorem sk_1000 : (Int16.ofInt (1000)).toInt32 = 1000 := by decide
theorem sk_1024 : (Int16.ofInt (1024)).toInt32 = 1024 := by decide
theorem sk_3402 : (Int16.ofInt (3402)).toInt32 = 3402 := by decide
theorem sk_8192 : (Int16.ofInt (8192)).toInt32 = 8192 := by decide
theorem sk_10000 : (Int16.ofInt (10000)).toInt32 = 10000 := by decide
theorem sk_30001 : (Int16.ofInt (30001)).toInt32 = 30001 := by decide
theorem sk_30009 : (Int16.ofInt (30009)).toInt32 = 30009 := by decide
end
section
def B_X0_init_0 : List (Instr × Nat) := [(.aload_n 0, 1), (.invokespecial 3, 3), (.return_, 1)]
theorem L_X0_init_0 : CdAt m_X0_init.2.1 0 B_X0_init_0 := at_of (by decide +kernel)
def B_X0_copyFrom_0 : List (Instr × Nat) := [(.aload_n 0, 1), (.aload_n 1, 1), (.getfield 9, 3), (.putfield 9, 3), (.aload_n 0, 1), (.aload_n 1, 1), (.getfield 15, 3), (.putfield 15, 3), (.aload_n 0, 1), (.aload_n 1, 1), (.getfield 18, 3), (.putfield 18, 3), (.aload_n 0, 1), (.aload_n 1, 1), (.getfield 21, 3), (.putfield 21, 3), (.return_, 1)]
theorem L_X0_copyFrom_0 : CdAt m_X0_copyFrom.2.1 0 B_X0_copyFrom_0 := at_of (by decide +kernel)
def B_X0_usesSoFar_0 : List (Instr × Nat) := [(.bipush 10, 2), (.aload_n 0, 1), (.getfield 21, 3), (.imul, 1), (.aload_n 0, 1), (.getfield 18, 3), (.isub, 1), (.ireturn, 1)]
theorem L_X0_usesSoFar_0 : CdAt m_X0_usesSoFar.2.1 0 B_X0_usesSoFar_0 := at_of (by decide +kernel)
def B_X0_dance_0 : List (Instr × Nat) := [(.aload_n 0, 1), (.dup, 1), (.getfield 18, 3), (.iconst 1, 1), (.isub, 1), (.putfield 18, 3), (.aload_n 0, 1), (.dup, 1), (.getfield 15, 3), (.iload_n 1, 1), (.aload_n 0, 1), (.getfield 9, 3), (.if_icmp .lt 7, 3), (.iload_n 1, 1), (.goto 4, 3)]
theorem L_X0_dance_0 : CdAt m_X0_dance.2.1 0 B_X0_dance_0 := at_of (by decide +kernel)
def B_X0_dance_27 : List (Instr × Nat) := [(.iconst 1, 1)]
theorem L_X0_dance_27 : CdAt m_X0_dance.2.1 27 B_X0_dance_27 := at_of (by decide +kernel)
def B_X0_dance_28 : List (Instr × Nat) := [(.iadd, 1), (.putfield 15, 3), (.return_, 1)]
theorem L_X0_dance_28 : CdAt m_X0_dance.2.1 28 B_X0_dance_28 := at_of (by decide +kernel)
def B_X0_riseWith_0 : List (Instr × Nat) := [(.aload_n 0, 1), (.getfield 15, 3), (.iload_n 1, 1), (.if_icmp .lt 26, 3), (.aload_n 0, 1), (.getfield 9, 3), (.iconst 5, 1), (.if_icmp .ge 18, 3), (.aload_n 0, 1), (.dup, 1), (.getfield 9, 3), (.iconst 1, 1), (.iadd, 1), (.putfield 9, 3), (.aload_n 0, 1), (.iconst 0, 1), (.putfield 15, 3)]
theorem L_X0_riseWith_0 : CdAt m_X0_riseWith.2.1 0 B_X0_riseWith_0 := at_of (by decide +kernel)
def B_X0_riseWith_31 : List (Instr × Nat) := [(.return_, 1)]
theorem L_X0_riseWith_31 : CdAt m_X0_riseWith.2.1 31 B_X0_riseWith_31 := at_of (by decide +kernel)
def B_X1_init_0 : List (Instr × Nat) := [(.aload_n 0, 1), (.invokespecial 3, 3), (.return_, 1)]
theorem L_X1_init_0 : CdAt m_X1_init.2.1 0 B_X1_init_0 := at_of (by decide +kernel)
def B_X1_copyFrom_0 : List (Instr × Nat) := [(.aload_n 0, 1), (.aload_n 1, 1), (.getfield 9, 3), (.putfield 9, 3), (.aload_n 0, 1), (.aload_n 1, 1), (.getfield 15, 3), (.putfield 15, 3), (.aload_n 0, 1), (.aload_n 1, 1), (.getfield 18, 3), (.putfield 18, 3), (.aload_n 0, 1), (.aload_n 1, 1), (.getfield 21, 3), (.putfield 21, 3), (.return_, 1)]
theorem L_X1_copyFrom_0 : CdAt m_X1_copyFrom.2.1 0 B_X1_copyFrom_0 := at_of (by decide +kernel)
def B_X1_hasSpringFor_0 : List (Instr × Nat) := [(.iload_n 1, 1), (.tableswitch 71 0 2 #[27, 41, 55], 27)]
theorem L_X1_hasSpringFor_0 : CdAt m_X1_hasSpringFor.2.1 0 B_X1_hasSpringFor_0 := at_of (by decide +kernel)
def B_X1_hasSpringFor_28 : List (Instr × Nat) := [(.aload_n 0, 1), (.getfield 9, 3), (.iconst 4, 1), (.if_icmp .lt 7, 3), (.iconst 1, 1), (.goto 4, 3)]
theorem L_X1_hasSpringFor_28 : CdAt m_X1_hasSpringFor.2.1 28 B_X1_hasSpringFor_28 := at_of (by decide +kernel)
def B_X1_hasSpringFor_40 : List (Instr × Nat) := [(.iconst 0, 1)]
theorem L_X1_hasSpringFor_40 : CdAt m_X1_hasSpringFor.2.1 40 B_X1_hasSpringFor_40 := at_of (by decide +kernel)
def B_X1_hasSpringFor_41 : List (Instr × Nat) := [(.ireturn, 1)]
theorem L_X1_hasSpringFor_41 : CdAt m_X1_hasSpringFor.2.1 41 B_X1_hasSpringFor_41 := at_of (by decide +kernel)
def B_X1_hasSpringFor_42 : List (Instr × Nat) := [(.aload_n 0, 1), (.getfield 9, 3), (.iconst 5, 1), (.if_icmp .gt 7, 3), (.iconst 1, 1), (.goto 4, 3)]
theorem L_X1_hasSpringFor_42 : CdAt m_X1_hasSpringFor.2.1 42 B_X1_hasSpringFor_42 := at_of (by decide +kernel)
def B_X1_hasSpringFor_54 : List (Instr × Nat) := [(.iconst 0, 1)]
theorem L_X1_hasSpringFor_54 : CdAt m_X1_hasSpringFor.2.1 54 B_X1_hasSpringFor_54 := at_of (by decide +kernel)
def B_X1_hasSpringFor_55 : List (Instr × Nat) := [(.ireturn, 1)]
theorem L_X1_hasSpringFor_55 : CdAt m_X1_hasSpringFor.2.1 55 B_X1_hasSpringFor_55 := at_of (by decide +kernel)
def B_X1_hasSpringFor_56 : List (Instr × Nat) := [(.aload_n 0, 1), (.getfield 9, 3), (.iconst 3, 1), (.iload_n 2, 1), (.iadd, 1), (.if_icmp .lt 7, 3), (.iconst 1, 1), (.goto 4, 3)]
theorem L_X1_hasSpringFor_56 : CdAt m_X1_hasSpringFor.2.1 56 B_X1_hasSpringFor_56 := at_of (by decide +kernel)
def B_X1_hasSpringFor_70 : List (Instr × Nat) := [(.iconst 0, 1)]
theorem L_X1_hasSpringFor_70 : CdAt m_X1_hasSpringFor.2.1 70 B_X1_hasSpringFor_70 := at_of (by decide +kernel)
def B_X1_hasSpringFor_71 : List (Instr × Nat) := [(.ireturn, 1)]
theorem L_X1_hasSpringFor_71 : CdAt m_X1_hasSpringFor.2.1 71 B_X1_hasSpringFor_71 := at_of (by decide +kernel)
def B_X1_hasSpringFor_72 : List (Instr × Nat) := [(.iconst 1, 1), (.ireturn, 1)]
theorem L_X1_hasSpringFor_72 : CdAt m_X1_hasSpringFor.2.1 72 B_X1_hasSpringFor_72 := at_of (by decide +kernel)
def B_X1_hasBarreFor_0 : List (Instr × Nat) := [(.iload_n 1, 1), (.ifCond .ne 15, 3), (.aload_n 0, 1), (.getfield 18, 3), (.iconst 2, 1), (.iload_n 2, 1), (.imul, 1), (.iconst 4, 1), (.iadd, 1), (.if_icmp .lt 7, 3)]
theorem L_X1_hasBarreFor_0 : CdAt m_X1_hasBarreFor.2.1 0 B_X1_hasBarreFor_0 := at_of (by decide +kernel)
def B_X1_hasBarreFor_16 : List (Instr × Nat) := [(.iconst 1, 1), (.goto 4, 3)]
theorem L_X1_hasBarreFor_16 : CdAt m_X1_hasBarreFor.2.1 16 B_X1_hasBarreFor_16 := at_of (by decide +kernel)
def B_X1_hasBarreFor_20 : List (Instr × Nat) := [(.iconst 0, 1)]
theorem L_X1_hasBarreFor_20 : CdAt m_X1_hasBarreFor.2.1 20 B_X1_hasBarreFor_20 := at_of (by decide +kernel)
def B_X1_hasBarreFor_21 : List (Instr × Nat) := [(.ireturn, 1)]
theorem L_X1_hasBarreFor_21 : CdAt m_X1_hasBarreFor.2.1 21 B_X1_hasBarreFor_21 := at_of (by decide +kernel)
def B_X1_hasMirrorsFor_0 : List (Instr × Nat) := [(.iload_n 1, 1), (.lookupswitch 57 #[(0, 27), (1, 43)], 27)]
theorem L_X1_hasMirrorsFor_0 : CdAt m_X1_hasMirrorsFor.2.1 0 B_X1_hasMirrorsFor_0 := at_of (by decide +kernel)
def B_X1_hasMirrorsFor_28 : List (Instr × Nat) := [(.aload_n 0, 1), (.getfield 15, 3), (.iload_n 2, 1), (.iconst 2, 1), (.idiv, 1), (.if_icmp .lt 7, 3), (.iconst 1, 1), (.goto 4, 3)]
theorem L_X1_hasMirrorsFor_28 : CdAt m_X1_hasMirrorsFor.2.1 28 B_X1_hasMirrorsFor_28 := at_of (by decide +kernel)
def B_X1_hasMirrorsFor_42 : List (Instr × Nat) := [(.iconst 0, 1)]
theorem L_X1_hasMirrorsFor_42 : CdAt m_X1_hasMirrorsFor.2.1 42 B_X1_hasMirrorsFor_42 := at_of (by decide +kernel)
def B_X1_hasMirrorsFor_43 : List (Instr × Nat) := [(.ireturn, 1)]
theorem L_X1_hasMirrorsFor_43 : CdAt m_X1_hasMirrorsFor.2.1 43 B_X1_hasMirrorsFor_43 := at_of (by decide +kernel)
def B_X1_hasMirrorsFor_44 : List (Instr × Nat) := [(.aload_n 0, 1), (.getfield 15, 3), (.iconst 1, 1), (.if_icmp .lt 7, 3), (.iconst 1, 1), (.goto 4, 3)]
theorem L_X1_hasMirrorsFor_44 : CdAt m_X1_hasMirrorsFor.2.1 44 B_X1_hasMirrorsFor_44 := at_of (by decide +kernel)
def B_X1_hasMirrorsFor_56 : List (Instr × Nat) := [(.iconst 0, 1)]
theorem L_X1_hasMirrorsFor_56 : CdAt m_X1_hasMirrorsFor.2.1 56 B_X1_hasMirrorsFor_56 := at_of (by decide +kernel)
def B_X1_hasMirrorsFor_57 : List (Instr × Nat) := [(.ireturn, 1)]
theorem L_X1_hasMirrorsFor_57 : CdAt m_X1_hasMirrorsFor.2.1 57 B_X1_hasMirrorsFor_57 := at_of (by decide +kernel)
def B_X1_hasMirrorsFor_58 : List (Instr × Nat) := [(.iconst 1, 1), (.ireturn, 1)]
theorem L_X1_hasMirrorsFor_58 : CdAt m_X1_hasMirrorsFor.2.1 58 B_X1_hasMirrorsFor_58 := at_of (by decide +kernel)
def B_X1_roomFor_0 : List (Instr × Nat) := [(.iload_n 1, 1), (.ifCond .ne 19, 3), (.aload_n 0, 1), (.getfield 21, 3), (.aload_n 0, 1), (.getfield 18, 3), (.iconst 2, 1), (.idiv, 1), (.invokestatic 24, 3), (.goto 7, 3)]
theorem L_X1_roomFor_0 : CdAt m_X1_roomFor.2.1 0 B_X1_roomFor_0 := at_of (by decide +kernel)
def B_X1_roomFor_20 : List (Instr × Nat) := [(.aload_n 0, 1), (.getfield 21, 3)]
theorem L_X1_roomFor_20 : CdAt m_X1_roomFor.2.1 20 B_X1_roomFor_20 := at_of (by decide +kernel)
def B_X1_roomFor_24 : List (Instr × Nat) := [(.ireturn, 1)]
theorem L_X1_roomFor_24 : CdAt m_X1_roomFor.2.1 24 B_X1_roomFor_24 := at_of (by decide +kernel)
def B_X2_init_0 : List (Instr × Nat) := [(.aload_n 0, 1), (.invokespecial 3, 3), (.aload_n 0, 1), (.bipush 14, 2), (.anewarray 9, 3), (.putfield 11, 3), (.iconst 0, 1), (.istore_n 1, 1)]
theorem L_X2_init_0 : CdAt m_X2_init.2.1 0 B_X2_init_0 := at_of (by decide +kernel)
def B_X2_init_15 : List (Instr × Nat) := [(.iload_n 1, 1), (.bipush 14, 2), (.if_icmp .ge 22, 3), (.aload_n 0, 1), (.getfield 11, 3), (.iload_n 1, 1), (.new 9, 3), (.dup, 1), (.invokespecial 17, 3), (.aastore, 1), (.iinc 1 1, 3), (.goto (-22), 3)]
theorem L_X2_init_15 : CdAt m_X2_init.2.1 15 B_X2_init_15 := at_of (by decide +kernel)
def B_X2_init_40 : List (Instr × Nat) := [(.return_, 1)]
theorem L_X2_init_40 : CdAt m_X2_init.2.1 40 B_X2_init_40 := at_of (by decide +kernel)
def B_X2_remember_0 : List (Instr × Nat) := [(.aload_n 0, 1), (.getfield 11, 3), (.aload_n 0, 1), (.getfield 18, 3), (.aload_n 0, 1), (.getfield 22, 3), (.iadd, 1), (.bipush 14, 2), (.irem, 1), (.aaload, 1), (.aload_n 1, 1), (.invokevirtual 25, 3), (.aload_n 0, 1), (.getfield 22, 3), (.bipush 14, 2), (.if_icmp .ge 16, 3), (.aload_n 0, 1), (.dup, 1), (.getfield 22, 3), (.iconst 1, 1), (.iadd, 1), (.putfield 22, 3), (.goto 16, 3)]
theorem L_X2_remember_0 : CdAt m_X2_remember.2.1 0 B_X2_remember_0 := at_of (by decide +kernel)
def B_X2_remember_43 : List (Instr × Nat) := [(.aload_n 0, 1), (.aload_n 0, 1), (.getfield 18, 3), (.iconst 1, 1), (.iadd, 1), (.bipush 14, 2), (.irem, 1), (.putfield 18, 3)]
theorem L_X2_remember_43 : CdAt m_X2_remember.2.1 43 B_X2_remember_43 := at_of (by decide +kernel)
def B_X2_remember_56 : List (Instr × Nat) := [(.return_, 1)]
theorem L_X2_remember_56 : CdAt m_X2_remember.2.1 56 B_X2_remember_56 := at_of (by decide +kernel)
def B_X2_takeBack_0 : List (Instr × Nat) := [(.aload_n 0, 1), (.getfield 22, 3), (.ifCond .le 34, 3), (.aload_n 0, 1), (.dup, 1), (.getfield 22, 3), (.iconst 1, 1), (.isub, 1), (.putfield 22, 3), (.aload_n 1, 1), (.aload_n 0, 1), (.getfield 11, 3), (.aload_n 0, 1), (.getfield 18, 3), (.aload_n 0, 1), (.getfield 22, 3), (.iadd, 1), (.bipush 14, 2), (.irem, 1), (.aaload, 1), (.invokevirtual 25, 3)]
theorem L_X2_takeBack_0 : CdAt m_X2_takeBack.2.1 0 B_X2_takeBack_0 := at_of (by decide +kernel)
def B_X2_takeBack_38 : List (Instr × Nat) := [(.aload_n 0, 1), (.getfield 22, 3), (.ireturn, 1)]
theorem L_X2_takeBack_38 : CdAt m_X2_takeBack.2.1 38 B_X2_takeBack_38 := at_of (by decide +kernel)
def B_X2_forgetAll_0 : List (Instr × Nat) := [(.aload_n 0, 1), (.iconst 0, 1), (.putfield 18, 3), (.aload_n 0, 1), (.iconst 0, 1), (.putfield 22, 3), (.return_, 1)]
theorem L_X2_forgetAll_0 : CdAt m_X2_forgetAll.2.1 0 B_X2_forgetAll_0 := at_of (by decide +kernel)
def B_X3_init_0 : List (Instr × Nat) := [(.aload_n 0, 1), (.invokespecial 1, 3), (.return_, 1)]
theorem L_X3_init_0 : CdAt m_X3_init.2.1 0 B_X3_init_0 := at_of (by decide +kernel)
def B_X3_copyFrom_0 : List (Instr × Nat) := [(.aload_n 0, 1), (.aload_n 1, 1), (.getfield 7, 3), (.putfield 7, 3), (.aload_n 0, 1), (.aload_n 1, 1), (.getfield 13, 3), (.putfield 13, 3), (.aload_n 0, 1), (.aload_n 1, 1), (.getfield 16, 3), (.putfield 16, 3), (.aload_n 0, 1), (.aload_n 1, 1), (.getfield 19, 3), (.putfield 19, 3), (.aload_n 0, 1), (.aload_n 1, 1), (.getfield 22, 3), (.putfield 22, 3), (.aload_n 0, 1), (.aload_n 1, 1), (.getfield 25, 3), (.putfield 25, 3), (.aload_n 0, 1), (.aload_n 1, 1), (.getfield 28, 3), (.putfield 28, 3), (.aload_n 0, 1), (.aload_n 1, 1), (.getfield 31, 3), (.putfield 31, 3), (.aload_n 0, 1), (.aload_n 1, 1), (.getfield 34, 3), (.putfield 34, 3), (.return_, 1)]
theorem L_X3_copyFrom_0 : CdAt m_X3_copyFrom.2.1 0 B_X3_copyFrom_0 := at_of (by decide +kernel)
def B_X3_isAt_0 : List (Instr × Nat) := [(.aload_n 0, 1), (.getfield 22, 3), (.iload_n 1, 1), (.if_icmp .ne 15, 3), (.aload_n 0, 1), (.getfield 25, 3), (.iload_n 2, 1), (.if_icmp .ne 7, 3), (.iconst 1, 1), (.goto 4, 3)]
theorem L_X3_isAt_0 : CdAt m_X3_isAt.2.1 0 B_X3_isAt_0 := at_of (by decide +kernel)
def B_X3_isAt_20 : List (Instr × Nat) := [(.iconst 0, 1)]
theorem L_X3_isAt_20 : CdAt m_X3_isAt.2.1 20 B_X3_isAt_20 := at_of (by decide +kernel)
def B_X3_isAt_21 : List (Instr × Nat) := [(.ireturn, 1)]
theorem L_X3_isAt_21 : CdAt m_X3_isAt.2.1 21 B_X3_isAt_21 := at_of (by decide +kernel)
def B_X3_seatsDancer_0 : List (Instr × Nat) := [(.aload_n 0, 1), (.getfield 28, 3), (.iload_n 1, 1), (.ishr, 1), (.iconst 1, 1), (.iand, 1), (.iconst 1, 1), (.if_icmp .ne 7, 3), (.iconst 1, 1), (.goto 4, 3)]
theorem L_X3_seatsDancer_0 : CdAt m_X3_seatsDancer.2.1 0 B_X3_seatsDancer_0 := at_of (by decide +kernel)
def B_X3_seatsDancer_16 : List (Instr × Nat) := [(.iconst 0, 1)]
theorem L_X3_seatsDancer_16 : CdAt m_X3_seatsDancer.2.1 16 B_X3_seatsDancer_16 := at_of (by decide +kernel)
def B_X3_seatsDancer_17 : List (Instr × Nat) := [(.ireturn, 1)]
theorem L_X3_seatsDancer_17 : CdAt m_X3_seatsDancer.2.1 17 B_X3_seatsDancer_17 := at_of (by decide +kernel)
def B_X3_countSeats_0 : List (Instr × Nat) := [(.aload_n 0, 1), (.getfield 28, 3), (.invokestatic 37, 3), (.ireturn, 1)]
theorem L_X3_countSeats_0 : CdAt m_X3_countSeats.2.1 0 B_X3_countSeats_0 := at_of (by decide +kernel)
def B_X4_init_0 : List (Instr × Nat) := [(.aload_n 0, 1), (.invokespecial 3, 3), (.aload_n 0, 1), (.iconst 4, 1), (.anewarray 9, 3), (.putfield 11, 3), (.iconst 0, 1), (.istore_n 1, 1)]
theorem L_X4_init_0 : CdAt m_X4_init.2.1 0 B_X4_init_0 := at_of (by decide +kernel)
def B_X4_init_14 : List (Instr × Nat) := [(.iload_n 1, 1), (.iconst 4, 1), (.if_icmp .ge 22, 3), (.aload_n 0, 1), (.getfield 11, 3), (.iload_n 1, 1), (.new 9, 3), (.dup, 1), (.invokespecial 17, 3), (.aastore, 1), (.iinc 1 1, 3), (.goto (-21), 3)]
theorem L_X4_init_14 : CdAt m_X4_init.2.1 14 B_X4_init_14 := at_of (by decide +kernel)
def B_X4_init_38 : List (Instr × Nat) := [(.aload_n 0, 1), (.iconst 5, 1), (.anewarray 18, 3), (.putfield 20, 3), (.iconst 0, 1), (.istore_n 1, 1)]
theorem L_X4_init_38 : CdAt m_X4_init.2.1 38 B_X4_init_38 := at_of (by decide +kernel)
def B_X4_init_48 : List (Instr × Nat) := [(.iload_n 1, 1), (.iconst 5, 1), (.if_icmp .ge 22, 3), (.aload_n 0, 1), (.getfield 20, 3), (.iload_n 1, 1), (.new 18, 3), (.dup, 1), (.invokespecial 24, 3), (.aastore, 1), (.iinc 1 1, 3), (.goto (-21), 3)]
theorem L_X4_init_48 : CdAt m_X4_init.2.1 48 B_X4_init_48 := at_of (by decide +kernel)
def B_X4_init_72 : List (Instr × Nat) := [(.aload_n 0, 1), (.bipush 10, 2), (.anewarray 25, 3), (.putfield 27, 3), (.iconst 0, 1), (.istore_n 1, 1)]
theorem L_X4_init_72 : CdAt m_X4_init.2.1 72 B_X4_init_72 := at_of (by decide +kernel)
def B_X4_init_83 : List (Instr × Nat) := [(.iload_n 1, 1), (.bipush 10, 2), (.if_icmp .ge 22, 3), (.aload_n 0, 1), (.getfield 27, 3), (.iload_n 1, 1), (.new 25, 3), (.dup, 1), (.invokespecial 31, 3), (.aastore, 1), (.iinc 1 1, 3), (.goto (-22), 3)]
theorem L_X4_init_83 : CdAt m_X4_init.2.1 83 B_X4_init_83 := at_of (by decide +kernel)
def B_X4_init_108 : List (Instr × Nat) := [(.aload_n 0, 1), (.bipush 12, 2), (.anewarray 32, 3), (.putfield 34, 3), (.iconst 0, 1), (.istore_n 1, 1)]
theorem L_X4_init_108 : CdAt m_X4_init.2.1 108 B_X4_init_108 := at_of (by decide +kernel)
def B_X4_init_119 : List (Instr × Nat) := [(.iload_n 1, 1), (.bipush 12, 2), (.if_icmp .ge 22, 3), (.aload_n 0, 1), (.getfield 34, 3), (.iload_n 1, 1), (.new 32, 3), (.dup, 1), (.invokespecial 38, 3), (.aastore, 1), (.iinc 1 1, 3), (.goto (-22), 3)]
theorem L_X4_init_119 : CdAt m_X4_init.2.1 119 B_X4_init_119 := at_of (by decide +kernel)
def B_X4_init_144 : List (Instr × Nat) := [(.aload_n 0, 1), (.iconst 2, 1), (.newarray .int, 2), (.putfield 39, 3), (.aload_n 0, 1), (.invokevirtual 43, 3), (.return_, 1)]
theorem L_X4_init_144 : CdAt m_X4_init.2.1 144 B_X4_init_144 := at_of (by decide +kernel)
def B_X4_makeNew_0 : List (Instr × Nat) := [(.aload_n 0, 1), (.iconst 0, 1), (.putfield 46, 3), (.aload_n 0, 1), (.iconst 0, 1), (.putfield 50, 3), (.aload_n 0, 1), (.iconst 0, 1), (.putfield 53, 3), (.aload_n 0, 1), (.iconst 0, 1), (.putfield 56, 3), (.aload_n 0, 1), (.iconst 0, 1), (.putfield 59, 3), (.aload_n 0, 1), (.iconst 0, 1), (.putfield 62, 3), (.aload_n 0, 1), (.iconst 0, 1), (.putfield 65, 3), (.aload_n 0, 1), (.iconst 0, 1), (.putfield 68, 3), (.aload_n 0, 1), (.iconst 0, 1), (.putfield 71, 3), (.aload_n 0, 1), (.getfield 39, 3), (.iconst 0, 1), (.iconst 2, 1), (.iastore, 1), (.aload_n 0, 1), (.getfield 39, 3), (.iconst 1, 1), (.bipush 12, 2), (.iastore, 1), (.return_, 1)]
theorem L_X4_makeNew_0 : CdAt m_X4_makeNew.2.1 0 B_X4_makeNew_0 := at_of (by decide +kernel)
def B_X4_copyFrom_0 : List (Instr × Nat) := [(.aload_n 0, 1), (.aload_n 1, 1), (.getfield 46, 3), (.putfield 46, 3), (.aload_n 0, 1), (.aload_n 1, 1), (.getfield 50, 3), (.putfield 50, 3), (.aload_n 0, 1), (.aload_n 1, 1), (.getfield 53, 3), (.putfield 53, 3), (.aload_n 0, 1), (.aload_n 1, 1), (.getfield 56, 3), (.putfield 56, 3), (.aload_n 0, 1), (.aload_n 1, 1), (.getfield 59, 3), (.putfield 59, 3), (.aload_n 0, 1), (.aload_n 1, 1), (.getfield 62, 3), (.putfield 62, 3), (.aload_n 0, 1), (.aload_n 1, 1), (.getfield 65, 3), (.putfield 65, 3), (.aload_n 0, 1), (.aload_n 1, 1), (.getfield 68, 3), (.putfield 68, 3), (.aload_n 0, 1), (.aload_n 1, 1), (.getfield 71, 3), (.putfield 71, 3), (.aload_n 0, 1), (.getfield 39, 3), (.iconst 0, 1), (.aload_n 1, 1), (.getfield 39, 3), (.iconst 0, 1), (.iaload, 1), (.iastore, 1), (.aload_n 0, 1), (.getfield 39, 3), (.iconst 1, 1), (.aload_n 1, 1), (.getfield 39, 3), (.iconst 1, 1), (.iaload, 1), (.iastore, 1), (.aload_n 0, 1), (.aload_n 1, 1), (.invokevirtual 74, 3), (.return_, 1)]
theorem L_X4_copyFrom_0 : CdAt m_X4_copyFrom.2.1 0 B_X4_copyFrom_0 := at_of (by decide +kernel)
def B_X4_copyRowsFrom_0 : List (Instr × Nat) := [(.iconst 0, 1), (.istore_n 2, 1)]
theorem L_X4_copyRowsFrom_0 : CdAt m_X4_copyRowsFrom.2.1 0 B_X4_copyRowsFrom_0 := at_of (by decide +kernel)
def B_X4_copyRowsFrom_2 : List (Instr × Nat) := [(.iload_n 2, 1), (.aload_n 0, 1), (.getfield 46, 3), (.if_icmp .ge 24, 3), (.aload_n 0, 1), (.getfield 11, 3), (.iload_n 2, 1), (.aaload, 1), (.aload_n 1, 1), (.getfield 11, 3), (.iload_n 2, 1), (.aaload, 1), (.invokevirtual 78, 3), (.iinc 2 1, 3), (.goto (-26), 3)]
theorem L_X4_copyRowsFrom_2 : CdAt m_X4_copyRowsFrom.2.1 2 B_X4_copyRowsFrom_2 := at_of (by decide +kernel)
def B_X4_copyRowsFrom_31 : List (Instr × Nat) := [(.iconst 0, 1), (.istore_n 2, 1)]
theorem L_X4_copyRowsFrom_31 : CdAt m_X4_copyRowsFrom.2.1 31 B_X4_copyRowsFrom_31 := at_of (by decide +kernel)
def B_X4_copyRowsFrom_33 : List (Instr × Nat) := [(.iload_n 2, 1), (.aload_n 0, 1), (.getfield 50, 3), (.if_icmp .ge 24, 3), (.aload_n 0, 1), (.getfield 20, 3), (.iload_n 2, 1), (.aaload, 1), (.aload_n 1, 1), (.getfield 20, 3), (.iload_n 2, 1), (.aaload, 1), (.invokevirtual 82, 3), (.iinc 2 1, 3), (.goto (-26), 3)]
theorem L_X4_copyRowsFrom_33 : CdAt m_X4_copyRowsFrom.2.1 33 B_X4_copyRowsFrom_33 := at_of (by decide +kernel)
def B_X4_copyRowsFrom_62 : List (Instr × Nat) := [(.iconst 0, 1), (.istore_n 2, 1)]
theorem L_X4_copyRowsFrom_62 : CdAt m_X4_copyRowsFrom.2.1 62 B_X4_copyRowsFrom_62 := at_of (by decide +kernel)
def B_X4_copyRowsFrom_64 : List (Instr × Nat) := [(.iload_n 2, 1), (.aload_n 0, 1), (.getfield 53, 3), (.if_icmp .ge 24, 3), (.aload_n 0, 1), (.getfield 27, 3), (.iload_n 2, 1), (.aaload, 1), (.aload_n 1, 1), (.getfield 27, 3), (.iload_n 2, 1), (.aaload, 1), (.invokevirtual 85, 3), (.iinc 2 1, 3), (.goto (-26), 3)]
theorem L_X4_copyRowsFrom_64 : CdAt m_X4_copyRowsFrom.2.1 64 B_X4_copyRowsFrom_64 := at_of (by decide +kernel)
def B_X4_copyRowsFrom_93 : List (Instr × Nat) := [(.iconst 0, 1), (.istore_n 2, 1)]
theorem L_X4_copyRowsFrom_93 : CdAt m_X4_copyRowsFrom.2.1 93 B_X4_copyRowsFrom_93 := at_of (by decide +kernel)
def B_X4_copyRowsFrom_95 : List (Instr × Nat) := [(.iload_n 2, 1), (.aload_n 0, 1), (.getfield 56, 3), (.if_icmp .ge 24, 3), (.aload_n 0, 1), (.getfield 34, 3), (.iload_n 2, 1), (.aaload, 1), (.aload_n 1, 1), (.getfield 34, 3), (.iload_n 2, 1), (.aaload, 1), (.invokevirtual 88, 3), (.iinc 2 1, 3), (.goto (-26), 3)]
theorem L_X4_copyRowsFrom_95 : CdAt m_X4_copyRowsFrom.2.1 95 B_X4_copyRowsFrom_95 := at_of (by decide +kernel)
def B_X4_copyRowsFrom_124 : List (Instr × Nat) := [(.return_, 1)]
theorem L_X4_copyRowsFrom_124 : CdAt m_X4_copyRowsFrom.2.1 124 B_X4_copyRowsFrom_124 := at_of (by decide +kernel)
def B_X4_hasFloor_0 : List (Instr × Nat) := [(.iload_n 1, 1), (.ifCond .lt 15, 3), (.iload_n 1, 1), (.aload_n 0, 1), (.getfield 46, 3), (.if_icmp .ge 7, 3), (.iconst 1, 1), (.goto 4, 3)]
theorem L_X4_hasFloor_0 : CdAt m_X4_hasFloor.2.1 0 B_X4_hasFloor_0 := at_of (by decide +kernel)
def B_X4_hasFloor_16 : List (Instr × Nat) := [(.iconst 0, 1)]
theorem L_X4_hasFloor_16 : CdAt m_X4_hasFloor.2.1 16 B_X4_hasFloor_16 := at_of (by decide +kernel)
def B_X4_hasFloor_17 : List (Instr × Nat) := [(.ireturn, 1)]
theorem L_X4_hasFloor_17 : CdAt m_X4_hasFloor.2.1 17 B_X4_hasFloor_17 := at_of (by decide +kernel)
def B_X4_hasTeacher_0 : List (Instr × Nat) := [(.iload_n 1, 1), (.ifCond .lt 15, 3), (.iload_n 1, 1), (.aload_n 0, 1), (.getfield 50, 3), (.if_icmp .ge 7, 3), (.iconst 1, 1), (.goto 4, 3)]
theorem L_X4_hasTeacher_0 : CdAt m_X4_hasTeacher.2.1 0 B_X4_hasTeacher_0 := at_of (by decide +kernel)
def B_X4_hasTeacher_16 : List (Instr × Nat) := [(.iconst 0, 1)]
theorem L_X4_hasTeacher_16 : CdAt m_X4_hasTeacher.2.1 16 B_X4_hasTeacher_16 := at_of (by decide +kernel)
def B_X4_hasTeacher_17 : List (Instr × Nat) := [(.ireturn, 1)]
theorem L_X4_hasTeacher_17 : CdAt m_X4_hasTeacher.2.1 17 B_X4_hasTeacher_17 := at_of (by decide +kernel)
def B_X4_hasLesson_0 : List (Instr × Nat) := [(.iload_n 1, 1), (.ifCond .lt 15, 3), (.iload_n 1, 1), (.aload_n 0, 1), (.getfield 53, 3), (.if_icmp .ge 7, 3), (.iconst 1, 1), (.goto 4, 3)]
theorem L_X4_hasLesson_0 : CdAt m_X4_hasLesson.2.1 0 B_X4_hasLesson_0 := at_of (by decide +kernel)
def B_X4_hasLesson_16 : List (Instr × Nat) := [(.iconst 0, 1)]
theorem L_X4_hasLesson_16 : CdAt m_X4_hasLesson.2.1 16 B_X4_hasLesson_16 := at_of (by decide +kernel)
def B_X4_hasLesson_17 : List (Instr × Nat) := [(.ireturn, 1)]
theorem L_X4_hasLesson_17 : CdAt m_X4_hasLesson.2.1 17 B_X4_hasLesson_17 := at_of (by decide +kernel)
def B_X4_hasDancer_0 : List (Instr × Nat) := [(.iload_n 1, 1), (.ifCond .lt 15, 3), (.iload_n 1, 1), (.aload_n 0, 1), (.getfield 56, 3), (.if_icmp .ge 7, 3), (.iconst 1, 1), (.goto 4, 3)]
theorem L_X4_hasDancer_0 : CdAt m_X4_hasDancer.2.1 0 B_X4_hasDancer_0 := at_of (by decide +kernel)
def B_X4_hasDancer_16 : List (Instr × Nat) := [(.iconst 0, 1)]
theorem L_X4_hasDancer_16 : CdAt m_X4_hasDancer.2.1 16 B_X4_hasDancer_16 := at_of (by decide +kernel)
def B_X4_hasDancer_17 : List (Instr × Nat) := [(.ireturn, 1)]
theorem L_X4_hasDancer_17 : CdAt m_X4_hasDancer.2.1 17 B_X4_hasDancer_17 := at_of (by decide +kernel)
def B_X4_hasSeat_0 : List (Instr × Nat) := [(.aload_n 0, 1), (.iload_n 1, 1), (.invokevirtual 91, 3), (.ifCond .eq 28, 3), (.aload_n 0, 1), (.iload_n 2, 1), (.invokevirtual 95, 3), (.ifCond .eq 20, 3), (.aload_n 0, 1), (.getfield 27, 3), (.iload_n 2, 1), (.aaload, 1), (.iload_n 1, 1), (.invokevirtual 98, 3), (.ifCond .eq 7, 3), (.iconst 1, 1), (.goto 4, 3)]
theorem L_X4_hasSeat_0 : CdAt m_X4_hasSeat.2.1 0 B_X4_hasSeat_0 := at_of (by decide +kernel)
def B_X4_hasSeat_33 : List (Instr × Nat) := [(.iconst 0, 1)]
theorem L_X4_hasSeat_33 : CdAt m_X4_hasSeat.2.1 33 B_X4_hasSeat_33 := at_of (by decide +kernel)
def B_X4_hasSeat_34 : List (Instr × Nat) := [(.ireturn, 1)]
theorem L_X4_hasSeat_34 : CdAt m_X4_hasSeat.2.1 34 B_X4_hasSeat_34 := at_of (by decide +kernel)
def B_X4_mayHavePass_0 : List (Instr × Nat) := [(.aload_n 0, 1), (.iload_n 1, 1), (.invokevirtual 91, 3), (.ifCond .eq 21, 3), (.aload_n 0, 1), (.getfield 34, 3), (.iload_n 1, 1), (.aaload, 1), (.getfield 101, 3), (.bipush 90, 2), (.if_icmp .ge 7, 3), (.iconst 1, 1), (.goto 4, 3)]
theorem L_X4_mayHavePass_0 : CdAt m_X4_mayHavePass.2.1 0 B_X4_mayHavePass_0 := at_of (by decide +kernel)
def B_X4_mayHavePass_26 : List (Instr × Nat) := [(.iconst 0, 1)]
theorem L_X4_mayHavePass_26 : CdAt m_X4_mayHavePass.2.1 26 B_X4_mayHavePass_26 := at_of (by decide +kernel)
def B_X4_mayHavePass_27 : List (Instr × Nat) := [(.ireturn, 1)]
theorem L_X4_mayHavePass_27 : CdAt m_X4_mayHavePass.2.1 27 B_X4_mayHavePass_27 := at_of (by decide +kernel)
def B_X4_addFloor_0 : List (Instr × Nat) := [(.aload_n 0, 1), (.getfield 46, 3), (.iconst 4, 1), (.if_icmp .lt 5, 3), (.iconst (-1), 1), (.ireturn, 1)]
theorem L_X4_addFloor_0 : CdAt m_X4_addFloor.2.1 0 B_X4_addFloor_0 := at_of (by decide +kernel)
def B_X4_addFloor_10 : List (Instr × Nat) := [(.aload_n 0, 1), (.getfield 11, 3), (.aload_n 0, 1), (.getfield 46, 3), (.aaload, 1), (.astore 5, 2), (.aload 5, 2), (.iload_n 1, 1), (.putfield 104, 3), (.aload 5, 2), (.iload_n 2, 1), (.putfield 107, 3), (.aload 5, 2), (.iload_n 3, 1), (.putfield 110, 3), (.aload 5, 2), (.iload 4, 2), (.putfield 113, 3), (.aload_n 0, 1), (.dup, 1), (.getfield 46, 3), (.iconst 1, 1), (.iadd, 1), (.putfield 46, 3), (.aload_n 0, 1), (.getfield 46, 3), (.iconst 1, 1), (.isub, 1), (.ireturn, 1)]
theorem L_X4_addFloor_10 : CdAt m_X4_addFloor.2.1 10 B_X4_addFloor_10 := at_of (by decide +kernel)
def B_X4_addTeacher_0 : List (Instr × Nat) := [(.aload_n 0, 1), (.getfield 50, 3), (.iconst 5, 1), (.if_icmp .lt 5, 3), (.iconst (-1), 1), (.ireturn, 1)]
theorem L_X4_addTeacher_0 : CdAt m_X4_addTeacher.2.1 0 B_X4_addTeacher_0 := at_of (by decide +kernel)
def B_X4_addTeacher_10 : List (Instr × Nat) := [(.aload_n 0, 1), (.getfield 20, 3), (.aload_n 0, 1), (.getfield 50, 3), (.aaload, 1), (.astore_n 3, 1), (.aload_n 3, 1), (.iload_n 1, 1), (.putfield 116, 3), (.aload_n 3, 1), (.iload_n 2, 1), (.putfield 119, 3), (.aload_n 0, 1), (.dup, 1), (.getfield 50, 3), (.iconst 1, 1), (.iadd, 1), (.putfield 50, 3), (.aload_n 0, 1), (.getfield 50, 3), (.iconst 1, 1), (.isub, 1), (.ireturn, 1)]
theorem L_X4_addTeacher_10 : CdAt m_X4_addTeacher.2.1 10 B_X4_addTeacher_10 := at_of (by decide +kernel)
def B_X4_addDancer_0 : List (Instr × Nat) := [(.aload_n 0, 1), (.getfield 56, 3), (.bipush 12, 2), (.if_icmp .lt 5, 3), (.iconst (-1), 1), (.ireturn, 1)]
theorem L_X4_addDancer_0 : CdAt m_X4_addDancer.2.1 0 B_X4_addDancer_0 := at_of (by decide +kernel)
def B_X4_addDancer_11 : List (Instr × Nat) := [(.aload_n 0, 1), (.getfield 34, 3), (.aload_n 0, 1), (.getfield 56, 3), (.aaload, 1), (.astore_n 1, 1), (.aload_n 1, 1), (.iconst 1, 1), (.putfield 122, 3), (.aload_n 1, 1), (.iconst 0, 1), (.putfield 125, 3), (.aload_n 1, 1), (.iconst 0, 1), (.putfield 101, 3), (.aload_n 1, 1), (.iconst 0, 1), (.putfield 128, 3), (.aload_n 0, 1), (.dup, 1), (.getfield 56, 3), (.iconst 1, 1), (.iadd, 1), (.putfield 56, 3), (.aload_n 0, 1), (.getfield 56, 3), (.iconst 1, 1), (.isub, 1), (.ireturn, 1)]
theorem L_X4_addDancer_11 : CdAt m_X4_addDancer.2.1 11 B_X4_addDancer_11 := at_of (by decide +kernel)
def B_X4_addLesson_0 : List (Instr × Nat) := [(.aload_n 0, 1), (.getfield 53, 3), (.bipush 10, 2), (.if_icmp .ge 20, 3), (.aload_n 0, 1), (.iload_n 3, 1), (.invokevirtual 131, 3), (.ifCond .eq 12, 3), (.aload_n 0, 1), (.iload 4, 2), (.invokevirtual 134, 3), (.ifCond .ne 5, 3)]
theorem L_X4_addLesson_0 : CdAt m_X4_addLesson.2.1 0 B_X4_addLesson_0 := at_of (by decide +kernel)
def B_X4_addLesson_26 : List (Instr × Nat) := [(.iconst (-1), 1), (.ireturn, 1)]
theorem L_X4_addLesson_26 : CdAt m_X4_addLesson.2.1 26 B_X4_addLesson_26 := at_of (by decide +kernel)
def B_X4_addLesson_28 : List (Instr × Nat) := [(.aload_n 0, 1), (.iload_n 1, 1), (.iload_n 2, 1), (.iload_n 3, 1), (.iload 4, 2), (.iload 5, 2), (.iload 6, 2), (.invokevirtual 137, 3), (.istore 7, 2), (.iload 7, 2), (.ifCond .eq 6, 3), (.iload 7, 2), (.ireturn, 1)]
theorem L_X4_addLesson_28 : CdAt m_X4_addLesson.2.1 28 B_X4_addLesson_28 := at_of (by decide +kernel)
def B_X4_addLesson_51 : List (Instr × Nat) := [(.aload_n 0, 1), (.getfield 27, 3), (.aload_n 0, 1), (.getfield 53, 3), (.aaload, 1), (.astore 8, 2), (.aload 8, 2), (.iload_n 1, 1), (.putfield 141, 3), (.aload 8, 2), (.iload_n 2, 1), (.putfield 144, 3), (.aload 8, 2), (.iload_n 3, 1), (.putfield 145, 3), (.aload 8, 2), (.iload 4, 2), (.putfield 148, 3), (.aload 8, 2), (.iload 5, 2), (.putfield 151, 3), (.aload 8, 2), (.iload 6, 2), (.putfield 154, 3), (.aload 8, 2), (.iconst 0, 1), (.putfield 157, 3), (.aload 8, 2), (.iconst 0, 1), (.putfield 160, 3), (.aload 8, 2), (.iconst 0, 1), (.putfield 163, 3), (.aload_n 0, 1), (.dup, 1), (.getfield 53, 3), (.iconst 1, 1), (.iadd, 1), (.putfield 53, 3), (.iconst 0, 1), (.ireturn, 1)]
theorem L_X4_addLesson_51 : CdAt m_X4_addLesson.2.1 51 B_X4_addLesson_51 := at_of (by decide +kernel)
def B_X4_dropLesson_0 : List (Instr × Nat) := [(.aload_n 0, 1), (.iload_n 1, 1), (.invokevirtual 95, 3), (.ifCond .ne 5, 3), (.iconst (-1), 1), (.ireturn, 1)]
theorem L_X4_dropLesson_0 : CdAt m_X4_dropLesson.2.1 0 B_X4_dropLesson_0 := at_of (by decide +kernel)
def B_X4_dropLesson_10 : List (Instr × Nat) := [(.aload_n 0, 1), (.getfield 27, 3), (.iload_n 1, 1), (.aaload, 1), (.invokevirtual 166, 3), (.istore_n 2, 1), (.aload_n 0, 1), (.dup, 1), (.getfield 71, 3), (.aload_n 0, 1), (.getfield 27, 3), (.iload_n 1, 1), (.aaload, 1), (.getfield 163, 3), (.iadd, 1), (.putfield 71, 3), (.aload_n 0, 1), (.dup, 1), (.getfield 53, 3), (.iconst 1, 1), (.isub, 1), (.putfield 53, 3), (.iload_n 1, 1), (.istore_n 3, 1)]
theorem L_X4_dropLesson_10 : CdAt m_X4_dropLesson.2.1 10 B_X4_dropLesson_10 := at_of (by decide +kernel)
def B_X4_dropLesson_50 : List (Instr × Nat) := [(.iload_n 3, 1), (.aload_n 0, 1), (.getfield 53, 3), (.if_icmp .ge 26, 3), (.aload_n 0, 1), (.getfield 27, 3), (.iload_n 3, 1), (.aaload, 1), (.aload_n 0, 1), (.getfield 27, 3), (.iload_n 3, 1), (.iconst 1, 1), (.iadd, 1), (.aaload, 1), (.invokevirtual 85, 3), (.iinc 3 1, 3), (.goto (-28), 3)]
theorem L_X4_dropLesson_50 : CdAt m_X4_dropLesson.2.1 50 B_X4_dropLesson_50 := at_of (by decide +kernel)
def B_X4_dropLesson_81 : List (Instr × Nat) := [(.iload_n 2, 1), (.ireturn, 1)]
theorem L_X4_dropLesson_81 : CdAt m_X4_dropLesson.2.1 81 B_X4_dropLesson_81 := at_of (by decide +kernel)
def B_X4_givePass_0 : List (Instr × Nat) := [(.aload_n 0, 1), (.iload_n 1, 1), (.invokevirtual 170, 3), (.ifCond .ne 5, 3), (.iconst (-1), 1), (.ireturn, 1)]
theorem L_X4_givePass_0 : CdAt m_X4_givePass.2.1 0 B_X4_givePass_0 := at_of (by decide +kernel)
def B_X4_givePass_10 : List (Instr × Nat) := [(.aload_n 0, 1), (.getfield 34, 3), (.iload_n 1, 1), (.aaload, 1), (.dup, 1), (.getfield 128, 3), (.iconst 1, 1), (.iadd, 1), (.putfield 128, 3), (.aload_n 0, 1), (.getfield 34, 3), (.iload_n 1, 1), (.aaload, 1), (.dup, 1), (.getfield 101, 3), (.bipush 10, 2), (.iadd, 1), (.putfield 101, 3), (.aload_n 0, 1), (.getfield 34, 3), (.iload_n 1, 1), (.aaload, 1), (.getfield 101, 3), (.ireturn, 1)]
theorem L_X4_givePass_10 : CdAt m_X4_givePass.2.1 10 B_X4_givePass_10 := at_of (by decide +kernel)
def B_X4_takeSeat_0 : List (Instr × Nat) := [(.aload_n 0, 1), (.iload_n 1, 1), (.invokevirtual 91, 3), (.ifCond .eq 11, 3), (.aload_n 0, 1), (.iload_n 2, 1), (.invokevirtual 95, 3), (.ifCond .ne 5, 3)]
theorem L_X4_takeSeat_0 : CdAt m_X4_takeSeat.2.1 0 B_X4_takeSeat_0 := at_of (by decide +kernel)
def B_X4_takeSeat_16 : List (Instr × Nat) := [(.iconst (-1), 1), (.ireturn, 1)]
theorem L_X4_takeSeat_16 : CdAt m_X4_takeSeat.2.1 16 B_X4_takeSeat_16 := at_of (by decide +kernel)
def B_X4_takeSeat_18 : List (Instr × Nat) := [(.aload_n 0, 1), (.iload_n 1, 1), (.iload_n 2, 1), (.invokevirtual 173, 3), (.istore_n 3, 1), (.iload_n 3, 1), (.ifCond .ne 20, 3), (.aload_n 0, 1), (.getfield 27, 3), (.iload_n 2, 1), (.aaload, 1), (.dup, 1), (.getfield 157, 3), (.iconst 1, 1), (.iload_n 1, 1), (.ishl, 1), (.ior, 1), (.putfield 157, 3)]
theorem L_X4_takeSeat_18 : CdAt m_X4_takeSeat.2.1 18 B_X4_takeSeat_18 := at_of (by decide +kernel)
def B_X4_takeSeat_46 : List (Instr × Nat) := [(.iload_n 3, 1), (.ireturn, 1)]
theorem L_X4_takeSeat_46 : CdAt m_X4_takeSeat.2.1 46 B_X4_takeSeat_46 := at_of (by decide +kernel)
def B_X4_giveUpSeat_0 : List (Instr × Nat) := [(.aload_n 0, 1), (.iload_n 1, 1), (.iload_n 2, 1), (.invokevirtual 177, 3), (.ifCond .ne 5, 3), (.iconst (-1), 1), (.ireturn, 1)]
theorem L_X4_giveUpSeat_0 : CdAt m_X4_giveUpSeat.2.1 0 B_X4_giveUpSeat_0 := at_of (by decide +kernel)
def B_X4_giveUpSeat_11 : List (Instr × Nat) := [(.aload_n 0, 1), (.getfield 27, 3), (.iload_n 2, 1), (.aaload, 1), (.dup, 1), (.getfield 157, 3), (.iconst 1, 1), (.iload_n 1, 1), (.ishl, 1), (.iconst (-1), 1), (.ixor, 1), (.iand, 1), (.putfield 157, 3), (.aload_n 0, 1), (.getfield 27, 3), (.iload_n 2, 1), (.aaload, 1), (.invokevirtual 166, 3), (.ireturn, 1)]
theorem L_X4_giveUpSeat_11 : CdAt m_X4_giveUpSeat.2.1 11 B_X4_giveUpSeat_11 := at_of (by decide +kernel)
def B_X4_countRefusal_0 : List (Instr × Nat) := [(.iload_n 1, 1), (.ifCond .eq 13, 3), (.aload_n 0, 1), (.dup, 1), (.getfield 68, 3), (.iconst 1, 1), (.iadd, 1), (.putfield 68, 3)]
theorem L_X4_countRefusal_0 : CdAt m_X4_countRefusal.2.1 0 B_X4_countRefusal_0 := at_of (by decide +kernel)
def B_X4_countRefusal_14 : List (Instr × Nat) := [(.iload_n 1, 1), (.ireturn, 1)]
theorem L_X4_countRefusal_14 : CdAt m_X4_countRefusal.2.1 14 B_X4_countRefusal_14 := at_of (by decide +kernel)
def B_X4_reasonAgainstLesson_0 : List (Instr × Nat) := [(.aload_n 0, 1), (.iload_n 3, 1), (.iload 5, 2), (.iload 6, 2), (.invokevirtual 181, 3), (.ifCond .eq 5, 3), (.iconst 1, 1), (.ireturn, 1)]
theorem L_X4_reasonAgainstLesson_0 : CdAt m_X4_reasonAgainstLesson.2.1 0 B_X4_reasonAgainstLesson_0 := at_of (by decide +kernel)
def B_X4_reasonAgainstLesson_14 : List (Instr × Nat) := [(.aload_n 0, 1), (.iload 4, 2), (.iload 5, 2), (.iload 6, 2), (.invokevirtual 185, 3), (.ifCond .eq 5, 3), (.iconst 2, 1), (.ireturn, 1)]
theorem L_X4_reasonAgainstLesson_14 : CdAt m_X4_reasonAgainstLesson.2.1 14 B_X4_reasonAgainstLesson_14 := at_of (by decide +kernel)
def B_X4_reasonAgainstLesson_29 : List (Instr × Nat) := [(.aload_n 0, 1), (.getfield 20, 3), (.iload 4, 2), (.aaload, 1), (.iload_n 1, 1), (.iload_n 2, 1), (.invokevirtual 188, 3), (.ifCond .ne 5, 3), (.iconst 3, 1), (.ireturn, 1)]
theorem L_X4_reasonAgainstLesson_29 : CdAt m_X4_reasonAgainstLesson.2.1 29 B_X4_reasonAgainstLesson_29 := at_of (by decide +kernel)
def B_X4_reasonAgainstLesson_46 : List (Instr × Nat) := [(.aload_n 0, 1), (.getfield 11, 3), (.iload_n 3, 1), (.aaload, 1), (.iload_n 1, 1), (.iload_n 2, 1), (.invokevirtual 191, 3), (.ifCond .ne 5, 3), (.iconst 4, 1), (.ireturn, 1)]
theorem L_X4_reasonAgainstLesson_46 : CdAt m_X4_reasonAgainstLesson.2.1 46 B_X4_reasonAgainstLesson_46 := at_of (by decide +kernel)
def B_X4_reasonAgainstLesson_62 : List (Instr × Nat) := [(.aload_n 0, 1), (.getfield 11, 3), (.iload_n 3, 1), (.aaload, 1), (.iload_n 1, 1), (.iload_n 2, 1), (.invokevirtual 194, 3), (.ifCond .ne 5, 3), (.iconst 5, 1), (.ireturn, 1)]
theorem L_X4_reasonAgainstLesson_62 : CdAt m_X4_reasonAgainstLesson.2.1 62 B_X4_reasonAgainstLesson_62 := at_of (by decide +kernel)
def B_X4_reasonAgainstLesson_78 : List (Instr × Nat) := [(.aload_n 0, 1), (.getfield 11, 3), (.iload_n 3, 1), (.aaload, 1), (.iload_n 1, 1), (.iload_n 2, 1), (.invokevirtual 197, 3), (.ifCond .eq 7, 3), (.iconst 0, 1), (.goto 5, 3)]
theorem L_X4_reasonAgainstLesson_78 : CdAt m_X4_reasonAgainstLesson.2.1 78 B_X4_reasonAgainstLesson_78 := at_of (by decide +kernel)
def B_X4_reasonAgainstLesson_96 : List (Instr × Nat) := [(.bipush 6, 2)]
theorem L_X4_reasonAgainstLesson_96 : CdAt m_X4_reasonAgainstLesson.2.1 96 B_X4_reasonAgainstLesson_96 := at_of (by decide +kernel)
def B_X4_reasonAgainstLesson_98 : List (Instr × Nat) := [(.ireturn, 1)]
theorem L_X4_reasonAgainstLesson_98 : CdAt m_X4_reasonAgainstLesson.2.1 98 B_X4_reasonAgainstLesson_98 := at_of (by decide +kernel)
def B_X4_isFloorInUse_0 : List (Instr × Nat) := [(.iconst 0, 1), (.istore 4, 2)]
theorem L_X4_isFloorInUse_0 : CdAt m_X4_isFloorInUse.2.1 0 B_X4_isFloorInUse_0 := at_of (by decide +kernel)
def B_X4_isFloorInUse_3 : List (Instr × Nat) := [(.iload 4, 2), (.aload_n 0, 1), (.getfield 53, 3), (.if_icmp .ge 40, 3), (.aload_n 0, 1), (.getfield 27, 3), (.iload 4, 2), (.aaload, 1), (.getfield 145, 3), (.iload_n 1, 1), (.if_icmp .ne 20, 3), (.aload_n 0, 1), (.getfield 27, 3), (.iload 4, 2), (.aaload, 1), (.iload_n 2, 1), (.iload_n 3, 1), (.invokevirtual 200, 3), (.ifCond .eq 5, 3), (.iconst 1, 1), (.ireturn, 1)]
theorem L_X4_isFloorInUse_3 : CdAt m_X4_isFloorInUse.2.1 3 B_X4_isFloorInUse_3 := at_of (by decide +kernel)
def B_X4_isFloorInUse_43 : List (Instr × Nat) := [(.iinc 4 1, 3), (.goto (-43), 3)]
theorem L_X4_isFloorInUse_43 : CdAt m_X4_isFloorInUse.2.1 43 B_X4_isFloorInUse_43 := at_of (by decide +kernel)
def B_X4_isFloorInUse_49 : List (Instr × Nat) := [(.iconst 0, 1), (.ireturn, 1)]
theorem L_X4_isFloorInUse_49 : CdAt m_X4_isFloorInUse.2.1 49 B_X4_isFloorInUse_49 := at_of (by decide +kernel)
def B_X4_isTeacherInUse_0 : List (Instr × Nat) := [(.iconst 0, 1), (.istore 4, 2)]
theorem L_X4_isTeacherInUse_0 : CdAt m_X4_isTeacherInUse.2.1 0 B_X4_isTeacherInUse_0 := at_of (by decide +kernel)
def B_X4_isTeacherInUse_3 : List (Instr × Nat) := [(.iload 4, 2), (.aload_n 0, 1), (.getfield 53, 3), (.if_icmp .ge 40, 3), (.aload_n 0, 1), (.getfield 27, 3), (.iload 4, 2), (.aaload, 1), (.getfield 148, 3), (.iload_n 1, 1), (.if_icmp .ne 20, 3), (.aload_n 0, 1), (.getfield 27, 3), (.iload 4, 2), (.aaload, 1), (.iload_n 2, 1), (.iload_n 3, 1), (.invokevirtual 200, 3), (.ifCond .eq 5, 3), (.iconst 1, 1), (.ireturn, 1)]
theorem L_X4_isTeacherInUse_3 : CdAt m_X4_isTeacherInUse.2.1 3 B_X4_isTeacherInUse_3 := at_of (by decide +kernel)
def B_X4_isTeacherInUse_43 : List (Instr × Nat) := [(.iinc 4 1, 3), (.goto (-43), 3)]
theorem L_X4_isTeacherInUse_43 : CdAt m_X4_isTeacherInUse.2.1 43 B_X4_isTeacherInUse_43 := at_of (by decide +kernel)
def B_X4_isTeacherInUse_49 : List (Instr × Nat) := [(.iconst 0, 1), (.ireturn, 1)]
theorem L_X4_isTeacherInUse_49 : CdAt m_X4_isTeacherInUse.2.1 49 B_X4_isTeacherInUse_49 := at_of (by decide +kernel)
def B_X4_reasonAgainstSeat_0 : List (Instr × Nat) := [(.aload_n 0, 1), (.getfield 27, 3), (.iload_n 2, 1), (.aaload, 1), (.astore_n 3, 1), (.aload_n 3, 1), (.iload_n 1, 1), (.invokevirtual 98, 3), (.ifCond .eq 5, 3), (.iconst 1, 1), (.ireturn, 1)]
theorem L_X4_reasonAgainstSeat_0 : CdAt m_X4_reasonAgainstSeat.2.1 0 B_X4_reasonAgainstSeat_0 := at_of (by decide +kernel)
def B_X4_reasonAgainstSeat_17 : List (Instr × Nat) := [(.aload_n 3, 1), (.getfield 144, 3), (.aload_n 0, 1), (.getfield 34, 3), (.iload_n 1, 1), (.aaload, 1), (.getfield 122, 3), (.iconst 1, 1), (.iadd, 1), (.if_icmp .le 5, 3), (.iconst 2, 1), (.ireturn, 1)]
theorem L_X4_reasonAgainstSeat_17 : CdAt m_X4_reasonAgainstSeat.2.1 17 B_X4_reasonAgainstSeat_17 := at_of (by decide +kernel)
def B_X4_reasonAgainstSeat_37 : List (Instr × Nat) := [(.aload_n 0, 1), (.iload_n 1, 1), (.aload_n 3, 1), (.getfield 151, 3), (.aload_n 3, 1), (.getfield 154, 3), (.invokevirtual 203, 3), (.ifCond .eq 5, 3), (.iconst 3, 1), (.ireturn, 1)]
theorem L_X4_reasonAgainstSeat_37 : CdAt m_X4_reasonAgainstSeat.2.1 37 B_X4_reasonAgainstSeat_37 := at_of (by decide +kernel)
def B_X4_reasonAgainstSeat_55 : List (Instr × Nat) := [(.aload_n 3, 1), (.invokevirtual 166, 3), (.aload_n 0, 1), (.aload_n 3, 1), (.invokevirtual 206, 3), (.if_icmp .ge 7, 3), (.iconst 0, 1), (.goto 4, 3)]
theorem L_X4_reasonAgainstSeat_55 : CdAt m_X4_reasonAgainstSeat.2.1 55 B_X4_reasonAgainstSeat_55 := at_of (by decide +kernel)
def B_X4_reasonAgainstSeat_71 : List (Instr × Nat) := [(.iconst 4, 1)]
theorem L_X4_reasonAgainstSeat_71 : CdAt m_X4_reasonAgainstSeat.2.1 71 B_X4_reasonAgainstSeat_71 := at_of (by decide +kernel)
def B_X4_reasonAgainstSeat_72 : List (Instr × Nat) := [(.ireturn, 1)]
theorem L_X4_reasonAgainstSeat_72 : CdAt m_X4_reasonAgainstSeat.2.1 72 B_X4_reasonAgainstSeat_72 := at_of (by decide +kernel)
def B_X4_isDancerSeatedAt_0 : List (Instr × Nat) := [(.iconst 0, 1), (.istore 4, 2)]
theorem L_X4_isDancerSeatedAt_0 : CdAt m_X4_isDancerSeatedAt.2.1 0 B_X4_isDancerSeatedAt_0 := at_of (by decide +kernel)
def B_X4_isDancerSeatedAt_3 : List (Instr × Nat) := [(.iload 4, 2), (.aload_n 0, 1), (.getfield 53, 3), (.if_icmp .ge 40, 3), (.aload_n 0, 1), (.getfield 27, 3), (.iload 4, 2), (.aaload, 1), (.iload_n 1, 1), (.invokevirtual 98, 3), (.ifCond .eq 20, 3), (.aload_n 0, 1), (.getfield 27, 3), (.iload 4, 2), (.aaload, 1), (.iload_n 2, 1), (.iload_n 3, 1), (.invokevirtual 200, 3), (.ifCond .eq 5, 3), (.iconst 1, 1), (.ireturn, 1)]
theorem L_X4_isDancerSeatedAt_3 : CdAt m_X4_isDancerSeatedAt.2.1 3 B_X4_isDancerSeatedAt_3 := at_of (by decide +kernel)
def B_X4_isDancerSeatedAt_43 : List (Instr × Nat) := [(.iinc 4 1, 3), (.goto (-43), 3)]
theorem L_X4_isDancerSeatedAt_43 : CdAt m_X4_isDancerSeatedAt.2.1 43 B_X4_isDancerSeatedAt_43 := at_of (by decide +kernel)
def B_X4_isDancerSeatedAt_49 : List (Instr × Nat) := [(.iconst 0, 1), (.ireturn, 1)]
theorem L_X4_isDancerSeatedAt_49 : CdAt m_X4_isDancerSeatedAt.2.1 49 B_X4_isDancerSeatedAt_49 := at_of (by decide +kernel)
def B_X4_roomIn_0 : List (Instr × Nat) := [(.aload_n 0, 1), (.getfield 11, 3), (.aload_n 1, 1), (.getfield 145, 3), (.aaload, 1), (.aload_n 1, 1), (.getfield 141, 3), (.invokevirtual 210, 3), (.ireturn, 1)]
theorem L_X4_roomIn_0 : CdAt m_X4_roomIn.2.1 0 B_X4_roomIn_0 := at_of (by decide +kernel)
def B_X4_roomiestFloor_0 : List (Instr × Nat) := [(.iconst (-1), 1), (.istore 6, 2), (.iconst 0, 1), (.istore 7, 2), (.iconst 0, 1), (.istore 8, 2)]
theorem L_X4_roomiestFloor_0 : CdAt m_X4_roomiestFloor.2.1 0 B_X4_roomiestFloor_0 := at_of (by decide +kernel)
def B_X4_roomiestFloor_9 : List (Instr × Nat) := [(.iload 8, 2), (.aload_n 0, 1), (.getfield 46, 3), (.if_icmp .ge 53, 3), (.aload_n 0, 1), (.getfield 11, 3), (.iload 8, 2), (.aaload, 1), (.iload_n 1, 1), (.invokevirtual 210, 3), (.istore 9, 2), (.iload 9, 2), (.iload 7, 2), (.if_icmp .le 27, 3), (.aload_n 0, 1), (.iload_n 1, 1), (.iload_n 2, 1), (.iload 8, 2), (.iload_n 3, 1), (.iload 4, 2), (.iload 5, 2), (.invokevirtual 137, 3), (.ifCond .ne 11, 3), (.iload 8, 2), (.istore 6, 2), (.iload 9, 2), (.istore 7, 2)]
theorem L_X4_roomiestFloor_9 : CdAt m_X4_roomiestFloor.2.1 9 B_X4_roomiestFloor_9 := at_of (by decide +kernel)
def B_X4_roomiestFloor_62 : List (Instr × Nat) := [(.iinc 8 1, 3), (.goto (-56), 3)]
theorem L_X4_roomiestFloor_62 : CdAt m_X4_roomiestFloor.2.1 62 B_X4_roomiestFloor_62 := at_of (by decide +kernel)
def B_X4_roomiestFloor_68 : List (Instr × Nat) := [(.iload 6, 2), (.ireturn, 1)]
theorem L_X4_roomiestFloor_68 : CdAt m_X4_roomiestFloor.2.1 68 B_X4_roomiestFloor_68 := at_of (by decide +kernel)
def B_X4_passWeeks_0 : List (Instr × Nat) := [(.iconst 0, 1), (.istore_n 2, 1), (.iconst 0, 1), (.istore_n 3, 1)]
theorem L_X4_passWeeks_0 : CdAt m_X4_passWeeks.2.1 0 B_X4_passWeeks_0 := at_of (by decide +kernel)
def B_X4_passWeeks_4 : List (Instr × Nat) := [(.iload_n 3, 1), (.iload_n 1, 1), (.if_icmp .ge 16, 3), (.iload_n 2, 1), (.aload_n 0, 1), (.invokevirtual 214, 3), (.iadd, 1), (.istore_n 2, 1), (.iinc 3 1, 3), (.goto (-15), 3)]
theorem L_X4_passWeeks_4 : CdAt m_X4_passWeeks.2.1 4 B_X4_passWeeks_4 := at_of (by decide +kernel)
def B_X4_passWeeks_22 : List (Instr × Nat) := [(.iload_n 2, 1), (.ireturn, 1)]
theorem L_X4_passWeeks_22 : CdAt m_X4_passWeeks.2.1 22 B_X4_passWeeks_22 := at_of (by decide +kernel)
def B_X4_passWeek_0 : List (Instr × Nat) := [(.aload_n 0, 1), (.dup, 1), (.getfield 59, 3), (.iconst 1, 1), (.iadd, 1), (.putfield 59, 3), (.iconst 0, 1), (.istore_n 1, 1), (.iconst 0, 1), (.istore_n 2, 1)]
theorem L_X4_passWeek_0 : CdAt m_X4_passWeek.2.1 0 B_X4_passWeek_0 := at_of (by decide +kernel)
def B_X4_passWeek_14 : List (Instr × Nat) := [(.iload_n 2, 1), (.aload_n 0, 1), (.getfield 53, 3), (.if_icmp .ge 22, 3), (.iload_n 1, 1), (.aload_n 0, 1), (.aload_n 0, 1), (.getfield 27, 3), (.iload_n 2, 1), (.aaload, 1), (.invokevirtual 217, 3), (.iadd, 1), (.istore_n 1, 1), (.iinc 2 1, 3), (.goto (-24), 3)]
theorem L_X4_passWeek_14 : CdAt m_X4_passWeek.2.1 14 B_X4_passWeek_14 := at_of (by decide +kernel)
def B_X4_passWeek_41 : List (Instr × Nat) := [(.iconst 0, 1), (.istore_n 2, 1)]
theorem L_X4_passWeek_41 : CdAt m_X4_passWeek.2.1 41 B_X4_passWeek_41 := at_of (by decide +kernel)
def B_X4_passWeek_43 : List (Instr × Nat) := [(.iload_n 2, 1), (.aload_n 0, 1), (.getfield 56, 3), (.if_icmp .ge 24, 3), (.aload_n 0, 1), (.getfield 34, 3), (.iload_n 2, 1), (.aaload, 1), (.aload_n 0, 1), (.getfield 39, 3), (.iconst 1, 1), (.iaload, 1), (.invokevirtual 220, 3), (.iinc 2 1, 3), (.goto (-26), 3)]
theorem L_X4_passWeek_43 : CdAt m_X4_passWeek.2.1 43 B_X4_passWeek_43 := at_of (by decide +kernel)
def B_X4_passWeek_72 : List (Instr × Nat) := [(.iload_n 1, 1), (.ireturn, 1)]
theorem L_X4_passWeek_72 : CdAt m_X4_passWeek.2.1 72 B_X4_passWeek_72 := at_of (by decide +kernel)
def B_X4_holdLesson_0 : List (Instr × Nat) := [(.aload_n 0, 1), (.aload_n 1, 1), (.invokevirtual 224, 3), (.istore_n 2, 1), (.iload_n 2, 1), (.aload_n 0, 1), (.getfield 39, 3), (.iconst 0, 1), (.iaload, 1), (.if_icmp .ge 15, 3), (.aload_n 0, 1), (.dup, 1), (.getfield 65, 3), (.iconst 1, 1), (.iadd, 1), (.putfield 65, 3), (.iconst 0, 1), (.ireturn, 1)]
theorem L_X4_holdLesson_0 : CdAt m_X4_holdLesson.2.1 0 B_X4_holdLesson_0 := at_of (by decide +kernel)
def B_X4_holdLesson_28 : List (Instr × Nat) := [(.iconst 0, 1), (.istore_n 3, 1)]
theorem L_X4_holdLesson_28 : CdAt m_X4_holdLesson.2.1 28 B_X4_holdLesson_28 := at_of (by decide +kernel)
def B_X4_holdLesson_30 : List (Instr × Nat) := [(.iload_n 3, 1), (.aload_n 0, 1), (.getfield 56, 3), (.if_icmp .ge 31, 3), (.aload_n 0, 1), (.iload_n 3, 1), (.aload_n 1, 1), (.invokevirtual 227, 3), (.ifCond .eq 16, 3), (.aload_n 0, 1), (.getfield 34, 3), (.iload_n 3, 1), (.aaload, 1), (.aload_n 1, 1), (.getfield 144, 3), (.invokevirtual 231, 3)]
theorem L_X4_holdLesson_30 : CdAt m_X4_holdLesson.2.1 30 B_X4_holdLesson_30 := at_of (by decide +kernel)
def B_X4_holdLesson_60 : List (Instr × Nat) := [(.iinc 3 1, 3), (.goto (-33), 3)]
theorem L_X4_holdLesson_60 : CdAt m_X4_holdLesson.2.1 60 B_X4_holdLesson_60 := at_of (by decide +kernel)
def B_X4_holdLesson_66 : List (Instr × Nat) := [(.aload_n 0, 1), (.dup, 1), (.getfield 62, 3), (.iconst 1, 1), (.iadd, 1), (.putfield 62, 3), (.aload_n 1, 1), (.dup, 1), (.getfield 160, 3), (.iconst 1, 1), (.iadd, 1), (.putfield 160, 3), (.aload_n 1, 1), (.dup, 1), (.getfield 163, 3), (.iload_n 2, 1), (.iadd, 1), (.putfield 163, 3), (.iload_n 2, 1), (.ireturn, 1)]
theorem L_X4_holdLesson_66 : CdAt m_X4_holdLesson.2.1 66 B_X4_holdLesson_66 := at_of (by decide +kernel)
def B_X4_countComers_0 : List (Instr × Nat) := [(.iconst 0, 1), (.istore_n 2, 1), (.iconst 0, 1), (.istore_n 3, 1)]
theorem L_X4_countComers_0 : CdAt m_X4_countComers.2.1 0 B_X4_countComers_0 := at_of (by decide +kernel)
def B_X4_countComers_4 : List (Instr × Nat) := [(.iload_n 3, 1), (.aload_n 0, 1), (.getfield 56, 3), (.if_icmp .ge 21, 3), (.aload_n 0, 1), (.iload_n 3, 1), (.aload_n 1, 1), (.invokevirtual 227, 3), (.ifCond .eq 6, 3), (.iinc 2 1, 3)]
theorem L_X4_countComers_4 : CdAt m_X4_countComers.2.1 4 B_X4_countComers_4 := at_of (by decide +kernel)
def B_X4_countComers_24 : List (Instr × Nat) := [(.iinc 3 1, 3), (.goto (-23), 3)]
theorem L_X4_countComers_24 : CdAt m_X4_countComers.2.1 24 B_X4_countComers_24 := at_of (by decide +kernel)
def B_X4_countComers_30 : List (Instr × Nat) := [(.iload_n 2, 1), (.ireturn, 1)]
theorem L_X4_countComers_30 : CdAt m_X4_countComers.2.1 30 B_X4_countComers_30 := at_of (by decide +kernel)
def B_X4_comes_0 : List (Instr × Nat) := [(.aload_n 2, 1), (.iload_n 1, 1), (.invokevirtual 98, 3), (.ifCond .eq 19, 3), (.aload_n 0, 1), (.getfield 34, 3), (.iload_n 1, 1), (.aaload, 1), (.getfield 101, 3), (.ifCond .le 7, 3), (.iconst 1, 1), (.goto 4, 3)]
theorem L_X4_comes_0 : CdAt m_X4_comes.2.1 0 B_X4_comes_0 := at_of (by decide +kernel)
def B_X4_comes_24 : List (Instr × Nat) := [(.iconst 0, 1)]
theorem L_X4_comes_24 : CdAt m_X4_comes.2.1 24 B_X4_comes_24 := at_of (by decide +kernel)
def B_X4_comes_25 : List (Instr × Nat) := [(.ireturn, 1)]
theorem L_X4_comes_25 : CdAt m_X4_comes.2.1 25 B_X4_comes_25 := at_of (by decide +kernel)
def B_X4_countSeats_0 : List (Instr × Nat) := [(.iconst 0, 1), (.istore_n 1, 1), (.iconst 0, 1), (.istore_n 2, 1)]
theorem L_X4_countSeats_0 : CdAt m_X4_countSeats.2.1 0 B_X4_countSeats_0 := at_of (by decide +kernel)
def B_X4_countSeats_4 : List (Instr × Nat) := [(.iload_n 2, 1), (.aload_n 0, 1), (.getfield 53, 3), (.if_icmp .ge 21, 3), (.iload_n 1, 1), (.aload_n 0, 1), (.getfield 27, 3), (.iload_n 2, 1), (.aaload, 1), (.invokevirtual 166, 3), (.iadd, 1), (.istore_n 1, 1), (.iinc 2 1, 3), (.goto (-23), 3)]
theorem L_X4_countSeats_4 : CdAt m_X4_countSeats.2.1 4 B_X4_countSeats_4 := at_of (by decide +kernel)
def B_X4_countSeats_30 : List (Instr × Nat) := [(.iload_n 1, 1), (.ireturn, 1)]
theorem L_X4_countSeats_30 : CdAt m_X4_countSeats.2.1 30 B_X4_countSeats_30 := at_of (by decide +kernel)
def B_X4_countSeatsOfDancer_0 : List (Instr × Nat) := [(.iconst 0, 1), (.istore_n 2, 1), (.iconst 0, 1), (.istore_n 3, 1)]
theorem L_X4_countSeatsOfDancer_0 : CdAt m_X4_countSeatsOfDancer.2.1 0 B_X4_countSeatsOfDancer_0 := at_of (by decide +kernel)
def B_X4_countSeatsOfDancer_4 : List (Instr × Nat) := [(.iload_n 3, 1), (.aload_n 0, 1), (.getfield 53, 3), (.if_icmp .ge 25, 3), (.aload_n 0, 1), (.getfield 27, 3), (.iload_n 3, 1), (.aaload, 1), (.iload_n 1, 1), (.invokevirtual 98, 3), (.ifCond .eq 6, 3), (.iinc 2 1, 3)]
theorem L_X4_countSeatsOfDancer_4 : CdAt m_X4_countSeatsOfDancer.2.1 4 B_X4_countSeatsOfDancer_4 := at_of (by decide +kernel)
def B_X4_countSeatsOfDancer_28 : List (Instr × Nat) := [(.iinc 3 1, 3), (.goto (-27), 3)]
theorem L_X4_countSeatsOfDancer_28 : CdAt m_X4_countSeatsOfDancer.2.1 28 B_X4_countSeatsOfDancer_28 := at_of (by decide +kernel)
def B_X4_countSeatsOfDancer_34 : List (Instr × Nat) := [(.iload_n 2, 1), (.ireturn, 1)]
theorem L_X4_countSeatsOfDancer_34 : CdAt m_X4_countSeatsOfDancer.2.1 34 B_X4_countSeatsOfDancer_34 := at_of (by decide +kernel)
def B_X4_countLessonsOnFloor_0 : List (Instr × Nat) := [(.iconst 0, 1), (.istore_n 2, 1), (.iconst 0, 1), (.istore_n 3, 1)]
theorem L_X4_countLessonsOnFloor_0 : CdAt m_X4_countLessonsOnFloor.2.1 0 B_X4_countLessonsOnFloor_0 := at_of (by decide +kernel)
def B_X4_countLessonsOnFloor_4 : List (Instr × Nat) := [(.iload_n 3, 1), (.aload_n 0, 1), (.getfield 53, 3), (.if_icmp .ge 25, 3), (.aload_n 0, 1), (.getfield 27, 3), (.iload_n 3, 1), (.aaload, 1), (.getfield 145, 3), (.iload_n 1, 1), (.if_icmp .ne 6, 3), (.iinc 2 1, 3)]
theorem L_X4_countLessonsOnFloor_4 : CdAt m_X4_countLessonsOnFloor.2.1 4 B_X4_countLessonsOnFloor_4 := at_of (by decide +kernel)
def B_X4_countLessonsOnFloor_28 : List (Instr × Nat) := [(.iinc 3 1, 3), (.goto (-27), 3)]
theorem L_X4_countLessonsOnFloor_28 : CdAt m_X4_countLessonsOnFloor.2.1 28 B_X4_countLessonsOnFloor_28 := at_of (by decide +kernel)
def B_X4_countLessonsOnFloor_34 : List (Instr × Nat) := [(.iload_n 2, 1), (.ireturn, 1)]
theorem L_X4_countLessonsOnFloor_34 : CdAt m_X4_countLessonsOnFloor.2.1 34 B_X4_countLessonsOnFloor_34 := at_of (by decide +kernel)
def B_X4_countLessonsOfTeacher_0 : List (Instr × Nat) := [(.iconst 0, 1), (.istore_n 2, 1), (.iconst 0, 1), (.istore_n 3, 1)]
theorem L_X4_countLessonsOfTeacher_0 : CdAt m_X4_countLessonsOfTeacher.2.1 0 B_X4_countLessonsOfTeacher_0 := at_of (by decide +kernel)
def B_X4_countLessonsOfTeacher_4 : List (Instr × Nat) := [(.iload_n 3, 1), (.aload_n 0, 1), (.getfield 53, 3), (.if_icmp .ge 25, 3), (.aload_n 0, 1), (.getfield 27, 3), (.iload_n 3, 1), (.aaload, 1), (.getfield 148, 3), (.iload_n 1, 1), (.if_icmp .ne 6, 3), (.iinc 2 1, 3)]
theorem L_X4_countLessonsOfTeacher_4 : CdAt m_X4_countLessonsOfTeacher.2.1 4 B_X4_countLessonsOfTeacher_4 := at_of (by decide +kernel)
def B_X4_countLessonsOfTeacher_28 : List (Instr × Nat) := [(.iinc 3 1, 3), (.goto (-27), 3)]
theorem L_X4_countLessonsOfTeacher_28 : CdAt m_X4_countLessonsOfTeacher.2.1 28 B_X4_countLessonsOfTeacher_28 := at_of (by decide +kernel)
def B_X4_countLessonsOfTeacher_34 : List (Instr × Nat) := [(.iload_n 2, 1), (.ireturn, 1)]
theorem L_X4_countLessonsOfTeacher_34 : CdAt m_X4_countLessonsOfTeacher.2.1 34 B_X4_countLessonsOfTeacher_34 := at_of (by decide +kernel)
def B_X4_countDaysOfTeacher_0 : List (Instr × Nat) := [(.iconst 0, 1), (.istore_n 2, 1), (.iconst 0, 1), (.istore_n 3, 1)]
theorem L_X4_countDaysOfTeacher_0 : CdAt m_X4_countDaysOfTeacher.2.1 0 B_X4_countDaysOfTeacher_0 := at_of (by decide +kernel)
def B_X4_countDaysOfTeacher_4 : List (Instr × Nat) := [(.iload_n 3, 1), (.aload_n 0, 1), (.getfield 53, 3), (.if_icmp .ge 36, 3), (.aload_n 0, 1), (.getfield 27, 3), (.iload_n 3, 1), (.aaload, 1), (.getfield 148, 3), (.iload_n 1, 1), (.if_icmp .ne 17, 3), (.iload_n 2, 1), (.iconst 1, 1), (.aload_n 0, 1), (.getfield 27, 3), (.iload_n 3, 1), (.aaload, 1), (.getfield 151, 3), (.ishl, 1), (.ior, 1), (.istore_n 2, 1)]
theorem L_X4_countDaysOfTeacher_4 : CdAt m_X4_countDaysOfTeacher.2.1 4 B_X4_countDaysOfTeacher_4 := at_of (by decide +kernel)
def B_X4_countDaysOfTeacher_39 : List (Instr × Nat) := [(.iinc 3 1, 3), (.goto (-38), 3)]
theorem L_X4_countDaysOfTeacher_39 : CdAt m_X4_countDaysOfTeacher.2.1 39 B_X4_countDaysOfTeacher_39 := at_of (by decide +kernel)
def B_X4_countDaysOfTeacher_45 : List (Instr × Nat) := [(.iload_n 2, 1), (.invokestatic 234, 3), (.ireturn, 1)]
theorem L_X4_countDaysOfTeacher_45 : CdAt m_X4_countDaysOfTeacher.2.1 45 B_X4_countDaysOfTeacher_45 := at_of (by decide +kernel)
def B_X4_countPasses_0 : List (Instr × Nat) := [(.iconst 0, 1), (.istore_n 1, 1), (.iconst 0, 1), (.istore_n 2, 1)]
theorem L_X4_countPasses_0 : CdAt m_X4_countPasses.2.1 0 B_X4_countPasses_0 := at_of (by decide +kernel)
def B_X4_countPasses_4 : List (Instr × Nat) := [(.iload_n 2, 1), (.aload_n 0, 1), (.getfield 56, 3), (.if_icmp .ge 21, 3), (.iload_n 1, 1), (.aload_n 0, 1), (.getfield 34, 3), (.iload_n 2, 1), (.aaload, 1), (.getfield 128, 3), (.iadd, 1), (.istore_n 1, 1), (.iinc 2 1, 3), (.goto (-23), 3)]
theorem L_X4_countPasses_4 : CdAt m_X4_countPasses.2.1 4 B_X4_countPasses_4 := at_of (by decide +kernel)
def B_X4_countPasses_30 : List (Instr × Nat) := [(.iload_n 1, 1), (.ireturn, 1)]
theorem L_X4_countPasses_30 : CdAt m_X4_countPasses.2.1 30 B_X4_countPasses_30 := at_of (by decide +kernel)
def B_X4_countLeft_0 : List (Instr × Nat) := [(.iconst 0, 1), (.istore_n 1, 1), (.iconst 0, 1), (.istore_n 2, 1)]
theorem L_X4_countLeft_0 : CdAt m_X4_countLeft.2.1 0 B_X4_countLeft_0 := at_of (by decide +kernel)
def B_X4_countLeft_4 : List (Instr × Nat) := [(.iload_n 2, 1), (.aload_n 0, 1), (.getfield 56, 3), (.if_icmp .ge 21, 3), (.iload_n 1, 1), (.aload_n 0, 1), (.getfield 34, 3), (.iload_n 2, 1), (.aaload, 1), (.getfield 101, 3), (.iadd, 1), (.istore_n 1, 1), (.iinc 2 1, 3), (.goto (-23), 3)]
theorem L_X4_countLeft_4 : CdAt m_X4_countLeft.2.1 4 B_X4_countLeft_4 := at_of (by decide +kernel)
def B_X4_countLeft_30 : List (Instr × Nat) := [(.iload_n 1, 1), (.ireturn, 1)]
theorem L_X4_countLeft_30 : CdAt m_X4_countLeft.2.1 30 B_X4_countLeft_30 := at_of (by decide +kernel)
def B_X4_countUsesByDancers_0 : List (Instr × Nat) := [(.iconst 0, 1), (.istore_n 1, 1), (.iconst 0, 1), (.istore_n 2, 1)]
theorem L_X4_countUsesByDancers_0 : CdAt m_X4_countUsesByDancers.2.1 0 B_X4_countUsesByDancers_0 := at_of (by decide +kernel)
def B_X4_countUsesByDancers_4 : List (Instr × Nat) := [(.iload_n 2, 1), (.aload_n 0, 1), (.getfield 56, 3), (.if_icmp .ge 21, 3), (.iload_n 1, 1), (.aload_n 0, 1), (.getfield 34, 3), (.iload_n 2, 1), (.aaload, 1), (.invokevirtual 239, 3), (.iadd, 1), (.istore_n 1, 1), (.iinc 2 1, 3), (.goto (-23), 3)]
theorem L_X4_countUsesByDancers_4 : CdAt m_X4_countUsesByDancers.2.1 4 B_X4_countUsesByDancers_4 := at_of (by decide +kernel)
def B_X4_countUsesByDancers_30 : List (Instr × Nat) := [(.iload_n 1, 1), (.ireturn, 1)]
theorem L_X4_countUsesByDancers_30 : CdAt m_X4_countUsesByDancers.2.1 30 B_X4_countUsesByDancers_30 := at_of (by decide +kernel)
def B_X4_countUsesByLessons_0 : List (Instr × Nat) := [(.aload_n 0, 1), (.getfield 71, 3), (.istore_n 1, 1), (.iconst 0, 1), (.istore_n 2, 1)]
theorem L_X4_countUsesByLessons_0 : CdAt m_X4_countUsesByLessons.2.1 0 B_X4_countUsesByLessons_0 := at_of (by decide +kernel)
def B_X4_countUsesByLessons_7 : List (Instr × Nat) := [(.iload_n 2, 1), (.aload_n 0, 1), (.getfield 53, 3), (.if_icmp .ge 21, 3), (.iload_n 1, 1), (.aload_n 0, 1), (.getfield 27, 3), (.iload_n 2, 1), (.aaload, 1), (.getfield 163, 3), (.iadd, 1), (.istore_n 1, 1), (.iinc 2 1, 3), (.goto (-23), 3)]
theorem L_X4_countUsesByLessons_7 : CdAt m_X4_countUsesByLessons.2.1 7 B_X4_countUsesByLessons_7 := at_of (by decide +kernel)
def B_X4_countUsesByLessons_33 : List (Instr × Nat) := [(.iload_n 1, 1), (.ireturn, 1)]
theorem L_X4_countUsesByLessons_33 : CdAt m_X4_countUsesByLessons.2.1 33 B_X4_countUsesByLessons_33 := at_of (by decide +kernel)
def B_X5_init_0 : List (Instr × Nat) := [(.aload_n 0, 1), (.invokespecial 1, 3), (.return_, 1)]
theorem L_X5_init_0 : CdAt m_X5_init.2.1 0 B_X5_init_0 := at_of (by decide +kernel)
def B_X5_copyFrom_0 : List (Instr × Nat) := [(.aload_n 0, 1), (.aload_n 1, 1), (.getfield 7, 3), (.putfield 7, 3), (.aload_n 0, 1), (.aload_n 1, 1), (.getfield 13, 3), (.putfield 13, 3), (.return_, 1)]
theorem L_X5_copyFrom_0 : CdAt m_X5_copyFrom.2.1 0 B_X5_copyFrom_0 := at_of (by decide +kernel)
def B_X5_teaches_0 : List (Instr × Nat) := [(.aload_n 0, 1), (.getfield 7, 3), (.iload_n 1, 1), (.ishr, 1), (.iconst 1, 1), (.iand, 1), (.iconst 1, 1), (.if_icmp .ne 15, 3), (.iload_n 2, 1), (.aload_n 0, 1), (.getfield 13, 3), (.if_icmp .gt 7, 3), (.iconst 1, 1), (.goto 4, 3)]
theorem L_X5_teaches_0 : CdAt m_X5_teaches.2.1 0 B_X5_teaches_0 := at_of (by decide +kernel)
def B_X5_teaches_24 : List (Instr × Nat) := [(.iconst 0, 1)]
theorem L_X5_teaches_24 : CdAt m_X5_teaches.2.1 24 B_X5_teaches_24 := at_of (by decide +kernel)
def B_X5_teaches_25 : List (Instr × Nat) := [(.ireturn, 1)]
theorem L_X5_teaches_25 : CdAt m_X5_teaches.2.1 25 B_X5_teaches_25 := at_of (by decide +kernel)
def B_X6_init_0 : List (Instr × Nat) := [(.aload_n 0, 1), (.invokespecial 3, 3), (.aload_n 0, 1), (.bipush 120, 2), (.newarray .char, 2), (.putfield 9, 3), (.aload_n 0, 1), (.bipush 6, 2), (.newarray .int, 2), (.putfield 15, 3), (.return_, 1)]
theorem L_X6_init_0 : CdAt m_X6_init.2.1 0 B_X6_init_0 := at_of (by decide +kernel)
def B_X6_addSign_0 : List (Instr × Nat) := [(.aload_n 0, 1), (.getfield 19, 3), (.bipush 120, 2), (.if_icmp .ge 23, 3), (.aload_n 0, 1), (.getfield 9, 3), (.aload_n 0, 1), (.getfield 19, 3), (.iload_n 1, 1), (.castore, 1), (.aload_n 0, 1), (.dup, 1), (.getfield 19, 3), (.iconst 1, 1), (.iadd, 1), (.putfield 19, 3)]
theorem L_X6_addSign_0 : CdAt m_X6_addSign.2.1 0 B_X6_addSign_0 := at_of (by decide +kernel)
def B_X6_addSign_29 : List (Instr × Nat) := [(.aload_n 0, 1), (.getfield 19, 3), (.ireturn, 1)]
theorem L_X6_addSign_29 : CdAt m_X6_addSign.2.1 29 B_X6_addSign_29 := at_of (by decide +kernel)
def B_X6_makeEmpty_0 : List (Instr × Nat) := [(.aload_n 0, 1), (.getfield 19, 3), (.istore_n 1, 1), (.aload_n 0, 1), (.iconst 0, 1), (.putfield 19, 3), (.iload_n 1, 1), (.ireturn, 1)]
theorem L_X6_makeEmpty_0 : CdAt m_X6_makeEmpty.2.1 0 B_X6_makeEmpty_0 := at_of (by decide +kernel)
def B_X6_findError_0 : List (Instr × Nat) := [(.aload_n 0, 1), (.invokevirtual 23, 3), (.ifCond .ne 8, 3), (.aload_n 0, 1), (.getfield 27, 3), (.ireturn, 1)]
theorem L_X6_findError_0 : CdAt m_X6_findError.2.1 0 B_X6_findError_0 := at_of (by decide +kernel)
def B_X6_findError_12 : List (Instr × Nat) := [(.iconst 0, 1), (.istore_n 1, 1)]
theorem L_X6_findError_12 : CdAt m_X6_findError.2.1 12 B_X6_findError_12 := at_of (by decide +kernel)
def B_X6_findError_14 : List (Instr × Nat) := [(.iload_n 1, 1), (.bipush 120, 2), (.if_icmp .ge 28, 3), (.aload_n 0, 1), (.invokevirtual 30, 3), (.ifCond .eq 21, 3), (.aload_n 0, 1), (.invokevirtual 33, 3), (.ifCond .ne 8, 3), (.aload_n 0, 1), (.getfield 27, 3), (.ireturn, 1)]
theorem L_X6_findError_14 : CdAt m_X6_findError.2.1 14 B_X6_findError_14 := at_of (by decide +kernel)
def B_X6_findError_39 : List (Instr × Nat) := [(.iinc 1 1, 3), (.goto (-28), 3)]
theorem L_X6_findError_39 : CdAt m_X6_findError.2.1 39 B_X6_findError_39 := at_of (by decide +kernel)
def B_X6_findError_45 : List (Instr × Nat) := [(.iconst (-1), 1), (.ireturn, 1)]
theorem L_X6_findError_45 : CdAt m_X6_findError.2.1 45 B_X6_findError_45 := at_of (by decide +kernel)
def B_X6_hasMore_0 : List (Instr × Nat) := [(.aload_n 0, 1), (.getfield 27, 3), (.aload_n 0, 1), (.getfield 19, 3), (.if_icmp .ge 16, 3), (.aload_n 0, 1), (.getfield 27, 3), (.bipush 120, 2), (.if_icmp .ge 7, 3), (.iconst 1, 1), (.goto 4, 3)]
theorem L_X6_hasMore_0 : CdAt m_X6_hasMore.2.1 0 B_X6_hasMore_0 := at_of (by decide +kernel)
def B_X6_hasMore_24 : List (Instr × Nat) := [(.iconst 0, 1)]
theorem L_X6_hasMore_24 : CdAt m_X6_hasMore.2.1 24 B_X6_hasMore_24 := at_of (by decide +kernel)
def B_X6_hasMore_25 : List (Instr × Nat) := [(.ireturn, 1)]
theorem L_X6_hasMore_25 : CdAt m_X6_hasMore.2.1 25 B_X6_hasMore_25 := at_of (by decide +kernel)
def B_X6_readStart_0 : List (Instr × Nat) := [(.aload_n 0, 1), (.iconst 0, 1), (.putfield 27, 3), (.aload_n 0, 1), (.invokevirtual 30, 3), (.ifCond .eq 17, 3), (.aload_n 0, 1), (.getfield 9, 3), (.aload_n 0, 1), (.getfield 27, 3), (.caload, 1), (.bipush 83, 2), (.if_icmp .eq 5, 3)]
theorem L_X6_readStart_0 : CdAt m_X6_readStart.2.1 0 B_X6_readStart_0 := at_of (by decide +kernel)
def B_X6_readStart_26 : List (Instr × Nat) := [(.iconst 0, 1), (.ireturn, 1)]
theorem L_X6_readStart_26 : CdAt m_X6_readStart.2.1 26 B_X6_readStart_26 := at_of (by decide +kernel)
def B_X6_readStart_28 : List (Instr × Nat) := [(.aload_n 0, 1), (.dup, 1), (.getfield 27, 3), (.iconst 1, 1), (.iadd, 1), (.putfield 27, 3), (.iconst 1, 1), (.ireturn, 1)]
theorem L_X6_readStart_28 : CdAt m_X6_readStart.2.1 28 B_X6_readStart_28 := at_of (by decide +kernel)
def B_X6_readCommand_0 : List (Instr × Nat) := [(.aload_n 0, 1), (.invokevirtual 30, 3), (.ifCond .ne 5, 3), (.iconst 0, 1), (.ireturn, 1)]
theorem L_X6_readCommand_0 : CdAt m_X6_readCommand.2.1 0 B_X6_readCommand_0 := at_of (by decide +kernel)
def B_X6_readCommand_9 : List (Instr × Nat) := [(.aload_n 0, 1), (.aload_n 0, 1), (.getfield 9, 3), (.aload_n 0, 1), (.getfield 27, 3), (.caload, 1), (.putfield 36, 3), (.aload_n 0, 1), (.dup, 1), (.getfield 27, 3), (.iconst 1, 1), (.iadd, 1), (.putfield 27, 3), (.aload_n 0, 1), (.iconst 0, 1), (.putfield 40, 3), (.aload_n 0, 1), (.getfield 36, 3), (.tableswitch 233 99 120 #[173, 193, 200, 103, 233, 233, 233, 233, 233, 200, 233, 233, 233, 195, 233, 233, 233, 148, 233, 233, 225, 220], 103)]
theorem L_X6_readCommand_9 : CdAt m_X6_readCommand.2.1 9 B_X6_readCommand_9 := at_of (by decide +kernel)
def B_X6_readCommand_144 : List (Instr × Nat) := [(.aload_n 0, 1), (.iconst 1, 1), (.bipush 9, 2), (.invokevirtual 43, 3), (.ifCond .eq 36, 3), (.aload_n 0, 1), (.iconst 0, 1), (.iconst 4, 1), (.invokevirtual 43, 3), (.ifCond .eq 27, 3), (.aload_n 0, 1), (.iconst 0, 1), (.bipush 60, 2), (.invokevirtual 47, 3), (.ifCond .eq 17, 3), (.aload_n 0, 1), (.iconst 1, 1), (.bipush 30, 2), (.invokevirtual 47, 3), (.ifCond .eq 7, 3), (.iconst 1, 1), (.goto 4, 3)]
theorem L_X6_readCommand_144 : CdAt m_X6_readCommand.2.1 144 B_X6_readCommand_144 := at_of (by decide +kernel)
def B_X6_readCommand_187 : List (Instr × Nat) := [(.iconst 0, 1)]
theorem L_X6_readCommand_187 : CdAt m_X6_readCommand.2.1 187 B_X6_readCommand_187 := at_of (by decide +kernel)
def B_X6_readCommand_188 : List (Instr × Nat) := [(.ireturn, 1)]
theorem L_X6_readCommand_188 : CdAt m_X6_readCommand.2.1 188 B_X6_readCommand_188 := at_of (by decide +kernel)
def B_X6_readCommand_189 : List (Instr × Nat) := [(.aload_n 0, 1), (.iconst 0, 1), (.bipush 15, 2), (.invokevirtual 47, 3), (.ifCond .eq 16, 3), (.aload_n 0, 1), (.iconst 1, 1), (.iconst 5, 1), (.invokevirtual 43, 3), (.ifCond .eq 7, 3), (.iconst 1, 1), (.goto 4, 3)]
theorem L_X6_readCommand_189 : CdAt m_X6_readCommand.2.1 189 B_X6_readCommand_189 := at_of (by decide +kernel)
def B_X6_readCommand_212 : List (Instr × Nat) := [(.iconst 0, 1)]
theorem L_X6_readCommand_212 : CdAt m_X6_readCommand.2.1 212 B_X6_readCommand_212 := at_of (by decide +kernel)
def B_X6_readCommand_213 : List (Instr × Nat) := [(.ireturn, 1)]
theorem L_X6_readCommand_213 : CdAt m_X6_readCommand.2.1 213 B_X6_readCommand_213 := at_of (by decide +kernel)
def B_X6_readCommand_214 : List (Instr × Nat) := [(.aload_n 0, 1), (.invokevirtual 50, 3), (.ifCond .eq 14, 3), (.aload_n 0, 1), (.invokevirtual 53, 3), (.ifCond .eq 7, 3), (.iconst 1, 1), (.goto 4, 3)]
theorem L_X6_readCommand_214 : CdAt m_X6_readCommand.2.1 214 B_X6_readCommand_214 := at_of (by decide +kernel)
def B_X6_readCommand_232 : List (Instr × Nat) := [(.iconst 0, 1)]
theorem L_X6_readCommand_232 : CdAt m_X6_readCommand.2.1 232 B_X6_readCommand_232 := at_of (by decide +kernel)
def B_X6_readCommand_233 : List (Instr × Nat) := [(.ireturn, 1)]
theorem L_X6_readCommand_233 : CdAt m_X6_readCommand.2.1 233 B_X6_readCommand_233 := at_of (by decide +kernel)
def B_X6_readCommand_234 : List (Instr × Nat) := [(.iconst 1, 1), (.ireturn, 1)]
theorem L_X6_readCommand_234 : CdAt m_X6_readCommand.2.1 234 B_X6_readCommand_234 := at_of (by decide +kernel)
def B_X6_readCommand_236 : List (Instr × Nat) := [(.aload_n 0, 1), (.invokevirtual 56, 3), (.ireturn, 1)]
theorem L_X6_readCommand_236 : CdAt m_X6_readCommand.2.1 236 B_X6_readCommand_236 := at_of (by decide +kernel)
def B_X6_readCommand_241 : List (Instr × Nat) := [(.aload_n 0, 1), (.invokevirtual 56, 3), (.ifCond .eq 14, 3), (.aload_n 0, 1), (.invokevirtual 59, 3), (.ifCond .eq 7, 3), (.iconst 1, 1), (.goto 4, 3)]
theorem L_X6_readCommand_241 : CdAt m_X6_readCommand.2.1 241 B_X6_readCommand_241 := at_of (by decide +kernel)
def B_X6_readCommand_259 : List (Instr × Nat) := [(.iconst 0, 1)]
theorem L_X6_readCommand_259 : CdAt m_X6_readCommand.2.1 259 B_X6_readCommand_259 := at_of (by decide +kernel)
def B_X6_readCommand_260 : List (Instr × Nat) := [(.ireturn, 1)]
theorem L_X6_readCommand_260 : CdAt m_X6_readCommand.2.1 260 B_X6_readCommand_260 := at_of (by decide +kernel)
def B_X6_readCommand_261 : List (Instr × Nat) := [(.aload_n 0, 1), (.invokevirtual 59, 3), (.ireturn, 1)]
theorem L_X6_readCommand_261 : CdAt m_X6_readCommand.2.1 261 B_X6_readCommand_261 := at_of (by decide +kernel)
def B_X6_readCommand_266 : List (Instr × Nat) := [(.aload_n 0, 1), (.iconst 1, 1), (.bipush 9, 2), (.invokevirtual 43, 3), (.ireturn, 1)]
theorem L_X6_readCommand_266 : CdAt m_X6_readCommand.2.1 266 B_X6_readCommand_266 := at_of (by decide +kernel)
def B_X6_readCommand_274 : List (Instr × Nat) := [(.aload_n 0, 1), (.dup, 1), (.getfield 27, 3), (.iconst 1, 1), (.isub, 1), (.putfield 27, 3), (.iconst 0, 1), (.ireturn, 1)]
theorem L_X6_readCommand_274 : CdAt m_X6_readCommand.2.1 274 B_X6_readCommand_274 := at_of (by decide +kernel)
def B_X6_readKind_0 : List (Instr × Nat) := [(.aload_n 0, 1), (.iconst 0, 1), (.iconst 3, 1), (.invokevirtual 43, 3), (.ifCond .eq 16, 3), (.aload_n 0, 1), (.iconst 1, 1), (.iconst 5, 1), (.invokevirtual 43, 3), (.ifCond .eq 7, 3), (.iconst 1, 1), (.goto 4, 3)]
theorem L_X6_readKind_0 : CdAt m_X6_readKind.2.1 0 B_X6_readKind_0 := at_of (by decide +kernel)
def B_X6_readKind_22 : List (Instr × Nat) := [(.iconst 0, 1)]
theorem L_X6_readKind_22 : CdAt m_X6_readKind.2.1 22 B_X6_readKind_22 := at_of (by decide +kernel)
def B_X6_readKind_23 : List (Instr × Nat) := [(.ireturn, 1)]
theorem L_X6_readKind_23 : CdAt m_X6_readKind.2.1 23 B_X6_readKind_23 := at_of (by decide +kernel)
def B_X6_readPlace_0 : List (Instr × Nat) := [(.aload_n 0, 1), (.iconst 0, 1), (.iconst 3, 1), (.invokevirtual 43, 3), (.ifCond .eq 34, 3), (.aload_n 0, 1), (.iconst 0, 1), (.iconst 4, 1), (.invokevirtual 43, 3), (.ifCond .eq 25, 3), (.aload_n 0, 1), (.iconst 0, 1), (.iconst 5, 1), (.invokevirtual 43, 3), (.ifCond .eq 16, 3), (.aload_n 0, 1), (.iconst 0, 1), (.iconst 5, 1), (.invokevirtual 43, 3), (.ifCond .eq 7, 3), (.iconst 1, 1), (.goto 4, 3)]
theorem L_X6_readPlace_0 : CdAt m_X6_readPlace.2.1 0 B_X6_readPlace_0 := at_of (by decide +kernel)
def B_X6_readPlace_40 : List (Instr × Nat) := [(.iconst 0, 1)]
theorem L_X6_readPlace_40 : CdAt m_X6_readPlace.2.1 40 B_X6_readPlace_40 := at_of (by decide +kernel)
def B_X6_readPlace_41 : List (Instr × Nat) := [(.ireturn, 1)]
theorem L_X6_readPlace_41 : CdAt m_X6_readPlace.2.1 41 B_X6_readPlace_41 := at_of (by decide +kernel)
def B_X6_readLesson_0 : List (Instr × Nat) := [(.aload_n 0, 1), (.iconst 0, 1), (.bipush 9, 2), (.invokevirtual 43, 3), (.ireturn, 1)]
theorem L_X6_readLesson_0 : CdAt m_X6_readLesson.2.1 0 B_X6_readLesson_0 := at_of (by decide +kernel)
def B_X6_readDancer_0 : List (Instr × Nat) := [(.aload_n 0, 1), (.iconst 0, 1), (.bipush 11, 2), (.invokevirtual 47, 3), (.ireturn, 1)]
theorem L_X6_readDancer_0 : CdAt m_X6_readDancer.2.1 0 B_X6_readDancer_0 := at_of (by decide +kernel)
def B_X6_readDigit_0 : List (Instr × Nat) := [(.aload_n 0, 1), (.iload_n 1, 1), (.iload_n 2, 1), (.invokevirtual 62, 3), (.istore_n 3, 1), (.iload_n 3, 1), (.iconst (-1), 1), (.if_icmp .eq 15, 3), (.aload_n 0, 1), (.iload_n 3, 1), (.invokevirtual 66, 3), (.ifCond .eq 7, 3), (.iconst 1, 1), (.goto 4, 3)]
theorem L_X6_readDigit_0 : CdAt m_X6_readDigit.2.1 0 B_X6_readDigit_0 := at_of (by decide +kernel)
def B_X6_readDigit_24 : List (Instr × Nat) := [(.iconst 0, 1)]
theorem L_X6_readDigit_24 : CdAt m_X6_readDigit.2.1 24 B_X6_readDigit_24 := at_of (by decide +kernel)
def B_X6_readDigit_25 : List (Instr × Nat) := [(.ireturn, 1)]
theorem L_X6_readDigit_25 : CdAt m_X6_readDigit.2.1 25 B_X6_readDigit_25 := at_of (by decide +kernel)
def B_X6_readTwoDigits_0 : List (Instr × Nat) := [(.aload_n 0, 1), (.iload_n 1, 1), (.bipush 10, 2), (.idiv, 1), (.iload_n 2, 1), (.bipush 10, 2), (.idiv, 1), (.invokevirtual 62, 3), (.istore_n 3, 1), (.iload_n 3, 1), (.iconst (-1), 1), (.if_icmp .ne 5, 3), (.iconst 0, 1), (.ireturn, 1)]
theorem L_X6_readTwoDigits_0 : CdAt m_X6_readTwoDigits.2.1 0 B_X6_readTwoDigits_0 := at_of (by decide +kernel)
def B_X6_readTwoDigits_20 : List (Instr × Nat) := [(.aload_n 0, 1), (.iload_n 1, 1), (.bipush 10, 2), (.iload_n 3, 1), (.imul, 1), (.isub, 1), (.iconst 0, 1), (.invokestatic 70, 3), (.iload_n 2, 1), (.bipush 10, 2), (.iload_n 3, 1), (.imul, 1), (.isub, 1), (.bipush 9, 2), (.invokestatic 75, 3), (.invokevirtual 62, 3), (.istore 4, 2), (.iload 4, 2), (.iconst (-1), 1), (.if_icmp .eq 21, 3), (.aload_n 0, 1), (.bipush 10, 2), (.iload_n 3, 1), (.imul, 1), (.iload 4, 2), (.iadd, 1), (.invokevirtual 66, 3), (.ifCond .eq 7, 3), (.iconst 1, 1), (.goto 4, 3)]
theorem L_X6_readTwoDigits_20 : CdAt m_X6_readTwoDigits.2.1 20 B_X6_readTwoDigits_20 := at_of (by decide +kernel)
def B_X6_readTwoDigits_71 : List (Instr × Nat) := [(.iconst 0, 1)]
theorem L_X6_readTwoDigits_71 : CdAt m_X6_readTwoDigits.2.1 71 B_X6_readTwoDigits_71 := at_of (by decide +kernel)
def B_X6_readTwoDigits_72 : List (Instr × Nat) := [(.ireturn, 1)]
theorem L_X6_readTwoDigits_72 : CdAt m_X6_readTwoDigits.2.1 72 B_X6_readTwoDigits_72 := at_of (by decide +kernel)
def B_X6_digitWithin_0 : List (Instr × Nat) := [(.aload_n 0, 1), (.invokevirtual 30, 3), (.ifCond .eq 23, 3), (.aload_n 0, 1), (.getfield 9, 3), (.aload_n 0, 1), (.getfield 27, 3), (.caload, 1), (.bipush 48, 2), (.isub, 1), (.iload_n 1, 1), (.iload_n 2, 1), (.invokestatic 78, 3), (.ifCond .ne 5, 3)]
theorem L_X6_digitWithin_0 : CdAt m_X6_digitWithin.2.1 0 B_X6_digitWithin_0 := at_of (by decide +kernel)
def B_X6_digitWithin_27 : List (Instr × Nat) := [(.iconst (-1), 1), (.ireturn, 1)]
theorem L_X6_digitWithin_27 : CdAt m_X6_digitWithin.2.1 27 B_X6_digitWithin_27 := at_of (by decide +kernel)
def B_X6_digitWithin_29 : List (Instr × Nat) := [(.aload_n 0, 1), (.dup, 1), (.getfield 27, 3), (.iconst 1, 1), (.iadd, 1), (.putfield 27, 3), (.aload_n 0, 1), (.getfield 9, 3), (.aload_n 0, 1), (.getfield 27, 3), (.iconst 1, 1), (.isub, 1), (.caload, 1), (.bipush 48, 2), (.isub, 1), (.ireturn, 1)]
theorem L_X6_digitWithin_29 : CdAt m_X6_digitWithin.2.1 29 B_X6_digitWithin_29 := at_of (by decide +kernel)
def B_X6_keepNumber_0 : List (Instr × Nat) := [(.aload_n 0, 1), (.getfield 40, 3), (.bipush 6, 2), (.if_icmp .lt 5, 3), (.iconst 0, 1), (.ireturn, 1)]
theorem L_X6_keepNumber_0 : CdAt m_X6_keepNumber.2.1 0 B_X6_keepNumber_0 := at_of (by decide +kernel)
def B_X6_keepNumber_11 : List (Instr × Nat) := [(.aload_n 0, 1), (.getfield 15, 3), (.aload_n 0, 1), (.getfield 40, 3), (.iload_n 1, 1), (.iastore, 1), (.aload_n 0, 1), (.dup, 1), (.getfield 40, 3), (.iconst 1, 1), (.iadd, 1), (.putfield 40, 3), (.iconst 1, 1), (.ireturn, 1)]
theorem L_X6_keepNumber_11 : CdAt m_X6_keepNumber.2.1 11 B_X6_keepNumber_11 := at_of (by decide +kernel)
def B_X7_init_0 : List (Instr × Nat) := [(.aload_n 0, 1), (.invokespecial 1, 3), (.aload_n 0, 1), (.new 7, 3), (.dup, 1), (.invokespecial 9, 3), (.putfield 10, 3), (.aload_n 0, 1), (.new 16, 3), (.dup, 1), (.invokespecial 18, 3), (.putfield 19, 3), (.aload_n 0, 1), (.new 16, 3), (.dup, 1), (.invokespecial 18, 3), (.putfield 23, 3), (.aload_n 0, 1), (.new 26, 3), (.dup, 1), (.invokespecial 28, 3), (.putfield 29, 3), (.aload_n 0, 1), (.iconst 2, 1), (.anewarray 16, 3), (.putfield 33, 3), (.iconst 0, 1), (.istore_n 1, 1)]
theorem L_X7_init_0 : CdAt m_X7_init.2.1 0 B_X7_init_0 := at_of (by decide +kernel)
def B_X7_init_58 : List (Instr × Nat) := [(.iload_n 1, 1), (.iconst 2, 1), (.if_icmp .ge 22, 3), (.aload_n 0, 1), (.getfield 33, 3), (.iload_n 1, 1), (.new 16, 3), (.dup, 1), (.invokespecial 18, 3), (.aastore, 1), (.iinc 1 1, 3), (.goto (-21), 3)]
theorem L_X7_init_58 : CdAt m_X7_init.2.1 58 B_X7_init_58 := at_of (by decide +kernel)
def B_X7_init_82 : List (Instr × Nat) := [(.aload_n 0, 1), (.iconst 2, 1), (.newarray .boolean, 2), (.putfield 37, 3), (.return_, 1)]
theorem L_X7_init_82 : CdAt m_X7_init.2.1 82 B_X7_init_82 := at_of (by decide +kernel)
def B_X7_append_0 : List (Instr × Nat) := [(.iload_n 1, 1), (.iconst 0, 1), (.sipush 255, 3), (.invokestatic 41, 3), (.invokestatic 45, 3), (.aload_n 0, 1), (.getfield 10, 3), (.getfield 49, 3), (.bipush 120, 2), (.if_icmp .ge 7, 3), (.iconst 1, 1), (.goto 4, 3)]
theorem L_X7_append_0 : CdAt m_X7_append.2.1 0 B_X7_append_0 := at_of (by decide +kernel)
def B_X7_append_27 : List (Instr × Nat) := [(.iconst 0, 1)]
theorem L_X7_append_27 : CdAt m_X7_append.2.1 27 B_X7_append_27 := at_of (by decide +kernel)
def B_X7_append_28 : List (Instr × Nat) := [(.invokestatic 53, 3), (.aload_n 0, 1), (.getfield 10, 3), (.iload_n 1, 1), (.i2c, 1), (.invokevirtual 56, 3), (.ireturn, 1)]
theorem L_X7_append_28 : CdAt m_X7_append.2.1 28 B_X7_append_28 := at_of (by decide +kernel)
def B_X7_clearText_0 : List (Instr × Nat) := [(.aload_n 0, 1), (.getfield 10, 3), (.invokevirtual 60, 3), (.ireturn, 1)]
theorem L_X7_clearText_0 : CdAt m_X7_clearText.2.1 0 B_X7_clearText_0 := at_of (by decide +kernel)
def B_X7_errorPosition_0 : List (Instr × Nat) := [(.aload_n 0, 1), (.getfield 10, 3), (.invokevirtual 64, 3), (.ireturn, 1)]
theorem L_X7_errorPosition_0 : CdAt m_X7_errorPosition.2.1 0 B_X7_errorPosition_0 := at_of (by decide +kernel)
def B_X7_load_0 : List (Instr × Nat) := [(.aload_n 0, 1), (.getfield 10, 3), (.invokevirtual 64, 3), (.iconst (-1), 1), (.if_icmp .ne 7, 3), (.iconst 1, 1), (.goto 4, 3)]
theorem L_X7_load_0 : CdAt m_X7_load.2.1 0 B_X7_load_0 := at_of (by decide +kernel)
def B_X7_load_15 : List (Instr × Nat) := [(.iconst 0, 1)]
theorem L_X7_load_15 : CdAt m_X7_load.2.1 15 B_X7_load_15 := at_of (by decide +kernel)
def B_X7_load_16 : List (Instr × Nat) := [(.invokestatic 53, 3), (.aload_n 0, 1), (.getfield 19, 3), (.invokevirtual 67, 3), (.aload_n 0, 1), (.getfield 29, 3), (.invokevirtual 70, 3), (.iconst 0, 1), (.istore_n 1, 1)]
theorem L_X7_load_16 : CdAt m_X7_load.2.1 16 B_X7_load_16 := at_of (by decide +kernel)
def B_X7_load_35 : List (Instr × Nat) := [(.iload_n 1, 1), (.iconst 2, 1), (.if_icmp .ge 16, 3), (.aload_n 0, 1), (.getfield 37, 3), (.iload_n 1, 1), (.iconst 0, 1), (.bastore, 1), (.iinc 1 1, 3), (.goto (-15), 3)]
theorem L_X7_load_35 : CdAt m_X7_load.2.1 35 B_X7_load_35 := at_of (by decide +kernel)
def B_X7_load_53 : List (Instr × Nat) := [(.aload_n 0, 1), (.invokevirtual 73, 3), (.ireturn, 1)]
theorem L_X7_load_53 : CdAt m_X7_load.2.1 53 B_X7_load_53 := at_of (by decide +kernel)
def B_X7_about_0 : List (Instr × Nat) := [(.iload_n 1, 1), (.tableswitch 159 0 11 #[63, 71, 79, 87, 95, 103, 111, 119, 127, 135, 143, 151], 63)]
theorem L_X7_about_0 : CdAt m_X7_about.2.1 0 B_X7_about_0 := at_of (by decide +kernel)
def B_X7_about_64 : List (Instr × Nat) := [(.aload_n 0, 1), (.getfield 19, 3), (.getfield 76, 3), (.ireturn, 1)]
theorem L_X7_about_64 : CdAt m_X7_about.2.1 64 B_X7_about_64 := at_of (by decide +kernel)
def B_X7_about_72 : List (Instr × Nat) := [(.aload_n 0, 1), (.getfield 19, 3), (.getfield 79, 3), (.ireturn, 1)]
theorem L_X7_about_72 : CdAt m_X7_about.2.1 72 B_X7_about_72 := at_of (by decide +kernel)
def B_X7_about_80 : List (Instr × Nat) := [(.aload_n 0, 1), (.getfield 19, 3), (.getfield 82, 3), (.ireturn, 1)]
theorem L_X7_about_80 : CdAt m_X7_about.2.1 80 B_X7_about_80 := at_of (by decide +kernel)
def B_X7_about_88 : List (Instr × Nat) := [(.aload_n 0, 1), (.getfield 19, 3), (.getfield 85, 3), (.ireturn, 1)]
theorem L_X7_about_88 : CdAt m_X7_about.2.1 88 B_X7_about_88 := at_of (by decide +kernel)
def B_X7_about_96 : List (Instr × Nat) := [(.aload_n 0, 1), (.getfield 19, 3), (.getfield 88, 3), (.ireturn, 1)]
theorem L_X7_about_96 : CdAt m_X7_about.2.1 96 B_X7_about_96 := at_of (by decide +kernel)
def B_X7_about_104 : List (Instr × Nat) := [(.aload_n 0, 1), (.getfield 19, 3), (.invokevirtual 91, 3), (.ireturn, 1)]
theorem L_X7_about_104 : CdAt m_X7_about.2.1 104 B_X7_about_104 := at_of (by decide +kernel)
def B_X7_about_112 : List (Instr × Nat) := [(.aload_n 0, 1), (.getfield 19, 3), (.invokevirtual 94, 3), (.ireturn, 1)]
theorem L_X7_about_112 : CdAt m_X7_about.2.1 112 B_X7_about_112 := at_of (by decide +kernel)
def B_X7_about_120 : List (Instr × Nat) := [(.aload_n 0, 1), (.getfield 19, 3), (.invokevirtual 97, 3), (.ireturn, 1)]
theorem L_X7_about_120 : CdAt m_X7_about.2.1 120 B_X7_about_120 := at_of (by decide +kernel)
def B_X7_about_128 : List (Instr × Nat) := [(.aload_n 0, 1), (.getfield 19, 3), (.invokevirtual 100, 3), (.ireturn, 1)]
theorem L_X7_about_128 : CdAt m_X7_about.2.1 128 B_X7_about_128 := at_of (by decide +kernel)
def B_X7_about_136 : List (Instr × Nat) := [(.aload_n 0, 1), (.getfield 19, 3), (.getfield 103, 3), (.ireturn, 1)]
theorem L_X7_about_136 : CdAt m_X7_about.2.1 136 B_X7_about_136 := at_of (by decide +kernel)
def B_X7_about_144 : List (Instr × Nat) := [(.aload_n 0, 1), (.getfield 19, 3), (.getfield 106, 3), (.ireturn, 1)]
theorem L_X7_about_144 : CdAt m_X7_about.2.1 144 B_X7_about_144 := at_of (by decide +kernel)
def B_X7_about_152 : List (Instr × Nat) := [(.aload_n 0, 1), (.getfield 19, 3), (.getfield 109, 3), (.ireturn, 1)]
theorem L_X7_about_152 : CdAt m_X7_about.2.1 152 B_X7_about_152 := at_of (by decide +kernel)
def B_X7_about_160 : List (Instr × Nat) := [(.new 112, 3), (.dup, 1), (.ldc 114, 2), (.invokespecial 116, 3), (.athrow, 1)]
theorem L_X7_about_160 : CdAt m_X7_about.2.1 160 B_X7_about_160 := at_of (by decide +kernel)
def B_X7_floorOf_0 : List (Instr × Nat) := [(.aload_n 0, 1), (.getfield 19, 3), (.iload_n 1, 1), (.invokevirtual 119, 3), (.invokestatic 123, 3), (.aload_n 0, 1), (.getfield 19, 3), (.getfield 126, 3), (.iload_n 1, 1), (.aaload, 1), (.astore_n 3, 1), (.iload_n 2, 1), (.tableswitch 79 0 5 #[38, 43, 48, 53, 58, 67], 38)]
theorem L_X7_floorOf_0 : CdAt m_X7_floorOf.2.1 0 B_X7_floorOf_0 := at_of (by decide +kernel)
def B_X7_floorOf_60 : List (Instr × Nat) := [(.aload_n 3, 1), (.getfield 130, 3), (.ireturn, 1)]
theorem L_X7_floorOf_60 : CdAt m_X7_floorOf.2.1 60 B_X7_floorOf_60 := at_of (by decide +kernel)
def B_X7_floorOf_65 : List (Instr × Nat) := [(.aload_n 3, 1), (.getfield 135, 3), (.ireturn, 1)]
theorem L_X7_floorOf_65 : CdAt m_X7_floorOf.2.1 65 B_X7_floorOf_65 := at_of (by decide +kernel)
def B_X7_floorOf_70 : List (Instr × Nat) := [(.aload_n 3, 1), (.getfield 138, 3), (.ireturn, 1)]
theorem L_X7_floorOf_70 : CdAt m_X7_floorOf.2.1 70 B_X7_floorOf_70 := at_of (by decide +kernel)
def B_X7_floorOf_75 : List (Instr × Nat) := [(.aload_n 3, 1), (.getfield 141, 3), (.ireturn, 1)]
theorem L_X7_floorOf_75 : CdAt m_X7_floorOf.2.1 75 B_X7_floorOf_75 := at_of (by decide +kernel)
def B_X7_floorOf_80 : List (Instr × Nat) := [(.aload_n 0, 1), (.getfield 19, 3), (.iload_n 1, 1), (.invokevirtual 144, 3), (.ireturn, 1)]
theorem L_X7_floorOf_80 : CdAt m_X7_floorOf.2.1 80 B_X7_floorOf_80 := at_of (by decide +kernel)
def B_X7_floorOf_89 : List (Instr × Nat) := [(.bipush 36, 2), (.aload_n 0, 1), (.getfield 19, 3), (.iload_n 1, 1), (.invokevirtual 144, 3), (.isub, 1), (.ireturn, 1)]
theorem L_X7_floorOf_89 : CdAt m_X7_floorOf.2.1 89 B_X7_floorOf_89 := at_of (by decide +kernel)
def B_X7_floorOf_101 : List (Instr × Nat) := [(.new 112, 3), (.dup, 1), (.ldc 114, 2), (.invokespecial 116, 3), (.athrow, 1)]
theorem L_X7_floorOf_101 : CdAt m_X7_floorOf.2.1 101 B_X7_floorOf_101 := at_of (by decide +kernel)
def B_X7_teacherOf_0 : List (Instr × Nat) := [(.aload_n 0, 1), (.getfield 19, 3), (.iload_n 1, 1), (.invokevirtual 148, 3), (.invokestatic 123, 3), (.aload_n 0, 1), (.getfield 19, 3), (.getfield 151, 3), (.iload_n 1, 1), (.aaload, 1), (.astore_n 3, 1), (.iload_n 2, 1), (.tableswitch 58 0 3 #[30, 35, 40, 49], 30)]
theorem L_X7_teacherOf_0 : CdAt m_X7_teacherOf.2.1 0 B_X7_teacherOf_0 := at_of (by decide +kernel)
def B_X7_teacherOf_52 : List (Instr × Nat) := [(.aload_n 3, 1), (.getfield 155, 3), (.ireturn, 1)]
theorem L_X7_teacherOf_52 : CdAt m_X7_teacherOf.2.1 52 B_X7_teacherOf_52 := at_of (by decide +kernel)
def B_X7_teacherOf_57 : List (Instr × Nat) := [(.aload_n 3, 1), (.getfield 160, 3), (.ireturn, 1)]
theorem L_X7_teacherOf_57 : CdAt m_X7_teacherOf.2.1 57 B_X7_teacherOf_57 := at_of (by decide +kernel)
def B_X7_teacherOf_62 : List (Instr × Nat) := [(.aload_n 0, 1), (.getfield 19, 3), (.iload_n 1, 1), (.invokevirtual 163, 3), (.ireturn, 1)]
theorem L_X7_teacherOf_62 : CdAt m_X7_teacherOf.2.1 62 B_X7_teacherOf_62 := at_of (by decide +kernel)
def B_X7_teacherOf_71 : List (Instr × Nat) := [(.aload_n 0, 1), (.getfield 19, 3), (.iload_n 1, 1), (.invokevirtual 166, 3), (.ireturn, 1)]
theorem L_X7_teacherOf_71 : CdAt m_X7_teacherOf.2.1 71 B_X7_teacherOf_71 := at_of (by decide +kernel)
def B_X7_teacherOf_80 : List (Instr × Nat) := [(.new 112, 3), (.dup, 1), (.ldc 114, 2), (.invokespecial 116, 3), (.athrow, 1)]
theorem L_X7_teacherOf_80 : CdAt m_X7_teacherOf.2.1 80 B_X7_teacherOf_80 := at_of (by decide +kernel)
def B_X7_classOf_0 : List (Instr × Nat) := [(.aload_n 0, 1), (.getfield 19, 3), (.iload_n 1, 1), (.invokevirtual 169, 3), (.invokestatic 123, 3), (.aload_n 0, 1), (.getfield 19, 3), (.getfield 172, 3), (.iload_n 1, 1), (.aaload, 1), (.astore_n 3, 1), (.iload_n 2, 1), (.tableswitch 108 0 9 #[54, 59, 64, 69, 74, 79, 84, 93, 98, 103], 54)]
theorem L_X7_classOf_0 : CdAt m_X7_classOf.2.1 0 B_X7_classOf_0 := at_of (by decide +kernel)
def B_X7_classOf_76 : List (Instr × Nat) := [(.aload_n 3, 1), (.getfield 176, 3), (.ireturn, 1)]
theorem L_X7_classOf_76 : CdAt m_X7_classOf.2.1 76 B_X7_classOf_76 := at_of (by decide +kernel)
def B_X7_classOf_81 : List (Instr × Nat) := [(.aload_n 3, 1), (.getfield 181, 3), (.ireturn, 1)]
theorem L_X7_classOf_81 : CdAt m_X7_classOf.2.1 81 B_X7_classOf_81 := at_of (by decide +kernel)
def B_X7_classOf_86 : List (Instr × Nat) := [(.aload_n 3, 1), (.getfield 184, 3), (.ireturn, 1)]
theorem L_X7_classOf_86 : CdAt m_X7_classOf.2.1 86 B_X7_classOf_86 := at_of (by decide +kernel)
def B_X7_classOf_91 : List (Instr × Nat) := [(.aload_n 3, 1), (.getfield 187, 3), (.ireturn, 1)]
theorem L_X7_classOf_91 : CdAt m_X7_classOf.2.1 91 B_X7_classOf_91 := at_of (by decide +kernel)
def B_X7_classOf_96 : List (Instr × Nat) := [(.aload_n 3, 1), (.getfield 190, 3), (.ireturn, 1)]
theorem L_X7_classOf_96 : CdAt m_X7_classOf.2.1 96 B_X7_classOf_96 := at_of (by decide +kernel)
def B_X7_classOf_101 : List (Instr × Nat) := [(.aload_n 3, 1), (.getfield 193, 3), (.ireturn, 1)]
theorem L_X7_classOf_101 : CdAt m_X7_classOf.2.1 101 B_X7_classOf_101 := at_of (by decide +kernel)
def B_X7_classOf_106 : List (Instr × Nat) := [(.aload_n 0, 1), (.getfield 19, 3), (.aload_n 3, 1), (.invokevirtual 196, 3), (.ireturn, 1)]
theorem L_X7_classOf_106 : CdAt m_X7_classOf.2.1 106 B_X7_classOf_106 := at_of (by decide +kernel)
def B_X7_classOf_115 : List (Instr × Nat) := [(.aload_n 3, 1), (.invokevirtual 200, 3), (.ireturn, 1)]
theorem L_X7_classOf_115 : CdAt m_X7_classOf.2.1 115 B_X7_classOf_115 := at_of (by decide +kernel)
def B_X7_classOf_120 : List (Instr × Nat) := [(.aload_n 3, 1), (.getfield 201, 3), (.ireturn, 1)]
theorem L_X7_classOf_120 : CdAt m_X7_classOf.2.1 120 B_X7_classOf_120 := at_of (by decide +kernel)
def B_X7_classOf_125 : List (Instr × Nat) := [(.aload_n 3, 1), (.getfield 204, 3), (.ireturn, 1)]
theorem L_X7_classOf_125 : CdAt m_X7_classOf.2.1 125 B_X7_classOf_125 := at_of (by decide +kernel)
def B_X7_classOf_130 : List (Instr × Nat) := [(.new 112, 3), (.dup, 1), (.ldc 114, 2), (.invokespecial 116, 3), (.athrow, 1)]
theorem L_X7_classOf_130 : CdAt m_X7_classOf.2.1 130 B_X7_classOf_130 := at_of (by decide +kernel)
def B_X7_dancerOf_0 : List (Instr × Nat) := [(.aload_n 0, 1), (.getfield 19, 3), (.iload_n 1, 1), (.invokevirtual 207, 3), (.invokestatic 123, 3), (.aload_n 0, 1), (.getfield 19, 3), (.getfield 210, 3), (.iload_n 1, 1), (.aaload, 1), (.astore_n 3, 1), (.iload_n 2, 1), (.tableswitch 72 0 5 #[38, 43, 48, 53, 58, 63], 38)]
theorem L_X7_dancerOf_0 : CdAt m_X7_dancerOf.2.1 0 B_X7_dancerOf_0 := at_of (by decide +kernel)
def B_X7_dancerOf_60 : List (Instr × Nat) := [(.aload_n 3, 1), (.getfield 214, 3), (.ireturn, 1)]
theorem L_X7_dancerOf_60 : CdAt m_X7_dancerOf.2.1 60 B_X7_dancerOf_60 := at_of (by decide +kernel)
def B_X7_dancerOf_65 : List (Instr × Nat) := [(.aload_n 3, 1), (.getfield 217, 3), (.ireturn, 1)]
theorem L_X7_dancerOf_65 : CdAt m_X7_dancerOf.2.1 65 B_X7_dancerOf_65 := at_of (by decide +kernel)
def B_X7_dancerOf_70 : List (Instr × Nat) := [(.aload_n 3, 1), (.getfield 220, 3), (.ireturn, 1)]
theorem L_X7_dancerOf_70 : CdAt m_X7_dancerOf.2.1 70 B_X7_dancerOf_70 := at_of (by decide +kernel)
def B_X7_dancerOf_75 : List (Instr × Nat) := [(.aload_n 3, 1), (.invokevirtual 223, 3), (.ireturn, 1)]
theorem L_X7_dancerOf_75 : CdAt m_X7_dancerOf.2.1 75 B_X7_dancerOf_75 := at_of (by decide +kernel)
def B_X7_dancerOf_80 : List (Instr × Nat) := [(.aload_n 3, 1), (.getfield 226, 3), (.ireturn, 1)]
theorem L_X7_dancerOf_80 : CdAt m_X7_dancerOf.2.1 80 B_X7_dancerOf_80 := at_of (by decide +kernel)
def B_X7_dancerOf_85 : List (Instr × Nat) := [(.aload_n 0, 1), (.getfield 19, 3), (.iload_n 1, 1), (.invokevirtual 229, 3), (.ireturn, 1)]
theorem L_X7_dancerOf_85 : CdAt m_X7_dancerOf.2.1 85 B_X7_dancerOf_85 := at_of (by decide +kernel)
def B_X7_dancerOf_94 : List (Instr × Nat) := [(.new 112, 3), (.dup, 1), (.ldc 114, 2), (.invokespecial 116, 3), (.athrow, 1)]
theorem L_X7_dancerOf_94 : CdAt m_X7_dancerOf.2.1 94 B_X7_dancerOf_94 := at_of (by decide +kernel)
def B_X7_uses_0 : List (Instr × Nat) := [(.iload_n 1, 1), (.iconst 0, 1), (.iconst 1, 1), (.invokestatic 41, 3), (.invokestatic 45, 3), (.iload_n 1, 1), (.ifCond .ne 13, 3), (.aload_n 0, 1), (.getfield 19, 3), (.invokevirtual 97, 3), (.goto 10, 3)]
theorem L_X7_uses_0 : CdAt m_X7_uses.2.1 0 B_X7_uses_0 := at_of (by decide +kernel)
def B_X7_uses_23 : List (Instr × Nat) := [(.aload_n 0, 1), (.getfield 19, 3), (.invokevirtual 232, 3)]
theorem L_X7_uses_23 : CdAt m_X7_uses.2.1 23 B_X7_uses_23 := at_of (by decide +kernel)
def B_X7_uses_30 : List (Instr × Nat) := [(.ireturn, 1)]
theorem L_X7_uses_30 : CdAt m_X7_uses.2.1 30 B_X7_uses_30 := at_of (by decide +kernel)
def B_X7_setting_0 : List (Instr × Nat) := [(.iload_n 1, 1), (.iconst 0, 1), (.iconst 1, 1), (.invokestatic 41, 3), (.invokestatic 45, 3), (.aload_n 0, 1), (.getfield 19, 3), (.getfield 235, 3), (.iload_n 1, 1), (.iaload, 1), (.ireturn, 1)]
theorem L_X7_setting_0 : CdAt m_X7_setting.2.1 0 B_X7_setting_0 := at_of (by decide +kernel)
def B_X7_floor_0 : List (Instr × Nat) := [(.iload_n 1, 1), (.iconst 1, 1), (.bipush 9, 2), (.invokestatic 41, 3), (.invokestatic 45, 3), (.iload_n 2, 1), (.iconst 0, 1), (.iconst 4, 1), (.invokestatic 41, 3), (.invokestatic 45, 3), (.iload_n 3, 1), (.iconst 0, 1), (.bipush 60, 2), (.invokestatic 41, 3), (.invokestatic 45, 3), (.iload 4, 2), (.iconst 1, 1), (.bipush 30, 2), (.invokestatic 41, 3), (.invokestatic 45, 3), (.aload_n 0, 1), (.getfield 19, 3), (.getfield 76, 3), (.iconst 4, 1), (.if_icmp .ge 7, 3), (.iconst 1, 1), (.goto 4, 3)]
theorem L_X7_floor_0 : CdAt m_X7_floor.2.1 0 B_X7_floor_0 := at_of (by decide +kernel)
def B_X7_floor_55 : List (Instr × Nat) := [(.iconst 0, 1)]
theorem L_X7_floor_55 : CdAt m_X7_floor.2.1 55 B_X7_floor_55 := at_of (by decide +kernel)
def B_X7_floor_56 : List (Instr × Nat) := [(.invokestatic 53, 3), (.aload_n 0, 1), (.getfield 29, 3), (.aload_n 0, 1), (.getfield 19, 3), (.invokevirtual 239, 3), (.aload_n 0, 1), (.getfield 19, 3), (.iload_n 1, 1), (.iload_n 2, 1), (.iload_n 3, 1), (.iload 4, 2), (.invokevirtual 243, 3), (.ireturn, 1)]
theorem L_X7_floor_56 : CdAt m_X7_floor.2.1 56 B_X7_floor_56 := at_of (by decide +kernel)
def B_X7_teacher_0 : List (Instr × Nat) := [(.iload_n 1, 1), (.iconst 0, 1), (.bipush 15, 2), (.invokestatic 41, 3), (.invokestatic 45, 3), (.iload_n 2, 1), (.iconst 1, 1), (.iconst 5, 1), (.invokestatic 41, 3), (.invokestatic 45, 3), (.aload_n 0, 1), (.getfield 19, 3), (.getfield 79, 3), (.iconst 5, 1), (.if_icmp .ge 7, 3), (.iconst 1, 1), (.goto 4, 3)]
theorem L_X7_teacher_0 : CdAt m_X7_teacher.2.1 0 B_X7_teacher_0 := at_of (by decide +kernel)
def B_X7_teacher_34 : List (Instr × Nat) := [(.iconst 0, 1)]
theorem L_X7_teacher_34 : CdAt m_X7_teacher.2.1 34 B_X7_teacher_34 := at_of (by decide +kernel)
def B_X7_teacher_35 : List (Instr × Nat) := [(.invokestatic 53, 3), (.aload_n 0, 1), (.getfield 29, 3), (.aload_n 0, 1), (.getfield 19, 3), (.invokevirtual 239, 3), (.aload_n 0, 1), (.getfield 19, 3), (.iload_n 1, 1), (.iload_n 2, 1), (.invokevirtual 247, 3), (.ireturn, 1)]
theorem L_X7_teacher_35 : CdAt m_X7_teacher.2.1 35 B_X7_teacher_35 := at_of (by decide +kernel)
def B_X7_set_0 : List (Instr × Nat) := [(.aload_n 0, 1), (.getfield 19, 3), (.iload_n 3, 1), (.invokevirtual 119, 3), (.invokestatic 123, 3), (.aload_n 0, 1), (.getfield 19, 3), (.iload 4, 2), (.invokevirtual 148, 3), (.invokestatic 123, 3), (.iload_n 1, 1), (.iload_n 2, 1), (.iload 5, 2), (.iload 6, 2), (.invokestatic 251, 3), (.aload_n 0, 1), (.getfield 19, 3), (.getfield 82, 3), (.bipush 10, 2), (.if_icmp .ge 7, 3), (.iconst 1, 1), (.goto 4, 3)]
theorem L_X7_set_0 : CdAt m_X7_set.2.1 0 B_X7_set_0 := at_of (by decide +kernel)
def B_X7_set_48 : List (Instr × Nat) := [(.iconst 0, 1)]
theorem L_X7_set_48 : CdAt m_X7_set.2.1 48 B_X7_set_48 := at_of (by decide +kernel)
def B_X7_set_49 : List (Instr × Nat) := [(.invokestatic 53, 3), (.aload_n 0, 1), (.getfield 29, 3), (.aload_n 0, 1), (.getfield 19, 3), (.invokevirtual 239, 3), (.aload_n 0, 1), (.getfield 19, 3), (.aload_n 0, 1), (.getfield 19, 3), (.iload_n 1, 1), (.iload_n 2, 1), (.iload_n 3, 1), (.iload 4, 2), (.iload 5, 2), (.iload 6, 2), (.invokevirtual 255, 3), (.invokevirtual 259, 3), (.ireturn, 1)]
theorem L_X7_set_49 : CdAt m_X7_set.2.1 49 B_X7_set_49 := at_of (by decide +kernel)
def B_X7_drop_0 : List (Instr × Nat) := [(.aload_n 0, 1), (.getfield 19, 3), (.iload_n 1, 1), (.invokevirtual 169, 3), (.invokestatic 123, 3), (.aload_n 0, 1), (.getfield 29, 3), (.aload_n 0, 1), (.getfield 19, 3), (.invokevirtual 239, 3), (.aload_n 0, 1), (.getfield 19, 3), (.iload_n 1, 1), (.invokevirtual 262, 3), (.ireturn, 1)]
theorem L_X7_drop_0 : CdAt m_X7_drop.2.1 0 B_X7_drop_0 := at_of (by decide +kernel)
def B_X7_dancer_0 : List (Instr × Nat) := [(.aload_n 0, 1), (.getfield 19, 3), (.getfield 85, 3), (.bipush 12, 2), (.if_icmp .ge 7, 3), (.iconst 1, 1), (.goto 4, 3)]
theorem L_X7_dancer_0 : CdAt m_X7_dancer.2.1 0 B_X7_dancer_0 := at_of (by decide +kernel)
def B_X7_dancer_16 : List (Instr × Nat) := [(.iconst 0, 1)]
theorem L_X7_dancer_16 : CdAt m_X7_dancer.2.1 16 B_X7_dancer_16 := at_of (by decide +kernel)
def B_X7_dancer_17 : List (Instr × Nat) := [(.invokestatic 53, 3), (.aload_n 0, 1), (.getfield 29, 3), (.aload_n 0, 1), (.getfield 19, 3), (.invokevirtual 239, 3), (.aload_n 0, 1), (.getfield 19, 3), (.invokevirtual 265, 3), (.ireturn, 1)]
theorem L_X7_dancer_17 : CdAt m_X7_dancer.2.1 17 B_X7_dancer_17 := at_of (by decide +kernel)
def B_X7_pass_0 : List (Instr × Nat) := [(.aload_n 0, 1), (.getfield 19, 3), (.iload_n 1, 1), (.invokevirtual 207, 3), (.invokestatic 123, 3), (.aload_n 0, 1), (.getfield 19, 3), (.iload_n 1, 1), (.invokevirtual 268, 3), (.invokestatic 53, 3), (.aload_n 0, 1), (.getfield 29, 3), (.aload_n 0, 1), (.getfield 19, 3), (.invokevirtual 239, 3), (.aload_n 0, 1), (.getfield 19, 3), (.iload_n 1, 1), (.invokevirtual 271, 3), (.ireturn, 1)]
theorem L_X7_pass_0 : CdAt m_X7_pass.2.1 0 B_X7_pass_0 := at_of (by decide +kernel)
def B_X7_enter_0 : List (Instr × Nat) := [(.aload_n 0, 1), (.getfield 19, 3), (.iload_n 1, 1), (.invokevirtual 207, 3), (.invokestatic 123, 3), (.aload_n 0, 1), (.getfield 19, 3), (.iload_n 2, 1), (.invokevirtual 169, 3), (.invokestatic 123, 3), (.aload_n 0, 1), (.getfield 29, 3), (.aload_n 0, 1), (.getfield 19, 3), (.invokevirtual 239, 3), (.aload_n 0, 1), (.getfield 19, 3), (.aload_n 0, 1), (.getfield 19, 3), (.iload_n 1, 1), (.iload_n 2, 1), (.invokevirtual 274, 3), (.invokevirtual 259, 3), (.ireturn, 1)]
theorem L_X7_enter_0 : CdAt m_X7_enter.2.1 0 B_X7_enter_0 := at_of (by decide +kernel)
def B_X7_leave_0 : List (Instr × Nat) := [(.aload_n 0, 1), (.getfield 19, 3), (.iload_n 1, 1), (.invokevirtual 207, 3), (.invokestatic 123, 3), (.aload_n 0, 1), (.getfield 19, 3), (.iload_n 2, 1), (.invokevirtual 169, 3), (.invokestatic 123, 3), (.aload_n 0, 1), (.getfield 19, 3), (.iload_n 1, 1), (.iload_n 2, 1), (.invokevirtual 277, 3), (.invokestatic 53, 3), (.aload_n 0, 1), (.getfield 29, 3), (.aload_n 0, 1), (.getfield 19, 3), (.invokevirtual 239, 3), (.aload_n 0, 1), (.getfield 19, 3), (.iload_n 1, 1), (.iload_n 2, 1), (.invokevirtual 281, 3), (.ireturn, 1)]
theorem L_X7_leave_0 : CdAt m_X7_leave.2.1 0 B_X7_leave_0 := at_of (by decide +kernel)
def B_X7_weeks_0 : List (Instr × Nat) := [(.iload_n 1, 1), (.iconst 1, 1), (.bipush 9, 2), (.invokestatic 41, 3), (.invokestatic 45, 3), (.aload_n 0, 1), (.getfield 29, 3), (.aload_n 0, 1), (.getfield 19, 3), (.invokevirtual 239, 3), (.aload_n 0, 1), (.getfield 19, 3), (.iload_n 1, 1), (.invokevirtual 284, 3), (.ireturn, 1)]
theorem L_X7_weeks_0 : CdAt m_X7_weeks.2.1 0 B_X7_weeks_0 := at_of (by decide +kernel)
def B_X7_tune_0 : List (Instr × Nat) := [(.iload_n 1, 1), (.iconst 0, 1), (.iconst 1, 1), (.invokestatic 41, 3), (.invokestatic 45, 3), (.iload_n 2, 1), (.iconst 1, 1), (.iload_n 1, 1), (.ifCond .ne 8, 3), (.bipush 9, 2), (.goto 5, 3)]
theorem L_X7_tune_0 : CdAt m_X7_tune.2.1 0 B_X7_tune_0 := at_of (by decide +kernel)
def B_X7_tune_20 : List (Instr × Nat) := [(.bipush 50, 2)]
theorem L_X7_tune_20 : CdAt m_X7_tune.2.1 20 B_X7_tune_20 := at_of (by decide +kernel)
def B_X7_tune_22 : List (Instr × Nat) := [(.invokestatic 41, 3), (.invokestatic 45, 3), (.aload_n 0, 1), (.getfield 29, 3), (.aload_n 0, 1), (.getfield 19, 3), (.invokevirtual 239, 3), (.aload_n 0, 1), (.getfield 19, 3), (.getfield 235, 3), (.iload_n 1, 1), (.iaload, 1), (.istore_n 3, 1), (.aload_n 0, 1), (.getfield 19, 3), (.getfield 235, 3), (.iload_n 1, 1), (.iload_n 2, 1), (.iastore, 1), (.iload_n 3, 1), (.ireturn, 1)]
theorem L_X7_tune_22 : CdAt m_X7_tune.2.1 22 B_X7_tune_22 := at_of (by decide +kernel)
def B_X7_undo_0 : List (Instr × Nat) := [(.aload_n 0, 1), (.getfield 29, 3), (.getfield 287, 3), (.ifCond .le 7, 3), (.iconst 1, 1), (.goto 4, 3)]
theorem L_X7_undo_0 : CdAt m_X7_undo.2.1 0 B_X7_undo_0 := at_of (by decide +kernel)
def B_X7_undo_14 : List (Instr × Nat) := [(.iconst 0, 1)]
theorem L_X7_undo_14 : CdAt m_X7_undo.2.1 14 B_X7_undo_14 := at_of (by decide +kernel)
def B_X7_undo_15 : List (Instr × Nat) := [(.invokestatic 53, 3), (.aload_n 0, 1), (.getfield 29, 3), (.aload_n 0, 1), (.getfield 19, 3), (.invokevirtual 290, 3), (.ireturn, 1)]
theorem L_X7_undo_15 : CdAt m_X7_undo.2.1 15 B_X7_undo_15 := at_of (by decide +kernel)
def B_X7_why_0 : List (Instr × Nat) := [(.aload_n 0, 1), (.getfield 19, 3), (.iload_n 3, 1), (.invokevirtual 119, 3), (.invokestatic 123, 3), (.aload_n 0, 1), (.getfield 19, 3), (.iload 4, 2), (.invokevirtual 148, 3), (.invokestatic 123, 3), (.iload_n 1, 1), (.iload_n 2, 1), (.iload 5, 2), (.iload 6, 2), (.invokestatic 251, 3), (.aload_n 0, 1), (.getfield 19, 3), (.iload_n 1, 1), (.iload_n 2, 1), (.iload_n 3, 1), (.iload 4, 2), (.iload 5, 2), (.iload 6, 2), (.invokevirtual 294, 3), (.ireturn, 1)]
theorem L_X7_why_0 : CdAt m_X7_why.2.1 0 B_X7_why_0 := at_of (by decide +kernel)
def B_X7_whySeat_0 : List (Instr × Nat) := [(.aload_n 0, 1), (.getfield 19, 3), (.iload_n 1, 1), (.invokevirtual 207, 3), (.invokestatic 123, 3), (.aload_n 0, 1), (.getfield 19, 3), (.iload_n 2, 1), (.invokevirtual 169, 3), (.invokestatic 123, 3), (.aload_n 0, 1), (.getfield 19, 3), (.iload_n 1, 1), (.iload_n 2, 1), (.invokevirtual 297, 3), (.ireturn, 1)]
theorem L_X7_whySeat_0 : CdAt m_X7_whySeat.2.1 0 B_X7_whySeat_0 := at_of (by decide +kernel)
def B_X7_bestFloor_0 : List (Instr × Nat) := [(.aload_n 0, 1), (.getfield 19, 3), (.iload_n 3, 1), (.invokevirtual 148, 3), (.invokestatic 123, 3), (.iload_n 1, 1), (.iload_n 2, 1), (.iload 4, 2), (.iload 5, 2), (.invokestatic 251, 3), (.aload_n 0, 1), (.getfield 19, 3), (.iload_n 1, 1), (.iload_n 2, 1), (.iload_n 3, 1), (.iload 4, 2), (.iload 5, 2), (.invokevirtual 300, 3), (.ireturn, 1)]
theorem L_X7_bestFloor_0 : CdAt m_X7_bestFloor.2.1 0 B_X7_bestFloor_0 := at_of (by decide +kernel)
def B_X7_emptyIn_0 : List (Instr × Nat) := [(.aload_n 0, 1), (.getfield 19, 3), (.iload_n 1, 1), (.invokevirtual 207, 3), (.invokestatic 123, 3), (.aload_n 0, 1), (.getfield 19, 3), (.getfield 210, 3), (.iload_n 1, 1), (.aaload, 1), (.getfield 220, 3), (.ifCond .ne 5, 3), (.iconst 0, 1), (.ireturn, 1)]
theorem L_X7_emptyIn_0 : CdAt m_X7_emptyIn.2.1 0 B_X7_emptyIn_0 := at_of (by decide +kernel)
def B_X7_emptyIn_28 : List (Instr × Nat) := [(.aload_n 0, 1), (.getfield 23, 3), (.aload_n 0, 1), (.getfield 19, 3), (.invokevirtual 304, 3), (.iconst 1, 1), (.istore_n 2, 1)]
theorem L_X7_emptyIn_28 : CdAt m_X7_emptyIn.2.1 28 B_X7_emptyIn_28 := at_of (by decide +kernel)
def B_X7_emptyIn_41 : List (Instr × Nat) := [(.iload_n 2, 1), (.bipush 100, 2), (.if_icmp .gt 38, 3), (.aload_n 0, 1), (.getfield 23, 3), (.invokevirtual 307, 3), (.ifCond .ne 5, 3), (.iconst (-1), 1), (.ireturn, 1)]
theorem L_X7_emptyIn_41 : CdAt m_X7_emptyIn.2.1 41 B_X7_emptyIn_41 := at_of (by decide +kernel)
def B_X7_emptyIn_59 : List (Instr × Nat) := [(.aload_n 0, 1), (.getfield 23, 3), (.getfield 210, 3), (.iload_n 1, 1), (.aaload, 1), (.getfield 220, 3), (.ifCond .ne 5, 3), (.iload_n 2, 1), (.ireturn, 1)]
theorem L_X7_emptyIn_59 : CdAt m_X7_emptyIn.2.1 59 B_X7_emptyIn_59 := at_of (by decide +kernel)
def B_X7_emptyIn_76 : List (Instr × Nat) := [(.iinc 2 1, 3), (.goto (-38), 3)]
theorem L_X7_emptyIn_76 : CdAt m_X7_emptyIn.2.1 76 B_X7_emptyIn_76 := at_of (by decide +kernel)
def B_X7_emptyIn_82 : List (Instr × Nat) := [(.iconst (-1), 1), (.ireturn, 1)]
theorem L_X7_emptyIn_82 : CdAt m_X7_emptyIn.2.1 82 B_X7_emptyIn_82 := at_of (by decide +kernel)
def B_X7_held_0 : List (Instr × Nat) := [(.aload_n 0, 1), (.getfield 23, 3), (.aload_n 0, 1), (.getfield 19, 3), (.invokevirtual 304, 3), (.aload_n 0, 1), (.getfield 23, 3), (.invokevirtual 307, 3), (.pop, 1), (.iconst 0, 1), (.istore_n 1, 1), (.iconst 0, 1), (.istore_n 2, 1)]
theorem L_X7_held_0 : CdAt m_X7_held.2.1 0 B_X7_held_0 := at_of (by decide +kernel)
def B_X7_held_23 : List (Instr × Nat) := [(.iload_n 2, 1), (.aload_n 0, 1), (.getfield 19, 3), (.getfield 82, 3), (.if_icmp .ge 42, 3), (.aload_n 0, 1), (.getfield 23, 3), (.getfield 172, 3), (.iload_n 2, 1), (.aaload, 1), (.getfield 201, 3), (.aload_n 0, 1), (.getfield 19, 3), (.getfield 172, 3), (.iload_n 2, 1), (.aaload, 1), (.getfield 201, 3), (.if_icmp .le 9, 3), (.iload_n 1, 1), (.iconst 1, 1), (.iload_n 2, 1), (.ishl, 1), (.ior, 1), (.istore_n 1, 1)]
theorem L_X7_held_23 : CdAt m_X7_held.2.1 23 B_X7_held_23 := at_of (by decide +kernel)
def B_X7_held_67 : List (Instr × Nat) := [(.iinc 2 1, 3), (.goto (-47), 3)]
theorem L_X7_held_67 : CdAt m_X7_held.2.1 67 B_X7_held_67 := at_of (by decide +kernel)
def B_X7_held_73 : List (Instr × Nat) := [(.iload_n 1, 1), (.ireturn, 1)]
theorem L_X7_held_73 : CdAt m_X7_held.2.1 73 B_X7_held_73 := at_of (by decide +kernel)
def B_X7_runScript_0 : List (Instr × Nat) := [(.iload_n 1, 1), (.iconst 1, 1), (.iconst 3, 1), (.invokestatic 41, 3), (.invokestatic 45, 3), (.lload_n 2, 1), (.lconst 0, 1), (.lcmp, 1), (.ifCond .lt 17, 3), (.lload_n 2, 1), (.iload_n 1, 1), (.invokestatic 310, 3), (.lconst 0, 1), (.lcmp, 1), (.ifCond .ne 7, 3), (.iconst 1, 1), (.goto 4, 3)]
theorem L_X7_runScript_0 : CdAt m_X7_runScript.2.1 0 B_X7_runScript_0 := at_of (by decide +kernel)
def B_X7_runScript_29 : List (Instr × Nat) := [(.iconst 0, 1)]
theorem L_X7_runScript_29 : CdAt m_X7_runScript.2.1 29 B_X7_runScript_29 := at_of (by decide +kernel)
def B_X7_runScript_30 : List (Instr × Nat) := [(.invokestatic 45, 3), (.aload_n 0, 1), (.getfield 23, 3), (.aload_n 0, 1), (.getfield 19, 3), (.invokevirtual 304, 3), (.iconst 0, 1), (.istore 4, 2)]
theorem L_X7_runScript_30 : CdAt m_X7_runScript.2.1 30 B_X7_runScript_30 := at_of (by decide +kernel)
def B_X7_runScript_47 : List (Instr × Nat) := [(.iload 4, 2), (.iload_n 1, 1), (.if_icmp .ge 34, 3), (.aload_n 0, 1), (.lload_n 2, 1), (.iload_n 1, 1), (.iconst 1, 1), (.isub, 1), (.iload 4, 2), (.isub, 1), (.invokestatic 310, 3), (.ldc2_w 314, 3), (.lrem, 1), (.l2i, 1), (.invokevirtual 316, 3), (.ifCond .ne 6, 3), (.iload 4, 2), (.ireturn, 1)]
theorem L_X7_runScript_47 : CdAt m_X7_runScript.2.1 47 B_X7_runScript_47 := at_of (by decide +kernel)
def B_X7_runScript_78 : List (Instr × Nat) := [(.iinc 4 1, 3), (.goto (-34), 3)]
theorem L_X7_runScript_78 : CdAt m_X7_runScript.2.1 78 B_X7_runScript_78 := at_of (by decide +kernel)
def B_X7_runScript_84 : List (Instr × Nat) := [(.iconst (-1), 1), (.ireturn, 1)]
theorem L_X7_runScript_84 : CdAt m_X7_runScript.2.1 84 B_X7_runScript_84 := at_of (by decide +kernel)
def B_X7_simulate_0 : List (Instr × Nat) := [(.iload_n 3, 1), (.iconst 1, 1), (.bipush 100, 2), (.invokestatic 41, 3), (.invokestatic 45, 3), (.aload_n 0, 1), (.getfield 23, 3), (.aload_n 0, 1), (.getfield 19, 3), (.invokevirtual 304, 3), (.iconst 0, 1), (.istore 4, 2), (.lload_n 1, 1), (.lstore 5, 2), (.iconst 0, 1), (.istore 7, 2)]
theorem L_X7_simulate_0 : CdAt m_X7_simulate.2.1 0 B_X7_simulate_0 := at_of (by decide +kernel)
def B_X7_simulate_30 : List (Instr × Nat) := [(.iload 7, 2), (.iload_n 3, 1), (.if_icmp .ge 36, 3), (.lload 5, 2), (.ldc2_w 319, 3), (.lmul, 1), (.ldc2_w 321, 3), (.ladd, 1), (.lstore 5, 2), (.iload 4, 2), (.aload_n 0, 1), (.lload 5, 2), (.bipush 33, 2), (.lushr, 1), (.l2i, 1), (.invokevirtual 323, 3), (.iadd, 1), (.istore 4, 2), (.iinc 7 1, 3), (.goto (-36), 3)]
theorem L_X7_simulate_30 : CdAt m_X7_simulate.2.1 30 B_X7_simulate_30 := at_of (by decide +kernel)
def B_X7_simulate_69 : List (Instr × Nat) := [(.sipush 10000, 3), (.iload 4, 2), (.imul, 1), (.bipush 100, 2), (.aload_n 0, 1), (.getfield 23, 3), (.getfield 82, 3), (.imul, 1), (.iadd, 1), (.aload_n 0, 1), (.getfield 23, 3), (.invokevirtual 91, 3), (.bipush 100, 2), (.irem, 1), (.iadd, 1), (.ireturn, 1)]
theorem L_X7_simulate_69 : CdAt m_X7_simulate.2.1 69 B_X7_simulate_69 := at_of (by decide +kernel)
def B_X7_save_0 : List (Instr × Nat) := [(.iload_n 1, 1), (.iconst 0, 1), (.iconst 1, 1), (.invokestatic 41, 3), (.invokestatic 123, 3), (.aload_n 0, 1), (.getfield 33, 3), (.iload_n 1, 1), (.aaload, 1), (.aload_n 0, 1), (.getfield 19, 3), (.invokevirtual 304, 3), (.aload_n 0, 1), (.getfield 37, 3), (.iload_n 1, 1), (.iconst 1, 1), (.bastore, 1), (.aload_n 0, 1), (.getfield 19, 3), (.getfield 88, 3), (.ireturn, 1)]
theorem L_X7_save_0 : CdAt m_X7_save.2.1 0 B_X7_save_0 := at_of (by decide +kernel)
def B_X7_restore_0 : List (Instr × Nat) := [(.iload_n 1, 1), (.iconst 0, 1), (.iconst 1, 1), (.invokestatic 41, 3), (.invokestatic 123, 3), (.aload_n 0, 1), (.getfield 37, 3), (.iload_n 1, 1), (.baload, 1), (.invokestatic 53, 3), (.aload_n 0, 1), (.getfield 19, 3), (.aload_n 0, 1), (.getfield 33, 3), (.iload_n 1, 1), (.aaload, 1), (.invokevirtual 304, 3), (.aload_n 0, 1), (.getfield 29, 3), (.invokevirtual 70, 3), (.aload_n 0, 1), (.getfield 19, 3), (.getfield 88, 3), (.ireturn, 1)]
theorem L_X7_restore_0 : CdAt m_X7_restore.2.1 0 B_X7_restore_0 := at_of (by decide +kernel)
def B_X7_isWithin_0 : List (Instr × Nat) := [(.iload_n 0, 1), (.iload_n 1, 1), (.if_icmp .lt 12, 3), (.iload_n 0, 1), (.iload_n 2, 1), (.if_icmp .gt 7, 3), (.iconst 1, 1), (.goto 4, 3)]
theorem L_X7_isWithin_0 : CdAt m_X7_isWithin.2.1 0 B_X7_isWithin_0 := at_of (by decide +kernel)
def B_X7_isWithin_14 : List (Instr × Nat) := [(.iconst 0, 1)]
theorem L_X7_isWithin_14 : CdAt m_X7_isWithin.2.1 14 B_X7_isWithin_14 := at_of (by decide +kernel)
def B_X7_isWithin_15 : List (Instr × Nat) := [(.ireturn, 1)]
theorem L_X7_isWithin_15 : CdAt m_X7_isWithin.2.1 15 B_X7_isWithin_15 := at_of (by decide +kernel)
def B_X7_requireIndex_0 : List (Instr × Nat) := [(.iload_n 0, 1), (.ifCond .ne 14, 3), (.new 326, 3), (.dup, 1), (.ldc_w 328, 3), (.invokespecial 330, 3), (.athrow, 1)]
theorem L_X7_requireIndex_0 : CdAt m_X7_requireIndex.2.1 0 B_X7_requireIndex_0 := at_of (by decide +kernel)
def B_X7_requireIndex_15 : List (Instr × Nat) := [(.return_, 1)]
theorem L_X7_requireIndex_15 : CdAt m_X7_requireIndex.2.1 15 B_X7_requireIndex_15 := at_of (by decide +kernel)
def B_X7_requireArgument_0 : List (Instr × Nat) := [(.iload_n 0, 1), (.ifCond .ne 14, 3), (.new 112, 3), (.dup, 1), (.ldc_w 331, 3), (.invokespecial 116, 3), (.athrow, 1)]
theorem L_X7_requireArgument_0 : CdAt m_X7_requireArgument.2.1 0 B_X7_requireArgument_0 := at_of (by decide +kernel)
def B_X7_requireArgument_15 : List (Instr × Nat) := [(.return_, 1)]
theorem L_X7_requireArgument_15 : CdAt m_X7_requireArgument.2.1 15 B_X7_requireArgument_15 := at_of (by decide +kernel)
def B_X7_requireState_0 : List (Instr × Nat) := [(.iload_n 0, 1), (.ifCond .ne 14, 3), (.new 333, 3), (.dup, 1), (.ldc_w 335, 3), (.invokespecial 337, 3), (.athrow, 1)]
theorem L_X7_requireState_0 : CdAt m_X7_requireState.2.1 0 B_X7_requireState_0 := at_of (by decide +kernel)
def B_X7_requireState_15 : List (Instr × Nat) := [(.return_, 1)]
theorem L_X7_requireState_15 : CdAt m_X7_requireState.2.1 15 B_X7_requireState_15 := at_of (by decide +kernel)
def B_X7_requireLessonArguments_0 : List (Instr × Nat) := [(.iload_n 0, 1), (.iconst 0, 1), (.iconst 3, 1), (.invokestatic 41, 3), (.invokestatic 45, 3), (.iload_n 1, 1), (.iconst 1, 1), (.iconst 5, 1), (.invokestatic 41, 3), (.invokestatic 45, 3), (.iload_n 2, 1), (.iconst 0, 1), (.iconst 5, 1), (.invokestatic 41, 3), (.invokestatic 45, 3), (.iload_n 3, 1), (.iconst 0, 1), (.iconst 5, 1), (.invokestatic 41, 3), (.invokestatic 45, 3), (.return_, 1)]
theorem L_X7_requireLessonArguments_0 : CdAt m_X7_requireLessonArguments.2.1 0 B_X7_requireLessonArguments_0 := at_of (by decide +kernel)
def B_X7_doCommandsOfText_0 : List (Instr × Nat) := [(.iconst 0, 1), (.istore_n 1, 1), (.aload_n 0, 1), (.getfield 10, 3), (.invokevirtual 338, 3), (.pop, 1), (.iconst 0, 1), (.istore_n 2, 1)]
theorem L_X7_doCommandsOfText_0 : CdAt m_X7_doCommandsOfText.2.1 0 B_X7_doCommandsOfText_0 := at_of (by decide +kernel)
def B_X7_doCommandsOfText_12 : List (Instr × Nat) := [(.iload_n 2, 1), (.bipush 120, 2), (.if_icmp .ge 53, 3), (.aload_n 0, 1), (.getfield 10, 3), (.invokevirtual 342, 3), (.ifCond .eq 43, 3), (.aload_n 0, 1), (.getfield 10, 3), (.invokevirtual 345, 3), (.ifCond .eq 27, 3), (.aload_n 0, 1), (.aload_n 0, 1), (.getfield 10, 3), (.getfield 348, 3), (.aload_n 0, 1), (.getfield 10, 3), (.getfield 352, 3), (.invokevirtual 355, 3), (.ifCond .ne 6, 3), (.iinc 1 1, 3)]
theorem L_X7_doCommandsOfText_12 : CdAt m_X7_doCommandsOfText.2.1 12 B_X7_doCommandsOfText_12 := at_of (by decide +kernel)
def B_X7_doCommandsOfText_62 : List (Instr × Nat) := [(.iinc 2 1, 3), (.goto (-53), 3)]
theorem L_X7_doCommandsOfText_62 : CdAt m_X7_doCommandsOfText.2.1 62 B_X7_doCommandsOfText_62 := at_of (by decide +kernel)
def B_X7_doCommandsOfText_68 : List (Instr × Nat) := [(.iload_n 1, 1), (.ireturn, 1)]
theorem L_X7_doCommandsOfText_68 : CdAt m_X7_doCommandsOfText.2.1 68 B_X7_doCommandsOfText_68 := at_of (by decide +kernel)
def B_X7_doCommand_0 : List (Instr × Nat) := [(.iload_n 1, 1), (.tableswitch 311 99 120 #[155, 189, 226, 103, 311, 311, 311, 311, 311, 248, 311, 311, 311, 206, 311, 311, 311, 132, 311, 311, 291, 271], 103)]
theorem L_X7_doCommand_0 : CdAt m_X7_doCommand.2.1 0 B_X7_doCommand_0 := at_of (by decide +kernel)
def B_X7_doCommand_104 : List (Instr × Nat) := [(.aload_n 0, 1), (.getfield 19, 3), (.aload_n 2, 1), (.iconst 0, 1), (.iaload, 1), (.aload_n 2, 1), (.iconst 1, 1), (.iaload, 1), (.aload_n 2, 1), (.iconst 2, 1), (.iaload, 1), (.aload_n 2, 1), (.iconst 3, 1), (.iaload, 1), (.invokevirtual 243, 3), (.iconst (-1), 1), (.if_icmp .eq 7, 3), (.iconst 1, 1), (.goto 4, 3)]
theorem L_X7_doCommand_104 : CdAt m_X7_doCommand.2.1 104 B_X7_doCommand_104 := at_of (by decide +kernel)
def B_X7_doCommand_131 : List (Instr × Nat) := [(.iconst 0, 1)]
theorem L_X7_doCommand_131 : CdAt m_X7_doCommand.2.1 131 B_X7_doCommand_131 := at_of (by decide +kernel)
def B_X7_doCommand_132 : List (Instr × Nat) := [(.ireturn, 1)]
theorem L_X7_doCommand_132 : CdAt m_X7_doCommand.2.1 132 B_X7_doCommand_132 := at_of (by decide +kernel)
def B_X7_doCommand_133 : List (Instr × Nat) := [(.aload_n 0, 1), (.getfield 19, 3), (.aload_n 2, 1), (.iconst 0, 1), (.iaload, 1), (.aload_n 2, 1), (.iconst 1, 1), (.iaload, 1), (.invokevirtual 247, 3), (.iconst (-1), 1), (.if_icmp .eq 7, 3), (.iconst 1, 1), (.goto 4, 3)]
theorem L_X7_doCommand_133 : CdAt m_X7_doCommand.2.1 133 B_X7_doCommand_133 := at_of (by decide +kernel)
def B_X7_doCommand_154 : List (Instr × Nat) := [(.iconst 0, 1)]
theorem L_X7_doCommand_154 : CdAt m_X7_doCommand.2.1 154 B_X7_doCommand_154 := at_of (by decide +kernel)
def B_X7_doCommand_155 : List (Instr × Nat) := [(.ireturn, 1)]
theorem L_X7_doCommand_155 : CdAt m_X7_doCommand.2.1 155 B_X7_doCommand_155 := at_of (by decide +kernel)
def B_X7_doCommand_156 : List (Instr × Nat) := [(.aload_n 0, 1), (.getfield 19, 3), (.aload_n 2, 1), (.iconst 0, 1), (.iaload, 1), (.aload_n 2, 1), (.iconst 1, 1), (.iaload, 1), (.aload_n 2, 1), (.iconst 2, 1), (.iaload, 1), (.aload_n 2, 1), (.iconst 3, 1), (.iaload, 1), (.aload_n 2, 1), (.iconst 4, 1), (.iaload, 1), (.aload_n 2, 1), (.iconst 5, 1), (.iaload, 1), (.invokevirtual 255, 3), (.ifCond .ne 7, 3), (.iconst 1, 1), (.goto 4, 3)]
theorem L_X7_doCommand_156 : CdAt m_X7_doCommand.2.1 156 B_X7_doCommand_156 := at_of (by decide +kernel)
def B_X7_doCommand_188 : List (Instr × Nat) := [(.iconst 0, 1)]
theorem L_X7_doCommand_188 : CdAt m_X7_doCommand.2.1 188 B_X7_doCommand_188 := at_of (by decide +kernel)
def B_X7_doCommand_189 : List (Instr × Nat) := [(.ireturn, 1)]
theorem L_X7_doCommand_189 : CdAt m_X7_doCommand.2.1 189 B_X7_doCommand_189 := at_of (by decide +kernel)
def B_X7_doCommand_190 : List (Instr × Nat) := [(.aload_n 0, 1), (.getfield 19, 3), (.invokevirtual 265, 3), (.iconst (-1), 1), (.if_icmp .eq 7, 3), (.iconst 1, 1), (.goto 4, 3)]
theorem L_X7_doCommand_190 : CdAt m_X7_doCommand.2.1 190 B_X7_doCommand_190 := at_of (by decide +kernel)
def B_X7_doCommand_205 : List (Instr × Nat) := [(.iconst 0, 1)]
theorem L_X7_doCommand_205 : CdAt m_X7_doCommand.2.1 205 B_X7_doCommand_205 := at_of (by decide +kernel)
def B_X7_doCommand_206 : List (Instr × Nat) := [(.ireturn, 1)]
theorem L_X7_doCommand_206 : CdAt m_X7_doCommand.2.1 206 B_X7_doCommand_206 := at_of (by decide +kernel)
def B_X7_doCommand_207 : List (Instr × Nat) := [(.aload_n 0, 1), (.getfield 19, 3), (.aload_n 2, 1), (.iconst 0, 1), (.iaload, 1), (.invokevirtual 271, 3), (.iconst (-1), 1), (.if_icmp .eq 7, 3), (.iconst 1, 1), (.goto 4, 3)]
theorem L_X7_doCommand_207 : CdAt m_X7_doCommand.2.1 207 B_X7_doCommand_207 := at_of (by decide +kernel)
def B_X7_doCommand_225 : List (Instr × Nat) := [(.iconst 0, 1)]
theorem L_X7_doCommand_225 : CdAt m_X7_doCommand.2.1 225 B_X7_doCommand_225 := at_of (by decide +kernel)
def B_X7_doCommand_226 : List (Instr × Nat) := [(.ireturn, 1)]
theorem L_X7_doCommand_226 : CdAt m_X7_doCommand.2.1 226 B_X7_doCommand_226 := at_of (by decide +kernel)
def B_X7_doCommand_227 : List (Instr × Nat) := [(.aload_n 0, 1), (.getfield 19, 3), (.aload_n 2, 1), (.iconst 0, 1), (.iaload, 1), (.aload_n 2, 1), (.iconst 1, 1), (.iaload, 1), (.invokevirtual 274, 3), (.ifCond .ne 7, 3), (.iconst 1, 1), (.goto 4, 3)]
theorem L_X7_doCommand_227 : CdAt m_X7_doCommand.2.1 227 B_X7_doCommand_227 := at_of (by decide +kernel)
def B_X7_doCommand_247 : List (Instr × Nat) := [(.iconst 0, 1)]
theorem L_X7_doCommand_247 : CdAt m_X7_doCommand.2.1 247 B_X7_doCommand_247 := at_of (by decide +kernel)
def B_X7_doCommand_248 : List (Instr × Nat) := [(.ireturn, 1)]
theorem L_X7_doCommand_248 : CdAt m_X7_doCommand.2.1 248 B_X7_doCommand_248 := at_of (by decide +kernel)
def B_X7_doCommand_249 : List (Instr × Nat) := [(.aload_n 0, 1), (.getfield 19, 3), (.aload_n 2, 1), (.iconst 0, 1), (.iaload, 1), (.aload_n 2, 1), (.iconst 1, 1), (.iaload, 1), (.invokevirtual 281, 3), (.iconst (-1), 1), (.if_icmp .eq 7, 3), (.iconst 1, 1), (.goto 4, 3)]
theorem L_X7_doCommand_249 : CdAt m_X7_doCommand.2.1 249 B_X7_doCommand_249 := at_of (by decide +kernel)
def B_X7_doCommand_270 : List (Instr × Nat) := [(.iconst 0, 1)]
theorem L_X7_doCommand_270 : CdAt m_X7_doCommand.2.1 270 B_X7_doCommand_270 := at_of (by decide +kernel)
def B_X7_doCommand_271 : List (Instr × Nat) := [(.ireturn, 1)]
theorem L_X7_doCommand_271 : CdAt m_X7_doCommand.2.1 271 B_X7_doCommand_271 := at_of (by decide +kernel)
def B_X7_doCommand_272 : List (Instr × Nat) := [(.aload_n 0, 1), (.getfield 19, 3), (.aload_n 2, 1), (.iconst 0, 1), (.iaload, 1), (.invokevirtual 262, 3), (.iconst (-1), 1), (.if_icmp .eq 7, 3), (.iconst 1, 1), (.goto 4, 3)]
theorem L_X7_doCommand_272 : CdAt m_X7_doCommand.2.1 272 B_X7_doCommand_272 := at_of (by decide +kernel)
def B_X7_doCommand_290 : List (Instr × Nat) := [(.iconst 0, 1)]
theorem L_X7_doCommand_290 : CdAt m_X7_doCommand.2.1 290 B_X7_doCommand_290 := at_of (by decide +kernel)
def B_X7_doCommand_291 : List (Instr × Nat) := [(.ireturn, 1)]
theorem L_X7_doCommand_291 : CdAt m_X7_doCommand.2.1 291 B_X7_doCommand_291 := at_of (by decide +kernel)
def B_X7_doCommand_292 : List (Instr × Nat) := [(.aload_n 0, 1), (.getfield 19, 3), (.aload_n 2, 1), (.iconst 0, 1), (.iaload, 1), (.invokevirtual 284, 3), (.iconst (-1), 1), (.if_icmp .eq 7, 3), (.iconst 1, 1), (.goto 4, 3)]
theorem L_X7_doCommand_292 : CdAt m_X7_doCommand.2.1 292 B_X7_doCommand_292 := at_of (by decide +kernel)
def B_X7_doCommand_310 : List (Instr × Nat) := [(.iconst 0, 1)]
theorem L_X7_doCommand_310 : CdAt m_X7_doCommand.2.1 310 B_X7_doCommand_310 := at_of (by decide +kernel)
def B_X7_doCommand_311 : List (Instr × Nat) := [(.ireturn, 1)]
theorem L_X7_doCommand_311 : CdAt m_X7_doCommand.2.1 311 B_X7_doCommand_311 := at_of (by decide +kernel)
def B_X7_doCommand_312 : List (Instr × Nat) := [(.iconst 0, 1), (.ireturn, 1)]
theorem L_X7_doCommand_312 : CdAt m_X7_doCommand.2.1 312 B_X7_doCommand_312 := at_of (by decide +kernel)
def B_X7_withoutGroups_0 : List (Instr × Nat) := [(.lload_n 0, 1), (.lstore_n 3, 1), (.iconst 0, 1), (.istore 5, 2)]
theorem L_X7_withoutGroups_0 : CdAt m_X7_withoutGroups.2.1 0 B_X7_withoutGroups_0 := at_of (by decide +kernel)
def B_X7_withoutGroups_5 : List (Instr × Nat) := [(.iload 5, 2), (.iload_n 2, 1), (.if_icmp .ge 15, 3), (.lload_n 3, 1), (.ldc2_w 314, 3), (.ldiv, 1), (.lstore_n 3, 1), (.iinc 5 1, 3), (.goto (-15), 3)]
theorem L_X7_withoutGroups_5 : CdAt m_X7_withoutGroups.2.1 5 B_X7_withoutGroups_5 := at_of (by decide +kernel)
def B_X7_withoutGroups_23 : List (Instr × Nat) := [(.lload_n 3, 1), (.lreturn, 1)]
theorem L_X7_withoutGroups_23 : CdAt m_X7_withoutGroups.2.1 23 B_X7_withoutGroups_23 := at_of (by decide +kernel)
def B_X7_tryGroup_0 : List (Instr × Nat) := [(.iload_n 1, 1), (.sipush 1000, 3), (.idiv, 1), (.bipush 10, 2), (.irem, 1), (.istore_n 2, 1), (.iload_n 1, 1), (.bipush 100, 2), (.idiv, 1), (.bipush 10, 2), (.irem, 1), (.istore_n 3, 1), (.iload_n 1, 1), (.sipush 10000, 3), (.irem, 1), (.istore 4, 2), (.iload_n 1, 1), (.sipush 1000, 3), (.irem, 1), (.istore 5, 2), (.iload_n 1, 1), (.bipush 100, 2), (.irem, 1), (.istore 6, 2), (.iload_n 1, 1), (.sipush 10000, 3), (.idiv, 1), (.tableswitch 316 1 9 #[50, 73, 97, 127, 150, 173, 214, 252, 290], 50)]
theorem L_X7_tryGroup_0 : CdAt m_X7_tryGroup.2.1 0 B_X7_tryGroup_0 := at_of (by decide +kernel)
def B_X7_tryGroup_92 : List (Instr × Nat) := [(.iload 6, 2), (.ifCond .ne 19, 3), (.aload_n 0, 1), (.getfield 23, 3), (.iload_n 2, 1), (.iload_n 3, 1), (.invokevirtual 274, 3), (.ifCond .ne 7, 3), (.iconst 1, 1), (.goto 4, 3)]
theorem L_X7_tryGroup_92 : CdAt m_X7_tryGroup.2.1 92 B_X7_tryGroup_92 := at_of (by decide +kernel)
def B_X7_tryGroup_113 : List (Instr × Nat) := [(.iconst 0, 1)]
theorem L_X7_tryGroup_113 : CdAt m_X7_tryGroup.2.1 113 B_X7_tryGroup_113 := at_of (by decide +kernel)
def B_X7_tryGroup_114 : List (Instr × Nat) := [(.ireturn, 1)]
theorem L_X7_tryGroup_114 : CdAt m_X7_tryGroup.2.1 114 B_X7_tryGroup_114 := at_of (by decide +kernel)
def B_X7_tryGroup_115 : List (Instr × Nat) := [(.iload 6, 2), (.ifCond .ne 20, 3), (.aload_n 0, 1), (.getfield 23, 3), (.iload_n 2, 1), (.iload_n 3, 1), (.invokevirtual 281, 3), (.iconst (-1), 1), (.if_icmp .eq 7, 3), (.iconst 1, 1), (.goto 4, 3)]
theorem L_X7_tryGroup_115 : CdAt m_X7_tryGroup.2.1 115 B_X7_tryGroup_115 := at_of (by decide +kernel)
def B_X7_tryGroup_137 : List (Instr × Nat) := [(.iconst 0, 1)]
theorem L_X7_tryGroup_137 : CdAt m_X7_tryGroup.2.1 137 B_X7_tryGroup_137 := at_of (by decide +kernel)
def B_X7_tryGroup_138 : List (Instr × Nat) := [(.ireturn, 1)]
theorem L_X7_tryGroup_138 : CdAt m_X7_tryGroup.2.1 138 B_X7_tryGroup_138 := at_of (by decide +kernel)
def B_X7_tryGroup_139 : List (Instr × Nat) := [(.iload 4, 2), (.iconst 1, 1), (.bipush 9, 2), (.invokestatic 41, 3), (.ifCond .eq 20, 3), (.aload_n 0, 1), (.getfield 23, 3), (.iload 4, 2), (.invokevirtual 284, 3), (.iconst (-1), 1), (.if_icmp .eq 7, 3), (.iconst 1, 1), (.goto 4, 3)]
theorem L_X7_tryGroup_139 : CdAt m_X7_tryGroup.2.1 139 B_X7_tryGroup_139 := at_of (by decide +kernel)
def B_X7_tryGroup_167 : List (Instr × Nat) := [(.iconst 0, 1)]
theorem L_X7_tryGroup_167 : CdAt m_X7_tryGroup.2.1 167 B_X7_tryGroup_167 := at_of (by decide +kernel)
def B_X7_tryGroup_168 : List (Instr × Nat) := [(.ireturn, 1)]
theorem L_X7_tryGroup_168 : CdAt m_X7_tryGroup.2.1 168 B_X7_tryGroup_168 := at_of (by decide +kernel)
def B_X7_tryGroup_169 : List (Instr × Nat) := [(.iload 5, 2), (.ifCond .ne 19, 3), (.aload_n 0, 1), (.getfield 23, 3), (.iload_n 2, 1), (.invokevirtual 271, 3), (.iconst (-1), 1), (.if_icmp .eq 7, 3), (.iconst 1, 1), (.goto 4, 3)]
theorem L_X7_tryGroup_169 : CdAt m_X7_tryGroup.2.1 169 B_X7_tryGroup_169 := at_of (by decide +kernel)
def B_X7_tryGroup_190 : List (Instr × Nat) := [(.iconst 0, 1)]
theorem L_X7_tryGroup_190 : CdAt m_X7_tryGroup.2.1 190 B_X7_tryGroup_190 := at_of (by decide +kernel)
def B_X7_tryGroup_191 : List (Instr × Nat) := [(.ireturn, 1)]
theorem L_X7_tryGroup_191 : CdAt m_X7_tryGroup.2.1 191 B_X7_tryGroup_191 := at_of (by decide +kernel)
def B_X7_tryGroup_192 : List (Instr × Nat) := [(.iload 5, 2), (.ifCond .ne 19, 3), (.aload_n 0, 1), (.getfield 23, 3), (.iload_n 2, 1), (.invokevirtual 262, 3), (.iconst (-1), 1), (.if_icmp .eq 7, 3), (.iconst 1, 1), (.goto 4, 3)]
theorem L_X7_tryGroup_192 : CdAt m_X7_tryGroup.2.1 192 B_X7_tryGroup_192 := at_of (by decide +kernel)
def B_X7_tryGroup_213 : List (Instr × Nat) := [(.iconst 0, 1)]
theorem L_X7_tryGroup_213 : CdAt m_X7_tryGroup.2.1 213 B_X7_tryGroup_213 := at_of (by decide +kernel)
def B_X7_tryGroup_214 : List (Instr × Nat) := [(.ireturn, 1)]
theorem L_X7_tryGroup_214 : CdAt m_X7_tryGroup.2.1 214 B_X7_tryGroup_214 := at_of (by decide +kernel)
def B_X7_tryGroup_215 : List (Instr × Nat) := [(.iload 5, 2), (.bipush 10, 2), (.if_icmp .ge 35, 3), (.aload_n 0, 1), (.getfield 23, 3), (.iload_n 2, 1), (.invokevirtual 207, 3), (.ifCond .eq 24, 3), (.aload_n 0, 1), (.getfield 23, 3), (.getfield 210, 3), (.iload_n 2, 1), (.aaload, 1), (.getfield 214, 3), (.iload 5, 2), (.if_icmp .lt 7, 3), (.iconst 1, 1), (.goto 4, 3)]
theorem L_X7_tryGroup_215 : CdAt m_X7_tryGroup.2.1 215 B_X7_tryGroup_215 := at_of (by decide +kernel)
def B_X7_tryGroup_254 : List (Instr × Nat) := [(.iconst 0, 1)]
theorem L_X7_tryGroup_254 : CdAt m_X7_tryGroup.2.1 254 B_X7_tryGroup_254 := at_of (by decide +kernel)
def B_X7_tryGroup_255 : List (Instr × Nat) := [(.ireturn, 1)]
theorem L_X7_tryGroup_255 : CdAt m_X7_tryGroup.2.1 255 B_X7_tryGroup_255 := at_of (by decide +kernel)
def B_X7_tryGroup_256 : List (Instr × Nat) := [(.iload_n 3, 1), (.ifCond .ne 35, 3), (.aload_n 0, 1), (.getfield 23, 3), (.iload_n 2, 1), (.invokevirtual 207, 3), (.ifCond .eq 24, 3), (.aload_n 0, 1), (.getfield 23, 3), (.getfield 210, 3), (.iload_n 2, 1), (.aaload, 1), (.getfield 220, 3), (.iload 6, 2), (.if_icmp .lt 7, 3), (.iconst 1, 1), (.goto 4, 3)]
theorem L_X7_tryGroup_256 : CdAt m_X7_tryGroup.2.1 256 B_X7_tryGroup_256 := at_of (by decide +kernel)
def B_X7_tryGroup_292 : List (Instr × Nat) := [(.iconst 0, 1)]
theorem L_X7_tryGroup_292 : CdAt m_X7_tryGroup.2.1 292 B_X7_tryGroup_292 := at_of (by decide +kernel)
def B_X7_tryGroup_293 : List (Instr × Nat) := [(.ireturn, 1)]
theorem L_X7_tryGroup_293 : CdAt m_X7_tryGroup.2.1 293 B_X7_tryGroup_293 := at_of (by decide +kernel)
def B_X7_tryGroup_294 : List (Instr × Nat) := [(.iload_n 3, 1), (.ifCond .ne 35, 3), (.aload_n 0, 1), (.getfield 23, 3), (.iload_n 2, 1), (.invokevirtual 169, 3), (.ifCond .eq 24, 3), (.aload_n 0, 1), (.getfield 23, 3), (.getfield 172, 3), (.iload_n 2, 1), (.aaload, 1), (.invokevirtual 200, 3), (.iload 6, 2), (.if_icmp .lt 7, 3), (.iconst 1, 1), (.goto 4, 3)]
theorem L_X7_tryGroup_294 : CdAt m_X7_tryGroup.2.1 294 B_X7_tryGroup_294 := at_of (by decide +kernel)
def B_X7_tryGroup_330 : List (Instr × Nat) := [(.iconst 0, 1)]
theorem L_X7_tryGroup_330 : CdAt m_X7_tryGroup.2.1 330 B_X7_tryGroup_330 := at_of (by decide +kernel)
def B_X7_tryGroup_331 : List (Instr × Nat) := [(.ireturn, 1)]
theorem L_X7_tryGroup_331 : CdAt m_X7_tryGroup.2.1 331 B_X7_tryGroup_331 := at_of (by decide +kernel)
def B_X7_tryGroup_332 : List (Instr × Nat) := [(.iload_n 2, 1), (.ifCond .ne 23, 3), (.iload_n 3, 1), (.ifCond .ne 19, 3), (.aload_n 0, 1), (.getfield 23, 3), (.getfield 103, 3), (.iload 6, 2), (.if_icmp .lt 7, 3), (.iconst 1, 1), (.goto 4, 3)]
theorem L_X7_tryGroup_332 : CdAt m_X7_tryGroup.2.1 332 B_X7_tryGroup_332 := at_of (by decide +kernel)
def B_X7_tryGroup_356 : List (Instr × Nat) := [(.iconst 0, 1)]
theorem L_X7_tryGroup_356 : CdAt m_X7_tryGroup.2.1 356 B_X7_tryGroup_356 := at_of (by decide +kernel)
def B_X7_tryGroup_357 : List (Instr × Nat) := [(.ireturn, 1)]
theorem L_X7_tryGroup_357 : CdAt m_X7_tryGroup.2.1 357 B_X7_tryGroup_357 := at_of (by decide +kernel)
def B_X7_tryGroup_358 : List (Instr × Nat) := [(.iconst 0, 1), (.ireturn, 1)]
theorem L_X7_tryGroup_358 : CdAt m_X7_tryGroup.2.1 358 B_X7_tryGroup_358 := at_of (by decide +kernel)
def B_X7_tryTurn_0 : List (Instr × Nat) := [(.iload_n 1, 1), (.bipush 16, 2), (.idiv, 1), (.istore_n 2, 1), (.iload_n 1, 1), (.bipush 16, 2), (.irem, 1), (.tableswitch 234 0 13 #[71, 111, 133, 133, 133, 133, 182, 192, 192, 206, 206, 206, 206, 227], 71)]
theorem L_X7_tryTurn_0 : CdAt m_X7_tryTurn.2.1 0 B_X7_tryTurn_0 := at_of (by decide +kernel)
def B_X7_tryTurn_80 : List (Instr × Nat) := [(.aload_n 0, 1), (.getfield 23, 3), (.iconst 1, 1), (.iload_n 2, 1), (.bipush 9, 2), (.irem, 1), (.iadd, 1), (.iload_n 2, 1), (.bipush 16, 2), (.idiv, 1), (.iconst 5, 1), (.irem, 1), (.iload_n 2, 1), (.sipush 128, 3), (.idiv, 1), (.bipush 61, 2), (.irem, 1), (.iconst 1, 1), (.iload_n 2, 1), (.sipush 8192, 3), (.idiv, 1), (.bipush 30, 2), (.irem, 1), (.iadd, 1), (.invokevirtual 243, 3), (.pop, 1), (.iconst 0, 1), (.ireturn, 1)]
theorem L_X7_tryTurn_80 : CdAt m_X7_tryTurn.2.1 80 B_X7_tryTurn_80 := at_of (by decide +kernel)
def B_X7_tryTurn_120 : List (Instr × Nat) := [(.aload_n 0, 1), (.getfield 23, 3), (.iload_n 2, 1), (.bipush 16, 2), (.irem, 1), (.iconst 1, 1), (.iload_n 2, 1), (.bipush 16, 2), (.idiv, 1), (.iconst 5, 1), (.irem, 1), (.iadd, 1), (.invokevirtual 247, 3), (.pop, 1), (.iconst 0, 1), (.ireturn, 1)]
theorem L_X7_tryTurn_120 : CdAt m_X7_tryTurn.2.1 120 B_X7_tryTurn_120 := at_of (by decide +kernel)
def B_X7_tryTurn_142 : List (Instr × Nat) := [(.aload_n 0, 1), (.getfield 23, 3), (.iload_n 2, 1), (.iconst 4, 1), (.irem, 1), (.iconst 1, 1), (.iload_n 2, 1), (.iconst 4, 1), (.idiv, 1), (.iconst 5, 1), (.irem, 1), (.iadd, 1), (.iload_n 2, 1), (.bipush 32, 2), (.idiv, 1), (.iconst 4, 1), (.irem, 1), (.iload_n 2, 1), (.sipush 128, 3), (.idiv, 1), (.iconst 5, 1), (.irem, 1), (.iload_n 2, 1), (.sipush 1024, 3), (.idiv, 1), (.bipush 6, 2), (.irem, 1), (.iload_n 2, 1), (.sipush 8192, 3), (.idiv, 1), (.bipush 6, 2), (.irem, 1), (.invokevirtual 255, 3), (.pop, 1), (.iconst 0, 1), (.ireturn, 1)]
theorem L_X7_tryTurn_142 : CdAt m_X7_tryTurn.2.1 142 B_X7_tryTurn_142 := at_of (by decide +kernel)
def B_X7_tryTurn_191 : List (Instr × Nat) := [(.aload_n 0, 1), (.getfield 23, 3), (.invokevirtual 265, 3), (.pop, 1), (.iconst 0, 1), (.ireturn, 1)]
theorem L_X7_tryTurn_191 : CdAt m_X7_tryTurn.2.1 191 B_X7_tryTurn_191 := at_of (by decide +kernel)
def B_X7_tryTurn_201 : List (Instr × Nat) := [(.aload_n 0, 1), (.getfield 23, 3), (.iload_n 2, 1), (.bipush 12, 2), (.irem, 1), (.invokevirtual 271, 3), (.pop, 1), (.iconst 0, 1), (.ireturn, 1)]
theorem L_X7_tryTurn_201 : CdAt m_X7_tryTurn.2.1 201 B_X7_tryTurn_201 := at_of (by decide +kernel)
def B_X7_tryTurn_215 : List (Instr × Nat) := [(.aload_n 0, 1), (.getfield 23, 3), (.iload_n 2, 1), (.bipush 12, 2), (.irem, 1), (.iload_n 2, 1), (.bipush 16, 2), (.idiv, 1), (.bipush 10, 2), (.irem, 1), (.invokevirtual 274, 3), (.pop, 1), (.iconst 0, 1), (.ireturn, 1)]
theorem L_X7_tryTurn_215 : CdAt m_X7_tryTurn.2.1 215 B_X7_tryTurn_215 := at_of (by decide +kernel)
def B_X7_tryTurn_236 : List (Instr × Nat) := [(.aload_n 0, 1), (.iload_n 2, 1), (.invokevirtual 359, 3), (.iconst 0, 1), (.ireturn, 1)]
theorem L_X7_tryTurn_236 : CdAt m_X7_tryTurn.2.1 236 B_X7_tryTurn_236 := at_of (by decide +kernel)
def B_X7_tryTurn_243 : List (Instr × Nat) := [(.aload_n 0, 1), (.getfield 23, 3), (.iconst 1, 1), (.iload_n 2, 1), (.iconst 2, 1), (.irem, 1), (.iadd, 1), (.invokevirtual 284, 3), (.ireturn, 1)]
theorem L_X7_tryTurn_243 : CdAt m_X7_tryTurn.2.1 243 B_X7_tryTurn_243 := at_of (by decide +kernel)
def B_X7_tryLeaving_0 : List (Instr × Nat) := [(.iload_n 1, 1), (.sipush 256, 3), (.idiv, 1), (.iconst 4, 1), (.irem, 1), (.ifCond .ne 25, 3), (.aload_n 0, 1), (.getfield 23, 3), (.iload_n 1, 1), (.bipush 12, 2), (.irem, 1), (.iload_n 1, 1), (.bipush 16, 2), (.idiv, 1), (.bipush 10, 2), (.irem, 1), (.invokevirtual 281, 3), (.pop, 1), (.goto 25, 3)]
theorem L_X7_tryLeaving_0 : CdAt m_X7_tryLeaving.2.1 0 B_X7_tryLeaving_0 := at_of (by decide +kernel)
def B_X7_tryLeaving_32 : List (Instr × Nat) := [(.iload_n 1, 1), (.sipush 1024, 3), (.idiv, 1), (.iconst 4, 1), (.irem, 1), (.ifCond .ne 15, 3), (.aload_n 0, 1), (.getfield 23, 3), (.iload_n 1, 1), (.bipush 10, 2), (.irem, 1), (.invokevirtual 262, 3), (.pop, 1)]
theorem L_X7_tryLeaving_32 : CdAt m_X7_tryLeaving.2.1 32 B_X7_tryLeaving_32 := at_of (by decide +kernel)
def B_X7_tryLeaving_54 : List (Instr × Nat) := [(.return_, 1)]
theorem L_X7_tryLeaving_54 : CdAt m_X7_tryLeaving.2.1 54 B_X7_tryLeaving_54 := at_of (by decide +kernel)
def B_X8_init_0 : List (Instr × Nat) := [(.aload_n 0, 1), (.invokespecial 1, 3), (.aload_n 0, 1), (.sipush 3402, 3), (.newarray .int, 2), (.putfield 7, 3), (.aload_n 0, 1), (.iconst 2, 1), (.newarray .int, 2), (.putfield 13, 3), (.aload_n 0, 1), (.bipush 120, 2), (.newarray .int, 2), (.putfield 16, 3), (.aload_n 0, 1), (.bipush 6, 2), (.newarray .int, 2), (.putfield 19, 3), (.aload_n 0, 1), (.invokevirtual 22, 3), (.return_, 1)]
theorem L_X8_init_0 : CdAt m_X8_init.2.1 0 B_X8_init_0 := at_of (by decide +kernel)
def B_X8_thrown_0 : List (Instr × Nat) := [(.aload_n 0, 1), (.getfield 25, 3), (.ireturn, 1)]
theorem L_X8_thrown_0 : CdAt m_X8_thrown.2.1 0 B_X8_thrown_0 := at_of (by decide +kernel)
def B_X8_in_0 : List (Instr × Nat) := [(.iload_n 0, 1), (.iload_n 1, 1), (.if_icmp .lt 12, 3), (.iload_n 0, 1), (.iload_n 2, 1), (.if_icmp .gt 7, 3), (.iconst 1, 1), (.goto 4, 3)]
theorem L_X8_in_0 : CdAt m_X8_in.2.1 0 B_X8_in_0 := at_of (by decide +kernel)
def B_X8_in_14 : List (Instr × Nat) := [(.iconst 0, 1)]
theorem L_X8_in_14 : CdAt m_X8_in.2.1 14 B_X8_in_14 := at_of (by decide +kernel)
def B_X8_in_15 : List (Instr × Nat) := [(.ireturn, 1)]
theorem L_X8_in_15 : CdAt m_X8_in.2.1 15 B_X8_in_15 := at_of (by decide +kernel)
def B_X8_holds_0 : List (Instr × Nat) := [(.aload_n 0, 1), (.iload_n 1, 1), (.putfield 25, 3), (.iload_n 1, 1), (.ifCond .ne 7, 3), (.iconst 1, 1), (.goto 4, 3)]
theorem L_X8_holds_0 : CdAt m_X8_holds.2.1 0 B_X8_holds_0 := at_of (by decide +kernel)
def B_X8_holds_13 : List (Instr × Nat) := [(.iconst 0, 1)]
theorem L_X8_holds_13 : CdAt m_X8_holds.2.1 13 B_X8_holds_13 := at_of (by decide +kernel)
def B_X8_holds_14 : List (Instr × Nat) := [(.ireturn, 1)]
theorem L_X8_holds_14 : CdAt m_X8_holds.2.1 14 B_X8_holds_14 := at_of (by decide +kernel)
def B_X8_anew_0 : List (Instr × Nat) := [(.iconst 0, 1), (.istore_n 1, 1)]
theorem L_X8_anew_0 : CdAt m_X8_anew.2.1 0 B_X8_anew_0 := at_of (by decide +kernel)
def B_X8_anew_2 : List (Instr × Nat) := [(.iload_n 1, 1), (.sipush 189, 3), (.if_icmp .ge 16, 3), (.aload_n 0, 1), (.getfield 7, 3), (.iload_n 1, 1), (.iconst 0, 1), (.iastore, 1), (.iinc 1 1, 3), (.goto (-17), 3)]
theorem L_X8_anew_2 : CdAt m_X8_anew.2.1 2 B_X8_anew_2 := at_of (by decide +kernel)
def B_X8_anew_22 : List (Instr × Nat) := [(.aload_n 0, 1), (.getfield 7, 3), (.bipush 11, 2), (.iconst 2, 1), (.iastore, 1), (.aload_n 0, 1), (.getfield 7, 3), (.bipush 12, 2), (.bipush 12, 2), (.iastore, 1), (.return_, 1)]
theorem L_X8_anew_22 : CdAt m_X8_anew.2.1 22 B_X8_anew_22 := at_of (by decide +kernel)
def B_X8_isFloor_0 : List (Instr × Nat) := [(.iload_n 1, 1), (.iconst 0, 1), (.aload_n 0, 1), (.getfield 7, 3), (.iconst 0, 1), (.iaload, 1), (.iconst 1, 1), (.isub, 1), (.invokestatic 29, 3), (.ireturn, 1)]
theorem L_X8_isFloor_0 : CdAt m_X8_isFloor.2.1 0 B_X8_isFloor_0 := at_of (by decide +kernel)
def B_X8_isTeacher_0 : List (Instr × Nat) := [(.iload_n 1, 1), (.iconst 0, 1), (.aload_n 0, 1), (.getfield 7, 3), (.iconst 1, 1), (.iaload, 1), (.iconst 1, 1), (.isub, 1), (.invokestatic 29, 3), (.ireturn, 1)]
theorem L_X8_isTeacher_0 : CdAt m_X8_isTeacher.2.1 0 B_X8_isTeacher_0 := at_of (by decide +kernel)
def B_X8_isClass_0 : List (Instr × Nat) := [(.iload_n 1, 1), (.iconst 0, 1), (.aload_n 0, 1), (.getfield 7, 3), (.iconst 2, 1), (.iaload, 1), (.iconst 1, 1), (.isub, 1), (.invokestatic 29, 3), (.ireturn, 1)]
theorem L_X8_isClass_0 : CdAt m_X8_isClass.2.1 0 B_X8_isClass_0 := at_of (by decide +kernel)
def B_X8_isDancer_0 : List (Instr × Nat) := [(.iload_n 1, 1), (.iconst 0, 1), (.aload_n 0, 1), (.getfield 7, 3), (.iconst 3, 1), (.iaload, 1), (.iconst 1, 1), (.isub, 1), (.invokestatic 29, 3), (.ireturn, 1)]
theorem L_X8_isDancer_0 : CdAt m_X8_isDancer.2.1 0 B_X8_isDancer_0 := at_of (by decide +kernel)
def B_X8_ofClass_0 : List (Instr × Nat) := [(.aload_n 0, 1), (.getfield 7, 3), (.bipush 39, 2), (.bipush 9, 2), (.iload_n 1, 1), (.imul, 1), (.iadd, 1), (.iload_n 2, 1), (.iadd, 1), (.iaload, 1), (.ireturn, 1)]
theorem L_X8_ofClass_0 : CdAt m_X8_ofClass.2.1 0 B_X8_ofClass_0 := at_of (by decide +kernel)
def B_X8_ofDancer_0 : List (Instr × Nat) := [(.aload_n 0, 1), (.getfield 7, 3), (.sipush 129, 3), (.iconst 5, 1), (.iload_n 1, 1), (.imul, 1), (.iadd, 1), (.iload_n 2, 1), (.iadd, 1), (.iaload, 1), (.ireturn, 1)]
theorem L_X8_ofDancer_0 : CdAt m_X8_ofDancer.2.1 0 B_X8_ofDancer_0 := at_of (by decide +kernel)
def B_X8_adds_0 : List (Instr × Nat) := [(.aload_n 0, 1), (.getfield 7, 3), (.iload_n 1, 1), (.dup2, 1), (.iaload, 1), (.iload_n 2, 1), (.iadd, 1), (.iastore, 1), (.return_, 1)]
theorem L_X8_adds_0 : CdAt m_X8_adds.2.1 0 B_X8_adds_0 := at_of (by decide +kernel)
def B_X8_bits_0 : List (Instr × Nat) := [(.iconst 0, 1), (.istore_n 1, 1), (.iconst 0, 1), (.istore_n 2, 1)]
theorem L_X8_bits_0 : CdAt m_X8_bits.2.1 0 B_X8_bits_0 := at_of (by decide +kernel)
def B_X8_bits_4 : List (Instr × Nat) := [(.iload_n 2, 1), (.bipush 12, 2), (.if_icmp .ge 17, 3), (.iload_n 1, 1), (.iload_n 0, 1), (.iload_n 2, 1), (.ishr, 1), (.iconst 1, 1), (.iand, 1), (.iadd, 1), (.istore_n 1, 1), (.iinc 2 1, 3), (.goto (-17), 3)]
theorem L_X8_bits_4 : CdAt m_X8_bits.2.1 4 B_X8_bits_4 := at_of (by decide +kernel)
def B_X8_bits_24 : List (Instr × Nat) := [(.iload_n 1, 1), (.ireturn, 1)]
theorem L_X8_bits_24 : CdAt m_X8_bits.2.1 24 B_X8_bits_24 := at_of (by decide +kernel)
def B_X8_spring_0 : List (Instr × Nat) := [(.aload_n 0, 1), (.getfield 7, 3), (.bipush 13, 2), (.iconst 4, 1), (.iload_n 1, 1), (.imul, 1), (.iadd, 1), (.iaload, 1), (.ireturn, 1)]
theorem L_X8_spring_0 : CdAt m_X8_spring.2.1 0 B_X8_spring_0 := at_of (by decide +kernel)
def B_X8_mirrors_0 : List (Instr × Nat) := [(.aload_n 0, 1), (.getfield 7, 3), (.bipush 13, 2), (.iconst 4, 1), (.iload_n 1, 1), (.imul, 1), (.iadd, 1), (.iconst 1, 1), (.iadd, 1), (.iaload, 1), (.ireturn, 1)]
theorem L_X8_mirrors_0 : CdAt m_X8_mirrors.2.1 0 B_X8_mirrors_0 := at_of (by decide +kernel)
def B_X8_barre_0 : List (Instr × Nat) := [(.aload_n 0, 1), (.getfield 7, 3), (.bipush 13, 2), (.iconst 4, 1), (.iload_n 1, 1), (.imul, 1), (.iadd, 1), (.iconst 2, 1), (.iadd, 1), (.iaload, 1), (.ireturn, 1)]
theorem L_X8_barre_0 : CdAt m_X8_barre.2.1 0 B_X8_barre_0 := at_of (by decide +kernel)
def B_X8_takes_0 : List (Instr × Nat) := [(.aload_n 0, 1), (.getfield 7, 3), (.bipush 13, 2), (.iconst 4, 1), (.iload_n 2, 1), (.imul, 1), (.iadd, 1), (.iconst 3, 1), (.iadd, 1), (.iaload, 1), (.istore_n 3, 1), (.aload_n 0, 1), (.iload_n 2, 1), (.invokevirtual 33, 3), (.iconst 2, 1), (.idiv, 1), (.istore 4, 2), (.iload_n 1, 1), (.ifCond .ne 14, 3), (.iload 4, 2), (.iload_n 3, 1), (.if_icmp .ge 8, 3), (.iload 4, 2), (.goto 4, 3)]
theorem L_X8_takes_0 : CdAt m_X8_takes.2.1 0 B_X8_takes_0 := at_of (by decide +kernel)
def B_X8_takes_38 : List (Instr × Nat) := [(.iload_n 3, 1)]
theorem L_X8_takes_38 : CdAt m_X8_takes.2.1 38 B_X8_takes_38 := at_of (by decide +kernel)
def B_X8_takes_39 : List (Instr × Nat) := [(.ireturn, 1)]
theorem L_X8_takes_39 : CdAt m_X8_takes.2.1 39 B_X8_takes_39 := at_of (by decide +kernel)
def B_X8_isSpring_0 : List (Instr × Nat) := [(.iload_n 1, 1), (.tableswitch 74 0 2 #[27, 42, 57], 27)]
theorem L_X8_isSpring_0 : CdAt m_X8_isSpring.2.1 0 B_X8_isSpring_0 := at_of (by decide +kernel)
def B_X8_isSpring_28 : List (Instr × Nat) := [(.aload_n 0, 1), (.iload_n 3, 1), (.invokevirtual 37, 3), (.iconst 4, 1), (.if_icmp .lt 7, 3), (.iconst 1, 1), (.goto 4, 3)]
theorem L_X8_isSpring_28 : CdAt m_X8_isSpring.2.1 28 B_X8_isSpring_28 := at_of (by decide +kernel)
def B_X8_isSpring_41 : List (Instr × Nat) := [(.iconst 0, 1)]
theorem L_X8_isSpring_41 : CdAt m_X8_isSpring.2.1 41 B_X8_isSpring_41 := at_of (by decide +kernel)
def B_X8_isSpring_42 : List (Instr × Nat) := [(.ireturn, 1)]
theorem L_X8_isSpring_42 : CdAt m_X8_isSpring.2.1 42 B_X8_isSpring_42 := at_of (by decide +kernel)
def B_X8_isSpring_43 : List (Instr × Nat) := [(.aload_n 0, 1), (.iload_n 3, 1), (.invokevirtual 37, 3), (.iconst 5, 1), (.if_icmp .gt 7, 3), (.iconst 1, 1), (.goto 4, 3)]
theorem L_X8_isSpring_43 : CdAt m_X8_isSpring.2.1 43 B_X8_isSpring_43 := at_of (by decide +kernel)
def B_X8_isSpring_56 : List (Instr × Nat) := [(.iconst 0, 1)]
theorem L_X8_isSpring_56 : CdAt m_X8_isSpring.2.1 56 B_X8_isSpring_56 := at_of (by decide +kernel)
def B_X8_isSpring_57 : List (Instr × Nat) := [(.ireturn, 1)]
theorem L_X8_isSpring_57 : CdAt m_X8_isSpring.2.1 57 B_X8_isSpring_57 := at_of (by decide +kernel)
def B_X8_isSpring_58 : List (Instr × Nat) := [(.aload_n 0, 1), (.iload_n 3, 1), (.invokevirtual 37, 3), (.iconst 3, 1), (.iload_n 2, 1), (.iadd, 1), (.if_icmp .lt 7, 3), (.iconst 1, 1), (.goto 4, 3)]
theorem L_X8_isSpring_58 : CdAt m_X8_isSpring.2.1 58 B_X8_isSpring_58 := at_of (by decide +kernel)
def B_X8_isSpring_73 : List (Instr × Nat) := [(.iconst 0, 1)]
theorem L_X8_isSpring_73 : CdAt m_X8_isSpring.2.1 73 B_X8_isSpring_73 := at_of (by decide +kernel)
def B_X8_isSpring_74 : List (Instr × Nat) := [(.ireturn, 1)]
theorem L_X8_isSpring_74 : CdAt m_X8_isSpring.2.1 74 B_X8_isSpring_74 := at_of (by decide +kernel)
def B_X8_isSpring_75 : List (Instr × Nat) := [(.iconst 1, 1), (.ireturn, 1)]
theorem L_X8_isSpring_75 : CdAt m_X8_isSpring.2.1 75 B_X8_isSpring_75 := at_of (by decide +kernel)
def B_X8_whyNo_0 : List (Instr × Nat) := [(.iconst 0, 1), (.istore 7, 2), (.iconst 0, 1), (.istore 8, 2), (.iconst 0, 1), (.istore 9, 2)]
theorem L_X8_whyNo_0 : CdAt m_X8_whyNo.2.1 0 B_X8_whyNo_0 := at_of (by decide +kernel)
def B_X8_whyNo_9 : List (Instr × Nat) := [(.iload 9, 2), (.aload_n 0, 1), (.getfield 7, 3), (.iconst 2, 1), (.iaload, 1), (.if_icmp .ge 97, 3), (.aload_n 0, 1), (.iload 9, 2), (.iconst 4, 1), (.invokevirtual 40, 3), (.iload 5, 2), (.if_icmp .ne 19, 3), (.aload_n 0, 1), (.iload 9, 2), (.iconst 5, 1), (.invokevirtual 40, 3), (.iload 6, 2), (.if_icmp .ne 7, 3), (.iconst 1, 1), (.goto 4, 3)]
theorem L_X8_whyNo_9 : CdAt m_X8_whyNo.2.1 9 B_X8_whyNo_9 := at_of (by decide +kernel)
def B_X8_whyNo_48 : List (Instr × Nat) := [(.iconst 0, 1)]
theorem L_X8_whyNo_48 : CdAt m_X8_whyNo.2.1 48 B_X8_whyNo_48 := at_of (by decide +kernel)
def B_X8_whyNo_49 : List (Instr × Nat) := [(.istore 10, 2), (.iload 7, 2), (.ifCond .ne 19, 3), (.iload 10, 2), (.ifCond .eq 18, 3), (.aload_n 0, 1), (.iload 9, 2), (.iconst 2, 1), (.invokevirtual 40, 3), (.iload_n 3, 1), (.if_icmp .ne 7, 3)]
theorem L_X8_whyNo_49 : CdAt m_X8_whyNo.2.1 49 B_X8_whyNo_49 := at_of (by decide +kernel)
def B_X8_whyNo_72 : List (Instr × Nat) := [(.iconst 1, 1), (.goto 4, 3)]
theorem L_X8_whyNo_72 : CdAt m_X8_whyNo.2.1 72 B_X8_whyNo_72 := at_of (by decide +kernel)
def B_X8_whyNo_76 : List (Instr × Nat) := [(.iconst 0, 1)]
theorem L_X8_whyNo_76 : CdAt m_X8_whyNo.2.1 76 B_X8_whyNo_76 := at_of (by decide +kernel)
def B_X8_whyNo_77 : List (Instr × Nat) := [(.istore 7, 2), (.iload 8, 2), (.ifCond .ne 20, 3), (.iload 10, 2), (.ifCond .eq 19, 3), (.aload_n 0, 1), (.iload 9, 2), (.iconst 3, 1), (.invokevirtual 40, 3), (.iload 4, 2), (.if_icmp .ne 7, 3)]
theorem L_X8_whyNo_77 : CdAt m_X8_whyNo.2.1 77 B_X8_whyNo_77 := at_of (by decide +kernel)
def B_X8_whyNo_101 : List (Instr × Nat) := [(.iconst 1, 1), (.goto 4, 3)]
theorem L_X8_whyNo_101 : CdAt m_X8_whyNo.2.1 101 B_X8_whyNo_101 := at_of (by decide +kernel)
def B_X8_whyNo_105 : List (Instr × Nat) := [(.iconst 0, 1)]
theorem L_X8_whyNo_105 : CdAt m_X8_whyNo.2.1 105 B_X8_whyNo_105 := at_of (by decide +kernel)
def B_X8_whyNo_106 : List (Instr × Nat) := [(.istore 8, 2), (.iinc 9 1, 3), (.goto (-102), 3)]
theorem L_X8_whyNo_106 : CdAt m_X8_whyNo.2.1 106 B_X8_whyNo_106 := at_of (by decide +kernel)
def B_X8_whyNo_114 : List (Instr × Nat) := [(.iload 7, 2), (.ifCond .ne 8, 3), (.iload 8, 2), (.ifCond .eq 14, 3)]
theorem L_X8_whyNo_114 : CdAt m_X8_whyNo.2.1 114 B_X8_whyNo_114 := at_of (by decide +kernel)
def B_X8_whyNo_124 : List (Instr × Nat) := [(.iload 7, 2), (.ifCond .eq 7, 3), (.iconst 1, 1), (.goto 4, 3)]
theorem L_X8_whyNo_124 : CdAt m_X8_whyNo.2.1 124 B_X8_whyNo_124 := at_of (by decide +kernel)
def B_X8_whyNo_133 : List (Instr × Nat) := [(.iconst 2, 1)]
theorem L_X8_whyNo_133 : CdAt m_X8_whyNo.2.1 133 B_X8_whyNo_133 := at_of (by decide +kernel)
def B_X8_whyNo_134 : List (Instr × Nat) := [(.ireturn, 1)]
theorem L_X8_whyNo_134 : CdAt m_X8_whyNo.2.1 134 B_X8_whyNo_134 := at_of (by decide +kernel)
def B_X8_whyNo_135 : List (Instr × Nat) := [(.aload_n 0, 1), (.getfield 7, 3), (.bipush 29, 2), (.iconst 2, 1), (.iload 4, 2), (.imul, 1), (.iadd, 1), (.iaload, 1), (.iload_n 1, 1), (.ishr, 1), (.iconst 1, 1), (.iand, 1), (.ifCond .eq 21, 3), (.aload_n 0, 1), (.getfield 7, 3), (.bipush 29, 2), (.iconst 2, 1), (.iload 4, 2), (.imul, 1), (.iadd, 1), (.iconst 1, 1), (.iadd, 1), (.iaload, 1), (.iload_n 2, 1), (.if_icmp .ge 5, 3)]
theorem L_X8_whyNo_135 : CdAt m_X8_whyNo.2.1 135 B_X8_whyNo_135 := at_of (by decide +kernel)
def B_X8_whyNo_172 : List (Instr × Nat) := [(.iconst 3, 1), (.ireturn, 1)]
theorem L_X8_whyNo_172 : CdAt m_X8_whyNo.2.1 172 B_X8_whyNo_172 := at_of (by decide +kernel)
def B_X8_whyNo_174 : List (Instr × Nat) := [(.aload_n 0, 1), (.iload_n 1, 1), (.iload_n 2, 1), (.iload_n 3, 1), (.invokevirtual 44, 3), (.ifCond .ne 5, 3), (.iconst 4, 1), (.ireturn, 1)]
theorem L_X8_whyNo_174 : CdAt m_X8_whyNo.2.1 174 B_X8_whyNo_174 := at_of (by decide +kernel)
def B_X8_whyNo_186 : List (Instr × Nat) := [(.iload_n 1, 1), (.ifCond .ne 9, 3), (.iload_n 2, 1), (.iconst 2, 1), (.idiv, 1), (.goto 13, 3)]
theorem L_X8_whyNo_186 : CdAt m_X8_whyNo.2.1 186 B_X8_whyNo_186 := at_of (by decide +kernel)
def B_X8_whyNo_196 : List (Instr × Nat) := [(.iload_n 1, 1), (.iconst 1, 1), (.if_icmp .ne 7, 3), (.iconst 1, 1), (.goto 4, 3)]
theorem L_X8_whyNo_196 : CdAt m_X8_whyNo.2.1 196 B_X8_whyNo_196 := at_of (by decide +kernel)
def B_X8_whyNo_205 : List (Instr × Nat) := [(.iconst 0, 1)]
theorem L_X8_whyNo_205 : CdAt m_X8_whyNo.2.1 205 B_X8_whyNo_205 := at_of (by decide +kernel)
def B_X8_whyNo_206 : List (Instr × Nat) := [(.istore 9, 2), (.iload_n 1, 1), (.ifCond .ne 20, 3), (.aload_n 0, 1), (.iload_n 3, 1), (.invokevirtual 33, 3), (.iconst 2, 1), (.iload_n 2, 1), (.imul, 1), (.iconst 4, 1), (.iadd, 1), (.if_icmp .ge 7, 3), (.iconst 5, 1), (.goto 19, 3)]
theorem L_X8_whyNo_206 : CdAt m_X8_whyNo.2.1 206 B_X8_whyNo_206 := at_of (by decide +kernel)
def B_X8_whyNo_229 : List (Instr × Nat) := [(.aload_n 0, 1), (.iload_n 3, 1), (.invokevirtual 47, 3), (.iload 9, 2), (.if_icmp .ge 8, 3), (.bipush 6, 2), (.goto 4, 3)]
theorem L_X8_whyNo_229 : CdAt m_X8_whyNo.2.1 229 B_X8_whyNo_229 := at_of (by decide +kernel)
def B_X8_whyNo_244 : List (Instr × Nat) := [(.iconst 0, 1)]
theorem L_X8_whyNo_244 : CdAt m_X8_whyNo.2.1 244 B_X8_whyNo_244 := at_of (by decide +kernel)
def B_X8_whyNo_245 : List (Instr × Nat) := [(.ireturn, 1)]
theorem L_X8_whyNo_245 : CdAt m_X8_whyNo.2.1 245 B_X8_whyNo_245 := at_of (by decide +kernel)
def B_X8_hasSeat_0 : List (Instr × Nat) := [(.aload_n 0, 1), (.iload_n 2, 1), (.bipush 8, 2), (.invokevirtual 40, 3), (.iload_n 1, 1), (.ishr, 1), (.iconst 1, 1), (.iand, 1), (.iconst 1, 1), (.if_icmp .ne 7, 3), (.iconst 1, 1), (.goto 4, 3)]
theorem L_X8_hasSeat_0 : CdAt m_X8_hasSeat.2.1 0 B_X8_hasSeat_0 := at_of (by decide +kernel)
def B_X8_hasSeat_19 : List (Instr × Nat) := [(.iconst 0, 1)]
theorem L_X8_hasSeat_19 : CdAt m_X8_hasSeat.2.1 19 B_X8_hasSeat_19 := at_of (by decide +kernel)
def B_X8_hasSeat_20 : List (Instr × Nat) := [(.ireturn, 1)]
theorem L_X8_hasSeat_20 : CdAt m_X8_hasSeat.2.1 20 B_X8_hasSeat_20 := at_of (by decide +kernel)
def B_X8_classTakes_0 : List (Instr × Nat) := [(.aload_n 0, 1), (.aload_n 0, 1), (.iload_n 1, 1), (.iconst 0, 1), (.invokevirtual 40, 3), (.aload_n 0, 1), (.iload_n 1, 1), (.iconst 2, 1), (.invokevirtual 40, 3), (.invokevirtual 50, 3), (.ireturn, 1)]
theorem L_X8_classTakes_0 : CdAt m_X8_classTakes.2.1 0 B_X8_classTakes_0 := at_of (by decide +kernel)
def B_X8_whyNoSeat_0 : List (Instr × Nat) := [(.aload_n 0, 1), (.iload_n 1, 1), (.iload_n 2, 1), (.invokevirtual 53, 3), (.ifCond .eq 5, 3), (.iconst 1, 1), (.ireturn, 1)]
theorem L_X8_whyNoSeat_0 : CdAt m_X8_whyNoSeat.2.1 0 B_X8_whyNoSeat_0 := at_of (by decide +kernel)
def B_X8_whyNoSeat_11 : List (Instr × Nat) := [(.aload_n 0, 1), (.iload_n 2, 1), (.iconst 1, 1), (.invokevirtual 40, 3), (.aload_n 0, 1), (.iload_n 1, 1), (.iconst 0, 1), (.invokevirtual 57, 3), (.iconst 1, 1), (.iadd, 1), (.if_icmp .le 5, 3), (.iconst 2, 1), (.ireturn, 1)]
theorem L_X8_whyNoSeat_11 : CdAt m_X8_whyNoSeat.2.1 11 B_X8_whyNoSeat_11 := at_of (by decide +kernel)
def B_X8_whyNoSeat_30 : List (Instr × Nat) := [(.iconst 0, 1), (.istore_n 3, 1)]
theorem L_X8_whyNoSeat_30 : CdAt m_X8_whyNoSeat.2.1 30 B_X8_whyNoSeat_30 := at_of (by decide +kernel)
def B_X8_whyNoSeat_32 : List (Instr × Nat) := [(.iload_n 3, 1), (.aload_n 0, 1), (.getfield 7, 3), (.iconst 2, 1), (.iaload, 1), (.if_icmp .ge 50, 3), (.aload_n 0, 1), (.iload_n 1, 1), (.iload_n 3, 1), (.invokevirtual 53, 3), (.ifCond .eq 35, 3), (.aload_n 0, 1), (.iload_n 3, 1), (.iconst 4, 1), (.invokevirtual 40, 3), (.aload_n 0, 1), (.iload_n 2, 1), (.iconst 4, 1), (.invokevirtual 40, 3), (.if_icmp .ne 20, 3), (.aload_n 0, 1), (.iload_n 3, 1), (.iconst 5, 1), (.invokevirtual 40, 3), (.aload_n 0, 1), (.iload_n 2, 1), (.iconst 5, 1), (.invokevirtual 40, 3), (.if_icmp .ne 5, 3), (.iconst 3, 1), (.ireturn, 1)]
theorem L_X8_whyNoSeat_32 : CdAt m_X8_whyNoSeat.2.1 32 B_X8_whyNoSeat_32 := at_of (by decide +kernel)
def B_X8_whyNoSeat_83 : List (Instr × Nat) := [(.iinc 3 1, 3), (.goto (-54), 3)]
theorem L_X8_whyNoSeat_83 : CdAt m_X8_whyNoSeat.2.1 83 B_X8_whyNoSeat_83 := at_of (by decide +kernel)
def B_X8_whyNoSeat_89 : List (Instr × Nat) := [(.aload_n 0, 1), (.iload_n 2, 1), (.bipush 8, 2), (.invokevirtual 40, 3), (.invokestatic 60, 3), (.aload_n 0, 1), (.iload_n 2, 1), (.invokevirtual 63, 3), (.if_icmp .lt 7, 3), (.iconst 4, 1), (.goto 4, 3)]
theorem L_X8_whyNoSeat_89 : CdAt m_X8_whyNoSeat.2.1 89 B_X8_whyNoSeat_89 := at_of (by decide +kernel)
def B_X8_whyNoSeat_111 : List (Instr × Nat) := [(.iconst 0, 1)]
theorem L_X8_whyNoSeat_111 : CdAt m_X8_whyNoSeat.2.1 111 B_X8_whyNoSeat_111 := at_of (by decide +kernel)
def B_X8_whyNoSeat_112 : List (Instr × Nat) := [(.ireturn, 1)]
theorem L_X8_whyNoSeat_112 : CdAt m_X8_whyNoSeat.2.1 112 B_X8_whyNoSeat_112 := at_of (by decide +kernel)
def B_X8_floors_0 : List (Instr × Nat) := [(.bipush 13, 2), (.iconst 4, 1), (.aload_n 0, 1), (.getfield 7, 3), (.iconst 0, 1), (.iaload, 1), (.imul, 1), (.iadd, 1), (.istore 5, 2), (.aload_n 0, 1), (.getfield 7, 3), (.iload 5, 2), (.iload_n 1, 1), (.iastore, 1), (.aload_n 0, 1), (.getfield 7, 3), (.iload 5, 2), (.iconst 1, 1), (.iadd, 1), (.iload_n 2, 1), (.iastore, 1), (.aload_n 0, 1), (.getfield 7, 3), (.iload 5, 2), (.iconst 2, 1), (.iadd, 1), (.iload_n 3, 1), (.iastore, 1), (.aload_n 0, 1), (.getfield 7, 3), (.iload 5, 2), (.iconst 3, 1), (.iadd, 1), (.iload 4, 2), (.iastore, 1), (.aload_n 0, 1), (.getfield 7, 3), (.iconst 0, 1), (.dup2, 1), (.iaload, 1), (.iconst 1, 1), (.iadd, 1), (.iastore, 1), (.aload_n 0, 1), (.getfield 7, 3), (.iconst 0, 1), (.iaload, 1), (.iconst 1, 1), (.isub, 1), (.ireturn, 1)]
theorem L_X8_floors_0 : CdAt m_X8_floors.2.1 0 B_X8_floors_0 := at_of (by decide +kernel)
def B_X8_teachers_0 : List (Instr × Nat) := [(.aload_n 0, 1), (.getfield 7, 3), (.bipush 29, 2), (.iconst 2, 1), (.aload_n 0, 1), (.getfield 7, 3), (.iconst 1, 1), (.iaload, 1), (.imul, 1), (.iadd, 1), (.iload_n 1, 1), (.iastore, 1), (.aload_n 0, 1), (.getfield 7, 3), (.bipush 29, 2), (.iconst 2, 1), (.aload_n 0, 1), (.getfield 7, 3), (.iconst 1, 1), (.iaload, 1), (.imul, 1), (.iadd, 1), (.iconst 1, 1), (.iadd, 1), (.iload_n 2, 1), (.iastore, 1), (.aload_n 0, 1), (.getfield 7, 3), (.iconst 1, 1), (.dup2, 1), (.iaload, 1), (.iconst 1, 1), (.iadd, 1), (.iastore, 1), (.aload_n 0, 1), (.getfield 7, 3), (.iconst 1, 1), (.iaload, 1), (.iconst 1, 1), (.isub, 1), (.ireturn, 1)]
theorem L_X8_teachers_0 : CdAt m_X8_teachers.2.1 0 B_X8_teachers_0 := at_of (by decide +kernel)
def B_X8_sets_0 : List (Instr × Nat) := [(.bipush 39, 2), (.bipush 9, 2), (.aload_n 0, 1), (.getfield 7, 3), (.iconst 2, 1), (.iaload, 1), (.imul, 1), (.iadd, 1), (.istore 7, 2), (.aload_n 0, 1), (.getfield 7, 3), (.iload 7, 2), (.iload_n 1, 1), (.iastore, 1), (.aload_n 0, 1), (.getfield 7, 3), (.iload 7, 2), (.iconst 1, 1), (.iadd, 1), (.iload_n 2, 1), (.iastore, 1), (.aload_n 0, 1), (.getfield 7, 3), (.iload 7, 2), (.iconst 2, 1), (.iadd, 1), (.iload_n 3, 1), (.iastore, 1), (.aload_n 0, 1), (.getfield 7, 3), (.iload 7, 2), (.iconst 3, 1), (.iadd, 1), (.iload 4, 2), (.iastore, 1), (.aload_n 0, 1), (.getfield 7, 3), (.iload 7, 2), (.iconst 4, 1), (.iadd, 1), (.iload 5, 2), (.iastore, 1), (.aload_n 0, 1), (.getfield 7, 3), (.iload 7, 2), (.iconst 5, 1), (.iadd, 1), (.iload 6, 2), (.iastore, 1), (.aload_n 0, 1), (.getfield 7, 3), (.iload 7, 2), (.bipush 6, 2), (.iadd, 1), (.iconst 0, 1), (.iastore, 1), (.aload_n 0, 1), (.getfield 7, 3), (.iload 7, 2), (.bipush 7, 2), (.iadd, 1), (.iconst 0, 1), (.iastore, 1), (.aload_n 0, 1), (.getfield 7, 3), (.iload 7, 2), (.bipush 8, 2), (.iadd, 1), (.iconst 0, 1), (.iastore, 1), (.aload_n 0, 1), (.getfield 7, 3), (.iconst 2, 1), (.dup2, 1), (.iaload, 1), (.iconst 1, 1), (.iadd, 1), (.iastore, 1), (.return_, 1)]
theorem L_X8_sets_0 : CdAt m_X8_sets.2.1 0 B_X8_sets_0 := at_of (by decide +kernel)
def B_X8_drops_0 : List (Instr × Nat) := [(.aload_n 0, 1), (.iload_n 1, 1), (.bipush 8, 2), (.invokevirtual 40, 3), (.invokestatic 60, 3), (.istore_n 2, 1), (.aload_n 0, 1), (.getfield 7, 3), (.bipush 10, 2), (.dup2, 1), (.iaload, 1), (.aload_n 0, 1), (.iload_n 1, 1), (.bipush 7, 2), (.invokevirtual 40, 3), (.iadd, 1), (.iastore, 1), (.aload_n 0, 1), (.getfield 7, 3), (.iconst 2, 1), (.dup2, 1), (.iaload, 1), (.iconst 1, 1), (.isub, 1), (.iastore, 1), (.bipush 9, 2), (.iload_n 1, 1), (.imul, 1), (.istore_n 3, 1)]
theorem L_X8_drops_0 : CdAt m_X8_drops.2.1 0 B_X8_drops_0 := at_of (by decide +kernel)
def B_X8_drops_43 : List (Instr × Nat) := [(.iload_n 3, 1), (.bipush 9, 2), (.aload_n 0, 1), (.getfield 7, 3), (.iconst 2, 1), (.iaload, 1), (.imul, 1), (.if_icmp .ge 30, 3), (.aload_n 0, 1), (.getfield 7, 3), (.bipush 39, 2), (.iload_n 3, 1), (.iadd, 1), (.aload_n 0, 1), (.getfield 7, 3), (.bipush 39, 2), (.iload_n 3, 1), (.iadd, 1), (.bipush 9, 2), (.iadd, 1), (.iaload, 1), (.iastore, 1), (.iinc 3 1, 3), (.goto (-37), 3)]
theorem L_X8_drops_43 : CdAt m_X8_drops.2.1 43 B_X8_drops_43 := at_of (by decide +kernel)
def B_X8_drops_83 : List (Instr × Nat) := [(.iload_n 2, 1), (.ireturn, 1)]
theorem L_X8_drops_83 : CdAt m_X8_drops.2.1 83 B_X8_drops_83 := at_of (by decide +kernel)
def B_X8_dancers_0 : List (Instr × Nat) := [(.sipush 129, 3), (.iconst 5, 1), (.aload_n 0, 1), (.getfield 7, 3), (.iconst 3, 1), (.iaload, 1), (.imul, 1), (.iadd, 1), (.istore_n 1, 1), (.aload_n 0, 1), (.getfield 7, 3), (.iload_n 1, 1), (.iconst 1, 1), (.iastore, 1), (.iconst 1, 1), (.istore_n 2, 1)]
theorem L_X8_dancers_0 : CdAt m_X8_dancers.2.1 0 B_X8_dancers_0 := at_of (by decide +kernel)
def B_X8_dancers_22 : List (Instr × Nat) := [(.iload_n 2, 1), (.iconst 5, 1), (.if_icmp .ge 18, 3), (.aload_n 0, 1), (.getfield 7, 3), (.iload_n 1, 1), (.iload_n 2, 1), (.iadd, 1), (.iconst 0, 1), (.iastore, 1), (.iinc 2 1, 3), (.goto (-17), 3)]
theorem L_X8_dancers_22 : CdAt m_X8_dancers.2.1 22 B_X8_dancers_22 := at_of (by decide +kernel)
def B_X8_dancers_42 : List (Instr × Nat) := [(.aload_n 0, 1), (.getfield 7, 3), (.iconst 3, 1), (.dup2, 1), (.iaload, 1), (.iconst 1, 1), (.iadd, 1), (.iastore, 1), (.aload_n 0, 1), (.getfield 7, 3), (.iconst 3, 1), (.iaload, 1), (.iconst 1, 1), (.isub, 1), (.ireturn, 1)]
theorem L_X8_dancers_42 : CdAt m_X8_dancers.2.1 42 B_X8_dancers_42 := at_of (by decide +kernel)
def B_X8_passes_0 : List (Instr × Nat) := [(.aload_n 0, 1), (.sipush 129, 3), (.iconst 5, 1), (.iload_n 1, 1), (.imul, 1), (.iadd, 1), (.iconst 2, 1), (.iadd, 1), (.bipush 10, 2), (.invokevirtual 66, 3), (.aload_n 0, 1), (.sipush 129, 3), (.iconst 5, 1), (.iload_n 1, 1), (.imul, 1), (.iadd, 1), (.iconst 4, 1), (.iadd, 1), (.iconst 1, 1), (.invokevirtual 66, 3), (.aload_n 0, 1), (.getfield 7, 3), (.iconst 5, 1), (.dup2, 1), (.iaload, 1), (.iconst 1, 1), (.iadd, 1), (.iastore, 1), (.aload_n 0, 1), (.iload_n 1, 1), (.iconst 2, 1), (.invokevirtual 57, 3), (.ireturn, 1)]
theorem L_X8_passes_0 : CdAt m_X8_passes.2.1 0 B_X8_passes_0 := at_of (by decide +kernel)
def B_X8_enters_0 : List (Instr × Nat) := [(.aload_n 0, 1), (.bipush 39, 2), (.bipush 9, 2), (.iload_n 2, 1), (.imul, 1), (.iadd, 1), (.bipush 8, 2), (.iadd, 1), (.iconst 1, 1), (.iload_n 1, 1), (.ishl, 1), (.invokevirtual 66, 3), (.return_, 1)]
theorem L_X8_enters_0 : CdAt m_X8_enters.2.1 0 B_X8_enters_0 := at_of (by decide +kernel)
def B_X8_leaves_0 : List (Instr × Nat) := [(.aload_n 0, 1), (.bipush 39, 2), (.bipush 9, 2), (.iload_n 2, 1), (.imul, 1), (.iadd, 1), (.bipush 8, 2), (.iadd, 1), (.iconst 1, 1), (.iload_n 1, 1), (.ishl, 1), (.ineg, 1), (.invokevirtual 66, 3), (.aload_n 0, 1), (.iload_n 2, 1), (.bipush 8, 2), (.invokevirtual 40, 3), (.invokestatic 60, 3), (.ireturn, 1)]
theorem L_X8_leaves_0 : CdAt m_X8_leaves.2.1 0 B_X8_leaves_0 := at_of (by decide +kernel)
def B_X8_coming_0 : List (Instr × Nat) := [(.iconst 0, 1), (.istore_n 2, 1), (.iconst 0, 1), (.istore_n 3, 1)]
theorem L_X8_coming_0 : CdAt m_X8_coming.2.1 0 B_X8_coming_0 := at_of (by decide +kernel)
def B_X8_coming_4 : List (Instr × Nat) := [(.iload_n 3, 1), (.aload_n 0, 1), (.getfield 7, 3), (.iconst 3, 1), (.iaload, 1), (.if_icmp .ge 37, 3), (.iload_n 2, 1), (.aload_n 0, 1), (.iload_n 3, 1), (.iload_n 1, 1), (.invokevirtual 53, 3), (.ifCond .eq 18, 3), (.aload_n 0, 1), (.iload_n 3, 1), (.iconst 2, 1), (.invokevirtual 57, 3), (.ifCond .le 9, 3), (.iconst 1, 1), (.iload_n 3, 1), (.ishl, 1), (.goto 4, 3)]
theorem L_X8_coming_4 : CdAt m_X8_coming.2.1 4 B_X8_coming_4 := at_of (by decide +kernel)
def B_X8_coming_39 : List (Instr × Nat) := [(.iconst 0, 1)]
theorem L_X8_coming_39 : CdAt m_X8_coming.2.1 39 B_X8_coming_39 := at_of (by decide +kernel)
def B_X8_coming_40 : List (Instr × Nat) := [(.ior, 1), (.istore_n 2, 1), (.iinc 3 1, 3), (.goto (-41), 3)]
theorem L_X8_coming_40 : CdAt m_X8_coming.2.1 40 B_X8_coming_40 := at_of (by decide +kernel)
def B_X8_coming_48 : List (Instr × Nat) := [(.iload_n 2, 1), (.ireturn, 1)]
theorem L_X8_coming_48 : CdAt m_X8_coming.2.1 48 B_X8_coming_48 := at_of (by decide +kernel)
def B_X8_dances_0 : List (Instr × Nat) := [(.sipush 129, 3), (.iconst 5, 1), (.iload_n 2, 1), (.imul, 1), (.iadd, 1), (.istore_n 3, 1), (.aload_n 0, 1), (.iload_n 1, 1), (.iconst 1, 1), (.invokevirtual 40, 3), (.istore 4, 2), (.aload_n 0, 1), (.getfield 7, 3), (.iload_n 3, 1), (.iconst 2, 1), (.iadd, 1), (.dup2, 1), (.iaload, 1), (.iconst 1, 1), (.isub, 1), (.iastore, 1), (.aload_n 0, 1), (.getfield 7, 3), (.iload_n 3, 1), (.iconst 3, 1), (.iadd, 1), (.dup2, 1), (.iaload, 1), (.iconst 1, 1), (.iadd, 1), (.iastore, 1), (.aload_n 0, 1), (.getfield 7, 3), (.iload_n 3, 1), (.iconst 1, 1), (.iadd, 1), (.dup2, 1), (.iaload, 1), (.iload 4, 2), (.aload_n 0, 1), (.getfield 7, 3), (.iload_n 3, 1), (.iaload, 1), (.if_icmp .lt 8, 3), (.iload 4, 2), (.goto 4, 3)]
theorem L_X8_dances_0 : CdAt m_X8_dances.2.1 0 B_X8_dances_0 := at_of (by decide +kernel)
def B_X8_dances_65 : List (Instr × Nat) := [(.iconst 1, 1)]
theorem L_X8_dances_65 : CdAt m_X8_dances.2.1 65 B_X8_dances_65 := at_of (by decide +kernel)
def B_X8_dances_66 : List (Instr × Nat) := [(.iadd, 1), (.iastore, 1), (.aload_n 0, 1), (.getfield 7, 3), (.bipush 39, 2), (.bipush 9, 2), (.iload_n 1, 1), (.imul, 1), (.iadd, 1), (.bipush 7, 2), (.iadd, 1), (.dup2, 1), (.iaload, 1), (.iconst 1, 1), (.iadd, 1), (.iastore, 1), (.aload_n 0, 1), (.getfield 7, 3), (.bipush 6, 2), (.dup2, 1), (.iaload, 1), (.iconst 1, 1), (.iadd, 1), (.iastore, 1), (.return_, 1)]
theorem L_X8_dances_66 : CdAt m_X8_dances.2.1 66 B_X8_dances_66 := at_of (by decide +kernel)
def B_X8_week_0 : List (Instr × Nat) := [(.iconst 0, 1), (.istore_n 1, 1), (.aload_n 0, 1), (.getfield 7, 3), (.iconst 4, 1), (.dup2, 1), (.iaload, 1), (.iconst 1, 1), (.iadd, 1), (.iastore, 1), (.iconst 0, 1), (.istore_n 2, 1)]
theorem L_X8_week_0 : CdAt m_X8_week.2.1 0 B_X8_week_0 := at_of (by decide +kernel)
def B_X8_week_14 : List (Instr × Nat) := [(.iload_n 2, 1), (.aload_n 0, 1), (.getfield 7, 3), (.iconst 2, 1), (.iaload, 1), (.if_icmp .ge 116, 3), (.aload_n 0, 1), (.iload_n 2, 1), (.invokevirtual 70, 3), (.istore_n 3, 1), (.iload_n 3, 1), (.invokestatic 60, 3), (.aload_n 0, 1), (.getfield 7, 3), (.bipush 11, 2), (.iaload, 1), (.if_icmp .ge 17, 3), (.aload_n 0, 1), (.getfield 7, 3), (.bipush 8, 2), (.dup2, 1), (.iaload, 1), (.iconst 1, 1), (.iadd, 1), (.iastore, 1), (.goto 76, 3)]
theorem L_X8_week_14 : CdAt m_X8_week.2.1 14 B_X8_week_14 := at_of (by decide +kernel)
def B_X8_week_58 : List (Instr × Nat) := [(.iload_n 1, 1), (.iconst 1, 1), (.iload_n 2, 1), (.ishl, 1), (.ior, 1), (.istore_n 1, 1), (.aload_n 0, 1), (.getfield 7, 3), (.bipush 7, 2), (.dup2, 1), (.iaload, 1), (.iconst 1, 1), (.iadd, 1), (.iastore, 1), (.aload_n 0, 1), (.getfield 7, 3), (.bipush 39, 2), (.bipush 9, 2), (.iload_n 2, 1), (.imul, 1), (.iadd, 1), (.bipush 6, 2), (.iadd, 1), (.dup2, 1), (.iaload, 1), (.iconst 1, 1), (.iadd, 1), (.iastore, 1), (.iconst 0, 1), (.istore 4, 2)]
theorem L_X8_week_58 : CdAt m_X8_week.2.1 58 B_X8_week_58 := at_of (by decide +kernel)
def B_X8_week_97 : List (Instr × Nat) := [(.iload 4, 2), (.aload_n 0, 1), (.getfield 7, 3), (.iconst 3, 1), (.iaload, 1), (.if_icmp .ge 26, 3), (.iload_n 3, 1), (.iload 4, 2), (.ishr, 1), (.iconst 1, 1), (.iand, 1), (.iconst 1, 1), (.if_icmp .ne 10, 3), (.aload_n 0, 1), (.iload_n 2, 1), (.iload 4, 2), (.invokevirtual 73, 3)]
theorem L_X8_week_97 : CdAt m_X8_week.2.1 97 B_X8_week_97 := at_of (by decide +kernel)
def B_X8_week_125 : List (Instr × Nat) := [(.iinc 4 1, 3), (.goto (-31), 3)]
theorem L_X8_week_125 : CdAt m_X8_week.2.1 125 B_X8_week_125 := at_of (by decide +kernel)
def B_X8_week_131 : List (Instr × Nat) := [(.iinc 2 1, 3), (.goto (-120), 3)]
theorem L_X8_week_131 : CdAt m_X8_week.2.1 131 B_X8_week_131 := at_of (by decide +kernel)
def B_X8_week_137 : List (Instr × Nat) := [(.iconst 0, 1), (.istore_n 2, 1)]
theorem L_X8_week_137 : CdAt m_X8_week.2.1 137 B_X8_week_137 := at_of (by decide +kernel)
def B_X8_week_139 : List (Instr × Nat) := [(.iload_n 2, 1), (.aload_n 0, 1), (.getfield 7, 3), (.iconst 3, 1), (.iaload, 1), (.if_icmp .ge 64, 3), (.sipush 129, 3), (.iconst 5, 1), (.iload_n 2, 1), (.imul, 1), (.iadd, 1), (.istore_n 3, 1), (.aload_n 0, 1), (.getfield 7, 3), (.iload_n 3, 1), (.iconst 1, 1), (.iadd, 1), (.iaload, 1), (.aload_n 0, 1), (.getfield 7, 3), (.bipush 12, 2), (.iaload, 1), (.if_icmp .lt 32, 3), (.aload_n 0, 1), (.getfield 7, 3), (.iload_n 3, 1), (.iaload, 1), (.iconst 5, 1), (.if_icmp .ge 22, 3), (.aload_n 0, 1), (.getfield 7, 3), (.iload_n 3, 1), (.dup2, 1), (.iaload, 1), (.iconst 1, 1), (.iadd, 1), (.iastore, 1), (.aload_n 0, 1), (.getfield 7, 3), (.iload_n 3, 1), (.iconst 1, 1), (.iadd, 1), (.iconst 0, 1), (.iastore, 1)]
theorem L_X8_week_139 : CdAt m_X8_week.2.1 139 B_X8_week_139 := at_of (by decide +kernel)
def B_X8_week_204 : List (Instr × Nat) := [(.iinc 2 1, 3), (.goto (-68), 3)]
theorem L_X8_week_204 : CdAt m_X8_week.2.1 204 B_X8_week_204 := at_of (by decide +kernel)
def B_X8_week_210 : List (Instr × Nat) := [(.iload_n 1, 1), (.ireturn, 1)]
theorem L_X8_week_210 : CdAt m_X8_week.2.1 210 B_X8_week_210 := at_of (by decide +kernel)
def B_X8_weeksGo_0 : List (Instr × Nat) := [(.aload_n 0, 1), (.getfield 7, 3), (.bipush 6, 2), (.iaload, 1), (.istore_n 2, 1), (.iconst 0, 1), (.istore_n 3, 1)]
theorem L_X8_weeksGo_0 : CdAt m_X8_weeksGo.2.1 0 B_X8_weeksGo_0 := at_of (by decide +kernel)
def B_X8_weeksGo_10 : List (Instr × Nat) := [(.iload_n 3, 1), (.iload_n 1, 1), (.if_icmp .ge 14, 3), (.aload_n 0, 1), (.invokevirtual 76, 3), (.pop, 1), (.iinc 3 1, 3), (.goto (-13), 3)]
theorem L_X8_weeksGo_10 : CdAt m_X8_weeksGo.2.1 10 B_X8_weeksGo_10 := at_of (by decide +kernel)
def B_X8_weeksGo_26 : List (Instr × Nat) := [(.aload_n 0, 1), (.getfield 7, 3), (.bipush 6, 2), (.iaload, 1), (.iload_n 2, 1), (.isub, 1), (.ireturn, 1)]
theorem L_X8_weeksGo_26 : CdAt m_X8_weeksGo.2.1 26 B_X8_weeksGo_26 := at_of (by decide +kernel)
def B_X8_copies_0 : List (Instr × Nat) := [(.iconst 0, 1), (.istore_n 3, 1)]
theorem L_X8_copies_0 : CdAt m_X8_copies.2.1 0 B_X8_copies_0 := at_of (by decide +kernel)
def B_X8_copies_2 : List (Instr × Nat) := [(.iload_n 3, 1), (.sipush 189, 3), (.if_icmp .ge 33, 3), (.aload_n 0, 1), (.getfield 7, 3), (.sipush 189, 3), (.iload_n 2, 1), (.imul, 1), (.iload_n 3, 1), (.iadd, 1), (.aload_n 0, 1), (.getfield 7, 3), (.sipush 189, 3), (.iload_n 1, 1), (.imul, 1), (.iload_n 3, 1), (.iadd, 1), (.iaload, 1), (.iastore, 1), (.iinc 3 1, 3), (.goto (-34), 3)]
theorem L_X8_copies_2 : CdAt m_X8_copies.2.1 2 B_X8_copies_2 := at_of (by decide +kernel)
def B_X8_copies_39 : List (Instr × Nat) := [(.return_, 1)]
theorem L_X8_copies_39 : CdAt m_X8_copies.2.1 39 B_X8_copies_39 := at_of (by decide +kernel)
def B_X8_remember_0 : List (Instr × Nat) := [(.iconst 1, 1), (.istore_n 1, 1)]
theorem L_X8_remember_0 : CdAt m_X8_remember.2.1 0 B_X8_remember_0 := at_of (by decide +kernel)
def B_X8_remember_2 : List (Instr × Nat) := [(.iload_n 1, 1), (.bipush 14, 2), (.if_icmp .ge 26, 3), (.aload_n 0, 1), (.getfield 80, 3), (.bipush 14, 2), (.if_icmp .ne 17, 3), (.aload_n 0, 1), (.iload_n 1, 1), (.iconst 1, 1), (.iadd, 1), (.iload_n 1, 1), (.invokevirtual 83, 3), (.iinc 1 1, 3), (.goto (-26), 3)]
theorem L_X8_remember_2 : CdAt m_X8_remember.2.1 2 B_X8_remember_2 := at_of (by decide +kernel)
def B_X8_remember_31 : List (Instr × Nat) := [(.aload_n 0, 1), (.dup, 1), (.getfield 80, 3), (.aload_n 0, 1), (.getfield 80, 3), (.bipush 14, 2), (.if_icmp .ge 7, 3), (.iconst 1, 1), (.goto 4, 3)]
theorem L_X8_remember_31 : CdAt m_X8_remember.2.1 31 B_X8_remember_31 := at_of (by decide +kernel)
def B_X8_remember_49 : List (Instr × Nat) := [(.iconst 0, 1)]
theorem L_X8_remember_49 : CdAt m_X8_remember.2.1 49 B_X8_remember_49 := at_of (by decide +kernel)
def B_X8_remember_50 : List (Instr × Nat) := [(.iadd, 1), (.putfield 80, 3), (.aload_n 0, 1), (.iconst 0, 1), (.aload_n 0, 1), (.getfield 80, 3), (.invokevirtual 83, 3), (.return_, 1)]
theorem L_X8_remember_50 : CdAt m_X8_remember.2.1 50 B_X8_remember_50 := at_of (by decide +kernel)
def B_X8_append_0 : List (Instr × Nat) := [(.aload_n 0, 1), (.iload_n 1, 1), (.iconst 0, 1), (.sipush 255, 3), (.invokestatic 29, 3), (.ifCond .ne 7, 3), (.iconst 1, 1), (.goto 17, 3)]
theorem L_X8_append_0 : CdAt m_X8_append.2.1 0 B_X8_append_0 := at_of (by decide +kernel)
def B_X8_append_16 : List (Instr × Nat) := [(.aload_n 0, 1), (.getfield 86, 3), (.bipush 120, 2), (.if_icmp .ne 7, 3), (.iconst 2, 1), (.goto 4, 3)]
theorem L_X8_append_16 : CdAt m_X8_append.2.1 16 B_X8_append_16 := at_of (by decide +kernel)
def B_X8_append_29 : List (Instr × Nat) := [(.iconst 0, 1)]
theorem L_X8_append_29 : CdAt m_X8_append.2.1 29 B_X8_append_29 := at_of (by decide +kernel)
def B_X8_append_30 : List (Instr × Nat) := [(.invokevirtual 89, 3), (.ifCond .ne 5, 3), (.iconst 0, 1), (.ireturn, 1)]
theorem L_X8_append_30 : CdAt m_X8_append.2.1 30 B_X8_append_30 := at_of (by decide +kernel)
def B_X8_append_38 : List (Instr × Nat) := [(.aload_n 0, 1), (.getfield 16, 3), (.aload_n 0, 1), (.getfield 86, 3), (.iload_n 1, 1), (.iastore, 1), (.aload_n 0, 1), (.dup, 1), (.getfield 86, 3), (.iconst 1, 1), (.iadd, 1), (.putfield 86, 3), (.aload_n 0, 1), (.getfield 86, 3), (.ireturn, 1)]
theorem L_X8_append_38 : CdAt m_X8_append.2.1 38 B_X8_append_38 := at_of (by decide +kernel)
def B_X8_clearText_0 : List (Instr × Nat) := [(.aload_n 0, 1), (.iconst 0, 1), (.putfield 25, 3), (.aload_n 0, 1), (.getfield 86, 3), (.istore_n 1, 1), (.aload_n 0, 1), (.iconst 0, 1), (.putfield 86, 3), (.iload_n 1, 1), (.ireturn, 1)]
theorem L_X8_clearText_0 : CdAt m_X8_clearText.2.1 0 B_X8_clearText_0 := at_of (by decide +kernel)
def B_X8_sign_0 : List (Instr × Nat) := [(.aload_n 0, 1), (.getfield 93, 3), (.aload_n 0, 1), (.getfield 86, 3), (.if_icmp .ge 15, 3), (.aload_n 0, 1), (.getfield 16, 3), (.aload_n 0, 1), (.getfield 93, 3), (.iaload, 1), (.goto 4, 3)]
theorem L_X8_sign_0 : CdAt m_X8_sign.2.1 0 B_X8_sign_0 := at_of (by decide +kernel)
def B_X8_sign_23 : List (Instr × Nat) := [(.iconst (-1), 1)]
theorem L_X8_sign_23 : CdAt m_X8_sign.2.1 23 B_X8_sign_23 := at_of (by decide +kernel)
def B_X8_sign_24 : List (Instr × Nat) := [(.ireturn, 1)]
theorem L_X8_sign_24 : CdAt m_X8_sign.2.1 24 B_X8_sign_24 := at_of (by decide +kernel)
def B_X8_takesSign_0 : List (Instr × Nat) := [(.aload_n 0, 1), (.invokevirtual 96, 3), (.iload_n 1, 1), (.if_icmp .ne 7, 3), (.iconst 1, 1), (.goto 4, 3)]
theorem L_X8_takesSign_0 : CdAt m_X8_takesSign.2.1 0 B_X8_takesSign_0 := at_of (by decide +kernel)
def B_X8_takesSign_12 : List (Instr × Nat) := [(.iconst 0, 1)]
theorem L_X8_takesSign_12 : CdAt m_X8_takesSign.2.1 12 B_X8_takesSign_12 := at_of (by decide +kernel)
def B_X8_takesSign_13 : List (Instr × Nat) := [(.istore_n 2, 1), (.aload_n 0, 1), (.dup, 1), (.getfield 93, 3), (.iload_n 2, 1), (.ifCond .eq 7, 3), (.iconst 1, 1), (.goto 4, 3)]
theorem L_X8_takesSign_13 : CdAt m_X8_takesSign.2.1 13 B_X8_takesSign_13 := at_of (by decide +kernel)
def B_X8_takesSign_27 : List (Instr × Nat) := [(.iconst 0, 1)]
theorem L_X8_takesSign_27 : CdAt m_X8_takesSign.2.1 27 B_X8_takesSign_27 := at_of (by decide +kernel)
def B_X8_takesSign_28 : List (Instr × Nat) := [(.iadd, 1), (.putfield 93, 3), (.iload_n 2, 1), (.ireturn, 1)]
theorem L_X8_takesSign_28 : CdAt m_X8_takesSign.2.1 28 B_X8_takesSign_28 := at_of (by decide +kernel)
def B_X8_figure_0 : List (Instr × Nat) := [(.aload_n 0, 1), (.invokevirtual 96, 3), (.bipush 48, 2), (.iload_n 2, 1), (.iadd, 1), (.bipush 48, 2), (.iload_n 3, 1), (.iadd, 1), (.invokestatic 29, 3), (.istore 4, 2), (.iload 4, 2), (.ifCond .eq 26, 3), (.aload_n 0, 1), (.getfield 19, 3), (.iload_n 1, 1), (.aload_n 0, 1), (.invokevirtual 96, 3), (.bipush 48, 2), (.isub, 1), (.iastore, 1), (.aload_n 0, 1), (.dup, 1), (.getfield 93, 3), (.iconst 1, 1), (.iadd, 1), (.putfield 93, 3)]
theorem L_X8_figure_0 : CdAt m_X8_figure.2.1 0 B_X8_figure_0 := at_of (by decide +kernel)
def B_X8_figure_45 : List (Instr × Nat) := [(.iload 4, 2), (.ireturn, 1)]
theorem L_X8_figure_45 : CdAt m_X8_figure.2.1 45 B_X8_figure_45 := at_of (by decide +kernel)
def B_X8_figures_0 : List (Instr × Nat) := [(.aload_n 0, 1), (.iload_n 1, 1), (.iload_n 2, 1), (.bipush 10, 2), (.idiv, 1), (.iload_n 3, 1), (.bipush 10, 2), (.idiv, 1), (.invokevirtual 99, 3), (.ifCond .ne 5, 3), (.iconst 0, 1), (.ireturn, 1)]
theorem L_X8_figures_0 : CdAt m_X8_figures.2.1 0 B_X8_figures_0 := at_of (by decide +kernel)
def B_X8_figures_18 : List (Instr × Nat) := [(.aload_n 0, 1), (.getfield 19, 3), (.iload_n 1, 1), (.iaload, 1), (.istore 4, 2), (.aload_n 0, 1), (.iload_n 1, 1), (.iload 4, 2), (.iload_n 2, 1), (.bipush 10, 2), (.idiv, 1), (.if_icmp .ne 10, 3), (.iload_n 2, 1), (.bipush 10, 2), (.irem, 1), (.goto 4, 3)]
theorem L_X8_figures_18 : CdAt m_X8_figures.2.1 18 B_X8_figures_18 := at_of (by decide +kernel)
def B_X8_figures_44 : List (Instr × Nat) := [(.iconst 0, 1)]
theorem L_X8_figures_44 : CdAt m_X8_figures.2.1 44 B_X8_figures_44 := at_of (by decide +kernel)
def B_X8_figures_45 : List (Instr × Nat) := [(.iload 4, 2), (.iload_n 3, 1), (.bipush 10, 2), (.idiv, 1), (.if_icmp .ne 10, 3), (.iload_n 3, 1), (.bipush 10, 2), (.irem, 1), (.goto 5, 3)]
theorem L_X8_figures_45 : CdAt m_X8_figures.2.1 45 B_X8_figures_45 := at_of (by decide +kernel)
def B_X8_figures_61 : List (Instr × Nat) := [(.bipush 9, 2)]
theorem L_X8_figures_61 : CdAt m_X8_figures.2.1 61 B_X8_figures_61 := at_of (by decide +kernel)
def B_X8_figures_63 : List (Instr × Nat) := [(.invokevirtual 99, 3), (.istore 5, 2), (.aload_n 0, 1), (.getfield 19, 3), (.iload_n 1, 1), (.dup2, 1), (.iaload, 1), (.bipush 10, 2), (.iload 4, 2), (.imul, 1), (.iadd, 1), (.iastore, 1), (.iload 5, 2), (.ireturn, 1)]
theorem L_X8_figures_63 : CdAt m_X8_figures.2.1 63 B_X8_figures_63 := at_of (by decide +kernel)
def B_X8_readsClass_0 : List (Instr × Nat) := [(.aload_n 0, 1), (.iconst 0, 1), (.iconst 0, 1), (.iconst 3, 1), (.invokevirtual 99, 3), (.ifCond .eq 57, 3), (.aload_n 0, 1), (.iconst 1, 1), (.iconst 1, 1), (.iconst 5, 1), (.invokevirtual 99, 3), (.ifCond .eq 47, 3), (.aload_n 0, 1), (.iconst 2, 1), (.iconst 0, 1), (.iconst 3, 1), (.invokevirtual 99, 3), (.ifCond .eq 37, 3), (.aload_n 0, 1), (.iconst 3, 1), (.iconst 0, 1), (.iconst 4, 1), (.invokevirtual 99, 3), (.ifCond .eq 27, 3), (.aload_n 0, 1), (.iconst 4, 1), (.iconst 0, 1), (.iconst 5, 1), (.invokevirtual 99, 3), (.ifCond .eq 17, 3), (.aload_n 0, 1), (.iconst 5, 1), (.iconst 0, 1), (.iconst 5, 1), (.invokevirtual 99, 3), (.ifCond .eq 7, 3), (.iconst 1, 1), (.goto 4, 3)]
theorem L_X8_readsClass_0 : CdAt m_X8_readsClass.2.1 0 B_X8_readsClass_0 := at_of (by decide +kernel)
def B_X8_readsClass_64 : List (Instr × Nat) := [(.iconst 0, 1)]
theorem L_X8_readsClass_64 : CdAt m_X8_readsClass.2.1 64 B_X8_readsClass_64 := at_of (by decide +kernel)
def B_X8_readsClass_65 : List (Instr × Nat) := [(.ireturn, 1)]
theorem L_X8_readsClass_65 : CdAt m_X8_readsClass.2.1 65 B_X8_readsClass_65 := at_of (by decide +kernel)
def B_X8_readsCommand_0 : List (Instr × Nat) := [(.aload_n 0, 1), (.aload_n 0, 1), (.invokevirtual 96, 3), (.putfield 102, 3), (.aload_n 0, 1), (.bipush 102, 2), (.invokevirtual 105, 3), (.ifCond .eq 52, 3), (.aload_n 0, 1), (.iconst 0, 1), (.iconst 1, 1), (.bipush 9, 2), (.invokevirtual 99, 3), (.ifCond .eq 39, 3), (.aload_n 0, 1), (.iconst 1, 1), (.iconst 0, 1), (.iconst 4, 1), (.invokevirtual 99, 3), (.ifCond .eq 29, 3), (.aload_n 0, 1), (.iconst 2, 1), (.iconst 0, 1), (.bipush 60, 2), (.invokevirtual 108, 3), (.ifCond .eq 18, 3), (.aload_n 0, 1), (.iconst 3, 1), (.iconst 1, 1), (.bipush 30, 2), (.invokevirtual 108, 3), (.ifCond .eq 7, 3), (.iconst 1, 1), (.goto 4, 3)]
theorem L_X8_readsCommand_0 : CdAt m_X8_readsCommand.2.1 0 B_X8_readsCommand_0 := at_of (by decide +kernel)
def B_X8_readsCommand_64 : List (Instr × Nat) := [(.iconst 0, 1)]
theorem L_X8_readsCommand_64 : CdAt m_X8_readsCommand.2.1 64 B_X8_readsCommand_64 := at_of (by decide +kernel)
def B_X8_readsCommand_65 : List (Instr × Nat) := [(.ireturn, 1)]
theorem L_X8_readsCommand_65 : CdAt m_X8_readsCommand.2.1 65 B_X8_readsCommand_65 := at_of (by decide +kernel)
def B_X8_readsCommand_66 : List (Instr × Nat) := [(.aload_n 0, 1), (.bipush 116, 2), (.invokevirtual 105, 3), (.ifCond .eq 30, 3), (.aload_n 0, 1), (.iconst 0, 1), (.iconst 0, 1), (.bipush 15, 2), (.invokevirtual 108, 3), (.ifCond .eq 17, 3), (.aload_n 0, 1), (.iconst 1, 1), (.iconst 1, 1), (.iconst 5, 1), (.invokevirtual 99, 3), (.ifCond .eq 7, 3), (.iconst 1, 1), (.goto 4, 3)]
theorem L_X8_readsCommand_66 : CdAt m_X8_readsCommand.2.1 66 B_X8_readsCommand_66 := at_of (by decide +kernel)
def B_X8_readsCommand_100 : List (Instr × Nat) := [(.iconst 0, 1)]
theorem L_X8_readsCommand_100 : CdAt m_X8_readsCommand.2.1 100 B_X8_readsCommand_100 := at_of (by decide +kernel)
def B_X8_readsCommand_101 : List (Instr × Nat) := [(.ireturn, 1)]
theorem L_X8_readsCommand_101 : CdAt m_X8_readsCommand.2.1 101 B_X8_readsCommand_101 := at_of (by decide +kernel)
def B_X8_readsCommand_102 : List (Instr × Nat) := [(.aload_n 0, 1), (.bipush 99, 2), (.invokevirtual 105, 3), (.ifCond .eq 8, 3), (.aload_n 0, 1), (.invokevirtual 111, 3), (.ireturn, 1)]
theorem L_X8_readsCommand_102 : CdAt m_X8_readsCommand.2.1 102 B_X8_readsCommand_102 := at_of (by decide +kernel)
def B_X8_readsCommand_116 : List (Instr × Nat) := [(.aload_n 0, 1), (.bipush 112, 2), (.invokevirtual 105, 3), (.ifCond .eq 12, 3), (.aload_n 0, 1), (.iconst 0, 1), (.iconst 0, 1), (.bipush 11, 2), (.invokevirtual 108, 3), (.ireturn, 1)]
theorem L_X8_readsCommand_116 : CdAt m_X8_readsCommand.2.1 116 B_X8_readsCommand_116 := at_of (by decide +kernel)
def B_X8_readsCommand_134 : List (Instr × Nat) := [(.aload_n 0, 1), (.bipush 101, 2), (.invokevirtual 105, 3), (.ifCond .ne 12, 3), (.aload_n 0, 1), (.bipush 108, 2), (.invokevirtual 105, 3), (.ifCond .eq 31, 3)]
theorem L_X8_readsCommand_134 : CdAt m_X8_readsCommand.2.1 134 B_X8_readsCommand_134 := at_of (by decide +kernel)
def B_X8_readsCommand_152 : List (Instr × Nat) := [(.aload_n 0, 1), (.iconst 0, 1), (.iconst 0, 1), (.bipush 11, 2), (.invokevirtual 108, 3), (.ifCond .eq 18, 3), (.aload_n 0, 1), (.iconst 1, 1), (.iconst 0, 1), (.bipush 9, 2), (.invokevirtual 99, 3), (.ifCond .eq 7, 3), (.iconst 1, 1), (.goto 4, 3)]
theorem L_X8_readsCommand_152 : CdAt m_X8_readsCommand.2.1 152 B_X8_readsCommand_152 := at_of (by decide +kernel)
def B_X8_readsCommand_178 : List (Instr × Nat) := [(.iconst 0, 1)]
theorem L_X8_readsCommand_178 : CdAt m_X8_readsCommand.2.1 178 B_X8_readsCommand_178 := at_of (by decide +kernel)
def B_X8_readsCommand_179 : List (Instr × Nat) := [(.ireturn, 1)]
theorem L_X8_readsCommand_179 : CdAt m_X8_readsCommand.2.1 179 B_X8_readsCommand_179 := at_of (by decide +kernel)
def B_X8_readsCommand_180 : List (Instr × Nat) := [(.aload_n 0, 1), (.bipush 120, 2), (.invokevirtual 105, 3), (.ifCond .ne 12, 3), (.aload_n 0, 1), (.bipush 119, 2), (.invokevirtual 105, 3), (.ifCond .eq 25, 3)]
theorem L_X8_readsCommand_180 : CdAt m_X8_readsCommand.2.1 180 B_X8_readsCommand_180 := at_of (by decide +kernel)
def B_X8_readsCommand_198 : List (Instr × Nat) := [(.aload_n 0, 1), (.iconst 0, 1), (.aload_n 0, 1), (.getfield 102, 3), (.bipush 120, 2), (.if_icmp .ne 7, 3), (.iconst 0, 1), (.goto 4, 3)]
theorem L_X8_readsCommand_198 : CdAt m_X8_readsCommand.2.1 198 B_X8_readsCommand_198 := at_of (by decide +kernel)
def B_X8_readsCommand_213 : List (Instr × Nat) := [(.iconst 1, 1)]
theorem L_X8_readsCommand_213 : CdAt m_X8_readsCommand.2.1 213 B_X8_readsCommand_213 := at_of (by decide +kernel)
def B_X8_readsCommand_214 : List (Instr × Nat) := [(.bipush 9, 2), (.invokevirtual 99, 3), (.ireturn, 1)]
theorem L_X8_readsCommand_214 : CdAt m_X8_readsCommand.2.1 214 B_X8_readsCommand_214 := at_of (by decide +kernel)
def B_X8_readsCommand_220 : List (Instr × Nat) := [(.aload_n 0, 1), (.bipush 100, 2), (.invokevirtual 105, 3), (.ireturn, 1)]
theorem L_X8_readsCommand_220 : CdAt m_X8_readsCommand.2.1 220 B_X8_readsCommand_220 := at_of (by decide +kernel)
def B_X8_isStudio_0 : List (Instr × Nat) := [(.aload_n 0, 1), (.iconst 0, 1), (.putfield 93, 3), (.aload_n 0, 1), (.bipush 83, 2), (.invokevirtual 105, 3), (.ifCond .ne 5, 3), (.iconst 0, 1), (.ireturn, 1)]
theorem L_X8_isStudio_0 : CdAt m_X8_isStudio.2.1 0 B_X8_isStudio_0 := at_of (by decide +kernel)
def B_X8_isStudio_16 : List (Instr × Nat) := [(.aload_n 0, 1), (.getfield 93, 3), (.aload_n 0, 1), (.getfield 86, 3), (.if_icmp .ge 12, 3), (.aload_n 0, 1), (.invokevirtual 115, 3), (.ifCond .ne (-15), 3), (.iconst 0, 1), (.ireturn, 1)]
theorem L_X8_isStudio_16 : CdAt m_X8_isStudio.2.1 16 B_X8_isStudio_16 := at_of (by decide +kernel)
def B_X8_isStudio_36 : List (Instr × Nat) := [(.iconst 1, 1), (.ireturn, 1)]
theorem L_X8_isStudio_36 : CdAt m_X8_isStudio.2.1 36 B_X8_isStudio_36 := at_of (by decide +kernel)
def B_X8_errorPosition_0 : List (Instr × Nat) := [(.aload_n 0, 1), (.iconst 0, 1), (.putfield 25, 3), (.aload_n 0, 1), (.invokevirtual 118, 3), (.ifCond .eq 7, 3), (.iconst (-1), 1), (.goto 7, 3)]
theorem L_X8_errorPosition_0 : CdAt m_X8_errorPosition.2.1 0 B_X8_errorPosition_0 := at_of (by decide +kernel)
def B_X8_errorPosition_16 : List (Instr × Nat) := [(.aload_n 0, 1), (.getfield 93, 3)]
theorem L_X8_errorPosition_16 : CdAt m_X8_errorPosition.2.1 16 B_X8_errorPosition_16 := at_of (by decide +kernel)
def B_X8_errorPosition_20 : List (Instr × Nat) := [(.ireturn, 1)]
theorem L_X8_errorPosition_20 : CdAt m_X8_errorPosition.2.1 20 B_X8_errorPosition_20 := at_of (by decide +kernel)
def B_X8_canSet_0 : List (Instr × Nat) := [(.aload_n 0, 1), (.getfield 7, 3), (.iconst 2, 1), (.iaload, 1), (.bipush 10, 2), (.if_icmp .ge 33, 3), (.aload_n 0, 1), (.aload_n 0, 1), (.getfield 19, 3), (.iconst 2, 1), (.iaload, 1), (.invokevirtual 121, 3), (.ifCond .eq 20, 3), (.aload_n 0, 1), (.aload_n 0, 1), (.getfield 19, 3), (.iconst 3, 1), (.iaload, 1), (.invokevirtual 124, 3), (.ifCond .eq 7, 3), (.iconst 1, 1), (.goto 4, 3)]
theorem L_X8_canSet_0 : CdAt m_X8_canSet.2.1 0 B_X8_canSet_0 := at_of (by decide +kernel)
def B_X8_canSet_41 : List (Instr × Nat) := [(.iconst 0, 1)]
theorem L_X8_canSet_41 : CdAt m_X8_canSet.2.1 41 B_X8_canSet_41 := at_of (by decide +kernel)
def B_X8_canSet_42 : List (Instr × Nat) := [(.ireturn, 1)]
theorem L_X8_canSet_42 : CdAt m_X8_canSet.2.1 42 B_X8_canSet_42 := at_of (by decide +kernel)
def B_X8_areBoth_0 : List (Instr × Nat) := [(.aload_n 0, 1), (.aload_n 0, 1), (.getfield 19, 3), (.iconst 0, 1), (.iaload, 1), (.invokevirtual 127, 3), (.ifCond .eq 20, 3), (.aload_n 0, 1), (.aload_n 0, 1), (.getfield 19, 3), (.iconst 1, 1), (.iaload, 1), (.invokevirtual 130, 3), (.ifCond .eq 7, 3), (.iconst 1, 1), (.goto 4, 3)]
theorem L_X8_areBoth_0 : CdAt m_X8_areBoth.2.1 0 B_X8_areBoth_0 := at_of (by decide +kernel)
def B_X8_areBoth_30 : List (Instr × Nat) := [(.iconst 0, 1)]
theorem L_X8_areBoth_30 : CdAt m_X8_areBoth.2.1 30 B_X8_areBoth_30 := at_of (by decide +kernel)
def B_X8_areBoth_31 : List (Instr × Nat) := [(.ireturn, 1)]
theorem L_X8_areBoth_31 : CdAt m_X8_areBoth.2.1 31 B_X8_areBoth_31 := at_of (by decide +kernel)
def B_X8_canPass_0 : List (Instr × Nat) := [(.aload_n 0, 1), (.iload_n 1, 1), (.invokevirtual 127, 3), (.ifCond .eq 18, 3), (.aload_n 0, 1), (.iload_n 1, 1), (.iconst 2, 1), (.invokevirtual 57, 3), (.bipush 90, 2), (.if_icmp .ge 7, 3), (.iconst 1, 1), (.goto 4, 3)]
theorem L_X8_canPass_0 : CdAt m_X8_canPass.2.1 0 B_X8_canPass_0 := at_of (by decide +kernel)
def B_X8_canPass_23 : List (Instr × Nat) := [(.iconst 0, 1)]
theorem L_X8_canPass_23 : CdAt m_X8_canPass.2.1 23 B_X8_canPass_23 := at_of (by decide +kernel)
def B_X8_canPass_24 : List (Instr × Nat) := [(.ireturn, 1)]
theorem L_X8_canPass_24 : CdAt m_X8_canPass.2.1 24 B_X8_canPass_24 := at_of (by decide +kernel)
def B_X8_can_0 : List (Instr × Nat) := [(.aload_n 0, 1), (.getfield 102, 3), (.tableswitch 295 99 120 #[136, 192, 220, 104, 295, 295, 295, 295, 295, 252, 295, 295, 295, 209, 295, 295, 295, 120, 295, 295, 295, 284], 104)]
theorem L_X8_can_0 : CdAt m_X8_can.2.1 0 B_X8_can_0 := at_of (by decide +kernel)
def B_X8_can_108 : List (Instr × Nat) := [(.aload_n 0, 1), (.getfield 7, 3), (.iconst 0, 1), (.iaload, 1), (.iconst 4, 1), (.if_icmp .ge 7, 3), (.iconst 1, 1), (.goto 4, 3)]
theorem L_X8_can_108 : CdAt m_X8_can.2.1 108 B_X8_can_108 := at_of (by decide +kernel)
def B_X8_can_122 : List (Instr × Nat) := [(.iconst 0, 1)]
theorem L_X8_can_122 : CdAt m_X8_can.2.1 122 B_X8_can_122 := at_of (by decide +kernel)
def B_X8_can_123 : List (Instr × Nat) := [(.ireturn, 1)]
theorem L_X8_can_123 : CdAt m_X8_can.2.1 123 B_X8_can_123 := at_of (by decide +kernel)
def B_X8_can_124 : List (Instr × Nat) := [(.aload_n 0, 1), (.getfield 7, 3), (.iconst 1, 1), (.iaload, 1), (.iconst 5, 1), (.if_icmp .ge 7, 3), (.iconst 1, 1), (.goto 4, 3)]
theorem L_X8_can_124 : CdAt m_X8_can.2.1 124 B_X8_can_124 := at_of (by decide +kernel)
def B_X8_can_138 : List (Instr × Nat) := [(.iconst 0, 1)]
theorem L_X8_can_138 : CdAt m_X8_can.2.1 138 B_X8_can_138 := at_of (by decide +kernel)
def B_X8_can_139 : List (Instr × Nat) := [(.ireturn, 1)]
theorem L_X8_can_139 : CdAt m_X8_can.2.1 139 B_X8_can_139 := at_of (by decide +kernel)
def B_X8_can_140 : List (Instr × Nat) := [(.aload_n 0, 1), (.invokevirtual 133, 3), (.ifCond .eq 50, 3), (.aload_n 0, 1), (.aload_n 0, 1), (.getfield 19, 3), (.iconst 0, 1), (.iaload, 1), (.aload_n 0, 1), (.getfield 19, 3), (.iconst 1, 1), (.iaload, 1), (.aload_n 0, 1), (.getfield 19, 3), (.iconst 2, 1), (.iaload, 1), (.aload_n 0, 1), (.getfield 19, 3), (.iconst 3, 1), (.iaload, 1), (.aload_n 0, 1), (.getfield 19, 3), (.iconst 4, 1), (.iaload, 1), (.aload_n 0, 1), (.getfield 19, 3), (.iconst 5, 1), (.iaload, 1), (.invokevirtual 136, 3), (.ifCond .ne 7, 3), (.iconst 1, 1), (.goto 4, 3)]
theorem L_X8_can_140 : CdAt m_X8_can.2.1 140 B_X8_can_140 := at_of (by decide +kernel)
def B_X8_can_194 : List (Instr × Nat) := [(.iconst 0, 1)]
theorem L_X8_can_194 : CdAt m_X8_can.2.1 194 B_X8_can_194 := at_of (by decide +kernel)
def B_X8_can_195 : List (Instr × Nat) := [(.ireturn, 1)]
theorem L_X8_can_195 : CdAt m_X8_can.2.1 195 B_X8_can_195 := at_of (by decide +kernel)
def B_X8_can_196 : List (Instr × Nat) := [(.aload_n 0, 1), (.getfield 7, 3), (.iconst 3, 1), (.iaload, 1), (.bipush 12, 2), (.if_icmp .ge 7, 3), (.iconst 1, 1), (.goto 4, 3)]
theorem L_X8_can_196 : CdAt m_X8_can.2.1 196 B_X8_can_196 := at_of (by decide +kernel)
def B_X8_can_211 : List (Instr × Nat) := [(.iconst 0, 1)]
theorem L_X8_can_211 : CdAt m_X8_can.2.1 211 B_X8_can_211 := at_of (by decide +kernel)
def B_X8_can_212 : List (Instr × Nat) := [(.ireturn, 1)]
theorem L_X8_can_212 : CdAt m_X8_can.2.1 212 B_X8_can_212 := at_of (by decide +kernel)
def B_X8_can_213 : List (Instr × Nat) := [(.aload_n 0, 1), (.aload_n 0, 1), (.getfield 19, 3), (.iconst 0, 1), (.iaload, 1), (.invokevirtual 140, 3), (.ireturn, 1)]
theorem L_X8_can_213 : CdAt m_X8_can.2.1 213 B_X8_can_213 := at_of (by decide +kernel)
def B_X8_can_224 : List (Instr × Nat) := [(.aload_n 0, 1), (.invokevirtual 143, 3), (.ifCond .eq 26, 3), (.aload_n 0, 1), (.aload_n 0, 1), (.getfield 19, 3), (.iconst 0, 1), (.iaload, 1), (.aload_n 0, 1), (.getfield 19, 3), (.iconst 1, 1), (.iaload, 1), (.invokevirtual 146, 3), (.ifCond .ne 7, 3), (.iconst 1, 1), (.goto 4, 3)]
theorem L_X8_can_224 : CdAt m_X8_can.2.1 224 B_X8_can_224 := at_of (by decide +kernel)
def B_X8_can_254 : List (Instr × Nat) := [(.iconst 0, 1)]
theorem L_X8_can_254 : CdAt m_X8_can.2.1 254 B_X8_can_254 := at_of (by decide +kernel)
def B_X8_can_255 : List (Instr × Nat) := [(.ireturn, 1)]
theorem L_X8_can_255 : CdAt m_X8_can.2.1 255 B_X8_can_255 := at_of (by decide +kernel)
def B_X8_can_256 : List (Instr × Nat) := [(.aload_n 0, 1), (.invokevirtual 143, 3), (.ifCond .eq 26, 3), (.aload_n 0, 1), (.aload_n 0, 1), (.getfield 19, 3), (.iconst 0, 1), (.iaload, 1), (.aload_n 0, 1), (.getfield 19, 3), (.iconst 1, 1), (.iaload, 1), (.invokevirtual 53, 3), (.ifCond .eq 7, 3), (.iconst 1, 1), (.goto 4, 3)]
theorem L_X8_can_256 : CdAt m_X8_can.2.1 256 B_X8_can_256 := at_of (by decide +kernel)
def B_X8_can_286 : List (Instr × Nat) := [(.iconst 0, 1)]
theorem L_X8_can_286 : CdAt m_X8_can.2.1 286 B_X8_can_286 := at_of (by decide +kernel)
def B_X8_can_287 : List (Instr × Nat) := [(.ireturn, 1)]
theorem L_X8_can_287 : CdAt m_X8_can.2.1 287 B_X8_can_287 := at_of (by decide +kernel)
def B_X8_can_288 : List (Instr × Nat) := [(.aload_n 0, 1), (.aload_n 0, 1), (.getfield 19, 3), (.iconst 0, 1), (.iaload, 1), (.invokevirtual 130, 3), (.ireturn, 1)]
theorem L_X8_can_288 : CdAt m_X8_can.2.1 288 B_X8_can_288 := at_of (by decide +kernel)
def B_X8_can_299 : List (Instr × Nat) := [(.iconst 1, 1), (.ireturn, 1)]
theorem L_X8_can_299 : CdAt m_X8_can.2.1 299 B_X8_can_299 := at_of (by decide +kernel)
def B_X8_does_0 : List (Instr × Nat) := [(.aload_n 0, 1), (.getfield 102, 3), (.tableswitch 274 99 120 #[156, 199, 221, 104, 274, 274, 274, 274, 274, 240, 274, 274, 274, 207, 274, 274, 274, 136, 274, 274, 274, 260], 104)]
theorem L_X8_does_0 : CdAt m_X8_does.2.1 0 B_X8_does_0 := at_of (by decide +kernel)
def B_X8_does_108 : List (Instr × Nat) := [(.aload_n 0, 1), (.aload_n 0, 1), (.getfield 19, 3), (.iconst 0, 1), (.iaload, 1), (.aload_n 0, 1), (.getfield 19, 3), (.iconst 1, 1), (.iaload, 1), (.aload_n 0, 1), (.getfield 19, 3), (.iconst 2, 1), (.iaload, 1), (.aload_n 0, 1), (.getfield 19, 3), (.iconst 3, 1), (.iaload, 1), (.invokevirtual 149, 3), (.pop, 1), (.goto 152, 3)]
theorem L_X8_does_108 : CdAt m_X8_does.2.1 108 B_X8_does_108 := at_of (by decide +kernel)
def B_X8_does_140 : List (Instr × Nat) := [(.aload_n 0, 1), (.aload_n 0, 1), (.getfield 19, 3), (.iconst 0, 1), (.iaload, 1), (.aload_n 0, 1), (.getfield 19, 3), (.iconst 1, 1), (.iaload, 1), (.invokevirtual 153, 3), (.pop, 1), (.goto 132, 3)]
theorem L_X8_does_140 : CdAt m_X8_does.2.1 140 B_X8_does_140 := at_of (by decide +kernel)
def B_X8_does_160 : List (Instr × Nat) := [(.aload_n 0, 1), (.aload_n 0, 1), (.getfield 19, 3), (.iconst 0, 1), (.iaload, 1), (.aload_n 0, 1), (.getfield 19, 3), (.iconst 1, 1), (.iaload, 1), (.aload_n 0, 1), (.getfield 19, 3), (.iconst 2, 1), (.iaload, 1), (.aload_n 0, 1), (.getfield 19, 3), (.iconst 3, 1), (.iaload, 1), (.aload_n 0, 1), (.getfield 19, 3), (.iconst 4, 1), (.iaload, 1), (.aload_n 0, 1), (.getfield 19, 3), (.iconst 5, 1), (.iaload, 1), (.invokevirtual 156, 3), (.goto 89, 3)]
theorem L_X8_does_160 : CdAt m_X8_does.2.1 160 B_X8_does_160 := at_of (by decide +kernel)
def B_X8_does_203 : List (Instr × Nat) := [(.aload_n 0, 1), (.invokevirtual 160, 3), (.pop, 1), (.goto 81, 3)]
theorem L_X8_does_203 : CdAt m_X8_does.2.1 203 B_X8_does_203 := at_of (by decide +kernel)
def B_X8_does_211 : List (Instr × Nat) := [(.aload_n 0, 1), (.aload_n 0, 1), (.getfield 19, 3), (.iconst 0, 1), (.iaload, 1), (.invokevirtual 163, 3), (.pop, 1), (.goto 67, 3)]
theorem L_X8_does_211 : CdAt m_X8_does.2.1 211 B_X8_does_211 := at_of (by decide +kernel)
def B_X8_does_225 : List (Instr × Nat) := [(.aload_n 0, 1), (.aload_n 0, 1), (.getfield 19, 3), (.iconst 0, 1), (.iaload, 1), (.aload_n 0, 1), (.getfield 19, 3), (.iconst 1, 1), (.iaload, 1), (.invokevirtual 166, 3), (.goto 48, 3)]
theorem L_X8_does_225 : CdAt m_X8_does.2.1 225 B_X8_does_225 := at_of (by decide +kernel)
def B_X8_does_244 : List (Instr × Nat) := [(.aload_n 0, 1), (.aload_n 0, 1), (.getfield 19, 3), (.iconst 0, 1), (.iaload, 1), (.aload_n 0, 1), (.getfield 19, 3), (.iconst 1, 1), (.iaload, 1), (.invokevirtual 169, 3), (.pop, 1), (.goto 28, 3)]
theorem L_X8_does_244 : CdAt m_X8_does.2.1 244 B_X8_does_244 := at_of (by decide +kernel)
def B_X8_does_264 : List (Instr × Nat) := [(.aload_n 0, 1), (.aload_n 0, 1), (.getfield 19, 3), (.iconst 0, 1), (.iaload, 1), (.invokevirtual 172, 3), (.pop, 1), (.goto 14, 3)]
theorem L_X8_does_264 : CdAt m_X8_does.2.1 264 B_X8_does_264 := at_of (by decide +kernel)
def B_X8_does_278 : List (Instr × Nat) := [(.aload_n 0, 1), (.aload_n 0, 1), (.getfield 19, 3), (.iconst 0, 1), (.iaload, 1), (.invokevirtual 175, 3), (.pop, 1)]
theorem L_X8_does_278 : CdAt m_X8_does.2.1 278 B_X8_does_278 := at_of (by decide +kernel)
def B_X8_does_289 : List (Instr × Nat) := [(.return_, 1)]
theorem L_X8_does_289 : CdAt m_X8_does.2.1 289 B_X8_does_289 := at_of (by decide +kernel)
def B_X8_load_0 : List (Instr × Nat) := [(.aload_n 0, 1), (.aload_n 0, 1), (.invokevirtual 118, 3), (.ifCond .eq 7, 3), (.iconst 0, 1), (.goto 4, 3)]
theorem L_X8_load_0 : CdAt m_X8_load.2.1 0 B_X8_load_0 := at_of (by decide +kernel)
def B_X8_load_12 : List (Instr × Nat) := [(.iconst 1, 1)]
theorem L_X8_load_12 : CdAt m_X8_load.2.1 12 B_X8_load_12 := at_of (by decide +kernel)
def B_X8_load_13 : List (Instr × Nat) := [(.invokevirtual 89, 3), (.ifCond .ne 5, 3), (.iconst 0, 1), (.ireturn, 1)]
theorem L_X8_load_13 : CdAt m_X8_load.2.1 13 B_X8_load_13 := at_of (by decide +kernel)
def B_X8_load_21 : List (Instr × Nat) := [(.aload_n 0, 1), (.invokevirtual 22, 3), (.aload_n 0, 1), (.iconst 0, 1), (.putfield 80, 3), (.aload_n 0, 1), (.getfield 13, 3), (.iconst 0, 1), (.iconst 0, 1), (.iastore, 1), (.aload_n 0, 1), (.getfield 13, 3), (.iconst 1, 1), (.iconst 0, 1), (.iastore, 1), (.iconst 0, 1), (.istore_n 1, 1), (.aload_n 0, 1), (.iconst 1, 1), (.putfield 93, 3)]
theorem L_X8_load_21 : CdAt m_X8_load.2.1 21 B_X8_load_21 := at_of (by decide +kernel)
def B_X8_load_51 : List (Instr × Nat) := [(.aload_n 0, 1), (.getfield 93, 3), (.aload_n 0, 1), (.getfield 86, 3), (.if_icmp .ge 28, 3), (.aload_n 0, 1), (.invokevirtual 115, 3), (.pop, 1), (.aload_n 0, 1), (.invokevirtual 178, 3), (.ifCond .eq 10, 3), (.aload_n 0, 1), (.invokevirtual 181, 3), (.goto (-27), 3)]
theorem L_X8_load_51 : CdAt m_X8_load.2.1 51 B_X8_load_51 := at_of (by decide +kernel)
def B_X8_load_81 : List (Instr × Nat) := [(.iinc 1 1, 3), (.goto (-33), 3)]
theorem L_X8_load_81 : CdAt m_X8_load.2.1 81 B_X8_load_81 := at_of (by decide +kernel)
def B_X8_load_87 : List (Instr × Nat) := [(.iload_n 1, 1), (.ireturn, 1)]
theorem L_X8_load_87 : CdAt m_X8_load.2.1 87 B_X8_load_87 := at_of (by decide +kernel)
def B_X8_seats_0 : List (Instr × Nat) := [(.iconst 0, 1), (.istore_n 1, 1), (.iconst 0, 1), (.istore_n 2, 1)]
theorem L_X8_seats_0 : CdAt m_X8_seats.2.1 0 B_X8_seats_0 := at_of (by decide +kernel)
def B_X8_seats_4 : List (Instr × Nat) := [(.iload_n 2, 1), (.aload_n 0, 1), (.getfield 7, 3), (.iconst 2, 1), (.iaload, 1), (.if_icmp .ge 22, 3), (.iload_n 1, 1), (.aload_n 0, 1), (.iload_n 2, 1), (.bipush 8, 2), (.invokevirtual 40, 3), (.invokestatic 60, 3), (.iadd, 1), (.istore_n 1, 1), (.iinc 2 1, 3), (.goto (-26), 3)]
theorem L_X8_seats_4 : CdAt m_X8_seats.2.1 4 B_X8_seats_4 := at_of (by decide +kernel)
def B_X8_seats_33 : List (Instr × Nat) := [(.iload_n 1, 1), (.ireturn, 1)]
theorem L_X8_seats_33 : CdAt m_X8_seats.2.1 33 B_X8_seats_33 := at_of (by decide +kernel)
def B_X8_left_0 : List (Instr × Nat) := [(.iconst 0, 1), (.istore_n 1, 1), (.iconst 0, 1), (.istore_n 2, 1)]
theorem L_X8_left_0 : CdAt m_X8_left.2.1 0 B_X8_left_0 := at_of (by decide +kernel)
def B_X8_left_4 : List (Instr × Nat) := [(.iload_n 2, 1), (.aload_n 0, 1), (.getfield 7, 3), (.iconst 3, 1), (.iaload, 1), (.if_icmp .ge 18, 3), (.iload_n 1, 1), (.aload_n 0, 1), (.iload_n 2, 1), (.iconst 2, 1), (.invokevirtual 57, 3), (.iadd, 1), (.istore_n 1, 1), (.iinc 2 1, 3), (.goto (-22), 3)]
theorem L_X8_left_4 : CdAt m_X8_left.2.1 4 B_X8_left_4 := at_of (by decide +kernel)
def B_X8_left_29 : List (Instr × Nat) := [(.iload_n 1, 1), (.ireturn, 1)]
theorem L_X8_left_29 : CdAt m_X8_left.2.1 29 B_X8_left_29 := at_of (by decide +kernel)
def B_X8_tells_0 : List (Instr × Nat) := [(.iload_n 1, 1), (.tableswitch 78 5 11 #[43, 48, 48, 60, 65, 65, 65], 43)]
theorem L_X8_tells_0 : CdAt m_X8_tells.2.1 0 B_X8_tells_0 := at_of (by decide +kernel)
def B_X8_tells_44 : List (Instr × Nat) := [(.aload_n 0, 1), (.invokevirtual 184, 3), (.ireturn, 1)]
theorem L_X8_tells_44 : CdAt m_X8_tells.2.1 44 B_X8_tells_44 := at_of (by decide +kernel)
def B_X8_tells_49 : List (Instr × Nat) := [(.aload_n 0, 1), (.getfield 7, 3), (.iconst 5, 1), (.iload_n 1, 1), (.iadd, 1), (.bipush 6, 2), (.isub, 1), (.iaload, 1), (.ireturn, 1)]
theorem L_X8_tells_49 : CdAt m_X8_tells.2.1 49 B_X8_tells_49 := at_of (by decide +kernel)
def B_X8_tells_61 : List (Instr × Nat) := [(.aload_n 0, 1), (.invokevirtual 187, 3), (.ireturn, 1)]
theorem L_X8_tells_61 : CdAt m_X8_tells.2.1 61 B_X8_tells_61 := at_of (by decide +kernel)
def B_X8_tells_66 : List (Instr × Nat) := [(.aload_n 0, 1), (.getfield 7, 3), (.bipush 7, 2), (.iload_n 1, 1), (.iadd, 1), (.bipush 9, 2), (.isub, 1), (.iaload, 1), (.ireturn, 1)]
theorem L_X8_tells_66 : CdAt m_X8_tells.2.1 66 B_X8_tells_66 := at_of (by decide +kernel)
def B_X8_tells_79 : List (Instr × Nat) := [(.aload_n 0, 1), (.getfield 7, 3), (.iload_n 1, 1), (.iaload, 1), (.ireturn, 1)]
theorem L_X8_tells_79 : CdAt m_X8_tells.2.1 79 B_X8_tells_79 := at_of (by decide +kernel)
def B_X8_about_0 : List (Instr × Nat) := [(.aload_n 0, 1), (.iload_n 1, 1), (.iconst 0, 1), (.bipush 11, 2), (.invokestatic 29, 3), (.ifCond .eq 7, 3), (.iconst 0, 1), (.goto 4, 3)]
theorem L_X8_about_0 : CdAt m_X8_about.2.1 0 B_X8_about_0 := at_of (by decide +kernel)
def B_X8_about_15 : List (Instr × Nat) := [(.iconst 1, 1)]
theorem L_X8_about_15 : CdAt m_X8_about.2.1 15 B_X8_about_15 := at_of (by decide +kernel)
def B_X8_about_16 : List (Instr × Nat) := [(.invokevirtual 89, 3), (.ifCond .eq 11, 3), (.aload_n 0, 1), (.iload_n 1, 1), (.invokevirtual 190, 3), (.goto 4, 3)]
theorem L_X8_about_16 : CdAt m_X8_about.2.1 16 B_X8_about_16 := at_of (by decide +kernel)
def B_X8_about_30 : List (Instr × Nat) := [(.iconst 0, 1)]
theorem L_X8_about_30 : CdAt m_X8_about.2.1 30 B_X8_about_30 := at_of (by decide +kernel)
def B_X8_about_31 : List (Instr × Nat) := [(.ireturn, 1)]
theorem L_X8_about_31 : CdAt m_X8_about.2.1 31 B_X8_about_31 := at_of (by decide +kernel)
def B_X8_classes_0 : List (Instr × Nat) := [(.iconst 0, 1), (.istore_n 3, 1), (.iconst 0, 1), (.istore 4, 2)]
theorem L_X8_classes_0 : CdAt m_X8_classes.2.1 0 B_X8_classes_0 := at_of (by decide +kernel)
def B_X8_classes_5 : List (Instr × Nat) := [(.iload 4, 2), (.aload_n 0, 1), (.getfield 7, 3), (.iconst 2, 1), (.iaload, 1), (.if_icmp .ge 28, 3), (.iload_n 3, 1), (.aload_n 0, 1), (.iload 4, 2), (.iload_n 1, 1), (.invokevirtual 40, 3), (.iload_n 2, 1), (.if_icmp .ne 7, 3), (.iconst 1, 1), (.goto 4, 3)]
theorem L_X8_classes_5 : CdAt m_X8_classes.2.1 5 B_X8_classes_5 := at_of (by decide +kernel)
def B_X8_classes_32 : List (Instr × Nat) := [(.iconst 0, 1)]
theorem L_X8_classes_32 : CdAt m_X8_classes.2.1 32 B_X8_classes_32 := at_of (by decide +kernel)
def B_X8_classes_33 : List (Instr × Nat) := [(.iadd, 1), (.istore_n 3, 1), (.iinc 4 1, 3), (.goto (-33), 3)]
theorem L_X8_classes_33 : CdAt m_X8_classes.2.1 33 B_X8_classes_33 := at_of (by decide +kernel)
def B_X8_classes_41 : List (Instr × Nat) := [(.iload_n 3, 1), (.ireturn, 1)]
theorem L_X8_classes_41 : CdAt m_X8_classes.2.1 41 B_X8_classes_41 := at_of (by decide +kernel)
def B_X8_floorOf_0 : List (Instr × Nat) := [(.aload_n 0, 1), (.aload_n 0, 1), (.iload_n 1, 1), (.invokevirtual 121, 3), (.ifCond .ne 7, 3), (.iconst 1, 1), (.goto 17, 3)]
theorem L_X8_floorOf_0 : CdAt m_X8_floorOf.2.1 0 B_X8_floorOf_0 := at_of (by decide +kernel)
def B_X8_floorOf_13 : List (Instr × Nat) := [(.iload_n 2, 1), (.iconst 0, 1), (.iconst 5, 1), (.invokestatic 29, 3), (.ifCond .ne 7, 3), (.iconst 2, 1), (.goto 4, 3)]
theorem L_X8_floorOf_13 : CdAt m_X8_floorOf.2.1 13 B_X8_floorOf_13 := at_of (by decide +kernel)
def B_X8_floorOf_26 : List (Instr × Nat) := [(.iconst 0, 1)]
theorem L_X8_floorOf_26 : CdAt m_X8_floorOf.2.1 26 B_X8_floorOf_26 := at_of (by decide +kernel)
def B_X8_floorOf_27 : List (Instr × Nat) := [(.invokevirtual 89, 3), (.ifCond .ne 5, 3), (.iconst 0, 1), (.ireturn, 1)]
theorem L_X8_floorOf_27 : CdAt m_X8_floorOf.2.1 27 B_X8_floorOf_27 := at_of (by decide +kernel)
def B_X8_floorOf_35 : List (Instr × Nat) := [(.iload_n 2, 1), (.iconst 4, 1), (.if_icmp .ge 19, 3), (.aload_n 0, 1), (.getfield 7, 3), (.bipush 13, 2), (.iconst 4, 1), (.iload_n 1, 1), (.imul, 1), (.iadd, 1), (.iload_n 2, 1), (.iadd, 1), (.iaload, 1), (.goto 26, 3)]
theorem L_X8_floorOf_35 : CdAt m_X8_floorOf.2.1 35 B_X8_floorOf_35 := at_of (by decide +kernel)
def B_X8_floorOf_56 : List (Instr × Nat) := [(.iload_n 2, 1), (.iconst 4, 1), (.if_icmp .ne 12, 3), (.aload_n 0, 1), (.iconst 2, 1), (.iload_n 1, 1), (.invokevirtual 193, 3), (.goto 12, 3)]
theorem L_X8_floorOf_56 : CdAt m_X8_floorOf.2.1 56 B_X8_floorOf_56 := at_of (by decide +kernel)
def B_X8_floorOf_70 : List (Instr × Nat) := [(.bipush 36, 2), (.aload_n 0, 1), (.iconst 2, 1), (.iload_n 1, 1), (.invokevirtual 193, 3), (.isub, 1)]
theorem L_X8_floorOf_70 : CdAt m_X8_floorOf.2.1 70 B_X8_floorOf_70 := at_of (by decide +kernel)
def B_X8_floorOf_79 : List (Instr × Nat) := [(.ireturn, 1)]
theorem L_X8_floorOf_79 : CdAt m_X8_floorOf.2.1 79 B_X8_floorOf_79 := at_of (by decide +kernel)
def B_X8_daysOf_0 : List (Instr × Nat) := [(.iconst 0, 1), (.istore_n 2, 1), (.iconst 0, 1), (.istore_n 3, 1)]
theorem L_X8_daysOf_0 : CdAt m_X8_daysOf.2.1 0 B_X8_daysOf_0 := at_of (by decide +kernel)
def B_X8_daysOf_4 : List (Instr × Nat) := [(.iload_n 3, 1), (.aload_n 0, 1), (.getfield 7, 3), (.iconst 2, 1), (.iaload, 1), (.if_icmp .ge 34, 3), (.iload_n 2, 1), (.aload_n 0, 1), (.iload_n 3, 1), (.iconst 3, 1), (.invokevirtual 40, 3), (.iload_n 1, 1), (.if_icmp .ne 14, 3), (.iconst 1, 1), (.aload_n 0, 1), (.iload_n 3, 1), (.iconst 4, 1), (.invokevirtual 40, 3), (.ishl, 1), (.goto 4, 3)]
theorem L_X8_daysOf_4 : CdAt m_X8_daysOf.2.1 4 B_X8_daysOf_4 := at_of (by decide +kernel)
def B_X8_daysOf_36 : List (Instr × Nat) := [(.iconst 0, 1)]
theorem L_X8_daysOf_36 : CdAt m_X8_daysOf.2.1 36 B_X8_daysOf_36 := at_of (by decide +kernel)
def B_X8_daysOf_37 : List (Instr × Nat) := [(.ior, 1), (.istore_n 2, 1), (.iinc 3 1, 3), (.goto (-38), 3)]
theorem L_X8_daysOf_37 : CdAt m_X8_daysOf.2.1 37 B_X8_daysOf_37 := at_of (by decide +kernel)
def B_X8_daysOf_45 : List (Instr × Nat) := [(.iload_n 2, 1), (.invokestatic 60, 3), (.ireturn, 1)]
theorem L_X8_daysOf_45 : CdAt m_X8_daysOf.2.1 45 B_X8_daysOf_45 := at_of (by decide +kernel)
def B_X8_teacherOf_0 : List (Instr × Nat) := [(.aload_n 0, 1), (.aload_n 0, 1), (.iload_n 1, 1), (.invokevirtual 124, 3), (.ifCond .ne 7, 3), (.iconst 1, 1), (.goto 17, 3)]
theorem L_X8_teacherOf_0 : CdAt m_X8_teacherOf.2.1 0 B_X8_teacherOf_0 := at_of (by decide +kernel)
def B_X8_teacherOf_13 : List (Instr × Nat) := [(.iload_n 2, 1), (.iconst 0, 1), (.iconst 3, 1), (.invokestatic 29, 3), (.ifCond .ne 7, 3), (.iconst 2, 1), (.goto 4, 3)]
theorem L_X8_teacherOf_13 : CdAt m_X8_teacherOf.2.1 13 B_X8_teacherOf_13 := at_of (by decide +kernel)
def B_X8_teacherOf_26 : List (Instr × Nat) := [(.iconst 0, 1)]
theorem L_X8_teacherOf_26 : CdAt m_X8_teacherOf.2.1 26 B_X8_teacherOf_26 := at_of (by decide +kernel)
def B_X8_teacherOf_27 : List (Instr × Nat) := [(.invokevirtual 89, 3), (.ifCond .ne 5, 3), (.iconst 0, 1), (.ireturn, 1)]
theorem L_X8_teacherOf_27 : CdAt m_X8_teacherOf.2.1 27 B_X8_teacherOf_27 := at_of (by decide +kernel)
def B_X8_teacherOf_35 : List (Instr × Nat) := [(.iload_n 2, 1), (.iconst 2, 1), (.if_icmp .ge 19, 3), (.aload_n 0, 1), (.getfield 7, 3), (.bipush 29, 2), (.iconst 2, 1), (.iload_n 1, 1), (.imul, 1), (.iadd, 1), (.iload_n 2, 1), (.iadd, 1), (.iaload, 1), (.goto 22, 3)]
theorem L_X8_teacherOf_35 : CdAt m_X8_teacherOf.2.1 35 B_X8_teacherOf_35 := at_of (by decide +kernel)
def B_X8_teacherOf_56 : List (Instr × Nat) := [(.iload_n 2, 1), (.iconst 2, 1), (.if_icmp .ne 12, 3), (.aload_n 0, 1), (.iconst 3, 1), (.iload_n 1, 1), (.invokevirtual 193, 3), (.goto 8, 3)]
theorem L_X8_teacherOf_56 : CdAt m_X8_teacherOf.2.1 56 B_X8_teacherOf_56 := at_of (by decide +kernel)
def B_X8_teacherOf_70 : List (Instr × Nat) := [(.aload_n 0, 1), (.iload_n 1, 1), (.invokevirtual 196, 3)]
theorem L_X8_teacherOf_70 : CdAt m_X8_teacherOf.2.1 70 B_X8_teacherOf_70 := at_of (by decide +kernel)
def B_X8_teacherOf_75 : List (Instr × Nat) := [(.ireturn, 1)]
theorem L_X8_teacherOf_75 : CdAt m_X8_teacherOf.2.1 75 B_X8_teacherOf_75 := at_of (by decide +kernel)
def B_X8_classOf_0 : List (Instr × Nat) := [(.aload_n 0, 1), (.aload_n 0, 1), (.iload_n 1, 1), (.invokevirtual 130, 3), (.ifCond .ne 7, 3), (.iconst 1, 1), (.goto 18, 3)]
theorem L_X8_classOf_0 : CdAt m_X8_classOf.2.1 0 B_X8_classOf_0 := at_of (by decide +kernel)
def B_X8_classOf_13 : List (Instr × Nat) := [(.iload_n 2, 1), (.iconst 0, 1), (.bipush 9, 2), (.invokestatic 29, 3), (.ifCond .ne 7, 3), (.iconst 2, 1), (.goto 4, 3)]
theorem L_X8_classOf_13 : CdAt m_X8_classOf.2.1 13 B_X8_classOf_13 := at_of (by decide +kernel)
def B_X8_classOf_27 : List (Instr × Nat) := [(.iconst 0, 1)]
theorem L_X8_classOf_27 : CdAt m_X8_classOf.2.1 27 B_X8_classOf_27 := at_of (by decide +kernel)
def B_X8_classOf_28 : List (Instr × Nat) := [(.invokevirtual 89, 3), (.ifCond .ne 5, 3), (.iconst 0, 1), (.ireturn, 1)]
theorem L_X8_classOf_28 : CdAt m_X8_classOf.2.1 28 B_X8_classOf_28 := at_of (by decide +kernel)
def B_X8_classOf_36 : List (Instr × Nat) := [(.iload_n 2, 1), (.bipush 6, 2), (.if_icmp .ne 11, 3), (.aload_n 0, 1), (.iload_n 1, 1), (.invokevirtual 63, 3), (.goto 40, 3)]
theorem L_X8_classOf_36 : CdAt m_X8_classOf.2.1 36 B_X8_classOf_36 := at_of (by decide +kernel)
def B_X8_classOf_50 : List (Instr × Nat) := [(.iload_n 2, 1), (.bipush 7, 2), (.if_icmp .ne 16, 3), (.aload_n 0, 1), (.iload_n 1, 1), (.bipush 8, 2), (.invokevirtual 40, 3), (.invokestatic 60, 3), (.goto 21, 3)]
theorem L_X8_classOf_50 : CdAt m_X8_classOf.2.1 50 B_X8_classOf_50 := at_of (by decide +kernel)
def B_X8_classOf_69 : List (Instr × Nat) := [(.aload_n 0, 1), (.iload_n 1, 1), (.iload_n 2, 1), (.bipush 6, 2), (.if_icmp .ge 7, 3), (.iload_n 2, 1), (.goto 6, 3)]
theorem L_X8_classOf_69 : CdAt m_X8_classOf.2.1 69 B_X8_classOf_69 := at_of (by decide +kernel)
def B_X8_classOf_81 : List (Instr × Nat) := [(.iload_n 2, 1), (.iconst 2, 1), (.isub, 1)]
theorem L_X8_classOf_81 : CdAt m_X8_classOf.2.1 81 B_X8_classOf_81 := at_of (by decide +kernel)
def B_X8_classOf_84 : List (Instr × Nat) := [(.invokevirtual 40, 3)]
theorem L_X8_classOf_84 : CdAt m_X8_classOf.2.1 84 B_X8_classOf_84 := at_of (by decide +kernel)
def B_X8_classOf_87 : List (Instr × Nat) := [(.ireturn, 1)]
theorem L_X8_classOf_87 : CdAt m_X8_classOf.2.1 87 B_X8_classOf_87 := at_of (by decide +kernel)
def B_X8_seatsOf_0 : List (Instr × Nat) := [(.iconst 0, 1), (.istore_n 2, 1), (.iconst 0, 1), (.istore_n 3, 1)]
theorem L_X8_seatsOf_0 : CdAt m_X8_seatsOf.2.1 0 B_X8_seatsOf_0 := at_of (by decide +kernel)
def B_X8_seatsOf_4 : List (Instr × Nat) := [(.iload_n 3, 1), (.aload_n 0, 1), (.getfield 7, 3), (.iconst 2, 1), (.iaload, 1), (.if_icmp .ge 26, 3), (.iload_n 2, 1), (.aload_n 0, 1), (.iload_n 1, 1), (.iload_n 3, 1), (.invokevirtual 53, 3), (.ifCond .eq 7, 3), (.iconst 1, 1), (.goto 4, 3)]
theorem L_X8_seatsOf_4 : CdAt m_X8_seatsOf.2.1 4 B_X8_seatsOf_4 := at_of (by decide +kernel)
def B_X8_seatsOf_28 : List (Instr × Nat) := [(.iconst 0, 1)]
theorem L_X8_seatsOf_28 : CdAt m_X8_seatsOf.2.1 28 B_X8_seatsOf_28 := at_of (by decide +kernel)
def B_X8_seatsOf_29 : List (Instr × Nat) := [(.iadd, 1), (.istore_n 2, 1), (.iinc 3 1, 3), (.goto (-30), 3)]
theorem L_X8_seatsOf_29 : CdAt m_X8_seatsOf.2.1 29 B_X8_seatsOf_29 := at_of (by decide +kernel)
def B_X8_seatsOf_37 : List (Instr × Nat) := [(.iload_n 2, 1), (.ireturn, 1)]
theorem L_X8_seatsOf_37 : CdAt m_X8_seatsOf.2.1 37 B_X8_seatsOf_37 := at_of (by decide +kernel)
def B_X8_dancerOf_0 : List (Instr × Nat) := [(.aload_n 0, 1), (.aload_n 0, 1), (.iload_n 1, 1), (.invokevirtual 127, 3), (.ifCond .ne 7, 3), (.iconst 1, 1), (.goto 17, 3)]
theorem L_X8_dancerOf_0 : CdAt m_X8_dancerOf.2.1 0 B_X8_dancerOf_0 := at_of (by decide +kernel)
def B_X8_dancerOf_13 : List (Instr × Nat) := [(.iload_n 2, 1), (.iconst 0, 1), (.iconst 5, 1), (.invokestatic 29, 3), (.ifCond .ne 7, 3), (.iconst 2, 1), (.goto 4, 3)]
theorem L_X8_dancerOf_13 : CdAt m_X8_dancerOf.2.1 13 B_X8_dancerOf_13 := at_of (by decide +kernel)
def B_X8_dancerOf_26 : List (Instr × Nat) := [(.iconst 0, 1)]
theorem L_X8_dancerOf_26 : CdAt m_X8_dancerOf.2.1 26 B_X8_dancerOf_26 := at_of (by decide +kernel)
def B_X8_dancerOf_27 : List (Instr × Nat) := [(.invokevirtual 89, 3), (.ifCond .eq 25, 3), (.iload_n 2, 1), (.iconst 5, 1), (.if_icmp .ne 11, 3), (.aload_n 0, 1), (.iload_n 1, 1), (.invokevirtual 199, 3), (.goto 13, 3)]
theorem L_X8_dancerOf_27 : CdAt m_X8_dancerOf.2.1 27 B_X8_dancerOf_27 := at_of (by decide +kernel)
def B_X8_dancerOf_46 : List (Instr × Nat) := [(.aload_n 0, 1), (.iload_n 1, 1), (.iload_n 2, 1), (.invokevirtual 57, 3), (.goto 4, 3)]
theorem L_X8_dancerOf_46 : CdAt m_X8_dancerOf.2.1 46 B_X8_dancerOf_46 := at_of (by decide +kernel)
def B_X8_dancerOf_55 : List (Instr × Nat) := [(.iconst 0, 1)]
theorem L_X8_dancerOf_55 : CdAt m_X8_dancerOf.2.1 55 B_X8_dancerOf_55 := at_of (by decide +kernel)
def B_X8_dancerOf_56 : List (Instr × Nat) := [(.ireturn, 1)]
theorem L_X8_dancerOf_56 : CdAt m_X8_dancerOf.2.1 56 B_X8_dancerOf_56 := at_of (by decide +kernel)
def B_X8_uses_0 : List (Instr × Nat) := [(.aload_n 0, 1), (.iload_n 1, 1), (.iconst 0, 1), (.iconst 1, 1), (.invokestatic 29, 3), (.ifCond .eq 7, 3), (.iconst 0, 1), (.goto 4, 3)]
theorem L_X8_uses_0 : CdAt m_X8_uses.2.1 0 B_X8_uses_0 := at_of (by decide +kernel)
def B_X8_uses_14 : List (Instr × Nat) := [(.iconst 1, 1)]
theorem L_X8_uses_14 : CdAt m_X8_uses.2.1 14 B_X8_uses_14 := at_of (by decide +kernel)
def B_X8_uses_15 : List (Instr × Nat) := [(.invokevirtual 89, 3), (.ifCond .eq 13, 3), (.aload_n 0, 1), (.getfield 7, 3), (.bipush 6, 2), (.iaload, 1), (.goto 4, 3)]
theorem L_X8_uses_15 : CdAt m_X8_uses.2.1 15 B_X8_uses_15 := at_of (by decide +kernel)
def B_X8_uses_31 : List (Instr × Nat) := [(.iconst 0, 1)]
theorem L_X8_uses_31 : CdAt m_X8_uses.2.1 31 B_X8_uses_31 := at_of (by decide +kernel)
def B_X8_uses_32 : List (Instr × Nat) := [(.ireturn, 1)]
theorem L_X8_uses_32 : CdAt m_X8_uses.2.1 32 B_X8_uses_32 := at_of (by decide +kernel)
def B_X8_setting_0 : List (Instr × Nat) := [(.aload_n 0, 1), (.iload_n 1, 1), (.iconst 0, 1), (.iconst 1, 1), (.invokestatic 29, 3), (.ifCond .eq 7, 3), (.iconst 0, 1), (.goto 4, 3)]
theorem L_X8_setting_0 : CdAt m_X8_setting.2.1 0 B_X8_setting_0 := at_of (by decide +kernel)
def B_X8_setting_14 : List (Instr × Nat) := [(.iconst 1, 1)]
theorem L_X8_setting_14 : CdAt m_X8_setting.2.1 14 B_X8_setting_14 := at_of (by decide +kernel)
def B_X8_setting_15 : List (Instr × Nat) := [(.invokevirtual 89, 3), (.ifCond .eq 15, 3), (.aload_n 0, 1), (.getfield 7, 3), (.bipush 11, 2), (.iload_n 1, 1), (.iadd, 1), (.iaload, 1), (.goto 4, 3)]
theorem L_X8_setting_15 : CdAt m_X8_setting.2.1 15 B_X8_setting_15 := at_of (by decide +kernel)
def B_X8_setting_33 : List (Instr × Nat) := [(.iconst 0, 1)]
theorem L_X8_setting_33 : CdAt m_X8_setting.2.1 33 B_X8_setting_33 := at_of (by decide +kernel)
def B_X8_setting_34 : List (Instr × Nat) := [(.ireturn, 1)]
theorem L_X8_setting_34 : CdAt m_X8_setting.2.1 34 B_X8_setting_34 := at_of (by decide +kernel)
def B_X8_isFloorLike_0 : List (Instr × Nat) := [(.iload_n 0, 1), (.iconst 1, 1), (.bipush 9, 2), (.invokestatic 29, 3), (.ifCond .eq 36, 3), (.iload_n 1, 1), (.iconst 0, 1), (.iconst 4, 1), (.invokestatic 29, 3), (.ifCond .eq 27, 3), (.iload_n 2, 1), (.iconst 0, 1), (.bipush 60, 2), (.invokestatic 29, 3), (.ifCond .eq 17, 3), (.iload_n 3, 1), (.iconst 1, 1), (.bipush 30, 2), (.invokestatic 29, 3), (.ifCond .eq 7, 3), (.iconst 1, 1), (.goto 4, 3)]
theorem L_X8_isFloorLike_0 : CdAt m_X8_isFloorLike.2.1 0 B_X8_isFloorLike_0 := at_of (by decide +kernel)
def B_X8_isFloorLike_43 : List (Instr × Nat) := [(.iconst 0, 1)]
theorem L_X8_isFloorLike_43 : CdAt m_X8_isFloorLike.2.1 43 B_X8_isFloorLike_43 := at_of (by decide +kernel)
def B_X8_isFloorLike_44 : List (Instr × Nat) := [(.ireturn, 1)]
theorem L_X8_isFloorLike_44 : CdAt m_X8_isFloorLike.2.1 44 B_X8_isFloorLike_44 := at_of (by decide +kernel)
def B_X8_floor_0 : List (Instr × Nat) := [(.aload_n 0, 1), (.iload_n 1, 1), (.iload_n 2, 1), (.iload_n 3, 1), (.iload 4, 2), (.invokestatic 202, 3), (.ifCond .ne 7, 3), (.iconst 1, 1), (.goto 18, 3)]
theorem L_X8_floor_0 : CdAt m_X8_floor.2.1 0 B_X8_floor_0 := at_of (by decide +kernel)
def B_X8_floor_16 : List (Instr × Nat) := [(.aload_n 0, 1), (.getfield 7, 3), (.iconst 0, 1), (.iaload, 1), (.iconst 4, 1), (.if_icmp .ne 7, 3), (.iconst 2, 1), (.goto 4, 3)]
theorem L_X8_floor_16 : CdAt m_X8_floor.2.1 16 B_X8_floor_16 := at_of (by decide +kernel)
def B_X8_floor_30 : List (Instr × Nat) := [(.iconst 0, 1)]
theorem L_X8_floor_30 : CdAt m_X8_floor.2.1 30 B_X8_floor_30 := at_of (by decide +kernel)
def B_X8_floor_31 : List (Instr × Nat) := [(.invokevirtual 89, 3), (.ifCond .ne 5, 3), (.iconst 0, 1), (.ireturn, 1)]
theorem L_X8_floor_31 : CdAt m_X8_floor.2.1 31 B_X8_floor_31 := at_of (by decide +kernel)
def B_X8_floor_39 : List (Instr × Nat) := [(.aload_n 0, 1), (.invokevirtual 206, 3), (.aload_n 0, 1), (.iload_n 1, 1), (.iload_n 2, 1), (.iload_n 3, 1), (.iload 4, 2), (.invokevirtual 149, 3), (.ireturn, 1)]
theorem L_X8_floor_39 : CdAt m_X8_floor.2.1 39 B_X8_floor_39 := at_of (by decide +kernel)
def B_X8_teacher_0 : List (Instr × Nat) := [(.iload_n 1, 1), (.iconst 0, 1), (.bipush 15, 2), (.invokestatic 29, 3), (.ifCond .eq 16, 3), (.iload_n 2, 1), (.iconst 1, 1), (.iconst 5, 1), (.invokestatic 29, 3), (.ifCond .eq 7, 3), (.iconst 1, 1), (.goto 4, 3)]
theorem L_X8_teacher_0 : CdAt m_X8_teacher.2.1 0 B_X8_teacher_0 := at_of (by decide +kernel)
def B_X8_teacher_23 : List (Instr × Nat) := [(.iconst 0, 1)]
theorem L_X8_teacher_23 : CdAt m_X8_teacher.2.1 23 B_X8_teacher_23 := at_of (by decide +kernel)
def B_X8_teacher_24 : List (Instr × Nat) := [(.istore_n 3, 1), (.aload_n 0, 1), (.iload_n 3, 1), (.ifCond .ne 7, 3), (.iconst 1, 1), (.goto 18, 3)]
theorem L_X8_teacher_24 : CdAt m_X8_teacher.2.1 24 B_X8_teacher_24 := at_of (by decide +kernel)
def B_X8_teacher_34 : List (Instr × Nat) := [(.aload_n 0, 1), (.getfield 7, 3), (.iconst 1, 1), (.iaload, 1), (.iconst 5, 1), (.if_icmp .ne 7, 3), (.iconst 2, 1), (.goto 4, 3)]
theorem L_X8_teacher_34 : CdAt m_X8_teacher.2.1 34 B_X8_teacher_34 := at_of (by decide +kernel)
def B_X8_teacher_48 : List (Instr × Nat) := [(.iconst 0, 1)]
theorem L_X8_teacher_48 : CdAt m_X8_teacher.2.1 48 B_X8_teacher_48 := at_of (by decide +kernel)
def B_X8_teacher_49 : List (Instr × Nat) := [(.invokevirtual 89, 3), (.ifCond .ne 5, 3), (.iconst 0, 1), (.ireturn, 1)]
theorem L_X8_teacher_49 : CdAt m_X8_teacher.2.1 49 B_X8_teacher_49 := at_of (by decide +kernel)
def B_X8_teacher_57 : List (Instr × Nat) := [(.aload_n 0, 1), (.invokevirtual 206, 3), (.aload_n 0, 1), (.iload_n 1, 1), (.iload_n 2, 1), (.invokevirtual 153, 3), (.ireturn, 1)]
theorem L_X8_teacher_57 : CdAt m_X8_teacher.2.1 57 B_X8_teacher_57 := at_of (by decide +kernel)
def B_X8_isTime_0 : List (Instr × Nat) := [(.iload_n 0, 1), (.iconst 0, 1), (.iconst 3, 1), (.invokestatic 29, 3), (.ifCond .eq 34, 3), (.iload_n 1, 1), (.iconst 1, 1), (.iconst 5, 1), (.invokestatic 29, 3), (.ifCond .eq 25, 3), (.iload_n 2, 1), (.iconst 0, 1), (.iconst 5, 1), (.invokestatic 29, 3), (.ifCond .eq 16, 3), (.iload_n 3, 1), (.iconst 0, 1), (.iconst 5, 1), (.invokestatic 29, 3), (.ifCond .eq 7, 3), (.iconst 1, 1), (.goto 4, 3)]
theorem L_X8_isTime_0 : CdAt m_X8_isTime.2.1 0 B_X8_isTime_0 := at_of (by decide +kernel)
def B_X8_isTime_40 : List (Instr × Nat) := [(.iconst 0, 1)]
theorem L_X8_isTime_40 : CdAt m_X8_isTime.2.1 40 B_X8_isTime_40 := at_of (by decide +kernel)
def B_X8_isTime_41 : List (Instr × Nat) := [(.ireturn, 1)]
theorem L_X8_isTime_41 : CdAt m_X8_isTime.2.1 41 B_X8_isTime_41 := at_of (by decide +kernel)
def B_X8_triesClass_0 : List (Instr × Nat) := [(.aload_n 0, 1), (.iload_n 1, 1), (.iload_n 2, 1), (.iload_n 3, 1), (.iload 4, 2), (.iload 5, 2), (.iload 6, 2), (.invokevirtual 136, 3), (.istore 7, 2), (.iload 7, 2), (.ifCond .le 17, 3), (.aload_n 0, 1), (.getfield 7, 3), (.bipush 9, 2), (.dup2, 1), (.iaload, 1), (.iconst 1, 1), (.iadd, 1), (.iastore, 1), (.goto 16, 3)]
theorem L_X8_triesClass_0 : CdAt m_X8_triesClass.2.1 0 B_X8_triesClass_0 := at_of (by decide +kernel)
def B_X8_triesClass_34 : List (Instr × Nat) := [(.aload_n 0, 1), (.iload_n 1, 1), (.iload_n 2, 1), (.iload_n 3, 1), (.iload 4, 2), (.iload 5, 2), (.iload 6, 2), (.invokevirtual 156, 3)]
theorem L_X8_triesClass_34 : CdAt m_X8_triesClass.2.1 34 B_X8_triesClass_34 := at_of (by decide +kernel)
def B_X8_triesClass_47 : List (Instr × Nat) := [(.iload 7, 2), (.ireturn, 1)]
theorem L_X8_triesClass_47 : CdAt m_X8_triesClass.2.1 47 B_X8_triesClass_47 := at_of (by decide +kernel)
def B_X8_triesSeat_0 : List (Instr × Nat) := [(.aload_n 0, 1), (.iload_n 1, 1), (.iload_n 2, 1), (.invokevirtual 146, 3), (.istore_n 3, 1), (.iload_n 3, 1), (.ifCond .le 17, 3), (.aload_n 0, 1), (.getfield 7, 3), (.bipush 9, 2), (.dup2, 1), (.iaload, 1), (.iconst 1, 1), (.iadd, 1), (.iastore, 1), (.goto 9, 3)]
theorem L_X8_triesSeat_0 : CdAt m_X8_triesSeat.2.1 0 B_X8_triesSeat_0 := at_of (by decide +kernel)
def B_X8_triesSeat_25 : List (Instr × Nat) := [(.aload_n 0, 1), (.iload_n 1, 1), (.iload_n 2, 1), (.invokevirtual 166, 3)]
theorem L_X8_triesSeat_25 : CdAt m_X8_triesSeat.2.1 25 B_X8_triesSeat_25 := at_of (by decide +kernel)
def B_X8_triesSeat_31 : List (Instr × Nat) := [(.iload_n 3, 1), (.ireturn, 1)]
theorem L_X8_triesSeat_31 : CdAt m_X8_triesSeat.2.1 31 B_X8_triesSeat_31 := at_of (by decide +kernel)
def B_X8_set_0 : List (Instr × Nat) := [(.aload_n 0, 1), (.iload_n 3, 1), (.invokevirtual 121, 3), (.ifCond .eq 16, 3), (.aload_n 0, 1), (.iload 4, 2), (.invokevirtual 124, 3), (.ifCond .eq 7, 3), (.iconst 1, 1), (.goto 4, 3)]
theorem L_X8_set_0 : CdAt m_X8_set.2.1 0 B_X8_set_0 := at_of (by decide +kernel)
def B_X8_set_21 : List (Instr × Nat) := [(.iconst 0, 1)]
theorem L_X8_set_21 : CdAt m_X8_set.2.1 21 B_X8_set_21 := at_of (by decide +kernel)
def B_X8_set_22 : List (Instr × Nat) := [(.istore 7, 2), (.aload_n 0, 1), (.iload 7, 2), (.ifCond .ne 7, 3), (.iconst 1, 1), (.goto 35, 3)]
theorem L_X8_set_22 : CdAt m_X8_set.2.1 22 B_X8_set_22 := at_of (by decide +kernel)
def B_X8_set_34 : List (Instr × Nat) := [(.iload_n 1, 1), (.iload_n 2, 1), (.iload 5, 2), (.iload 6, 2), (.invokestatic 209, 3), (.ifCond .ne 7, 3), (.iconst 2, 1), (.goto 19, 3)]
theorem L_X8_set_34 : CdAt m_X8_set.2.1 34 B_X8_set_34 := at_of (by decide +kernel)
def B_X8_set_50 : List (Instr × Nat) := [(.aload_n 0, 1), (.getfield 7, 3), (.iconst 2, 1), (.iaload, 1), (.bipush 10, 2), (.if_icmp .ne 7, 3), (.iconst 3, 1), (.goto 4, 3)]
theorem L_X8_set_50 : CdAt m_X8_set.2.1 50 B_X8_set_50 := at_of (by decide +kernel)
def B_X8_set_65 : List (Instr × Nat) := [(.iconst 0, 1)]
theorem L_X8_set_65 : CdAt m_X8_set.2.1 65 B_X8_set_65 := at_of (by decide +kernel)
def B_X8_set_66 : List (Instr × Nat) := [(.invokevirtual 89, 3), (.ifCond .ne 5, 3), (.iconst 0, 1), (.ireturn, 1)]
theorem L_X8_set_66 : CdAt m_X8_set.2.1 66 B_X8_set_66 := at_of (by decide +kernel)
def B_X8_set_74 : List (Instr × Nat) := [(.aload_n 0, 1), (.invokevirtual 206, 3), (.aload_n 0, 1), (.iload_n 1, 1), (.iload_n 2, 1), (.iload_n 3, 1), (.iload 4, 2), (.iload 5, 2), (.iload 6, 2), (.invokevirtual 212, 3), (.ireturn, 1)]
theorem L_X8_set_74 : CdAt m_X8_set.2.1 74 B_X8_set_74 := at_of (by decide +kernel)
def B_X8_drop_0 : List (Instr × Nat) := [(.aload_n 0, 1), (.aload_n 0, 1), (.iload_n 1, 1), (.invokevirtual 130, 3), (.ifCond .eq 7, 3), (.iconst 0, 1), (.goto 4, 3)]
theorem L_X8_drop_0 : CdAt m_X8_drop.2.1 0 B_X8_drop_0 := at_of (by decide +kernel)
def B_X8_drop_13 : List (Instr × Nat) := [(.iconst 1, 1)]
theorem L_X8_drop_13 : CdAt m_X8_drop.2.1 13 B_X8_drop_13 := at_of (by decide +kernel)
def B_X8_drop_14 : List (Instr × Nat) := [(.invokevirtual 89, 3), (.ifCond .ne 5, 3), (.iconst 0, 1), (.ireturn, 1)]
theorem L_X8_drop_14 : CdAt m_X8_drop.2.1 14 B_X8_drop_14 := at_of (by decide +kernel)
def B_X8_drop_22 : List (Instr × Nat) := [(.aload_n 0, 1), (.invokevirtual 206, 3), (.aload_n 0, 1), (.iload_n 1, 1), (.invokevirtual 172, 3), (.ireturn, 1)]
theorem L_X8_drop_22 : CdAt m_X8_drop.2.1 22 B_X8_drop_22 := at_of (by decide +kernel)
def B_X8_dancer_0 : List (Instr × Nat) := [(.aload_n 0, 1), (.aload_n 0, 1), (.getfield 7, 3), (.iconst 3, 1), (.iaload, 1), (.bipush 12, 2), (.if_icmp .ne 7, 3), (.iconst 1, 1), (.goto 4, 3)]
theorem L_X8_dancer_0 : CdAt m_X8_dancer.2.1 0 B_X8_dancer_0 := at_of (by decide +kernel)
def B_X8_dancer_16 : List (Instr × Nat) := [(.iconst 0, 1)]
theorem L_X8_dancer_16 : CdAt m_X8_dancer.2.1 16 B_X8_dancer_16 := at_of (by decide +kernel)
def B_X8_dancer_17 : List (Instr × Nat) := [(.invokevirtual 89, 3), (.ifCond .ne 5, 3), (.iconst 0, 1), (.ireturn, 1)]
theorem L_X8_dancer_17 : CdAt m_X8_dancer.2.1 17 B_X8_dancer_17 := at_of (by decide +kernel)
def B_X8_dancer_25 : List (Instr × Nat) := [(.aload_n 0, 1), (.invokevirtual 206, 3), (.aload_n 0, 1), (.invokevirtual 160, 3), (.ireturn, 1)]
theorem L_X8_dancer_25 : CdAt m_X8_dancer.2.1 25 B_X8_dancer_25 := at_of (by decide +kernel)
def B_X8_pass_0 : List (Instr × Nat) := [(.aload_n 0, 1), (.aload_n 0, 1), (.iload_n 1, 1), (.invokevirtual 127, 3), (.ifCond .ne 7, 3), (.iconst 1, 1), (.goto 16, 3)]
theorem L_X8_pass_0 : CdAt m_X8_pass.2.1 0 B_X8_pass_0 := at_of (by decide +kernel)
def B_X8_pass_13 : List (Instr × Nat) := [(.aload_n 0, 1), (.iload_n 1, 1), (.invokevirtual 140, 3), (.ifCond .ne 7, 3), (.iconst 2, 1), (.goto 4, 3)]
theorem L_X8_pass_13 : CdAt m_X8_pass.2.1 13 B_X8_pass_13 := at_of (by decide +kernel)
def B_X8_pass_25 : List (Instr × Nat) := [(.iconst 0, 1)]
theorem L_X8_pass_25 : CdAt m_X8_pass.2.1 25 B_X8_pass_25 := at_of (by decide +kernel)
def B_X8_pass_26 : List (Instr × Nat) := [(.invokevirtual 89, 3), (.ifCond .ne 5, 3), (.iconst 0, 1), (.ireturn, 1)]
theorem L_X8_pass_26 : CdAt m_X8_pass.2.1 26 B_X8_pass_26 := at_of (by decide +kernel)
def B_X8_pass_34 : List (Instr × Nat) := [(.aload_n 0, 1), (.invokevirtual 206, 3), (.aload_n 0, 1), (.iload_n 1, 1), (.invokevirtual 163, 3), (.ireturn, 1)]
theorem L_X8_pass_34 : CdAt m_X8_pass.2.1 34 B_X8_pass_34 := at_of (by decide +kernel)
def B_X8_enter_0 : List (Instr × Nat) := [(.aload_n 0, 1), (.aload_n 0, 1), (.iload_n 1, 1), (.invokevirtual 127, 3), (.ifCond .eq 15, 3), (.aload_n 0, 1), (.iload_n 2, 1), (.invokevirtual 130, 3), (.ifCond .eq 7, 3), (.iconst 0, 1), (.goto 4, 3)]
theorem L_X8_enter_0 : CdAt m_X8_enter.2.1 0 B_X8_enter_0 := at_of (by decide +kernel)
def B_X8_enter_21 : List (Instr × Nat) := [(.iconst 1, 1)]
theorem L_X8_enter_21 : CdAt m_X8_enter.2.1 21 B_X8_enter_21 := at_of (by decide +kernel)
def B_X8_enter_22 : List (Instr × Nat) := [(.invokevirtual 89, 3), (.ifCond .ne 5, 3), (.iconst 0, 1), (.ireturn, 1)]
theorem L_X8_enter_22 : CdAt m_X8_enter.2.1 22 B_X8_enter_22 := at_of (by decide +kernel)
def B_X8_enter_30 : List (Instr × Nat) := [(.aload_n 0, 1), (.invokevirtual 206, 3), (.aload_n 0, 1), (.iload_n 1, 1), (.iload_n 2, 1), (.invokevirtual 215, 3), (.ireturn, 1)]
theorem L_X8_enter_30 : CdAt m_X8_enter.2.1 30 B_X8_enter_30 := at_of (by decide +kernel)
def B_X8_leave_0 : List (Instr × Nat) := [(.aload_n 0, 1), (.iload_n 1, 1), (.invokevirtual 127, 3), (.ifCond .eq 15, 3), (.aload_n 0, 1), (.iload_n 2, 1), (.invokevirtual 130, 3), (.ifCond .eq 7, 3), (.iconst 1, 1), (.goto 4, 3)]
theorem L_X8_leave_0 : CdAt m_X8_leave.2.1 0 B_X8_leave_0 := at_of (by decide +kernel)
def B_X8_leave_20 : List (Instr × Nat) := [(.iconst 0, 1)]
theorem L_X8_leave_20 : CdAt m_X8_leave.2.1 20 B_X8_leave_20 := at_of (by decide +kernel)
def B_X8_leave_21 : List (Instr × Nat) := [(.istore_n 3, 1), (.aload_n 0, 1), (.iload_n 3, 1), (.ifCond .ne 7, 3), (.iconst 1, 1), (.goto 17, 3)]
theorem L_X8_leave_21 : CdAt m_X8_leave.2.1 21 B_X8_leave_21 := at_of (by decide +kernel)
def B_X8_leave_31 : List (Instr × Nat) := [(.aload_n 0, 1), (.iload_n 1, 1), (.iload_n 2, 1), (.invokevirtual 53, 3), (.ifCond .ne 7, 3), (.iconst 2, 1), (.goto 4, 3)]
theorem L_X8_leave_31 : CdAt m_X8_leave.2.1 31 B_X8_leave_31 := at_of (by decide +kernel)
def B_X8_leave_44 : List (Instr × Nat) := [(.iconst 0, 1)]
theorem L_X8_leave_44 : CdAt m_X8_leave.2.1 44 B_X8_leave_44 := at_of (by decide +kernel)
def B_X8_leave_45 : List (Instr × Nat) := [(.invokevirtual 89, 3), (.ifCond .ne 5, 3), (.iconst 0, 1), (.ireturn, 1)]
theorem L_X8_leave_45 : CdAt m_X8_leave.2.1 45 B_X8_leave_45 := at_of (by decide +kernel)
def B_X8_leave_53 : List (Instr × Nat) := [(.aload_n 0, 1), (.invokevirtual 206, 3), (.aload_n 0, 1), (.iload_n 1, 1), (.iload_n 2, 1), (.invokevirtual 169, 3), (.ireturn, 1)]
theorem L_X8_leave_53 : CdAt m_X8_leave.2.1 53 B_X8_leave_53 := at_of (by decide +kernel)
def B_X8_weeks_0 : List (Instr × Nat) := [(.aload_n 0, 1), (.iload_n 1, 1), (.iconst 1, 1), (.bipush 9, 2), (.invokestatic 29, 3), (.ifCond .eq 7, 3), (.iconst 0, 1), (.goto 4, 3)]
theorem L_X8_weeks_0 : CdAt m_X8_weeks.2.1 0 B_X8_weeks_0 := at_of (by decide +kernel)
def B_X8_weeks_15 : List (Instr × Nat) := [(.iconst 1, 1)]
theorem L_X8_weeks_15 : CdAt m_X8_weeks.2.1 15 B_X8_weeks_15 := at_of (by decide +kernel)
def B_X8_weeks_16 : List (Instr × Nat) := [(.invokevirtual 89, 3), (.ifCond .ne 5, 3), (.iconst 0, 1), (.ireturn, 1)]
theorem L_X8_weeks_16 : CdAt m_X8_weeks.2.1 16 B_X8_weeks_16 := at_of (by decide +kernel)
def B_X8_weeks_24 : List (Instr × Nat) := [(.aload_n 0, 1), (.invokevirtual 206, 3), (.aload_n 0, 1), (.iload_n 1, 1), (.invokevirtual 175, 3), (.ireturn, 1)]
theorem L_X8_weeks_24 : CdAt m_X8_weeks.2.1 24 B_X8_weeks_24 := at_of (by decide +kernel)
def B_X8_tune_0 : List (Instr × Nat) := [(.aload_n 0, 1), (.iload_n 1, 1), (.iconst 0, 1), (.iconst 1, 1), (.invokestatic 29, 3), (.ifCond .eq 26, 3), (.iload_n 2, 1), (.iconst 1, 1), (.iload_n 1, 1), (.ifCond .ne 8, 3), (.bipush 9, 2), (.goto 5, 3)]
theorem L_X8_tune_0 : CdAt m_X8_tune.2.1 0 B_X8_tune_0 := at_of (by decide +kernel)
def B_X8_tune_21 : List (Instr × Nat) := [(.bipush 50, 2)]
theorem L_X8_tune_21 : CdAt m_X8_tune.2.1 21 B_X8_tune_21 := at_of (by decide +kernel)
def B_X8_tune_23 : List (Instr × Nat) := [(.invokestatic 29, 3), (.ifCond .eq 7, 3), (.iconst 0, 1), (.goto 4, 3)]
theorem L_X8_tune_23 : CdAt m_X8_tune.2.1 23 B_X8_tune_23 := at_of (by decide +kernel)
def B_X8_tune_33 : List (Instr × Nat) := [(.iconst 1, 1)]
theorem L_X8_tune_33 : CdAt m_X8_tune.2.1 33 B_X8_tune_33 := at_of (by decide +kernel)
def B_X8_tune_34 : List (Instr × Nat) := [(.invokevirtual 89, 3), (.ifCond .ne 5, 3), (.iconst 0, 1), (.ireturn, 1)]
theorem L_X8_tune_34 : CdAt m_X8_tune.2.1 34 B_X8_tune_34 := at_of (by decide +kernel)
def B_X8_tune_42 : List (Instr × Nat) := [(.aload_n 0, 1), (.invokevirtual 206, 3), (.aload_n 0, 1), (.getfield 7, 3), (.bipush 11, 2), (.iload_n 1, 1), (.iadd, 1), (.iaload, 1), (.istore_n 3, 1), (.aload_n 0, 1), (.getfield 7, 3), (.bipush 11, 2), (.iload_n 1, 1), (.iadd, 1), (.iload_n 2, 1), (.iastore, 1), (.iload_n 3, 1), (.ireturn, 1)]
theorem L_X8_tune_42 : CdAt m_X8_tune.2.1 42 B_X8_tune_42 := at_of (by decide +kernel)
def B_X8_undo_0 : List (Instr × Nat) := [(.aload_n 0, 1), (.aload_n 0, 1), (.getfield 80, 3), (.ifCond .le 7, 3), (.iconst 0, 1), (.goto 4, 3)]
theorem L_X8_undo_0 : CdAt m_X8_undo.2.1 0 B_X8_undo_0 := at_of (by decide +kernel)
def B_X8_undo_12 : List (Instr × Nat) := [(.iconst 1, 1)]
theorem L_X8_undo_12 : CdAt m_X8_undo.2.1 12 B_X8_undo_12 := at_of (by decide +kernel)
def B_X8_undo_13 : List (Instr × Nat) := [(.invokevirtual 89, 3), (.ifCond .ne 5, 3), (.iconst 0, 1), (.ireturn, 1)]
theorem L_X8_undo_13 : CdAt m_X8_undo.2.1 13 B_X8_undo_13 := at_of (by decide +kernel)
def B_X8_undo_21 : List (Instr × Nat) := [(.aload_n 0, 1), (.aload_n 0, 1), (.getfield 80, 3), (.iconst 0, 1), (.invokevirtual 83, 3), (.aload_n 0, 1), (.dup, 1), (.getfield 80, 3), (.iconst 1, 1), (.isub, 1), (.putfield 80, 3), (.aload_n 0, 1), (.getfield 80, 3), (.ireturn, 1)]
theorem L_X8_undo_21 : CdAt m_X8_undo.2.1 21 B_X8_undo_21 := at_of (by decide +kernel)
def B_X8_why_0 : List (Instr × Nat) := [(.aload_n 0, 1), (.iload_n 3, 1), (.invokevirtual 121, 3), (.ifCond .eq 16, 3), (.aload_n 0, 1), (.iload 4, 2), (.invokevirtual 124, 3), (.ifCond .eq 7, 3), (.iconst 1, 1), (.goto 4, 3)]
theorem L_X8_why_0 : CdAt m_X8_why.2.1 0 B_X8_why_0 := at_of (by decide +kernel)
def B_X8_why_21 : List (Instr × Nat) := [(.iconst 0, 1)]
theorem L_X8_why_21 : CdAt m_X8_why.2.1 21 B_X8_why_21 := at_of (by decide +kernel)
def B_X8_why_22 : List (Instr × Nat) := [(.istore 7, 2), (.aload_n 0, 1), (.iload 7, 2), (.ifCond .ne 7, 3), (.iconst 1, 1), (.goto 20, 3)]
theorem L_X8_why_22 : CdAt m_X8_why.2.1 22 B_X8_why_22 := at_of (by decide +kernel)
def B_X8_why_34 : List (Instr × Nat) := [(.iload_n 1, 1), (.iload_n 2, 1), (.iload 5, 2), (.iload 6, 2), (.invokestatic 209, 3), (.ifCond .ne 7, 3), (.iconst 2, 1), (.goto 4, 3)]
theorem L_X8_why_34 : CdAt m_X8_why.2.1 34 B_X8_why_34 := at_of (by decide +kernel)
def B_X8_why_50 : List (Instr × Nat) := [(.iconst 0, 1)]
theorem L_X8_why_50 : CdAt m_X8_why.2.1 50 B_X8_why_50 := at_of (by decide +kernel)
def B_X8_why_51 : List (Instr × Nat) := [(.invokevirtual 89, 3), (.ifCond .eq 19, 3), (.aload_n 0, 1), (.iload_n 1, 1), (.iload_n 2, 1), (.iload_n 3, 1), (.iload 4, 2), (.iload 5, 2), (.iload 6, 2), (.invokevirtual 136, 3), (.goto 4, 3)]
theorem L_X8_why_51 : CdAt m_X8_why.2.1 51 B_X8_why_51 := at_of (by decide +kernel)
def B_X8_why_73 : List (Instr × Nat) := [(.iconst 0, 1)]
theorem L_X8_why_73 : CdAt m_X8_why.2.1 73 B_X8_why_73 := at_of (by decide +kernel)
def B_X8_why_74 : List (Instr × Nat) := [(.ireturn, 1)]
theorem L_X8_why_74 : CdAt m_X8_why.2.1 74 B_X8_why_74 := at_of (by decide +kernel)
def B_X8_whySeat_0 : List (Instr × Nat) := [(.aload_n 0, 1), (.aload_n 0, 1), (.iload_n 1, 1), (.invokevirtual 127, 3), (.ifCond .eq 15, 3), (.aload_n 0, 1), (.iload_n 2, 1), (.invokevirtual 130, 3), (.ifCond .eq 7, 3), (.iconst 0, 1), (.goto 4, 3)]
theorem L_X8_whySeat_0 : CdAt m_X8_whySeat.2.1 0 B_X8_whySeat_0 := at_of (by decide +kernel)
def B_X8_whySeat_21 : List (Instr × Nat) := [(.iconst 1, 1)]
theorem L_X8_whySeat_21 : CdAt m_X8_whySeat.2.1 21 B_X8_whySeat_21 := at_of (by decide +kernel)
def B_X8_whySeat_22 : List (Instr × Nat) := [(.invokevirtual 89, 3), (.ifCond .eq 12, 3), (.aload_n 0, 1), (.iload_n 1, 1), (.iload_n 2, 1), (.invokevirtual 146, 3), (.goto 4, 3)]
theorem L_X8_whySeat_22 : CdAt m_X8_whySeat.2.1 22 B_X8_whySeat_22 := at_of (by decide +kernel)
def B_X8_whySeat_37 : List (Instr × Nat) := [(.iconst 0, 1)]
theorem L_X8_whySeat_37 : CdAt m_X8_whySeat.2.1 37 B_X8_whySeat_37 := at_of (by decide +kernel)
def B_X8_whySeat_38 : List (Instr × Nat) := [(.ireturn, 1)]
theorem L_X8_whySeat_38 : CdAt m_X8_whySeat.2.1 38 B_X8_whySeat_38 := at_of (by decide +kernel)
def B_X8_bestFloor_0 : List (Instr × Nat) := [(.aload_n 0, 1), (.aload_n 0, 1), (.iload_n 3, 1), (.invokevirtual 124, 3), (.ifCond .ne 7, 3), (.iconst 1, 1), (.goto 20, 3)]
theorem L_X8_bestFloor_0 : CdAt m_X8_bestFloor.2.1 0 B_X8_bestFloor_0 := at_of (by decide +kernel)
def B_X8_bestFloor_13 : List (Instr × Nat) := [(.iload_n 1, 1), (.iload_n 2, 1), (.iload 4, 2), (.iload 5, 2), (.invokestatic 209, 3), (.ifCond .ne 7, 3), (.iconst 2, 1), (.goto 4, 3)]
theorem L_X8_bestFloor_13 : CdAt m_X8_bestFloor.2.1 13 B_X8_bestFloor_13 := at_of (by decide +kernel)
def B_X8_bestFloor_29 : List (Instr × Nat) := [(.iconst 0, 1)]
theorem L_X8_bestFloor_29 : CdAt m_X8_bestFloor.2.1 29 B_X8_bestFloor_29 := at_of (by decide +kernel)
def B_X8_bestFloor_30 : List (Instr × Nat) := [(.invokevirtual 89, 3), (.ifCond .ne 5, 3), (.iconst 0, 1), (.ireturn, 1)]
theorem L_X8_bestFloor_30 : CdAt m_X8_bestFloor.2.1 30 B_X8_bestFloor_30 := at_of (by decide +kernel)
def B_X8_bestFloor_38 : List (Instr × Nat) := [(.iconst (-1), 1), (.istore 6, 2), (.iconst (-1), 1), (.istore 7, 2), (.iconst 0, 1), (.istore 8, 2)]
theorem L_X8_bestFloor_38 : CdAt m_X8_bestFloor.2.1 38 B_X8_bestFloor_38 := at_of (by decide +kernel)
def B_X8_bestFloor_47 : List (Instr × Nat) := [(.iload 8, 2), (.aload_n 0, 1), (.getfield 7, 3), (.iconst 0, 1), (.iaload, 1), (.if_icmp .ge 70, 3), (.aload_n 0, 1), (.iload_n 1, 1), (.iload_n 2, 1), (.iload 8, 2), (.iload_n 3, 1), (.iload 4, 2), (.iload 5, 2), (.invokevirtual 136, 3), (.ifCond .ne 13, 3), (.aload_n 0, 1), (.iload_n 1, 1), (.iload 8, 2), (.invokevirtual 50, 3), (.goto 4, 3)]
theorem L_X8_bestFloor_47 : CdAt m_X8_bestFloor.2.1 47 B_X8_bestFloor_47 := at_of (by decide +kernel)
def B_X8_bestFloor_84 : List (Instr × Nat) := [(.iconst (-1), 1)]
theorem L_X8_bestFloor_84 : CdAt m_X8_bestFloor.2.1 84 B_X8_bestFloor_84 := at_of (by decide +kernel)
def B_X8_bestFloor_85 : List (Instr × Nat) := [(.istore 9, 2), (.iload 9, 2), (.iload 7, 2), (.if_icmp .le 8, 3), (.iload 8, 2), (.goto 5, 3)]
theorem L_X8_bestFloor_85 : CdAt m_X8_bestFloor.2.1 85 B_X8_bestFloor_85 := at_of (by decide +kernel)
def B_X8_bestFloor_99 : List (Instr × Nat) := [(.iload 6, 2)]
theorem L_X8_bestFloor_99 : CdAt m_X8_bestFloor.2.1 99 B_X8_bestFloor_99 := at_of (by decide +kernel)
def B_X8_bestFloor_101 : List (Instr × Nat) := [(.istore 6, 2), (.iload 9, 2), (.iload 7, 2), (.if_icmp .le 8, 3), (.iload 9, 2), (.goto 5, 3)]
theorem L_X8_bestFloor_101 : CdAt m_X8_bestFloor.2.1 101 B_X8_bestFloor_101 := at_of (by decide +kernel)
def B_X8_bestFloor_115 : List (Instr × Nat) := [(.iload 7, 2)]
theorem L_X8_bestFloor_115 : CdAt m_X8_bestFloor.2.1 115 B_X8_bestFloor_115 := at_of (by decide +kernel)
def B_X8_bestFloor_117 : List (Instr × Nat) := [(.istore 7, 2), (.iinc 8 1, 3), (.goto (-75), 3)]
theorem L_X8_bestFloor_117 : CdAt m_X8_bestFloor.2.1 117 B_X8_bestFloor_117 := at_of (by decide +kernel)
def B_X8_bestFloor_125 : List (Instr × Nat) := [(.iload 6, 2), (.ireturn, 1)]
theorem L_X8_bestFloor_125 : CdAt m_X8_bestFloor.2.1 125 B_X8_bestFloor_125 := at_of (by decide +kernel)
def B_X8_emptyIn_0 : List (Instr × Nat) := [(.aload_n 0, 1), (.aload_n 0, 1), (.iload_n 1, 1), (.invokevirtual 127, 3), (.ifCond .eq 7, 3), (.iconst 0, 1), (.goto 4, 3)]
theorem L_X8_emptyIn_0 : CdAt m_X8_emptyIn.2.1 0 B_X8_emptyIn_0 := at_of (by decide +kernel)
def B_X8_emptyIn_13 : List (Instr × Nat) := [(.iconst 1, 1)]
theorem L_X8_emptyIn_13 : CdAt m_X8_emptyIn.2.1 13 B_X8_emptyIn_13 := at_of (by decide +kernel)
def B_X8_emptyIn_14 : List (Instr × Nat) := [(.invokevirtual 89, 3), (.ifCond .ne 5, 3), (.iconst 0, 1), (.ireturn, 1)]
theorem L_X8_emptyIn_14 : CdAt m_X8_emptyIn.2.1 14 B_X8_emptyIn_14 := at_of (by decide +kernel)
def B_X8_emptyIn_22 : List (Instr × Nat) := [(.aload_n 0, 1), (.iconst 0, 1), (.bipush 17, 2), (.invokevirtual 83, 3), (.iconst 0, 1), (.istore_n 2, 1)]
theorem L_X8_emptyIn_22 : CdAt m_X8_emptyIn.2.1 22 B_X8_emptyIn_22 := at_of (by decide +kernel)
def B_X8_emptyIn_31 : List (Instr × Nat) := [(.iload_n 2, 1), (.bipush 100, 2), (.if_icmp .ge 23, 3), (.aload_n 0, 1), (.iload_n 1, 1), (.iconst 2, 1), (.invokevirtual 57, 3), (.ifCond .le 14, 3), (.aload_n 0, 1), (.invokevirtual 76, 3), (.pop, 1), (.iinc 2 1, 3), (.goto (-23), 3)]
theorem L_X8_emptyIn_31 : CdAt m_X8_emptyIn.2.1 31 B_X8_emptyIn_31 := at_of (by decide +kernel)
def B_X8_emptyIn_57 : List (Instr × Nat) := [(.aload_n 0, 1), (.iload_n 1, 1), (.iconst 2, 1), (.invokevirtual 57, 3), (.istore_n 3, 1), (.aload_n 0, 1), (.bipush 17, 2), (.iconst 0, 1), (.invokevirtual 83, 3), (.iload_n 3, 1), (.ifCond .le 7, 3), (.iconst (-1), 1), (.goto 4, 3)]
theorem L_X8_emptyIn_57 : CdAt m_X8_emptyIn.2.1 57 B_X8_emptyIn_57 := at_of (by decide +kernel)
def B_X8_emptyIn_79 : List (Instr × Nat) := [(.iload_n 2, 1)]
theorem L_X8_emptyIn_79 : CdAt m_X8_emptyIn.2.1 79 B_X8_emptyIn_79 := at_of (by decide +kernel)
def B_X8_emptyIn_80 : List (Instr × Nat) := [(.ireturn, 1)]
theorem L_X8_emptyIn_80 : CdAt m_X8_emptyIn.2.1 80 B_X8_emptyIn_80 := at_of (by decide +kernel)
def B_X8_held_0 : List (Instr × Nat) := [(.aload_n 0, 1), (.iconst 0, 1), (.putfield 25, 3), (.aload_n 0, 1), (.iconst 0, 1), (.bipush 17, 2), (.invokevirtual 83, 3), (.aload_n 0, 1), (.invokevirtual 76, 3), (.istore_n 1, 1), (.aload_n 0, 1), (.bipush 17, 2), (.iconst 0, 1), (.invokevirtual 83, 3), (.iload_n 1, 1), (.ireturn, 1)]
theorem L_X8_held_0 : CdAt m_X8_held.2.1 0 B_X8_held_0 := at_of (by decide +kernel)
def B_X8_isCommand_0 : List (Instr × Nat) := [(.iload_n 1, 1), (.sipush 10000, 3), (.idiv, 1), (.istore_n 2, 1), (.iload_n 1, 1), (.sipush 1000, 3), (.idiv, 1), (.bipush 10, 2), (.irem, 1), (.istore_n 3, 1), (.iload_n 1, 1), (.bipush 100, 2), (.idiv, 1), (.bipush 10, 2), (.irem, 1), (.istore 4, 2), (.iload_n 1, 1), (.bipush 100, 2), (.irem, 1), (.istore 5, 2), (.iload_n 2, 1), (.tableswitch 355 1 9 #[49, 87, 135, 163, 195, 227, 264, 294, 328], 49)]
theorem L_X8_isCommand_0 : CdAt m_X8_isCommand.2.1 0 B_X8_isCommand_0 := at_of (by decide +kernel)
def B_X8_isCommand_80 : List (Instr × Nat) := [(.iload 5, 2), (.ifCond .ne 34, 3), (.aload_n 0, 1), (.iload_n 3, 1), (.invokevirtual 127, 3), (.ifCond .eq 26, 3), (.aload_n 0, 1), (.iload 4, 2), (.invokevirtual 130, 3), (.ifCond .eq 17, 3), (.aload_n 0, 1), (.iload_n 3, 1), (.iload 4, 2), (.invokevirtual 215, 3), (.ifCond .ne 7, 3), (.iconst 1, 1), (.goto 4, 3)]
theorem L_X8_isCommand_80 : CdAt m_X8_isCommand.2.1 80 B_X8_isCommand_80 := at_of (by decide +kernel)
def B_X8_isCommand_116 : List (Instr × Nat) := [(.iconst 0, 1)]
theorem L_X8_isCommand_116 : CdAt m_X8_isCommand.2.1 116 B_X8_isCommand_116 := at_of (by decide +kernel)
def B_X8_isCommand_117 : List (Instr × Nat) := [(.ireturn, 1)]
theorem L_X8_isCommand_117 : CdAt m_X8_isCommand.2.1 117 B_X8_isCommand_117 := at_of (by decide +kernel)
def B_X8_isCommand_118 : List (Instr × Nat) := [(.iload 5, 2), (.ifCond .ne 44, 3), (.aload_n 0, 1), (.iload_n 3, 1), (.invokevirtual 127, 3), (.ifCond .eq 36, 3), (.aload_n 0, 1), (.iload 4, 2), (.invokevirtual 130, 3), (.ifCond .eq 27, 3), (.aload_n 0, 1), (.iload_n 3, 1), (.iload 4, 2), (.invokevirtual 53, 3), (.ifCond .eq 17, 3), (.aload_n 0, 1), (.iload_n 3, 1), (.iload 4, 2), (.invokevirtual 169, 3), (.ifCond .lt 7, 3), (.iconst 1, 1), (.goto 4, 3)]
theorem L_X8_isCommand_118 : CdAt m_X8_isCommand.2.1 118 B_X8_isCommand_118 := at_of (by decide +kernel)
def B_X8_isCommand_164 : List (Instr × Nat) := [(.iconst 0, 1)]
theorem L_X8_isCommand_164 : CdAt m_X8_isCommand.2.1 164 B_X8_isCommand_164 := at_of (by decide +kernel)
def B_X8_isCommand_165 : List (Instr × Nat) := [(.ireturn, 1)]
theorem L_X8_isCommand_165 : CdAt m_X8_isCommand.2.1 165 B_X8_isCommand_165 := at_of (by decide +kernel)
def B_X8_isCommand_166 : List (Instr × Nat) := [(.iload_n 1, 1), (.sipush 30001, 3), (.sipush 30009, 3), (.invokestatic 29, 3), (.ifCond .eq 16, 3), (.aload_n 0, 1), (.iload 5, 2), (.invokevirtual 175, 3), (.ifCond .lt 7, 3), (.iconst 1, 1), (.goto 4, 3)]
theorem L_X8_isCommand_166 : CdAt m_X8_isCommand.2.1 166 B_X8_isCommand_166 := at_of (by decide +kernel)
def B_X8_isCommand_192 : List (Instr × Nat) := [(.iconst 0, 1)]
theorem L_X8_isCommand_192 : CdAt m_X8_isCommand.2.1 192 B_X8_isCommand_192 := at_of (by decide +kernel)
def B_X8_isCommand_193 : List (Instr × Nat) := [(.ireturn, 1)]
theorem L_X8_isCommand_193 : CdAt m_X8_isCommand.2.1 193 B_X8_isCommand_193 := at_of (by decide +kernel)
def B_X8_isCommand_194 : List (Instr × Nat) := [(.iload 4, 2), (.ifCond .ne 28, 3), (.iload 5, 2), (.ifCond .ne 23, 3), (.aload_n 0, 1), (.iload_n 3, 1), (.invokevirtual 140, 3), (.ifCond .eq 15, 3), (.aload_n 0, 1), (.iload_n 3, 1), (.invokevirtual 163, 3), (.ifCond .le 7, 3), (.iconst 1, 1), (.goto 4, 3)]
theorem L_X8_isCommand_194 : CdAt m_X8_isCommand.2.1 194 B_X8_isCommand_194 := at_of (by decide +kernel)
def B_X8_isCommand_224 : List (Instr × Nat) := [(.iconst 0, 1)]
theorem L_X8_isCommand_224 : CdAt m_X8_isCommand.2.1 224 B_X8_isCommand_224 := at_of (by decide +kernel)
def B_X8_isCommand_225 : List (Instr × Nat) := [(.ireturn, 1)]
theorem L_X8_isCommand_225 : CdAt m_X8_isCommand.2.1 225 B_X8_isCommand_225 := at_of (by decide +kernel)
def B_X8_isCommand_226 : List (Instr × Nat) := [(.iload 4, 2), (.ifCond .ne 28, 3), (.iload 5, 2), (.ifCond .ne 23, 3), (.aload_n 0, 1), (.iload_n 3, 1), (.invokevirtual 130, 3), (.ifCond .eq 15, 3), (.aload_n 0, 1), (.iload_n 3, 1), (.invokevirtual 172, 3), (.ifCond .lt 7, 3), (.iconst 1, 1), (.goto 4, 3)]
theorem L_X8_isCommand_226 : CdAt m_X8_isCommand.2.1 226 B_X8_isCommand_226 := at_of (by decide +kernel)
def B_X8_isCommand_256 : List (Instr × Nat) := [(.iconst 0, 1)]
theorem L_X8_isCommand_256 : CdAt m_X8_isCommand.2.1 256 B_X8_isCommand_256 := at_of (by decide +kernel)
def B_X8_isCommand_257 : List (Instr × Nat) := [(.ireturn, 1)]
theorem L_X8_isCommand_257 : CdAt m_X8_isCommand.2.1 257 B_X8_isCommand_257 := at_of (by decide +kernel)
def B_X8_isCommand_258 : List (Instr × Nat) := [(.iload 4, 2), (.ifCond .ne 33, 3), (.iload 5, 2), (.bipush 10, 2), (.if_icmp .ge 26, 3), (.aload_n 0, 1), (.iload_n 3, 1), (.invokevirtual 127, 3), (.ifCond .eq 18, 3), (.aload_n 0, 1), (.iload_n 3, 1), (.iconst 0, 1), (.invokevirtual 57, 3), (.iload 5, 2), (.if_icmp .lt 7, 3), (.iconst 1, 1), (.goto 4, 3)]
theorem L_X8_isCommand_258 : CdAt m_X8_isCommand.2.1 258 B_X8_isCommand_258 := at_of (by decide +kernel)
def B_X8_isCommand_293 : List (Instr × Nat) := [(.iconst 0, 1)]
theorem L_X8_isCommand_293 : CdAt m_X8_isCommand.2.1 293 B_X8_isCommand_293 := at_of (by decide +kernel)
def B_X8_isCommand_294 : List (Instr × Nat) := [(.ireturn, 1)]
theorem L_X8_isCommand_294 : CdAt m_X8_isCommand.2.1 294 B_X8_isCommand_294 := at_of (by decide +kernel)
def B_X8_isCommand_295 : List (Instr × Nat) := [(.iload 4, 2), (.ifCond .ne 26, 3), (.aload_n 0, 1), (.iload_n 3, 1), (.invokevirtual 127, 3), (.ifCond .eq 18, 3), (.aload_n 0, 1), (.iload_n 3, 1), (.iconst 2, 1), (.invokevirtual 57, 3), (.iload 5, 2), (.if_icmp .lt 7, 3), (.iconst 1, 1), (.goto 4, 3)]
theorem L_X8_isCommand_295 : CdAt m_X8_isCommand.2.1 295 B_X8_isCommand_295 := at_of (by decide +kernel)
def B_X8_isCommand_323 : List (Instr × Nat) := [(.iconst 0, 1)]
theorem L_X8_isCommand_323 : CdAt m_X8_isCommand.2.1 323 B_X8_isCommand_323 := at_of (by decide +kernel)
def B_X8_isCommand_324 : List (Instr × Nat) := [(.ireturn, 1)]
theorem L_X8_isCommand_324 : CdAt m_X8_isCommand.2.1 324 B_X8_isCommand_324 := at_of (by decide +kernel)
def B_X8_isCommand_325 : List (Instr × Nat) := [(.iload 4, 2), (.ifCond .ne 30, 3), (.aload_n 0, 1), (.iload_n 3, 1), (.invokevirtual 130, 3), (.ifCond .eq 22, 3), (.aload_n 0, 1), (.iload_n 3, 1), (.bipush 8, 2), (.invokevirtual 40, 3), (.invokestatic 60, 3), (.iload 5, 2), (.if_icmp .lt 7, 3), (.iconst 1, 1), (.goto 4, 3)]
theorem L_X8_isCommand_325 : CdAt m_X8_isCommand.2.1 325 B_X8_isCommand_325 := at_of (by decide +kernel)
def B_X8_isCommand_357 : List (Instr × Nat) := [(.iconst 0, 1)]
theorem L_X8_isCommand_357 : CdAt m_X8_isCommand.2.1 357 B_X8_isCommand_357 := at_of (by decide +kernel)
def B_X8_isCommand_358 : List (Instr × Nat) := [(.ireturn, 1)]
theorem L_X8_isCommand_358 : CdAt m_X8_isCommand.2.1 358 B_X8_isCommand_358 := at_of (by decide +kernel)
def B_X8_isCommand_359 : List (Instr × Nat) := [(.iload_n 3, 1), (.ifCond .ne 24, 3), (.iload 4, 2), (.ifCond .ne 19, 3), (.aload_n 0, 1), (.getfield 7, 3), (.bipush 7, 2), (.iaload, 1), (.iload 5, 2), (.if_icmp .lt 7, 3), (.iconst 1, 1), (.goto 4, 3)]
theorem L_X8_isCommand_359 : CdAt m_X8_isCommand.2.1 359 B_X8_isCommand_359 := at_of (by decide +kernel)
def B_X8_isCommand_384 : List (Instr × Nat) := [(.iconst 0, 1)]
theorem L_X8_isCommand_384 : CdAt m_X8_isCommand.2.1 384 B_X8_isCommand_384 := at_of (by decide +kernel)
def B_X8_isCommand_385 : List (Instr × Nat) := [(.ireturn, 1)]
theorem L_X8_isCommand_385 : CdAt m_X8_isCommand.2.1 385 B_X8_isCommand_385 := at_of (by decide +kernel)
def B_X8_isCommand_386 : List (Instr × Nat) := [(.iconst 0, 1), (.ireturn, 1)]
theorem L_X8_isCommand_386 : CdAt m_X8_isCommand.2.1 386 B_X8_isCommand_386 := at_of (by decide +kernel)
def B_X8_size_0 : List (Instr × Nat) := [(.iload_n 0, 1), (.iconst 1, 1), (.if_icmp .ne 9, 3), (.ldc2_w 218, 3), (.goto 17, 3)]
theorem L_X8_size_0 : CdAt m_X8_size.2.1 0 B_X8_size_0 := at_of (by decide +kernel)
def B_X8_size_11 : List (Instr × Nat) := [(.iload_n 0, 1), (.iconst 2, 1), (.if_icmp .ne 9, 3), (.ldc2_w 220, 3), (.goto 6, 3)]
theorem L_X8_size_11 : CdAt m_X8_size.2.1 11 B_X8_size_11 := at_of (by decide +kernel)
def B_X8_size_22 : List (Instr × Nat) := [(.ldc2_w 222, 3)]
theorem L_X8_size_22 : CdAt m_X8_size.2.1 22 B_X8_size_22 := at_of (by decide +kernel)
def B_X8_size_25 : List (Instr × Nat) := [(.lreturn, 1)]
theorem L_X8_size_25 : CdAt m_X8_size.2.1 25 B_X8_size_25 := at_of (by decide +kernel)
def B_X8_runScript_0 : List (Instr × Nat) := [(.aload_n 0, 1), (.iload_n 1, 1), (.iconst 1, 1), (.iconst 3, 1), (.invokestatic 29, 3), (.ifCond .eq 22, 3), (.lload_n 2, 1), (.lconst 0, 1), (.lcmp, 1), (.ifCond .lt 16, 3), (.lload_n 2, 1), (.iload_n 1, 1), (.invokestatic 224, 3), (.lcmp, 1), (.ifCond .ge 7, 3), (.iconst 0, 1), (.goto 4, 3)]
theorem L_X8_runScript_0 : CdAt m_X8_runScript.2.1 0 B_X8_runScript_0 := at_of (by decide +kernel)
def B_X8_runScript_29 : List (Instr × Nat) := [(.iconst 1, 1)]
theorem L_X8_runScript_29 : CdAt m_X8_runScript.2.1 29 B_X8_runScript_29 := at_of (by decide +kernel)
def B_X8_runScript_30 : List (Instr × Nat) := [(.invokevirtual 89, 3), (.ifCond .ne 5, 3), (.iconst 0, 1), (.ireturn, 1)]
theorem L_X8_runScript_30 : CdAt m_X8_runScript.2.1 30 B_X8_runScript_30 := at_of (by decide +kernel)
def B_X8_runScript_38 : List (Instr × Nat) := [(.aload_n 0, 1), (.iconst 0, 1), (.bipush 17, 2), (.invokevirtual 83, 3), (.iconst (-1), 1), (.istore 4, 2), (.lload_n 2, 1), (.lstore 5, 2), (.iconst 0, 1), (.istore 7, 2)]
theorem L_X8_runScript_38 : CdAt m_X8_runScript.2.1 38 B_X8_runScript_38 := at_of (by decide +kernel)
def B_X8_runScript_54 : List (Instr × Nat) := [(.iload 7, 2), (.iload_n 1, 1), (.if_icmp .ge 66, 3), (.iload 4, 2), (.iconst (-1), 1), (.if_icmp .ne 60, 3), (.iload 7, 2), (.iload_n 1, 1), (.iconst 1, 1), (.isub, 1), (.if_icmp .ne 7, 3), (.lconst 1, 1), (.goto 12, 3)]
theorem L_X8_runScript_54 : CdAt m_X8_runScript.2.1 54 B_X8_runScript_54 := at_of (by decide +kernel)
def B_X8_runScript_78 : List (Instr × Nat) := [(.iload_n 1, 1), (.iconst 1, 1), (.isub, 1), (.iload 7, 2), (.isub, 1), (.invokestatic 224, 3)]
theorem L_X8_runScript_78 : CdAt m_X8_runScript.2.1 78 B_X8_runScript_78 := at_of (by decide +kernel)
def B_X8_runScript_87 : List (Instr × Nat) := [(.lstore 8, 2), (.aload_n 0, 1), (.lload 5, 2), (.lload 8, 2), (.ldiv, 1), (.l2i, 1), (.invokevirtual 228, 3), (.ifCond .eq 7, 3), (.iconst (-1), 1), (.goto 5, 3)]
theorem L_X8_runScript_87 : CdAt m_X8_runScript.2.1 87 B_X8_runScript_87 := at_of (by decide +kernel)
def B_X8_runScript_106 : List (Instr × Nat) := [(.iload 7, 2)]
theorem L_X8_runScript_106 : CdAt m_X8_runScript.2.1 106 B_X8_runScript_106 := at_of (by decide +kernel)
def B_X8_runScript_108 : List (Instr × Nat) := [(.istore 4, 2), (.lload 5, 2), (.lload 8, 2), (.lrem, 1), (.lstore 5, 2), (.iinc 7 1, 3), (.goto (-66), 3)]
theorem L_X8_runScript_108 : CdAt m_X8_runScript.2.1 108 B_X8_runScript_108 := at_of (by decide +kernel)
def B_X8_runScript_123 : List (Instr × Nat) := [(.aload_n 0, 1), (.bipush 17, 2), (.iconst 0, 1), (.invokevirtual 83, 3), (.iload 4, 2), (.ireturn, 1)]
theorem L_X8_runScript_123 : CdAt m_X8_runScript.2.1 123 B_X8_runScript_123 := at_of (by decide +kernel)
def B_X8_turns_0 : List (Instr × Nat) := [(.iload_n 1, 1), (.ifCond .ne 51, 3), (.aload_n 0, 1), (.getfield 7, 3), (.iconst 0, 1), (.iaload, 1), (.iconst 4, 1), (.if_icmp .ge 41, 3), (.aload_n 0, 1), (.iconst 1, 1), (.iload_n 2, 1), (.bipush 9, 2), (.irem, 1), (.iadd, 1), (.iload_n 2, 1), (.bipush 16, 2), (.idiv, 1), (.iconst 5, 1), (.irem, 1), (.iload_n 2, 1), (.sipush 128, 3), (.idiv, 1), (.bipush 61, 2), (.irem, 1), (.iconst 1, 1), (.iload_n 2, 1), (.sipush 8192, 3), (.idiv, 1), (.bipush 30, 2), (.irem, 1), (.iadd, 1), (.invokevirtual 149, 3), (.pop, 1), (.goto 152, 3)]
theorem L_X8_turns_0 : CdAt m_X8_turns.2.1 0 B_X8_turns_0 := at_of (by decide +kernel)
def B_X8_turns_52 : List (Instr × Nat) := [(.iload_n 1, 1), (.iconst 1, 1), (.if_icmp .ne 33, 3), (.aload_n 0, 1), (.getfield 7, 3), (.iconst 1, 1), (.iaload, 1), (.iconst 5, 1), (.if_icmp .ge 23, 3), (.aload_n 0, 1), (.iload_n 2, 1), (.bipush 16, 2), (.irem, 1), (.iconst 1, 1), (.iload_n 2, 1), (.bipush 16, 2), (.idiv, 1), (.iconst 5, 1), (.irem, 1), (.iadd, 1), (.invokevirtual 153, 3), (.pop, 1), (.goto 117, 3)]
theorem L_X8_turns_52 : CdAt m_X8_turns.2.1 52 B_X8_turns_52 := at_of (by decide +kernel)
def B_X8_turns_87 : List (Instr × Nat) := [(.iload_n 1, 1), (.iconst 1, 1), (.if_icmp .le 90, 3), (.iload_n 1, 1), (.bipush 6, 2), (.if_icmp .ge 84, 3), (.iload_n 2, 1), (.bipush 32, 2), (.idiv, 1), (.iconst 4, 1), (.irem, 1), (.istore_n 3, 1), (.iload_n 2, 1), (.sipush 128, 3), (.idiv, 1), (.iconst 5, 1), (.irem, 1), (.istore 4, 2), (.aload_n 0, 1), (.iload_n 3, 1), (.invokevirtual 121, 3), (.ifCond .eq 57, 3), (.aload_n 0, 1), (.iload 4, 2), (.invokevirtual 124, 3), (.ifCond .eq 48, 3), (.aload_n 0, 1), (.getfield 7, 3), (.iconst 2, 1), (.iaload, 1), (.bipush 10, 2), (.if_icmp .ge 37, 3), (.aload_n 0, 1), (.iload_n 2, 1), (.iconst 4, 1), (.irem, 1), (.iconst 1, 1), (.iload_n 2, 1), (.iconst 4, 1), (.idiv, 1), (.iconst 5, 1), (.irem, 1), (.iadd, 1), (.iload_n 3, 1), (.iload 4, 2), (.iload_n 2, 1), (.sipush 1024, 3), (.idiv, 1), (.bipush 6, 2), (.irem, 1), (.iload_n 2, 1), (.sipush 8192, 3), (.idiv, 1), (.bipush 6, 2), (.irem, 1), (.invokevirtual 212, 3), (.pop, 1)]
theorem L_X8_turns_87 : CdAt m_X8_turns.2.1 87 B_X8_turns_87 := at_of (by decide +kernel)
def B_X8_turns_176 : List (Instr × Nat) := [(.goto 25, 3)]
theorem L_X8_turns_176 : CdAt m_X8_turns.2.1 176 B_X8_turns_176 := at_of (by decide +kernel)
def B_X8_turns_179 : List (Instr × Nat) := [(.iload_n 1, 1), (.bipush 6, 2), (.if_icmp .ne 19, 3), (.aload_n 0, 1), (.getfield 7, 3), (.iconst 3, 1), (.iaload, 1), (.bipush 12, 2), (.if_icmp .ge 8, 3), (.aload_n 0, 1), (.invokevirtual 160, 3), (.pop, 1)]
theorem L_X8_turns_179 : CdAt m_X8_turns.2.1 179 B_X8_turns_179 := at_of (by decide +kernel)
def B_X8_turns_201 : List (Instr × Nat) := [(.return_, 1)]
theorem L_X8_turns_201 : CdAt m_X8_turns.2.1 201 B_X8_turns_201 := at_of (by decide +kernel)
def B_X8_dancersTurn_0 : List (Instr × Nat) := [(.iload_n 2, 1), (.bipush 12, 2), (.irem, 1), (.istore_n 3, 1), (.iload_n 2, 1), (.bipush 16, 2), (.idiv, 1), (.bipush 10, 2), (.irem, 1), (.istore 4, 2), (.iload_n 1, 1), (.bipush 9, 2), (.if_icmp .ge 20, 3), (.aload_n 0, 1), (.iload_n 3, 1), (.invokevirtual 140, 3), (.ifCond .eq 143, 3), (.aload_n 0, 1), (.iload_n 3, 1), (.invokevirtual 163, 3), (.pop, 1), (.goto 134, 3)]
theorem L_X8_dancersTurn_0 : CdAt m_X8_dancersTurn.2.1 0 B_X8_dancersTurn_0 := at_of (by decide +kernel)
def B_X8_dancersTurn_37 : List (Instr × Nat) := [(.iload_n 1, 1), (.bipush 13, 2), (.if_icmp .ge 31, 3), (.aload_n 0, 1), (.iload_n 3, 1), (.invokevirtual 127, 3), (.ifCond .eq 120, 3), (.aload_n 0, 1), (.iload 4, 2), (.invokevirtual 130, 3), (.ifCond .eq 111, 3), (.aload_n 0, 1), (.iload_n 3, 1), (.iload 4, 2), (.invokevirtual 215, 3), (.pop, 1), (.goto 100, 3)]
theorem L_X8_dancersTurn_37 : CdAt m_X8_dancersTurn.2.1 37 B_X8_dancersTurn_37 := at_of (by decide +kernel)
def B_X8_dancersTurn_71 : List (Instr × Nat) := [(.iload_n 1, 1), (.bipush 13, 2), (.if_icmp .le 16, 3), (.aload_n 0, 1), (.iconst 1, 1), (.iload_n 2, 1), (.iconst 2, 1), (.irem, 1), (.iadd, 1), (.invokevirtual 175, 3), (.pop, 1), (.goto 81, 3)]
theorem L_X8_dancersTurn_71 : CdAt m_X8_dancersTurn.2.1 71 B_X8_dancersTurn_71 := at_of (by decide +kernel)
def B_X8_dancersTurn_90 : List (Instr × Nat) := [(.iload_n 2, 1), (.sipush 256, 3), (.idiv, 1), (.iconst 4, 1), (.irem, 1), (.ifCond .ne 41, 3), (.aload_n 0, 1), (.iload_n 3, 1), (.invokevirtual 127, 3), (.ifCond .eq 63, 3), (.aload_n 0, 1), (.iload 4, 2), (.invokevirtual 130, 3), (.ifCond .eq 54, 3), (.aload_n 0, 1), (.iload_n 3, 1), (.iload 4, 2), (.invokevirtual 53, 3), (.ifCond .eq 44, 3), (.aload_n 0, 1), (.iload_n 3, 1), (.iload 4, 2), (.invokevirtual 169, 3), (.pop, 1), (.goto 33, 3)]
theorem L_X8_dancersTurn_90 : CdAt m_X8_dancersTurn.2.1 90 B_X8_dancersTurn_90 := at_of (by decide +kernel)
def B_X8_dancersTurn_138 : List (Instr × Nat) := [(.iload_n 2, 1), (.sipush 1024, 3), (.idiv, 1), (.iconst 4, 1), (.irem, 1), (.ifCond .ne 23, 3), (.aload_n 0, 1), (.iload_n 2, 1), (.bipush 10, 2), (.irem, 1), (.invokevirtual 130, 3), (.ifCond .eq 12, 3), (.aload_n 0, 1), (.iload_n 2, 1), (.bipush 10, 2), (.irem, 1), (.invokevirtual 172, 3), (.pop, 1)]
theorem L_X8_dancersTurn_138 : CdAt m_X8_dancersTurn.2.1 138 B_X8_dancersTurn_138 := at_of (by decide +kernel)
def B_X8_dancersTurn_168 : List (Instr × Nat) := [(.return_, 1)]
theorem L_X8_dancersTurn_168 : CdAt m_X8_dancersTurn.2.1 168 B_X8_dancersTurn_168 := at_of (by decide +kernel)
def B_X8_simulate_0 : List (Instr × Nat) := [(.aload_n 0, 1), (.iload_n 3, 1), (.iconst 1, 1), (.bipush 100, 2), (.invokestatic 29, 3), (.ifCond .eq 7, 3), (.iconst 0, 1), (.goto 4, 3)]
theorem L_X8_simulate_0 : CdAt m_X8_simulate.2.1 0 B_X8_simulate_0 := at_of (by decide +kernel)
def B_X8_simulate_15 : List (Instr × Nat) := [(.iconst 1, 1)]
theorem L_X8_simulate_15 : CdAt m_X8_simulate.2.1 15 B_X8_simulate_15 := at_of (by decide +kernel)
def B_X8_simulate_16 : List (Instr × Nat) := [(.invokevirtual 89, 3), (.ifCond .ne 5, 3), (.iconst 0, 1), (.ireturn, 1)]
theorem L_X8_simulate_16 : CdAt m_X8_simulate.2.1 16 B_X8_simulate_16 := at_of (by decide +kernel)
def B_X8_simulate_24 : List (Instr × Nat) := [(.aload_n 0, 1), (.iconst 0, 1), (.bipush 17, 2), (.invokevirtual 83, 3), (.aload_n 0, 1), (.getfield 7, 3), (.bipush 6, 2), (.iaload, 1), (.istore 4, 2), (.lload_n 1, 1), (.lstore 5, 2), (.iconst 0, 1), (.istore 7, 2)]
theorem L_X8_simulate_24 : CdAt m_X8_simulate.2.1 24 B_X8_simulate_24 := at_of (by decide +kernel)
def B_X8_simulate_46 : List (Instr × Nat) := [(.iload 7, 2), (.iload_n 3, 1), (.if_icmp .ge 70, 3), (.lload 5, 2), (.ldc2_w 231, 3), (.lmul, 1), (.ldc2_w 233, 3), (.ladd, 1), (.lstore 5, 2), (.lload 5, 2), (.bipush 33, 2), (.lushr, 1), (.l2i, 1), (.istore 8, 2), (.iload 8, 2), (.bipush 16, 2), (.irem, 1), (.bipush 7, 2), (.if_icmp .ge 20, 3), (.aload_n 0, 1), (.iload 8, 2), (.bipush 16, 2), (.irem, 1), (.iload 8, 2), (.bipush 16, 2), (.idiv, 1), (.invokevirtual 235, 3), (.goto 17, 3)]
theorem L_X8_simulate_46 : CdAt m_X8_simulate.2.1 46 B_X8_simulate_46 := at_of (by decide +kernel)
def B_X8_simulate_99 : List (Instr × Nat) := [(.aload_n 0, 1), (.iload 8, 2), (.bipush 16, 2), (.irem, 1), (.iload 8, 2), (.bipush 16, 2), (.idiv, 1), (.invokevirtual 238, 3)]
theorem L_X8_simulate_99 : CdAt m_X8_simulate.2.1 99 B_X8_simulate_99 := at_of (by decide +kernel)
def B_X8_simulate_113 : List (Instr × Nat) := [(.iinc 7 1, 3), (.goto (-70), 3)]
theorem L_X8_simulate_113 : CdAt m_X8_simulate.2.1 113 B_X8_simulate_113 := at_of (by decide +kernel)
def B_X8_simulate_119 : List (Instr × Nat) := [(.sipush 10000, 3), (.aload_n 0, 1), (.getfield 7, 3), (.bipush 6, 2), (.iaload, 1), (.iload 4, 2), (.isub, 1), (.imul, 1), (.bipush 100, 2), (.aload_n 0, 1), (.getfield 7, 3), (.iconst 2, 1), (.iaload, 1), (.imul, 1), (.iadd, 1), (.aload_n 0, 1), (.invokevirtual 184, 3), (.bipush 100, 2), (.irem, 1), (.iadd, 1), (.istore 7, 2), (.aload_n 0, 1), (.bipush 17, 2), (.iconst 0, 1), (.invokevirtual 83, 3), (.iload 7, 2), (.ireturn, 1)]
theorem L_X8_simulate_119 : CdAt m_X8_simulate.2.1 119 B_X8_simulate_119 := at_of (by decide +kernel)
def B_X8_save_0 : List (Instr × Nat) := [(.aload_n 0, 1), (.iload_n 1, 1), (.iconst 0, 1), (.iconst 1, 1), (.invokestatic 29, 3), (.ifCond .eq 7, 3), (.iconst 0, 1), (.goto 4, 3)]
theorem L_X8_save_0 : CdAt m_X8_save.2.1 0 B_X8_save_0 := at_of (by decide +kernel)
def B_X8_save_14 : List (Instr × Nat) := [(.iconst 1, 1)]
theorem L_X8_save_14 : CdAt m_X8_save.2.1 14 B_X8_save_14 := at_of (by decide +kernel)
def B_X8_save_15 : List (Instr × Nat) := [(.invokevirtual 89, 3), (.ifCond .ne 5, 3), (.iconst 0, 1), (.ireturn, 1)]
theorem L_X8_save_15 : CdAt m_X8_save.2.1 15 B_X8_save_15 := at_of (by decide +kernel)
def B_X8_save_23 : List (Instr × Nat) := [(.aload_n 0, 1), (.iconst 0, 1), (.bipush 15, 2), (.iload_n 1, 1), (.iadd, 1), (.invokevirtual 83, 3), (.aload_n 0, 1), (.getfield 13, 3), (.iload_n 1, 1), (.iconst 1, 1), (.iastore, 1), (.aload_n 0, 1), (.getfield 7, 3), (.iconst 4, 1), (.iaload, 1), (.ireturn, 1)]
theorem L_X8_save_23 : CdAt m_X8_save.2.1 23 B_X8_save_23 := at_of (by decide +kernel)
def B_X8_restore_0 : List (Instr × Nat) := [(.iload_n 1, 1), (.iconst 0, 1), (.iconst 1, 1), (.invokestatic 29, 3), (.istore_n 2, 1), (.aload_n 0, 1), (.iload_n 2, 1), (.ifCond .ne 7, 3), (.iconst 1, 1), (.goto 17, 3)]
theorem L_X8_restore_0 : CdAt m_X8_restore.2.1 0 B_X8_restore_0 := at_of (by decide +kernel)
def B_X8_restore_16 : List (Instr × Nat) := [(.aload_n 0, 1), (.getfield 13, 3), (.iload_n 1, 1), (.iaload, 1), (.ifCond .ne 7, 3), (.iconst 2, 1), (.goto 4, 3)]
theorem L_X8_restore_16 : CdAt m_X8_restore.2.1 16 B_X8_restore_16 := at_of (by decide +kernel)
def B_X8_restore_29 : List (Instr × Nat) := [(.iconst 0, 1)]
theorem L_X8_restore_29 : CdAt m_X8_restore.2.1 29 B_X8_restore_29 := at_of (by decide +kernel)
def B_X8_restore_30 : List (Instr × Nat) := [(.invokevirtual 89, 3), (.ifCond .ne 5, 3), (.iconst 0, 1), (.ireturn, 1)]
theorem L_X8_restore_30 : CdAt m_X8_restore.2.1 30 B_X8_restore_30 := at_of (by decide +kernel)
def B_X8_restore_38 : List (Instr × Nat) := [(.aload_n 0, 1), (.bipush 15, 2), (.iload_n 1, 1), (.iadd, 1), (.iconst 0, 1), (.invokevirtual 83, 3), (.aload_n 0, 1), (.iconst 0, 1), (.putfield 80, 3), (.aload_n 0, 1), (.getfield 7, 3), (.iconst 4, 1), (.iaload, 1), (.ireturn, 1)]
theorem L_X8_restore_38 : CdAt m_X8_restore.2.1 38 B_X8_restore_38 := at_of (by decide +kernel)
def B_J6_bitCount_0f7a4_0 : List (Instr × Nat) := [(.iload_n 0, 1), (.iload_n 0, 1), (.iconst 1, 1), (.iushr, 1), (.ldc_w 265, 3), (.iand, 1), (.isub, 1), (.istore_n 0, 1), (.iload_n 0, 1), (.ldc_w 266, 3), (.iand, 1), (.iload_n 0, 1), (.iconst 2, 1), (.iushr, 1), (.ldc_w 266, 3), (.iand, 1), (.iadd, 1), (.istore_n 0, 1), (.iload_n 0, 1), (.iload_n 0, 1), (.iconst 4, 1), (.iushr, 1), (.iadd, 1), (.ldc_w 267, 3), (.iand, 1), (.istore_n 0, 1), (.iload_n 0, 1), (.iload_n 0, 1), (.bipush 8, 2), (.iushr, 1), (.iadd, 1), (.istore_n 0, 1), (.iload_n 0, 1), (.iload_n 0, 1), (.bipush 16, 2), (.iushr, 1), (.iadd, 1), (.istore_n 0, 1), (.iload_n 0, 1), (.bipush 63, 2), (.iand, 1), (.ireturn, 1)]
theorem L_J6_bitCount_0f7a4_0 : CdAt m_J6_bitCount_0f7a4.2.1 0 B_J6_bitCount_0f7a4_0 := at_of (by decide +kernel)
def B_J9_max_7cf53_0 : List (Instr × Nat) := [(.iload_n 0, 1), (.iload_n 1, 1), (.if_icmp .lt 7, 3), (.iload_n 0, 1), (.goto 4, 3)]
theorem L_J9_max_7cf53_0 : CdAt m_J9_max_7cf53.2.1 0 B_J9_max_7cf53_0 := at_of (by decide +kernel)
def B_J9_max_7cf53_9 : List (Instr × Nat) := [(.iload_n 1, 1)]
theorem L_J9_max_7cf53_9 : CdAt m_J9_max_7cf53.2.1 9 B_J9_max_7cf53_9 := at_of (by decide +kernel)
def B_J9_max_7cf53_10 : List (Instr × Nat) := [(.ireturn, 1)]
theorem L_J9_max_7cf53_10 : CdAt m_J9_max_7cf53.2.1 10 B_J9_max_7cf53_10 := at_of (by decide +kernel)
def B_J9_min_7cf53_0 : List (Instr × Nat) := [(.iload_n 0, 1), (.iload_n 1, 1), (.if_icmp .gt 7, 3), (.iload_n 0, 1), (.goto 4, 3)]
theorem L_J9_min_7cf53_0 : CdAt m_J9_min_7cf53.2.1 0 B_J9_min_7cf53_0 := at_of (by decide +kernel)
def B_J9_min_7cf53_9 : List (Instr × Nat) := [(.iload_n 1, 1)]
theorem L_J9_min_7cf53_9 : CdAt m_J9_min_7cf53.2.1 9 B_J9_min_7cf53_9 := at_of (by decide +kernel)
def B_J9_min_7cf53_10 : List (Instr × Nat) := [(.ireturn, 1)]
theorem L_J9_min_7cf53_10 : CdAt m_J9_min_7cf53.2.1 10 B_J9_min_7cf53_10 := at_of (by decide +kernel)
def B_L_append_0 : List (Instr × Nat) := [(.aload_n 2, 1), (.iconst 0, 1), (.aload_n 0, 1), (.iload_n 1, 1), (.invokevirtual 7, 3), (.i2l, 1), (.lastore, 1), (.goto 9, 3)]
theorem L_L_append_0 : CdAt m_L_append.2.1 0 B_L_append_0 := at_of (by decide +kernel)
def B_L_append_12 : List (Instr × Nat) := [(.astore_n 3, 1), (.iconst 1, 1), (.ireturn, 1)]
theorem L_L_append_12 : CdAt m_L_append.2.1 12 B_L_append_12 := at_of (by decide +kernel)
def B_L_append_15 : List (Instr × Nat) := [(.astore_n 3, 1), (.iconst 2, 1), (.ireturn, 1)]
theorem L_L_append_15 : CdAt m_L_append.2.1 15 B_L_append_15 := at_of (by decide +kernel)
def B_L_append_18 : List (Instr × Nat) := [(.iconst 0, 1), (.ireturn, 1)]
theorem L_L_append_18 : CdAt m_L_append.2.1 18 B_L_append_18 := at_of (by decide +kernel)
def B_L_load_0 : List (Instr × Nat) := [(.aload_n 1, 1), (.iconst 0, 1), (.aload_n 0, 1), (.invokevirtual 17, 3), (.i2l, 1), (.lastore, 1), (.goto 6, 3)]
theorem L_L_load_0 : CdAt m_L_load.2.1 0 B_L_load_0 := at_of (by decide +kernel)
def B_L_load_11 : List (Instr × Nat) := [(.astore_n 2, 1), (.iconst 1, 1), (.ireturn, 1)]
theorem L_L_load_11 : CdAt m_L_load.2.1 11 B_L_load_11 := at_of (by decide +kernel)
def B_L_load_14 : List (Instr × Nat) := [(.iconst 0, 1), (.ireturn, 1)]
theorem L_L_load_14 : CdAt m_L_load.2.1 14 B_L_load_14 := at_of (by decide +kernel)
def B_L_about_0 : List (Instr × Nat) := [(.aload_n 2, 1), (.iconst 0, 1), (.aload_n 0, 1), (.iload_n 1, 1), (.invokevirtual 21, 3), (.i2l, 1), (.lastore, 1), (.goto 6, 3)]
theorem L_L_about_0 : CdAt m_L_about.2.1 0 B_L_about_0 := at_of (by decide +kernel)
def B_L_about_12 : List (Instr × Nat) := [(.astore_n 3, 1), (.iconst 1, 1), (.ireturn, 1)]
theorem L_L_about_12 : CdAt m_L_about.2.1 12 B_L_about_12 := at_of (by decide +kernel)
def B_L_about_15 : List (Instr × Nat) := [(.iconst 0, 1), (.ireturn, 1)]
theorem L_L_about_15 : CdAt m_L_about.2.1 15 B_L_about_15 := at_of (by decide +kernel)
def B_L_floorOf_0 : List (Instr × Nat) := [(.aload_n 3, 1), (.iconst 0, 1), (.aload_n 0, 1), (.iload_n 1, 1), (.iload_n 2, 1), (.invokevirtual 24, 3), (.i2l, 1), (.lastore, 1), (.goto 11, 3)]
theorem L_L_floorOf_0 : CdAt m_L_floorOf.2.1 0 B_L_floorOf_0 := at_of (by decide +kernel)
def B_L_floorOf_13 : List (Instr × Nat) := [(.astore 4, 2), (.iconst 1, 1), (.ireturn, 1)]
theorem L_L_floorOf_13 : CdAt m_L_floorOf.2.1 13 B_L_floorOf_13 := at_of (by decide +kernel)
def B_L_floorOf_17 : List (Instr × Nat) := [(.astore 4, 2), (.iconst 2, 1), (.ireturn, 1)]
theorem L_L_floorOf_17 : CdAt m_L_floorOf.2.1 17 B_L_floorOf_17 := at_of (by decide +kernel)
def B_L_floorOf_21 : List (Instr × Nat) := [(.iconst 0, 1), (.ireturn, 1)]
theorem L_L_floorOf_21 : CdAt m_L_floorOf.2.1 21 B_L_floorOf_21 := at_of (by decide +kernel)
def B_L_teacherOf_0 : List (Instr × Nat) := [(.aload_n 3, 1), (.iconst 0, 1), (.aload_n 0, 1), (.iload_n 1, 1), (.iload_n 2, 1), (.invokevirtual 30, 3), (.i2l, 1), (.lastore, 1), (.goto 11, 3)]
theorem L_L_teacherOf_0 : CdAt m_L_teacherOf.2.1 0 B_L_teacherOf_0 := at_of (by decide +kernel)
def B_L_teacherOf_13 : List (Instr × Nat) := [(.astore 4, 2), (.iconst 1, 1), (.ireturn, 1)]
theorem L_L_teacherOf_13 : CdAt m_L_teacherOf.2.1 13 B_L_teacherOf_13 := at_of (by decide +kernel)
def B_L_teacherOf_17 : List (Instr × Nat) := [(.astore 4, 2), (.iconst 2, 1), (.ireturn, 1)]
theorem L_L_teacherOf_17 : CdAt m_L_teacherOf.2.1 17 B_L_teacherOf_17 := at_of (by decide +kernel)
def B_L_teacherOf_21 : List (Instr × Nat) := [(.iconst 0, 1), (.ireturn, 1)]
theorem L_L_teacherOf_21 : CdAt m_L_teacherOf.2.1 21 B_L_teacherOf_21 := at_of (by decide +kernel)
def B_L_classOf_0 : List (Instr × Nat) := [(.aload_n 3, 1), (.iconst 0, 1), (.aload_n 0, 1), (.iload_n 1, 1), (.iload_n 2, 1), (.invokevirtual 33, 3), (.i2l, 1), (.lastore, 1), (.goto 11, 3)]
theorem L_L_classOf_0 : CdAt m_L_classOf.2.1 0 B_L_classOf_0 := at_of (by decide +kernel)
def B_L_classOf_13 : List (Instr × Nat) := [(.astore 4, 2), (.iconst 1, 1), (.ireturn, 1)]
theorem L_L_classOf_13 : CdAt m_L_classOf.2.1 13 B_L_classOf_13 := at_of (by decide +kernel)
def B_L_classOf_17 : List (Instr × Nat) := [(.astore 4, 2), (.iconst 2, 1), (.ireturn, 1)]
theorem L_L_classOf_17 : CdAt m_L_classOf.2.1 17 B_L_classOf_17 := at_of (by decide +kernel)
def B_L_classOf_21 : List (Instr × Nat) := [(.iconst 0, 1), (.ireturn, 1)]
theorem L_L_classOf_21 : CdAt m_L_classOf.2.1 21 B_L_classOf_21 := at_of (by decide +kernel)
def B_L_dancerOf_0 : List (Instr × Nat) := [(.aload_n 3, 1), (.iconst 0, 1), (.aload_n 0, 1), (.iload_n 1, 1), (.iload_n 2, 1), (.invokevirtual 36, 3), (.i2l, 1), (.lastore, 1), (.goto 11, 3)]
theorem L_L_dancerOf_0 : CdAt m_L_dancerOf.2.1 0 B_L_dancerOf_0 := at_of (by decide +kernel)
def B_L_dancerOf_13 : List (Instr × Nat) := [(.astore 4, 2), (.iconst 1, 1), (.ireturn, 1)]
theorem L_L_dancerOf_13 : CdAt m_L_dancerOf.2.1 13 B_L_dancerOf_13 := at_of (by decide +kernel)
def B_L_dancerOf_17 : List (Instr × Nat) := [(.astore 4, 2), (.iconst 2, 1), (.ireturn, 1)]
theorem L_L_dancerOf_17 : CdAt m_L_dancerOf.2.1 17 B_L_dancerOf_17 := at_of (by decide +kernel)
def B_L_dancerOf_21 : List (Instr × Nat) := [(.iconst 0, 1), (.ireturn, 1)]
theorem L_L_dancerOf_21 : CdAt m_L_dancerOf.2.1 21 B_L_dancerOf_21 := at_of (by decide +kernel)
def B_L_uses_0 : List (Instr × Nat) := [(.aload_n 2, 1), (.iconst 0, 1), (.aload_n 0, 1), (.iload_n 1, 1), (.invokevirtual 39, 3), (.i2l, 1), (.lastore, 1), (.goto 6, 3)]
theorem L_L_uses_0 : CdAt m_L_uses.2.1 0 B_L_uses_0 := at_of (by decide +kernel)
def B_L_uses_12 : List (Instr × Nat) := [(.astore_n 3, 1), (.iconst 1, 1), (.ireturn, 1)]
theorem L_L_uses_12 : CdAt m_L_uses.2.1 12 B_L_uses_12 := at_of (by decide +kernel)
def B_L_uses_15 : List (Instr × Nat) := [(.iconst 0, 1), (.ireturn, 1)]
theorem L_L_uses_15 : CdAt m_L_uses.2.1 15 B_L_uses_15 := at_of (by decide +kernel)
def B_L_setting_0 : List (Instr × Nat) := [(.aload_n 2, 1), (.iconst 0, 1), (.aload_n 0, 1), (.iload_n 1, 1), (.invokevirtual 42, 3), (.i2l, 1), (.lastore, 1), (.goto 6, 3)]
theorem L_L_setting_0 : CdAt m_L_setting.2.1 0 B_L_setting_0 := at_of (by decide +kernel)
def B_L_setting_12 : List (Instr × Nat) := [(.astore_n 3, 1), (.iconst 1, 1), (.ireturn, 1)]
theorem L_L_setting_12 : CdAt m_L_setting.2.1 12 B_L_setting_12 := at_of (by decide +kernel)
def B_L_setting_15 : List (Instr × Nat) := [(.iconst 0, 1), (.ireturn, 1)]
theorem L_L_setting_15 : CdAt m_L_setting.2.1 15 B_L_setting_15 := at_of (by decide +kernel)
def B_L_floor_0 : List (Instr × Nat) := [(.aload 5, 2), (.iconst 0, 1), (.aload_n 0, 1), (.iload_n 1, 1), (.iload_n 2, 1), (.iload_n 3, 1), (.iload 4, 2), (.invokevirtual 45, 3), (.i2l, 1), (.lastore, 1), (.goto 11, 3)]
theorem L_L_floor_0 : CdAt m_L_floor.2.1 0 B_L_floor_0 := at_of (by decide +kernel)
def B_L_floor_17 : List (Instr × Nat) := [(.astore 6, 2), (.iconst 1, 1), (.ireturn, 1)]
theorem L_L_floor_17 : CdAt m_L_floor.2.1 17 B_L_floor_17 := at_of (by decide +kernel)
def B_L_floor_21 : List (Instr × Nat) := [(.astore 6, 2), (.iconst 2, 1), (.ireturn, 1)]
theorem L_L_floor_21 : CdAt m_L_floor.2.1 21 B_L_floor_21 := at_of (by decide +kernel)
def B_L_floor_25 : List (Instr × Nat) := [(.iconst 0, 1), (.ireturn, 1)]
theorem L_L_floor_25 : CdAt m_L_floor.2.1 25 B_L_floor_25 := at_of (by decide +kernel)
def B_L_teacher_0 : List (Instr × Nat) := [(.aload_n 3, 1), (.iconst 0, 1), (.aload_n 0, 1), (.iload_n 1, 1), (.iload_n 2, 1), (.invokevirtual 49, 3), (.i2l, 1), (.lastore, 1), (.goto 11, 3)]
theorem L_L_teacher_0 : CdAt m_L_teacher.2.1 0 B_L_teacher_0 := at_of (by decide +kernel)
def B_L_teacher_13 : List (Instr × Nat) := [(.astore 4, 2), (.iconst 1, 1), (.ireturn, 1)]
theorem L_L_teacher_13 : CdAt m_L_teacher.2.1 13 B_L_teacher_13 := at_of (by decide +kernel)
def B_L_teacher_17 : List (Instr × Nat) := [(.astore 4, 2), (.iconst 2, 1), (.ireturn, 1)]
theorem L_L_teacher_17 : CdAt m_L_teacher.2.1 17 B_L_teacher_17 := at_of (by decide +kernel)
def B_L_teacher_21 : List (Instr × Nat) := [(.iconst 0, 1), (.ireturn, 1)]
theorem L_L_teacher_21 : CdAt m_L_teacher.2.1 21 B_L_teacher_21 := at_of (by decide +kernel)
def B_L_set_0 : List (Instr × Nat) := [(.aload 7, 2), (.iconst 0, 1), (.aload_n 0, 1), (.iload_n 1, 1), (.iload_n 2, 1), (.iload_n 3, 1), (.iload 4, 2), (.iload 5, 2), (.iload 6, 2), (.invokevirtual 52, 3), (.i2l, 1), (.lastore, 1), (.goto 15, 3)]
theorem L_L_set_0 : CdAt m_L_set.2.1 0 B_L_set_0 := at_of (by decide +kernel)
def B_L_set_21 : List (Instr × Nat) := [(.astore 8, 2), (.iconst 1, 1), (.ireturn, 1)]
theorem L_L_set_21 : CdAt m_L_set.2.1 21 B_L_set_21 := at_of (by decide +kernel)
def B_L_set_25 : List (Instr × Nat) := [(.astore 8, 2), (.iconst 2, 1), (.ireturn, 1)]
theorem L_L_set_25 : CdAt m_L_set.2.1 25 B_L_set_25 := at_of (by decide +kernel)
def B_L_set_29 : List (Instr × Nat) := [(.astore 8, 2), (.iconst 3, 1), (.ireturn, 1)]
theorem L_L_set_29 : CdAt m_L_set.2.1 29 B_L_set_29 := at_of (by decide +kernel)
def B_L_set_33 : List (Instr × Nat) := [(.iconst 0, 1), (.ireturn, 1)]
theorem L_L_set_33 : CdAt m_L_set.2.1 33 B_L_set_33 := at_of (by decide +kernel)
def B_L_drop_0 : List (Instr × Nat) := [(.aload_n 2, 1), (.iconst 0, 1), (.aload_n 0, 1), (.iload_n 1, 1), (.invokevirtual 56, 3), (.i2l, 1), (.lastore, 1), (.goto 6, 3)]
theorem L_L_drop_0 : CdAt m_L_drop.2.1 0 B_L_drop_0 := at_of (by decide +kernel)
def B_L_drop_12 : List (Instr × Nat) := [(.astore_n 3, 1), (.iconst 1, 1), (.ireturn, 1)]
theorem L_L_drop_12 : CdAt m_L_drop.2.1 12 B_L_drop_12 := at_of (by decide +kernel)
def B_L_drop_15 : List (Instr × Nat) := [(.iconst 0, 1), (.ireturn, 1)]
theorem L_L_drop_15 : CdAt m_L_drop.2.1 15 B_L_drop_15 := at_of (by decide +kernel)
def B_L_dancer_0 : List (Instr × Nat) := [(.aload_n 1, 1), (.iconst 0, 1), (.aload_n 0, 1), (.invokevirtual 59, 3), (.i2l, 1), (.lastore, 1), (.goto 6, 3)]
theorem L_L_dancer_0 : CdAt m_L_dancer.2.1 0 B_L_dancer_0 := at_of (by decide +kernel)
def B_L_dancer_11 : List (Instr × Nat) := [(.astore_n 2, 1), (.iconst 1, 1), (.ireturn, 1)]
theorem L_L_dancer_11 : CdAt m_L_dancer.2.1 11 B_L_dancer_11 := at_of (by decide +kernel)
def B_L_dancer_14 : List (Instr × Nat) := [(.iconst 0, 1), (.ireturn, 1)]
theorem L_L_dancer_14 : CdAt m_L_dancer.2.1 14 B_L_dancer_14 := at_of (by decide +kernel)
def B_L_pass_0 : List (Instr × Nat) := [(.aload_n 2, 1), (.iconst 0, 1), (.aload_n 0, 1), (.iload_n 1, 1), (.invokevirtual 62, 3), (.i2l, 1), (.lastore, 1), (.goto 9, 3)]
theorem L_L_pass_0 : CdAt m_L_pass.2.1 0 B_L_pass_0 := at_of (by decide +kernel)
def B_L_pass_12 : List (Instr × Nat) := [(.astore_n 3, 1), (.iconst 1, 1), (.ireturn, 1)]
theorem L_L_pass_12 : CdAt m_L_pass.2.1 12 B_L_pass_12 := at_of (by decide +kernel)
def B_L_pass_15 : List (Instr × Nat) := [(.astore_n 3, 1), (.iconst 2, 1), (.ireturn, 1)]
theorem L_L_pass_15 : CdAt m_L_pass.2.1 15 B_L_pass_15 := at_of (by decide +kernel)
def B_L_pass_18 : List (Instr × Nat) := [(.iconst 0, 1), (.ireturn, 1)]
theorem L_L_pass_18 : CdAt m_L_pass.2.1 18 B_L_pass_18 := at_of (by decide +kernel)
def B_L_enter_0 : List (Instr × Nat) := [(.aload_n 3, 1), (.iconst 0, 1), (.aload_n 0, 1), (.iload_n 1, 1), (.iload_n 2, 1), (.invokevirtual 65, 3), (.i2l, 1), (.lastore, 1), (.goto 7, 3)]
theorem L_L_enter_0 : CdAt m_L_enter.2.1 0 B_L_enter_0 := at_of (by decide +kernel)
def B_L_enter_13 : List (Instr × Nat) := [(.astore 4, 2), (.iconst 1, 1), (.ireturn, 1)]
theorem L_L_enter_13 : CdAt m_L_enter.2.1 13 B_L_enter_13 := at_of (by decide +kernel)
def B_L_enter_17 : List (Instr × Nat) := [(.iconst 0, 1), (.ireturn, 1)]
theorem L_L_enter_17 : CdAt m_L_enter.2.1 17 B_L_enter_17 := at_of (by decide +kernel)
def B_L_leave_0 : List (Instr × Nat) := [(.aload_n 3, 1), (.iconst 0, 1), (.aload_n 0, 1), (.iload_n 1, 1), (.iload_n 2, 1), (.invokevirtual 68, 3), (.i2l, 1), (.lastore, 1), (.goto 11, 3)]
theorem L_L_leave_0 : CdAt m_L_leave.2.1 0 B_L_leave_0 := at_of (by decide +kernel)
def B_L_leave_13 : List (Instr × Nat) := [(.astore 4, 2), (.iconst 1, 1), (.ireturn, 1)]
theorem L_L_leave_13 : CdAt m_L_leave.2.1 13 B_L_leave_13 := at_of (by decide +kernel)
def B_L_leave_17 : List (Instr × Nat) := [(.astore 4, 2), (.iconst 2, 1), (.ireturn, 1)]
theorem L_L_leave_17 : CdAt m_L_leave.2.1 17 B_L_leave_17 := at_of (by decide +kernel)
def B_L_leave_21 : List (Instr × Nat) := [(.iconst 0, 1), (.ireturn, 1)]
theorem L_L_leave_21 : CdAt m_L_leave.2.1 21 B_L_leave_21 := at_of (by decide +kernel)
def B_L_weeks_0 : List (Instr × Nat) := [(.aload_n 2, 1), (.iconst 0, 1), (.aload_n 0, 1), (.iload_n 1, 1), (.invokevirtual 71, 3), (.i2l, 1), (.lastore, 1), (.goto 6, 3)]
theorem L_L_weeks_0 : CdAt m_L_weeks.2.1 0 B_L_weeks_0 := at_of (by decide +kernel)
def B_L_weeks_12 : List (Instr × Nat) := [(.astore_n 3, 1), (.iconst 1, 1), (.ireturn, 1)]
theorem L_L_weeks_12 : CdAt m_L_weeks.2.1 12 B_L_weeks_12 := at_of (by decide +kernel)
def B_L_weeks_15 : List (Instr × Nat) := [(.iconst 0, 1), (.ireturn, 1)]
theorem L_L_weeks_15 : CdAt m_L_weeks.2.1 15 B_L_weeks_15 := at_of (by decide +kernel)
def B_L_tune_0 : List (Instr × Nat) := [(.aload_n 3, 1), (.iconst 0, 1), (.aload_n 0, 1), (.iload_n 1, 1), (.iload_n 2, 1), (.invokevirtual 74, 3), (.i2l, 1), (.lastore, 1), (.goto 7, 3)]
theorem L_L_tune_0 : CdAt m_L_tune.2.1 0 B_L_tune_0 := at_of (by decide +kernel)
def B_L_tune_13 : List (Instr × Nat) := [(.astore 4, 2), (.iconst 1, 1), (.ireturn, 1)]
theorem L_L_tune_13 : CdAt m_L_tune.2.1 13 B_L_tune_13 := at_of (by decide +kernel)
def B_L_tune_17 : List (Instr × Nat) := [(.iconst 0, 1), (.ireturn, 1)]
theorem L_L_tune_17 : CdAt m_L_tune.2.1 17 B_L_tune_17 := at_of (by decide +kernel)
def B_L_undo_0 : List (Instr × Nat) := [(.aload_n 1, 1), (.iconst 0, 1), (.aload_n 0, 1), (.invokevirtual 77, 3), (.i2l, 1), (.lastore, 1), (.goto 6, 3)]
theorem L_L_undo_0 : CdAt m_L_undo.2.1 0 B_L_undo_0 := at_of (by decide +kernel)
def B_L_undo_11 : List (Instr × Nat) := [(.astore_n 2, 1), (.iconst 1, 1), (.ireturn, 1)]
theorem L_L_undo_11 : CdAt m_L_undo.2.1 11 B_L_undo_11 := at_of (by decide +kernel)
def B_L_undo_14 : List (Instr × Nat) := [(.iconst 0, 1), (.ireturn, 1)]
theorem L_L_undo_14 : CdAt m_L_undo.2.1 14 B_L_undo_14 := at_of (by decide +kernel)
def B_L_why_0 : List (Instr × Nat) := [(.aload 7, 2), (.iconst 0, 1), (.aload_n 0, 1), (.iload_n 1, 1), (.iload_n 2, 1), (.iload_n 3, 1), (.iload 4, 2), (.iload 5, 2), (.iload 6, 2), (.invokevirtual 80, 3), (.i2l, 1), (.lastore, 1), (.goto 11, 3)]
theorem L_L_why_0 : CdAt m_L_why.2.1 0 B_L_why_0 := at_of (by decide +kernel)
def B_L_why_21 : List (Instr × Nat) := [(.astore 8, 2), (.iconst 1, 1), (.ireturn, 1)]
theorem L_L_why_21 : CdAt m_L_why.2.1 21 B_L_why_21 := at_of (by decide +kernel)
def B_L_why_25 : List (Instr × Nat) := [(.astore 8, 2), (.iconst 2, 1), (.ireturn, 1)]
theorem L_L_why_25 : CdAt m_L_why.2.1 25 B_L_why_25 := at_of (by decide +kernel)
def B_L_why_29 : List (Instr × Nat) := [(.iconst 0, 1), (.ireturn, 1)]
theorem L_L_why_29 : CdAt m_L_why.2.1 29 B_L_why_29 := at_of (by decide +kernel)
def B_L_whySeat_0 : List (Instr × Nat) := [(.aload_n 3, 1), (.iconst 0, 1), (.aload_n 0, 1), (.iload_n 1, 1), (.iload_n 2, 1), (.invokevirtual 83, 3), (.i2l, 1), (.lastore, 1), (.goto 7, 3)]
theorem L_L_whySeat_0 : CdAt m_L_whySeat.2.1 0 B_L_whySeat_0 := at_of (by decide +kernel)
def B_L_whySeat_13 : List (Instr × Nat) := [(.astore 4, 2), (.iconst 1, 1), (.ireturn, 1)]
theorem L_L_whySeat_13 : CdAt m_L_whySeat.2.1 13 B_L_whySeat_13 := at_of (by decide +kernel)
def B_L_whySeat_17 : List (Instr × Nat) := [(.iconst 0, 1), (.ireturn, 1)]
theorem L_L_whySeat_17 : CdAt m_L_whySeat.2.1 17 B_L_whySeat_17 := at_of (by decide +kernel)
def B_L_bestFloor_0 : List (Instr × Nat) := [(.aload 6, 2), (.iconst 0, 1), (.aload_n 0, 1), (.iload_n 1, 1), (.iload_n 2, 1), (.iload_n 3, 1), (.iload 4, 2), (.iload 5, 2), (.invokevirtual 86, 3), (.i2l, 1), (.lastore, 1), (.goto 11, 3)]
theorem L_L_bestFloor_0 : CdAt m_L_bestFloor.2.1 0 B_L_bestFloor_0 := at_of (by decide +kernel)
def B_L_bestFloor_19 : List (Instr × Nat) := [(.astore 7, 2), (.iconst 1, 1), (.ireturn, 1)]
theorem L_L_bestFloor_19 : CdAt m_L_bestFloor.2.1 19 B_L_bestFloor_19 := at_of (by decide +kernel)
def B_L_bestFloor_23 : List (Instr × Nat) := [(.astore 7, 2), (.iconst 2, 1), (.ireturn, 1)]
theorem L_L_bestFloor_23 : CdAt m_L_bestFloor.2.1 23 B_L_bestFloor_23 := at_of (by decide +kernel)
def B_L_bestFloor_27 : List (Instr × Nat) := [(.iconst 0, 1), (.ireturn, 1)]
theorem L_L_bestFloor_27 : CdAt m_L_bestFloor.2.1 27 B_L_bestFloor_27 := at_of (by decide +kernel)
def B_L_emptyIn_0 : List (Instr × Nat) := [(.aload_n 2, 1), (.iconst 0, 1), (.aload_n 0, 1), (.iload_n 1, 1), (.invokevirtual 90, 3), (.i2l, 1), (.lastore, 1), (.goto 6, 3)]
theorem L_L_emptyIn_0 : CdAt m_L_emptyIn.2.1 0 B_L_emptyIn_0 := at_of (by decide +kernel)
def B_L_emptyIn_12 : List (Instr × Nat) := [(.astore_n 3, 1), (.iconst 1, 1), (.ireturn, 1)]
theorem L_L_emptyIn_12 : CdAt m_L_emptyIn.2.1 12 B_L_emptyIn_12 := at_of (by decide +kernel)
def B_L_emptyIn_15 : List (Instr × Nat) := [(.iconst 0, 1), (.ireturn, 1)]
theorem L_L_emptyIn_15 : CdAt m_L_emptyIn.2.1 15 B_L_emptyIn_15 := at_of (by decide +kernel)
def B_L_runScript_0 : List (Instr × Nat) := [(.aload 4, 2), (.iconst 0, 1), (.aload_n 0, 1), (.iload_n 1, 1), (.lload_n 2, 1), (.invokevirtual 93, 3), (.i2l, 1), (.lastore, 1), (.goto 7, 3)]
theorem L_L_runScript_0 : CdAt m_L_runScript.2.1 0 B_L_runScript_0 := at_of (by decide +kernel)
def B_L_runScript_14 : List (Instr × Nat) := [(.astore 5, 2), (.iconst 1, 1), (.ireturn, 1)]
theorem L_L_runScript_14 : CdAt m_L_runScript.2.1 14 B_L_runScript_14 := at_of (by decide +kernel)
def B_L_runScript_18 : List (Instr × Nat) := [(.iconst 0, 1), (.ireturn, 1)]
theorem L_L_runScript_18 : CdAt m_L_runScript.2.1 18 B_L_runScript_18 := at_of (by decide +kernel)
def B_L_simulate_0 : List (Instr × Nat) := [(.aload 4, 2), (.iconst 0, 1), (.aload_n 0, 1), (.lload_n 1, 1), (.iload_n 3, 1), (.invokevirtual 97, 3), (.i2l, 1), (.lastore, 1), (.goto 7, 3)]
theorem L_L_simulate_0 : CdAt m_L_simulate.2.1 0 B_L_simulate_0 := at_of (by decide +kernel)
def B_L_simulate_14 : List (Instr × Nat) := [(.astore 5, 2), (.iconst 1, 1), (.ireturn, 1)]
theorem L_L_simulate_14 : CdAt m_L_simulate.2.1 14 B_L_simulate_14 := at_of (by decide +kernel)
def B_L_simulate_18 : List (Instr × Nat) := [(.iconst 0, 1), (.ireturn, 1)]
theorem L_L_simulate_18 : CdAt m_L_simulate.2.1 18 B_L_simulate_18 := at_of (by decide +kernel)
def B_L_save_0 : List (Instr × Nat) := [(.aload_n 2, 1), (.iconst 0, 1), (.aload_n 0, 1), (.iload_n 1, 1), (.invokevirtual 101, 3), (.i2l, 1), (.lastore, 1), (.goto 6, 3)]
theorem L_L_save_0 : CdAt m_L_save.2.1 0 B_L_save_0 := at_of (by decide +kernel)
def B_L_save_12 : List (Instr × Nat) := [(.astore_n 3, 1), (.iconst 1, 1), (.ireturn, 1)]
theorem L_L_save_12 : CdAt m_L_save.2.1 12 B_L_save_12 := at_of (by decide +kernel)
def B_L_save_15 : List (Instr × Nat) := [(.iconst 0, 1), (.ireturn, 1)]
theorem L_L_save_15 : CdAt m_L_save.2.1 15 B_L_save_15 := at_of (by decide +kernel)
def B_L_restore_0 : List (Instr × Nat) := [(.aload_n 2, 1), (.iconst 0, 1), (.aload_n 0, 1), (.iload_n 1, 1), (.invokevirtual 104, 3), (.i2l, 1), (.lastore, 1), (.goto 9, 3)]
theorem L_L_restore_0 : CdAt m_L_restore.2.1 0 B_L_restore_0 := at_of (by decide +kernel)
def B_L_restore_12 : List (Instr × Nat) := [(.astore_n 3, 1), (.iconst 1, 1), (.ireturn, 1)]
theorem L_L_restore_12 : CdAt m_L_restore.2.1 12 B_L_restore_12 := at_of (by decide +kernel)
def B_L_restore_15 : List (Instr × Nat) := [(.astore_n 3, 1), (.iconst 2, 1), (.ireturn, 1)]
theorem L_L_restore_15 : CdAt m_L_restore.2.1 15 B_L_restore_15 := at_of (by decide +kernel)
def B_L_restore_18 : List (Instr × Nat) := [(.iconst 0, 1), (.ireturn, 1)]
theorem L_L_restore_18 : CdAt m_L_restore.2.1 18 B_L_restore_18 := at_of (by decide +kernel)
def B_L_law_0 : List (Instr × Nat) := [(.new 8, 3), (.dup, 1), (.invokespecial 107, 3), (.astore_n 1, 1), (.new 108, 3), (.dup, 1), (.invokespecial 110, 3), (.astore_n 2, 1), (.iconst 1, 1), (.newarray .long, 2), (.astore_n 3, 1), (.iconst 0, 1), (.istore 4, 2)]
theorem L_L_law_0 : CdAt m_L_law.2.1 0 B_L_law_0 := at_of (by decide +kernel)
def B_L_law_23 : List (Instr × Nat) := [(.iload 4, 2), (.aload_n 0, 1), (.arraylength, 1), (.bipush 7, 2), (.isub, 1), (.if_icmp .gt 2131, 3), (.aload_n 0, 1), (.iload 4, 2), (.iaload, 1), (.bipush 31, 2), (.iand, 1), (.tableswitch 2115 0 30 #[140, 196, 209, 222, 266, 322, 390, 458, 526, 594, 650, 706, 798, 866, 984, 1040, 1084, 1140, 1208, 1276, 1332, 1400, 1444, 1562, 1630, 1734, 1790, 1803, 1903, 2003, 2059], 140)]
theorem L_L_law_23 : CdAt m_L_law.2.1 23 B_L_law_23 := at_of (by decide +kernel)
def B_L_law_180 : List (Instr × Nat) := [(.aload_n 1, 1), (.aload_n 0, 1), (.iload 4, 2), (.iconst 1, 1), (.iadd, 1), (.iaload, 1), (.aload_n 3, 1), (.invokestatic 111, 3), (.istore 5, 2), (.aload_n 2, 1), (.aload_n 0, 1), (.iload 4, 2), (.iconst 1, 1), (.iadd, 1), (.iaload, 1), (.invokevirtual 116, 3), (.istore 6, 2), (.aload_n 2, 1), (.invokevirtual 117, 3), (.iload 5, 2), (.if_icmp .eq 5, 3), (.iconst 0, 1), (.ireturn, 1)]
theorem L_L_law_180 : CdAt m_L_law.2.1 180 B_L_law_180 := at_of (by decide +kernel)
def B_L_law_216 : List (Instr × Nat) := [(.iload 5, 2), (.ifCond .ne 15, 3), (.aload_n 3, 1), (.iconst 0, 1), (.laload, 1), (.iload 6, 2), (.i2l, 1), (.lcmp, 1), (.ifCond .eq 5, 3), (.iconst 0, 1), (.ireturn, 1)]
theorem L_L_law_216 : CdAt m_L_law.2.1 216 B_L_law_216 := at_of (by decide +kernel)
def B_L_law_233 : List (Instr × Nat) := [(.goto 1922, 3)]
theorem L_L_law_233 : CdAt m_L_law.2.1 233 B_L_law_233 := at_of (by decide +kernel)
def B_L_law_236 : List (Instr × Nat) := [(.aload_n 1, 1), (.invokevirtual 120, 3), (.aload_n 2, 1), (.invokevirtual 123, 3), (.if_icmp .eq 1911, 3), (.iconst 0, 1), (.ireturn, 1)]
theorem L_L_law_236 : CdAt m_L_law.2.1 236 B_L_law_236 := at_of (by decide +kernel)
def B_L_law_249 : List (Instr × Nat) := [(.aload_n 1, 1), (.invokevirtual 124, 3), (.aload_n 2, 1), (.invokevirtual 127, 3), (.if_icmp .eq 1898, 3), (.iconst 0, 1), (.ireturn, 1)]
theorem L_L_law_249 : CdAt m_L_law.2.1 249 B_L_law_249 := at_of (by decide +kernel)
def B_L_law_262 : List (Instr × Nat) := [(.aload_n 1, 1), (.aload_n 3, 1), (.invokestatic 128, 3), (.istore 5, 2), (.aload_n 2, 1), (.invokevirtual 131, 3), (.istore 6, 2), (.aload_n 2, 1), (.invokevirtual 117, 3), (.iload 5, 2), (.if_icmp .eq 5, 3), (.iconst 0, 1), (.ireturn, 1)]
theorem L_L_law_262 : CdAt m_L_law.2.1 262 B_L_law_262 := at_of (by decide +kernel)
def B_L_law_286 : List (Instr × Nat) := [(.iload 5, 2), (.ifCond .ne 15, 3), (.aload_n 3, 1), (.iconst 0, 1), (.laload, 1), (.iload 6, 2), (.i2l, 1), (.lcmp, 1), (.ifCond .eq 5, 3), (.iconst 0, 1), (.ireturn, 1)]
theorem L_L_law_286 : CdAt m_L_law.2.1 286 B_L_law_286 := at_of (by decide +kernel)
def B_L_law_303 : List (Instr × Nat) := [(.goto 1852, 3)]
theorem L_L_law_303 : CdAt m_L_law.2.1 303 B_L_law_303 := at_of (by decide +kernel)
def B_L_law_306 : List (Instr × Nat) := [(.aload_n 1, 1), (.aload_n 0, 1), (.iload 4, 2), (.iconst 1, 1), (.iadd, 1), (.iaload, 1), (.aload_n 3, 1), (.invokestatic 132, 3), (.istore 5, 2), (.aload_n 2, 1), (.aload_n 0, 1), (.iload 4, 2), (.iconst 1, 1), (.iadd, 1), (.iaload, 1), (.invokevirtual 134, 3), (.istore 6, 2), (.aload_n 2, 1), (.invokevirtual 117, 3), (.iload 5, 2), (.if_icmp .eq 5, 3), (.iconst 0, 1), (.ireturn, 1)]
theorem L_L_law_306 : CdAt m_L_law.2.1 306 B_L_law_306 := at_of (by decide +kernel)
def B_L_law_342 : List (Instr × Nat) := [(.iload 5, 2), (.ifCond .ne 15, 3), (.aload_n 3, 1), (.iconst 0, 1), (.laload, 1), (.iload 6, 2), (.i2l, 1), (.lcmp, 1), (.ifCond .eq 5, 3), (.iconst 0, 1), (.ireturn, 1)]
theorem L_L_law_342 : CdAt m_L_law.2.1 342 B_L_law_342 := at_of (by decide +kernel)
def B_L_law_359 : List (Instr × Nat) := [(.goto 1796, 3)]
theorem L_L_law_359 : CdAt m_L_law.2.1 359 B_L_law_359 := at_of (by decide +kernel)
def B_L_law_362 : List (Instr × Nat) := [(.aload_n 1, 1), (.aload_n 0, 1), (.iload 4, 2), (.iconst 1, 1), (.iadd, 1), (.iaload, 1), (.aload_n 0, 1), (.iload 4, 2), (.iconst 2, 1), (.iadd, 1), (.iaload, 1), (.aload_n 3, 1), (.invokestatic 135, 3), (.istore 5, 2), (.aload_n 2, 1), (.aload_n 0, 1), (.iload 4, 2), (.iconst 1, 1), (.iadd, 1), (.iaload, 1), (.aload_n 0, 1), (.iload 4, 2), (.iconst 2, 1), (.iadd, 1), (.iaload, 1), (.invokevirtual 138, 3), (.istore 6, 2), (.aload_n 2, 1), (.invokevirtual 117, 3), (.iload 5, 2), (.if_icmp .eq 5, 3), (.iconst 0, 1), (.ireturn, 1)]
theorem L_L_law_362 : CdAt m_L_law.2.1 362 B_L_law_362 := at_of (by decide +kernel)
def B_L_law_410 : List (Instr × Nat) := [(.iload 5, 2), (.ifCond .ne 15, 3), (.aload_n 3, 1), (.iconst 0, 1), (.laload, 1), (.iload 6, 2), (.i2l, 1), (.lcmp, 1), (.ifCond .eq 5, 3), (.iconst 0, 1), (.ireturn, 1)]
theorem L_L_law_410 : CdAt m_L_law.2.1 410 B_L_law_410 := at_of (by decide +kernel)
def B_L_law_427 : List (Instr × Nat) := [(.goto 1728, 3)]
theorem L_L_law_427 : CdAt m_L_law.2.1 427 B_L_law_427 := at_of (by decide +kernel)
def B_L_law_430 : List (Instr × Nat) := [(.aload_n 1, 1), (.aload_n 0, 1), (.iload 4, 2), (.iconst 1, 1), (.iadd, 1), (.iaload, 1), (.aload_n 0, 1), (.iload 4, 2), (.iconst 2, 1), (.iadd, 1), (.iaload, 1), (.aload_n 3, 1), (.invokestatic 139, 3), (.istore 5, 2), (.aload_n 2, 1), (.aload_n 0, 1), (.iload 4, 2), (.iconst 1, 1), (.iadd, 1), (.iaload, 1), (.aload_n 0, 1), (.iload 4, 2), (.iconst 2, 1), (.iadd, 1), (.iaload, 1), (.invokevirtual 141, 3), (.istore 6, 2), (.aload_n 2, 1), (.invokevirtual 117, 3), (.iload 5, 2), (.if_icmp .eq 5, 3), (.iconst 0, 1), (.ireturn, 1)]
theorem L_L_law_430 : CdAt m_L_law.2.1 430 B_L_law_430 := at_of (by decide +kernel)
def B_L_law_478 : List (Instr × Nat) := [(.iload 5, 2), (.ifCond .ne 15, 3), (.aload_n 3, 1), (.iconst 0, 1), (.laload, 1), (.iload 6, 2), (.i2l, 1), (.lcmp, 1), (.ifCond .eq 5, 3), (.iconst 0, 1), (.ireturn, 1)]
theorem L_L_law_478 : CdAt m_L_law.2.1 478 B_L_law_478 := at_of (by decide +kernel)
def B_L_law_495 : List (Instr × Nat) := [(.goto 1660, 3)]
theorem L_L_law_495 : CdAt m_L_law.2.1 495 B_L_law_495 := at_of (by decide +kernel)
def B_L_law_498 : List (Instr × Nat) := [(.aload_n 1, 1), (.aload_n 0, 1), (.iload 4, 2), (.iconst 1, 1), (.iadd, 1), (.iaload, 1), (.aload_n 0, 1), (.iload 4, 2), (.iconst 2, 1), (.iadd, 1), (.iaload, 1), (.aload_n 3, 1), (.invokestatic 142, 3), (.istore 5, 2), (.aload_n 2, 1), (.aload_n 0, 1), (.iload 4, 2), (.iconst 1, 1), (.iadd, 1), (.iaload, 1), (.aload_n 0, 1), (.iload 4, 2), (.iconst 2, 1), (.iadd, 1), (.iaload, 1), (.invokevirtual 144, 3), (.istore 6, 2), (.aload_n 2, 1), (.invokevirtual 117, 3), (.iload 5, 2), (.if_icmp .eq 5, 3), (.iconst 0, 1), (.ireturn, 1)]
theorem L_L_law_498 : CdAt m_L_law.2.1 498 B_L_law_498 := at_of (by decide +kernel)
def B_L_law_546 : List (Instr × Nat) := [(.iload 5, 2), (.ifCond .ne 15, 3), (.aload_n 3, 1), (.iconst 0, 1), (.laload, 1), (.iload 6, 2), (.i2l, 1), (.lcmp, 1), (.ifCond .eq 5, 3), (.iconst 0, 1), (.ireturn, 1)]
theorem L_L_law_546 : CdAt m_L_law.2.1 546 B_L_law_546 := at_of (by decide +kernel)
def B_L_law_563 : List (Instr × Nat) := [(.goto 1592, 3)]
theorem L_L_law_563 : CdAt m_L_law.2.1 563 B_L_law_563 := at_of (by decide +kernel)
def B_L_law_566 : List (Instr × Nat) := [(.aload_n 1, 1), (.aload_n 0, 1), (.iload 4, 2), (.iconst 1, 1), (.iadd, 1), (.iaload, 1), (.aload_n 0, 1), (.iload 4, 2), (.iconst 2, 1), (.iadd, 1), (.iaload, 1), (.aload_n 3, 1), (.invokestatic 145, 3), (.istore 5, 2), (.aload_n 2, 1), (.aload_n 0, 1), (.iload 4, 2), (.iconst 1, 1), (.iadd, 1), (.iaload, 1), (.aload_n 0, 1), (.iload 4, 2), (.iconst 2, 1), (.iadd, 1), (.iaload, 1), (.invokevirtual 147, 3), (.istore 6, 2), (.aload_n 2, 1), (.invokevirtual 117, 3), (.iload 5, 2), (.if_icmp .eq 5, 3), (.iconst 0, 1), (.ireturn, 1)]
theorem L_L_law_566 : CdAt m_L_law.2.1 566 B_L_law_566 := at_of (by decide +kernel)
def B_L_law_614 : List (Instr × Nat) := [(.iload 5, 2), (.ifCond .ne 15, 3), (.aload_n 3, 1), (.iconst 0, 1), (.laload, 1), (.iload 6, 2), (.i2l, 1), (.lcmp, 1), (.ifCond .eq 5, 3), (.iconst 0, 1), (.ireturn, 1)]
theorem L_L_law_614 : CdAt m_L_law.2.1 614 B_L_law_614 := at_of (by decide +kernel)
def B_L_law_631 : List (Instr × Nat) := [(.goto 1524, 3)]
theorem L_L_law_631 : CdAt m_L_law.2.1 631 B_L_law_631 := at_of (by decide +kernel)
def B_L_law_634 : List (Instr × Nat) := [(.aload_n 1, 1), (.aload_n 0, 1), (.iload 4, 2), (.iconst 1, 1), (.iadd, 1), (.iaload, 1), (.aload_n 3, 1), (.invokestatic 148, 3), (.istore 5, 2), (.aload_n 2, 1), (.aload_n 0, 1), (.iload 4, 2), (.iconst 1, 1), (.iadd, 1), (.iaload, 1), (.invokevirtual 150, 3), (.istore 6, 2), (.aload_n 2, 1), (.invokevirtual 117, 3), (.iload 5, 2), (.if_icmp .eq 5, 3), (.iconst 0, 1), (.ireturn, 1)]
theorem L_L_law_634 : CdAt m_L_law.2.1 634 B_L_law_634 := at_of (by decide +kernel)
def B_L_law_670 : List (Instr × Nat) := [(.iload 5, 2), (.ifCond .ne 15, 3), (.aload_n 3, 1), (.iconst 0, 1), (.laload, 1), (.iload 6, 2), (.i2l, 1), (.lcmp, 1), (.ifCond .eq 5, 3), (.iconst 0, 1), (.ireturn, 1)]
theorem L_L_law_670 : CdAt m_L_law.2.1 670 B_L_law_670 := at_of (by decide +kernel)
def B_L_law_687 : List (Instr × Nat) := [(.goto 1468, 3)]
theorem L_L_law_687 : CdAt m_L_law.2.1 687 B_L_law_687 := at_of (by decide +kernel)
def B_L_law_690 : List (Instr × Nat) := [(.aload_n 1, 1), (.aload_n 0, 1), (.iload 4, 2), (.iconst 1, 1), (.iadd, 1), (.iaload, 1), (.aload_n 3, 1), (.invokestatic 151, 3), (.istore 5, 2), (.aload_n 2, 1), (.aload_n 0, 1), (.iload 4, 2), (.iconst 1, 1), (.iadd, 1), (.iaload, 1), (.invokevirtual 153, 3), (.istore 6, 2), (.aload_n 2, 1), (.invokevirtual 117, 3), (.iload 5, 2), (.if_icmp .eq 5, 3), (.iconst 0, 1), (.ireturn, 1)]
theorem L_L_law_690 : CdAt m_L_law.2.1 690 B_L_law_690 := at_of (by decide +kernel)
def B_L_law_726 : List (Instr × Nat) := [(.iload 5, 2), (.ifCond .ne 15, 3), (.aload_n 3, 1), (.iconst 0, 1), (.laload, 1), (.iload 6, 2), (.i2l, 1), (.lcmp, 1), (.ifCond .eq 5, 3), (.iconst 0, 1), (.ireturn, 1)]
theorem L_L_law_726 : CdAt m_L_law.2.1 726 B_L_law_726 := at_of (by decide +kernel)
def B_L_law_743 : List (Instr × Nat) := [(.goto 1412, 3)]
theorem L_L_law_743 : CdAt m_L_law.2.1 743 B_L_law_743 := at_of (by decide +kernel)
def B_L_law_746 : List (Instr × Nat) := [(.aload_n 1, 1), (.aload_n 0, 1), (.iload 4, 2), (.iconst 1, 1), (.iadd, 1), (.iaload, 1), (.aload_n 0, 1), (.iload 4, 2), (.iconst 2, 1), (.iadd, 1), (.iaload, 1), (.aload_n 0, 1), (.iload 4, 2), (.iconst 3, 1), (.iadd, 1), (.iaload, 1), (.aload_n 0, 1), (.iload 4, 2), (.iconst 4, 1), (.iadd, 1), (.iaload, 1), (.aload_n 3, 1), (.invokestatic 154, 3), (.istore 5, 2), (.aload_n 2, 1), (.aload_n 0, 1), (.iload 4, 2), (.iconst 1, 1), (.iadd, 1), (.iaload, 1), (.aload_n 0, 1), (.iload 4, 2), (.iconst 2, 1), (.iadd, 1), (.iaload, 1), (.aload_n 0, 1), (.iload 4, 2), (.iconst 3, 1), (.iadd, 1), (.iaload, 1), (.aload_n 0, 1), (.iload 4, 2), (.iconst 4, 1), (.iadd, 1), (.iaload, 1), (.invokevirtual 157, 3), (.istore 6, 2), (.aload_n 2, 1), (.invokevirtual 117, 3), (.iload 5, 2), (.if_icmp .eq 5, 3), (.iconst 0, 1), (.ireturn, 1)]
theorem L_L_law_746 : CdAt m_L_law.2.1 746 B_L_law_746 := at_of (by decide +kernel)
def B_L_law_818 : List (Instr × Nat) := [(.iload 5, 2), (.ifCond .ne 15, 3), (.aload_n 3, 1), (.iconst 0, 1), (.laload, 1), (.iload 6, 2), (.i2l, 1), (.lcmp, 1), (.ifCond .eq 5, 3), (.iconst 0, 1), (.ireturn, 1)]
theorem L_L_law_818 : CdAt m_L_law.2.1 818 B_L_law_818 := at_of (by decide +kernel)
def B_L_law_835 : List (Instr × Nat) := [(.goto 1320, 3)]
theorem L_L_law_835 : CdAt m_L_law.2.1 835 B_L_law_835 := at_of (by decide +kernel)
def B_L_law_838 : List (Instr × Nat) := [(.aload_n 1, 1), (.aload_n 0, 1), (.iload 4, 2), (.iconst 1, 1), (.iadd, 1), (.iaload, 1), (.aload_n 0, 1), (.iload 4, 2), (.iconst 2, 1), (.iadd, 1), (.iaload, 1), (.aload_n 3, 1), (.invokestatic 158, 3), (.istore 5, 2), (.aload_n 2, 1), (.aload_n 0, 1), (.iload 4, 2), (.iconst 1, 1), (.iadd, 1), (.iaload, 1), (.aload_n 0, 1), (.iload 4, 2), (.iconst 2, 1), (.iadd, 1), (.iaload, 1), (.invokevirtual 160, 3), (.istore 6, 2), (.aload_n 2, 1), (.invokevirtual 117, 3), (.iload 5, 2), (.if_icmp .eq 5, 3), (.iconst 0, 1), (.ireturn, 1)]
theorem L_L_law_838 : CdAt m_L_law.2.1 838 B_L_law_838 := at_of (by decide +kernel)
def B_L_law_886 : List (Instr × Nat) := [(.iload 5, 2), (.ifCond .ne 15, 3), (.aload_n 3, 1), (.iconst 0, 1), (.laload, 1), (.iload 6, 2), (.i2l, 1), (.lcmp, 1), (.ifCond .eq 5, 3), (.iconst 0, 1), (.ireturn, 1)]
theorem L_L_law_886 : CdAt m_L_law.2.1 886 B_L_law_886 := at_of (by decide +kernel)
def B_L_law_903 : List (Instr × Nat) := [(.goto 1252, 3)]
theorem L_L_law_903 : CdAt m_L_law.2.1 903 B_L_law_903 := at_of (by decide +kernel)
def B_L_law_906 : List (Instr × Nat) := [(.aload_n 1, 1), (.aload_n 0, 1), (.iload 4, 2), (.iconst 1, 1), (.iadd, 1), (.iaload, 1), (.aload_n 0, 1), (.iload 4, 2), (.iconst 2, 1), (.iadd, 1), (.iaload, 1), (.aload_n 0, 1), (.iload 4, 2), (.iconst 3, 1), (.iadd, 1), (.iaload, 1), (.aload_n 0, 1), (.iload 4, 2), (.iconst 4, 1), (.iadd, 1), (.iaload, 1), (.aload_n 0, 1), (.iload 4, 2), (.iconst 5, 1), (.iadd, 1), (.iaload, 1), (.aload_n 0, 1), (.iload 4, 2), (.bipush 6, 2), (.iadd, 1), (.iaload, 1), (.aload_n 3, 1), (.invokestatic 161, 3), (.istore 5, 2), (.aload_n 2, 1), (.aload_n 0, 1), (.iload 4, 2), (.iconst 1, 1), (.iadd, 1), (.iaload, 1), (.aload_n 0, 1), (.iload 4, 2), (.iconst 2, 1), (.iadd, 1), (.iaload, 1), (.aload_n 0, 1), (.iload 4, 2), (.iconst 3, 1), (.iadd, 1), (.iaload, 1), (.aload_n 0, 1), (.iload 4, 2), (.iconst 4, 1), (.iadd, 1), (.iaload, 1), (.aload_n 0, 1), (.iload 4, 2), (.iconst 5, 1), (.iadd, 1), (.iaload, 1), (.aload_n 0, 1), (.iload 4, 2), (.bipush 6, 2), (.iadd, 1), (.iaload, 1), (.invokevirtual 164, 3), (.istore 6, 2), (.aload_n 2, 1), (.invokevirtual 117, 3), (.iload 5, 2), (.if_icmp .eq 5, 3), (.iconst 0, 1), (.ireturn, 1)]
theorem L_L_law_906 : CdAt m_L_law.2.1 906 B_L_law_906 := at_of (by decide +kernel)
def B_L_law_1004 : List (Instr × Nat) := [(.iload 5, 2), (.ifCond .ne 15, 3), (.aload_n 3, 1), (.iconst 0, 1), (.laload, 1), (.iload 6, 2), (.i2l, 1), (.lcmp, 1), (.ifCond .eq 5, 3), (.iconst 0, 1), (.ireturn, 1)]
theorem L_L_law_1004 : CdAt m_L_law.2.1 1004 B_L_law_1004 := at_of (by decide +kernel)
def B_L_law_1021 : List (Instr × Nat) := [(.goto 1134, 3)]
theorem L_L_law_1021 : CdAt m_L_law.2.1 1021 B_L_law_1021 := at_of (by decide +kernel)
def B_L_law_1024 : List (Instr × Nat) := [(.aload_n 1, 1), (.aload_n 0, 1), (.iload 4, 2), (.iconst 1, 1), (.iadd, 1), (.iaload, 1), (.aload_n 3, 1), (.invokestatic 165, 3), (.istore 5, 2), (.aload_n 2, 1), (.aload_n 0, 1), (.iload 4, 2), (.iconst 1, 1), (.iadd, 1), (.iaload, 1), (.invokevirtual 167, 3), (.istore 6, 2), (.aload_n 2, 1), (.invokevirtual 117, 3), (.iload 5, 2), (.if_icmp .eq 5, 3), (.iconst 0, 1), (.ireturn, 1)]
theorem L_L_law_1024 : CdAt m_L_law.2.1 1024 B_L_law_1024 := at_of (by decide +kernel)
def B_L_law_1060 : List (Instr × Nat) := [(.iload 5, 2), (.ifCond .ne 15, 3), (.aload_n 3, 1), (.iconst 0, 1), (.laload, 1), (.iload 6, 2), (.i2l, 1), (.lcmp, 1), (.ifCond .eq 5, 3), (.iconst 0, 1), (.ireturn, 1)]
theorem L_L_law_1060 : CdAt m_L_law.2.1 1060 B_L_law_1060 := at_of (by decide +kernel)
def B_L_law_1077 : List (Instr × Nat) := [(.goto 1078, 3)]
theorem L_L_law_1077 : CdAt m_L_law.2.1 1077 B_L_law_1077 := at_of (by decide +kernel)
def B_L_law_1080 : List (Instr × Nat) := [(.aload_n 1, 1), (.aload_n 3, 1), (.invokestatic 168, 3), (.istore 5, 2), (.aload_n 2, 1), (.invokevirtual 170, 3), (.istore 6, 2), (.aload_n 2, 1), (.invokevirtual 117, 3), (.iload 5, 2), (.if_icmp .eq 5, 3), (.iconst 0, 1), (.ireturn, 1)]
theorem L_L_law_1080 : CdAt m_L_law.2.1 1080 B_L_law_1080 := at_of (by decide +kernel)
def B_L_law_1104 : List (Instr × Nat) := [(.iload 5, 2), (.ifCond .ne 15, 3), (.aload_n 3, 1), (.iconst 0, 1), (.laload, 1), (.iload 6, 2), (.i2l, 1), (.lcmp, 1), (.ifCond .eq 5, 3), (.iconst 0, 1), (.ireturn, 1)]
theorem L_L_law_1104 : CdAt m_L_law.2.1 1104 B_L_law_1104 := at_of (by decide +kernel)
def B_L_law_1121 : List (Instr × Nat) := [(.goto 1034, 3)]
theorem L_L_law_1121 : CdAt m_L_law.2.1 1121 B_L_law_1121 := at_of (by decide +kernel)
def B_L_law_1124 : List (Instr × Nat) := [(.aload_n 1, 1), (.aload_n 0, 1), (.iload 4, 2), (.iconst 1, 1), (.iadd, 1), (.iaload, 1), (.aload_n 3, 1), (.invokestatic 171, 3), (.istore 5, 2), (.aload_n 2, 1), (.aload_n 0, 1), (.iload 4, 2), (.iconst 1, 1), (.iadd, 1), (.iaload, 1), (.invokevirtual 173, 3), (.istore 6, 2), (.aload_n 2, 1), (.invokevirtual 117, 3), (.iload 5, 2), (.if_icmp .eq 5, 3), (.iconst 0, 1), (.ireturn, 1)]
theorem L_L_law_1124 : CdAt m_L_law.2.1 1124 B_L_law_1124 := at_of (by decide +kernel)
def B_L_law_1160 : List (Instr × Nat) := [(.iload 5, 2), (.ifCond .ne 15, 3), (.aload_n 3, 1), (.iconst 0, 1), (.laload, 1), (.iload 6, 2), (.i2l, 1), (.lcmp, 1), (.ifCond .eq 5, 3), (.iconst 0, 1), (.ireturn, 1)]
theorem L_L_law_1160 : CdAt m_L_law.2.1 1160 B_L_law_1160 := at_of (by decide +kernel)
def B_L_law_1177 : List (Instr × Nat) := [(.goto 978, 3)]
theorem L_L_law_1177 : CdAt m_L_law.2.1 1177 B_L_law_1177 := at_of (by decide +kernel)
def B_L_law_1180 : List (Instr × Nat) := [(.aload_n 1, 1), (.aload_n 0, 1), (.iload 4, 2), (.iconst 1, 1), (.iadd, 1), (.iaload, 1), (.aload_n 0, 1), (.iload 4, 2), (.iconst 2, 1), (.iadd, 1), (.iaload, 1), (.aload_n 3, 1), (.invokestatic 174, 3), (.istore 5, 2), (.aload_n 2, 1), (.aload_n 0, 1), (.iload 4, 2), (.iconst 1, 1), (.iadd, 1), (.iaload, 1), (.aload_n 0, 1), (.iload 4, 2), (.iconst 2, 1), (.iadd, 1), (.iaload, 1), (.invokevirtual 176, 3), (.istore 6, 2), (.aload_n 2, 1), (.invokevirtual 117, 3), (.iload 5, 2), (.if_icmp .eq 5, 3), (.iconst 0, 1), (.ireturn, 1)]
theorem L_L_law_1180 : CdAt m_L_law.2.1 1180 B_L_law_1180 := at_of (by decide +kernel)
def B_L_law_1228 : List (Instr × Nat) := [(.iload 5, 2), (.ifCond .ne 15, 3), (.aload_n 3, 1), (.iconst 0, 1), (.laload, 1), (.iload 6, 2), (.i2l, 1), (.lcmp, 1), (.ifCond .eq 5, 3), (.iconst 0, 1), (.ireturn, 1)]
theorem L_L_law_1228 : CdAt m_L_law.2.1 1228 B_L_law_1228 := at_of (by decide +kernel)
def B_L_law_1245 : List (Instr × Nat) := [(.goto 910, 3)]
theorem L_L_law_1245 : CdAt m_L_law.2.1 1245 B_L_law_1245 := at_of (by decide +kernel)
def B_L_law_1248 : List (Instr × Nat) := [(.aload_n 1, 1), (.aload_n 0, 1), (.iload 4, 2), (.iconst 1, 1), (.iadd, 1), (.iaload, 1), (.aload_n 0, 1), (.iload 4, 2), (.iconst 2, 1), (.iadd, 1), (.iaload, 1), (.aload_n 3, 1), (.invokestatic 177, 3), (.istore 5, 2), (.aload_n 2, 1), (.aload_n 0, 1), (.iload 4, 2), (.iconst 1, 1), (.iadd, 1), (.iaload, 1), (.aload_n 0, 1), (.iload 4, 2), (.iconst 2, 1), (.iadd, 1), (.iaload, 1), (.invokevirtual 179, 3), (.istore 6, 2), (.aload_n 2, 1), (.invokevirtual 117, 3), (.iload 5, 2), (.if_icmp .eq 5, 3), (.iconst 0, 1), (.ireturn, 1)]
theorem L_L_law_1248 : CdAt m_L_law.2.1 1248 B_L_law_1248 := at_of (by decide +kernel)
def B_L_law_1296 : List (Instr × Nat) := [(.iload 5, 2), (.ifCond .ne 15, 3), (.aload_n 3, 1), (.iconst 0, 1), (.laload, 1), (.iload 6, 2), (.i2l, 1), (.lcmp, 1), (.ifCond .eq 5, 3), (.iconst 0, 1), (.ireturn, 1)]
theorem L_L_law_1296 : CdAt m_L_law.2.1 1296 B_L_law_1296 := at_of (by decide +kernel)
def B_L_law_1313 : List (Instr × Nat) := [(.goto 842, 3)]
theorem L_L_law_1313 : CdAt m_L_law.2.1 1313 B_L_law_1313 := at_of (by decide +kernel)
def B_L_law_1316 : List (Instr × Nat) := [(.aload_n 1, 1), (.aload_n 0, 1), (.iload 4, 2), (.iconst 1, 1), (.iadd, 1), (.iaload, 1), (.aload_n 3, 1), (.invokestatic 180, 3), (.istore 5, 2), (.aload_n 2, 1), (.aload_n 0, 1), (.iload 4, 2), (.iconst 1, 1), (.iadd, 1), (.iaload, 1), (.invokevirtual 182, 3), (.istore 6, 2), (.aload_n 2, 1), (.invokevirtual 117, 3), (.iload 5, 2), (.if_icmp .eq 5, 3), (.iconst 0, 1), (.ireturn, 1)]
theorem L_L_law_1316 : CdAt m_L_law.2.1 1316 B_L_law_1316 := at_of (by decide +kernel)
def B_L_law_1352 : List (Instr × Nat) := [(.iload 5, 2), (.ifCond .ne 15, 3), (.aload_n 3, 1), (.iconst 0, 1), (.laload, 1), (.iload 6, 2), (.i2l, 1), (.lcmp, 1), (.ifCond .eq 5, 3), (.iconst 0, 1), (.ireturn, 1)]
theorem L_L_law_1352 : CdAt m_L_law.2.1 1352 B_L_law_1352 := at_of (by decide +kernel)
def B_L_law_1369 : List (Instr × Nat) := [(.goto 786, 3)]
theorem L_L_law_1369 : CdAt m_L_law.2.1 1369 B_L_law_1369 := at_of (by decide +kernel)
def B_L_law_1372 : List (Instr × Nat) := [(.aload_n 1, 1), (.aload_n 0, 1), (.iload 4, 2), (.iconst 1, 1), (.iadd, 1), (.iaload, 1), (.aload_n 0, 1), (.iload 4, 2), (.iconst 2, 1), (.iadd, 1), (.iaload, 1), (.aload_n 3, 1), (.invokestatic 183, 3), (.istore 5, 2), (.aload_n 2, 1), (.aload_n 0, 1), (.iload 4, 2), (.iconst 1, 1), (.iadd, 1), (.iaload, 1), (.aload_n 0, 1), (.iload 4, 2), (.iconst 2, 1), (.iadd, 1), (.iaload, 1), (.invokevirtual 185, 3), (.istore 6, 2), (.aload_n 2, 1), (.invokevirtual 117, 3), (.iload 5, 2), (.if_icmp .eq 5, 3), (.iconst 0, 1), (.ireturn, 1)]
theorem L_L_law_1372 : CdAt m_L_law.2.1 1372 B_L_law_1372 := at_of (by decide +kernel)
def B_L_law_1420 : List (Instr × Nat) := [(.iload 5, 2), (.ifCond .ne 15, 3), (.aload_n 3, 1), (.iconst 0, 1), (.laload, 1), (.iload 6, 2), (.i2l, 1), (.lcmp, 1), (.ifCond .eq 5, 3), (.iconst 0, 1), (.ireturn, 1)]
theorem L_L_law_1420 : CdAt m_L_law.2.1 1420 B_L_law_1420 := at_of (by decide +kernel)
def B_L_law_1437 : List (Instr × Nat) := [(.goto 718, 3)]
theorem L_L_law_1437 : CdAt m_L_law.2.1 1437 B_L_law_1437 := at_of (by decide +kernel)
def B_L_law_1440 : List (Instr × Nat) := [(.aload_n 1, 1), (.aload_n 3, 1), (.invokestatic 186, 3), (.istore 5, 2), (.aload_n 2, 1), (.invokevirtual 188, 3), (.istore 6, 2), (.aload_n 2, 1), (.invokevirtual 117, 3), (.iload 5, 2), (.if_icmp .eq 5, 3), (.iconst 0, 1), (.ireturn, 1)]
theorem L_L_law_1440 : CdAt m_L_law.2.1 1440 B_L_law_1440 := at_of (by decide +kernel)
def B_L_law_1464 : List (Instr × Nat) := [(.iload 5, 2), (.ifCond .ne 15, 3), (.aload_n 3, 1), (.iconst 0, 1), (.laload, 1), (.iload 6, 2), (.i2l, 1), (.lcmp, 1), (.ifCond .eq 5, 3), (.iconst 0, 1), (.ireturn, 1)]
theorem L_L_law_1464 : CdAt m_L_law.2.1 1464 B_L_law_1464 := at_of (by decide +kernel)
def B_L_law_1481 : List (Instr × Nat) := [(.goto 674, 3)]
theorem L_L_law_1481 : CdAt m_L_law.2.1 1481 B_L_law_1481 := at_of (by decide +kernel)
def B_L_law_1484 : List (Instr × Nat) := [(.aload_n 1, 1), (.aload_n 0, 1), (.iload 4, 2), (.iconst 1, 1), (.iadd, 1), (.iaload, 1), (.aload_n 0, 1), (.iload 4, 2), (.iconst 2, 1), (.iadd, 1), (.iaload, 1), (.aload_n 0, 1), (.iload 4, 2), (.iconst 3, 1), (.iadd, 1), (.iaload, 1), (.aload_n 0, 1), (.iload 4, 2), (.iconst 4, 1), (.iadd, 1), (.iaload, 1), (.aload_n 0, 1), (.iload 4, 2), (.iconst 5, 1), (.iadd, 1), (.iaload, 1), (.aload_n 0, 1), (.iload 4, 2), (.bipush 6, 2), (.iadd, 1), (.iaload, 1), (.aload_n 3, 1), (.invokestatic 189, 3), (.istore 5, 2), (.aload_n 2, 1), (.aload_n 0, 1), (.iload 4, 2), (.iconst 1, 1), (.iadd, 1), (.iaload, 1), (.aload_n 0, 1), (.iload 4, 2), (.iconst 2, 1), (.iadd, 1), (.iaload, 1), (.aload_n 0, 1), (.iload 4, 2), (.iconst 3, 1), (.iadd, 1), (.iaload, 1), (.aload_n 0, 1), (.iload 4, 2), (.iconst 4, 1), (.iadd, 1), (.iaload, 1), (.aload_n 0, 1), (.iload 4, 2), (.iconst 5, 1), (.iadd, 1), (.iaload, 1), (.aload_n 0, 1), (.iload 4, 2), (.bipush 6, 2), (.iadd, 1), (.iaload, 1), (.invokevirtual 191, 3), (.istore 6, 2), (.aload_n 2, 1), (.invokevirtual 117, 3), (.iload 5, 2), (.if_icmp .eq 5, 3), (.iconst 0, 1), (.ireturn, 1)]
theorem L_L_law_1484 : CdAt m_L_law.2.1 1484 B_L_law_1484 := at_of (by decide +kernel)
def B_L_law_1582 : List (Instr × Nat) := [(.iload 5, 2), (.ifCond .ne 15, 3), (.aload_n 3, 1), (.iconst 0, 1), (.laload, 1), (.iload 6, 2), (.i2l, 1), (.lcmp, 1), (.ifCond .eq 5, 3), (.iconst 0, 1), (.ireturn, 1)]
theorem L_L_law_1582 : CdAt m_L_law.2.1 1582 B_L_law_1582 := at_of (by decide +kernel)
def B_L_law_1599 : List (Instr × Nat) := [(.goto 556, 3)]
theorem L_L_law_1599 : CdAt m_L_law.2.1 1599 B_L_law_1599 := at_of (by decide +kernel)
def B_L_law_1602 : List (Instr × Nat) := [(.aload_n 1, 1), (.aload_n 0, 1), (.iload 4, 2), (.iconst 1, 1), (.iadd, 1), (.iaload, 1), (.aload_n 0, 1), (.iload 4, 2), (.iconst 2, 1), (.iadd, 1), (.iaload, 1), (.aload_n 3, 1), (.invokestatic 192, 3), (.istore 5, 2), (.aload_n 2, 1), (.aload_n 0, 1), (.iload 4, 2), (.iconst 1, 1), (.iadd, 1), (.iaload, 1), (.aload_n 0, 1), (.iload 4, 2), (.iconst 2, 1), (.iadd, 1), (.iaload, 1), (.invokevirtual 194, 3), (.istore 6, 2), (.aload_n 2, 1), (.invokevirtual 117, 3), (.iload 5, 2), (.if_icmp .eq 5, 3), (.iconst 0, 1), (.ireturn, 1)]
theorem L_L_law_1602 : CdAt m_L_law.2.1 1602 B_L_law_1602 := at_of (by decide +kernel)
def B_L_law_1650 : List (Instr × Nat) := [(.iload 5, 2), (.ifCond .ne 15, 3), (.aload_n 3, 1), (.iconst 0, 1), (.laload, 1), (.iload 6, 2), (.i2l, 1), (.lcmp, 1), (.ifCond .eq 5, 3), (.iconst 0, 1), (.ireturn, 1)]
theorem L_L_law_1650 : CdAt m_L_law.2.1 1650 B_L_law_1650 := at_of (by decide +kernel)
def B_L_law_1667 : List (Instr × Nat) := [(.goto 488, 3)]
theorem L_L_law_1667 : CdAt m_L_law.2.1 1667 B_L_law_1667 := at_of (by decide +kernel)
def B_L_law_1670 : List (Instr × Nat) := [(.aload_n 1, 1), (.aload_n 0, 1), (.iload 4, 2), (.iconst 1, 1), (.iadd, 1), (.iaload, 1), (.aload_n 0, 1), (.iload 4, 2), (.iconst 2, 1), (.iadd, 1), (.iaload, 1), (.aload_n 0, 1), (.iload 4, 2), (.iconst 3, 1), (.iadd, 1), (.iaload, 1), (.aload_n 0, 1), (.iload 4, 2), (.iconst 4, 1), (.iadd, 1), (.iaload, 1), (.aload_n 0, 1), (.iload 4, 2), (.iconst 5, 1), (.iadd, 1), (.iaload, 1), (.aload_n 3, 1), (.invokestatic 195, 3), (.istore 5, 2), (.aload_n 2, 1), (.aload_n 0, 1), (.iload 4, 2), (.iconst 1, 1), (.iadd, 1), (.iaload, 1), (.aload_n 0, 1), (.iload 4, 2), (.iconst 2, 1), (.iadd, 1), (.iaload, 1), (.aload_n 0, 1), (.iload 4, 2), (.iconst 3, 1), (.iadd, 1), (.iaload, 1), (.aload_n 0, 1), (.iload 4, 2), (.iconst 4, 1), (.iadd, 1), (.iaload, 1), (.aload_n 0, 1), (.iload 4, 2), (.iconst 5, 1), (.iadd, 1), (.iaload, 1), (.invokevirtual 198, 3), (.istore 6, 2), (.aload_n 2, 1), (.invokevirtual 117, 3), (.iload 5, 2), (.if_icmp .eq 5, 3), (.iconst 0, 1), (.ireturn, 1)]
theorem L_L_law_1670 : CdAt m_L_law.2.1 1670 B_L_law_1670 := at_of (by decide +kernel)
def B_L_law_1754 : List (Instr × Nat) := [(.iload 5, 2), (.ifCond .ne 15, 3), (.aload_n 3, 1), (.iconst 0, 1), (.laload, 1), (.iload 6, 2), (.i2l, 1), (.lcmp, 1), (.ifCond .eq 5, 3), (.iconst 0, 1), (.ireturn, 1)]
theorem L_L_law_1754 : CdAt m_L_law.2.1 1754 B_L_law_1754 := at_of (by decide +kernel)
def B_L_law_1771 : List (Instr × Nat) := [(.goto 384, 3)]
theorem L_L_law_1771 : CdAt m_L_law.2.1 1771 B_L_law_1771 := at_of (by decide +kernel)
def B_L_law_1774 : List (Instr × Nat) := [(.aload_n 1, 1), (.aload_n 0, 1), (.iload 4, 2), (.iconst 1, 1), (.iadd, 1), (.iaload, 1), (.aload_n 3, 1), (.invokestatic 199, 3), (.istore 5, 2), (.aload_n 2, 1), (.aload_n 0, 1), (.iload 4, 2), (.iconst 1, 1), (.iadd, 1), (.iaload, 1), (.invokevirtual 201, 3), (.istore 6, 2), (.aload_n 2, 1), (.invokevirtual 117, 3), (.iload 5, 2), (.if_icmp .eq 5, 3), (.iconst 0, 1), (.ireturn, 1)]
theorem L_L_law_1774 : CdAt m_L_law.2.1 1774 B_L_law_1774 := at_of (by decide +kernel)
def B_L_law_1810 : List (Instr × Nat) := [(.iload 5, 2), (.ifCond .ne 15, 3), (.aload_n 3, 1), (.iconst 0, 1), (.laload, 1), (.iload 6, 2), (.i2l, 1), (.lcmp, 1), (.ifCond .eq 5, 3), (.iconst 0, 1), (.ireturn, 1)]
theorem L_L_law_1810 : CdAt m_L_law.2.1 1810 B_L_law_1810 := at_of (by decide +kernel)
def B_L_law_1827 : List (Instr × Nat) := [(.goto 328, 3)]
theorem L_L_law_1827 : CdAt m_L_law.2.1 1827 B_L_law_1827 := at_of (by decide +kernel)
def B_L_law_1830 : List (Instr × Nat) := [(.aload_n 1, 1), (.invokevirtual 202, 3), (.aload_n 2, 1), (.invokevirtual 205, 3), (.if_icmp .eq 317, 3), (.iconst 0, 1), (.ireturn, 1)]
theorem L_L_law_1830 : CdAt m_L_law.2.1 1830 B_L_law_1830 := at_of (by decide +kernel)
def B_L_law_1843 : List (Instr × Nat) := [(.aload_n 1, 1), (.aload_n 0, 1), (.iload 4, 2), (.iconst 1, 1), (.iadd, 1), (.iaload, 1), (.aload_n 0, 1), (.iload 4, 2), (.iconst 2, 1), (.iadd, 1), (.iaload, 1), (.i2l, 1), (.bipush 32, 2), (.lshl, 1), (.aload_n 0, 1), (.iload 4, 2), (.iconst 3, 1), (.iadd, 1), (.iaload, 1), (.i2l, 1), (.ldc2_w 206, 3), (.land, 1), (.lor, 1), (.aload_n 3, 1), (.invokestatic 208, 3), (.istore 5, 2), (.aload_n 2, 1), (.aload_n 0, 1), (.iload 4, 2), (.iconst 1, 1), (.iadd, 1), (.iaload, 1), (.aload_n 0, 1), (.iload 4, 2), (.iconst 2, 1), (.iadd, 1), (.iaload, 1), (.i2l, 1), (.bipush 32, 2), (.lshl, 1), (.aload_n 0, 1), (.iload 4, 2), (.iconst 3, 1), (.iadd, 1), (.iaload, 1), (.i2l, 1), (.ldc2_w 206, 3), (.land, 1), (.lor, 1), (.invokevirtual 211, 3), (.istore 6, 2), (.aload_n 2, 1), (.invokevirtual 117, 3), (.iload 5, 2), (.if_icmp .eq 5, 3), (.iconst 0, 1), (.ireturn, 1)]
theorem L_L_law_1843 : CdAt m_L_law.2.1 1843 B_L_law_1843 := at_of (by decide +kernel)
def B_L_law_1923 : List (Instr × Nat) := [(.iload 5, 2), (.ifCond .ne 15, 3), (.aload_n 3, 1), (.iconst 0, 1), (.laload, 1), (.iload 6, 2), (.i2l, 1), (.lcmp, 1), (.ifCond .eq 5, 3), (.iconst 0, 1), (.ireturn, 1)]
theorem L_L_law_1923 : CdAt m_L_law.2.1 1923 B_L_law_1923 := at_of (by decide +kernel)
def B_L_law_1940 : List (Instr × Nat) := [(.goto 215, 3)]
theorem L_L_law_1940 : CdAt m_L_law.2.1 1940 B_L_law_1940 := at_of (by decide +kernel)
def B_L_law_1943 : List (Instr × Nat) := [(.aload_n 1, 1), (.aload_n 0, 1), (.iload 4, 2), (.iconst 1, 1), (.iadd, 1), (.iaload, 1), (.i2l, 1), (.bipush 32, 2), (.lshl, 1), (.aload_n 0, 1), (.iload 4, 2), (.iconst 2, 1), (.iadd, 1), (.iaload, 1), (.i2l, 1), (.ldc2_w 206, 3), (.land, 1), (.lor, 1), (.aload_n 0, 1), (.iload 4, 2), (.iconst 3, 1), (.iadd, 1), (.iaload, 1), (.aload_n 3, 1), (.invokestatic 212, 3), (.istore 5, 2), (.aload_n 2, 1), (.aload_n 0, 1), (.iload 4, 2), (.iconst 1, 1), (.iadd, 1), (.iaload, 1), (.i2l, 1), (.bipush 32, 2), (.lshl, 1), (.aload_n 0, 1), (.iload 4, 2), (.iconst 2, 1), (.iadd, 1), (.iaload, 1), (.i2l, 1), (.ldc2_w 206, 3), (.land, 1), (.lor, 1), (.aload_n 0, 1), (.iload 4, 2), (.iconst 3, 1), (.iadd, 1), (.iaload, 1), (.invokevirtual 215, 3), (.istore 6, 2), (.aload_n 2, 1), (.invokevirtual 117, 3), (.iload 5, 2), (.if_icmp .eq 5, 3), (.iconst 0, 1), (.ireturn, 1)]
theorem L_L_law_1943 : CdAt m_L_law.2.1 1943 B_L_law_1943 := at_of (by decide +kernel)
def B_L_law_2023 : List (Instr × Nat) := [(.iload 5, 2), (.ifCond .ne 15, 3), (.aload_n 3, 1), (.iconst 0, 1), (.laload, 1), (.iload 6, 2), (.i2l, 1), (.lcmp, 1), (.ifCond .eq 5, 3), (.iconst 0, 1), (.ireturn, 1)]
theorem L_L_law_2023 : CdAt m_L_law.2.1 2023 B_L_law_2023 := at_of (by decide +kernel)
def B_L_law_2040 : List (Instr × Nat) := [(.goto 115, 3)]
theorem L_L_law_2040 : CdAt m_L_law.2.1 2040 B_L_law_2040 := at_of (by decide +kernel)
def B_L_law_2043 : List (Instr × Nat) := [(.aload_n 1, 1), (.aload_n 0, 1), (.iload 4, 2), (.iconst 1, 1), (.iadd, 1), (.iaload, 1), (.aload_n 3, 1), (.invokestatic 216, 3), (.istore 5, 2), (.aload_n 2, 1), (.aload_n 0, 1), (.iload 4, 2), (.iconst 1, 1), (.iadd, 1), (.iaload, 1), (.invokevirtual 218, 3), (.istore 6, 2), (.aload_n 2, 1), (.invokevirtual 117, 3), (.iload 5, 2), (.if_icmp .eq 5, 3), (.iconst 0, 1), (.ireturn, 1)]
theorem L_L_law_2043 : CdAt m_L_law.2.1 2043 B_L_law_2043 := at_of (by decide +kernel)
def B_L_law_2079 : List (Instr × Nat) := [(.iload 5, 2), (.ifCond .ne 15, 3), (.aload_n 3, 1), (.iconst 0, 1), (.laload, 1), (.iload 6, 2), (.i2l, 1), (.lcmp, 1), (.ifCond .eq 5, 3), (.iconst 0, 1), (.ireturn, 1)]
theorem L_L_law_2079 : CdAt m_L_law.2.1 2079 B_L_law_2079 := at_of (by decide +kernel)
def B_L_law_2096 : List (Instr × Nat) := [(.goto 59, 3)]
theorem L_L_law_2096 : CdAt m_L_law.2.1 2096 B_L_law_2096 := at_of (by decide +kernel)
def B_L_law_2099 : List (Instr × Nat) := [(.aload_n 1, 1), (.aload_n 0, 1), (.iload 4, 2), (.iconst 1, 1), (.iadd, 1), (.iaload, 1), (.aload_n 3, 1), (.invokestatic 219, 3), (.istore 5, 2), (.aload_n 2, 1), (.aload_n 0, 1), (.iload 4, 2), (.iconst 1, 1), (.iadd, 1), (.iaload, 1), (.invokevirtual 221, 3), (.istore 6, 2), (.aload_n 2, 1), (.invokevirtual 117, 3), (.iload 5, 2), (.if_icmp .eq 5, 3), (.iconst 0, 1), (.ireturn, 1)]
theorem L_L_law_2099 : CdAt m_L_law.2.1 2099 B_L_law_2099 := at_of (by decide +kernel)
def B_L_law_2135 : List (Instr × Nat) := [(.iload 5, 2), (.ifCond .ne 15, 3), (.aload_n 3, 1), (.iconst 0, 1), (.laload, 1), (.iload 6, 2), (.i2l, 1), (.lcmp, 1), (.ifCond .eq 5, 3), (.iconst 0, 1), (.ireturn, 1)]
theorem L_L_law_2135 : CdAt m_L_law.2.1 2135 B_L_law_2135 := at_of (by decide +kernel)
def B_L_law_2152 : List (Instr × Nat) := [(.goto 3, 3)]
theorem L_L_law_2152 : CdAt m_L_law.2.1 2152 B_L_law_2152 := at_of (by decide +kernel)
def B_L_law_2155 : List (Instr × Nat) := [(.iinc 4 7, 3), (.goto (-2135), 3)]
theorem L_L_law_2155 : CdAt m_L_law.2.1 2155 B_L_law_2155 := at_of (by decide +kernel)
def B_L_law_2161 : List (Instr × Nat) := [(.iconst 1, 1), (.ireturn, 1)]
theorem L_L_law_2161 : CdAt m_L_law.2.1 2161 B_L_law_2161 := at_of (by decide +kernel)
end
section
/-! ===== small things: booleans, loops, shapes ===== -/
def bI (b : Bool) : Int32 := bif b then 1 else 0
theorem nar_bI (b : Bool) : narrow .boolean (.int (bI b)) = .int (bI b) := by cases b <;> rfl
theorem nI_inc (k : Nat) : nI k + Int32.ofInt 1 = nI (k + 1) := nI_1 k
theorem qeq {Q : Rs → Kp → Mem → Prop} {κ : Kp} {M M' : Mem} {v v' : Int32} (h : Q (.inl (some (.int v'))) κ M') (e1 : v = v') (e2 : M = M') : Q (.inl (some (.int v))) κ M := by subst e1; subst e2; exact h
theorem qeqv {Q : Rs → Kp → Mem → Prop} {κ : Kp} {M M' : Mem} (h : Q (.inl none) κ M') (e2 : M = M') : Q (.inl none) κ M := by subst e2; exact h
section SMALL
variable {X : Xs} {y : MI} {is : List (Instr × Nat)} {pc : Nat} {lo : Lo} {st : List Value} {nc ks : Nat} {κ : Kp} {M : Mem} {Q : Rs → Kp → Mem → Prop}
theorem kq_s {v : Value} (h : G X y is pc lo (v :: st) nc ks κ M Q) : Kq X y is pc lo st nc ks Q (.inl (some v)) κ M := h
theorem kq_n (h : G X y is pc lo st nc ks κ M Q) : Kq X y is pc lo st nc ks Q (.inl none) κ M := h
theorem g_fall {is' : List (Instr × Nat)} {pc' : Nat} (hp : pc = pc') (hA' : CdAt y.2.1 pc' is') (kk : G X y is' pc' lo st nc ks κ M Q) : G X y is pc lo st nc ks κ M Q := by
  subst hp
  exact g_lab hA' kk
theorem g_if_eq_b {b : Bool} {off : Int} {tgt : Nat} {is' : List (Instr × Nat)} (ht : (pc : Int) + off = (tgt : Int)) (hA' : CdAt y.2.1 tgt is') (kt : b = false → G X y is' tgt lo st nc ks κ M Q) (kf : b = true → G X y is (pc + 3) lo st nc ks κ M Q) : G X y (((.ifCond .eq off), 3) :: is) pc lo (.int (bI b) :: st) nc ks κ M Q :=
  g_if_eq ht hA' (fun h => kt (by cases b with | false => rfl | true => exact absurd h (by decide))) (fun h => kf (by cases b with | true => rfl | false => exact absurd rfl h))
theorem g_if_ne_b {b : Bool} {off : Int} {tgt : Nat} {is' : List (Instr × Nat)} (ht : (pc : Int) + off = (tgt : Int)) (hA' : CdAt y.2.1 tgt is') (kt : b = true → G X y is' tgt lo st nc ks κ M Q) (kf : b = false → G X y is (pc + 3) lo st nc ks κ M Q) : G X y (((.ifCond .ne off), 3) :: is) pc lo (.int (bI b) :: st) nc ks κ M Q :=
  g_if_ne ht hA' (fun h => kt (by cases b with | true => rfl | false => exact absurd rfl h)) (fun h => kf (by cases b with | false => rfl | true => exact absurd h (by decide)))
end SMALL
def subLo2 (lo : Lo) : Lo → Prop
  | [] => True
  | q :: t => lg lo q.1 = q.2 ∧ subLo2 lo t
theorem subLo2_lg {lo : Lo} : ∀ {lo' : Lo}, subLo2 lo lo' → ∀ (i : Nat) (v : Value), lg lo' i = some v → lg lo i = some v
  | [], _, i, v, h => by cases h
  | q :: t, hs, i, v, h => by
    rw [lg_cons] at h
    by_cases hq : q.1 = i
    · rw [if_pos hq] at h
      rw [← hq, hs.1, h]
    · rw [if_neg hq] at h
      exact subLo2_lg hs.2 i v h
theorem g_lo2 {X : Xs} {y : MI} {is : List (Instr × Nat)} {pc : Nat} {lo : Lo} {st : List Value} {nc ks : Nat} {κ : Kp} {M : Mem} {Q : Rs → Kp → Mem → Prop} {lo' : Lo} (kk : G X y is pc lo' st nc ks κ M Q) (h : subLo2 lo lo') : G X y is pc lo st nc ks κ M Q :=
  fun hA l p e s m args below meth c b Z D H locs ls hC hR hS hL => kk hA l p e s m args below meth c b Z D H locs ls hC hR hS ⟨hL.1, hL.2.1, fun i v hv => hL.2.2 i v (subLo2_lg h i v hv)⟩
/-- a loop that counts up to c -/
theorem loop_up {P : Nat → Prop} (c : Nat) (body : ∀ k, k ≤ c → (k < c → P (k + 1)) → P k) : ∀ k, k ≤ c → P k := by
  have h : ∀ n k, k ≤ c → c - k = n → P k := by
    intro n
    induction n with
    | zero => exact fun k hk hn => body k hk (fun h => absurd hn (by omega))
    | succ n ih => exact fun k hk hn => body k hk (fun h => ih (k + 1) h (by omega))
  exact fun k hk => h _ k hk rfl
theorem cmp_ge {x : Int32} {c k : Nat} (hx : x = nI c) (hc : c < 100000) (hk : k ≤ c) : (x ≤ nI k → k = c) ∧ (¬ x ≤ nI k → k < c) := by
  subst hx
  have h := nI_leI (a := c) (b := k) (by omega) (by omega)
  exact ⟨fun g => by have := h.mp g; omega, fun g => by
    rcases Nat.lt_or_ge k c with q | q
    · exact q
    · exact absurd (h.mpr q) g⟩
theorem cmp_lt {x : Int32} {c k : Nat} (hx : x = nI c) (hc : c < 100000) (hk : k ≤ c) : (nI k < x → k < c) ∧ (¬ nI k < x → k = c) := by
  subst hx
  have h := nI_ltI (a := k) (b := c) (by omega) (by omega)
  exact ⟨fun g => h.mp g, fun g => by
    rcases Nat.lt_or_ge k c with q | q
    · exact absurd (h.mpr q) g
    · omega⟩
/-- shapes -/
def lesSh : Sh := (3, 9, [0, 0, 0, 0, 0, 0, 0, 0, 0])
def floSh : Sh := (1, 4, [0, 0, 0, 0])
def teaSh : Sh := (5, 2, [0, 0])
def danSh : Sh := (0, 4, [0, 0, 0, 0])
def rcs (a n : Nat) : List Nat := (List.range n).map fun i => a + i + 2
def rcs37 (a n : Nat) : List Nat := (List.range n).map fun i => a + 37 * i + 2
theorem rcs_get {a n k : Nat} (h : k < n) : (rcs a n).getD k 0 = a + k + 2 := by simp [rcs, h]
theorem rcs37_get {a n k : Nat} (h : k < n) : (rcs37 a n).getD k 0 = a + 37 * k + 2 := by simp [rcs37, h]
def stuSh (o : Nat) : Sh := (4, 14, [o + 1 + 2, o + 6 + 2, o + 12 + 2, o + 23 + 2, o + 36 + 2, 0, 0, 0, 0, 0, 0, 0, 0, 0])
def IsStu (S : Nat → Option Sh) (o : Nat) : Prop := S o = some (stuSh o) ∧ S (o + 1) = some (21, 4, rcs (o + 2) 4) ∧ (∀ i, i < 4 → S (o + 2 + i) = some floSh) ∧ S (o + 6) = some (25, 5, rcs (o + 7) 5) ∧ (∀ i, i < 5 → S (o + 7 + i) = some teaSh) ∧
  S (o + 12) = some (23, 10, rcs (o + 13) 10) ∧ (∀ i, i < 10 → S (o + 13 + i) = some lesSh) ∧ S (o + 23) = some (20, 12, rcs (o + 24) 12) ∧ (∀ i, i < 12 → S (o + 24 + i) = some danSh) ∧ S (o + 36) = some (16, 2, [])
section STU
variable {S : Nat → Option Sh} {o : Nat}
theorem IsStu.s0 (h : IsStu S o) : S o = some (stuSh o) := h.1
theorem IsStu.fa (h : IsStu S o) : S (o + 1) = some (21, 4, rcs (o + 2) 4) := h.2.1
theorem IsStu.fi (h : IsStu S o) {i : Nat} (hi : i < 4) : S (o + 2 + i) = some floSh := h.2.2.1 i hi
theorem IsStu.ta (h : IsStu S o) : S (o + 6) = some (25, 5, rcs (o + 7) 5) := h.2.2.2.1
theorem IsStu.ti (h : IsStu S o) {i : Nat} (hi : i < 5) : S (o + 7 + i) = some teaSh := h.2.2.2.2.1 i hi
theorem IsStu.la (h : IsStu S o) : S (o + 12) = some (23, 10, rcs (o + 13) 10) := h.2.2.2.2.2.1
theorem IsStu.li (h : IsStu S o) {i : Nat} (hi : i < 10) : S (o + 13 + i) = some lesSh := h.2.2.2.2.2.2.1 i hi
theorem IsStu.da (h : IsStu S o) : S (o + 23) = some (20, 12, rcs (o + 24) 12) := h.2.2.2.2.2.2.2.1
theorem IsStu.di (h : IsStu S o) {i : Nat} (hi : i < 12) : S (o + 24 + i) = some danSh := h.2.2.2.2.2.2.2.2.1 i hi
theorem IsStu.se (h : IsStu S o) : S (o + 36) = some (16, 2, []) := h.2.2.2.2.2.2.2.2.2
end STU
def IsTxt (S : Nat → Option Sh) (o : Nat) : Prop := S o = some (6, 6, [o + 1 + 2, o + 2 + 2, 0, 0, 0, 0]) ∧ S (o + 1) = some (17, 120, []) ∧ S (o + 2) = some (16, 6, [])
def IsHis (S : Nat → Option Sh) (o : Nat) : Prop := S o = some (2, 3, [o + 1 + 2, 0, 0]) ∧ S (o + 1) = some (24, 14, rcs37 (o + 2) 14) ∧ ∀ i, i < 14 → IsStu S (o + 2 + 37 * i)
def IsDF (S : Nat → Option Sh) (o : Nat) : Prop := S o = some (7, 6, [o + 1 + 2, o + 4 + 2, o + 41 + 2, o + 78 + 2, o + 598 + 2, o + 673 + 2]) ∧ IsTxt S (o + 1) ∧ IsStu S (o + 4) ∧ IsStu S (o + 41) ∧ IsHis S (o + 78) ∧ S (o + 598) = some (24, 2, rcs37 (o + 599) 2) ∧ (∀ i, i < 2 → IsStu S (o + 599 + 37 * i)) ∧ S (o + 673) = some (18, 2, [])
def IsMod (S : Nat → Option Sh) (m : Nat) : Prop := S m = some (8, 9, [0, m + 1 + 2, 0, m + 2 + 2, m + 3 + 2, 0, 0, 0, m + 4 + 2]) ∧ S (m + 1) = some (16, 3402, []) ∧ S (m + 2) = some (16, 2, []) ∧ S (m + 3) = some (16, 120, []) ∧ S (m + 4) = some (16, 6, [])
/-- rows of the memory -/
def sR (M : Mem) (r : Nat) (f : Nat → Int32) : Mem := fun r' j => if r' = r then f j else M r' j
theorem sR_s (M : Mem) (r : Nat) (f : Nat → Int32) : sR M r f r = f := by funext j; exact if_pos rfl
theorem sR_o (M : Mem) (r : Nat) (f : Nat → Int32) {r' : Nat} (h : r' ≠ r) : sR M r f r' = M r' := by funext j; exact if_neg h
theorem sR_sR (M : Mem) (r : Nat) (f g : Nat → Int32) : sR (sR M r f) r g = sR M r g := by
  funext r' j
  by_cases h : r' = r
  · simp [sR, h]
  · simp [sR, h]
theorem sR_self (M : Mem) (r : Nat) : sR M r (M r) = M := by
  funext r' j
  by_cases h : r' = r
  · simp [sR, h]
  · simp [sR, h]
theorem upM_sR (M : Mem) (r k : Nat) (x : Int32) : upM M r k x = sR M r (upd (M r) k x) := by
  funext r' j
  by_cases h : r' = r
  · subst h
    by_cases hj : j = k
    · simp [upM, sR, upd, hj]
    · simp [upM, sR, upd, hj]
  · simp [upM, sR, h]
end
section
theorem pn_X0 : plainName RX0 = true := by decide +kernel
theorem pn_X1 : plainName RX1 = true := by decide +kernel
theorem pn_X2 : plainName RX2 = true := by decide +kernel
theorem pn_X3 : plainName RX3 = true := by decide +kernel
theorem pn_X4 : plainName RX4 = true := by decide +kernel
theorem pn_X5 : plainName RX5 = true := by decide +kernel
theorem pn_X6 : plainName RX6 = true := by decide +kernel
theorem pn_X7 : plainName RX7 = true := by decide +kernel
theorem pn_X8 : plainName RX8 = true := by decide +kernel
theorem pn_L : plainName RL = true := by decide +kernel
theorem pn_J6 : plainName RJ6 = true := by decide +kernel
theorem i32le {a b : Int32} : (a ≤ b) = ¬ (b < a) := propext Int32.not_lt.symm
def ushr (x k : Int32) : Int32 := (x.toUInt32 >>> (k.toUInt32 &&& Int32.toUInt32 31)).toInt32
def bcI (x : Int32) : Int32 :=
  let a := x - (ushr x 1 &&& 1431655765)
  let b := (a &&& 858993459) + (ushr a 2 &&& 858993459)
  let c := (b + ushr b 4) &&& 252645135
  let d := c + ushr c 8
  (d + ushr d 16) &&& 63
def minI (a b : Int32) : Int32 := if a ≤ b then a else b
def maxI (a b : Int32) : Int32 := if b ≤ a then a else b
def bitS (s d : Int32) : Bool := decide ((s >>> (d &&& 31)) &&& 1 = 1)
def sprOK (sp style level : Int32) : Bool := if style = 0 then decide (4 ≤ sp) else if style = 1 then decide (sp ≤ 5) else if style = 2 then decide (3 + level ≤ sp) else true
def barOK (ba style level : Int32) : Bool := !decide (style = 0) || decide (2 * level + 4 ≤ ba)
def mirOK (mi style level : Int32) : Bool := if style = 0 then decide (level / 2 ≤ mi) else if style = 1 then decide (1 ≤ mi) else true
def tkI (pl ba style : Int32) : Int32 := if style = 0 ∧ ba / 2 < pl then ba / 2 else pl
theorem sw_ne {x : Int32} {a c : Int} (h : x.toInt < a ∨ c < x.toInt) (k : Int32) (hk : a ≤ k.toInt ∧ k.toInt ≤ c) : ¬ x = k := by
  intro e
  subst e
  omega
theorem i32_ne {x k : Int32} (h : ¬ x = k) : ¬ x.toInt = k.toInt := fun e => h (Int32.toInt_inj.mp e)
def tkJ (pl e : Int32) : Int32 := if e < pl then e else pl
theorem minI_tk (a b : Int32) : minI a b = tkJ a b := by
  unfold minI tkJ
  by_cases h : a ≤ b
  · have : ¬ b < a := Int32.not_lt.mpr h
    simp [h, this]
  · have : b < a := Int32.not_le.mp h
    simp [h, this]
def cpR (n : Nat) (f g : Nat → Int32) : Nat → Int32 := fun k => if k < n then f k else g k
theorem sw_cases (x : Int32) (lo n : Nat) (h : lo + n ≤ 100000) : (∃ j, j < n ∧ x = nI (lo + j)) ∨ (x.toInt < (lo : Int) ∨ ((lo + n : Nat) : Int) - 1 < x.toInt) := by
  by_cases h1 : x.toInt < (lo : Int)
  · exact Or.inr (Or.inl h1)
  · by_cases h2 : ((lo + n : Nat) : Int) - 1 < x.toInt
    · exact Or.inr (Or.inr h2)
    · refine Or.inl ⟨(x.toInt - lo).toNat, by omega, ?_⟩
      have h3 : 0 ≤ x.toInt := by omega
      obtain ⟨j, hj, rfl⟩ := nI_of (x := x) (fun hh => by
        have h4 : x.toInt < (0 : Int32).toInt := Int32.lt_iff_toInt_lt.mp hh
        have h5 : (0 : Int32).toInt = 0 := by decide
        omega)
      rw [nI_toInt hj]
      rw [nI_toInt hj] at h1 h2
      congr 1
      omega
theorem jmin_cd : Cond.code Lib.Math.min.name Lib.Math.min.code 2 (some .int) ∈ tblG := cw_J9_min_7cf53
theorem jmin_st : Cond.static Lib.Math.min.name ∈ tblG := sm_J9_min_7cf53
theorem jmin_in : Cond.initialized "java/lang/Math" ∈ tblG := mk_J9_min_7cf53.2.1
theorem g_mmin {X : Xs} {y : MI} {is : List (Instr × Nat)} {pc : Nat} {lo : Lo} {st : List Value} {nc ks : Nat} {κ : Kp} {M : Mem} {Q : Rs → Kp → Mem → Prop} {own : String} {idx : Nat} {x z : Int32} (hl : Cond.methodLink own idx Lib.Math.min.name ∈ tblG) (ho : y.1.cls = own) (hf : 1 ≤ (rmOf y).frames) (hlo : (st.map Value.category).sum + 13 ≤ (rmOf y).locals) (h1 : nc ≤ (rmOf y).cells) (h2 : ks ≤ (rmOf y).slots)
    (kk : G X y is (pc + 3) lo (.int (if z < x then z else x) :: st) nc ks κ M Q) : G X y ((.invokestatic idx, 3) :: is) pc lo (.int z :: .int x :: st) nc ks κ M Q := by
  intro hA l p e s m args below meth c b Z D H locs ls hC hR hS hL
  subst ho
  exact va_mmin hC.2.1 hC.2.2.1 (hC.2.2.2.1.trans hL.1.symm) hC.own (hC.word hl) (hC.word jmin_st) (hC.word jmin_in) (hC.word jmin_cd) hf (by rw [cat_map]; exact hlo) h1 h2 hA.1 (kk hA.2 l p e s m args below meth c b Z D H locs ls hC hR hS hL)
theorem jmax_cd : Cond.code Lib.Math.max.name Lib.Math.max.code 2 (some .int) ∈ tblG := cw_J9_max_7cf53
theorem jmax_st : Cond.static Lib.Math.max.name ∈ tblG := sm_J9_max_7cf53
theorem jmax_in : Cond.initialized "java/lang/Math" ∈ tblG := mk_J9_max_7cf53.2.1
theorem g_mmax {X : Xs} {y : MI} {is : List (Instr × Nat)} {pc : Nat} {lo : Lo} {st : List Value} {nc ks : Nat} {κ : Kp} {M : Mem} {Q : Rs → Kp → Mem → Prop} {own : String} {idx : Nat} {x z : Int32} (hl : Cond.methodLink own idx Lib.Math.max.name ∈ tblG) (ho : y.1.cls = own) (hf : 1 ≤ (rmOf y).frames) (hlo : (st.map Value.category).sum + 13 ≤ (rmOf y).locals) (h1 : nc ≤ (rmOf y).cells) (h2 : ks ≤ (rmOf y).slots)
    (kk : G X y is (pc + 3) lo (.int (if x < z then z else x) :: st) nc ks κ M Q) : G X y ((.invokestatic idx, 3) :: is) pc lo (.int z :: .int x :: st) nc ks κ M Q := by
  intro hA l p e s m args below meth c b Z D H locs ls hC hR hS hL
  subst ho
  exact va_mmax hC.2.1 hC.2.2.1 (hC.2.2.2.1.trans hL.1.symm) hC.own (hC.word hl) (hC.word jmax_st) (hC.word jmax_in) (hC.word jmax_cd) hf (by rw [cat_map]; exact hlo) h1 h2 hA.1 (kk hA.2 l p e s m args below meth c b Z D H locs ls hC hR hS hL)
set_option maxRecDepth 100000 in
set_option maxHeartbeats 4000000 in
theorem ct_J6_bitCount_0f7a4 {X : Xs} {κ : Kp} {M : Mem} {Q : Rs → Kp → Mem → Prop} {a : Int32} (hQ : Q (.inl (some (.int (bcI a)))) κ M) : Ct X m_J6_bitCount_0f7a4 [.int a] κ M Q := by
  refine ct_of B_J6_bitCount_0f7a4_0 pn_J6 rfl (nle rfl) L_J6_bitCount_0f7a4_0 ?_
  refine g_iload_n rfl ?_
  refine g_iload_n rfl ?_
  refine g_iconst (v := 1) ik_1 ?_
  refine g_iushr ?_
  refine g_ldcw rfl kc_J6_265 ?_
  refine g_iand ?_
  refine g_isub ?_
  refine g_istore_n (nle rfl) ?_
  refine g_iload_n rfl ?_
  refine g_ldcw rfl kc_J6_266 ?_
  refine g_iand ?_
  refine g_iload_n rfl ?_
  refine g_iconst (v := 2) ik_2 ?_
  refine g_iushr ?_
  refine g_ldcw rfl kc_J6_266 ?_
  refine g_iand ?_
  refine g_iadd ?_
  refine g_istore_n (nle rfl) ?_
  refine g_iload_n rfl ?_
  refine g_iload_n rfl ?_
  refine g_iconst (v := 4) ik_4 ?_
  refine g_iushr ?_
  refine g_iadd ?_
  refine g_ldcw rfl kc_J6_267 ?_
  refine g_iand ?_
  refine g_istore_n (nle rfl) ?_
  refine g_iload_n rfl ?_
  refine g_iload_n rfl ?_
  refine g_bipush (v := 8) bk_8 ?_
  refine g_iushr ?_
  refine g_iadd ?_
  refine g_istore_n (nle rfl) ?_
  refine g_iload_n rfl ?_
  refine g_iload_n rfl ?_
  refine g_bipush (v := 16) bk_16 ?_
  refine g_iushr ?_
  refine g_iadd ?_
  refine g_istore_n (nle rfl) ?_
  refine g_iload_n rfl ?_
  refine g_bipush (v := 63) bk_63 ?_
  refine g_iand ?_
  refine g_iret rfl (nle rfl) (nle rfl) ?_
  exact hQ
set_option maxRecDepth 100000 in
set_option maxHeartbeats 4000000 in
theorem ct_X3_isAt {X : Xs} {κ : Kp} {M : Mem} {Q : Rs → Kp → Mem → Prop} {r : Nat} (hr : κ.2.1 r = some lesSh) {d h : Int32} (hQ : Q (.inl (some (.int (bI (decide (M r 4 = d) && decide (M r 5 = h)))))) κ M) : Ct X m_X3_isAt [.ref r, .int d, .int h] κ M Q := by
  refine ct_of B_X3_isAt_0 pn_X3 rfl (nle rfl) L_X3_isAt_0 ?_
  refine g_aload_n rfl ?_
  refine g_getI fl_X3_22 rfl hr rfl ?_
  refine g_iload_n rfl ?_
  refine g_icmp_ne rfl L_X3_isAt_20 (fun h_1 => ?_) (fun h_1 => ?_)
  · refine g_iconst (v := 0) ik_0 ?_
    refine g_fall rfl L_X3_isAt_21 ?_
    refine g_zret rfl rfl (nle rfl) (nle rfl) ?_
    exact qeq hQ (by clear hQ; simp_all [bI, i32le, -Int32.not_lt]) rfl
  · refine g_aload_n rfl ?_
    refine g_getI fl_X3_25 rfl hr rfl ?_
    refine g_iload_n rfl ?_
    refine g_icmp_ne rfl L_X3_isAt_20 (fun h_2 => ?_) (fun h_2 => ?_)
    · refine g_iconst (v := 0) ik_0 ?_
      refine g_fall rfl L_X3_isAt_21 ?_
      refine g_zret rfl rfl (nle rfl) (nle rfl) ?_
      exact qeq hQ (by clear hQ; simp_all [bI, i32le, -Int32.not_lt]) rfl
    · refine g_iconst (v := 1) ik_1 ?_
      refine g_goto rfl L_X3_isAt_21 ?_
      refine g_zret rfl rfl (nle rfl) (nle rfl) ?_
      exact qeq hQ (by clear hQ; simp_all [bI, i32le, -Int32.not_lt]) rfl
set_option maxRecDepth 100000 in
set_option maxHeartbeats 4000000 in
theorem ct_X3_seatsDancer {X : Xs} {κ : Kp} {M : Mem} {Q : Rs → Kp → Mem → Prop} {r : Nat} (hr : κ.2.1 r = some lesSh) {d : Int32} (hQ : Q (.inl (some (.int (bI (bitS (M r 6) d))))) κ M) : Ct X m_X3_seatsDancer [.ref r, .int d] κ M Q := by
  refine ct_of B_X3_seatsDancer_0 pn_X3 rfl (nle rfl) L_X3_seatsDancer_0 ?_
  refine g_aload_n rfl ?_
  refine g_getI fl_X3_28 rfl hr rfl ?_
  refine g_iload_n rfl ?_
  refine g_ishr ?_
  refine g_iconst (v := 1) ik_1 ?_
  refine g_iand ?_
  refine g_iconst (v := 1) ik_1 ?_
  refine g_icmp_ne rfl L_X3_seatsDancer_16 (fun h_1 => ?_) (fun h_1 => ?_)
  · refine g_iconst (v := 0) ik_0 ?_
    refine g_fall rfl L_X3_seatsDancer_17 ?_
    refine g_zret rfl rfl (nle rfl) (nle rfl) ?_
    exact qeq hQ (by clear hQ; simp_all [bI, bitS, i32le, -Int32.not_lt]) rfl
  · refine g_iconst (v := 1) ik_1 ?_
    refine g_goto rfl L_X3_seatsDancer_17 ?_
    refine g_zret rfl rfl (nle rfl) (nle rfl) ?_
    exact qeq hQ (by clear hQ; simp_all [bI, bitS, i32le, -Int32.not_lt]) rfl
set_option maxRecDepth 100000 in
set_option maxHeartbeats 4000000 in
theorem ct_X3_countSeats {X : Xs} {κ : Kp} {M : Mem} {Q : Rs → Kp → Mem → Prop} {r : Nat} (hr : κ.2.1 r = some lesSh) (hQ : Q (.inl (some (.int (bcI (M r 6))))) κ M) : Ct X m_X3_countSeats [.ref r] κ M Q := by
  refine ct_of B_X3_countSeats_0 pn_X3 rfl (nle rfl) L_X3_countSeats_0 ?_
  refine g_aload_n rfl ?_
  refine g_getI fl_X3_28 rfl hr rfl ?_
  refine g_callS (as := [_]) mk_J6_bitCount_0f7a4 ml_X3_37 sm_J6_bitCount_0f7a4 rfl rfl ⟨⟨nle rfl, nle rfl⟩, nle rfl, nle rfl⟩ rfl rfl (nle rfl) ?_
  refine ct_J6_bitCount_0f7a4 ?_
  refine kq_s ?_
  refine g_iret rfl (nle rfl) (nle rfl) ?_
  exact hQ
set_option maxRecDepth 100000 in
set_option maxHeartbeats 4000000 in
theorem ct_X0_copyFrom {X : Xs} {κ : Kp} {M : Mem} {Q : Rs → Kp → Mem → Prop} {r r2 : Nat} (hr : κ.2.1 r = some danSh) (hr2 : κ.2.1 r2 = some danSh) (hne : ¬ r2 = r) (hQ : Q (.inl none) κ (sR M r (cpR 4 (M r2) (M r)))) : Ct X m_X0_copyFrom [.ref r, .ref r2] κ M Q := by
  refine ct_of B_X0_copyFrom_0 pn_X0 rfl (nle rfl) L_X0_copyFrom_0 ?_
  refine g_aload_n rfl ?_
  refine g_aload_n rfl ?_
  refine g_getI fl_X0_9 rfl hr2 rfl ?_
  refine g_putI pl_X0_9 rfl hr rfl rfl rfl ?_
  refine g_aload_n rfl ?_
  refine g_aload_n rfl ?_
  refine g_getI fl_X0_15 rfl hr2 rfl ?_
  refine g_putI pl_X0_15 rfl hr rfl rfl rfl ?_
  refine g_aload_n rfl ?_
  refine g_aload_n rfl ?_
  refine g_getI fl_X0_18 rfl hr2 rfl ?_
  refine g_putI pl_X0_18 rfl hr rfl rfl rfl ?_
  refine g_aload_n rfl ?_
  refine g_aload_n rfl ?_
  refine g_getI fl_X0_21 rfl hr2 rfl ?_
  refine g_putI pl_X0_21 rfl hr rfl rfl rfl ?_
  refine g_vret rfl (nle rfl) (nle rfl) ?_
  refine qeqv hQ ?_
  funext r' j
  by_cases hr' : r' = r
  · subst hr'
    by_cases hj : j < 4
    · have hc : j = 0 ∨ j = 1 ∨ j = 2 ∨ j = 3 := by omega
      rcases hc with rfl|rfl|rfl|rfl <;> simp [upM, sR, cpR, hne]
    · simp [upM, sR, cpR, hj, show ¬ j = 0 by omega, show ¬ j = 1 by omega, show ¬ j = 2 by omega, show ¬ j = 3 by omega]
  · simp [upM, sR, hr']
set_option maxRecDepth 100000 in
set_option maxHeartbeats 4000000 in
theorem ct_X1_copyFrom {X : Xs} {κ : Kp} {M : Mem} {Q : Rs → Kp → Mem → Prop} {r r2 : Nat} (hr : κ.2.1 r = some floSh) (hr2 : κ.2.1 r2 = some floSh) (hne : ¬ r2 = r) (hQ : Q (.inl none) κ (sR M r (cpR 4 (M r2) (M r)))) : Ct X m_X1_copyFrom [.ref r, .ref r2] κ M Q := by
  refine ct_of B_X1_copyFrom_0 pn_X1 rfl (nle rfl) L_X1_copyFrom_0 ?_
  refine g_aload_n rfl ?_
  refine g_aload_n rfl ?_
  refine g_getI fl_X1_9 rfl hr2 rfl ?_
  refine g_putI pl_X1_9 rfl hr rfl rfl rfl ?_
  refine g_aload_n rfl ?_
  refine g_aload_n rfl ?_
  refine g_getI fl_X1_15 rfl hr2 rfl ?_
  refine g_putI pl_X1_15 rfl hr rfl rfl rfl ?_
  refine g_aload_n rfl ?_
  refine g_aload_n rfl ?_
  refine g_getI fl_X1_18 rfl hr2 rfl ?_
  refine g_putI pl_X1_18 rfl hr rfl rfl rfl ?_
  refine g_aload_n rfl ?_
  refine g_aload_n rfl ?_
  refine g_getI fl_X1_21 rfl hr2 rfl ?_
  refine g_putI pl_X1_21 rfl hr rfl rfl rfl ?_
  refine g_vret rfl (nle rfl) (nle rfl) ?_
  refine qeqv hQ ?_
  funext r' j
  by_cases hr' : r' = r
  · subst hr'
    by_cases hj : j < 4
    · have hc : j = 0 ∨ j = 1 ∨ j = 2 ∨ j = 3 := by omega
      rcases hc with rfl|rfl|rfl|rfl <;> simp [upM, sR, cpR, hne]
    · simp [upM, sR, cpR, hj, show ¬ j = 0 by omega, show ¬ j = 1 by omega, show ¬ j = 2 by omega, show ¬ j = 3 by omega]
  · simp [upM, sR, hr']
set_option maxRecDepth 100000 in
set_option maxHeartbeats 4000000 in
theorem ct_X3_copyFrom {X : Xs} {κ : Kp} {M : Mem} {Q : Rs → Kp → Mem → Prop} {r r2 : Nat} (hr : κ.2.1 r = some lesSh) (hr2 : κ.2.1 r2 = some lesSh) (hne : ¬ r2 = r) (hQ : Q (.inl none) κ (sR M r (cpR 9 (M r2) (M r)))) : Ct X m_X3_copyFrom [.ref r, .ref r2] κ M Q := by
  refine ct_of B_X3_copyFrom_0 pn_X3 rfl (nle rfl) L_X3_copyFrom_0 ?_
  refine g_aload_n rfl ?_
  refine g_aload_n rfl ?_
  refine g_getI fl_X3_7 rfl hr2 rfl ?_
  refine g_putI pl_X3_7 rfl hr rfl rfl rfl ?_
  refine g_aload_n rfl ?_
  refine g_aload_n rfl ?_
  refine g_getI fl_X3_13 rfl hr2 rfl ?_
  refine g_putI pl_X3_13 rfl hr rfl rfl rfl ?_
  refine g_aload_n rfl ?_
  refine g_aload_n rfl ?_
  refine g_getI fl_X3_16 rfl hr2 rfl ?_
  refine g_putI pl_X3_16 rfl hr rfl rfl rfl ?_
  refine g_aload_n rfl ?_
  refine g_aload_n rfl ?_
  refine g_getI fl_X3_19 rfl hr2 rfl ?_
  refine g_putI pl_X3_19 rfl hr rfl rfl rfl ?_
  refine g_aload_n rfl ?_
  refine g_aload_n rfl ?_
  refine g_getI fl_X3_22 rfl hr2 rfl ?_
  refine g_putI pl_X3_22 rfl hr rfl rfl rfl ?_
  refine g_aload_n rfl ?_
  refine g_aload_n rfl ?_
  refine g_getI fl_X3_25 rfl hr2 rfl ?_
  refine g_putI pl_X3_25 rfl hr rfl rfl rfl ?_
  refine g_aload_n rfl ?_
  refine g_aload_n rfl ?_
  refine g_getI fl_X3_28 rfl hr2 rfl ?_
  refine g_putI pl_X3_28 rfl hr rfl rfl rfl ?_
  refine g_aload_n rfl ?_
  refine g_aload_n rfl ?_
  refine g_getI fl_X3_31 rfl hr2 rfl ?_
  refine g_putI pl_X3_31 rfl hr rfl rfl rfl ?_
  refine g_aload_n rfl ?_
  refine g_aload_n rfl ?_
  refine g_getI fl_X3_34 rfl hr2 rfl ?_
  refine g_putI pl_X3_34 rfl hr rfl rfl rfl ?_
  refine g_vret rfl (nle rfl) (nle rfl) ?_
  refine qeqv hQ ?_
  funext r' j
  by_cases hr' : r' = r
  · subst hr'
    by_cases hj : j < 9
    · have hc : j = 0 ∨ j = 1 ∨ j = 2 ∨ j = 3 ∨ j = 4 ∨ j = 5 ∨ j = 6 ∨ j = 7 ∨ j = 8 := by omega
      rcases hc with rfl|rfl|rfl|rfl|rfl|rfl|rfl|rfl|rfl <;> simp [upM, sR, cpR, hne]
    · simp [upM, sR, cpR, hj, show ¬ j = 0 by omega, show ¬ j = 1 by omega, show ¬ j = 2 by omega, show ¬ j = 3 by omega, show ¬ j = 4 by omega, show ¬ j = 5 by omega, show ¬ j = 6 by omega, show ¬ j = 7 by omega, show ¬ j = 8 by omega]
  · simp [upM, sR, hr']
set_option maxRecDepth 100000 in
set_option maxHeartbeats 4000000 in
theorem ct_X5_copyFrom {X : Xs} {κ : Kp} {M : Mem} {Q : Rs → Kp → Mem → Prop} {r r2 : Nat} (hr : κ.2.1 r = some teaSh) (hr2 : κ.2.1 r2 = some teaSh) (hne : ¬ r2 = r) (hQ : Q (.inl none) κ (sR M r (cpR 2 (M r2) (M r)))) : Ct X m_X5_copyFrom [.ref r, .ref r2] κ M Q := by
  refine ct_of B_X5_copyFrom_0 pn_X5 rfl (nle rfl) L_X5_copyFrom_0 ?_
  refine g_aload_n rfl ?_
  refine g_aload_n rfl ?_
  refine g_getI fl_X5_7 rfl hr2 rfl ?_
  refine g_putI pl_X5_7 rfl hr rfl rfl rfl ?_
  refine g_aload_n rfl ?_
  refine g_aload_n rfl ?_
  refine g_getI fl_X5_13 rfl hr2 rfl ?_
  refine g_putI pl_X5_13 rfl hr rfl rfl rfl ?_
  refine g_vret rfl (nle rfl) (nle rfl) ?_
  refine qeqv hQ ?_
  funext r' j
  by_cases hr' : r' = r
  · subst hr'
    by_cases hj : j < 2
    · have hc : j = 0 ∨ j = 1 := by omega
      rcases hc with rfl|rfl <;> simp [upM, sR, cpR, hne]
    · simp [upM, sR, cpR, hj, show ¬ j = 0 by omega, show ¬ j = 1 by omega]
  · simp [upM, sR, hr']
set_option maxRecDepth 100000 in
set_option maxHeartbeats 4000000 in
theorem ct_X1_hasSpringFor {X : Xs} {κ : Kp} {M : Mem} {Q : Rs → Kp → Mem → Prop} {r : Nat} (hr : κ.2.1 r = some floSh) {style level : Int32} (hQ : Q (.inl (some (.int (bI (sprOK (M r 0) style level))))) κ M) : Ct X m_X1_hasSpringFor [.ref r, .int style, .int level] κ M Q := by
  refine ct_of B_X1_hasSpringFor_0 pn_X1 rfl (nle rfl) L_X1_hasSpringFor_0 ?_
  refine g_iload_n rfl ?_
  rcases sw_cases style 0 3 (nle rfl) with ⟨j_1, hj_1, hx_1⟩ | ho_1
  · have hc_1 : j_1 = 0 ∨ j_1 = 1 ∨ j_1 = 2 := by omega
    rcases hc_1 with rfl | rfl | rfl
    · replace hx_1 : style = 0 := hx_1.trans (by decide)
      refine g_tabIn (off := 27) (by rw [hx_1]; decide) (by rw [hx_1]; decide) (by rw [hx_1]; decide) rfl L_X1_hasSpringFor_28 ?_
      refine g_aload_n rfl ?_
      refine g_getI fl_X1_9 rfl hr rfl ?_
      refine g_iconst (v := 4) ik_4 ?_
      refine g_icmp_lt rfl L_X1_hasSpringFor_40 (fun h_1 => ?_) (fun h_1 => ?_)
      · refine g_iconst (v := 0) ik_0 ?_
        refine g_fall rfl L_X1_hasSpringFor_41 ?_
        refine g_zret rfl rfl (nle rfl) (nle rfl) ?_
        exact qeq hQ (by clear hQ; simp_all [bI, sprOK, i32le, -Int32.not_lt]) rfl
      · refine g_iconst (v := 1) ik_1 ?_
        refine g_goto rfl L_X1_hasSpringFor_41 ?_
        refine g_zret rfl rfl (nle rfl) (nle rfl) ?_
        exact qeq hQ (by clear hQ; simp_all [bI, sprOK, i32le, -Int32.not_lt]) rfl
    · replace hx_1 : style = 1 := hx_1.trans (by decide)
      refine g_tabIn (off := 41) (by rw [hx_1]; decide) (by rw [hx_1]; decide) (by rw [hx_1]; decide) rfl L_X1_hasSpringFor_42 ?_
      refine g_aload_n rfl ?_
      refine g_getI fl_X1_9 rfl hr rfl ?_
      refine g_iconst (v := 5) ik_5 ?_
      refine g_icmp_gt rfl L_X1_hasSpringFor_54 (fun h_2 => ?_) (fun h_2 => ?_)
      · refine g_iconst (v := 0) ik_0 ?_
        refine g_fall rfl L_X1_hasSpringFor_55 ?_
        refine g_zret rfl rfl (nle rfl) (nle rfl) ?_
        exact qeq hQ (by clear hQ; simp_all [bI, sprOK, i32le, -Int32.not_lt]) rfl
      · refine g_iconst (v := 1) ik_1 ?_
        refine g_goto rfl L_X1_hasSpringFor_55 ?_
        refine g_zret rfl rfl (nle rfl) (nle rfl) ?_
        exact qeq hQ (by clear hQ; simp_all [bI, sprOK, i32le, -Int32.not_lt]) rfl
    · replace hx_1 : style = 2 := hx_1.trans (by decide)
      refine g_tabIn (off := 55) (by rw [hx_1]; decide) (by rw [hx_1]; decide) (by rw [hx_1]; decide) rfl L_X1_hasSpringFor_56 ?_
      refine g_aload_n rfl ?_
      refine g_getI fl_X1_9 rfl hr rfl ?_
      refine g_iconst (v := 3) ik_3 ?_
      refine g_iload_n rfl ?_
      refine g_iadd ?_
      refine g_icmp_lt rfl L_X1_hasSpringFor_70 (fun h_3 => ?_) (fun h_3 => ?_)
      · refine g_iconst (v := 0) ik_0 ?_
        refine g_fall rfl L_X1_hasSpringFor_71 ?_
        refine g_zret rfl rfl (nle rfl) (nle rfl) ?_
        exact qeq hQ (by clear hQ; simp_all [bI, sprOK, i32le, -Int32.not_lt]) rfl
      · refine g_iconst (v := 1) ik_1 ?_
        refine g_goto rfl L_X1_hasSpringFor_71 ?_
        refine g_zret rfl rfl (nle rfl) (nle rfl) ?_
        exact qeq hQ (by clear hQ; simp_all [bI, sprOK, i32le, -Int32.not_lt]) rfl
  · refine g_tabOut (ho_1.imp (fun h => h) (fun h => h)) rfl L_X1_hasSpringFor_72 ?_
    have hd_1_0 : ¬ style = 0 := sw_ne ho_1 0 (by decide)
    have hd_1_1 : ¬ style = 1 := sw_ne ho_1 1 (by decide)
    have hd_1_2 : ¬ style = 2 := sw_ne ho_1 2 (by decide)
    refine g_iconst (v := 1) ik_1 ?_
    refine g_zret rfl rfl (nle rfl) (nle rfl) ?_
    exact qeq hQ (by clear hQ; simp_all [bI, sprOK, i32le, -Int32.not_lt]) rfl
set_option maxRecDepth 100000 in
set_option maxHeartbeats 4000000 in
theorem ct_X1_hasMirrorsFor {X : Xs} {κ : Kp} {M : Mem} {Q : Rs → Kp → Mem → Prop} {r : Nat} (hr : κ.2.1 r = some floSh) {style level : Int32} (hQ : Q (.inl (some (.int (bI (mirOK (M r 1) style level))))) κ M) : Ct X m_X1_hasMirrorsFor [.ref r, .int style, .int level] κ M Q := by
  refine ct_of B_X1_hasMirrorsFor_0 pn_X1 rfl (nle rfl) L_X1_hasMirrorsFor_0 ?_
  refine g_iload_n rfl ?_
  by_cases hv_1_0 : style = 0
  · refine g_lookup (off := 27) (by decide) (by rw [hv_1_0]; decide) rfl L_X1_hasMirrorsFor_28 ?_
    refine g_aload_n rfl ?_
    refine g_getI fl_X1_15 rfl hr rfl ?_
    refine g_iload_n rfl ?_
    refine g_iconst (v := 2) ik_2 ?_
    refine g_idiv (by decide) ?_
    refine g_icmp_lt rfl L_X1_hasMirrorsFor_42 (fun h_1 => ?_) (fun h_1 => ?_)
    · refine g_iconst (v := 0) ik_0 ?_
      refine g_fall rfl L_X1_hasMirrorsFor_43 ?_
      refine g_zret rfl rfl (nle rfl) (nle rfl) ?_
      exact qeq hQ (by clear hQ; simp_all [bI, mirOK, i32le, -Int32.not_lt]) rfl
    · refine g_iconst (v := 1) ik_1 ?_
      refine g_goto rfl L_X1_hasMirrorsFor_43 ?_
      refine g_zret rfl rfl (nle rfl) (nle rfl) ?_
      exact qeq hQ (by clear hQ; simp_all [bI, mirOK, i32le, -Int32.not_lt]) rfl
  by_cases hv_1_1 : style = 1
  · refine g_lookup (off := 43) (by decide) (by rw [hv_1_1]; decide) rfl L_X1_hasMirrorsFor_44 ?_
    refine g_aload_n rfl ?_
    refine g_getI fl_X1_15 rfl hr rfl ?_
    refine g_iconst (v := 1) ik_1 ?_
    refine g_icmp_lt rfl L_X1_hasMirrorsFor_56 (fun h_2 => ?_) (fun h_2 => ?_)
    · refine g_iconst (v := 0) ik_0 ?_
      refine g_fall rfl L_X1_hasMirrorsFor_57 ?_
      refine g_zret rfl rfl (nle rfl) (nle rfl) ?_
      exact qeq hQ (by clear hQ; simp_all [bI, mirOK, i32le, -Int32.not_lt]) rfl
    · refine g_iconst (v := 1) ik_1 ?_
      refine g_goto rfl L_X1_hasMirrorsFor_57 ?_
      refine g_zret rfl rfl (nle rfl) (nle rfl) ?_
      exact qeq hQ (by clear hQ; simp_all [bI, mirOK, i32le, -Int32.not_lt]) rfl
  refine g_lookup (off := 57) (by decide) (by have q0 := Ne.symm (i32_ne hv_1_0); have q1 := Ne.symm (i32_ne hv_1_1); simp_all [Op.lookupswitch.offset]) rfl L_X1_hasMirrorsFor_58 ?_
  refine g_iconst (v := 1) ik_1 ?_
  refine g_zret rfl rfl (nle rfl) (nle rfl) ?_
  exact qeq hQ (by clear hQ; simp_all [bI, mirOK, i32le, -Int32.not_lt]) rfl
set_option maxRecDepth 100000 in
set_option maxHeartbeats 4000000 in
theorem ct_X1_hasBarreFor {X : Xs} {κ : Kp} {M : Mem} {Q : Rs → Kp → Mem → Prop} {r : Nat} (hr : κ.2.1 r = some floSh) {style level : Int32} (hQ : Q (.inl (some (.int (bI (barOK (M r 2) style level))))) κ M) : Ct X m_X1_hasBarreFor [.ref r, .int style, .int level] κ M Q := by
  refine ct_of B_X1_hasBarreFor_0 pn_X1 rfl (nle rfl) L_X1_hasBarreFor_0 ?_
  refine g_iload_n rfl ?_
  refine g_if_ne rfl L_X1_hasBarreFor_16 (fun h_1 => ?_) (fun h_1 => ?_)
  · refine g_iconst (v := 1) ik_1 ?_
    refine g_goto rfl L_X1_hasBarreFor_21 ?_
    refine g_zret rfl rfl (nle rfl) (nle rfl) ?_
    exact qeq hQ (by clear hQ; simp_all [bI, barOK, i32le, -Int32.not_lt]) rfl
  · refine g_aload_n rfl ?_
    refine g_getI fl_X1_18 rfl hr rfl ?_
    refine g_iconst (v := 2) ik_2 ?_
    refine g_iload_n rfl ?_
    refine g_imul ?_
    refine g_iconst (v := 4) ik_4 ?_
    refine g_iadd ?_
    refine g_icmp_lt rfl L_X1_hasBarreFor_20 (fun h_2 => ?_) (fun h_2 => ?_)
    · refine g_iconst (v := 0) ik_0 ?_
      refine g_fall rfl L_X1_hasBarreFor_21 ?_
      refine g_zret rfl rfl (nle rfl) (nle rfl) ?_
      exact qeq hQ (by clear hQ; simp_all [bI, barOK, i32le, -Int32.not_lt]) rfl
    · refine g_fall rfl L_X1_hasBarreFor_16 ?_
      refine g_iconst (v := 1) ik_1 ?_
      refine g_goto rfl L_X1_hasBarreFor_21 ?_
      refine g_zret rfl rfl (nle rfl) (nle rfl) ?_
      exact qeq hQ (by clear hQ; simp_all [bI, barOK, i32le, -Int32.not_lt]) rfl
set_option maxRecDepth 100000 in
set_option maxHeartbeats 4000000 in
theorem ct_X1_roomFor {X : Xs} {κ : Kp} {M : Mem} {Q : Rs → Kp → Mem → Prop} {r : Nat} (hr : κ.2.1 r = some floSh) {style : Int32} (hQ : Q (.inl (some (.int (tkI (M r 3) (M r 2) style)))) κ M) : Ct X m_X1_roomFor [.ref r, .int style] κ M Q := by
  refine ct_of B_X1_roomFor_0 pn_X1 rfl (nle rfl) L_X1_roomFor_0 ?_
  refine g_iload_n rfl ?_
  refine g_if_ne rfl L_X1_roomFor_20 (fun h_1 => ?_) (fun h_1 => ?_)
  · refine g_aload_n rfl ?_
    refine g_getI fl_X1_21 rfl hr rfl ?_
    refine g_fall rfl L_X1_roomFor_24 ?_
    refine g_iret rfl (nle rfl) (nle rfl) ?_
    exact qeq hQ (by first | (simp_all [tkI]; done) | (rename_i hz; subst hz; rw [minI_tk]; simp [tkI, tkJ])) rfl
  · refine g_aload_n rfl ?_
    refine g_getI fl_X1_21 rfl hr rfl ?_
    refine g_aload_n rfl ?_
    refine g_getI fl_X1_18 rfl hr rfl ?_
    refine g_iconst (v := 2) ik_2 ?_
    refine g_idiv (by decide) ?_
    refine g_mmin ml_X1_24 rfl (nle rfl) (nle rfl) (nle rfl) (nle rfl) ?_
    refine g_goto rfl L_X1_roomFor_24 ?_
    refine g_iret rfl (nle rfl) (nle rfl) ?_
    exact qeq hQ (by first | (simp_all [tkI]; done) | (rename_i hz; subst hz; rw [minI_tk]; simp [tkI, tkJ])) rfl
set_option maxRecDepth 100000 in
set_option maxHeartbeats 4000000 in
theorem ct_X5_teaches {X : Xs} {κ : Kp} {M : Mem} {Q : Rs → Kp → Mem → Prop} {r : Nat} (hr : κ.2.1 r = some teaSh) {style level : Int32} (hQ : Q (.inl (some (.int (bI (bitS (M r 0) style && decide (level ≤ M r 1)))))) κ M) : Ct X m_X5_teaches [.ref r, .int style, .int level] κ M Q := by
  refine ct_of B_X5_teaches_0 pn_X5 rfl (nle rfl) L_X5_teaches_0 ?_
  refine g_aload_n rfl ?_
  refine g_getI fl_X5_7 rfl hr rfl ?_
  refine g_iload_n rfl ?_
  refine g_ishr ?_
  refine g_iconst (v := 1) ik_1 ?_
  refine g_iand ?_
  refine g_iconst (v := 1) ik_1 ?_
  refine g_icmp_ne rfl L_X5_teaches_24 (fun h_1 => ?_) (fun h_1 => ?_)
  · refine g_iconst (v := 0) ik_0 ?_
    refine g_fall rfl L_X5_teaches_25 ?_
    refine g_zret rfl rfl (nle rfl) (nle rfl) ?_
    exact qeq hQ (by clear hQ; simp_all [bI, bitS, i32le, -Int32.not_lt]) rfl
  · refine g_iload_n rfl ?_
    refine g_aload_n rfl ?_
    refine g_getI fl_X5_13 rfl hr rfl ?_
    refine g_icmp_gt rfl L_X5_teaches_24 (fun h_2 => ?_) (fun h_2 => ?_)
    · refine g_iconst (v := 0) ik_0 ?_
      refine g_fall rfl L_X5_teaches_25 ?_
      refine g_zret rfl rfl (nle rfl) (nle rfl) ?_
      exact qeq hQ (by clear hQ; simp_all [bI, bitS, i32le, -Int32.not_lt]) rfl
    · refine g_iconst (v := 1) ik_1 ?_
      refine g_goto rfl L_X5_teaches_25 ?_
      refine g_zret rfl rfl (nle rfl) (nle rfl) ?_
      exact qeq hQ (by clear hQ; simp_all [bI, bitS, i32le, -Int32.not_lt]) rfl
set_option maxRecDepth 100000 in
set_option maxHeartbeats 4000000 in
theorem ct_X0_usesSoFar {X : Xs} {κ : Kp} {M : Mem} {Q : Rs → Kp → Mem → Prop} {r : Nat} (hr : κ.2.1 r = some danSh) (hQ : Q (.inl (some (.int (10 * M r 3 - M r 2)))) κ M) : Ct X m_X0_usesSoFar [.ref r] κ M Q := by
  refine ct_of B_X0_usesSoFar_0 pn_X0 rfl (nle rfl) L_X0_usesSoFar_0 ?_
  refine g_bipush (v := 10) bk_10 ?_
  refine g_aload_n rfl ?_
  refine g_getI fl_X0_21 rfl hr rfl ?_
  refine g_imul ?_
  refine g_aload_n rfl ?_
  refine g_getI fl_X0_18 rfl hr rfl ?_
  refine g_isub ?_
  refine g_iret rfl (nle rfl) (nle rfl) ?_
  exact hQ
def danceR (f : Nat → Int32) (lv : Int32) : Nat → Int32 := upd (upd f 2 (f 2 - 1)) 1 (f 1 + if f 0 ≤ lv then lv else 1)
def riseR (f : Nat → Int32) (n : Int32) : Nat → Int32 := if n ≤ f 1 ∧ f 0 < 5 then upd (upd f 0 (f 0 + 1)) 1 0 else f
set_option maxRecDepth 100000 in
set_option maxHeartbeats 4000000 in
theorem ct_X0_dance {X : Xs} {κ : Kp} {M : Mem} {Q : Rs → Kp → Mem → Prop} {r : Nat} (hr : κ.2.1 r = some danSh) {lv : Int32} (hQ : Q (.inl none) κ (sR M r (danceR (M r) lv))) : Ct X m_X0_dance [.ref r, .int lv] κ M Q := by
  refine ct_of B_X0_dance_0 pn_X0 rfl (nle rfl) L_X0_dance_0 ?_
  refine g_aload_n rfl ?_
  refine g_dup rfl ?_
  refine g_getI fl_X0_18 rfl hr rfl ?_
  refine g_iconst (v := 1) ik_1 ?_
  refine g_isub ?_
  refine g_putI pl_X0_18 rfl hr rfl rfl rfl ?_
  refine g_aload_n rfl ?_
  refine g_dup rfl ?_
  refine g_getI fl_X0_15 rfl hr rfl ?_
  refine g_iload_n rfl ?_
  refine g_aload_n rfl ?_
  refine g_getI fl_X0_9 rfl hr rfl ?_
  refine g_icmp_lt rfl L_X0_dance_27 (fun h_1 => ?_) (fun h_1 => ?_)
  · refine g_iconst (v := 1) ik_1 ?_
    refine g_fall rfl L_X0_dance_28 ?_
    refine g_iadd ?_
    refine g_putI pl_X0_15 rfl hr rfl rfl rfl ?_
    refine g_vret rfl (nle rfl) (nle rfl) ?_
    exact qeqv hQ (by clear hQ; simp_all [i32le, -Int32.not_lt, upM_sR, sR_sR, sR_s, danceR, upd])
  · refine g_iload_n rfl ?_
    refine g_goto rfl L_X0_dance_28 ?_
    refine g_iadd ?_
    refine g_putI pl_X0_15 rfl hr rfl rfl rfl ?_
    refine g_vret rfl (nle rfl) (nle rfl) ?_
    exact qeqv hQ (by clear hQ; simp_all [i32le, -Int32.not_lt, upM_sR, sR_sR, sR_s, danceR, upd])
set_option maxRecDepth 100000 in
set_option maxHeartbeats 4000000 in
theorem ct_X0_riseWith {X : Xs} {κ : Kp} {M : Mem} {Q : Rs → Kp → Mem → Prop} {r : Nat} (hr : κ.2.1 r = some danSh) {n : Int32} (hQ : Q (.inl none) κ (sR M r (riseR (M r) n))) : Ct X m_X0_riseWith [.ref r, .int n] κ M Q := by
  refine ct_of B_X0_riseWith_0 pn_X0 rfl (nle rfl) L_X0_riseWith_0 ?_
  refine g_aload_n rfl ?_
  refine g_getI fl_X0_15 rfl hr rfl ?_
  refine g_iload_n rfl ?_
  refine g_icmp_lt rfl L_X0_riseWith_31 (fun h_1 => ?_) (fun h_1 => ?_)
  · refine g_vret rfl (nle rfl) (nle rfl) ?_
    exact qeqv hQ (by clear hQ; simp_all [i32le, -Int32.not_lt, upM_sR, sR_sR, sR_s, sR_self, riseR, upd])
  · refine g_aload_n rfl ?_
    refine g_getI fl_X0_9 rfl hr rfl ?_
    refine g_iconst (v := 5) ik_5 ?_
    refine g_icmp_ge rfl L_X0_riseWith_31 (fun h_2 => ?_) (fun h_2 => ?_)
    · refine g_vret rfl (nle rfl) (nle rfl) ?_
      exact qeqv hQ (by clear hQ; simp_all [i32le, -Int32.not_lt, upM_sR, sR_sR, sR_s, sR_self, riseR, upd])
    · refine g_aload_n rfl ?_
      refine g_dup rfl ?_
      refine g_getI fl_X0_9 rfl hr rfl ?_
      refine g_iconst (v := 1) ik_1 ?_
      refine g_iadd ?_
      refine g_putI pl_X0_9 rfl hr rfl rfl rfl ?_
      refine g_aload_n rfl ?_
      refine g_iconst (v := 0) ik_0 ?_
      refine g_putI pl_X0_15 rfl hr rfl rfl rfl ?_
      refine g_fall rfl L_X0_riseWith_31 ?_
      refine g_vret rfl (nle rfl) (nle rfl) ?_
      exact qeqv hQ (by clear hQ; simp_all [i32le, -Int32.not_lt, upM_sR, sR_sR, sR_s, sR_self, riseR, upd])
end
section
theorem bI_1 {b : Bool} (h : b = true) : (1 : Int32) = bI b := by rw [h]; rfl
theorem bI_0 {b : Bool} (h : b = false) : (0 : Int32) = bI b := by rw [h]; rfl
def inB (v lo hi : Int32) : Bool := decide (lo ≤ v) && decide (v ≤ hi)
def bitsN : Nat → Int32 → Int32
  | 0, _ => 0
  | k + 1, s => bitsN k s + (s >>> (nI k &&& 31) &&& 1)
def bitsI (s : Int32) : Int32 := bitsN 12 s
def anyB : Nat → (Nat → Bool) → Bool
  | 0, _ => false
  | n + 1, P => anyB n P || P n
def sumI : Nat → (Nat → Int32) → Int32
  | 0, _ => 0
  | n + 1, f => sumI n f + f n
def orI : Nat → (Nat → Int32) → Int32
  | 0, _ => 0
  | n + 1, f => orI n f ||| f n
theorem nI3402 {j : Nat} (h : j < 3402) : j < 3402 := h
theorem kq_si {X : Xs} {y : MI} {is : List (Instr × Nat)} {pc : Nat} {lo : Lo} {st : List Value} {nc ks : Nat} {κ : Kp} {M : Mem} {Q : Rs → Kp → Mem → Prop} {v : Int32} (h : G X y is pc lo (.int v :: st) nc ks κ M Q) : Kq X y is pc lo st nc ks Q (.inl (some (.int v))) κ M := h
theorem g_join {X : Xs} {y : MI} {is : List (Instr × Nat)} {pc : Nat} {lo : Lo} {st : List Value} {nc ks : Nat} {κ : Kp} {M : Mem} {Q : Rs → Kp → Mem → Prop} {isJ : List (Instr × Nat)} {pcJ : Nat} (v : Int32) (hJ : G X y isJ pcJ lo (.int v :: st) nc ks κ M Q) (hR : (∀ v', v' = v → G X y isJ pcJ lo (.int v' :: st) nc ks κ M Q) → G X y is pc lo st nc ks κ M Q) : G X y is pc lo st nc ks κ M Q := hR (fun v' e => by rw [e]; exact hJ)
set_option maxRecDepth 100000 in
set_option maxHeartbeats 4000000 in
theorem ct_X8_in {X : Xs} {κ : Kp} {M : Mem} {Q : Rs → Kp → Mem → Prop} {v lo hi : Int32} (hQ : Q (.inl (some (.int (bI (inB v lo hi))))) κ M) : Ct X m_X8_in [.int v, .int lo, .int hi] κ M Q := by
  refine ct_of B_X8_in_0 pn_X8 rfl (nle rfl) L_X8_in_0 ?_
  refine g_iload_n rfl ?_
  refine g_iload_n rfl ?_
  refine g_icmp_lt rfl L_X8_in_14 (fun h_1 => ?_) (fun h_1 => ?_)
  · refine g_iconst (v := 0) ik_0 ?_
    refine g_fall rfl L_X8_in_15 ?_
    refine g_zret rfl rfl (nle rfl) (nle rfl) ?_
    exact qeq hQ (by clear hQ; simp_all [bI, inB, i32le, -Int32.not_lt]) rfl
  · refine g_iload_n rfl ?_
    refine g_iload_n rfl ?_
    refine g_icmp_gt rfl L_X8_in_14 (fun h_2 => ?_) (fun h_2 => ?_)
    · refine g_iconst (v := 0) ik_0 ?_
      refine g_fall rfl L_X8_in_15 ?_
      refine g_zret rfl rfl (nle rfl) (nle rfl) ?_
      exact qeq hQ (by clear hQ; simp_all [bI, inB, i32le, -Int32.not_lt]) rfl
    · refine g_iconst (v := 1) ik_1 ?_
      refine g_goto rfl L_X8_in_15 ?_
      refine g_zret rfl rfl (nle rfl) (nle rfl) ?_
      exact qeq hQ (by clear hQ; simp_all [bI, inB, i32le, -Int32.not_lt]) rfl
set_option maxRecDepth 100000 in
set_option maxHeartbeats 4000000 in
theorem ct_X8_thrown {X : Xs} {κ : Kp} {M : Mem} {Q : Rs → Kp → Mem → Prop} {m : Nat} (hm : IsMod κ.2.1 m)  (hQ : Q (.inl (some (.int (M m 0)))) κ M) : Ct X m_X8_thrown [.ref m] κ M Q := by
  refine ct_of B_X8_thrown_0 pn_X8 rfl (nle rfl) L_X8_thrown_0 ?_
  refine g_aload_n rfl ?_
  refine g_getI fl_X8_25 rfl hm.1 rfl ?_
  refine g_iret rfl (nle rfl) (nle rfl) ?_
  exact hQ
set_option maxRecDepth 100000 in
set_option maxHeartbeats 4000000 in
theorem ct_X8_holds {X : Xs} {κ : Kp} {M : Mem} {Q : Rs → Kp → Mem → Prop} {m : Nat} (hm : IsMod κ.2.1 m) {p : Int32} (hQ : Q (.inl (some (.int (bI (decide (p = 0)))))) κ (upM M m 0 p)) : Ct X m_X8_holds [.ref m, .int p] κ M Q := by
  refine ct_of B_X8_holds_0 pn_X8 rfl (nle rfl) L_X8_holds_0 ?_
  refine g_aload_n rfl ?_
  refine g_iload_n rfl ?_
  refine g_putI pl_X8_25 rfl hm.1 rfl rfl rfl ?_
  refine g_iload_n rfl ?_
  refine g_if_ne rfl L_X8_holds_13 (fun h_1 => ?_) (fun h_1 => ?_)
  · refine g_iconst (v := 0) ik_0 ?_
    refine g_fall rfl L_X8_holds_14 ?_
    refine g_zret rfl rfl (nle rfl) (nle rfl) ?_
    exact qeq hQ (by clear hQ; simp_all [bI]) rfl
  · refine g_iconst (v := 1) ik_1 ?_
    refine g_goto rfl L_X8_holds_14 ?_
    refine g_zret rfl rfl (nle rfl) (nle rfl) ?_
    exact qeq hQ (by clear hQ; simp_all [bI]) rfl
set_option maxRecDepth 100000 in
set_option maxHeartbeats 4000000 in
theorem ct_X8_isFloor {X : Xs} {κ : Kp} {M : Mem} {Q : Rs → Kp → Mem → Prop} {m : Nat} (hm : IsMod κ.2.1 m) {f : Int32} (hQ : Q (.inl (some (.int (bI (inB f 0 (M (m + 1) 0 - 1)))))) κ M) : Ct X m_X8_isFloor [.ref m, .int f] κ M Q := by
  refine ct_of B_X8_isFloor_0 pn_X8 rfl (nle rfl) L_X8_isFloor_0 ?_
  refine g_iload_n rfl ?_
  refine g_iconst (v := 0) ik_0 ?_
  refine g_aload_n rfl ?_
  refine g_getR (w := (m + 1)) fl_X8_7 rfl hm.1 rfl ?_
  refine g_iconst (v := 0) ik_0 ?_
  refine g_iaload (j := 0) hm.2.1 rfl (nle rfl) (nle rfl) ?_
  refine g_iconst (v := 1) ik_1 ?_
  refine g_isub ?_
  refine g_callS (as := [_, _, _]) mk_X8_in ml_X8_29 sm_X8_in rfl rfl ⟨⟨nle rfl, nle rfl⟩, nle rfl, nle rfl⟩ rfl rfl (nle rfl) ?_
  refine ct_X8_in ?_
  refine kq_s ?_
  refine g_zret rfl (nar_bI _) (nle rfl) (nle rfl) ?_
  exact hQ
set_option maxRecDepth 100000 in
set_option maxHeartbeats 4000000 in
theorem ct_X8_isTeacher {X : Xs} {κ : Kp} {M : Mem} {Q : Rs → Kp → Mem → Prop} {m : Nat} (hm : IsMod κ.2.1 m) {f : Int32} (hQ : Q (.inl (some (.int (bI (inB f 0 (M (m + 1) 1 - 1)))))) κ M) : Ct X m_X8_isTeacher [.ref m, .int f] κ M Q := by
  refine ct_of B_X8_isTeacher_0 pn_X8 rfl (nle rfl) L_X8_isTeacher_0 ?_
  refine g_iload_n rfl ?_
  refine g_iconst (v := 0) ik_0 ?_
  refine g_aload_n rfl ?_
  refine g_getR (w := (m + 1)) fl_X8_7 rfl hm.1 rfl ?_
  refine g_iconst (v := 1) ik_1 ?_
  refine g_iaload (j := 1) hm.2.1 rfl (nle rfl) (nle rfl) ?_
  refine g_iconst (v := 1) ik_1 ?_
  refine g_isub ?_
  refine g_callS (as := [_, _, _]) mk_X8_in ml_X8_29 sm_X8_in rfl rfl ⟨⟨nle rfl, nle rfl⟩, nle rfl, nle rfl⟩ rfl rfl (nle rfl) ?_
  refine ct_X8_in ?_
  refine kq_s ?_
  refine g_zret rfl (nar_bI _) (nle rfl) (nle rfl) ?_
  exact hQ
set_option maxRecDepth 100000 in
set_option maxHeartbeats 4000000 in
theorem ct_X8_isClass {X : Xs} {κ : Kp} {M : Mem} {Q : Rs → Kp → Mem → Prop} {m : Nat} (hm : IsMod κ.2.1 m) {f : Int32} (hQ : Q (.inl (some (.int (bI (inB f 0 (M (m + 1) 2 - 1)))))) κ M) : Ct X m_X8_isClass [.ref m, .int f] κ M Q := by
  refine ct_of B_X8_isClass_0 pn_X8 rfl (nle rfl) L_X8_isClass_0 ?_
  refine g_iload_n rfl ?_
  refine g_iconst (v := 0) ik_0 ?_
  refine g_aload_n rfl ?_
  refine g_getR (w := (m + 1)) fl_X8_7 rfl hm.1 rfl ?_
  refine g_iconst (v := 2) ik_2 ?_
  refine g_iaload (j := 2) hm.2.1 rfl (nle rfl) (nle rfl) ?_
  refine g_iconst (v := 1) ik_1 ?_
  refine g_isub ?_
  refine g_callS (as := [_, _, _]) mk_X8_in ml_X8_29 sm_X8_in rfl rfl ⟨⟨nle rfl, nle rfl⟩, nle rfl, nle rfl⟩ rfl rfl (nle rfl) ?_
  refine ct_X8_in ?_
  refine kq_s ?_
  refine g_zret rfl (nar_bI _) (nle rfl) (nle rfl) ?_
  exact hQ
set_option maxRecDepth 100000 in
set_option maxHeartbeats 4000000 in
theorem ct_X8_isDancer {X : Xs} {κ : Kp} {M : Mem} {Q : Rs → Kp → Mem → Prop} {m : Nat} (hm : IsMod κ.2.1 m) {f : Int32} (hQ : Q (.inl (some (.int (bI (inB f 0 (M (m + 1) 3 - 1)))))) κ M) : Ct X m_X8_isDancer [.ref m, .int f] κ M Q := by
  refine ct_of B_X8_isDancer_0 pn_X8 rfl (nle rfl) L_X8_isDancer_0 ?_
  refine g_iload_n rfl ?_
  refine g_iconst (v := 0) ik_0 ?_
  refine g_aload_n rfl ?_
  refine g_getR (w := (m + 1)) fl_X8_7 rfl hm.1 rfl ?_
  refine g_iconst (v := 3) ik_3 ?_
  refine g_iaload (j := 3) hm.2.1 rfl (nle rfl) (nle rfl) ?_
  refine g_iconst (v := 1) ik_1 ?_
  refine g_isub ?_
  refine g_callS (as := [_, _, _]) mk_X8_in ml_X8_29 sm_X8_in rfl rfl ⟨⟨nle rfl, nle rfl⟩, nle rfl, nle rfl⟩ rfl rfl (nle rfl) ?_
  refine ct_X8_in ?_
  refine kq_s ?_
  refine g_zret rfl (nar_bI _) (nle rfl) (nle rfl) ?_
  exact hQ
set_option maxRecDepth 100000 in
set_option maxHeartbeats 4000000 in
theorem ct_X8_ofClass {X : Xs} {κ : Kp} {M : Mem} {Q : Rs → Kp → Mem → Prop} {m : Nat} (hm : IsMod κ.2.1 m) {kI wI : Int32} (k w : Nat) (hk : kI = nI k) (hw : wI = nI w) (hlt : 39 + 9 * k + w < 3402) (hQ : Q (.inl (some (.int (M (m + 1) (39 + 9 * k + w))))) κ M) : Ct X m_X8_ofClass [.ref m, .int kI, .int wI] κ M Q := by
  refine ct_of B_X8_ofClass_0 pn_X8 rfl (nle rfl) L_X8_ofClass_0 ?_
  subst hk
  subst hw
  refine g_aload_n rfl ?_
  refine g_getR (w := (m + 1)) fl_X8_7 rfl hm.1 rfl ?_
  refine g_bipush (v := 39) bk_39 ?_
  refine g_bipush (v := 9) bk_9 ?_
  refine g_iload_n rfl ?_
  refine g_imul ?_
  refine g_iadd ?_
  refine g_iload_n rfl ?_
  refine g_iadd ?_
  refine g_iaload (j := ((39 + (9 * k)) + w)) hm.2.1 (by simp only [nI, Int32.ofNat_add, Int32.ofNat_mul] <;> rfl) (by omega) (nle rfl) ?_
  refine g_iret rfl (nle rfl) (nle rfl) ?_
  exact hQ
set_option maxRecDepth 100000 in
set_option maxHeartbeats 4000000 in
theorem ct_X8_ofDancer {X : Xs} {κ : Kp} {M : Mem} {Q : Rs → Kp → Mem → Prop} {m : Nat} (hm : IsMod κ.2.1 m) {kI wI : Int32} (k w : Nat) (hk : kI = nI k) (hw : wI = nI w) (hlt : 129 + 5 * k + w < 3402) (hQ : Q (.inl (some (.int (M (m + 1) (129 + 5 * k + w))))) κ M) : Ct X m_X8_ofDancer [.ref m, .int kI, .int wI] κ M Q := by
  refine ct_of B_X8_ofDancer_0 pn_X8 rfl (nle rfl) L_X8_ofDancer_0 ?_
  subst hk
  subst hw
  refine g_aload_n rfl ?_
  refine g_getR (w := (m + 1)) fl_X8_7 rfl hm.1 rfl ?_
  refine g_sipush (v := 129) sk_129 ?_
  refine g_iconst (v := 5) ik_5 ?_
  refine g_iload_n rfl ?_
  refine g_imul ?_
  refine g_iadd ?_
  refine g_iload_n rfl ?_
  refine g_iadd ?_
  refine g_iaload (j := ((129 + (5 * k)) + w)) hm.2.1 (by simp only [nI, Int32.ofNat_add, Int32.ofNat_mul] <;> rfl) (by omega) (nle rfl) ?_
  refine g_iret rfl (nle rfl) (nle rfl) ?_
  exact hQ
set_option maxRecDepth 100000 in
set_option maxHeartbeats 4000000 in
theorem ct_X8_adds {X : Xs} {κ : Kp} {M : Mem} {Q : Rs → Kp → Mem → Prop} {m : Nat} (hm : IsMod κ.2.1 m) {pI x : Int32} (p : Nat) (hp : pI = nI p) (hlt : p < 3402) (hQ : Q (.inl none) κ (sR M (m + 1) (upd (M (m + 1)) p (M (m + 1) p + x)))) : Ct X m_X8_adds [.ref m, .int pI, .int x] κ M Q := by
  refine ct_of B_X8_adds_0 pn_X8 rfl (nle rfl) L_X8_adds_0 ?_
  subst hp
  refine g_aload_n rfl ?_
  refine g_getR (w := (m + 1)) fl_X8_7 rfl hm.1 rfl ?_
  refine g_iload_n rfl ?_
  refine g_dup2 rfl rfl ?_
  refine g_iaload (j := p) hm.2.1 rfl (by omega) (nle rfl) ?_
  refine g_iload_n rfl ?_
  refine g_iadd ?_
  refine g_iastore (j := p) hm.2.1 rfl (by omega) (nle rfl) ?_
  refine g_vret rfl (nle rfl) (nle rfl) ?_
  exact qeqv hQ (by rw [upM_sR])
set_option maxRecDepth 100000 in
set_option maxHeartbeats 4000000 in
theorem ct_X8_bits {X : Xs} {κ : Kp} {M : Mem} {Q : Rs → Kp → Mem → Prop} {s : Int32} (hQ : Q (.inl (some (.int (bitsI s)))) κ M) : Ct X m_X8_bits [.int s] κ M Q := by
  refine ct_of B_X8_bits_0 pn_X8 rfl (nle rfl) L_X8_bits_0 ?_
  refine g_iconst (v := 0) ik_0 ?_
  refine g_istore_n (nle rfl) ?_
  refine g_iconst (v := 0) ik_0 ?_
  refine g_istore_n (nle rfl) ?_
  refine g_fall rfl L_X8_bits_4 ?_
  refine g_lo2 (lo' := [(0, some (.int s)), (1, some (.int (bitsN 0 s))), (2, some (.int (nI 0)))]) ?_ ⟨rfl, rfl, rfl, trivial⟩
  refine loop_up (P := fun k => G X m_X8_bits B_X8_bits_4 4 [(0, some (.int s)), (1, some (.int (bitsN k s))), (2, some (.int (nI k)))] [] 0 0 κ M Q) 12 (fun k hle_k ih_k => ?_) 0 (Nat.zero_le _)
  refine g_iload_n rfl ?_
  refine g_bipush (v := 12) bk_12 ?_
  refine g_icmp_ge rfl L_X8_bits_24 (fun h_1 => ?_) (fun h_1 => ?_)
  · have hx_k := ((cmp_ge (c := 12) (rfl : (12 : Int32) = nI 12) (nle rfl) hle_k).1 h_1).symm
    subst hx_k
    refine g_iload_n rfl ?_
    refine g_iret rfl (nle rfl) (nle rfl) ?_
    exact hQ
  · have hlt_k : k < 12 := (cmp_ge (c := 12) (rfl : (12 : Int32) = nI 12) (nle rfl) hle_k).2 h_1
    refine g_iload_n rfl ?_
    refine g_iload_n rfl ?_
    refine g_iload_n rfl ?_
    refine g_ishr ?_
    refine g_iconst (v := 1) ik_1 ?_
    refine g_iand ?_
    refine g_iadd ?_
    refine g_istore_n (nle rfl) ?_
    refine g_iinc (v := nI (k + 1)) rfl (nI_inc _) (nle rfl) ?_
    refine g_goto rfl L_X8_bits_4 ?_
    exact g_lo2 (ih_k hlt_k) ⟨rfl, rfl, rfl, trivial⟩
set_option maxRecDepth 100000 in
set_option maxHeartbeats 4000000 in
theorem ct_X8_spring {X : Xs} {κ : Kp} {M : Mem} {Q : Rs → Kp → Mem → Prop} {m : Nat} (hm : IsMod κ.2.1 m) {fI : Int32} (f : Nat) (hf : fI = nI f) (hlt : f < 800) (hQ : Q (.inl (some (.int (M (m + 1) (13 + 4 * f))))) κ M) : Ct X m_X8_spring [.ref m, .int fI] κ M Q := by
  refine ct_of B_X8_spring_0 pn_X8 rfl (nle rfl) L_X8_spring_0 ?_
  subst hf
  refine g_aload_n rfl ?_
  refine g_getR (w := (m + 1)) fl_X8_7 rfl hm.1 rfl ?_
  refine g_bipush (v := 13) bk_13 ?_
  refine g_iconst (v := 4) ik_4 ?_
  refine g_iload_n rfl ?_
  refine g_imul ?_
  refine g_iadd ?_
  refine g_iaload (j := (13 + (4 * f))) hm.2.1 (by simp only [nI, Int32.ofNat_add, Int32.ofNat_mul] <;> rfl) (by omega) (nle rfl) ?_
  refine g_iret rfl (nle rfl) (nle rfl) ?_
  exact hQ
set_option maxRecDepth 100000 in
set_option maxHeartbeats 4000000 in
theorem ct_X8_mirrors {X : Xs} {κ : Kp} {M : Mem} {Q : Rs → Kp → Mem → Prop} {m : Nat} (hm : IsMod κ.2.1 m) {fI : Int32} (f : Nat) (hf : fI = nI f) (hlt : f < 800) (hQ : Q (.inl (some (.int (M (m + 1) (13 + 4 * f + 1))))) κ M) : Ct X m_X8_mirrors [.ref m, .int fI] κ M Q := by
  refine ct_of B_X8_mirrors_0 pn_X8 rfl (nle rfl) L_X8_mirrors_0 ?_
  subst hf
  refine g_aload_n rfl ?_
  refine g_getR (w := (m + 1)) fl_X8_7 rfl hm.1 rfl ?_
  refine g_bipush (v := 13) bk_13 ?_
  refine g_iconst (v := 4) ik_4 ?_
  refine g_iload_n rfl ?_
  refine g_imul ?_
  refine g_iadd ?_
  refine g_iconst (v := 1) ik_1 ?_
  refine g_iadd ?_
  refine g_iaload (j := ((13 + (4 * f)) + 1)) hm.2.1 (by simp only [nI, Int32.ofNat_add, Int32.ofNat_mul] <;> rfl) (by omega) (nle rfl) ?_
  refine g_iret rfl (nle rfl) (nle rfl) ?_
  exact hQ
set_option maxRecDepth 100000 in
set_option maxHeartbeats 4000000 in
theorem ct_X8_barre {X : Xs} {κ : Kp} {M : Mem} {Q : Rs → Kp → Mem → Prop} {m : Nat} (hm : IsMod κ.2.1 m) {fI : Int32} (f : Nat) (hf : fI = nI f) (hlt : f < 800) (hQ : Q (.inl (some (.int (M (m + 1) (13 + 4 * f + 2))))) κ M) : Ct X m_X8_barre [.ref m, .int fI] κ M Q := by
  refine ct_of B_X8_barre_0 pn_X8 rfl (nle rfl) L_X8_barre_0 ?_
  subst hf
  refine g_aload_n rfl ?_
  refine g_getR (w := (m + 1)) fl_X8_7 rfl hm.1 rfl ?_
  refine g_bipush (v := 13) bk_13 ?_
  refine g_iconst (v := 4) ik_4 ?_
  refine g_iload_n rfl ?_
  refine g_imul ?_
  refine g_iadd ?_
  refine g_iconst (v := 2) ik_2 ?_
  refine g_iadd ?_
  refine g_iaload (j := ((13 + (4 * f)) + 2)) hm.2.1 (by simp only [nI, Int32.ofNat_add, Int32.ofNat_mul] <;> rfl) (by omega) (nle rfl) ?_
  refine g_iret rfl (nle rfl) (nle rfl) ?_
  exact hQ
end
section
def atC (s : Nat → Int32) (k : Nat) (day hour : Int32) : Bool := decide (s (39 + 9 * k + 4) = day) && decide (s (39 + 9 * k + 5) = hour)
def whyI (s : Nat → Int32) (nc : Nat) (style level : Int32) (f t : Nat) (day hour : Int32) : Int32 :=
  if anyB nc (fun k => atC s k day hour && decide (s (39 + 9 * k + 2) = nI f)) then 1
  else if anyB nc (fun k => atC s k day hour && decide (s (39 + 9 * k + 3) = nI t)) then 2
  else if (bitS (s (29 + 2 * t)) style && decide (level ≤ s (29 + 2 * t + 1))) = false then 3
  else if sprOK (s (13 + 4 * f)) style level = false then 4
  else if barOK (s (13 + 4 * f + 2)) style level = false then 5
  else if mirOK (s (13 + 4 * f + 1)) style level = false then 6 else 0
def whyS (s : Nat → Int32) (nc d k f : Nat) : Int32 :=
  if bitS (s (39 + 9 * k + 8)) (nI d) then 1
  else if s (129 + 5 * d + 0) + 1 < s (39 + 9 * k + 1) then 2
  else if anyB nc (fun e => bitS (s (39 + 9 * e + 8)) (nI d) && (decide (s (39 + 9 * e + 4) = s (39 + 9 * k + 4)) && decide (s (39 + 9 * e + 5) = s (39 + 9 * k + 5)))) then 3
  else if bitsI (s (39 + 9 * k + 8)) < tkI (s (13 + 4 * f + 3)) (s (13 + 4 * f + 2)) (s (39 + 9 * k + 0)) then 0 else 4
def comI (s : Nat → Int32) (k n : Nat) : Int32 := orI n (fun d => if bitS (s (39 + 9 * k + 8)) (nI d) && decide (0 < s (129 + 5 * d + 2)) then 1 <<< (nI d &&& 31) else 0)
theorem and01 (z : Int32) : (z &&& 1 = 0) = ¬ (z &&& 1 = 1) := by
  have h1 := pk_and z (m := 1) 1 (by decide)
  rw [h1]
  have h2 : z.toBitVec.toNat % 2 ^ 1 < 2 := Nat.mod_lt _ (by decide)
  have h3 : z.toBitVec.toNat % 2 ^ 1 = 0 ∨ z.toBitVec.toNat % 2 ^ 1 = 1 := by omega
  rcases h3 with e | e <;> rw [e] <;> decide
set_option maxRecDepth 100000 in
set_option maxHeartbeats 4000000 in
theorem ct_X8_hasSeat {X : Xs} {κ : Kp} {M : Mem} {Q : Rs → Kp → Mem → Prop} {m : Nat} (hm : IsMod κ.2.1 m) {dI kI : Int32} (k : Nat) (hk : kI = nI k) (hlt : 39 + 9 * k + 8 < 3402) (hQ : Q (.inl (some (.int (bI (bitS (M (m + 1) (39 + 9 * k + 8)) dI))))) κ M) : Ct X m_X8_hasSeat [.ref m, .int dI, .int kI] κ M Q := by
  refine ct_of B_X8_hasSeat_0 pn_X8 rfl (nle rfl) L_X8_hasSeat_0 ?_
  subst hk
  refine g_aload_n rfl ?_
  refine g_iload_n rfl ?_
  refine g_bipush (v := 8) bk_8 ?_
  refine g_callV (as := [_, _]) mk_X8_ofClass ml_X8_40 im_X8_ofClass se_X8_ofClass rfl rfl ⟨⟨nle rfl, nle rfl⟩, nle rfl, nle rfl⟩ hm.1 rfl rfl rfl (nle rfl) ?_
  refine ct_X8_ofClass hm k 8 rfl rfl (by omega) ?_
  refine kq_s ?_
  refine g_iload_n rfl ?_
  refine g_ishr ?_
  refine g_iconst (v := 1) ik_1 ?_
  refine g_iand ?_
  refine g_iconst (v := 1) ik_1 ?_
  refine g_icmp_ne rfl L_X8_hasSeat_19 (fun h_1 => ?_) (fun h_1 => ?_)
  · refine g_iconst (v := 0) ik_0 ?_
    refine g_fall rfl L_X8_hasSeat_20 ?_
    refine g_zret rfl rfl (nle rfl) (nle rfl) ?_
    exact qeq hQ (by clear hQ; simp_all [bI, bitS, i32le, -Int32.not_lt]) rfl
  · refine g_iconst (v := 1) ik_1 ?_
    refine g_goto rfl L_X8_hasSeat_20 ?_
    refine g_zret rfl rfl (nle rfl) (nle rfl) ?_
    exact qeq hQ (by clear hQ; simp_all [bI, bitS, i32le, -Int32.not_lt]) rfl
set_option maxRecDepth 100000 in
set_option maxHeartbeats 4000000 in
theorem ct_X8_takes {X : Xs} {κ : Kp} {M : Mem} {Q : Rs → Kp → Mem → Prop} {m : Nat} (hm : IsMod κ.2.1 m) {style fI : Int32} (f : Nat) (hf : fI = nI f) (hlt : f < 800) (hQ : Q (.inl (some (.int (tkI (M (m + 1) (13 + 4 * f + 3)) (M (m + 1) (13 + 4 * f + 2)) style)))) κ M) : Ct X m_X8_takes [.ref m, .int style, .int fI] κ M Q := by
  refine ct_of B_X8_takes_0 pn_X8 rfl (nle rfl) L_X8_takes_0 ?_
  subst hf
  refine g_aload_n rfl ?_
  refine g_getR (w := (m + 1)) fl_X8_7 rfl hm.1 rfl ?_
  refine g_bipush (v := 13) bk_13 ?_
  refine g_iconst (v := 4) ik_4 ?_
  refine g_iload_n rfl ?_
  refine g_imul ?_
  refine g_iadd ?_
  refine g_iconst (v := 3) ik_3 ?_
  refine g_iadd ?_
  refine g_iaload (j := ((13 + (4 * f)) + 3)) hm.2.1 (by simp only [nI, Int32.ofNat_add, Int32.ofNat_mul] <;> rfl) (by omega) (nle rfl) ?_
  refine g_istore_n (nle rfl) ?_
  refine g_aload_n rfl ?_
  refine g_iload_n rfl ?_
  refine g_callV (as := [_]) mk_X8_barre ml_X8_33 im_X8_barre se_X8_barre rfl rfl ⟨⟨nle rfl, nle rfl⟩, nle rfl, nle rfl⟩ hm.1 rfl rfl rfl (nle rfl) ?_
  refine ct_X8_barre hm f rfl (by omega) ?_
  refine kq_s ?_
  refine g_iconst (v := 2) ik_2 ?_
  refine g_idiv (by decide) ?_
  refine g_istore (nle rfl) ?_
  refine g_iload_n rfl ?_
  refine g_if_ne rfl L_X8_takes_38 (fun h_1 => ?_) (fun h_1 => ?_)
  · refine g_iload_n rfl ?_
    refine g_fall rfl L_X8_takes_39 ?_
    refine g_iret rfl (nle rfl) (nle rfl) ?_
    exact qeq hQ (by clear hQ; simp_all [tkI, i32le, -Int32.not_lt]) rfl
  · refine g_iload rfl ?_
    refine g_iload_n rfl ?_
    refine g_icmp_ge rfl L_X8_takes_38 (fun h_2 => ?_) (fun h_2 => ?_)
    · refine g_iload_n rfl ?_
      refine g_fall rfl L_X8_takes_39 ?_
      refine g_iret rfl (nle rfl) (nle rfl) ?_
      exact qeq hQ (by clear hQ; simp_all [tkI, i32le, -Int32.not_lt]) rfl
    · refine g_iload rfl ?_
      refine g_goto rfl L_X8_takes_39 ?_
      refine g_iret rfl (nle rfl) (nle rfl) ?_
      exact qeq hQ (by clear hQ; simp_all [tkI, i32le, -Int32.not_lt]) rfl
set_option maxRecDepth 100000 in
set_option maxHeartbeats 4000000 in
theorem ct_X8_isSpring {X : Xs} {κ : Kp} {M : Mem} {Q : Rs → Kp → Mem → Prop} {m : Nat} (hm : IsMod κ.2.1 m) {style level fI : Int32} (f : Nat) (hf : fI = nI f) (hlt : f < 800) (hQ : Q (.inl (some (.int (bI (sprOK (M (m + 1) (13 + 4 * f)) style level))))) κ M) : Ct X m_X8_isSpring [.ref m, .int style, .int level, .int fI] κ M Q := by
  refine ct_of B_X8_isSpring_0 pn_X8 rfl (nle rfl) L_X8_isSpring_0 ?_
  subst hf
  refine g_iload_n rfl ?_
  rcases sw_cases style 0 3 (nle rfl) with ⟨j_1, hj_1, hx_1⟩ | ho_1
  · have hc_1 : j_1 = 0 ∨ j_1 = 1 ∨ j_1 = 2 := by omega
    rcases hc_1 with rfl | rfl | rfl
    · replace hx_1 : style = 0 := hx_1.trans (by decide)
      refine g_tabIn (off := 27) (by rw [hx_1]; decide) (by rw [hx_1]; decide) (by rw [hx_1]; decide) rfl L_X8_isSpring_28 ?_
      refine g_aload_n rfl ?_
      refine g_iload_n rfl ?_
      refine g_callV (as := [_]) mk_X8_spring ml_X8_37 im_X8_spring se_X8_spring rfl rfl ⟨⟨nle rfl, nle rfl⟩, nle rfl, nle rfl⟩ hm.1 rfl rfl rfl (nle rfl) ?_
      refine ct_X8_spring hm f rfl (by omega) ?_
      refine kq_s ?_
      refine g_iconst (v := 4) ik_4 ?_
      refine g_icmp_lt rfl L_X8_isSpring_41 (fun h_1 => ?_) (fun h_1 => ?_)
      · refine g_iconst (v := 0) ik_0 ?_
        refine g_fall rfl L_X8_isSpring_42 ?_
        refine g_zret rfl rfl (nle rfl) (nle rfl) ?_
        exact qeq hQ (by clear hQ; simp_all [bI, sprOK, i32le, -Int32.not_lt]) rfl
      · refine g_iconst (v := 1) ik_1 ?_
        refine g_goto rfl L_X8_isSpring_42 ?_
        refine g_zret rfl rfl (nle rfl) (nle rfl) ?_
        exact qeq hQ (by clear hQ; simp_all [bI, sprOK, i32le, -Int32.not_lt]) rfl
    · replace hx_1 : style = 1 := hx_1.trans (by decide)
      refine g_tabIn (off := 42) (by rw [hx_1]; decide) (by rw [hx_1]; decide) (by rw [hx_1]; decide) rfl L_X8_isSpring_43 ?_
      refine g_aload_n rfl ?_
      refine g_iload_n rfl ?_
      refine g_callV (as := [_]) mk_X8_spring ml_X8_37 im_X8_spring se_X8_spring rfl rfl ⟨⟨nle rfl, nle rfl⟩, nle rfl, nle rfl⟩ hm.1 rfl rfl rfl (nle rfl) ?_
      refine ct_X8_spring hm f rfl (by omega) ?_
      refine kq_s ?_
      refine g_iconst (v := 5) ik_5 ?_
      refine g_icmp_gt rfl L_X8_isSpring_56 (fun h_2 => ?_) (fun h_2 => ?_)
      · refine g_iconst (v := 0) ik_0 ?_
        refine g_fall rfl L_X8_isSpring_57 ?_
        refine g_zret rfl rfl (nle rfl) (nle rfl) ?_
        exact qeq hQ (by clear hQ; simp_all [bI, sprOK, i32le, -Int32.not_lt]) rfl
      · refine g_iconst (v := 1) ik_1 ?_
        refine g_goto rfl L_X8_isSpring_57 ?_
        refine g_zret rfl rfl (nle rfl) (nle rfl) ?_
        exact qeq hQ (by clear hQ; simp_all [bI, sprOK, i32le, -Int32.not_lt]) rfl
    · replace hx_1 : style = 2 := hx_1.trans (by decide)
      refine g_tabIn (off := 57) (by rw [hx_1]; decide) (by rw [hx_1]; decide) (by rw [hx_1]; decide) rfl L_X8_isSpring_58 ?_
      refine g_aload_n rfl ?_
      refine g_iload_n rfl ?_
      refine g_callV (as := [_]) mk_X8_spring ml_X8_37 im_X8_spring se_X8_spring rfl rfl ⟨⟨nle rfl, nle rfl⟩, nle rfl, nle rfl⟩ hm.1 rfl rfl rfl (nle rfl) ?_
      refine ct_X8_spring hm f rfl (by omega) ?_
      refine kq_s ?_
      refine g_iconst (v := 3) ik_3 ?_
      refine g_iload_n rfl ?_
      refine g_iadd ?_
      refine g_icmp_lt rfl L_X8_isSpring_73 (fun h_3 => ?_) (fun h_3 => ?_)
      · refine g_iconst (v := 0) ik_0 ?_
        refine g_fall rfl L_X8_isSpring_74 ?_
        refine g_zret rfl rfl (nle rfl) (nle rfl) ?_
        exact qeq hQ (by clear hQ; simp_all [bI, sprOK, i32le, -Int32.not_lt]) rfl
      · refine g_iconst (v := 1) ik_1 ?_
        refine g_goto rfl L_X8_isSpring_74 ?_
        refine g_zret rfl rfl (nle rfl) (nle rfl) ?_
        exact qeq hQ (by clear hQ; simp_all [bI, sprOK, i32le, -Int32.not_lt]) rfl
  · refine g_tabOut (ho_1.imp (fun h => h) (fun h => h)) rfl L_X8_isSpring_75 ?_
    have hd_1_0 : ¬ style = 0 := sw_ne ho_1 0 (by decide)
    have hd_1_1 : ¬ style = 1 := sw_ne ho_1 1 (by decide)
    have hd_1_2 : ¬ style = 2 := sw_ne ho_1 2 (by decide)
    refine g_iconst (v := 1) ik_1 ?_
    refine g_zret rfl rfl (nle rfl) (nle rfl) ?_
    exact qeq hQ (by clear hQ; simp_all [bI, sprOK, i32le, -Int32.not_lt]) rfl
set_option maxRecDepth 100000 in
set_option maxHeartbeats 4000000 in
theorem ct_X8_classTakes {X : Xs} {κ : Kp} {M : Mem} {Q : Rs → Kp → Mem → Prop} {m : Nat} (hm : IsMod κ.2.1 m) {kI : Int32} (k f : Nat) (hk : kI = nI k) (hlt : 39 + 9 * k + 8 < 3402) (hf : M (m + 1) (39 + 9 * k + 2) = nI f) (hf2 : f < 800) (hQ : Q (.inl (some (.int (tkI (M (m + 1) (13 + 4 * f + 3)) (M (m + 1) (13 + 4 * f + 2)) (M (m + 1) (39 + 9 * k + 0)))))) κ M) : Ct X m_X8_classTakes [.ref m, .int kI] κ M Q := by
  refine ct_of B_X8_classTakes_0 pn_X8 rfl (nle rfl) L_X8_classTakes_0 ?_
  subst hk
  refine g_aload_n rfl ?_
  refine g_aload_n rfl ?_
  refine g_iload_n rfl ?_
  refine g_iconst (v := 0) ik_0 ?_
  refine g_callV (as := [_, _]) mk_X8_ofClass ml_X8_40 im_X8_ofClass se_X8_ofClass rfl rfl ⟨⟨nle rfl, nle rfl⟩, nle rfl, nle rfl⟩ hm.1 rfl rfl rfl (nle rfl) ?_
  refine ct_X8_ofClass hm k 0 rfl rfl (by omega) ?_
  refine kq_s ?_
  refine g_aload_n rfl ?_
  refine g_iload_n rfl ?_
  refine g_iconst (v := 2) ik_2 ?_
  refine g_callV (as := [_, _]) mk_X8_ofClass ml_X8_40 im_X8_ofClass se_X8_ofClass rfl rfl ⟨⟨nle rfl, nle rfl⟩, nle rfl, nle rfl⟩ hm.1 rfl rfl rfl (nle rfl) ?_
  refine ct_X8_ofClass hm k 2 rfl rfl (by omega) ?_
  refine kq_s ?_
  rw [hf]
  refine g_callV (as := [_, _]) mk_X8_takes ml_X8_50 im_X8_takes se_X8_takes rfl rfl ⟨⟨nle rfl, nle rfl⟩, nle rfl, nle rfl⟩ hm.1 rfl rfl rfl (nle rfl) ?_
  refine ct_X8_takes hm f rfl (by omega) ?_
  refine kq_s ?_
  refine g_iret rfl (nle rfl) (nle rfl) ?_
  exact hQ
set_option maxRecDepth 100000 in
set_option maxHeartbeats 4000000 in
theorem ct_X8_whyNo {X : Xs} {κ : Kp} {M : Mem} {Q : Rs → Kp → Mem → Prop} {m : Nat} (hm : IsMod κ.2.1 m) {nc : Nat} (h2 : M (m + 1) 2 = nI nc) (hnc : nc ≤ 10) {style level fI tI day hour : Int32} (f t : Nat) (hfI : fI = nI f) (htI : tI = nI t) (hf : f < 4) (ht : t < 5) (hmi : 0 ≤ M (m + 1) (13 + 4 * f + 1)) (hQ : Q (.inl (some (.int (whyI (M (m + 1)) nc style level f t day hour)))) κ M) : Ct X m_X8_whyNo [.ref m, .int style, .int level, .int fI, .int tI, .int day, .int hour] κ M Q := by
  refine ct_of B_X8_whyNo_0 pn_X8 rfl (nle rfl) L_X8_whyNo_0 ?_
  subst hfI
  subst htI
  refine g_iconst (v := 0) ik_0 ?_
  refine g_istore (nle rfl) ?_
  refine g_iconst (v := 0) ik_0 ?_
  refine g_istore (nle rfl) ?_
  refine g_iconst (v := 0) ik_0 ?_
  refine g_istore (nle rfl) ?_
  refine g_fall rfl L_X8_whyNo_9 ?_
  refine g_lo2 (lo' := [(0, some (.ref m)), (1, some (.int style)), (2, some (.int level)), (3, some (.int (nI f))), (4, some (.int (nI t))), (5, some (.int day)), (6, some (.int hour)), (7, some (.int (bI (anyB 0 (fun k => atC (M (m + 1)) k day hour && decide (M (m + 1) (39 + 9 * k + 2) = nI f)))))), (8, some (.int (bI (anyB 0 (fun k => atC (M (m + 1)) k day hour && decide (M (m + 1) (39 + 9 * k + 3) = nI t)))))), (9, some (.int (nI 0)))]) ?_ ⟨rfl, rfl, rfl, rfl, rfl, rfl, rfl, rfl, rfl, rfl, trivial⟩
  refine loop_up (P := fun k => G X m_X8_whyNo B_X8_whyNo_9 9 [(0, some (.ref m)), (1, some (.int style)), (2, some (.int level)), (3, some (.int (nI f))), (4, some (.int (nI t))), (5, some (.int day)), (6, some (.int hour)), (7, some (.int (bI (anyB k (fun k => atC (M (m + 1)) k day hour && decide (M (m + 1) (39 + 9 * k + 2) = nI f)))))), (8, some (.int (bI (anyB k (fun k => atC (M (m + 1)) k day hour && decide (M (m + 1) (39 + 9 * k + 3) = nI t)))))), (9, some (.int (nI k)))] [] 0 0 κ M Q) nc (fun k hle_k ih_k => ?_) 0 (Nat.zero_le _)
  refine g_iload rfl ?_
  refine g_aload_n rfl ?_
  refine g_getR (w := (m + 1)) fl_X8_7 rfl hm.1 rfl ?_
  refine g_iconst (v := 2) ik_2 ?_
  refine g_iaload (j := 2) hm.2.1 rfl (nle rfl) (nle rfl) ?_
  rw [h2]
  refine g_icmp_ge rfl L_X8_whyNo_114 (fun h_1 => ?_) (fun h_1 => ?_)
  · have hx_k := ((cmp_ge (c := nc) rfl (by omega) hle_k).1 h_1).symm
    subst hx_k
    refine g_iload rfl ?_
    refine g_if_ne_b rfl L_X8_whyNo_124 (fun h_2 => ?_) (fun h_2 => ?_)
    · refine g_iload rfl ?_
      refine g_if_eq_b rfl L_X8_whyNo_133 (fun h_3 => ?_) (fun h_3 => ?_)
      · refine g_iconst (v := 2) ik_2 ?_
        refine g_fall rfl L_X8_whyNo_134 ?_
        refine g_iret rfl (nle rfl) (nle rfl) ?_
        exact qeq hQ (by clear hQ; simp_all [whyI, bitS, and01, barOK, mirOK, i32le, -Int32.not_lt]) rfl
      · refine g_iconst (v := 1) ik_1 ?_
        refine g_goto rfl L_X8_whyNo_134 ?_
        refine g_iret rfl (nle rfl) (nle rfl) ?_
        exact qeq hQ (by clear hQ; simp_all [whyI, bitS, and01, barOK, mirOK, i32le, -Int32.not_lt]) rfl
    · refine g_iload rfl ?_
      refine g_if_eq_b rfl L_X8_whyNo_135 (fun h_4 => ?_) (fun h_4 => ?_)
      · refine g_aload_n rfl ?_
        refine g_getR (w := (m + 1)) fl_X8_7 rfl hm.1 rfl ?_
        refine g_bipush (v := 29) bk_29 ?_
        refine g_iconst (v := 2) ik_2 ?_
        refine g_iload rfl ?_
        refine g_imul ?_
        refine g_iadd ?_
        refine g_iaload (j := (29 + (2 * t))) hm.2.1 (by simp only [nI, Int32.ofNat_add, Int32.ofNat_mul] <;> rfl) (by omega) (nle rfl) ?_
        refine g_iload_n rfl ?_
        refine g_ishr ?_
        refine g_iconst (v := 1) ik_1 ?_
        refine g_iand ?_
        refine g_if_eq rfl L_X8_whyNo_172 (fun h_5 => ?_) (fun h_5 => ?_)
        · refine g_iconst (v := 3) ik_3 ?_
          refine g_iret rfl (nle rfl) (nle rfl) ?_
          exact qeq hQ (by clear hQ; simp_all [whyI, bitS, and01, barOK, mirOK, i32le, -Int32.not_lt]) rfl
        · refine g_aload_n rfl ?_
          refine g_getR (w := (m + 1)) fl_X8_7 rfl hm.1 rfl ?_
          refine g_bipush (v := 29) bk_29 ?_
          refine g_iconst (v := 2) ik_2 ?_
          refine g_iload rfl ?_
          refine g_imul ?_
          refine g_iadd ?_
          refine g_iconst (v := 1) ik_1 ?_
          refine g_iadd ?_
          refine g_iaload (j := ((29 + (2 * t)) + 1)) hm.2.1 (by simp only [nI, Int32.ofNat_add, Int32.ofNat_mul] <;> rfl) (by omega) (nle rfl) ?_
          refine g_iload_n rfl ?_
          refine g_icmp_ge rfl L_X8_whyNo_174 (fun h_6 => ?_) (fun h_6 => ?_)
          · refine g_aload_n rfl ?_
            refine g_iload_n rfl ?_
            refine g_iload_n rfl ?_
            refine g_iload_n rfl ?_
            refine g_callV (as := [_, _, _]) mk_X8_isSpring ml_X8_44 im_X8_isSpring se_X8_isSpring rfl rfl ⟨⟨nle rfl, nle rfl⟩, nle rfl, nle rfl⟩ hm.1 rfl rfl rfl (nle rfl) ?_
            refine ct_X8_isSpring hm f rfl (by omega) ?_
            refine kq_s ?_
            refine g_if_ne_b rfl L_X8_whyNo_186 (fun h_7 => ?_) (fun h_7 => ?_)
            · refine g_iload_n rfl ?_
              refine g_if_ne rfl L_X8_whyNo_196 (fun h_8 => ?_) (fun h_8 => ?_)
              · refine g_iload_n rfl ?_
                refine g_iconst (v := 1) ik_1 ?_
                refine g_icmp_ne rfl L_X8_whyNo_205 (fun h_9 => ?_) (fun h_9 => ?_)
                · refine g_iconst (v := 0) ik_0 ?_
                  refine g_fall rfl L_X8_whyNo_206 ?_
                  refine g_istore (nle rfl) ?_
                  refine g_iload_n rfl ?_
                  refine g_if_ne rfl L_X8_whyNo_229 (fun h_10 => ?_) (fun h_10 => ?_)
                  · refine g_aload_n rfl ?_
                    refine g_iload_n rfl ?_
                    refine g_callV (as := [_]) mk_X8_mirrors ml_X8_47 im_X8_mirrors se_X8_mirrors rfl rfl ⟨⟨nle rfl, nle rfl⟩, nle rfl, nle rfl⟩ hm.1 rfl rfl rfl (nle rfl) ?_
                    refine ct_X8_mirrors hm f rfl (by omega) ?_
                    refine kq_s ?_
                    refine g_iload rfl ?_
                    refine g_icmp_ge rfl L_X8_whyNo_244 (fun h_11 => ?_) (fun h_11 => ?_)
                    · refine g_iconst (v := 0) ik_0 ?_
                      refine g_fall rfl L_X8_whyNo_245 ?_
                      refine g_iret rfl (nle rfl) (nle rfl) ?_
                      exact qeq hQ (by clear hQ; simp_all [whyI, bitS, and01, barOK, mirOK, i32le, -Int32.not_lt]) rfl
                    · refine g_bipush (v := 6) bk_6 ?_
                      refine g_goto rfl L_X8_whyNo_245 ?_
                      refine g_iret rfl (nle rfl) (nle rfl) ?_
                      exact qeq hQ (by clear hQ; simp_all [whyI, bitS, and01, barOK, mirOK, i32le, -Int32.not_lt]) rfl
                  · refine g_aload_n rfl ?_
                    refine g_iload_n rfl ?_
                    refine g_callV (as := [_]) mk_X8_barre ml_X8_33 im_X8_barre se_X8_barre rfl rfl ⟨⟨nle rfl, nle rfl⟩, nle rfl, nle rfl⟩ hm.1 rfl rfl rfl (nle rfl) ?_
                    refine ct_X8_barre hm f rfl (by omega) ?_
                    refine kq_s ?_
                    refine g_iconst (v := 2) ik_2 ?_
                    refine g_iload_n rfl ?_
                    refine g_imul ?_
                    refine g_iconst (v := 4) ik_4 ?_
                    refine g_iadd ?_
                    refine g_icmp_ge rfl L_X8_whyNo_229 (fun h_12 => ?_) (fun h_12 => ?_)
                    · refine g_aload_n rfl ?_
                      refine g_iload_n rfl ?_
                      refine g_callV (as := [_]) mk_X8_mirrors ml_X8_47 im_X8_mirrors se_X8_mirrors rfl rfl ⟨⟨nle rfl, nle rfl⟩, nle rfl, nle rfl⟩ hm.1 rfl rfl rfl (nle rfl) ?_
                      refine ct_X8_mirrors hm f rfl (by omega) ?_
                      refine kq_s ?_
                      refine g_iload rfl ?_
                      refine g_icmp_ge rfl L_X8_whyNo_244 (fun h_13 => ?_) (fun h_13 => ?_)
                      · refine g_iconst (v := 0) ik_0 ?_
                        refine g_fall rfl L_X8_whyNo_245 ?_
                        refine g_iret rfl (nle rfl) (nle rfl) ?_
                        exact qeq hQ (by clear hQ; simp_all [whyI, bitS, and01, barOK, mirOK, i32le, -Int32.not_lt]) rfl
                      · refine g_bipush (v := 6) bk_6 ?_
                        refine g_goto rfl L_X8_whyNo_245 ?_
                        refine g_iret rfl (nle rfl) (nle rfl) ?_
                        exact qeq hQ (by clear hQ; simp_all [whyI, bitS, and01, barOK, mirOK, i32le, -Int32.not_lt]) rfl
                    · refine g_iconst (v := 5) ik_5 ?_
                      refine g_goto rfl L_X8_whyNo_245 ?_
                      refine g_iret rfl (nle rfl) (nle rfl) ?_
                      exact qeq hQ (by clear hQ; simp_all [whyI, bitS, and01, barOK, mirOK, i32le, -Int32.not_lt]) rfl
                · refine g_iconst (v := 1) ik_1 ?_
                  refine g_goto rfl L_X8_whyNo_206 ?_
                  refine g_istore (nle rfl) ?_
                  refine g_iload_n rfl ?_
                  refine g_if_ne rfl L_X8_whyNo_229 (fun h_14 => ?_) (fun h_14 => ?_)
                  · refine g_aload_n rfl ?_
                    refine g_iload_n rfl ?_
                    refine g_callV (as := [_]) mk_X8_mirrors ml_X8_47 im_X8_mirrors se_X8_mirrors rfl rfl ⟨⟨nle rfl, nle rfl⟩, nle rfl, nle rfl⟩ hm.1 rfl rfl rfl (nle rfl) ?_
                    refine ct_X8_mirrors hm f rfl (by omega) ?_
                    refine kq_s ?_
                    refine g_iload rfl ?_
                    refine g_icmp_ge rfl L_X8_whyNo_244 (fun h_15 => ?_) (fun h_15 => ?_)
                    · refine g_iconst (v := 0) ik_0 ?_
                      refine g_fall rfl L_X8_whyNo_245 ?_
                      refine g_iret rfl (nle rfl) (nle rfl) ?_
                      exact qeq hQ (by clear hQ; simp_all [whyI, bitS, and01, barOK, mirOK, i32le, -Int32.not_lt]) rfl
                    · refine g_bipush (v := 6) bk_6 ?_
                      refine g_goto rfl L_X8_whyNo_245 ?_
                      refine g_iret rfl (nle rfl) (nle rfl) ?_
                      exact qeq hQ (by clear hQ; simp_all [whyI, bitS, and01, barOK, mirOK, i32le, -Int32.not_lt]) rfl
                  · refine g_aload_n rfl ?_
                    refine g_iload_n rfl ?_
                    refine g_callV (as := [_]) mk_X8_barre ml_X8_33 im_X8_barre se_X8_barre rfl rfl ⟨⟨nle rfl, nle rfl⟩, nle rfl, nle rfl⟩ hm.1 rfl rfl rfl (nle rfl) ?_
                    refine ct_X8_barre hm f rfl (by omega) ?_
                    refine kq_s ?_
                    refine g_iconst (v := 2) ik_2 ?_
                    refine g_iload_n rfl ?_
                    refine g_imul ?_
                    refine g_iconst (v := 4) ik_4 ?_
                    refine g_iadd ?_
                    refine g_icmp_ge rfl L_X8_whyNo_229 (fun h_16 => ?_) (fun h_16 => ?_)
                    · refine g_aload_n rfl ?_
                      refine g_iload_n rfl ?_
                      refine g_callV (as := [_]) mk_X8_mirrors ml_X8_47 im_X8_mirrors se_X8_mirrors rfl rfl ⟨⟨nle rfl, nle rfl⟩, nle rfl, nle rfl⟩ hm.1 rfl rfl rfl (nle rfl) ?_
                      refine ct_X8_mirrors hm f rfl (by omega) ?_
                      refine kq_s ?_
                      refine g_iload rfl ?_
                      refine g_icmp_ge rfl L_X8_whyNo_244 (fun h_17 => ?_) (fun h_17 => ?_)
                      · refine g_iconst (v := 0) ik_0 ?_
                        refine g_fall rfl L_X8_whyNo_245 ?_
                        refine g_iret rfl (nle rfl) (nle rfl) ?_
                        exact qeq hQ (by clear hQ; simp_all [whyI, bitS, and01, barOK, mirOK, i32le, -Int32.not_lt]) rfl
                      · refine g_bipush (v := 6) bk_6 ?_
                        refine g_goto rfl L_X8_whyNo_245 ?_
                        refine g_iret rfl (nle rfl) (nle rfl) ?_
                        exact qeq hQ (by clear hQ; simp_all [whyI, bitS, and01, barOK, mirOK, i32le, -Int32.not_lt]) rfl
                    · refine g_iconst (v := 5) ik_5 ?_
                      refine g_goto rfl L_X8_whyNo_245 ?_
                      refine g_iret rfl (nle rfl) (nle rfl) ?_
                      exact qeq hQ (by clear hQ; simp_all [whyI, bitS, and01, barOK, mirOK, i32le, -Int32.not_lt]) rfl
              · refine g_iload_n rfl ?_
                refine g_iconst (v := 2) ik_2 ?_
                refine g_idiv (by decide) ?_
                refine g_goto rfl L_X8_whyNo_206 ?_
                refine g_istore (nle rfl) ?_
                refine g_iload_n rfl ?_
                refine g_if_ne rfl L_X8_whyNo_229 (fun h_18 => ?_) (fun h_18 => ?_)
                · refine g_aload_n rfl ?_
                  refine g_iload_n rfl ?_
                  refine g_callV (as := [_]) mk_X8_mirrors ml_X8_47 im_X8_mirrors se_X8_mirrors rfl rfl ⟨⟨nle rfl, nle rfl⟩, nle rfl, nle rfl⟩ hm.1 rfl rfl rfl (nle rfl) ?_
                  refine ct_X8_mirrors hm f rfl (by omega) ?_
                  refine kq_s ?_
                  refine g_iload rfl ?_
                  refine g_icmp_ge rfl L_X8_whyNo_244 (fun h_19 => ?_) (fun h_19 => ?_)
                  · refine g_iconst (v := 0) ik_0 ?_
                    refine g_fall rfl L_X8_whyNo_245 ?_
                    refine g_iret rfl (nle rfl) (nle rfl) ?_
                    exact qeq hQ (by clear hQ; simp_all [whyI, bitS, and01, barOK, mirOK, i32le, -Int32.not_lt]) rfl
                  · refine g_bipush (v := 6) bk_6 ?_
                    refine g_goto rfl L_X8_whyNo_245 ?_
                    refine g_iret rfl (nle rfl) (nle rfl) ?_
                    exact qeq hQ (by clear hQ; simp_all [whyI, bitS, and01, barOK, mirOK, i32le, -Int32.not_lt]) rfl
                · refine g_aload_n rfl ?_
                  refine g_iload_n rfl ?_
                  refine g_callV (as := [_]) mk_X8_barre ml_X8_33 im_X8_barre se_X8_barre rfl rfl ⟨⟨nle rfl, nle rfl⟩, nle rfl, nle rfl⟩ hm.1 rfl rfl rfl (nle rfl) ?_
                  refine ct_X8_barre hm f rfl (by omega) ?_
                  refine kq_s ?_
                  refine g_iconst (v := 2) ik_2 ?_
                  refine g_iload_n rfl ?_
                  refine g_imul ?_
                  refine g_iconst (v := 4) ik_4 ?_
                  refine g_iadd ?_
                  refine g_icmp_ge rfl L_X8_whyNo_229 (fun h_20 => ?_) (fun h_20 => ?_)
                  · refine g_aload_n rfl ?_
                    refine g_iload_n rfl ?_
                    refine g_callV (as := [_]) mk_X8_mirrors ml_X8_47 im_X8_mirrors se_X8_mirrors rfl rfl ⟨⟨nle rfl, nle rfl⟩, nle rfl, nle rfl⟩ hm.1 rfl rfl rfl (nle rfl) ?_
                    refine ct_X8_mirrors hm f rfl (by omega) ?_
                    refine kq_s ?_
                    refine g_iload rfl ?_
                    refine g_icmp_ge rfl L_X8_whyNo_244 (fun h_21 => ?_) (fun h_21 => ?_)
                    · refine g_iconst (v := 0) ik_0 ?_
                      refine g_fall rfl L_X8_whyNo_245 ?_
                      refine g_iret rfl (nle rfl) (nle rfl) ?_
                      exact qeq hQ (by clear hQ; simp_all [whyI, bitS, and01, barOK, mirOK, i32le, -Int32.not_lt]) rfl
                    · refine g_bipush (v := 6) bk_6 ?_
                      refine g_goto rfl L_X8_whyNo_245 ?_
                      refine g_iret rfl (nle rfl) (nle rfl) ?_
                      exact qeq hQ (by clear hQ; simp_all [whyI, bitS, and01, barOK, mirOK, i32le, -Int32.not_lt]) rfl
                  · refine g_iconst (v := 5) ik_5 ?_
                    refine g_goto rfl L_X8_whyNo_245 ?_
                    refine g_iret rfl (nle rfl) (nle rfl) ?_
                    exact qeq hQ (by clear hQ; simp_all [whyI, bitS, and01, barOK, mirOK, i32le, -Int32.not_lt]) rfl
            · refine g_iconst (v := 4) ik_4 ?_
              refine g_iret rfl (nle rfl) (nle rfl) ?_
              exact qeq hQ (by clear hQ; simp_all [whyI, bitS, and01, barOK, mirOK, i32le, -Int32.not_lt]) rfl
          · refine g_fall rfl L_X8_whyNo_172 ?_
            refine g_iconst (v := 3) ik_3 ?_
            refine g_iret rfl (nle rfl) (nle rfl) ?_
            exact qeq hQ (by clear hQ; simp_all [whyI, bitS, and01, barOK, mirOK, i32le, -Int32.not_lt]) rfl
      · refine g_fall rfl L_X8_whyNo_124 ?_
        refine g_iload rfl ?_
        refine g_if_eq_b rfl L_X8_whyNo_133 (fun h_22 => ?_) (fun h_22 => ?_)
        · refine g_iconst (v := 2) ik_2 ?_
          refine g_fall rfl L_X8_whyNo_134 ?_
          refine g_iret rfl (nle rfl) (nle rfl) ?_
          exact qeq hQ (by clear hQ; simp_all [whyI, bitS, and01, barOK, mirOK, i32le, -Int32.not_lt]) rfl
        · refine g_iconst (v := 1) ik_1 ?_
          refine g_goto rfl L_X8_whyNo_134 ?_
          refine g_iret rfl (nle rfl) (nle rfl) ?_
          exact qeq hQ (by clear hQ; simp_all [whyI, bitS, and01, barOK, mirOK, i32le, -Int32.not_lt]) rfl
  · have hlt_k : k < nc := (cmp_ge (c := nc) rfl (by omega) hle_k).2 h_1
    refine g_join (isJ := B_X8_whyNo_49) (pcJ := 49) (bI (atC (M (m + 1)) k day hour)) ?_ (fun hj_20 => ?_)
    · refine g_istore (nle rfl) ?_
      refine g_join (isJ := B_X8_whyNo_77) (pcJ := 77) (bI (anyB (k + 1) (fun k => atC (M (m + 1)) k day hour && decide (M (m + 1) (39 + 9 * k + 2) = nI f)))) ?_ (fun hj_51 => ?_)
      · refine g_istore (nle rfl) ?_
        refine g_join (isJ := B_X8_whyNo_106) (pcJ := 106) (bI (anyB (k + 1) (fun k => atC (M (m + 1)) k day hour && decide (M (m + 1) (39 + 9 * k + 3) = nI t)))) ?_ (fun hj_79 => ?_)
        · refine g_istore (nle rfl) ?_
          refine g_iinc (v := nI (k + 1)) rfl (nI_inc _) (nle rfl) ?_
          refine g_goto rfl L_X8_whyNo_9 ?_
          exact g_lo2 (ih_k hlt_k) ⟨rfl, rfl, rfl, rfl, rfl, rfl, rfl, rfl, rfl, rfl, trivial⟩
        · refine g_iload rfl ?_
          refine g_if_ne_b rfl L_X8_whyNo_101 (fun h_23 => ?_) (fun h_23 => ?_)
          · refine g_iconst (v := 1) ik_1 ?_
            refine g_goto rfl L_X8_whyNo_106 ?_
            exact hj_79 _ (by clear hQ hj_79 ih_k; simp_all [bI, anyB])
          · refine g_iload rfl ?_
            refine g_if_eq_b rfl L_X8_whyNo_105 (fun h_24 => ?_) (fun h_24 => ?_)
            · refine g_iconst (v := 0) ik_0 ?_
              refine g_fall rfl L_X8_whyNo_106 ?_
              exact hj_79 _ (by clear hQ hj_79 ih_k; simp_all [bI, anyB])
            · refine g_aload_n rfl ?_
              refine g_iload rfl ?_
              refine g_iconst (v := 3) ik_3 ?_
              refine g_callV (as := [_, _]) mk_X8_ofClass ml_X8_40 im_X8_ofClass se_X8_ofClass rfl rfl ⟨⟨nle rfl, nle rfl⟩, nle rfl, nle rfl⟩ hm.1 rfl rfl rfl (nle rfl) ?_
              refine ct_X8_ofClass hm k 3 rfl rfl (by omega) ?_
              refine kq_s ?_
              refine g_iload rfl ?_
              refine g_icmp_ne rfl L_X8_whyNo_105 (fun h_25 => ?_) (fun h_25 => ?_)
              · refine g_iconst (v := 0) ik_0 ?_
                refine g_fall rfl L_X8_whyNo_106 ?_
                exact hj_79 _ (by clear hQ hj_79 ih_k; simp_all [bI, anyB])
              · refine g_fall rfl L_X8_whyNo_101 ?_
                refine g_iconst (v := 1) ik_1 ?_
                refine g_goto rfl L_X8_whyNo_106 ?_
                exact hj_79 _ (by clear hQ hj_79 ih_k; simp_all [bI, anyB])
      · refine g_iload rfl ?_
        refine g_if_ne_b rfl L_X8_whyNo_72 (fun h_26 => ?_) (fun h_26 => ?_)
        · refine g_iconst (v := 1) ik_1 ?_
          refine g_goto rfl L_X8_whyNo_77 ?_
          exact hj_51 _ (by clear hQ hj_51 ih_k; simp_all [bI, anyB])
        · refine g_iload rfl ?_
          refine g_if_eq_b rfl L_X8_whyNo_76 (fun h_27 => ?_) (fun h_27 => ?_)
          · refine g_iconst (v := 0) ik_0 ?_
            refine g_fall rfl L_X8_whyNo_77 ?_
            exact hj_51 _ (by clear hQ hj_51 ih_k; simp_all [bI, anyB])
          · refine g_aload_n rfl ?_
            refine g_iload rfl ?_
            refine g_iconst (v := 2) ik_2 ?_
            refine g_callV (as := [_, _]) mk_X8_ofClass ml_X8_40 im_X8_ofClass se_X8_ofClass rfl rfl ⟨⟨nle rfl, nle rfl⟩, nle rfl, nle rfl⟩ hm.1 rfl rfl rfl (nle rfl) ?_
            refine ct_X8_ofClass hm k 2 rfl rfl (by omega) ?_
            refine kq_s ?_
            refine g_iload_n rfl ?_
            refine g_icmp_ne rfl L_X8_whyNo_76 (fun h_28 => ?_) (fun h_28 => ?_)
            · refine g_iconst (v := 0) ik_0 ?_
              refine g_fall rfl L_X8_whyNo_77 ?_
              exact hj_51 _ (by clear hQ hj_51 ih_k; simp_all [bI, anyB])
            · refine g_fall rfl L_X8_whyNo_72 ?_
              refine g_iconst (v := 1) ik_1 ?_
              refine g_goto rfl L_X8_whyNo_77 ?_
              exact hj_51 _ (by clear hQ hj_51 ih_k; simp_all [bI, anyB])
    · refine g_aload_n rfl ?_
      refine g_iload rfl ?_
      refine g_iconst (v := 4) ik_4 ?_
      refine g_callV (as := [_, _]) mk_X8_ofClass ml_X8_40 im_X8_ofClass se_X8_ofClass rfl rfl ⟨⟨nle rfl, nle rfl⟩, nle rfl, nle rfl⟩ hm.1 rfl rfl rfl (nle rfl) ?_
      refine ct_X8_ofClass hm k 4 rfl rfl (by omega) ?_
      refine kq_s ?_
      refine g_iload rfl ?_
      refine g_icmp_ne rfl L_X8_whyNo_48 (fun h_29 => ?_) (fun h_29 => ?_)
      · refine g_iconst (v := 0) ik_0 ?_
        refine g_fall rfl L_X8_whyNo_49 ?_
        exact hj_20 _ (by clear hQ hj_20 ih_k; simp_all [bI, atC])
      · refine g_aload_n rfl ?_
        refine g_iload rfl ?_
        refine g_iconst (v := 5) ik_5 ?_
        refine g_callV (as := [_, _]) mk_X8_ofClass ml_X8_40 im_X8_ofClass se_X8_ofClass rfl rfl ⟨⟨nle rfl, nle rfl⟩, nle rfl, nle rfl⟩ hm.1 rfl rfl rfl (nle rfl) ?_
        refine ct_X8_ofClass hm k 5 rfl rfl (by omega) ?_
        refine kq_s ?_
        refine g_iload rfl ?_
        refine g_icmp_ne rfl L_X8_whyNo_48 (fun h_30 => ?_) (fun h_30 => ?_)
        · refine g_iconst (v := 0) ik_0 ?_
          refine g_fall rfl L_X8_whyNo_49 ?_
          exact hj_20 _ (by clear hQ hj_20 ih_k; simp_all [bI, atC])
        · refine g_iconst (v := 1) ik_1 ?_
          refine g_goto rfl L_X8_whyNo_49 ?_
          exact hj_20 _ (by clear hQ hj_20 ih_k; simp_all [bI, atC])
end
section
theorem g_mem {X : Xs} {y : MI} {is : List (Instr × Nat)} {pc : Nat} {lo : Lo} {st : List Value} {nc ks : Nat} {κ : Kp} {M M' : Mem} {Q : Rs → Kp → Mem → Prop} (e : M = M') (h : G X y is pc lo st nc ks κ M' Q) : G X y is pc lo st nc ks κ M Q := by rw [e]; exact h
theorem anyB_true {P : Nat → Bool} {k : Nat} : ∀ {n : Nat}, k < n → P k = true → anyB n P = true
  | 0, h, _ => absurd h (Nat.not_lt_zero _)
  | n + 1, h, hp => by
    show (anyB n P || P n) = true
    rcases Nat.lt_succ_iff_lt_or_eq.mp h with q | q
    · rw [anyB_true q hp]; rfl
    · subst q; rw [hp]; simp
def danS (s : Nat → Int32) (k d : Nat) : Nat → Int32 :=
  let a := upd s (129 + 5 * d + 2) (s (129 + 5 * d + 2) - 1)
  let b := upd a (129 + 5 * d + 3) (a (129 + 5 * d + 3) + 1)
  let c := upd b (129 + 5 * d + 1) (b (129 + 5 * d + 1) + if s (39 + 9 * k + 1) < b (129 + 5 * d) then 1 else s (39 + 9 * k + 1))
  let e := upd c (39 + 9 * k + 7) (c (39 + 9 * k + 7) + 1)
  upd e 6 (e 6 + 1)
def holdS (s : Nat → Int32) (k : Nat) : Nat → Int32 :=
  let a := upd s 7 (s 7 + 1)
  upd a (39 + 9 * k + 6) (a (39 + 9 * k + 6) + 1)
def dnN (who : Int32) (k : Nat) : Nat → (Nat → Int32) → (Nat → Int32)
  | 0, s => s
  | d + 1, s => if bitS who (nI d) then danS (dnN who k d s) k d else dnN who k d s
def stepC (nd : Nat) (s : Nat → Int32) (k : Nat) : Nat → Int32 := if bitsI (comI s k nd) < s 11 then upd s 8 (s 8 + 1) else dnN (comI s k nd) k nd (holdS s k)
def clsN (nd : Nat) : Nat → (Nat → Int32) → (Nat → Int32)
  | 0, s => s
  | k + 1, s => stepC nd (clsN nd k s) k
def hldN (nd : Nat) : Nat → (Nat → Int32) → Int32
  | 0, _ => 0
  | k + 1, s => if bitsI (comI (clsN nd k s) k nd) < (clsN nd k s) 11 then hldN nd k s else hldN nd k s ||| (1 <<< (nI k &&& 31))
def riseS (s : Nat → Int32) (d : Nat) : Nat → Int32 := if s 12 ≤ s (129 + 5 * d + 1) ∧ s (129 + 5 * d) < 5 then upd (upd s (129 + 5 * d) (s (129 + 5 * d) + 1)) (129 + 5 * d + 1) 0 else s
def riseN : Nat → (Nat → Int32) → (Nat → Int32)
  | 0, s => s
  | d + 1, s => riseS (riseN d s) d
def weekS (nc nd : Nat) (s : Nat → Int32) : Nat → Int32 := riseN nd (clsN nd nc (upd s 4 (s 4 + 1)))
def weekH (nc nd : Nat) (s : Nat → Int32) : Int32 := hldN nd nc (upd s 4 (s 4 + 1))
def lowJ (j : Nat) : Prop := j < 4 ∨ j = 11 ∨ j = 12
theorem upd_ne {f : Nat → Int32} {k j : Nat} {x : Int32} (h : j ≠ k) : upd f k x j = f j := pk_un h
theorem danS_low {s : Nat → Int32} {k d j : Nat} (h : lowJ j) : danS s k d j = s j := by
  unfold lowJ at h
  simp only [danS]
  rw [upd_ne (by omega), upd_ne (by omega), upd_ne (by omega), upd_ne (by omega), upd_ne (by omega)]
theorem holdS_low {s : Nat → Int32} {k j : Nat} (h : lowJ j) : holdS s k j = s j := by
  unfold lowJ at h
  simp only [holdS]
  rw [upd_ne (by omega), upd_ne (by omega)]
theorem dnN_low {who : Int32} {k j : Nat} (h : lowJ j) : ∀ (d : Nat) (s : Nat → Int32), dnN who k d s j = s j
  | 0, s => rfl
  | d + 1, s => by
    show (if bitS who (nI d) then danS (dnN who k d s) k d else dnN who k d s) j = s j
    split
    · rw [danS_low h, dnN_low h d s]
    · exact dnN_low h d s
theorem stepC_low {nd k j : Nat} {s : Nat → Int32} (h : lowJ j) : stepC nd s k j = s j := by
  unfold stepC
  split
  · unfold lowJ at h
    rw [upd_ne (by omega)]
  · rw [dnN_low h, holdS_low h]
theorem clsN_low {nd j : Nat} (h : lowJ j) : ∀ (k : Nat) (s : Nat → Int32), clsN nd k s j = s j
  | 0, s => rfl
  | k + 1, s => by
    show stepC nd (clsN nd k s) k j = s j
    rw [stepC_low h, clsN_low h k s]
theorem riseS_low {d j : Nat} {s : Nat → Int32} (h : lowJ j) : riseS s d j = s j := by
  unfold riseS
  split
  · unfold lowJ at h
    rw [upd_ne (by omega), upd_ne (by omega)]
  · rfl
theorem riseN_low {j : Nat} (h : lowJ j) : ∀ (d : Nat) (s : Nat → Int32), riseN d s j = s j
  | 0, s => rfl
  | d + 1, s => by
    show riseS (riseN d s) d j = s j
    rw [riseS_low h, riseN_low h d s]
theorem weekS_low {nc nd j : Nat} {s : Nat → Int32} (h : lowJ j) : weekS nc nd s j = s j := by
  unfold weekS
  rw [riseN_low h, clsN_low h, upd_ne (by unfold lowJ at h; omega)]
set_option maxRecDepth 100000 in
set_option maxHeartbeats 4000000 in
theorem ct_X8_coming {X : Xs} {κ : Kp} {M : Mem} {Q : Rs → Kp → Mem → Prop} {m : Nat} (hm : IsMod κ.2.1 m) {nd : Nat} (h3 : M (m + 1) 3 = nI nd) (hnd : nd ≤ 12) {kI : Int32} (k : Nat) (hk : kI = nI k) (hlt : k < 10) (hQ : Q (.inl (some (.int (comI (M (m + 1)) k nd)))) κ M) : Ct X m_X8_coming [.ref m, .int kI] κ M Q := by
  refine ct_of B_X8_coming_0 pn_X8 rfl (nle rfl) L_X8_coming_0 ?_
  subst hk
  refine g_iconst (v := 0) ik_0 ?_
  refine g_istore_n (nle rfl) ?_
  refine g_iconst (v := 0) ik_0 ?_
  refine g_istore_n (nle rfl) ?_
  refine g_fall rfl L_X8_coming_4 ?_
  refine g_lo2 (lo' := [(0, some (.ref m)), (1, some (.int (nI k))), (2, some (.int (comI (M (m + 1)) k 0))), (3, some (.int (nI 0)))]) ?_ ⟨rfl, rfl, rfl, rfl, trivial⟩
  refine loop_up (P := fun d => G X m_X8_coming B_X8_coming_4 4 [(0, some (.ref m)), (1, some (.int (nI k))), (2, some (.int (comI (M (m + 1)) k d))), (3, some (.int (nI d)))] [] 0 0 κ M Q) nd (fun d hle_d ih_d => ?_) 0 (Nat.zero_le _)
  refine g_iload_n rfl ?_
  refine g_aload_n rfl ?_
  refine g_getR (w := (m + 1)) fl_X8_7 rfl hm.1 rfl ?_
  refine g_iconst (v := 3) ik_3 ?_
  refine g_iaload (j := 3) hm.2.1 rfl (nle rfl) (nle rfl) ?_
  rw [h3]
  refine g_icmp_ge rfl L_X8_coming_48 (fun h_1 => ?_) (fun h_1 => ?_)
  · have hx_d := ((cmp_ge (c := nd) rfl (by omega) hle_d).1 h_1).symm
    subst hx_d
    refine g_iload_n rfl ?_
    refine g_iret rfl (nle rfl) (nle rfl) ?_
    exact hQ
  · have hlt_d : d < nd := (cmp_ge (c := nd) rfl (by omega) hle_d).2 h_1
    refine g_iload_n rfl ?_
    refine g_join (isJ := B_X8_coming_40) (pcJ := 40) (if bitS (M (m + 1) (39 + 9 * k + 8)) (nI d) && decide (0 < M (m + 1) (129 + 5 * d + 2)) then 1 <<< (nI d &&& 31) else 0) ?_ (fun hj_15 => ?_)
    · refine g_ior ?_
      refine g_istore_n (nle rfl) ?_
      refine g_iinc (v := nI (d + 1)) rfl (nI_inc _) (nle rfl) ?_
      refine g_goto rfl L_X8_coming_4 ?_
      exact g_lo2 (ih_d hlt_d) ⟨rfl, rfl, rfl, rfl, trivial⟩
    · refine g_aload_n rfl ?_
      refine g_iload_n rfl ?_
      refine g_iload_n rfl ?_
      refine g_callV (as := [_, _]) mk_X8_hasSeat ml_X8_53 im_X8_hasSeat se_X8_hasSeat rfl rfl ⟨⟨nle rfl, nle rfl⟩, nle rfl, nle rfl⟩ hm.1 rfl rfl rfl (nle rfl) ?_
      refine ct_X8_hasSeat hm k rfl (by omega) ?_
      refine kq_s ?_
      refine g_if_eq_b rfl L_X8_coming_39 (fun h_2 => ?_) (fun h_2 => ?_)
      · refine g_iconst (v := 0) ik_0 ?_
        refine g_fall rfl L_X8_coming_40 ?_
        exact hj_15 _ (by clear hQ hj_15 ih_d; simp_all [i32le, -Int32.not_lt])
      · refine g_aload_n rfl ?_
        refine g_iload_n rfl ?_
        refine g_iconst (v := 2) ik_2 ?_
        refine g_callV (as := [_, _]) mk_X8_ofDancer ml_X8_57 im_X8_ofDancer se_X8_ofDancer rfl rfl ⟨⟨nle rfl, nle rfl⟩, nle rfl, nle rfl⟩ hm.1 rfl rfl rfl (nle rfl) ?_
        refine ct_X8_ofDancer hm d 2 rfl rfl (by omega) ?_
        refine kq_s ?_
        refine g_if_le rfl L_X8_coming_39 (fun h_3 => ?_) (fun h_3 => ?_)
        · refine g_iconst (v := 0) ik_0 ?_
          refine g_fall rfl L_X8_coming_40 ?_
          exact hj_15 _ (by clear hQ hj_15 ih_d; simp_all [i32le, -Int32.not_lt])
        · refine g_iconst (v := 1) ik_1 ?_
          refine g_iload_n rfl ?_
          refine g_ishl ?_
          refine g_goto rfl L_X8_coming_40 ?_
          exact hj_15 _ (by clear hQ hj_15 ih_d; simp_all [i32le, -Int32.not_lt])
set_option maxRecDepth 100000 in
set_option maxHeartbeats 4000000 in
theorem ct_X8_whyNoSeat {X : Xs} {κ : Kp} {M : Mem} {Q : Rs → Kp → Mem → Prop} {m : Nat} (hm : IsMod κ.2.1 m) {nc : Nat} (h2 : M (m + 1) 2 = nI nc) (hnc : nc ≤ 10) {dI kI : Int32} (d k f : Nat) (hd : dI = nI d) (hk : kI = nI k) (hd2 : d < 12) (hk2 : k < 10) (hf : M (m + 1) (39 + 9 * k + 2) = nI f) (hf2 : f < 4) (hQ : Q (.inl (some (.int (whyS (M (m + 1)) nc d k f)))) κ M) : Ct X m_X8_whyNoSeat [.ref m, .int dI, .int kI] κ M Q := by
  refine ct_of B_X8_whyNoSeat_0 pn_X8 rfl (nle rfl) L_X8_whyNoSeat_0 ?_
  subst hd
  subst hk
  refine g_aload_n rfl ?_
  refine g_iload_n rfl ?_
  refine g_iload_n rfl ?_
  refine g_callV (as := [_, _]) mk_X8_hasSeat ml_X8_53 im_X8_hasSeat se_X8_hasSeat rfl rfl ⟨⟨nle rfl, nle rfl⟩, nle rfl, nle rfl⟩ hm.1 rfl rfl rfl (nle rfl) ?_
  refine ct_X8_hasSeat hm k rfl (by omega) ?_
  refine kq_s ?_
  refine g_if_eq_b rfl L_X8_whyNoSeat_11 (fun h_1 => ?_) (fun h_1 => ?_)
  · refine g_aload_n rfl ?_
    refine g_iload_n rfl ?_
    refine g_iconst (v := 1) ik_1 ?_
    refine g_callV (as := [_, _]) mk_X8_ofClass ml_X8_40 im_X8_ofClass se_X8_ofClass rfl rfl ⟨⟨nle rfl, nle rfl⟩, nle rfl, nle rfl⟩ hm.1 rfl rfl rfl (nle rfl) ?_
    refine ct_X8_ofClass hm k 1 rfl rfl (by omega) ?_
    refine kq_s ?_
    refine g_aload_n rfl ?_
    refine g_iload_n rfl ?_
    refine g_iconst (v := 0) ik_0 ?_
    refine g_callV (as := [_, _]) mk_X8_ofDancer ml_X8_57 im_X8_ofDancer se_X8_ofDancer rfl rfl ⟨⟨nle rfl, nle rfl⟩, nle rfl, nle rfl⟩ hm.1 rfl rfl rfl (nle rfl) ?_
    refine ct_X8_ofDancer hm d 0 rfl rfl (by omega) ?_
    refine kq_s ?_
    refine g_iconst (v := 1) ik_1 ?_
    refine g_iadd ?_
    refine g_icmp_le rfl L_X8_whyNoSeat_30 (fun h_2 => ?_) (fun h_2 => ?_)
    · refine g_iconst (v := 0) ik_0 ?_
      refine g_istore_n (nle rfl) ?_
      refine g_fall rfl L_X8_whyNoSeat_32 ?_
      refine g_lo2 (lo' := [(0, some (.ref m)), (1, some (.int (nI d))), (2, some (.int (nI k))), (3, some (.int (nI 0)))]) ?_ ⟨rfl, rfl, rfl, rfl, trivial⟩
      refine loop_up (P := fun e => anyB e (fun e => bitS (M (m + 1) (39 + 9 * e + 8)) (nI d) && (decide (M (m + 1) (39 + 9 * e + 4) = M (m + 1) (39 + 9 * k + 4)) && decide (M (m + 1) (39 + 9 * e + 5) = M (m + 1) (39 + 9 * k + 5)))) = false → G X m_X8_whyNoSeat B_X8_whyNoSeat_32 32 [(0, some (.ref m)), (1, some (.int (nI d))), (2, some (.int (nI k))), (3, some (.int (nI e)))] [] 0 0 κ M Q) nc (fun e hle_e ih_e hpre_e => ?_) 0 (Nat.zero_le _) rfl
      refine g_iload_n rfl ?_
      refine g_aload_n rfl ?_
      refine g_getR (w := (m + 1)) fl_X8_7 rfl hm.1 rfl ?_
      refine g_iconst (v := 2) ik_2 ?_
      refine g_iaload (j := 2) hm.2.1 rfl (nle rfl) (nle rfl) ?_
      rw [h2]
      refine g_icmp_ge rfl L_X8_whyNoSeat_89 (fun h_3 => ?_) (fun h_3 => ?_)
      · have hx_e := ((cmp_ge (c := nc) rfl (by omega) hle_e).1 h_3).symm
        subst hx_e
        refine g_aload_n rfl ?_
        refine g_iload_n rfl ?_
        refine g_bipush (v := 8) bk_8 ?_
        refine g_callV (as := [_, _]) mk_X8_ofClass ml_X8_40 im_X8_ofClass se_X8_ofClass rfl rfl ⟨⟨nle rfl, nle rfl⟩, nle rfl, nle rfl⟩ hm.1 rfl rfl rfl (nle rfl) ?_
        refine ct_X8_ofClass hm k 8 rfl rfl (by omega) ?_
        refine kq_s ?_
        refine g_callS (as := [_]) mk_X8_bits ml_X8_60 sm_X8_bits rfl rfl ⟨⟨nle rfl, nle rfl⟩, nle rfl, nle rfl⟩ rfl rfl (nle rfl) ?_
        refine ct_X8_bits ?_
        refine kq_s ?_
        refine g_aload_n rfl ?_
        refine g_iload_n rfl ?_
        refine g_callV (as := [_]) mk_X8_classTakes ml_X8_63 im_X8_classTakes se_X8_classTakes rfl rfl ⟨⟨nle rfl, nle rfl⟩, nle rfl, nle rfl⟩ hm.1 rfl rfl rfl (nle rfl) ?_
        refine ct_X8_classTakes hm k f rfl (by omega) hf (by omega) ?_
        refine kq_s ?_
        refine g_icmp_lt rfl L_X8_whyNoSeat_111 (fun h_4 => ?_) (fun h_4 => ?_)
        · refine g_iconst (v := 0) ik_0 ?_
          refine g_fall rfl L_X8_whyNoSeat_112 ?_
          refine g_iret rfl (nle rfl) (nle rfl) ?_
          exact qeq hQ (by clear hQ; simp_all [whyS, i32le, -Int32.not_lt]) rfl
        · refine g_iconst (v := 4) ik_4 ?_
          refine g_goto rfl L_X8_whyNoSeat_112 ?_
          refine g_iret rfl (nle rfl) (nle rfl) ?_
          exact qeq hQ (by clear hQ; simp_all [whyS, i32le, -Int32.not_lt]) rfl
      · have hlt_e : e < nc := (cmp_ge (c := nc) rfl (by omega) hle_e).2 h_3
        refine g_aload_n rfl ?_
        refine g_iload_n rfl ?_
        refine g_iload_n rfl ?_
        refine g_callV (as := [_, _]) mk_X8_hasSeat ml_X8_53 im_X8_hasSeat se_X8_hasSeat rfl rfl ⟨⟨nle rfl, nle rfl⟩, nle rfl, nle rfl⟩ hm.1 rfl rfl rfl (nle rfl) ?_
        refine ct_X8_hasSeat hm e rfl (by omega) ?_
        refine kq_s ?_
        refine g_if_eq_b rfl L_X8_whyNoSeat_83 (fun h_5 => ?_) (fun h_5 => ?_)
        · refine g_iinc (v := nI (e + 1)) rfl (nI_inc _) (nle rfl) ?_
          refine g_goto rfl L_X8_whyNoSeat_32 ?_
          exact g_lo2 (ih_e hlt_e (by clear hQ ih_e; simp_all [anyB])) ⟨rfl, rfl, rfl, rfl, trivial⟩
        · refine g_aload_n rfl ?_
          refine g_iload_n rfl ?_
          refine g_iconst (v := 4) ik_4 ?_
          refine g_callV (as := [_, _]) mk_X8_ofClass ml_X8_40 im_X8_ofClass se_X8_ofClass rfl rfl ⟨⟨nle rfl, nle rfl⟩, nle rfl, nle rfl⟩ hm.1 rfl rfl rfl (nle rfl) ?_
          refine ct_X8_ofClass hm e 4 rfl rfl (by omega) ?_
          refine kq_s ?_
          refine g_aload_n rfl ?_
          refine g_iload_n rfl ?_
          refine g_iconst (v := 4) ik_4 ?_
          refine g_callV (as := [_, _]) mk_X8_ofClass ml_X8_40 im_X8_ofClass se_X8_ofClass rfl rfl ⟨⟨nle rfl, nle rfl⟩, nle rfl, nle rfl⟩ hm.1 rfl rfl rfl (nle rfl) ?_
          refine ct_X8_ofClass hm k 4 rfl rfl (by omega) ?_
          refine kq_s ?_
          refine g_icmp_ne rfl L_X8_whyNoSeat_83 (fun h_6 => ?_) (fun h_6 => ?_)
          · refine g_iinc (v := nI (e + 1)) rfl (nI_inc _) (nle rfl) ?_
            refine g_goto rfl L_X8_whyNoSeat_32 ?_
            exact g_lo2 (ih_e hlt_e (by clear hQ ih_e; simp_all [anyB])) ⟨rfl, rfl, rfl, rfl, trivial⟩
          · refine g_aload_n rfl ?_
            refine g_iload_n rfl ?_
            refine g_iconst (v := 5) ik_5 ?_
            refine g_callV (as := [_, _]) mk_X8_ofClass ml_X8_40 im_X8_ofClass se_X8_ofClass rfl rfl ⟨⟨nle rfl, nle rfl⟩, nle rfl, nle rfl⟩ hm.1 rfl rfl rfl (nle rfl) ?_
            refine ct_X8_ofClass hm e 5 rfl rfl (by omega) ?_
            refine kq_s ?_
            refine g_aload_n rfl ?_
            refine g_iload_n rfl ?_
            refine g_iconst (v := 5) ik_5 ?_
            refine g_callV (as := [_, _]) mk_X8_ofClass ml_X8_40 im_X8_ofClass se_X8_ofClass rfl rfl ⟨⟨nle rfl, nle rfl⟩, nle rfl, nle rfl⟩ hm.1 rfl rfl rfl (nle rfl) ?_
            refine ct_X8_ofClass hm k 5 rfl rfl (by omega) ?_
            refine kq_s ?_
            refine g_icmp_ne rfl L_X8_whyNoSeat_83 (fun h_7 => ?_) (fun h_7 => ?_)
            · refine g_iinc (v := nI (e + 1)) rfl (nI_inc _) (nle rfl) ?_
              refine g_goto rfl L_X8_whyNoSeat_32 ?_
              exact g_lo2 (ih_e hlt_e (by clear hQ ih_e; simp_all [anyB])) ⟨rfl, rfl, rfl, rfl, trivial⟩
            · refine g_iconst (v := 3) ik_3 ?_
              refine g_iret rfl (nle rfl) (nle rfl) ?_
              have q := anyB_true (P := fun e => bitS (M (m + 1) (39 + 9 * e + 8)) (nI d) && (decide (M (m + 1) (39 + 9 * e + 4) = M (m + 1) (39 + 9 * k + 4)) && decide (M (m + 1) (39 + 9 * e + 5) = M (m + 1) (39 + 9 * k + 5)))) hlt_e (by clear hQ ih_e hpre_e; simp_all)
              exact qeq hQ (by clear hQ ih_e hpre_e; simp_all [whyS, i32le, -Int32.not_lt]) rfl
    · refine g_iconst (v := 2) ik_2 ?_
      refine g_iret rfl (nle rfl) (nle rfl) ?_
      exact qeq hQ (by clear hQ; simp_all [whyS, i32le, -Int32.not_lt]) rfl
  · refine g_iconst (v := 1) ik_1 ?_
    refine g_iret rfl (nle rfl) (nle rfl) ?_
    exact qeq hQ (by clear hQ; simp_all [whyS, i32le, -Int32.not_lt]) rfl
set_option maxRecDepth 100000 in
set_option maxHeartbeats 4000000 in
theorem ct_X8_dances {X : Xs} {κ : Kp} {M : Mem} {Q : Rs → Kp → Mem → Prop} {m : Nat} (hm : IsMod κ.2.1 m)  {kI dI : Int32} (k d : Nat) (hk : kI = nI k) (hd : dI = nI d) (hk2 : k < 10) (hd2 : d < 12) (hQ : Q (.inl none) κ (sR M (m + 1) (danS (M (m + 1)) k d))) : Ct X m_X8_dances [.ref m, .int kI, .int dI] κ M Q := by
  refine ct_of B_X8_dances_0 pn_X8 rfl (nle rfl) L_X8_dances_0 ?_
  subst hk
  subst hd
  refine g_sipush (v := 129) sk_129 ?_
  refine g_iconst (v := 5) ik_5 ?_
  refine g_iload_n rfl ?_
  refine g_imul ?_
  refine g_iadd ?_
  refine g_istore_n (nle rfl) ?_
  refine g_aload_n rfl ?_
  refine g_iload_n rfl ?_
  refine g_iconst (v := 1) ik_1 ?_
  refine g_callV (as := [_, _]) mk_X8_ofClass ml_X8_40 im_X8_ofClass se_X8_ofClass rfl rfl ⟨⟨nle rfl, nle rfl⟩, nle rfl, nle rfl⟩ hm.1 rfl rfl rfl (nle rfl) ?_
  refine ct_X8_ofClass hm k 1 rfl rfl (by omega) ?_
  refine kq_s ?_
  refine g_istore (nle rfl) ?_
  refine g_aload_n rfl ?_
  refine g_getR (w := (m + 1)) fl_X8_7 rfl hm.1 rfl ?_
  refine g_iload_n rfl ?_
  refine g_iconst (v := 2) ik_2 ?_
  refine g_iadd ?_
  refine g_dup2 rfl rfl ?_
  refine g_iaload (j := ((129 + (5 * d)) + 2)) hm.2.1 (by simp only [nI, Int32.ofNat_add, Int32.ofNat_mul] <;> rfl) (by omega) (nle rfl) ?_
  refine g_iconst (v := 1) ik_1 ?_
  refine g_isub ?_
  refine g_iastore (j := ((129 + (5 * d)) + 2)) hm.2.1 (by simp only [nI, Int32.ofNat_add, Int32.ofNat_mul] <;> rfl) (by omega) (nle rfl) ?_
  refine g_aload_n rfl ?_
  refine g_getR (w := (m + 1)) fl_X8_7 rfl hm.1 rfl ?_
  refine g_iload_n rfl ?_
  refine g_iconst (v := 3) ik_3 ?_
  refine g_iadd ?_
  refine g_dup2 rfl rfl ?_
  refine g_iaload (j := ((129 + (5 * d)) + 3)) hm.2.1 (by simp only [nI, Int32.ofNat_add, Int32.ofNat_mul] <;> rfl) (by omega) (nle rfl) ?_
  refine g_iconst (v := 1) ik_1 ?_
  refine g_iadd ?_
  refine g_iastore (j := ((129 + (5 * d)) + 3)) hm.2.1 (by simp only [nI, Int32.ofNat_add, Int32.ofNat_mul] <;> rfl) (by omega) (nle rfl) ?_
  refine g_aload_n rfl ?_
  refine g_getR (w := (m + 1)) fl_X8_7 rfl hm.1 rfl ?_
  refine g_iload_n rfl ?_
  refine g_iconst (v := 1) ik_1 ?_
  refine g_iadd ?_
  refine g_dup2 rfl rfl ?_
  refine g_iaload (j := ((129 + (5 * d)) + 1)) hm.2.1 (by simp only [nI, Int32.ofNat_add, Int32.ofNat_mul] <;> rfl) (by omega) (nle rfl) ?_
  refine g_iload rfl ?_
  refine g_aload_n rfl ?_
  refine g_getR (w := (m + 1)) fl_X8_7 rfl hm.1 rfl ?_
  refine g_iload_n rfl ?_
  refine g_iaload (j := (129 + (5 * d))) hm.2.1 (by simp only [nI, Int32.ofNat_add, Int32.ofNat_mul] <;> rfl) (by omega) (nle rfl) ?_
  refine g_icmp_lt rfl L_X8_dances_65 (fun h_1 => ?_) (fun h_1 => ?_)
  · refine g_iconst (v := 1) ik_1 ?_
    refine g_fall rfl L_X8_dances_66 ?_
    refine g_iadd ?_
    refine g_iastore (j := ((129 + (5 * d)) + 1)) hm.2.1 (by simp only [nI, Int32.ofNat_add, Int32.ofNat_mul] <;> rfl) (by omega) (nle rfl) ?_
    refine g_aload_n rfl ?_
    refine g_getR (w := (m + 1)) fl_X8_7 rfl hm.1 rfl ?_
    refine g_bipush (v := 39) bk_39 ?_
    refine g_bipush (v := 9) bk_9 ?_
    refine g_iload_n rfl ?_
    refine g_imul ?_
    refine g_iadd ?_
    refine g_bipush (v := 7) bk_7 ?_
    refine g_iadd ?_
    refine g_dup2 rfl rfl ?_
    refine g_iaload (j := ((39 + (9 * k)) + 7)) hm.2.1 (by simp only [nI, Int32.ofNat_add, Int32.ofNat_mul] <;> rfl) (by omega) (nle rfl) ?_
    refine g_iconst (v := 1) ik_1 ?_
    refine g_iadd ?_
    refine g_iastore (j := ((39 + (9 * k)) + 7)) hm.2.1 (by simp only [nI, Int32.ofNat_add, Int32.ofNat_mul] <;> rfl) (by omega) (nle rfl) ?_
    refine g_aload_n rfl ?_
    refine g_getR (w := (m + 1)) fl_X8_7 rfl hm.1 rfl ?_
    refine g_bipush (v := 6) bk_6 ?_
    refine g_dup2 rfl rfl ?_
    refine g_iaload (j := 6) hm.2.1 rfl (nle rfl) (nle rfl) ?_
    refine g_iconst (v := 1) ik_1 ?_
    refine g_iadd ?_
    refine g_iastore (j := 6) hm.2.1 rfl (nle rfl) (nle rfl) ?_
    refine g_vret rfl (nle rfl) (nle rfl) ?_
    refine qeqv hQ ?_
    clear hQ
    simp only [upM_sR, sR_s, sR_sR, danS] at *
    simp_all [-Int32.not_lt]
  · refine g_iload rfl ?_
    refine g_goto rfl L_X8_dances_66 ?_
    refine g_iadd ?_
    refine g_iastore (j := ((129 + (5 * d)) + 1)) hm.2.1 (by simp only [nI, Int32.ofNat_add, Int32.ofNat_mul] <;> rfl) (by omega) (nle rfl) ?_
    refine g_aload_n rfl ?_
    refine g_getR (w := (m + 1)) fl_X8_7 rfl hm.1 rfl ?_
    refine g_bipush (v := 39) bk_39 ?_
    refine g_bipush (v := 9) bk_9 ?_
    refine g_iload_n rfl ?_
    refine g_imul ?_
    refine g_iadd ?_
    refine g_bipush (v := 7) bk_7 ?_
    refine g_iadd ?_
    refine g_dup2 rfl rfl ?_
    refine g_iaload (j := ((39 + (9 * k)) + 7)) hm.2.1 (by simp only [nI, Int32.ofNat_add, Int32.ofNat_mul] <;> rfl) (by omega) (nle rfl) ?_
    refine g_iconst (v := 1) ik_1 ?_
    refine g_iadd ?_
    refine g_iastore (j := ((39 + (9 * k)) + 7)) hm.2.1 (by simp only [nI, Int32.ofNat_add, Int32.ofNat_mul] <;> rfl) (by omega) (nle rfl) ?_
    refine g_aload_n rfl ?_
    refine g_getR (w := (m + 1)) fl_X8_7 rfl hm.1 rfl ?_
    refine g_bipush (v := 6) bk_6 ?_
    refine g_dup2 rfl rfl ?_
    refine g_iaload (j := 6) hm.2.1 rfl (nle rfl) (nle rfl) ?_
    refine g_iconst (v := 1) ik_1 ?_
    refine g_iadd ?_
    refine g_iastore (j := 6) hm.2.1 rfl (nle rfl) (nle rfl) ?_
    refine g_vret rfl (nle rfl) (nle rfl) ?_
    refine qeqv hQ ?_
    clear hQ
    simp only [upM_sR, sR_s, sR_sR, danS] at *
    simp_all [-Int32.not_lt]
end
section
theorem upd_same {f : Nat → Int32} {k : Nat} {x : Int32} : upd f k x k = x := pk_us
theorem clsN_2 {nd k : Nat} {s : Nat → Int32} : clsN nd k s 2 = s 2 := clsN_low (Or.inl (by decide)) k s
theorem clsN_3 {nd k : Nat} {s : Nat → Int32} : clsN nd k s 3 = s 3 := clsN_low (Or.inl (by decide)) k s
theorem clsN_11 {nd k : Nat} {s : Nat → Int32} : clsN nd k s 11 = s 11 := clsN_low (Or.inr (Or.inl rfl)) k s
theorem clsN_12 {nd k : Nat} {s : Nat → Int32} : clsN nd k s 12 = s 12 := clsN_low (Or.inr (Or.inr rfl)) k s
theorem dnN_3 {w : Int32} {k d : Nat} {s : Nat → Int32} : dnN w k d s 3 = s 3 := dnN_low (Or.inl (by decide)) d s
theorem holdS_3 {k : Nat} {s : Nat → Int32} : holdS s k 3 = s 3 := holdS_low (Or.inl (by decide))
theorem riseN_3 {d : Nat} {s : Nat → Int32} : riseN d s 3 = s 3 := riseN_low (Or.inl (by decide)) d s
theorem riseN_12 {d : Nat} {s : Nat → Int32} : riseN d s 12 = s 12 := riseN_low (Or.inr (Or.inr rfl)) d s
theorem clsN_no {nd k : Nat} {s : Nat → Int32} (h : bitsI (comI (clsN nd k s) k nd) < (clsN nd k s) 11) : clsN nd (k + 1) s = upd (clsN nd k s) 8 (clsN nd k s 8 + 1) ∧ hldN nd (k + 1) s = hldN nd k s := ⟨if_pos h, if_pos h⟩
theorem clsN_ye {nd k : Nat} {s : Nat → Int32} (h : ¬ bitsI (comI (clsN nd k s) k nd) < (clsN nd k s) 11) : clsN nd (k + 1) s = dnN (comI (clsN nd k s) k nd) k nd (holdS (clsN nd k s) k) ∧ hldN nd (k + 1) s = (hldN nd k s ||| (1 <<< (nI k &&& 31))) := ⟨if_neg h, if_neg h⟩
def flS (s : Nat → Int32) (n : Nat) (a b c d : Int32) : Nat → Int32 := upd (upd (upd (upd (upd s (13 + 4 * n) a) (13 + 4 * n + 1) b) (13 + 4 * n + 2) c) (13 + 4 * n + 3) d) 0 (nI (n + 1))
def teS (s : Nat → Int32) (n : Nat) (a b : Int32) : Nat → Int32 := upd (upd (upd s (29 + 2 * n) a) (29 + 2 * n + 1) b) 1 (nI (n + 1))
def clS (s : Nat → Int32) (n : Nat) (a b c d e f : Int32) : Nat → Int32 := upd (upd (upd (upd (upd (upd (upd (upd (upd (upd s (39 + 9 * n) a) (39 + 9 * n + 1) b) (39 + 9 * n + 2) c) (39 + 9 * n + 3) d) (39 + 9 * n + 4) e) (39 + 9 * n + 5) f) (39 + 9 * n + 6) 0) (39 + 9 * n + 7) 0) (39 + 9 * n + 8) 0) 2 (nI (n + 1))
def daS (s : Nat → Int32) (n : Nat) : Nat → Int32 := upd (fun j => if j = 129 + 5 * n then 1 else if 129 + 5 * n < j ∧ j < 129 + 5 * n + 5 then 0 else s j) 3 (nI (n + 1))
def paS (s : Nat → Int32) (d : Nat) : Nat → Int32 :=
  let a := upd s (129 + 5 * d + 2) (s (129 + 5 * d + 2) + 10)
  let b := upd a (129 + 5 * d + 4) (a (129 + 5 * d + 4) + 1)
  upd b 5 (b 5 + 1)
def enS (s : Nat → Int32) (d : Int32) (k : Nat) : Nat → Int32 := upd s (39 + 9 * k + 8) (s (39 + 9 * k + 8) + 1 <<< (d &&& 31))
def leS (s : Nat → Int32) (d : Int32) (k : Nat) : Nat → Int32 := upd s (39 + 9 * k + 8) (s (39 + 9 * k + 8) + -(1 <<< (d &&& 31)))
def drS (s : Nat → Int32) (n k : Nat) : Nat → Int32 :=
  let a := upd s 10 (s 10 + s (39 + 9 * k + 7))
  let b := upd a 2 (nI (n - 1))
  fun j => if 39 + 9 * k ≤ j ∧ j < 39 + 9 * (n - 1) then b (j + 9) else b j
def neS (s : Nat → Int32) : Nat → Int32 := upd (upd (fun j => if j < 189 then 0 else s j) 11 2) 12 12
set_option maxRecDepth 100000 in
set_option maxHeartbeats 4000000 in
theorem ct_X8_floors {X : Xs} {κ : Kp} {M : Mem} {Q : Rs → Kp → Mem → Prop} {m : Nat} (hm : IsMod κ.2.1 m) {nf : Nat} (h0 : M (m + 1) 0 = nI nf) (hnf : nf ≤ 4) {a b c d : Int32} (hlt : nf < 4) (hQ : Q (.inl (some (.int (nI nf)))) κ (sR M (m + 1) (flS (M (m + 1)) nf a b c d))) : Ct X m_X8_floors [.ref m, .int a, .int b, .int c, .int d] κ M Q := by
  refine ct_of B_X8_floors_0 pn_X8 rfl (nle rfl) L_X8_floors_0 ?_
  refine g_bipush (v := 13) bk_13 ?_
  refine g_iconst (v := 4) ik_4 ?_
  refine g_aload_n rfl ?_
  refine g_getR (w := (m + 1)) fl_X8_7 rfl hm.1 rfl ?_
  refine g_iconst (v := 0) ik_0 ?_
  refine g_iaload (j := 0) hm.2.1 rfl (nle rfl) (nle rfl) ?_
  simp (disch := omega) only [upM_sR, sR_s, sR_sR, upd_ne, upd_same, h0]
  refine g_imul ?_
  refine g_iadd ?_
  refine g_istore (nle rfl) ?_
  refine g_aload_n rfl ?_
  refine g_getR (w := (m + 1)) fl_X8_7 rfl hm.1 rfl ?_
  refine g_iload rfl ?_
  refine g_iload_n rfl ?_
  refine g_iastore (j := (13 + (4 * nf))) hm.2.1 (by simp only [nI, Int32.ofNat_add, Int32.ofNat_mul] <;> rfl) (by omega) (nle rfl) ?_
  refine g_aload_n rfl ?_
  refine g_getR (w := (m + 1)) fl_X8_7 rfl hm.1 rfl ?_
  refine g_iload rfl ?_
  refine g_iconst (v := 1) ik_1 ?_
  refine g_iadd ?_
  refine g_iload_n rfl ?_
  refine g_iastore (j := ((13 + (4 * nf)) + 1)) hm.2.1 (by simp only [nI, Int32.ofNat_add, Int32.ofNat_mul] <;> rfl) (by omega) (nle rfl) ?_
  refine g_aload_n rfl ?_
  refine g_getR (w := (m + 1)) fl_X8_7 rfl hm.1 rfl ?_
  refine g_iload rfl ?_
  refine g_iconst (v := 2) ik_2 ?_
  refine g_iadd ?_
  refine g_iload_n rfl ?_
  refine g_iastore (j := ((13 + (4 * nf)) + 2)) hm.2.1 (by simp only [nI, Int32.ofNat_add, Int32.ofNat_mul] <;> rfl) (by omega) (nle rfl) ?_
  refine g_aload_n rfl ?_
  refine g_getR (w := (m + 1)) fl_X8_7 rfl hm.1 rfl ?_
  refine g_iload rfl ?_
  refine g_iconst (v := 3) ik_3 ?_
  refine g_iadd ?_
  refine g_iload rfl ?_
  refine g_iastore (j := ((13 + (4 * nf)) + 3)) hm.2.1 (by simp only [nI, Int32.ofNat_add, Int32.ofNat_mul] <;> rfl) (by omega) (nle rfl) ?_
  refine g_aload_n rfl ?_
  refine g_getR (w := (m + 1)) fl_X8_7 rfl hm.1 rfl ?_
  refine g_iconst (v := 0) ik_0 ?_
  refine g_dup2 rfl rfl ?_
  refine g_iaload (j := 0) hm.2.1 rfl (nle rfl) (nle rfl) ?_
  simp (disch := omega) only [upM_sR, sR_s, sR_sR, upd_ne, upd_same, h0]
  refine g_iconst (v := 1) ik_1 ?_
  refine g_iadd ?_
  refine g_iastore (j := 0) hm.2.1 rfl (nle rfl) (nle rfl) ?_
  refine g_aload_n rfl ?_
  refine g_getR (w := (m + 1)) fl_X8_7 rfl hm.1 rfl ?_
  refine g_iconst (v := 0) ik_0 ?_
  refine g_iaload (j := 0) hm.2.1 rfl (nle rfl) (nle rfl) ?_
  simp (disch := omega) only [upM_sR, sR_s, sR_sR, upd_ne, upd_same, h0]
  refine g_iconst (v := 1) ik_1 ?_
  refine g_isub ?_
  refine g_iret rfl (nle rfl) (nle rfl) ?_
  refine qeq hQ ?_ ?_
  · clear hQ; simp (disch := omega) only [upM_sR, sR_s, sR_sR, upd_ne, upd_same, h0, nI_1, nI_pred]
  · clear hQ; simp (disch := omega) only [upM_sR, sR_s, sR_sR, upd_ne, upd_same, h0, nI_1, flS]
set_option maxRecDepth 100000 in
set_option maxHeartbeats 4000000 in
theorem ct_X8_teachers {X : Xs} {κ : Kp} {M : Mem} {Q : Rs → Kp → Mem → Prop} {m : Nat} (hm : IsMod κ.2.1 m) {nt : Nat} (h1 : M (m + 1) 1 = nI nt) (hnt : nt ≤ 5) {a b : Int32} (hlt : nt < 5) (hQ : Q (.inl (some (.int (nI nt)))) κ (sR M (m + 1) (teS (M (m + 1)) nt a b))) : Ct X m_X8_teachers [.ref m, .int a, .int b] κ M Q := by
  refine ct_of B_X8_teachers_0 pn_X8 rfl (nle rfl) L_X8_teachers_0 ?_
  refine g_aload_n rfl ?_
  refine g_getR (w := (m + 1)) fl_X8_7 rfl hm.1 rfl ?_
  refine g_bipush (v := 29) bk_29 ?_
  refine g_iconst (v := 2) ik_2 ?_
  refine g_aload_n rfl ?_
  refine g_getR (w := (m + 1)) fl_X8_7 rfl hm.1 rfl ?_
  refine g_iconst (v := 1) ik_1 ?_
  refine g_iaload (j := 1) hm.2.1 rfl (nle rfl) (nle rfl) ?_
  simp (disch := omega) only [upM_sR, sR_s, sR_sR, upd_ne, upd_same, h1]
  refine g_imul ?_
  refine g_iadd ?_
  refine g_iload_n rfl ?_
  refine g_iastore (j := (29 + (2 * nt))) hm.2.1 (by simp only [nI, Int32.ofNat_add, Int32.ofNat_mul] <;> rfl) (by omega) (nle rfl) ?_
  refine g_aload_n rfl ?_
  refine g_getR (w := (m + 1)) fl_X8_7 rfl hm.1 rfl ?_
  refine g_bipush (v := 29) bk_29 ?_
  refine g_iconst (v := 2) ik_2 ?_
  refine g_aload_n rfl ?_
  refine g_getR (w := (m + 1)) fl_X8_7 rfl hm.1 rfl ?_
  refine g_iconst (v := 1) ik_1 ?_
  refine g_iaload (j := 1) hm.2.1 rfl (nle rfl) (nle rfl) ?_
  simp (disch := omega) only [upM_sR, sR_s, sR_sR, upd_ne, upd_same, h1]
  refine g_imul ?_
  refine g_iadd ?_
  refine g_iconst (v := 1) ik_1 ?_
  refine g_iadd ?_
  refine g_iload_n rfl ?_
  refine g_iastore (j := ((29 + (2 * nt)) + 1)) hm.2.1 (by simp only [nI, Int32.ofNat_add, Int32.ofNat_mul] <;> rfl) (by omega) (nle rfl) ?_
  refine g_aload_n rfl ?_
  refine g_getR (w := (m + 1)) fl_X8_7 rfl hm.1 rfl ?_
  refine g_iconst (v := 1) ik_1 ?_
  refine g_dup2 rfl rfl ?_
  refine g_iaload (j := 1) hm.2.1 rfl (nle rfl) (nle rfl) ?_
  simp (disch := omega) only [upM_sR, sR_s, sR_sR, upd_ne, upd_same, h1]
  refine g_iconst (v := 1) ik_1 ?_
  refine g_iadd ?_
  refine g_iastore (j := 1) hm.2.1 rfl (nle rfl) (nle rfl) ?_
  refine g_aload_n rfl ?_
  refine g_getR (w := (m + 1)) fl_X8_7 rfl hm.1 rfl ?_
  refine g_iconst (v := 1) ik_1 ?_
  refine g_iaload (j := 1) hm.2.1 rfl (nle rfl) (nle rfl) ?_
  simp (disch := omega) only [upM_sR, sR_s, sR_sR, upd_ne, upd_same, h1]
  refine g_iconst (v := 1) ik_1 ?_
  refine g_isub ?_
  refine g_iret rfl (nle rfl) (nle rfl) ?_
  refine qeq hQ ?_ ?_
  · clear hQ; simp (disch := omega) only [upM_sR, sR_s, sR_sR, upd_ne, upd_same, h1, nI_1, nI_pred]
  · clear hQ; simp (disch := omega) only [upM_sR, sR_s, sR_sR, upd_ne, upd_same, h1, nI_1, teS]
set_option maxRecDepth 100000 in
set_option maxHeartbeats 4000000 in
theorem ct_X8_sets {X : Xs} {κ : Kp} {M : Mem} {Q : Rs → Kp → Mem → Prop} {m : Nat} (hm : IsMod κ.2.1 m) {nc : Nat} (h2 : M (m + 1) 2 = nI nc) (hnc : nc ≤ 10) {a b c d e f : Int32} (hlt : nc < 10) (hQ : Q (.inl none) κ (sR M (m + 1) (clS (M (m + 1)) nc a b c d e f))) : Ct X m_X8_sets [.ref m, .int a, .int b, .int c, .int d, .int e, .int f] κ M Q := by
  refine ct_of B_X8_sets_0 pn_X8 rfl (nle rfl) L_X8_sets_0 ?_
  refine g_bipush (v := 39) bk_39 ?_
  refine g_bipush (v := 9) bk_9 ?_
  refine g_aload_n rfl ?_
  refine g_getR (w := (m + 1)) fl_X8_7 rfl hm.1 rfl ?_
  refine g_iconst (v := 2) ik_2 ?_
  refine g_iaload (j := 2) hm.2.1 rfl (nle rfl) (nle rfl) ?_
  simp (disch := omega) only [upM_sR, sR_s, sR_sR, upd_ne, upd_same, h2]
  refine g_imul ?_
  refine g_iadd ?_
  refine g_istore (nle rfl) ?_
  refine g_aload_n rfl ?_
  refine g_getR (w := (m + 1)) fl_X8_7 rfl hm.1 rfl ?_
  refine g_iload rfl ?_
  refine g_iload_n rfl ?_
  refine g_iastore (j := (39 + (9 * nc))) hm.2.1 (by simp only [nI, Int32.ofNat_add, Int32.ofNat_mul] <;> rfl) (by omega) (nle rfl) ?_
  refine g_aload_n rfl ?_
  refine g_getR (w := (m + 1)) fl_X8_7 rfl hm.1 rfl ?_
  refine g_iload rfl ?_
  refine g_iconst (v := 1) ik_1 ?_
  refine g_iadd ?_
  refine g_iload_n rfl ?_
  refine g_iastore (j := ((39 + (9 * nc)) + 1)) hm.2.1 (by simp only [nI, Int32.ofNat_add, Int32.ofNat_mul] <;> rfl) (by omega) (nle rfl) ?_
  refine g_aload_n rfl ?_
  refine g_getR (w := (m + 1)) fl_X8_7 rfl hm.1 rfl ?_
  refine g_iload rfl ?_
  refine g_iconst (v := 2) ik_2 ?_
  refine g_iadd ?_
  refine g_iload_n rfl ?_
  refine g_iastore (j := ((39 + (9 * nc)) + 2)) hm.2.1 (by simp only [nI, Int32.ofNat_add, Int32.ofNat_mul] <;> rfl) (by omega) (nle rfl) ?_
  refine g_aload_n rfl ?_
  refine g_getR (w := (m + 1)) fl_X8_7 rfl hm.1 rfl ?_
  refine g_iload rfl ?_
  refine g_iconst (v := 3) ik_3 ?_
  refine g_iadd ?_
  refine g_iload rfl ?_
  refine g_iastore (j := ((39 + (9 * nc)) + 3)) hm.2.1 (by simp only [nI, Int32.ofNat_add, Int32.ofNat_mul] <;> rfl) (by omega) (nle rfl) ?_
  refine g_aload_n rfl ?_
  refine g_getR (w := (m + 1)) fl_X8_7 rfl hm.1 rfl ?_
  refine g_iload rfl ?_
  refine g_iconst (v := 4) ik_4 ?_
  refine g_iadd ?_
  refine g_iload rfl ?_
  refine g_iastore (j := ((39 + (9 * nc)) + 4)) hm.2.1 (by simp only [nI, Int32.ofNat_add, Int32.ofNat_mul] <;> rfl) (by omega) (nle rfl) ?_
  refine g_aload_n rfl ?_
  refine g_getR (w := (m + 1)) fl_X8_7 rfl hm.1 rfl ?_
  refine g_iload rfl ?_
  refine g_iconst (v := 5) ik_5 ?_
  refine g_iadd ?_
  refine g_iload rfl ?_
  refine g_iastore (j := ((39 + (9 * nc)) + 5)) hm.2.1 (by simp only [nI, Int32.ofNat_add, Int32.ofNat_mul] <;> rfl) (by omega) (nle rfl) ?_
  refine g_aload_n rfl ?_
  refine g_getR (w := (m + 1)) fl_X8_7 rfl hm.1 rfl ?_
  refine g_iload rfl ?_
  refine g_bipush (v := 6) bk_6 ?_
  refine g_iadd ?_
  refine g_iconst (v := 0) ik_0 ?_
  refine g_iastore (j := ((39 + (9 * nc)) + 6)) hm.2.1 (by simp only [nI, Int32.ofNat_add, Int32.ofNat_mul] <;> rfl) (by omega) (nle rfl) ?_
  refine g_aload_n rfl ?_
  refine g_getR (w := (m + 1)) fl_X8_7 rfl hm.1 rfl ?_
  refine g_iload rfl ?_
  refine g_bipush (v := 7) bk_7 ?_
  refine g_iadd ?_
  refine g_iconst (v := 0) ik_0 ?_
  refine g_iastore (j := ((39 + (9 * nc)) + 7)) hm.2.1 (by simp only [nI, Int32.ofNat_add, Int32.ofNat_mul] <;> rfl) (by omega) (nle rfl) ?_
  refine g_aload_n rfl ?_
  refine g_getR (w := (m + 1)) fl_X8_7 rfl hm.1 rfl ?_
  refine g_iload rfl ?_
  refine g_bipush (v := 8) bk_8 ?_
  refine g_iadd ?_
  refine g_iconst (v := 0) ik_0 ?_
  refine g_iastore (j := ((39 + (9 * nc)) + 8)) hm.2.1 (by simp only [nI, Int32.ofNat_add, Int32.ofNat_mul] <;> rfl) (by omega) (nle rfl) ?_
  refine g_aload_n rfl ?_
  refine g_getR (w := (m + 1)) fl_X8_7 rfl hm.1 rfl ?_
  refine g_iconst (v := 2) ik_2 ?_
  refine g_dup2 rfl rfl ?_
  refine g_iaload (j := 2) hm.2.1 rfl (nle rfl) (nle rfl) ?_
  simp (disch := omega) only [upM_sR, sR_s, sR_sR, upd_ne, upd_same, h2]
  refine g_iconst (v := 1) ik_1 ?_
  refine g_iadd ?_
  refine g_iastore (j := 2) hm.2.1 rfl (nle rfl) (nle rfl) ?_
  refine g_vret rfl (nle rfl) (nle rfl) ?_
  refine qeqv hQ ?_
  clear hQ; simp (disch := omega) only [upM_sR, sR_s, sR_sR, upd_ne, upd_same, h2, nI_1, clS]
set_option maxRecDepth 100000 in
set_option maxHeartbeats 4000000 in
theorem ct_X8_passes {X : Xs} {κ : Kp} {M : Mem} {Q : Rs → Kp → Mem → Prop} {m : Nat} (hm : IsMod κ.2.1 m) {dI : Int32} (d : Nat) (hd : dI = nI d) (hd2 : d < 12) (hQ : Q (.inl (some (.int (paS (M (m + 1)) d (129 + 5 * d + 2))))) κ (sR M (m + 1) (paS (M (m + 1)) d))) : Ct X m_X8_passes [.ref m, .int dI] κ M Q := by
  refine ct_of B_X8_passes_0 pn_X8 rfl (nle rfl) L_X8_passes_0 ?_
  subst hd
  refine g_aload_n rfl ?_
  refine g_sipush (v := 129) sk_129 ?_
  refine g_iconst (v := 5) ik_5 ?_
  refine g_iload_n rfl ?_
  refine g_imul ?_
  refine g_iadd ?_
  refine g_iconst (v := 2) ik_2 ?_
  refine g_iadd ?_
  refine g_bipush (v := 10) bk_10 ?_
  refine g_callV (as := [_, _]) mk_X8_adds ml_X8_66 im_X8_adds se_X8_adds rfl rfl ⟨⟨nle rfl, nle rfl⟩, nle rfl, nle rfl⟩ hm.1 rfl rfl rfl (nle rfl) ?_
  refine ct_X8_adds hm ((129 + (5 * d)) + 2) (by simp only [nI, Int32.ofNat_add, Int32.ofNat_mul] <;> rfl) (by omega) ?_
  refine kq_n ?_
  refine g_aload_n rfl ?_
  refine g_sipush (v := 129) sk_129 ?_
  refine g_iconst (v := 5) ik_5 ?_
  refine g_iload_n rfl ?_
  refine g_imul ?_
  refine g_iadd ?_
  refine g_iconst (v := 4) ik_4 ?_
  refine g_iadd ?_
  refine g_iconst (v := 1) ik_1 ?_
  refine g_callV (as := [_, _]) mk_X8_adds ml_X8_66 im_X8_adds se_X8_adds rfl rfl ⟨⟨nle rfl, nle rfl⟩, nle rfl, nle rfl⟩ hm.1 rfl rfl rfl (nle rfl) ?_
  refine ct_X8_adds hm ((129 + (5 * d)) + 4) (by simp only [nI, Int32.ofNat_add, Int32.ofNat_mul] <;> rfl) (by omega) ?_
  refine kq_n ?_
  refine g_aload_n rfl ?_
  refine g_getR (w := (m + 1)) fl_X8_7 rfl hm.1 rfl ?_
  refine g_iconst (v := 5) ik_5 ?_
  refine g_dup2 rfl rfl ?_
  refine g_iaload (j := 5) hm.2.1 rfl (nle rfl) (nle rfl) ?_
  refine g_iconst (v := 1) ik_1 ?_
  refine g_iadd ?_
  refine g_iastore (j := 5) hm.2.1 rfl (nle rfl) (nle rfl) ?_
  refine g_aload_n rfl ?_
  refine g_iload_n rfl ?_
  refine g_iconst (v := 2) ik_2 ?_
  refine g_callV (as := [_, _]) mk_X8_ofDancer ml_X8_57 im_X8_ofDancer se_X8_ofDancer rfl rfl ⟨⟨nle rfl, nle rfl⟩, nle rfl, nle rfl⟩ hm.1 rfl rfl rfl (nle rfl) ?_
  refine ct_X8_ofDancer hm d 2 rfl rfl (by omega) ?_
  refine kq_s ?_
  refine g_iret rfl (nle rfl) (nle rfl) ?_
  refine qeq hQ ?_ ?_
  · clear hQ; simp only [upM_sR, sR_s, sR_sR, paS]
  · clear hQ; simp only [upM_sR, sR_s, sR_sR, paS]
set_option maxRecDepth 100000 in
set_option maxHeartbeats 4000000 in
theorem ct_X8_enters {X : Xs} {κ : Kp} {M : Mem} {Q : Rs → Kp → Mem → Prop} {m : Nat} (hm : IsMod κ.2.1 m) {dI kI : Int32} (k : Nat) (hk : kI = nI k) (hk2 : k < 10) (hQ : Q (.inl none) κ (sR M (m + 1) (enS (M (m + 1)) dI k))) : Ct X m_X8_enters [.ref m, .int dI, .int kI] κ M Q := by
  refine ct_of B_X8_enters_0 pn_X8 rfl (nle rfl) L_X8_enters_0 ?_
  subst hk
  refine g_aload_n rfl ?_
  refine g_bipush (v := 39) bk_39 ?_
  refine g_bipush (v := 9) bk_9 ?_
  refine g_iload_n rfl ?_
  refine g_imul ?_
  refine g_iadd ?_
  refine g_bipush (v := 8) bk_8 ?_
  refine g_iadd ?_
  refine g_iconst (v := 1) ik_1 ?_
  refine g_iload_n rfl ?_
  refine g_ishl ?_
  refine g_callV (as := [_, _]) mk_X8_adds ml_X8_66 im_X8_adds se_X8_adds rfl rfl ⟨⟨nle rfl, nle rfl⟩, nle rfl, nle rfl⟩ hm.1 rfl rfl rfl (nle rfl) ?_
  refine ct_X8_adds hm ((39 + (9 * k)) + 8) (by simp only [nI, Int32.ofNat_add, Int32.ofNat_mul] <;> rfl) (by omega) ?_
  refine kq_n ?_
  refine g_vret rfl (nle rfl) (nle rfl) ?_
  exact hQ
set_option maxRecDepth 100000 in
set_option maxHeartbeats 4000000 in
theorem ct_X8_leaves {X : Xs} {κ : Kp} {M : Mem} {Q : Rs → Kp → Mem → Prop} {m : Nat} (hm : IsMod κ.2.1 m) {dI kI : Int32} (k : Nat) (hk : kI = nI k) (hk2 : k < 10) (hQ : Q (.inl (some (.int (bitsI (leS (M (m + 1)) dI k (39 + 9 * k + 8)))))) κ (sR M (m + 1) (leS (M (m + 1)) dI k))) : Ct X m_X8_leaves [.ref m, .int dI, .int kI] κ M Q := by
  refine ct_of B_X8_leaves_0 pn_X8 rfl (nle rfl) L_X8_leaves_0 ?_
  subst hk
  refine g_aload_n rfl ?_
  refine g_bipush (v := 39) bk_39 ?_
  refine g_bipush (v := 9) bk_9 ?_
  refine g_iload_n rfl ?_
  refine g_imul ?_
  refine g_iadd ?_
  refine g_bipush (v := 8) bk_8 ?_
  refine g_iadd ?_
  refine g_iconst (v := 1) ik_1 ?_
  refine g_iload_n rfl ?_
  refine g_ishl ?_
  refine g_ineg ?_
  refine g_callV (as := [_, _]) mk_X8_adds ml_X8_66 im_X8_adds se_X8_adds rfl rfl ⟨⟨nle rfl, nle rfl⟩, nle rfl, nle rfl⟩ hm.1 rfl rfl rfl (nle rfl) ?_
  refine ct_X8_adds hm ((39 + (9 * k)) + 8) (by simp only [nI, Int32.ofNat_add, Int32.ofNat_mul] <;> rfl) (by omega) ?_
  refine kq_n ?_
  refine g_aload_n rfl ?_
  refine g_iload_n rfl ?_
  refine g_bipush (v := 8) bk_8 ?_
  refine g_callV (as := [_, _]) mk_X8_ofClass ml_X8_40 im_X8_ofClass se_X8_ofClass rfl rfl ⟨⟨nle rfl, nle rfl⟩, nle rfl, nle rfl⟩ hm.1 rfl rfl rfl (nle rfl) ?_
  refine ct_X8_ofClass hm k 8 rfl rfl (by omega) ?_
  refine kq_s ?_
  refine g_callS (as := [_]) mk_X8_bits ml_X8_60 sm_X8_bits rfl rfl ⟨⟨nle rfl, nle rfl⟩, nle rfl, nle rfl⟩ rfl rfl (nle rfl) ?_
  refine ct_X8_bits ?_
  refine kq_s ?_
  refine g_iret rfl (nle rfl) (nle rfl) ?_
  refine qeq hQ ?_ ?_
  · clear hQ; simp only [sR_s, leS]
  · rfl
set_option maxRecDepth 100000 in
set_option maxHeartbeats 4000000 in
theorem ct_X8_seats {X : Xs} {κ : Kp} {M : Mem} {Q : Rs → Kp → Mem → Prop} {m : Nat} (hm : IsMod κ.2.1 m) {nc : Nat} (h2 : M (m + 1) 2 = nI nc) (hnc : nc ≤ 10)  (hQ : Q (.inl (some (.int (sumI nc (fun k => bitsI (M (m + 1) (39 + 9 * k + 8))))))) κ M) : Ct X m_X8_seats [.ref m] κ M Q := by
  refine ct_of B_X8_seats_0 pn_X8 rfl (nle rfl) L_X8_seats_0 ?_
  refine g_iconst (v := 0) ik_0 ?_
  refine g_istore_n (nle rfl) ?_
  refine g_iconst (v := 0) ik_0 ?_
  refine g_istore_n (nle rfl) ?_
  refine g_fall rfl L_X8_seats_4 ?_
  refine g_lo2 (lo' := [(0, some (.ref m)), (1, some (.int (sumI 0 (fun k => bitsI (M (m + 1) (39 + 9 * k + 8)))))), (2, some (.int (nI 0)))]) ?_ ⟨rfl, rfl, rfl, trivial⟩
  refine loop_up (P := fun k => G X m_X8_seats B_X8_seats_4 4 [(0, some (.ref m)), (1, some (.int (sumI k (fun k => bitsI (M (m + 1) (39 + 9 * k + 8)))))), (2, some (.int (nI k)))] [] 0 0 κ M Q) nc (fun k hle_k ih_k => ?_) 0 (Nat.zero_le _)
  refine g_iload_n rfl ?_
  refine g_aload_n rfl ?_
  refine g_getR (w := (m + 1)) fl_X8_7 rfl hm.1 rfl ?_
  refine g_iconst (v := 2) ik_2 ?_
  refine g_iaload (j := 2) hm.2.1 rfl (nle rfl) (nle rfl) ?_
  rw [h2]
  refine g_icmp_ge rfl L_X8_seats_33 (fun h_1 => ?_) (fun h_1 => ?_)
  · have hx_k := ((cmp_ge (c := nc) rfl (by omega) hle_k).1 h_1).symm
    subst hx_k
    refine g_iload_n rfl ?_
    refine g_iret rfl (nle rfl) (nle rfl) ?_
    exact hQ
  · have hlt_k : k < nc := (cmp_ge (c := nc) rfl (by omega) hle_k).2 h_1
    refine g_iload_n rfl ?_
    refine g_aload_n rfl ?_
    refine g_iload_n rfl ?_
    refine g_bipush (v := 8) bk_8 ?_
    refine g_callV (as := [_, _]) mk_X8_ofClass ml_X8_40 im_X8_ofClass se_X8_ofClass rfl rfl ⟨⟨nle rfl, nle rfl⟩, nle rfl, nle rfl⟩ hm.1 rfl rfl rfl (nle rfl) ?_
    refine ct_X8_ofClass hm k 8 rfl rfl (by omega) ?_
    refine kq_s ?_
    refine g_callS (as := [_]) mk_X8_bits ml_X8_60 sm_X8_bits rfl rfl ⟨⟨nle rfl, nle rfl⟩, nle rfl, nle rfl⟩ rfl rfl (nle rfl) ?_
    refine ct_X8_bits ?_
    refine kq_s ?_
    refine g_iadd ?_
    refine g_istore_n (nle rfl) ?_
    refine g_iinc (v := nI (k + 1)) rfl (nI_inc _) (nle rfl) ?_
    refine g_goto rfl L_X8_seats_4 ?_
    exact g_lo2 (ih_k hlt_k) ⟨rfl, rfl, rfl, trivial⟩
set_option maxRecDepth 100000 in
set_option maxHeartbeats 4000000 in
theorem ct_X8_left {X : Xs} {κ : Kp} {M : Mem} {Q : Rs → Kp → Mem → Prop} {m : Nat} (hm : IsMod κ.2.1 m) {nd : Nat} (h3 : M (m + 1) 3 = nI nd) (hnd : nd ≤ 12)  (hQ : Q (.inl (some (.int (sumI nd (fun k => M (m + 1) (129 + 5 * k + 2)))))) κ M) : Ct X m_X8_left [.ref m] κ M Q := by
  refine ct_of B_X8_left_0 pn_X8 rfl (nle rfl) L_X8_left_0 ?_
  refine g_iconst (v := 0) ik_0 ?_
  refine g_istore_n (nle rfl) ?_
  refine g_iconst (v := 0) ik_0 ?_
  refine g_istore_n (nle rfl) ?_
  refine g_fall rfl L_X8_left_4 ?_
  refine g_lo2 (lo' := [(0, some (.ref m)), (1, some (.int (sumI 0 (fun k => M (m + 1) (129 + 5 * k + 2))))), (2, some (.int (nI 0)))]) ?_ ⟨rfl, rfl, rfl, trivial⟩
  refine loop_up (P := fun k => G X m_X8_left B_X8_left_4 4 [(0, some (.ref m)), (1, some (.int (sumI k (fun k => M (m + 1) (129 + 5 * k + 2))))), (2, some (.int (nI k)))] [] 0 0 κ M Q) nd (fun k hle_k ih_k => ?_) 0 (Nat.zero_le _)
  refine g_iload_n rfl ?_
  refine g_aload_n rfl ?_
  refine g_getR (w := (m + 1)) fl_X8_7 rfl hm.1 rfl ?_
  refine g_iconst (v := 3) ik_3 ?_
  refine g_iaload (j := 3) hm.2.1 rfl (nle rfl) (nle rfl) ?_
  rw [h3]
  refine g_icmp_ge rfl L_X8_left_29 (fun h_1 => ?_) (fun h_1 => ?_)
  · have hx_k := ((cmp_ge (c := nd) rfl (by omega) hle_k).1 h_1).symm
    subst hx_k
    refine g_iload_n rfl ?_
    refine g_iret rfl (nle rfl) (nle rfl) ?_
    exact hQ
  · have hlt_k : k < nd := (cmp_ge (c := nd) rfl (by omega) hle_k).2 h_1
    refine g_iload_n rfl ?_
    refine g_aload_n rfl ?_
    refine g_iload_n rfl ?_
    refine g_iconst (v := 2) ik_2 ?_
    refine g_callV (as := [_, _]) mk_X8_ofDancer ml_X8_57 im_X8_ofDancer se_X8_ofDancer rfl rfl ⟨⟨nle rfl, nle rfl⟩, nle rfl, nle rfl⟩ hm.1 rfl rfl rfl (nle rfl) ?_
    refine ct_X8_ofDancer hm k 2 rfl rfl (by omega) ?_
    refine kq_s ?_
    refine g_iadd ?_
    refine g_istore_n (nle rfl) ?_
    refine g_iinc (v := nI (k + 1)) rfl (nI_inc _) (nle rfl) ?_
    refine g_goto rfl L_X8_left_4 ?_
    exact g_lo2 (ih_k hlt_k) ⟨rfl, rfl, rfl, trivial⟩
set_option maxRecDepth 100000 in
set_option maxHeartbeats 4000000 in
theorem ct_X8_classes {X : Xs} {κ : Kp} {M : Mem} {Q : Rs → Kp → Mem → Prop} {m : Nat} (hm : IsMod κ.2.1 m) {nc : Nat} (h2 : M (m + 1) 2 = nI nc) (hnc : nc ≤ 10) {wI v : Int32} (w : Nat) (hw : wI = nI w) (hw2 : w < 9) (hQ : Q (.inl (some (.int (sumI nc (fun k => if M (m + 1) (39 + 9 * k + w) = v then 1 else 0))))) κ M) : Ct X m_X8_classes [.ref m, .int wI, .int v] κ M Q := by
  refine ct_of B_X8_classes_0 pn_X8 rfl (nle rfl) L_X8_classes_0 ?_
  subst hw
  refine g_iconst (v := 0) ik_0 ?_
  refine g_istore_n (nle rfl) ?_
  refine g_iconst (v := 0) ik_0 ?_
  refine g_istore (nle rfl) ?_
  refine g_fall rfl L_X8_classes_5 ?_
  refine g_lo2 (lo' := [(0, some (.ref m)), (1, some (.int (nI w))), (2, some (.int v)), (3, some (.int (sumI 0 (fun k => if M (m + 1) (39 + 9 * k + w) = v then 1 else 0)))), (4, some (.int (nI 0)))]) ?_ ⟨rfl, rfl, rfl, rfl, rfl, trivial⟩
  refine loop_up (P := fun k => G X m_X8_classes B_X8_classes_5 5 [(0, some (.ref m)), (1, some (.int (nI w))), (2, some (.int v)), (3, some (.int (sumI k (fun k => if M (m + 1) (39 + 9 * k + w) = v then 1 else 0)))), (4, some (.int (nI k)))] [] 0 0 κ M Q) nc (fun k hle_k ih_k => ?_) 0 (Nat.zero_le _)
  refine g_iload rfl ?_
  refine g_aload_n rfl ?_
  refine g_getR (w := (m + 1)) fl_X8_7 rfl hm.1 rfl ?_
  refine g_iconst (v := 2) ik_2 ?_
  refine g_iaload (j := 2) hm.2.1 rfl (nle rfl) (nle rfl) ?_
  rw [h2]
  refine g_icmp_ge rfl L_X8_classes_41 (fun h_1 => ?_) (fun h_1 => ?_)
  · have hx_k := ((cmp_ge (c := nc) rfl (by omega) hle_k).1 h_1).symm
    subst hx_k
    refine g_iload_n rfl ?_
    refine g_iret rfl (nle rfl) (nle rfl) ?_
    exact hQ
  · have hlt_k : k < nc := (cmp_ge (c := nc) rfl (by omega) hle_k).2 h_1
    refine g_iload_n rfl ?_
    refine g_join (isJ := B_X8_classes_33) (pcJ := 33) (if M (m + 1) (39 + 9 * k + w) = v then 1 else 0) ?_ (fun hj_17 => ?_)
    · refine g_iadd ?_
      refine g_istore_n (nle rfl) ?_
      refine g_iinc (v := nI (k + 1)) rfl (nI_inc _) (nle rfl) ?_
      refine g_goto rfl L_X8_classes_5 ?_
      exact g_lo2 (ih_k hlt_k) ⟨rfl, rfl, rfl, rfl, rfl, trivial⟩
    · refine g_aload_n rfl ?_
      refine g_iload rfl ?_
      refine g_iload_n rfl ?_
      refine g_callV (as := [_, _]) mk_X8_ofClass ml_X8_40 im_X8_ofClass se_X8_ofClass rfl rfl ⟨⟨nle rfl, nle rfl⟩, nle rfl, nle rfl⟩ hm.1 rfl rfl rfl (nle rfl) ?_
      refine ct_X8_ofClass hm k w rfl rfl (by omega) ?_
      refine kq_s ?_
      refine g_iload_n rfl ?_
      refine g_icmp_ne rfl L_X8_classes_32 (fun h_2 => ?_) (fun h_2 => ?_)
      · refine g_iconst (v := 0) ik_0 ?_
        refine g_fall rfl L_X8_classes_33 ?_
        exact hj_17 _ (by clear hQ hj_17 ih_k; simp_all)
      · refine g_iconst (v := 1) ik_1 ?_
        refine g_goto rfl L_X8_classes_33 ?_
        exact hj_17 _ (by clear hQ hj_17 ih_k; simp_all)
set_option maxRecDepth 100000 in
set_option maxHeartbeats 4000000 in
theorem ct_X8_daysOf {X : Xs} {κ : Kp} {M : Mem} {Q : Rs → Kp → Mem → Prop} {m : Nat} (hm : IsMod κ.2.1 m) {nc : Nat} (h2 : M (m + 1) 2 = nI nc) (hnc : nc ≤ 10) {t : Int32} (hQ : Q (.inl (some (.int (bitsI (orI nc (fun k => if M (m + 1) (39 + 9 * k + 3) = t then 1 <<< (M (m + 1) (39 + 9 * k + 4) &&& 31) else 0)))))) κ M) : Ct X m_X8_daysOf [.ref m, .int t] κ M Q := by
  refine ct_of B_X8_daysOf_0 pn_X8 rfl (nle rfl) L_X8_daysOf_0 ?_
  refine g_iconst (v := 0) ik_0 ?_
  refine g_istore_n (nle rfl) ?_
  refine g_iconst (v := 0) ik_0 ?_
  refine g_istore_n (nle rfl) ?_
  refine g_fall rfl L_X8_daysOf_4 ?_
  refine g_lo2 (lo' := [(0, some (.ref m)), (1, some (.int t)), (2, some (.int (orI 0 (fun k => if M (m + 1) (39 + 9 * k + 3) = t then 1 <<< (M (m + 1) (39 + 9 * k + 4) &&& 31) else 0)))), (3, some (.int (nI 0)))]) ?_ ⟨rfl, rfl, rfl, rfl, trivial⟩
  refine loop_up (P := fun k => G X m_X8_daysOf B_X8_daysOf_4 4 [(0, some (.ref m)), (1, some (.int t)), (2, some (.int (orI k (fun k => if M (m + 1) (39 + 9 * k + 3) = t then 1 <<< (M (m + 1) (39 + 9 * k + 4) &&& 31) else 0)))), (3, some (.int (nI k)))] [] 0 0 κ M Q) nc (fun k hle_k ih_k => ?_) 0 (Nat.zero_le _)
  refine g_iload_n rfl ?_
  refine g_aload_n rfl ?_
  refine g_getR (w := (m + 1)) fl_X8_7 rfl hm.1 rfl ?_
  refine g_iconst (v := 2) ik_2 ?_
  refine g_iaload (j := 2) hm.2.1 rfl (nle rfl) (nle rfl) ?_
  rw [h2]
  refine g_icmp_ge rfl L_X8_daysOf_45 (fun h_1 => ?_) (fun h_1 => ?_)
  · have hx_k := ((cmp_ge (c := nc) rfl (by omega) hle_k).1 h_1).symm
    subst hx_k
    refine g_iload_n rfl ?_
    refine g_callS (as := [_]) mk_X8_bits ml_X8_60 sm_X8_bits rfl rfl ⟨⟨nle rfl, nle rfl⟩, nle rfl, nle rfl⟩ rfl rfl (nle rfl) ?_
    refine ct_X8_bits ?_
    refine kq_s ?_
    refine g_iret rfl (nle rfl) (nle rfl) ?_
    exact hQ
  · have hlt_k : k < nc := (cmp_ge (c := nc) rfl (by omega) hle_k).2 h_1
    refine g_iload_n rfl ?_
    refine g_join (isJ := B_X8_daysOf_37) (pcJ := 37) (if M (m + 1) (39 + 9 * k + 3) = t then 1 <<< (M (m + 1) (39 + 9 * k + 4) &&& 31) else 0) ?_ (fun hj_15 => ?_)
    · refine g_ior ?_
      refine g_istore_n (nle rfl) ?_
      refine g_iinc (v := nI (k + 1)) rfl (nI_inc _) (nle rfl) ?_
      refine g_goto rfl L_X8_daysOf_4 ?_
      exact g_lo2 (ih_k hlt_k) ⟨rfl, rfl, rfl, rfl, trivial⟩
    · refine g_aload_n rfl ?_
      refine g_iload_n rfl ?_
      refine g_iconst (v := 3) ik_3 ?_
      refine g_callV (as := [_, _]) mk_X8_ofClass ml_X8_40 im_X8_ofClass se_X8_ofClass rfl rfl ⟨⟨nle rfl, nle rfl⟩, nle rfl, nle rfl⟩ hm.1 rfl rfl rfl (nle rfl) ?_
      refine ct_X8_ofClass hm k 3 rfl rfl (by omega) ?_
      refine kq_s ?_
      refine g_iload_n rfl ?_
      refine g_icmp_ne rfl L_X8_daysOf_36 (fun h_2 => ?_) (fun h_2 => ?_)
      · refine g_iconst (v := 0) ik_0 ?_
        refine g_fall rfl L_X8_daysOf_37 ?_
        exact hj_15 _ (by clear hQ hj_15 ih_k; simp_all)
      · refine g_iconst (v := 1) ik_1 ?_
        refine g_aload_n rfl ?_
        refine g_iload_n rfl ?_
        refine g_iconst (v := 4) ik_4 ?_
        refine g_callV (as := [_, _]) mk_X8_ofClass ml_X8_40 im_X8_ofClass se_X8_ofClass rfl rfl ⟨⟨nle rfl, nle rfl⟩, nle rfl, nle rfl⟩ hm.1 rfl rfl rfl (nle rfl) ?_
        refine ct_X8_ofClass hm k 4 rfl rfl (by omega) ?_
        refine kq_s ?_
        refine g_ishl ?_
        refine g_goto rfl L_X8_daysOf_37 ?_
        exact hj_15 _ (by clear hQ hj_15 ih_k; simp_all)
set_option maxRecDepth 100000 in
set_option maxHeartbeats 4000000 in
theorem ct_X8_seatsOf {X : Xs} {κ : Kp} {M : Mem} {Q : Rs → Kp → Mem → Prop} {m : Nat} (hm : IsMod κ.2.1 m) {nc : Nat} (h2 : M (m + 1) 2 = nI nc) (hnc : nc ≤ 10) {d : Int32} (hQ : Q (.inl (some (.int (sumI nc (fun k => if bitS (M (m + 1) (39 + 9 * k + 8)) d then 1 else 0))))) κ M) : Ct X m_X8_seatsOf [.ref m, .int d] κ M Q := by
  refine ct_of B_X8_seatsOf_0 pn_X8 rfl (nle rfl) L_X8_seatsOf_0 ?_
  refine g_iconst (v := 0) ik_0 ?_
  refine g_istore_n (nle rfl) ?_
  refine g_iconst (v := 0) ik_0 ?_
  refine g_istore_n (nle rfl) ?_
  refine g_fall rfl L_X8_seatsOf_4 ?_
  refine g_lo2 (lo' := [(0, some (.ref m)), (1, some (.int d)), (2, some (.int (sumI 0 (fun k => if bitS (M (m + 1) (39 + 9 * k + 8)) d then 1 else 0)))), (3, some (.int (nI 0)))]) ?_ ⟨rfl, rfl, rfl, rfl, trivial⟩
  refine loop_up (P := fun k => G X m_X8_seatsOf B_X8_seatsOf_4 4 [(0, some (.ref m)), (1, some (.int d)), (2, some (.int (sumI k (fun k => if bitS (M (m + 1) (39 + 9 * k + 8)) d then 1 else 0)))), (3, some (.int (nI k)))] [] 0 0 κ M Q) nc (fun k hle_k ih_k => ?_) 0 (Nat.zero_le _)
  refine g_iload_n rfl ?_
  refine g_aload_n rfl ?_
  refine g_getR (w := (m + 1)) fl_X8_7 rfl hm.1 rfl ?_
  refine g_iconst (v := 2) ik_2 ?_
  refine g_iaload (j := 2) hm.2.1 rfl (nle rfl) (nle rfl) ?_
  rw [h2]
  refine g_icmp_ge rfl L_X8_seatsOf_37 (fun h_1 => ?_) (fun h_1 => ?_)
  · have hx_k := ((cmp_ge (c := nc) rfl (by omega) hle_k).1 h_1).symm
    subst hx_k
    refine g_iload_n rfl ?_
    refine g_iret rfl (nle rfl) (nle rfl) ?_
    exact hQ
  · have hlt_k : k < nc := (cmp_ge (c := nc) rfl (by omega) hle_k).2 h_1
    refine g_iload_n rfl ?_
    refine g_join (isJ := B_X8_seatsOf_29) (pcJ := 29) (if bitS (M (m + 1) (39 + 9 * k + 8)) d then 1 else 0) ?_ (fun hj_15 => ?_)
    · refine g_iadd ?_
      refine g_istore_n (nle rfl) ?_
      refine g_iinc (v := nI (k + 1)) rfl (nI_inc _) (nle rfl) ?_
      refine g_goto rfl L_X8_seatsOf_4 ?_
      exact g_lo2 (ih_k hlt_k) ⟨rfl, rfl, rfl, rfl, trivial⟩
    · refine g_aload_n rfl ?_
      refine g_iload_n rfl ?_
      refine g_iload_n rfl ?_
      refine g_callV (as := [_, _]) mk_X8_hasSeat ml_X8_53 im_X8_hasSeat se_X8_hasSeat rfl rfl ⟨⟨nle rfl, nle rfl⟩, nle rfl, nle rfl⟩ hm.1 rfl rfl rfl (nle rfl) ?_
      refine ct_X8_hasSeat hm k rfl (by omega) ?_
      refine kq_s ?_
      refine g_if_eq_b rfl L_X8_seatsOf_28 (fun h_2 => ?_) (fun h_2 => ?_)
      · refine g_iconst (v := 0) ik_0 ?_
        refine g_fall rfl L_X8_seatsOf_29 ?_
        exact hj_15 _ (by clear hQ hj_15 ih_k; simp_all)
      · refine g_iconst (v := 1) ik_1 ?_
        refine g_goto rfl L_X8_seatsOf_29 ?_
        exact hj_15 _ (by clear hQ hj_15 ih_k; simp_all)
theorem dnN_ye {w : Int32} {k d : Nat} {s : Nat → Int32} (h : bitS w (nI d) = true) : dnN w k (d + 1) s = danS (dnN w k d s) k d := if_pos h
theorem dnN_no {w : Int32} {k d : Nat} {s : Nat → Int32} (h : bitS w (nI d) = false) : dnN w k (d + 1) s = dnN w k d s := if_neg (by rw [h]; decide)
set_option maxRecDepth 100000 in
set_option maxHeartbeats 4000000 in
theorem ct_X8_week {X : Xs} {κ : Kp} {M : Mem} {Q : Rs → Kp → Mem → Prop} {m : Nat} (hm : IsMod κ.2.1 m) {nc : Nat} (h2 : M (m + 1) 2 = nI nc) (hnc : nc ≤ 10) {nd : Nat} (h3 : M (m + 1) 3 = nI nd) (hnd : nd ≤ 12)  (hQ : Q (.inl (some (.int (weekH nc nd (M (m + 1)))))) κ (sR M (m + 1) (weekS nc nd (M (m + 1))))) : Ct X m_X8_week [.ref m] κ M Q := by
  refine ct_of B_X8_week_0 pn_X8 rfl (nle rfl) L_X8_week_0 ?_
  refine g_iconst (v := 0) ik_0 ?_
  refine g_istore_n (nle rfl) ?_
  refine g_aload_n rfl ?_
  refine g_getR (w := (m + 1)) fl_X8_7 rfl hm.1 rfl ?_
  refine g_iconst (v := 4) ik_4 ?_
  refine g_dup2 rfl rfl ?_
  refine g_iaload (j := 4) hm.2.1 rfl (nle rfl) (nle rfl) ?_
  refine g_iconst (v := 1) ik_1 ?_
  refine g_iadd ?_
  refine g_iastore (j := 4) hm.2.1 rfl (nle rfl) (nle rfl) ?_
  refine g_iconst (v := 0) ik_0 ?_
  refine g_istore_n (nle rfl) ?_
  refine g_fall rfl L_X8_week_14 ?_
  rw [upM_sR]
  refine g_lo2 (lo' := [(0, some (.ref m)), (1, some (.int (hldN nd 0 (upd (M (m + 1)) 4 (M (m + 1) 4 + 1))))), (2, some (.int (nI 0)))]) ?_ ⟨rfl, rfl, rfl, trivial⟩
  refine loop_up (P := fun k => G X m_X8_week B_X8_week_14 14 [(0, some (.ref m)), (1, some (.int (hldN nd k (upd (M (m + 1)) 4 (M (m + 1) 4 + 1))))), (2, some (.int (nI k)))] [] 0 0 κ (sR M (m + 1) (clsN nd k (upd (M (m + 1)) 4 (M (m + 1) 4 + 1)))) Q) nc (fun k hle_k ih_k => ?_) 0 (Nat.zero_le _)
  refine g_iload_n rfl ?_
  refine g_aload_n rfl ?_
  refine g_getR (w := (m + 1)) fl_X8_7 rfl hm.1 rfl ?_
  refine g_iconst (v := 2) ik_2 ?_
  refine g_iaload (j := 2) hm.2.1 rfl (nle rfl) (nle rfl) ?_
  simp (disch := omega) only [upM_sR, sR_s, sR_sR, upd_ne, upd_same, h2, clsN_2, clsN_3, clsN_11, clsN_12, dnN_3, holdS_3, riseN_3, riseN_12]
  refine g_icmp_ge rfl L_X8_week_137 (fun h_1 => ?_) (fun h_1 => ?_)
  · have hx_k := ((cmp_ge (c := nc) rfl (by omega) hle_k).1 h_1).symm
    subst hx_k
    refine g_iconst (v := 0) ik_0 ?_
    refine g_istore_n (nle rfl) ?_
    refine g_fall rfl L_X8_week_139 ?_
    refine g_lo2 (lo' := [(0, some (.ref m)), (1, some (.int (hldN nd nc (upd (M (m + 1)) 4 (M (m + 1) 4 + 1))))), (2, some (.int (nI 0)))]) ?_ ⟨rfl, rfl, rfl, trivial⟩
    refine loop_up (P := fun e => G X m_X8_week B_X8_week_139 139 [(0, some (.ref m)), (1, some (.int (hldN nd nc (upd (M (m + 1)) 4 (M (m + 1) 4 + 1))))), (2, some (.int (nI e)))] [] 0 0 κ (sR M (m + 1) (riseN e (clsN nd nc (upd (M (m + 1)) 4 (M (m + 1) 4 + 1))))) Q) nd (fun e hle_e ih_e => ?_) 0 (Nat.zero_le _)
    refine g_iload_n rfl ?_
    refine g_aload_n rfl ?_
    refine g_getR (w := (m + 1)) fl_X8_7 rfl hm.1 rfl ?_
    refine g_iconst (v := 3) ik_3 ?_
    refine g_iaload (j := 3) hm.2.1 rfl (nle rfl) (nle rfl) ?_
    simp (disch := omega) only [upM_sR, sR_s, sR_sR, upd_ne, upd_same, h3, clsN_2, clsN_3, clsN_11, clsN_12, dnN_3, holdS_3, riseN_3, riseN_12]
    refine g_icmp_ge rfl L_X8_week_210 (fun h_2 => ?_) (fun h_2 => ?_)
    · have hx_e := ((cmp_ge (c := nd) rfl (by omega) hle_e).1 h_2).symm
      subst hx_e
      refine g_iload_n rfl ?_
      refine g_iret rfl (nle rfl) (nle rfl) ?_
      exact hQ
    · have hlt_e : e < nd := (cmp_ge (c := nd) rfl (by omega) hle_e).2 h_2
      refine g_sipush (v := 129) sk_129 ?_
      refine g_iconst (v := 5) ik_5 ?_
      refine g_iload_n rfl ?_
      refine g_imul ?_
      refine g_iadd ?_
      refine g_istore_n (nle rfl) ?_
      refine g_aload_n rfl ?_
      refine g_getR (w := (m + 1)) fl_X8_7 rfl hm.1 rfl ?_
      refine g_iload_n rfl ?_
      refine g_iconst (v := 1) ik_1 ?_
      refine g_iadd ?_
      refine g_iaload (j := ((129 + (5 * e)) + 1)) hm.2.1 (by simp only [nI, Int32.ofNat_add, Int32.ofNat_mul] <;> rfl) (by omega) (nle rfl) ?_
      refine g_aload_n rfl ?_
      refine g_getR (w := (m + 1)) fl_X8_7 rfl hm.1 rfl ?_
      refine g_bipush (v := 12) bk_12 ?_
      refine g_iaload (j := 12) hm.2.1 rfl (nle rfl) (nle rfl) ?_
      refine g_icmp_lt rfl L_X8_week_204 (fun h_3 => ?_) (fun h_3 => ?_)
      · refine g_iinc (v := nI (e + 1)) rfl (nI_inc _) (nle rfl) ?_
        refine g_goto rfl L_X8_week_139 ?_
        have ih2 := ih_e hlt_e
        refine g_mem ?_ (g_lo2 ih2 ⟨rfl, rfl, rfl, trivial⟩)
        clear ih2 ih_e hQ
        show _ = sR M (m + 1) (riseS (riseN e (clsN nd nc (upd (M (m + 1)) 4 (M (m + 1) 4 + 1)))) e)
        simp only [upM_sR, sR_s, sR_sR, riseS] at *
        simp_all [-Int32.not_lt, -Int32.not_le, riseN_12, clsN_12, i32le]
      · refine g_aload_n rfl ?_
        refine g_getR (w := (m + 1)) fl_X8_7 rfl hm.1 rfl ?_
        refine g_iload_n rfl ?_
        refine g_iaload (j := (129 + (5 * e))) hm.2.1 (by simp only [nI, Int32.ofNat_add, Int32.ofNat_mul] <;> rfl) (by omega) (nle rfl) ?_
        refine g_iconst (v := 5) ik_5 ?_
        refine g_icmp_ge rfl L_X8_week_204 (fun h_4 => ?_) (fun h_4 => ?_)
        · refine g_iinc (v := nI (e + 1)) rfl (nI_inc _) (nle rfl) ?_
          refine g_goto rfl L_X8_week_139 ?_
          have ih2 := ih_e hlt_e
          refine g_mem ?_ (g_lo2 ih2 ⟨rfl, rfl, rfl, trivial⟩)
          clear ih2 ih_e hQ
          show _ = sR M (m + 1) (riseS (riseN e (clsN nd nc (upd (M (m + 1)) 4 (M (m + 1) 4 + 1)))) e)
          simp only [upM_sR, sR_s, sR_sR, riseS] at *
          simp_all [-Int32.not_lt, -Int32.not_le, riseN_12, clsN_12, i32le]
        · refine g_aload_n rfl ?_
          refine g_getR (w := (m + 1)) fl_X8_7 rfl hm.1 rfl ?_
          refine g_iload_n rfl ?_
          refine g_dup2 rfl rfl ?_
          refine g_iaload (j := (129 + (5 * e))) hm.2.1 (by simp only [nI, Int32.ofNat_add, Int32.ofNat_mul] <;> rfl) (by omega) (nle rfl) ?_
          refine g_iconst (v := 1) ik_1 ?_
          refine g_iadd ?_
          refine g_iastore (j := (129 + (5 * e))) hm.2.1 (by simp only [nI, Int32.ofNat_add, Int32.ofNat_mul] <;> rfl) (by omega) (nle rfl) ?_
          refine g_aload_n rfl ?_
          refine g_getR (w := (m + 1)) fl_X8_7 rfl hm.1 rfl ?_
          refine g_iload_n rfl ?_
          refine g_iconst (v := 1) ik_1 ?_
          refine g_iadd ?_
          refine g_iconst (v := 0) ik_0 ?_
          refine g_iastore (j := ((129 + (5 * e)) + 1)) hm.2.1 (by simp only [nI, Int32.ofNat_add, Int32.ofNat_mul] <;> rfl) (by omega) (nle rfl) ?_
          refine g_fall rfl L_X8_week_204 ?_
          refine g_iinc (v := nI (e + 1)) rfl (nI_inc _) (nle rfl) ?_
          refine g_goto rfl L_X8_week_139 ?_
          have ih2 := ih_e hlt_e
          refine g_mem ?_ (g_lo2 ih2 ⟨rfl, rfl, rfl, trivial⟩)
          clear ih2 ih_e hQ
          show _ = sR M (m + 1) (riseS (riseN e (clsN nd nc (upd (M (m + 1)) 4 (M (m + 1) 4 + 1)))) e)
          simp only [upM_sR, sR_s, sR_sR, riseS] at *
          simp_all [-Int32.not_lt, -Int32.not_le, riseN_12, clsN_12, i32le]
  · have hlt_k : k < nc := (cmp_ge (c := nc) rfl (by omega) hle_k).2 h_1
    refine g_aload_n rfl ?_
    refine g_iload_n rfl ?_
    refine g_callV (as := [_]) mk_X8_coming ml_X8_70 im_X8_coming se_X8_coming rfl rfl ⟨⟨nle rfl, nle rfl⟩, nle rfl, nle rfl⟩ hm.1 rfl rfl rfl (nle rfl) ?_
    refine ct_X8_coming hm (by simp (disch := omega) only [upM_sR, sR_s, sR_sR, upd_ne, upd_same, h3, clsN_2, clsN_3, clsN_11, clsN_12, dnN_3, holdS_3, riseN_3, riseN_12]) hnd k rfl (by omega) ?_
    refine kq_s ?_
    simp only [sR_s]
    refine g_istore_n (nle rfl) ?_
    refine g_iload_n rfl ?_
    refine g_callS (as := [_]) mk_X8_bits ml_X8_60 sm_X8_bits rfl rfl ⟨⟨nle rfl, nle rfl⟩, nle rfl, nle rfl⟩ rfl rfl (nle rfl) ?_
    refine ct_X8_bits ?_
    refine kq_s ?_
    refine g_aload_n rfl ?_
    refine g_getR (w := (m + 1)) fl_X8_7 rfl hm.1 rfl ?_
    refine g_bipush (v := 11) bk_11 ?_
    refine g_iaload (j := 11) hm.2.1 rfl (nle rfl) (nle rfl) ?_
    refine g_icmp_ge rfl L_X8_week_58 (fun h_5 => ?_) (fun h_5 => ?_)
    · replace h_5 := Int32.not_lt.mpr h_5
      simp only [sR_s] at h_5
      refine g_iload_n rfl ?_
      refine g_iconst (v := 1) ik_1 ?_
      refine g_iload_n rfl ?_
      refine g_ishl ?_
      refine g_ior ?_
      refine g_istore_n (nle rfl) ?_
      refine g_aload_n rfl ?_
      refine g_getR (w := (m + 1)) fl_X8_7 rfl hm.1 rfl ?_
      refine g_bipush (v := 7) bk_7 ?_
      refine g_dup2 rfl rfl ?_
      refine g_iaload (j := 7) hm.2.1 rfl (nle rfl) (nle rfl) ?_
      refine g_iconst (v := 1) ik_1 ?_
      refine g_iadd ?_
      refine g_iastore (j := 7) hm.2.1 rfl (nle rfl) (nle rfl) ?_
      refine g_aload_n rfl ?_
      refine g_getR (w := (m + 1)) fl_X8_7 rfl hm.1 rfl ?_
      refine g_bipush (v := 39) bk_39 ?_
      refine g_bipush (v := 9) bk_9 ?_
      refine g_iload_n rfl ?_
      refine g_imul ?_
      refine g_iadd ?_
      refine g_bipush (v := 6) bk_6 ?_
      refine g_iadd ?_
      refine g_dup2 rfl rfl ?_
      refine g_iaload (j := ((39 + (9 * k)) + 6)) hm.2.1 (by simp only [nI, Int32.ofNat_add, Int32.ofNat_mul] <;> rfl) (by omega) (nle rfl) ?_
      refine g_iconst (v := 1) ik_1 ?_
      refine g_iadd ?_
      refine g_iastore (j := ((39 + (9 * k)) + 6)) hm.2.1 (by simp only [nI, Int32.ofNat_add, Int32.ofNat_mul] <;> rfl) (by omega) (nle rfl) ?_
      refine g_iconst (v := 0) ik_0 ?_
      refine g_istore (nle rfl) ?_
      refine g_fall rfl L_X8_week_97 ?_
      simp only [upM_sR, sR_s, sR_sR]
      refine g_lo2 (lo' := [(0, some (.ref m)), (1, some (.int (hldN nd k (upd (M (m + 1)) 4 (M (m + 1) 4 + 1)) ||| (1 <<< (nI k &&& 31))))), (2, some (.int (nI k))), (3, some (.int (comI (clsN nd k (upd (M (m + 1)) 4 (M (m + 1) 4 + 1))) k nd))), (4, some (.int (nI 0)))]) ?_ ⟨rfl, rfl, rfl, rfl, rfl, trivial⟩
      refine loop_up (P := fun d => G X m_X8_week B_X8_week_97 97 [(0, some (.ref m)), (1, some (.int (hldN nd k (upd (M (m + 1)) 4 (M (m + 1) 4 + 1)) ||| (1 <<< (nI k &&& 31))))), (2, some (.int (nI k))), (3, some (.int (comI (clsN nd k (upd (M (m + 1)) 4 (M (m + 1) 4 + 1))) k nd))), (4, some (.int (nI d)))] [] 0 0 κ (sR M (m + 1) (dnN (comI (clsN nd k (upd (M (m + 1)) 4 (M (m + 1) 4 + 1))) k nd) k d (holdS (clsN nd k (upd (M (m + 1)) 4 (M (m + 1) 4 + 1))) k))) Q) nd (fun d hle_d ih_d => ?_) 0 (Nat.zero_le _)
      refine g_iload rfl ?_
      refine g_aload_n rfl ?_
      refine g_getR (w := (m + 1)) fl_X8_7 rfl hm.1 rfl ?_
      refine g_iconst (v := 3) ik_3 ?_
      refine g_iaload (j := 3) hm.2.1 rfl (nle rfl) (nle rfl) ?_
      simp (disch := omega) only [upM_sR, sR_s, sR_sR, upd_ne, upd_same, h3, clsN_2, clsN_3, clsN_11, clsN_12, dnN_3, holdS_3, riseN_3, riseN_12]
      refine g_icmp_ge rfl L_X8_week_131 (fun h_6 => ?_) (fun h_6 => ?_)
      · have hx_d := ((cmp_ge (c := nd) rfl (by omega) hle_d).1 h_6).symm
        subst hx_d
        refine g_iinc (v := nI (k + 1)) rfl (nI_inc _) (nle rfl) ?_
        refine g_goto rfl L_X8_week_14 ?_
        obtain ⟨e1, e2⟩ := clsN_ye h_5
        have ih2 := ih_k hlt_k
        rw [e1, e2] at ih2
        exact g_lo2 ih2 ⟨rfl, rfl, rfl, trivial⟩
      · have hlt_d : d < nd := (cmp_ge (c := nd) rfl (by omega) hle_d).2 h_6
        refine g_iload_n rfl ?_
        refine g_iload rfl ?_
        refine g_ishr ?_
        refine g_iconst (v := 1) ik_1 ?_
        refine g_iand ?_
        refine g_iconst (v := 1) ik_1 ?_
        refine g_icmp_ne rfl L_X8_week_125 (fun h_7 => ?_) (fun h_7 => ?_)
        · replace h_7 : bitS (comI (clsN nd k (upd (M (m + 1)) 4 (M (m + 1) 4 + 1))) k nd) (nI d) = false := by simpa [bitS] using h_7
          refine g_iinc (v := nI (d + 1)) rfl (nI_inc _) (nle rfl) ?_
          refine g_goto rfl L_X8_week_97 ?_
          have ih2 := ih_d hlt_d
          rw [dnN_no h_7] at ih2
          exact g_lo2 ih2 ⟨rfl, rfl, rfl, rfl, rfl, trivial⟩
        · replace h_7 : bitS (comI (clsN nd k (upd (M (m + 1)) 4 (M (m + 1) 4 + 1))) k nd) (nI d) = true := by simpa [bitS] using h_7
          refine g_aload_n rfl ?_
          refine g_iload_n rfl ?_
          refine g_iload rfl ?_
          refine g_callV (as := [_, _]) mk_X8_dances ml_X8_73 im_X8_dances se_X8_dances rfl rfl ⟨⟨nle rfl, nle rfl⟩, nle rfl, nle rfl⟩ hm.1 rfl rfl rfl (nle rfl) ?_
          refine ct_X8_dances hm k d rfl rfl (by omega) (by omega) ?_
          refine kq_n ?_
          refine g_fall rfl L_X8_week_125 ?_
          refine g_iinc (v := nI (d + 1)) rfl (nI_inc _) (nle rfl) ?_
          refine g_goto rfl L_X8_week_97 ?_
          have ih2 := ih_d hlt_d
          rw [dnN_ye h_7] at ih2
          refine g_mem ?_ (g_lo2 ih2 ⟨rfl, rfl, rfl, rfl, rfl, trivial⟩)
          simp only [sR_s, sR_sR]
    · replace h_5 := Int32.not_le.mp h_5
      simp only [sR_s] at h_5
      refine g_aload_n rfl ?_
      refine g_getR (w := (m + 1)) fl_X8_7 rfl hm.1 rfl ?_
      refine g_bipush (v := 8) bk_8 ?_
      refine g_dup2 rfl rfl ?_
      refine g_iaload (j := 8) hm.2.1 rfl (nle rfl) (nle rfl) ?_
      refine g_iconst (v := 1) ik_1 ?_
      refine g_iadd ?_
      refine g_iastore (j := 8) hm.2.1 rfl (nle rfl) (nle rfl) ?_
      refine g_goto rfl L_X8_week_131 ?_
      refine g_iinc (v := nI (k + 1)) rfl (nI_inc _) (nle rfl) ?_
      refine g_goto rfl L_X8_week_14 ?_
      obtain ⟨e1, e2⟩ := clsN_no h_5
      have ih2 := ih_k hlt_k
      rw [e1, e2] at ih2
      refine g_mem ?_ (g_lo2 ih2 ⟨rfl, rfl, rfl, trivial⟩)
      simp only [upM_sR, sR_s, sR_sR]
end
section
theorem i_vc : Claimed_1_1 ∧ Claimed_1_2 := sorry
end
