section
-- ===== PART A: goes FIRST, ahead of the names: the tables' words, and 'selects' of the private methods out of them =====
/-- a private method of a class that the tables say can be made, by its rows of tables_1 -/
def lw_okq (q : MethodName × Nat) : Prop := (q.1.cls ≠ "java/lang/invoke/MethodHandle" ∧ q.1.cls ≠ "java/lang/invoke/VarHandle") ∧ Cond.instantiable q.1.cls q.2 ∈ tables_1 ∧ Cond.privateMethod q.1 ∈ tables_1 ∧ Cond.instanceMethod q.1 ∈ tables_1
theorem lw_p0 : lw_okq (⟨"DanceFloors$Text", "readDigit", "(II)Z"⟩, 6) := ⟨⟨by decide +kernel, by decide +kernel⟩, List.mem_of_getElem? (i := 27) (by decide +kernel), List.mem_of_getElem? (i := 317) (by decide +kernel), List.mem_of_getElem? (i := 318) (by decide +kernel)⟩
theorem lw_p1 : lw_okq (⟨"DanceFloors$Text", "digitWithin", "(II)I"⟩, 6) := ⟨⟨by decide +kernel, by decide +kernel⟩, List.mem_of_getElem? (i := 27) (by decide +kernel), List.mem_of_getElem? (i := 321) (by decide +kernel), List.mem_of_getElem? (i := 322) (by decide +kernel)⟩
theorem lw_p2 : lw_okq (⟨"DanceFloors$Text", "keepNumber", "(I)Z"⟩, 6) := ⟨⟨by decide +kernel, by decide +kernel⟩, List.mem_of_getElem? (i := 27) (by decide +kernel), List.mem_of_getElem? (i := 328) (by decide +kernel), List.mem_of_getElem? (i := 329) (by decide +kernel)⟩
theorem lw_p3 : lw_okq (⟨"DanceFloors$Text", "readTwoDigits", "(II)Z"⟩, 6) := ⟨⟨by decide +kernel, by decide +kernel⟩, List.mem_of_getElem? (i := 27) (by decide +kernel), List.mem_of_getElem? (i := 332) (by decide +kernel), List.mem_of_getElem? (i := 333) (by decide +kernel)⟩
theorem lw_p4 : lw_okq (⟨"DanceFloors$Text", "readKind", "()Z"⟩, 6) := ⟨⟨by decide +kernel, by decide +kernel⟩, List.mem_of_getElem? (i := 27) (by decide +kernel), List.mem_of_getElem? (i := 342) (by decide +kernel), List.mem_of_getElem? (i := 343) (by decide +kernel)⟩
theorem lw_p5 : lw_okq (⟨"DanceFloors$Text", "readPlace", "()Z"⟩, 6) := ⟨⟨by decide +kernel, by decide +kernel⟩, List.mem_of_getElem? (i := 27) (by decide +kernel), List.mem_of_getElem? (i := 346) (by decide +kernel), List.mem_of_getElem? (i := 347) (by decide +kernel)⟩
theorem lw_p6 : lw_okq (⟨"DanceFloors$Text", "readDancer", "()Z"⟩, 6) := ⟨⟨by decide +kernel, by decide +kernel⟩, List.mem_of_getElem? (i := 27) (by decide +kernel), List.mem_of_getElem? (i := 350) (by decide +kernel), List.mem_of_getElem? (i := 351) (by decide +kernel)⟩
theorem lw_p7 : lw_okq (⟨"DanceFloors$Text", "readLesson", "()Z"⟩, 6) := ⟨⟨by decide +kernel, by decide +kernel⟩, List.mem_of_getElem? (i := 27) (by decide +kernel), List.mem_of_getElem? (i := 354) (by decide +kernel), List.mem_of_getElem? (i := 355) (by decide +kernel)⟩
theorem lw_p8 : lw_okq (⟨"DanceFloors$Studio", "copyRowsFrom", "(LDanceFloors$Studio;)V"⟩, 14) := ⟨⟨by decide +kernel, by decide +kernel⟩, List.mem_of_getElem? (i := 57) (by decide +kernel), List.mem_of_getElem? (i := 366) (by decide +kernel), List.mem_of_getElem? (i := 367) (by decide +kernel)⟩
theorem lw_p9 : lw_okq (⟨"DanceFloors$Studio", "holdLesson", "(LDanceFloors$Lesson;)I"⟩, 14) := ⟨⟨by decide +kernel, by decide +kernel⟩, List.mem_of_getElem? (i := 57) (by decide +kernel), List.mem_of_getElem? (i := 390) (by decide +kernel), List.mem_of_getElem? (i := 391) (by decide +kernel)⟩
theorem lw_p10 : lw_okq (⟨"DanceFloors$Studio", "countComers", "(LDanceFloors$Lesson;)I"⟩, 14) := ⟨⟨by decide +kernel, by decide +kernel⟩, List.mem_of_getElem? (i := 57) (by decide +kernel), List.mem_of_getElem? (i := 394) (by decide +kernel), List.mem_of_getElem? (i := 395) (by decide +kernel)⟩
theorem lw_p11 : lw_okq (⟨"DanceFloors$Studio", "comes", "(ILDanceFloors$Lesson;)Z"⟩, 14) := ⟨⟨by decide +kernel, by decide +kernel⟩, List.mem_of_getElem? (i := 57) (by decide +kernel), List.mem_of_getElem? (i := 398) (by decide +kernel), List.mem_of_getElem? (i := 399) (by decide +kernel)⟩
theorem lw_p12 : lw_okq (⟨"java/lang/Throwable", "fillInStackTrace", "(I)Ljava/lang/Throwable;"⟩, 6) := ⟨⟨by decide +kernel, by decide +kernel⟩, List.mem_of_getElem? (i := 465) (by decide +kernel), List.mem_of_getElem? (i := 463) (by decide +kernel), List.mem_of_getElem? (i := 464) (by decide +kernel)⟩
theorem lw_p13 : lw_okq (⟨"DanceFloors", "doCommandsOfText", "()I"⟩, 6) := ⟨⟨by decide +kernel, by decide +kernel⟩, List.mem_of_getElem? (i := 19) (by decide +kernel), List.mem_of_getElem? (i := 530) (by decide +kernel), List.mem_of_getElem? (i := 531) (by decide +kernel)⟩
theorem lw_p14 : lw_okq (⟨"DanceFloors", "doCommand", "(C[I)Z"⟩, 6) := ⟨⟨by decide +kernel, by decide +kernel⟩, List.mem_of_getElem? (i := 19) (by decide +kernel), List.mem_of_getElem? (i := 537) (by decide +kernel), List.mem_of_getElem? (i := 538) (by decide +kernel)⟩
theorem lw_p15 : lw_okq (⟨"DanceFloors$Studio", "isFloorInUse", "(III)Z"⟩, 14) := ⟨⟨by decide +kernel, by decide +kernel⟩, List.mem_of_getElem? (i := 57) (by decide +kernel), List.mem_of_getElem? (i := 565) (by decide +kernel), List.mem_of_getElem? (i := 566) (by decide +kernel)⟩
def lw_privs_1 : List (MethodName × Nat) := [(⟨"DanceFloors$Text", "readDigit", "(II)Z"⟩, 6), (⟨"DanceFloors$Text", "digitWithin", "(II)I"⟩, 6), (⟨"DanceFloors$Text", "keepNumber", "(I)Z"⟩, 6), (⟨"DanceFloors$Text", "readTwoDigits", "(II)Z"⟩, 6), (⟨"DanceFloors$Text", "readKind", "()Z"⟩, 6), (⟨"DanceFloors$Text", "readPlace", "()Z"⟩, 6), (⟨"DanceFloors$Text", "readDancer", "()Z"⟩, 6), (⟨"DanceFloors$Text", "readLesson", "()Z"⟩, 6), (⟨"DanceFloors$Studio", "copyRowsFrom", "(LDanceFloors$Studio;)V"⟩, 14), (⟨"DanceFloors$Studio", "holdLesson", "(LDanceFloors$Lesson;)I"⟩, 14), (⟨"DanceFloors$Studio", "countComers", "(LDanceFloors$Lesson;)I"⟩, 14), (⟨"DanceFloors$Studio", "comes", "(ILDanceFloors$Lesson;)Z"⟩, 14), (⟨"java/lang/Throwable", "fillInStackTrace", "(I)Ljava/lang/Throwable;"⟩, 6), (⟨"DanceFloors", "doCommandsOfText", "()I"⟩, 6), (⟨"DanceFloors", "doCommand", "(C[I)Z"⟩, 6), (⟨"DanceFloors$Studio", "isFloorInUse", "(III)Z"⟩, 14)]
theorem lw_r1 : ∀ q ∈ lw_privs_1, lw_okq q := List.forall_mem_cons.mpr ⟨lw_p0, List.forall_mem_cons.mpr ⟨lw_p1, List.forall_mem_cons.mpr ⟨lw_p2, List.forall_mem_cons.mpr ⟨lw_p3, List.forall_mem_cons.mpr ⟨lw_p4, List.forall_mem_cons.mpr ⟨lw_p5, List.forall_mem_cons.mpr ⟨lw_p6, List.forall_mem_cons.mpr ⟨lw_p7, List.forall_mem_cons.mpr ⟨lw_p8, List.forall_mem_cons.mpr ⟨lw_p9, List.forall_mem_cons.mpr ⟨lw_p10, List.forall_mem_cons.mpr ⟨lw_p11, List.forall_mem_cons.mpr ⟨lw_p12, List.forall_mem_cons.mpr ⟨lw_p13, List.forall_mem_cons.mpr ⟨lw_p14, List.forall_mem_cons.mpr ⟨lw_p15, fun _ h => absurd h List.not_mem_nil⟩⟩⟩⟩⟩⟩⟩⟩⟩⟩⟩⟩⟩⟩⟩⟩
theorem lw_p16 : lw_okq (⟨"DanceFloors$Studio", "isTeacherInUse", "(III)Z"⟩, 14) := ⟨⟨by decide +kernel, by decide +kernel⟩, List.mem_of_getElem? (i := 57) (by decide +kernel), List.mem_of_getElem? (i := 573) (by decide +kernel), List.mem_of_getElem? (i := 574) (by decide +kernel)⟩
theorem lw_p17 : lw_okq (⟨"DanceFloors$Studio", "isDancerSeatedAt", "(III)Z"⟩, 14) := ⟨⟨by decide +kernel, by decide +kernel⟩, List.mem_of_getElem? (i := 57) (by decide +kernel), List.mem_of_getElem? (i := 621) (by decide +kernel), List.mem_of_getElem? (i := 622) (by decide +kernel)⟩
theorem lw_p18 : lw_okq (⟨"DanceFloors", "tryGroup", "(I)Z"⟩, 6) := ⟨⟨by decide +kernel, by decide +kernel⟩, List.mem_of_getElem? (i := 19) (by decide +kernel), List.mem_of_getElem? (i := 919) (by decide +kernel), List.mem_of_getElem? (i := 920) (by decide +kernel)⟩
theorem lw_p19 : lw_okq (⟨"DanceFloors", "tryTurn", "(I)I"⟩, 6) := ⟨⟨by decide +kernel, by decide +kernel⟩, List.mem_of_getElem? (i := 19) (by decide +kernel), List.mem_of_getElem? (i := 932) (by decide +kernel), List.mem_of_getElem? (i := 933) (by decide +kernel)⟩
theorem lw_p20 : lw_okq (⟨"DanceFloors", "tryLeaving", "(I)V"⟩, 6) := ⟨⟨by decide +kernel, by decide +kernel⟩, List.mem_of_getElem? (i := 19) (by decide +kernel), List.mem_of_getElem? (i := 936) (by decide +kernel), List.mem_of_getElem? (i := 937) (by decide +kernel)⟩
theorem lw_p21 : lw_okq (⟨"DanceFloorsModel", "anew", "()V"⟩, 9) := ⟨⟨by decide +kernel, by decide +kernel⟩, List.mem_of_getElem? (i := 954) (by decide +kernel), List.mem_of_getElem? (i := 960) (by decide +kernel), List.mem_of_getElem? (i := 961) (by decide +kernel)⟩
theorem lw_p22 : lw_okq (⟨"DanceFloorsModel", "holds", "(I)Z"⟩, 9) := ⟨⟨by decide +kernel, by decide +kernel⟩, List.mem_of_getElem? (i := 954) (by decide +kernel), List.mem_of_getElem? (i := 1003) (by decide +kernel), List.mem_of_getElem? (i := 1004) (by decide +kernel)⟩
theorem lw_p23 : lw_okq (⟨"DanceFloorsModel", "isStudio", "()Z"⟩, 9) := ⟨⟨by decide +kernel, by decide +kernel⟩, List.mem_of_getElem? (i := 954) (by decide +kernel), List.mem_of_getElem? (i := 1015) (by decide +kernel), List.mem_of_getElem? (i := 1016) (by decide +kernel)⟩
theorem lw_p24 : lw_okq (⟨"DanceFloorsModel", "takesSign", "(I)Z"⟩, 9) := ⟨⟨by decide +kernel, by decide +kernel⟩, List.mem_of_getElem? (i := 954) (by decide +kernel), List.mem_of_getElem? (i := 1019) (by decide +kernel), List.mem_of_getElem? (i := 1020) (by decide +kernel)⟩
theorem lw_p25 : lw_okq (⟨"DanceFloorsModel", "sign", "()I"⟩, 9) := ⟨⟨by decide +kernel, by decide +kernel⟩, List.mem_of_getElem? (i := 954) (by decide +kernel), List.mem_of_getElem? (i := 1023) (by decide +kernel), List.mem_of_getElem? (i := 1024) (by decide +kernel)⟩
theorem lw_p26 : lw_okq (⟨"DanceFloorsModel", "readsCommand", "()Z"⟩, 9) := ⟨⟨by decide +kernel, by decide +kernel⟩, List.mem_of_getElem? (i := 954) (by decide +kernel), List.mem_of_getElem? (i := 1027) (by decide +kernel), List.mem_of_getElem? (i := 1028) (by decide +kernel)⟩
theorem lw_p27 : lw_okq (⟨"DanceFloorsModel", "figure", "(III)Z"⟩, 9) := ⟨⟨by decide +kernel, by decide +kernel⟩, List.mem_of_getElem? (i := 954) (by decide +kernel), List.mem_of_getElem? (i := 1031) (by decide +kernel), List.mem_of_getElem? (i := 1032) (by decide +kernel)⟩
theorem lw_p28 : lw_okq (⟨"DanceFloorsModel", "figures", "(III)Z"⟩, 9) := ⟨⟨by decide +kernel, by decide +kernel⟩, List.mem_of_getElem? (i := 954) (by decide +kernel), List.mem_of_getElem? (i := 1035) (by decide +kernel), List.mem_of_getElem? (i := 1036) (by decide +kernel)⟩
theorem lw_p29 : lw_okq (⟨"DanceFloorsModel", "readsClass", "()Z"⟩, 9) := ⟨⟨by decide +kernel, by decide +kernel⟩, List.mem_of_getElem? (i := 954) (by decide +kernel), List.mem_of_getElem? (i := 1039) (by decide +kernel), List.mem_of_getElem? (i := 1040) (by decide +kernel)⟩
theorem lw_p30 : lw_okq (⟨"DanceFloorsModel", "can", "()Z"⟩, 9) := ⟨⟨by decide +kernel, by decide +kernel⟩, List.mem_of_getElem? (i := 954) (by decide +kernel), List.mem_of_getElem? (i := 1047) (by decide +kernel), List.mem_of_getElem? (i := 1048) (by decide +kernel)⟩
theorem lw_p31 : lw_okq (⟨"DanceFloorsModel", "canSet", "()Z"⟩, 9) := ⟨⟨by decide +kernel, by decide +kernel⟩, List.mem_of_getElem? (i := 954) (by decide +kernel), List.mem_of_getElem? (i := 1051) (by decide +kernel), List.mem_of_getElem? (i := 1052) (by decide +kernel)⟩
def lw_privs_2 : List (MethodName × Nat) := [(⟨"DanceFloors$Studio", "isTeacherInUse", "(III)Z"⟩, 14), (⟨"DanceFloors$Studio", "isDancerSeatedAt", "(III)Z"⟩, 14), (⟨"DanceFloors", "tryGroup", "(I)Z"⟩, 6), (⟨"DanceFloors", "tryTurn", "(I)I"⟩, 6), (⟨"DanceFloors", "tryLeaving", "(I)V"⟩, 6), (⟨"DanceFloorsModel", "anew", "()V"⟩, 9), (⟨"DanceFloorsModel", "holds", "(I)Z"⟩, 9), (⟨"DanceFloorsModel", "isStudio", "()Z"⟩, 9), (⟨"DanceFloorsModel", "takesSign", "(I)Z"⟩, 9), (⟨"DanceFloorsModel", "sign", "()I"⟩, 9), (⟨"DanceFloorsModel", "readsCommand", "()Z"⟩, 9), (⟨"DanceFloorsModel", "figure", "(III)Z"⟩, 9), (⟨"DanceFloorsModel", "figures", "(III)Z"⟩, 9), (⟨"DanceFloorsModel", "readsClass", "()Z"⟩, 9), (⟨"DanceFloorsModel", "can", "()Z"⟩, 9), (⟨"DanceFloorsModel", "canSet", "()Z"⟩, 9)]
theorem lw_r2 : ∀ q ∈ lw_privs_2, lw_okq q := List.forall_mem_cons.mpr ⟨lw_p16, List.forall_mem_cons.mpr ⟨lw_p17, List.forall_mem_cons.mpr ⟨lw_p18, List.forall_mem_cons.mpr ⟨lw_p19, List.forall_mem_cons.mpr ⟨lw_p20, List.forall_mem_cons.mpr ⟨lw_p21, List.forall_mem_cons.mpr ⟨lw_p22, List.forall_mem_cons.mpr ⟨lw_p23, List.forall_mem_cons.mpr ⟨lw_p24, List.forall_mem_cons.mpr ⟨lw_p25, List.forall_mem_cons.mpr ⟨lw_p26, List.forall_mem_cons.mpr ⟨lw_p27, List.forall_mem_cons.mpr ⟨lw_p28, List.forall_mem_cons.mpr ⟨lw_p29, List.forall_mem_cons.mpr ⟨lw_p30, List.forall_mem_cons.mpr ⟨lw_p31, fun _ h => absurd h List.not_mem_nil⟩⟩⟩⟩⟩⟩⟩⟩⟩⟩⟩⟩⟩⟩⟩⟩
theorem lw_p32 : lw_okq (⟨"DanceFloorsModel", "isFloor", "(I)Z"⟩, 9) := ⟨⟨by decide +kernel, by decide +kernel⟩, List.mem_of_getElem? (i := 954) (by decide +kernel), List.mem_of_getElem? (i := 1055) (by decide +kernel), List.mem_of_getElem? (i := 1056) (by decide +kernel)⟩
theorem lw_p33 : lw_okq (⟨"DanceFloorsModel", "isTeacher", "(I)Z"⟩, 9) := ⟨⟨by decide +kernel, by decide +kernel⟩, List.mem_of_getElem? (i := 954) (by decide +kernel), List.mem_of_getElem? (i := 1059) (by decide +kernel), List.mem_of_getElem? (i := 1060) (by decide +kernel)⟩
theorem lw_p34 : lw_okq (⟨"DanceFloorsModel", "whyNo", "(IIIIII)I"⟩, 9) := ⟨⟨by decide +kernel, by decide +kernel⟩, List.mem_of_getElem? (i := 954) (by decide +kernel), List.mem_of_getElem? (i := 1063) (by decide +kernel), List.mem_of_getElem? (i := 1064) (by decide +kernel)⟩
theorem lw_p35 : lw_okq (⟨"DanceFloorsModel", "ofClass", "(II)I"⟩, 9) := ⟨⟨by decide +kernel, by decide +kernel⟩, List.mem_of_getElem? (i := 954) (by decide +kernel), List.mem_of_getElem? (i := 1067) (by decide +kernel), List.mem_of_getElem? (i := 1068) (by decide +kernel)⟩
theorem lw_p36 : lw_okq (⟨"DanceFloorsModel", "isSpring", "(III)Z"⟩, 9) := ⟨⟨by decide +kernel, by decide +kernel⟩, List.mem_of_getElem? (i := 954) (by decide +kernel), List.mem_of_getElem? (i := 1071) (by decide +kernel), List.mem_of_getElem? (i := 1072) (by decide +kernel)⟩
theorem lw_p37 : lw_okq (⟨"DanceFloorsModel", "spring", "(I)I"⟩, 9) := ⟨⟨by decide +kernel, by decide +kernel⟩, List.mem_of_getElem? (i := 954) (by decide +kernel), List.mem_of_getElem? (i := 1075) (by decide +kernel), List.mem_of_getElem? (i := 1076) (by decide +kernel)⟩
theorem lw_p38 : lw_okq (⟨"DanceFloorsModel", "barre", "(I)I"⟩, 9) := ⟨⟨by decide +kernel, by decide +kernel⟩, List.mem_of_getElem? (i := 954) (by decide +kernel), List.mem_of_getElem? (i := 1079) (by decide +kernel), List.mem_of_getElem? (i := 1080) (by decide +kernel)⟩
theorem lw_p39 : lw_okq (⟨"DanceFloorsModel", "mirrors", "(I)I"⟩, 9) := ⟨⟨by decide +kernel, by decide +kernel⟩, List.mem_of_getElem? (i := 954) (by decide +kernel), List.mem_of_getElem? (i := 1083) (by decide +kernel), List.mem_of_getElem? (i := 1084) (by decide +kernel)⟩
theorem lw_p40 : lw_okq (⟨"DanceFloorsModel", "canPass", "(I)Z"⟩, 9) := ⟨⟨by decide +kernel, by decide +kernel⟩, List.mem_of_getElem? (i := 954) (by decide +kernel), List.mem_of_getElem? (i := 1087) (by decide +kernel), List.mem_of_getElem? (i := 1088) (by decide +kernel)⟩
theorem lw_p41 : lw_okq (⟨"DanceFloorsModel", "isDancer", "(I)Z"⟩, 9) := ⟨⟨by decide +kernel, by decide +kernel⟩, List.mem_of_getElem? (i := 954) (by decide +kernel), List.mem_of_getElem? (i := 1091) (by decide +kernel), List.mem_of_getElem? (i := 1092) (by decide +kernel)⟩
theorem lw_p42 : lw_okq (⟨"DanceFloorsModel", "ofDancer", "(II)I"⟩, 9) := ⟨⟨by decide +kernel, by decide +kernel⟩, List.mem_of_getElem? (i := 954) (by decide +kernel), List.mem_of_getElem? (i := 1095) (by decide +kernel), List.mem_of_getElem? (i := 1096) (by decide +kernel)⟩
theorem lw_p43 : lw_okq (⟨"DanceFloorsModel", "areBoth", "()Z"⟩, 9) := ⟨⟨by decide +kernel, by decide +kernel⟩, List.mem_of_getElem? (i := 954) (by decide +kernel), List.mem_of_getElem? (i := 1099) (by decide +kernel), List.mem_of_getElem? (i := 1100) (by decide +kernel)⟩
theorem lw_p44 : lw_okq (⟨"DanceFloorsModel", "isClass", "(I)Z"⟩, 9) := ⟨⟨by decide +kernel, by decide +kernel⟩, List.mem_of_getElem? (i := 954) (by decide +kernel), List.mem_of_getElem? (i := 1103) (by decide +kernel), List.mem_of_getElem? (i := 1104) (by decide +kernel)⟩
theorem lw_p45 : lw_okq (⟨"DanceFloorsModel", "whyNoSeat", "(II)I"⟩, 9) := ⟨⟨by decide +kernel, by decide +kernel⟩, List.mem_of_getElem? (i := 954) (by decide +kernel), List.mem_of_getElem? (i := 1107) (by decide +kernel), List.mem_of_getElem? (i := 1108) (by decide +kernel)⟩
theorem lw_p46 : lw_okq (⟨"DanceFloorsModel", "hasSeat", "(II)Z"⟩, 9) := ⟨⟨by decide +kernel, by decide +kernel⟩, List.mem_of_getElem? (i := 954) (by decide +kernel), List.mem_of_getElem? (i := 1111) (by decide +kernel), List.mem_of_getElem? (i := 1112) (by decide +kernel)⟩
theorem lw_p47 : lw_okq (⟨"DanceFloorsModel", "classTakes", "(I)I"⟩, 9) := ⟨⟨by decide +kernel, by decide +kernel⟩, List.mem_of_getElem? (i := 954) (by decide +kernel), List.mem_of_getElem? (i := 1118) (by decide +kernel), List.mem_of_getElem? (i := 1119) (by decide +kernel)⟩
def lw_privs_3 : List (MethodName × Nat) := [(⟨"DanceFloorsModel", "isFloor", "(I)Z"⟩, 9), (⟨"DanceFloorsModel", "isTeacher", "(I)Z"⟩, 9), (⟨"DanceFloorsModel", "whyNo", "(IIIIII)I"⟩, 9), (⟨"DanceFloorsModel", "ofClass", "(II)I"⟩, 9), (⟨"DanceFloorsModel", "isSpring", "(III)Z"⟩, 9), (⟨"DanceFloorsModel", "spring", "(I)I"⟩, 9), (⟨"DanceFloorsModel", "barre", "(I)I"⟩, 9), (⟨"DanceFloorsModel", "mirrors", "(I)I"⟩, 9), (⟨"DanceFloorsModel", "canPass", "(I)Z"⟩, 9), (⟨"DanceFloorsModel", "isDancer", "(I)Z"⟩, 9), (⟨"DanceFloorsModel", "ofDancer", "(II)I"⟩, 9), (⟨"DanceFloorsModel", "areBoth", "()Z"⟩, 9), (⟨"DanceFloorsModel", "isClass", "(I)Z"⟩, 9), (⟨"DanceFloorsModel", "whyNoSeat", "(II)I"⟩, 9), (⟨"DanceFloorsModel", "hasSeat", "(II)Z"⟩, 9), (⟨"DanceFloorsModel", "classTakes", "(I)I"⟩, 9)]
theorem lw_r3 : ∀ q ∈ lw_privs_3, lw_okq q := List.forall_mem_cons.mpr ⟨lw_p32, List.forall_mem_cons.mpr ⟨lw_p33, List.forall_mem_cons.mpr ⟨lw_p34, List.forall_mem_cons.mpr ⟨lw_p35, List.forall_mem_cons.mpr ⟨lw_p36, List.forall_mem_cons.mpr ⟨lw_p37, List.forall_mem_cons.mpr ⟨lw_p38, List.forall_mem_cons.mpr ⟨lw_p39, List.forall_mem_cons.mpr ⟨lw_p40, List.forall_mem_cons.mpr ⟨lw_p41, List.forall_mem_cons.mpr ⟨lw_p42, List.forall_mem_cons.mpr ⟨lw_p43, List.forall_mem_cons.mpr ⟨lw_p44, List.forall_mem_cons.mpr ⟨lw_p45, List.forall_mem_cons.mpr ⟨lw_p46, List.forall_mem_cons.mpr ⟨lw_p47, fun _ h => absurd h List.not_mem_nil⟩⟩⟩⟩⟩⟩⟩⟩⟩⟩⟩⟩⟩⟩⟩⟩
theorem lw_p48 : lw_okq (⟨"DanceFloorsModel", "takes", "(II)I"⟩, 9) := ⟨⟨by decide +kernel, by decide +kernel⟩, List.mem_of_getElem? (i := 954) (by decide +kernel), List.mem_of_getElem? (i := 1122) (by decide +kernel), List.mem_of_getElem? (i := 1123) (by decide +kernel)⟩
theorem lw_p49 : lw_okq (⟨"DanceFloorsModel", "does", "()V"⟩, 9) := ⟨⟨by decide +kernel, by decide +kernel⟩, List.mem_of_getElem? (i := 954) (by decide +kernel), List.mem_of_getElem? (i := 1126) (by decide +kernel), List.mem_of_getElem? (i := 1127) (by decide +kernel)⟩
theorem lw_p50 : lw_okq (⟨"DanceFloorsModel", "floors", "(IIII)I"⟩, 9) := ⟨⟨by decide +kernel, by decide +kernel⟩, List.mem_of_getElem? (i := 954) (by decide +kernel), List.mem_of_getElem? (i := 1130) (by decide +kernel), List.mem_of_getElem? (i := 1131) (by decide +kernel)⟩
theorem lw_p51 : lw_okq (⟨"DanceFloorsModel", "teachers", "(II)I"⟩, 9) := ⟨⟨by decide +kernel, by decide +kernel⟩, List.mem_of_getElem? (i := 954) (by decide +kernel), List.mem_of_getElem? (i := 1134) (by decide +kernel), List.mem_of_getElem? (i := 1135) (by decide +kernel)⟩
theorem lw_p52 : lw_okq (⟨"DanceFloorsModel", "sets", "(IIIIII)V"⟩, 9) := ⟨⟨by decide +kernel, by decide +kernel⟩, List.mem_of_getElem? (i := 954) (by decide +kernel), List.mem_of_getElem? (i := 1138) (by decide +kernel), List.mem_of_getElem? (i := 1139) (by decide +kernel)⟩
theorem lw_p53 : lw_okq (⟨"DanceFloorsModel", "dancers", "()I"⟩, 9) := ⟨⟨by decide +kernel, by decide +kernel⟩, List.mem_of_getElem? (i := 954) (by decide +kernel), List.mem_of_getElem? (i := 1142) (by decide +kernel), List.mem_of_getElem? (i := 1143) (by decide +kernel)⟩
theorem lw_p54 : lw_okq (⟨"DanceFloorsModel", "passes", "(I)I"⟩, 9) := ⟨⟨by decide +kernel, by decide +kernel⟩, List.mem_of_getElem? (i := 954) (by decide +kernel), List.mem_of_getElem? (i := 1146) (by decide +kernel), List.mem_of_getElem? (i := 1147) (by decide +kernel)⟩
theorem lw_p55 : lw_okq (⟨"DanceFloorsModel", "adds", "(II)V"⟩, 9) := ⟨⟨by decide +kernel, by decide +kernel⟩, List.mem_of_getElem? (i := 954) (by decide +kernel), List.mem_of_getElem? (i := 1150) (by decide +kernel), List.mem_of_getElem? (i := 1151) (by decide +kernel)⟩
theorem lw_p56 : lw_okq (⟨"DanceFloorsModel", "enters", "(II)V"⟩, 9) := ⟨⟨by decide +kernel, by decide +kernel⟩, List.mem_of_getElem? (i := 954) (by decide +kernel), List.mem_of_getElem? (i := 1154) (by decide +kernel), List.mem_of_getElem? (i := 1155) (by decide +kernel)⟩
theorem lw_p57 : lw_okq (⟨"DanceFloorsModel", "leaves", "(II)I"⟩, 9) := ⟨⟨by decide +kernel, by decide +kernel⟩, List.mem_of_getElem? (i := 954) (by decide +kernel), List.mem_of_getElem? (i := 1158) (by decide +kernel), List.mem_of_getElem? (i := 1159) (by decide +kernel)⟩
theorem lw_p58 : lw_okq (⟨"DanceFloorsModel", "drops", "(I)I"⟩, 9) := ⟨⟨by decide +kernel, by decide +kernel⟩, List.mem_of_getElem? (i := 954) (by decide +kernel), List.mem_of_getElem? (i := 1162) (by decide +kernel), List.mem_of_getElem? (i := 1163) (by decide +kernel)⟩
theorem lw_p59 : lw_okq (⟨"DanceFloorsModel", "weeksGo", "(I)I"⟩, 9) := ⟨⟨by decide +kernel, by decide +kernel⟩, List.mem_of_getElem? (i := 954) (by decide +kernel), List.mem_of_getElem? (i := 1166) (by decide +kernel), List.mem_of_getElem? (i := 1167) (by decide +kernel)⟩
theorem lw_p60 : lw_okq (⟨"DanceFloorsModel", "week", "()I"⟩, 9) := ⟨⟨by decide +kernel, by decide +kernel⟩, List.mem_of_getElem? (i := 954) (by decide +kernel), List.mem_of_getElem? (i := 1170) (by decide +kernel), List.mem_of_getElem? (i := 1171) (by decide +kernel)⟩
theorem lw_p61 : lw_okq (⟨"DanceFloorsModel", "coming", "(I)I"⟩, 9) := ⟨⟨by decide +kernel, by decide +kernel⟩, List.mem_of_getElem? (i := 954) (by decide +kernel), List.mem_of_getElem? (i := 1174) (by decide +kernel), List.mem_of_getElem? (i := 1175) (by decide +kernel)⟩
theorem lw_p62 : lw_okq (⟨"DanceFloorsModel", "dances", "(II)V"⟩, 9) := ⟨⟨by decide +kernel, by decide +kernel⟩, List.mem_of_getElem? (i := 954) (by decide +kernel), List.mem_of_getElem? (i := 1178) (by decide +kernel), List.mem_of_getElem? (i := 1179) (by decide +kernel)⟩
theorem lw_p63 : lw_okq (⟨"DanceFloorsModel", "tells", "(I)I"⟩, 9) := ⟨⟨by decide +kernel, by decide +kernel⟩, List.mem_of_getElem? (i := 954) (by decide +kernel), List.mem_of_getElem? (i := 1186) (by decide +kernel), List.mem_of_getElem? (i := 1187) (by decide +kernel)⟩
def lw_privs_4 : List (MethodName × Nat) := [(⟨"DanceFloorsModel", "takes", "(II)I"⟩, 9), (⟨"DanceFloorsModel", "does", "()V"⟩, 9), (⟨"DanceFloorsModel", "floors", "(IIII)I"⟩, 9), (⟨"DanceFloorsModel", "teachers", "(II)I"⟩, 9), (⟨"DanceFloorsModel", "sets", "(IIIIII)V"⟩, 9), (⟨"DanceFloorsModel", "dancers", "()I"⟩, 9), (⟨"DanceFloorsModel", "passes", "(I)I"⟩, 9), (⟨"DanceFloorsModel", "adds", "(II)V"⟩, 9), (⟨"DanceFloorsModel", "enters", "(II)V"⟩, 9), (⟨"DanceFloorsModel", "leaves", "(II)I"⟩, 9), (⟨"DanceFloorsModel", "drops", "(I)I"⟩, 9), (⟨"DanceFloorsModel", "weeksGo", "(I)I"⟩, 9), (⟨"DanceFloorsModel", "week", "()I"⟩, 9), (⟨"DanceFloorsModel", "coming", "(I)I"⟩, 9), (⟨"DanceFloorsModel", "dances", "(II)V"⟩, 9), (⟨"DanceFloorsModel", "tells", "(I)I"⟩, 9)]
theorem lw_r4 : ∀ q ∈ lw_privs_4, lw_okq q := List.forall_mem_cons.mpr ⟨lw_p48, List.forall_mem_cons.mpr ⟨lw_p49, List.forall_mem_cons.mpr ⟨lw_p50, List.forall_mem_cons.mpr ⟨lw_p51, List.forall_mem_cons.mpr ⟨lw_p52, List.forall_mem_cons.mpr ⟨lw_p53, List.forall_mem_cons.mpr ⟨lw_p54, List.forall_mem_cons.mpr ⟨lw_p55, List.forall_mem_cons.mpr ⟨lw_p56, List.forall_mem_cons.mpr ⟨lw_p57, List.forall_mem_cons.mpr ⟨lw_p58, List.forall_mem_cons.mpr ⟨lw_p59, List.forall_mem_cons.mpr ⟨lw_p60, List.forall_mem_cons.mpr ⟨lw_p61, List.forall_mem_cons.mpr ⟨lw_p62, List.forall_mem_cons.mpr ⟨lw_p63, fun _ h => absurd h List.not_mem_nil⟩⟩⟩⟩⟩⟩⟩⟩⟩⟩⟩⟩⟩⟩⟩⟩
theorem lw_p64 : lw_okq (⟨"DanceFloorsModel", "seats", "()I"⟩, 9) := ⟨⟨by decide +kernel, by decide +kernel⟩, List.mem_of_getElem? (i := 954) (by decide +kernel), List.mem_of_getElem? (i := 1190) (by decide +kernel), List.mem_of_getElem? (i := 1191) (by decide +kernel)⟩
theorem lw_p65 : lw_okq (⟨"DanceFloorsModel", "left", "()I"⟩, 9) := ⟨⟨by decide +kernel, by decide +kernel⟩, List.mem_of_getElem? (i := 954) (by decide +kernel), List.mem_of_getElem? (i := 1194) (by decide +kernel), List.mem_of_getElem? (i := 1195) (by decide +kernel)⟩
theorem lw_p66 : lw_okq (⟨"DanceFloorsModel", "classes", "(II)I"⟩, 9) := ⟨⟨by decide +kernel, by decide +kernel⟩, List.mem_of_getElem? (i := 954) (by decide +kernel), List.mem_of_getElem? (i := 1202) (by decide +kernel), List.mem_of_getElem? (i := 1203) (by decide +kernel)⟩
theorem lw_p67 : lw_okq (⟨"DanceFloorsModel", "daysOf", "(I)I"⟩, 9) := ⟨⟨by decide +kernel, by decide +kernel⟩, List.mem_of_getElem? (i := 954) (by decide +kernel), List.mem_of_getElem? (i := 1210) (by decide +kernel), List.mem_of_getElem? (i := 1211) (by decide +kernel)⟩
theorem lw_p68 : lw_okq (⟨"DanceFloorsModel", "seatsOf", "(I)I"⟩, 9) := ⟨⟨by decide +kernel, by decide +kernel⟩, List.mem_of_getElem? (i := 954) (by decide +kernel), List.mem_of_getElem? (i := 1222) (by decide +kernel), List.mem_of_getElem? (i := 1223) (by decide +kernel)⟩
theorem lw_p69 : lw_okq (⟨"DanceFloorsModel", "remember", "()V"⟩, 9) := ⟨⟨by decide +kernel, by decide +kernel⟩, List.mem_of_getElem? (i := 954) (by decide +kernel), List.mem_of_getElem? (i := 1241) (by decide +kernel), List.mem_of_getElem? (i := 1242) (by decide +kernel)⟩
theorem lw_p70 : lw_okq (⟨"DanceFloorsModel", "copies", "(II)V"⟩, 9) := ⟨⟨by decide +kernel, by decide +kernel⟩, List.mem_of_getElem? (i := 954) (by decide +kernel), List.mem_of_getElem? (i := 1245) (by decide +kernel), List.mem_of_getElem? (i := 1246) (by decide +kernel)⟩
theorem lw_p71 : lw_okq (⟨"DanceFloorsModel", "triesClass", "(IIIIII)I"⟩, 9) := ⟨⟨by decide +kernel, by decide +kernel⟩, List.mem_of_getElem? (i := 954) (by decide +kernel), List.mem_of_getElem? (i := 1260) (by decide +kernel), List.mem_of_getElem? (i := 1261) (by decide +kernel)⟩
theorem lw_p72 : lw_okq (⟨"DanceFloorsModel", "triesSeat", "(II)I"⟩, 9) := ⟨⟨by decide +kernel, by decide +kernel⟩, List.mem_of_getElem? (i := 954) (by decide +kernel), List.mem_of_getElem? (i := 1280) (by decide +kernel), List.mem_of_getElem? (i := 1281) (by decide +kernel)⟩
theorem lw_p73 : lw_okq (⟨"DanceFloorsModel", "isCommand", "(I)Z"⟩, 9) := ⟨⟨by decide +kernel, by decide +kernel⟩, List.mem_of_getElem? (i := 954) (by decide +kernel), List.mem_of_getElem? (i := 1330) (by decide +kernel), List.mem_of_getElem? (i := 1331) (by decide +kernel)⟩
theorem lw_p74 : lw_okq (⟨"DanceFloorsModel", "turns", "(II)V"⟩, 9) := ⟨⟨by decide +kernel, by decide +kernel⟩, List.mem_of_getElem? (i := 954) (by decide +kernel), List.mem_of_getElem? (i := 1340) (by decide +kernel), List.mem_of_getElem? (i := 1341) (by decide +kernel)⟩
theorem lw_p75 : lw_okq (⟨"DanceFloorsModel", "dancersTurn", "(II)V"⟩, 9) := ⟨⟨by decide +kernel, by decide +kernel⟩, List.mem_of_getElem? (i := 954) (by decide +kernel), List.mem_of_getElem? (i := 1344) (by decide +kernel), List.mem_of_getElem? (i := 1345) (by decide +kernel)⟩
def lw_privs_5 : List (MethodName × Nat) := [(⟨"DanceFloorsModel", "seats", "()I"⟩, 9), (⟨"DanceFloorsModel", "left", "()I"⟩, 9), (⟨"DanceFloorsModel", "classes", "(II)I"⟩, 9), (⟨"DanceFloorsModel", "daysOf", "(I)I"⟩, 9), (⟨"DanceFloorsModel", "seatsOf", "(I)I"⟩, 9), (⟨"DanceFloorsModel", "remember", "()V"⟩, 9), (⟨"DanceFloorsModel", "copies", "(II)V"⟩, 9), (⟨"DanceFloorsModel", "triesClass", "(IIIIII)I"⟩, 9), (⟨"DanceFloorsModel", "triesSeat", "(II)I"⟩, 9), (⟨"DanceFloorsModel", "isCommand", "(I)Z"⟩, 9), (⟨"DanceFloorsModel", "turns", "(II)V"⟩, 9), (⟨"DanceFloorsModel", "dancersTurn", "(II)V"⟩, 9)]
theorem lw_r5 : ∀ q ∈ lw_privs_5, lw_okq q := List.forall_mem_cons.mpr ⟨lw_p64, List.forall_mem_cons.mpr ⟨lw_p65, List.forall_mem_cons.mpr ⟨lw_p66, List.forall_mem_cons.mpr ⟨lw_p67, List.forall_mem_cons.mpr ⟨lw_p68, List.forall_mem_cons.mpr ⟨lw_p69, List.forall_mem_cons.mpr ⟨lw_p70, List.forall_mem_cons.mpr ⟨lw_p71, List.forall_mem_cons.mpr ⟨lw_p72, List.forall_mem_cons.mpr ⟨lw_p73, List.forall_mem_cons.mpr ⟨lw_p74, List.forall_mem_cons.mpr ⟨lw_p75, fun _ h => absurd h List.not_mem_nil⟩⟩⟩⟩⟩⟩⟩⟩⟩⟩⟩⟩
def lw_privs : List (MethodName × Nat) := lw_privs_1 ++ (lw_privs_2 ++ (lw_privs_3 ++ (lw_privs_4 ++ (lw_privs_5))))
def lw_tbl : List Cond := k2_sels lw_privs ++ tables_1
theorem lw_privs_ok : ∀ q ∈ lw_privs, lw_okq q := by
  show ∀ q ∈ lw_privs_1 ++ (lw_privs_2 ++ (lw_privs_3 ++ (lw_privs_4 ++ (lw_privs_5)))), lw_okq q
  exact List.forall_mem_append.mpr ⟨lw_r1, List.forall_mem_append.mpr ⟨lw_r2, List.forall_mem_append.mpr ⟨lw_r3, List.forall_mem_append.mpr ⟨lw_r4, lw_r5⟩⟩⟩⟩

/-! ===== BEGIN words of one list among another's, by their places ===== -/
theorem goodIn_r {big : List Cond} (ws : List Cond) (ps : List Nat) (hp : ws = ps.filterMap (fun i => big[i]?)) (h : ws.all goodWord = true) : GoodIn big ws := by
  intro w hw
  have h1 := List.all_eq_true.mp h w hw
  rw [hp] at hw
  obtain ⟨i, -, hi⟩ := List.mem_filterMap.mp hw
  have hm : w ∈ big := by first | exact List.mem_of_getElem? hi | exact List.getElem?_mem hi
  exact ⟨hm, good_of_word h1⟩
theorem goodIn_app {big a b : List Cond} (ha : GoodIn big a) (hb : GoodIn big b) : GoodIn big (a ++ b) := fun w h => (List.mem_append.mp h).elim (ha w) (hb w)
theorem goodIn_ca {big a b : List Cond} {c : Cond} (ha : GoodIn big (c :: a)) (hb : GoodIn big b) : GoodIn big (c :: (a ++ b)) := fun w h => (List.mem_cons.mp h).elim (fun e => ha w (List.mem_cons.mpr (Or.inl e))) (fun h => (List.mem_append.mp h).elim (fun h => ha w (List.mem_cons.mpr (Or.inr h))) (hb w))
theorem goodIn_sub {big ws : List Cond} (hm : ∀ w ∈ ws, w ∈ big) (h : ws.all goodWord = true) : GoodIn big ws := fun w hw => ⟨hm w hw, good_of_word (List.all_eq_true.mp h w hw)⟩
/-! ===== END ===== -/

/-! ===== BEGIN exceptions that leave a method, and their catching by the caller (launches without stack traces) ===== -/
section VXA
/-! The laws vx_back, vx_callV, vx_callS, vx_callSW, vx_throw0, vx_throwS follow proofs of the library, with one case more: JvmDerived/Free/Laws.lean (Back.of_free), Shelf42/LK1.lean (callV, callS), Shelf/KitTraced.lean (throwNew0V, throwNewS). -/
/-- where a method has thrown q: the class by its name, the cell, what was written, the world -/
def vx_T (XC : String → State → State → Prop) (st : State) (q : Addr) (t : State) (mc ms : Nat) (free : Addr → Prop) : Prop :=
  ∃ (E : String) (ce : Cell) (L : List Loc), XC E st t ∧ t.heap[q]? = some ce ∧ ce.vm = .none ∧ st.vm.findClass E = some ce.cls ∧ st.WarmedH t.vm ∧ st.sameButNew ({ t with vm := st.vm } : State) L mc ms ∧ ∀ z ∈ L, free z.base
def vx_Q (Qc : Array Value → State → Outcome → State → Prop) (XC : String → State → State → Prop) (mc ms : Nat) (free : Addr → Prop) : Array Value → State → Outcome → State → Prop := fun a st o t =>
  (Qc a st o t ∧ ∃ L, FrameEnd st o t L mc ms ∧ ∀ q ∈ L, free q.base) ∨ ∃ q, o = .threw q ∧ vx_T XC st q t mc ms free
/-- a callee that returns or throws -/
def vx_Met (l : Launch) (y : MethodName) (ws : List Cond) (rm : Room) (Pc : Array Value → State → Prop) (Qc : Array Value → State → Outcome → State → Prop) (XC : String → State → State → Prop) (mc ms : Nat) (free : Addr → Prop) : Prop :=
  MetFree l y (headSpec ws rm) Pc (fun _ _ _ _ _ => True) (vx_Q Qc XC mc ms free)
def vx_Post (XC : String → State → State → Prop) (mc ms : Nat) (free : Addr → Prop) : Pt → Array Value → Addr → Pt → Prop := fun A a q B =>
  ∃ (g : JFrame) (mk : MethodId) (t : State) (L : List Loc) (E : String) (ce : Cell), B.U.heap = t.heap ∧ B.U.vm = t.vm ∧ XC E (A.U.calling g mk a) t ∧ t.heap[q]? = some ce ∧ ce.vm = .none ∧ A.U.vm.findClass E = some ce.cls ∧ B.locs = A.locs ++ L ∧ (∀ z ∈ L, free z.base) ∧ B.cells = A.cells + mc ∧ B.slots = A.slots + ms
def vx_Back (l : Launch) (R : Room) (p : Program) (e : Env) (below : List Frame) (s : State) (sargs : Array Value) (y : MethodName) (len W9 : Nat)
    (Pre : Pt → Array Value → Prop) (Post : Pt → Array Value → Option Value → Pt → Prop) (PostX : Pt → Array Value → Addr → Pt → Prop) : Prop :=
  ∀ (m : MethodId) (meth : Method) (c : Code) (A : Pt) (g : JFrame) (ig : Instr) (mk : MethodId) (a : Array Value),
    Stand p l e R s m sargs below meth c A.U A.locs A.cells A.slots → g.method = m → g.locals.size = c.maxLocals → decode c.code g.pc = .ok (ig, len) →
    2 * g.monitorRoom + (g.stack.map fun v => v.category).sum ≤ W9 → A.U.methodNamed? y = some mk → Pre A a →
    (∃ (v : Option Value) (B : Pt), Stand p l e R s m sargs below meth c B.U B.locs B.cells B.slots ∧ Post A a v B ∧
      Steps p.tables e below (doInvoke e (A.U.setTop g) [] mk a).1 (B.U.setTop { g with pc := g.pc + len, stack := v.toList ++ g.stack })) ∨
    (∃ (q : Addr) (B : Pt), Stand p l e R s m sargs below meth c B.U B.locs B.cells B.slots ∧ PostX A a q B ∧
      Steps p.tables e below (doInvoke e (A.U.setTop g) [] mk a).1 ((B.U.setTop g).pushFrame (.throwing q)))
section Payer
variable {l : Launch} {R : Room} {p : Program} {e : Env} {below : List Frame} {s : State} {sargs : Array Value} {y : MethodName} {len W9 : Nat}
theorem vx_back {ws : List Cond} {rm : Room} {Pc : Array Value → State → Prop} {Qc : Array Value → State → Outcome → State → Prop} {XC : String → State → State → Prop} {mc ms : Nat} {free : Addr → Prop} {bytes : ByteArray} {maxL : Nat} {ret : Option FieldType}
    (hM : vx_Met l y ws rm Pc Qc XC mc ms free) (hblind : FrameBlind Pc) (hrc : rm.cells = mc) (hrs : rm.slots = ms)
    (hframes : rm.frames + 1 ≤ R.frames) (hlocals : W9 + (maxL + 11) + rm.locals ≤ R.locals)
    (hws : ∀ w ∈ ws, ∀ a' U, s.WarmedH U.vm → w.before a' U = true) (hcode : Cond.code y bytes maxL ret ∈ ws) (hinit : ∀ a' U, s.WarmedH U.vm → (Cond.initialized y.cls).before a' U = true) :
    vx_Back l R p e below s sargs y len W9 (PreOf R mc ms Pc) (PostOf Qc mc ms free) (vx_Post XC mc ms free) := by
  intro m meth c A g ig mk a X hg hsize hdg hW hn hp
  have h1 : (headSpec ws rm).pre.before a A.U = true := atoms_intro fun w hw => hws w hw _ _ X.warmed
  have h2 : (Cond.code y bytes maxL ret).before a A.U = true := hws _ hcode _ _ X.warmed
  have h3 : (Cond.initialized y.cls).before a A.U = true := hinit _ _ X.warmed
  have h4 : A.cells + (headSpec ws rm).room.cells ≤ R.cells := by rw [show (headSpec ws rm).room.cells = mc from hrc]; exact hp.1
  have h5 : A.slots + (headSpec ws rm).room.slots ≤ R.slots := by rw [show (headSpec ws rm).room.slots = ms from hrs]; exact hp.2.1
  have hPc : Pc a (A.U.calling g mk a) := hblind _ _ _ _ hp.2.2
  obtain ⟨U, Ls, c0, s0⟩ := A
  dsimp only [Pt.U, Pt.locs, Pt.cells, Pt.slots] at h1 h2 h3 h4 h5 X hn hPc ⊢
  obtain ⟨methY, cY, hmY, hcY, -, hlY, -, -, -, -⟩ := Cond.code_spec hn h2
  obtain ⟨kY, hkY, -⟩ := className_of_methodNamed hn
  have hinitY : kY.init = .initialized := Cond.initialized_spec (findClass_of_methodNamed hn) hkY h3
  have h : At U g.method c below := by rw [hg]; exact X.here
  have hlocals9 : W9 + (maxL + 11) + (headSpec ws rm).room.locals ≤ R.locals := hlocals
  have happ : (headSpec ws rm).appliesLoose y e.platform (U.calling g mk a) = true :=
    Spec.appliesLoose_calling (g := g) h hdg hn hkY hinitY
      (X.room_calling (g := g) (R' := (headSpec ws rm).room) hsize hmY hcY hframes (by rw [hlY]; omega) h4 h5) h1
  obtain ⟨mid, hmid⟩ := h.above
  have hfr : (U.setTop g).frames = (.java g :: mid) ++ below := by rw [State.frames_setTop' g h.top, hmid]; rfl
  obtain ⟨o, s₂, hsteps, -, hend, hq⟩ := Steps.callFree hM p X.admits X.cas X.clock (acts := []) hfr happ hPc trivial
  have hq' : vx_Q Qc XC mc ms free a (U.calling g mk a) o s₂ := hq
  rw [State.frames_setTop' g h.top] at hend
  obtain ⟨g₀, hg0⟩ := Option.isSome_iff_exists.mp h.top
  obtain ⟨r, hr⟩ := State.topJava?_eq_some.mp hg0
  have hr' : (({ U with heap := s₂.heap, slotsUsed := s₂.slotsUsed } : State).setVm s₂.vm).frames = .java g₀ :: r := hr
  rcases hq' with ⟨hqc, L, hfe, hL⟩ | ⟨q, rfl, E, ce, L, hx, hce, hcv, hcl, hW₂, hsm, hL⟩
  · obtain ⟨⟨v, rfl⟩, hW₂, e2, q2, q3, q4, q5, q6⟩ := id hfe
    have e3 : s₂ = ({ (U.calling g mk a).setFrames s₂.frames with heap := s₂.heap, slotsUsed := s₂.slotsUsed } : State).setVm s₂.vm := by
      have : s₂ = ({ s₂ with vm := (U.calling g mk a).vm } : State).setVm s₂.vm := rfl
      rw [e2] at this
      exact this
    obtain ⟨c₂, i₂, len₂, hc₂, hd₂, hf₂⟩ := hend
    have hW' : U.WarmedH s₂.vm := hW₂
    have hcc : c₂ = c := by
      have h1 : s₂.code? g.method = U.code? g.method := by
        rw [State.code?_eq, State.code?_eq, hW'.alike.method?]
      exact Option.some.inj (hc₂.symm.trans (h1.trans h.code))
    subst hcc
    have hlen : len₂ = len := by rw [hdg] at hd₂; cases hd₂; rfl
    subst hlen
    have hs₂ : s₂ = (({ U with heap := s₂.heap, slotsUsed := s₂.slotsUsed } : State).setVm s₂.vm).setTop { g with pc := g.pc + len₂, stack := v.toList ++ g.stack } := by
      refine e3.trans ?_
      rw [hf₂, State.calling_eq h.top, State.setFrames_setFrames, State.setTop_of_frames _ hr', hr]
      rfl
    have hsame : U.sameButNew ({ U with heap := s₂.heap, slotsUsed := s₂.slotsUsed } : State) L mc ms := by
      refine ⟨?_, q2, q3, q4, q5, q6⟩
      obtain ⟨t, ht, -⟩ := State.frames_cons hr
      show ({ U with heap := s₂.heap, slotsUsed := s₂.slotsUsed } : State) = { U.setFrames U.frames with heap := s₂.heap, slotsUsed := s₂.slotsUsed }
      rw [State.setFrames_self ht]
    subst hg
    refine Or.inl ⟨v, ⟨(({ U with heap := s₂.heap, slotsUsed := s₂.slotsUsed } : State).setVm s₂.vm), Ls ++ L, c0 + mc, s0 + ms⟩,
      ⟨X.admits, X.cas, X.clock, X.frames, X.room, X.hears, X.method, X.code, (X.here.setHeapUsed s₂.heap s₂.slotsUsed).setVm hW'.alike, X.tail, State.WarmedH.trans X.warmed hW', X.limits, X.bytes, X.same.trans (hsame.setVm s.vm)⟩,
      ⟨g, mk, s₂, L, rfl, rfl, hqc, rfl, hL, rfl, rfl⟩, ?_⟩
    show Steps p.tables e below _ ((({ U with heap := s₂.heap, slotsUsed := s₂.slotsUsed } : State).setVm s₂.vm).setTop { g with pc := g.pc + len₂, stack := v.toList ++ g.stack })
    rw [← hs₂]
    exact hsteps
  · obtain ⟨e2, q2, q3, q4, q5, q6⟩ := id hsm
    have e3 : s₂ = ({ (U.calling g mk a).setFrames s₂.frames with heap := s₂.heap, slotsUsed := s₂.slotsUsed } : State).setVm s₂.vm := by
      have : s₂ = ({ s₂ with vm := (U.calling g mk a).vm } : State).setVm s₂.vm := rfl
      rw [e2] at this
      exact this
    have hf₂ : s₂.frames = .throwing q :: .java g :: U.frames.tail := hend
    have hW' : U.WarmedH s₂.vm := hW₂
    have hs₂ : s₂ = ((({ U with heap := s₂.heap, slotsUsed := s₂.slotsUsed } : State).setVm s₂.vm).setTop g).pushFrame (.throwing q) := by
      refine e3.trans ?_
      rw [hf₂, State.calling_eq h.top, State.setFrames_setFrames, State.pushFrame, State.frames_setTop _ hr', State.setTop_of_frames _ hr', State.setFrames_setFrames, hr]
      rfl
    have hsame : U.sameButNew ({ U with heap := s₂.heap, slotsUsed := s₂.slotsUsed } : State) L mc ms := by
      refine ⟨?_, q2, q3, q4, q5, q6⟩
      obtain ⟨t, ht, -⟩ := State.frames_cons hr
      show ({ U with heap := s₂.heap, slotsUsed := s₂.slotsUsed } : State) = { U.setFrames U.frames with heap := s₂.heap, slotsUsed := s₂.slotsUsed }
      rw [State.setFrames_self ht]
    subst hg
    refine Or.inr ⟨q, ⟨(({ U with heap := s₂.heap, slotsUsed := s₂.slotsUsed } : State).setVm s₂.vm), Ls ++ L, c0 + mc, s0 + ms⟩,
      ⟨X.admits, X.cas, X.clock, X.frames, X.room, X.hears, X.method, X.code, (X.here.setHeapUsed s₂.heap s₂.slotsUsed).setVm hW'.alike, X.tail, State.WarmedH.trans X.warmed hW', X.limits, X.bytes, X.same.trans (hsame.setVm s.vm)⟩,
      ⟨g, mk, s₂, L, E, ce, rfl, rfl, hx, hce, hcv, hcl, rfl, hL, rfl, rfl⟩, ?_⟩
    show Steps p.tables e below _ (((({ U with heap := s₂.heap, slotsUsed := s₂.slotsUsed } : State).setVm s₂.vm).setTop g).pushFrame (.throwing q))
    rw [← hs₂]
    exact hsteps
end Payer
section Calls
variable {p : Program} {l : Launch} {e : Env} {R : Room} {s : State} {m : MethodId} {args : Array Value} {below : List Frame} {meth : Method} {c : Code} {T : State} {locs : List Loc} {cells slots : Nat}
theorem vx_callV (X : Stand p l e R s m args below meth c T locs cells slots) (hexec : p.tables.exec = Jvm.exec) {own C : String} {index : Nat} {y : MethodName} {bytes : ByteArray} {maxL : Nat} {ret : Option FieldType}
    (hown : s.vm.findClass own = some m.cls) (hlink : (Cond.methodLink own index y).before args s = true) (hinst : (Cond.instanceMethod y).before args s = true) (hsel : (Cond.selects C y y).before args s = true)
    (hcode : (Cond.code y bytes maxL ret).before args s = true) (hy : y.cls ≠ "java/lang/invoke/MethodHandle" ∧ y.cls ≠ "java/lang/invoke/VarHandle")
    {W9 : Nat} {Pre : Pt → Array Value → Prop} {Post : Pt → Array Value → Option Value → Pt → Prop} {PostX : Pt → Array Value → Addr → Pt → Prop} (hK : vx_Back l R p e below s args y 3 W9 Pre Post PostX)
    {b : Addr} {cellB : Cell} (hcell : T.heap[b]? = some cellB) (hobj : cellB.vm.isStatics = false) (hcls : s.vm.findClass C = some cellB.cls)
    {g : JFrame} (hg : g.method = m) (hsize : g.locals.size = c.maxLocals) {argsL rest : List Value} (hlen : ∀ sig, parseMethodDescriptor y.desc = some sig → argsL.length = sig.parameters.length)
    (hstack : g.stack = argsL.reverse ++ .ref b :: rest) (hW : 2 * g.monitorRoom + (rest.map fun v => v.category).sum ≤ W9) (hdg : decode c.code g.pc = .ok (.invokevirtual index, 3))
    (hpre : ∀ vm₁, s.WarmedH vm₁ → Pre ⟨T.setVm vm₁, locs, cells, slots⟩ (Value.ref b :: argsL).toArray) :
    (∃ (v : Option Value) (vm₁ : Vm) (B : Pt), s.WarmedH vm₁ ∧ Stand p l e R s m args below meth c B.U B.locs B.cells B.slots ∧ Post ⟨T.setVm vm₁, locs, cells, slots⟩ (Value.ref b :: argsL).toArray v B ∧
      ∀ target, Steps p.tables e below (B.U.setTop { g with pc := g.pc + 3, stack := v.toList ++ rest }) target → Steps p.tables e below (T.setTop g) target) ∨
    (∃ (q : Addr) (vm₁ : Vm) (B : Pt), s.WarmedH vm₁ ∧ Stand p l e R s m args below meth c B.U B.locs B.cells B.slots ∧ PostX ⟨T.setVm vm₁, locs, cells, slots⟩ (Value.ref b :: argsL).toArray q B ∧
      Steps p.tables e below (T.setTop g) ((B.U.setTop { g with stack := rest }).pushFrame (.throwing q))) := by
  obtain ⟨mk, methM, hnamed, hmethM, hstM, habM⟩ := Cond.instanceMethod_spec hinst
  obtain ⟨methM', cM, hmethM', -, -, -, -, -, -, hsigM⟩ := Cond.code_spec hnamed hcode
  cases hmethM.symm.trans hmethM'
  obtain ⟨c2, r2, m2, q1, q2, q3, q4, kP, hkP, hkPi⟩ := Cond.selects_spec hsel
  cases hcls.symm.trans q1
  cases (State.methodFound?_of_named hnamed hy).symm.trans q2
  cases hnamed.symm.trans q3
  have hselP : selectMethod e.platform s.vm cellB.cls mk = .method mk := by rw [Launch.admits_selectMethod X.admits]; exact q4
  obtain ⟨vm₁, X₁, hstep₁⟩ := X.invokevirtual hexec hown hlink hnamed hmethM hstM hkP hkPi hy (a := b) (cell := cellB) hcell
    (fun z h => by rw [h] at hobj; cases hobj) hselP hmethM habM hkP hkPi (g := g) hg (argsL := argsL) (rest := rest) (hlen _ hsigM) hstack hdg
  rcases hK m meth c ⟨T.setVm vm₁, locs, cells, slots⟩ { g with stack := rest } (.invokevirtual index) mk (Value.ref b :: argsL).toArray X₁ hg hsize hdg hW (X₁.named hnamed) (hpre vm₁ X₁.warmed) with ⟨v, B, X', hpost, hsteps⟩ | ⟨q, B, X', hpost, hsteps⟩
  · exact Or.inl ⟨v, vm₁, B, X₁.warmed, X', hpost, fun target h => hstep₁ _ fun acts => by rw [doInvoke_state]; exact hsteps.trans h⟩
  · exact Or.inr ⟨q, vm₁, B, X₁.warmed, X', hpost, hstep₁ _ fun acts => by rw [doInvoke_state]; exact hsteps⟩
theorem vx_callS (X : Stand p l e R s m args below meth c T locs cells slots) (hexec : p.tables.exec = Jvm.exec) {own : String} {index : Nat} {y : MethodName} {bytes : ByteArray} {maxL : Nat} {ret : Option FieldType}
    (hown : s.vm.findClass own = some m.cls) (hlink : (Cond.methodLink own index y).before args s = true) (hstat : (Cond.static y).before args s = true) (hinit : (Cond.initialized y.cls).before args s = true)
    (hcode : (Cond.code y bytes maxL ret).before args s = true) (hy : y.cls ≠ "java/lang/invoke/MethodHandle" ∧ y.cls ≠ "java/lang/invoke/VarHandle")
    {W9 : Nat} {Pre : Pt → Array Value → Prop} {Post : Pt → Array Value → Option Value → Pt → Prop} {PostX : Pt → Array Value → Addr → Pt → Prop} (hK : vx_Back l R p e below s args y 3 W9 Pre Post PostX)
    {g : JFrame} (hg : g.method = m) (hsize : g.locals.size = c.maxLocals) {argsL rest : List Value} (hlen : ∀ sig, parseMethodDescriptor y.desc = some sig → argsL.length = sig.parameters.length)
    (hstack : g.stack = argsL.reverse ++ rest) (hW : 2 * g.monitorRoom + (rest.map fun v => v.category).sum ≤ W9) (hdg : decode c.code g.pc = .ok (.invokestatic index, 3))
    (hpre : ∀ vm₁, s.WarmedH vm₁ → Pre ⟨T.setVm vm₁, locs, cells, slots⟩ argsL.toArray) :
    (∃ (v : Option Value) (vm₁ : Vm) (B : Pt), s.WarmedH vm₁ ∧ Stand p l e R s m args below meth c B.U B.locs B.cells B.slots ∧ Post ⟨T.setVm vm₁, locs, cells, slots⟩ argsL.toArray v B ∧
      ∀ target, Steps p.tables e below (B.U.setTop { g with pc := g.pc + 3, stack := v.toList ++ rest }) target → Steps p.tables e below (T.setTop g) target) ∨
    (∃ (q : Addr) (vm₁ : Vm) (B : Pt), s.WarmedH vm₁ ∧ Stand p l e R s m args below meth c B.U B.locs B.cells B.slots ∧ PostX ⟨T.setVm vm₁, locs, cells, slots⟩ argsL.toArray q B ∧
      Steps p.tables e below (T.setTop g) ((B.U.setTop { g with stack := rest }).pushFrame (.throwing q))) := by
  obtain ⟨mk, hnamed⟩ := Cond.code_named hcode
  obtain ⟨methM, cM, hmethM, -, -, -, -, -, -, hsigM⟩ := Cond.code_spec hnamed hcode
  have hstatic : methM.isStatic = true := Cond.static_spec hnamed hmethM hstat
  obtain ⟨kP, hkP, -⟩ := className_of_methodNamed hnamed
  have hinitP : kP.init = .initialized := Cond.initialized_spec (findClass_of_methodNamed hnamed) hkP hinit
  obtain ⟨vm₁, X₁, hstep₁⟩ := X.invokestatic hexec hown hlink hnamed hmethM hstatic hkP hinitP hy (g := g) hg (argsL := argsL) (rest := rest) (hlen _ hsigM) hstack hdg
  rcases hK m meth c ⟨T.setVm vm₁, locs, cells, slots⟩ { g with stack := rest } (.invokestatic index) mk argsL.toArray X₁ hg hsize hdg hW (X₁.named hnamed) (hpre vm₁ X₁.warmed) with ⟨v, B, X', hpost, hsteps⟩ | ⟨q, B, X', hpost, hsteps⟩
  · exact Or.inl ⟨v, vm₁, B, X₁.warmed, X', hpost, fun target h => hstep₁ _ fun acts => by rw [doInvoke_state]; exact hsteps.trans h⟩
  · exact Or.inr ⟨q, vm₁, B, X₁.warmed, X', hpost, hstep₁ _ fun acts => by rw [doInvoke_state]; exact hsteps⟩
end Calls
theorem vx_cls {s : State} {T : State} {vm₁ : Vm} {E : String} {k : ClassId} (hW : s.WarmedH vm₁) (h : (T.setVm vm₁).vm.findClass E = some k) : s.vm.findClass E = some k := by
  have h1 : vm₁.findClass E = some k := h
  rw [hW.alike.findClass] at h1
  exact h1
/-- the method's frame g, with q thrown over it -/
def vx_W (p : Program) (l : Launch) (e : Env) (R : Room) (s : State) (m : MethodId) (args : Array Value) (below : List Frame) (meth : Method) (c : Code) (H : Heap) (locs : List Loc) (cells slots : Nat) (Q : State → Prop) (g : JFrame) (q : Addr) : Prop :=
  ∀ T : State, T.heap = H → Stand p l e R s m args below meth c T locs cells slots → ∃ t, Steps p.tables e below ((T.setTop g).pushFrame (.throwing q)) t ∧ Q t
def vx_Run (p : Program) (l : Launch) (e : Env) (R : Room) (s : State) (m : MethodId) (args : Array Value) (below : List Frame) (meth : Method) (c : Code) (H : Heap) (locs : List Loc) (cells slots mc ms : Nat) (g : JFrame) (rest : List Value) (Qa : State → Outcome → State → Prop) (XC : String → State → State → Prop) (free : Addr → Prop) : Prop :=
  ∀ T : State, T.heap = H → Stand p l e R s m args below meth c T locs cells slots →
    (∃ (v : Option Value) (st₀ t T' : State) (L : List Loc), st₀.heap = H ∧ Stand p l e R s m args below meth c T' (locs ++ L) (cells + mc) (slots + ms) ∧ (∀ q ∈ L, free q.base) ∧ T'.heap = t.heap ∧ T'.vm = t.vm ∧ Qa st₀ (.returned v) t ∧
      Goes p e below T g T' { g with pc := g.pc + 3, stack := v.toList ++ rest }) ∨
    (∃ (q : Addr) (st₀ t T' : State) (L : List Loc) (E : String) (ce : Cell), st₀.heap = H ∧ Stand p l e R s m args below meth c T' (locs ++ L) (cells + mc) (slots + ms) ∧ (∀ z ∈ L, free z.base) ∧ T'.heap = t.heap ∧ T'.vm = t.vm ∧ XC E st₀ t ∧ t.heap[q]? = some ce ∧ ce.vm = .none ∧ s.vm.findClass E = some ce.cls ∧
      Steps p.tables e below (T.setTop g) ((T'.setTop { g with stack := rest }).pushFrame (.throwing q)))
def vx_X {S : Type} (px : S → Prop) (B : String → S → State → Prop) (A : Nat → Prop) : String → State → State → Prop := fun E st t => ∃ u : S, px u ∧ B E u t ∧ va_F A st t
section Runs
variable {p : Program} {l : Launch} {e : Env} {R : Room} {s : State} {m : MethodId} {args : Array Value} {below : List Frame} {meth : Method} {c : Code} {H : Heap} {locs : List Loc} {cells slots : Nat}
variable {y : MethodName} {bytes cc : ByteArray} {maxL nL mc ms n index : Nat} {ret : Option FieldType} {ws : List Cond} {rm : Room} {Pc : Array Value → State → Prop} {Qc : Array Value → State → Outcome → State → Prop} {XC : String → State → State → Prop} {free : Addr → Prop} {Ts : List Cond} {own C : String} {b : Addr} {As rest : List Value} {g : JFrame}
theorem vx_callBack (cb : CallB R s args own index y bytes maxL ret ws rm mc ms n) (hM : vx_Met l y ws rm Pc Qc XC mc ms free) (hbl : FrameBlind Pc) : vx_Back l R p e below s args y 3 8 (PreOf R mc ms Pc) (PostOf Qc mc ms free) (vx_Post XC mc ms free) := by
  obtain ⟨hrc, hrs, hfr, hlo, hws, hcw, -, hini, -⟩ := cb
  exact vx_back (bytes := bytes) (maxL := maxL) (ret := ret) hM hbl hrc hrs hfr hlo hws hcw (fun a' U hW => word_at hW (Or.inl (by first | rfl | simp [Cond.onTables, Cond.keeps, Cond.steady])) hini)
theorem vx_runV (S : CallFix p m c cc nL s args Ts own) (hM : vx_Met l y ws rm Pc Qc XC mc ms free) (cw : CallW R s args own C index y bytes maxL ret ws rm mc ms n) (hp : PreV s H C b Pc As)
    (hg : g.method = m) (hn : As.length = n) (hsize : g.locals.size = nL) (hstack : g.stack = As.reverse ++ .ref b :: rest) (hW : 2 * g.monitorRoom + (rest.map fun v => v.category).sum ≤ 8) (hdg : decode cc g.pc = .ok (.invokevirtual index, 3)) (hf : cells + mc ≤ R.cells ∧ slots + ms ≤ R.slots) :
    vx_Run p l e R s m args below meth c H locs cells slots mc ms g rest (Qc (Value.ref b :: As).toArray) XC free := by
  have hK : vx_Back l R p e below s args y 3 8 (PreOf R mc ms Pc) (PostOf Qc mc ms free) (vx_Post XC mc ms free) := vx_callBack cw.1 hM hp.1
  obtain ⟨⟨-, -, -, -, -, -, hcode, -, hy, hlen, hl⟩, hin, hse⟩ := cw
  obtain ⟨hx, hb, hml, ho, -⟩ := S
  obtain ⟨-, ⟨cellB, hcB, hoB, hclB⟩, hPc⟩ := hp
  intro T hT X
  rcases vx_callV X hx (C := C) (bytes := bytes) (maxL := maxL) (ret := ret) ho hl hin hse hcode hy hK (by rw [hT]; exact hcB) hoB hclB hg (hsize.trans hml.symm) (argsL := As) (rest := rest) (fun sig h => hn.trans (hlen sig h)) hstack hW (by rw [hb]; exact hdg)
    (fun vm₁ hW₁ => ⟨hf.1, hf.2, hPc (T.setVm vm₁) hT hW₁⟩) with ⟨v, vm₁, ⟨U', l2, c2, s2⟩, hW₁, X', ⟨g', mk, t, L, e1, e2, hq, h1, hL, h2, h3⟩, st⟩ | ⟨q, vm₁, ⟨U', l2, c2, s2⟩, hW₁, X', ⟨g', mk, t, L, E, ce, e1, e2, hq, hce, hcv, hcl, h1, hL, h2, h3⟩, st⟩
  · dsimp only [Pt.U, Pt.locs, Pt.cells, Pt.slots] at X' e1 e2 h1 h2 h3 st
    subst h1; subst h2; subst h3
    exact Or.inl ⟨v, (T.setVm vm₁).calling g' mk (Value.ref b :: As).toArray, t, U', L, hT, X', hL, e1, e2, hq, st⟩
  · dsimp only [Pt.U, Pt.locs, Pt.cells, Pt.slots] at X' e1 e2 h1 h2 h3 st hcl
    subst h1; subst h2; subst h3
    exact Or.inr ⟨q, (T.setVm vm₁).calling g' mk (Value.ref b :: As).toArray, t, U', L, E, ce, hT, X', hL, e1, e2, hq, hce, hcv, vx_cls hW₁ hcl, st⟩
theorem vx_runS (S : CallFix p m c cc nL s args Ts own) (hM : vx_Met l y ws rm Pc Qc XC mc ms free) (cw : CallB R s args own index y bytes maxL ret ws rm mc ms n ∧ (Cond.static y).before args s = true) (hp : PreS s H Pc As)
    (hg : g.method = m) (hn : As.length = n) (hsize : g.locals.size = nL) (hstack : g.stack = As.reverse ++ rest) (hW : 2 * g.monitorRoom + (rest.map fun v => v.category).sum ≤ 8) (hdg : decode cc g.pc = .ok (.invokestatic index, 3)) (hf : cells + mc ≤ R.cells ∧ slots + ms ≤ R.slots) :
    vx_Run p l e R s m args below meth c H locs cells slots mc ms g rest (Qc As.toArray) XC free := by
  have hK : vx_Back l R p e below s args y 3 8 (PreOf R mc ms Pc) (PostOf Qc mc ms free) (vx_Post XC mc ms free) := vx_callBack cw.1 hM hp.1
  obtain ⟨⟨-, -, -, -, -, -, hcode, hini, hy, hlen, hl⟩, hstt⟩ := cw
  obtain ⟨hx, hb, hml, ho, -⟩ := S
  intro T hT X
  rcases vx_callS X hx (bytes := bytes) (maxL := maxL) (ret := ret) ho hl hstt hini hcode hy hK hg (hsize.trans hml.symm) (argsL := As) (rest := rest) (fun sig h => hn.trans (hlen sig h)) hstack hW (by rw [hb]; exact hdg)
    (fun vm₁ hW₁ => ⟨hf.1, hf.2, hp.2 (T.setVm vm₁) hT hW₁⟩) with ⟨v, vm₁, ⟨U', l2, c2, s2⟩, hW₁, X', ⟨g', mk, t, L, e1, e2, hq, h1, hL, h2, h3⟩, st⟩ | ⟨q, vm₁, ⟨U', l2, c2, s2⟩, hW₁, X', ⟨g', mk, t, L, E, ce, e1, e2, hq, hce, hcv, hcl, h1, hL, h2, h3⟩, st⟩
  · dsimp only [Pt.U, Pt.locs, Pt.cells, Pt.slots] at X' e1 e2 h1 h2 h3 st
    subst h1; subst h2; subst h3
    exact Or.inl ⟨v, (T.setVm vm₁).calling g' mk As.toArray, t, U', L, hT, X', hL, e1, e2, hq, st⟩
  · dsimp only [Pt.U, Pt.locs, Pt.cells, Pt.slots] at X' e1 e2 h1 h2 h3 st hcl
    subst h1; subst h2; subst h3
    exact Or.inr ⟨q, (T.setVm vm₁).calling g' mk As.toArray, t, U', L, E, ce, hT, X', hL, e1, e2, hq, hce, hcv, vx_cls hW₁ hcl, st⟩
end Runs
section Rows
variable {p : Program} {l : Launch} {e : Env} {R : Room} {s : State} {m : MethodId} {args : Array Value} {below : List Frame} {meth : Method} {c : Code} {H : Heap} {locs : List Loc} {cells slots : Nat} {Q : State → Prop}
variable {mc ms : Nat} {free : Addr → Prop} {A0 A1 : Nat → Prop} {H0 : Heap} {a : Array Value} {pc : Nat} {ls : Array Slot} {st0 rest : List Value}
theorem vx_keep {st₀ t T' : State} {L : List Loc} (h0 : st₀.heap = H) (e1 : T'.heap = t.heap) (hS : va_S A0 H0 H locs) (hA : ∀ q, q < H.size → A1 q → A0 q) (hf : ∀ q, free q → A0 q) (hL : ∀ q ∈ L, free q.base) (hF : va_F A1 st₀ t) :
    H.size ≤ T'.heap.size ∧ (∀ q : Nat, q < H.size → ¬ A1 q → T'.heap[q]? = H[q]?) ∧ va_S A0 H0 T'.heap (locs ++ L) := by
  obtain ⟨hz, hk⟩ := hF
  rw [h0] at hz hk
  exact ⟨by rw [e1]; exact hz, fun q h1 h2 => by rw [e1]; exact hk q h1 h2,
    ⟨Nat.le_trans hS.1 (by rw [e1]; exact hz), fun q h1 h2 => by rw [e1, hk q (Nat.lt_of_lt_of_le h1 hS.1) (fun z => h2 (hA q (Nat.lt_of_lt_of_le h1 hS.1) z))]; exact hS.2.1 q h1 h2, fun q hq => by
      rcases List.mem_append.mp hq with h | h
      · exact hS.2.2 q h
      · exact hf _ (hL q h)⟩⟩
theorem vx_calli {S SX : Type} {post : Int32 → S → Prop} {px : SX → Prop} {B : S → State → Prop} {BX : String → SX → State → Prop} {AX : Nat → Prop} (hr : vx_Run p l e R s m args below meth c H locs cells slots mc ms (F0 m pc ls st0) rest (va_Qi post B A1 a) (vx_X px BX AX) free) (hS : va_S A0 H0 H locs) (hA : ∀ q, q < H.size → A1 q → A0 q) (hf : ∀ q, free q → A0 q) (hAX : ∀ q, q < H.size → AX q → A0 q)
    (kx : ∀ (E : String) (ce : Cell) (q9 : Addr) (u : SX) (t : State) (H1 : Heap) (locs1 : List Loc), t.heap = H1 → s.vm.Alike t.vm → px u → BX E u t → H.size ≤ H1.size → (∀ q : Nat, q < H.size → ¬ AX q → H1[q]? = H[q]?) → va_S A0 H0 H1 locs1 → H1[q9]? = some ce → ce.vm = .none → s.vm.findClass E = some ce.cls → vx_W p l e R s m args below meth c H1 locs1 (cells + mc) (slots + ms) Q (F0 m pc ls rest) q9)
    (kk : ∀ (r : Int32) (u : S) (t : State) (H1 : Heap) (locs1 : List Loc), t.heap = H1 → s.vm.Alike t.vm → post r u → B u t → H.size ≤ H1.size → (∀ q : Nat, q < H.size → ¬ A1 q → H1[q]? = H[q]?) → va_S A0 H0 H1 locs1 → W p l e R s m args below meth c H1 locs1 (cells + mc) (slots + ms) Q (F0 m (pc + 3) ls (.int r :: rest))) : W p l e R s m args below meth c H locs cells slots Q (F0 m pc ls st0) := by
  intro T hT X
  rcases hr T hT X with ⟨v, st₀, t, T', L, h0, X', hL, e1, e2, ⟨⟨r, u, hv, hp, hb⟩, hF⟩, st⟩ | ⟨q, st₀, t, T', L, E, ce, h0, X', hL, e1, e2, ⟨u, hp, hb, hF⟩, hce, hcv, hcl, st⟩
  · cases hv
    obtain ⟨k1, k2, k3⟩ := vx_keep h0 e1 hS hA hf hL hF
    obtain ⟨t2, a1, b1⟩ := kk r u t T'.heap (locs ++ L) e1.symm (by rw [← e2]; exact X'.warmed.alike) hp hb k1 k2 k3 T' rfl X'
    exact ⟨t2, st t2 a1, b1⟩
  · obtain ⟨k1, k2, k3⟩ := vx_keep h0 e1 hS hAX hf hL hF
    obtain ⟨t2, a1, b1⟩ := kx E ce q u t T'.heap (locs ++ L) e1.symm (by rw [← e2]; exact X'.warmed.alike) hp hb k1 k2 k3 (by rw [e1]; exact hce) hcv hcl T' rfl X'
    exact ⟨t2, st.trans a1, b1⟩
theorem vx_calll {S SX : Type} {post : Int64 → S → Prop} {px : SX → Prop} {B : S → State → Prop} {BX : String → SX → State → Prop} {AX : Nat → Prop} (hr : vx_Run p l e R s m args below meth c H locs cells slots mc ms (F0 m pc ls st0) rest (va_Ql post B A1 a) (vx_X px BX AX) free) (hS : va_S A0 H0 H locs) (hA : ∀ q, q < H.size → A1 q → A0 q) (hf : ∀ q, free q → A0 q) (hAX : ∀ q, q < H.size → AX q → A0 q)
    (kx : ∀ (E : String) (ce : Cell) (q9 : Addr) (u : SX) (t : State) (H1 : Heap) (locs1 : List Loc), t.heap = H1 → s.vm.Alike t.vm → px u → BX E u t → H.size ≤ H1.size → (∀ q : Nat, q < H.size → ¬ AX q → H1[q]? = H[q]?) → va_S A0 H0 H1 locs1 → H1[q9]? = some ce → ce.vm = .none → s.vm.findClass E = some ce.cls → vx_W p l e R s m args below meth c H1 locs1 (cells + mc) (slots + ms) Q (F0 m pc ls rest) q9)
    (kk : ∀ (r : Int64) (u : S) (t : State) (H1 : Heap) (locs1 : List Loc), t.heap = H1 → s.vm.Alike t.vm → post r u → B u t → H.size ≤ H1.size → (∀ q : Nat, q < H.size → ¬ A1 q → H1[q]? = H[q]?) → va_S A0 H0 H1 locs1 → W p l e R s m args below meth c H1 locs1 (cells + mc) (slots + ms) Q (F0 m (pc + 3) ls (.long r :: rest))) : W p l e R s m args below meth c H locs cells slots Q (F0 m pc ls st0) := by
  intro T hT X
  rcases hr T hT X with ⟨v, st₀, t, T', L, h0, X', hL, e1, e2, ⟨⟨r, u, hv, hp, hb⟩, hF⟩, st⟩ | ⟨q, st₀, t, T', L, E, ce, h0, X', hL, e1, e2, ⟨u, hp, hb, hF⟩, hce, hcv, hcl, st⟩
  · cases hv
    obtain ⟨k1, k2, k3⟩ := vx_keep h0 e1 hS hA hf hL hF
    obtain ⟨t2, a1, b1⟩ := kk r u t T'.heap (locs ++ L) e1.symm (by rw [← e2]; exact X'.warmed.alike) hp hb k1 k2 k3 T' rfl X'
    exact ⟨t2, st t2 a1, b1⟩
  · obtain ⟨k1, k2, k3⟩ := vx_keep h0 e1 hS hAX hf hL hF
    obtain ⟨t2, a1, b1⟩ := kx E ce q u t T'.heap (locs ++ L) e1.symm (by rw [← e2]; exact X'.warmed.alike) hp hb k1 k2 k3 (by rw [e1]; exact hce) hcv hcl T' rfl X'
    exact ⟨t2, st.trans a1, b1⟩
theorem vx_callf {S SX : Type} {post : UInt32 → S → Prop} {px : SX → Prop} {B : S → State → Prop} {BX : String → SX → State → Prop} {AX : Nat → Prop} (hr : vx_Run p l e R s m args below meth c H locs cells slots mc ms (F0 m pc ls st0) rest (va_Qf post B A1 a) (vx_X px BX AX) free) (hS : va_S A0 H0 H locs) (hA : ∀ q, q < H.size → A1 q → A0 q) (hf : ∀ q, free q → A0 q) (hAX : ∀ q, q < H.size → AX q → A0 q)
    (kx : ∀ (E : String) (ce : Cell) (q9 : Addr) (u : SX) (t : State) (H1 : Heap) (locs1 : List Loc), t.heap = H1 → s.vm.Alike t.vm → px u → BX E u t → H.size ≤ H1.size → (∀ q : Nat, q < H.size → ¬ AX q → H1[q]? = H[q]?) → va_S A0 H0 H1 locs1 → H1[q9]? = some ce → ce.vm = .none → s.vm.findClass E = some ce.cls → vx_W p l e R s m args below meth c H1 locs1 (cells + mc) (slots + ms) Q (F0 m pc ls rest) q9)
    (kk : ∀ (r : UInt32) (u : S) (t : State) (H1 : Heap) (locs1 : List Loc), t.heap = H1 → s.vm.Alike t.vm → post r u → B u t → H.size ≤ H1.size → (∀ q : Nat, q < H.size → ¬ A1 q → H1[q]? = H[q]?) → va_S A0 H0 H1 locs1 → W p l e R s m args below meth c H1 locs1 (cells + mc) (slots + ms) Q (F0 m (pc + 3) ls (.float r :: rest))) : W p l e R s m args below meth c H locs cells slots Q (F0 m pc ls st0) := by
  intro T hT X
  rcases hr T hT X with ⟨v, st₀, t, T', L, h0, X', hL, e1, e2, ⟨⟨r, u, hv, hp, hb⟩, hF⟩, st⟩ | ⟨q, st₀, t, T', L, E, ce, h0, X', hL, e1, e2, ⟨u, hp, hb, hF⟩, hce, hcv, hcl, st⟩
  · cases hv
    obtain ⟨k1, k2, k3⟩ := vx_keep h0 e1 hS hA hf hL hF
    obtain ⟨t2, a1, b1⟩ := kk r u t T'.heap (locs ++ L) e1.symm (by rw [← e2]; exact X'.warmed.alike) hp hb k1 k2 k3 T' rfl X'
    exact ⟨t2, st t2 a1, b1⟩
  · obtain ⟨k1, k2, k3⟩ := vx_keep h0 e1 hS hAX hf hL hF
    obtain ⟨t2, a1, b1⟩ := kx E ce q u t T'.heap (locs ++ L) e1.symm (by rw [← e2]; exact X'.warmed.alike) hp hb k1 k2 k3 (by rw [e1]; exact hce) hcv hcl T' rfl X'
    exact ⟨t2, st.trans a1, b1⟩
theorem vx_calld {S SX : Type} {post : UInt64 → S → Prop} {px : SX → Prop} {B : S → State → Prop} {BX : String → SX → State → Prop} {AX : Nat → Prop} (hr : vx_Run p l e R s m args below meth c H locs cells slots mc ms (F0 m pc ls st0) rest (va_Qd post B A1 a) (vx_X px BX AX) free) (hS : va_S A0 H0 H locs) (hA : ∀ q, q < H.size → A1 q → A0 q) (hf : ∀ q, free q → A0 q) (hAX : ∀ q, q < H.size → AX q → A0 q)
    (kx : ∀ (E : String) (ce : Cell) (q9 : Addr) (u : SX) (t : State) (H1 : Heap) (locs1 : List Loc), t.heap = H1 → s.vm.Alike t.vm → px u → BX E u t → H.size ≤ H1.size → (∀ q : Nat, q < H.size → ¬ AX q → H1[q]? = H[q]?) → va_S A0 H0 H1 locs1 → H1[q9]? = some ce → ce.vm = .none → s.vm.findClass E = some ce.cls → vx_W p l e R s m args below meth c H1 locs1 (cells + mc) (slots + ms) Q (F0 m pc ls rest) q9)
    (kk : ∀ (r : UInt64) (u : S) (t : State) (H1 : Heap) (locs1 : List Loc), t.heap = H1 → s.vm.Alike t.vm → post r u → B u t → H.size ≤ H1.size → (∀ q : Nat, q < H.size → ¬ A1 q → H1[q]? = H[q]?) → va_S A0 H0 H1 locs1 → W p l e R s m args below meth c H1 locs1 (cells + mc) (slots + ms) Q (F0 m (pc + 3) ls (.double r :: rest))) : W p l e R s m args below meth c H locs cells slots Q (F0 m pc ls st0) := by
  intro T hT X
  rcases hr T hT X with ⟨v, st₀, t, T', L, h0, X', hL, e1, e2, ⟨⟨r, u, hv, hp, hb⟩, hF⟩, st⟩ | ⟨q, st₀, t, T', L, E, ce, h0, X', hL, e1, e2, ⟨u, hp, hb, hF⟩, hce, hcv, hcl, st⟩
  · cases hv
    obtain ⟨k1, k2, k3⟩ := vx_keep h0 e1 hS hA hf hL hF
    obtain ⟨t2, a1, b1⟩ := kk r u t T'.heap (locs ++ L) e1.symm (by rw [← e2]; exact X'.warmed.alike) hp hb k1 k2 k3 T' rfl X'
    exact ⟨t2, st t2 a1, b1⟩
  · obtain ⟨k1, k2, k3⟩ := vx_keep h0 e1 hS hAX hf hL hF
    obtain ⟨t2, a1, b1⟩ := kx E ce q u t T'.heap (locs ++ L) e1.symm (by rw [← e2]; exact X'.warmed.alike) hp hb k1 k2 k3 (by rw [e1]; exact hce) hcv hcl T' rfl X'
    exact ⟨t2, st.trans a1, b1⟩
theorem vx_callv {S SX : Type} {post : S → Prop} {px : SX → Prop} {B : S → State → Prop} {BX : String → SX → State → Prop} {AX : Nat → Prop} (hr : vx_Run p l e R s m args below meth c H locs cells slots mc ms (F0 m pc ls st0) rest (va_Qv post B A1 a) (vx_X px BX AX) free) (hS : va_S A0 H0 H locs) (hA : ∀ q, q < H.size → A1 q → A0 q) (hf : ∀ q, free q → A0 q) (hAX : ∀ q, q < H.size → AX q → A0 q)
    (kx : ∀ (E : String) (ce : Cell) (q9 : Addr) (u : SX) (t : State) (H1 : Heap) (locs1 : List Loc), t.heap = H1 → s.vm.Alike t.vm → px u → BX E u t → H.size ≤ H1.size → (∀ q : Nat, q < H.size → ¬ AX q → H1[q]? = H[q]?) → va_S A0 H0 H1 locs1 → H1[q9]? = some ce → ce.vm = .none → s.vm.findClass E = some ce.cls → vx_W p l e R s m args below meth c H1 locs1 (cells + mc) (slots + ms) Q (F0 m pc ls rest) q9)
    (kk : ∀ (u : S) (t : State) (H1 : Heap) (locs1 : List Loc), t.heap = H1 → s.vm.Alike t.vm → post u → B u t → H.size ≤ H1.size → (∀ q : Nat, q < H.size → ¬ A1 q → H1[q]? = H[q]?) → va_S A0 H0 H1 locs1 → W p l e R s m args below meth c H1 locs1 (cells + mc) (slots + ms) Q (F0 m (pc + 3) ls (rest))) : W p l e R s m args below meth c H locs cells slots Q (F0 m pc ls st0) := by
  intro T hT X
  rcases hr T hT X with ⟨v, st₀, t, T', L, h0, X', hL, e1, e2, ⟨⟨u, hv, hp, hb⟩, hF⟩, st⟩ | ⟨q, st₀, t, T', L, E, ce, h0, X', hL, e1, e2, ⟨u, hp, hb, hF⟩, hce, hcv, hcl, st⟩
  · cases hv
    obtain ⟨k1, k2, k3⟩ := vx_keep h0 e1 hS hA hf hL hF
    obtain ⟨t2, a1, b1⟩ := kk u t T'.heap (locs ++ L) e1.symm (by rw [← e2]; exact X'.warmed.alike) hp hb k1 k2 k3 T' rfl X'
    exact ⟨t2, st t2 a1, b1⟩
  · obtain ⟨k1, k2, k3⟩ := vx_keep h0 e1 hS hAX hf hL hF
    obtain ⟨t2, a1, b1⟩ := kx E ce q u t T'.heap (locs ++ L) e1.symm (by rw [← e2]; exact X'.warmed.alike) hp hb k1 k2 k3 (by rw [e1]; exact hce) hcv hcl T' rfl X'
    exact ⟨t2, st.trans a1, b1⟩
/-- caught by the row x of this method's table; the rows ahead don't take it -/
theorem vx_catch {own name : String} {E : String} {ce : Cell} {q : Addr} (hown : s.vm.findClass own = some m.cls) (pre : List ExceptionTableEntry) (x : ExceptionTableEntry) (suf : List ExceptionTableEntry) (hsplit : c.exceptionTable.toList = pre ++ x :: suf)
    (hpass : ∀ z ∈ pre, covers z pc = false ∨ (z.catchType ≠ 0 ∧ ∃ nm : String, (Cond.classLink own z.catchType nm).before args s = true ∧ va_Nc E nm s)) (hx : covers x pc = true) (h0 : x.catchType ≠ 0)
    (hlink : (Cond.classLink own x.catchType name).before args s = true) (hcast : (Cond.castable E name).before args s = true) (hcell : H[q]? = some ce) (hv : ce.vm = .none) (hcl : s.vm.findClass E = some ce.cls)
    (kk : W p l e R s m args below meth c H locs cells slots Q (F0 m x.handlerPc ls [.ref q])) : vx_W p l e R s m args below meth c H locs cells slots Q (F0 m pc ls rest) q := by
  intro T hT X
  have hpl : e.platform.magicAccessors = ({} : Platform).magicAccessors := by rw [X.admits.platform]
  obtain ⟨c3, c4, hc3, hc4, hasg⟩ := Cond.castable_spec hcast
  cases Option.some.inj (hc3.symm.trans hcl)
  obtain ⟨c5, hc5, hcl5⟩ := Cond.classLink_spec hown hlink e.platform hpl
  cases Option.some.inj (hc4.symm.trans hc5)
  obtain ⟨vm', X', st⟩ := X.thenCaughtThrough q (g := F0 m pc ls rest) rfl (Steps.refl _) (by rw [hT]; exact hcell) (by rw [hv]; rfl) (by obtain ⟨k9, h9, -⟩ := Vm.findClass_spec hcl; exact ⟨k9, h9⟩) pre x suf hsplit
    (fun z hz => by
      rcases hpass z hz with h | ⟨hz0, nm, hl1, hn1⟩
      · exact Or.inl h
      · obtain ⟨c6, hc6, hcl6⟩ := Cond.classLink_spec hown hl1 e.platform hpl
        obtain ⟨a8, b8, h1, h2, h3⟩ := hn1
        cases Option.some.inj (h1.symm.trans hcl)
        cases Option.some.inj (h2.symm.trans hc6)
        exact Or.inr ⟨hz0, _, hcl6, h3⟩) hx (Or.inr ⟨h0, c4, hcl5, hasg⟩)
  obtain ⟨t, a1, b1⟩ := kk (T.setVm vm') hT X'
  exact ⟨t, st.trans a1, b1⟩
end Rows
section Ends
variable {p : Program} {l : Launch} {e : Env} {R : Room} {s : State} {m : MethodId} {args : Array Value} {below : List Frame} {meth : Method} {c : Code} {H : Heap} {locs : List Loc} {cells slots : Nat} {Q : State → Prop}
variable {mc ms : Nat} {free : Addr → Prop} {A0 A1 : Nat → Prop} {H0 : Heap} {a : Array Value} {ls : Array Slot} {st0 rest : List Value}
variable {Qc : Array Value → State → Outcome → State → Prop} {XC : String → State → State → Prop}
/-- what a body that may throw owes at its end -/
def vx_MQ (below : List Frame) (Qc : Array Value → State → Outcome → State → Prop) (XC : String → State → State → Prop) (a : Array Value) (s : State) (mc ms : Nat) (free : Addr → Prop) : State → Prop := fun t =>
  ∃ o, t.status = .running ∧ Ended t below o ∧ vx_Q Qc XC mc ms free a s o t
theorem vx_ret {g : JFrame} {mc ms : Nat} (k : W p l e R s m args below meth c H locs cells slots (MQ below Qc args s mc ms free) g) : W p l e R s m args below meth c H locs cells slots (vx_MQ below Qc XC args s mc ms free) g := by
  intro T hT X
  obtain ⟨t, a1, o, b1, b2, b3, b4⟩ := k T hT X
  exact ⟨t, a1, o, b1, b2, Or.inl ⟨b3, b4⟩⟩
/-- not caught here: it goes on to the caller -/
theorem vx_widen {g : JFrame} {q : Addr} {k n : Nat} (h1 : cells ≤ k) (h2 : slots ≤ n) (kk : vx_W p l e R s m args below meth c H locs k n Q g q) : vx_W p l e R s m args below meth c H locs cells slots Q g q := fun T hT X => kk T hT (stand_widen X h1 h2)
theorem vx_out {pc : Nat} {E : String} {ce : Cell} {q : Addr} {mc ms : Nat} (hout : ∀ x ∈ c.exceptionTable.toList, covers x pc = false) (hlocks : meth.locks = false) (hcell : H[q]? = some ce) (hv : ce.vm = .none) (hcl : s.vm.findClass E = some ce.cls)
    (hx : ∀ t : State, t.heap = H → s.vm.Alike t.vm → XC E s t) (hf : ∀ z ∈ locs, free z.base) (hc : cells ≤ mc) (hs : slots ≤ ms) :
    vx_W p l e R s m args below meth c H locs cells slots (vx_MQ below Qc XC args s mc ms free) (F0 m pc ls rest) q := by
  intro T hT X
  obtain ⟨st1, hrun, hend, hW, hsm⟩ := X.leaveThrown q (g := F0 m pc ls rest) rfl rfl rfl hout hlocks
  have hcell9 : (T.setFrames (.throwing q :: below)).heap[q]? = some ce := by
    show T.heap[q]? = some ce
    rw [hT]; exact hcell
  exact ⟨_, st1, .threw q, hrun, hend, Or.inr ⟨q, rfl, E, ce, locs, hx _ hT hW.alike, hcell9, hv, hcl, hW, hsm.mono hc hs, hf⟩⟩
theorem vx_frame {U : State} {k n : Nat} (h : s.sameButNew ({ U with vm := s.vm } : State) locs k n) : s.heap.size ≤ U.heap.size ∧ ∀ q : Nat, q < s.heap.size → (∀ z ∈ locs, z.base ≠ q) → U.heap[q]? = s.heap[q]? := by
  obtain ⟨-, h2, -, -, -, h6⟩ := h
  refine ⟨h2, fun q hq hz => ?_⟩
  obtain ⟨c9, e1, e2, e3, e4⟩ := h6 q _ (Array.getElem?_eq_getElem hq)
  have hs : c9.slots = (s.heap[q]).slots := Array.ext_getElem? fun i => e4 i fun hm => hz _ hm rfl
  have h9 : c9 = s.heap[q] := by
    rw [hs] at e2
    exact e2
  have e5 : U.heap[q]? = some c9 := e1
  rw [e5, h9, Array.getElem?_eq_getElem hq]
/-- the words of a throw but the four that speak of the heap -/
def vx_no (w : Cond) : Bool := decide (w ≠ .isRef (.static Bundle.tN "UNASSIGNED_STACK" Bundle.steD)) && decide (w ≠ .isRef (.static Bundle.tN "SUPPRESSED_SENTINEL" Bundle.listD)) && decide (w ≠ .laysStatic Bundle.tN "UNASSIGNED_STACK" Bundle.steD) && decide (w ≠ .laysStatic Bundle.tN "SUPPRESSED_SENTINEL" Bundle.listD)
def vx_at0 (own : String) (ic : Nat) (X : String) (names : List String) : List Cond := (Bundle.ownAtoms0 own ic X names).filter vx_no
def vx_atS (own : String) (ic : Nat) (X : String) (names : List String) : List Cond := (Bundle.ownAtoms own ic X names).filter vx_no
/-- a word that the tables alone decide, or a good one -/
def vx_ot (w : Cond) : Bool := w.onTables || goodWord w
theorem vx_ot_at {args a' : Array Value} {s U : State} {w : Cond} (hW : s.WarmedH U.vm) (hvm : s.vm = U.vm) (hg : vx_ot w = true) (h : w.before args s = true) : w.before a' U = true := by
  simp only [vx_ot, Bool.or_eq_true] at hg
  rcases hg with hg | hg
  · exact va_tabs hg hvm h
  · exact word_at hW (good_of_word hg) h
/-- a list's words: the good ones out of the method's own list, the others by premises of their own -/
theorem vx_hat {args : Array Value} {s : State} {L B : List Cond} (h1 : ∀ w ∈ L.filter goodWord, w.before args s = true) (h2 : ∀ w ∈ L.filter (fun w => !goodWord w), w ∈ B) (h3 : ∀ w ∈ B, w.before args s = true) : ∀ w ∈ L, w.before args s = true := by
  intro w hw
  by_cases g : goodWord w = true
  · exact h1 w (List.mem_filter.mpr ⟨hw, g⟩)
  · refine h3 w (h2 w (List.mem_filter.mpr ⟨hw, ?_⟩))
    show (!goodWord w) = true
    cases hgw : goodWord w
    · rfl
    · exact absurd hgw g
theorem vx_c {args : Array Value} {s : State} {w : Cond} {B : List Cond} (h : w.before args s = true) (t : ∀ w ∈ B, w.before args s = true) : ∀ w' ∈ w :: B, w'.before args s = true := fun w' h' => (List.mem_cons.mp h').elim (fun e => by rw [e]; exact h) (t w')
theorem vx_n {args : Array Value} {s : State} : ∀ w ∈ ([] : List Cond), w.before args s = true := fun _ h => nomatch h
theorem vx_own {args : Array Value} {s : State} {L : List Cond} (h1 : ∀ w ∈ L.filter vx_no, w.before args s = true)
    (hU : (Cond.isRef (.static Bundle.tN "UNASSIGNED_STACK" Bundle.steD)).before args s = true) (hN : (Cond.isRef (.static Bundle.tN "SUPPRESSED_SENTINEL" Bundle.listD)).before args s = true)
    (lU : (Cond.laysStatic Bundle.tN "UNASSIGNED_STACK" Bundle.steD).before args s = true) (lN : (Cond.laysStatic Bundle.tN "SUPPRESSED_SENTINEL" Bundle.listD).before args s = true) : ∀ w ∈ L, w.before args s = true := by
  intro w hw
  by_cases e1 : w = .isRef (.static Bundle.tN "UNASSIGNED_STACK" Bundle.steD)
  · rw [e1]; exact hU
  · by_cases e2 : w = .isRef (.static Bundle.tN "SUPPRESSED_SENTINEL" Bundle.listD)
    · rw [e2]; exact hN
    · by_cases e3 : w = .laysStatic Bundle.tN "UNASSIGNED_STACK" Bundle.steD
      · rw [e3]; exact lU
      · by_cases e4 : w = .laysStatic Bundle.tN "SUPPRESSED_SENTINEL" Bundle.listD
        · rw [e4]; exact lN
        · exact h1 w (List.mem_filter.mpr ⟨hw, by unfold vx_no; rw [decide_eq_true e1, decide_eq_true e2, decide_eq_true e3, decide_eq_true e4]; rfl⟩)
/-- where a static field lies, its class's statics cell in H -/
def vx_L (C n d : String) (A : Nat → Prop) (U : State) (H : Heap) : Prop := ∃ (c : ClassId) (k : Class) (i : Nat) (f : Field) (a : Nat) (cell : Cell), U.vm.findClass C = some c ∧ U.fieldFound? C n d = some (c, k, i, f) ∧ f.isStatic = true ∧ k.statics = some a ∧ H[a]? = some cell ∧ cell.vm.isStatics = true ∧ cell.cls = c ∧ f.slot < cell.slots.size ∧ k.staticTypes[f.slot]? = some f.type ∧ ¬ A a
theorem vx_L.moved {C n d : String} {A : Nat → Prop} {u U : State} {H : Heap} (hvm : u.vm.Alike U.vm) (h : vx_L C n d A u H) : vx_L C n d A U H := by
  obtain ⟨c, k, i, f, a, cell, h1, h2, h3, h4, h5, h6, h7, h8, h9, h10⟩ := h
  obtain ⟨k', hi', he⟩ := State.fieldFound?_setVm hvm h2
  exact ⟨c, k', i, f, a, cell, by rw [hvm.findClass]; exact h1, hi', h3, by rw [he]; exact h4, h5, h6, h7, h8, by rw [he]; exact h9, h10⟩
theorem vx_L.kept {C n d : String} {A : Nat → Prop} {U : State} {H H1 : Heap} (h : vx_L C n d A U H) (hq : ∀ a : Nat, a < H.size → ¬ A a → H1[a]? = H[a]?) : vx_L C n d A U H1 := by
  obtain ⟨c, k, i, f, a, cell, h1, h2, h3, h4, h5, h6, h7, h8, h9, h10⟩ := h
  exact ⟨c, k, i, f, a, cell, h1, h2, h3, h4, by rw [hq a (Array.getElem?_eq_some_iff.mp h5).1 h10]; exact h5, h6, h7, h8, h9, h10⟩
theorem vx_L.narrow {C n d : String} {A B : Nat → Prop} {U : State} {H : Heap} (h : vx_L C n d A U H) (hAB : ∀ q, B q → A q) : vx_L C n d B U H := by
  obtain ⟨c, k, i, f, a, cell, h1, h2, h3, h4, h5, h6, h7, h8, h9, h10⟩ := h
  exact ⟨c, k, i, f, a, cell, h1, h2, h3, h4, h5, h6, h7, h8, h9, fun z => h10 (hAB _ z)⟩
theorem vx_L.word {C n d : String} {A : Nat → Prop} {s : State} {args : Array Value} (h : vx_L C n d A s s.heap) : (Cond.laysStatic C n d).before args s = true := by
  obtain ⟨c, k, i, f, a, cell, h1, h2, h3, h4, h5, h6, h7, h8, h9, -⟩ := h
  show (Cond.laysStatic C n d).holds args s none s [] = true
  exact Cond.laysStatic_of h1 h2 h3 h4 h5 h6 h7 h8 h9
/-- .. and what it holds: null or some reference -/
def vx_Zq (C n d : String) (A : Nat → Prop) (U : State) (H : Heap) : Prop := va_Zq C n d A U H ∧ vx_L C n d A U H
theorem vx_Zq.moved {C n d : String} {A : Nat → Prop} {u U : State} {H : Heap} (hvm : u.vm.Alike U.vm) (h : vx_Zq C n d A u H) : vx_Zq C n d A U H := ⟨va_Zq.moved hvm h.1, vx_L.moved hvm h.2⟩
theorem vx_Zq.kept {C n d : String} {A : Nat → Prop} {U : State} {H H1 : Heap} (h : vx_Zq C n d A U H) (hq : ∀ a : Nat, a < H.size → ¬ A a → H1[a]? = H[a]?) : vx_Zq C n d A U H1 := ⟨va_Zq.kept h.1 hq, vx_L.kept h.2 hq⟩
theorem vx_Zq.narrow {C n d : String} {A B : Nat → Prop} {U : State} {H : Heap} (h : vx_Zq C n d A U H) (hAB : ∀ q, B q → A q) : vx_Zq C n d B U H := ⟨va_Zq.narrow h.1 hAB, vx_L.narrow h.2 hAB⟩
theorem vx_Zqof {args : Array Value} {s : State} {C n d : String} {A : Nat → Prop} (hl : (Cond.laysStatic C n d).before args s = true) (hini : (Cond.initialized C).before args s = true) (h : (Cond.isRef (.static C n d)).before args s = true) (hA : ∀ a : Nat, a < s.heap.size → ¬ A a) : vx_Zq C n d A s s.heap := by
  refine ⟨va_Zqof hl hini h hA, ?_⟩
  obtain ⟨c, k, i, f, a, cell, h1, h2, h3, h4, h5, h6, h7, h8, h9⟩ := Cond.laysStatic_spec hl
  exact ⟨c, k, i, f, a, cell, h1, h2, h3, h4, h5, h6, h7, h8, h9, hA a (Array.getElem?_eq_some_iff.mp h5).1⟩
theorem vx_isRef {C n d : String} {v : Value} {A : Nat → Prop} {s : State} {args : Array Value} (h : va_Z C n d v A s s.heap) (hv : v.isRef = true) : (Cond.isRef (.static C n d)).before args s = true := by
  obtain ⟨cf, kf, fi, f, a, cell, h1, h2, h3, h4, h5, h6, h7, -⟩ := h
  have he : (Term.static C n d).eval args s none [] s = some v := by
    simp [Term.eval, State.fieldNamed?, h1, h2, h4, h5, h6, h7]
  simp only [Cond.before, Cond.holds, Cond.value, he]
  cases v <;> simp_all [Value.isRef]
theorem vx_isRefq {C n d : String} {A : Nat → Prop} {s : State} {args : Array Value} (h : va_Zq C n d A s s.heap) : (Cond.isRef (.static C n d)).before args s = true := by
  rcases h with h | ⟨t, h⟩
  · exact vx_isRef h rfl
  · exact vx_isRef h rfl
/-- the same frame, seen from here: as if the method were called anew in this heap -/
theorem vx_rebase {T : State} (X : Stand p l e R s m args below meth c T locs cells slots) {R' : Room} (hf : R'.frames ≤ R.frames) (hl : R'.locals ≤ R.locals) (hc : cells + R'.cells ≤ R.cells) (hs : slots + R'.slots ≤ R.slots) :
    Stand p l e R' ((T.setVm s.vm).setFrames (.invoking m args :: below)) m args below meth c T [] 0 0 := by
  have htop : (T.setVm s.vm).topJava?.isSome := X.here.top
  have hF : ((T.setVm s.vm).setFrames (.invoking m args :: below)).frames = .invoking m args :: below := State.frames_setFrames _ (State.cur_lt_of_top htop)
  obtain ⟨g₀, hg0⟩ := Option.isSome_iff_exists.mp htop
  obtain ⟨r, hr⟩ := State.topJava?_eq_some.mp hg0
  have hl9 : e.platform.stackLimits (T.setVm s.vm).me = e.platform.stackLimits s.me := X.limits
  have hb9 : (T.setVm s.vm).me.stackBytes = s.me.stackBytes := X.bytes
  refine ⟨X.admits, X.cas, X.clock, hF, ?_, X.hears, X.method, X.code, X.here, X.tail, X.warmed, ?_, ?_, ?_⟩
  · have h := X.room
    have hU : ((T.setVm s.vm).setFrames (.invoking m args :: below)).localsInUse = s.localsInUse := by
      rw [State.localsInUse_invoking hF (meth := meth) (c := c) X.method X.code, State.localsInUse_invoking X.frames X.method X.code]
    simp only [State.hasRoom, Bool.and_eq_true, decide_eq_true_eq] at h ⊢
    obtain ⟨⟨⟨⟨h1, h2, h3, h4, h5, h6⟩, h7⟩, h8⟩, h9⟩ := h
    rw [X.frames, List.length_cons] at h2 h3
    have q1 := X.heapSize
    have q2 := X.used
    simp only [hF, hU, List.length_cons, State.stackLimits_setFrames, State.stackBytes_setFrames, hl9, hb9]
    refine ⟨⟨⟨⟨by omega, by omega, by omega, by omega, by omega, h6⟩, ?_⟩, ?_⟩, X.book⟩
    · show T.heap.size + R'.cells ≤ e.platform.maxCells
      omega
    · show T.slotsUsed + R'.slots ≤ e.platform.maxSlots
      omega
  · rw [State.stackLimits_setFrames]; rfl
  · rw [State.stackBytes_setFrames]; rfl
  · refine ⟨?_, Nat.le_refl _, Nat.le_refl _, ?_, ?_, fun a c9 h9 => ⟨c9, h9, rfl, rfl, fun _ _ => rfl⟩⟩
    · obtain ⟨t, ht, -⟩ := State.frames_cons hr
      show T.setVm s.vm = { ((T.setVm s.vm).setFrames (.invoking m args :: below)).setFrames (T.setVm s.vm).frames with heap := T.heap, slotsUsed := T.slotsUsed }
      rw [State.setFrames_setFrames, State.setFrames_self ht]
      rfl
    · show T.slotsUsed = T.slotsUsed + ((T.heap.toList.drop T.heap.size).map (·.slots.size)).sum
      rw [List.drop_eq_nil_of_le (Nat.le_of_eq Array.length_toList)]
      rfl
    · show ((T.heap.toList.drop T.heap.size).map (·.slots.size)).sum ≤ 0
      rw [List.drop_eq_nil_of_le (Nat.le_of_eq Array.length_toList)]
      exact Nat.le_refl _
/-- 'throw new E()': new; dup; invokespecial; athrow -/
theorem vx_throw0 {cc : ByteArray} {pc : Nat} (hexec : p.tables.exec = Jvm.exec) (hb : c.code = cc) (hl : l.stackTraces = false) {own cls : String} {names : List String} {ik ic mc ms : Nat} {A : Nat → Prop}
    (hown : s.vm.findClass own = some m.cls) (hcls : Bundle.fit cls = true) (hnames : ∀ n ∈ names, Bundle.fit n = true)
    (hk : (Cond.classLink own ik cls).before args s = true) (hini : (Cond.initialized cls).before args s = true) (hat : ∀ w ∈ vx_at0 own ic cls names, w.before args s = true)
    (hgood : ∀ w ∈ Cond.classLink own ik cls :: Cond.initialized cls :: vx_at0 own ic cls names, vx_ot w = true)
    (hU : vx_Zq Bundle.tN "UNASSIGNED_STACK" Bundle.steD A s s.heap) (hN : vx_Zq Bundle.tN "SUPPRESSED_SENTINEL" Bundle.listD A s s.heap) (hS : va_S A s.heap H locs) (hsize : ls.size = c.maxLocals)
    (d0 : decode cc pc = .ok (.new ik, 3)) (d3 : decode cc (pc + 3) = .ok (.dup, 1)) (d4 : decode cc (pc + 4) = .ok (.invokespecial ic, 3)) (d7 : decode cc (pc + 7) = .ok (.athrow, 1))
    (hout : ∀ x ∈ c.exceptionTable.toList, covers x (pc + 7) = false)
    (hRframes : names.length + 3 < R.frames) (hRlocals : (rest.map fun v => v.category).sum + (13 * (names.length + 1) + 42) ≤ R.locals) (hRcells : cells + 1 ≤ R.cells) (hRslots : slots + 6 ≤ R.slots) (hlocks : meth.locks = false)
    (hx : ∀ t : State, s.vm.Alike t.vm → H.size ≤ t.heap.size → (∀ q : Nat, q < H.size → t.heap[q]? = H[q]?) → XC cls s t)
    (hf : ∀ z ∈ locs, free z.base) (hc : cells + 1 ≤ mc) (hs : slots + 6 ≤ ms) :
    W p l e R s m args below meth c H locs cells slots (vx_MQ below Qc XC args s mc ms free) (F0 m pc ls rest) := by
  intro T hT X
  have htr : e.platform.stackTraces = false := (show e.platform.stackTraces = l.stackTraces by rw [X.admits.platform]).trans hl
  have Y := vx_rebase X (R' := { frames := R.frames, locals := R.locals, cells := 1, slots := 6 }) (Nat.le_refl _) (Nat.le_refl _) hRcells hRslots
  obtain ⟨s', hA⟩ : ∃ z, z = (T.setVm s.vm).setFrames (.invoking m args :: below) := ⟨_, rfl⟩
  rw [← hA] at Y
  have hvm : s'.vm = s.vm := by rw [hA]; rfl
  have hhp : s'.heap = H := by rw [hA]; exact hT
  have hW0 : s.WarmedH s'.vm := by rw [hvm]; exact State.WarmedH.refl s
  have hat' : ∀ w ∈ vx_at0 own ic cls names, w.before args s' = true := fun w hw => vx_ot_at hW0 hvm.symm (hgood w (List.mem_cons_of_mem _ (List.mem_cons_of_mem _ hw))) (hat w hw)
  have hk' : (Cond.classLink own ik cls).before args s' = true := vx_ot_at hW0 hvm.symm (hgood _ List.mem_cons_self) hk
  have hini' : (Cond.initialized cls).before args s' = true := vx_ot_at hW0 hvm.symm (hgood _ (List.mem_cons_of_mem _ List.mem_cons_self)) hini
  have hU' : vx_Zq Bundle.tN "UNASSIGNED_STACK" Bundle.steD A s' s'.heap := by rw [hhp]; exact vx_Zq.moved hW0.alike (hU.kept hS.2.1)
  have hN' : vx_Zq Bundle.tN "SUPPRESSED_SENTINEL" Bundle.listD A s' s'.heap := by rw [hhp]; exact vx_Zq.moved hW0.alike (hN.kept hS.2.1)
  have h : ∀ w ∈ Bundle.ownAtoms0 own ic cls names, w.before args s' = true := vx_own hat' (vx_isRefq hU'.1) (vx_isRefq hN'.1) hU'.2.word hN'.2.word
  have hown' : s'.vm.findClass own = some m.cls := by rw [hvm]; exact hown
  have hins : (Cond.instantiable cls 6).before args s' = true := h _ (by simp [Bundle.ownAtoms0])
  obtain ⟨vm₁, cX, kX, hfX, hkX, -, -, X₁, st1⟩ := Y.newCold hexec (own := own) (C := cls) (index := ik) (n := 6) hown' hk' hins hini'
    (g := F0 m pc ls rest) rfl (by rw [hb]; exact d0) (Nat.le_refl _) (Nat.le_refl _)
  generalize hT1 : (T.setVm vm₁).pushCell { cls := cX, slots := kX.instanceTypes.map defaultValue, vm := .none } = T1 at X₁ st1
  have hcat : (Value.ref T.heap.size).category = 1 := rfl
  have hcellA : T1.heap[T.heap.size]? = some (freshCell cX kX) := by rw [← hT1]; exact State.heap_pushCell_size _ _
  have d3' : decode c.code (pc + 3) = .ok (.dup, 1) := by rw [hb]; exact d3
  obtain ⟨U, hsteps, hrun, hend, hW, hsame, ce, hce, hO⟩ := X₁.ctorThrow0 hexec htr (own := own) (cls := cls) (names := names) (ic := ic) hown' hcls hnames h (fun x hx => nomatch hx) hfX hkX hcellA (by rw [hhp, hT]; exact Nat.le_refl _)
    (g := { method := m, pc := pc + 4, locals := ls, stack := .ref T.heap.size :: .ref T.heap.size :: rest, locked := none }) rfl hsize rfl rfl (rest := rest) rfl
    (by rw [hb]; exact d4) (by rw [hb]; exact d7) hout hRframes (by simp only [List.map_cons, List.sum_cons, hcat]; omega) hlocks
  obtain ⟨f1, f2⟩ := vx_frame hsame
  rw [hhp] at f1 f2
  have hWs : s.WarmedH U.vm := State.WarmedH.trans hW0 hW
  have hcl : s.vm.findClass cls = some ce.cls := by
    have h9 := hO.cls
    rw [hvm] at h9
    exact h9
  have hall : s.sameButNew ({ U with vm := s.vm } : State) locs mc ms := by
    subst hA
    obtain ⟨e1, e2⟩ := hsame
    rw [State.setFrames_setFrames] at e1
    have h2 : (T.setVm s.vm).sameButNew ({ U with vm := s.vm } : State) [] (0 + 1) (0 + 6) := ⟨e1, e2⟩
    have h3 := X.same.trans h2
    rw [List.append_nil] at h3
    exact h3.mono hc hs
  refine ⟨U, ?_, .threw T.heap.size, hrun, hend, Or.inr ⟨T.heap.size, rfl, cls, ce, locs, hx U hWs.alike f1 (fun q hq => f2 q hq (fun z hz => nomatch hz)), hce, hO.vm, hcl, hWs, hall, hf⟩⟩
  refine st1 _ ?_
  show Steps p.tables e below (T1.setTop { method := m, pc := pc + 3, locals := ls, stack := .ref T.heap.size :: rest, locked := none }) _
  jvm_step X₁.here [X₁.here.top, hexec, d3', Value.category]
  exact hsteps
/-- 'throw new E("text")': new; dup; ldc; invokespecial; athrow -/
theorem vx_throwS {cc : ByteArray} {pc : Nat} (hexec : p.tables.exec = Jvm.exec) (hb : c.code = cc) (hl : l.stackTraces = false) {own cls text : String} {names : List String} {ik is ic mc ms sa : Nat} {A : Nat → Prop}
    (hown : s.vm.findClass own = some m.cls) (hcls : Bundle.fit cls = true) (hnames : ∀ n ∈ names, Bundle.fit n = true)
    (hk : (Cond.classLink own ik cls).before args s = true) (hini : (Cond.initialized cls).before args s = true) (hstr : vk_R own is text sa s) (hat : ∀ w ∈ vx_atS own ic cls names, w.before args s = true)
    (hgood : ∀ w ∈ Cond.classLink own ik cls :: Cond.initialized cls :: vx_atS own ic cls names, vx_ot w = true)
    (hU : vx_Zq Bundle.tN "UNASSIGNED_STACK" Bundle.steD A s s.heap) (hN : vx_Zq Bundle.tN "SUPPRESSED_SENTINEL" Bundle.listD A s s.heap) (hS : va_S A s.heap H locs) (hsize : ls.size = c.maxLocals)
    (d0 : decode cc pc = .ok (.new ik, 3)) (d3 : decode cc (pc + 3) = .ok (.dup, 1)) (d4 : decode cc (pc + 4) = .ok (.ldc is, 2)) (d6 : decode cc (pc + 6) = .ok (.invokespecial ic, 3)) (d9 : decode cc (pc + 9) = .ok (.athrow, 1))
    (hout : ∀ x ∈ c.exceptionTable.toList, covers x (pc + 9) = false)
    (hRframes : names.length + 3 < R.frames) (hRlocals : (rest.map fun v => v.category).sum + (13 * (names.length + 1) + 43) ≤ R.locals) (hRcells : cells + 1 ≤ R.cells) (hRslots : slots + 6 ≤ R.slots) (hlocks : meth.locks = false)
    (hx : ∀ t : State, s.vm.Alike t.vm → H.size ≤ t.heap.size → (∀ q : Nat, q < H.size → t.heap[q]? = H[q]?) → XC cls s t)
    (hf : ∀ z ∈ locs, free z.base) (hc : cells + 1 ≤ mc) (hs : slots + 6 ≤ ms) :
    W p l e R s m args below meth c H locs cells slots (vx_MQ below Qc XC args s mc ms free) (F0 m pc ls rest) := by
  intro T hT X
  have htr : e.platform.stackTraces = false := (show e.platform.stackTraces = l.stackTraces by rw [X.admits.platform]).trans hl
  have Y := vx_rebase X (R' := { frames := R.frames, locals := R.locals, cells := 1, slots := 6 }) (Nat.le_refl _) (Nat.le_refl _) hRcells hRslots
  obtain ⟨s', hA⟩ : ∃ z, z = (T.setVm s.vm).setFrames (.invoking m args :: below) := ⟨_, rfl⟩
  rw [← hA] at Y
  have hvm : s'.vm = s.vm := by rw [hA]; rfl
  have hhp : s'.heap = H := by rw [hA]; exact hT
  have hW0 : s.WarmedH s'.vm := by rw [hvm]; exact State.WarmedH.refl s
  have hat' : ∀ w ∈ vx_atS own ic cls names, w.before args s' = true := fun w hw => vx_ot_at hW0 hvm.symm (hgood w (List.mem_cons_of_mem _ (List.mem_cons_of_mem _ hw))) (hat w hw)
  have hk' : (Cond.classLink own ik cls).before args s' = true := vx_ot_at hW0 hvm.symm (hgood _ List.mem_cons_self) hk
  have hini' : (Cond.initialized cls).before args s' = true := vx_ot_at hW0 hvm.symm (hgood _ (List.mem_cons_of_mem _ List.mem_cons_self)) hini
  have hU' : vx_Zq Bundle.tN "UNASSIGNED_STACK" Bundle.steD A s' s'.heap := by rw [hhp]; exact vx_Zq.moved hW0.alike (hU.kept hS.2.1)
  have hN' : vx_Zq Bundle.tN "SUPPRESSED_SENTINEL" Bundle.listD A s' s'.heap := by rw [hhp]; exact vx_Zq.moved hW0.alike (hN.kept hS.2.1)
  have h : ∀ w ∈ Bundle.ownAtoms own ic cls names, w.before args s' = true := vx_own hat' (vx_isRefq hU'.1) (vx_isRefq hN'.1) hU'.2.word hN'.2.word
  have hown' : s'.vm.findClass own = some m.cls := by rw [hvm]; exact hown
  have hins : (Cond.instantiable cls 6).before args s' = true := h _ (by simp [Bundle.ownAtoms])
  obtain ⟨vm₁, cX, kX, hfX, hkX, -, -, X₁, st1⟩ := Y.newCold hexec (own := own) (C := cls) (index := ik) (n := 6) hown' hk' hins hini'
    (g := F0 m pc ls rest) rfl (by rw [hb]; exact d0) (Nat.le_refl _) (Nat.le_refl _)
  generalize hT1 : (T.setVm vm₁).pushCell { cls := cX, slots := kX.instanceTypes.map defaultValue, vm := .none } = T1 at X₁ st1
  have hcat : (Value.ref T.heap.size).category = 1 := rfl
  have hcellA : T1.heap[T.heap.size]? = some (freshCell cX kX) := by rw [← hT1]; exact State.heap_pushCell_size _ _
  have d3' : decode c.code (pc + 3) = .ok (.dup, 1) := by rw [hb]; exact d3
  have d4' : decode c.code (pc + 4) = .ok (.ldc is, 2) := by rw [hb]; exact d4
  have hstr' : vk_R own is text sa s' := vk_R.warm hW0 hstr
  obtain ⟨U, hsteps, hrun, hend, hW, hsame, ce, hce, hO⟩ := X₁.ctorThrowS hexec htr (own := own) (cls := cls) (names := names) (ic := ic) hown' hcls hnames h (fun x hx => nomatch hx) hfX hkX hcellA (by rw [hhp, hT]; exact Nat.le_refl _) (msg := .ref sa) rfl
    (g := { method := m, pc := pc + 6, locals := ls, stack := .ref sa :: .ref T.heap.size :: .ref T.heap.size :: rest, locked := none }) rfl hsize rfl rfl (rest := rest) rfl
    (by rw [hb]; exact d6) (by rw [hb]; exact d9) hout hRframes (by simp only [List.map_cons, List.sum_cons, hcat]; omega) hlocks
  obtain ⟨f1, f2⟩ := vx_frame hsame
  rw [hhp] at f1 f2
  have hWs : s.WarmedH U.vm := State.WarmedH.trans hW0 hW
  have hcl : s.vm.findClass cls = some ce.cls := by
    have h9 := hO.cls
    rw [hvm] at h9
    exact h9
  have hall : s.sameButNew ({ U with vm := s.vm } : State) locs mc ms := by
    subst hA
    obtain ⟨e1, e2⟩ := hsame
    rw [State.setFrames_setFrames] at e1
    have h2 : (T.setVm s.vm).sameButNew ({ U with vm := s.vm } : State) [] (0 + 1) (0 + 6) := ⟨e1, e2⟩
    have h3 := X.same.trans h2
    rw [List.append_nil] at h3
    exact h3.mono hc hs
  refine ⟨U, ?_, .threw T.heap.size, hrun, hend, Or.inr ⟨T.heap.size, rfl, cls, ce, locs, hx U hWs.alike f1 (fun q hq => f2 q hq (fun z hz => nomatch hz)), hce, hO.vm, hcl, hWs, hall, hf⟩⟩
  refine st1 _ ?_
  show Steps p.tables e below (T1.setTop { method := m, pc := pc + 3, locals := ls, stack := .ref T.heap.size :: rest, locked := none }) _
  jvm_step X₁.here [X₁.here.top, hexec, d3', Value.category]
  exact X₁.ldcString hexec (own := own) (text := text) (index := is) (a := sa) hown' hstr'.1 hstr'.2
    (g := { method := m, pc := pc + 4, locals := ls, stack := .ref T.heap.size :: .ref T.heap.size :: rest, locked := none }) rfl d4' _ hsteps
/-- 'throw new E("text")', the text by a wide index -/
theorem vx_throwSW {cc : ByteArray} {pc : Nat} (hexec : p.tables.exec = Jvm.exec) (hb : c.code = cc) (hl : l.stackTraces = false) {own cls text : String} {names : List String} {ik is ic mc ms sa : Nat} {A : Nat → Prop}
    (hown : s.vm.findClass own = some m.cls) (hcls : Bundle.fit cls = true) (hnames : ∀ n ∈ names, Bundle.fit n = true)
    (hk : (Cond.classLink own ik cls).before args s = true) (hini : (Cond.initialized cls).before args s = true) (hstr : vk_R own is text sa s) (hat : ∀ w ∈ vx_atS own ic cls names, w.before args s = true)
    (hgood : ∀ w ∈ Cond.classLink own ik cls :: Cond.initialized cls :: vx_atS own ic cls names, vx_ot w = true)
    (hU : vx_Zq Bundle.tN "UNASSIGNED_STACK" Bundle.steD A s s.heap) (hN : vx_Zq Bundle.tN "SUPPRESSED_SENTINEL" Bundle.listD A s s.heap) (hS : va_S A s.heap H locs) (hsize : ls.size = c.maxLocals)
    (d0 : decode cc pc = .ok (.new ik, 3)) (d3 : decode cc (pc + 3) = .ok (.dup, 1)) (d4 : decode cc (pc + 4) = .ok (.ldc_w is, 3)) (d7 : decode cc (pc + 7) = .ok (.invokespecial ic, 3)) (d10 : decode cc (pc + 10) = .ok (.athrow, 1))
    (hout : ∀ x ∈ c.exceptionTable.toList, covers x (pc + 10) = false)
    (hRframes : names.length + 3 < R.frames) (hRlocals : (rest.map fun v => v.category).sum + (13 * (names.length + 1) + 43) ≤ R.locals) (hRcells : cells + 1 ≤ R.cells) (hRslots : slots + 6 ≤ R.slots) (hlocks : meth.locks = false)
    (hx : ∀ t : State, s.vm.Alike t.vm → H.size ≤ t.heap.size → (∀ q : Nat, q < H.size → t.heap[q]? = H[q]?) → XC cls s t)
    (hf : ∀ z ∈ locs, free z.base) (hc : cells + 1 ≤ mc) (hs : slots + 6 ≤ ms) :
    W p l e R s m args below meth c H locs cells slots (vx_MQ below Qc XC args s mc ms free) (F0 m pc ls rest) := by
  intro T hT X
  have htr : e.platform.stackTraces = false := (show e.platform.stackTraces = l.stackTraces by rw [X.admits.platform]).trans hl
  have Y := vx_rebase X (R' := { frames := R.frames, locals := R.locals, cells := 1, slots := 6 }) (Nat.le_refl _) (Nat.le_refl _) hRcells hRslots
  obtain ⟨s', hA⟩ : ∃ z, z = (T.setVm s.vm).setFrames (.invoking m args :: below) := ⟨_, rfl⟩
  rw [← hA] at Y
  have hvm : s'.vm = s.vm := by rw [hA]; rfl
  have hhp : s'.heap = H := by rw [hA]; exact hT
  have hW0 : s.WarmedH s'.vm := by rw [hvm]; exact State.WarmedH.refl s
  have hat' : ∀ w ∈ vx_atS own ic cls names, w.before args s' = true := fun w hw => vx_ot_at hW0 hvm.symm (hgood w (List.mem_cons_of_mem _ (List.mem_cons_of_mem _ hw))) (hat w hw)
  have hk' : (Cond.classLink own ik cls).before args s' = true := vx_ot_at hW0 hvm.symm (hgood _ List.mem_cons_self) hk
  have hini' : (Cond.initialized cls).before args s' = true := vx_ot_at hW0 hvm.symm (hgood _ (List.mem_cons_of_mem _ List.mem_cons_self)) hini
  have hU' : vx_Zq Bundle.tN "UNASSIGNED_STACK" Bundle.steD A s' s'.heap := by rw [hhp]; exact vx_Zq.moved hW0.alike (hU.kept hS.2.1)
  have hN' : vx_Zq Bundle.tN "SUPPRESSED_SENTINEL" Bundle.listD A s' s'.heap := by rw [hhp]; exact vx_Zq.moved hW0.alike (hN.kept hS.2.1)
  have h : ∀ w ∈ Bundle.ownAtoms own ic cls names, w.before args s' = true := vx_own hat' (vx_isRefq hU'.1) (vx_isRefq hN'.1) hU'.2.word hN'.2.word
  have hown' : s'.vm.findClass own = some m.cls := by rw [hvm]; exact hown
  have hins : (Cond.instantiable cls 6).before args s' = true := h _ (by simp [Bundle.ownAtoms])
  obtain ⟨vm₁, cX, kX, hfX, hkX, -, -, X₁, st1⟩ := Y.newCold hexec (own := own) (C := cls) (index := ik) (n := 6) hown' hk' hins hini'
    (g := F0 m pc ls rest) rfl (by rw [hb]; exact d0) (Nat.le_refl _) (Nat.le_refl _)
  generalize hT1 : (T.setVm vm₁).pushCell { cls := cX, slots := kX.instanceTypes.map defaultValue, vm := .none } = T1 at X₁ st1
  have hcat : (Value.ref T.heap.size).category = 1 := rfl
  have hcellA : T1.heap[T.heap.size]? = some (freshCell cX kX) := by rw [← hT1]; exact State.heap_pushCell_size _ _
  have d3' : decode c.code (pc + 3) = .ok (.dup, 1) := by rw [hb]; exact d3
  have d4' : decode c.code (pc + 4) = .ok (.ldc_w is, 3) := by rw [hb]; exact d4
  have hstr' : vk_R own is text sa s' := vk_R.warm hW0 hstr
  obtain ⟨U, hsteps, hrun, hend, hW, hsame, ce, hce, hO⟩ := X₁.ctorThrowS hexec htr (own := own) (cls := cls) (names := names) (ic := ic) hown' hcls hnames h (fun x hx => nomatch hx) hfX hkX hcellA (by rw [hhp, hT]; exact Nat.le_refl _) (msg := .ref sa) rfl
    (g := { method := m, pc := pc + 7, locals := ls, stack := .ref sa :: .ref T.heap.size :: .ref T.heap.size :: rest, locked := none }) rfl hsize rfl rfl (rest := rest) rfl
    (by rw [hb]; exact d7) (by rw [hb]; exact d10) hout hRframes (by simp only [List.map_cons, List.sum_cons, hcat]; omega) hlocks
  obtain ⟨f1, f2⟩ := vx_frame hsame
  rw [hhp] at f1 f2
  have hWs : s.WarmedH U.vm := State.WarmedH.trans hW0 hW
  have hcl : s.vm.findClass cls = some ce.cls := by
    have h9 := hO.cls
    rw [hvm] at h9
    exact h9
  have hall : s.sameButNew ({ U with vm := s.vm } : State) locs mc ms := by
    subst hA
    obtain ⟨e1, e2⟩ := hsame
    rw [State.setFrames_setFrames] at e1
    have h2 : (T.setVm s.vm).sameButNew ({ U with vm := s.vm } : State) [] (0 + 1) (0 + 6) := ⟨e1, e2⟩
    have h3 := X.same.trans h2
    rw [List.append_nil] at h3
    exact h3.mono hc hs
  refine ⟨U, ?_, .threw T.heap.size, hrun, hend, Or.inr ⟨T.heap.size, rfl, cls, ce, locs, hx U hWs.alike f1 (fun q hq => f2 q hq (fun z hz => nomatch hz)), hce, hO.vm, hcl, hWs, hall, hf⟩⟩
  refine st1 _ ?_
  show Steps p.tables e below (T1.setTop { method := m, pc := pc + 3, locals := ls, stack := .ref T.heap.size :: rest, locked := none }) _
  jvm_step X₁.here [X₁.here.top, hexec, d3', Value.category]
  exact X₁.ldcStringW hexec (own := own) (text := text) (index := is) (a := sa) hown' hstr'.1 hstr'.2
    (g := { method := m, pc := pc + 4, locals := ls, stack := .ref T.heap.size :: .ref T.heap.size :: rest, locked := none }) rfl d4' _ hsteps
end Ends
section Bodies
variable {l : Launch}
theorem vx_ofW {y : MethodName} {ws ws' : List Cond} {rm : Room} {Pc : Array Value → State → Prop} {Qc : Array Value → State → Outcome → State → Prop} {XC : String → State → State → Prop} {mc ms : Nat} {free : Addr → Prop} {cc : ByteArray} {maxL : Nat} {ret : Option FieldType}
    (hy : plainName y.cls = true) (hw : ws = Cond.code y cc maxL ret :: ws')
    (body : ∀ p e s m args below meth c s₁, BodyLoose p l y (headSpec ws rm) cc maxL ret e s m args below meth c s₁ → c.maxLocals = maxL → (∀ x ∈ c.exceptionTable.toList, False) → Pc args s →
      W p l e (headSpec ws rm).room s m args below meth c s.heap [] 0 0 (vx_MQ below Qc XC args s mc ms free) (entryFrame m args maxL)) : vx_Met l y ws rm Pc Qc XC mc ms free := by
  refine MetFree.of_bodyS (code := cc) (maxLocals := maxL) (ret := ret) hy ?_ ?_
  · intro args s m h hn
    obtain ⟨meth, c, h1, h2, h3, h4, h5, h6, -, -⟩ := Cond.code_spec hn (atoms_spec (ws := ws) h _ (by rw [hw]; exact List.mem_cons_self))
    exact ⟨meth, c, h1, h2, h3, h4, h5, h6⟩
  · intro p e s m args below meth c s₁ B hml hP _
    have hh0 : s₁.heap = s.heap := by rw [B.state]; rfl
    have ht : ∀ x ∈ c.exceptionTable.toList, False := by
      obtain ⟨meth9, c9, h1, h2, -, -, -, -, h7, -⟩ := Cond.code_spec B.named (atoms_spec (ws := ws) B.pre _ (by rw [hw]; exact List.mem_cons_self))
      cases Option.some.inj (h1.symm.trans B.method)
      cases Option.some.inj (h2.symm.trans (Stand.of_body B).code)
      intro x hx
      rw [Array.isEmpty_iff.mp h7] at hx
      cases hx
    obtain ⟨t, a1, o, b1, b2, b3⟩ := body p e s m args below meth c s₁ B hml ht hP s₁ hh0 (Stand.of_body B)
    exact ⟨t, o, a1, b1, b2, b3⟩
/-- the table of a body with handlers -/
theorem vx_table {p : Program} {x y : MethodName} {S : Spec} {cc bytes : ByteArray} {maxL maxL' : Nat} {ret ret' : Option FieldType} {e : Env} {s s₁ : State} {m : MethodId} {args : Array Value} {below : List Frame} {meth : Method} {c : Code} {hh : List (Nat × Nat × Nat × Nat)}
    (B : BodyLoose p l y S cc maxL ret e s m args below meth c s₁) (h : (Cond.codeWith y bytes maxL' ret' hh).before args s = true) : c.exceptionTable.toList = tableOf hh := by
  obtain ⟨m9, meth9, c9, hn9, h1, h2, -, -, h6, -⟩ := Cond.codeWith_spec h
  cases Option.some.inj (hn9.symm.trans B.named)
  cases Option.some.inj (h1.symm.trans B.method)
  cases Option.some.inj (h2.symm.trans (Stand.of_body B).code)
  rw [← h6, table_eq]
end Bodies
end VXA
/-! ===== END ===== -/
/-! ===== BEGIN a static call of a method with an exception table ===== -/
section VXS
variable {p : Program} {l : Launch} {e : Env} {R : Room} {s : State} {m : MethodId} {args : Array Value} {below : List Frame} {meth : Method} {c : Code} {T : State} {H : Heap} {locs : List Loc} {cells slots : Nat}
abbrev vx_CSW (R : Room) (s : State) (args : Array Value) (own : String) (index : Nat) (y : MethodName) (bytes : ByteArray) (maxL : Nat) (ret : Option FieldType) (hh : List (Nat × Nat × Nat × Nat)) (ws : List Cond) (rm : Room) (mc ms n : Nat) : Prop :=
  (rm.cells = mc ∧ rm.slots = ms ∧ rm.frames + 1 ≤ R.frames ∧ 8 + (maxL + 11) + rm.locals ≤ R.locals ∧ (∀ w ∈ ws, ∀ (a' : Array Value) (U : State), s.WarmedH U.vm → w.before a' U = true) ∧ Cond.codeWith y bytes maxL ret hh ∈ ws) ∧
  (Cond.codeWith y bytes maxL ret hh).before args s = true ∧ (Cond.initialized y.cls).before args s = true ∧ (y.cls ≠ "java/lang/invoke/MethodHandle" ∧ y.cls ≠ "java/lang/invoke/VarHandle") ∧
  (∀ sig, parseMethodDescriptor y.desc = some sig → n = sig.parameters.length) ∧ (Cond.methodLink own index y).before args s = true ∧ (Cond.static y).before args s = true
theorem vx_cwSW {own : String} {index maxL mc ms : Nat} {y : MethodName} {bytes : ByteArray} {ret : Option FieldType} {hh : List (Nat × Nat × Nat × Nat)} {Ts ws ws' : List Cond} {rm : Room} (n : Nat) (ht : ∀ w ∈ Ts, w.before args s = true) (hT : GoodIn Ts (va_wsS own index y ws)) (hw : ws = Cond.codeWith y bytes maxL ret hh :: ws') (hrc : rm.cells = mc) (hrs : rm.slots = ms)
    (hd : y.cls ≠ "java/lang/invoke/MethodHandle" ∧ y.cls ≠ "java/lang/invoke/VarHandle" ∧ (parseMethodDescriptor y.desc).map (fun d => d.parameters.length) = some n) (hR : rm.frames + 1 ≤ R.frames ∧ 8 + (maxL + 11) + rm.locals ≤ R.locals) :
    vx_CSW R s args own index y bytes maxL ret hh ws rm mc ms n := by
  have ok : ∀ w ∈ va_wsS own index y ws, w.before args s = true := fun w h => ht w (hT w h).1
  have hG : GoodIn Ts ws := fun w h => hT w (by unfold va_wsS; exact List.mem_append_right _ h)
  have hc : Cond.codeWith y bytes maxL ret hh ∈ ws := by rw [hw]; exact List.mem_cons_self
  refine ⟨⟨hrc, hrs, hR.1, hR.2, pay_in ht hG, hc⟩, ht _ (hG _ hc).1, ok _ (by simp [va_wsS]), ⟨hd.1, hd.2.1⟩, fun sig h => ?_, ok _ (by simp [va_wsS]), ok _ (by simp [va_wsS])⟩
  have h2 := hd.2.2
  rw [h] at h2
  exact (Option.some.inj h2).symm
theorem vx_callSW (X : Stand p l e R s m args below meth c T locs cells slots) (hexec : p.tables.exec = Jvm.exec) {own : String} {index : Nat} {y : MethodName} {bytes : ByteArray} {maxL : Nat} {ret : Option FieldType} {hh : List (Nat × Nat × Nat × Nat)}
    (hown : s.vm.findClass own = some m.cls) (hlink : (Cond.methodLink own index y).before args s = true) (hstat : (Cond.static y).before args s = true) (hinit : (Cond.initialized y.cls).before args s = true)
    (hcode : (Cond.codeWith y bytes maxL ret hh).before args s = true) (hy : y.cls ≠ "java/lang/invoke/MethodHandle" ∧ y.cls ≠ "java/lang/invoke/VarHandle")
    {W9 : Nat} {Pre : Pt → Array Value → Prop} {Post : Pt → Array Value → Option Value → Pt → Prop} (hK : Back l R p e below s args y 3 W9 Pre Post)
    {g : JFrame} (hg : g.method = m) (hsize : g.locals.size = c.maxLocals) {argsL rest : List Value} (hlen : ∀ sig, parseMethodDescriptor y.desc = some sig → argsL.length = sig.parameters.length)
    (hstack : g.stack = argsL.reverse ++ rest) (hW : 2 * g.monitorRoom + (rest.map fun v => v.category).sum ≤ W9) (hdg : decode c.code g.pc = .ok (.invokestatic index, 3))
    (hpre : ∀ vm₁, s.WarmedH vm₁ → Pre ⟨T.setVm vm₁, locs, cells, slots⟩ argsL.toArray) :
    ∃ (v : Option Value) (vm₁ : Vm) (B : Pt), s.WarmedH vm₁ ∧ Stand p l e R s m args below meth c B.U B.locs B.cells B.slots ∧ Post ⟨T.setVm vm₁, locs, cells, slots⟩ argsL.toArray v B ∧
      ∀ target, Steps p.tables e below (B.U.setTop { g with pc := g.pc + 3, stack := v.toList ++ rest }) target → Steps p.tables e below (T.setTop g) target := by
  obtain ⟨mk, methM, cM, hnamed, hmethM, -, -, -, -, -, -, hsigM⟩ := Cond.codeWith_spec hcode
  have hstatic : methM.isStatic = true := Cond.static_spec hnamed hmethM hstat
  obtain ⟨kP, hkP, -⟩ := className_of_methodNamed hnamed
  have hinitP : kP.init = .initialized := Cond.initialized_spec (findClass_of_methodNamed hnamed) hkP hinit
  obtain ⟨vm₁, X₁, hstep₁⟩ := X.invokestatic hexec hown hlink hnamed hmethM hstatic hkP hinitP hy (g := g) hg (argsL := argsL) (rest := rest) (hlen _ hsigM) hstack hdg
  obtain ⟨v, B, X', hpost, hsteps⟩ := hK m meth c ⟨T.setVm vm₁, locs, cells, slots⟩ { g with stack := rest } (.invokestatic index) mk argsL.toArray X₁ hg hsize hdg hW (X₁.named hnamed) (hpre vm₁ X₁.warmed)
  exact ⟨v, vm₁, B, X₁.warmed, X', hpost, fun target h => hstep₁ _ fun acts => by rw [doInvoke_state]; exact hsteps.trans h⟩
theorem vx_runSW {y : MethodName} {bytes cc : ByteArray} {maxL nL mc ms n index : Nat} {ret : Option FieldType} {hh : List (Nat × Nat × Nat × Nat)} {ws : List Cond} {rm : Room} {Pc : Array Value → State → Prop} {Qc : Array Value → State → Outcome → State → Prop} {free : Addr → Prop} {Ts : List Cond} {own : String} {As rest : List Value} {g : JFrame}
    (S : CallFix p m c cc nL s args Ts own) (hM : Met l y ws rm Pc Qc mc ms free) (cw : vx_CSW R s args own index y bytes maxL ret hh ws rm mc ms n) (hp : PreS s H Pc As)
    (hg : g.method = m) (hn : As.length = n) (hsize : g.locals.size = nL) (hstack : g.stack = As.reverse ++ rest) (hW : 2 * g.monitorRoom + (rest.map fun v => v.category).sum ≤ 8) (hdg : decode cc g.pc = .ok (.invokestatic index, 3)) (hf : cells + mc ≤ R.cells ∧ slots + ms ≤ R.slots) :
    va_Run p l e R s m args below meth c H locs cells slots mc ms g rest (Qc As.toArray) (free) := by
  obtain ⟨⟨hrc, hrs, hfr, hlo, hws, hcw⟩, hcode, hini, hy, hlen, hl, hstt⟩ := cw
  have hK : Back l R p e below s args y 3 8 (PreOf R mc ms Pc) (PostOf Qc mc ms free) := va_backW (hh := hh) (bytes := bytes) (maxL := maxL) (ret := ret) hM hp.1 hrc hrs hfr hlo hws hcw (fun a' U hW => word_at hW (Or.inl (by first | rfl | simp [Cond.onTables, Cond.keeps, Cond.steady])) hini)
  obtain ⟨hx, hb, hml, ho, -⟩ := S
  intro T hT X
  obtain ⟨v, vm₁, ⟨U', l2, c2, s2⟩, hW₁, X', ⟨g', mk, t, L, e1, e2, hq, h1, hL, h2, h3⟩, st⟩ := vx_callSW X hx (hh := hh) (bytes := bytes) (maxL := maxL) (ret := ret) ho hl hstt hini hcode hy hK hg (hsize.trans hml.symm) (argsL := As) (rest := rest) (fun sig h => hn.trans (hlen sig h)) hstack hW (by rw [hb]; exact hdg)
    (fun vm₁ hW₁ => ⟨hf.1, hf.2, hp.2 (T.setVm vm₁) hT hW₁⟩)
  dsimp only [Pt.U, Pt.locs, Pt.cells, Pt.slots] at X' e1 e2 h1 h2 h3 st
  subst h1; subst h2; subst h3
  exact ⟨v, (T.setVm vm₁).calling g' mk As.toArray, t, U', L, hT, X', hL, e1, e2, hq, st⟩
/-- not caught here, past rows that name other classes: it goes on to the caller -/
theorem vx_outP {p : Program} {l : Launch} {e : Env} {R : Room} {s : State} {m : MethodId} {args : Array Value} {below : List Frame} {meth : Method} {c : Code} {H : Heap} {locs : List Loc} {cells slots : Nat} {free : Addr → Prop} {ls : Array Slot} {rest : List Value} {Qc : Array Value → State → Outcome → State → Prop} {XC : String → State → State → Prop}
    {pc : Nat} {own E : String} {ce : Cell} {q : Addr} {mc ms : Nat} (hown : s.vm.findClass own = some m.cls) (hlocks : meth.locks = false)
    (hpass : ∀ z ∈ c.exceptionTable.toList, covers z pc = false ∨ (z.catchType ≠ 0 ∧ ∃ nm : String, (Cond.classLink own z.catchType nm).before args s = true ∧ va_Nc E nm s)) (hcell : H[q]? = some ce) (hv : ce.vm = .none) (hcl : s.vm.findClass E = some ce.cls)
    (hx : ∀ t : State, t.heap = H → s.vm.Alike t.vm → XC E s t) (hf : ∀ z ∈ locs, free z.base) (hc : cells ≤ mc) (hs : slots ≤ ms) :
    vx_W p l e R s m args below meth c H locs cells slots (vx_MQ below Qc XC args s mc ms free) (F0 m pc ls rest) q := by
  intro T hT X
  have hpl : e.platform.magicAccessors = ({} : Platform).magicAccessors := by rw [X.admits.platform]
  obtain ⟨vm', hW', X', st⟩ := X.outThrough hlocks q (g := F0 m pc ls rest) rfl rfl rfl (cell := ce) (by rw [hT]; exact hcell) (by rw [hv]; rfl)
    (by obtain ⟨k9, h9, -⟩ := Vm.findClass_spec hcl; exact ⟨k9, h9⟩) (fun z hz => by
      rcases hpass z hz with h | ⟨hz0, nm, hl1, hn1⟩
      · exact Or.inl h
      · obtain ⟨c6, hc6, hcl6⟩ := Cond.classLink_spec hown hl1 e.platform hpl
        obtain ⟨a8, b8, h1, h2, h3⟩ := hn1
        cases Option.some.inj (h1.symm.trans hcl)
        cases Option.some.inj (h2.symm.trans hc6)
        exact Or.inr ⟨hz0, _, hcl6, h3⟩)
  obtain ⟨g₀, hfr⟩ := X'.frames_eq
  have hcell9 : ((T.setVm vm').setFrames (.throwing q :: below)).heap[q]? = some ce := by
    show T.heap[q]? = some ce
    rw [hT]; exact hcell
  have hend : Ended ((T.setVm vm').setFrames (.throwing q :: below)) below (.threw q) := State.frames_setFrames _ (State.cur_lt_of_frames hfr)
  refine ⟨(T.setVm vm').setFrames (.throwing q :: below), ?_, .threw q, X'.here.running, hend, Or.inr ⟨q, rfl, E, ce, locs, hx _ hT (X'.ends _).1.alike, hcell9, hv, hcl, (X'.ends _).1, (X'.ends _).2.mono hc hs, hf⟩⟩
  rw [X.pushThrowing_eq]
  exact st
/-- a thing of a world lies in the heap -/
theorem vx_lt {D : va_G} {cl : List vw_C} {ws : va_W} {H1 : Heap} (h : va_P D cl ws H1) {k : Nat} {q : Nat × va_E} (hk : ws[k]? = some q) : q.1 < H1.size := (h k q hk).lt
end VXS
/-! ===== END ===== -/
/-! ===== BEGIN methods with a table of their own: called by a name, returning or throwing ===== -/
section VXH
/-! vx_backW, vx_callVX, vx_callSX, vx_callVW, vx_runVW, vx_runVX, vx_runSX, vx_ofWH follow the same proofs as their sisters above (Free/Laws.lean, Shelf42/LK1.lean); vx_outP calls Shelf42/NT130.lean (outThrough). -/
section
variable {l : Launch} {R : Room} {p : Program} {e : Env} {below : List Frame} {s : State} {sargs : Array Value} {y : MethodName} {len W9 : Nat}
theorem vx_backW {ws : List Cond} {rm : Room} {Pc : Array Value → State → Prop} {Qc : Array Value → State → Outcome → State → Prop} {XC : String → State → State → Prop} {mc ms : Nat} {free : Addr → Prop} {bytes : ByteArray} {maxL : Nat} {ret : Option FieldType} {hh : List (Nat × Nat × Nat × Nat)}
    (hM : vx_Met l y ws rm Pc Qc XC mc ms free) (hblind : FrameBlind Pc) (hrc : rm.cells = mc) (hrs : rm.slots = ms)
    (hframes : rm.frames + 1 ≤ R.frames) (hlocals : W9 + (maxL + 11) + rm.locals ≤ R.locals)
    (hws : ∀ w ∈ ws, ∀ a' U, s.WarmedH U.vm → w.before a' U = true) (hcode : Cond.codeWith y bytes maxL ret hh ∈ ws) (hinit : ∀ a' U, s.WarmedH U.vm → (Cond.initialized y.cls).before a' U = true) :
    vx_Back l R p e below s sargs y len W9 (PreOf R mc ms Pc) (PostOf Qc mc ms free) (vx_Post XC mc ms free) := by
  intro m meth c A g ig mk a X hg hsize hdg hW hn hp
  have h1 : (headSpec ws rm).pre.before a A.U = true := atoms_intro fun w hw => hws w hw _ _ X.warmed
  have h2 : (Cond.codeWith y bytes maxL ret hh).before a A.U = true := hws _ hcode _ _ X.warmed
  have h3 : (Cond.initialized y.cls).before a A.U = true := hinit _ _ X.warmed
  have h4 : A.cells + (headSpec ws rm).room.cells ≤ R.cells := by rw [show (headSpec ws rm).room.cells = mc from hrc]; exact hp.1
  have h5 : A.slots + (headSpec ws rm).room.slots ≤ R.slots := by rw [show (headSpec ws rm).room.slots = ms from hrs]; exact hp.2.1
  have hPc : Pc a (A.U.calling g mk a) := hblind _ _ _ _ hp.2.2
  obtain ⟨U, Ls, c0, s0⟩ := A
  dsimp only [Pt.U, Pt.locs, Pt.cells, Pt.slots] at h1 h2 h3 h4 h5 X hn hPc ⊢
  obtain ⟨m9, methY, cY, hn9, hmY, hcY, -, hlY, -⟩ := Cond.codeWith_spec h2
  cases Option.some.inj (hn9.symm.trans hn)
  obtain ⟨kY, hkY, -⟩ := className_of_methodNamed hn
  have hinitY : kY.init = .initialized := Cond.initialized_spec (findClass_of_methodNamed hn) hkY h3
  have h : At U g.method c below := by rw [hg]; exact X.here
  have hlocals9 : W9 + (maxL + 11) + (headSpec ws rm).room.locals ≤ R.locals := hlocals
  have happ : (headSpec ws rm).appliesLoose y e.platform (U.calling g mk a) = true :=
    Spec.appliesLoose_calling (g := g) h hdg hn hkY hinitY
      (X.room_calling (g := g) (R' := (headSpec ws rm).room) hsize hmY hcY hframes (by rw [hlY]; omega) h4 h5) h1
  obtain ⟨mid, hmid⟩ := h.above
  have hfr : (U.setTop g).frames = (.java g :: mid) ++ below := by rw [State.frames_setTop' g h.top, hmid]; rfl
  obtain ⟨o, s₂, hsteps, -, hend, hq⟩ := Steps.callFree hM p X.admits X.cas X.clock (acts := []) hfr happ hPc trivial
  have hq' : vx_Q Qc XC mc ms free a (U.calling g mk a) o s₂ := hq
  rw [State.frames_setTop' g h.top] at hend
  obtain ⟨g₀, hg0⟩ := Option.isSome_iff_exists.mp h.top
  obtain ⟨r, hr⟩ := State.topJava?_eq_some.mp hg0
  have hr' : (({ U with heap := s₂.heap, slotsUsed := s₂.slotsUsed } : State).setVm s₂.vm).frames = .java g₀ :: r := hr
  rcases hq' with ⟨hqc, L, hfe, hL⟩ | ⟨q, rfl, E, ce, L, hx, hce, hcv, hcl, hW₂, hsm, hL⟩
  · obtain ⟨⟨v, rfl⟩, hW₂, e2, q2, q3, q4, q5, q6⟩ := id hfe
    have e3 : s₂ = ({ (U.calling g mk a).setFrames s₂.frames with heap := s₂.heap, slotsUsed := s₂.slotsUsed } : State).setVm s₂.vm := by
      have : s₂ = ({ s₂ with vm := (U.calling g mk a).vm } : State).setVm s₂.vm := rfl
      rw [e2] at this
      exact this
    obtain ⟨c₂, i₂, len₂, hc₂, hd₂, hf₂⟩ := hend
    have hW' : U.WarmedH s₂.vm := hW₂
    have hcc : c₂ = c := by
      have h1 : s₂.code? g.method = U.code? g.method := by
        rw [State.code?_eq, State.code?_eq, hW'.alike.method?]
      exact Option.some.inj (hc₂.symm.trans (h1.trans h.code))
    subst hcc
    have hlen : len₂ = len := by rw [hdg] at hd₂; cases hd₂; rfl
    subst hlen
    have hs₂ : s₂ = (({ U with heap := s₂.heap, slotsUsed := s₂.slotsUsed } : State).setVm s₂.vm).setTop { g with pc := g.pc + len₂, stack := v.toList ++ g.stack } := by
      refine e3.trans ?_
      rw [hf₂, State.calling_eq h.top, State.setFrames_setFrames, State.setTop_of_frames _ hr', hr]
      rfl
    have hsame : U.sameButNew ({ U with heap := s₂.heap, slotsUsed := s₂.slotsUsed } : State) L mc ms := by
      refine ⟨?_, q2, q3, q4, q5, q6⟩
      obtain ⟨t, ht, -⟩ := State.frames_cons hr
      show ({ U with heap := s₂.heap, slotsUsed := s₂.slotsUsed } : State) = { U.setFrames U.frames with heap := s₂.heap, slotsUsed := s₂.slotsUsed }
      rw [State.setFrames_self ht]
    subst hg
    refine Or.inl ⟨v, ⟨(({ U with heap := s₂.heap, slotsUsed := s₂.slotsUsed } : State).setVm s₂.vm), Ls ++ L, c0 + mc, s0 + ms⟩,
      ⟨X.admits, X.cas, X.clock, X.frames, X.room, X.hears, X.method, X.code, (X.here.setHeapUsed s₂.heap s₂.slotsUsed).setVm hW'.alike, X.tail, State.WarmedH.trans X.warmed hW', X.limits, X.bytes, X.same.trans (hsame.setVm s.vm)⟩,
      ⟨g, mk, s₂, L, rfl, rfl, hqc, rfl, hL, rfl, rfl⟩, ?_⟩
    show Steps p.tables e below _ ((({ U with heap := s₂.heap, slotsUsed := s₂.slotsUsed } : State).setVm s₂.vm).setTop { g with pc := g.pc + len₂, stack := v.toList ++ g.stack })
    rw [← hs₂]
    exact hsteps
  · obtain ⟨e2, q2, q3, q4, q5, q6⟩ := id hsm
    have e3 : s₂ = ({ (U.calling g mk a).setFrames s₂.frames with heap := s₂.heap, slotsUsed := s₂.slotsUsed } : State).setVm s₂.vm := by
      have : s₂ = ({ s₂ with vm := (U.calling g mk a).vm } : State).setVm s₂.vm := rfl
      rw [e2] at this
      exact this
    have hf₂ : s₂.frames = .throwing q :: .java g :: U.frames.tail := hend
    have hW' : U.WarmedH s₂.vm := hW₂
    have hs₂ : s₂ = ((({ U with heap := s₂.heap, slotsUsed := s₂.slotsUsed } : State).setVm s₂.vm).setTop g).pushFrame (.throwing q) := by
      refine e3.trans ?_
      rw [hf₂, State.calling_eq h.top, State.setFrames_setFrames, State.pushFrame, State.frames_setTop _ hr', State.setTop_of_frames _ hr', State.setFrames_setFrames, hr]
      rfl
    have hsame : U.sameButNew ({ U with heap := s₂.heap, slotsUsed := s₂.slotsUsed } : State) L mc ms := by
      refine ⟨?_, q2, q3, q4, q5, q6⟩
      obtain ⟨t, ht, -⟩ := State.frames_cons hr
      show ({ U with heap := s₂.heap, slotsUsed := s₂.slotsUsed } : State) = { U.setFrames U.frames with heap := s₂.heap, slotsUsed := s₂.slotsUsed }
      rw [State.setFrames_self ht]
    subst hg
    refine Or.inr ⟨q, ⟨(({ U with heap := s₂.heap, slotsUsed := s₂.slotsUsed } : State).setVm s₂.vm), Ls ++ L, c0 + mc, s0 + ms⟩,
      ⟨X.admits, X.cas, X.clock, X.frames, X.room, X.hears, X.method, X.code, (X.here.setHeapUsed s₂.heap s₂.slotsUsed).setVm hW'.alike, X.tail, State.WarmedH.trans X.warmed hW', X.limits, X.bytes, X.same.trans (hsame.setVm s.vm)⟩,
      ⟨g, mk, s₂, L, E, ce, rfl, rfl, hx, hce, hcv, hcl, rfl, hL, rfl, rfl⟩, ?_⟩
    show Steps p.tables e below _ (((({ U with heap := s₂.heap, slotsUsed := s₂.slotsUsed } : State).setVm s₂.vm).setTop g).pushFrame (.throwing q))
    rw [← hs₂]
    exact hsteps
end
variable {p : Program} {l : Launch} {e : Env} {R : Room} {s : State} {m : MethodId} {args : Array Value} {below : List Frame} {meth : Method} {c : Code} {T : State} {H : Heap} {locs : List Loc} {cells slots : Nat}
theorem vx_callVX (X : Stand p l e R s m args below meth c T locs cells slots) (hexec : p.tables.exec = Jvm.exec) {own C : String} {index : Nat} {y : MethodName} {bytes : ByteArray} {maxL : Nat} {ret : Option FieldType} {hh : List (Nat × Nat × Nat × Nat)}
    (hown : s.vm.findClass own = some m.cls) (hlink : (Cond.methodLink own index y).before args s = true) (hinst : (Cond.instanceMethod y).before args s = true) (hsel : (Cond.selects C y y).before args s = true)
    (hcode : (Cond.codeWith y bytes maxL ret hh).before args s = true) (hy : y.cls ≠ "java/lang/invoke/MethodHandle" ∧ y.cls ≠ "java/lang/invoke/VarHandle")
    {W9 : Nat} {Pre : Pt → Array Value → Prop} {Post : Pt → Array Value → Option Value → Pt → Prop} {PostX : Pt → Array Value → Addr → Pt → Prop} (hK : vx_Back l R p e below s args y 3 W9 Pre Post PostX)
    {b : Addr} {cellB : Cell} (hcell : T.heap[b]? = some cellB) (hobj : cellB.vm.isStatics = false) (hcls : s.vm.findClass C = some cellB.cls)
    {g : JFrame} (hg : g.method = m) (hsize : g.locals.size = c.maxLocals) {argsL rest : List Value} (hlen : ∀ sig, parseMethodDescriptor y.desc = some sig → argsL.length = sig.parameters.length)
    (hstack : g.stack = argsL.reverse ++ .ref b :: rest) (hW : 2 * g.monitorRoom + (rest.map fun v => v.category).sum ≤ W9) (hdg : decode c.code g.pc = .ok (.invokevirtual index, 3))
    (hpre : ∀ vm₁, s.WarmedH vm₁ → Pre ⟨T.setVm vm₁, locs, cells, slots⟩ (Value.ref b :: argsL).toArray) :
    (∃ (v : Option Value) (vm₁ : Vm) (B : Pt), s.WarmedH vm₁ ∧ Stand p l e R s m args below meth c B.U B.locs B.cells B.slots ∧ Post ⟨T.setVm vm₁, locs, cells, slots⟩ (Value.ref b :: argsL).toArray v B ∧
      ∀ target, Steps p.tables e below (B.U.setTop { g with pc := g.pc + 3, stack := v.toList ++ rest }) target → Steps p.tables e below (T.setTop g) target) ∨
    (∃ (q : Addr) (vm₁ : Vm) (B : Pt), s.WarmedH vm₁ ∧ Stand p l e R s m args below meth c B.U B.locs B.cells B.slots ∧ PostX ⟨T.setVm vm₁, locs, cells, slots⟩ (Value.ref b :: argsL).toArray q B ∧
      Steps p.tables e below (T.setTop g) ((B.U.setTop { g with stack := rest }).pushFrame (.throwing q))) := by
  obtain ⟨mk, methM, hnamed, hmethM, hstM, habM⟩ := Cond.instanceMethod_spec hinst
  obtain ⟨m8, methM', cM, hn8, hmethM', -, -, -, -, -, -, hsigM⟩ := Cond.codeWith_spec hcode
  cases Option.some.inj (hn8.symm.trans hnamed)
  cases hmethM.symm.trans hmethM'
  obtain ⟨c2, r2, m2, q1, q2, q3, q4, kP, hkP, hkPi⟩ := Cond.selects_spec hsel
  cases hcls.symm.trans q1
  cases (State.methodFound?_of_named hnamed hy).symm.trans q2
  cases hnamed.symm.trans q3
  have hselP : selectMethod e.platform s.vm cellB.cls mk = .method mk := by rw [Launch.admits_selectMethod X.admits]; exact q4
  obtain ⟨vm₁, X₁, hstep₁⟩ := X.invokevirtual hexec hown hlink hnamed hmethM hstM hkP hkPi hy (a := b) (cell := cellB) hcell
    (fun z h => by rw [h] at hobj; cases hobj) hselP hmethM habM hkP hkPi (g := g) hg (argsL := argsL) (rest := rest) (hlen _ hsigM) hstack hdg
  rcases hK m meth c ⟨T.setVm vm₁, locs, cells, slots⟩ { g with stack := rest } (.invokevirtual index) mk (Value.ref b :: argsL).toArray X₁ hg hsize hdg hW (X₁.named hnamed) (hpre vm₁ X₁.warmed) with ⟨v, B, X', hpost, hsteps⟩ | ⟨q, B, X', hpost, hsteps⟩
  · exact Or.inl ⟨v, vm₁, B, X₁.warmed, X', hpost, fun target h => hstep₁ _ fun acts => by rw [doInvoke_state]; exact hsteps.trans h⟩
  · exact Or.inr ⟨q, vm₁, B, X₁.warmed, X', hpost, hstep₁ _ fun acts => by rw [doInvoke_state]; exact hsteps⟩
theorem vx_callSX (X : Stand p l e R s m args below meth c T locs cells slots) (hexec : p.tables.exec = Jvm.exec) {own : String} {index : Nat} {y : MethodName} {bytes : ByteArray} {maxL : Nat} {ret : Option FieldType} {hh : List (Nat × Nat × Nat × Nat)}
    (hown : s.vm.findClass own = some m.cls) (hlink : (Cond.methodLink own index y).before args s = true) (hstat : (Cond.static y).before args s = true) (hinit : (Cond.initialized y.cls).before args s = true)
    (hcode : (Cond.codeWith y bytes maxL ret hh).before args s = true) (hy : y.cls ≠ "java/lang/invoke/MethodHandle" ∧ y.cls ≠ "java/lang/invoke/VarHandle")
    {W9 : Nat} {Pre : Pt → Array Value → Prop} {Post : Pt → Array Value → Option Value → Pt → Prop} {PostX : Pt → Array Value → Addr → Pt → Prop} (hK : vx_Back l R p e below s args y 3 W9 Pre Post PostX)
    {g : JFrame} (hg : g.method = m) (hsize : g.locals.size = c.maxLocals) {argsL rest : List Value} (hlen : ∀ sig, parseMethodDescriptor y.desc = some sig → argsL.length = sig.parameters.length)
    (hstack : g.stack = argsL.reverse ++ rest) (hW : 2 * g.monitorRoom + (rest.map fun v => v.category).sum ≤ W9) (hdg : decode c.code g.pc = .ok (.invokestatic index, 3))
    (hpre : ∀ vm₁, s.WarmedH vm₁ → Pre ⟨T.setVm vm₁, locs, cells, slots⟩ argsL.toArray) :
    (∃ (v : Option Value) (vm₁ : Vm) (B : Pt), s.WarmedH vm₁ ∧ Stand p l e R s m args below meth c B.U B.locs B.cells B.slots ∧ Post ⟨T.setVm vm₁, locs, cells, slots⟩ argsL.toArray v B ∧
      ∀ target, Steps p.tables e below (B.U.setTop { g with pc := g.pc + 3, stack := v.toList ++ rest }) target → Steps p.tables e below (T.setTop g) target) ∨
    (∃ (q : Addr) (vm₁ : Vm) (B : Pt), s.WarmedH vm₁ ∧ Stand p l e R s m args below meth c B.U B.locs B.cells B.slots ∧ PostX ⟨T.setVm vm₁, locs, cells, slots⟩ argsL.toArray q B ∧
      Steps p.tables e below (T.setTop g) ((B.U.setTop { g with stack := rest }).pushFrame (.throwing q))) := by
  obtain ⟨mk, methM, cM, hnamed, hmethM, -, -, -, -, -, -, hsigM⟩ := Cond.codeWith_spec hcode
  have hstatic : methM.isStatic = true := Cond.static_spec hnamed hmethM hstat
  obtain ⟨kP, hkP, -⟩ := className_of_methodNamed hnamed
  have hinitP : kP.init = .initialized := Cond.initialized_spec (findClass_of_methodNamed hnamed) hkP hinit
  obtain ⟨vm₁, X₁, hstep₁⟩ := X.invokestatic hexec hown hlink hnamed hmethM hstatic hkP hinitP hy (g := g) hg (argsL := argsL) (rest := rest) (hlen _ hsigM) hstack hdg
  rcases hK m meth c ⟨T.setVm vm₁, locs, cells, slots⟩ { g with stack := rest } (.invokestatic index) mk argsL.toArray X₁ hg hsize hdg hW (X₁.named hnamed) (hpre vm₁ X₁.warmed) with ⟨v, B, X', hpost, hsteps⟩ | ⟨q, B, X', hpost, hsteps⟩
  · exact Or.inl ⟨v, vm₁, B, X₁.warmed, X', hpost, fun target h => hstep₁ _ fun acts => by rw [doInvoke_state]; exact hsteps.trans h⟩
  · exact Or.inr ⟨q, vm₁, B, X₁.warmed, X', hpost, hstep₁ _ fun acts => by rw [doInvoke_state]; exact hsteps⟩
theorem vx_callVW (X : Stand p l e R s m args below meth c T locs cells slots) (hexec : p.tables.exec = Jvm.exec) {own C : String} {index : Nat} {y : MethodName} {bytes : ByteArray} {maxL : Nat} {ret : Option FieldType} {hh : List (Nat × Nat × Nat × Nat)}
    (hown : s.vm.findClass own = some m.cls) (hlink : (Cond.methodLink own index y).before args s = true) (hinst : (Cond.instanceMethod y).before args s = true) (hsel : (Cond.selects C y y).before args s = true)
    (hcode : (Cond.codeWith y bytes maxL ret hh).before args s = true) (hy : y.cls ≠ "java/lang/invoke/MethodHandle" ∧ y.cls ≠ "java/lang/invoke/VarHandle")
    {W9 : Nat} {Pre : Pt → Array Value → Prop} {Post : Pt → Array Value → Option Value → Pt → Prop} (hK : Back l R p e below s args y 3 W9 Pre Post)
    {b : Addr} {cellB : Cell} (hcell : T.heap[b]? = some cellB) (hobj : cellB.vm.isStatics = false) (hcls : s.vm.findClass C = some cellB.cls)
    {g : JFrame} (hg : g.method = m) (hsize : g.locals.size = c.maxLocals) {argsL rest : List Value} (hlen : ∀ sig, parseMethodDescriptor y.desc = some sig → argsL.length = sig.parameters.length)
    (hstack : g.stack = argsL.reverse ++ .ref b :: rest) (hW : 2 * g.monitorRoom + (rest.map fun v => v.category).sum ≤ W9) (hdg : decode c.code g.pc = .ok (.invokevirtual index, 3))
    (hpre : ∀ vm₁, s.WarmedH vm₁ → Pre ⟨T.setVm vm₁, locs, cells, slots⟩ (Value.ref b :: argsL).toArray) :
    ∃ (v : Option Value) (vm₁ : Vm) (B : Pt), s.WarmedH vm₁ ∧ Stand p l e R s m args below meth c B.U B.locs B.cells B.slots ∧ Post ⟨T.setVm vm₁, locs, cells, slots⟩ (Value.ref b :: argsL).toArray v B ∧
      ∀ target, Steps p.tables e below (B.U.setTop { g with pc := g.pc + 3, stack := v.toList ++ rest }) target → Steps p.tables e below (T.setTop g) target := by
  obtain ⟨mk, methM, hnamed, hmethM, hstM, habM⟩ := Cond.instanceMethod_spec hinst
  obtain ⟨m8, methM', cM, hn8, hmethM', -, -, -, -, -, -, hsigM⟩ := Cond.codeWith_spec hcode
  cases Option.some.inj (hn8.symm.trans hnamed)
  cases hmethM.symm.trans hmethM'
  obtain ⟨c2, r2, m2, q1, q2, q3, q4, kP, hkP, hkPi⟩ := Cond.selects_spec hsel
  cases hcls.symm.trans q1
  cases (State.methodFound?_of_named hnamed hy).symm.trans q2
  cases hnamed.symm.trans q3
  have hselP : selectMethod e.platform s.vm cellB.cls mk = .method mk := by rw [Launch.admits_selectMethod X.admits]; exact q4
  obtain ⟨vm₁, X₁, hstep₁⟩ := X.invokevirtual hexec hown hlink hnamed hmethM hstM hkP hkPi hy (a := b) (cell := cellB) hcell
    (fun z h => by rw [h] at hobj; cases hobj) hselP hmethM habM hkP hkPi (g := g) hg (argsL := argsL) (rest := rest) (hlen _ hsigM) hstack hdg
  obtain ⟨v, B, X', hpost, hsteps⟩ := hK m meth c ⟨T.setVm vm₁, locs, cells, slots⟩ { g with stack := rest } (.invokevirtual index) mk (Value.ref b :: argsL).toArray X₁ hg hsize hdg hW (X₁.named hnamed) (hpre vm₁ X₁.warmed)
  exact ⟨v, vm₁, B, X₁.warmed, X', hpost, fun target h => hstep₁ _ fun acts => by rw [doInvoke_state]; exact hsteps.trans h⟩
abbrev vx_CVW (R : Room) (s : State) (args : Array Value) (own C : String) (index : Nat) (y : MethodName) (bytes : ByteArray) (maxL : Nat) (ret : Option FieldType) (hh : List (Nat × Nat × Nat × Nat)) (ws : List Cond) (rm : Room) (mc ms n : Nat) : Prop :=
  (rm.cells = mc ∧ rm.slots = ms ∧ rm.frames + 1 ≤ R.frames ∧ 8 + (maxL + 11) + rm.locals ≤ R.locals ∧ (∀ w ∈ ws, ∀ (a' : Array Value) (U : State), s.WarmedH U.vm → w.before a' U = true) ∧ Cond.codeWith y bytes maxL ret hh ∈ ws) ∧
  (Cond.codeWith y bytes maxL ret hh).before args s = true ∧ (Cond.initialized y.cls).before args s = true ∧ (y.cls ≠ "java/lang/invoke/MethodHandle" ∧ y.cls ≠ "java/lang/invoke/VarHandle") ∧
  (∀ sig, parseMethodDescriptor y.desc = some sig → n = sig.parameters.length) ∧ (Cond.methodLink own index y).before args s = true ∧ (Cond.instanceMethod y).before args s = true ∧ (Cond.selects C y y).before args s = true
theorem vx_cwVW {own C : String} {index maxL mc ms : Nat} {y : MethodName} {bytes : ByteArray} {ret : Option FieldType} {hh : List (Nat × Nat × Nat × Nat)} {Ts ws ws' : List Cond} {rm : Room} (n : Nat) (ht : ∀ w ∈ Ts, w.before args s = true) (hT : GoodIn Ts (wsV own index C y ws)) (hw : ws = Cond.codeWith y bytes maxL ret hh :: ws') (hrc : rm.cells = mc) (hrs : rm.slots = ms)
    (hd : y.cls = C ∧ y.cls ≠ "java/lang/invoke/MethodHandle" ∧ y.cls ≠ "java/lang/invoke/VarHandle" ∧ (parseMethodDescriptor y.desc).map (fun d => d.parameters.length) = some n) (hR : rm.frames + 1 ≤ R.frames ∧ 8 + (maxL + 11) + rm.locals ≤ R.locals) :
    vx_CVW R s args own C index y bytes maxL ret hh ws rm mc ms n := by
  obtain ⟨hC, hd⟩ := hd
  subst hC
  have ok : ∀ w ∈ wsV own index y.cls y ws, w.before args s = true := fun w h => ht w (hT w h).1
  have hG : GoodIn Ts ws := fun w h => hT w (by unfold wsV; exact List.mem_append_right _ h)
  have hc : Cond.codeWith y bytes maxL ret hh ∈ ws := by rw [hw]; exact List.mem_cons_self
  refine ⟨⟨hrc, hrs, hR.1, hR.2, pay_in ht hG, hc⟩, ht _ (hG _ hc).1, ok _ (by simp [wsV]), ⟨hd.1, hd.2.1⟩, fun sig h => ?_, ok _ (by simp [wsV]), ok _ (by simp [wsV]), ok _ (by simp [wsV])⟩
  have h2 := hd.2.2
  rw [h] at h2
  exact (Option.some.inj h2).symm
theorem vx_runVW {y : MethodName} {bytes cc : ByteArray} {maxL nL mc ms n index : Nat} {ret : Option FieldType} {hh : List (Nat × Nat × Nat × Nat)} {ws : List Cond} {rm : Room} {Pc : Array Value → State → Prop} {Qc : Array Value → State → Outcome → State → Prop} {free : Addr → Prop} {Ts : List Cond} {own C : String} {b : Addr} {As rest : List Value} {g : JFrame}
    (S : CallFix p m c cc nL s args Ts own) (hM : Met l y ws rm Pc Qc mc ms free) (cw : vx_CVW R s args own C index y bytes maxL ret hh ws rm mc ms n) (hp : PreV s H C b Pc As)
    (hg : g.method = m) (hn : As.length = n) (hsize : g.locals.size = nL) (hstack : g.stack = As.reverse ++ .ref b :: rest) (hW : 2 * g.monitorRoom + (rest.map fun v => v.category).sum ≤ 8) (hdg : decode cc g.pc = .ok (.invokevirtual index, 3)) (hf : cells + mc ≤ R.cells ∧ slots + ms ≤ R.slots) :
    va_Run p l e R s m args below meth c H locs cells slots mc ms g rest (Qc (Value.ref b :: As).toArray) free := by
  obtain ⟨⟨hrc, hrs, hfr, hlo, hws, hcw⟩, hcode, hini, hy, hlen, hl, hin, hse⟩ := cw
  have hK : Back l R p e below s args y 3 8 (PreOf R mc ms Pc) (PostOf Qc mc ms free) := va_backW (hh := hh) (bytes := bytes) (maxL := maxL) (ret := ret) hM hp.1 hrc hrs hfr hlo hws hcw (fun a' U hW => word_at hW (Or.inl (by first | rfl | simp [Cond.onTables, Cond.keeps, Cond.steady])) hini)
  obtain ⟨hx, hb, hml, ho, -⟩ := S
  obtain ⟨-, ⟨cellB, hcB, hoB, hclB⟩, hPc⟩ := hp
  intro T hT X
  obtain ⟨v, vm₁, ⟨U', l2, c2, s2⟩, hW₁, X', ⟨g', mk, t, L, e1, e2, hq, h1, hL, h2, h3⟩, st⟩ := vx_callVW X hx (C := C) (hh := hh) (bytes := bytes) (maxL := maxL) (ret := ret) ho hl hin hse hcode hy hK (by rw [hT]; exact hcB) hoB hclB hg (hsize.trans hml.symm) (argsL := As) (rest := rest) (fun sig h => hn.trans (hlen sig h)) hstack hW (by rw [hb]; exact hdg)
    (fun vm₁ hW₁ => ⟨hf.1, hf.2, hPc (T.setVm vm₁) hT hW₁⟩)
  dsimp only [Pt.U, Pt.locs, Pt.cells, Pt.slots] at X' e1 e2 h1 h2 h3 st
  subst h1; subst h2; subst h3
  exact ⟨v, (T.setVm vm₁).calling g' mk (Value.ref b :: As).toArray, t, U', L, hT, X', hL, e1, e2, hq, st⟩
section
variable {y : MethodName} {bytes cc : ByteArray} {maxL nL mc ms n index : Nat} {ret : Option FieldType} {ws : List Cond} {rm : Room} {Pc : Array Value → State → Prop} {Qc : Array Value → State → Outcome → State → Prop} {XC : String → State → State → Prop} {free : Addr → Prop} {Ts : List Cond} {own C : String} {b : Addr} {As rest : List Value} {g : JFrame}
theorem vx_runVX {hh : List (Nat × Nat × Nat × Nat)} (S : CallFix p m c cc nL s args Ts own) (hM : vx_Met l y ws rm Pc Qc XC mc ms free) (cw : vx_CVW R s args own C index y bytes maxL ret hh ws rm mc ms n) (hp : PreV s H C b Pc As)
    (hg : g.method = m) (hn : As.length = n) (hsize : g.locals.size = nL) (hstack : g.stack = As.reverse ++ .ref b :: rest) (hW : 2 * g.monitorRoom + (rest.map fun v => v.category).sum ≤ 8) (hdg : decode cc g.pc = .ok (.invokevirtual index, 3)) (hf : cells + mc ≤ R.cells ∧ slots + ms ≤ R.slots) :
    vx_Run p l e R s m args below meth c H locs cells slots mc ms g rest (Qc (Value.ref b :: As).toArray) XC free := by
  obtain ⟨⟨hrc, hrs, hfr, hlo, hws, hcw⟩, hcode, hini, hy, hlen, hl, hin, hse⟩ := cw
  have hK : vx_Back l R p e below s args y 3 8 (PreOf R mc ms Pc) (PostOf Qc mc ms free) (vx_Post XC mc ms free) := vx_backW (hh := hh) (bytes := bytes) (maxL := maxL) (ret := ret) hM hp.1 hrc hrs hfr hlo hws hcw (fun a' U hW => word_at hW (Or.inl (by first | rfl | simp [Cond.onTables, Cond.keeps, Cond.steady])) hini)
  obtain ⟨hx, hb, hml, ho, -⟩ := S
  obtain ⟨-, ⟨cellB, hcB, hoB, hclB⟩, hPc⟩ := hp
  intro T hT X
  rcases vx_callVX X hx (C := C) (hh := hh) (bytes := bytes) (maxL := maxL) (ret := ret) ho hl hin hse hcode hy hK (by rw [hT]; exact hcB) hoB hclB hg (hsize.trans hml.symm) (argsL := As) (rest := rest) (fun sig h => hn.trans (hlen sig h)) hstack hW (by rw [hb]; exact hdg)
    (fun vm₁ hW₁ => ⟨hf.1, hf.2, hPc (T.setVm vm₁) hT hW₁⟩) with ⟨v, vm₁, ⟨U', l2, c2, s2⟩, hW₁, X', ⟨g', mk, t, L, e1, e2, hq, h1, hL, h2, h3⟩, st⟩ | ⟨q, vm₁, ⟨U', l2, c2, s2⟩, hW₁, X', ⟨g', mk, t, L, E, ce, e1, e2, hq, hce, hcv, hcl, h1, hL, h2, h3⟩, st⟩
  · dsimp only [Pt.U, Pt.locs, Pt.cells, Pt.slots] at X' e1 e2 h1 h2 h3 st
    subst h1; subst h2; subst h3
    exact Or.inl ⟨v, (T.setVm vm₁).calling g' mk (Value.ref b :: As).toArray, t, U', L, hT, X', hL, e1, e2, hq, st⟩
  · dsimp only [Pt.U, Pt.locs, Pt.cells, Pt.slots] at X' e1 e2 h1 h2 h3 st hcl
    subst h1; subst h2; subst h3
    exact Or.inr ⟨q, (T.setVm vm₁).calling g' mk (Value.ref b :: As).toArray, t, U', L, E, ce, hT, X', hL, e1, e2, hq, hce, hcv, vx_cls hW₁ hcl, st⟩
theorem vx_runSX {hh : List (Nat × Nat × Nat × Nat)} (S : CallFix p m c cc nL s args Ts own) (hM : vx_Met l y ws rm Pc Qc XC mc ms free) (cw : vx_CSW R s args own index y bytes maxL ret hh ws rm mc ms n) (hp : PreS s H Pc As)
    (hg : g.method = m) (hn : As.length = n) (hsize : g.locals.size = nL) (hstack : g.stack = As.reverse ++ rest) (hW : 2 * g.monitorRoom + (rest.map fun v => v.category).sum ≤ 8) (hdg : decode cc g.pc = .ok (.invokestatic index, 3)) (hf : cells + mc ≤ R.cells ∧ slots + ms ≤ R.slots) :
    vx_Run p l e R s m args below meth c H locs cells slots mc ms g rest (Qc As.toArray) XC free := by
  obtain ⟨⟨hrc, hrs, hfr, hlo, hws, hcw⟩, hcode, hini, hy, hlen, hl, hstt⟩ := cw
  have hK : vx_Back l R p e below s args y 3 8 (PreOf R mc ms Pc) (PostOf Qc mc ms free) (vx_Post XC mc ms free) := vx_backW (hh := hh) (bytes := bytes) (maxL := maxL) (ret := ret) hM hp.1 hrc hrs hfr hlo hws hcw (fun a' U hW => word_at hW (Or.inl (by first | rfl | simp [Cond.onTables, Cond.keeps, Cond.steady])) hini)
  obtain ⟨hx, hb, hml, ho, -⟩ := S
  intro T hT X
  rcases vx_callSX X hx (hh := hh) (bytes := bytes) (maxL := maxL) (ret := ret) ho hl hstt hini hcode hy hK hg (hsize.trans hml.symm) (argsL := As) (rest := rest) (fun sig h => hn.trans (hlen sig h)) hstack hW (by rw [hb]; exact hdg)
    (fun vm₁ hW₁ => ⟨hf.1, hf.2, hp.2 (T.setVm vm₁) hT hW₁⟩) with ⟨v, vm₁, ⟨U', l2, c2, s2⟩, hW₁, X', ⟨g', mk, t, L, e1, e2, hq, h1, hL, h2, h3⟩, st⟩ | ⟨q, vm₁, ⟨U', l2, c2, s2⟩, hW₁, X', ⟨g', mk, t, L, E, ce, e1, e2, hq, hce, hcv, hcl, h1, hL, h2, h3⟩, st⟩
  · dsimp only [Pt.U, Pt.locs, Pt.cells, Pt.slots] at X' e1 e2 h1 h2 h3 st
    subst h1; subst h2; subst h3
    exact Or.inl ⟨v, (T.setVm vm₁).calling g' mk As.toArray, t, U', L, hT, X', hL, e1, e2, hq, st⟩
  · dsimp only [Pt.U, Pt.locs, Pt.cells, Pt.slots] at X' e1 e2 h1 h2 h3 st hcl
    subst h1; subst h2; subst h3
    exact Or.inr ⟨q, (T.setVm vm₁).calling g' mk As.toArray, t, U', L, E, ce, hT, X', hL, e1, e2, hq, hce, hcv, vx_cls hW₁ hcl, st⟩
end
end VXH
theorem vx_ofWH {l : Launch} {y : MethodName} {ws ws' : List Cond} {rm : Room} {Pc : Array Value → State → Prop} {Qc : Array Value → State → Outcome → State → Prop} {XC : String → State → State → Prop} {mc ms : Nat} {free : Addr → Prop} {cc : ByteArray} {maxL : Nat} {ret : Option FieldType} {hh : List (Nat × Nat × Nat × Nat)}
    (hy : plainName y.cls = true) (hw : ws = Cond.codeWith y cc maxL ret hh :: ws')
    (body : ∀ p e s m args below meth c s₁, BodyLoose p l y (headSpec ws rm) cc maxL ret e s m args below meth c s₁ → c.maxLocals = maxL → Pc args s →
      W p l e (headSpec ws rm).room s m args below meth c s.heap [] 0 0 (vx_MQ below Qc XC args s mc ms free) (entryFrame m args maxL)) : vx_Met l y ws rm Pc Qc XC mc ms free := by
  refine MetFree.of_bodyS (code := cc) (maxLocals := maxL) (ret := ret) hy ?_ ?_
  · intro args s m h hn
    obtain ⟨m9, meth, c, hn9, h1, h2, h3, h4, -, h5, h6, -⟩ := Cond.codeWith_spec (atoms_spec (ws := ws) h _ (by rw [hw]; exact List.mem_cons_self))
    cases hn.symm.trans hn9
    exact ⟨meth, c, h1, h2, h3, h4, h5, h6⟩
  · intro p e s m args below meth c s₁ B hml hP _
    have hh0 : s₁.heap = s.heap := by rw [B.state]; rfl
    obtain ⟨t, a1, o, b1, b2, b3⟩ := body p e s m args below meth c s₁ B hml hP s₁ hh0 (Stand.of_body B)
    exact ⟨t, o, a1, b1, b2, b3⟩
/-! ===== END ===== -/

/-! ===== BEGIN a constructor that throws (launches without stack traces) ===== -/
section VXIA
variable {p : Program} {l : Launch} {e : Env} {R : Room} {s : State} {m : MethodId} {args : Array Value} {below : List Frame} {meth : Method} {c : Code} {T : State} {locs : List Loc} {cells slots : Nat}
theorem vx_callI (X : Stand p l e R s m args below meth c T locs cells slots) (hexec : p.tables.exec = Jvm.exec) {own : String} {index : Nat} {y : MethodName} {bytes : ByteArray} {maxL : Nat}
    (hown : s.vm.findClass own = some m.cls) (hy1 : y.name = "<init>") (hlink : (Cond.methodLink own index y).before args s = true) (hinst : (Cond.instanceMethod y).before args s = true)
    (hcode : (Cond.code y bytes maxL none).before args s = true) (hy : y.cls ≠ "java/lang/invoke/MethodHandle" ∧ y.cls ≠ "java/lang/invoke/VarHandle")
    {W9 : Nat} {Pre : Pt → Array Value → Prop} {Post : Pt → Array Value → Option Value → Pt → Prop} {PostX : Pt → Array Value → Addr → Pt → Prop} (hK : vx_Back l R p e below s args y 3 W9 Pre Post PostX)
    {g : JFrame} (hg : g.method = m) (hsize : g.locals.size = c.maxLocals) {a : Addr} {argsL rest : List Value} (hlen : ∀ sig, parseMethodDescriptor y.desc = some sig → argsL.length = sig.parameters.length)
    (hstack : g.stack = argsL.reverse ++ .ref a :: rest) (hW : 2 * g.monitorRoom + (rest.map fun v => v.category).sum ≤ W9) (hdg : decode c.code g.pc = .ok (.invokespecial index, 3))
    (hpre : ∀ vm₁, s.WarmedH vm₁ → Pre ⟨T.setVm vm₁, locs, cells, slots⟩ (Value.ref a :: argsL).toArray) :
    (∃ (v : Option Value) (vm₁ : Vm) (B : Pt), s.WarmedH vm₁ ∧ Stand p l e R s m args below meth c B.U B.locs B.cells B.slots ∧ Post ⟨T.setVm vm₁, locs, cells, slots⟩ (Value.ref a :: argsL).toArray v B ∧
      ∀ target, Steps p.tables e below (B.U.setTop { g with pc := g.pc + 3, stack := v.toList ++ rest }) target → Steps p.tables e below (T.setTop g) target) ∨
    (∃ (q : Addr) (vm₁ : Vm) (B : Pt), s.WarmedH vm₁ ∧ Stand p l e R s m args below meth c B.U B.locs B.cells B.slots ∧ PostX ⟨T.setVm vm₁, locs, cells, slots⟩ (Value.ref a :: argsL).toArray q B ∧
      Steps p.tables e below (T.setTop g) ((B.U.setTop { g with stack := rest }).pushFrame (.throwing q))) := by
  subst hg
  have hpl : e.platform.magicAccessors = ({} : Platform).magicAccessors := by rw [X.admits.platform]
  obtain ⟨mk, methM, cM, kP, vm₁, hnamed, hmethM, hcodeM, -, hlocalsM, -, hkP, -, hW₁, hstep₁⟩ := Steps.initColdArgs (e := e) X.here hexec X.warmed hpl hown hy1 hy hlink hinst hcode (f := g) rfl hlen hstack hdg
  have X₁ := X.noted hW₁
  rcases hK g.method meth c ⟨T.setVm vm₁, locs, cells, slots⟩ { g with stack := rest } (.invokespecial index) mk (Value.ref a :: argsL).toArray X₁ rfl hsize hdg hW (X₁.named hnamed) (hpre vm₁ X₁.warmed) with ⟨v, B, X', hpost, hsteps⟩ | ⟨q, B, X', hpost, hsteps⟩
  · exact Or.inl ⟨v, vm₁, B, X₁.warmed, X', hpost, fun target h => hstep₁ _ fun acts => by rw [doInvoke_state]; exact hsteps.trans h⟩
  · exact Or.inr ⟨q, vm₁, B, X₁.warmed, X', hpost, hstep₁ _ fun acts => by rw [doInvoke_state]; exact hsteps⟩
end VXIA
section VXIB
variable {p : Program} {l : Launch} {e : Env} {R : Room} {s : State} {m : MethodId} {args : Array Value} {below : List Frame} {meth : Method} {c : Code} {H : Heap} {locs : List Loc} {cells slots : Nat}
variable {y : MethodName} {bytes cc : ByteArray} {maxL nL mc ms n index : Nat} {ret : Option FieldType} {ws : List Cond} {rm : Room} {Pc : Array Value → State → Prop} {Qc : Array Value → State → Outcome → State → Prop} {XC : String → State → State → Prop} {free : Addr → Prop} {Ts : List Cond} {own C : String} {b : Addr} {As rest : List Value} {g : JFrame}
theorem vx_runI (S : CallFix p m c cc nL s args Ts own) (hM : vx_Met l y ws rm Pc Qc XC mc ms free) (cw : CallB R s args own index y bytes maxL none ws rm mc ms n ∧ y.name = "<init>" ∧ (Cond.instanceMethod y).before args s = true) (hp : PreS s H Pc (.ref b :: As))
    (hg : g.method = m) (hn : As.length = n) (hsize : g.locals.size = nL) (hstack : g.stack = As.reverse ++ .ref b :: rest) (hW : 2 * g.monitorRoom + (rest.map fun v => v.category).sum ≤ 8) (hdg : decode cc g.pc = .ok (.invokespecial index, 3)) (hf : cells + mc ≤ R.cells ∧ slots + ms ≤ R.slots) :
    vx_Run p l e R s m args below meth c H locs cells slots mc ms g rest (Qc (Value.ref b :: As).toArray) XC free := by
  have hK : vx_Back l R p e below s args y 3 8 (PreOf R mc ms Pc) (PostOf Qc mc ms free) (vx_Post XC mc ms free) := vx_callBack cw.1 hM hp.1
  obtain ⟨⟨-, -, -, -, -, -, hcode, -, hy, hlen, hl⟩, hy1, hin⟩ := cw
  obtain ⟨hx, hb, hml, ho, -⟩ := S
  have hPc := hp.2
  intro T hT X
  rcases vx_callI X hx (bytes := bytes) (maxL := maxL) ho hy1 hl hin hcode hy hK hg (hsize.trans hml.symm) (a := b) (argsL := As) (rest := rest) (fun sig h => hn.trans (hlen sig h)) hstack hW (by rw [hb]; exact hdg)
    (fun vm₁ hW₁ => ⟨hf.1, hf.2, hPc (T.setVm vm₁) hT hW₁⟩) with ⟨v, vm₁, ⟨U', l2, c2, s2⟩, hW₁, X', ⟨g', mk, t, L, e1, e2, hq, h1, hL, h2, h3⟩, st⟩ | ⟨q, vm₁, ⟨U', l2, c2, s2⟩, hW₁, X', ⟨g', mk, t, L, E, ce, e1, e2, hq, hce, hcv, hcl, h1, hL, h2, h3⟩, st⟩
  · dsimp only [Pt.U, Pt.locs, Pt.cells, Pt.slots] at X' e1 e2 h1 h2 h3 st
    subst h1; subst h2; subst h3
    exact Or.inl ⟨v, (T.setVm vm₁).calling g' mk (Value.ref b :: As).toArray, t, U', L, hT, X', hL, e1, e2, hq, st⟩
  · dsimp only [Pt.U, Pt.locs, Pt.cells, Pt.slots] at X' e1 e2 h1 h2 h3 st hcl
    subst h1; subst h2; subst h3
    exact Or.inr ⟨q, (T.setVm vm₁).calling g' mk (Value.ref b :: As).toArray, t, U', L, E, ce, hT, X', hL, e1, e2, hq, hce, hcv, vx_cls hW₁ hcl, st⟩
end VXIB
/-! ===== END ===== -/
/-! ===== BEGIN a private constructor of a nest mate that throws ===== -/
section VXIC
variable {p : Program} {l : Launch} {e : Env} {R : Room} {s : State} {m : MethodId} {args : Array Value} {below : List Frame} {meth : Method} {c : Code} {T : State} {locs : List Loc} {cells slots : Nat}
theorem vx_callIN (X : Stand p l e R s m args below meth c T locs cells slots) (hexec : p.tables.exec = Jvm.exec) {own : String} {index : Nat} {host : String} {y : MethodName} {bytes : ByteArray} {maxL : Nat}
    (hown : s.vm.findClass own = some m.cls) (hy1 : y.name = "<init>") (hlink : (Cond.methodLinkNest own index y host).before args s = true) (hinst : (Cond.instanceMethod y).before args s = true)
    (hcode : (Cond.code y bytes maxL none).before args s = true) (hy : y.cls ≠ "java/lang/invoke/MethodHandle" ∧ y.cls ≠ "java/lang/invoke/VarHandle")
    {W9 : Nat} {Pre : Pt → Array Value → Prop} {Post : Pt → Array Value → Option Value → Pt → Prop} {PostX : Pt → Array Value → Addr → Pt → Prop} (hK : vx_Back l R p e below s args y 3 W9 Pre Post PostX)
    {g : JFrame} (hg : g.method = m) (hsize : g.locals.size = c.maxLocals) {a : Addr} {argsL rest : List Value} (hlen : ∀ sig, parseMethodDescriptor y.desc = some sig → argsL.length = sig.parameters.length)
    (hstack : g.stack = argsL.reverse ++ .ref a :: rest) (hW : 2 * g.monitorRoom + (rest.map fun v => v.category).sum ≤ W9) (hdg : decode c.code g.pc = .ok (.invokespecial index, 3))
    (hpre : ∀ vm₁, s.WarmedH vm₁ → Pre ⟨T.setVm vm₁, locs, cells, slots⟩ (Value.ref a :: argsL).toArray) :
    (∃ (v : Option Value) (vm₁ : Vm) (B : Pt), s.WarmedH vm₁ ∧ Stand p l e R s m args below meth c B.U B.locs B.cells B.slots ∧ Post ⟨T.setVm vm₁, locs, cells, slots⟩ (Value.ref a :: argsL).toArray v B ∧
      ∀ target, Steps p.tables e below (B.U.setTop { g with pc := g.pc + 3, stack := v.toList ++ rest }) target → Steps p.tables e below (T.setTop g) target) ∨
    (∃ (q : Addr) (vm₁ : Vm) (B : Pt), s.WarmedH vm₁ ∧ Stand p l e R s m args below meth c B.U B.locs B.cells B.slots ∧ PostX ⟨T.setVm vm₁, locs, cells, slots⟩ (Value.ref a :: argsL).toArray q B ∧
      Steps p.tables e below (T.setTop g) ((B.U.setTop { g with stack := rest }).pushFrame (.throwing q))) := by
  subst hg
  have hpl : e.platform.magicAccessors = ({} : Platform).magicAccessors := by rw [X.admits.platform]
  obtain ⟨mk, methM, cM, kP, vm₁, hnamed, hmethM, hcodeM, -, hlocalsM, -, hkP, -, hW₁, hstep₁⟩ := Steps.initColdArgsNest (e := e) X.here hexec X.warmed hpl hown hy1 hy hlink hinst hcode (f := g) rfl hlen hstack hdg
  have X₁ := X.noted hW₁
  rcases hK g.method meth c ⟨T.setVm vm₁, locs, cells, slots⟩ { g with stack := rest } (.invokespecial index) mk (Value.ref a :: argsL).toArray X₁ rfl hsize hdg hW (X₁.named hnamed) (hpre vm₁ X₁.warmed) with ⟨v, B, X', hpost, hsteps⟩ | ⟨q, B, X', hpost, hsteps⟩
  · exact Or.inl ⟨v, vm₁, B, X₁.warmed, X', hpost, fun target h => hstep₁ _ fun acts => by rw [doInvoke_state]; exact hsteps.trans h⟩
  · exact Or.inr ⟨q, vm₁, B, X₁.warmed, X', hpost, hstep₁ _ fun acts => by rw [doInvoke_state]; exact hsteps⟩
end VXIC
section VXID
variable {p : Program} {l : Launch} {e : Env} {R : Room} {s : State} {m : MethodId} {args : Array Value} {below : List Frame} {meth : Method} {c : Code} {H : Heap} {locs : List Loc} {cells slots : Nat}
theorem vx_runIN {y : MethodName} {bytes cc : ByteArray} {maxL nL mc ms n index : Nat} {ws : List Cond} {rm : Room} {Pc : Array Value → State → Prop} {Qc : Array Value → State → Outcome → State → Prop} {XC : String → State → State → Prop} {free : Addr → Prop} {Ts : List Cond} {own host : String} {b : Addr} {As rest : List Value} {g : JFrame}
    (S : CallFix p m c cc nL s args Ts own) (hM : vx_Met l y ws rm Pc Qc XC mc ms free) (cw : va_CN R s args own index y host bytes maxL none ws rm mc ms n ∧ y.name = "<init>" ∧ (Cond.instanceMethod y).before args s = true) (hp : PreS s H Pc (.ref b :: As))
    (hg : g.method = m) (hn : As.length = n) (hsize : g.locals.size = nL) (hstack : g.stack = As.reverse ++ .ref b :: rest) (hW : 2 * g.monitorRoom + (rest.map fun v => v.category).sum ≤ 8) (hdg : decode cc g.pc = .ok (.invokespecial index, 3)) (hf : cells + mc ≤ R.cells ∧ slots + ms ≤ R.slots) :
    vx_Run p l e R s m args below meth c H locs cells slots mc ms g rest (Qc (Value.ref b :: As).toArray) XC free := by
  obtain ⟨⟨⟨hrc, hrs, hfr, hlo, hws, hcw⟩, hcode, hini, hy, hlen, hl⟩, hx1, hx2⟩ := cw
  have hK : vx_Back l R p e below s args y 3 8 (PreOf R mc ms Pc) (PostOf Qc mc ms free) (vx_Post XC mc ms free) := vx_back (bytes := bytes) (maxL := maxL) (ret := none) hM hp.1 hrc hrs hfr hlo hws hcw (fun a' U hW => word_at hW (Or.inl (by first | rfl | simp [Cond.onTables, Cond.keeps, Cond.steady])) hini)
  obtain ⟨hx, hb, hml, ho, -⟩ := S
  have hPc := hp.2
  intro T hT X
  rcases vx_callIN X hx (bytes := bytes) (maxL := maxL) ho hx1 hl hx2 hcode hy hK hg (hsize.trans hml.symm) (a := b) (argsL := As) (rest := rest) (fun sig h => hn.trans (hlen sig h)) hstack hW (by rw [hb]; exact hdg)
    (fun vm₁ hW₁ => ⟨hf.1, hf.2, hPc (T.setVm vm₁) hT hW₁⟩) with ⟨v, vm₁, ⟨U', l2, c2, s2⟩, hW₁, X', ⟨g', mk, t, L, e1, e2, hq, h1, hL, h2, h3⟩, st⟩ | ⟨q, vm₁, ⟨U', l2, c2, s2⟩, hW₁, X', ⟨g', mk, t, L, E, ce, e1, e2, hq, hce, hcv, hcl, h1, hL, h2, h3⟩, st⟩
  · dsimp only [Pt.U, Pt.locs, Pt.cells, Pt.slots] at X' e1 e2 h1 h2 h3 st
    subst h1; subst h2; subst h3
    exact Or.inl ⟨v, (T.setVm vm₁).calling g' mk (Value.ref b :: As).toArray, t, U', L, hT, X', hL, e1, e2, hq, st⟩
  · dsimp only [Pt.U, Pt.locs, Pt.cells, Pt.slots] at X' e1 e2 h1 h2 h3 st hcl
    subst h1; subst h2; subst h3
    exact Or.inr ⟨q, (T.setVm vm₁).calling g' mk (Value.ref b :: As).toArray, t, U', L, E, ce, hT, X', hL, e1, e2, hq, hce, hcv, vx_cls hW₁ hcl, st⟩
end VXID
/-! ===== END ===== -/
/-! ===== BEGIN a private method of a nest mate that may throw (follows va_callVN, va_callSN, va_runVN, va_runSN) ===== -/
section
variable {p : Program} {l : Launch} {e : Env} {R : Room} {s : State} {m : MethodId} {args : Array Value} {below : List Frame} {meth : Method} {c : Code} {H : Heap} {locs : List Loc} {cells slots : Nat}
variable {T : State}
theorem vx_callVN (X : Stand p l e R s m args below meth c T locs cells slots) (hexec : p.tables.exec = Jvm.exec) {own C : String} {index : Nat} {host : String} {y : MethodName} {bytes : ByteArray} {maxL : Nat} {ret : Option FieldType}
    (hown : s.vm.findClass own = some m.cls) (hlink : (Cond.methodLinkNest own index y host).before args s = true) (hinst : (Cond.instanceMethod y).before args s = true) (hsel : (Cond.selects C y y).before args s = true)
    (hcode : (Cond.code y bytes maxL ret).before args s = true) (hy : y.cls ≠ "java/lang/invoke/MethodHandle" ∧ y.cls ≠ "java/lang/invoke/VarHandle")
    {W : Nat} {Pre : Pt → Array Value → Prop} {Post : Pt → Array Value → Option Value → Pt → Prop} {PostX : Pt → Array Value → Addr → Pt → Prop} (hK : vx_Back l R p e below s args y 3 W Pre Post PostX)
    {b : Addr} {cellB : Cell} (hcell : T.heap[b]? = some cellB) (hobj : cellB.vm.isStatics = false) (hcls : s.vm.findClass C = some cellB.cls)
    {g : JFrame} (hg : g.method = m) (hsize : g.locals.size = c.maxLocals) {argsL rest : List Value} (hlen : ∀ sig, parseMethodDescriptor y.desc = some sig → argsL.length = sig.parameters.length)
    (hstack : g.stack = argsL.reverse ++ .ref b :: rest) (hW : 2 * g.monitorRoom + (rest.map fun v => v.category).sum ≤ W) (hdg : decode c.code g.pc = .ok (.invokevirtual index, 3))
    (hpre : ∀ vm₁, s.WarmedH vm₁ → Pre ⟨T.setVm vm₁, locs, cells, slots⟩ (Value.ref b :: argsL).toArray) :
    (∃ (v : Option Value) (vm₁ : Vm) (B : Pt), s.WarmedH vm₁ ∧ Stand p l e R s m args below meth c B.U B.locs B.cells B.slots ∧ Post ⟨T.setVm vm₁, locs, cells, slots⟩ (Value.ref b :: argsL).toArray v B ∧
      ∀ target, Steps p.tables e below (B.U.setTop { g with pc := g.pc + 3, stack := v.toList ++ rest }) target → Steps p.tables e below (T.setTop g) target) ∨
    (∃ (q : Addr) (vm₁ : Vm) (B : Pt), s.WarmedH vm₁ ∧ Stand p l e R s m args below meth c B.U B.locs B.cells B.slots ∧ PostX ⟨T.setVm vm₁, locs, cells, slots⟩ (Value.ref b :: argsL).toArray q B ∧
      Steps p.tables e below (T.setTop g) ((B.U.setTop { g with stack := rest }).pushFrame (.throwing q))) := by
  obtain ⟨mk, methM, hnamed, hmethM, hstM, habM⟩ := Cond.instanceMethod_spec hinst
  obtain ⟨methM', cM, hmethM', -, -, -, -, -, -, hsigM⟩ := Cond.code_spec hnamed hcode
  cases hmethM.symm.trans hmethM'
  obtain ⟨c2, r2, m2, q1, q2, q3, q4, kP, hkP, hkPi⟩ := Cond.selects_spec hsel
  cases hcls.symm.trans q1
  cases (State.methodFound?_of_named hnamed hy).symm.trans q2
  cases hnamed.symm.trans q3
  have hselP : selectMethod e.platform s.vm cellB.cls mk = .method mk := by rw [Launch.admits_selectMethod X.admits]; exact q4
  obtain ⟨vm₁, X₁, hstep₁⟩ := X.invokevirtualNest hexec hown hlink hnamed hmethM hstM hkP hkPi hy (a := b) (cell := cellB) hcell
    (fun z h => by rw [h] at hobj; cases hobj) hselP hmethM habM hkP hkPi (g := g) hg (argsL := argsL) (rest := rest) (hlen _ hsigM) hstack hdg
  rcases hK m meth c ⟨T.setVm vm₁, locs, cells, slots⟩ { g with stack := rest } (.invokevirtual index) mk (Value.ref b :: argsL).toArray X₁ hg hsize hdg hW (X₁.named hnamed) (hpre vm₁ X₁.warmed) with ⟨v, B, X', hpost, hsteps⟩ | ⟨q, B, X', hpost, hsteps⟩
  · exact Or.inl ⟨v, vm₁, B, X₁.warmed, X', hpost, fun target h => hstep₁ _ fun acts => by rw [doInvoke_state]; exact hsteps.trans h⟩
  · exact Or.inr ⟨q, vm₁, B, X₁.warmed, X', hpost, hstep₁ _ fun acts => by rw [doInvoke_state]; exact hsteps⟩
theorem vx_callSN (X : Stand p l e R s m args below meth c T locs cells slots) (hexec : p.tables.exec = Jvm.exec) {own : String} {index : Nat} {host : String} {y : MethodName} {bytes : ByteArray} {maxL : Nat} {ret : Option FieldType}
    (hown : s.vm.findClass own = some m.cls) (hlink : (Cond.methodLinkNest own index y host).before args s = true) (hstat : (Cond.static y).before args s = true) (hinit : (Cond.initialized y.cls).before args s = true)
    (hcode : (Cond.code y bytes maxL ret).before args s = true) (hy : y.cls ≠ "java/lang/invoke/MethodHandle" ∧ y.cls ≠ "java/lang/invoke/VarHandle")
    {W : Nat} {Pre : Pt → Array Value → Prop} {Post : Pt → Array Value → Option Value → Pt → Prop} {PostX : Pt → Array Value → Addr → Pt → Prop} (hK : vx_Back l R p e below s args y 3 W Pre Post PostX)
    {g : JFrame} (hg : g.method = m) (hsize : g.locals.size = c.maxLocals) {argsL rest : List Value} (hlen : ∀ sig, parseMethodDescriptor y.desc = some sig → argsL.length = sig.parameters.length)
    (hstack : g.stack = argsL.reverse ++ rest) (hW : 2 * g.monitorRoom + (rest.map fun v => v.category).sum ≤ W) (hdg : decode c.code g.pc = .ok (.invokestatic index, 3))
    (hpre : ∀ vm₁, s.WarmedH vm₁ → Pre ⟨T.setVm vm₁, locs, cells, slots⟩ argsL.toArray) :
    (∃ (v : Option Value) (vm₁ : Vm) (B : Pt), s.WarmedH vm₁ ∧ Stand p l e R s m args below meth c B.U B.locs B.cells B.slots ∧ Post ⟨T.setVm vm₁, locs, cells, slots⟩ argsL.toArray v B ∧
      ∀ target, Steps p.tables e below (B.U.setTop { g with pc := g.pc + 3, stack := v.toList ++ rest }) target → Steps p.tables e below (T.setTop g) target) ∨
    (∃ (q : Addr) (vm₁ : Vm) (B : Pt), s.WarmedH vm₁ ∧ Stand p l e R s m args below meth c B.U B.locs B.cells B.slots ∧ PostX ⟨T.setVm vm₁, locs, cells, slots⟩ argsL.toArray q B ∧
      Steps p.tables e below (T.setTop g) ((B.U.setTop { g with stack := rest }).pushFrame (.throwing q))) := by
  obtain ⟨mk, hnamed⟩ := Cond.code_named hcode
  obtain ⟨methM, cM, hmethM, -, -, -, -, -, -, hsigM⟩ := Cond.code_spec hnamed hcode
  have hstatic : methM.isStatic = true := Cond.static_spec hnamed hmethM hstat
  obtain ⟨kP, hkP, -⟩ := className_of_methodNamed hnamed
  have hinitP : kP.init = .initialized := Cond.initialized_spec (findClass_of_methodNamed hnamed) hkP hinit
  obtain ⟨vm₁, X₁, hstep₁⟩ := X.invokestaticNest hexec hown hlink hnamed hmethM hstatic hkP hinitP hy (g := g) hg (argsL := argsL) (rest := rest) (hlen _ hsigM) hstack hdg
  rcases hK m meth c ⟨T.setVm vm₁, locs, cells, slots⟩ { g with stack := rest } (.invokestatic index) mk argsL.toArray X₁ hg hsize hdg hW (X₁.named hnamed) (hpre vm₁ X₁.warmed) with ⟨v, B, X', hpost, hsteps⟩ | ⟨q, B, X', hpost, hsteps⟩
  · exact Or.inl ⟨v, vm₁, B, X₁.warmed, X', hpost, fun target h => hstep₁ _ fun acts => by rw [doInvoke_state]; exact hsteps.trans h⟩
  · exact Or.inr ⟨q, vm₁, B, X₁.warmed, X', hpost, hstep₁ _ fun acts => by rw [doInvoke_state]; exact hsteps⟩
theorem vx_runVN {y : MethodName} {bytes cc : ByteArray} {maxL nL mc ms n index : Nat} {ret : Option FieldType} {ws : List Cond} {rm : Room} {Pc : Array Value → State → Prop} {Qc : Array Value → State → Outcome → State → Prop} {XC : String → State → State → Prop} {free : Addr → Prop} {Ts : List Cond} {own C host : String} {b : Addr} {As rest : List Value} {g : JFrame}
    (S : CallFix p m c cc nL s args Ts own) (hM : vx_Met l y ws rm Pc Qc XC mc ms free) (cw : va_CN R s args own index y host bytes maxL ret ws rm mc ms n ∧ (Cond.instanceMethod y).before args s = true ∧ (Cond.selects C y y).before args s = true) (hp : PreV s H C b Pc As)
    (hg : g.method = m) (hn : As.length = n) (hsize : g.locals.size = nL) (hstack : g.stack = As.reverse ++ .ref b :: rest) (hW : 2 * g.monitorRoom + (rest.map fun v => v.category).sum ≤ 8) (hdg : decode cc g.pc = .ok (.invokevirtual index, 3)) (hf : cells + mc ≤ R.cells ∧ slots + ms ≤ R.slots) :
    vx_Run p l e R s m args below meth c H locs cells slots mc ms g rest (Qc (Value.ref b :: As).toArray) XC free := by
  obtain ⟨⟨⟨hrc, hrs, hfr, hlo, hws, hcw⟩, hcode, hini, hy, hlen, hl⟩, hx1, hx2⟩ := cw
  have hK : vx_Back l R p e below s args y 3 8 (PreOf R mc ms Pc) (PostOf Qc mc ms free) (vx_Post XC mc ms free) := vx_back (bytes := bytes) (maxL := maxL) (ret := ret) hM hp.1 hrc hrs hfr hlo hws hcw (fun a' U hW => word_at hW (Or.inl (by first | rfl | simp [Cond.onTables, Cond.keeps, Cond.steady])) hini)
  obtain ⟨hx, hb, hml, ho, -⟩ := S
  obtain ⟨-, ⟨cellB, hcB, hoB, hclB⟩, hPc⟩ := hp
  intro T hT X
  rcases vx_callVN X hx (C := C) (bytes := bytes) (maxL := maxL) (ret := ret) ho hl hx1 hx2 hcode hy hK (by rw [hT]; exact hcB) hoB hclB hg (hsize.trans hml.symm) (argsL := As) (rest := rest) (fun sig h => hn.trans (hlen sig h)) hstack hW (by rw [hb]; exact hdg)
    (fun vm₁ hW₁ => ⟨hf.1, hf.2, hPc (T.setVm vm₁) hT hW₁⟩) with ⟨v, vm₁, ⟨U', l2, c2, s2⟩, hW₁, X', ⟨g', mk, t, L, e1, e2, hq, h1, hL, h2, h3⟩, st⟩ | ⟨q, vm₁, ⟨U', l2, c2, s2⟩, hW₁, X', ⟨g', mk, t, L, E, ce, e1, e2, hq, hce, hcv, hcl, h1, hL, h2, h3⟩, st⟩
  · dsimp only [Pt.U, Pt.locs, Pt.cells, Pt.slots] at X' e1 e2 h1 h2 h3 st
    subst h1; subst h2; subst h3
    exact Or.inl ⟨v, (T.setVm vm₁).calling g' mk (Value.ref b :: As).toArray, t, U', L, hT, X', hL, e1, e2, hq, st⟩
  · dsimp only [Pt.U, Pt.locs, Pt.cells, Pt.slots] at X' e1 e2 h1 h2 h3 st hcl
    subst h1; subst h2; subst h3
    exact Or.inr ⟨q, (T.setVm vm₁).calling g' mk (Value.ref b :: As).toArray, t, U', L, E, ce, hT, X', hL, e1, e2, hq, hce, hcv, vx_cls hW₁ hcl, st⟩
theorem vx_runSN {y : MethodName} {bytes cc : ByteArray} {maxL nL mc ms n index : Nat} {ret : Option FieldType} {ws : List Cond} {rm : Room} {Pc : Array Value → State → Prop} {Qc : Array Value → State → Outcome → State → Prop} {XC : String → State → State → Prop} {free : Addr → Prop} {Ts : List Cond} {own host : String} {As rest : List Value} {g : JFrame}
    (S : CallFix p m c cc nL s args Ts own) (hM : vx_Met l y ws rm Pc Qc XC mc ms free) (cw : va_CN R s args own index y host bytes maxL ret ws rm mc ms n ∧ (Cond.static y).before args s = true ∧ True) (hp : PreS s H Pc As)
    (hg : g.method = m) (hn : As.length = n) (hsize : g.locals.size = nL) (hstack : g.stack = As.reverse ++ rest) (hW : 2 * g.monitorRoom + (rest.map fun v => v.category).sum ≤ 8) (hdg : decode cc g.pc = .ok (.invokestatic index, 3)) (hf : cells + mc ≤ R.cells ∧ slots + ms ≤ R.slots) :
    vx_Run p l e R s m args below meth c H locs cells slots mc ms g rest (Qc As.toArray) XC free := by
  obtain ⟨⟨⟨hrc, hrs, hfr, hlo, hws, hcw⟩, hcode, hini, hy, hlen, hl⟩, hx1, hx2⟩ := cw
  have hK : vx_Back l R p e below s args y 3 8 (PreOf R mc ms Pc) (PostOf Qc mc ms free) (vx_Post XC mc ms free) := vx_back (bytes := bytes) (maxL := maxL) (ret := ret) hM hp.1 hrc hrs hfr hlo hws hcw (fun a' U hW => word_at hW (Or.inl (by first | rfl | simp [Cond.onTables, Cond.keeps, Cond.steady])) hini)
  obtain ⟨hx, hb, hml, ho, -⟩ := S
  have hPc := hp.2
  intro T hT X
  rcases vx_callSN X hx (bytes := bytes) (maxL := maxL) (ret := ret) ho hl hx1 hini hcode hy hK hg (hsize.trans hml.symm) (argsL := As) (rest := rest) (fun sig h => hn.trans (hlen sig h)) hstack hW (by rw [hb]; exact hdg)
    (fun vm₁ hW₁ => ⟨hf.1, hf.2, hPc (T.setVm vm₁) hT hW₁⟩) with ⟨v, vm₁, ⟨U', l2, c2, s2⟩, hW₁, X', ⟨g', mk, t, L, e1, e2, hq, h1, hL, h2, h3⟩, st⟩ | ⟨q, vm₁, ⟨U', l2, c2, s2⟩, hW₁, X', ⟨g', mk, t, L, E, ce, e1, e2, hq, hce, hcv, hcl, h1, hL, h2, h3⟩, st⟩
  · dsimp only [Pt.U, Pt.locs, Pt.cells, Pt.slots] at X' e1 e2 h1 h2 h3 st
    subst h1; subst h2; subst h3
    exact Or.inl ⟨v, (T.setVm vm₁).calling g' mk As.toArray, t, U', L, hT, X', hL, e1, e2, hq, st⟩
  · dsimp only [Pt.U, Pt.locs, Pt.cells, Pt.slots] at X' e1 e2 h1 h2 h3 st hcl
    subst h1; subst h2; subst h3
    exact Or.inr ⟨q, (T.setVm vm₁).calling g' mk As.toArray, t, U', L, E, ce, hT, X', hL, e1, e2, hq, hce, hcv, vx_cls hW₁ hcl, st⟩
end
/-! ===== END ===== -/
end
section
def RX0 : String := "DanceFloors$Dancer"
def TX0 : u_T := fun k => match k with
  | 0 => ("DanceFloors$Dancer", "level", "I", false)
  | 1 => ("DanceFloors$Dancer", "steps", "I", false)
  | 2 => ("DanceFloors$Dancer", "left", "I", false)
  | _ => ("DanceFloors$Dancer", "passes", "I", false)
def tyX0 : Nat → FieldType := fun k => match k with
  | 0 => .int
  | 1 => .int
  | 2 => .int
  | _ => .int
abbrev wsX00 : List Cond := u_ws RX0 TX0 4
theorem nmX0 : ∀ a, a < 4 → ∀ b, b < 4 → a ≠ b → (TX0 a).2.1 ≠ (TX0 b).2.1 := by decide +kernel
theorem tyX0_ok : ∀ k, k < 4 → parseFieldDescriptor (TX0 k).2.2.1 = some (tyX0 k) := by decide +kernel
abbrev cX0_init : ByteArray := prog_2_method_1_code
def yX0_init : MethodName := ⟨RX0, "<init>", "()V"⟩
abbrev cX0_copyFrom : ByteArray := prog_2_method_2_code
def yX0_copyFrom : MethodName := ⟨RX0, "copyFrom", "(LDanceFloors$Dancer;)V"⟩
abbrev cX0_usesSoFar : ByteArray := prog_2_method_3_code
def yX0_usesSoFar : MethodName := ⟨RX0, "usesSoFar", "()I"⟩
abbrev cX0_dance : ByteArray := prog_2_method_4_code
def yX0_dance : MethodName := ⟨RX0, "dance", "(I)V"⟩
abbrev cX0_riseWith : ByteArray := prog_2_method_5_code
def yX0_riseWith : MethodName := ⟨RX0, "riseWith", "(I)V"⟩
def RX1 : String := "DanceFloors$Floor"
def TX1 : u_T := fun k => match k with
  | 0 => ("DanceFloors$Floor", "spring", "I", false)
  | 1 => ("DanceFloors$Floor", "mirrors", "I", false)
  | 2 => ("DanceFloors$Floor", "barre", "I", false)
  | _ => ("DanceFloors$Floor", "places", "I", false)
def tyX1 : Nat → FieldType := fun k => match k with
  | 0 => .int
  | 1 => .int
  | 2 => .int
  | _ => .int
abbrev wsX10 : List Cond := u_ws RX1 TX1 4
theorem nmX1 : ∀ a, a < 4 → ∀ b, b < 4 → a ≠ b → (TX1 a).2.1 ≠ (TX1 b).2.1 := by decide +kernel
theorem tyX1_ok : ∀ k, k < 4 → parseFieldDescriptor (TX1 k).2.2.1 = some (tyX1 k) := by decide +kernel
abbrev cX1_init : ByteArray := prog_3_method_1_code
def yX1_init : MethodName := ⟨RX1, "<init>", "()V"⟩
abbrev cX1_copyFrom : ByteArray := prog_3_method_2_code
def yX1_copyFrom : MethodName := ⟨RX1, "copyFrom", "(LDanceFloors$Floor;)V"⟩
abbrev cX1_hasSpringFor : ByteArray := prog_3_method_3_code
def yX1_hasSpringFor : MethodName := ⟨RX1, "hasSpringFor", "(II)Z"⟩
abbrev cX1_hasBarreFor : ByteArray := prog_3_method_4_code
def yX1_hasBarreFor : MethodName := ⟨RX1, "hasBarreFor", "(II)Z"⟩
abbrev cX1_hasMirrorsFor : ByteArray := prog_3_method_5_code
def yX1_hasMirrorsFor : MethodName := ⟨RX1, "hasMirrorsFor", "(II)Z"⟩
abbrev cX1_roomFor : ByteArray := prog_3_method_6_code
def yX1_roomFor : MethodName := ⟨RX1, "roomFor", "(I)I"⟩
def RX2 : String := "DanceFloors$History"
def TX2 : u_T := fun k => match k with
  | 0 => ("DanceFloors$History", "rows", "[LDanceFloors$Studio;", true)
  | 1 => ("DanceFloors$History", "oldest", "I", false)
  | _ => ("DanceFloors$History", "count", "I", false)
def tyX2 : Nat → FieldType := fun k => match k with
  | 0 => .array (.object "DanceFloors$Studio")
  | 1 => .int
  | _ => .int
abbrev wsX20 : List Cond := u_ws RX2 TX2 3
theorem nmX2 : ∀ a, a < 3 → ∀ b, b < 3 → a ≠ b → (TX2 a).2.1 ≠ (TX2 b).2.1 := by decide +kernel
theorem tyX2_ok : ∀ k, k < 3 → parseFieldDescriptor (TX2 k).2.2.1 = some (tyX2 k) := by decide +kernel
abbrev cX2_init : ByteArray := prog_4_method_1_code
def yX2_init : MethodName := ⟨RX2, "<init>", "()V"⟩
abbrev cX2_remember : ByteArray := prog_4_method_2_code
def yX2_remember : MethodName := ⟨RX2, "remember", "(LDanceFloors$Studio;)V"⟩
abbrev cX2_takeBack : ByteArray := prog_4_method_3_code
def yX2_takeBack : MethodName := ⟨RX2, "takeBack", "(LDanceFloors$Studio;)I"⟩
abbrev cX2_forgetAll : ByteArray := prog_4_method_4_code
def yX2_forgetAll : MethodName := ⟨RX2, "forgetAll", "()V"⟩
def RX3 : String := "DanceFloors$Lesson"
def TX3 : u_T := fun k => match k with
  | 0 => ("DanceFloors$Lesson", "style", "I", false)
  | 1 => ("DanceFloors$Lesson", "level", "I", false)
  | 2 => ("DanceFloors$Lesson", "floor", "I", false)
  | 3 => ("DanceFloors$Lesson", "teacher", "I", false)
  | 4 => ("DanceFloors$Lesson", "day", "I", false)
  | 5 => ("DanceFloors$Lesson", "hour", "I", false)
  | 6 => ("DanceFloors$Lesson", "seats", "I", false)
  | 7 => ("DanceFloors$Lesson", "weeksHeld", "I", false)
  | _ => ("DanceFloors$Lesson", "uses", "I", false)
def tyX3 : Nat → FieldType := fun k => match k with
  | 0 => .int
  | 1 => .int
  | 2 => .int
  | 3 => .int
  | 4 => .int
  | 5 => .int
  | 6 => .int
  | 7 => .int
  | _ => .int
abbrev wsX30 : List Cond := u_ws RX3 TX3 9
theorem nmX3 : ∀ a, a < 9 → ∀ b, b < 9 → a ≠ b → (TX3 a).2.1 ≠ (TX3 b).2.1 := by decide +kernel
theorem tyX3_ok : ∀ k, k < 9 → parseFieldDescriptor (TX3 k).2.2.1 = some (tyX3 k) := by decide +kernel
abbrev cX3_init : ByteArray := prog_5_method_1_code
def yX3_init : MethodName := ⟨RX3, "<init>", "()V"⟩
abbrev cX3_copyFrom : ByteArray := prog_5_method_2_code
def yX3_copyFrom : MethodName := ⟨RX3, "copyFrom", "(LDanceFloors$Lesson;)V"⟩
abbrev cX3_isAt : ByteArray := prog_5_method_3_code
def yX3_isAt : MethodName := ⟨RX3, "isAt", "(II)Z"⟩
abbrev cX3_seatsDancer : ByteArray := prog_5_method_4_code
def yX3_seatsDancer : MethodName := ⟨RX3, "seatsDancer", "(I)Z"⟩
abbrev cX3_countSeats : ByteArray := prog_5_method_5_code
def yX3_countSeats : MethodName := ⟨RX3, "countSeats", "()I"⟩
def RX4 : String := "DanceFloors$Studio"
def TX4 : u_T := fun k => match k with
  | 0 => ("DanceFloors$Studio", "floors", "[LDanceFloors$Floor;", true)
  | 1 => ("DanceFloors$Studio", "teachers", "[LDanceFloors$Teacher;", true)
  | 2 => ("DanceFloors$Studio", "lessons", "[LDanceFloors$Lesson;", true)
  | 3 => ("DanceFloors$Studio", "dancers", "[LDanceFloors$Dancer;", true)
  | 4 => ("DanceFloors$Studio", "settings", "[I", true)
  | 5 => ("DanceFloors$Studio", "floorCount", "I", false)
  | 6 => ("DanceFloors$Studio", "teacherCount", "I", false)
  | 7 => ("DanceFloors$Studio", "lessonCount", "I", false)
  | 8 => ("DanceFloors$Studio", "dancerCount", "I", false)
  | 9 => ("DanceFloors$Studio", "weekCount", "I", false)
  | 10 => ("DanceFloors$Studio", "heldCount", "I", false)
  | 11 => ("DanceFloors$Studio", "notHeldCount", "I", false)
  | 12 => ("DanceFloors$Studio", "refusedCount", "I", false)
  | _ => ("DanceFloors$Studio", "usesOfDropped", "I", false)
def tyX4 : Nat → FieldType := fun k => match k with
  | 0 => .array (.object "DanceFloors$Floor")
  | 1 => .array (.object "DanceFloors$Teacher")
  | 2 => .array (.object "DanceFloors$Lesson")
  | 3 => .array (.object "DanceFloors$Dancer")
  | 4 => .array .int
  | 5 => .int
  | 6 => .int
  | 7 => .int
  | 8 => .int
  | 9 => .int
  | 10 => .int
  | 11 => .int
  | 12 => .int
  | _ => .int
abbrev wsX40 : List Cond := u_ws RX4 TX4 14
theorem nmX4 : ∀ a, a < 14 → ∀ b, b < 14 → a ≠ b → (TX4 a).2.1 ≠ (TX4 b).2.1 := by decide +kernel
theorem tyX4_ok : ∀ k, k < 14 → parseFieldDescriptor (TX4 k).2.2.1 = some (tyX4 k) := by decide +kernel
abbrev cX4_init : ByteArray := prog_6_method_1_code
def yX4_init : MethodName := ⟨RX4, "<init>", "()V"⟩
abbrev cX4_makeNew : ByteArray := prog_6_method_2_code
def yX4_makeNew : MethodName := ⟨RX4, "makeNew", "()V"⟩
abbrev cX4_copyFrom : ByteArray := prog_6_method_3_code
def yX4_copyFrom : MethodName := ⟨RX4, "copyFrom", "(LDanceFloors$Studio;)V"⟩
abbrev cX4_copyRowsFrom : ByteArray := prog_6_method_4_code
def yX4_copyRowsFrom : MethodName := ⟨RX4, "copyRowsFrom", "(LDanceFloors$Studio;)V"⟩
abbrev cX4_hasFloor : ByteArray := prog_6_method_5_code
def yX4_hasFloor : MethodName := ⟨RX4, "hasFloor", "(I)Z"⟩
abbrev cX4_hasTeacher : ByteArray := prog_6_method_6_code
def yX4_hasTeacher : MethodName := ⟨RX4, "hasTeacher", "(I)Z"⟩
abbrev cX4_hasLesson : ByteArray := prog_6_method_7_code
def yX4_hasLesson : MethodName := ⟨RX4, "hasLesson", "(I)Z"⟩
abbrev cX4_hasDancer : ByteArray := prog_6_method_8_code
def yX4_hasDancer : MethodName := ⟨RX4, "hasDancer", "(I)Z"⟩
abbrev cX4_hasSeat : ByteArray := prog_6_method_9_code
def yX4_hasSeat : MethodName := ⟨RX4, "hasSeat", "(II)Z"⟩
abbrev cX4_mayHavePass : ByteArray := prog_6_method_10_code
def yX4_mayHavePass : MethodName := ⟨RX4, "mayHavePass", "(I)Z"⟩
abbrev cX4_addFloor : ByteArray := prog_6_method_11_code
def yX4_addFloor : MethodName := ⟨RX4, "addFloor", "(IIII)I"⟩
abbrev cX4_addTeacher : ByteArray := prog_6_method_12_code
def yX4_addTeacher : MethodName := ⟨RX4, "addTeacher", "(II)I"⟩
abbrev cX4_addDancer : ByteArray := prog_6_method_13_code
def yX4_addDancer : MethodName := ⟨RX4, "addDancer", "()I"⟩
abbrev cX4_addLesson : ByteArray := prog_6_method_14_code
def yX4_addLesson : MethodName := ⟨RX4, "addLesson", "(IIIIII)I"⟩
abbrev cX4_dropLesson : ByteArray := prog_6_method_15_code
def yX4_dropLesson : MethodName := ⟨RX4, "dropLesson", "(I)I"⟩
abbrev cX4_givePass : ByteArray := prog_6_method_16_code
def yX4_givePass : MethodName := ⟨RX4, "givePass", "(I)I"⟩
abbrev cX4_takeSeat : ByteArray := prog_6_method_17_code
def yX4_takeSeat : MethodName := ⟨RX4, "takeSeat", "(II)I"⟩
abbrev cX4_giveUpSeat : ByteArray := prog_6_method_18_code
def yX4_giveUpSeat : MethodName := ⟨RX4, "giveUpSeat", "(II)I"⟩
abbrev cX4_countRefusal : ByteArray := prog_6_method_19_code
def yX4_countRefusal : MethodName := ⟨RX4, "countRefusal", "(I)I"⟩
abbrev cX4_reasonAgainstLesson : ByteArray := prog_6_method_20_code
def yX4_reasonAgainstLesson : MethodName := ⟨RX4, "reasonAgainstLesson", "(IIIIII)I"⟩
abbrev cX4_isFloorInUse : ByteArray := prog_6_method_21_code
def yX4_isFloorInUse : MethodName := ⟨RX4, "isFloorInUse", "(III)Z"⟩
abbrev cX4_isTeacherInUse : ByteArray := prog_6_method_22_code
def yX4_isTeacherInUse : MethodName := ⟨RX4, "isTeacherInUse", "(III)Z"⟩
abbrev cX4_reasonAgainstSeat : ByteArray := prog_6_method_23_code
def yX4_reasonAgainstSeat : MethodName := ⟨RX4, "reasonAgainstSeat", "(II)I"⟩
abbrev cX4_isDancerSeatedAt : ByteArray := prog_6_method_24_code
def yX4_isDancerSeatedAt : MethodName := ⟨RX4, "isDancerSeatedAt", "(III)Z"⟩
abbrev cX4_roomIn : ByteArray := prog_6_method_25_code
def yX4_roomIn : MethodName := ⟨RX4, "roomIn", "(LDanceFloors$Lesson;)I"⟩
abbrev cX4_roomiestFloor : ByteArray := prog_6_method_26_code
def yX4_roomiestFloor : MethodName := ⟨RX4, "roomiestFloor", "(IIIII)I"⟩
abbrev cX4_passWeeks : ByteArray := prog_6_method_27_code
def yX4_passWeeks : MethodName := ⟨RX4, "passWeeks", "(I)I"⟩
abbrev cX4_passWeek : ByteArray := prog_6_method_28_code
def yX4_passWeek : MethodName := ⟨RX4, "passWeek", "()I"⟩
abbrev cX4_holdLesson : ByteArray := prog_6_method_29_code
def yX4_holdLesson : MethodName := ⟨RX4, "holdLesson", "(LDanceFloors$Lesson;)I"⟩
abbrev cX4_countComers : ByteArray := prog_6_method_30_code
def yX4_countComers : MethodName := ⟨RX4, "countComers", "(LDanceFloors$Lesson;)I"⟩
abbrev cX4_comes : ByteArray := prog_6_method_31_code
def yX4_comes : MethodName := ⟨RX4, "comes", "(ILDanceFloors$Lesson;)Z"⟩
abbrev cX4_countSeats : ByteArray := prog_6_method_32_code
def yX4_countSeats : MethodName := ⟨RX4, "countSeats", "()I"⟩
abbrev cX4_countSeatsOfDancer : ByteArray := prog_6_method_33_code
def yX4_countSeatsOfDancer : MethodName := ⟨RX4, "countSeatsOfDancer", "(I)I"⟩
abbrev cX4_countLessonsOnFloor : ByteArray := prog_6_method_34_code
def yX4_countLessonsOnFloor : MethodName := ⟨RX4, "countLessonsOnFloor", "(I)I"⟩
abbrev cX4_countLessonsOfTeacher : ByteArray := prog_6_method_35_code
def yX4_countLessonsOfTeacher : MethodName := ⟨RX4, "countLessonsOfTeacher", "(I)I"⟩
abbrev cX4_countDaysOfTeacher : ByteArray := prog_6_method_36_code
def yX4_countDaysOfTeacher : MethodName := ⟨RX4, "countDaysOfTeacher", "(I)I"⟩
abbrev cX4_countPasses : ByteArray := prog_6_method_37_code
def yX4_countPasses : MethodName := ⟨RX4, "countPasses", "()I"⟩
abbrev cX4_countLeft : ByteArray := prog_6_method_38_code
def yX4_countLeft : MethodName := ⟨RX4, "countLeft", "()I"⟩
abbrev cX4_countUsesByDancers : ByteArray := prog_6_method_39_code
def yX4_countUsesByDancers : MethodName := ⟨RX4, "countUsesByDancers", "()I"⟩
abbrev cX4_countUsesByLessons : ByteArray := prog_6_method_40_code
def yX4_countUsesByLessons : MethodName := ⟨RX4, "countUsesByLessons", "()I"⟩
def RX5 : String := "DanceFloors$Teacher"
def TX5 : u_T := fun k => match k with
  | 0 => ("DanceFloors$Teacher", "styles", "I", false)
  | _ => ("DanceFloors$Teacher", "highest", "I", false)
def tyX5 : Nat → FieldType := fun k => match k with
  | 0 => .int
  | _ => .int
abbrev wsX50 : List Cond := u_ws RX5 TX5 2
theorem nmX5 : ∀ a, a < 2 → ∀ b, b < 2 → a ≠ b → (TX5 a).2.1 ≠ (TX5 b).2.1 := by decide +kernel
theorem tyX5_ok : ∀ k, k < 2 → parseFieldDescriptor (TX5 k).2.2.1 = some (tyX5 k) := by decide +kernel
abbrev cX5_init : ByteArray := prog_7_method_1_code
def yX5_init : MethodName := ⟨RX5, "<init>", "()V"⟩
abbrev cX5_copyFrom : ByteArray := prog_7_method_2_code
def yX5_copyFrom : MethodName := ⟨RX5, "copyFrom", "(LDanceFloors$Teacher;)V"⟩
abbrev cX5_teaches : ByteArray := prog_7_method_3_code
def yX5_teaches : MethodName := ⟨RX5, "teaches", "(II)Z"⟩
def RX6 : String := "DanceFloors$Text"
def TX6 : u_T := fun k => match k with
  | 0 => ("DanceFloors$Text", "signs", "[C", true)
  | 1 => ("DanceFloors$Text", "numbers", "[I", true)
  | 2 => ("DanceFloors$Text", "length", "I", false)
  | 3 => ("DanceFloors$Text", "at", "I", false)
  | 4 => ("DanceFloors$Text", "numberCount", "I", false)
  | _ => ("DanceFloors$Text", "letter", "C", false)
def tyX6 : Nat → FieldType := fun k => match k with
  | 0 => .array .char
  | 1 => .array .int
  | 2 => .int
  | 3 => .int
  | 4 => .int
  | _ => .char
abbrev wsX60 : List Cond := u_ws RX6 TX6 6
theorem nmX6 : ∀ a, a < 6 → ∀ b, b < 6 → a ≠ b → (TX6 a).2.1 ≠ (TX6 b).2.1 := by decide +kernel
theorem tyX6_ok : ∀ k, k < 6 → parseFieldDescriptor (TX6 k).2.2.1 = some (tyX6 k) := by decide +kernel
abbrev cX6_init : ByteArray := prog_8_method_1_code
def yX6_init : MethodName := ⟨RX6, "<init>", "()V"⟩
abbrev cX6_addSign : ByteArray := prog_8_method_2_code
def yX6_addSign : MethodName := ⟨RX6, "addSign", "(C)I"⟩
abbrev cX6_makeEmpty : ByteArray := prog_8_method_3_code
def yX6_makeEmpty : MethodName := ⟨RX6, "makeEmpty", "()I"⟩
abbrev cX6_findError : ByteArray := prog_8_method_4_code
def yX6_findError : MethodName := ⟨RX6, "findError", "()I"⟩
abbrev cX6_hasMore : ByteArray := prog_8_method_5_code
def yX6_hasMore : MethodName := ⟨RX6, "hasMore", "()Z"⟩
abbrev cX6_readStart : ByteArray := prog_8_method_6_code
def yX6_readStart : MethodName := ⟨RX6, "readStart", "()Z"⟩
abbrev cX6_readCommand : ByteArray := prog_8_method_7_code
def yX6_readCommand : MethodName := ⟨RX6, "readCommand", "()Z"⟩
abbrev cX6_readKind : ByteArray := prog_8_method_8_code
def yX6_readKind : MethodName := ⟨RX6, "readKind", "()Z"⟩
abbrev cX6_readPlace : ByteArray := prog_8_method_9_code
def yX6_readPlace : MethodName := ⟨RX6, "readPlace", "()Z"⟩
abbrev cX6_readLesson : ByteArray := prog_8_method_10_code
def yX6_readLesson : MethodName := ⟨RX6, "readLesson", "()Z"⟩
abbrev cX6_readDancer : ByteArray := prog_8_method_11_code
def yX6_readDancer : MethodName := ⟨RX6, "readDancer", "()Z"⟩
abbrev cX6_readDigit : ByteArray := prog_8_method_12_code
def yX6_readDigit : MethodName := ⟨RX6, "readDigit", "(II)Z"⟩
abbrev cX6_readTwoDigits : ByteArray := prog_8_method_13_code
def yX6_readTwoDigits : MethodName := ⟨RX6, "readTwoDigits", "(II)Z"⟩
abbrev cX6_digitWithin : ByteArray := prog_8_method_14_code
def yX6_digitWithin : MethodName := ⟨RX6, "digitWithin", "(II)I"⟩
abbrev cX6_keepNumber : ByteArray := prog_8_method_15_code
def yX6_keepNumber : MethodName := ⟨RX6, "keepNumber", "(I)Z"⟩
def RX7 : String := "DanceFloors"
def TX7 : u_T := fun k => match k with
  | 0 => ("DanceFloors", "text", "LDanceFloors$Text;", true)
  | 1 => ("DanceFloors", "studio", "LDanceFloors$Studio;", true)
  | 2 => ("DanceFloors", "trial", "LDanceFloors$Studio;", true)
  | 3 => ("DanceFloors", "history", "LDanceFloors$History;", true)
  | 4 => ("DanceFloors", "slots", "[LDanceFloors$Studio;", true)
  | _ => ("DanceFloors", "slotFilled", "[Z", true)
def tyX7 : Nat → FieldType := fun k => match k with
  | 0 => .object "DanceFloors$Text"
  | 1 => .object "DanceFloors$Studio"
  | 2 => .object "DanceFloors$Studio"
  | 3 => .object "DanceFloors$History"
  | 4 => .array (.object "DanceFloors$Studio")
  | _ => .array .boolean
abbrev wsX70 : List Cond := u_ws RX7 TX7 6
theorem nmX7 : ∀ a, a < 6 → ∀ b, b < 6 → a ≠ b → (TX7 a).2.1 ≠ (TX7 b).2.1 := by decide +kernel
theorem tyX7_ok : ∀ k, k < 6 → parseFieldDescriptor (TX7 k).2.2.1 = some (tyX7 k) := by decide +kernel
abbrev cX7_init : ByteArray := prog_1_method_1_code
def yX7_init : MethodName := ⟨RX7, "<init>", "()V"⟩
abbrev cX7_append : ByteArray := prog_1_method_2_code
def yX7_append : MethodName := ⟨RX7, "append", "(I)I"⟩
abbrev cX7_clearText : ByteArray := prog_1_method_3_code
def yX7_clearText : MethodName := ⟨RX7, "clearText", "()I"⟩
abbrev cX7_errorPosition : ByteArray := prog_1_method_4_code
def yX7_errorPosition : MethodName := ⟨RX7, "errorPosition", "()I"⟩
abbrev cX7_load : ByteArray := prog_1_method_5_code
def yX7_load : MethodName := ⟨RX7, "load", "()I"⟩
abbrev cX7_about : ByteArray := prog_1_method_6_code
def yX7_about : MethodName := ⟨RX7, "about", "(I)I"⟩
abbrev cX7_floorOf : ByteArray := prog_1_method_7_code
def yX7_floorOf : MethodName := ⟨RX7, "floorOf", "(II)I"⟩
abbrev cX7_teacherOf : ByteArray := prog_1_method_8_code
def yX7_teacherOf : MethodName := ⟨RX7, "teacherOf", "(II)I"⟩
abbrev cX7_classOf : ByteArray := prog_1_method_9_code
def yX7_classOf : MethodName := ⟨RX7, "classOf", "(II)I"⟩
abbrev cX7_dancerOf : ByteArray := prog_1_method_10_code
def yX7_dancerOf : MethodName := ⟨RX7, "dancerOf", "(II)I"⟩
abbrev cX7_uses : ByteArray := prog_1_method_11_code
def yX7_uses : MethodName := ⟨RX7, "uses", "(I)I"⟩
abbrev cX7_setting : ByteArray := prog_1_method_12_code
def yX7_setting : MethodName := ⟨RX7, "setting", "(I)I"⟩
abbrev cX7_floor : ByteArray := prog_1_method_13_code
def yX7_floor : MethodName := ⟨RX7, "floor", "(IIII)I"⟩
abbrev cX7_teacher : ByteArray := prog_1_method_14_code
def yX7_teacher : MethodName := ⟨RX7, "teacher", "(II)I"⟩
abbrev cX7_set : ByteArray := prog_1_method_15_code
def yX7_set : MethodName := ⟨RX7, "set", "(IIIIII)I"⟩
abbrev cX7_drop : ByteArray := prog_1_method_16_code
def yX7_drop : MethodName := ⟨RX7, "drop", "(I)I"⟩
abbrev cX7_dancer : ByteArray := prog_1_method_17_code
def yX7_dancer : MethodName := ⟨RX7, "dancer", "()I"⟩
abbrev cX7_pass : ByteArray := prog_1_method_18_code
def yX7_pass : MethodName := ⟨RX7, "pass", "(I)I"⟩
abbrev cX7_enter : ByteArray := prog_1_method_19_code
def yX7_enter : MethodName := ⟨RX7, "enter", "(II)I"⟩
abbrev cX7_leave : ByteArray := prog_1_method_20_code
def yX7_leave : MethodName := ⟨RX7, "leave", "(II)I"⟩
abbrev cX7_weeks : ByteArray := prog_1_method_21_code
def yX7_weeks : MethodName := ⟨RX7, "weeks", "(I)I"⟩
abbrev cX7_tune : ByteArray := prog_1_method_22_code
def yX7_tune : MethodName := ⟨RX7, "tune", "(II)I"⟩
abbrev cX7_undo : ByteArray := prog_1_method_23_code
def yX7_undo : MethodName := ⟨RX7, "undo", "()I"⟩
abbrev cX7_why : ByteArray := prog_1_method_24_code
def yX7_why : MethodName := ⟨RX7, "why", "(IIIIII)I"⟩
abbrev cX7_whySeat : ByteArray := prog_1_method_25_code
def yX7_whySeat : MethodName := ⟨RX7, "whySeat", "(II)I"⟩
abbrev cX7_bestFloor : ByteArray := prog_1_method_26_code
def yX7_bestFloor : MethodName := ⟨RX7, "bestFloor", "(IIIII)I"⟩
abbrev cX7_emptyIn : ByteArray := prog_1_method_27_code
def yX7_emptyIn : MethodName := ⟨RX7, "emptyIn", "(I)I"⟩
abbrev cX7_held : ByteArray := prog_1_method_28_code
def yX7_held : MethodName := ⟨RX7, "held", "()I"⟩
abbrev cX7_runScript : ByteArray := prog_1_method_29_code
def yX7_runScript : MethodName := ⟨RX7, "runScript", "(IJ)I"⟩
abbrev cX7_simulate : ByteArray := prog_1_method_30_code
def yX7_simulate : MethodName := ⟨RX7, "simulate", "(JI)I"⟩
abbrev cX7_save : ByteArray := prog_1_method_31_code
def yX7_save : MethodName := ⟨RX7, "save", "(I)I"⟩
abbrev cX7_restore : ByteArray := prog_1_method_32_code
def yX7_restore : MethodName := ⟨RX7, "restore", "(I)I"⟩
abbrev cX7_isWithin : ByteArray := prog_1_method_33_code
def yX7_isWithin : MethodName := ⟨RX7, "isWithin", "(III)Z"⟩
abbrev cX7_requireIndex : ByteArray := prog_1_method_34_code
def yX7_requireIndex : MethodName := ⟨RX7, "requireIndex", "(Z)V"⟩
abbrev cX7_requireArgument : ByteArray := prog_1_method_35_code
def yX7_requireArgument : MethodName := ⟨RX7, "requireArgument", "(Z)V"⟩
abbrev cX7_requireState : ByteArray := prog_1_method_36_code
def yX7_requireState : MethodName := ⟨RX7, "requireState", "(Z)V"⟩
abbrev cX7_requireLessonArguments : ByteArray := prog_1_method_37_code
def yX7_requireLessonArguments : MethodName := ⟨RX7, "requireLessonArguments", "(IIII)V"⟩
abbrev cX7_doCommandsOfText : ByteArray := prog_1_method_38_code
def yX7_doCommandsOfText : MethodName := ⟨RX7, "doCommandsOfText", "()I"⟩
abbrev cX7_doCommand : ByteArray := prog_1_method_39_code
def yX7_doCommand : MethodName := ⟨RX7, "doCommand", "(C[I)Z"⟩
abbrev cX7_withoutGroups : ByteArray := prog_1_method_40_code
def yX7_withoutGroups : MethodName := ⟨RX7, "withoutGroups", "(JI)J"⟩
abbrev cX7_tryGroup : ByteArray := prog_1_method_41_code
def yX7_tryGroup : MethodName := ⟨RX7, "tryGroup", "(I)Z"⟩
abbrev cX7_tryTurn : ByteArray := prog_1_method_42_code
def yX7_tryTurn : MethodName := ⟨RX7, "tryTurn", "(I)I"⟩
abbrev cX7_tryLeaving : ByteArray := prog_1_method_43_code
def yX7_tryLeaving : MethodName := ⟨RX7, "tryLeaving", "(I)V"⟩
def RX8 : String := "DanceFloorsModel"
def TX8 : u_T := fun k => match k with
  | 0 => ("DanceFloorsModel", "thrown", "I", false)
  | 1 => ("DanceFloorsModel", "s", "[I", true)
  | 2 => ("DanceFloorsModel", "remembered", "I", false)
  | 3 => ("DanceFloorsModel", "isSaved", "[I", true)
  | 4 => ("DanceFloorsModel", "text", "[I", true)
  | 5 => ("DanceFloorsModel", "length", "I", false)
  | 6 => ("DanceFloorsModel", "at", "I", false)
  | 7 => ("DanceFloorsModel", "letter", "I", false)
  | _ => ("DanceFloorsModel", "a", "[I", true)
def tyX8 : Nat → FieldType := fun k => match k with
  | 0 => .int
  | 1 => .array .int
  | 2 => .int
  | 3 => .array .int
  | 4 => .array .int
  | 5 => .int
  | 6 => .int
  | 7 => .int
  | _ => .array .int
abbrev wsX80 : List Cond := u_ws RX8 TX8 9
theorem nmX8 : ∀ a, a < 9 → ∀ b, b < 9 → a ≠ b → (TX8 a).2.1 ≠ (TX8 b).2.1 := by decide +kernel
theorem tyX8_ok : ∀ k, k < 9 → parseFieldDescriptor (TX8 k).2.2.1 = some (tyX8 k) := by decide +kernel
abbrev cX8_init : ByteArray := prog_10_method_1_code
def yX8_init : MethodName := ⟨RX8, "<init>", "()V"⟩
abbrev cX8_thrown : ByteArray := prog_10_method_2_code
def yX8_thrown : MethodName := ⟨RX8, "thrown", "()I"⟩
abbrev cX8_in : ByteArray := prog_10_method_3_code
def yX8_in : MethodName := ⟨RX8, "in", "(III)Z"⟩
abbrev cX8_holds : ByteArray := prog_10_method_4_code
def yX8_holds : MethodName := ⟨RX8, "holds", "(I)Z"⟩
abbrev cX8_anew : ByteArray := prog_10_method_5_code
def yX8_anew : MethodName := ⟨RX8, "anew", "()V"⟩
abbrev cX8_isFloor : ByteArray := prog_10_method_6_code
def yX8_isFloor : MethodName := ⟨RX8, "isFloor", "(I)Z"⟩
abbrev cX8_isTeacher : ByteArray := prog_10_method_7_code
def yX8_isTeacher : MethodName := ⟨RX8, "isTeacher", "(I)Z"⟩
abbrev cX8_isClass : ByteArray := prog_10_method_8_code
def yX8_isClass : MethodName := ⟨RX8, "isClass", "(I)Z"⟩
abbrev cX8_isDancer : ByteArray := prog_10_method_9_code
def yX8_isDancer : MethodName := ⟨RX8, "isDancer", "(I)Z"⟩
abbrev cX8_ofClass : ByteArray := prog_10_method_10_code
def yX8_ofClass : MethodName := ⟨RX8, "ofClass", "(II)I"⟩
abbrev cX8_ofDancer : ByteArray := prog_10_method_11_code
def yX8_ofDancer : MethodName := ⟨RX8, "ofDancer", "(II)I"⟩
abbrev cX8_adds : ByteArray := prog_10_method_12_code
def yX8_adds : MethodName := ⟨RX8, "adds", "(II)V"⟩
abbrev cX8_bits : ByteArray := prog_10_method_13_code
def yX8_bits : MethodName := ⟨RX8, "bits", "(I)I"⟩
abbrev cX8_spring : ByteArray := prog_10_method_14_code
def yX8_spring : MethodName := ⟨RX8, "spring", "(I)I"⟩
abbrev cX8_mirrors : ByteArray := prog_10_method_15_code
def yX8_mirrors : MethodName := ⟨RX8, "mirrors", "(I)I"⟩
abbrev cX8_barre : ByteArray := prog_10_method_16_code
def yX8_barre : MethodName := ⟨RX8, "barre", "(I)I"⟩
abbrev cX8_takes : ByteArray := prog_10_method_17_code
def yX8_takes : MethodName := ⟨RX8, "takes", "(II)I"⟩
abbrev cX8_isSpring : ByteArray := prog_10_method_18_code
def yX8_isSpring : MethodName := ⟨RX8, "isSpring", "(III)Z"⟩
abbrev cX8_whyNo : ByteArray := prog_10_method_19_code
def yX8_whyNo : MethodName := ⟨RX8, "whyNo", "(IIIIII)I"⟩
abbrev cX8_hasSeat : ByteArray := prog_10_method_20_code
def yX8_hasSeat : MethodName := ⟨RX8, "hasSeat", "(II)Z"⟩
abbrev cX8_classTakes : ByteArray := prog_10_method_21_code
def yX8_classTakes : MethodName := ⟨RX8, "classTakes", "(I)I"⟩
abbrev cX8_whyNoSeat : ByteArray := prog_10_method_22_code
def yX8_whyNoSeat : MethodName := ⟨RX8, "whyNoSeat", "(II)I"⟩
abbrev cX8_floors : ByteArray := prog_10_method_23_code
def yX8_floors : MethodName := ⟨RX8, "floors", "(IIII)I"⟩
abbrev cX8_teachers : ByteArray := prog_10_method_24_code
def yX8_teachers : MethodName := ⟨RX8, "teachers", "(II)I"⟩
abbrev cX8_sets : ByteArray := prog_10_method_25_code
def yX8_sets : MethodName := ⟨RX8, "sets", "(IIIIII)V"⟩
abbrev cX8_drops : ByteArray := prog_10_method_26_code
def yX8_drops : MethodName := ⟨RX8, "drops", "(I)I"⟩
abbrev cX8_dancers : ByteArray := prog_10_method_27_code
def yX8_dancers : MethodName := ⟨RX8, "dancers", "()I"⟩
abbrev cX8_passes : ByteArray := prog_10_method_28_code
def yX8_passes : MethodName := ⟨RX8, "passes", "(I)I"⟩
abbrev cX8_enters : ByteArray := prog_10_method_29_code
def yX8_enters : MethodName := ⟨RX8, "enters", "(II)V"⟩
abbrev cX8_leaves : ByteArray := prog_10_method_30_code
def yX8_leaves : MethodName := ⟨RX8, "leaves", "(II)I"⟩
abbrev cX8_coming : ByteArray := prog_10_method_31_code
def yX8_coming : MethodName := ⟨RX8, "coming", "(I)I"⟩
abbrev cX8_dances : ByteArray := prog_10_method_32_code
def yX8_dances : MethodName := ⟨RX8, "dances", "(II)V"⟩
abbrev cX8_week : ByteArray := prog_10_method_33_code
def yX8_week : MethodName := ⟨RX8, "week", "()I"⟩
abbrev cX8_weeksGo : ByteArray := prog_10_method_34_code
def yX8_weeksGo : MethodName := ⟨RX8, "weeksGo", "(I)I"⟩
abbrev cX8_copies : ByteArray := prog_10_method_35_code
def yX8_copies : MethodName := ⟨RX8, "copies", "(II)V"⟩
abbrev cX8_remember : ByteArray := prog_10_method_36_code
def yX8_remember : MethodName := ⟨RX8, "remember", "()V"⟩
abbrev cX8_append : ByteArray := prog_10_method_37_code
def yX8_append : MethodName := ⟨RX8, "append", "(I)I"⟩
abbrev cX8_clearText : ByteArray := prog_10_method_38_code
def yX8_clearText : MethodName := ⟨RX8, "clearText", "()I"⟩
abbrev cX8_sign : ByteArray := prog_10_method_39_code
def yX8_sign : MethodName := ⟨RX8, "sign", "()I"⟩
abbrev cX8_takesSign : ByteArray := prog_10_method_40_code
def yX8_takesSign : MethodName := ⟨RX8, "takesSign", "(I)Z"⟩
abbrev cX8_figure : ByteArray := prog_10_method_41_code
def yX8_figure : MethodName := ⟨RX8, "figure", "(III)Z"⟩
abbrev cX8_figures : ByteArray := prog_10_method_42_code
def yX8_figures : MethodName := ⟨RX8, "figures", "(III)Z"⟩
abbrev cX8_readsClass : ByteArray := prog_10_method_43_code
def yX8_readsClass : MethodName := ⟨RX8, "readsClass", "()Z"⟩
abbrev cX8_readsCommand : ByteArray := prog_10_method_44_code
def yX8_readsCommand : MethodName := ⟨RX8, "readsCommand", "()Z"⟩
abbrev cX8_isStudio : ByteArray := prog_10_method_45_code
def yX8_isStudio : MethodName := ⟨RX8, "isStudio", "()Z"⟩
abbrev cX8_errorPosition : ByteArray := prog_10_method_46_code
def yX8_errorPosition : MethodName := ⟨RX8, "errorPosition", "()I"⟩
abbrev cX8_canSet : ByteArray := prog_10_method_47_code
def yX8_canSet : MethodName := ⟨RX8, "canSet", "()Z"⟩
abbrev cX8_areBoth : ByteArray := prog_10_method_48_code
def yX8_areBoth : MethodName := ⟨RX8, "areBoth", "()Z"⟩
abbrev cX8_canPass : ByteArray := prog_10_method_49_code
def yX8_canPass : MethodName := ⟨RX8, "canPass", "(I)Z"⟩
abbrev cX8_can : ByteArray := prog_10_method_50_code
def yX8_can : MethodName := ⟨RX8, "can", "()Z"⟩
abbrev cX8_does : ByteArray := prog_10_method_51_code
def yX8_does : MethodName := ⟨RX8, "does", "()V"⟩
abbrev cX8_load : ByteArray := prog_10_method_52_code
def yX8_load : MethodName := ⟨RX8, "load", "()I"⟩
abbrev cX8_seats : ByteArray := prog_10_method_53_code
def yX8_seats : MethodName := ⟨RX8, "seats", "()I"⟩
abbrev cX8_left : ByteArray := prog_10_method_54_code
def yX8_left : MethodName := ⟨RX8, "left", "()I"⟩
abbrev cX8_tells : ByteArray := prog_10_method_55_code
def yX8_tells : MethodName := ⟨RX8, "tells", "(I)I"⟩
abbrev cX8_about : ByteArray := prog_10_method_56_code
def yX8_about : MethodName := ⟨RX8, "about", "(I)I"⟩
abbrev cX8_classes : ByteArray := prog_10_method_57_code
def yX8_classes : MethodName := ⟨RX8, "classes", "(II)I"⟩
abbrev cX8_floorOf : ByteArray := prog_10_method_58_code
def yX8_floorOf : MethodName := ⟨RX8, "floorOf", "(II)I"⟩
abbrev cX8_daysOf : ByteArray := prog_10_method_59_code
def yX8_daysOf : MethodName := ⟨RX8, "daysOf", "(I)I"⟩
abbrev cX8_teacherOf : ByteArray := prog_10_method_60_code
def yX8_teacherOf : MethodName := ⟨RX8, "teacherOf", "(II)I"⟩
abbrev cX8_classOf : ByteArray := prog_10_method_61_code
def yX8_classOf : MethodName := ⟨RX8, "classOf", "(II)I"⟩
abbrev cX8_seatsOf : ByteArray := prog_10_method_62_code
def yX8_seatsOf : MethodName := ⟨RX8, "seatsOf", "(I)I"⟩
abbrev cX8_dancerOf : ByteArray := prog_10_method_63_code
def yX8_dancerOf : MethodName := ⟨RX8, "dancerOf", "(II)I"⟩
abbrev cX8_uses : ByteArray := prog_10_method_64_code
def yX8_uses : MethodName := ⟨RX8, "uses", "(I)I"⟩
abbrev cX8_setting : ByteArray := prog_10_method_65_code
def yX8_setting : MethodName := ⟨RX8, "setting", "(I)I"⟩
abbrev cX8_isFloorLike : ByteArray := prog_10_method_66_code
def yX8_isFloorLike : MethodName := ⟨RX8, "isFloorLike", "(IIII)Z"⟩
abbrev cX8_floor : ByteArray := prog_10_method_67_code
def yX8_floor : MethodName := ⟨RX8, "floor", "(IIII)I"⟩
abbrev cX8_teacher : ByteArray := prog_10_method_68_code
def yX8_teacher : MethodName := ⟨RX8, "teacher", "(II)I"⟩
abbrev cX8_isTime : ByteArray := prog_10_method_69_code
def yX8_isTime : MethodName := ⟨RX8, "isTime", "(IIII)Z"⟩
abbrev cX8_triesClass : ByteArray := prog_10_method_70_code
def yX8_triesClass : MethodName := ⟨RX8, "triesClass", "(IIIIII)I"⟩
abbrev cX8_triesSeat : ByteArray := prog_10_method_71_code
def yX8_triesSeat : MethodName := ⟨RX8, "triesSeat", "(II)I"⟩
abbrev cX8_set : ByteArray := prog_10_method_72_code
def yX8_set : MethodName := ⟨RX8, "set", "(IIIIII)I"⟩
abbrev cX8_drop : ByteArray := prog_10_method_73_code
def yX8_drop : MethodName := ⟨RX8, "drop", "(I)I"⟩
abbrev cX8_dancer : ByteArray := prog_10_method_74_code
def yX8_dancer : MethodName := ⟨RX8, "dancer", "()I"⟩
abbrev cX8_pass : ByteArray := prog_10_method_75_code
def yX8_pass : MethodName := ⟨RX8, "pass", "(I)I"⟩
abbrev cX8_enter : ByteArray := prog_10_method_76_code
def yX8_enter : MethodName := ⟨RX8, "enter", "(II)I"⟩
abbrev cX8_leave : ByteArray := prog_10_method_77_code
def yX8_leave : MethodName := ⟨RX8, "leave", "(II)I"⟩
abbrev cX8_weeks : ByteArray := prog_10_method_78_code
def yX8_weeks : MethodName := ⟨RX8, "weeks", "(I)I"⟩
abbrev cX8_tune : ByteArray := prog_10_method_79_code
def yX8_tune : MethodName := ⟨RX8, "tune", "(II)I"⟩
abbrev cX8_undo : ByteArray := prog_10_method_80_code
def yX8_undo : MethodName := ⟨RX8, "undo", "()I"⟩
abbrev cX8_why : ByteArray := prog_10_method_81_code
def yX8_why : MethodName := ⟨RX8, "why", "(IIIIII)I"⟩
abbrev cX8_whySeat : ByteArray := prog_10_method_82_code
def yX8_whySeat : MethodName := ⟨RX8, "whySeat", "(II)I"⟩
abbrev cX8_bestFloor : ByteArray := prog_10_method_83_code
def yX8_bestFloor : MethodName := ⟨RX8, "bestFloor", "(IIIII)I"⟩
abbrev cX8_emptyIn : ByteArray := prog_10_method_84_code
def yX8_emptyIn : MethodName := ⟨RX8, "emptyIn", "(I)I"⟩
abbrev cX8_held : ByteArray := prog_10_method_85_code
def yX8_held : MethodName := ⟨RX8, "held", "()I"⟩
abbrev cX8_isCommand : ByteArray := prog_10_method_86_code
def yX8_isCommand : MethodName := ⟨RX8, "isCommand", "(I)Z"⟩
abbrev cX8_size : ByteArray := prog_10_method_87_code
def yX8_size : MethodName := ⟨RX8, "size", "(I)J"⟩
abbrev cX8_runScript : ByteArray := prog_10_method_88_code
def yX8_runScript : MethodName := ⟨RX8, "runScript", "(IJ)I"⟩
abbrev cX8_turns : ByteArray := prog_10_method_89_code
def yX8_turns : MethodName := ⟨RX8, "turns", "(II)V"⟩
abbrev cX8_dancersTurn : ByteArray := prog_10_method_90_code
def yX8_dancersTurn : MethodName := ⟨RX8, "dancersTurn", "(II)V"⟩
abbrev cX8_simulate : ByteArray := prog_10_method_91_code
def yX8_simulate : MethodName := ⟨RX8, "simulate", "(JI)I"⟩
abbrev cX8_save : ByteArray := prog_10_method_92_code
def yX8_save : MethodName := ⟨RX8, "save", "(I)I"⟩
abbrev cX8_restore : ByteArray := prog_10_method_93_code
def yX8_restore : MethodName := ⟨RX8, "restore", "(I)I"⟩
def RJ6 : String := "java/lang/Integer"
def TJ6 : u_T := fun k => match k with
  | _ => ("", "", "", false)
def tyJ6 : Nat → FieldType := fun k => match k with
  | _ => .int
abbrev wsJ60 : List Cond := u_ws RJ6 TJ6 0
theorem nmJ6 : ∀ a, a < 0 → ∀ b, b < 0 → a ≠ b → (TJ6 a).2.1 ≠ (TJ6 b).2.1 := by decide +kernel
theorem tyJ6_ok : ∀ k, k < 0 → parseFieldDescriptor (TJ6 k).2.2.1 = some (tyJ6 k) := by decide +kernel
abbrev cJ6_bitCount_0f7a4 : ByteArray := prog_15_method_49_code
def yJ6_bitCount_0f7a4 : MethodName := ⟨RJ6, "bitCount", "(I)I"⟩
def RJ9 : String := "java/lang/Math"
def TJ9 : u_T := fun k => match k with
  | _ => ("", "", "", false)
def tyJ9 : Nat → FieldType := fun k => match k with
  | _ => .int
abbrev wsJ90 : List Cond := u_ws RJ9 TJ9 0
theorem nmJ9 : ∀ a, a < 0 → ∀ b, b < 0 → a ≠ b → (TJ9 a).2.1 ≠ (TJ9 b).2.1 := by decide +kernel
theorem tyJ9_ok : ∀ k, k < 0 → parseFieldDescriptor (TJ9 k).2.2.1 = some (tyJ9 k) := by decide +kernel
abbrev cJ9_max_7cf53 : ByteArray := prog_16_method_65_code
def yJ9_max_7cf53 : MethodName := ⟨RJ9, "max", "(II)I"⟩
abbrev cJ9_min_7cf53 : ByteArray := prog_16_method_69_code
def yJ9_min_7cf53 : MethodName := ⟨RJ9, "min", "(II)I"⟩
def RJ0 : String := "java/lang/String"
def TJ0 : u_T := fun k => match k with
  | _ => ("", "", "", false)
def tyJ0 : Nat → FieldType := fun k => match k with
  | _ => .int
abbrev wsJ00 : List Cond := u_ws RJ0 TJ0 0
theorem nmJ0 : ∀ a, a < 0 → ∀ b, b < 0 → a ≠ b → (TJ0 a).2.1 ≠ (TJ0 b).2.1 := by decide +kernel
theorem tyJ0_ok : ∀ k, k < 0 → parseFieldDescriptor (TJ0 k).2.2.1 = some (tyJ0 k) := by decide +kernel
def RL : String := "DanceFloorsLaw"
abbrev cL_append : ByteArray := method_3_code
def yL_append : MethodName := ⟨RL, "append", "(LDanceFloors;I[J)I"⟩
abbrev cL_load : ByteArray := method_4_code
def yL_load : MethodName := ⟨RL, "load", "(LDanceFloors;[J)I"⟩
abbrev cL_about : ByteArray := method_5_code
def yL_about : MethodName := ⟨RL, "about", "(LDanceFloors;I[J)I"⟩
abbrev cL_floorOf : ByteArray := method_6_code
def yL_floorOf : MethodName := ⟨RL, "floorOf", "(LDanceFloors;II[J)I"⟩
abbrev cL_teacherOf : ByteArray := method_7_code
def yL_teacherOf : MethodName := ⟨RL, "teacherOf", "(LDanceFloors;II[J)I"⟩
abbrev cL_classOf : ByteArray := method_8_code
def yL_classOf : MethodName := ⟨RL, "classOf", "(LDanceFloors;II[J)I"⟩
abbrev cL_dancerOf : ByteArray := method_9_code
def yL_dancerOf : MethodName := ⟨RL, "dancerOf", "(LDanceFloors;II[J)I"⟩
abbrev cL_uses : ByteArray := method_10_code
def yL_uses : MethodName := ⟨RL, "uses", "(LDanceFloors;I[J)I"⟩
abbrev cL_setting : ByteArray := method_11_code
def yL_setting : MethodName := ⟨RL, "setting", "(LDanceFloors;I[J)I"⟩
abbrev cL_floor : ByteArray := method_12_code
def yL_floor : MethodName := ⟨RL, "floor", "(LDanceFloors;IIII[J)I"⟩
abbrev cL_teacher : ByteArray := method_13_code
def yL_teacher : MethodName := ⟨RL, "teacher", "(LDanceFloors;II[J)I"⟩
abbrev cL_set : ByteArray := method_14_code
def yL_set : MethodName := ⟨RL, "set", "(LDanceFloors;IIIIII[J)I"⟩
abbrev cL_drop : ByteArray := method_15_code
def yL_drop : MethodName := ⟨RL, "drop", "(LDanceFloors;I[J)I"⟩
abbrev cL_dancer : ByteArray := method_16_code
def yL_dancer : MethodName := ⟨RL, "dancer", "(LDanceFloors;[J)I"⟩
abbrev cL_pass : ByteArray := method_17_code
def yL_pass : MethodName := ⟨RL, "pass", "(LDanceFloors;I[J)I"⟩
abbrev cL_enter : ByteArray := method_18_code
def yL_enter : MethodName := ⟨RL, "enter", "(LDanceFloors;II[J)I"⟩
abbrev cL_leave : ByteArray := method_19_code
def yL_leave : MethodName := ⟨RL, "leave", "(LDanceFloors;II[J)I"⟩
abbrev cL_weeks : ByteArray := method_20_code
def yL_weeks : MethodName := ⟨RL, "weeks", "(LDanceFloors;I[J)I"⟩
abbrev cL_tune : ByteArray := method_21_code
def yL_tune : MethodName := ⟨RL, "tune", "(LDanceFloors;II[J)I"⟩
abbrev cL_undo : ByteArray := method_22_code
def yL_undo : MethodName := ⟨RL, "undo", "(LDanceFloors;[J)I"⟩
abbrev cL_why : ByteArray := method_23_code
def yL_why : MethodName := ⟨RL, "why", "(LDanceFloors;IIIIII[J)I"⟩
abbrev cL_whySeat : ByteArray := method_24_code
def yL_whySeat : MethodName := ⟨RL, "whySeat", "(LDanceFloors;II[J)I"⟩
abbrev cL_bestFloor : ByteArray := method_25_code
def yL_bestFloor : MethodName := ⟨RL, "bestFloor", "(LDanceFloors;IIIII[J)I"⟩
abbrev cL_emptyIn : ByteArray := method_26_code
def yL_emptyIn : MethodName := ⟨RL, "emptyIn", "(LDanceFloors;I[J)I"⟩
abbrev cL_runScript : ByteArray := method_27_code
def yL_runScript : MethodName := ⟨RL, "runScript", "(LDanceFloors;IJ[J)I"⟩
abbrev cL_simulate : ByteArray := method_28_code
def yL_simulate : MethodName := ⟨RL, "simulate", "(LDanceFloors;JI[J)I"⟩
abbrev cL_save : ByteArray := method_29_code
def yL_save : MethodName := ⟨RL, "save", "(LDanceFloors;I[J)I"⟩
abbrev cL_restore : ByteArray := method_30_code
def yL_restore : MethodName := ⟨RL, "restore", "(LDanceFloors;I[J)I"⟩
abbrev cL_law : ByteArray := code
def yL_law : MethodName := ⟨RL, "law", "([I)Z"⟩
abbrev vwCl : List vw_C := [(RX0, TX0, 4), (RX1, TX1, 4), (RX2, TX2, 3), (RX3, TX3, 9), (RX4, TX4, 14), (RX5, TX5, 2), (RX6, TX6, 6), (RX7, TX7, 6), (RX8, TX8, 9)]
end
section
/-! ===== THE FRAME: a clean machine over numbered cells; G is the kit's W under it ===== -/
abbrev Sh : Type := Nat × Nat × List Nat
abbrev Mem : Type := Nat → Nat → Int32
abbrev Kp : Type := Nat × (Nat → Option Sh) × Bool
abbrev Rs : Type := Option Value ⊕ Nat
abbrev Xs : Type := Nat × (Nat → Int32)
abbrev Lo : Type := List (Nat × Option Value)
abbrev MI : Type := MethodName × ByteArray × Nat × Option FieldType × Option (List (Nat × Nat × Nat × Nat)) × Room
abbrev rmOf (y : MI) : Room := y.2.2.2.2.2
theorem nle {a b : Nat} (h : Nat.ble a b = true) : a ≤ b := Nat.le_of_ble_eq_true h
def tblG : List Cond := lw_tbl.filter goodWord
def cwOf (y : MI) : Cond := match y.2.2.2.2.1 with
  | none => .code y.1 y.2.1 y.2.2.1 y.2.2.2.1
  | some hh => .codeWith y.1 y.2.1 y.2.2.1 y.2.2.2.1 hh
def wsOf (y : MI) : List Cond := cwOf y :: tblG
theorem tblG_in {w : Cond} {i : Nat} (h : lw_tbl[i]? = some w) (hg : goodWord w = true) : w ∈ tblG := List.mem_filter.mpr ⟨List.mem_of_getElem? h, hg⟩
theorem tblG_good {w : Cond} (h : w ∈ tblG) : (w.onTables && w.keeps) = true ∨ ∃ ty, w = .arrayClass ty := good_of_word (List.mem_filter.mp h).2
theorem good_wsOf {y z : MI} (h : cwOf z ∈ tblG) : GoodIn (wsOf y) (wsOf z) := by
  intro w hw
  have hw' : w ∈ tblG := by
    rcases List.mem_cons.mp hw with e | e
    · rw [e]; exact h
    · exact e
  exact ⟨List.mem_cons_of_mem _ hw', tblG_good hw'⟩
/-- addresses: 0 is the script, k + 1 the k-th cell from Z on -/
def ad (b Z : Nat) (r : Nat) : Nat := match r with
  | 0 => b
  | k + 1 => Z + k
def tv (b Z : Nat) (v : Value) : Value := match v with
  | .ref r => .ref (ad b Z r)
  | v => v
theorem tv_cat (b Z : Nat) (v : Value) : (tv b Z v).category = v.category := by cases v <;> rfl
def fv (b Z : Nat) (M : Mem) (o : Nat) (cs : List Nat) (k : Nat) : Value := match cs.getD k 0 with
  | 0 => .int (M o k)
  | 1 => .null
  | c + 2 => .ref (ad b Z c)
def clN (c : Nat) : String := match vwCl[c]? with
  | some q => q.1
  | none => ""
def aty (t : Nat) : FieldType := if t = 16 then .int else if t = 17 then .char else if t = 18 then .boolean else if t = 19 then .long else .object (clN (t - 20))
def aev (b Z : Nat) (M : Mem) (o t : Nat) (cs : List Nat) (j : Nat) : Value := if t < 19 then .int (M o j) else if t = 19 then .long (M o j).toInt64 else fv b Z M o cs j
def cellOK (b Z : Nat) (D : va_G) (M : Mem) (U : State) (H : Heap) (r : Nat) (sh : Sh) : Prop :=
  if sh.1 < 16 then ∃ q : vw_C, vwCl[sh.1]? = some q ∧ q.2.2 = sh.2.1 ∧ sh.2.2.length = sh.2.1 ∧ t_OB (ad b Z r) (D.1 sh.1) q.2.2 (D.2 sh.1) H (fv b Z M r sh.2.2)
  else ∃ cA : ClassId, H[ad b Z r]? = some (arrV cA sh.2.1 (aev b Z M r sh.1 sh.2.2)) ∧ ArrOfT U cA (aty sh.1) ∧ va_RA U cA (aty sh.1)
/-- words that are no good words: they go with the state -/
def nestW : List (String × Nat × MethodName × String) := [(RX4, 17, yX1_init, RX7), (RX4, 24, yX5_init, RX7), (RX4, 31, yX3_init, RX7), (RX4, 38, yX0_init, RX7), (RX6, 78, yX7_isWithin, RX7)]
def overW : List String := [RX0, RX1, RX3, RX4, RX5]
def ncW : List (String × String) := [("java/lang/IllegalStateException", "java/lang/IllegalArgumentException"), ("java/lang/IllegalArgumentException", "java/lang/IndexOutOfBoundsException"), ("java/lang/IllegalStateException", "java/lang/IndexOutOfBoundsException")]
def strW : List (String × Nat × String) := [(RX7, 114, "what is out of range"), (RX7, 328, "there is no such thing"), (RX7, 331, "an argument is out of range"), (RX7, 335, "this cannot be done now")]
def castW : List String := ["java/lang/IllegalArgumentException", "java/lang/IllegalStateException", "java/lang/IndexOutOfBoundsException"]
def declW : List MethodName := [⟨"java/lang/RuntimeException", "<init>", "(Ljava/lang/String;)V"⟩, ⟨"java/lang/Exception", "<init>", "(Ljava/lang/String;)V"⟩, ⟨"java/lang/Throwable", "<init>", "(Ljava/lang/String;)V"⟩]
def NW (U : State) : Prop := (∀ q ∈ nestW, va_Nw (.methodLinkNest q.1 q.2.1 q.2.2.1 q.2.2.2) U) ∧ (∀ q ∈ overW, va_AO q U) ∧ (∀ q ∈ ncW, va_Nc q.1 q.2 U) ∧ (∀ q ∈ strW, ∃ a : Nat, vk_R q.1 q.2.1 q.2.2 a U) ∧ (∀ q ∈ castW, va_Nw (.castable q q) U) ∧ (∀ q ∈ declW, va_Nw (.declares q) U)
def Wd (X : Xs) (b Z : Nat) (D : va_G) (U : State) : Prop :=
  va_K D vwCl [] U ∧ va_X b X.1 X.2 U U.heap ∧ b < Z ∧ Z ≤ U.heap.size ∧ vx_Zq Bundle.tN "UNASSIGNED_STACK" Bundle.steD (fun q => Z ≤ q) U U.heap ∧ vx_Zq Bundle.tN "SUPPRESSED_SENTINEL" Bundle.listD (fun q => Z ≤ q) U U.heap ∧ NW U
def Rel (b Z : Nat) (D : va_G) (κ : Kp) (M : Mem) (U : State) (H : Heap) : Prop :=
  (∀ (r : Nat) (sh : Sh), κ.2.1 r = some sh → (1 ≤ r ∧ r ≤ κ.1) ∧ cellOK b Z D M U H r sh) ∧ Z + κ.1 ≤ H.size ∧ (κ.2.2 = true → Z + κ.1 = H.size)
/-- locals: the newest row counts -/
def lg : Lo → Nat → Option Value
  | [], _ => none
  | q :: t, i => bif Nat.beq q.1 i then q.2 else lg t i
def lk (lo : Lo) (i : Nat) : Lo := match lg lo (i - 1) with
  | some w => bif Nat.beq w.category 2 then (i - 1, none) :: lo else lo
  | none => lo
def ls1 (lo : Lo) (i : Nat) (v : Value) : Lo := (i, some v) :: lk lo i
def ls2 (lo : Lo) (i : Nat) (v : Value) : Lo := (i, some v) :: (i + 1, none) :: lk lo i
def LoOk (b Z : Nat) (ls : Array Slot) (n : Nat) (lo : Lo) : Prop := ls.size = n ∧ lv_wf ls ∧ ∀ (i : Nat) (v : Value), lg lo i = some v → ls[i]? = some (.val (tv b Z v))
def subLo (lo : Lo) : Lo → Prop
  | [] => True
  | q :: t => lg lo q.1 = q.2 ∧ q.2 ≠ none ∧ subLo lo t
theorem lg_cons (q : Nat × Option Value) (t : Lo) (i : Nat) : lg (q :: t) i = if q.1 = i then q.2 else lg t i := by
  show (bif Nat.beq q.1 i then q.2 else lg t i) = _
  by_cases h : q.1 = i
  · have : Nat.beq q.1 i = true := Nat.beq_eq.mpr h
    rw [this, if_pos h]; rfl
  · have : Nat.beq q.1 i = false := by
      cases hb : Nat.beq q.1 i
      · rfl
      · exact absurd (Nat.beq_eq.mp hb) h
    rw [this, if_neg h]; rfl
theorem subLo_lg {lo : Lo} : ∀ {lo' : Lo}, subLo lo lo' → ∀ (i : Nat) (v : Value), lg lo' i = some v → lg lo i = some v
  | [], _, i, v, h => by cases h
  | q :: t, hs, i, v, h => by
    rw [lg_cons] at h
    by_cases hq : q.1 = i
    · rw [if_pos hq] at h
      rw [← hq, hs.1, h]
    · rw [if_neg hq] at h
      exact subLo_lg hs.2.2 i v h
theorem LoOk.sub {b Z : Nat} {ls : Array Slot} {n : Nat} {lo lo' : Lo} (h : LoOk b Z ls n lo) (hs : subLo lo lo') : LoOk b Z ls n lo' := ⟨h.1, h.2.1, fun i v hv => h.2.2 i v (subLo_lg hs i v hv)⟩
theorem lk_lg {lo : Lo} {i j : Nat} {v : Value} (h : lg (lk lo i) j = some v) : lg lo j = some v ∧ (j + 1 = i → v.category ≠ 2) := by
  unfold lk at h
  cases hg : lg lo (i - 1) with
  | none =>
    rw [hg] at h
    refine ⟨h, fun hj => ?_⟩
    have : j = i - 1 := by omega
    rw [this, hg] at h; cases h
  | some w =>
    rw [hg] at h
    dsimp only at h
    cases hc : Nat.beq w.category 2 with
    | true =>
      rw [hc] at h
      have h : lg ((i - 1, none) :: lo) j = some v := h
      rw [lg_cons] at h
      by_cases hj : i - 1 = j
      · rw [if_pos hj] at h; cases h
      · rw [if_neg hj] at h
        exact ⟨h, fun h2 => absurd (by omega) hj⟩
    | false =>
      rw [hc] at h
      have h : lg lo j = some v := h
      refine ⟨h, fun hj h2 => ?_⟩
      have : j = i - 1 := by omega
      rw [this, hg] at h
      cases h
      rw [h2] at hc
      cases hc
def lall (b Z n : Nat) (lo : Lo) : List (Nat × Value) := (List.range n).filterMap fun j => (lg lo j).map fun w => (j, tv b Z w)
theorem lall_mem {b Z n : Nat} {ls : Array Slot} {lo : Lo} (h : LoOk b Z ls n lo) {j : Nat} {v : Value} (hg : lg lo j = some v) : (j, tv b Z v) ∈ lall b Z n lo := by
  have hj : j < n := by rw [← h.1]; exact lv_lt (h.2.2 j v hg)
  exact List.mem_filterMap.mpr ⟨j, List.mem_range.mpr hj, by rw [hg]; rfl⟩
theorem lall_has {b Z n : Nat} {ls : Array Slot} {lo : Lo} (h : LoOk b Z ls n lo) : lv_has ls n (lall b Z n lo) := by
  refine ⟨h.1, h.2.1, fun q hq => ?_⟩
  obtain ⟨j, -, hj⟩ := List.mem_filterMap.mp hq
  cases hg : lg lo j with
  | none => rw [hg] at hj; cases hj
  | some v =>
    rw [hg] at hj
    cases hj
    exact h.2.2 j v hg
theorem LoOk.klo {b Z n : Nat} {ls : Array Slot} {lo : Lo} (h : LoOk b Z ls n lo) (i : Nat) : LoOk b Z ls n (lk lo i) := ⟨h.1, h.2.1, fun j v hv => h.2.2 j v (lk_lg hv).1⟩
theorem LoOk.st1 {b Z n i : Nat} {ls ls' : Array Slot} {lo : Lo} {x : Value} (h : LoOk b Z ls n lo) (h' : lv_has ls' n ((i, tv b Z x) :: (lall b Z n (lk lo i)).filter (fun q => !(q.1 == i) && !(q.1 + 1 == i && q.2.category == 2)))) : LoOk b Z ls' n (ls1 lo i x) := by
  refine ⟨h'.1, h'.2.1, fun j v hv => ?_⟩
  have hv : lg ((i, some x) :: lk lo i) j = some v := hv
  rw [lg_cons] at hv
  by_cases hj : i = j
  · rw [if_pos hj] at hv
    cases hv
    subst hj
    exact h'.2.2 (i, tv b Z x) List.mem_cons_self
  · rw [if_neg hj] at hv
    have hm := lall_mem (h.klo i) hv
    refine h'.2.2 (j, tv b Z v) (List.mem_cons_of_mem _ (List.mem_filter.mpr ⟨hm, ?_⟩))
    have h2 := (lk_lg hv).2
    simp only [tv_cat, Bool.and_eq_true, Bool.not_eq_true', beq_eq_false_iff_ne, ne_eq, Bool.and_eq_false_iff]
    refine ⟨Ne.symm hj, ?_⟩
    by_cases hi : j + 1 = i
    · exact Or.inr (h2 hi)
    · exact Or.inl hi
theorem LoOk.st2 {b Z n i : Nat} {ls ls' : Array Slot} {lo : Lo} {x : Value} (h : LoOk b Z ls n lo) (h' : lv_has ls' n ((i, tv b Z x) :: (lall b Z n (lk lo i)).filter (fun q => !(q.1 == i) && (!(q.1 == i + 1) && !(q.1 + 1 == i && q.2.category == 2))))) : LoOk b Z ls' n (ls2 lo i x) := by
  refine ⟨h'.1, h'.2.1, fun j v hv => ?_⟩
  have hv : lg ((i, some x) :: (i + 1, none) :: lk lo i) j = some v := hv
  rw [lg_cons] at hv
  by_cases hj : i = j
  · rw [if_pos hj] at hv
    cases hv
    subst hj
    exact h'.2.2 (i, tv b Z x) List.mem_cons_self
  · rw [if_neg hj, lg_cons] at hv
    by_cases hj1 : i + 1 = j
    · rw [if_pos hj1] at hv; cases hv
    · rw [if_neg hj1] at hv
      have hm := lall_mem (h.klo i) hv
      refine h'.2.2 (j, tv b Z v) (List.mem_cons_of_mem _ (List.mem_filter.mpr ⟨hm, ?_⟩))
      have h2 := (lk_lg hv).2
      simp only [tv_cat, Bool.and_eq_true, Bool.not_eq_true', beq_eq_false_iff_ne, ne_eq, Bool.and_eq_false_iff]
      refine ⟨Ne.symm hj, Ne.symm hj1, ?_⟩
      by_cases hi : j + 1 = i
      · exact Or.inr (h2 hi)
      · exact Or.inl hi
/-- the code from pc on -/
def CdAt (cc : ByteArray) : Nat → List (Instr × Nat) → Prop
  | _, [] => True
  | pc, q :: t => decode cc pc = .ok q ∧ CdAt cc (pc + q.2) t
def atB (cc : ByteArray) : Nat → List (Instr × Nat) → Bool
  | _, [] => true
  | pc, q :: t => decide (decode cc pc = .ok q) && atB cc (pc + q.2) t
theorem at_of {cc : ByteArray} : ∀ {l : List (Instr × Nat)} {pc : Nat}, atB cc pc l = true → CdAt cc pc l
  | [], _, _ => trivial
  | q :: t, pc, h => by
    have h : (decide (decode cc pc = .ok q) && atB cc (pc + q.2) t) = true := h
    rw [Bool.and_eq_true] at h
    exact ⟨of_decide_eq_true h.1, at_of h.2⟩
/-- what a method owes and gets -/
def zPc (X : Xs) (b Z : Nat) (D : va_G) (as : List Value) (κ : Kp) (M : Mem) : Array Value → State → Prop := fun v U => v = (as.map (tv b Z)).toArray ∧ Wd X b Z D U ∧ Rel b Z D κ M U U.heap
def zQc (b Z : Nat) (D : va_G) (Q : Rs → Kp → Mem → Prop) : Array Value → State → Outcome → State → Prop := fun _ st oc t => (∃ (r : Option Value) (κ : Kp) (M : Mem), oc = .returned (r.map (tv b Z)) ∧ Q (.inl r) κ M ∧ Rel b Z D κ M t t.heap) ∧ va_F (fun q => Z ≤ q) st t
def exN (e : Nat) : String := match e with
  | 0 => "java/lang/IllegalArgumentException"
  | 1 => "java/lang/IllegalStateException"
  | _ => "java/lang/IndexOutOfBoundsException"
def zXC (b Z : Nat) (D : va_G) (Q : Rs → Kp → Mem → Prop) : String → State → State → Prop := fun E st t => (∃ (e : Nat) (κ : Kp) (M : Mem), E = exN e ∧ Q (.inr e) κ M ∧ Rel b Z D κ M t t.heap) ∧ va_F (fun q => Z ≤ q) st t
def Ct (X : Xs) (y : MI) (as : List Value) (κ : Kp) (M : Mem) (Q : Rs → Kp → Mem → Prop) : Prop := ∀ l : Launch, l.stackTraces = false → ∀ (b Z : Nat) (D : va_G), vx_Met l y.1 (wsOf y) (rmOf y) (zPc X b Z D as κ M) (zQc b Z D Q) (zXC b Z D Q) (rmOf y).cells (rmOf y).slots (fun q => Z ≤ q)
def Cx (X : Xs) (y : MI) (l : Launch) (p : Program) (s : State) (m : MethodId) (args : Array Value) (meth : Method) (c : Code) (b Z : Nat) (D : va_G) : Prop :=
  l.stackTraces = false ∧ p.tables.exec = Jvm.exec ∧ c.code = y.2.1 ∧ c.maxLocals = y.2.2.1 ∧ meth.sig.returnType = y.2.2.2.1 ∧ meth.locks = false ∧ meth.name = y.1.name ∧
  c.exceptionTable.toList = tableOf (y.2.2.2.2.1.getD []) ∧ s.vm.findClass y.1.cls = some m.cls ∧ (∀ w ∈ wsOf y, w.before args s = true) ∧ Wd X b Z D s
def G (X : Xs) (y : MI) (is : List (Instr × Nat)) (pc : Nat) (lo : Lo) (st : List Value) (n k : Nat) (κ : Kp) (M : Mem) (Q : Rs → Kp → Mem → Prop) : Prop :=
  CdAt y.2.1 pc is → ∀ (l : Launch) (p : Program) (e : Env) (s : State) (m : MethodId) (args : Array Value) (below : List Frame) (meth : Method) (c : Code) (b Z : Nat) (D : va_G) (H : Heap) (locs : List Loc) (ls : Array Slot),
    Cx X y l p s m args meth c b Z D → Rel b Z D κ M s H → va_S (fun q => Z ≤ q) s.heap H locs → LoOk b Z ls y.2.2.1 lo →
    W p l e (rmOf y) s m args below meth c H locs n k (vx_MQ below (zQc b Z D Q) (zXC b Z D Q) args s (rmOf y).cells (rmOf y).slots (fun q => Z ≤ q)) (F0 m pc ls (st.map (tv b Z)))
theorem Cx.own {X : Xs} {y : MI} {l : Launch} {p : Program} {s : State} {m : MethodId} {args : Array Value} {meth : Method} {c : Code} {b Z : Nat} {D : va_G} (h : Cx X y l p s m args meth c b Z D) : s.vm.findClass y.1.cls = some m.cls := h.2.2.2.2.2.2.2.2.1
theorem Cx.words {X : Xs} {y : MI} {l : Launch} {p : Program} {s : State} {m : MethodId} {args : Array Value} {meth : Method} {c : Code} {b Z : Nat} {D : va_G} (h : Cx X y l p s m args meth c b Z D) : ∀ w ∈ wsOf y, w.before args s = true := h.2.2.2.2.2.2.2.2.2.1
theorem Cx.word {X : Xs} {y : MI} {l : Launch} {p : Program} {s : State} {m : MethodId} {args : Array Value} {meth : Method} {c : Code} {b Z : Nat} {D : va_G} (h : Cx X y l p s m args meth c b Z D) {w : Cond} (hw : w ∈ tblG) : w.before args s = true := h.words w (List.mem_cons_of_mem _ hw)
theorem Cx.wd {X : Xs} {y : MI} {l : Launch} {p : Program} {s : State} {m : MethodId} {args : Array Value} {meth : Method} {c : Code} {b Z : Nat} {D : va_G} (h : Cx X y l p s m args meth c b Z D) : Wd X b Z D s := h.2.2.2.2.2.2.2.2.2.2
theorem lv_has_cons {ls : Array Slot} {n : Nat} {l : List (Nat × Value)} {i : Nat} {v : Value} (h : lv_has ls n l) (hv : ls[i]? = some (.val v)) : lv_has ls n ((i, v) :: l) := ⟨h.1, h.2.1, fun q hq => by
  rcases List.mem_cons.mp hq with e | e
  · rw [e]; exact hv
  · exact h.2.2 q e⟩
section ROWS
theorem g_iconst {X : Xs} {y : MI} {is : List (Instr × Nat)} {pc : Nat} {lo : Lo} {st : List Value} {nc ks : Nat} {κ : Kp} {M : Mem} {Q : Rs → Kp → Mem → Prop} {i : Int} {v : Int32} (hv : Int32.ofInt i = v) (kk : G X y is (pc + 1) lo (.int v :: st) nc ks κ M Q) : G X y (((.iconst i), 1) :: is) pc lo st nc ks κ M Q := by
  intro hA l p e s m args below meth c b Z D H locs ls hC hR hS hL
  have hx := hC.2.1
  have hb := hC.2.2.1
  exact lv_iconst hx hb hA.1 hv (kk hA.2 l p e s m args below meth c b Z D H locs ls hC hR hS hL)
theorem g_bipush {X : Xs} {y : MI} {is : List (Instr × Nat)} {pc : Nat} {lo : Lo} {st : List Value} {nc ks : Nat} {κ : Kp} {M : Mem} {Q : Rs → Kp → Mem → Prop} {i : Int} {v : Int32} (hv : (Int8.ofInt i).toInt32 = v) (kk : G X y is (pc + 2) lo (.int v :: st) nc ks κ M Q) : G X y (((.bipush i), 2) :: is) pc lo st nc ks κ M Q := by
  intro hA l p e s m args below meth c b Z D H locs ls hC hR hS hL
  have hx := hC.2.1
  have hb := hC.2.2.1
  exact lv_bipush hx hb hA.1 hv (kk hA.2 l p e s m args below meth c b Z D H locs ls hC hR hS hL)
theorem g_sipush {X : Xs} {y : MI} {is : List (Instr × Nat)} {pc : Nat} {lo : Lo} {st : List Value} {nc ks : Nat} {κ : Kp} {M : Mem} {Q : Rs → Kp → Mem → Prop} {i : Int} {v : Int32} (hv : (Int16.ofInt i).toInt32 = v) (kk : G X y is (pc + 3) lo (.int v :: st) nc ks κ M Q) : G X y (((.sipush i), 3) :: is) pc lo st nc ks κ M Q := by
  intro hA l p e s m args below meth c b Z D H locs ls hC hR hS hL
  have hx := hC.2.1
  have hb := hC.2.2.1
  exact lv_sipush hx hb hA.1 hv (kk hA.2 l p e s m args below meth c b Z D H locs ls hC hR hS hL)
theorem g_lconst {X : Xs} {y : MI} {is : List (Instr × Nat)} {pc : Nat} {lo : Lo} {st : List Value} {nc ks : Nat} {κ : Kp} {M : Mem} {Q : Rs → Kp → Mem → Prop} {i : Fin 2} {v : Int64} (hv : Int64.ofNat (i : Nat) = v) (kk : G X y is (pc + 1) lo (.long v :: st) nc ks κ M Q) : G X y (((.lconst i), 1) :: is) pc lo st nc ks κ M Q := by
  intro hA l p e s m args below meth c b Z D H locs ls hC hR hS hL
  have hx := hC.2.1
  have hb := hC.2.2.1
  exact lv_lconst hx hb hA.1 hv (kk hA.2 l p e s m args below meth c b Z D H locs ls hC hR hS hL)
theorem g_iload_n {X : Xs} {y : MI} {is : List (Instr × Nat)} {pc : Nat} {lo : Lo} {st : List Value} {nc ks : Nat} {κ : Kp} {M : Mem} {Q : Rs → Kp → Mem → Prop} {j : Fin 4} {x : Int32} (h : lg lo (j : Nat) = some (.int x)) (kk : G X y is (pc + 1) lo (.int x :: st) nc ks κ M Q) : G X y (((.iload_n j), 1) :: is) pc lo st nc ks κ M Q := by
  intro hA l p e s m args below meth c b Z D H locs ls hC hR hS hL
  have hx := hC.2.1
  have hb := hC.2.2.1
  exact lv_iload_n hx hb hA.1 rfl (hL.2.2 _ _ h) (kk hA.2 l p e s m args below meth c b Z D H locs ls hC hR hS hL)
theorem g_iload {X : Xs} {y : MI} {is : List (Instr × Nat)} {pc : Nat} {lo : Lo} {st : List Value} {nc ks : Nat} {κ : Kp} {M : Mem} {Q : Rs → Kp → Mem → Prop} {i : Nat} {x : Int32} (h : lg lo i = some (.int x)) (kk : G X y is (pc + 2) lo (.int x :: st) nc ks κ M Q) : G X y (((.iload i), 2) :: is) pc lo st nc ks κ M Q := by
  intro hA l p e s m args below meth c b Z D H locs ls hC hR hS hL
  have hx := hC.2.1
  have hb := hC.2.2.1
  exact lv_iload hx hb hA.1 (hL.2.2 _ _ h) (kk hA.2 l p e s m args below meth c b Z D H locs ls hC hR hS hL)
theorem g_lload_n {X : Xs} {y : MI} {is : List (Instr × Nat)} {pc : Nat} {lo : Lo} {st : List Value} {nc ks : Nat} {κ : Kp} {M : Mem} {Q : Rs → Kp → Mem → Prop} {j : Fin 4} {x : Int64} (h : lg lo (j : Nat) = some (.long x)) (kk : G X y is (pc + 1) lo (.long x :: st) nc ks κ M Q) : G X y (((.lload_n j), 1) :: is) pc lo st nc ks κ M Q := by
  intro hA l p e s m args below meth c b Z D H locs ls hC hR hS hL
  have hx := hC.2.1
  have hb := hC.2.2.1
  exact lv_lload_n hx hb hA.1 rfl (hL.2.2 _ _ h) (kk hA.2 l p e s m args below meth c b Z D H locs ls hC hR hS hL)
theorem g_lload {X : Xs} {y : MI} {is : List (Instr × Nat)} {pc : Nat} {lo : Lo} {st : List Value} {nc ks : Nat} {κ : Kp} {M : Mem} {Q : Rs → Kp → Mem → Prop} {i : Nat} {x : Int64} (h : lg lo i = some (.long x)) (kk : G X y is (pc + 2) lo (.long x :: st) nc ks κ M Q) : G X y (((.lload i), 2) :: is) pc lo st nc ks κ M Q := by
  intro hA l p e s m args below meth c b Z D H locs ls hC hR hS hL
  have hx := hC.2.1
  have hb := hC.2.2.1
  exact lv_lload hx hb hA.1 (hL.2.2 _ _ h) (kk hA.2 l p e s m args below meth c b Z D H locs ls hC hR hS hL)
theorem g_aload_n {X : Xs} {y : MI} {is : List (Instr × Nat)} {pc : Nat} {lo : Lo} {st : List Value} {nc ks : Nat} {κ : Kp} {M : Mem} {Q : Rs → Kp → Mem → Prop} {j : Fin 4} {x : Nat} (h : lg lo (j : Nat) = some (.ref x)) (kk : G X y is (pc + 1) lo (.ref x :: st) nc ks κ M Q) : G X y (((.aload_n j), 1) :: is) pc lo st nc ks κ M Q := by
  intro hA l p e s m args below meth c b Z D H locs ls hC hR hS hL
  have hx := hC.2.1
  have hb := hC.2.2.1
  exact lv_aload_n hx hb hA.1 rfl (hL.2.2 _ _ h) (kk hA.2 l p e s m args below meth c b Z D H locs ls hC hR hS hL)
theorem g_aload {X : Xs} {y : MI} {is : List (Instr × Nat)} {pc : Nat} {lo : Lo} {st : List Value} {nc ks : Nat} {κ : Kp} {M : Mem} {Q : Rs → Kp → Mem → Prop} {i : Nat} {x : Nat} (h : lg lo i = some (.ref x)) (kk : G X y is (pc + 2) lo (.ref x :: st) nc ks κ M Q) : G X y (((.aload i), 2) :: is) pc lo st nc ks κ M Q := by
  intro hA l p e s m args below meth c b Z D H locs ls hC hR hS hL
  have hx := hC.2.1
  have hb := hC.2.2.1
  exact lv_aload hx hb hA.1 (hL.2.2 _ _ h) (kk hA.2 l p e s m args below meth c b Z D H locs ls hC hR hS hL)
theorem g_istore {X : Xs} {y : MI} {is : List (Instr × Nat)} {pc : Nat} {lo : Lo} {st : List Value} {nc ks : Nat} {κ : Kp} {M : Mem} {Q : Rs → Kp → Mem → Prop} {i : Nat} {x : Int32} (hi : i < y.2.2.1) (kk : G X y is (pc + 2) (ls1 lo i (.int x)) st nc ks κ M Q) : G X y (((.istore i), 2) :: is) pc lo (.int x :: st) nc ks κ M Q := by
  intro hA l p e s m args below meth c b Z D H locs ls hC hR hS hL
  have hx := hC.2.1
  have hb := hC.2.2.1
  exact lv_istore hx hb hA.1 (lall_has (hL.klo i)) hi rfl fun ls' h' => kk hA.2 l p e s m args below meth c b Z D H locs ls' hC hR hS (hL.st1 (x := .int x) h')
theorem g_istore_n {X : Xs} {y : MI} {is : List (Instr × Nat)} {pc : Nat} {lo : Lo} {st : List Value} {nc ks : Nat} {κ : Kp} {M : Mem} {Q : Rs → Kp → Mem → Prop} {j : Fin 4} {x : Int32} (hi : (j : Nat) < y.2.2.1) (kk : G X y is (pc + 1) (ls1 lo (j : Nat) (.int x)) st nc ks κ M Q) : G X y (((.istore_n j), 1) :: is) pc lo (.int x :: st) nc ks κ M Q := by
  intro hA l p e s m args below meth c b Z D H locs ls hC hR hS hL
  have hx := hC.2.1
  have hb := hC.2.2.1
  exact lv_istore_n hx hb hA.1 rfl (lall_has (hL.klo (j : Nat))) hi rfl fun ls' h' => kk hA.2 l p e s m args below meth c b Z D H locs ls' hC hR hS (hL.st1 (x := .int x) h')
theorem g_lstore {X : Xs} {y : MI} {is : List (Instr × Nat)} {pc : Nat} {lo : Lo} {st : List Value} {nc ks : Nat} {κ : Kp} {M : Mem} {Q : Rs → Kp → Mem → Prop} {i : Nat} {x : Int64} (hi : i + 1 < y.2.2.1) (kk : G X y is (pc + 2) (ls2 lo i (.long x)) st nc ks κ M Q) : G X y (((.lstore i), 2) :: is) pc lo (.long x :: st) nc ks κ M Q := by
  intro hA l p e s m args below meth c b Z D H locs ls hC hR hS hL
  have hx := hC.2.1
  have hb := hC.2.2.1
  exact lv_lstore hx hb hA.1 (lall_has (hL.klo i)) hi rfl fun ls' h' => kk hA.2 l p e s m args below meth c b Z D H locs ls' hC hR hS (hL.st2 (x := .long x) h')
theorem g_lstore_n {X : Xs} {y : MI} {is : List (Instr × Nat)} {pc : Nat} {lo : Lo} {st : List Value} {nc ks : Nat} {κ : Kp} {M : Mem} {Q : Rs → Kp → Mem → Prop} {j : Fin 4} {x : Int64} (hi : (j : Nat) + 1 < y.2.2.1) (kk : G X y is (pc + 1) (ls2 lo (j : Nat) (.long x)) st nc ks κ M Q) : G X y (((.lstore_n j), 1) :: is) pc lo (.long x :: st) nc ks κ M Q := by
  intro hA l p e s m args below meth c b Z D H locs ls hC hR hS hL
  have hx := hC.2.1
  have hb := hC.2.2.1
  exact lv_lstore_n hx hb hA.1 rfl (lall_has (hL.klo (j : Nat))) hi rfl fun ls' h' => kk hA.2 l p e s m args below meth c b Z D H locs ls' hC hR hS (hL.st2 (x := .long x) h')
theorem g_astore {X : Xs} {y : MI} {is : List (Instr × Nat)} {pc : Nat} {lo : Lo} {st : List Value} {nc ks : Nat} {κ : Kp} {M : Mem} {Q : Rs → Kp → Mem → Prop} {i : Nat} {x : Nat} (hi : i < y.2.2.1) (kk : G X y is (pc + 2) (ls1 lo i (.ref x)) st nc ks κ M Q) : G X y (((.astore i), 2) :: is) pc lo (.ref x :: st) nc ks κ M Q := by
  intro hA l p e s m args below meth c b Z D H locs ls hC hR hS hL
  have hx := hC.2.1
  have hb := hC.2.2.1
  exact lv_astore hx hb hA.1 (lall_has (hL.klo i)) hi rfl fun ls' h' => kk hA.2 l p e s m args below meth c b Z D H locs ls' hC hR hS (hL.st1 (x := .ref x) h')
theorem g_astore_n {X : Xs} {y : MI} {is : List (Instr × Nat)} {pc : Nat} {lo : Lo} {st : List Value} {nc ks : Nat} {κ : Kp} {M : Mem} {Q : Rs → Kp → Mem → Prop} {j : Fin 4} {x : Nat} (hi : (j : Nat) < y.2.2.1) (kk : G X y is (pc + 1) (ls1 lo (j : Nat) (.ref x)) st nc ks κ M Q) : G X y (((.astore_n j), 1) :: is) pc lo (.ref x :: st) nc ks κ M Q := by
  intro hA l p e s m args below meth c b Z D H locs ls hC hR hS hL
  have hx := hC.2.1
  have hb := hC.2.2.1
  exact lv_astore_n hx hb hA.1 rfl (lall_has (hL.klo (j : Nat))) hi rfl fun ls' h' => kk hA.2 l p e s m args below meth c b Z D H locs ls' hC hR hS (hL.st1 (x := .ref x) h')
theorem g_iinc {X : Xs} {y : MI} {is : List (Instr × Nat)} {pc : Nat} {lo : Lo} {st : List Value} {nc ks : Nat} {κ : Kp} {M : Mem} {Q : Rs → Kp → Mem → Prop} {i : Nat} {d : Int} {x v : Int32} (h : lg lo i = some (.int x)) (hv : x + Int32.ofInt d = v) (hi : i < y.2.2.1) (kk : G X y is (pc + 3) (ls1 lo i (.int v)) st nc ks κ M Q) : G X y (((.iinc i d), 3) :: is) pc lo st nc ks κ M Q := by
  intro hA l p e s m args below meth c b Z D H locs ls hC hR hS hL
  have hx := hC.2.1
  have hb := hC.2.2.1
  have hj : ls[i]? = some (.val (.int x)) := hL.2.2 i (.int x) h
  have hm := lv_has_cons (lall_has (hL.klo i)) hj
  refine lv_iinc hx hb hA.1 hm (k := 0) rfl hv hi rfl fun ls' h' => kk hA.2 l p e s m args below meth c b Z D H locs ls' hC hR hS (hL.st1 (x := .int v) ?_)
  simpa [tv] using h'
theorem g_iadd {X : Xs} {y : MI} {is : List (Instr × Nat)} {pc : Nat} {lo : Lo} {st : List Value} {nc ks : Nat} {κ : Kp} {M : Mem} {Q : Rs → Kp → Mem → Prop} {x z : Int32} (kk : G X y is (pc + 1) lo (.int (x + z) :: st) nc ks κ M Q) : G X y (((.iadd), 1) :: is) pc lo (.int z :: .int x :: st) nc ks κ M Q := by
  intro hA l p e s m args below meth c b Z D H locs ls hC hR hS hL
  have hx := hC.2.1
  have hb := hC.2.2.1
  exact lv_iadd hx hb hA.1 (kk hA.2 l p e s m args below meth c b Z D H locs ls hC hR hS hL)
theorem g_isub {X : Xs} {y : MI} {is : List (Instr × Nat)} {pc : Nat} {lo : Lo} {st : List Value} {nc ks : Nat} {κ : Kp} {M : Mem} {Q : Rs → Kp → Mem → Prop} {x z : Int32} (kk : G X y is (pc + 1) lo (.int (x - z) :: st) nc ks κ M Q) : G X y (((.isub), 1) :: is) pc lo (.int z :: .int x :: st) nc ks κ M Q := by
  intro hA l p e s m args below meth c b Z D H locs ls hC hR hS hL
  have hx := hC.2.1
  have hb := hC.2.2.1
  exact lv_isub hx hb hA.1 (kk hA.2 l p e s m args below meth c b Z D H locs ls hC hR hS hL)
theorem g_imul {X : Xs} {y : MI} {is : List (Instr × Nat)} {pc : Nat} {lo : Lo} {st : List Value} {nc ks : Nat} {κ : Kp} {M : Mem} {Q : Rs → Kp → Mem → Prop} {x z : Int32} (kk : G X y is (pc + 1) lo (.int (x * z) :: st) nc ks κ M Q) : G X y (((.imul), 1) :: is) pc lo (.int z :: .int x :: st) nc ks κ M Q := by
  intro hA l p e s m args below meth c b Z D H locs ls hC hR hS hL
  have hx := hC.2.1
  have hb := hC.2.2.1
  exact lv_imul hx hb hA.1 (kk hA.2 l p e s m args below meth c b Z D H locs ls hC hR hS hL)
theorem g_iand {X : Xs} {y : MI} {is : List (Instr × Nat)} {pc : Nat} {lo : Lo} {st : List Value} {nc ks : Nat} {κ : Kp} {M : Mem} {Q : Rs → Kp → Mem → Prop} {x z : Int32} (kk : G X y is (pc + 1) lo (.int (x &&& z) :: st) nc ks κ M Q) : G X y (((.iand), 1) :: is) pc lo (.int z :: .int x :: st) nc ks κ M Q := by
  intro hA l p e s m args below meth c b Z D H locs ls hC hR hS hL
  have hx := hC.2.1
  have hb := hC.2.2.1
  exact lv_iand hx hb hA.1 (kk hA.2 l p e s m args below meth c b Z D H locs ls hC hR hS hL)
theorem g_ior {X : Xs} {y : MI} {is : List (Instr × Nat)} {pc : Nat} {lo : Lo} {st : List Value} {nc ks : Nat} {κ : Kp} {M : Mem} {Q : Rs → Kp → Mem → Prop} {x z : Int32} (kk : G X y is (pc + 1) lo (.int (x ||| z) :: st) nc ks κ M Q) : G X y (((.ior), 1) :: is) pc lo (.int z :: .int x :: st) nc ks κ M Q := by
  intro hA l p e s m args below meth c b Z D H locs ls hC hR hS hL
  have hx := hC.2.1
  have hb := hC.2.2.1
  exact lv_ior hx hb hA.1 (kk hA.2 l p e s m args below meth c b Z D H locs ls hC hR hS hL)
theorem g_ixor {X : Xs} {y : MI} {is : List (Instr × Nat)} {pc : Nat} {lo : Lo} {st : List Value} {nc ks : Nat} {κ : Kp} {M : Mem} {Q : Rs → Kp → Mem → Prop} {x z : Int32} (kk : G X y is (pc + 1) lo (.int (x ^^^ z) :: st) nc ks κ M Q) : G X y (((.ixor), 1) :: is) pc lo (.int z :: .int x :: st) nc ks κ M Q := by
  intro hA l p e s m args below meth c b Z D H locs ls hC hR hS hL
  have hx := hC.2.1
  have hb := hC.2.2.1
  exact lv_ixor hx hb hA.1 (kk hA.2 l p e s m args below meth c b Z D H locs ls hC hR hS hL)
theorem g_ladd {X : Xs} {y : MI} {is : List (Instr × Nat)} {pc : Nat} {lo : Lo} {st : List Value} {nc ks : Nat} {κ : Kp} {M : Mem} {Q : Rs → Kp → Mem → Prop} {x z : Int64} (kk : G X y is (pc + 1) lo (.long (x + z) :: st) nc ks κ M Q) : G X y (((.ladd), 1) :: is) pc lo (.long z :: .long x :: st) nc ks κ M Q := by
  intro hA l p e s m args below meth c b Z D H locs ls hC hR hS hL
  have hx := hC.2.1
  have hb := hC.2.2.1
  exact lv_ladd hx hb hA.1 (kk hA.2 l p e s m args below meth c b Z D H locs ls hC hR hS hL)
theorem g_lmul {X : Xs} {y : MI} {is : List (Instr × Nat)} {pc : Nat} {lo : Lo} {st : List Value} {nc ks : Nat} {κ : Kp} {M : Mem} {Q : Rs → Kp → Mem → Prop} {x z : Int64} (kk : G X y is (pc + 1) lo (.long (x * z) :: st) nc ks κ M Q) : G X y (((.lmul), 1) :: is) pc lo (.long z :: .long x :: st) nc ks κ M Q := by
  intro hA l p e s m args below meth c b Z D H locs ls hC hR hS hL
  have hx := hC.2.1
  have hb := hC.2.2.1
  exact lv_lmul hx hb hA.1 (kk hA.2 l p e s m args below meth c b Z D H locs ls hC hR hS hL)
theorem g_land {X : Xs} {y : MI} {is : List (Instr × Nat)} {pc : Nat} {lo : Lo} {st : List Value} {nc ks : Nat} {κ : Kp} {M : Mem} {Q : Rs → Kp → Mem → Prop} {x z : Int64} (kk : G X y is (pc + 1) lo (.long (x &&& z) :: st) nc ks κ M Q) : G X y (((.land), 1) :: is) pc lo (.long z :: .long x :: st) nc ks κ M Q := by
  intro hA l p e s m args below meth c b Z D H locs ls hC hR hS hL
  have hx := hC.2.1
  have hb := hC.2.2.1
  exact lv_land hx hb hA.1 (kk hA.2 l p e s m args below meth c b Z D H locs ls hC hR hS hL)
theorem g_lor {X : Xs} {y : MI} {is : List (Instr × Nat)} {pc : Nat} {lo : Lo} {st : List Value} {nc ks : Nat} {κ : Kp} {M : Mem} {Q : Rs → Kp → Mem → Prop} {x z : Int64} (kk : G X y is (pc + 1) lo (.long (x ||| z) :: st) nc ks κ M Q) : G X y (((.lor), 1) :: is) pc lo (.long z :: .long x :: st) nc ks κ M Q := by
  intro hA l p e s m args below meth c b Z D H locs ls hC hR hS hL
  have hx := hC.2.1
  have hb := hC.2.2.1
  exact lv_lor hx hb hA.1 (kk hA.2 l p e s m args below meth c b Z D H locs ls hC hR hS hL)
theorem g_idiv {X : Xs} {y : MI} {is : List (Instr × Nat)} {pc : Nat} {lo : Lo} {st : List Value} {nc ks : Nat} {κ : Kp} {M : Mem} {Q : Rs → Kp → Mem → Prop} {x z : Int32} (hz : ¬ z = 0) (kk : G X y is (pc + 1) lo (.int (x / z) :: st) nc ks κ M Q) : G X y (((.idiv), 1) :: is) pc lo (.int z :: .int x :: st) nc ks κ M Q := by
  intro hA l p e s m args below meth c b Z D H locs ls hC hR hS hL
  have hx := hC.2.1
  have hb := hC.2.2.1
  exact lv_idiv hx hb hA.1 hz (kk hA.2 l p e s m args below meth c b Z D H locs ls hC hR hS hL)
theorem g_irem {X : Xs} {y : MI} {is : List (Instr × Nat)} {pc : Nat} {lo : Lo} {st : List Value} {nc ks : Nat} {κ : Kp} {M : Mem} {Q : Rs → Kp → Mem → Prop} {x z : Int32} (hz : ¬ z = 0) (kk : G X y is (pc + 1) lo (.int (x - x / z * z) :: st) nc ks κ M Q) : G X y (((.irem), 1) :: is) pc lo (.int z :: .int x :: st) nc ks κ M Q := by
  intro hA l p e s m args below meth c b Z D H locs ls hC hR hS hL
  have hx := hC.2.1
  have hb := hC.2.2.1
  exact lv_irem hx hb hA.1 hz (kk hA.2 l p e s m args below meth c b Z D H locs ls hC hR hS hL)
theorem g_ldiv {X : Xs} {y : MI} {is : List (Instr × Nat)} {pc : Nat} {lo : Lo} {st : List Value} {nc ks : Nat} {κ : Kp} {M : Mem} {Q : Rs → Kp → Mem → Prop} {x z : Int64} (hz : ¬ z = 0) (kk : G X y is (pc + 1) lo (.long (x / z) :: st) nc ks κ M Q) : G X y (((.ldiv), 1) :: is) pc lo (.long z :: .long x :: st) nc ks κ M Q := by
  intro hA l p e s m args below meth c b Z D H locs ls hC hR hS hL
  have hx := hC.2.1
  have hb := hC.2.2.1
  exact lv_ldiv hx hb hA.1 hz (kk hA.2 l p e s m args below meth c b Z D H locs ls hC hR hS hL)
theorem g_lrem {X : Xs} {y : MI} {is : List (Instr × Nat)} {pc : Nat} {lo : Lo} {st : List Value} {nc ks : Nat} {κ : Kp} {M : Mem} {Q : Rs → Kp → Mem → Prop} {x z : Int64} (hz : ¬ z = 0) (kk : G X y is (pc + 1) lo (.long (x - x / z * z) :: st) nc ks κ M Q) : G X y (((.lrem), 1) :: is) pc lo (.long z :: .long x :: st) nc ks κ M Q := by
  intro hA l p e s m args below meth c b Z D H locs ls hC hR hS hL
  have hx := hC.2.1
  have hb := hC.2.2.1
  exact lv_lrem hx hb hA.1 hz (kk hA.2 l p e s m args below meth c b Z D H locs ls hC hR hS hL)
theorem g_ineg {X : Xs} {y : MI} {is : List (Instr × Nat)} {pc : Nat} {lo : Lo} {st : List Value} {nc ks : Nat} {κ : Kp} {M : Mem} {Q : Rs → Kp → Mem → Prop} {x : Int32} (kk : G X y is (pc + 1) lo (.int (-x) :: st) nc ks κ M Q) : G X y (((.ineg), 1) :: is) pc lo (.int x :: st) nc ks κ M Q := by
  intro hA l p e s m args below meth c b Z D H locs ls hC hR hS hL
  have hx := hC.2.1
  have hb := hC.2.2.1
  exact lv_ineg hx hb hA.1 (kk hA.2 l p e s m args below meth c b Z D H locs ls hC hR hS hL)
theorem g_ishl {X : Xs} {y : MI} {is : List (Instr × Nat)} {pc : Nat} {lo : Lo} {st : List Value} {nc ks : Nat} {κ : Kp} {M : Mem} {Q : Rs → Kp → Mem → Prop} {x z : Int32} (kk : G X y is (pc + 1) lo (.int (x <<< (z &&& 31)) :: st) nc ks κ M Q) : G X y (((.ishl), 1) :: is) pc lo (.int z :: .int x :: st) nc ks κ M Q := by
  intro hA l p e s m args below meth c b Z D H locs ls hC hR hS hL
  have hx := hC.2.1
  have hb := hC.2.2.1
  exact lv_ishl hx hb hA.1 (kk hA.2 l p e s m args below meth c b Z D H locs ls hC hR hS hL)
theorem g_ishr {X : Xs} {y : MI} {is : List (Instr × Nat)} {pc : Nat} {lo : Lo} {st : List Value} {nc ks : Nat} {κ : Kp} {M : Mem} {Q : Rs → Kp → Mem → Prop} {x z : Int32} (kk : G X y is (pc + 1) lo (.int (x >>> (z &&& 31)) :: st) nc ks κ M Q) : G X y (((.ishr), 1) :: is) pc lo (.int z :: .int x :: st) nc ks κ M Q := by
  intro hA l p e s m args below meth c b Z D H locs ls hC hR hS hL
  have hx := hC.2.1
  have hb := hC.2.2.1
  exact lv_ishr hx hb hA.1 (kk hA.2 l p e s m args below meth c b Z D H locs ls hC hR hS hL)
theorem g_iushr {X : Xs} {y : MI} {is : List (Instr × Nat)} {pc : Nat} {lo : Lo} {st : List Value} {nc ks : Nat} {κ : Kp} {M : Mem} {Q : Rs → Kp → Mem → Prop} {x z : Int32} (kk : G X y is (pc + 1) lo (.int ((x.toUInt32 >>> (z.toUInt32 &&& Int32.toUInt32 31)).toInt32) :: st) nc ks κ M Q) : G X y (((.iushr), 1) :: is) pc lo (.int z :: .int x :: st) nc ks κ M Q := by
  intro hA l p e s m args below meth c b Z D H locs ls hC hR hS hL
  have hx := hC.2.1
  have hb := hC.2.2.1
  exact lv_iushr hx hb hA.1 rfl (kk hA.2 l p e s m args below meth c b Z D H locs ls hC hR hS hL)
theorem g_lushr {X : Xs} {y : MI} {is : List (Instr × Nat)} {pc : Nat} {lo : Lo} {st : List Value} {nc ks : Nat} {κ : Kp} {M : Mem} {Q : Rs → Kp → Mem → Prop} {x : Int64} {z : Int32} (kk : G X y is (pc + 1) lo (.long ((x.toUInt64 >>> (z.toInt64.toUInt64 &&& Int64.toUInt64 63)).toInt64) :: st) nc ks κ M Q) : G X y (((.lushr), 1) :: is) pc lo (.int z :: .long x :: st) nc ks κ M Q := by
  intro hA l p e s m args below meth c b Z D H locs ls hC hR hS hL
  have hx := hC.2.1
  have hb := hC.2.2.1
  exact lv_lushr hx hb hA.1 rfl (kk hA.2 l p e s m args below meth c b Z D H locs ls hC hR hS hL)
theorem g_lshl {X : Xs} {y : MI} {is : List (Instr × Nat)} {pc : Nat} {lo : Lo} {st : List Value} {nc ks : Nat} {κ : Kp} {M : Mem} {Q : Rs → Kp → Mem → Prop} {x : Int64} {z : Int32} (kk : G X y is (pc + 1) lo (.long (x <<< (z.toInt64 &&& 63)) :: st) nc ks κ M Q) : G X y (((.lshl), 1) :: is) pc lo (.int z :: .long x :: st) nc ks κ M Q := by
  intro hA l p e s m args below meth c b Z D H locs ls hC hR hS hL
  have hx := hC.2.1
  have hb := hC.2.2.1
  exact lv_lshl hx hb hA.1 rfl (kk hA.2 l p e s m args below meth c b Z D H locs ls hC hR hS hL)
theorem g_i2l {X : Xs} {y : MI} {is : List (Instr × Nat)} {pc : Nat} {lo : Lo} {st : List Value} {nc ks : Nat} {κ : Kp} {M : Mem} {Q : Rs → Kp → Mem → Prop} {x : Int32} (kk : G X y is (pc + 1) lo (.long x.toInt64 :: st) nc ks κ M Q) : G X y (((.i2l), 1) :: is) pc lo (.int x :: st) nc ks κ M Q := by
  intro hA l p e s m args below meth c b Z D H locs ls hC hR hS hL
  have hx := hC.2.1
  have hb := hC.2.2.1
  exact lv_i2l hx hb hA.1 rfl (kk hA.2 l p e s m args below meth c b Z D H locs ls hC hR hS hL)
theorem g_l2i {X : Xs} {y : MI} {is : List (Instr × Nat)} {pc : Nat} {lo : Lo} {st : List Value} {nc ks : Nat} {κ : Kp} {M : Mem} {Q : Rs → Kp → Mem → Prop} {x : Int64} (kk : G X y is (pc + 1) lo (.int x.toInt32 :: st) nc ks κ M Q) : G X y (((.l2i), 1) :: is) pc lo (.long x :: st) nc ks κ M Q := by
  intro hA l p e s m args below meth c b Z D H locs ls hC hR hS hL
  have hx := hC.2.1
  have hb := hC.2.2.1
  exact lv_l2i hx hb hA.1 rfl (kk hA.2 l p e s m args below meth c b Z D H locs ls hC hR hS hL)
theorem g_i2c {X : Xs} {y : MI} {is : List (Instr × Nat)} {pc : Nat} {lo : Lo} {st : List Value} {nc ks : Nat} {κ : Kp} {M : Mem} {Q : Rs → Kp → Mem → Prop} {x : Int32} (kk : G X y is (pc + 1) lo (.int (x.toUInt32 % 65536).toInt32 :: st) nc ks κ M Q) : G X y (((.i2c), 1) :: is) pc lo (.int x :: st) nc ks κ M Q := by
  intro hA l p e s m args below meth c b Z D H locs ls hC hR hS hL
  have hx := hC.2.1
  have hb := hC.2.2.1
  exact lv_i2c hx hb hA.1 rfl (kk hA.2 l p e s m args below meth c b Z D H locs ls hC hR hS hL)
theorem g_lcmp {X : Xs} {y : MI} {is : List (Instr × Nat)} {pc : Nat} {lo : Lo} {st : List Value} {nc ks : Nat} {κ : Kp} {M : Mem} {Q : Rs → Kp → Mem → Prop} {x z : Int64} (kk : G X y is (pc + 1) lo (.int (lg_cmp x z) :: st) nc ks κ M Q) : G X y (((.lcmp), 1) :: is) pc lo (.long z :: .long x :: st) nc ks κ M Q := by
  intro hA l p e s m args below meth c b Z D H locs ls hC hR hS hL
  have hx := hC.2.1
  have hb := hC.2.2.1
  exact W.lcmp hx hb hA.1 (kk hA.2 l p e s m args below meth c b Z D H locs ls hC hR hS hL)
theorem g_dup {X : Xs} {y : MI} {is : List (Instr × Nat)} {pc : Nat} {lo : Lo} {st : List Value} {nc ks : Nat} {κ : Kp} {M : Mem} {Q : Rs → Kp → Mem → Prop} {v : Value} (hv : v.category = 1) (kk : G X y is (pc + 1) lo (v :: v :: st) nc ks κ M Q) : G X y (((.dup), 1) :: is) pc lo (v :: st) nc ks κ M Q := by
  intro hA l p e s m args below meth c b Z D H locs ls hC hR hS hL
  have hx := hC.2.1
  have hb := hC.2.2.1
  exact lv_dup hx hb hA.1 ((tv_cat _ _ v).trans hv) (kk hA.2 l p e s m args below meth c b Z D H locs ls hC hR hS hL)
theorem g_pop {X : Xs} {y : MI} {is : List (Instr × Nat)} {pc : Nat} {lo : Lo} {st : List Value} {nc ks : Nat} {κ : Kp} {M : Mem} {Q : Rs → Kp → Mem → Prop} {v : Value} (hv : v.category = 1) (kk : G X y is (pc + 1) lo st nc ks κ M Q) : G X y (((.pop), 1) :: is) pc lo (v :: st) nc ks κ M Q := by
  intro hA l p e s m args below meth c b Z D H locs ls hC hR hS hL
  have hx := hC.2.1
  have hb := hC.2.2.1
  exact lv_pop hx hb hA.1 ((tv_cat _ _ v).trans hv) (kk hA.2 l p e s m args below meth c b Z D H locs ls hC hR hS hL)
theorem g_dup2 {X : Xs} {y : MI} {is : List (Instr × Nat)} {pc : Nat} {lo : Lo} {st : List Value} {nc ks : Nat} {κ : Kp} {M : Mem} {Q : Rs → Kp → Mem → Prop} {v w : Value} (hv : v.category = 1) (hw : w.category = 1) (kk : G X y is (pc + 1) lo (v :: w :: v :: w :: st) nc ks κ M Q) : G X y (((.dup2), 1) :: is) pc lo (v :: w :: st) nc ks κ M Q := by
  intro hA l p e s m args below meth c b Z D H locs ls hC hR hS hL
  have hx := hC.2.1
  have hb := hC.2.2.1
  exact lv_dup2_11 hx hb hA.1 ((tv_cat _ _ v).trans hv) ((tv_cat _ _ w).trans hw) (kk hA.2 l p e s m args below meth c b Z D H locs ls hC hR hS hL)
theorem g_goto {X : Xs} {y : MI} {is : List (Instr × Nat)} {pc : Nat} {lo : Lo} {st : List Value} {nc ks : Nat} {κ : Kp} {M : Mem} {Q : Rs → Kp → Mem → Prop} {off : Int} {tgt : Nat} {is' : List (Instr × Nat)} (ht : (pc : Int) + off = (tgt : Int)) (hA' : CdAt y.2.1 tgt is') (kk : G X y is' tgt lo st nc ks κ M Q) : G X y (((.goto off), 3) :: is) pc lo st nc ks κ M Q := by
  intro hA l p e s m args below meth c b Z D H locs ls hC hR hS hL
  exact lv_goto hC.2.1 hC.2.2.1 hA.1 ht (kk hA' l p e s m args below meth c b Z D H locs ls hC hR hS hL)
theorem g_if_eq {X : Xs} {y : MI} {is : List (Instr × Nat)} {pc : Nat} {lo : Lo} {st : List Value} {nc ks : Nat} {κ : Kp} {M : Mem} {Q : Rs → Kp → Mem → Prop} {x : Int32} {off : Int} {tgt : Nat} {is' : List (Instr × Nat)} (ht : (pc : Int) + off = (tgt : Int)) (hA' : CdAt y.2.1 tgt is') (kt : x = 0 → G X y is' tgt lo st nc ks κ M Q) (kf : ¬ (x = 0) → G X y is (pc + 3) lo st nc ks κ M Q) : G X y (((.ifCond .eq off), 3) :: is) pc lo (.int x :: st) nc ks κ M Q := by
  intro hA l p e s m args below meth c b Z D H locs ls hC hR hS hL
  exact lv_if_eq hC.2.1 hC.2.2.1 hA.1 ht (fun h => kt h hA' l p e s m args below meth c b Z D H locs ls hC hR hS hL) (fun h => kf h hA.2 l p e s m args below meth c b Z D H locs ls hC hR hS hL)
theorem g_icmp_eq {X : Xs} {y : MI} {is : List (Instr × Nat)} {pc : Nat} {lo : Lo} {st : List Value} {nc ks : Nat} {κ : Kp} {M : Mem} {Q : Rs → Kp → Mem → Prop} {x z : Int32} {off : Int} {tgt : Nat} {is' : List (Instr × Nat)} (ht : (pc : Int) + off = (tgt : Int)) (hA' : CdAt y.2.1 tgt is') (kt : x = z → G X y is' tgt lo st nc ks κ M Q) (kf : ¬ (x = z) → G X y is (pc + 3) lo st nc ks κ M Q) : G X y (((.if_icmp .eq off), 3) :: is) pc lo (.int z :: .int x :: st) nc ks κ M Q := by
  intro hA l p e s m args below meth c b Z D H locs ls hC hR hS hL
  exact lv_icmp_eq hC.2.1 hC.2.2.1 hA.1 ht (fun h => kt h hA' l p e s m args below meth c b Z D H locs ls hC hR hS hL) (fun h => kf h hA.2 l p e s m args below meth c b Z D H locs ls hC hR hS hL)
theorem g_if_ne {X : Xs} {y : MI} {is : List (Instr × Nat)} {pc : Nat} {lo : Lo} {st : List Value} {nc ks : Nat} {κ : Kp} {M : Mem} {Q : Rs → Kp → Mem → Prop} {x : Int32} {off : Int} {tgt : Nat} {is' : List (Instr × Nat)} (ht : (pc : Int) + off = (tgt : Int)) (hA' : CdAt y.2.1 tgt is') (kt : ¬ x = 0 → G X y is' tgt lo st nc ks κ M Q) (kf : x = 0 → G X y is (pc + 3) lo st nc ks κ M Q) : G X y (((.ifCond .ne off), 3) :: is) pc lo (.int x :: st) nc ks κ M Q := by
  intro hA l p e s m args below meth c b Z D H locs ls hC hR hS hL
  exact lv_if_ne hC.2.1 hC.2.2.1 hA.1 ht (fun h => kt h hA' l p e s m args below meth c b Z D H locs ls hC hR hS hL) (fun h => kf h hA.2 l p e s m args below meth c b Z D H locs ls hC hR hS hL)
theorem g_icmp_ne {X : Xs} {y : MI} {is : List (Instr × Nat)} {pc : Nat} {lo : Lo} {st : List Value} {nc ks : Nat} {κ : Kp} {M : Mem} {Q : Rs → Kp → Mem → Prop} {x z : Int32} {off : Int} {tgt : Nat} {is' : List (Instr × Nat)} (ht : (pc : Int) + off = (tgt : Int)) (hA' : CdAt y.2.1 tgt is') (kt : ¬ x = z → G X y is' tgt lo st nc ks κ M Q) (kf : x = z → G X y is (pc + 3) lo st nc ks κ M Q) : G X y (((.if_icmp .ne off), 3) :: is) pc lo (.int z :: .int x :: st) nc ks κ M Q := by
  intro hA l p e s m args below meth c b Z D H locs ls hC hR hS hL
  exact lv_icmp_ne hC.2.1 hC.2.2.1 hA.1 ht (fun h => kt h hA' l p e s m args below meth c b Z D H locs ls hC hR hS hL) (fun h => kf h hA.2 l p e s m args below meth c b Z D H locs ls hC hR hS hL)
theorem g_if_lt {X : Xs} {y : MI} {is : List (Instr × Nat)} {pc : Nat} {lo : Lo} {st : List Value} {nc ks : Nat} {κ : Kp} {M : Mem} {Q : Rs → Kp → Mem → Prop} {x : Int32} {off : Int} {tgt : Nat} {is' : List (Instr × Nat)} (ht : (pc : Int) + off = (tgt : Int)) (hA' : CdAt y.2.1 tgt is') (kt : x < 0 → G X y is' tgt lo st nc ks κ M Q) (kf : ¬ (x < 0) → G X y is (pc + 3) lo st nc ks κ M Q) : G X y (((.ifCond .lt off), 3) :: is) pc lo (.int x :: st) nc ks κ M Q := by
  intro hA l p e s m args below meth c b Z D H locs ls hC hR hS hL
  exact lv_if_lt hC.2.1 hC.2.2.1 hA.1 ht (fun h => kt h hA' l p e s m args below meth c b Z D H locs ls hC hR hS hL) (fun h => kf h hA.2 l p e s m args below meth c b Z D H locs ls hC hR hS hL)
theorem g_icmp_lt {X : Xs} {y : MI} {is : List (Instr × Nat)} {pc : Nat} {lo : Lo} {st : List Value} {nc ks : Nat} {κ : Kp} {M : Mem} {Q : Rs → Kp → Mem → Prop} {x z : Int32} {off : Int} {tgt : Nat} {is' : List (Instr × Nat)} (ht : (pc : Int) + off = (tgt : Int)) (hA' : CdAt y.2.1 tgt is') (kt : x < z → G X y is' tgt lo st nc ks κ M Q) (kf : ¬ (x < z) → G X y is (pc + 3) lo st nc ks κ M Q) : G X y (((.if_icmp .lt off), 3) :: is) pc lo (.int z :: .int x :: st) nc ks κ M Q := by
  intro hA l p e s m args below meth c b Z D H locs ls hC hR hS hL
  exact lv_icmp_lt hC.2.1 hC.2.2.1 hA.1 ht (fun h => kt h hA' l p e s m args below meth c b Z D H locs ls hC hR hS hL) (fun h => kf h hA.2 l p e s m args below meth c b Z D H locs ls hC hR hS hL)
theorem g_if_ge {X : Xs} {y : MI} {is : List (Instr × Nat)} {pc : Nat} {lo : Lo} {st : List Value} {nc ks : Nat} {κ : Kp} {M : Mem} {Q : Rs → Kp → Mem → Prop} {x : Int32} {off : Int} {tgt : Nat} {is' : List (Instr × Nat)} (ht : (pc : Int) + off = (tgt : Int)) (hA' : CdAt y.2.1 tgt is') (kt : 0 ≤ x → G X y is' tgt lo st nc ks κ M Q) (kf : ¬ (0 ≤ x) → G X y is (pc + 3) lo st nc ks κ M Q) : G X y (((.ifCond .ge off), 3) :: is) pc lo (.int x :: st) nc ks κ M Q := by
  intro hA l p e s m args below meth c b Z D H locs ls hC hR hS hL
  exact lv_if_ge hC.2.1 hC.2.2.1 hA.1 ht (fun h => kt h hA' l p e s m args below meth c b Z D H locs ls hC hR hS hL) (fun h => kf h hA.2 l p e s m args below meth c b Z D H locs ls hC hR hS hL)
theorem g_icmp_ge {X : Xs} {y : MI} {is : List (Instr × Nat)} {pc : Nat} {lo : Lo} {st : List Value} {nc ks : Nat} {κ : Kp} {M : Mem} {Q : Rs → Kp → Mem → Prop} {x z : Int32} {off : Int} {tgt : Nat} {is' : List (Instr × Nat)} (ht : (pc : Int) + off = (tgt : Int)) (hA' : CdAt y.2.1 tgt is') (kt : z ≤ x → G X y is' tgt lo st nc ks κ M Q) (kf : ¬ (z ≤ x) → G X y is (pc + 3) lo st nc ks κ M Q) : G X y (((.if_icmp .ge off), 3) :: is) pc lo (.int z :: .int x :: st) nc ks κ M Q := by
  intro hA l p e s m args below meth c b Z D H locs ls hC hR hS hL
  exact lv_icmp_ge hC.2.1 hC.2.2.1 hA.1 ht (fun h => kt h hA' l p e s m args below meth c b Z D H locs ls hC hR hS hL) (fun h => kf h hA.2 l p e s m args below meth c b Z D H locs ls hC hR hS hL)
theorem g_if_gt {X : Xs} {y : MI} {is : List (Instr × Nat)} {pc : Nat} {lo : Lo} {st : List Value} {nc ks : Nat} {κ : Kp} {M : Mem} {Q : Rs → Kp → Mem → Prop} {x : Int32} {off : Int} {tgt : Nat} {is' : List (Instr × Nat)} (ht : (pc : Int) + off = (tgt : Int)) (hA' : CdAt y.2.1 tgt is') (kt : 0 < x → G X y is' tgt lo st nc ks κ M Q) (kf : ¬ (0 < x) → G X y is (pc + 3) lo st nc ks κ M Q) : G X y (((.ifCond .gt off), 3) :: is) pc lo (.int x :: st) nc ks κ M Q := by
  intro hA l p e s m args below meth c b Z D H locs ls hC hR hS hL
  exact lv_if_gt hC.2.1 hC.2.2.1 hA.1 ht (fun h => kt h hA' l p e s m args below meth c b Z D H locs ls hC hR hS hL) (fun h => kf h hA.2 l p e s m args below meth c b Z D H locs ls hC hR hS hL)
theorem g_icmp_gt {X : Xs} {y : MI} {is : List (Instr × Nat)} {pc : Nat} {lo : Lo} {st : List Value} {nc ks : Nat} {κ : Kp} {M : Mem} {Q : Rs → Kp → Mem → Prop} {x z : Int32} {off : Int} {tgt : Nat} {is' : List (Instr × Nat)} (ht : (pc : Int) + off = (tgt : Int)) (hA' : CdAt y.2.1 tgt is') (kt : z < x → G X y is' tgt lo st nc ks κ M Q) (kf : ¬ (z < x) → G X y is (pc + 3) lo st nc ks κ M Q) : G X y (((.if_icmp .gt off), 3) :: is) pc lo (.int z :: .int x :: st) nc ks κ M Q := by
  intro hA l p e s m args below meth c b Z D H locs ls hC hR hS hL
  exact lv_icmp_gt hC.2.1 hC.2.2.1 hA.1 ht (fun h => kt h hA' l p e s m args below meth c b Z D H locs ls hC hR hS hL) (fun h => kf h hA.2 l p e s m args below meth c b Z D H locs ls hC hR hS hL)
theorem g_if_le {X : Xs} {y : MI} {is : List (Instr × Nat)} {pc : Nat} {lo : Lo} {st : List Value} {nc ks : Nat} {κ : Kp} {M : Mem} {Q : Rs → Kp → Mem → Prop} {x : Int32} {off : Int} {tgt : Nat} {is' : List (Instr × Nat)} (ht : (pc : Int) + off = (tgt : Int)) (hA' : CdAt y.2.1 tgt is') (kt : x ≤ 0 → G X y is' tgt lo st nc ks κ M Q) (kf : ¬ (x ≤ 0) → G X y is (pc + 3) lo st nc ks κ M Q) : G X y (((.ifCond .le off), 3) :: is) pc lo (.int x :: st) nc ks κ M Q := by
  intro hA l p e s m args below meth c b Z D H locs ls hC hR hS hL
  exact lv_if_le hC.2.1 hC.2.2.1 hA.1 ht (fun h => kt h hA' l p e s m args below meth c b Z D H locs ls hC hR hS hL) (fun h => kf h hA.2 l p e s m args below meth c b Z D H locs ls hC hR hS hL)
theorem g_icmp_le {X : Xs} {y : MI} {is : List (Instr × Nat)} {pc : Nat} {lo : Lo} {st : List Value} {nc ks : Nat} {κ : Kp} {M : Mem} {Q : Rs → Kp → Mem → Prop} {x z : Int32} {off : Int} {tgt : Nat} {is' : List (Instr × Nat)} (ht : (pc : Int) + off = (tgt : Int)) (hA' : CdAt y.2.1 tgt is') (kt : x ≤ z → G X y is' tgt lo st nc ks κ M Q) (kf : ¬ (x ≤ z) → G X y is (pc + 3) lo st nc ks κ M Q) : G X y (((.if_icmp .le off), 3) :: is) pc lo (.int z :: .int x :: st) nc ks κ M Q := by
  intro hA l p e s m args below meth c b Z D H locs ls hC hR hS hL
  exact lv_icmp_le hC.2.1 hC.2.2.1 hA.1 ht (fun h => kt h hA' l p e s m args below meth c b Z D H locs ls hC hR hS hL) (fun h => kf h hA.2 l p e s m args below meth c b Z D H locs ls hC hR hS hL)
theorem g_tabIn {X : Xs} {y : MI} {is : List (Instr × Nat)} {pc : Nat} {lo : Lo} {st : List Value} {nc ks : Nat} {κ : Kp} {M : Mem} {Q : Rs → Kp → Mem → Prop} {dflt l0 h0 : Int} {offs : Array Int} {len : Nat} {x : Int32} {off : Int} {tgt : Nat} {is' : List (Instr × Nat)} (h1 : ¬ x.toInt < l0) (h2 : ¬ h0 < x.toInt) (ho : offs[(x.toInt - l0).toNat]? = some off) (ht : (pc : Int) + off = (tgt : Int)) (hA' : CdAt y.2.1 tgt is') (kk : G X y is' tgt lo st nc ks κ M Q) : G X y (((.tableswitch dflt l0 h0 offs), len) :: is) pc lo (.int x :: st) nc ks κ M Q := by
  intro hA l p e s m args below meth c b Z D H locs ls hC hR hS hL
  exact lv_tableIn hC.2.1 hC.2.2.1 hA.1 h1 h2 ho ht (kk hA' l p e s m args below meth c b Z D H locs ls hC hR hS hL)
theorem g_tabOut {X : Xs} {y : MI} {is : List (Instr × Nat)} {pc : Nat} {lo : Lo} {st : List Value} {nc ks : Nat} {κ : Kp} {M : Mem} {Q : Rs → Kp → Mem → Prop} {dflt l0 h0 : Int} {offs : Array Int} {len : Nat} {x : Int32} {tgt : Nat} {is' : List (Instr × Nat)} (h1 : x.toInt < l0 ∨ h0 < x.toInt) (ht : (pc : Int) + dflt = (tgt : Int)) (hA' : CdAt y.2.1 tgt is') (kk : G X y is' tgt lo st nc ks κ M Q) : G X y (((.tableswitch dflt l0 h0 offs), len) :: is) pc lo (.int x :: st) nc ks κ M Q := by
  intro hA l p e s m args below meth c b Z D H locs ls hC hR hS hL
  exact lv_tableOut hC.2.1 hC.2.2.1 hA.1 h1 ht (kk hA' l p e s m args below meth c b Z D H locs ls hC hR hS hL)
theorem g_lookup {X : Xs} {y : MI} {is : List (Instr × Nat)} {pc : Nat} {lo : Lo} {st : List Value} {nc ks : Nat} {κ : Kp} {M : Mem} {Q : Rs → Kp → Mem → Prop} {dflt : Int} {ps : Array (Int × Int)} {len : Nat} {x : Int32} {off : Int} {tgt : Nat} {is' : List (Instr × Nat)} (hp : (ps.toList.zip (ps.toList.drop 1)).all (fun (a, next) => a.1 < next.1) = true) (ho : Op.lookupswitch.offset ps.toList dflt x.toInt = off) (ht : (pc : Int) + off = (tgt : Int)) (hA' : CdAt y.2.1 tgt is') (kk : G X y is' tgt lo st nc ks κ M Q) : G X y (((.lookupswitch dflt ps), len) :: is) pc lo (.int x :: st) nc ks κ M Q := by
  intro hA l p e s m args below meth c b Z D H locs ls hC hR hS hL
  exact lv_lookup hC.2.1 hC.2.2.1 hA.1 hp ho ht (kk hA' l p e s m args below meth c b Z D H locs ls hC hR hS hL)
theorem g_ldc {X : Xs} {y : MI} {is : List (Instr × Nat)} {pc : Nat} {lo : Lo} {st : List Value} {nc ks : Nat} {κ : Kp} {M : Mem} {Q : Rs → Kp → Mem → Prop} {own : String} {idx : Nat} {v : Int32} (ho : y.1.cls = own) (hw : Cond.constant own idx v ∈ tblG) (kk : G X y is (pc + 2) lo (.int v :: st) nc ks κ M Q) : G X y (((.ldc idx), 2) :: is) pc lo st nc ks κ M Q := by
  intro hA l p e s m args below meth c b Z D H locs ls hC hR hS hL
  have hx := hC.2.1
  have hb := hC.2.2.1
  subst ho
  exact lv_ldc hx hb hC.own (hC.word hw) hA.1 (kk hA.2 l p e s m args below meth c b Z D H locs ls hC hR hS hL)
theorem g_ldcw {X : Xs} {y : MI} {is : List (Instr × Nat)} {pc : Nat} {lo : Lo} {st : List Value} {nc ks : Nat} {κ : Kp} {M : Mem} {Q : Rs → Kp → Mem → Prop} {own : String} {idx : Nat} {v : Int32} (ho : y.1.cls = own) (hw : Cond.constant own idx v ∈ tblG) (kk : G X y is (pc + 3) lo (.int v :: st) nc ks κ M Q) : G X y (((.ldc_w idx), 3) :: is) pc lo st nc ks κ M Q := by
  intro hA l p e s m args below meth c b Z D H locs ls hC hR hS hL
  have hx := hC.2.1
  have hb := hC.2.2.1
  subst ho
  exact lv_ldcw hx hb hC.own (hC.word hw) hA.1 (kk hA.2 l p e s m args below meth c b Z D H locs ls hC hR hS hL)
theorem g_ldc2 {X : Xs} {y : MI} {is : List (Instr × Nat)} {pc : Nat} {lo : Lo} {st : List Value} {nc ks : Nat} {κ : Kp} {M : Mem} {Q : Rs → Kp → Mem → Prop} {own : String} {idx : Nat} {v : Int64} (ho : y.1.cls = own) (hw : Cond.constantLong own idx v ∈ tblG) (kk : G X y is (pc + 3) lo (.long v :: st) nc ks κ M Q) : G X y (((.ldc2_w idx), 3) :: is) pc lo st nc ks κ M Q := by
  intro hA l p e s m args below meth c b Z D H locs ls hC hR hS hL
  have hx := hC.2.1
  have hb := hC.2.2.1
  subst ho
  exact lv_ldc2 hx hb hC.own (hC.word hw) hA.1 (kk hA.2 l p e s m args below meth c b Z D H locs ls hC hR hS hL)
theorem g_lab {X : Xs} {y : MI} {is : List (Instr × Nat)} {pc : Nat} {lo : Lo} {st : List Value} {nc ks : Nat} {κ : Kp} {M : Mem} {Q : Rs → Kp → Mem → Prop} {is' : List (Instr × Nat)} (hA' : CdAt y.2.1 pc is') (kk : G X y is' pc lo st nc ks κ M Q) : G X y is pc lo st nc ks κ M Q := fun _ => kk hA'
theorem g_lo {X : Xs} {y : MI} {is : List (Instr × Nat)} {pc : Nat} {lo : Lo} {st : List Value} {nc ks : Nat} {κ : Kp} {M : Mem} {Q : Rs → Kp → Mem → Prop} (lo' : Lo) (h : subLo lo lo') (kk : G X y is pc lo' st nc ks κ M Q) : G X y is pc lo st nc ks κ M Q := fun hA l p e s m args below meth c b Z D H locs ls hC hR hS hL => kk hA l p e s m args below meth c b Z D H locs ls hC hR hS (hL.sub h)
theorem g_wide {X : Xs} {y : MI} {is : List (Instr × Nat)} {pc : Nat} {lo : Lo} {st : List Value} {nc ks : Nat} {κ : Kp} {M : Mem} {Q : Rs → Kp → Mem → Prop} {n2 k2 : Nat} (h1 : nc ≤ n2) (h2 : ks ≤ k2) (kk : G X y is pc lo st n2 k2 κ M Q) : G X y is pc lo st nc ks κ M Q := fun hA l p e s m args below meth c b Z D H locs ls hC hR hS hL => W.widen h1 h2 (kk hA l p e s m args below meth c b Z D H locs ls hC hR hS hL)
end ROWS
end
section
def upM (M : Mem) (r k : Nat) (x : Int32) : Mem := fun r' j => if r' = r ∧ j = k then x else M r' j
theorem upM_s (M : Mem) (r k : Nat) (x : Int32) : upM M r k x r k = x := if_pos ⟨rfl, rfl⟩
theorem upM_o (M : Mem) (r k : Nat) (x : Int32) {r' : Nat} (h : r' ≠ r) (j : Nat) : upM M r k x r' j = M r' j := if_neg fun q => h q.1
theorem upM_j (M : Mem) (r k : Nat) (x : Int32) {j : Nat} (h : j ≠ k) (r' : Nat) : upM M r k x r' j = M r' j := if_neg fun q => h q.2
theorem upM_f (M : Mem) (r k : Nat) (x : Int32) : upM M r k x r = upd (M r) k x := by
  funext j
  by_cases h : j = k
  · subst h; simp [upM, upd]
  · simp [upM, upd, h]
def upS (S : Nat → Option Sh) (r : Nat) (sh : Sh) : Nat → Option Sh := fun r' => if r' = r then some sh else S r'
theorem upS_s (S : Nat → Option Sh) (r : Nat) (sh : Sh) : upS S r sh r = some sh := if_pos rfl
theorem upS_o (S : Nat → Option Sh) (r : Nat) (sh : Sh) {r' : Nat} (h : r' ≠ r) : upS S r sh r' = S r' := if_neg h
def FL (own : String) (idx ci k : Nat) : Prop := ∃ q : vw_C, vwCl[ci]? = some q ∧ k < q.2.2 ∧ Cond.fieldLink own idx (q.2.1 k).1 (q.2.1 k).2.1 (q.2.1 k).2.2.1 ∈ tblG ∧ (∀ w ∈ u_ws q.1 q.2.1 q.2.2, w ∈ tblG)
def PL (own : String) (idx ci k : Nat) (ty : FieldType) (fin : Bool) : Prop := ∃ q : vw_C, vwCl[ci]? = some q ∧ k < q.2.2 ∧ Cond.fieldLink own idx (q.2.1 k).1 (q.2.1 k).2.1 (q.2.1 k).2.2.1 ∈ tblG ∧ (∀ w ∈ u_ws q.1 q.2.1 q.2.2, w ∈ tblG) ∧
  (∀ a, a < q.2.2 → ∀ b, b < q.2.2 → a ≠ b → (q.2.1 a).2.1 ≠ (q.2.1 b).2.1) ∧ (∃ ty0 : Nat → FieldType, ∀ k, k < q.2.2 → parseFieldDescriptor (q.2.1 k).2.2.1 = some (ty0 k)) ∧ (q.2.1 k).2.2.2 = fin ∧ parseFieldDescriptor (q.2.1 k).2.2.1 = some ty ∧ (fin = true → (q.2.1 k).1 = own)
theorem ad_ne {b Z r r' : Nat} (h : 1 ≤ r) (h' : 1 ≤ r') (hn : r' ≠ r) : ad b Z r' ≠ ad b Z r := by
  cases r with
  | zero => omega
  | succ a => cases r' with
    | zero => omega
    | succ c => show Z + c ≠ Z + a; omega
theorem ad_ge {b Z r : Nat} (h : 1 ≤ r) : Z ≤ ad b Z r := by
  cases r with
  | zero => omega
  | succ a => exact Nat.le_add_right Z a
theorem cellOK.kept {b Z : Nat} {D : va_G} {M M' : Mem} {U : State} {H H' : Heap} {r : Nat} {sh : Sh} (h : cellOK b Z D M U H r sh) (hq : H'[ad b Z r]? = H[ad b Z r]?) (hM : ∀ j, M' r j = M r j) : cellOK b Z D M' U H' r sh := by
  have hf : fv b Z M' r sh.2.2 = fv b Z M r sh.2.2 := by
    funext k; unfold fv; rw [hM]
  have he : aev b Z M' r sh.1 sh.2.2 = aev b Z M r sh.1 sh.2.2 := by
    funext k; unfold aev; rw [hM, hf]
  unfold cellOK at h ⊢
  rw [hf, he]
  split at h
  · rename_i hc
    rw [if_pos hc]
    obtain ⟨q, h1, h2, h3, h4⟩ := h
    exact ⟨q, h1, h2, h3, h4.kept hq⟩
  · rename_i hc
    rw [if_neg hc, hq]
    exact h
theorem cellOK.moved {b Z : Nat} {D : va_G} {M : Mem} {u U : State} {H : Heap} {r : Nat} {sh : Sh} (hvm : u.vm.Alike U.vm) (h : cellOK b Z D M u H r sh) : cellOK b Z D M U H r sh := by
  unfold cellOK at h ⊢
  split at h
  · rename_i hc
    rw [if_pos hc]; exact h
  · rename_i hc
    rw [if_neg hc]
    obtain ⟨cA, h1, h2, h3⟩ := h
    exact ⟨cA, h1, arrOfT_moved hvm h2, h3.moved hvm⟩
theorem Rel.moved {b Z : Nat} {D : va_G} {κ : Kp} {M : Mem} {u U : State} {H : Heap} (hvm : u.vm.Alike U.vm) (h : Rel b Z D κ M u H) : Rel b Z D κ M U H := ⟨fun r sh hs => ⟨(h.1 r sh hs).1, (h.1 r sh hs).2.moved hvm⟩, h.2⟩
theorem Rel.put {b Z : Nat} {D : va_G} {κ κ' : Kp} {M M' : Mem} {U : State} {H H' : Heap} {r : Nat} {sh' : Sh} (hR : Rel b Z D κ M U H) (hr : 1 ≤ r ∧ r ≤ κ.1) (hz : H'.size = H.size) (ho : ∀ q, q ≠ ad b Z r → H'[q]? = H[q]?)
    (hκ1 : κ'.1 = κ.1) (hκ3 : κ'.2.2 = κ.2.2) (hκ : ∀ r', r' ≠ r → κ'.2.1 r' = κ.2.1 r') (hr' : κ'.2.1 r = some sh') (hc : cellOK b Z D M' U H' r sh') (hM : ∀ r', r' ≠ r → ∀ j, M' r' j = M r' j) : Rel b Z D κ' M' U H' := by
  refine ⟨fun r2 sh hs => ?_, by rw [hκ1, hz]; exact hR.2.1, by rw [hκ1, hκ3, hz]; exact hR.2.2⟩
  rw [hκ1]
  by_cases h : r2 = r
  · subst h
    rw [hr'] at hs
    cases hs
    exact ⟨hr, hc⟩
  · rw [hκ r2 h] at hs
    obtain ⟨h1, h2⟩ := hR.1 r2 sh hs
    exact ⟨h1, h2.kept (ho _ (ad_ne hr.1 h1.1 h)) (hM r2 h)⟩
theorem cell_obj {b Z : Nat} {D : va_G} {κ : Kp} {M : Mem} {U : State} {H : Heap} {r ci N : Nat} {cs : List Nat} {q : vw_C} (hR : Rel b Z D κ M U H) (hs : κ.2.1 r = some (ci, N, cs)) (hq : vwCl[ci]? = some q) : q.2.2 = N ∧ cs.length = N ∧ t_OB (ad b Z r) (D.1 ci) q.2.2 (D.2 ci) H (fv b Z M r cs) := by
  have h := (hR.1 r _ hs).2
  have hci : ci < 16 := Nat.lt_of_lt_of_le (List.getElem?_eq_some_iff.mp hq).1 (by decide)
  unfold cellOK at h
  rw [if_pos hci] at h
  obtain ⟨q', h1, h2, h3, h4⟩ := h
  cases hq.symm.trans h1
  exact ⟨h2, h3, h4⟩
theorem cell_arr {b Z : Nat} {D : va_G} {κ : Kp} {M : Mem} {U : State} {H : Heap} {r t N : Nat} {cs : List Nat} (hR : Rel b Z D κ M U H) (hs : κ.2.1 r = some (t, N, cs)) (ht : 16 ≤ t) : ∃ cA : ClassId, H[ad b Z r]? = some (arrV cA N (aev b Z M r t cs)) ∧ ArrOfT U cA (aty t) ∧ va_RA U cA (aty t) := by
  have h := (hR.1 r _ hs).2
  unfold cellOK at h
  rw [if_neg (by show ¬ t < 16; omega)] at h
  exact h
theorem ix_in {i : Int32} {j N : Nat} (hi : i = nI j) (hj : j < N) (hN : N < 2147483648) : vp_in i N ∧ i.toNatClampNeg = j := by
  subst hi
  exact ⟨vp_in_nI hj hN, nI_clamp (Nat.lt_trans hj hN)⟩
section HEAPROWS

theorem g_getI {X : Xs} {y : MI} {is : List (Instr × Nat)} {pc : Nat} {lo : Lo} {st : List Value} {nc ks : Nat} {κ : Kp} {M : Mem} {Q : Rs → Kp → Mem → Prop} {own : String} {idx ci k N r : Nat} {cs : List Nat} (hf : FL own idx ci k) (ho : y.1.cls = own) (hs : κ.2.1 r = some (ci, N, cs)) (hc : cs.getD k 0 = 0) (kk : G X y is (pc + 3) lo (.int (M r k) :: st) nc ks κ M Q) : G X y (((.getfield idx), 3) :: is) pc lo (.ref r :: st) nc ks κ M Q := by
  intro hA l p e s m args below meth c b Z D H locs ls hC hR hS hL
  have hx := hC.2.1
  have hb := hC.2.2.1
  subst ho
  obtain ⟨q, hq, hk, hlink, hws⟩ := hf
  obtain ⟨hN, hlen, cell, q1, q2, q3, q4⟩ := cell_obj hR hs hq
  obtain ⟨hSl, hfc, kC, hkC, hkind⟩ := hC.wd.1.1 ci _ hq
  obtain ⟨cf, kf, fi, f, hi, hsl⟩ := hSl k hk
  refine W.getf hx hb hC.own (hC.word hlink) hi (u_facts hfc hkC (u_lays hC.words (fun w h => List.mem_cons_of_mem _ (hws w h)) hk) hi).1 q1 (by rw [q3]; exact fun h => by cases h) (v := tv b Z (.int (M r k))) ?_ rfl rfl hA.1 (kk hA.2 l p e s m args below meth c b Z D H locs ls hC hR hS hL)
  rw [hsl, q4 k hk]
  unfold fv
  rw [hc]
  rfl
theorem g_getR {X : Xs} {y : MI} {is : List (Instr × Nat)} {pc : Nat} {lo : Lo} {st : List Value} {nc ks : Nat} {κ : Kp} {M : Mem} {Q : Rs → Kp → Mem → Prop} {own : String} {idx ci k N r : Nat} {w : Nat} {cs : List Nat} (hf : FL own idx ci k) (ho : y.1.cls = own) (hs : κ.2.1 r = some (ci, N, cs)) (hc : cs.getD k 0 = w + 2) (kk : G X y is (pc + 3) lo (.ref w :: st) nc ks κ M Q) : G X y (((.getfield idx), 3) :: is) pc lo (.ref r :: st) nc ks κ M Q := by
  intro hA l p e s m args below meth c b Z D H locs ls hC hR hS hL
  have hx := hC.2.1
  have hb := hC.2.2.1
  subst ho
  obtain ⟨q, hq, hk, hlink, hws⟩ := hf
  obtain ⟨hN, hlen, cell, q1, q2, q3, q4⟩ := cell_obj hR hs hq
  obtain ⟨hSl, hfc, kC, hkC, hkind⟩ := hC.wd.1.1 ci _ hq
  obtain ⟨cf, kf, fi, f, hi, hsl⟩ := hSl k hk
  refine W.getf hx hb hC.own (hC.word hlink) hi (u_facts hfc hkC (u_lays hC.words (fun w h => List.mem_cons_of_mem _ (hws w h)) hk) hi).1 q1 (by rw [q3]; exact fun h => by cases h) (v := tv b Z (.ref w)) ?_ rfl rfl hA.1 (kk hA.2 l p e s m args below meth c b Z D H locs ls hC hR hS hL)
  rw [hsl, q4 k hk]
  unfold fv
  rw [hc]
  rfl
theorem g_putI {X : Xs} {y : MI} {is : List (Instr × Nat)} {pc : Nat} {lo : Lo} {st : List Value} {nc ks : Nat} {κ : Kp} {M : Mem} {Q : Rs → Kp → Mem → Prop} {own : String} {idx ci k N r : Nat} {cs : List Nat} {ty : FieldType} {x : Int32} (hf : PL own idx ci k ty false) (ho : y.1.cls = own) (hs : κ.2.1 r = some (ci, N, cs)) (hc : cs.getD k 0 = 0) (hn : narrow ty (.int x) = .int x) (hft : fits ty (.int x) = true) (kk : G X y is (pc + 3) lo st nc ks κ (upM M r k x) Q) : G X y (((.putfield idx), 3) :: is) pc lo (.int x :: .ref r :: st) nc ks κ M Q := by
  intro hA l p e s m args below meth c b Z D H locs ls hC hR hS hL
  have hx := hC.2.1
  have hb := hC.2.2.1
  subst ho
  obtain ⟨q, hq, hk, hlink, hws, hnm, ⟨ty0, hty⟩, hfin, hpd, -⟩ := hf
  obtain ⟨hN, hlen, cell, q1, q2, q3, q4⟩ := cell_obj hR hs hq
  have hin : ∀ w ∈ u_ws q.1 q.2.1 q.2.2, w ∈ wsOf y := fun w h => List.mem_cons_of_mem _ (hws w h)
  have hap := va_apart (own := y.1.cls) hC.words hin ty0 hty hnm hC.wd.1 hq
  obtain ⟨hSl, hfc, kC, hkC, hkind⟩ := hC.wd.1.1 ci _ hq
  obtain ⟨cf, kf, fi, f, hi, hsl⟩ := hSl k hk
  have hlay := hC.words _ (hin _ (u_in_lay hk))
  unfold u_lay at hlay
  rw [if_neg (by rw [hfin]; decide)] at hlay
  have hst := (u_facts hfc hkC (u_lays hC.words hin hk) hi).1
  have h6 := u_store hfc hkC hkind hlay hi hpd hn hft
  refine W.putK hx hb (f := f) ⟨hC.own, hC.word hlink, ⟨_, _, _, hi⟩, hst⟩ (by rw [q2]; exact h6) q1 q3 (by rw [hsl]; exact k2_hasslot (q4 k hk)) rfl rfl hA.1 fun H1 e1 e2 e3 => ?_
  have hr := (hR.1 r _ hs).1
  refine kk hA.2 l p e s m args below meth c b Z D H1 _ ls hC (hR.put hr e2 e3 rfl rfl (fun _ _ => rfl) hs ?_ (fun r2 h2 j => upM_o M r k x h2 j)) (hS.put e2 e3 (ad_ge hr.1)) hL
  rw [hsl] at e1
  have hci : ci < 16 := Nat.lt_of_lt_of_le (List.getElem?_eq_some_iff.mp hq).1 (by decide)
  unfold cellOK
  rw [if_pos hci]
  refine ⟨q, hq, hN, hlen, t_OB.to (V := updV (fv b Z M r cs) k (.int x)) ⟨_, e1, q2, q3, t_set q4 hap hk _⟩ (fun j _ => ?_)⟩
  show updV (fv b Z M r cs) k (.int x) j = fv b Z (upM M r k x) r cs j
  by_cases hj : j = k
  · subst hj
    simp only [updV, if_pos]
    unfold fv
    rw [hc, upM_s]
  · simp only [updV, if_neg hj]
    unfold fv
    rw [upM_j M r k x hj]
theorem g_putR {X : Xs} {y : MI} {is : List (Instr × Nat)} {pc : Nat} {lo : Lo} {st : List Value} {nc ks : Nat} {κ : Kp} {M : Mem} {Q : Rs → Kp → Mem → Prop} {own : String} {idx ci k N r w : Nat} {cs : List Nat} {ty : FieldType} (hf : PL own idx ci k ty true) (ho : y.1.cls = own) (hin2 : y.1.name = "<init>") (hs : κ.2.1 r = some (ci, N, cs)) (hn : ∀ a, narrow ty (.ref a) = .ref a) (hft : ∀ a, fits ty (.ref a) = true) (kk : G X y is (pc + 3) lo st nc ks (κ.1, upS κ.2.1 r (ci, N, cs.set k (w + 2)), κ.2.2) M Q) : G X y (((.putfield idx), 3) :: is) pc lo (.ref w :: .ref r :: st) nc ks κ M Q := by
  intro hA l p e s m args below meth c b Z D H locs ls hC hR hS hL
  have hx := hC.2.1
  have hb := hC.2.2.1
  subst ho
  obtain ⟨q, hq, hk, hlink, hws, hnm, ⟨ty0, hty⟩, hfin, hpd, hdecl⟩ := hf
  obtain ⟨hN, hlen, cell, q1, q2, q3, q4⟩ := cell_obj hR hs hq
  have hin : ∀ w ∈ u_ws q.1 q.2.1 q.2.2, w ∈ wsOf y := fun w h => List.mem_cons_of_mem _ (hws w h)
  have hap := va_apart (own := y.1.cls) hC.words hin ty0 hty hnm hC.wd.1 hq
  obtain ⟨hSl, hfc, kC, hkC, hkind⟩ := hC.wd.1.1 ci _ hq
  obtain ⟨cf, kf, fi, f, hi, hsl⟩ := hSl k hk
  have hst := (u_facts hfc hkC (u_lays hC.words hin hk) hi).1
  have h6 := u_fits hfc hkC hkind (u_lays hC.words hin hk) hi hpd (hn (ad b Z w)) (hft (ad b Z w))
  have hlay := hC.words _ (hin _ (u_in_lay hk))
  unfold u_lay at hlay
  rw [if_pos hfin] at hlay
  have hcf : m.cls = cf := by
    obtain ⟨_, _, c', _, _, _, -, -, hf', -, -, -, hown2, -⟩ := Cond.laysFinal_spec hlay
    have e1 : c' = cf := by have := hi.symm.trans hf'; simp at this; exact this.1.symm
    rw [hdecl rfl] at hown2
    rw [← e1]; exact Option.some.inj (hC.own.symm.trans hown2)
  refine W.putFinK hx hb hC.own (hC.word hlink) hi hst hcf (by rw [hC.2.2.2.2.2.2.1]; exact hin2) (by rw [q2]; exact h6) q1 q3 (by rw [hsl]; exact k2_hasslot (q4 k hk)) rfl rfl hA.1 fun H1 e1 e2 e3 => ?_
  have hr := (hR.1 r _ hs).1
  refine kk hA.2 l p e s m args below meth c b Z D H1 _ ls hC (hR.put hr e2 e3 rfl rfl (fun _ h => upS_o _ _ _ h) (upS_s _ _ _) ?_ (fun _ _ _ => rfl)) (hS.put e2 e3 (ad_ge hr.1)) hL
  rw [hsl] at e1
  have hci : ci < 16 := Nat.lt_of_lt_of_le (List.getElem?_eq_some_iff.mp hq).1 (by decide)
  unfold cellOK
  rw [if_pos hci]
  refine ⟨q, hq, hN, by simp only [List.length_set]; exact hlen, t_OB.to (V := updV (fv b Z M r cs) k (.ref (ad b Z w))) ⟨_, e1, q2, q3, t_set q4 hap hk _⟩ (fun j _ => ?_)⟩
  show updV (fv b Z M r cs) k (.ref (ad b Z w)) j = fv b Z M r (cs.set k (w + 2)) j
  have hkl : k < cs.length := by rw [hlen, ← hN]; exact hk
  by_cases hj : j = k
  · subst hj
    simp only [updV, if_pos]
    unfold fv
    simp [hkl]
  · simp only [updV, if_neg hj]
    unfold fv
    simp [List.getElem?_set_ne (Ne.symm hj)]
theorem g_iaload {X : Xs} {y : MI} {is : List (Instr × Nat)} {pc : Nat} {lo : Lo} {st : List Value} {nc ks : Nat} {κ : Kp} {M : Mem} {Q : Rs → Kp → Mem → Prop} {r N j : Nat} {cs : List Nat} {i : Int32} (hs : κ.2.1 r = some (16, N, cs)) (hi : i = nI j) (hj : j < N) (hN : N < 2147483648) (kk : G X y is (pc + 1) lo (.int (M r j) :: st) nc ks κ M Q) : G X y (((.iaload), 1) :: is) pc lo (.int i :: .ref r :: st) nc ks κ M Q := by
  intro hA l p e s m args below meth c b Z D H locs ls hC hR hS hL
  have hx := hC.2.1
  have hb := hC.2.2.1
  obtain ⟨cA, h1, h2, h3⟩ := cell_arr hR hs (by decide)
  obtain ⟨hin, hcl⟩ := ix_in hi hj hN
  refine W.iald (v := .int (M r j)) hx hb h1 (h2 N _) (fun q => by cases q) (by rw [arrV_size]; exact hin) (by rw [hcl, arrV_read _ _ hj]; rfl) rfl rfl hA.1 (kk hA.2 l p e s m args below meth c b Z D H locs ls hC hR hS hL)
theorem g_caload {X : Xs} {y : MI} {is : List (Instr × Nat)} {pc : Nat} {lo : Lo} {st : List Value} {nc ks : Nat} {κ : Kp} {M : Mem} {Q : Rs → Kp → Mem → Prop} {r N j : Nat} {cs : List Nat} {i : Int32} (hs : κ.2.1 r = some (17, N, cs)) (hi : i = nI j) (hj : j < N) (hN : N < 2147483648) (kk : G X y is (pc + 1) lo (.int (M r j) :: st) nc ks κ M Q) : G X y (((.caload), 1) :: is) pc lo (.int i :: .ref r :: st) nc ks κ M Q := by
  intro hA l p e s m args below meth c b Z D H locs ls hC hR hS hL
  have hx := hC.2.1
  have hb := hC.2.2.1
  obtain ⟨cA, h1, h2, h3⟩ := cell_arr hR hs (by decide)
  obtain ⟨hin, hcl⟩ := ix_in hi hj hN
  refine W.cald (v := .int (M r j)) hx hb h1 (h2 N _) (fun q => by cases q) (by rw [arrV_size]; exact hin) (by rw [hcl, arrV_read _ _ hj]; rfl) rfl rfl hA.1 (kk hA.2 l p e s m args below meth c b Z D H locs ls hC hR hS hL)
theorem g_baload {X : Xs} {y : MI} {is : List (Instr × Nat)} {pc : Nat} {lo : Lo} {st : List Value} {nc ks : Nat} {κ : Kp} {M : Mem} {Q : Rs → Kp → Mem → Prop} {r N j : Nat} {cs : List Nat} {i : Int32} (hs : κ.2.1 r = some (18, N, cs)) (hi : i = nI j) (hj : j < N) (hN : N < 2147483648) (kk : G X y is (pc + 1) lo (.int (M r j) :: st) nc ks κ M Q) : G X y (((.baload), 1) :: is) pc lo (.int i :: .ref r :: st) nc ks κ M Q := by
  intro hA l p e s m args below meth c b Z D H locs ls hC hR hS hL
  have hx := hC.2.1
  have hb := hC.2.2.1
  obtain ⟨cA, h1, h2, h3⟩ := cell_arr hR hs (by decide)
  obtain ⟨hin, hcl⟩ := ix_in hi hj hN
  refine W.zald (v := .int (M r j)) hx hb h1 (h2 N _) (fun q => by cases q) (by rw [arrV_size]; exact hin) (by rw [hcl, arrV_read _ _ hj]; rfl) rfl rfl hA.1 (kk hA.2 l p e s m args below meth c b Z D H locs ls hC hR hS hL)
theorem g_laload {X : Xs} {y : MI} {is : List (Instr × Nat)} {pc : Nat} {lo : Lo} {st : List Value} {nc ks : Nat} {κ : Kp} {M : Mem} {Q : Rs → Kp → Mem → Prop} {r N j : Nat} {cs : List Nat} {i : Int32} (hs : κ.2.1 r = some (19, N, cs)) (hi : i = nI j) (hj : j < N) (hN : N < 2147483648) (kk : G X y is (pc + 1) lo (.long (M r j).toInt64 :: st) nc ks κ M Q) : G X y (((.laload), 1) :: is) pc lo (.int i :: .ref r :: st) nc ks κ M Q := by
  intro hA l p e s m args below meth c b Z D H locs ls hC hR hS hL
  have hx := hC.2.1
  have hb := hC.2.2.1
  obtain ⟨cA, h1, h2, h3⟩ := cell_arr hR hs (by decide)
  obtain ⟨hin, hcl⟩ := ix_in hi hj hN
  refine W.lald (v := .long (M r j).toInt64) hx hb h1 (h2 N _) (fun q => by cases q) (by rw [arrV_size]; exact hin) (by rw [hcl, arrV_read _ _ hj]; rfl) rfl rfl hA.1 (kk hA.2 l p e s m args below meth c b Z D H locs ls hC hR hS hL)
theorem g_aaload {X : Xs} {y : MI} {is : List (Instr × Nat)} {pc : Nat} {lo : Lo} {st : List Value} {nc ks : Nat} {κ : Kp} {M : Mem} {Q : Rs → Kp → Mem → Prop} {r t N j w : Nat} {cs : List Nat} {i : Int32} (hs : κ.2.1 r = some (t, N, cs)) (ht : 20 ≤ t) (hi : i = nI j) (hj : j < N) (hN : N < 2147483648) (hc : cs.getD j 0 = w + 2) (kk : G X y is (pc + 1) lo (.ref w :: st) nc ks κ M Q) : G X y (((.aaload), 1) :: is) pc lo (.int i :: .ref r :: st) nc ks κ M Q := by
  intro hA l p e s m args below meth c b Z D H locs ls hC hR hS hL
  have hx := hC.2.1
  have hb := hC.2.2.1
  obtain ⟨cA, h1, h2, h3⟩ := cell_arr hR hs (by omega)
  obtain ⟨hin, hcl⟩ := ix_in hi hj hN
  have hty : aty t = .object (clN (t - 20)) := by simp [aty, show ¬ t = 16 by omega, show ¬ t = 17 by omega, show ¬ t = 18 by omega, show ¬ t = 19 by omega]
  refine W.aald (v := .ref (ad b Z w)) (ty := aty t) hx hb h1 (h2 N _) (by rw [hty]; rfl) (fun q => by cases q) (by rw [arrV_size]; exact hin) ?_ rfl rfl hA.1 (kk hA.2 l p e s m args below meth c b Z D H locs ls hC hR hS hL)
  rw [hcl, arrV_read _ _ hj]
  unfold aev
  rw [if_neg (by omega), if_neg (by omega)]
  unfold fv
  rw [hc]
theorem g_iastore {X : Xs} {y : MI} {is : List (Instr × Nat)} {pc : Nat} {lo : Lo} {st : List Value} {nc ks : Nat} {κ : Kp} {M : Mem} {Q : Rs → Kp → Mem → Prop} {r N j : Nat} {cs : List Nat} {i x : Int32} (hs : κ.2.1 r = some (16, N, cs)) (hi : i = nI j) (hj : j < N) (hN : N < 2147483648) (kk : G X y is (pc + 1) lo st nc ks κ (upM M r j x) Q) : G X y (((.iastore), 1) :: is) pc lo (.int x :: .int i :: .ref r :: st) nc ks κ M Q := by
  intro hA l p e s m args below meth c b Z D H locs ls hC hR hS hL
  have hx := hC.2.1
  have hb := hC.2.2.1
  obtain ⟨cA, h1, h2, h3⟩ := cell_arr hR hs (by decide)
  obtain ⟨hin, hcl⟩ := ix_in hi hj hN
  have hr := (hR.1 r _ hs).1
  refine W.iast hx hb h1 (h2 N _) (fun q => by cases q) (by rw [arrV_size]; exact hin) rfl rfl hA.1 fun H1 e1 e2 e3 => ?_
  refine kk hA.2 l p e s m args below meth c b Z D H1 _ ls hC (hR.put hr e2 e3 rfl rfl (fun _ _ => rfl) hs ?_ (fun r2 h2 j2 => upM_o M r j x h2 j2)) (hS.put e2 e3 (ad_ge hr.1)) hL
  unfold cellOK
  rw [if_neg (by show ¬ (16 : Nat) < 16; decide)]
  refine ⟨cA, ?_, h2, h3⟩
  rw [e1, hcl, arrV_store]
  congr 2
  funext a
  by_cases ha : a = j
  · subst ha
    simp [updV, aev, upM_s]
  · simp only [updV, if_neg ha]
    simp only [aev, upM_j M r j x ha]
    rfl
theorem g_castore {X : Xs} {y : MI} {is : List (Instr × Nat)} {pc : Nat} {lo : Lo} {st : List Value} {nc ks : Nat} {κ : Kp} {M : Mem} {Q : Rs → Kp → Mem → Prop} {r N j : Nat} {cs : List Nat} {i x : Int32} (hs : κ.2.1 r = some (17, N, cs)) (hi : i = nI j) (hj : j < N) (hN : N < 2147483648) (hn : narrow .char (.int x) = .int x) (kk : G X y is (pc + 1) lo st nc ks κ (upM M r j x) Q) : G X y (((.castore), 1) :: is) pc lo (.int x :: .int i :: .ref r :: st) nc ks κ M Q := by
  intro hA l p e s m args below meth c b Z D H locs ls hC hR hS hL
  have hx := hC.2.1
  have hb := hC.2.2.1
  obtain ⟨cA, h1, h2, h3⟩ := cell_arr hR hs (by decide)
  obtain ⟨hin, hcl⟩ := ix_in hi hj hN
  have hr := (hR.1 r _ hs).1
  refine W.cast hx hb h1 (h2 N _) (fun q => by cases q) (by rw [arrV_size]; exact hin) rfl rfl hA.1 fun H1 e1 e2 e3 => ?_
  refine kk hA.2 l p e s m args below meth c b Z D H1 _ ls hC (hR.put hr e2 e3 rfl rfl (fun _ _ => rfl) hs ?_ (fun r2 h2 j2 => upM_o M r j x h2 j2)) (hS.put e2 e3 (ad_ge hr.1)) hL
  unfold cellOK
  rw [if_neg (by show ¬ (17 : Nat) < 16; decide)]
  refine ⟨cA, ?_, h2, h3⟩
  rw [e1, hcl, hn, arrV_store]
  congr 2
  funext a
  by_cases ha : a = j
  · subst ha
    simp [updV, aev, upM_s]
  · simp only [updV, if_neg ha]
    simp only [aev, upM_j M r j x ha]
    rfl
theorem g_bastore {X : Xs} {y : MI} {is : List (Instr × Nat)} {pc : Nat} {lo : Lo} {st : List Value} {nc ks : Nat} {κ : Kp} {M : Mem} {Q : Rs → Kp → Mem → Prop} {r N j : Nat} {cs : List Nat} {i x : Int32} (hs : κ.2.1 r = some (18, N, cs)) (hi : i = nI j) (hj : j < N) (hN : N < 2147483648) (hn : narrow .boolean (.int x) = .int x) (kk : G X y is (pc + 1) lo st nc ks κ (upM M r j x) Q) : G X y (((.bastore), 1) :: is) pc lo (.int x :: .int i :: .ref r :: st) nc ks κ M Q := by
  intro hA l p e s m args below meth c b Z D H locs ls hC hR hS hL
  have hx := hC.2.1
  have hb := hC.2.2.1
  obtain ⟨cA, h1, h2, h3⟩ := cell_arr hR hs (by decide)
  obtain ⟨hin, hcl⟩ := ix_in hi hj hN
  have hr := (hR.1 r _ hs).1
  refine W.zast hx hb h1 (h2 N _) (fun q => by cases q) (by rw [arrV_size]; exact hin) rfl rfl hA.1 fun H1 e1 e2 e3 => ?_
  refine kk hA.2 l p e s m args below meth c b Z D H1 _ ls hC (hR.put hr e2 e3 rfl rfl (fun _ _ => rfl) hs ?_ (fun r2 h2 j2 => upM_o M r j x h2 j2)) (hS.put e2 e3 (ad_ge hr.1)) hL
  unfold cellOK
  rw [if_neg (by show ¬ (18 : Nat) < 16; decide)]
  refine ⟨cA, ?_, h2, h3⟩
  rw [e1, hcl, hn, arrV_store]
  congr 2
  funext a
  by_cases ha : a = j
  · subst ha
    simp [updV, aev, upM_s]
  · simp only [updV, if_neg ha]
    simp only [aev, upM_j M r j x ha]
    rfl
theorem g_lastore {X : Xs} {y : MI} {is : List (Instr × Nat)} {pc : Nat} {lo : Lo} {st : List Value} {nc ks : Nat} {κ : Kp} {M : Mem} {Q : Rs → Kp → Mem → Prop} {r N j : Nat} {cs : List Nat} {i x : Int32} (hs : κ.2.1 r = some (19, N, cs)) (hi : i = nI j) (hj : j < N) (hN : N < 2147483648) (kk : G X y is (pc + 1) lo st nc ks κ (upM M r j x) Q) : G X y (((.lastore), 1) :: is) pc lo (.long x.toInt64 :: .int i :: .ref r :: st) nc ks κ M Q := by
  intro hA l p e s m args below meth c b Z D H locs ls hC hR hS hL
  have hx := hC.2.1
  have hb := hC.2.2.1
  obtain ⟨cA, h1, h2, h3⟩ := cell_arr hR hs (by decide)
  obtain ⟨hin, hcl⟩ := ix_in hi hj hN
  have hr := (hR.1 r _ hs).1
  refine W.last hx hb h1 (h2 N _) (fun q => by cases q) (by rw [arrV_size]; exact hin) rfl rfl hA.1 fun H1 e1 e2 e3 => ?_
  refine kk hA.2 l p e s m args below meth c b Z D H1 _ ls hC (hR.put hr e2 e3 rfl rfl (fun _ _ => rfl) hs ?_ (fun r2 h2 j2 => upM_o M r j x h2 j2)) (hS.put e2 e3 (ad_ge hr.1)) hL
  unfold cellOK
  rw [if_neg (by show ¬ (19 : Nat) < 16; decide)]
  refine ⟨cA, ?_, h2, h3⟩
  rw [e1, hcl, arrV_store]
  congr 2
  funext a
  by_cases ha : a = j
  · subst ha
    simp [updV, aev, upM_s]
  · simp only [updV, if_neg ha]
    simp only [aev, upM_j M r j x ha]
    rfl
theorem g_sload {X : Xs} {y : MI} {is : List (Instr × Nat)} {pc : Nat} {lo : Lo} {st : List Value} {nc ks : Nat} {κ : Kp} {M : Mem} {Q : Rs → Kp → Mem → Prop} {i : Int32} {j : Nat} (hi : i = nI j) (hj : j < X.1) (hN : X.1 < 2147483648) (kk : G X y is (pc + 1) lo (.int (X.2 j) :: st) nc ks κ M Q) : G X y (((.iaload), 1) :: is) pc lo (.int i :: .ref 0 :: st) nc ks κ M Q := by
  intro hA l p e s m args below meth c b Z D H locs ls hC hR hS hL
  have hx := hC.2.1
  have hb := hC.2.2.1
  obtain ⟨hin, hcl⟩ := ix_in hi hj hN
  obtain ⟨-, hXx, hbZ, hZs, -⟩ := hC.wd
  refine va_sld hx hb hXx (Nat.lt_of_lt_of_le hbZ hZs) (Nat.not_le.mpr hbZ) hS hin hA.1 ?_
  rw [hcl]
  exact kk hA.2 l p e s m args below meth c b Z D H locs ls hC hR hS hL
theorem g_slen {X : Xs} {y : MI} {is : List (Instr × Nat)} {pc : Nat} {lo : Lo} {st : List Value} {nc ks : Nat} {κ : Kp} {M : Mem} {Q : Rs → Kp → Mem → Prop}  (kk : G X y is (pc + 1) lo (.int (nI X.1) :: st) nc ks κ M Q) : G X y (((.arraylength), 1) :: is) pc lo (.ref 0 :: st) nc ks κ M Q := by
  intro hA l p e s m args below meth c b Z D H locs ls hC hR hS hL
  have hx := hC.2.1
  have hb := hC.2.2.1
  obtain ⟨-, hXx, hbZ, hZs, -⟩ := hC.wd
  exact va_slen hx hb hXx (Nat.lt_of_lt_of_le hbZ hZs) (Nat.not_le.mpr hbZ) hS hA.1 (kk hA.2 l p e s m args below meth c b Z D H locs ls hC hR hS hL)
end HEAPROWS
end
section
theorem castI {s : State} {q : String} (h : va_Nw (.castable q q) s) {args : Array Value} : (Cond.castable q q).before args s = true := va_Nw.use rfl h
theorem NW.warm {s U : State} (hW : s.WarmedH U.vm) (h : NW s) : NW U := by
  obtain ⟨h1, h2, h3, h4, h5, h6⟩ := h
  refine ⟨fun q hq => va_Nw.warmM hW (h1 q hq), fun q hq => (h2 q hq).moved hW.alike, fun q hq => (h3 q hq).moved hW.alike, fun q hq => ?_, fun q hq => va_Nw.warmC hW (h5 q hq), fun q hq => va_Nw.warmD hW (h6 q hq)⟩
  obtain ⟨a, ha⟩ := h4 q hq
  exact ⟨a, vk_R.warm hW ha⟩
theorem Wd.go {X : Xs} {b Z : Nat} {D : va_G} {s U : State} (hW : s.WarmedH U.vm) (hz : s.heap.size ≤ U.heap.size) (hq : ∀ a : Nat, a < s.heap.size → ¬ Z ≤ a → U.heap[a]? = s.heap[a]?) (h : Wd X b Z D s) : Wd X b Z D U := by
  obtain ⟨h1, h2, h3, h4, h5, h6, h7⟩ := h
  have hv : s.vm.Alike U.vm := hW.alike
  exact ⟨h1.moved hv, (h2.moved hv).kept (hq b (Nat.lt_of_lt_of_le h3 h4) (Nat.not_le.mpr h3)), h3, Nat.le_trans h4 hz, vx_Zq.moved hv (h5.kept hq), vx_Zq.moved hv (h6.kept hq), h7.warm hW⟩
theorem zPc_blind (X : Xs) (b Z : Nat) (D : va_G) (as : List Value) (κ : Kp) (M : Mem) : FrameBlind (zPc X b Z D as κ M) := by
  intro a U g mk h
  obtain ⟨h1, h2, h3⟩ := h
  have hW : U.WarmedH (U.calling g mk a).vm := State.WarmedH.refl U
  exact ⟨h1, h2.go hW (Nat.le_refl _) (fun _ _ _ => rfl), Rel.moved hW.alike h3⟩
theorem zPc_call {X : Xs} {b Z : Nat} {D : va_G} {as : List Value} {κ : Kp} {M : Mem} {s U : State} {H : Heap} {locs : List Loc} (hwd : Wd X b Z D s) (hR : Rel b Z D κ M s H) (hS : va_S (fun q => Z ≤ q) s.heap H locs) (hU : U.heap = H) (hW : s.WarmedH U.vm) : zPc X b Z D as κ M ((as.map (tv b Z)).toArray) U := by
  subst hU
  exact ⟨rfl, hwd.go hW hS.1 (fun a h1 h2 => hS.2.1 a h1 h2), Rel.moved hW.alike hR⟩
/-- what is known of a method that is called -/
def MK (z : MI) (n : Nat) : Prop := cwOf z ∈ tblG ∧ Cond.initialized z.1.cls ∈ tblG ∧ z.2.2.2.2.1 = none ∧ (z.1.cls ≠ "java/lang/invoke/MethodHandle" ∧ z.1.cls ≠ "java/lang/invoke/VarHandle" ∧ (parseMethodDescriptor z.1.desc).map (fun d => d.parameters.length) = some n)
def roomB (y z : MI) (nc ks : Nat) : Prop := ((rmOf z).frames + 1 ≤ (rmOf y).frames ∧ 8 + (z.2.2.1 + 11) + (rmOf z).locals ≤ (rmOf y).locals) ∧ (nc + (rmOf z).cells ≤ (rmOf y).cells ∧ ks + (rmOf z).slots ≤ (rmOf y).slots)
theorem cwOf_none {z : MI} (h : z.2.2.2.2.1 = none) : cwOf z = .code z.1 z.2.1 z.2.2.1 z.2.2.2.1 := by unfold cwOf; rw [h]
theorem cwOf_some {z : MI} {hh : List (Nat × Nat × Nat × Nat)} (h : z.2.2.2.2.1 = some hh) : cwOf z = .codeWith z.1 z.2.1 z.2.2.1 z.2.2.2.1 hh := by unfold cwOf; rw [h]
def Kq (X : Xs) (y : MI) (is : List (Instr × Nat)) (pc : Nat) (lo : Lo) (st : List Value) (nc ks : Nat) (Q : Rs → Kp → Mem → Prop) : Rs → Kp → Mem → Prop := fun o κ M => match o with
  | .inl (some v) => G X y is pc lo (v :: st) nc ks κ M Q
  | .inl none => G X y is pc lo st nc ks κ M Q
  | .inr e => Q (.inr e) κ M
section CORE
variable {p : Program} {l : Launch} {e : Env} {R : Room} {s : State} {m : MethodId} {args : Array Value} {below : List Frame} {meth : Method} {c : Code} {H : Heap} {locs : List Loc} {nc ks mc ms : Nat} {Qf : State → Prop} {pc : Nat} {ls : Array Slot} {st0 rest : List Value} {b Z : Nat} {D : va_G} {K : Rs → Kp → Mem → Prop} {a : Array Value}
theorem call_core (hr : vx_Run p l e R s m args below meth c H locs nc ks mc ms (F0 m pc ls st0) rest (zQc b Z D K a) (zXC b Z D K) (fun q => Z ≤ q)) (hS : va_S (fun q => Z ≤ q) s.heap H locs)
    (hret : ∀ (v : Option Value) (κ' : Kp) (M' : Mem) (H' : Heap) (locs' : List Loc), K (.inl v) κ' M' → Rel b Z D κ' M' s H' → va_S (fun q => Z ≤ q) s.heap H' locs' → W p l e R s m args below meth c H' locs' (nc + mc) (ks + ms) Qf (F0 m (pc + 3) ls ((v.map (tv b Z)).toList ++ rest)))
    (hexc : ∀ (ex : Nat) (κ' : Kp) (M' : Mem) (H' : Heap) (locs' : List Loc) (q : Nat) (ce : Cell), K (.inr ex) κ' M' → Rel b Z D κ' M' s H' → va_S (fun q => Z ≤ q) s.heap H' locs' → H'[q]? = some ce → ce.vm = .none → s.vm.findClass (exN ex) = some ce.cls → vx_W p l e R s m args below meth c H' locs' (nc + mc) (ks + ms) Qf (F0 m pc ls rest) q) :
    W p l e R s m args below meth c H locs nc ks Qf (F0 m pc ls st0) := by
  intro T hT X
  rcases hr T hT X with ⟨v, st₀, t, T', L, h0, X', hL, e1, e2, ⟨⟨r, κ', M', hv, hK, hRel⟩, hF⟩, st⟩ | ⟨q, st₀, t, T', L, E, ce, h0, X', hL, e1, e2, ⟨⟨ex, κ', M', hE, hK, hRel⟩, hF⟩, hce, hcv, hcl, st⟩
  · obtain ⟨k1, k2, k3⟩ := vx_keep h0 e1 hS (fun _ _ h => h) (fun _ h => h) hL hF
    have hal : t.vm.Alike s.vm := by rw [← e2]; exact X'.warmed.alike.symm
    have hv' : v = r.map (tv b Z) := Outcome.returned.inj hv
    subst hv'
    obtain ⟨t2, a1, b1⟩ := hret r κ' M' T'.heap (locs ++ L) hK (by rw [e1]; exact hRel.moved hal) k3 T' rfl X'
    exact ⟨t2, st t2 a1, b1⟩
  · obtain ⟨k1, k2, k3⟩ := vx_keep h0 e1 hS (fun _ _ h => h) (fun _ h => h) hL hF
    have hal : t.vm.Alike s.vm := by rw [← e2]; exact X'.warmed.alike.symm
    subst hE
    obtain ⟨t2, a1, b1⟩ := hexc ex κ' M' T'.heap (locs ++ L) q ce hK (by rw [e1]; exact hRel.moved hal) k3 (by rw [e1]; exact hce) hcv hcl T' rfl X'
    exact ⟨t2, st.trans a1, b1⟩
end CORE
section CALLROWS
variable {X : Xs} {y : MI} {is : List (Instr × Nat)} {pc : Nat} {lo : Lo} {st stk as : List Value} {nc ks : Nat} {κ : Kp} {M : Mem} {Q : Rs → Kp → Mem → Prop} {own : String} {idx n r ci N : Nat} {cs : List Nat} {z : MI}
theorem hexc_out {p : Program} {l : Launch} {e : Env} {s : State} {m : MethodId} {args : Array Value} {below : List Frame} {meth : Method} {c : Code} {b Z : Nat} {D : va_G} (hy : y.2.2.2.2.1 = none) (hC : Cx X y l p s m args meth c b Z D) {ls : Array Slot} {rest : List Value} {K : Rs → Kp → Mem → Prop} (hK : ∀ e κ M, K (.inr e) κ M → Q (.inr e) κ M) {n2 k2 : Nat} (hr1 : n2 ≤ (rmOf y).cells) (hr2 : k2 ≤ (rmOf y).slots)
    (ex : Nat) (κ' : Kp) (M' : Mem) (H' : Heap) (locs' : List Loc) (q : Nat) (ce : Cell) (hk : K (.inr ex) κ' M') (hRel : Rel b Z D κ' M' s H') (hS : va_S (fun q => Z ≤ q) s.heap H' locs') (hce : H'[q]? = some ce) (hcv : ce.vm = .none) (hcl : s.vm.findClass (exN ex) = some ce.cls) :
    vx_W p l e (rmOf y) s m args below meth c H' locs' n2 k2 (vx_MQ below (zQc b Z D Q) (zXC b Z D Q) args s (rmOf y).cells (rmOf y).slots (fun q => Z ≤ q)) (F0 m pc ls rest) q := by
  refine vx_out (E := exN ex) (ce := ce) ?_ hC.2.2.2.2.2.1 hce hcv hcl ?_ hS.2.2 hr1 hr2
  · intro x hx
    rw [hC.2.2.2.2.2.2.2.1, hy] at hx
    cases hx
  · intro t ht hal
    exact ⟨⟨ex, κ', M', rfl, hK _ _ _ hk, by rw [ht]; exact hRel.moved hal⟩, hS.F ht⟩
theorem map_rev (b Z : Nat) (as : List Value) (v : List Value) : (as.reverse ++ v).map (tv b Z) = (as.map (tv b Z)).reverse ++ v.map (tv b Z) := by simp
theorem cat_map (b Z : Nat) (st : List Value) : ((st.map (tv b Z)).map fun v => v.category).sum = (st.map Value.category).sum := by
  rw [List.map_map]
  congr 2
  funext v
  exact tv_cat b Z v
theorem MK.cb {p : Program} {l : Launch} {s : State} {m : MethodId} {args : Array Value} {meth : Method} {c : Code} {b Z : Nat} {D : va_G} (hC : Cx X y l p s m args meth c b Z D) (hk : MK z n) (hl : Cond.methodLink own idx z.1 ∈ tblG) (hrm : roomB y z nc ks) :
    CallB (rmOf y) s args own idx z.1 z.2.1 z.2.2.1 z.2.2.2.1 (wsOf z) (rmOf z) (rmOf z).cells (rmOf z).slots n :=
  callB_of (ws' := tblG) n hC.words (good_wsOf hk.1) (by unfold wsOf; rw [cwOf_none hk.2.2.1]) rfl rfl (hC.word hk.2.1) (hC.word hl) hk.2.2.2 hrm.1
theorem g_callV (hk : MK z n) (hl : Cond.methodLink own idx z.1 ∈ tblG) (hi : Cond.instanceMethod z.1 ∈ tblG) (hv : Cond.selects z.1.cls z.1 z.1 ∈ tblG) (ho : y.1.cls = own) (hy : y.2.2.2.2.1 = none) (hrm : roomB y z nc ks) (hs : κ.2.1 r = some (ci, N, cs)) (hci : (vwCl[ci]?).map (fun q => q.1) = some z.1.cls)
    (hstk : stk = as.reverse ++ .ref r :: st) (hn : as.length = n) (hcat : (st.map Value.category).sum ≤ 8) (hz : Ct X z (.ref r :: as) κ M (Kq X y is (pc + 3) lo st (nc + (rmOf z).cells) (ks + (rmOf z).slots) Q)) : G X y ((.invokevirtual idx, 3) :: is) pc lo stk nc ks κ M Q := by
  intro hA l p e s m args below meth c b Z D H locs ls hC hR hS hL
  subst ho
  subst hstk
  obtain ⟨q, hq, hqn⟩ := Option.map_eq_some_iff.mp hci
  obtain ⟨hN, hlen, cell, q1, q2, q3, q4⟩ := cell_obj hR hs hq
  have hfc : s.vm.findClass z.1.cls = some cell.cls := by rw [q2, ← hqn]; exact (hC.wd.1.1 ci _ hq).2.1
  have hr := vx_runV (C := z.1.cls) (As := as.map (tv b Z)) (rest := st.map (tv b Z)) (n := n) (b := ad b Z r) (g := F0 m pc ls ((as.reverse ++ .ref r :: st).map (tv b Z))) (cells := nc) (slots := ks) (locs := locs) (H := H) (p := p) (e := e) (below := below) (meth := meth) (c := c) (index := idx) (own := y.1.cls)
    ⟨hC.2.1, hC.2.2.1, hC.2.2.2.1, hC.own, hC.words⟩ (hz l hC.1 b Z D) ⟨hk.cb hC hl hrm, hC.word hi, hC.word hv⟩
    ⟨zPc_blind _ _ _ _ _ _ _, ⟨cell, q1, by rw [q3]; rfl, hfc⟩, fun U hU hW => zPc_call hC.wd hR hS hU hW⟩ rfl (by rw [List.length_map]; exact hn) hL.1 (map_rev b Z as (.ref r :: st)) (lv_room (by rw [cat_map]; exact hcat)) hA.1 hrm.2
  refine call_core hr hS (fun v κ' M' H' locs' hK hRel hS' => ?_) (hexc_out (Q := Q) (K := Kq X y is (pc + 3) lo st (nc + (rmOf z).cells) (ks + (rmOf z).slots) Q) hy hC (fun e κ M h => h) hrm.2.1 hrm.2.2)
  cases v with
  | none => exact hK hA.2 l p e s m args below meth c b Z D H' locs' ls hC hRel hS' hL
  | some v => exact hK hA.2 l p e s m args below meth c b Z D H' locs' ls hC hRel hS' hL
theorem g_callS (hk : MK z n) (hl : Cond.methodLink own idx z.1 ∈ tblG) (hi : Cond.static z.1 ∈ tblG) (ho : y.1.cls = own) (hy : y.2.2.2.2.1 = none) (hrm : roomB y z nc ks)
    (hstk : stk = as.reverse ++ st) (hn : as.length = n) (hcat : (st.map Value.category).sum ≤ 8) (hz : Ct X z as κ M (Kq X y is (pc + 3) lo st (nc + (rmOf z).cells) (ks + (rmOf z).slots) Q)) : G X y ((.invokestatic idx, 3) :: is) pc lo stk nc ks κ M Q := by
  intro hA l p e s m args below meth c b Z D H locs ls hC hR hS hL
  subst ho
  subst hstk
  have hr := vx_runS (As := as.map (tv b Z)) (rest := st.map (tv b Z)) (n := n) (g := F0 m pc ls ((as.reverse ++ st).map (tv b Z))) (cells := nc) (slots := ks) (locs := locs) (H := H) (p := p) (e := e) (below := below) (meth := meth) (c := c) (index := idx) (own := y.1.cls)
    ⟨hC.2.1, hC.2.2.1, hC.2.2.2.1, hC.own, hC.words⟩ (hz l hC.1 b Z D) ⟨hk.cb hC hl hrm, hC.word hi⟩
    ⟨zPc_blind _ _ _ _ _ _ _, fun U hU hW => zPc_call hC.wd hR hS hU hW⟩ rfl (by rw [List.length_map]; exact hn) hL.1 (map_rev b Z as st) (lv_room (by rw [cat_map]; exact hcat)) hA.1 hrm.2
  refine call_core hr hS (fun v κ' M' H' locs' hK hRel hS' => ?_) (hexc_out (Q := Q) (K := Kq X y is (pc + 3) lo st (nc + (rmOf z).cells) (ks + (rmOf z).slots) Q) hy hC (fun e κ M h => h) hrm.2.1 hrm.2.2)
  cases v with
  | none => exact hK hA.2 l p e s m args below meth c b Z D H' locs' ls hC hRel hS' hL
  | some v => exact hK hA.2 l p e s m args below meth c b Z D H' locs' ls hC hRel hS' hL
theorem g_callI (hk : MK z n) (hl : Cond.methodLink own idx z.1 ∈ tblG) (hi : Cond.instanceMethod z.1 ∈ tblG) (hin : z.1.name = "<init>") (hret : z.2.2.2.1 = none) (ho : y.1.cls = own) (hy : y.2.2.2.2.1 = none) (hrm : roomB y z nc ks)
    (hstk : stk = as.reverse ++ .ref r :: st) (hn : as.length = n) (hcat : (st.map Value.category).sum ≤ 8) (hz : Ct X z (.ref r :: as) κ M (Kq X y is (pc + 3) lo st (nc + (rmOf z).cells) (ks + (rmOf z).slots) Q)) : G X y ((.invokespecial idx, 3) :: is) pc lo stk nc ks κ M Q := by
  intro hA l p e s m args below meth c b Z D H locs ls hC hR hS hL
  subst ho
  subst hstk
  have hcb := hk.cb hC hl hrm
  rw [hret] at hcb
  have hr := vx_runI (As := as.map (tv b Z)) (rest := st.map (tv b Z)) (n := n) (b := ad b Z r) (g := F0 m pc ls ((as.reverse ++ .ref r :: st).map (tv b Z))) (cells := nc) (slots := ks) (locs := locs) (H := H) (p := p) (e := e) (below := below) (meth := meth) (c := c) (index := idx) (own := y.1.cls)
    ⟨hC.2.1, hC.2.2.1, hC.2.2.2.1, hC.own, hC.words⟩ (hz l hC.1 b Z D) ⟨hcb, hin, hC.word hi⟩
    ⟨zPc_blind _ _ _ _ _ _ _, fun U hU hW => zPc_call hC.wd hR hS hU hW⟩ rfl (by rw [List.length_map]; exact hn) hL.1 (map_rev b Z as (.ref r :: st)) (lv_room (by rw [cat_map]; exact hcat)) hA.1 hrm.2
  refine call_core hr hS (fun v κ' M' H' locs' hK hRel hS' => ?_) (hexc_out (Q := Q) (K := Kq X y is (pc + 3) lo st (nc + (rmOf z).cells) (ks + (rmOf z).slots) Q) hy hC (fun e κ M h => h) hrm.2.1 hrm.2.2)
  cases v with
  | none => exact hK hA.2 l p e s m args below meth c b Z D H' locs' ls hC hRel hS' hL
  | some v => exact hK hA.2 l p e s m args below meth c b Z D H' locs' ls hC hRel hS' hL
theorem MK.cn {p : Program} {l : Launch} {s : State} {m : MethodId} {args : Array Value} {meth : Method} {c : Code} {b Z : Nat} {D : va_G} {host : String} (hC : Cx X y l p s m args meth c b Z D) (hk : MK z n) (hl : (own, idx, z.1, host) ∈ nestW) (hrm : roomB y z nc ks) :
    va_CN (rmOf y) s args own idx z.1 host z.2.1 z.2.2.1 z.2.2.2.1 (wsOf z) (rmOf z) (rmOf z).cells (rmOf z).slots n :=
  va_cnB (ws' := tblG) n hC.words (good_wsOf hk.1) (by unfold wsOf; rw [cwOf_none hk.2.2.1]) rfl rfl (hC.wd.2.2.2.2.2.2.1 _ hl) (hC.word hk.2.1) hk.2.2.2 hrm.1
theorem g_callIN {host : String} (hk : MK z n) (hl : (own, idx, z.1, host) ∈ nestW) (hi : Cond.instanceMethod z.1 ∈ tblG) (hin : z.1.name = "<init>") (hret : z.2.2.2.1 = none) (ho : y.1.cls = own) (hy : y.2.2.2.2.1 = none) (hrm : roomB y z nc ks)
    (hstk : stk = as.reverse ++ .ref r :: st) (hn : as.length = n) (hcat : (st.map Value.category).sum ≤ 8) (hz : Ct X z (.ref r :: as) κ M (Kq X y is (pc + 3) lo st (nc + (rmOf z).cells) (ks + (rmOf z).slots) Q)) : G X y ((.invokespecial idx, 3) :: is) pc lo stk nc ks κ M Q := by
  intro hA l p e s m args below meth c b Z D H locs ls hC hR hS hL
  subst ho
  subst hstk
  have hcb := hk.cn hC hl hrm
  rw [hret] at hcb
  have hr := vx_runIN (As := as.map (tv b Z)) (rest := st.map (tv b Z)) (n := n) (b := ad b Z r) (g := F0 m pc ls ((as.reverse ++ .ref r :: st).map (tv b Z))) (cells := nc) (slots := ks) (locs := locs) (H := H) (p := p) (e := e) (below := below) (meth := meth) (c := c) (index := idx) (own := y.1.cls)
    ⟨hC.2.1, hC.2.2.1, hC.2.2.2.1, hC.own, hC.words⟩ (hz l hC.1 b Z D) ⟨hcb, hin, hC.word hi⟩
    ⟨zPc_blind _ _ _ _ _ _ _, fun U hU hW => zPc_call hC.wd hR hS hU hW⟩ rfl (by rw [List.length_map]; exact hn) hL.1 (map_rev b Z as (.ref r :: st)) (lv_room (by rw [cat_map]; exact hcat)) hA.1 hrm.2
  refine call_core hr hS (fun v κ' M' H' locs' hK hRel hS' => ?_) (hexc_out (Q := Q) (K := Kq X y is (pc + 3) lo st (nc + (rmOf z).cells) (ks + (rmOf z).slots) Q) hy hC (fun e κ M h => h) hrm.2.1 hrm.2.2)
  cases v with
  | none => exact hK hA.2 l p e s m args below meth c b Z D H' locs' ls hC hRel hS' hL
  | some v => exact hK hA.2 l p e s m args below meth c b Z D H' locs' ls hC hRel hS' hL
theorem g_callSN {host : String} (hk : MK z n) (hl : (own, idx, z.1, host) ∈ nestW) (hi : Cond.static z.1 ∈ tblG) (ho : y.1.cls = own) (hy : y.2.2.2.2.1 = none) (hrm : roomB y z nc ks)
    (hstk : stk = as.reverse ++ st) (hn : as.length = n) (hcat : (st.map Value.category).sum ≤ 8) (hz : Ct X z as κ M (Kq X y is (pc + 3) lo st (nc + (rmOf z).cells) (ks + (rmOf z).slots) Q)) : G X y ((.invokestatic idx, 3) :: is) pc lo stk nc ks κ M Q := by
  intro hA l p e s m args below meth c b Z D H locs ls hC hR hS hL
  subst ho
  subst hstk
  have hr := vx_runSN (As := as.map (tv b Z)) (rest := st.map (tv b Z)) (n := n) (g := F0 m pc ls ((as.reverse ++ st).map (tv b Z))) (cells := nc) (slots := ks) (locs := locs) (H := H) (p := p) (e := e) (below := below) (meth := meth) (c := c) (index := idx) (own := y.1.cls)
    ⟨hC.2.1, hC.2.2.1, hC.2.2.2.1, hC.own, hC.words⟩ (hz l hC.1 b Z D) ⟨hk.cn hC hl hrm, hC.word hi, trivial⟩
    ⟨zPc_blind _ _ _ _ _ _ _, fun U hU hW => zPc_call hC.wd hR hS hU hW⟩ rfl (by rw [List.length_map]; exact hn) hL.1 (map_rev b Z as st) (lv_room (by rw [cat_map]; exact hcat)) hA.1 hrm.2
  refine call_core hr hS (fun v κ' M' H' locs' hK hRel hS' => ?_) (hexc_out (Q := Q) (K := Kq X y is (pc + 3) lo st (nc + (rmOf z).cells) (ks + (rmOf z).slots) Q) hy hC (fun e κ M h => h) hrm.2.1 hrm.2.2)
  cases v with
  | none => exact hK hA.2 l p e s m args below meth c b Z D H' locs' ls hC hRel hS' hL
  | some v => exact hK hA.2 l p e s m args below meth c b Z D H' locs' ls hC hRel hS' hL
/-- Object.<init>() -/
theorem g_objI (hl : Cond.methodLink own idx Lib.objectInit ∈ tblG) (hi : Cond.instanceMethod Lib.objectInit ∈ tblG) (hc : Cond.code Lib.objectInit ⟨#[0xb1]⟩ 1 none ∈ tblG) (ho : y.1.cls = own) (hf : 1 ≤ (rmOf y).frames) (hlo : (st.map Value.category).sum + 12 ≤ (rmOf y).locals)
    (kk : G X y is (pc + 3) lo st nc ks κ M Q) : G X y ((.invokespecial idx, 3) :: is) pc lo (.ref r :: st) nc ks κ M Q := by
  intro hA l p e s m args below meth c b Z D H locs ls hC hR hS hL
  subst ho
  refine W.objInit (a := ad b Z r) (rest := st.map (tv b Z)) hC.2.1 hC.2.2.1 hC.own (hC.word hl) (hC.word hi) (hC.word hc) rfl (hL.1.trans hC.2.2.2.1.symm) rfl hA.1 hf ?_ (kk hA.2 l p e s m args below meth c b Z D H locs ls hC hR hS hL)
  rw [cat_map]
  show 2 * 0 + _ + 12 ≤ _
  omega
/-- the ends -/
theorem g_iret {v : Int32} (hr : y.2.2.2.1 = some .int) (h1 : nc ≤ (rmOf y).cells) (h2 : ks ≤ (rmOf y).slots) (hq : Q (.inl (some (.int v))) κ M) : G X y ((.ireturn, 1) :: is) pc lo [.int v] nc ks κ M Q := by
  intro hA l p e s m args below meth c b Z D H locs ls hC hR hS hL
  refine W.widen h1 h2 (vx_ret (W.iret hC.2.1 hC.2.2.1 (hC.2.2.2.2.1.trans hr) (fun t ht hW => ⟨⟨some (.int v), κ, M, rfl, hq, ?_⟩, hS.F ht⟩) hS.2.2 hA.1 hC.2.2.2.2.2.1))
  rw [ht]; exact hR.moved hW.alike
theorem g_zret {v : Int32} {ty : FieldType} (hr : y.2.2.2.1 = some ty) (hn : narrow ty (.int v) = .int v) (h1 : nc ≤ (rmOf y).cells) (h2 : ks ≤ (rmOf y).slots) (hq : Q (.inl (some (.int v))) κ M) : G X y ((.ireturn, 1) :: is) pc lo [.int v] nc ks κ M Q := by
  intro hA l p e s m args below meth c b Z D H locs ls hC hR hS hL
  refine W.widen h1 h2 (vx_ret (W.zret hC.2.1 hC.2.2.1 (hC.2.2.2.2.1.trans hr) hn (fun t ht hW => ⟨⟨some (.int v), κ, M, rfl, hq, ?_⟩, hS.F ht⟩) hS.2.2 hA.1 hC.2.2.2.2.2.1))
  rw [ht]; exact hR.moved hW.alike
theorem g_lret {v : Int64} (hr : y.2.2.2.1 = some .long) (h1 : nc ≤ (rmOf y).cells) (h2 : ks ≤ (rmOf y).slots) (hq : Q (.inl (some (.long v))) κ M) : G X y ((.lreturn, 1) :: is) pc lo [.long v] nc ks κ M Q := by
  intro hA l p e s m args below meth c b Z D H locs ls hC hR hS hL
  refine W.widen h1 h2 (vx_ret (W.lret hC.2.1 hC.2.2.1 (hC.2.2.2.2.1.trans hr) (fun t ht hW => ⟨⟨some (.long v), κ, M, rfl, hq, ?_⟩, hS.F ht⟩) hS.2.2 hA.1 hC.2.2.2.2.2.1))
  rw [ht]; exact hR.moved hW.alike
theorem g_vret (hr : y.2.2.2.1 = none) (h1 : nc ≤ (rmOf y).cells) (h2 : ks ≤ (rmOf y).slots) (hq : Q (.inl none) κ M) : G X y ((.return_, 1) :: is) pc lo [] nc ks κ M Q := by
  intro hA l p e s m args below meth c b Z D H locs ls hC hR hS hL
  refine W.widen h1 h2 (vx_ret (W.vret hC.2.1 hC.2.2.1 (hC.2.2.2.2.1.trans hr) (fun t ht hW => ⟨⟨none, κ, M, rfl, hq, ?_⟩, hS.F ht⟩) hS.2.2 hA.1 hC.2.2.2.2.2.1))
  rw [ht]; exact hR.moved hW.alike
end CALLROWS
/-- the start of a method -/
def loA : Nat → List Value → Lo
  | _, [] => []
  | i, v :: vs => (i, some v) :: loA (bif Nat.beq v.category 2 then i + 2 else i + 1) vs
theorem loA_in (b Z : Nat) : ∀ (vs : List Value) (k i : Nat) (v : Value), lg (loA k vs) i = some v → (i, tv b Z v) ∈ lv_args k (vs.map (tv b Z))
  | [], _, _, _, h => by cases h
  | w :: vs, k, i, v, h => by
    have h : lg ((k, some w) :: loA (bif Nat.beq w.category 2 then k + 2 else k + 1) vs) i = some v := h
    have he : (bif Nat.beq w.category 2 then k + 2 else k + 1) = (if (tv b Z w).category = 2 then k + 2 else k + 1) := by
      rw [tv_cat]
      rcases lv_cat w with e | e <;> rw [e] <;> rfl
    rw [he] at h
    show (i, tv b Z v) ∈ (k, tv b Z w) :: lv_args (if (tv b Z w).category = 2 then k + 2 else k + 1) (vs.map (tv b Z))
    rw [lg_cons] at h
    by_cases hk : k = i
    · rw [if_pos hk] at h
      cases h
      rw [hk]
      exact List.mem_cons_self
    · rw [if_neg hk] at h
      exact List.mem_cons_of_mem _ (loA_in b Z vs _ i v h)
theorem ct_body {X : Xs} {y : MI} {as : List Value} {κ : Kp} {M : Mem} {Q : Rs → Kp → Mem → Prop} {is : List (Instr × Nat)} (hsz : (as.map Value.category).sum ≤ y.2.2.1) (hA : CdAt y.2.1 0 is) (h : G X y is 0 (loA 0 as) [] 0 0 κ M Q)
    {p : Program} {l : Launch} {e : Env} {s : State} {m : MethodId} {args : Array Value} {below : List Frame} {meth : Method} {c : Code} {s₁ : State} {b Z : Nat} {D : va_G} (hl : l.stackTraces = false) (B : BodyLoose p l y.1 (headSpec (wsOf y) (rmOf y)) y.2.1 y.2.2.1 y.2.2.2.1 e s m args below meth c s₁) (hml : c.maxLocals = y.2.2.1) (ht : c.exceptionTable.toList = tableOf (y.2.2.2.2.1.getD [])) (hv : zPc X b Z D as κ M args s) :
    W p l e (rmOf y) s m args below meth c s.heap [] 0 0 (vx_MQ below (zQc b Z D Q) (zXC b Z D Q) args s (rmOf y).cells (rmOf y).slots (fun q => Z ≤ q)) (entryFrame m args y.2.2.1) := by
  obtain ⟨rfl, hwd, hR⟩ := hv
  have hin : meth.name = y.1.name := (name_of_methodNamed B.named B.method).1
  have hsl : (lg_sl (as.map (tv b Z))).length = (as.map Value.category).sum := by
    clear hwd hR hsz h B
    induction as with
    | nil => rfl
    | cons v vs ih =>
      have e1 : lg_sl ((v :: vs).map (tv b Z)) = (if (tv b Z v).category = 2 then [Slot.val (tv b Z v), .second] else [Slot.val (tv b Z v)]) ++ lg_sl (vs.map (tv b Z)) := rfl
      rw [e1, List.length_append, ih, tv_cat]
      rcases lv_cat v with e | e <;> simp [e]
  have hl0 := lv_entry (as.map (tv b Z)) (n := y.2.2.1) (by rw [hsl]; exact hsz)
  rw [lg_entry_eq]
  exact h hA l p e s m _ below meth c b Z D s.heap [] _ ⟨hl, B.exec, B.bytes, hml, B.returns, B.notSynchronized, hin, ht, findClass_of_methodNamed B.named, atoms_spec (ws := wsOf y) B.pre, hwd⟩ hR va_S.rf
    ⟨hl0.1, hl0.2.1, fun i v hg => hl0.2.2 (i, tv b Z v) (loA_in b Z as 0 i v hg)⟩
theorem ct_of {X : Xs} {y : MI} {as : List Value} {κ : Kp} {M : Mem} {Q : Rs → Kp → Mem → Prop} (is : List (Instr × Nat)) (hp : plainName y.1.cls = true) (hh : y.2.2.2.2.1 = none) (hsz : (as.map Value.category).sum ≤ y.2.2.1) (hA : CdAt y.2.1 0 is) (h : G X y is 0 (loA 0 as) [] 0 0 κ M Q) : Ct X y as κ M Q := by
  intro l hl b Z D
  refine vx_ofW (cc := y.2.1) (maxL := y.2.2.1) (ret := y.2.2.2.1) (ws' := tblG) hp (by unfold wsOf; rw [cwOf_none hh]) ?_
  intro p e s m args below meth c s₁ B hml ht hv
  refine ct_body hsz hA h hl B hml ?_ hv
  rw [hh]
  cases hc : c.exceptionTable.toList with
  | nil => rfl
  | cons a t => exact absurd (ht a (by rw [hc]; exact List.mem_cons_self)) (fun h => h)
theorem ct_ofH {X : Xs} {y : MI} {as : List Value} {κ : Kp} {M : Mem} {Q : Rs → Kp → Mem → Prop} {hh : List (Nat × Nat × Nat × Nat)} (is : List (Instr × Nat)) (hp : plainName y.1.cls = true) (hy : y.2.2.2.2.1 = some hh) (hsz : (as.map Value.category).sum ≤ y.2.2.1) (hA : CdAt y.2.1 0 is) (h : G X y is 0 (loA 0 as) [] 0 0 κ M Q) : Ct X y as κ M Q := by
  intro l hl b Z D
  refine vx_ofWH (cc := y.2.1) (maxL := y.2.2.1) (ret := y.2.2.2.1) (ws' := tblG) (hh := hh) hp (by unfold wsOf; rw [cwOf_some hy]) ?_
  intro p e s m args below meth c s₁ B hml hv
  refine ct_body hsz hA h hl B hml ?_ hv
  rw [hy]
  have hw : (cwOf y).before args s = true := atoms_spec (ws := wsOf y) B.pre _ List.mem_cons_self
  rw [cwOf_some hy] at hw
  exact vx_table (x := y.1) B hw
theorem Ct.mono {X : Xs} {y : MI} {as : List Value} {κ : Kp} {M : Mem} {Q Q' : Rs → Kp → Mem → Prop} (h : Ct X y as κ M Q) (hQ : ∀ o κ M, Q o κ M → Q' o κ M) : Ct X y as κ M Q' := by
  intro l hl b Z D
  refine MetFree.mono (h l hl b Z D) (fun _ _ hp => hp) (fun _ _ _ _ _ hk => hk) (fun a st o t _ hq => ?_)
  rcases hq with ⟨⟨⟨r, κ', M', h1, h2, h3⟩, hF⟩, hL⟩ | ⟨q, ho, E, ce, L, ⟨⟨ex, κ', M', hE, h2, h3⟩, hF⟩, hrest⟩
  · exact Or.inl ⟨⟨⟨r, κ', M', h1, hQ _ _ _ h2, h3⟩, hF⟩, hL⟩
  · exact Or.inr ⟨q, ho, E, ce, L, ⟨⟨ex, κ', M', hE, hQ _ _ _ h2, h3⟩, hF⟩, hrest⟩
/-- a throw: 'throw new E("..")' -/
theorem Rel.grow {b Z : Nat} {D : va_G} {κ : Kp} {M : Mem} {U : State} {H H' : Heap} (hR : Rel b Z D κ M U H) (hz : H.size ≤ H'.size) (hq : ∀ q : Nat, q < H.size → H'[q]? = H[q]?) : Rel b Z D (κ.1, κ.2.1, false) M U H' := by
  refine ⟨fun r sh hs => ⟨(hR.1 r sh hs).1, (hR.1 r sh hs).2.kept (hq _ ?_) (fun _ => rfl)⟩, Nat.le_trans hR.2.1 hz, fun h => by cases h⟩
  obtain ⟨h1, h2⟩ := (hR.1 r sh hs).1
  have h3 := hR.2.1
  cases r with
  | zero => omega
  | succ a => show Z + a < H.size; omega
def thrN : List String := ["java/lang/RuntimeException", "java/lang/Exception"]
def TH (own : String) (ik ic e : Nat) : Prop := Cond.classLink own ik (exN e) ∈ tblG ∧ Cond.initialized (exN e) ∈ tblG ∧ (∀ w ∈ (vx_atS own ic (exN e) thrN).filter goodWord, w ∈ tblG) ∧
  (∀ w ∈ (vx_atS own ic (exN e) thrN).filter (fun w => !goodWord w), w ∈ Cond.castable (exN e) (exN e) :: declW.map Cond.declares) ∧ (∀ w ∈ Cond.classLink own ik (exN e) :: Cond.initialized (exN e) :: vx_atS own ic (exN e) thrN, vx_ot w = true) ∧ exN e ∈ castW ∧ Bundle.fit (exN e) = true
theorem thrN_fit : ∀ n ∈ thrN, Bundle.fit n = true := by decide +kernel
section THROWS
variable {X : Xs} {y : MI} {is : List (Instr × Nat)} {pc : Nat} {lo : Lo} {st : List Value} {nc ks : Nat} {κ : Kp} {M : Mem} {Q : Rs → Kp → Mem → Prop}
theorem g_throw {own text : String} {ik ic isx e : Nat} (hth : TH own ik ic e) (htx : (own, isx, text) ∈ strW) (ho : y.1.cls = own) (hy : y.2.2.2.2.1 = none) (hf : 5 < (rmOf y).frames) (hlo : (st.map Value.category).sum + 82 ≤ (rmOf y).locals) (h1 : nc + 1 ≤ (rmOf y).cells) (h2 : ks + 6 ≤ (rmOf y).slots)
    (hq : Q (.inr e) (κ.1, κ.2.1, false) M) : G X y ((.new ik, 3) :: (.dup, 1) :: (.ldc isx, 2) :: (.invokespecial ic, 3) :: (.athrow, 1) :: is) pc lo st nc ks κ M Q := by
  intro hA l p e' s m args below meth c b Z D H locs ls hC hR hS hL
  subst ho
  obtain ⟨t1, t2, t3, t4, t5, t6, t7⟩ := hth
  obtain ⟨-, -, -, hZs, hU, hN, hnw⟩ := hC.wd
  obtain ⟨sa, hstr⟩ := hnw.2.2.2.1 _ htx
  have hB : ∀ w ∈ Cond.castable (exN e) (exN e) :: declW.map Cond.declares, w.before args s = true := by
    intro w hw
    rcases List.mem_cons.mp hw with hw | hw
    · rw [hw]; exact va_Nw.use rfl (hnw.2.2.2.2.1 _ t6)
    · obtain ⟨q, hq1, rfl⟩ := List.mem_map.mp hw
      exact va_Nw.use rfl (hnw.2.2.2.2.2 _ hq1)
  have hat : ∀ w ∈ vx_atS y.1.cls ic (exN e) thrN, w.before args s = true := vx_hat (fun w hw => hC.word (t3 w hw)) t4 hB
  have hout : ∀ x ∈ c.exceptionTable.toList, covers x (pc + 9) = false := by
    intro x hx
    rw [hC.2.2.2.2.2.2.2.1, hy] at hx
    cases hx
  refine vx_throwS (names := thrN) (A := fun q => Z ≤ q) hC.2.1 hC.2.2.1 hC.1 hC.own t7 thrN_fit (hC.word t1) (hC.word t2) hstr hat t5 hU hN hS (hL.1.trans hC.2.2.2.1.symm) hA.1 hA.2.1 hA.2.2.1 hA.2.2.2.1 hA.2.2.2.2.1 hout hf ?_ h1 h2 hC.2.2.2.2.2.1 ?_ hS.2.2 h1 h2
  · rw [cat_map]; exact hlo
  · intro t hal hz hk
    exact ⟨⟨e, _, M, rfl, hq, (hR.moved hal).grow hz hk⟩, ⟨Nat.le_trans hS.1 hz, fun q h3 h4 => (hk q (Nat.lt_of_lt_of_le h3 hS.1)).trans (hS.2.1 q h3 h4)⟩⟩
theorem g_throwW {own text : String} {ik ic isx e : Nat} (hth : TH own ik ic e) (htx : (own, isx, text) ∈ strW) (ho : y.1.cls = own) (hy : y.2.2.2.2.1 = none) (hf : 5 < (rmOf y).frames) (hlo : (st.map Value.category).sum + 82 ≤ (rmOf y).locals) (h1 : nc + 1 ≤ (rmOf y).cells) (h2 : ks + 6 ≤ (rmOf y).slots)
    (hq : Q (.inr e) (κ.1, κ.2.1, false) M) : G X y ((.new ik, 3) :: (.dup, 1) :: (.ldc_w isx, 3) :: (.invokespecial ic, 3) :: (.athrow, 1) :: is) pc lo st nc ks κ M Q := by
  intro hA l p e' s m args below meth c b Z D H locs ls hC hR hS hL
  subst ho
  obtain ⟨t1, t2, t3, t4, t5, t6, t7⟩ := hth
  obtain ⟨-, -, -, hZs, hU, hN, hnw⟩ := hC.wd
  obtain ⟨sa, hstr⟩ := hnw.2.2.2.1 _ htx
  have hB : ∀ w ∈ Cond.castable (exN e) (exN e) :: declW.map Cond.declares, w.before args s = true := by
    intro w hw
    rcases List.mem_cons.mp hw with hw | hw
    · rw [hw]; exact va_Nw.use rfl (hnw.2.2.2.2.1 _ t6)
    · obtain ⟨q, hq1, rfl⟩ := List.mem_map.mp hw
      exact va_Nw.use rfl (hnw.2.2.2.2.2 _ hq1)
  have hat : ∀ w ∈ vx_atS y.1.cls ic (exN e) thrN, w.before args s = true := vx_hat (fun w hw => hC.word (t3 w hw)) t4 hB
  have hout : ∀ x ∈ c.exceptionTable.toList, covers x (pc + 10) = false := by
    intro x hx
    rw [hC.2.2.2.2.2.2.2.1, hy] at hx
    cases hx
  refine vx_throwSW (names := thrN) (A := fun q => Z ≤ q) hC.2.1 hC.2.2.1 hC.1 hC.own t7 thrN_fit (hC.word t1) (hC.word t2) hstr hat t5 hU hN hS (hL.1.trans hC.2.2.2.1.symm) hA.1 hA.2.1 hA.2.2.1 hA.2.2.2.1 hA.2.2.2.2.1 hout hf ?_ h1 h2 hC.2.2.2.2.2.1 ?_ hS.2.2 h1 h2
  · rw [cat_map]; exact hlo
  · intro t hal hz hk
    exact ⟨⟨e, _, M, rfl, hq, (hR.moved hal).grow hz hk⟩, ⟨Nat.le_trans hS.1 hz, fun q h3 h4 => (hk q (Nat.lt_of_lt_of_le h3 hS.1)).trans (hS.2.1 q h3 h4)⟩⟩
/-- a handler of the law's methods: 'catch (E e) { return j; }' -/
def Hdl (y : MI) (hh : List (Nat × Nat × Nat × Nat)) (pc e : Nat) (j : Int32) : Prop := ∃ (pre : List (Nat × Nat × Nat × Nat)) (x : Nat × Nat × Nat × Nat) (suf : List (Nat × Nat × Nat × Nat)) (ia : Instr × Nat) (i : Int) (a : Nat), hh = pre ++ x :: suf ∧
  (∀ z ∈ pre, z.2.2.2 ≠ 0 ∧ ∃ nm : String, Cond.classLink y.1.cls z.2.2.2 nm ∈ tblG ∧ (exN e, nm) ∈ ncW) ∧ covers ⟨x.1, x.2.1, x.2.2.1, x.2.2.2⟩ pc = true ∧ x.2.2.2 ≠ 0 ∧ Cond.classLink y.1.cls x.2.2.2 (exN e) ∈ tblG ∧ exN e ∈ castW ∧
  (ia = (.astore a, 2) ∨ ∃ f : Fin 4, (f : Nat) = a ∧ ia = (.astore_n f, 1)) ∧ a < y.2.2.1 ∧ Int32.ofInt i = j ∧ CdAt y.2.1 x.2.2.1 [ia, (.iconst i, 1), (.ireturn, 1)]
theorem g_callVh {own : String} {idx n r ci N : Nat} {cs : List Nat} {z : MI} {as stk : List Value} {hh : List (Nat × Nat × Nat × Nat)} (hk : MK z n) (hl : Cond.methodLink own idx z.1 ∈ tblG) (hi : Cond.instanceMethod z.1 ∈ tblG) (hv : Cond.selects z.1.cls z.1 z.1 ∈ tblG) (ho : y.1.cls = own) (hy : y.2.2.2.2.1 = some hh) (hret : y.2.2.2.1 = some .int) (hrm : roomB y z nc ks) (hs : κ.2.1 r = some (ci, N, cs)) (hci : (vwCl[ci]?).map (fun q => q.1) = some z.1.cls)
    (hstk : stk = as.reverse ++ .ref r :: st) (hn : as.length = n) (hcat : (st.map Value.category).sum ≤ 8)
    (hz : Ct X z (.ref r :: as) κ M (fun o κ' M' => match o with
      | .inl (some v) => G X y is (pc + 3) lo (v :: st) (nc + (rmOf z).cells) (ks + (rmOf z).slots) κ' M' Q
      | .inl none => G X y is (pc + 3) lo st (nc + (rmOf z).cells) (ks + (rmOf z).slots) κ' M' Q
      | .inr e => ∃ j : Int32, Hdl y hh pc e j ∧ Q (.inl (some (.int j))) κ' M')) : G X y ((.invokevirtual idx, 3) :: is) pc lo stk nc ks κ M Q := by
  intro hA l p e s m args below meth c b Z D H locs ls hC hR hS hL
  subst ho
  subst hstk
  obtain ⟨q, hq, hqn⟩ := Option.map_eq_some_iff.mp hci
  obtain ⟨hN, hlen, cell, q1, q2, q3, q4⟩ := cell_obj hR hs hq
  have hfc : s.vm.findClass z.1.cls = some cell.cls := by rw [q2, ← hqn]; exact (hC.wd.1.1 ci _ hq).2.1
  have hr := vx_runV (C := z.1.cls) (As := as.map (tv b Z)) (rest := st.map (tv b Z)) (n := n) (b := ad b Z r) (g := F0 m pc ls ((as.reverse ++ .ref r :: st).map (tv b Z))) (cells := nc) (slots := ks) (locs := locs) (H := H) (p := p) (e := e) (below := below) (meth := meth) (c := c) (index := idx) (own := y.1.cls)
    ⟨hC.2.1, hC.2.2.1, hC.2.2.2.1, hC.own, hC.words⟩ (hz l hC.1 b Z D) ⟨hk.cb hC hl hrm, hC.word hi, hC.word hv⟩
    ⟨zPc_blind _ _ _ _ _ _ _, ⟨cell, q1, by rw [q3]; rfl, hfc⟩, fun U hU hW => zPc_call hC.wd hR hS hU hW⟩ rfl (by rw [List.length_map]; exact hn) hL.1 (map_rev b Z as (.ref r :: st)) (lv_room (by rw [cat_map]; exact hcat)) hA.1 hrm.2
  refine call_core hr hS (fun v κ' M' H' locs' hK hRel hS' => ?_) (fun ex κ' M' H' locs' qa ce hK hRel hS' hce hcv hcl => ?_)
  · cases v with
    | none => exact hK hA.2 l p e s m args below meth c b Z D H' locs' ls hC hRel hS' hL
    | some v => exact hK hA.2 l p e s m args below meth c b Z D H' locs' ls hC hRel hS' hL
  · obtain ⟨j, ⟨pre, x, suf, ia, i, a, e1, e2, e3, e4, e5, e6, e7, e8, e9, e10⟩, hQ⟩ := hK
    obtain ⟨-, -, -, -, -, -, hnw⟩ := hC.wd
    have htab : c.exceptionTable.toList = tableOf hh := by rw [hC.2.2.2.2.2.2.2.1, hy]; rfl
    refine vx_catch (own := y.1.cls) (name := exN ex) (E := exN ex) hC.own (tableOf pre) ⟨x.1, x.2.1, x.2.2.1, x.2.2.2⟩ (tableOf suf) ?_ ?_ e3 e4 (hC.word e5) (va_Nw.use rfl (hnw.2.2.2.2.1 _ e6)) hce hcv hcl ?_
    · rw [htab, e1]; simp [tableOf]
    · intro z hz
      obtain ⟨w, hw, rfl⟩ := List.mem_map.mp hz
      obtain ⟨h1, nm, h2, h3⟩ := e2 w hw
      exact Or.inr ⟨h1, nm, hC.word h2, hnw.2.2.1 _ h3⟩
    · obtain ⟨d1, d2, d3, -⟩ := e10
      have fin : ∀ ls' : Array Slot, W p l e (rmOf y) s m args below meth c H' locs' (nc + (rmOf z).cells) (ks + (rmOf z).slots) (vx_MQ below (zQc b Z D Q) (zXC b Z D Q) args s (rmOf y).cells (rmOf y).slots (fun q => Z ≤ q)) (F0 m (x.2.2.1 + ia.2) ls' []) := by
        intro ls'
        refine lv_iconst (v := j) hC.2.1 hC.2.2.1 d2 e9 ?_
        refine W.widen hrm.2.1 hrm.2.2 (vx_ret (W.iret hC.2.1 hC.2.2.1 (hC.2.2.2.2.1.trans hret) (fun t ht hW => ⟨⟨some (.int j), κ', M', rfl, hQ, ?_⟩, hS'.F ht⟩) hS'.2.2 d3 hC.2.2.2.2.2.1))
        rw [ht]; exact hRel.moved hW.alike
      have hls : lv_has ls y.2.2.1 [] := ⟨hL.1, hL.2.1, fun q hq => by cases hq⟩
      rcases e7 with rfl | ⟨f, hf, rfl⟩
      · exact lv_astore (lv := []) hC.2.1 hC.2.2.1 d1 hls e8 rfl (fun ls' _ => fin ls')
      · subst hf
        exact lv_astore_n (lv := []) hC.2.1 hC.2.2.1 d1 rfl hls e8 rfl (fun ls' _ => fin ls')
end THROWS
end
section
def zM (M : Mem) (r : Nat) : Mem := fun r' j => if r' = r then 0 else M r' j
theorem zM_s (M : Mem) (r j : Nat) : zM M r r j = 0 := if_pos rfl
theorem zM_o (M : Mem) (r : Nat) {r' : Nat} (h : r' ≠ r) (j : Nat) : zM M r r' j = M r' j := if_neg h
def NWK (own : String) (idx ci N : Nat) (ds : List Nat) : Prop := ∃ q : vw_C, vwCl[ci]? = some q ∧ q.2.2 = N ∧ ds.length = N ∧ Cond.classLink own idx q.1 ∈ tblG ∧ Cond.instantiable q.1 q.2.2 ∈ tblG ∧ Cond.initialized q.1 ∈ tblG ∧ (∀ w ∈ u_ws q.1 q.2.1 q.2.2, w ∈ tblG) ∧
  ∃ ty0 : Nat → FieldType, (∀ k, k < q.2.2 → parseFieldDescriptor (q.2.1 k).2.2.1 = some (ty0 k)) ∧ (∀ k, k < q.2.2 → (ds.getD k 0 = 0 ∧ defaultValue (ty0 k) = .int 0) ∨ (ds.getD k 0 = 1 ∧ defaultValue (ty0 k) = .null))
section MAKES
variable {X : Xs} {y : MI} {is : List (Instr × Nat)} {pc : Nat} {lo : Lo} {st : List Value} {nc ks : Nat} {κ : Kp} {M : Mem} {Q : Rs → Kp → Mem → Prop}
theorem Rel.push {b Z : Nat} {D : va_G} {U : State} {H H' : Heap} {sh : Sh} (hR : Rel b Z D κ M U H) (hf : κ.2.2 = true) (hz : H'.size = H.size + 1) (ho : ∀ q, q < H.size → H'[q]? = H[q]?) (hc : cellOK b Z D (zM M (κ.1 + 1)) U H' (κ.1 + 1) sh) : Rel b Z D (κ.1 + 1, upS κ.2.1 (κ.1 + 1) sh, true) (zM M (κ.1 + 1)) U H' := by
  have he := hR.2.2 hf
  refine ⟨fun r2 sh2 hs => ?_, by show Z + (κ.1 + 1) ≤ _; omega, fun _ => by show Z + (κ.1 + 1) = _; omega⟩
  by_cases h : r2 = κ.1 + 1
  · subst h
    have hs : upS κ.2.1 (κ.1 + 1) sh (κ.1 + 1) = some sh2 := hs
    rw [upS_s] at hs
    cases hs
    exact ⟨⟨by omega, Nat.le_refl _⟩, hc⟩
  · have hs : upS κ.2.1 (κ.1 + 1) sh r2 = some sh2 := hs
    rw [upS_o _ _ _ h] at hs
    obtain ⟨⟨h1, h2⟩, h3⟩ := hR.1 r2 sh2 hs
    refine ⟨⟨h1, Nat.le_succ_of_le h2⟩, h3.kept (ho _ ?_) (fun j => zM_o M _ h j)⟩
    cases r2 with
    | zero => omega
    | succ a => show Z + a < H.size; omega
theorem ad_new {b Z : Nat} {D : va_G} {U : State} {H : Heap} (hR : Rel b Z D κ M U H) (hf : κ.2.2 = true) : ad b Z (κ.1 + 1) = H.size := hR.2.2 hf
theorem g_new {own : String} {idx ci N : Nat} {ds : List Nat} (hk : NWK own idx ci N ds) (ho : y.1.cls = own) (hf : κ.2.2 = true) (h1 : nc + 1 ≤ (rmOf y).cells) (h2 : ks + N ≤ (rmOf y).slots)
    (kk : G X y is (pc + 3) lo (.ref (κ.1 + 1) :: st) (nc + 1) (ks + N) (κ.1 + 1, upS κ.2.1 (κ.1 + 1) (ci, N, ds), true) (zM M (κ.1 + 1)) Q) : G X y ((.new idx, 3) :: is) pc lo st nc ks κ M Q := by
  intro hA l p e s m args below meth c b Z D H locs ls hC hR hS hL
  subst ho
  obtain ⟨q, hq, hN, hlen, k1, k2, k3, k4, ty0, k5, k6⟩ := hk
  subst hN
  have hKn := hC.wd.1.1 ci _ hq
  refine W.newcK hC.2.1 hC.2.2.1 hC.own (hC.word k1) (hC.word k2) (hC.word k3) rfl hA.1 h1 h2 hKn.2.1 (ad_new hR hf).symm fun H1 kC hkC e1 z1 o1 => ?_
  rw [ad_new hR hf] at z1 o1
  have hci : ci < 16 := Nat.lt_of_lt_of_le (List.getElem?_eq_some_iff.mp hq).1 (by decide)
  refine kk hA.2 l p e s m args below meth c b Z D H1 locs ls hC (hR.push hf z1 o1 ?_) ⟨Nat.le_trans hS.1 (by omega), fun x g1 g2 => (o1 x (Nat.lt_of_lt_of_le g1 hS.1)).trans (hS.2.1 x g1 g2), hS.2.2⟩ hL
  unfold cellOK
  rw [if_pos hci]
  refine ⟨q, hq, rfl, hlen, (u_born ty0 hC.words (fun w h => List.mem_cons_of_mem _ (k4 w h)) hKn hkC e1 k5).to fun k hk => ?_⟩
  unfold fv
  rcases k6 k hk with ⟨g1, g2⟩ | ⟨g1, g2⟩
  · rw [g1, g2, zM_s]
  · rw [g1, g2]
theorem g_newarray {at_ : ArrayType} {tag N : Nat} {i : Int32} (hw : Cond.arrayClass (newarray.typeOf at_) ∈ tblG) (htag : 16 ≤ tag ∧ tag < 20) (hty : aty tag = newarray.typeOf at_) (hi : i = nI N) (hN : N < 1000000) (hf : κ.2.2 = true) (h1 : nc + 1 ≤ (rmOf y).cells) (h2 : ks + N ≤ (rmOf y).slots)
    (kk : G X y is (pc + 2) lo (.ref (κ.1 + 1) :: st) (nc + 1) (ks + N) (κ.1 + 1, upS κ.2.1 (κ.1 + 1) (tag, N, []), true) (zM M (κ.1 + 1)) Q) : G X y ((.newarray at_, 2) :: is) pc lo (.int i :: st) nc ks κ M Q := by
  intro hA l p e s m args below meth c b Z D H locs ls hC hR hS hL
  subst hi
  have hN2 : N < 2147483648 := Nat.lt_trans hN (by decide)
  have hb8 : componentBytes (newarray.typeOf at_) ≤ 8 := by cases at_ <;> decide
  have hbytes : N * componentBytes (newarray.typeOf at_) ≤ 536870912 := Nat.le_trans (Nat.mul_le_mul (Nat.le_of_lt hN) hb8) (by decide)
  refine va_newaK hC.2.1 hC.2.2.1 (hC.word hw) rfl hA.1 rfl (nI_pos hN2) (nI_clamp hN2) hbytes h1 h2 (ad_new hR hf).symm fun H1 cA e1 z1 o1 hAr hNm => ?_
  rw [ad_new hR hf] at z1 o1
  refine kk hA.2 l p e s m args below meth c b Z D H1 locs ls hC (hR.push hf z1 o1 ?_) ⟨Nat.le_trans hS.1 (by omega), fun x g1 g2 => (o1 x (Nat.lt_of_lt_of_le g1 hS.1)).trans (hS.2.1 x g1 g2), hS.2.2⟩ hL
  unfold cellOK
  rw [if_neg (by show ¬ tag < 16; omega)]
  refine ⟨cA, ?_, by show ArrOfT s cA (aty tag); rw [hty]; exact hAr, by show va_RA s cA (aty tag); rw [hty]; cases at_ <;> exact hNm⟩
  rw [e1]
  congr 2
  funext j
  have htg : tag = 16 ∨ tag = 17 ∨ tag = 18 ∨ tag = 19 := by omega
  have hd : defaultValue (newarray.typeOf at_) = if tag = 19 then .long 0 else .int 0 := by
    rw [← hty]
    rcases htg with rfl | rfl | rfl | rfl <;> rfl
  rw [hd]
  unfold aev
  rw [zM_s]
  rcases htg with rfl | rfl | rfl | rfl <;> rfl
def AWK (own : String) (idx ci : Nat) : Prop := Cond.classLink own idx (clN ci) ∈ tblG ∧ clN ci ∈ overW
theorem g_anewarray {own : String} {idx ci N : Nat} {i : Int32} (hk : AWK own idx ci) (ho : y.1.cls = own) (hi : i = nI N) (hN : N < 1000000) (hf : κ.2.2 = true) (h1 : nc + 1 ≤ (rmOf y).cells) (h2 : ks + N ≤ (rmOf y).slots)
    (kk : G X y is (pc + 3) lo (.ref (κ.1 + 1) :: st) (nc + 1) (ks + N) (κ.1 + 1, upS κ.2.1 (κ.1 + 1) (20 + ci, N, List.replicate N 1), true) (zM M (κ.1 + 1)) Q) : G X y ((.anewarray idx, 3) :: is) pc lo (.int i :: st) nc ks κ M Q := by
  intro hA l p e s m args below meth c b Z D H locs ls hC hR hS hL
  subst ho
  subst hi
  have hN2 : N < 2147483648 := Nat.lt_trans hN (by decide)
  obtain ⟨-, -, -, -, -, -, hnw⟩ := hC.wd
  refine W.anew hC.2.1 hC.2.2.1 hC.own (hC.word hk.1) (va_AO.use (hnw.2.1 _ hk.2)) rfl hA.1 rfl (nI_pos hN2) (by rw [nI_clamp hN2]; omega) h1 (by rw [nI_clamp hN2]; exact h2) fun cA kA comp g1 g2 g3 g4 => ?_
  rw [nI_clamp hN2]
  have he : H.size = ad b Z (κ.1 + 1) := (ad_new hR hf).symm
  have o1 : ∀ (x : Cell) (q : Nat), q < H.size → (H.push x)[q]? = H[q]? := fun x q hq => by rw [Array.getElem?_push, if_neg (Nat.ne_of_lt hq)]
  rw [he]
  refine kk hA.2 l p e s m args below meth c b Z D _ locs ls hC (hR.push hf (by simp) (o1 _) ?_) ⟨Nat.le_trans hS.1 (by simp), fun x k1 k2 => (o1 _ x (Nat.lt_of_lt_of_le k1 hS.1)).trans (hS.2.1 x k1 k2), hS.2.2⟩ hL
  have hty : aty (20 + ci) = .object (clN ci) := by simp [aty, show ¬ 20 + ci = 16 by omega, show ¬ 20 + ci = 17 by omega, show ¬ 20 + ci = 18 by omega, show ¬ 20 + ci = 19 by omega]
  unfold cellOK
  rw [if_neg (by show ¬ 20 + ci < 16; omega)]
  refine ⟨cA, ?_, ?_, ?_⟩
  · rw [← he, arrV_new]
    simp only [Array.getElem?_push_size, Option.some.injEq]
    have : ∀ j, j < N → aev b Z (zM M (κ.1 + 1)) (κ.1 + 1) (20 + ci) (List.replicate N 1) j = .null := fun j hj => by
      unfold aev
      rw [if_neg (by omega), if_neg (by omega)]
      unfold fv
      simp [hj]
    unfold arrV
    congr 1
    apply Array.ext
    · simp
    · intro j hj1 hj2
      simp at hj1
      simp [this j hj1]
  · show ArrOfT s cA (aty (20 + ci))
    rw [hty]
    exact fun n z => ⟨fun k h => (by cases h), kA, g2, comp, g3⟩
  · show va_RA s cA (aty (20 + ci))
    rw [hty]
    exact ⟨kA, comp, g2, g3, g4, g1⟩
theorem g_aastore {r v N N2 ci j : Nat} {cs ds : List Nat} {i : Int32} (hs : κ.2.1 r = some (20 + ci, N, cs)) (hv : κ.2.1 v = some (ci, N2, ds)) (hci : ci < 9) (hcl : cs.length = N) (hi : i = nI j) (hj : j < N) (hN : N < 2147483648)
    (kk : G X y is (pc + 1) lo st nc ks (κ.1, upS κ.2.1 r (20 + ci, N, cs.set j (v + 2)), κ.2.2) M Q) : G X y ((.aastore, 1) :: is) pc lo (.ref v :: .int i :: .ref r :: st) nc ks κ M Q := by
  intro hA l p e s m args below meth c b Z D H locs ls hC hR hS hL
  have hty : aty (20 + ci) = .object (clN ci) := by simp [aty, show ¬ 20 + ci = 16 by omega, show ¬ 20 + ci = 17 by omega, show ¬ 20 + ci = 18 by omega, show ¬ 20 + ci = 19 by omega]
  obtain ⟨cA, h1, h2, h3⟩ := cell_arr hR hs (by omega)
  obtain ⟨hin, hcn⟩ := ix_in hi hj hN
  have hr := (hR.1 r _ hs).1
  have h2' := h2
  have h3' := h3
  rw [hty] at h3
  obtain ⟨kA, comp, g1, g2, g3, g4⟩ := h3
  obtain ⟨q, hq⟩ : ∃ q, vwCl[ci]? = some q := by
    have : ci < vwCl.length := hci
    exact ⟨_, List.getElem?_eq_getElem this⟩
  obtain ⟨hNq, hlen, cell, q1, q2, q3, q4⟩ := cell_obj hR hv hq
  have hKn := hC.wd.1.1 ci _ hq
  have hcln : clN ci = q.1 := by unfold clN; rw [hq]
  have hcomp : comp = D.1 ci := by
    rw [hcln] at g3
    exact Option.some.inj (g3.symm.trans hKn.2.1)
  obtain ⟨-, kq, hkq, hkind⟩ := hKn.2
  refine W.aast (k := kA) (kv := kq) (kcomp := kq) (comp := comp) (t := .object (clN ci)) hC.2.1 hC.2.2.1 h1 (fun q h => by cases h) (fun h => by cases h) g1 g2 rfl (by rw [hcomp]; exact hkq) ⟨fun h => hin (Or.inl h), by rw [hcn, arrV_size]; exact hj⟩ q1 (fun z h => by rw [q3] at h; cases h) (by rw [q2]; exact hkq) (by rw [q2, hcomp]; exact va_assign hKn.2) rfl rfl hA.1 fun H1 e1 e2 e3 => ?_
  refine kk hA.2 l p e s m args below meth c b Z D H1 _ ls hC (hR.put hr e2 e3 rfl rfl (fun _ h => upS_o _ _ _ h) (upS_s _ _ _) ?_ (fun _ _ _ => rfl)) (hS.put e2 e3 (ad_ge hr.1)) hL
  unfold cellOK
  rw [if_neg (by show ¬ 20 + ci < 16; omega)]
  refine ⟨cA, ?_, h2', h3'⟩
  rw [e1, hcn, arrV_store]
  congr 2
  funext a
  show updV (aev b Z M r (20 + ci) cs) j (.ref (ad b Z v)) a = aev b Z M r (20 + ci) (cs.set j (v + 2)) a
  have hjl : j < cs.length := by rw [hcl]; exact hj
  unfold aev
  by_cases ha : a = j
  · subst ha
    simp only [updV, if_pos]
    rw [if_neg (by omega), if_neg (by omega)]
    unfold fv
    simp [hjl]
  · simp only [updV, if_neg ha]
    rw [if_neg (by omega), if_neg (by omega), if_neg (by omega), if_neg (by omega)]
    unfold fv
    simp [List.getElem?_set_ne (Ne.symm ha)]
end MAKES
end
section
theorem i_vc : Claimed_1_1 ∧ Claimed_1_2 := sorry
end
