section
-- ===== PART A: goes FIRST, ahead of the names: the tables' words, and 'selects' of the private methods out of them =====
/-- a private method of a class that the tables say can be made, by its rows of tables_1 -/
def lw_okq (q : MethodName × Nat) : Prop := (q.1.cls ≠ "java/lang/invoke/MethodHandle" ∧ q.1.cls ≠ "java/lang/invoke/VarHandle") ∧ Cond.instantiable q.1.cls q.2 ∈ tables_1 ∧ Cond.privateMethod q.1 ∈ tables_1 ∧ Cond.instanceMethod q.1 ∈ tables_1
theorem lw_p0 : lw_okq (⟨"FeeDocket", "save", "()V"⟩, 4) := ⟨⟨by decide +kernel, by decide +kernel⟩, List.mem_of_getElem? (i := 19) (by decide +kernel), List.mem_of_getElem? (i := 202) (by decide +kernel), List.mem_of_getElem? (i := 203) (by decide +kernel)⟩
theorem lw_p1 : lw_okq (⟨"FeeDocket", "dropOldest", "()V"⟩, 4) := ⟨⟨by decide +kernel, by decide +kernel⟩, List.mem_of_getElem? (i := 19) (by decide +kernel), List.mem_of_getElem? (i := 206) (by decide +kernel), List.mem_of_getElem? (i := 207) (by decide +kernel)⟩
theorem lw_p2 : lw_okq (⟨"FeeDocket$Text", "readRight", "()V"⟩, 7) := ⟨⟨by decide +kernel, by decide +kernel⟩, List.mem_of_getElem? (i := 151) (by decide +kernel), List.mem_of_getElem? (i := 303) (by decide +kernel), List.mem_of_getElem? (i := 304) (by decide +kernel)⟩
theorem lw_p3 : lw_okq (⟨"FeeDocket$Text", "readNumber", "(II)I"⟩, 7) := ⟨⟨by decide +kernel, by decide +kernel⟩, List.mem_of_getElem? (i := 151) (by decide +kernel), List.mem_of_getElem? (i := 307) (by decide +kernel), List.mem_of_getElem? (i := 308) (by decide +kernel)⟩
theorem lw_p4 : lw_okq (⟨"FeeDocket$Text", "isDigit", "(I)Z"⟩, 7) := ⟨⟨by decide +kernel, by decide +kernel⟩, List.mem_of_getElem? (i := 151) (by decide +kernel), List.mem_of_getElem? (i := 311) (by decide +kernel), List.mem_of_getElem? (i := 312) (by decide +kernel)⟩
theorem lw_p5 : lw_okq (⟨"FeeDocket$Text", "signAt", "(I)I"⟩, 7) := ⟨⟨by decide +kernel, by decide +kernel⟩, List.mem_of_getElem? (i := 151) (by decide +kernel), List.mem_of_getElem? (i := 315) (by decide +kernel), List.mem_of_getElem? (i := 316) (by decide +kernel)⟩
theorem lw_p6 : lw_okq (⟨"FeeDocket$Text", "readSign", "(C)V"⟩, 7) := ⟨⟨by decide +kernel, by decide +kernel⟩, List.mem_of_getElem? (i := 151) (by decide +kernel), List.mem_of_getElem? (i := 319) (by decide +kernel), List.mem_of_getElem? (i := 320) (by decide +kernel)⟩
theorem lw_p7 : lw_okq (⟨"FeeDocket$Text", "readSmall", "()Z"⟩, 7) := ⟨⟨by decide +kernel, by decide +kernel⟩, List.mem_of_getElem? (i := 151) (by decide +kernel), List.mem_of_getElem? (i := 326) (by decide +kernel), List.mem_of_getElem? (i := 327) (by decide +kernel)⟩
theorem lw_p8 : lw_okq (⟨"FeeDocket$Holidays", "isHoliday", "(I)Z"⟩, 2) := ⟨⟨by decide +kernel, by decide +kernel⟩, List.mem_of_getElem? (i := 35) (by decide +kernel), List.mem_of_getElem? (i := 366) (by decide +kernel), List.mem_of_getElem? (i := 367) (by decide +kernel)⟩
theorem lw_p9 : lw_okq (⟨"FeeDocket$Holidays", "find", "(I)I"⟩, 2) := ⟨⟨by decide +kernel, by decide +kernel⟩, List.mem_of_getElem? (i := 35) (by decide +kernel), List.mem_of_getElem? (i := 371) (by decide +kernel), List.mem_of_getElem? (i := 372) (by decide +kernel)⟩
theorem lw_p10 : lw_okq (⟨"FeeDocket$State", "countStanding", "()I"⟩, 8) := ⟨⟨by decide +kernel, by decide +kernel⟩, List.mem_of_getElem? (i := 27) (by decide +kernel), List.mem_of_getElem? (i := 394) (by decide +kernel), List.mem_of_getElem? (i := 395) (by decide +kernel)⟩
theorem lw_p11 : lw_okq (⟨"FeeDocket$State", "countLapsed", "()I"⟩, 8) := ⟨⟨by decide +kernel, by decide +kernel⟩, List.mem_of_getElem? (i := 27) (by decide +kernel), List.mem_of_getElem? (i := 412) (by decide +kernel), List.mem_of_getElem? (i := 413) (by decide +kernel)⟩
theorem lw_p12 : lw_okq (⟨"FeeDocket", "mixedWithRight", "(JLFeeDocket$Right;)J"⟩, 4) := ⟨⟨by decide +kernel, by decide +kernel⟩, List.mem_of_getElem? (i := 19) (by decide +kernel), List.mem_of_getElem? (i := 417) (by decide +kernel), List.mem_of_getElem? (i := 418) (by decide +kernel)⟩
theorem lw_p13 : lw_okq (⟨"java/lang/Throwable", "fillInStackTrace", "(I)Ljava/lang/Throwable;"⟩, 6) := ⟨⟨by decide +kernel, by decide +kernel⟩, List.mem_of_getElem? (i := 496) (by decide +kernel), List.mem_of_getElem? (i := 494) (by decide +kernel), List.mem_of_getElem? (i := 495) (by decide +kernel)⟩
theorem lw_p14 : lw_okq (⟨"FeeDocket$Holidays", "remove", "(I)V"⟩, 2) := ⟨⟨by decide +kernel, by decide +kernel⟩, List.mem_of_getElem? (i := 35) (by decide +kernel), List.mem_of_getElem? (i := 585) (by decide +kernel), List.mem_of_getElem? (i := 586) (by decide +kernel)⟩
theorem lw_p15 : lw_okq (⟨"FeeDocket", "existingRight", "(I)LFeeDocket$Right;"⟩, 4) := ⟨⟨by decide +kernel, by decide +kernel⟩, List.mem_of_getElem? (i := 19) (by decide +kernel), List.mem_of_getElem? (i := 616) (by decide +kernel), List.mem_of_getElem? (i := 617) (by decide +kernel)⟩
def lw_privs_1 : List (MethodName × Nat) := [(⟨"FeeDocket", "save", "()V"⟩, 4), (⟨"FeeDocket", "dropOldest", "()V"⟩, 4), (⟨"FeeDocket$Text", "readRight", "()V"⟩, 7), (⟨"FeeDocket$Text", "readNumber", "(II)I"⟩, 7), (⟨"FeeDocket$Text", "isDigit", "(I)Z"⟩, 7), (⟨"FeeDocket$Text", "signAt", "(I)I"⟩, 7), (⟨"FeeDocket$Text", "readSign", "(C)V"⟩, 7), (⟨"FeeDocket$Text", "readSmall", "()Z"⟩, 7), (⟨"FeeDocket$Holidays", "isHoliday", "(I)Z"⟩, 2), (⟨"FeeDocket$Holidays", "find", "(I)I"⟩, 2), (⟨"FeeDocket$State", "countStanding", "()I"⟩, 8), (⟨"FeeDocket$State", "countLapsed", "()I"⟩, 8), (⟨"FeeDocket", "mixedWithRight", "(JLFeeDocket$Right;)J"⟩, 4), (⟨"java/lang/Throwable", "fillInStackTrace", "(I)Ljava/lang/Throwable;"⟩, 6), (⟨"FeeDocket$Holidays", "remove", "(I)V"⟩, 2), (⟨"FeeDocket", "existingRight", "(I)LFeeDocket$Right;"⟩, 4)]
theorem lw_r1 : ∀ q ∈ lw_privs_1, lw_okq q := List.forall_mem_cons.mpr ⟨lw_p0, List.forall_mem_cons.mpr ⟨lw_p1, List.forall_mem_cons.mpr ⟨lw_p2, List.forall_mem_cons.mpr ⟨lw_p3, List.forall_mem_cons.mpr ⟨lw_p4, List.forall_mem_cons.mpr ⟨lw_p5, List.forall_mem_cons.mpr ⟨lw_p6, List.forall_mem_cons.mpr ⟨lw_p7, List.forall_mem_cons.mpr ⟨lw_p8, List.forall_mem_cons.mpr ⟨lw_p9, List.forall_mem_cons.mpr ⟨lw_p10, List.forall_mem_cons.mpr ⟨lw_p11, List.forall_mem_cons.mpr ⟨lw_p12, List.forall_mem_cons.mpr ⟨lw_p13, List.forall_mem_cons.mpr ⟨lw_p14, List.forall_mem_cons.mpr ⟨lw_p15, fun _ h => absurd h List.not_mem_nil⟩⟩⟩⟩⟩⟩⟩⟩⟩⟩⟩⟩⟩⟩⟩⟩
theorem lw_p16 : lw_okq (⟨"FeeDocket$State", "costsUpTo", "(LFeeDocket$Right;I)I"⟩, 8) := ⟨⟨by decide +kernel, by decide +kernel⟩, List.mem_of_getElem? (i := 27) (by decide +kernel), List.mem_of_getElem? (i := 747) (by decide +kernel), List.mem_of_getElem? (i := 748) (by decide +kernel)⟩
theorem lw_p17 : lw_okq (⟨"FeeDocketModel", "refused", "(I)Z"⟩, 14) := ⟨⟨by decide +kernel, by decide +kernel⟩, List.mem_of_getElem? (i := 793) (by decide +kernel), List.mem_of_getElem? (i := 850) (by decide +kernel), List.mem_of_getElem? (i := 851) (by decide +kernel)⟩
theorem lw_p18 : lw_okq (⟨"FeeDocketModel", "worksFrom", "(I)I"⟩, 14) := ⟨⟨by decide +kernel, by decide +kernel⟩, List.mem_of_getElem? (i := 793) (by decide +kernel), List.mem_of_getElem? (i := 894) (by decide +kernel), List.mem_of_getElem? (i := 895) (by decide +kernel)⟩
theorem lw_p19 : lw_okq (⟨"FeeDocketModel", "isHoliday", "(I)Z"⟩, 14) := ⟨⟨by decide +kernel, by decide +kernel⟩, List.mem_of_getElem? (i := 793) (by decide +kernel), List.mem_of_getElem? (i := 898) (by decide +kernel), List.mem_of_getElem? (i := 899) (by decide +kernel)⟩
theorem lw_p20 : lw_okq (⟨"FeeDocketModel", "saves", "()V"⟩, 14) := ⟨⟨by decide +kernel, by decide +kernel⟩, List.mem_of_getElem? (i := 793) (by decide +kernel), List.mem_of_getElem? (i := 906) (by decide +kernel), List.mem_of_getElem? (i := 907) (by decide +kernel)⟩
theorem lw_p21 : lw_okq (⟨"FeeDocketModel", "takesHoliday", "(I)V"⟩, 14) := ⟨⟨by decide +kernel, by decide +kernel⟩, List.mem_of_getElem? (i := 793) (by decide +kernel), List.mem_of_getElem? (i := 910) (by decide +kernel), List.mem_of_getElem? (i := 911) (by decide +kernel)⟩
theorem lw_p22 : lw_okq (⟨"FeeDocketModel", "comes", "(IZ)I"⟩, 14) := ⟨⟨by decide +kernel, by decide +kernel⟩, List.mem_of_getElem? (i := 793) (by decide +kernel), List.mem_of_getElem? (i := 918) (by decide +kernel), List.mem_of_getElem? (i := 919) (by decide +kernel)⟩
theorem lw_p23 : lw_okq (⟨"FeeDocketModel", "lapsedOnes", "()I"⟩, 14) := ⟨⟨by decide +kernel, by decide +kernel⟩, List.mem_of_getElem? (i := 793) (by decide +kernel), List.mem_of_getElem? (i := 929) (by decide +kernel), List.mem_of_getElem? (i := 930) (by decide +kernel)⟩
theorem lw_p24 : lw_okq (⟨"FeeDocketModel", "isLapsed", "(I)Z"⟩, 14) := ⟨⟨by decide +kernel, by decide +kernel⟩, List.mem_of_getElem? (i := 793) (by decide +kernel), List.mem_of_getElem? (i := 933) (by decide +kernel), List.mem_of_getElem? (i := 934) (by decide +kernel)⟩
theorem lw_p25 : lw_okq (⟨"FeeDocketModel", "nextOf", "(I)I"⟩, 14) := ⟨⟨by decide +kernel, by decide +kernel⟩, List.mem_of_getElem? (i := 793) (by decide +kernel), List.mem_of_getElem? (i := 937) (by decide +kernel), List.mem_of_getElem? (i := 938) (by decide +kernel)⟩
theorem lw_p26 : lw_okq (⟨"FeeDocketModel", "of", "(II)I"⟩, 14) := ⟨⟨by decide +kernel, by decide +kernel⟩, List.mem_of_getElem? (i := 793) (by decide +kernel), List.mem_of_getElem? (i := 941) (by decide +kernel), List.mem_of_getElem? (i := 942) (by decide +kernel)⟩
theorem lw_p27 : lw_okq (⟨"FeeDocketModel", "graceOf", "(II)I"⟩, 14) := ⟨⟨by decide +kernel, by decide +kernel⟩, List.mem_of_getElem? (i := 793) (by decide +kernel), List.mem_of_getElem? (i := 945) (by decide +kernel), List.mem_of_getElem? (i := 946) (by decide +kernel)⟩
theorem lw_p28 : lw_okq (⟨"FeeDocketModel", "isRight", "(I)Z"⟩, 14) := ⟨⟨by decide +kernel, by decide +kernel⟩, List.mem_of_getElem? (i := 793) (by decide +kernel), List.mem_of_getElem? (i := 953) (by decide +kernel), List.mem_of_getElem? (i := 954) (by decide +kernel)⟩
theorem lw_p29 : lw_okq (⟨"FeeDocketModel", "canPay", "(I)Z"⟩, 14) := ⟨⟨by decide +kernel, by decide +kernel⟩, List.mem_of_getElem? (i := 793) (by decide +kernel), List.mem_of_getElem? (i := 957) (by decide +kernel), List.mem_of_getElem? (i := 958) (by decide +kernel)⟩
theorem lw_p30 : lw_okq (⟨"FeeDocketModel", "dueOf", "(II)I"⟩, 14) := ⟨⟨by decide +kernel, by decide +kernel⟩, List.mem_of_getElem? (i := 793) (by decide +kernel), List.mem_of_getElem? (i := 961) (by decide +kernel), List.mem_of_getElem? (i := 962) (by decide +kernel)⟩
theorem lw_p31 : lw_okq (⟨"FeeDocketModel", "isLate", "(I)Z"⟩, 14) := ⟨⟨by decide +kernel, by decide +kernel⟩, List.mem_of_getElem? (i := 793) (by decide +kernel), List.mem_of_getElem? (i := 965) (by decide +kernel), List.mem_of_getElem? (i := 966) (by decide +kernel)⟩
def lw_privs_2 : List (MethodName × Nat) := [(⟨"FeeDocket$State", "costsUpTo", "(LFeeDocket$Right;I)I"⟩, 8), (⟨"FeeDocketModel", "refused", "(I)Z"⟩, 14), (⟨"FeeDocketModel", "worksFrom", "(I)I"⟩, 14), (⟨"FeeDocketModel", "isHoliday", "(I)Z"⟩, 14), (⟨"FeeDocketModel", "saves", "()V"⟩, 14), (⟨"FeeDocketModel", "takesHoliday", "(I)V"⟩, 14), (⟨"FeeDocketModel", "comes", "(IZ)I"⟩, 14), (⟨"FeeDocketModel", "lapsedOnes", "()I"⟩, 14), (⟨"FeeDocketModel", "isLapsed", "(I)Z"⟩, 14), (⟨"FeeDocketModel", "nextOf", "(I)I"⟩, 14), (⟨"FeeDocketModel", "of", "(II)I"⟩, 14), (⟨"FeeDocketModel", "graceOf", "(II)I"⟩, 14), (⟨"FeeDocketModel", "isRight", "(I)Z"⟩, 14), (⟨"FeeDocketModel", "canPay", "(I)Z"⟩, 14), (⟨"FeeDocketModel", "dueOf", "(II)I"⟩, 14), (⟨"FeeDocketModel", "isLate", "(I)Z"⟩, 14)]
theorem lw_r2 : ∀ q ∈ lw_privs_2, lw_okq q := List.forall_mem_cons.mpr ⟨lw_p16, List.forall_mem_cons.mpr ⟨lw_p17, List.forall_mem_cons.mpr ⟨lw_p18, List.forall_mem_cons.mpr ⟨lw_p19, List.forall_mem_cons.mpr ⟨lw_p20, List.forall_mem_cons.mpr ⟨lw_p21, List.forall_mem_cons.mpr ⟨lw_p22, List.forall_mem_cons.mpr ⟨lw_p23, List.forall_mem_cons.mpr ⟨lw_p24, List.forall_mem_cons.mpr ⟨lw_p25, List.forall_mem_cons.mpr ⟨lw_p26, List.forall_mem_cons.mpr ⟨lw_p27, List.forall_mem_cons.mpr ⟨lw_p28, List.forall_mem_cons.mpr ⟨lw_p29, List.forall_mem_cons.mpr ⟨lw_p30, List.forall_mem_cons.mpr ⟨lw_p31, fun _ h => absurd h List.not_mem_nil⟩⟩⟩⟩⟩⟩⟩⟩⟩⟩⟩⟩⟩⟩⟩⟩
theorem lw_p32 : lw_okq (⟨"FeeDocketModel", "paysNext", "(IZ)I"⟩, 14) := ⟨⟨by decide +kernel, by decide +kernel⟩, List.mem_of_getElem? (i := 793) (by decide +kernel), List.mem_of_getElem? (i := 969) (by decide +kernel), List.mem_of_getElem? (i := 970) (by decide +kernel)⟩
theorem lw_p33 : lw_okq (⟨"FeeDocketModel", "feeOf", "(II)I"⟩, 14) := ⟨⟨by decide +kernel, by decide +kernel⟩, List.mem_of_getElem? (i := 793) (by decide +kernel), List.mem_of_getElem? (i := 973) (by decide +kernel), List.mem_of_getElem? (i := 974) (by decide +kernel)⟩
theorem lw_p34 : lw_okq (⟨"FeeDocketModel", "surchargeOn", "(I)I"⟩, 14) := ⟨⟨by decide +kernel, by decide +kernel⟩, List.mem_of_getElem? (i := 793) (by decide +kernel), List.mem_of_getElem? (i := 977) (by decide +kernel), List.mem_of_getElem? (i := 978) (by decide +kernel)⟩
theorem lw_p35 : lw_okq (⟨"FeeDocketModel", "canRevive", "(I)Z"⟩, 14) := ⟨⟨by decide +kernel, by decide +kernel⟩, List.mem_of_getElem? (i := 793) (by decide +kernel), List.mem_of_getElem? (i := 989) (by decide +kernel), List.mem_of_getElem? (i := 990) (by decide +kernel)⟩
theorem lw_p36 : lw_okq (⟨"FeeDocketModel", "endOf", "(I)I"⟩, 14) := ⟨⟨by decide +kernel, by decide +kernel⟩, List.mem_of_getElem? (i := 793) (by decide +kernel), List.mem_of_getElem? (i := 993) (by decide +kernel), List.mem_of_getElem? (i := 994) (by decide +kernel)⟩
theorem lw_p37 : lw_okq (⟨"FeeDocketModel", "stands", "(I)Z"⟩, 14) := ⟨⟨by decide +kernel, by decide +kernel⟩, List.mem_of_getElem? (i := 793) (by decide +kernel), List.mem_of_getElem? (i := 1004) (by decide +kernel), List.mem_of_getElem? (i := 1005) (by decide +kernel)⟩
theorem lw_p38 : lw_okq (⟨"FeeDocketModel", "usersOf", "(I)I"⟩, 14) := ⟨⟨by decide +kernel, by decide +kernel⟩, List.mem_of_getElem? (i := 793) (by decide +kernel), List.mem_of_getElem? (i := 1008) (by decide +kernel), List.mem_of_getElem? (i := 1009) (by decide +kernel)⟩
theorem lw_p39 : lw_okq (⟨"FeeDocketModel", "tellRight", "(II)I"⟩, 14) := ⟨⟨by decide +kernel, by decide +kernel⟩, List.mem_of_getElem? (i := 793) (by decide +kernel), List.mem_of_getElem? (i := 1020) (by decide +kernel), List.mem_of_getElem? (i := 1021) (by decide +kernel)⟩
theorem lw_p40 : lw_okq (⟨"FeeDocketModel", "costNow", "(I)I"⟩, 14) := ⟨⟨by decide +kernel, by decide +kernel⟩, List.mem_of_getElem? (i := 793) (by decide +kernel), List.mem_of_getElem? (i := 1024) (by decide +kernel), List.mem_of_getElem? (i := 1025) (by decide +kernel)⟩
theorem lw_p41 : lw_okq (⟨"FeeDocketModel", "stoodOn", "(II)Z"⟩, 14) := ⟨⟨by decide +kernel, by decide +kernel⟩, List.mem_of_getElem? (i := 793) (by decide +kernel), List.mem_of_getElem? (i := 1039) (by decide +kernel), List.mem_of_getElem? (i := 1040) (by decide +kernel)⟩
theorem lw_p42 : lw_okq (⟨"FeeDocketModel", "laysGaps", "(I)V"⟩, 14) := ⟨⟨by decide +kernel, by decide +kernel⟩, List.mem_of_getElem? (i := 793) (by decide +kernel), List.mem_of_getElem? (i := 1043) (by decide +kernel), List.mem_of_getElem? (i := 1044) (by decide +kernel)⟩
theorem lw_p43 : lw_okq (⟨"FeeDocketModel", "isCovered", "(I)Z"⟩, 14) := ⟨⟨by decide +kernel, by decide +kernel⟩, List.mem_of_getElem? (i := 793) (by decide +kernel), List.mem_of_getElem? (i := 1047) (by decide +kernel), List.mem_of_getElem? (i := 1048) (by decide +kernel)⟩
theorem lw_p44 : lw_okq (⟨"FeeDocketModel", "tellUser", "(II)I"⟩, 14) := ⟨⟨by decide +kernel, by decide +kernel⟩, List.mem_of_getElem? (i := 793) (by decide +kernel), List.mem_of_getElem? (i := 1059) (by decide +kernel), List.mem_of_getElem? (i := 1060) (by decide +kernel)⟩
theorem lw_p45 : lw_okq (⟨"FeeDocketModel", "tellValue", "(I)I"⟩, 14) := ⟨⟨by decide +kernel, by decide +kernel⟩, List.mem_of_getElem? (i := 793) (by decide +kernel), List.mem_of_getElem? (i := 1067) (by decide +kernel), List.mem_of_getElem? (i := 1068) (by decide +kernel)⟩
theorem lw_p46 : lw_okq (⟨"FeeDocketModel", "standing", "()I"⟩, 14) := ⟨⟨by decide +kernel, by decide +kernel⟩, List.mem_of_getElem? (i := 793) (by decide +kernel), List.mem_of_getElem? (i := 1071) (by decide +kernel), List.mem_of_getElem? (i := 1072) (by decide +kernel)⟩
theorem lw_p47 : lw_okq (⟨"FeeDocketModel", "firstDue", "()I"⟩, 14) := ⟨⟨by decide +kernel, by decide +kernel⟩, List.mem_of_getElem? (i := 793) (by decide +kernel), List.mem_of_getElem? (i := 1079) (by decide +kernel), List.mem_of_getElem? (i := 1080) (by decide +kernel)⟩
def lw_privs_3 : List (MethodName × Nat) := [(⟨"FeeDocketModel", "paysNext", "(IZ)I"⟩, 14), (⟨"FeeDocketModel", "feeOf", "(II)I"⟩, 14), (⟨"FeeDocketModel", "surchargeOn", "(I)I"⟩, 14), (⟨"FeeDocketModel", "canRevive", "(I)Z"⟩, 14), (⟨"FeeDocketModel", "endOf", "(I)I"⟩, 14), (⟨"FeeDocketModel", "stands", "(I)Z"⟩, 14), (⟨"FeeDocketModel", "usersOf", "(I)I"⟩, 14), (⟨"FeeDocketModel", "tellRight", "(II)I"⟩, 14), (⟨"FeeDocketModel", "costNow", "(I)I"⟩, 14), (⟨"FeeDocketModel", "stoodOn", "(II)Z"⟩, 14), (⟨"FeeDocketModel", "laysGaps", "(I)V"⟩, 14), (⟨"FeeDocketModel", "isCovered", "(I)Z"⟩, 14), (⟨"FeeDocketModel", "tellUser", "(II)I"⟩, 14), (⟨"FeeDocketModel", "tellValue", "(I)I"⟩, 14), (⟨"FeeDocketModel", "standing", "()I"⟩, 14), (⟨"FeeDocketModel", "firstDue", "()I"⟩, 14)]
theorem lw_r3 : ∀ q ∈ lw_privs_3, lw_okq q := List.forall_mem_cons.mpr ⟨lw_p32, List.forall_mem_cons.mpr ⟨lw_p33, List.forall_mem_cons.mpr ⟨lw_p34, List.forall_mem_cons.mpr ⟨lw_p35, List.forall_mem_cons.mpr ⟨lw_p36, List.forall_mem_cons.mpr ⟨lw_p37, List.forall_mem_cons.mpr ⟨lw_p38, List.forall_mem_cons.mpr ⟨lw_p39, List.forall_mem_cons.mpr ⟨lw_p40, List.forall_mem_cons.mpr ⟨lw_p41, List.forall_mem_cons.mpr ⟨lw_p42, List.forall_mem_cons.mpr ⟨lw_p43, List.forall_mem_cons.mpr ⟨lw_p44, List.forall_mem_cons.mpr ⟨lw_p45, List.forall_mem_cons.mpr ⟨lw_p46, List.forall_mem_cons.mpr ⟨lw_p47, fun _ h => absurd h List.not_mem_nil⟩⟩⟩⟩⟩⟩⟩⟩⟩⟩⟩⟩⟩⟩⟩⟩
theorem lw_p48 : lw_okq (⟨"FeeDocketModel", "costsOf", "(II)I"⟩, 14) := ⟨⟨by decide +kernel, by decide +kernel⟩, List.mem_of_getElem? (i := 793) (by decide +kernel), List.mem_of_getElem? (i := 1090) (by decide +kernel), List.mem_of_getElem? (i := 1091) (by decide +kernel)⟩
theorem lw_p49 : lw_okq (⟨"FeeDocketModel", "takesRight", "()Z"⟩, 14) := ⟨⟨by decide +kernel, by decide +kernel⟩, List.mem_of_getElem? (i := 793) (by decide +kernel), List.mem_of_getElem? (i := 1114) (by decide +kernel), List.mem_of_getElem? (i := 1115) (by decide +kernel)⟩
theorem lw_p50 : lw_okq (⟨"FeeDocketModel", "takesNumber", "(II)Z"⟩, 14) := ⟨⟨by decide +kernel, by decide +kernel⟩, List.mem_of_getElem? (i := 793) (by decide +kernel), List.mem_of_getElem? (i := 1118) (by decide +kernel), List.mem_of_getElem? (i := 1119) (by decide +kernel)⟩
theorem lw_p51 : lw_okq (⟨"FeeDocketModel", "isAt", "(II)Z"⟩, 14) := ⟨⟨by decide +kernel, by decide +kernel⟩, List.mem_of_getElem? (i := 793) (by decide +kernel), List.mem_of_getElem? (i := 1122) (by decide +kernel), List.mem_of_getElem? (i := 1123) (by decide +kernel)⟩
theorem lw_p52 : lw_okq (⟨"FeeDocketModel", "takes", "(I)Z"⟩, 14) := ⟨⟨by decide +kernel, by decide +kernel⟩, List.mem_of_getElem? (i := 793) (by decide +kernel), List.mem_of_getElem? (i := 1126) (by decide +kernel), List.mem_of_getElem? (i := 1127) (by decide +kernel)⟩
theorem lw_p53 : lw_okq (⟨"FeeDocketModel", "swapsAside", "()V"⟩, 14) := ⟨⟨by decide +kernel, by decide +kernel⟩, List.mem_of_getElem? (i := 793) (by decide +kernel), List.mem_of_getElem? (i := 1130) (by decide +kernel), List.mem_of_getElem? (i := 1131) (by decide +kernel)⟩
theorem lw_p54 : lw_okq (⟨"FeeDocketModel", "mix", "(I)V"⟩, 14) := ⟨⟨by decide +kernel, by decide +kernel⟩, List.mem_of_getElem? (i := 793) (by decide +kernel), List.mem_of_getElem? (i := 1139) (by decide +kernel), List.mem_of_getElem? (i := 1140) (by decide +kernel)⟩
def lw_privs_4 : List (MethodName × Nat) := [(⟨"FeeDocketModel", "costsOf", "(II)I"⟩, 14), (⟨"FeeDocketModel", "takesRight", "()Z"⟩, 14), (⟨"FeeDocketModel", "takesNumber", "(II)Z"⟩, 14), (⟨"FeeDocketModel", "isAt", "(II)Z"⟩, 14), (⟨"FeeDocketModel", "takes", "(I)Z"⟩, 14), (⟨"FeeDocketModel", "swapsAside", "()V"⟩, 14), (⟨"FeeDocketModel", "mix", "(I)V"⟩, 14)]
theorem lw_r4 : ∀ q ∈ lw_privs_4, lw_okq q := List.forall_mem_cons.mpr ⟨lw_p48, List.forall_mem_cons.mpr ⟨lw_p49, List.forall_mem_cons.mpr ⟨lw_p50, List.forall_mem_cons.mpr ⟨lw_p51, List.forall_mem_cons.mpr ⟨lw_p52, List.forall_mem_cons.mpr ⟨lw_p53, List.forall_mem_cons.mpr ⟨lw_p54, fun _ h => absurd h List.not_mem_nil⟩⟩⟩⟩⟩⟩⟩
def lw_privs : List (MethodName × Nat) := lw_privs_1 ++ (lw_privs_2 ++ (lw_privs_3 ++ (lw_privs_4)))
def lw_tbl : List Cond := k2_sels lw_privs ++ tables_1
theorem lw_privs_ok : ∀ q ∈ lw_privs, lw_okq q := by
  show ∀ q ∈ lw_privs_1 ++ (lw_privs_2 ++ (lw_privs_3 ++ (lw_privs_4))), lw_okq q
  exact List.forall_mem_append.mpr ⟨lw_r1, List.forall_mem_append.mpr ⟨lw_r2, List.forall_mem_append.mpr ⟨lw_r3, lw_r4⟩⟩⟩
/-- the streams that the claim lets the run draw from -/
abbrev lw_cs : List Choice := [Jvm.Choice.named "NaN.bits"]
theorem lw_bits : nanBits ∈ lw_cs := by first | decide | exact List.mem_cons_self | simp [lw_cs, nanBits]
end
section
/-! ===== BEGIN words of one list among another's, by their places ===== -/
theorem goodIn_r {big : List Cond} (ws : List Cond) (ps : List Nat) (hp : ws = ps.filterMap (fun i => big[i]?)) (h : ws.all goodWord = true) : GoodIn big ws := by
  intro w hw
  have h1 := List.all_eq_true.mp h w hw
  rw [hp] at hw
  obtain ⟨i, -, hi⟩ := List.mem_filterMap.mp hw
  have hm : w ∈ big := by first | exact List.mem_of_getElem? hi | exact List.getElem?_mem hi
  exact ⟨hm, good_of_word h1⟩
theorem goodIn_app {big a b : List Cond} (ha : GoodIn big a) (hb : GoodIn big b) : GoodIn big (a ++ b) := fun w h => (List.mem_append.mp h).elim (ha w) (hb w)
theorem goodIn_ca {big a b : List Cond} {c : Cond} (ha : GoodIn big (c :: a)) (hb : GoodIn big b) : GoodIn big (c :: (a ++ b)) := fun w h => (List.mem_cons.mp h).elim (fun e => ha w (List.mem_cons.mpr (Or.inl e))) (fun h => (List.mem_append.mp h).elim (fun h => ha w (List.mem_cons.mpr (Or.inr h))) (hb w))
theorem goodIn_sub {big ws : List Cond} (hm : ∀ w ∈ ws, w ∈ big) (h : ws.all goodWord = true) : GoodIn big ws := fun w hw => ⟨hm w hw, good_of_word (List.all_eq_true.mp h w hw)⟩
/-! ===== END ===== -/

/-! ===== BEGIN exceptions that leave a method, and their catching by the caller (launches without stack traces) ===== -/
section VXA
/-! The laws vx_back, vx_callV, vx_callS, vx_callSW, vx_throw0, vx_throwS follow proofs of the library, with one case more: JvmDerived/Free/Laws.lean (Back.of_free), Shelf42/LK1.lean (callV, callS), Shelf/KitTraced.lean (throwNew0V, throwNewS). -/
/-- where a method has thrown q: the class by its name, the cell, what was written, the world -/
def vx_T (XC : String → State → State → Prop) (st : State) (q : Addr) (t : State) (mc ms : Nat) (free : Addr → Prop) : Prop :=
  ∃ (E : String) (ce : Cell) (L : List Loc), XC E st t ∧ t.heap[q]? = some ce ∧ ce.vm = .none ∧ st.vm.findClass E = some ce.cls ∧ st.WarmedH t.vm ∧ st.sameButNew ({ t with vm := st.vm } : State) L mc ms ∧ ∀ z ∈ L, free z.base
def vx_Q (Qc : Array Value → State → Outcome → State → Prop) (XC : String → State → State → Prop) (mc ms : Nat) (free : Addr → Prop) : Array Value → State → Outcome → State → Prop := fun a st o t =>
  (Qc a st o t ∧ ∃ L, FrameEnd st o t L mc ms ∧ ∀ q ∈ L, free q.base) ∨ ∃ q, o = .threw q ∧ vx_T XC st q t mc ms free
/-- a callee that returns or throws -/
def vx_Met (l : Launch) (y : MethodName) (ws : List Cond) (rm : Room) (Pc : Array Value → State → Prop) (Qc : Array Value → State → Outcome → State → Prop) (XC : String → State → State → Prop) (mc ms : Nat) (free : Addr → Prop) : Prop :=
  MetFree l y (headSpec ws rm) Pc (fun _ _ _ _ _ => True) (vx_Q Qc XC mc ms free)
def vx_Post (XC : String → State → State → Prop) (mc ms : Nat) (free : Addr → Prop) : Pt → Array Value → Addr → Pt → Prop := fun A a q B =>
  ∃ (g : JFrame) (mk : MethodId) (t : State) (L : List Loc) (E : String) (ce : Cell), B.U.heap = t.heap ∧ B.U.vm = t.vm ∧ XC E (A.U.calling g mk a) t ∧ t.heap[q]? = some ce ∧ ce.vm = .none ∧ A.U.vm.findClass E = some ce.cls ∧ B.locs = A.locs ++ L ∧ (∀ z ∈ L, free z.base) ∧ B.cells = A.cells + mc ∧ B.slots = A.slots + ms
def vx_Back (l : Launch) (R : Room) (p : Program) (e : Env) (below : List Frame) (s : State) (sargs : Array Value) (y : MethodName) (len W9 : Nat)
    (Pre : Pt → Array Value → Prop) (Post : Pt → Array Value → Option Value → Pt → Prop) (PostX : Pt → Array Value → Addr → Pt → Prop) : Prop :=
  ∀ (m : MethodId) (meth : Method) (c : Code) (A : Pt) (g : JFrame) (ig : Instr) (mk : MethodId) (a : Array Value),
    Stand p l e R s m sargs below meth c A.U A.locs A.cells A.slots → g.method = m → g.locals.size = c.maxLocals → decode c.code g.pc = .ok (ig, len) →
    2 * g.monitorRoom + (g.stack.map fun v => v.category).sum ≤ W9 → A.U.methodNamed? y = some mk → Pre A a →
    (∃ (v : Option Value) (B : Pt), Stand p l e R s m sargs below meth c B.U B.locs B.cells B.slots ∧ Post A a v B ∧
      Steps p.tables e below (doInvoke e (A.U.setTop g) [] mk a).1 (B.U.setTop { g with pc := g.pc + len, stack := v.toList ++ g.stack })) ∨
    (∃ (q : Addr) (B : Pt), Stand p l e R s m sargs below meth c B.U B.locs B.cells B.slots ∧ PostX A a q B ∧
      Steps p.tables e below (doInvoke e (A.U.setTop g) [] mk a).1 ((B.U.setTop g).pushFrame (.throwing q)))
section Payer
variable {l : Launch} {R : Room} {p : Program} {e : Env} {below : List Frame} {s : State} {sargs : Array Value} {y : MethodName} {len W9 : Nat}
theorem vx_back {ws : List Cond} {rm : Room} {Pc : Array Value → State → Prop} {Qc : Array Value → State → Outcome → State → Prop} {XC : String → State → State → Prop} {mc ms : Nat} {free : Addr → Prop} {bytes : ByteArray} {maxL : Nat} {ret : Option FieldType}
    (hM : vx_Met l y ws rm Pc Qc XC mc ms free) (hblind : FrameBlind Pc) (hrc : rm.cells = mc) (hrs : rm.slots = ms)
    (hframes : rm.frames + 1 ≤ R.frames) (hlocals : W9 + (maxL + 11) + rm.locals ≤ R.locals)
    (hws : ∀ w ∈ ws, ∀ a' U, s.WarmedH U.vm → w.before a' U = true) (hcode : Cond.code y bytes maxL ret ∈ ws) (hinit : ∀ a' U, s.WarmedH U.vm → (Cond.initialized y.cls).before a' U = true) :
    vx_Back l R p e below s sargs y len W9 (PreOf R mc ms Pc) (PostOf Qc mc ms free) (vx_Post XC mc ms free) := by
  intro m meth c A g ig mk a X hg hsize hdg hW hn hp
  have h1 : (headSpec ws rm).pre.before a A.U = true := atoms_intro fun w hw => hws w hw _ _ X.warmed
  have h2 : (Cond.code y bytes maxL ret).before a A.U = true := hws _ hcode _ _ X.warmed
  have h3 : (Cond.initialized y.cls).before a A.U = true := hinit _ _ X.warmed
  have h4 : A.cells + (headSpec ws rm).room.cells ≤ R.cells := by rw [show (headSpec ws rm).room.cells = mc from hrc]; exact hp.1
  have h5 : A.slots + (headSpec ws rm).room.slots ≤ R.slots := by rw [show (headSpec ws rm).room.slots = ms from hrs]; exact hp.2.1
  have hPc : Pc a (A.U.calling g mk a) := hblind _ _ _ _ hp.2.2
  obtain ⟨U, Ls, c0, s0⟩ := A
  dsimp only [Pt.U, Pt.locs, Pt.cells, Pt.slots] at h1 h2 h3 h4 h5 X hn hPc ⊢
  obtain ⟨methY, cY, hmY, hcY, -, hlY, -, -, -, -⟩ := Cond.code_spec hn h2
  obtain ⟨kY, hkY, -⟩ := className_of_methodNamed hn
  have hinitY : kY.init = .initialized := Cond.initialized_spec (findClass_of_methodNamed hn) hkY h3
  have h : At U g.method c below := by rw [hg]; exact X.here
  have hlocals9 : W9 + (maxL + 11) + (headSpec ws rm).room.locals ≤ R.locals := hlocals
  have happ : (headSpec ws rm).appliesLoose y e.platform (U.calling g mk a) = true :=
    Spec.appliesLoose_calling (g := g) h hdg hn hkY hinitY
      (X.room_calling (g := g) (R' := (headSpec ws rm).room) hsize hmY hcY hframes (by rw [hlY]; omega) h4 h5) h1
  obtain ⟨mid, hmid⟩ := h.above
  have hfr : (U.setTop g).frames = (.java g :: mid) ++ below := by rw [State.frames_setTop' g h.top, hmid]; rfl
  obtain ⟨o, s₂, hsteps, -, hend, hq⟩ := Steps.callFree hM p X.admits X.cas X.clock (acts := []) hfr happ hPc trivial
  have hq' : vx_Q Qc XC mc ms free a (U.calling g mk a) o s₂ := hq
  rw [State.frames_setTop' g h.top] at hend
  obtain ⟨g₀, hg0⟩ := Option.isSome_iff_exists.mp h.top
  obtain ⟨r, hr⟩ := State.topJava?_eq_some.mp hg0
  have hr' : (({ U with heap := s₂.heap, slotsUsed := s₂.slotsUsed } : State).setVm s₂.vm).frames = .java g₀ :: r := hr
  rcases hq' with ⟨hqc, L, hfe, hL⟩ | ⟨q, rfl, E, ce, L, hx, hce, hcv, hcl, hW₂, hsm, hL⟩
  · obtain ⟨⟨v, rfl⟩, hW₂, e2, q2, q3, q4, q5, q6⟩ := id hfe
    have e3 : s₂ = ({ (U.calling g mk a).setFrames s₂.frames with heap := s₂.heap, slotsUsed := s₂.slotsUsed } : State).setVm s₂.vm := by
      have : s₂ = ({ s₂ with vm := (U.calling g mk a).vm } : State).setVm s₂.vm := rfl
      rw [e2] at this
      exact this
    obtain ⟨c₂, i₂, len₂, hc₂, hd₂, hf₂⟩ := hend
    have hW' : U.WarmedH s₂.vm := hW₂
    have hcc : c₂ = c := by
      have h1 : s₂.code? g.method = U.code? g.method := by
        rw [State.code?_eq, State.code?_eq, hW'.alike.method?]
      exact Option.some.inj (hc₂.symm.trans (h1.trans h.code))
    subst hcc
    have hlen : len₂ = len := by rw [hdg] at hd₂; cases hd₂; rfl
    subst hlen
    have hs₂ : s₂ = (({ U with heap := s₂.heap, slotsUsed := s₂.slotsUsed } : State).setVm s₂.vm).setTop { g with pc := g.pc + len₂, stack := v.toList ++ g.stack } := by
      refine e3.trans ?_
      rw [hf₂, State.calling_eq h.top, State.setFrames_setFrames, State.setTop_of_frames _ hr', hr]
      rfl
    have hsame : U.sameButNew ({ U with heap := s₂.heap, slotsUsed := s₂.slotsUsed } : State) L mc ms := by
      refine ⟨?_, q2, q3, q4, q5, q6⟩
      obtain ⟨t, ht, -⟩ := State.frames_cons hr
      show ({ U with heap := s₂.heap, slotsUsed := s₂.slotsUsed } : State) = { U.setFrames U.frames with heap := s₂.heap, slotsUsed := s₂.slotsUsed }
      rw [State.setFrames_self ht]
    subst hg
    refine Or.inl ⟨v, ⟨(({ U with heap := s₂.heap, slotsUsed := s₂.slotsUsed } : State).setVm s₂.vm), Ls ++ L, c0 + mc, s0 + ms⟩,
      ⟨X.admits, X.cas, X.clock, X.frames, X.room, X.hears, X.method, X.code, (X.here.setHeapUsed s₂.heap s₂.slotsUsed).setVm hW'.alike, X.tail, State.WarmedH.trans X.warmed hW', X.limits, X.bytes, X.same.trans (hsame.setVm s.vm)⟩,
      ⟨g, mk, s₂, L, rfl, rfl, hqc, rfl, hL, rfl, rfl⟩, ?_⟩
    show Steps p.tables e below _ ((({ U with heap := s₂.heap, slotsUsed := s₂.slotsUsed } : State).setVm s₂.vm).setTop { g with pc := g.pc + len₂, stack := v.toList ++ g.stack })
    rw [← hs₂]
    exact hsteps
  · obtain ⟨e2, q2, q3, q4, q5, q6⟩ := id hsm
    have e3 : s₂ = ({ (U.calling g mk a).setFrames s₂.frames with heap := s₂.heap, slotsUsed := s₂.slotsUsed } : State).setVm s₂.vm := by
      have : s₂ = ({ s₂ with vm := (U.calling g mk a).vm } : State).setVm s₂.vm := rfl
      rw [e2] at this
      exact this
    have hf₂ : s₂.frames = .throwing q :: .java g :: U.frames.tail := hend
    have hW' : U.WarmedH s₂.vm := hW₂
    have hs₂ : s₂ = ((({ U with heap := s₂.heap, slotsUsed := s₂.slotsUsed } : State).setVm s₂.vm).setTop g).pushFrame (.throwing q) := by
      refine e3.trans ?_
      rw [hf₂, State.calling_eq h.top, State.setFrames_setFrames, State.pushFrame, State.frames_setTop _ hr', State.setTop_of_frames _ hr', State.setFrames_setFrames, hr]
      rfl
    have hsame : U.sameButNew ({ U with heap := s₂.heap, slotsUsed := s₂.slotsUsed } : State) L mc ms := by
      refine ⟨?_, q2, q3, q4, q5, q6⟩
      obtain ⟨t, ht, -⟩ := State.frames_cons hr
      show ({ U with heap := s₂.heap, slotsUsed := s₂.slotsUsed } : State) = { U.setFrames U.frames with heap := s₂.heap, slotsUsed := s₂.slotsUsed }
      rw [State.setFrames_self ht]
    subst hg
    refine Or.inr ⟨q, ⟨(({ U with heap := s₂.heap, slotsUsed := s₂.slotsUsed } : State).setVm s₂.vm), Ls ++ L, c0 + mc, s0 + ms⟩,
      ⟨X.admits, X.cas, X.clock, X.frames, X.room, X.hears, X.method, X.code, (X.here.setHeapUsed s₂.heap s₂.slotsUsed).setVm hW'.alike, X.tail, State.WarmedH.trans X.warmed hW', X.limits, X.bytes, X.same.trans (hsame.setVm s.vm)⟩,
      ⟨g, mk, s₂, L, E, ce, rfl, rfl, hx, hce, hcv, hcl, rfl, hL, rfl, rfl⟩, ?_⟩
    show Steps p.tables e below _ (((({ U with heap := s₂.heap, slotsUsed := s₂.slotsUsed } : State).setVm s₂.vm).setTop g).pushFrame (.throwing q))
    rw [← hs₂]
    exact hsteps
end Payer
section Calls
variable {p : Program} {l : Launch} {e : Env} {R : Room} {s : State} {m : MethodId} {args : Array Value} {below : List Frame} {meth : Method} {c : Code} {T : State} {locs : List Loc} {cells slots : Nat}
theorem vx_callV (X : Stand p l e R s m args below meth c T locs cells slots) (hexec : p.tables.exec = Jvm.exec) {own C : String} {index : Nat} {y : MethodName} {bytes : ByteArray} {maxL : Nat} {ret : Option FieldType}
    (hown : s.vm.findClass own = some m.cls) (hlink : (Cond.methodLink own index y).before args s = true) (hinst : (Cond.instanceMethod y).before args s = true) (hsel : (Cond.selects C y y).before args s = true)
    (hcode : (Cond.code y bytes maxL ret).before args s = true) (hy : y.cls ≠ "java/lang/invoke/MethodHandle" ∧ y.cls ≠ "java/lang/invoke/VarHandle")
    {W9 : Nat} {Pre : Pt → Array Value → Prop} {Post : Pt → Array Value → Option Value → Pt → Prop} {PostX : Pt → Array Value → Addr → Pt → Prop} (hK : vx_Back l R p e below s args y 3 W9 Pre Post PostX)
    {b : Addr} {cellB : Cell} (hcell : T.heap[b]? = some cellB) (hobj : cellB.vm.isStatics = false) (hcls : s.vm.findClass C = some cellB.cls)
    {g : JFrame} (hg : g.method = m) (hsize : g.locals.size = c.maxLocals) {argsL rest : List Value} (hlen : ∀ sig, parseMethodDescriptor y.desc = some sig → argsL.length = sig.parameters.length)
    (hstack : g.stack = argsL.reverse ++ .ref b :: rest) (hW : 2 * g.monitorRoom + (rest.map fun v => v.category).sum ≤ W9) (hdg : decode c.code g.pc = .ok (.invokevirtual index, 3))
    (hpre : ∀ vm₁, s.WarmedH vm₁ → Pre ⟨T.setVm vm₁, locs, cells, slots⟩ (Value.ref b :: argsL).toArray) :
    (∃ (v : Option Value) (vm₁ : Vm) (B : Pt), s.WarmedH vm₁ ∧ Stand p l e R s m args below meth c B.U B.locs B.cells B.slots ∧ Post ⟨T.setVm vm₁, locs, cells, slots⟩ (Value.ref b :: argsL).toArray v B ∧
      ∀ target, Steps p.tables e below (B.U.setTop { g with pc := g.pc + 3, stack := v.toList ++ rest }) target → Steps p.tables e below (T.setTop g) target) ∨
    (∃ (q : Addr) (vm₁ : Vm) (B : Pt), s.WarmedH vm₁ ∧ Stand p l e R s m args below meth c B.U B.locs B.cells B.slots ∧ PostX ⟨T.setVm vm₁, locs, cells, slots⟩ (Value.ref b :: argsL).toArray q B ∧
      Steps p.tables e below (T.setTop g) ((B.U.setTop { g with stack := rest }).pushFrame (.throwing q))) := by
  obtain ⟨mk, methM, hnamed, hmethM, hstM, habM⟩ := Cond.instanceMethod_spec hinst
  obtain ⟨methM', cM, hmethM', -, -, -, -, -, -, hsigM⟩ := Cond.code_spec hnamed hcode
  cases hmethM.symm.trans hmethM'
  obtain ⟨c2, r2, m2, q1, q2, q3, q4, kP, hkP, hkPi⟩ := Cond.selects_spec hsel
  cases hcls.symm.trans q1
  cases (State.methodFound?_of_named hnamed hy).symm.trans q2
  cases hnamed.symm.trans q3
  have hselP : selectMethod e.platform s.vm cellB.cls mk = .method mk := by rw [Launch.admits_selectMethod X.admits]; exact q4
  obtain ⟨vm₁, X₁, hstep₁⟩ := X.invokevirtual hexec hown hlink hnamed hmethM hstM hkP hkPi hy (a := b) (cell := cellB) hcell
    (fun z h => by rw [h] at hobj; cases hobj) hselP hmethM habM hkP hkPi (g := g) hg (argsL := argsL) (rest := rest) (hlen _ hsigM) hstack hdg
  rcases hK m meth c ⟨T.setVm vm₁, locs, cells, slots⟩ { g with stack := rest } (.invokevirtual index) mk (Value.ref b :: argsL).toArray X₁ hg hsize hdg hW (X₁.named hnamed) (hpre vm₁ X₁.warmed) with ⟨v, B, X', hpost, hsteps⟩ | ⟨q, B, X', hpost, hsteps⟩
  · exact Or.inl ⟨v, vm₁, B, X₁.warmed, X', hpost, fun target h => hstep₁ _ fun acts => by rw [doInvoke_state]; exact hsteps.trans h⟩
  · exact Or.inr ⟨q, vm₁, B, X₁.warmed, X', hpost, hstep₁ _ fun acts => by rw [doInvoke_state]; exact hsteps⟩
theorem vx_callS (X : Stand p l e R s m args below meth c T locs cells slots) (hexec : p.tables.exec = Jvm.exec) {own : String} {index : Nat} {y : MethodName} {bytes : ByteArray} {maxL : Nat} {ret : Option FieldType}
    (hown : s.vm.findClass own = some m.cls) (hlink : (Cond.methodLink own index y).before args s = true) (hstat : (Cond.static y).before args s = true) (hinit : (Cond.initialized y.cls).before args s = true)
    (hcode : (Cond.code y bytes maxL ret).before args s = true) (hy : y.cls ≠ "java/lang/invoke/MethodHandle" ∧ y.cls ≠ "java/lang/invoke/VarHandle")
    {W9 : Nat} {Pre : Pt → Array Value → Prop} {Post : Pt → Array Value → Option Value → Pt → Prop} {PostX : Pt → Array Value → Addr → Pt → Prop} (hK : vx_Back l R p e below s args y 3 W9 Pre Post PostX)
    {g : JFrame} (hg : g.method = m) (hsize : g.locals.size = c.maxLocals) {argsL rest : List Value} (hlen : ∀ sig, parseMethodDescriptor y.desc = some sig → argsL.length = sig.parameters.length)
    (hstack : g.stack = argsL.reverse ++ rest) (hW : 2 * g.monitorRoom + (rest.map fun v => v.category).sum ≤ W9) (hdg : decode c.code g.pc = .ok (.invokestatic index, 3))
    (hpre : ∀ vm₁, s.WarmedH vm₁ → Pre ⟨T.setVm vm₁, locs, cells, slots⟩ argsL.toArray) :
    (∃ (v : Option Value) (vm₁ : Vm) (B : Pt), s.WarmedH vm₁ ∧ Stand p l e R s m args below meth c B.U B.locs B.cells B.slots ∧ Post ⟨T.setVm vm₁, locs, cells, slots⟩ argsL.toArray v B ∧
      ∀ target, Steps p.tables e below (B.U.setTop { g with pc := g.pc + 3, stack := v.toList ++ rest }) target → Steps p.tables e below (T.setTop g) target) ∨
    (∃ (q : Addr) (vm₁ : Vm) (B : Pt), s.WarmedH vm₁ ∧ Stand p l e R s m args below meth c B.U B.locs B.cells B.slots ∧ PostX ⟨T.setVm vm₁, locs, cells, slots⟩ argsL.toArray q B ∧
      Steps p.tables e below (T.setTop g) ((B.U.setTop { g with stack := rest }).pushFrame (.throwing q))) := by
  obtain ⟨mk, hnamed⟩ := Cond.code_named hcode
  obtain ⟨methM, cM, hmethM, -, -, -, -, -, -, hsigM⟩ := Cond.code_spec hnamed hcode
  have hstatic : methM.isStatic = true := Cond.static_spec hnamed hmethM hstat
  obtain ⟨kP, hkP, -⟩ := className_of_methodNamed hnamed
  have hinitP : kP.init = .initialized := Cond.initialized_spec (findClass_of_methodNamed hnamed) hkP hinit
  obtain ⟨vm₁, X₁, hstep₁⟩ := X.invokestatic hexec hown hlink hnamed hmethM hstatic hkP hinitP hy (g := g) hg (argsL := argsL) (rest := rest) (hlen _ hsigM) hstack hdg
  rcases hK m meth c ⟨T.setVm vm₁, locs, cells, slots⟩ { g with stack := rest } (.invokestatic index) mk argsL.toArray X₁ hg hsize hdg hW (X₁.named hnamed) (hpre vm₁ X₁.warmed) with ⟨v, B, X', hpost, hsteps⟩ | ⟨q, B, X', hpost, hsteps⟩
  · exact Or.inl ⟨v, vm₁, B, X₁.warmed, X', hpost, fun target h => hstep₁ _ fun acts => by rw [doInvoke_state]; exact hsteps.trans h⟩
  · exact Or.inr ⟨q, vm₁, B, X₁.warmed, X', hpost, hstep₁ _ fun acts => by rw [doInvoke_state]; exact hsteps⟩
end Calls
theorem vx_cls {s : State} {T : State} {vm₁ : Vm} {E : String} {k : ClassId} (hW : s.WarmedH vm₁) (h : (T.setVm vm₁).vm.findClass E = some k) : s.vm.findClass E = some k := by
  have h1 : vm₁.findClass E = some k := h
  rw [hW.alike.findClass] at h1
  exact h1
/-- the method's frame g, with q thrown over it -/
def vx_W (p : Program) (l : Launch) (e : Env) (R : Room) (s : State) (m : MethodId) (args : Array Value) (below : List Frame) (meth : Method) (c : Code) (H : Heap) (locs : List Loc) (cells slots : Nat) (Q : State → Prop) (g : JFrame) (q : Addr) : Prop :=
  ∀ T : State, T.heap = H → Stand p l e R s m args below meth c T locs cells slots → ∃ t, Steps p.tables e below ((T.setTop g).pushFrame (.throwing q)) t ∧ Q t
def vx_Run (p : Program) (l : Launch) (e : Env) (R : Room) (s : State) (m : MethodId) (args : Array Value) (below : List Frame) (meth : Method) (c : Code) (H : Heap) (locs : List Loc) (cells slots mc ms : Nat) (g : JFrame) (rest : List Value) (Qa : State → Outcome → State → Prop) (XC : String → State → State → Prop) (free : Addr → Prop) : Prop :=
  ∀ T : State, T.heap = H → Stand p l e R s m args below meth c T locs cells slots →
    (∃ (v : Option Value) (st₀ t T' : State) (L : List Loc), st₀.heap = H ∧ Stand p l e R s m args below meth c T' (locs ++ L) (cells + mc) (slots + ms) ∧ (∀ q ∈ L, free q.base) ∧ T'.heap = t.heap ∧ T'.vm = t.vm ∧ Qa st₀ (.returned v) t ∧
      Goes p e below T g T' { g with pc := g.pc + 3, stack := v.toList ++ rest }) ∨
    (∃ (q : Addr) (st₀ t T' : State) (L : List Loc) (E : String) (ce : Cell), st₀.heap = H ∧ Stand p l e R s m args below meth c T' (locs ++ L) (cells + mc) (slots + ms) ∧ (∀ z ∈ L, free z.base) ∧ T'.heap = t.heap ∧ T'.vm = t.vm ∧ XC E st₀ t ∧ t.heap[q]? = some ce ∧ ce.vm = .none ∧ s.vm.findClass E = some ce.cls ∧
      Steps p.tables e below (T.setTop g) ((T'.setTop { g with stack := rest }).pushFrame (.throwing q)))
def vx_X {S : Type} (px : S → Prop) (B : String → S → State → Prop) (A : Nat → Prop) : String → State → State → Prop := fun E st t => ∃ u : S, px u ∧ B E u t ∧ va_F A st t
section Runs
variable {p : Program} {l : Launch} {e : Env} {R : Room} {s : State} {m : MethodId} {args : Array Value} {below : List Frame} {meth : Method} {c : Code} {H : Heap} {locs : List Loc} {cells slots : Nat}
variable {y : MethodName} {bytes cc : ByteArray} {maxL nL mc ms n index : Nat} {ret : Option FieldType} {ws : List Cond} {rm : Room} {Pc : Array Value → State → Prop} {Qc : Array Value → State → Outcome → State → Prop} {XC : String → State → State → Prop} {free : Addr → Prop} {Ts : List Cond} {own C : String} {b : Addr} {As rest : List Value} {g : JFrame}
theorem vx_callBack (cb : CallB R s args own index y bytes maxL ret ws rm mc ms n) (hM : vx_Met l y ws rm Pc Qc XC mc ms free) (hbl : FrameBlind Pc) : vx_Back l R p e below s args y 3 8 (PreOf R mc ms Pc) (PostOf Qc mc ms free) (vx_Post XC mc ms free) := by
  obtain ⟨hrc, hrs, hfr, hlo, hws, hcw, -, hini, -⟩ := cb
  exact vx_back (bytes := bytes) (maxL := maxL) (ret := ret) hM hbl hrc hrs hfr hlo hws hcw (fun a' U hW => word_at hW (Or.inl (by first | rfl | simp [Cond.onTables, Cond.keeps, Cond.steady])) hini)
theorem vx_runV (S : CallFix p m c cc nL s args Ts own) (hM : vx_Met l y ws rm Pc Qc XC mc ms free) (cw : CallW R s args own C index y bytes maxL ret ws rm mc ms n) (hp : PreV s H C b Pc As)
    (hg : g.method = m) (hn : As.length = n) (hsize : g.locals.size = nL) (hstack : g.stack = As.reverse ++ .ref b :: rest) (hW : 2 * g.monitorRoom + (rest.map fun v => v.category).sum ≤ 8) (hdg : decode cc g.pc = .ok (.invokevirtual index, 3)) (hf : cells + mc ≤ R.cells ∧ slots + ms ≤ R.slots) :
    vx_Run p l e R s m args below meth c H locs cells slots mc ms g rest (Qc (Value.ref b :: As).toArray) XC free := by
  have hK : vx_Back l R p e below s args y 3 8 (PreOf R mc ms Pc) (PostOf Qc mc ms free) (vx_Post XC mc ms free) := vx_callBack cw.1 hM hp.1
  obtain ⟨⟨-, -, -, -, -, -, hcode, -, hy, hlen, hl⟩, hin, hse⟩ := cw
  obtain ⟨hx, hb, hml, ho, -⟩ := S
  obtain ⟨-, ⟨cellB, hcB, hoB, hclB⟩, hPc⟩ := hp
  intro T hT X
  rcases vx_callV X hx (C := C) (bytes := bytes) (maxL := maxL) (ret := ret) ho hl hin hse hcode hy hK (by rw [hT]; exact hcB) hoB hclB hg (hsize.trans hml.symm) (argsL := As) (rest := rest) (fun sig h => hn.trans (hlen sig h)) hstack hW (by rw [hb]; exact hdg)
    (fun vm₁ hW₁ => ⟨hf.1, hf.2, hPc (T.setVm vm₁) hT hW₁⟩) with ⟨v, vm₁, ⟨U', l2, c2, s2⟩, hW₁, X', ⟨g', mk, t, L, e1, e2, hq, h1, hL, h2, h3⟩, st⟩ | ⟨q, vm₁, ⟨U', l2, c2, s2⟩, hW₁, X', ⟨g', mk, t, L, E, ce, e1, e2, hq, hce, hcv, hcl, h1, hL, h2, h3⟩, st⟩
  · dsimp only [Pt.U, Pt.locs, Pt.cells, Pt.slots] at X' e1 e2 h1 h2 h3 st
    subst h1; subst h2; subst h3
    exact Or.inl ⟨v, (T.setVm vm₁).calling g' mk (Value.ref b :: As).toArray, t, U', L, hT, X', hL, e1, e2, hq, st⟩
  · dsimp only [Pt.U, Pt.locs, Pt.cells, Pt.slots] at X' e1 e2 h1 h2 h3 st hcl
    subst h1; subst h2; subst h3
    exact Or.inr ⟨q, (T.setVm vm₁).calling g' mk (Value.ref b :: As).toArray, t, U', L, E, ce, hT, X', hL, e1, e2, hq, hce, hcv, vx_cls hW₁ hcl, st⟩
theorem vx_runS (S : CallFix p m c cc nL s args Ts own) (hM : vx_Met l y ws rm Pc Qc XC mc ms free) (cw : CallB R s args own index y bytes maxL ret ws rm mc ms n ∧ (Cond.static y).before args s = true) (hp : PreS s H Pc As)
    (hg : g.method = m) (hn : As.length = n) (hsize : g.locals.size = nL) (hstack : g.stack = As.reverse ++ rest) (hW : 2 * g.monitorRoom + (rest.map fun v => v.category).sum ≤ 8) (hdg : decode cc g.pc = .ok (.invokestatic index, 3)) (hf : cells + mc ≤ R.cells ∧ slots + ms ≤ R.slots) :
    vx_Run p l e R s m args below meth c H locs cells slots mc ms g rest (Qc As.toArray) XC free := by
  have hK : vx_Back l R p e below s args y 3 8 (PreOf R mc ms Pc) (PostOf Qc mc ms free) (vx_Post XC mc ms free) := vx_callBack cw.1 hM hp.1
  obtain ⟨⟨-, -, -, -, -, -, hcode, hini, hy, hlen, hl⟩, hstt⟩ := cw
  obtain ⟨hx, hb, hml, ho, -⟩ := S
  intro T hT X
  rcases vx_callS X hx (bytes := bytes) (maxL := maxL) (ret := ret) ho hl hstt hini hcode hy hK hg (hsize.trans hml.symm) (argsL := As) (rest := rest) (fun sig h => hn.trans (hlen sig h)) hstack hW (by rw [hb]; exact hdg)
    (fun vm₁ hW₁ => ⟨hf.1, hf.2, hp.2 (T.setVm vm₁) hT hW₁⟩) with ⟨v, vm₁, ⟨U', l2, c2, s2⟩, hW₁, X', ⟨g', mk, t, L, e1, e2, hq, h1, hL, h2, h3⟩, st⟩ | ⟨q, vm₁, ⟨U', l2, c2, s2⟩, hW₁, X', ⟨g', mk, t, L, E, ce, e1, e2, hq, hce, hcv, hcl, h1, hL, h2, h3⟩, st⟩
  · dsimp only [Pt.U, Pt.locs, Pt.cells, Pt.slots] at X' e1 e2 h1 h2 h3 st
    subst h1; subst h2; subst h3
    exact Or.inl ⟨v, (T.setVm vm₁).calling g' mk As.toArray, t, U', L, hT, X', hL, e1, e2, hq, st⟩
  · dsimp only [Pt.U, Pt.locs, Pt.cells, Pt.slots] at X' e1 e2 h1 h2 h3 st hcl
    subst h1; subst h2; subst h3
    exact Or.inr ⟨q, (T.setVm vm₁).calling g' mk As.toArray, t, U', L, E, ce, hT, X', hL, e1, e2, hq, hce, hcv, vx_cls hW₁ hcl, st⟩
end Runs
section Rows
variable {p : Program} {l : Launch} {e : Env} {R : Room} {s : State} {m : MethodId} {args : Array Value} {below : List Frame} {meth : Method} {c : Code} {H : Heap} {locs : List Loc} {cells slots : Nat} {Q : State → Prop}
variable {mc ms : Nat} {free : Addr → Prop} {A0 A1 : Nat → Prop} {H0 : Heap} {a : Array Value} {pc : Nat} {ls : Array Slot} {st0 rest : List Value}
theorem vx_keep {st₀ t T' : State} {L : List Loc} (h0 : st₀.heap = H) (e1 : T'.heap = t.heap) (hS : va_S A0 H0 H locs) (hA : ∀ q, q < H.size → A1 q → A0 q) (hf : ∀ q, free q → A0 q) (hL : ∀ q ∈ L, free q.base) (hF : va_F A1 st₀ t) :
    H.size ≤ T'.heap.size ∧ (∀ q : Nat, q < H.size → ¬ A1 q → T'.heap[q]? = H[q]?) ∧ va_S A0 H0 T'.heap (locs ++ L) := by
  obtain ⟨hz, hk⟩ := hF
  rw [h0] at hz hk
  exact ⟨by rw [e1]; exact hz, fun q h1 h2 => by rw [e1]; exact hk q h1 h2,
    ⟨Nat.le_trans hS.1 (by rw [e1]; exact hz), fun q h1 h2 => by rw [e1, hk q (Nat.lt_of_lt_of_le h1 hS.1) (fun z => h2 (hA q (Nat.lt_of_lt_of_le h1 hS.1) z))]; exact hS.2.1 q h1 h2, fun q hq => by
      rcases List.mem_append.mp hq with h | h
      · exact hS.2.2 q h
      · exact hf _ (hL q h)⟩⟩
theorem vx_calli {S SX : Type} {post : Int32 → S → Prop} {px : SX → Prop} {B : S → State → Prop} {BX : String → SX → State → Prop} {AX : Nat → Prop} (hr : vx_Run p l e R s m args below meth c H locs cells slots mc ms (F0 m pc ls st0) rest (va_Qi post B A1 a) (vx_X px BX AX) free) (hS : va_S A0 H0 H locs) (hA : ∀ q, q < H.size → A1 q → A0 q) (hf : ∀ q, free q → A0 q) (hAX : ∀ q, q < H.size → AX q → A0 q)
    (kx : ∀ (E : String) (ce : Cell) (q9 : Addr) (u : SX) (t : State) (H1 : Heap) (locs1 : List Loc), t.heap = H1 → s.vm.Alike t.vm → px u → BX E u t → H.size ≤ H1.size → (∀ q : Nat, q < H.size → ¬ AX q → H1[q]? = H[q]?) → va_S A0 H0 H1 locs1 → H1[q9]? = some ce → ce.vm = .none → s.vm.findClass E = some ce.cls → vx_W p l e R s m args below meth c H1 locs1 (cells + mc) (slots + ms) Q (F0 m pc ls rest) q9)
    (kk : ∀ (r : Int32) (u : S) (t : State) (H1 : Heap) (locs1 : List Loc), t.heap = H1 → s.vm.Alike t.vm → post r u → B u t → H.size ≤ H1.size → (∀ q : Nat, q < H.size → ¬ A1 q → H1[q]? = H[q]?) → va_S A0 H0 H1 locs1 → W p l e R s m args below meth c H1 locs1 (cells + mc) (slots + ms) Q (F0 m (pc + 3) ls (.int r :: rest))) : W p l e R s m args below meth c H locs cells slots Q (F0 m pc ls st0) := by
  intro T hT X
  rcases hr T hT X with ⟨v, st₀, t, T', L, h0, X', hL, e1, e2, ⟨⟨r, u, hv, hp, hb⟩, hF⟩, st⟩ | ⟨q, st₀, t, T', L, E, ce, h0, X', hL, e1, e2, ⟨u, hp, hb, hF⟩, hce, hcv, hcl, st⟩
  · cases hv
    obtain ⟨k1, k2, k3⟩ := vx_keep h0 e1 hS hA hf hL hF
    obtain ⟨t2, a1, b1⟩ := kk r u t T'.heap (locs ++ L) e1.symm (by rw [← e2]; exact X'.warmed.alike) hp hb k1 k2 k3 T' rfl X'
    exact ⟨t2, st t2 a1, b1⟩
  · obtain ⟨k1, k2, k3⟩ := vx_keep h0 e1 hS hAX hf hL hF
    obtain ⟨t2, a1, b1⟩ := kx E ce q u t T'.heap (locs ++ L) e1.symm (by rw [← e2]; exact X'.warmed.alike) hp hb k1 k2 k3 (by rw [e1]; exact hce) hcv hcl T' rfl X'
    exact ⟨t2, st.trans a1, b1⟩
theorem vx_calll {S SX : Type} {post : Int64 → S → Prop} {px : SX → Prop} {B : S → State → Prop} {BX : String → SX → State → Prop} {AX : Nat → Prop} (hr : vx_Run p l e R s m args below meth c H locs cells slots mc ms (F0 m pc ls st0) rest (va_Ql post B A1 a) (vx_X px BX AX) free) (hS : va_S A0 H0 H locs) (hA : ∀ q, q < H.size → A1 q → A0 q) (hf : ∀ q, free q → A0 q) (hAX : ∀ q, q < H.size → AX q → A0 q)
    (kx : ∀ (E : String) (ce : Cell) (q9 : Addr) (u : SX) (t : State) (H1 : Heap) (locs1 : List Loc), t.heap = H1 → s.vm.Alike t.vm → px u → BX E u t → H.size ≤ H1.size → (∀ q : Nat, q < H.size → ¬ AX q → H1[q]? = H[q]?) → va_S A0 H0 H1 locs1 → H1[q9]? = some ce → ce.vm = .none → s.vm.findClass E = some ce.cls → vx_W p l e R s m args below meth c H1 locs1 (cells + mc) (slots + ms) Q (F0 m pc ls rest) q9)
    (kk : ∀ (r : Int64) (u : S) (t : State) (H1 : Heap) (locs1 : List Loc), t.heap = H1 → s.vm.Alike t.vm → post r u → B u t → H.size ≤ H1.size → (∀ q : Nat, q < H.size → ¬ A1 q → H1[q]? = H[q]?) → va_S A0 H0 H1 locs1 → W p l e R s m args below meth c H1 locs1 (cells + mc) (slots + ms) Q (F0 m (pc + 3) ls (.long r :: rest))) : W p l e R s m args below meth c H locs cells slots Q (F0 m pc ls st0) := by
  intro T hT X
  rcases hr T hT X with ⟨v, st₀, t, T', L, h0, X', hL, e1, e2, ⟨⟨r, u, hv, hp, hb⟩, hF⟩, st⟩ | ⟨q, st₀, t, T', L, E, ce, h0, X', hL, e1, e2, ⟨u, hp, hb, hF⟩, hce, hcv, hcl, st⟩
  · cases hv
    obtain ⟨k1, k2, k3⟩ := vx_keep h0 e1 hS hA hf hL hF
    obtain ⟨t2, a1, b1⟩ := kk r u t T'.heap (locs ++ L) e1.symm (by rw [← e2]; exact X'.warmed.alike) hp hb k1 k2 k3 T' rfl X'
    exact ⟨t2, st t2 a1, b1⟩
  · obtain ⟨k1, k2, k3⟩ := vx_keep h0 e1 hS hAX hf hL hF
    obtain ⟨t2, a1, b1⟩ := kx E ce q u t T'.heap (locs ++ L) e1.symm (by rw [← e2]; exact X'.warmed.alike) hp hb k1 k2 k3 (by rw [e1]; exact hce) hcv hcl T' rfl X'
    exact ⟨t2, st.trans a1, b1⟩
theorem vx_callf {S SX : Type} {post : UInt32 → S → Prop} {px : SX → Prop} {B : S → State → Prop} {BX : String → SX → State → Prop} {AX : Nat → Prop} (hr : vx_Run p l e R s m args below meth c H locs cells slots mc ms (F0 m pc ls st0) rest (va_Qf post B A1 a) (vx_X px BX AX) free) (hS : va_S A0 H0 H locs) (hA : ∀ q, q < H.size → A1 q → A0 q) (hf : ∀ q, free q → A0 q) (hAX : ∀ q, q < H.size → AX q → A0 q)
    (kx : ∀ (E : String) (ce : Cell) (q9 : Addr) (u : SX) (t : State) (H1 : Heap) (locs1 : List Loc), t.heap = H1 → s.vm.Alike t.vm → px u → BX E u t → H.size ≤ H1.size → (∀ q : Nat, q < H.size → ¬ AX q → H1[q]? = H[q]?) → va_S A0 H0 H1 locs1 → H1[q9]? = some ce → ce.vm = .none → s.vm.findClass E = some ce.cls → vx_W p l e R s m args below meth c H1 locs1 (cells + mc) (slots + ms) Q (F0 m pc ls rest) q9)
    (kk : ∀ (r : UInt32) (u : S) (t : State) (H1 : Heap) (locs1 : List Loc), t.heap = H1 → s.vm.Alike t.vm → post r u → B u t → H.size ≤ H1.size → (∀ q : Nat, q < H.size → ¬ A1 q → H1[q]? = H[q]?) → va_S A0 H0 H1 locs1 → W p l e R s m args below meth c H1 locs1 (cells + mc) (slots + ms) Q (F0 m (pc + 3) ls (.float r :: rest))) : W p l e R s m args below meth c H locs cells slots Q (F0 m pc ls st0) := by
  intro T hT X
  rcases hr T hT X with ⟨v, st₀, t, T', L, h0, X', hL, e1, e2, ⟨⟨r, u, hv, hp, hb⟩, hF⟩, st⟩ | ⟨q, st₀, t, T', L, E, ce, h0, X', hL, e1, e2, ⟨u, hp, hb, hF⟩, hce, hcv, hcl, st⟩
  · cases hv
    obtain ⟨k1, k2, k3⟩ := vx_keep h0 e1 hS hA hf hL hF
    obtain ⟨t2, a1, b1⟩ := kk r u t T'.heap (locs ++ L) e1.symm (by rw [← e2]; exact X'.warmed.alike) hp hb k1 k2 k3 T' rfl X'
    exact ⟨t2, st t2 a1, b1⟩
  · obtain ⟨k1, k2, k3⟩ := vx_keep h0 e1 hS hAX hf hL hF
    obtain ⟨t2, a1, b1⟩ := kx E ce q u t T'.heap (locs ++ L) e1.symm (by rw [← e2]; exact X'.warmed.alike) hp hb k1 k2 k3 (by rw [e1]; exact hce) hcv hcl T' rfl X'
    exact ⟨t2, st.trans a1, b1⟩
theorem vx_calld {S SX : Type} {post : UInt64 → S → Prop} {px : SX → Prop} {B : S → State → Prop} {BX : String → SX → State → Prop} {AX : Nat → Prop} (hr : vx_Run p l e R s m args below meth c H locs cells slots mc ms (F0 m pc ls st0) rest (va_Qd post B A1 a) (vx_X px BX AX) free) (hS : va_S A0 H0 H locs) (hA : ∀ q, q < H.size → A1 q → A0 q) (hf : ∀ q, free q → A0 q) (hAX : ∀ q, q < H.size → AX q → A0 q)
    (kx : ∀ (E : String) (ce : Cell) (q9 : Addr) (u : SX) (t : State) (H1 : Heap) (locs1 : List Loc), t.heap = H1 → s.vm.Alike t.vm → px u → BX E u t → H.size ≤ H1.size → (∀ q : Nat, q < H.size → ¬ AX q → H1[q]? = H[q]?) → va_S A0 H0 H1 locs1 → H1[q9]? = some ce → ce.vm = .none → s.vm.findClass E = some ce.cls → vx_W p l e R s m args below meth c H1 locs1 (cells + mc) (slots + ms) Q (F0 m pc ls rest) q9)
    (kk : ∀ (r : UInt64) (u : S) (t : State) (H1 : Heap) (locs1 : List Loc), t.heap = H1 → s.vm.Alike t.vm → post r u → B u t → H.size ≤ H1.size → (∀ q : Nat, q < H.size → ¬ A1 q → H1[q]? = H[q]?) → va_S A0 H0 H1 locs1 → W p l e R s m args below meth c H1 locs1 (cells + mc) (slots + ms) Q (F0 m (pc + 3) ls (.double r :: rest))) : W p l e R s m args below meth c H locs cells slots Q (F0 m pc ls st0) := by
  intro T hT X
  rcases hr T hT X with ⟨v, st₀, t, T', L, h0, X', hL, e1, e2, ⟨⟨r, u, hv, hp, hb⟩, hF⟩, st⟩ | ⟨q, st₀, t, T', L, E, ce, h0, X', hL, e1, e2, ⟨u, hp, hb, hF⟩, hce, hcv, hcl, st⟩
  · cases hv
    obtain ⟨k1, k2, k3⟩ := vx_keep h0 e1 hS hA hf hL hF
    obtain ⟨t2, a1, b1⟩ := kk r u t T'.heap (locs ++ L) e1.symm (by rw [← e2]; exact X'.warmed.alike) hp hb k1 k2 k3 T' rfl X'
    exact ⟨t2, st t2 a1, b1⟩
  · obtain ⟨k1, k2, k3⟩ := vx_keep h0 e1 hS hAX hf hL hF
    obtain ⟨t2, a1, b1⟩ := kx E ce q u t T'.heap (locs ++ L) e1.symm (by rw [← e2]; exact X'.warmed.alike) hp hb k1 k2 k3 (by rw [e1]; exact hce) hcv hcl T' rfl X'
    exact ⟨t2, st.trans a1, b1⟩
theorem vx_callv {S SX : Type} {post : S → Prop} {px : SX → Prop} {B : S → State → Prop} {BX : String → SX → State → Prop} {AX : Nat → Prop} (hr : vx_Run p l e R s m args below meth c H locs cells slots mc ms (F0 m pc ls st0) rest (va_Qv post B A1 a) (vx_X px BX AX) free) (hS : va_S A0 H0 H locs) (hA : ∀ q, q < H.size → A1 q → A0 q) (hf : ∀ q, free q → A0 q) (hAX : ∀ q, q < H.size → AX q → A0 q)
    (kx : ∀ (E : String) (ce : Cell) (q9 : Addr) (u : SX) (t : State) (H1 : Heap) (locs1 : List Loc), t.heap = H1 → s.vm.Alike t.vm → px u → BX E u t → H.size ≤ H1.size → (∀ q : Nat, q < H.size → ¬ AX q → H1[q]? = H[q]?) → va_S A0 H0 H1 locs1 → H1[q9]? = some ce → ce.vm = .none → s.vm.findClass E = some ce.cls → vx_W p l e R s m args below meth c H1 locs1 (cells + mc) (slots + ms) Q (F0 m pc ls rest) q9)
    (kk : ∀ (u : S) (t : State) (H1 : Heap) (locs1 : List Loc), t.heap = H1 → s.vm.Alike t.vm → post u → B u t → H.size ≤ H1.size → (∀ q : Nat, q < H.size → ¬ A1 q → H1[q]? = H[q]?) → va_S A0 H0 H1 locs1 → W p l e R s m args below meth c H1 locs1 (cells + mc) (slots + ms) Q (F0 m (pc + 3) ls (rest))) : W p l e R s m args below meth c H locs cells slots Q (F0 m pc ls st0) := by
  intro T hT X
  rcases hr T hT X with ⟨v, st₀, t, T', L, h0, X', hL, e1, e2, ⟨⟨u, hv, hp, hb⟩, hF⟩, st⟩ | ⟨q, st₀, t, T', L, E, ce, h0, X', hL, e1, e2, ⟨u, hp, hb, hF⟩, hce, hcv, hcl, st⟩
  · cases hv
    obtain ⟨k1, k2, k3⟩ := vx_keep h0 e1 hS hA hf hL hF
    obtain ⟨t2, a1, b1⟩ := kk u t T'.heap (locs ++ L) e1.symm (by rw [← e2]; exact X'.warmed.alike) hp hb k1 k2 k3 T' rfl X'
    exact ⟨t2, st t2 a1, b1⟩
  · obtain ⟨k1, k2, k3⟩ := vx_keep h0 e1 hS hAX hf hL hF
    obtain ⟨t2, a1, b1⟩ := kx E ce q u t T'.heap (locs ++ L) e1.symm (by rw [← e2]; exact X'.warmed.alike) hp hb k1 k2 k3 (by rw [e1]; exact hce) hcv hcl T' rfl X'
    exact ⟨t2, st.trans a1, b1⟩
/-- caught by the row x of this method's table; the rows ahead don't take it -/
theorem vx_catch {own name : String} {E : String} {ce : Cell} {q : Addr} (hown : s.vm.findClass own = some m.cls) (pre : List ExceptionTableEntry) (x : ExceptionTableEntry) (suf : List ExceptionTableEntry) (hsplit : c.exceptionTable.toList = pre ++ x :: suf)
    (hpass : ∀ z ∈ pre, covers z pc = false ∨ (z.catchType ≠ 0 ∧ ∃ nm : String, (Cond.classLink own z.catchType nm).before args s = true ∧ va_Nc E nm s)) (hx : covers x pc = true) (h0 : x.catchType ≠ 0)
    (hlink : (Cond.classLink own x.catchType name).before args s = true) (hcast : (Cond.castable E name).before args s = true) (hcell : H[q]? = some ce) (hv : ce.vm = .none) (hcl : s.vm.findClass E = some ce.cls)
    (kk : W p l e R s m args below meth c H locs cells slots Q (F0 m x.handlerPc ls [.ref q])) : vx_W p l e R s m args below meth c H locs cells slots Q (F0 m pc ls rest) q := by
  intro T hT X
  have hpl : e.platform.magicAccessors = ({} : Platform).magicAccessors := by rw [X.admits.platform]
  obtain ⟨c3, c4, hc3, hc4, hasg⟩ := Cond.castable_spec hcast
  cases Option.some.inj (hc3.symm.trans hcl)
  obtain ⟨c5, hc5, hcl5⟩ := Cond.classLink_spec hown hlink e.platform hpl
  cases Option.some.inj (hc4.symm.trans hc5)
  obtain ⟨vm', X', st⟩ := X.thenCaughtThrough q (g := F0 m pc ls rest) rfl (Steps.refl _) (by rw [hT]; exact hcell) (by rw [hv]; rfl) (by obtain ⟨k9, h9, -⟩ := Vm.findClass_spec hcl; exact ⟨k9, h9⟩) pre x suf hsplit
    (fun z hz => by
      rcases hpass z hz with h | ⟨hz0, nm, hl1, hn1⟩
      · exact Or.inl h
      · obtain ⟨c6, hc6, hcl6⟩ := Cond.classLink_spec hown hl1 e.platform hpl
        obtain ⟨a8, b8, h1, h2, h3⟩ := hn1
        cases Option.some.inj (h1.symm.trans hcl)
        cases Option.some.inj (h2.symm.trans hc6)
        exact Or.inr ⟨hz0, _, hcl6, h3⟩) hx (Or.inr ⟨h0, c4, hcl5, hasg⟩)
  obtain ⟨t, a1, b1⟩ := kk (T.setVm vm') hT X'
  exact ⟨t, st.trans a1, b1⟩
end Rows
section Ends
variable {p : Program} {l : Launch} {e : Env} {R : Room} {s : State} {m : MethodId} {args : Array Value} {below : List Frame} {meth : Method} {c : Code} {H : Heap} {locs : List Loc} {cells slots : Nat} {Q : State → Prop}
variable {mc ms : Nat} {free : Addr → Prop} {A0 A1 : Nat → Prop} {H0 : Heap} {a : Array Value} {ls : Array Slot} {st0 rest : List Value}
variable {Qc : Array Value → State → Outcome → State → Prop} {XC : String → State → State → Prop}
/-- what a body that may throw owes at its end -/
def vx_MQ (below : List Frame) (Qc : Array Value → State → Outcome → State → Prop) (XC : String → State → State → Prop) (a : Array Value) (s : State) (mc ms : Nat) (free : Addr → Prop) : State → Prop := fun t =>
  ∃ o, t.status = .running ∧ Ended t below o ∧ vx_Q Qc XC mc ms free a s o t
theorem vx_ret {g : JFrame} {mc ms : Nat} (k : W p l e R s m args below meth c H locs cells slots (MQ below Qc args s mc ms free) g) : W p l e R s m args below meth c H locs cells slots (vx_MQ below Qc XC args s mc ms free) g := by
  intro T hT X
  obtain ⟨t, a1, o, b1, b2, b3, b4⟩ := k T hT X
  exact ⟨t, a1, o, b1, b2, Or.inl ⟨b3, b4⟩⟩
/-- not caught here: it goes on to the caller -/
theorem vx_widen {g : JFrame} {q : Addr} {k n : Nat} (h1 : cells ≤ k) (h2 : slots ≤ n) (kk : vx_W p l e R s m args below meth c H locs k n Q g q) : vx_W p l e R s m args below meth c H locs cells slots Q g q := fun T hT X => kk T hT (stand_widen X h1 h2)
theorem vx_out {pc : Nat} {E : String} {ce : Cell} {q : Addr} {mc ms : Nat} (hout : ∀ x ∈ c.exceptionTable.toList, covers x pc = false) (hlocks : meth.locks = false) (hcell : H[q]? = some ce) (hv : ce.vm = .none) (hcl : s.vm.findClass E = some ce.cls)
    (hx : ∀ t : State, t.heap = H → s.vm.Alike t.vm → XC E s t) (hf : ∀ z ∈ locs, free z.base) (hc : cells ≤ mc) (hs : slots ≤ ms) :
    vx_W p l e R s m args below meth c H locs cells slots (vx_MQ below Qc XC args s mc ms free) (F0 m pc ls rest) q := by
  intro T hT X
  obtain ⟨st1, hrun, hend, hW, hsm⟩ := X.leaveThrown q (g := F0 m pc ls rest) rfl rfl rfl hout hlocks
  have hcell9 : (T.setFrames (.throwing q :: below)).heap[q]? = some ce := by
    show T.heap[q]? = some ce
    rw [hT]; exact hcell
  exact ⟨_, st1, .threw q, hrun, hend, Or.inr ⟨q, rfl, E, ce, locs, hx _ hT hW.alike, hcell9, hv, hcl, hW, hsm.mono hc hs, hf⟩⟩
theorem vx_frame {U : State} {k n : Nat} (h : s.sameButNew ({ U with vm := s.vm } : State) locs k n) : s.heap.size ≤ U.heap.size ∧ ∀ q : Nat, q < s.heap.size → (∀ z ∈ locs, z.base ≠ q) → U.heap[q]? = s.heap[q]? := by
  obtain ⟨-, h2, -, -, -, h6⟩ := h
  refine ⟨h2, fun q hq hz => ?_⟩
  obtain ⟨c9, e1, e2, e3, e4⟩ := h6 q _ (Array.getElem?_eq_getElem hq)
  have hs : c9.slots = (s.heap[q]).slots := Array.ext_getElem? fun i => e4 i fun hm => hz _ hm rfl
  have h9 : c9 = s.heap[q] := by
    rw [hs] at e2
    exact e2
  have e5 : U.heap[q]? = some c9 := e1
  rw [e5, h9, Array.getElem?_eq_getElem hq]
/-- the words of a throw but the four that speak of the heap -/
def vx_no (w : Cond) : Bool := decide (w ≠ .isRef (.static Bundle.tN "UNASSIGNED_STACK" Bundle.steD)) && decide (w ≠ .isRef (.static Bundle.tN "SUPPRESSED_SENTINEL" Bundle.listD)) && decide (w ≠ .laysStatic Bundle.tN "UNASSIGNED_STACK" Bundle.steD) && decide (w ≠ .laysStatic Bundle.tN "SUPPRESSED_SENTINEL" Bundle.listD)
def vx_at0 (own : String) (ic : Nat) (X : String) (names : List String) : List Cond := (Bundle.ownAtoms0 own ic X names).filter vx_no
def vx_atS (own : String) (ic : Nat) (X : String) (names : List String) : List Cond := (Bundle.ownAtoms own ic X names).filter vx_no
/-- a word that the tables alone decide, or a good one -/
def vx_ot (w : Cond) : Bool := w.onTables || goodWord w
theorem vx_ot_at {args a' : Array Value} {s U : State} {w : Cond} (hW : s.WarmedH U.vm) (hvm : s.vm = U.vm) (hg : vx_ot w = true) (h : w.before args s = true) : w.before a' U = true := by
  simp only [vx_ot, Bool.or_eq_true] at hg
  rcases hg with hg | hg
  · exact va_tabs hg hvm h
  · exact word_at hW (good_of_word hg) h
/-- a list's words: the good ones out of the method's own list, the others by premises of their own -/
theorem vx_hat {args : Array Value} {s : State} {L B : List Cond} (h1 : ∀ w ∈ L.filter goodWord, w.before args s = true) (h2 : ∀ w ∈ L.filter (fun w => !goodWord w), w ∈ B) (h3 : ∀ w ∈ B, w.before args s = true) : ∀ w ∈ L, w.before args s = true := by
  intro w hw
  by_cases g : goodWord w = true
  · exact h1 w (List.mem_filter.mpr ⟨hw, g⟩)
  · refine h3 w (h2 w (List.mem_filter.mpr ⟨hw, ?_⟩))
    show (!goodWord w) = true
    cases hgw : goodWord w
    · rfl
    · exact absurd hgw g
theorem vx_c {args : Array Value} {s : State} {w : Cond} {B : List Cond} (h : w.before args s = true) (t : ∀ w ∈ B, w.before args s = true) : ∀ w' ∈ w :: B, w'.before args s = true := fun w' h' => (List.mem_cons.mp h').elim (fun e => by rw [e]; exact h) (t w')
theorem vx_n {args : Array Value} {s : State} : ∀ w ∈ ([] : List Cond), w.before args s = true := fun _ h => nomatch h
theorem vx_own {args : Array Value} {s : State} {L : List Cond} (h1 : ∀ w ∈ L.filter vx_no, w.before args s = true)
    (hU : (Cond.isRef (.static Bundle.tN "UNASSIGNED_STACK" Bundle.steD)).before args s = true) (hN : (Cond.isRef (.static Bundle.tN "SUPPRESSED_SENTINEL" Bundle.listD)).before args s = true)
    (lU : (Cond.laysStatic Bundle.tN "UNASSIGNED_STACK" Bundle.steD).before args s = true) (lN : (Cond.laysStatic Bundle.tN "SUPPRESSED_SENTINEL" Bundle.listD).before args s = true) : ∀ w ∈ L, w.before args s = true := by
  intro w hw
  by_cases e1 : w = .isRef (.static Bundle.tN "UNASSIGNED_STACK" Bundle.steD)
  · rw [e1]; exact hU
  · by_cases e2 : w = .isRef (.static Bundle.tN "SUPPRESSED_SENTINEL" Bundle.listD)
    · rw [e2]; exact hN
    · by_cases e3 : w = .laysStatic Bundle.tN "UNASSIGNED_STACK" Bundle.steD
      · rw [e3]; exact lU
      · by_cases e4 : w = .laysStatic Bundle.tN "SUPPRESSED_SENTINEL" Bundle.listD
        · rw [e4]; exact lN
        · exact h1 w (List.mem_filter.mpr ⟨hw, by unfold vx_no; rw [decide_eq_true e1, decide_eq_true e2, decide_eq_true e3, decide_eq_true e4]; rfl⟩)
/-- where a static field lies, its class's statics cell in H -/
def vx_L (C n d : String) (A : Nat → Prop) (U : State) (H : Heap) : Prop := ∃ (c : ClassId) (k : Class) (i : Nat) (f : Field) (a : Nat) (cell : Cell), U.vm.findClass C = some c ∧ U.fieldFound? C n d = some (c, k, i, f) ∧ f.isStatic = true ∧ k.statics = some a ∧ H[a]? = some cell ∧ cell.vm.isStatics = true ∧ cell.cls = c ∧ f.slot < cell.slots.size ∧ k.staticTypes[f.slot]? = some f.type ∧ ¬ A a
theorem vx_L.moved {C n d : String} {A : Nat → Prop} {u U : State} {H : Heap} (hvm : u.vm.Alike U.vm) (h : vx_L C n d A u H) : vx_L C n d A U H := by
  obtain ⟨c, k, i, f, a, cell, h1, h2, h3, h4, h5, h6, h7, h8, h9, h10⟩ := h
  obtain ⟨k', hi', he⟩ := State.fieldFound?_setVm hvm h2
  exact ⟨c, k', i, f, a, cell, by rw [hvm.findClass]; exact h1, hi', h3, by rw [he]; exact h4, h5, h6, h7, h8, by rw [he]; exact h9, h10⟩
theorem vx_L.kept {C n d : String} {A : Nat → Prop} {U : State} {H H1 : Heap} (h : vx_L C n d A U H) (hq : ∀ a : Nat, a < H.size → ¬ A a → H1[a]? = H[a]?) : vx_L C n d A U H1 := by
  obtain ⟨c, k, i, f, a, cell, h1, h2, h3, h4, h5, h6, h7, h8, h9, h10⟩ := h
  exact ⟨c, k, i, f, a, cell, h1, h2, h3, h4, by rw [hq a (Array.getElem?_eq_some_iff.mp h5).1 h10]; exact h5, h6, h7, h8, h9, h10⟩
theorem vx_L.narrow {C n d : String} {A B : Nat → Prop} {U : State} {H : Heap} (h : vx_L C n d A U H) (hAB : ∀ q, B q → A q) : vx_L C n d B U H := by
  obtain ⟨c, k, i, f, a, cell, h1, h2, h3, h4, h5, h6, h7, h8, h9, h10⟩ := h
  exact ⟨c, k, i, f, a, cell, h1, h2, h3, h4, h5, h6, h7, h8, h9, fun z => h10 (hAB _ z)⟩
theorem vx_L.word {C n d : String} {A : Nat → Prop} {s : State} {args : Array Value} (h : vx_L C n d A s s.heap) : (Cond.laysStatic C n d).before args s = true := by
  obtain ⟨c, k, i, f, a, cell, h1, h2, h3, h4, h5, h6, h7, h8, h9, -⟩ := h
  show (Cond.laysStatic C n d).holds args s none s [] = true
  exact Cond.laysStatic_of h1 h2 h3 h4 h5 h6 h7 h8 h9
/-- .. and what it holds: null or some reference -/
def vx_Zq (C n d : String) (A : Nat → Prop) (U : State) (H : Heap) : Prop := va_Zq C n d A U H ∧ vx_L C n d A U H
theorem vx_Zq.moved {C n d : String} {A : Nat → Prop} {u U : State} {H : Heap} (hvm : u.vm.Alike U.vm) (h : vx_Zq C n d A u H) : vx_Zq C n d A U H := ⟨va_Zq.moved hvm h.1, vx_L.moved hvm h.2⟩
theorem vx_Zq.kept {C n d : String} {A : Nat → Prop} {U : State} {H H1 : Heap} (h : vx_Zq C n d A U H) (hq : ∀ a : Nat, a < H.size → ¬ A a → H1[a]? = H[a]?) : vx_Zq C n d A U H1 := ⟨va_Zq.kept h.1 hq, vx_L.kept h.2 hq⟩
theorem vx_Zq.narrow {C n d : String} {A B : Nat → Prop} {U : State} {H : Heap} (h : vx_Zq C n d A U H) (hAB : ∀ q, B q → A q) : vx_Zq C n d B U H := ⟨va_Zq.narrow h.1 hAB, vx_L.narrow h.2 hAB⟩
theorem vx_Zqof {args : Array Value} {s : State} {C n d : String} {A : Nat → Prop} (hl : (Cond.laysStatic C n d).before args s = true) (hini : (Cond.initialized C).before args s = true) (h : (Cond.isRef (.static C n d)).before args s = true) (hA : ∀ a : Nat, a < s.heap.size → ¬ A a) : vx_Zq C n d A s s.heap := by
  refine ⟨va_Zqof hl hini h hA, ?_⟩
  obtain ⟨c, k, i, f, a, cell, h1, h2, h3, h4, h5, h6, h7, h8, h9⟩ := Cond.laysStatic_spec hl
  exact ⟨c, k, i, f, a, cell, h1, h2, h3, h4, h5, h6, h7, h8, h9, hA a (Array.getElem?_eq_some_iff.mp h5).1⟩
theorem vx_isRef {C n d : String} {v : Value} {A : Nat → Prop} {s : State} {args : Array Value} (h : va_Z C n d v A s s.heap) (hv : v.isRef = true) : (Cond.isRef (.static C n d)).before args s = true := by
  obtain ⟨cf, kf, fi, f, a, cell, h1, h2, h3, h4, h5, h6, h7, -⟩ := h
  have he : (Term.static C n d).eval args s none [] s = some v := by
    simp [Term.eval, State.fieldNamed?, h1, h2, h4, h5, h6, h7]
  simp only [Cond.before, Cond.holds, Cond.value, he]
  cases v <;> simp_all [Value.isRef]
theorem vx_isRefq {C n d : String} {A : Nat → Prop} {s : State} {args : Array Value} (h : va_Zq C n d A s s.heap) : (Cond.isRef (.static C n d)).before args s = true := by
  rcases h with h | ⟨t, h⟩
  · exact vx_isRef h rfl
  · exact vx_isRef h rfl
/-- the same frame, seen from here: as if the method were called anew in this heap -/
theorem vx_rebase {T : State} (X : Stand p l e R s m args below meth c T locs cells slots) {R' : Room} (hf : R'.frames ≤ R.frames) (hl : R'.locals ≤ R.locals) (hc : cells + R'.cells ≤ R.cells) (hs : slots + R'.slots ≤ R.slots) :
    Stand p l e R' ((T.setVm s.vm).setFrames (.invoking m args :: below)) m args below meth c T [] 0 0 := by
  have htop : (T.setVm s.vm).topJava?.isSome := X.here.top
  have hF : ((T.setVm s.vm).setFrames (.invoking m args :: below)).frames = .invoking m args :: below := State.frames_setFrames _ (State.cur_lt_of_top htop)
  obtain ⟨g₀, hg0⟩ := Option.isSome_iff_exists.mp htop
  obtain ⟨r, hr⟩ := State.topJava?_eq_some.mp hg0
  have hl9 : e.platform.stackLimits (T.setVm s.vm).me = e.platform.stackLimits s.me := X.limits
  have hb9 : (T.setVm s.vm).me.stackBytes = s.me.stackBytes := X.bytes
  refine ⟨X.admits, X.cas, X.clock, hF, ?_, X.hears, X.method, X.code, X.here, X.tail, X.warmed, ?_, ?_, ?_⟩
  · have h := X.room
    have hU : ((T.setVm s.vm).setFrames (.invoking m args :: below)).localsInUse = s.localsInUse := by
      rw [State.localsInUse_invoking hF (meth := meth) (c := c) X.method X.code, State.localsInUse_invoking X.frames X.method X.code]
    simp only [State.hasRoom, Bool.and_eq_true, decide_eq_true_eq] at h ⊢
    obtain ⟨⟨⟨⟨h1, h2, h3, h4, h5, h6⟩, h7⟩, h8⟩, h9⟩ := h
    rw [X.frames, List.length_cons] at h2 h3
    have q1 := X.heapSize
    have q2 := X.used
    simp only [hF, hU, List.length_cons, State.stackLimits_setFrames, State.stackBytes_setFrames, hl9, hb9]
    refine ⟨⟨⟨⟨by omega, by omega, by omega, by omega, by omega, h6⟩, ?_⟩, ?_⟩, X.book⟩
    · show T.heap.size + R'.cells ≤ e.platform.maxCells
      omega
    · show T.slotsUsed + R'.slots ≤ e.platform.maxSlots
      omega
  · rw [State.stackLimits_setFrames]; rfl
  · rw [State.stackBytes_setFrames]; rfl
  · refine ⟨?_, Nat.le_refl _, Nat.le_refl _, ?_, ?_, fun a c9 h9 => ⟨c9, h9, rfl, rfl, fun _ _ => rfl⟩⟩
    · obtain ⟨t, ht, -⟩ := State.frames_cons hr
      show T.setVm s.vm = { ((T.setVm s.vm).setFrames (.invoking m args :: below)).setFrames (T.setVm s.vm).frames with heap := T.heap, slotsUsed := T.slotsUsed }
      rw [State.setFrames_setFrames, State.setFrames_self ht]
      rfl
    · show T.slotsUsed = T.slotsUsed + ((T.heap.toList.drop T.heap.size).map (·.slots.size)).sum
      rw [List.drop_eq_nil_of_le (Nat.le_of_eq Array.length_toList)]
      rfl
    · show ((T.heap.toList.drop T.heap.size).map (·.slots.size)).sum ≤ 0
      rw [List.drop_eq_nil_of_le (Nat.le_of_eq Array.length_toList)]
      exact Nat.le_refl _
/-- 'throw new E()': new; dup; invokespecial; athrow -/
theorem vx_throw0 {cc : ByteArray} {pc : Nat} (hexec : p.tables.exec = Jvm.exec) (hb : c.code = cc) (hl : l.stackTraces = false) {own cls : String} {names : List String} {ik ic mc ms : Nat} {A : Nat → Prop}
    (hown : s.vm.findClass own = some m.cls) (hcls : Bundle.fit cls = true) (hnames : ∀ n ∈ names, Bundle.fit n = true)
    (hk : (Cond.classLink own ik cls).before args s = true) (hini : (Cond.initialized cls).before args s = true) (hat : ∀ w ∈ vx_at0 own ic cls names, w.before args s = true)
    (hgood : ∀ w ∈ Cond.classLink own ik cls :: Cond.initialized cls :: vx_at0 own ic cls names, vx_ot w = true)
    (hU : vx_Zq Bundle.tN "UNASSIGNED_STACK" Bundle.steD A s s.heap) (hN : vx_Zq Bundle.tN "SUPPRESSED_SENTINEL" Bundle.listD A s s.heap) (hS : va_S A s.heap H locs) (hsize : ls.size = c.maxLocals)
    (d0 : decode cc pc = .ok (.new ik, 3)) (d3 : decode cc (pc + 3) = .ok (.dup, 1)) (d4 : decode cc (pc + 4) = .ok (.invokespecial ic, 3)) (d7 : decode cc (pc + 7) = .ok (.athrow, 1))
    (hout : ∀ x ∈ c.exceptionTable.toList, covers x (pc + 7) = false)
    (hRframes : names.length + 3 < R.frames) (hRlocals : (rest.map fun v => v.category).sum + (13 * (names.length + 1) + 42) ≤ R.locals) (hRcells : cells + 1 ≤ R.cells) (hRslots : slots + 6 ≤ R.slots) (hlocks : meth.locks = false)
    (hx : ∀ t : State, s.vm.Alike t.vm → H.size ≤ t.heap.size → (∀ q : Nat, q < H.size → t.heap[q]? = H[q]?) → XC cls s t)
    (hf : ∀ z ∈ locs, free z.base) (hc : cells + 1 ≤ mc) (hs : slots + 6 ≤ ms) :
    W p l e R s m args below meth c H locs cells slots (vx_MQ below Qc XC args s mc ms free) (F0 m pc ls rest) := by
  intro T hT X
  have htr : e.platform.stackTraces = false := (show e.platform.stackTraces = l.stackTraces by rw [X.admits.platform]).trans hl
  have Y := vx_rebase X (R' := { frames := R.frames, locals := R.locals, cells := 1, slots := 6 }) (Nat.le_refl _) (Nat.le_refl _) hRcells hRslots
  obtain ⟨s', hA⟩ : ∃ z, z = (T.setVm s.vm).setFrames (.invoking m args :: below) := ⟨_, rfl⟩
  rw [← hA] at Y
  have hvm : s'.vm = s.vm := by rw [hA]; rfl
  have hhp : s'.heap = H := by rw [hA]; exact hT
  have hW0 : s.WarmedH s'.vm := by rw [hvm]; exact State.WarmedH.refl s
  have hat' : ∀ w ∈ vx_at0 own ic cls names, w.before args s' = true := fun w hw => vx_ot_at hW0 hvm.symm (hgood w (List.mem_cons_of_mem _ (List.mem_cons_of_mem _ hw))) (hat w hw)
  have hk' : (Cond.classLink own ik cls).before args s' = true := vx_ot_at hW0 hvm.symm (hgood _ List.mem_cons_self) hk
  have hini' : (Cond.initialized cls).before args s' = true := vx_ot_at hW0 hvm.symm (hgood _ (List.mem_cons_of_mem _ List.mem_cons_self)) hini
  have hU' : vx_Zq Bundle.tN "UNASSIGNED_STACK" Bundle.steD A s' s'.heap := by rw [hhp]; exact vx_Zq.moved hW0.alike (hU.kept hS.2.1)
  have hN' : vx_Zq Bundle.tN "SUPPRESSED_SENTINEL" Bundle.listD A s' s'.heap := by rw [hhp]; exact vx_Zq.moved hW0.alike (hN.kept hS.2.1)
  have h : ∀ w ∈ Bundle.ownAtoms0 own ic cls names, w.before args s' = true := vx_own hat' (vx_isRefq hU'.1) (vx_isRefq hN'.1) hU'.2.word hN'.2.word
  have hown' : s'.vm.findClass own = some m.cls := by rw [hvm]; exact hown
  have hins : (Cond.instantiable cls 6).before args s' = true := h _ (by simp [Bundle.ownAtoms0])
  obtain ⟨vm₁, cX, kX, hfX, hkX, -, -, X₁, st1⟩ := Y.newCold hexec (own := own) (C := cls) (index := ik) (n := 6) hown' hk' hins hini'
    (g := F0 m pc ls rest) rfl (by rw [hb]; exact d0) (Nat.le_refl _) (Nat.le_refl _)
  generalize hT1 : (T.setVm vm₁).pushCell { cls := cX, slots := kX.instanceTypes.map defaultValue, vm := .none } = T1 at X₁ st1
  have hcat : (Value.ref T.heap.size).category = 1 := rfl
  have hcellA : T1.heap[T.heap.size]? = some (freshCell cX kX) := by rw [← hT1]; exact State.heap_pushCell_size _ _
  have d3' : decode c.code (pc + 3) = .ok (.dup, 1) := by rw [hb]; exact d3
  obtain ⟨U, hsteps, hrun, hend, hW, hsame, ce, hce, hO⟩ := X₁.ctorThrow0 hexec htr (own := own) (cls := cls) (names := names) (ic := ic) hown' hcls hnames h (fun x hx => nomatch hx) hfX hkX hcellA (by rw [hhp, hT]; exact Nat.le_refl _)
    (g := { method := m, pc := pc + 4, locals := ls, stack := .ref T.heap.size :: .ref T.heap.size :: rest, locked := none }) rfl hsize rfl rfl (rest := rest) rfl
    (by rw [hb]; exact d4) (by rw [hb]; exact d7) hout hRframes (by simp only [List.map_cons, List.sum_cons, hcat]; omega) hlocks
  obtain ⟨f1, f2⟩ := vx_frame hsame
  rw [hhp] at f1 f2
  have hWs : s.WarmedH U.vm := State.WarmedH.trans hW0 hW
  have hcl : s.vm.findClass cls = some ce.cls := by
    have h9 := hO.cls
    rw [hvm] at h9
    exact h9
  have hall : s.sameButNew ({ U with vm := s.vm } : State) locs mc ms := by
    subst hA
    obtain ⟨e1, e2⟩ := hsame
    rw [State.setFrames_setFrames] at e1
    have h2 : (T.setVm s.vm).sameButNew ({ U with vm := s.vm } : State) [] (0 + 1) (0 + 6) := ⟨e1, e2⟩
    have h3 := X.same.trans h2
    rw [List.append_nil] at h3
    exact h3.mono hc hs
  refine ⟨U, ?_, .threw T.heap.size, hrun, hend, Or.inr ⟨T.heap.size, rfl, cls, ce, locs, hx U hWs.alike f1 (fun q hq => f2 q hq (fun z hz => nomatch hz)), hce, hO.vm, hcl, hWs, hall, hf⟩⟩
  refine st1 _ ?_
  show Steps p.tables e below (T1.setTop { method := m, pc := pc + 3, locals := ls, stack := .ref T.heap.size :: rest, locked := none }) _
  jvm_step X₁.here [X₁.here.top, hexec, d3', Value.category]
  exact hsteps
/-- 'throw new E("text")': new; dup; ldc; invokespecial; athrow -/
theorem vx_throwS {cc : ByteArray} {pc : Nat} (hexec : p.tables.exec = Jvm.exec) (hb : c.code = cc) (hl : l.stackTraces = false) {own cls text : String} {names : List String} {ik is ic mc ms sa : Nat} {A : Nat → Prop}
    (hown : s.vm.findClass own = some m.cls) (hcls : Bundle.fit cls = true) (hnames : ∀ n ∈ names, Bundle.fit n = true)
    (hk : (Cond.classLink own ik cls).before args s = true) (hini : (Cond.initialized cls).before args s = true) (hstr : vk_R own is text sa s) (hat : ∀ w ∈ vx_atS own ic cls names, w.before args s = true)
    (hgood : ∀ w ∈ Cond.classLink own ik cls :: Cond.initialized cls :: vx_atS own ic cls names, vx_ot w = true)
    (hU : vx_Zq Bundle.tN "UNASSIGNED_STACK" Bundle.steD A s s.heap) (hN : vx_Zq Bundle.tN "SUPPRESSED_SENTINEL" Bundle.listD A s s.heap) (hS : va_S A s.heap H locs) (hsize : ls.size = c.maxLocals)
    (d0 : decode cc pc = .ok (.new ik, 3)) (d3 : decode cc (pc + 3) = .ok (.dup, 1)) (d4 : decode cc (pc + 4) = .ok (.ldc is, 2)) (d6 : decode cc (pc + 6) = .ok (.invokespecial ic, 3)) (d9 : decode cc (pc + 9) = .ok (.athrow, 1))
    (hout : ∀ x ∈ c.exceptionTable.toList, covers x (pc + 9) = false)
    (hRframes : names.length + 3 < R.frames) (hRlocals : (rest.map fun v => v.category).sum + (13 * (names.length + 1) + 43) ≤ R.locals) (hRcells : cells + 1 ≤ R.cells) (hRslots : slots + 6 ≤ R.slots) (hlocks : meth.locks = false)
    (hx : ∀ t : State, s.vm.Alike t.vm → H.size ≤ t.heap.size → (∀ q : Nat, q < H.size → t.heap[q]? = H[q]?) → XC cls s t)
    (hf : ∀ z ∈ locs, free z.base) (hc : cells + 1 ≤ mc) (hs : slots + 6 ≤ ms) :
    W p l e R s m args below meth c H locs cells slots (vx_MQ below Qc XC args s mc ms free) (F0 m pc ls rest) := by
  intro T hT X
  have htr : e.platform.stackTraces = false := (show e.platform.stackTraces = l.stackTraces by rw [X.admits.platform]).trans hl
  have Y := vx_rebase X (R' := { frames := R.frames, locals := R.locals, cells := 1, slots := 6 }) (Nat.le_refl _) (Nat.le_refl _) hRcells hRslots
  obtain ⟨s', hA⟩ : ∃ z, z = (T.setVm s.vm).setFrames (.invoking m args :: below) := ⟨_, rfl⟩
  rw [← hA] at Y
  have hvm : s'.vm = s.vm := by rw [hA]; rfl
  have hhp : s'.heap = H := by rw [hA]; exact hT
  have hW0 : s.WarmedH s'.vm := by rw [hvm]; exact State.WarmedH.refl s
  have hat' : ∀ w ∈ vx_atS own ic cls names, w.before args s' = true := fun w hw => vx_ot_at hW0 hvm.symm (hgood w (List.mem_cons_of_mem _ (List.mem_cons_of_mem _ hw))) (hat w hw)
  have hk' : (Cond.classLink own ik cls).before args s' = true := vx_ot_at hW0 hvm.symm (hgood _ List.mem_cons_self) hk
  have hini' : (Cond.initialized cls).before args s' = true := vx_ot_at hW0 hvm.symm (hgood _ (List.mem_cons_of_mem _ List.mem_cons_self)) hini
  have hU' : vx_Zq Bundle.tN "UNASSIGNED_STACK" Bundle.steD A s' s'.heap := by rw [hhp]; exact vx_Zq.moved hW0.alike (hU.kept hS.2.1)
  have hN' : vx_Zq Bundle.tN "SUPPRESSED_SENTINEL" Bundle.listD A s' s'.heap := by rw [hhp]; exact vx_Zq.moved hW0.alike (hN.kept hS.2.1)
  have h : ∀ w ∈ Bundle.ownAtoms own ic cls names, w.before args s' = true := vx_own hat' (vx_isRefq hU'.1) (vx_isRefq hN'.1) hU'.2.word hN'.2.word
  have hown' : s'.vm.findClass own = some m.cls := by rw [hvm]; exact hown
  have hins : (Cond.instantiable cls 6).before args s' = true := h _ (by simp [Bundle.ownAtoms])
  obtain ⟨vm₁, cX, kX, hfX, hkX, -, -, X₁, st1⟩ := Y.newCold hexec (own := own) (C := cls) (index := ik) (n := 6) hown' hk' hins hini'
    (g := F0 m pc ls rest) rfl (by rw [hb]; exact d0) (Nat.le_refl _) (Nat.le_refl _)
  generalize hT1 : (T.setVm vm₁).pushCell { cls := cX, slots := kX.instanceTypes.map defaultValue, vm := .none } = T1 at X₁ st1
  have hcat : (Value.ref T.heap.size).category = 1 := rfl
  have hcellA : T1.heap[T.heap.size]? = some (freshCell cX kX) := by rw [← hT1]; exact State.heap_pushCell_size _ _
  have d3' : decode c.code (pc + 3) = .ok (.dup, 1) := by rw [hb]; exact d3
  have d4' : decode c.code (pc + 4) = .ok (.ldc is, 2) := by rw [hb]; exact d4
  have hstr' : vk_R own is text sa s' := vk_R.warm hW0 hstr
  obtain ⟨U, hsteps, hrun, hend, hW, hsame, ce, hce, hO⟩ := X₁.ctorThrowS hexec htr (own := own) (cls := cls) (names := names) (ic := ic) hown' hcls hnames h (fun x hx => nomatch hx) hfX hkX hcellA (by rw [hhp, hT]; exact Nat.le_refl _) (msg := .ref sa) rfl
    (g := { method := m, pc := pc + 6, locals := ls, stack := .ref sa :: .ref T.heap.size :: .ref T.heap.size :: rest, locked := none }) rfl hsize rfl rfl (rest := rest) rfl
    (by rw [hb]; exact d6) (by rw [hb]; exact d9) hout hRframes (by simp only [List.map_cons, List.sum_cons, hcat]; omega) hlocks
  obtain ⟨f1, f2⟩ := vx_frame hsame
  rw [hhp] at f1 f2
  have hWs : s.WarmedH U.vm := State.WarmedH.trans hW0 hW
  have hcl : s.vm.findClass cls = some ce.cls := by
    have h9 := hO.cls
    rw [hvm] at h9
    exact h9
  have hall : s.sameButNew ({ U with vm := s.vm } : State) locs mc ms := by
    subst hA
    obtain ⟨e1, e2⟩ := hsame
    rw [State.setFrames_setFrames] at e1
    have h2 : (T.setVm s.vm).sameButNew ({ U with vm := s.vm } : State) [] (0 + 1) (0 + 6) := ⟨e1, e2⟩
    have h3 := X.same.trans h2
    rw [List.append_nil] at h3
    exact h3.mono hc hs
  refine ⟨U, ?_, .threw T.heap.size, hrun, hend, Or.inr ⟨T.heap.size, rfl, cls, ce, locs, hx U hWs.alike f1 (fun q hq => f2 q hq (fun z hz => nomatch hz)), hce, hO.vm, hcl, hWs, hall, hf⟩⟩
  refine st1 _ ?_
  show Steps p.tables e below (T1.setTop { method := m, pc := pc + 3, locals := ls, stack := .ref T.heap.size :: rest, locked := none }) _
  jvm_step X₁.here [X₁.here.top, hexec, d3', Value.category]
  exact X₁.ldcString hexec (own := own) (text := text) (index := is) (a := sa) hown' hstr'.1 hstr'.2
    (g := { method := m, pc := pc + 4, locals := ls, stack := .ref T.heap.size :: .ref T.heap.size :: rest, locked := none }) rfl d4' _ hsteps
/-- 'throw new E("text")', the text by a wide index -/
theorem vx_throwSW {cc : ByteArray} {pc : Nat} (hexec : p.tables.exec = Jvm.exec) (hb : c.code = cc) (hl : l.stackTraces = false) {own cls text : String} {names : List String} {ik is ic mc ms sa : Nat} {A : Nat → Prop}
    (hown : s.vm.findClass own = some m.cls) (hcls : Bundle.fit cls = true) (hnames : ∀ n ∈ names, Bundle.fit n = true)
    (hk : (Cond.classLink own ik cls).before args s = true) (hini : (Cond.initialized cls).before args s = true) (hstr : vk_R own is text sa s) (hat : ∀ w ∈ vx_atS own ic cls names, w.before args s = true)
    (hgood : ∀ w ∈ Cond.classLink own ik cls :: Cond.initialized cls :: vx_atS own ic cls names, vx_ot w = true)
    (hU : vx_Zq Bundle.tN "UNASSIGNED_STACK" Bundle.steD A s s.heap) (hN : vx_Zq Bundle.tN "SUPPRESSED_SENTINEL" Bundle.listD A s s.heap) (hS : va_S A s.heap H locs) (hsize : ls.size = c.maxLocals)
    (d0 : decode cc pc = .ok (.new ik, 3)) (d3 : decode cc (pc + 3) = .ok (.dup, 1)) (d4 : decode cc (pc + 4) = .ok (.ldc_w is, 3)) (d7 : decode cc (pc + 7) = .ok (.invokespecial ic, 3)) (d10 : decode cc (pc + 10) = .ok (.athrow, 1))
    (hout : ∀ x ∈ c.exceptionTable.toList, covers x (pc + 10) = false)
    (hRframes : names.length + 3 < R.frames) (hRlocals : (rest.map fun v => v.category).sum + (13 * (names.length + 1) + 43) ≤ R.locals) (hRcells : cells + 1 ≤ R.cells) (hRslots : slots + 6 ≤ R.slots) (hlocks : meth.locks = false)
    (hx : ∀ t : State, s.vm.Alike t.vm → H.size ≤ t.heap.size → (∀ q : Nat, q < H.size → t.heap[q]? = H[q]?) → XC cls s t)
    (hf : ∀ z ∈ locs, free z.base) (hc : cells + 1 ≤ mc) (hs : slots + 6 ≤ ms) :
    W p l e R s m args below meth c H locs cells slots (vx_MQ below Qc XC args s mc ms free) (F0 m pc ls rest) := by
  intro T hT X
  have htr : e.platform.stackTraces = false := (show e.platform.stackTraces = l.stackTraces by rw [X.admits.platform]).trans hl
  have Y := vx_rebase X (R' := { frames := R.frames, locals := R.locals, cells := 1, slots := 6 }) (Nat.le_refl _) (Nat.le_refl _) hRcells hRslots
  obtain ⟨s', hA⟩ : ∃ z, z = (T.setVm s.vm).setFrames (.invoking m args :: below) := ⟨_, rfl⟩
  rw [← hA] at Y
  have hvm : s'.vm = s.vm := by rw [hA]; rfl
  have hhp : s'.heap = H := by rw [hA]; exact hT
  have hW0 : s.WarmedH s'.vm := by rw [hvm]; exact State.WarmedH.refl s
  have hat' : ∀ w ∈ vx_atS own ic cls names, w.before args s' = true := fun w hw => vx_ot_at hW0 hvm.symm (hgood w (List.mem_cons_of_mem _ (List.mem_cons_of_mem _ hw))) (hat w hw)
  have hk' : (Cond.classLink own ik cls).before args s' = true := vx_ot_at hW0 hvm.symm (hgood _ List.mem_cons_self) hk
  have hini' : (Cond.initialized cls).before args s' = true := vx_ot_at hW0 hvm.symm (hgood _ (List.mem_cons_of_mem _ List.mem_cons_self)) hini
  have hU' : vx_Zq Bundle.tN "UNASSIGNED_STACK" Bundle.steD A s' s'.heap := by rw [hhp]; exact vx_Zq.moved hW0.alike (hU.kept hS.2.1)
  have hN' : vx_Zq Bundle.tN "SUPPRESSED_SENTINEL" Bundle.listD A s' s'.heap := by rw [hhp]; exact vx_Zq.moved hW0.alike (hN.kept hS.2.1)
  have h : ∀ w ∈ Bundle.ownAtoms own ic cls names, w.before args s' = true := vx_own hat' (vx_isRefq hU'.1) (vx_isRefq hN'.1) hU'.2.word hN'.2.word
  have hown' : s'.vm.findClass own = some m.cls := by rw [hvm]; exact hown
  have hins : (Cond.instantiable cls 6).before args s' = true := h _ (by simp [Bundle.ownAtoms])
  obtain ⟨vm₁, cX, kX, hfX, hkX, -, -, X₁, st1⟩ := Y.newCold hexec (own := own) (C := cls) (index := ik) (n := 6) hown' hk' hins hini'
    (g := F0 m pc ls rest) rfl (by rw [hb]; exact d0) (Nat.le_refl _) (Nat.le_refl _)
  generalize hT1 : (T.setVm vm₁).pushCell { cls := cX, slots := kX.instanceTypes.map defaultValue, vm := .none } = T1 at X₁ st1
  have hcat : (Value.ref T.heap.size).category = 1 := rfl
  have hcellA : T1.heap[T.heap.size]? = some (freshCell cX kX) := by rw [← hT1]; exact State.heap_pushCell_size _ _
  have d3' : decode c.code (pc + 3) = .ok (.dup, 1) := by rw [hb]; exact d3
  have d4' : decode c.code (pc + 4) = .ok (.ldc_w is, 3) := by rw [hb]; exact d4
  have hstr' : vk_R own is text sa s' := vk_R.warm hW0 hstr
  obtain ⟨U, hsteps, hrun, hend, hW, hsame, ce, hce, hO⟩ := X₁.ctorThrowS hexec htr (own := own) (cls := cls) (names := names) (ic := ic) hown' hcls hnames h (fun x hx => nomatch hx) hfX hkX hcellA (by rw [hhp, hT]; exact Nat.le_refl _) (msg := .ref sa) rfl
    (g := { method := m, pc := pc + 7, locals := ls, stack := .ref sa :: .ref T.heap.size :: .ref T.heap.size :: rest, locked := none }) rfl hsize rfl rfl (rest := rest) rfl
    (by rw [hb]; exact d7) (by rw [hb]; exact d10) hout hRframes (by simp only [List.map_cons, List.sum_cons, hcat]; omega) hlocks
  obtain ⟨f1, f2⟩ := vx_frame hsame
  rw [hhp] at f1 f2
  have hWs : s.WarmedH U.vm := State.WarmedH.trans hW0 hW
  have hcl : s.vm.findClass cls = some ce.cls := by
    have h9 := hO.cls
    rw [hvm] at h9
    exact h9
  have hall : s.sameButNew ({ U with vm := s.vm } : State) locs mc ms := by
    subst hA
    obtain ⟨e1, e2⟩ := hsame
    rw [State.setFrames_setFrames] at e1
    have h2 : (T.setVm s.vm).sameButNew ({ U with vm := s.vm } : State) [] (0 + 1) (0 + 6) := ⟨e1, e2⟩
    have h3 := X.same.trans h2
    rw [List.append_nil] at h3
    exact h3.mono hc hs
  refine ⟨U, ?_, .threw T.heap.size, hrun, hend, Or.inr ⟨T.heap.size, rfl, cls, ce, locs, hx U hWs.alike f1 (fun q hq => f2 q hq (fun z hz => nomatch hz)), hce, hO.vm, hcl, hWs, hall, hf⟩⟩
  refine st1 _ ?_
  show Steps p.tables e below (T1.setTop { method := m, pc := pc + 3, locals := ls, stack := .ref T.heap.size :: rest, locked := none }) _
  jvm_step X₁.here [X₁.here.top, hexec, d3', Value.category]
  exact X₁.ldcStringW hexec (own := own) (text := text) (index := is) (a := sa) hown' hstr'.1 hstr'.2
    (g := { method := m, pc := pc + 4, locals := ls, stack := .ref T.heap.size :: .ref T.heap.size :: rest, locked := none }) rfl d4' _ hsteps
end Ends
section Bodies
variable {l : Launch}
theorem vx_ofW {y : MethodName} {ws ws' : List Cond} {rm : Room} {Pc : Array Value → State → Prop} {Qc : Array Value → State → Outcome → State → Prop} {XC : String → State → State → Prop} {mc ms : Nat} {free : Addr → Prop} {cc : ByteArray} {maxL : Nat} {ret : Option FieldType}
    (hy : plainName y.cls = true) (hw : ws = Cond.code y cc maxL ret :: ws')
    (body : ∀ p e s m args below meth c s₁, BodyLoose p l y (headSpec ws rm) cc maxL ret e s m args below meth c s₁ → c.maxLocals = maxL → (∀ x ∈ c.exceptionTable.toList, False) → Pc args s →
      W p l e (headSpec ws rm).room s m args below meth c s.heap [] 0 0 (vx_MQ below Qc XC args s mc ms free) (entryFrame m args maxL)) : vx_Met l y ws rm Pc Qc XC mc ms free := by
  refine MetFree.of_bodyS (code := cc) (maxLocals := maxL) (ret := ret) hy ?_ ?_
  · intro args s m h hn
    obtain ⟨meth, c, h1, h2, h3, h4, h5, h6, -, -⟩ := Cond.code_spec hn (atoms_spec (ws := ws) h _ (by rw [hw]; exact List.mem_cons_self))
    exact ⟨meth, c, h1, h2, h3, h4, h5, h6⟩
  · intro p e s m args below meth c s₁ B hml hP _
    have hh0 : s₁.heap = s.heap := by rw [B.state]; rfl
    have ht : ∀ x ∈ c.exceptionTable.toList, False := by
      obtain ⟨meth9, c9, h1, h2, -, -, -, -, h7, -⟩ := Cond.code_spec B.named (atoms_spec (ws := ws) B.pre _ (by rw [hw]; exact List.mem_cons_self))
      cases Option.some.inj (h1.symm.trans B.method)
      cases Option.some.inj (h2.symm.trans (Stand.of_body B).code)
      intro x hx
      rw [Array.isEmpty_iff.mp h7] at hx
      cases hx
    obtain ⟨t, a1, o, b1, b2, b3⟩ := body p e s m args below meth c s₁ B hml ht hP s₁ hh0 (Stand.of_body B)
    exact ⟨t, o, a1, b1, b2, b3⟩
/-- the table of a body with handlers -/
theorem vx_table {p : Program} {x y : MethodName} {S : Spec} {cc bytes : ByteArray} {maxL maxL' : Nat} {ret ret' : Option FieldType} {e : Env} {s s₁ : State} {m : MethodId} {args : Array Value} {below : List Frame} {meth : Method} {c : Code} {hh : List (Nat × Nat × Nat × Nat)}
    (B : BodyLoose p l y S cc maxL ret e s m args below meth c s₁) (h : (Cond.codeWith y bytes maxL' ret' hh).before args s = true) : c.exceptionTable.toList = tableOf hh := by
  obtain ⟨m9, meth9, c9, hn9, h1, h2, -, -, h6, -⟩ := Cond.codeWith_spec h
  cases Option.some.inj (hn9.symm.trans B.named)
  cases Option.some.inj (h1.symm.trans B.method)
  cases Option.some.inj (h2.symm.trans (Stand.of_body B).code)
  rw [← h6, table_eq]
end Bodies
end VXA
/-! ===== END ===== -/
/-! ===== BEGIN a static call of a method with an exception table ===== -/
section VXS
variable {p : Program} {l : Launch} {e : Env} {R : Room} {s : State} {m : MethodId} {args : Array Value} {below : List Frame} {meth : Method} {c : Code} {T : State} {H : Heap} {locs : List Loc} {cells slots : Nat}
abbrev vx_CSW (R : Room) (s : State) (args : Array Value) (own : String) (index : Nat) (y : MethodName) (bytes : ByteArray) (maxL : Nat) (ret : Option FieldType) (hh : List (Nat × Nat × Nat × Nat)) (ws : List Cond) (rm : Room) (mc ms n : Nat) : Prop :=
  (rm.cells = mc ∧ rm.slots = ms ∧ rm.frames + 1 ≤ R.frames ∧ 8 + (maxL + 11) + rm.locals ≤ R.locals ∧ (∀ w ∈ ws, ∀ (a' : Array Value) (U : State), s.WarmedH U.vm → w.before a' U = true) ∧ Cond.codeWith y bytes maxL ret hh ∈ ws) ∧
  (Cond.codeWith y bytes maxL ret hh).before args s = true ∧ (Cond.initialized y.cls).before args s = true ∧ (y.cls ≠ "java/lang/invoke/MethodHandle" ∧ y.cls ≠ "java/lang/invoke/VarHandle") ∧
  (∀ sig, parseMethodDescriptor y.desc = some sig → n = sig.parameters.length) ∧ (Cond.methodLink own index y).before args s = true ∧ (Cond.static y).before args s = true
theorem vx_cwSW {own : String} {index maxL mc ms : Nat} {y : MethodName} {bytes : ByteArray} {ret : Option FieldType} {hh : List (Nat × Nat × Nat × Nat)} {Ts ws ws' : List Cond} {rm : Room} (n : Nat) (ht : ∀ w ∈ Ts, w.before args s = true) (hT : GoodIn Ts (va_wsS own index y ws)) (hw : ws = Cond.codeWith y bytes maxL ret hh :: ws') (hrc : rm.cells = mc) (hrs : rm.slots = ms)
    (hd : y.cls ≠ "java/lang/invoke/MethodHandle" ∧ y.cls ≠ "java/lang/invoke/VarHandle" ∧ (parseMethodDescriptor y.desc).map (fun d => d.parameters.length) = some n) (hR : rm.frames + 1 ≤ R.frames ∧ 8 + (maxL + 11) + rm.locals ≤ R.locals) :
    vx_CSW R s args own index y bytes maxL ret hh ws rm mc ms n := by
  have ok : ∀ w ∈ va_wsS own index y ws, w.before args s = true := fun w h => ht w (hT w h).1
  have hG : GoodIn Ts ws := fun w h => hT w (by unfold va_wsS; exact List.mem_append_right _ h)
  have hc : Cond.codeWith y bytes maxL ret hh ∈ ws := by rw [hw]; exact List.mem_cons_self
  refine ⟨⟨hrc, hrs, hR.1, hR.2, pay_in ht hG, hc⟩, ht _ (hG _ hc).1, ok _ (by simp [va_wsS]), ⟨hd.1, hd.2.1⟩, fun sig h => ?_, ok _ (by simp [va_wsS]), ok _ (by simp [va_wsS])⟩
  have h2 := hd.2.2
  rw [h] at h2
  exact (Option.some.inj h2).symm
theorem vx_callSW (X : Stand p l e R s m args below meth c T locs cells slots) (hexec : p.tables.exec = Jvm.exec) {own : String} {index : Nat} {y : MethodName} {bytes : ByteArray} {maxL : Nat} {ret : Option FieldType} {hh : List (Nat × Nat × Nat × Nat)}
    (hown : s.vm.findClass own = some m.cls) (hlink : (Cond.methodLink own index y).before args s = true) (hstat : (Cond.static y).before args s = true) (hinit : (Cond.initialized y.cls).before args s = true)
    (hcode : (Cond.codeWith y bytes maxL ret hh).before args s = true) (hy : y.cls ≠ "java/lang/invoke/MethodHandle" ∧ y.cls ≠ "java/lang/invoke/VarHandle")
    {W9 : Nat} {Pre : Pt → Array Value → Prop} {Post : Pt → Array Value → Option Value → Pt → Prop} (hK : Back l R p e below s args y 3 W9 Pre Post)
    {g : JFrame} (hg : g.method = m) (hsize : g.locals.size = c.maxLocals) {argsL rest : List Value} (hlen : ∀ sig, parseMethodDescriptor y.desc = some sig → argsL.length = sig.parameters.length)
    (hstack : g.stack = argsL.reverse ++ rest) (hW : 2 * g.monitorRoom + (rest.map fun v => v.category).sum ≤ W9) (hdg : decode c.code g.pc = .ok (.invokestatic index, 3))
    (hpre : ∀ vm₁, s.WarmedH vm₁ → Pre ⟨T.setVm vm₁, locs, cells, slots⟩ argsL.toArray) :
    ∃ (v : Option Value) (vm₁ : Vm) (B : Pt), s.WarmedH vm₁ ∧ Stand p l e R s m args below meth c B.U B.locs B.cells B.slots ∧ Post ⟨T.setVm vm₁, locs, cells, slots⟩ argsL.toArray v B ∧
      ∀ target, Steps p.tables e below (B.U.setTop { g with pc := g.pc + 3, stack := v.toList ++ rest }) target → Steps p.tables e below (T.setTop g) target := by
  obtain ⟨mk, methM, cM, hnamed, hmethM, -, -, -, -, -, -, hsigM⟩ := Cond.codeWith_spec hcode
  have hstatic : methM.isStatic = true := Cond.static_spec hnamed hmethM hstat
  obtain ⟨kP, hkP, -⟩ := className_of_methodNamed hnamed
  have hinitP : kP.init = .initialized := Cond.initialized_spec (findClass_of_methodNamed hnamed) hkP hinit
  obtain ⟨vm₁, X₁, hstep₁⟩ := X.invokestatic hexec hown hlink hnamed hmethM hstatic hkP hinitP hy (g := g) hg (argsL := argsL) (rest := rest) (hlen _ hsigM) hstack hdg
  obtain ⟨v, B, X', hpost, hsteps⟩ := hK m meth c ⟨T.setVm vm₁, locs, cells, slots⟩ { g with stack := rest } (.invokestatic index) mk argsL.toArray X₁ hg hsize hdg hW (X₁.named hnamed) (hpre vm₁ X₁.warmed)
  exact ⟨v, vm₁, B, X₁.warmed, X', hpost, fun target h => hstep₁ _ fun acts => by rw [doInvoke_state]; exact hsteps.trans h⟩
theorem vx_runSW {y : MethodName} {bytes cc : ByteArray} {maxL nL mc ms n index : Nat} {ret : Option FieldType} {hh : List (Nat × Nat × Nat × Nat)} {ws : List Cond} {rm : Room} {Pc : Array Value → State → Prop} {Qc : Array Value → State → Outcome → State → Prop} {free : Addr → Prop} {Ts : List Cond} {own : String} {As rest : List Value} {g : JFrame}
    (S : CallFix p m c cc nL s args Ts own) (hM : Met l y ws rm Pc Qc mc ms free) (cw : vx_CSW R s args own index y bytes maxL ret hh ws rm mc ms n) (hp : PreS s H Pc As)
    (hg : g.method = m) (hn : As.length = n) (hsize : g.locals.size = nL) (hstack : g.stack = As.reverse ++ rest) (hW : 2 * g.monitorRoom + (rest.map fun v => v.category).sum ≤ 8) (hdg : decode cc g.pc = .ok (.invokestatic index, 3)) (hf : cells + mc ≤ R.cells ∧ slots + ms ≤ R.slots) :
    va_Run p l e R s m args below meth c H locs cells slots mc ms g rest (Qc As.toArray) (free) := by
  obtain ⟨⟨hrc, hrs, hfr, hlo, hws, hcw⟩, hcode, hini, hy, hlen, hl, hstt⟩ := cw
  have hK : Back l R p e below s args y 3 8 (PreOf R mc ms Pc) (PostOf Qc mc ms free) := va_backW (hh := hh) (bytes := bytes) (maxL := maxL) (ret := ret) hM hp.1 hrc hrs hfr hlo hws hcw (fun a' U hW => word_at hW (Or.inl (by first | rfl | simp [Cond.onTables, Cond.keeps, Cond.steady])) hini)
  obtain ⟨hx, hb, hml, ho, -⟩ := S
  intro T hT X
  obtain ⟨v, vm₁, ⟨U', l2, c2, s2⟩, hW₁, X', ⟨g', mk, t, L, e1, e2, hq, h1, hL, h2, h3⟩, st⟩ := vx_callSW X hx (hh := hh) (bytes := bytes) (maxL := maxL) (ret := ret) ho hl hstt hini hcode hy hK hg (hsize.trans hml.symm) (argsL := As) (rest := rest) (fun sig h => hn.trans (hlen sig h)) hstack hW (by rw [hb]; exact hdg)
    (fun vm₁ hW₁ => ⟨hf.1, hf.2, hp.2 (T.setVm vm₁) hT hW₁⟩)
  dsimp only [Pt.U, Pt.locs, Pt.cells, Pt.slots] at X' e1 e2 h1 h2 h3 st
  subst h1; subst h2; subst h3
  exact ⟨v, (T.setVm vm₁).calling g' mk As.toArray, t, U', L, hT, X', hL, e1, e2, hq, st⟩
/-- not caught here, past rows that name other classes: it goes on to the caller -/
theorem vx_outP {p : Program} {l : Launch} {e : Env} {R : Room} {s : State} {m : MethodId} {args : Array Value} {below : List Frame} {meth : Method} {c : Code} {H : Heap} {locs : List Loc} {cells slots : Nat} {free : Addr → Prop} {ls : Array Slot} {rest : List Value} {Qc : Array Value → State → Outcome → State → Prop} {XC : String → State → State → Prop}
    {pc : Nat} {own E : String} {ce : Cell} {q : Addr} {mc ms : Nat} (hown : s.vm.findClass own = some m.cls) (hlocks : meth.locks = false)
    (hpass : ∀ z ∈ c.exceptionTable.toList, covers z pc = false ∨ (z.catchType ≠ 0 ∧ ∃ nm : String, (Cond.classLink own z.catchType nm).before args s = true ∧ va_Nc E nm s)) (hcell : H[q]? = some ce) (hv : ce.vm = .none) (hcl : s.vm.findClass E = some ce.cls)
    (hx : ∀ t : State, t.heap = H → s.vm.Alike t.vm → XC E s t) (hf : ∀ z ∈ locs, free z.base) (hc : cells ≤ mc) (hs : slots ≤ ms) :
    vx_W p l e R s m args below meth c H locs cells slots (vx_MQ below Qc XC args s mc ms free) (F0 m pc ls rest) q := by
  intro T hT X
  have hpl : e.platform.magicAccessors = ({} : Platform).magicAccessors := by rw [X.admits.platform]
  obtain ⟨vm', hW', X', st⟩ := X.outThrough hlocks q (g := F0 m pc ls rest) rfl rfl rfl (cell := ce) (by rw [hT]; exact hcell) (by rw [hv]; rfl)
    (by obtain ⟨k9, h9, -⟩ := Vm.findClass_spec hcl; exact ⟨k9, h9⟩) (fun z hz => by
      rcases hpass z hz with h | ⟨hz0, nm, hl1, hn1⟩
      · exact Or.inl h
      · obtain ⟨c6, hc6, hcl6⟩ := Cond.classLink_spec hown hl1 e.platform hpl
        obtain ⟨a8, b8, h1, h2, h3⟩ := hn1
        cases Option.some.inj (h1.symm.trans hcl)
        cases Option.some.inj (h2.symm.trans hc6)
        exact Or.inr ⟨hz0, _, hcl6, h3⟩)
  obtain ⟨g₀, hfr⟩ := X'.frames_eq
  have hcell9 : ((T.setVm vm').setFrames (.throwing q :: below)).heap[q]? = some ce := by
    show T.heap[q]? = some ce
    rw [hT]; exact hcell
  have hend : Ended ((T.setVm vm').setFrames (.throwing q :: below)) below (.threw q) := State.frames_setFrames _ (State.cur_lt_of_frames hfr)
  refine ⟨(T.setVm vm').setFrames (.throwing q :: below), ?_, .threw q, X'.here.running, hend, Or.inr ⟨q, rfl, E, ce, locs, hx _ hT (X'.ends _).1.alike, hcell9, hv, hcl, (X'.ends _).1, (X'.ends _).2.mono hc hs, hf⟩⟩
  rw [X.pushThrowing_eq]
  exact st
/-- a thing of a world lies in the heap -/
theorem vx_lt {D : va_G} {cl : List vw_C} {ws : va_W} {H1 : Heap} (h : va_P D cl ws H1) {k : Nat} {q : Nat × va_E} (hk : ws[k]? = some q) : q.1 < H1.size := (h k q hk).lt
end VXS
/-! ===== END ===== -/
/-! ===== BEGIN methods with a table of their own: called by a name, returning or throwing ===== -/
section VXH
/-! vx_backW, vx_callVX, vx_callSX, vx_callVW, vx_runVW, vx_runVX, vx_runSX, vx_ofWH follow the same proofs as their sisters above (Free/Laws.lean, Shelf42/LK1.lean); vx_outP calls Shelf42/NT130.lean (outThrough). -/
section
variable {l : Launch} {R : Room} {p : Program} {e : Env} {below : List Frame} {s : State} {sargs : Array Value} {y : MethodName} {len W9 : Nat}
theorem vx_backW {ws : List Cond} {rm : Room} {Pc : Array Value → State → Prop} {Qc : Array Value → State → Outcome → State → Prop} {XC : String → State → State → Prop} {mc ms : Nat} {free : Addr → Prop} {bytes : ByteArray} {maxL : Nat} {ret : Option FieldType} {hh : List (Nat × Nat × Nat × Nat)}
    (hM : vx_Met l y ws rm Pc Qc XC mc ms free) (hblind : FrameBlind Pc) (hrc : rm.cells = mc) (hrs : rm.slots = ms)
    (hframes : rm.frames + 1 ≤ R.frames) (hlocals : W9 + (maxL + 11) + rm.locals ≤ R.locals)
    (hws : ∀ w ∈ ws, ∀ a' U, s.WarmedH U.vm → w.before a' U = true) (hcode : Cond.codeWith y bytes maxL ret hh ∈ ws) (hinit : ∀ a' U, s.WarmedH U.vm → (Cond.initialized y.cls).before a' U = true) :
    vx_Back l R p e below s sargs y len W9 (PreOf R mc ms Pc) (PostOf Qc mc ms free) (vx_Post XC mc ms free) := by
  intro m meth c A g ig mk a X hg hsize hdg hW hn hp
  have h1 : (headSpec ws rm).pre.before a A.U = true := atoms_intro fun w hw => hws w hw _ _ X.warmed
  have h2 : (Cond.codeWith y bytes maxL ret hh).before a A.U = true := hws _ hcode _ _ X.warmed
  have h3 : (Cond.initialized y.cls).before a A.U = true := hinit _ _ X.warmed
  have h4 : A.cells + (headSpec ws rm).room.cells ≤ R.cells := by rw [show (headSpec ws rm).room.cells = mc from hrc]; exact hp.1
  have h5 : A.slots + (headSpec ws rm).room.slots ≤ R.slots := by rw [show (headSpec ws rm).room.slots = ms from hrs]; exact hp.2.1
  have hPc : Pc a (A.U.calling g mk a) := hblind _ _ _ _ hp.2.2
  obtain ⟨U, Ls, c0, s0⟩ := A
  dsimp only [Pt.U, Pt.locs, Pt.cells, Pt.slots] at h1 h2 h3 h4 h5 X hn hPc ⊢
  obtain ⟨m9, methY, cY, hn9, hmY, hcY, -, hlY, -⟩ := Cond.codeWith_spec h2
  cases Option.some.inj (hn9.symm.trans hn)
  obtain ⟨kY, hkY, -⟩ := className_of_methodNamed hn
  have hinitY : kY.init = .initialized := Cond.initialized_spec (findClass_of_methodNamed hn) hkY h3
  have h : At U g.method c below := by rw [hg]; exact X.here
  have hlocals9 : W9 + (maxL + 11) + (headSpec ws rm).room.locals ≤ R.locals := hlocals
  have happ : (headSpec ws rm).appliesLoose y e.platform (U.calling g mk a) = true :=
    Spec.appliesLoose_calling (g := g) h hdg hn hkY hinitY
      (X.room_calling (g := g) (R' := (headSpec ws rm).room) hsize hmY hcY hframes (by rw [hlY]; omega) h4 h5) h1
  obtain ⟨mid, hmid⟩ := h.above
  have hfr : (U.setTop g).frames = (.java g :: mid) ++ below := by rw [State.frames_setTop' g h.top, hmid]; rfl
  obtain ⟨o, s₂, hsteps, -, hend, hq⟩ := Steps.callFree hM p X.admits X.cas X.clock (acts := []) hfr happ hPc trivial
  have hq' : vx_Q Qc XC mc ms free a (U.calling g mk a) o s₂ := hq
  rw [State.frames_setTop' g h.top] at hend
  obtain ⟨g₀, hg0⟩ := Option.isSome_iff_exists.mp h.top
  obtain ⟨r, hr⟩ := State.topJava?_eq_some.mp hg0
  have hr' : (({ U with heap := s₂.heap, slotsUsed := s₂.slotsUsed } : State).setVm s₂.vm).frames = .java g₀ :: r := hr
  rcases hq' with ⟨hqc, L, hfe, hL⟩ | ⟨q, rfl, E, ce, L, hx, hce, hcv, hcl, hW₂, hsm, hL⟩
  · obtain ⟨⟨v, rfl⟩, hW₂, e2, q2, q3, q4, q5, q6⟩ := id hfe
    have e3 : s₂ = ({ (U.calling g mk a).setFrames s₂.frames with heap := s₂.heap, slotsUsed := s₂.slotsUsed } : State).setVm s₂.vm := by
      have : s₂ = ({ s₂ with vm := (U.calling g mk a).vm } : State).setVm s₂.vm := rfl
      rw [e2] at this
      exact this
    obtain ⟨c₂, i₂, len₂, hc₂, hd₂, hf₂⟩ := hend
    have hW' : U.WarmedH s₂.vm := hW₂
    have hcc : c₂ = c := by
      have h1 : s₂.code? g.method = U.code? g.method := by
        rw [State.code?_eq, State.code?_eq, hW'.alike.method?]
      exact Option.some.inj (hc₂.symm.trans (h1.trans h.code))
    subst hcc
    have hlen : len₂ = len := by rw [hdg] at hd₂; cases hd₂; rfl
    subst hlen
    have hs₂ : s₂ = (({ U with heap := s₂.heap, slotsUsed := s₂.slotsUsed } : State).setVm s₂.vm).setTop { g with pc := g.pc + len₂, stack := v.toList ++ g.stack } := by
      refine e3.trans ?_
      rw [hf₂, State.calling_eq h.top, State.setFrames_setFrames, State.setTop_of_frames _ hr', hr]
      rfl
    have hsame : U.sameButNew ({ U with heap := s₂.heap, slotsUsed := s₂.slotsUsed } : State) L mc ms := by
      refine ⟨?_, q2, q3, q4, q5, q6⟩
      obtain ⟨t, ht, -⟩ := State.frames_cons hr
      show ({ U with heap := s₂.heap, slotsUsed := s₂.slotsUsed } : State) = { U.setFrames U.frames with heap := s₂.heap, slotsUsed := s₂.slotsUsed }
      rw [State.setFrames_self ht]
    subst hg
    refine Or.inl ⟨v, ⟨(({ U with heap := s₂.heap, slotsUsed := s₂.slotsUsed } : State).setVm s₂.vm), Ls ++ L, c0 + mc, s0 + ms⟩,
      ⟨X.admits, X.cas, X.clock, X.frames, X.room, X.hears, X.method, X.code, (X.here.setHeapUsed s₂.heap s₂.slotsUsed).setVm hW'.alike, X.tail, State.WarmedH.trans X.warmed hW', X.limits, X.bytes, X.same.trans (hsame.setVm s.vm)⟩,
      ⟨g, mk, s₂, L, rfl, rfl, hqc, rfl, hL, rfl, rfl⟩, ?_⟩
    show Steps p.tables e below _ ((({ U with heap := s₂.heap, slotsUsed := s₂.slotsUsed } : State).setVm s₂.vm).setTop { g with pc := g.pc + len₂, stack := v.toList ++ g.stack })
    rw [← hs₂]
    exact hsteps
  · obtain ⟨e2, q2, q3, q4, q5, q6⟩ := id hsm
    have e3 : s₂ = ({ (U.calling g mk a).setFrames s₂.frames with heap := s₂.heap, slotsUsed := s₂.slotsUsed } : State).setVm s₂.vm := by
      have : s₂ = ({ s₂ with vm := (U.calling g mk a).vm } : State).setVm s₂.vm := rfl
      rw [e2] at this
      exact this
    have hf₂ : s₂.frames = .throwing q :: .java g :: U.frames.tail := hend
    have hW' : U.WarmedH s₂.vm := hW₂
    have hs₂ : s₂ = ((({ U with heap := s₂.heap, slotsUsed := s₂.slotsUsed } : State).setVm s₂.vm).setTop g).pushFrame (.throwing q) := by
      refine e3.trans ?_
      rw [hf₂, State.calling_eq h.top, State.setFrames_setFrames, State.pushFrame, State.frames_setTop _ hr', State.setTop_of_frames _ hr', State.setFrames_setFrames, hr]
      rfl
    have hsame : U.sameButNew ({ U with heap := s₂.heap, slotsUsed := s₂.slotsUsed } : State) L mc ms := by
      refine ⟨?_, q2, q3, q4, q5, q6⟩
      obtain ⟨t, ht, -⟩ := State.frames_cons hr
      show ({ U with heap := s₂.heap, slotsUsed := s₂.slotsUsed } : State) = { U.setFrames U.frames with heap := s₂.heap, slotsUsed := s₂.slotsUsed }
      rw [State.setFrames_self ht]
    subst hg
    refine Or.inr ⟨q, ⟨(({ U with heap := s₂.heap, slotsUsed := s₂.slotsUsed } : State).setVm s₂.vm), Ls ++ L, c0 + mc, s0 + ms⟩,
      ⟨X.admits, X.cas, X.clock, X.frames, X.room, X.hears, X.method, X.code, (X.here.setHeapUsed s₂.heap s₂.slotsUsed).setVm hW'.alike, X.tail, State.WarmedH.trans X.warmed hW', X.limits, X.bytes, X.same.trans (hsame.setVm s.vm)⟩,
      ⟨g, mk, s₂, L, E, ce, rfl, rfl, hx, hce, hcv, hcl, rfl, hL, rfl, rfl⟩, ?_⟩
    show Steps p.tables e below _ (((({ U with heap := s₂.heap, slotsUsed := s₂.slotsUsed } : State).setVm s₂.vm).setTop g).pushFrame (.throwing q))
    rw [← hs₂]
    exact hsteps
end
variable {p : Program} {l : Launch} {e : Env} {R : Room} {s : State} {m : MethodId} {args : Array Value} {below : List Frame} {meth : Method} {c : Code} {T : State} {H : Heap} {locs : List Loc} {cells slots : Nat}
theorem vx_callVX (X : Stand p l e R s m args below meth c T locs cells slots) (hexec : p.tables.exec = Jvm.exec) {own C : String} {index : Nat} {y : MethodName} {bytes : ByteArray} {maxL : Nat} {ret : Option FieldType} {hh : List (Nat × Nat × Nat × Nat)}
    (hown : s.vm.findClass own = some m.cls) (hlink : (Cond.methodLink own index y).before args s = true) (hinst : (Cond.instanceMethod y).before args s = true) (hsel : (Cond.selects C y y).before args s = true)
    (hcode : (Cond.codeWith y bytes maxL ret hh).before args s = true) (hy : y.cls ≠ "java/lang/invoke/MethodHandle" ∧ y.cls ≠ "java/lang/invoke/VarHandle")
    {W9 : Nat} {Pre : Pt → Array Value → Prop} {Post : Pt → Array Value → Option Value → Pt → Prop} {PostX : Pt → Array Value → Addr → Pt → Prop} (hK : vx_Back l R p e below s args y 3 W9 Pre Post PostX)
    {b : Addr} {cellB : Cell} (hcell : T.heap[b]? = some cellB) (hobj : cellB.vm.isStatics = false) (hcls : s.vm.findClass C = some cellB.cls)
    {g : JFrame} (hg : g.method = m) (hsize : g.locals.size = c.maxLocals) {argsL rest : List Value} (hlen : ∀ sig, parseMethodDescriptor y.desc = some sig → argsL.length = sig.parameters.length)
    (hstack : g.stack = argsL.reverse ++ .ref b :: rest) (hW : 2 * g.monitorRoom + (rest.map fun v => v.category).sum ≤ W9) (hdg : decode c.code g.pc = .ok (.invokevirtual index, 3))
    (hpre : ∀ vm₁, s.WarmedH vm₁ → Pre ⟨T.setVm vm₁, locs, cells, slots⟩ (Value.ref b :: argsL).toArray) :
    (∃ (v : Option Value) (vm₁ : Vm) (B : Pt), s.WarmedH vm₁ ∧ Stand p l e R s m args below meth c B.U B.locs B.cells B.slots ∧ Post ⟨T.setVm vm₁, locs, cells, slots⟩ (Value.ref b :: argsL).toArray v B ∧
      ∀ target, Steps p.tables e below (B.U.setTop { g with pc := g.pc + 3, stack := v.toList ++ rest }) target → Steps p.tables e below (T.setTop g) target) ∨
    (∃ (q : Addr) (vm₁ : Vm) (B : Pt), s.WarmedH vm₁ ∧ Stand p l e R s m args below meth c B.U B.locs B.cells B.slots ∧ PostX ⟨T.setVm vm₁, locs, cells, slots⟩ (Value.ref b :: argsL).toArray q B ∧
      Steps p.tables e below (T.setTop g) ((B.U.setTop { g with stack := rest }).pushFrame (.throwing q))) := by
  obtain ⟨mk, methM, hnamed, hmethM, hstM, habM⟩ := Cond.instanceMethod_spec hinst
  obtain ⟨m8, methM', cM, hn8, hmethM', -, -, -, -, -, -, hsigM⟩ := Cond.codeWith_spec hcode
  cases Option.some.inj (hn8.symm.trans hnamed)
  cases hmethM.symm.trans hmethM'
  obtain ⟨c2, r2, m2, q1, q2, q3, q4, kP, hkP, hkPi⟩ := Cond.selects_spec hsel
  cases hcls.symm.trans q1
  cases (State.methodFound?_of_named hnamed hy).symm.trans q2
  cases hnamed.symm.trans q3
  have hselP : selectMethod e.platform s.vm cellB.cls mk = .method mk := by rw [Launch.admits_selectMethod X.admits]; exact q4
  obtain ⟨vm₁, X₁, hstep₁⟩ := X.invokevirtual hexec hown hlink hnamed hmethM hstM hkP hkPi hy (a := b) (cell := cellB) hcell
    (fun z h => by rw [h] at hobj; cases hobj) hselP hmethM habM hkP hkPi (g := g) hg (argsL := argsL) (rest := rest) (hlen _ hsigM) hstack hdg
  rcases hK m meth c ⟨T.setVm vm₁, locs, cells, slots⟩ { g with stack := rest } (.invokevirtual index) mk (Value.ref b :: argsL).toArray X₁ hg hsize hdg hW (X₁.named hnamed) (hpre vm₁ X₁.warmed) with ⟨v, B, X', hpost, hsteps⟩ | ⟨q, B, X', hpost, hsteps⟩
  · exact Or.inl ⟨v, vm₁, B, X₁.warmed, X', hpost, fun target h => hstep₁ _ fun acts => by rw [doInvoke_state]; exact hsteps.trans h⟩
  · exact Or.inr ⟨q, vm₁, B, X₁.warmed, X', hpost, hstep₁ _ fun acts => by rw [doInvoke_state]; exact hsteps⟩
theorem vx_callSX (X : Stand p l e R s m args below meth c T locs cells slots) (hexec : p.tables.exec = Jvm.exec) {own : String} {index : Nat} {y : MethodName} {bytes : ByteArray} {maxL : Nat} {ret : Option FieldType} {hh : List (Nat × Nat × Nat × Nat)}
    (hown : s.vm.findClass own = some m.cls) (hlink : (Cond.methodLink own index y).before args s = true) (hstat : (Cond.static y).before args s = true) (hinit : (Cond.initialized y.cls).before args s = true)
    (hcode : (Cond.codeWith y bytes maxL ret hh).before args s = true) (hy : y.cls ≠ "java/lang/invoke/MethodHandle" ∧ y.cls ≠ "java/lang/invoke/VarHandle")
    {W9 : Nat} {Pre : Pt → Array Value → Prop} {Post : Pt → Array Value → Option Value → Pt → Prop} {PostX : Pt → Array Value → Addr → Pt → Prop} (hK : vx_Back l R p e below s args y 3 W9 Pre Post PostX)
    {g : JFrame} (hg : g.method = m) (hsize : g.locals.size = c.maxLocals) {argsL rest : List Value} (hlen : ∀ sig, parseMethodDescriptor y.desc = some sig → argsL.length = sig.parameters.length)
    (hstack : g.stack = argsL.reverse ++ rest) (hW : 2 * g.monitorRoom + (rest.map fun v => v.category).sum ≤ W9) (hdg : decode c.code g.pc = .ok (.invokestatic index, 3))
    (hpre : ∀ vm₁, s.WarmedH vm₁ → Pre ⟨T.setVm vm₁, locs, cells, slots⟩ argsL.toArray) :
    (∃ (v : Option Value) (vm₁ : Vm) (B : Pt), s.WarmedH vm₁ ∧ Stand p l e R s m args below meth c B.U B.locs B.cells B.slots ∧ Post ⟨T.setVm vm₁, locs, cells, slots⟩ argsL.toArray v B ∧
      ∀ target, Steps p.tables e below (B.U.setTop { g with pc := g.pc + 3, stack := v.toList ++ rest }) target → Steps p.tables e below (T.setTop g) target) ∨
    (∃ (q : Addr) (vm₁ : Vm) (B : Pt), s.WarmedH vm₁ ∧ Stand p l e R s m args below meth c B.U B.locs B.cells B.slots ∧ PostX ⟨T.setVm vm₁, locs, cells, slots⟩ argsL.toArray q B ∧
      Steps p.tables e below (T.setTop g) ((B.U.setTop { g with stack := rest }).pushFrame (.throwing q))) := by
  obtain ⟨mk, methM, cM, hnamed, hmethM, -, -, -, -, -, -, hsigM⟩ := Cond.codeWith_spec hcode
  have hstatic : methM.isStatic = true := Cond.static_spec hnamed hmethM hstat
  obtain ⟨kP, hkP, -⟩ := className_of_methodNamed hnamed
  have hinitP : kP.init = .initialized := Cond.initialized_spec (findClass_of_methodNamed hnamed) hkP hinit
  obtain ⟨vm₁, X₁, hstep₁⟩ := X.invokestatic hexec hown hlink hnamed hmethM hstatic hkP hinitP hy (g := g) hg (argsL := argsL) (rest := rest) (hlen _ hsigM) hstack hdg
  rcases hK m meth c ⟨T.setVm vm₁, locs, cells, slots⟩ { g with stack := rest } (.invokestatic index) mk argsL.toArray X₁ hg hsize hdg hW (X₁.named hnamed) (hpre vm₁ X₁.warmed) with ⟨v, B, X', hpost, hsteps⟩ | ⟨q, B, X', hpost, hsteps⟩
  · exact Or.inl ⟨v, vm₁, B, X₁.warmed, X', hpost, fun target h => hstep₁ _ fun acts => by rw [doInvoke_state]; exact hsteps.trans h⟩
  · exact Or.inr ⟨q, vm₁, B, X₁.warmed, X', hpost, hstep₁ _ fun acts => by rw [doInvoke_state]; exact hsteps⟩
theorem vx_callVW (X : Stand p l e R s m args below meth c T locs cells slots) (hexec : p.tables.exec = Jvm.exec) {own C : String} {index : Nat} {y : MethodName} {bytes : ByteArray} {maxL : Nat} {ret : Option FieldType} {hh : List (Nat × Nat × Nat × Nat)}
    (hown : s.vm.findClass own = some m.cls) (hlink : (Cond.methodLink own index y).before args s = true) (hinst : (Cond.instanceMethod y).before args s = true) (hsel : (Cond.selects C y y).before args s = true)
    (hcode : (Cond.codeWith y bytes maxL ret hh).before args s = true) (hy : y.cls ≠ "java/lang/invoke/MethodHandle" ∧ y.cls ≠ "java/lang/invoke/VarHandle")
    {W9 : Nat} {Pre : Pt → Array Value → Prop} {Post : Pt → Array Value → Option Value → Pt → Prop} (hK : Back l R p e below s args y 3 W9 Pre Post)
    {b : Addr} {cellB : Cell} (hcell : T.heap[b]? = some cellB) (hobj : cellB.vm.isStatics = false) (hcls : s.vm.findClass C = some cellB.cls)
    {g : JFrame} (hg : g.method = m) (hsize : g.locals.size = c.maxLocals) {argsL rest : List Value} (hlen : ∀ sig, parseMethodDescriptor y.desc = some sig → argsL.length = sig.parameters.length)
    (hstack : g.stack = argsL.reverse ++ .ref b :: rest) (hW : 2 * g.monitorRoom + (rest.map fun v => v.category).sum ≤ W9) (hdg : decode c.code g.pc = .ok (.invokevirtual index, 3))
    (hpre : ∀ vm₁, s.WarmedH vm₁ → Pre ⟨T.setVm vm₁, locs, cells, slots⟩ (Value.ref b :: argsL).toArray) :
    ∃ (v : Option Value) (vm₁ : Vm) (B : Pt), s.WarmedH vm₁ ∧ Stand p l e R s m args below meth c B.U B.locs B.cells B.slots ∧ Post ⟨T.setVm vm₁, locs, cells, slots⟩ (Value.ref b :: argsL).toArray v B ∧
      ∀ target, Steps p.tables e below (B.U.setTop { g with pc := g.pc + 3, stack := v.toList ++ rest }) target → Steps p.tables e below (T.setTop g) target := by
  obtain ⟨mk, methM, hnamed, hmethM, hstM, habM⟩ := Cond.instanceMethod_spec hinst
  obtain ⟨m8, methM', cM, hn8, hmethM', -, -, -, -, -, -, hsigM⟩ := Cond.codeWith_spec hcode
  cases Option.some.inj (hn8.symm.trans hnamed)
  cases hmethM.symm.trans hmethM'
  obtain ⟨c2, r2, m2, q1, q2, q3, q4, kP, hkP, hkPi⟩ := Cond.selects_spec hsel
  cases hcls.symm.trans q1
  cases (State.methodFound?_of_named hnamed hy).symm.trans q2
  cases hnamed.symm.trans q3
  have hselP : selectMethod e.platform s.vm cellB.cls mk = .method mk := by rw [Launch.admits_selectMethod X.admits]; exact q4
  obtain ⟨vm₁, X₁, hstep₁⟩ := X.invokevirtual hexec hown hlink hnamed hmethM hstM hkP hkPi hy (a := b) (cell := cellB) hcell
    (fun z h => by rw [h] at hobj; cases hobj) hselP hmethM habM hkP hkPi (g := g) hg (argsL := argsL) (rest := rest) (hlen _ hsigM) hstack hdg
  obtain ⟨v, B, X', hpost, hsteps⟩ := hK m meth c ⟨T.setVm vm₁, locs, cells, slots⟩ { g with stack := rest } (.invokevirtual index) mk (Value.ref b :: argsL).toArray X₁ hg hsize hdg hW (X₁.named hnamed) (hpre vm₁ X₁.warmed)
  exact ⟨v, vm₁, B, X₁.warmed, X', hpost, fun target h => hstep₁ _ fun acts => by rw [doInvoke_state]; exact hsteps.trans h⟩
abbrev vx_CVW (R : Room) (s : State) (args : Array Value) (own C : String) (index : Nat) (y : MethodName) (bytes : ByteArray) (maxL : Nat) (ret : Option FieldType) (hh : List (Nat × Nat × Nat × Nat)) (ws : List Cond) (rm : Room) (mc ms n : Nat) : Prop :=
  (rm.cells = mc ∧ rm.slots = ms ∧ rm.frames + 1 ≤ R.frames ∧ 8 + (maxL + 11) + rm.locals ≤ R.locals ∧ (∀ w ∈ ws, ∀ (a' : Array Value) (U : State), s.WarmedH U.vm → w.before a' U = true) ∧ Cond.codeWith y bytes maxL ret hh ∈ ws) ∧
  (Cond.codeWith y bytes maxL ret hh).before args s = true ∧ (Cond.initialized y.cls).before args s = true ∧ (y.cls ≠ "java/lang/invoke/MethodHandle" ∧ y.cls ≠ "java/lang/invoke/VarHandle") ∧
  (∀ sig, parseMethodDescriptor y.desc = some sig → n = sig.parameters.length) ∧ (Cond.methodLink own index y).before args s = true ∧ (Cond.instanceMethod y).before args s = true ∧ (Cond.selects C y y).before args s = true
theorem vx_cwVW {own C : String} {index maxL mc ms : Nat} {y : MethodName} {bytes : ByteArray} {ret : Option FieldType} {hh : List (Nat × Nat × Nat × Nat)} {Ts ws ws' : List Cond} {rm : Room} (n : Nat) (ht : ∀ w ∈ Ts, w.before args s = true) (hT : GoodIn Ts (wsV own index C y ws)) (hw : ws = Cond.codeWith y bytes maxL ret hh :: ws') (hrc : rm.cells = mc) (hrs : rm.slots = ms)
    (hd : y.cls = C ∧ y.cls ≠ "java/lang/invoke/MethodHandle" ∧ y.cls ≠ "java/lang/invoke/VarHandle" ∧ (parseMethodDescriptor y.desc).map (fun d => d.parameters.length) = some n) (hR : rm.frames + 1 ≤ R.frames ∧ 8 + (maxL + 11) + rm.locals ≤ R.locals) :
    vx_CVW R s args own C index y bytes maxL ret hh ws rm mc ms n := by
  obtain ⟨hC, hd⟩ := hd
  subst hC
  have ok : ∀ w ∈ wsV own index y.cls y ws, w.before args s = true := fun w h => ht w (hT w h).1
  have hG : GoodIn Ts ws := fun w h => hT w (by unfold wsV; exact List.mem_append_right _ h)
  have hc : Cond.codeWith y bytes maxL ret hh ∈ ws := by rw [hw]; exact List.mem_cons_self
  refine ⟨⟨hrc, hrs, hR.1, hR.2, pay_in ht hG, hc⟩, ht _ (hG _ hc).1, ok _ (by simp [wsV]), ⟨hd.1, hd.2.1⟩, fun sig h => ?_, ok _ (by simp [wsV]), ok _ (by simp [wsV]), ok _ (by simp [wsV])⟩
  have h2 := hd.2.2
  rw [h] at h2
  exact (Option.some.inj h2).symm
theorem vx_runVW {y : MethodName} {bytes cc : ByteArray} {maxL nL mc ms n index : Nat} {ret : Option FieldType} {hh : List (Nat × Nat × Nat × Nat)} {ws : List Cond} {rm : Room} {Pc : Array Value → State → Prop} {Qc : Array Value → State → Outcome → State → Prop} {free : Addr → Prop} {Ts : List Cond} {own C : String} {b : Addr} {As rest : List Value} {g : JFrame}
    (S : CallFix p m c cc nL s args Ts own) (hM : Met l y ws rm Pc Qc mc ms free) (cw : vx_CVW R s args own C index y bytes maxL ret hh ws rm mc ms n) (hp : PreV s H C b Pc As)
    (hg : g.method = m) (hn : As.length = n) (hsize : g.locals.size = nL) (hstack : g.stack = As.reverse ++ .ref b :: rest) (hW : 2 * g.monitorRoom + (rest.map fun v => v.category).sum ≤ 8) (hdg : decode cc g.pc = .ok (.invokevirtual index, 3)) (hf : cells + mc ≤ R.cells ∧ slots + ms ≤ R.slots) :
    va_Run p l e R s m args below meth c H locs cells slots mc ms g rest (Qc (Value.ref b :: As).toArray) free := by
  obtain ⟨⟨hrc, hrs, hfr, hlo, hws, hcw⟩, hcode, hini, hy, hlen, hl, hin, hse⟩ := cw
  have hK : Back l R p e below s args y 3 8 (PreOf R mc ms Pc) (PostOf Qc mc ms free) := va_backW (hh := hh) (bytes := bytes) (maxL := maxL) (ret := ret) hM hp.1 hrc hrs hfr hlo hws hcw (fun a' U hW => word_at hW (Or.inl (by first | rfl | simp [Cond.onTables, Cond.keeps, Cond.steady])) hini)
  obtain ⟨hx, hb, hml, ho, -⟩ := S
  obtain ⟨-, ⟨cellB, hcB, hoB, hclB⟩, hPc⟩ := hp
  intro T hT X
  obtain ⟨v, vm₁, ⟨U', l2, c2, s2⟩, hW₁, X', ⟨g', mk, t, L, e1, e2, hq, h1, hL, h2, h3⟩, st⟩ := vx_callVW X hx (C := C) (hh := hh) (bytes := bytes) (maxL := maxL) (ret := ret) ho hl hin hse hcode hy hK (by rw [hT]; exact hcB) hoB hclB hg (hsize.trans hml.symm) (argsL := As) (rest := rest) (fun sig h => hn.trans (hlen sig h)) hstack hW (by rw [hb]; exact hdg)
    (fun vm₁ hW₁ => ⟨hf.1, hf.2, hPc (T.setVm vm₁) hT hW₁⟩)
  dsimp only [Pt.U, Pt.locs, Pt.cells, Pt.slots] at X' e1 e2 h1 h2 h3 st
  subst h1; subst h2; subst h3
  exact ⟨v, (T.setVm vm₁).calling g' mk (Value.ref b :: As).toArray, t, U', L, hT, X', hL, e1, e2, hq, st⟩
section
variable {y : MethodName} {bytes cc : ByteArray} {maxL nL mc ms n index : Nat} {ret : Option FieldType} {ws : List Cond} {rm : Room} {Pc : Array Value → State → Prop} {Qc : Array Value → State → Outcome → State → Prop} {XC : String → State → State → Prop} {free : Addr → Prop} {Ts : List Cond} {own C : String} {b : Addr} {As rest : List Value} {g : JFrame}
theorem vx_runVX {hh : List (Nat × Nat × Nat × Nat)} (S : CallFix p m c cc nL s args Ts own) (hM : vx_Met l y ws rm Pc Qc XC mc ms free) (cw : vx_CVW R s args own C index y bytes maxL ret hh ws rm mc ms n) (hp : PreV s H C b Pc As)
    (hg : g.method = m) (hn : As.length = n) (hsize : g.locals.size = nL) (hstack : g.stack = As.reverse ++ .ref b :: rest) (hW : 2 * g.monitorRoom + (rest.map fun v => v.category).sum ≤ 8) (hdg : decode cc g.pc = .ok (.invokevirtual index, 3)) (hf : cells + mc ≤ R.cells ∧ slots + ms ≤ R.slots) :
    vx_Run p l e R s m args below meth c H locs cells slots mc ms g rest (Qc (Value.ref b :: As).toArray) XC free := by
  obtain ⟨⟨hrc, hrs, hfr, hlo, hws, hcw⟩, hcode, hini, hy, hlen, hl, hin, hse⟩ := cw
  have hK : vx_Back l R p e below s args y 3 8 (PreOf R mc ms Pc) (PostOf Qc mc ms free) (vx_Post XC mc ms free) := vx_backW (hh := hh) (bytes := bytes) (maxL := maxL) (ret := ret) hM hp.1 hrc hrs hfr hlo hws hcw (fun a' U hW => word_at hW (Or.inl (by first | rfl | simp [Cond.onTables, Cond.keeps, Cond.steady])) hini)
  obtain ⟨hx, hb, hml, ho, -⟩ := S
  obtain ⟨-, ⟨cellB, hcB, hoB, hclB⟩, hPc⟩ := hp
  intro T hT X
  rcases vx_callVX X hx (C := C) (hh := hh) (bytes := bytes) (maxL := maxL) (ret := ret) ho hl hin hse hcode hy hK (by rw [hT]; exact hcB) hoB hclB hg (hsize.trans hml.symm) (argsL := As) (rest := rest) (fun sig h => hn.trans (hlen sig h)) hstack hW (by rw [hb]; exact hdg)
    (fun vm₁ hW₁ => ⟨hf.1, hf.2, hPc (T.setVm vm₁) hT hW₁⟩) with ⟨v, vm₁, ⟨U', l2, c2, s2⟩, hW₁, X', ⟨g', mk, t, L, e1, e2, hq, h1, hL, h2, h3⟩, st⟩ | ⟨q, vm₁, ⟨U', l2, c2, s2⟩, hW₁, X', ⟨g', mk, t, L, E, ce, e1, e2, hq, hce, hcv, hcl, h1, hL, h2, h3⟩, st⟩
  · dsimp only [Pt.U, Pt.locs, Pt.cells, Pt.slots] at X' e1 e2 h1 h2 h3 st
    subst h1; subst h2; subst h3
    exact Or.inl ⟨v, (T.setVm vm₁).calling g' mk (Value.ref b :: As).toArray, t, U', L, hT, X', hL, e1, e2, hq, st⟩
  · dsimp only [Pt.U, Pt.locs, Pt.cells, Pt.slots] at X' e1 e2 h1 h2 h3 st hcl
    subst h1; subst h2; subst h3
    exact Or.inr ⟨q, (T.setVm vm₁).calling g' mk (Value.ref b :: As).toArray, t, U', L, E, ce, hT, X', hL, e1, e2, hq, hce, hcv, vx_cls hW₁ hcl, st⟩
theorem vx_runSX {hh : List (Nat × Nat × Nat × Nat)} (S : CallFix p m c cc nL s args Ts own) (hM : vx_Met l y ws rm Pc Qc XC mc ms free) (cw : vx_CSW R s args own index y bytes maxL ret hh ws rm mc ms n) (hp : PreS s H Pc As)
    (hg : g.method = m) (hn : As.length = n) (hsize : g.locals.size = nL) (hstack : g.stack = As.reverse ++ rest) (hW : 2 * g.monitorRoom + (rest.map fun v => v.category).sum ≤ 8) (hdg : decode cc g.pc = .ok (.invokestatic index, 3)) (hf : cells + mc ≤ R.cells ∧ slots + ms ≤ R.slots) :
    vx_Run p l e R s m args below meth c H locs cells slots mc ms g rest (Qc As.toArray) XC free := by
  obtain ⟨⟨hrc, hrs, hfr, hlo, hws, hcw⟩, hcode, hini, hy, hlen, hl, hstt⟩ := cw
  have hK : vx_Back l R p e below s args y 3 8 (PreOf R mc ms Pc) (PostOf Qc mc ms free) (vx_Post XC mc ms free) := vx_backW (hh := hh) (bytes := bytes) (maxL := maxL) (ret := ret) hM hp.1 hrc hrs hfr hlo hws hcw (fun a' U hW => word_at hW (Or.inl (by first | rfl | simp [Cond.onTables, Cond.keeps, Cond.steady])) hini)
  obtain ⟨hx, hb, hml, ho, -⟩ := S
  intro T hT X
  rcases vx_callSX X hx (hh := hh) (bytes := bytes) (maxL := maxL) (ret := ret) ho hl hstt hini hcode hy hK hg (hsize.trans hml.symm) (argsL := As) (rest := rest) (fun sig h => hn.trans (hlen sig h)) hstack hW (by rw [hb]; exact hdg)
    (fun vm₁ hW₁ => ⟨hf.1, hf.2, hp.2 (T.setVm vm₁) hT hW₁⟩) with ⟨v, vm₁, ⟨U', l2, c2, s2⟩, hW₁, X', ⟨g', mk, t, L, e1, e2, hq, h1, hL, h2, h3⟩, st⟩ | ⟨q, vm₁, ⟨U', l2, c2, s2⟩, hW₁, X', ⟨g', mk, t, L, E, ce, e1, e2, hq, hce, hcv, hcl, h1, hL, h2, h3⟩, st⟩
  · dsimp only [Pt.U, Pt.locs, Pt.cells, Pt.slots] at X' e1 e2 h1 h2 h3 st
    subst h1; subst h2; subst h3
    exact Or.inl ⟨v, (T.setVm vm₁).calling g' mk As.toArray, t, U', L, hT, X', hL, e1, e2, hq, st⟩
  · dsimp only [Pt.U, Pt.locs, Pt.cells, Pt.slots] at X' e1 e2 h1 h2 h3 st hcl
    subst h1; subst h2; subst h3
    exact Or.inr ⟨q, (T.setVm vm₁).calling g' mk As.toArray, t, U', L, E, ce, hT, X', hL, e1, e2, hq, hce, hcv, vx_cls hW₁ hcl, st⟩
end
end VXH
theorem vx_ofWH {l : Launch} {y : MethodName} {ws ws' : List Cond} {rm : Room} {Pc : Array Value → State → Prop} {Qc : Array Value → State → Outcome → State → Prop} {XC : String → State → State → Prop} {mc ms : Nat} {free : Addr → Prop} {cc : ByteArray} {maxL : Nat} {ret : Option FieldType} {hh : List (Nat × Nat × Nat × Nat)}
    (hy : plainName y.cls = true) (hw : ws = Cond.codeWith y cc maxL ret hh :: ws')
    (body : ∀ p e s m args below meth c s₁, BodyLoose p l y (headSpec ws rm) cc maxL ret e s m args below meth c s₁ → c.maxLocals = maxL → Pc args s →
      W p l e (headSpec ws rm).room s m args below meth c s.heap [] 0 0 (vx_MQ below Qc XC args s mc ms free) (entryFrame m args maxL)) : vx_Met l y ws rm Pc Qc XC mc ms free := by
  refine MetFree.of_bodyS (code := cc) (maxLocals := maxL) (ret := ret) hy ?_ ?_
  · intro args s m h hn
    obtain ⟨m9, meth, c, hn9, h1, h2, h3, h4, -, h5, h6, -⟩ := Cond.codeWith_spec (atoms_spec (ws := ws) h _ (by rw [hw]; exact List.mem_cons_self))
    cases hn.symm.trans hn9
    exact ⟨meth, c, h1, h2, h3, h4, h5, h6⟩
  · intro p e s m args below meth c s₁ B hml hP _
    have hh0 : s₁.heap = s.heap := by rw [B.state]; rfl
    obtain ⟨t, a1, o, b1, b2, b3⟩ := body p e s m args below meth c s₁ B hml hP s₁ hh0 (Stand.of_body B)
    exact ⟨t, o, a1, b1, b2, b3⟩
/-! ===== END ===== -/
end
section
/-! names of classes, fields, codes and methods: out of the task's printed names; the words by their places -/
def RX0 : String := "FeeDocket$Calendar"
def TX0 : u_T := fun k => match k with
  | _ => ("", "", "", false)
def tyX0 : Nat → FieldType := fun k => match k with
  | _ => .int
abbrev wsX00 : List Cond := u_ws RX0 TX0 0
theorem nmX0 : ∀ a, a < 0 → ∀ b, b < 0 → a ≠ b → (TX0 a).2.1 ≠ (TX0 b).2.1 := by decide +kernel
theorem tyX0_ok : ∀ k, k < 0 → parseFieldDescriptor (TX0 k).2.2.1 = some (tyX0 k) := by decide +kernel
abbrev cX0_yearOf : ByteArray := prog_2_method_2_code
def yX0_yearOf : MethodName := ⟨RX0, "yearOf", "(I)I"⟩
abbrev cX0_firstDayOf : ByteArray := prog_2_method_3_code
def yX0_firstDayOf : MethodName := ⟨RX0, "firstDayOf", "(I)I"⟩
abbrev cX0_monthLength : ByteArray := prog_2_method_4_code
def yX0_monthLength : MethodName := ⟨RX0, "monthLength", "(II)I"⟩
abbrev cX0_dateOf : ByteArray := prog_2_method_5_code
def yX0_dateOf : MethodName := ⟨RX0, "dateOf", "(I)I"⟩
abbrev cX0_dayOf : ByteArray := prog_2_method_6_code
def yX0_dayOf : MethodName := ⟨RX0, "dayOf", "(III)I"⟩
abbrev cX0_monthsAfter : ByteArray := prog_2_method_7_code
def yX0_monthsAfter : MethodName := ⟨RX0, "monthsAfter", "(II)I"⟩
def RX1 : String := "FeeDocket$Fees"
def TX1 : u_T := fun k => match k with
  | 0 => ("FeeDocket$Fees", "base", "I", false)
  | 1 => ("FeeDocket$Fees", "step", "I", false)
  | 2 => ("FeeDocket$Fees", "percent", "I", false)
  | _ => ("FeeDocket$Fees", "petition", "I", false)
def tyX1 : Nat → FieldType := fun k => match k with
  | 0 => .int
  | 1 => .int
  | 2 => .int
  | _ => .int
abbrev wsX10 : List Cond := u_ws RX1 TX1 4
theorem nmX1 : ∀ a, a < 4 → ∀ b, b < 4 → a ≠ b → (TX1 a).2.1 ≠ (TX1 b).2.1 := by decide +kernel
theorem tyX1_ok : ∀ k, k < 4 → parseFieldDescriptor (TX1 k).2.2.1 = some (tyX1 k) := by decide +kernel
abbrev cX1_init : ByteArray := prog_3_method_1_code
def yX1_init : MethodName := ⟨RX1, "<init>", "()V"⟩
abbrev cX1_set : ByteArray := prog_3_method_2_code
def yX1_set : MethodName := ⟨RX1, "set", "(IIII)V"⟩
abbrev cX1_copyFrom : ByteArray := prog_3_method_3_code
def yX1_copyFrom : MethodName := ⟨RX1, "copyFrom", "(LFeeDocket$Fees;)V"⟩
abbrev cX1_feeFor : ByteArray := prog_3_method_4_code
def yX1_feeFor : MethodName := ⟨RX1, "feeFor", "(IZ)I"⟩
abbrev cX1_surchargeOn : ByteArray := prog_3_method_5_code
def yX1_surchargeOn : MethodName := ⟨RX1, "surchargeOn", "(I)I"⟩
def RX2 : String := "FeeDocket$Holidays"
def TX2 : u_T := fun k => match k with
  | 0 => ("FeeDocket$Holidays", "monthsAndDays", "[I", true)
  | _ => ("FeeDocket$Holidays", "count", "I", false)
def tyX2 : Nat → FieldType := fun k => match k with
  | 0 => .array .int
  | _ => .int
abbrev wsX20 : List Cond := u_ws RX2 TX2 2
theorem nmX2 : ∀ a, a < 2 → ∀ b, b < 2 → a ≠ b → (TX2 a).2.1 ≠ (TX2 b).2.1 := by decide +kernel
theorem tyX2_ok : ∀ k, k < 2 → parseFieldDescriptor (TX2 k).2.2.1 = some (tyX2 k) := by decide +kernel
abbrev cX2_init : ByteArray := prog_4_method_1_code
def yX2_init : MethodName := ⟨RX2, "<init>", "()V"⟩
abbrev cX2_canToggle : ByteArray := prog_4_method_2_code
def yX2_canToggle : MethodName := ⟨RX2, "canToggle", "(I)Z"⟩
abbrev cX2_toggle : ByteArray := prog_4_method_3_code
def yX2_toggle : MethodName := ⟨RX2, "toggle", "(I)V"⟩
abbrev cX2_firstWorkingDay : ByteArray := prog_4_method_4_code
def yX2_firstWorkingDay : MethodName := ⟨RX2, "firstWorkingDay", "(I)I"⟩
abbrev cX2_copyFrom : ByteArray := prog_4_method_5_code
def yX2_copyFrom : MethodName := ⟨RX2, "copyFrom", "(LFeeDocket$Holidays;)V"⟩
abbrev cX2_isHoliday : ByteArray := prog_4_method_6_code
def yX2_isHoliday : MethodName := ⟨RX2, "isHoliday", "(I)Z"⟩
abbrev cX2_find : ByteArray := prog_4_method_7_code
def yX2_find : MethodName := ⟨RX2, "find", "(I)I"⟩
abbrev cX2_remove : ByteArray := prog_4_method_8_code
def yX2_remove : MethodName := ⟨RX2, "remove", "(I)V"⟩
def RX3 : String := "FeeDocket$Right"
def TX3 : u_T := fun k => match k with
  | 0 => ("FeeDocket$Right", "filed", "I", false)
  | 1 => ("FeeDocket$Right", "lastDay", "I", false)
  | 2 => ("FeeDocket$Right", "small", "Z", false)
  | 3 => ("FeeDocket$Right", "feesPaid", "I", false)
  | 4 => ("FeeDocket$Right", "sumPaid", "I", false)
  | 5 => ("FeeDocket$Right", "gaps", "I", false)
  | 6 => ("FeeDocket$Right", "dueDays", "[I", true)
  | 7 => ("FeeDocket$Right", "graceDays", "[I", true)
  | 8 => ("FeeDocket$Right", "paidOn", "[I", true)
  | 9 => ("FeeDocket$Right", "revivedOn", "[I", true)
  | _ => ("FeeDocket$Right", "beganOn", "[I", true)
def tyX3 : Nat → FieldType := fun k => match k with
  | 0 => .int
  | 1 => .int
  | 2 => .boolean
  | 3 => .int
  | 4 => .int
  | 5 => .int
  | 6 => .array .int
  | 7 => .array .int
  | 8 => .array .int
  | 9 => .array .int
  | _ => .array .int
abbrev wsX30 : List Cond := u_ws RX3 TX3 11
theorem nmX3 : ∀ a, a < 11 → ∀ b, b < 11 → a ≠ b → (TX3 a).2.1 ≠ (TX3 b).2.1 := by decide +kernel
theorem tyX3_ok : ∀ k, k < 11 → parseFieldDescriptor (TX3 k).2.2.1 = some (tyX3 k) := by decide +kernel
abbrev cX3_init : ByteArray := prog_5_method_1_code
def yX3_init : MethodName := ⟨RX3, "<init>", "()V"⟩
abbrev cX3_start : ByteArray := prog_5_method_2_code
def yX3_start : MethodName := ⟨RX3, "start", "(IZLFeeDocket$Holidays;)V"⟩
abbrev cX3_copyFrom : ByteArray := prog_5_method_3_code
def yX3_copyFrom : MethodName := ⟨RX3, "copyFrom", "(LFeeDocket$Right;)V"⟩
abbrev cX3_nextYear : ByteArray := prog_5_method_4_code
def yX3_nextYear : MethodName := ⟨RX3, "nextYear", "()I"⟩
abbrev cX3_dueOf : ByteArray := prog_5_method_5_code
def yX3_dueOf : MethodName := ⟨RX3, "dueOf", "(I)I"⟩
abbrev cX3_graceOf : ByteArray := prog_5_method_6_code
def yX3_graceOf : MethodName := ⟨RX3, "graceOf", "(I)I"⟩
abbrev cX3_paymentOf : ByteArray := prog_5_method_7_code
def yX3_paymentOf : MethodName := ⟨RX3, "paymentOf", "(I)I"⟩
abbrev cX3_revivalOf : ByteArray := prog_5_method_8_code
def yX3_revivalOf : MethodName := ⟨RX3, "revivalOf", "(I)I"⟩
abbrev cX3_isLapsed : ByteArray := prog_5_method_9_code
def yX3_isLapsed : MethodName := ⟨RX3, "isLapsed", "(I)Z"⟩
abbrev cX3_takePayment : ByteArray := prog_5_method_10_code
def yX3_takePayment : MethodName := ⟨RX3, "takePayment", "(II)V"⟩
abbrev cX3_takeRevival : ByteArray := prog_5_method_11_code
def yX3_takeRevival : MethodName := ⟨RX3, "takeRevival", "(III)V"⟩
abbrev cX3_stoodOn : ByteArray := prog_5_method_12_code
def yX3_stoodOn : MethodName := ⟨RX3, "stoodOn", "(II)Z"⟩
abbrev cX3_isInGap : ByteArray := prog_5_method_13_code
def yX3_isInGap : MethodName := ⟨RX3, "isInGap", "(I)Z"⟩
abbrev cX3_paidForOn : ByteArray := prog_5_method_14_code
def yX3_paidForOn : MethodName := ⟨RX3, "paidForOn", "(II)Z"⟩
abbrev cX3_daysLived : ByteArray := prog_5_method_15_code
def yX3_daysLived : MethodName := ⟨RX3, "daysLived", "(I)I"⟩
abbrev cX3_daysStood : ByteArray := prog_5_method_16_code
def yX3_daysStood : MethodName := ⟨RX3, "daysStood", "(I)I"⟩
abbrev cX3_hasBegun : ByteArray := prog_5_method_17_code
def yX3_hasBegun : MethodName := ⟨RX3, "hasBegun", "(I)Z"⟩
abbrev cX3_begin : ByteArray := prog_5_method_18_code
def yX3_begin : MethodName := ⟨RX3, "begin", "(II)V"⟩
abbrev cX3_standingOfUser : ByteArray := prog_5_method_19_code
def yX3_standingOfUser : MethodName := ⟨RX3, "standingOfUser", "(I)I"⟩
abbrev cX3_countUsers : ByteArray := prog_5_method_20_code
def yX3_countUsers : MethodName := ⟨RX3, "countUsers", "()I"⟩
abbrev cX3_countProtected : ByteArray := prog_5_method_21_code
def yX3_countProtected : MethodName := ⟨RX3, "countProtected", "()I"⟩
def RX4 : String := "FeeDocket$State"
def TX4 : u_T := fun k => match k with
  | 0 => ("FeeDocket$State", "today", "I", false)
  | 1 => ("FeeDocket$State", "rightCount", "I", false)
  | 2 => ("FeeDocket$State", "sumPaid", "I", false)
  | 3 => ("FeeDocket$State", "sumSurcharges", "I", false)
  | 4 => ("FeeDocket$State", "sumPetitions", "I", false)
  | 5 => ("FeeDocket$State", "rights", "[LFeeDocket$Right;", true)
  | 6 => ("FeeDocket$State", "holidays", "LFeeDocket$Holidays;", true)
  | _ => ("FeeDocket$State", "fees", "LFeeDocket$Fees;", true)
def tyX4 : Nat → FieldType := fun k => match k with
  | 0 => .int
  | 1 => .int
  | 2 => .int
  | 3 => .int
  | 4 => .int
  | 5 => .array (.object "FeeDocket$Right")
  | 6 => .object "FeeDocket$Holidays"
  | _ => .object "FeeDocket$Fees"
abbrev wsX40 : List Cond := u_ws RX4 TX4 8
theorem nmX4 : ∀ a, a < 8 → ∀ b, b < 8 → a ≠ b → (TX4 a).2.1 ≠ (TX4 b).2.1 := by decide +kernel
theorem tyX4_ok : ∀ k, k < 8 → parseFieldDescriptor (TX4 k).2.2.1 = some (tyX4 k) := by decide +kernel
abbrev cX4_init : ByteArray := prog_6_method_1_code
def yX4_init : MethodName := ⟨RX4, "<init>", "()V"⟩
abbrev cX4_copyFrom : ByteArray := prog_6_method_2_code
def yX4_copyFrom : MethodName := ⟨RX4, "copyFrom", "(LFeeDocket$State;)V"⟩
abbrev cX4_addRight : ByteArray := prog_6_method_3_code
def yX4_addRight : MethodName := ⟨RX4, "addRight", "(IZ)V"⟩
abbrev cX4_takeRights : ByteArray := prog_6_method_4_code
def yX4_takeRights : MethodName := ⟨RX4, "takeRights", "(LFeeDocket$Text;)V"⟩
abbrev cX4_lapsesWithin : ByteArray := prog_6_method_5_code
def yX4_lapsesWithin : MethodName := ⟨RX4, "lapsesWithin", "(I)I"⟩
abbrev cX4_canPay : ByteArray := prog_6_method_6_code
def yX4_canPay : MethodName := ⟨RX4, "canPay", "(LFeeDocket$Right;)Z"⟩
abbrev cX4_canRevive : ByteArray := prog_6_method_7_code
def yX4_canRevive : MethodName := ⟨RX4, "canRevive", "(LFeeDocket$Right;)Z"⟩
abbrev cX4_canUse : ByteArray := prog_6_method_8_code
def yX4_canUse : MethodName := ⟨RX4, "canUse", "(LFeeDocket$Right;I)Z"⟩
abbrev cX4_surchargeToday : ByteArray := prog_6_method_9_code
def yX4_surchargeToday : MethodName := ⟨RX4, "surchargeToday", "(LFeeDocket$Right;I)I"⟩
abbrev cX4_priceToday : ByteArray := prog_6_method_10_code
def yX4_priceToday : MethodName := ⟨RX4, "priceToday", "(LFeeDocket$Right;I)I"⟩
abbrev cX4_payNextFee : ByteArray := prog_6_method_11_code
def yX4_payNextFee : MethodName := ⟨RX4, "payNextFee", "(LFeeDocket$Right;)I"⟩
abbrev cX4_payAllFees : ByteArray := prog_6_method_12_code
def yX4_payAllFees : MethodName := ⟨RX4, "payAllFees", "()I"⟩
abbrev cX4_reviveRight : ByteArray := prog_6_method_13_code
def yX4_reviveRight : MethodName := ⟨RX4, "reviveRight", "(LFeeDocket$Right;)I"⟩
abbrev cX4_rightDueFirst : ByteArray := prog_6_method_14_code
def yX4_rightDueFirst : MethodName := ⟨RX4, "rightDueFirst", "()I"⟩
abbrev cX4_costsWithin : ByteArray := prog_6_method_15_code
def yX4_costsWithin : MethodName := ⟨RX4, "costsWithin", "(I)I"⟩
abbrev cX4_costsUpTo : ByteArray := prog_6_method_16_code
def yX4_costsUpTo : MethodName := ⟨RX4, "costsUpTo", "(LFeeDocket$Right;I)I"⟩
abbrev cX4_rightValue : ByteArray := prog_6_method_17_code
def yX4_rightValue : MethodName := ⟨RX4, "rightValue", "(LFeeDocket$Right;I)I"⟩
abbrev cX4_docketValue : ByteArray := prog_6_method_18_code
def yX4_docketValue : MethodName := ⟨RX4, "docketValue", "(I)I"⟩
abbrev cX4_countStanding : ByteArray := prog_6_method_19_code
def yX4_countStanding : MethodName := ⟨RX4, "countStanding", "()I"⟩
abbrev cX4_countLapsed : ByteArray := prog_6_method_20_code
def yX4_countLapsed : MethodName := ⟨RX4, "countLapsed", "()I"⟩
def RX5 : String := "FeeDocket$Text"
def TX5 : u_T := fun k => match k with
  | 0 => ("FeeDocket$Text", "bytes", "[B", true)
  | 1 => ("FeeDocket$Text", "length", "I", false)
  | 2 => ("FeeDocket$Text", "position", "I", false)
  | 3 => ("FeeDocket$Text", "error", "I", false)
  | 4 => ("FeeDocket$Text", "rightCount", "I", false)
  | 5 => ("FeeDocket$Text", "filed", "[I", true)
  | _ => ("FeeDocket$Text", "small", "[Z", true)
def tyX5 : Nat → FieldType := fun k => match k with
  | 0 => .array .byte
  | 1 => .int
  | 2 => .int
  | 3 => .int
  | 4 => .int
  | 5 => .array .int
  | _ => .array .boolean
abbrev wsX50 : List Cond := u_ws RX5 TX5 7
theorem nmX5 : ∀ a, a < 7 → ∀ b, b < 7 → a ≠ b → (TX5 a).2.1 ≠ (TX5 b).2.1 := by decide +kernel
theorem tyX5_ok : ∀ k, k < 7 → parseFieldDescriptor (TX5 k).2.2.1 = some (tyX5 k) := by decide +kernel
abbrev cX5_init : ByteArray := prog_7_method_1_code
def yX5_init : MethodName := ⟨RX5, "<init>", "()V"⟩
abbrev cX5_add : ByteArray := prog_7_method_2_code
def yX5_add : MethodName := ⟨RX5, "add", "(I)V"⟩
abbrev cX5_read : ByteArray := prog_7_method_3_code
def yX5_read : MethodName := ⟨RX5, "read", "()I"⟩
abbrev cX5_readRight : ByteArray := prog_7_method_4_code
def yX5_readRight : MethodName := ⟨RX5, "readRight", "()V"⟩
abbrev cX5_readNumber : ByteArray := prog_7_method_5_code
def yX5_readNumber : MethodName := ⟨RX5, "readNumber", "(II)I"⟩
abbrev cX5_readSign : ByteArray := prog_7_method_6_code
def yX5_readSign : MethodName := ⟨RX5, "readSign", "(C)V"⟩
abbrev cX5_readSmall : ByteArray := prog_7_method_7_code
def yX5_readSmall : MethodName := ⟨RX5, "readSmall", "()Z"⟩
abbrev cX5_isDigit : ByteArray := prog_7_method_8_code
def yX5_isDigit : MethodName := ⟨RX5, "isDigit", "(I)Z"⟩
abbrev cX5_signAt : ByteArray := prog_7_method_9_code
def yX5_signAt : MethodName := ⟨RX5, "signAt", "(I)I"⟩
def RX6 : String := "FeeDocket"
def TX6 : u_T := fun k => match k with
  | 0 => ("FeeDocket", "now", "LFeeDocket$State;", true)
  | 1 => ("FeeDocket", "saved", "[LFeeDocket$State;", true)
  | 2 => ("FeeDocket", "savedCount", "I", false)
  | _ => ("FeeDocket", "text", "LFeeDocket$Text;", true)
def tyX6 : Nat → FieldType := fun k => match k with
  | 0 => .object "FeeDocket$State"
  | 1 => .array (.object "FeeDocket$State")
  | 2 => .int
  | _ => .object "FeeDocket$Text"
abbrev wsX60 : List Cond := u_ws RX6 TX6 4
theorem nmX6 : ∀ a, a < 4 → ∀ b, b < 4 → a ≠ b → (TX6 a).2.1 ≠ (TX6 b).2.1 := by decide +kernel
theorem tyX6_ok : ∀ k, k < 4 → parseFieldDescriptor (TX6 k).2.2.1 = some (tyX6 k) := by decide +kernel
abbrev cX6_init : ByteArray := prog_1_method_1_code
def yX6_init : MethodName := ⟨RX6, "<init>", "()V"⟩
abbrev cX6_date : ByteArray := prog_1_method_2_code
def yX6_date : MethodName := ⟨RX6, "date", "(I)I"⟩
abbrev cX6_day : ByteArray := prog_1_method_3_code
def yX6_day : MethodName := ⟨RX6, "day", "(III)I"⟩
abbrev cX6_later : ByteArray := prog_1_method_4_code
def yX6_later : MethodName := ⟨RX6, "later", "(II)I"⟩
abbrev cX6_putOff : ByteArray := prog_1_method_5_code
def yX6_putOff : MethodName := ⟨RX6, "putOff", "(I)I"⟩
abbrev cX6_holiday : ByteArray := prog_1_method_6_code
def yX6_holiday : MethodName := ⟨RX6, "holiday", "(II)I"⟩
abbrev cX6_file : ByteArray := prog_1_method_7_code
def yX6_file : MethodName := ⟨RX6, "file", "(Z)I"⟩
abbrev cX6_pass : ByteArray := prog_1_method_8_code
def yX6_pass : MethodName := ⟨RX6, "pass", "(I)I"⟩
abbrev cX6_pay : ByteArray := prog_1_method_9_code
def yX6_pay : MethodName := ⟨RX6, "pay", "(I)I"⟩
abbrev cX6_payAll : ByteArray := prog_1_method_10_code
def yX6_payAll : MethodName := ⟨RX6, "payAll", "()I"⟩
abbrev cX6_revive : ByteArray := prog_1_method_11_code
def yX6_revive : MethodName := ⟨RX6, "revive", "(I)I"⟩
abbrev cX6_use : ByteArray := prog_1_method_12_code
def yX6_use : MethodName := ⟨RX6, "use", "(II)I"⟩
abbrev cX6_setFees : ByteArray := prog_1_method_13_code
def yX6_setFees : MethodName := ⟨RX6, "setFees", "(IIII)I"⟩
abbrev cX6_right : ByteArray := prog_1_method_14_code
def yX6_right : MethodName := ⟨RX6, "right", "(II)I"⟩
abbrev cX6_due : ByteArray := prog_1_method_15_code
def yX6_due : MethodName := ⟨RX6, "due", "(IIZ)I"⟩
abbrev cX6_stood : ByteArray := prog_1_method_16_code
def yX6_stood : MethodName := ⟨RX6, "stood", "(II)Z"⟩
abbrev cX6_covered : ByteArray := prog_1_method_17_code
def yX6_covered : MethodName := ⟨RX6, "covered", "(II)Z"⟩
abbrev cX6_user : ByteArray := prog_1_method_18_code
def yX6_user : MethodName := ⟨RX6, "user", "(II)I"⟩
abbrev cX6_value : ByteArray := prog_1_method_19_code
def yX6_value : MethodName := ⟨RX6, "value", "(I)I"⟩
abbrev cX6_nextDue : ByteArray := prog_1_method_20_code
def yX6_nextDue : MethodName := ⟨RX6, "nextDue", "()I"⟩
abbrev cX6_costs : ByteArray := prog_1_method_21_code
def yX6_costs : MethodName := ⟨RX6, "costs", "(I)I"⟩
abbrev cX6_lapsing : ByteArray := prog_1_method_22_code
def yX6_lapsing : MethodName := ⟨RX6, "lapsing", "(I)I"⟩
abbrev cX6_share : ByteArray := prog_1_method_23_code
def yX6_share : MethodName := ⟨RX6, "share", "(I)D"⟩
abbrev cX6_append : ByteArray := prog_1_method_24_code
def yX6_append : MethodName := ⟨RX6, "append", "(I)I"⟩
abbrev cX6_clearText : ByteArray := prog_1_method_25_code
def yX6_clearText : MethodName := ⟨RX6, "clearText", "()I"⟩
abbrev cX6_parse : ByteArray := prog_1_method_26_code
def yX6_parse : MethodName := ⟨RX6, "parse", "()I"⟩
abbrev cX6_undo : ByteArray := prog_1_method_27_code
def yX6_undo : MethodName := ⟨RX6, "undo", "()I"⟩
abbrev cX6_digest : ByteArray := prog_1_method_28_code
def yX6_digest : MethodName := ⟨RX6, "digest", "()J"⟩
abbrev cX6_mixedWithRight : ByteArray := prog_1_method_29_code
def yX6_mixedWithRight : MethodName := ⟨RX6, "mixedWithRight", "(JLFeeDocket$Right;)J"⟩
abbrev cX6_mixed : ByteArray := prog_1_method_30_code
def yX6_mixed : MethodName := ⟨RX6, "mixed", "(JJ)J"⟩
abbrev cX6_isWithin : ByteArray := prog_1_method_31_code
def yX6_isWithin : MethodName := ⟨RX6, "isWithin", "(III)Z"⟩
abbrev cX6_checkArgument : ByteArray := prog_1_method_32_code
def yX6_checkArgument : MethodName := ⟨RX6, "checkArgument", "(Z)V"⟩
abbrev cX6_checkState : ByteArray := prog_1_method_33_code
def yX6_checkState : MethodName := ⟨RX6, "checkState", "(Z)V"⟩
abbrev cX6_existingRight : ByteArray := prog_1_method_34_code
def yX6_existingRight : MethodName := ⟨RX6, "existingRight", "(I)LFeeDocket$Right;"⟩
abbrev cX6_save : ByteArray := prog_1_method_35_code
def yX6_save : MethodName := ⟨RX6, "save", "()V"⟩
abbrev cX6_dropOldest : ByteArray := prog_1_method_36_code
def yX6_dropOldest : MethodName := ⟨RX6, "dropOldest", "()V"⟩
def RX7 : String := "FeeDocketModel"
def TX7 : u_T := fun k => match k with
  | 0 => ("FeeDocketModel", "now", "[I", true)
  | 1 => ("FeeDocketModel", "past", "[I", true)
  | 2 => ("FeeDocketModel", "aside", "[I", true)
  | 3 => ("FeeDocketModel", "saved", "I", false)
  | 4 => ("FeeDocketModel", "refusal", "I", false)
  | 5 => ("FeeDocketModel", "text", "[I", true)
  | 6 => ("FeeDocketModel", "length", "I", false)
  | 7 => ("FeeDocketModel", "from", "[I", true)
  | 8 => ("FeeDocketModel", "till", "[I", true)
  | 9 => ("FeeDocketModel", "lates", "I", false)
  | 10 => ("FeeDocketModel", "open", "I", false)
  | 11 => ("FeeDocketModel", "spot", "I", false)
  | 12 => ("FeeDocketModel", "number", "I", false)
  | _ => ("FeeDocketModel", "hash", "J", false)
def tyX7 : Nat → FieldType := fun k => match k with
  | 0 => .array .int
  | 1 => .array .int
  | 2 => .array .int
  | 3 => .int
  | 4 => .int
  | 5 => .array .int
  | 6 => .int
  | 7 => .array .int
  | 8 => .array .int
  | 9 => .int
  | 10 => .int
  | 11 => .int
  | 12 => .int
  | _ => .long
abbrev wsX70 : List Cond := u_ws RX7 TX7 14
theorem nmX7 : ∀ a, a < 14 → ∀ b, b < 14 → a ≠ b → (TX7 a).2.1 ≠ (TX7 b).2.1 := by decide +kernel
theorem tyX7_ok : ∀ k, k < 14 → parseFieldDescriptor (TX7 k).2.2.1 = some (tyX7 k) := by decide +kernel
abbrev cX7_init : ByteArray := prog_9_method_1_code
def yX7_init : MethodName := ⟨RX7, "<init>", "()V"⟩
abbrev cX7_thrown : ByteArray := prog_9_method_2_code
def yX7_thrown : MethodName := ⟨RX7, "thrown", "()I"⟩
abbrev cX7_refused : ByteArray := prog_9_method_3_code
def yX7_refused : MethodName := ⟨RX7, "refused", "(I)Z"⟩
abbrev cX7_in : ByteArray := prog_9_method_4_code
def yX7_in : MethodName := ⟨RX7, "in", "(III)Z"⟩
abbrev cX7_saves : ByteArray := prog_9_method_5_code
def yX7_saves : MethodName := ⟨RX7, "saves", "()V"⟩
abbrev cX7_undo : ByteArray := prog_9_method_6_code
def yX7_undo : MethodName := ⟨RX7, "undo", "()I"⟩
abbrev cX7_monthDays : ByteArray := prog_9_method_7_code
def yX7_monthDays : MethodName := ⟨RX7, "monthDays", "(II)I"⟩
abbrev cX7_newYear : ByteArray := prog_9_method_8_code
def yX7_newYear : MethodName := ⟨RX7, "newYear", "(I)I"⟩
abbrev cX7_dayOf : ByteArray := prog_9_method_9_code
def yX7_dayOf : MethodName := ⟨RX7, "dayOf", "(III)I"⟩
abbrev cX7_yearOf : ByteArray := prog_9_method_10_code
def yX7_yearOf : MethodName := ⟨RX7, "yearOf", "(I)I"⟩
abbrev cX7_dateOf : ByteArray := prog_9_method_11_code
def yX7_dateOf : MethodName := ⟨RX7, "dateOf", "(I)I"⟩
abbrev cX7_behind : ByteArray := prog_9_method_12_code
def yX7_behind : MethodName := ⟨RX7, "behind", "(II)I"⟩
abbrev cX7_isHoliday : ByteArray := prog_9_method_13_code
def yX7_isHoliday : MethodName := ⟨RX7, "isHoliday", "(I)Z"⟩
abbrev cX7_worksFrom : ByteArray := prog_9_method_14_code
def yX7_worksFrom : MethodName := ⟨RX7, "worksFrom", "(I)I"⟩
abbrev cX7_lastOf : ByteArray := prog_9_method_15_code
def yX7_lastOf : MethodName := ⟨RX7, "lastOf", "(I)I"⟩
abbrev cX7_date : ByteArray := prog_9_method_16_code
def yX7_date : MethodName := ⟨RX7, "date", "(I)I"⟩
abbrev cX7_day : ByteArray := prog_9_method_17_code
def yX7_day : MethodName := ⟨RX7, "day", "(III)I"⟩
abbrev cX7_later : ByteArray := prog_9_method_18_code
def yX7_later : MethodName := ⟨RX7, "later", "(II)I"⟩
abbrev cX7_putOff : ByteArray := prog_9_method_19_code
def yX7_putOff : MethodName := ⟨RX7, "putOff", "(I)I"⟩
abbrev cX7_takesHoliday : ByteArray := prog_9_method_20_code
def yX7_takesHoliday : MethodName := ⟨RX7, "takesHoliday", "(I)V"⟩
abbrev cX7_holiday : ByteArray := prog_9_method_21_code
def yX7_holiday : MethodName := ⟨RX7, "holiday", "(II)I"⟩
abbrev cX7_at : ByteArray := prog_9_method_22_code
def yX7_at : MethodName := ⟨RX7, "at", "(I)I"⟩
abbrev cX7_of : ByteArray := prog_9_method_23_code
def yX7_of : MethodName := ⟨RX7, "of", "(II)I"⟩
abbrev cX7_isRight : ByteArray := prog_9_method_24_code
def yX7_isRight : MethodName := ⟨RX7, "isRight", "(I)Z"⟩
abbrev cX7_comes : ByteArray := prog_9_method_25_code
def yX7_comes : MethodName := ⟨RX7, "comes", "(IZ)I"⟩
abbrev cX7_file : ByteArray := prog_9_method_26_code
def yX7_file : MethodName := ⟨RX7, "file", "(Z)I"⟩
abbrev cX7_dueOf : ByteArray := prog_9_method_27_code
def yX7_dueOf : MethodName := ⟨RX7, "dueOf", "(II)I"⟩
abbrev cX7_graceOf : ByteArray := prog_9_method_28_code
def yX7_graceOf : MethodName := ⟨RX7, "graceOf", "(II)I"⟩
abbrev cX7_endOf : ByteArray := prog_9_method_29_code
def yX7_endOf : MethodName := ⟨RX7, "endOf", "(I)I"⟩
abbrev cX7_nextOf : ByteArray := prog_9_method_30_code
def yX7_nextOf : MethodName := ⟨RX7, "nextOf", "(I)I"⟩
abbrev cX7_isLapsed : ByteArray := prog_9_method_31_code
def yX7_isLapsed : MethodName := ⟨RX7, "isLapsed", "(I)Z"⟩
abbrev cX7_stands : ByteArray := prog_9_method_32_code
def yX7_stands : MethodName := ⟨RX7, "stands", "(I)Z"⟩
abbrev cX7_lapsedOnes : ByteArray := prog_9_method_33_code
def yX7_lapsedOnes : MethodName := ⟨RX7, "lapsedOnes", "()I"⟩
abbrev cX7_pass : ByteArray := prog_9_method_34_code
def yX7_pass : MethodName := ⟨RX7, "pass", "(I)I"⟩
abbrev cX7_feeOf : ByteArray := prog_9_method_35_code
def yX7_feeOf : MethodName := ⟨RX7, "feeOf", "(II)I"⟩
abbrev cX7_surchargeOn : ByteArray := prog_9_method_36_code
def yX7_surchargeOn : MethodName := ⟨RX7, "surchargeOn", "(I)I"⟩
abbrev cX7_paysNext : ByteArray := prog_9_method_37_code
def yX7_paysNext : MethodName := ⟨RX7, "paysNext", "(IZ)I"⟩
abbrev cX7_canPay : ByteArray := prog_9_method_38_code
def yX7_canPay : MethodName := ⟨RX7, "canPay", "(I)Z"⟩
abbrev cX7_isLate : ByteArray := prog_9_method_39_code
def yX7_isLate : MethodName := ⟨RX7, "isLate", "(I)Z"⟩
abbrev cX7_pay : ByteArray := prog_9_method_40_code
def yX7_pay : MethodName := ⟨RX7, "pay", "(I)I"⟩
abbrev cX7_payAll : ByteArray := prog_9_method_41_code
def yX7_payAll : MethodName := ⟨RX7, "payAll", "()I"⟩
abbrev cX7_canRevive : ByteArray := prog_9_method_42_code
def yX7_canRevive : MethodName := ⟨RX7, "canRevive", "(I)Z"⟩
abbrev cX7_revive : ByteArray := prog_9_method_43_code
def yX7_revive : MethodName := ⟨RX7, "revive", "(I)I"⟩
abbrev cX7_usersOf : ByteArray := prog_9_method_44_code
def yX7_usersOf : MethodName := ⟨RX7, "usersOf", "(I)I"⟩
abbrev cX7_isUser : ByteArray := prog_9_method_45_code
def yX7_isUser : MethodName := ⟨RX7, "isUser", "(I)Z"⟩
abbrev cX7_use : ByteArray := prog_9_method_46_code
def yX7_use : MethodName := ⟨RX7, "use", "(II)I"⟩
abbrev cX7_setFees : ByteArray := prog_9_method_47_code
def yX7_setFees : MethodName := ⟨RX7, "setFees", "(IIII)I"⟩
abbrev cX7_bits : ByteArray := prog_9_method_48_code
def yX7_bits : MethodName := ⟨RX7, "bits", "(I)I"⟩
abbrev cX7_costNow : ByteArray := prog_9_method_49_code
def yX7_costNow : MethodName := ⟨RX7, "costNow", "(I)I"⟩
abbrev cX7_tellRight : ByteArray := prog_9_method_50_code
def yX7_tellRight : MethodName := ⟨RX7, "tellRight", "(II)I"⟩
abbrev cX7_right : ByteArray := prog_9_method_51_code
def yX7_right : MethodName := ⟨RX7, "right", "(II)I"⟩
abbrev cX7_due : ByteArray := prog_9_method_52_code
def yX7_due : MethodName := ⟨RX7, "due", "(IIZ)I"⟩
abbrev cX7_laysGaps : ByteArray := prog_9_method_53_code
def yX7_laysGaps : MethodName := ⟨RX7, "laysGaps", "(I)V"⟩
abbrev cX7_isCovered : ByteArray := prog_9_method_54_code
def yX7_isCovered : MethodName := ⟨RX7, "isCovered", "(I)Z"⟩
abbrev cX7_stoodOn : ByteArray := prog_9_method_55_code
def yX7_stoodOn : MethodName := ⟨RX7, "stoodOn", "(II)Z"⟩
abbrev cX7_stood : ByteArray := prog_9_method_56_code
def yX7_stood : MethodName := ⟨RX7, "stood", "(II)Z"⟩
abbrev cX7_covered : ByteArray := prog_9_method_57_code
def yX7_covered : MethodName := ⟨RX7, "covered", "(II)Z"⟩
abbrev cX7_tellUser : ByteArray := prog_9_method_58_code
def yX7_tellUser : MethodName := ⟨RX7, "tellUser", "(II)I"⟩
abbrev cX7_user : ByteArray := prog_9_method_59_code
def yX7_user : MethodName := ⟨RX7, "user", "(II)I"⟩
abbrev cX7_standing : ByteArray := prog_9_method_60_code
def yX7_standing : MethodName := ⟨RX7, "standing", "()I"⟩
abbrev cX7_tellValue : ByteArray := prog_9_method_61_code
def yX7_tellValue : MethodName := ⟨RX7, "tellValue", "(I)I"⟩
abbrev cX7_value : ByteArray := prog_9_method_62_code
def yX7_value : MethodName := ⟨RX7, "value", "(I)I"⟩
abbrev cX7_firstDue : ByteArray := prog_9_method_63_code
def yX7_firstDue : MethodName := ⟨RX7, "firstDue", "()I"⟩
abbrev cX7_nextDue : ByteArray := prog_9_method_64_code
def yX7_nextDue : MethodName := ⟨RX7, "nextDue", "()I"⟩
abbrev cX7_areDays : ByteArray := prog_9_method_65_code
def yX7_areDays : MethodName := ⟨RX7, "areDays", "(I)Z"⟩
abbrev cX7_costsOf : ByteArray := prog_9_method_66_code
def yX7_costsOf : MethodName := ⟨RX7, "costsOf", "(II)I"⟩
abbrev cX7_costs : ByteArray := prog_9_method_67_code
def yX7_costs : MethodName := ⟨RX7, "costs", "(I)I"⟩
abbrev cX7_lapsing : ByteArray := prog_9_method_68_code
def yX7_lapsing : MethodName := ⟨RX7, "lapsing", "(I)I"⟩
abbrev cX7_share : ByteArray := prog_9_method_69_code
def yX7_share : MethodName := ⟨RX7, "share", "(I)D"⟩
abbrev cX7_append : ByteArray := prog_9_method_70_code
def yX7_append : MethodName := ⟨RX7, "append", "(I)I"⟩
abbrev cX7_clearText : ByteArray := prog_9_method_71_code
def yX7_clearText : MethodName := ⟨RX7, "clearText", "()I"⟩
abbrev cX7_isAt : ByteArray := prog_9_method_72_code
def yX7_isAt : MethodName := ⟨RX7, "isAt", "(II)Z"⟩
abbrev cX7_takes : ByteArray := prog_9_method_73_code
def yX7_takes : MethodName := ⟨RX7, "takes", "(I)Z"⟩
abbrev cX7_takesNumber : ByteArray := prog_9_method_74_code
def yX7_takesNumber : MethodName := ⟨RX7, "takesNumber", "(II)Z"⟩
abbrev cX7_takesRight : ByteArray := prog_9_method_75_code
def yX7_takesRight : MethodName := ⟨RX7, "takesRight", "()Z"⟩
abbrev cX7_parse : ByteArray := prog_9_method_76_code
def yX7_parse : MethodName := ⟨RX7, "parse", "()I"⟩
abbrev cX7_swapsAside : ByteArray := prog_9_method_77_code
def yX7_swapsAside : MethodName := ⟨RX7, "swapsAside", "()V"⟩
abbrev cX7_mix : ByteArray := prog_9_method_78_code
def yX7_mix : MethodName := ⟨RX7, "mix", "(I)V"⟩
abbrev cX7_digest : ByteArray := prog_9_method_79_code
def yX7_digest : MethodName := ⟨RX7, "digest", "()J"⟩
def TJx145de : u_T := fun k => match k with
  | _ => ("", "", "", false)
def tyJx145de : Nat → FieldType := fun k => match k with
  | _ => .int
def RJ9 : String := "java/lang/Math"
def TJ9 : u_T := fun k => match k with
  | _ => ("", "", "", false)
def tyJ9 : Nat → FieldType := fun k => match k with
  | _ => .int
abbrev cJ9_max_7cf53 : ByteArray := prog_14_method_65_code
def yJ9_max_7cf53 : MethodName := ⟨RJ9, "max", "(II)I"⟩
abbrev cJ9_min_7cf53 : ByteArray := prog_14_method_69_code
def yJ9_min_7cf53 : MethodName := ⟨RJ9, "min", "(II)I"⟩
def RJ0 : String := "java/lang/String"
def TJ0 : u_T := fun k => match k with
  | _ => ("", "", "", false)
def tyJ0 : Nat → FieldType := fun k => match k with
  | _ => .int
def RJ10 : String := "java/lang/System"
def TJ10 : u_T := fun k => match k with
  | _ => ("", "", "", false)
def tyJ10 : Nat → FieldType := fun k => match k with
  | _ => .int
def RJ7 : String := "java/util/Arrays"
def TJ7 : u_T := fun k => match k with
  | _ => ("", "", "", false)
def tyJ7 : Nat → FieldType := fun k => match k with
  | _ => .int
abbrev cJ7_fill_53178 : ByteArray := prog_19_method_103_code
def yJ7_fill_53178 : MethodName := ⟨RJ7, "fill", "([II)V"⟩
def RL : String := "FeeDocketLaw"
abbrev cL_date : ByteArray := method_3_code
def yL_date : MethodName := ⟨RL, "date", "(LFeeDocket;I[J)I"⟩
abbrev cL_day : ByteArray := method_4_code
def yL_day : MethodName := ⟨RL, "day", "(LFeeDocket;III[J)I"⟩
abbrev cL_later : ByteArray := method_5_code
def yL_later : MethodName := ⟨RL, "later", "(LFeeDocket;II[J)I"⟩
abbrev cL_putOff : ByteArray := method_6_code
def yL_putOff : MethodName := ⟨RL, "putOff", "(LFeeDocket;I[J)I"⟩
abbrev cL_holiday : ByteArray := method_7_code
def yL_holiday : MethodName := ⟨RL, "holiday", "(LFeeDocket;II[J)I"⟩
abbrev cL_file : ByteArray := method_8_code
def yL_file : MethodName := ⟨RL, "file", "(LFeeDocket;Z[J)I"⟩
abbrev cL_pass : ByteArray := method_9_code
def yL_pass : MethodName := ⟨RL, "pass", "(LFeeDocket;I[J)I"⟩
abbrev cL_pay : ByteArray := method_10_code
def yL_pay : MethodName := ⟨RL, "pay", "(LFeeDocket;I[J)I"⟩
abbrev cL_revive : ByteArray := method_11_code
def yL_revive : MethodName := ⟨RL, "revive", "(LFeeDocket;I[J)I"⟩
abbrev cL_use : ByteArray := method_12_code
def yL_use : MethodName := ⟨RL, "use", "(LFeeDocket;II[J)I"⟩
abbrev cL_setFees : ByteArray := method_13_code
def yL_setFees : MethodName := ⟨RL, "setFees", "(LFeeDocket;IIII[J)I"⟩
abbrev cL_right : ByteArray := method_14_code
def yL_right : MethodName := ⟨RL, "right", "(LFeeDocket;II[J)I"⟩
abbrev cL_due : ByteArray := method_15_code
def yL_due : MethodName := ⟨RL, "due", "(LFeeDocket;IIZ[J)I"⟩
abbrev cL_stood : ByteArray := method_16_code
def yL_stood : MethodName := ⟨RL, "stood", "(LFeeDocket;II[J)I"⟩
abbrev cL_covered : ByteArray := method_17_code
def yL_covered : MethodName := ⟨RL, "covered", "(LFeeDocket;II[J)I"⟩
abbrev cL_user : ByteArray := method_18_code
def yL_user : MethodName := ⟨RL, "user", "(LFeeDocket;II[J)I"⟩
abbrev cL_value : ByteArray := method_19_code
def yL_value : MethodName := ⟨RL, "value", "(LFeeDocket;I[J)I"⟩
abbrev cL_costs : ByteArray := method_20_code
def yL_costs : MethodName := ⟨RL, "costs", "(LFeeDocket;I[J)I"⟩
abbrev cL_lapsing : ByteArray := method_21_code
def yL_lapsing : MethodName := ⟨RL, "lapsing", "(LFeeDocket;I[J)I"⟩
abbrev cL_share : ByteArray := method_22_code
def yL_share : MethodName := ⟨RL, "share", "(LFeeDocket;I[D)I"⟩
abbrev cL_append : ByteArray := method_23_code
def yL_append : MethodName := ⟨RL, "append", "(LFeeDocket;I[J)I"⟩
abbrev cL_undo : ByteArray := method_24_code
def yL_undo : MethodName := ⟨RL, "undo", "(LFeeDocket;[J)I"⟩
abbrev cL_law : ByteArray := code
def yL_law : MethodName := ⟨RL, "law", "([I)Z"⟩
abbrev vwCl : List vw_C := [(RX1, TX1, 4), (RX2, TX2, 2), (RX3, TX3, 11), (RX4, TX4, 8), (RX5, TX5, 7), (RX6, TX6, 4), (RX7, TX7, 14)]
def lw_all : List Cond := lw_tbl.filter goodWord
theorem lw_all_good : ∀ w ∈ lw_all, goodWord w = true := fun w h => (List.mem_filter.mp h).2
theorem lw_all_in : ∀ w ∈ lw_all, w ∈ lw_tbl := fun w h => (List.mem_filter.mp h).1
theorem lw_mk {w : Cond} (i : Nat) (h : lw_tbl[i]? = some w) (g : goodWord w = true) : w ∈ lw_all := List.mem_filter.mpr ⟨List.mem_of_getElem? h, g⟩
end
section
theorem w_0 : ((Jvm.Cond.initialized "FeeDocketLaw") : Cond) ∈ lw_all := lw_mk 55 (by decide +kernel) rfl
theorem w_1 : ((Jvm.Cond.initialized "FeeDocket") : Cond) ∈ lw_all := lw_mk 56 (by decide +kernel) rfl
theorem w_2 : ((Jvm.Cond.initialized "FeeDocket$State") : Cond) ∈ lw_all := lw_mk 57 (by decide +kernel) rfl
theorem w_3 : ((Jvm.Cond.initialized "FeeDocket$Holidays") : Cond) ∈ lw_all := lw_mk 58 (by decide +kernel) rfl
theorem w_4 : ((Jvm.Cond.initialized "FeeDocket$Fees") : Cond) ∈ lw_all := lw_mk 59 (by decide +kernel) rfl
theorem w_5 : ((Jvm.Cond.initialized "FeeDocket$Right") : Cond) ∈ lw_all := lw_mk 60 (by decide +kernel) rfl
theorem w_6 : ((Jvm.Cond.initialized "FeeDocket$Text") : Cond) ∈ lw_all := lw_mk 61 (by decide +kernel) rfl
theorem w_7 : ((Jvm.Cond.initialized "FeeDocketModel") : Cond) ∈ lw_all := lw_mk 62 (by decide +kernel) rfl
theorem w_8 : ((Jvm.Cond.initialized "java/lang/Throwable") : Cond) ∈ lw_all := lw_mk 63 (by decide +kernel) rfl
theorem w_9 : ((Jvm.Cond.initialized "java/lang/Exception") : Cond) ∈ lw_all := lw_mk 64 (by decide +kernel) rfl
theorem w_10 : ((Jvm.Cond.initialized "java/lang/RuntimeException") : Cond) ∈ lw_all := lw_mk 65 (by decide +kernel) rfl
theorem w_11 : ((Jvm.Cond.initialized "java/lang/IllegalArgumentException") : Cond) ∈ lw_all := lw_mk 66 (by decide +kernel) rfl
theorem w_12 : ((Jvm.Cond.initialized "FeeDocket$Calendar") : Cond) ∈ lw_all := lw_mk 67 (by decide +kernel) rfl
theorem w_13 : ((Jvm.Cond.initialized "java/lang/Math") : Cond) ∈ lw_all := lw_mk 68 (by decide +kernel) rfl
theorem w_14 : ((Jvm.Cond.initialized "java/lang/IllegalStateException") : Cond) ∈ lw_all := lw_mk 69 (by decide +kernel) rfl
theorem w_15 : ((Jvm.Cond.initialized "java/lang/System") : Cond) ∈ lw_all := lw_mk 70 (by decide +kernel) rfl
theorem w_16 : ((Jvm.Cond.initialized "java/util/Arrays") : Cond) ∈ lw_all := lw_mk 71 (by decide +kernel) rfl
theorem w_17 : ((Jvm.Cond.initialized "java/lang/IndexOutOfBoundsException") : Cond) ∈ lw_all := lw_mk 72 (by decide +kernel) rfl
theorem w_18 : ((Jvm.Cond.classLink "FeeDocketLaw" (8 : Nat) "FeeDocket") : Cond) ∈ lw_all := lw_mk 73 (by decide +kernel) rfl
theorem w_19 : ((Jvm.Cond.instantiable "FeeDocket" (4 : Nat)) : Cond) ∈ lw_all := lw_mk 74 (by decide +kernel) rfl
theorem w_20 : ((Jvm.Cond.methodLink "FeeDocketLaw" (90 : Nat) ({ cls := "FeeDocket", name := "<init>", desc := "()V" } : Jvm.MethodName)) : Cond) ∈ lw_all := lw_mk 75 (by decide +kernel) rfl
theorem w_21 : ((Jvm.Cond.instanceMethod ({ cls := "FeeDocket", name := "<init>", desc := "()V" } : Jvm.MethodName)) : Cond) ∈ lw_all := lw_mk 76 (by decide +kernel) rfl
theorem w_22 : ((Jvm.Cond.code ({ cls := "FeeDocket", name := "<init>", desc := "()V" } : Jvm.MethodName) prog_1_method_1_code (2 : Nat) (Option.none : Option Jvm.ClassFile.FieldType)) : Cond) ∈ lw_all := lw_mk 77 (by decide +kernel) rfl
theorem w_23 : ((Jvm.Cond.methodLink "FeeDocket" (1 : Nat) ({ cls := "java/lang/Object", name := "<init>", desc := "()V" } : Jvm.MethodName)) : Cond) ∈ lw_all := lw_mk 78 (by decide +kernel) rfl
theorem w_24 : ((Jvm.Cond.instanceMethod ({ cls := "java/lang/Object", name := "<init>", desc := "()V" } : Jvm.MethodName)) : Cond) ∈ lw_all := lw_mk 79 (by decide +kernel) rfl
theorem w_25 : ((Jvm.Cond.code ({ cls := "java/lang/Object", name := "<init>", desc := "()V" } : Jvm.MethodName) object_method_1_code (1 : Nat) (Option.none : Option Jvm.ClassFile.FieldType)) : Cond) ∈ lw_all := lw_mk 80 (by decide +kernel) rfl
theorem w_26 : ((Jvm.Cond.classLink "FeeDocket" (7 : Nat) "FeeDocket$State") : Cond) ∈ lw_all := lw_mk 81 (by decide +kernel) rfl
theorem w_27 : ((Jvm.Cond.instantiable "FeeDocket$State" (8 : Nat)) : Cond) ∈ lw_all := lw_mk 82 (by decide +kernel) rfl
theorem w_28 : ((Jvm.Cond.methodLink "FeeDocket" (9 : Nat) ({ cls := "FeeDocket$State", name := "<init>", desc := "()V" } : Jvm.MethodName)) : Cond) ∈ lw_all := lw_mk 83 (by decide +kernel) rfl
theorem w_29 : ((Jvm.Cond.instanceMethod ({ cls := "FeeDocket$State", name := "<init>", desc := "()V" } : Jvm.MethodName)) : Cond) ∈ lw_all := lw_mk 84 (by decide +kernel) rfl
theorem w_30 : ((Jvm.Cond.code ({ cls := "FeeDocket$State", name := "<init>", desc := "()V" } : Jvm.MethodName) prog_6_method_1_code (2 : Nat) (Option.none : Option Jvm.ClassFile.FieldType)) : Cond) ∈ lw_all := lw_mk 85 (by decide +kernel) rfl
theorem w_31 : ((Jvm.Cond.methodLink "FeeDocket$State" (3 : Nat) ({ cls := "java/lang/Object", name := "<init>", desc := "()V" } : Jvm.MethodName)) : Cond) ∈ lw_all := lw_mk 86 (by decide +kernel) rfl
theorem w_32 : ((Jvm.Cond.classLink "FeeDocket$State" (27 : Nat) "FeeDocket$Right") : Cond) ∈ lw_all := lw_mk 87 (by decide +kernel) rfl
theorem w_34 : ((Jvm.Cond.classLink "FeeDocket$State" (33 : Nat) "FeeDocket$Holidays") : Cond) ∈ lw_all := lw_mk 89 (by decide +kernel) rfl
theorem w_35 : ((Jvm.Cond.instantiable "FeeDocket$Holidays" (2 : Nat)) : Cond) ∈ lw_all := lw_mk 90 (by decide +kernel) rfl
theorem w_37 : ((Jvm.Cond.instanceMethod ({ cls := "FeeDocket$Holidays", name := "<init>", desc := "()V" } : Jvm.MethodName)) : Cond) ∈ lw_all := lw_mk 92 (by decide +kernel) rfl
theorem w_38 : ((Jvm.Cond.code ({ cls := "FeeDocket$Holidays", name := "<init>", desc := "()V" } : Jvm.MethodName) prog_4_method_1_code (1 : Nat) (Option.none : Option Jvm.ClassFile.FieldType)) : Cond) ∈ lw_all := lw_mk 93 (by decide +kernel) rfl
theorem w_39 : ((Jvm.Cond.methodLink "FeeDocket$Holidays" (3 : Nat) ({ cls := "java/lang/Object", name := "<init>", desc := "()V" } : Jvm.MethodName)) : Cond) ∈ lw_all := lw_mk 94 (by decide +kernel) rfl
theorem w_40 : ((Jvm.Cond.fieldLink "FeeDocket$Holidays" (9 : Nat) "FeeDocket$Holidays" "monthsAndDays" "[I") : Cond) ∈ lw_all := lw_mk 95 (by decide +kernel) rfl
theorem w_41 : ((Jvm.Cond.fieldLink "FeeDocket$Holidays" (15 : Nat) "FeeDocket$Holidays" "count" "I") : Cond) ∈ lw_all := lw_mk 96 (by decide +kernel) rfl
theorem w_44 : ((Jvm.Cond.laysFinal "FeeDocket$Holidays" "FeeDocket$Holidays" "monthsAndDays" "[I") : Cond) ∈ lw_all := lw_mk 99 (by decide +kernel) rfl
theorem w_45 : ((Jvm.Cond.soleField "FeeDocket$Holidays" "monthsAndDays") : Cond) ∈ lw_all := lw_mk 100 (by decide +kernel) rfl
theorem w_46 : ((Jvm.Cond.lays "FeeDocket$Holidays" "FeeDocket$Holidays" "count" "I") : Cond) ∈ lw_all := lw_mk 101 (by decide +kernel) rfl
theorem w_47 : ((Jvm.Cond.soleField "FeeDocket$Holidays" "count") : Cond) ∈ lw_all := lw_mk 102 (by decide +kernel) rfl
theorem w_48 : ((Jvm.Cond.superclass "FeeDocket$Holidays" "java/lang/Object") : Cond) ∈ lw_all := lw_mk 103 (by decide +kernel) rfl
theorem w_49 : ((Jvm.Cond.arrayClass Jvm.ClassFile.FieldType.int) : Cond) ∈ lw_all := lw_mk 104 (by decide +kernel) rfl
theorem w_50 : ((Jvm.Cond.classLink "FeeDocket$State" (40 : Nat) "FeeDocket$Fees") : Cond) ∈ lw_all := lw_mk 105 (by decide +kernel) rfl
theorem w_51 : ((Jvm.Cond.instantiable "FeeDocket$Fees" (4 : Nat)) : Cond) ∈ lw_all := lw_mk 106 (by decide +kernel) rfl
theorem w_53 : ((Jvm.Cond.instanceMethod ({ cls := "FeeDocket$Fees", name := "<init>", desc := "()V" } : Jvm.MethodName)) : Cond) ∈ lw_all := lw_mk 108 (by decide +kernel) rfl
theorem w_54 : ((Jvm.Cond.code ({ cls := "FeeDocket$Fees", name := "<init>", desc := "()V" } : Jvm.MethodName) prog_3_method_1_code (1 : Nat) (Option.none : Option Jvm.ClassFile.FieldType)) : Cond) ∈ lw_all := lw_mk 109 (by decide +kernel) rfl
theorem w_55 : ((Jvm.Cond.methodLink "FeeDocket$Fees" (1 : Nat) ({ cls := "java/lang/Object", name := "<init>", desc := "()V" } : Jvm.MethodName)) : Cond) ∈ lw_all := lw_mk 110 (by decide +kernel) rfl
theorem w_56 : ((Jvm.Cond.fieldLink "FeeDocket$Fees" (7 : Nat) "FeeDocket$Fees" "base" "I") : Cond) ∈ lw_all := lw_mk 111 (by decide +kernel) rfl
theorem w_59 : ((Jvm.Cond.fieldLink "FeeDocket$Fees" (13 : Nat) "FeeDocket$Fees" "step" "I") : Cond) ∈ lw_all := lw_mk 114 (by decide +kernel) rfl
theorem w_61 : ((Jvm.Cond.fieldLink "FeeDocket$Fees" (16 : Nat) "FeeDocket$Fees" "percent" "I") : Cond) ∈ lw_all := lw_mk 116 (by decide +kernel) rfl
theorem w_63 : ((Jvm.Cond.fieldLink "FeeDocket$Fees" (19 : Nat) "FeeDocket$Fees" "petition" "I") : Cond) ∈ lw_all := lw_mk 118 (by decide +kernel) rfl
theorem w_65 : ((Jvm.Cond.lays "FeeDocket$Fees" "FeeDocket$Fees" "base" "I") : Cond) ∈ lw_all := lw_mk 120 (by decide +kernel) rfl
theorem w_66 : ((Jvm.Cond.soleField "FeeDocket$Fees" "base") : Cond) ∈ lw_all := lw_mk 121 (by decide +kernel) rfl
theorem w_67 : ((Jvm.Cond.lays "FeeDocket$Fees" "FeeDocket$Fees" "step" "I") : Cond) ∈ lw_all := lw_mk 122 (by decide +kernel) rfl
theorem w_68 : ((Jvm.Cond.soleField "FeeDocket$Fees" "step") : Cond) ∈ lw_all := lw_mk 123 (by decide +kernel) rfl
theorem w_69 : ((Jvm.Cond.lays "FeeDocket$Fees" "FeeDocket$Fees" "percent" "I") : Cond) ∈ lw_all := lw_mk 124 (by decide +kernel) rfl
theorem w_70 : ((Jvm.Cond.soleField "FeeDocket$Fees" "percent") : Cond) ∈ lw_all := lw_mk 125 (by decide +kernel) rfl
theorem w_71 : ((Jvm.Cond.lays "FeeDocket$Fees" "FeeDocket$Fees" "petition" "I") : Cond) ∈ lw_all := lw_mk 126 (by decide +kernel) rfl
theorem w_72 : ((Jvm.Cond.soleField "FeeDocket$Fees" "petition") : Cond) ∈ lw_all := lw_mk 127 (by decide +kernel) rfl
theorem w_73 : ((Jvm.Cond.superclass "FeeDocket$Fees" "java/lang/Object") : Cond) ∈ lw_all := lw_mk 128 (by decide +kernel) rfl
theorem w_74 : ((Jvm.Cond.instantiable "FeeDocket$Right" (11 : Nat)) : Cond) ∈ lw_all := lw_mk 129 (by decide +kernel) rfl
theorem w_76 : ((Jvm.Cond.instanceMethod ({ cls := "FeeDocket$Right", name := "<init>", desc := "()V" } : Jvm.MethodName)) : Cond) ∈ lw_all := lw_mk 131 (by decide +kernel) rfl
theorem w_77 : ((Jvm.Cond.code ({ cls := "FeeDocket$Right", name := "<init>", desc := "()V" } : Jvm.MethodName) prog_5_method_1_code (1 : Nat) (Option.none : Option Jvm.ClassFile.FieldType)) : Cond) ∈ lw_all := lw_mk 132 (by decide +kernel) rfl
theorem w_78 : ((Jvm.Cond.methodLink "FeeDocket$Right" (3 : Nat) ({ cls := "java/lang/Object", name := "<init>", desc := "()V" } : Jvm.MethodName)) : Cond) ∈ lw_all := lw_mk 133 (by decide +kernel) rfl
theorem w_79 : ((Jvm.Cond.fieldLink "FeeDocket$Right" (9 : Nat) "FeeDocket$Right" "filed" "I") : Cond) ∈ lw_all := lw_mk 134 (by decide +kernel) rfl
theorem w_81 : ((Jvm.Cond.fieldLink "FeeDocket$Right" (15 : Nat) "FeeDocket$Right" "lastDay" "I") : Cond) ∈ lw_all := lw_mk 136 (by decide +kernel) rfl
theorem w_83 : ((Jvm.Cond.fieldLink "FeeDocket$Right" (18 : Nat) "FeeDocket$Right" "small" "Z") : Cond) ∈ lw_all := lw_mk 138 (by decide +kernel) rfl
theorem w_85 : ((Jvm.Cond.fieldLink "FeeDocket$Right" (22 : Nat) "FeeDocket$Right" "feesPaid" "I") : Cond) ∈ lw_all := lw_mk 140 (by decide +kernel) rfl
theorem w_87 : ((Jvm.Cond.fieldLink "FeeDocket$Right" (25 : Nat) "FeeDocket$Right" "sumPaid" "I") : Cond) ∈ lw_all := lw_mk 142 (by decide +kernel) rfl
theorem w_89 : ((Jvm.Cond.fieldLink "FeeDocket$Right" (28 : Nat) "FeeDocket$Right" "gaps" "I") : Cond) ∈ lw_all := lw_mk 144 (by decide +kernel) rfl
theorem w_91 : ((Jvm.Cond.fieldLink "FeeDocket$Right" (31 : Nat) "FeeDocket$Right" "dueDays" "[I") : Cond) ∈ lw_all := lw_mk 146 (by decide +kernel) rfl
theorem w_92 : ((Jvm.Cond.fieldLink "FeeDocket$Right" (35 : Nat) "FeeDocket$Right" "graceDays" "[I") : Cond) ∈ lw_all := lw_mk 147 (by decide +kernel) rfl
theorem w_93 : ((Jvm.Cond.fieldLink "FeeDocket$Right" (38 : Nat) "FeeDocket$Right" "paidOn" "[I") : Cond) ∈ lw_all := lw_mk 148 (by decide +kernel) rfl
theorem w_94 : ((Jvm.Cond.fieldLink "FeeDocket$Right" (41 : Nat) "FeeDocket$Right" "revivedOn" "[I") : Cond) ∈ lw_all := lw_mk 149 (by decide +kernel) rfl
theorem w_95 : ((Jvm.Cond.fieldLink "FeeDocket$Right" (44 : Nat) "FeeDocket$Right" "beganOn" "[I") : Cond) ∈ lw_all := lw_mk 150 (by decide +kernel) rfl
theorem w_96 : ((Jvm.Cond.lays "FeeDocket$Right" "FeeDocket$Right" "filed" "I") : Cond) ∈ lw_all := lw_mk 151 (by decide +kernel) rfl
theorem w_97 : ((Jvm.Cond.soleField "FeeDocket$Right" "filed") : Cond) ∈ lw_all := lw_mk 152 (by decide +kernel) rfl
theorem w_98 : ((Jvm.Cond.lays "FeeDocket$Right" "FeeDocket$Right" "lastDay" "I") : Cond) ∈ lw_all := lw_mk 153 (by decide +kernel) rfl
theorem w_99 : ((Jvm.Cond.soleField "FeeDocket$Right" "lastDay") : Cond) ∈ lw_all := lw_mk 154 (by decide +kernel) rfl
theorem w_100 : ((Jvm.Cond.lays "FeeDocket$Right" "FeeDocket$Right" "small" "Z") : Cond) ∈ lw_all := lw_mk 155 (by decide +kernel) rfl
theorem w_101 : ((Jvm.Cond.soleField "FeeDocket$Right" "small") : Cond) ∈ lw_all := lw_mk 156 (by decide +kernel) rfl
theorem w_102 : ((Jvm.Cond.lays "FeeDocket$Right" "FeeDocket$Right" "feesPaid" "I") : Cond) ∈ lw_all := lw_mk 157 (by decide +kernel) rfl
theorem w_103 : ((Jvm.Cond.soleField "FeeDocket$Right" "feesPaid") : Cond) ∈ lw_all := lw_mk 158 (by decide +kernel) rfl
theorem w_104 : ((Jvm.Cond.lays "FeeDocket$Right" "FeeDocket$Right" "sumPaid" "I") : Cond) ∈ lw_all := lw_mk 159 (by decide +kernel) rfl
theorem w_105 : ((Jvm.Cond.soleField "FeeDocket$Right" "sumPaid") : Cond) ∈ lw_all := lw_mk 160 (by decide +kernel) rfl
theorem w_106 : ((Jvm.Cond.lays "FeeDocket$Right" "FeeDocket$Right" "gaps" "I") : Cond) ∈ lw_all := lw_mk 161 (by decide +kernel) rfl
theorem w_107 : ((Jvm.Cond.soleField "FeeDocket$Right" "gaps") : Cond) ∈ lw_all := lw_mk 162 (by decide +kernel) rfl
theorem w_108 : ((Jvm.Cond.laysFinal "FeeDocket$Right" "FeeDocket$Right" "dueDays" "[I") : Cond) ∈ lw_all := lw_mk 163 (by decide +kernel) rfl
theorem w_109 : ((Jvm.Cond.soleField "FeeDocket$Right" "dueDays") : Cond) ∈ lw_all := lw_mk 164 (by decide +kernel) rfl
theorem w_110 : ((Jvm.Cond.laysFinal "FeeDocket$Right" "FeeDocket$Right" "graceDays" "[I") : Cond) ∈ lw_all := lw_mk 165 (by decide +kernel) rfl
theorem w_111 : ((Jvm.Cond.soleField "FeeDocket$Right" "graceDays") : Cond) ∈ lw_all := lw_mk 166 (by decide +kernel) rfl
theorem w_112 : ((Jvm.Cond.laysFinal "FeeDocket$Right" "FeeDocket$Right" "paidOn" "[I") : Cond) ∈ lw_all := lw_mk 167 (by decide +kernel) rfl
theorem w_113 : ((Jvm.Cond.soleField "FeeDocket$Right" "paidOn") : Cond) ∈ lw_all := lw_mk 168 (by decide +kernel) rfl
theorem w_114 : ((Jvm.Cond.laysFinal "FeeDocket$Right" "FeeDocket$Right" "revivedOn" "[I") : Cond) ∈ lw_all := lw_mk 169 (by decide +kernel) rfl
theorem w_115 : ((Jvm.Cond.soleField "FeeDocket$Right" "revivedOn") : Cond) ∈ lw_all := lw_mk 170 (by decide +kernel) rfl
theorem w_116 : ((Jvm.Cond.laysFinal "FeeDocket$Right" "FeeDocket$Right" "beganOn" "[I") : Cond) ∈ lw_all := lw_mk 171 (by decide +kernel) rfl
theorem w_117 : ((Jvm.Cond.soleField "FeeDocket$Right" "beganOn") : Cond) ∈ lw_all := lw_mk 172 (by decide +kernel) rfl
theorem w_118 : ((Jvm.Cond.superclass "FeeDocket$Right" "java/lang/Object") : Cond) ∈ lw_all := lw_mk 173 (by decide +kernel) rfl
theorem w_119 : ((Jvm.Cond.fieldLink "FeeDocket$State" (9 : Nat) "FeeDocket$State" "today" "I") : Cond) ∈ lw_all := lw_mk 174 (by decide +kernel) rfl
theorem w_121 : ((Jvm.Cond.fieldLink "FeeDocket$State" (15 : Nat) "FeeDocket$State" "rightCount" "I") : Cond) ∈ lw_all := lw_mk 176 (by decide +kernel) rfl
theorem w_123 : ((Jvm.Cond.fieldLink "FeeDocket$State" (18 : Nat) "FeeDocket$State" "sumPaid" "I") : Cond) ∈ lw_all := lw_mk 178 (by decide +kernel) rfl
theorem w_124 : ((Jvm.Cond.fieldLink "FeeDocket$State" (21 : Nat) "FeeDocket$State" "sumSurcharges" "I") : Cond) ∈ lw_all := lw_mk 179 (by decide +kernel) rfl
theorem w_125 : ((Jvm.Cond.fieldLink "FeeDocket$State" (24 : Nat) "FeeDocket$State" "sumPetitions" "I") : Cond) ∈ lw_all := lw_mk 180 (by decide +kernel) rfl
theorem w_126 : ((Jvm.Cond.fieldLink "FeeDocket$State" (29 : Nat) "FeeDocket$State" "rights" "[LFeeDocket$Right;") : Cond) ∈ lw_all := lw_mk 181 (by decide +kernel) rfl
theorem w_128 : ((Jvm.Cond.fieldLink "FeeDocket$State" (36 : Nat) "FeeDocket$State" "holidays" "LFeeDocket$Holidays;") : Cond) ∈ lw_all := lw_mk 183 (by decide +kernel) rfl
theorem w_130 : ((Jvm.Cond.fieldLink "FeeDocket$State" (43 : Nat) "FeeDocket$State" "fees" "LFeeDocket$Fees;") : Cond) ∈ lw_all := lw_mk 185 (by decide +kernel) rfl
theorem w_132 : ((Jvm.Cond.lays "FeeDocket$State" "FeeDocket$State" "today" "I") : Cond) ∈ lw_all := lw_mk 187 (by decide +kernel) rfl
theorem w_133 : ((Jvm.Cond.soleField "FeeDocket$State" "today") : Cond) ∈ lw_all := lw_mk 188 (by decide +kernel) rfl
theorem w_134 : ((Jvm.Cond.lays "FeeDocket$State" "FeeDocket$State" "rightCount" "I") : Cond) ∈ lw_all := lw_mk 189 (by decide +kernel) rfl
theorem w_135 : ((Jvm.Cond.soleField "FeeDocket$State" "rightCount") : Cond) ∈ lw_all := lw_mk 190 (by decide +kernel) rfl
theorem w_136 : ((Jvm.Cond.lays "FeeDocket$State" "FeeDocket$State" "sumPaid" "I") : Cond) ∈ lw_all := lw_mk 191 (by decide +kernel) rfl
theorem w_137 : ((Jvm.Cond.soleField "FeeDocket$State" "sumPaid") : Cond) ∈ lw_all := lw_mk 192 (by decide +kernel) rfl
theorem w_138 : ((Jvm.Cond.lays "FeeDocket$State" "FeeDocket$State" "sumSurcharges" "I") : Cond) ∈ lw_all := lw_mk 193 (by decide +kernel) rfl
theorem w_139 : ((Jvm.Cond.soleField "FeeDocket$State" "sumSurcharges") : Cond) ∈ lw_all := lw_mk 194 (by decide +kernel) rfl
theorem w_140 : ((Jvm.Cond.lays "FeeDocket$State" "FeeDocket$State" "sumPetitions" "I") : Cond) ∈ lw_all := lw_mk 195 (by decide +kernel) rfl
theorem w_141 : ((Jvm.Cond.soleField "FeeDocket$State" "sumPetitions") : Cond) ∈ lw_all := lw_mk 196 (by decide +kernel) rfl
theorem w_142 : ((Jvm.Cond.laysFinal "FeeDocket$State" "FeeDocket$State" "rights" "[LFeeDocket$Right;") : Cond) ∈ lw_all := lw_mk 197 (by decide +kernel) rfl
theorem w_143 : ((Jvm.Cond.soleField "FeeDocket$State" "rights") : Cond) ∈ lw_all := lw_mk 198 (by decide +kernel) rfl
theorem w_144 : ((Jvm.Cond.laysFinal "FeeDocket$State" "FeeDocket$State" "holidays" "LFeeDocket$Holidays;") : Cond) ∈ lw_all := lw_mk 199 (by decide +kernel) rfl
theorem w_145 : ((Jvm.Cond.soleField "FeeDocket$State" "holidays") : Cond) ∈ lw_all := lw_mk 200 (by decide +kernel) rfl
theorem w_146 : ((Jvm.Cond.laysFinal "FeeDocket$State" "FeeDocket$State" "fees" "LFeeDocket$Fees;") : Cond) ∈ lw_all := lw_mk 201 (by decide +kernel) rfl
theorem w_147 : ((Jvm.Cond.soleField "FeeDocket$State" "fees") : Cond) ∈ lw_all := lw_mk 202 (by decide +kernel) rfl
theorem w_148 : ((Jvm.Cond.superclass "FeeDocket$State" "java/lang/Object") : Cond) ∈ lw_all := lw_mk 203 (by decide +kernel) rfl
theorem w_150 : ((Jvm.Cond.classLink "FeeDocket" (24 : Nat) "FeeDocket$Text") : Cond) ∈ lw_all := lw_mk 205 (by decide +kernel) rfl
theorem w_151 : ((Jvm.Cond.instantiable "FeeDocket$Text" (7 : Nat)) : Cond) ∈ lw_all := lw_mk 206 (by decide +kernel) rfl
theorem w_153 : ((Jvm.Cond.instanceMethod ({ cls := "FeeDocket$Text", name := "<init>", desc := "()V" } : Jvm.MethodName)) : Cond) ∈ lw_all := lw_mk 208 (by decide +kernel) rfl
theorem w_154 : ((Jvm.Cond.code ({ cls := "FeeDocket$Text", name := "<init>", desc := "()V" } : Jvm.MethodName) prog_7_method_1_code (1 : Nat) (Option.none : Option Jvm.ClassFile.FieldType)) : Cond) ∈ lw_all := lw_mk 209 (by decide +kernel) rfl
theorem w_155 : ((Jvm.Cond.methodLink "FeeDocket$Text" (3 : Nat) ({ cls := "java/lang/Object", name := "<init>", desc := "()V" } : Jvm.MethodName)) : Cond) ∈ lw_all := lw_mk 210 (by decide +kernel) rfl
theorem w_156 : ((Jvm.Cond.fieldLink "FeeDocket$Text" (9 : Nat) "FeeDocket$Text" "bytes" "[B") : Cond) ∈ lw_all := lw_mk 211 (by decide +kernel) rfl
theorem w_157 : ((Jvm.Cond.fieldLink "FeeDocket$Text" (15 : Nat) "FeeDocket$Text" "length" "I") : Cond) ∈ lw_all := lw_mk 212 (by decide +kernel) rfl
theorem w_159 : ((Jvm.Cond.fieldLink "FeeDocket$Text" (19 : Nat) "FeeDocket$Text" "position" "I") : Cond) ∈ lw_all := lw_mk 214 (by decide +kernel) rfl
theorem w_160 : ((Jvm.Cond.fieldLink "FeeDocket$Text" (22 : Nat) "FeeDocket$Text" "error" "I") : Cond) ∈ lw_all := lw_mk 215 (by decide +kernel) rfl
theorem w_161 : ((Jvm.Cond.fieldLink "FeeDocket$Text" (25 : Nat) "FeeDocket$Text" "rightCount" "I") : Cond) ∈ lw_all := lw_mk 216 (by decide +kernel) rfl
theorem w_163 : ((Jvm.Cond.fieldLink "FeeDocket$Text" (28 : Nat) "FeeDocket$Text" "filed" "[I") : Cond) ∈ lw_all := lw_mk 218 (by decide +kernel) rfl
theorem w_165 : ((Jvm.Cond.fieldLink "FeeDocket$Text" (32 : Nat) "FeeDocket$Text" "small" "[Z") : Cond) ∈ lw_all := lw_mk 220 (by decide +kernel) rfl
theorem w_167 : ((Jvm.Cond.laysFinal "FeeDocket$Text" "FeeDocket$Text" "bytes" "[B") : Cond) ∈ lw_all := lw_mk 222 (by decide +kernel) rfl
theorem w_168 : ((Jvm.Cond.soleField "FeeDocket$Text" "bytes") : Cond) ∈ lw_all := lw_mk 223 (by decide +kernel) rfl
theorem w_169 : ((Jvm.Cond.lays "FeeDocket$Text" "FeeDocket$Text" "length" "I") : Cond) ∈ lw_all := lw_mk 224 (by decide +kernel) rfl
theorem w_170 : ((Jvm.Cond.soleField "FeeDocket$Text" "length") : Cond) ∈ lw_all := lw_mk 225 (by decide +kernel) rfl
theorem w_171 : ((Jvm.Cond.lays "FeeDocket$Text" "FeeDocket$Text" "position" "I") : Cond) ∈ lw_all := lw_mk 226 (by decide +kernel) rfl
theorem w_172 : ((Jvm.Cond.soleField "FeeDocket$Text" "position") : Cond) ∈ lw_all := lw_mk 227 (by decide +kernel) rfl
theorem w_173 : ((Jvm.Cond.lays "FeeDocket$Text" "FeeDocket$Text" "error" "I") : Cond) ∈ lw_all := lw_mk 228 (by decide +kernel) rfl
theorem w_174 : ((Jvm.Cond.soleField "FeeDocket$Text" "error") : Cond) ∈ lw_all := lw_mk 229 (by decide +kernel) rfl
theorem w_175 : ((Jvm.Cond.lays "FeeDocket$Text" "FeeDocket$Text" "rightCount" "I") : Cond) ∈ lw_all := lw_mk 230 (by decide +kernel) rfl
theorem w_176 : ((Jvm.Cond.soleField "FeeDocket$Text" "rightCount") : Cond) ∈ lw_all := lw_mk 231 (by decide +kernel) rfl
theorem w_177 : ((Jvm.Cond.laysFinal "FeeDocket$Text" "FeeDocket$Text" "filed" "[I") : Cond) ∈ lw_all := lw_mk 232 (by decide +kernel) rfl
theorem w_178 : ((Jvm.Cond.soleField "FeeDocket$Text" "filed") : Cond) ∈ lw_all := lw_mk 233 (by decide +kernel) rfl
theorem w_179 : ((Jvm.Cond.laysFinal "FeeDocket$Text" "FeeDocket$Text" "small" "[Z") : Cond) ∈ lw_all := lw_mk 234 (by decide +kernel) rfl
theorem w_180 : ((Jvm.Cond.soleField "FeeDocket$Text" "small") : Cond) ∈ lw_all := lw_mk 235 (by decide +kernel) rfl
theorem w_181 : ((Jvm.Cond.superclass "FeeDocket$Text" "java/lang/Object") : Cond) ∈ lw_all := lw_mk 236 (by decide +kernel) rfl
theorem w_182 : ((Jvm.Cond.arrayClass Jvm.ClassFile.FieldType.byte) : Cond) ∈ lw_all := lw_mk 237 (by decide +kernel) rfl
theorem w_183 : ((Jvm.Cond.arrayClass Jvm.ClassFile.FieldType.boolean) : Cond) ∈ lw_all := lw_mk 238 (by decide +kernel) rfl
theorem w_184 : ((Jvm.Cond.fieldLink "FeeDocket" (10 : Nat) "FeeDocket" "now" "LFeeDocket$State;") : Cond) ∈ lw_all := lw_mk 239 (by decide +kernel) rfl
theorem w_185 : ((Jvm.Cond.fieldLink "FeeDocket" (16 : Nat) "FeeDocket" "saved" "[LFeeDocket$State;") : Cond) ∈ lw_all := lw_mk 240 (by decide +kernel) rfl
theorem w_186 : ((Jvm.Cond.fieldLink "FeeDocket" (20 : Nat) "FeeDocket" "savedCount" "I") : Cond) ∈ lw_all := lw_mk 241 (by decide +kernel) rfl
theorem w_187 : ((Jvm.Cond.fieldLink "FeeDocket" (27 : Nat) "FeeDocket" "text" "LFeeDocket$Text;") : Cond) ∈ lw_all := lw_mk 242 (by decide +kernel) rfl
theorem w_188 : ((Jvm.Cond.laysFinal "FeeDocket" "FeeDocket" "now" "LFeeDocket$State;") : Cond) ∈ lw_all := lw_mk 243 (by decide +kernel) rfl
theorem w_189 : ((Jvm.Cond.soleField "FeeDocket" "now") : Cond) ∈ lw_all := lw_mk 244 (by decide +kernel) rfl
theorem w_190 : ((Jvm.Cond.laysFinal "FeeDocket" "FeeDocket" "saved" "[LFeeDocket$State;") : Cond) ∈ lw_all := lw_mk 245 (by decide +kernel) rfl
theorem w_191 : ((Jvm.Cond.soleField "FeeDocket" "saved") : Cond) ∈ lw_all := lw_mk 246 (by decide +kernel) rfl
theorem w_192 : ((Jvm.Cond.lays "FeeDocket" "FeeDocket" "savedCount" "I") : Cond) ∈ lw_all := lw_mk 247 (by decide +kernel) rfl
theorem w_193 : ((Jvm.Cond.soleField "FeeDocket" "savedCount") : Cond) ∈ lw_all := lw_mk 248 (by decide +kernel) rfl
theorem w_194 : ((Jvm.Cond.laysFinal "FeeDocket" "FeeDocket" "text" "LFeeDocket$Text;") : Cond) ∈ lw_all := lw_mk 249 (by decide +kernel) rfl
theorem w_195 : ((Jvm.Cond.soleField "FeeDocket" "text") : Cond) ∈ lw_all := lw_mk 250 (by decide +kernel) rfl
theorem w_196 : ((Jvm.Cond.superclass "FeeDocket" "java/lang/Object") : Cond) ∈ lw_all := lw_mk 251 (by decide +kernel) rfl
theorem w_197 : ((Jvm.Cond.methodLink "FeeDocketLaw" (127 : Nat) ({ cls := "FeeDocket", name := "payAll", desc := "()I" } : Jvm.MethodName)) : Cond) ∈ lw_all := lw_mk 252 (by decide +kernel) rfl
theorem w_198 : ((Jvm.Cond.instanceMethod ({ cls := "FeeDocket", name := "payAll", desc := "()I" } : Jvm.MethodName)) : Cond) ∈ lw_all := lw_mk 253 (by decide +kernel) rfl
theorem w_199 : ((Jvm.Cond.selects "FeeDocket" ({ cls := "FeeDocket", name := "payAll", desc := "()I" } : Jvm.MethodName) ({ cls := "FeeDocket", name := "payAll", desc := "()I" } : Jvm.MethodName)) : Cond) ∈ lw_all := lw_mk 254 (by decide +kernel) rfl
theorem w_200 : ((Jvm.Cond.code ({ cls := "FeeDocket", name := "payAll", desc := "()I" } : Jvm.MethodName) prog_1_method_10_code (1 : Nat) (Option.some Jvm.ClassFile.FieldType.int)) : Cond) ∈ lw_all := lw_mk 255 (by decide +kernel) rfl
theorem w_201 : ((Jvm.Cond.methodLink "FeeDocket" (75 : Nat) ({ cls := "FeeDocket", name := "save", desc := "()V" } : Jvm.MethodName)) : Cond) ∈ lw_all := lw_mk 256 (by decide +kernel) rfl
theorem w_203 : ((Jvm.Cond.instanceMethod ({ cls := "FeeDocket", name := "save", desc := "()V" } : Jvm.MethodName)) : Cond) ∈ lw_all := lw_mk 258 (by decide +kernel) rfl
theorem w_204 : ((Jvm.Cond.code ({ cls := "FeeDocket", name := "save", desc := "()V" } : Jvm.MethodName) prog_1_method_35_code (1 : Nat) (Option.none : Option Jvm.ClassFile.FieldType)) : Cond) ∈ lw_all := lw_mk 259 (by decide +kernel) rfl
theorem w_205 : ((Jvm.Cond.methodLink "FeeDocket" (228 : Nat) ({ cls := "FeeDocket", name := "dropOldest", desc := "()V" } : Jvm.MethodName)) : Cond) ∈ lw_all := lw_mk 260 (by decide +kernel) rfl
theorem w_207 : ((Jvm.Cond.instanceMethod ({ cls := "FeeDocket", name := "dropOldest", desc := "()V" } : Jvm.MethodName)) : Cond) ∈ lw_all := lw_mk 262 (by decide +kernel) rfl
theorem w_208 : ((Jvm.Cond.code ({ cls := "FeeDocket", name := "dropOldest", desc := "()V" } : Jvm.MethodName) prog_1_method_36_code (3 : Nat) (Option.none : Option Jvm.ClassFile.FieldType)) : Cond) ∈ lw_all := lw_mk 263 (by decide +kernel) rfl
theorem w_209 : ((Jvm.Cond.methodLink "FeeDocket" (191 : Nat) ({ cls := "FeeDocket$State", name := "copyFrom", desc := "(LFeeDocket$State;)V" } : Jvm.MethodName)) : Cond) ∈ lw_all := lw_mk 264 (by decide +kernel) rfl
theorem w_210 : ((Jvm.Cond.instanceMethod ({ cls := "FeeDocket$State", name := "copyFrom", desc := "(LFeeDocket$State;)V" } : Jvm.MethodName)) : Cond) ∈ lw_all := lw_mk 265 (by decide +kernel) rfl
theorem w_211 : ((Jvm.Cond.selects "FeeDocket$State" ({ cls := "FeeDocket$State", name := "copyFrom", desc := "(LFeeDocket$State;)V" } : Jvm.MethodName) ({ cls := "FeeDocket$State", name := "copyFrom", desc := "(LFeeDocket$State;)V" } : Jvm.MethodName)) : Cond) ∈ lw_all := lw_mk 266 (by decide +kernel) rfl
theorem w_212 : ((Jvm.Cond.code ({ cls := "FeeDocket$State", name := "copyFrom", desc := "(LFeeDocket$State;)V" } : Jvm.MethodName) prog_6_method_2_code (3 : Nat) (Option.none : Option Jvm.ClassFile.FieldType)) : Cond) ∈ lw_all := lw_mk 267 (by decide +kernel) rfl
theorem w_213 : ((Jvm.Cond.methodLink "FeeDocket$State" (48 : Nat) ({ cls := "FeeDocket$Holidays", name := "copyFrom", desc := "(LFeeDocket$Holidays;)V" } : Jvm.MethodName)) : Cond) ∈ lw_all := lw_mk 268 (by decide +kernel) rfl
theorem w_214 : ((Jvm.Cond.instanceMethod ({ cls := "FeeDocket$Holidays", name := "copyFrom", desc := "(LFeeDocket$Holidays;)V" } : Jvm.MethodName)) : Cond) ∈ lw_all := lw_mk 269 (by decide +kernel) rfl
theorem w_215 : ((Jvm.Cond.selects "FeeDocket$Holidays" ({ cls := "FeeDocket$Holidays", name := "copyFrom", desc := "(LFeeDocket$Holidays;)V" } : Jvm.MethodName) ({ cls := "FeeDocket$Holidays", name := "copyFrom", desc := "(LFeeDocket$Holidays;)V" } : Jvm.MethodName)) : Cond) ∈ lw_all := lw_mk 270 (by decide +kernel) rfl
theorem w_216 : ((Jvm.Cond.code ({ cls := "FeeDocket$Holidays", name := "copyFrom", desc := "(LFeeDocket$Holidays;)V" } : Jvm.MethodName) prog_4_method_5_code (2 : Nat) (Option.none : Option Jvm.ClassFile.FieldType)) : Cond) ∈ lw_all := lw_mk 271 (by decide +kernel) rfl
theorem w_217 : ((Jvm.Cond.methodLink "FeeDocket$Holidays" (31 : Nat) ({ cls := "java/lang/System", name := "arraycopy", desc := "(Ljava/lang/Object;ILjava/lang/Object;II)V" } : Jvm.MethodName)) : Cond) ∈ lw_all := lw_mk 272 (by decide +kernel) rfl
theorem w_218 : ((Jvm.Cond.static ({ cls := "java/lang/System", name := "arraycopy", desc := "(Ljava/lang/Object;ILjava/lang/Object;II)V" } : Jvm.MethodName)) : Cond) ∈ lw_all := lw_mk 273 (by decide +kernel) rfl
theorem w_219 : ((Jvm.Cond.native ({ cls := "java/lang/System", name := "arraycopy", desc := "(Ljava/lang/Object;ILjava/lang/Object;II)V" } : Jvm.MethodName)) : Cond) ∈ lw_all := lw_mk 274 (by decide +kernel) rfl
theorem w_220 : ((Jvm.Cond.methodLink "FeeDocket$State" (52 : Nat) ({ cls := "FeeDocket$Fees", name := "copyFrom", desc := "(LFeeDocket$Fees;)V" } : Jvm.MethodName)) : Cond) ∈ lw_all := lw_mk 275 (by decide +kernel) rfl
theorem w_221 : ((Jvm.Cond.instanceMethod ({ cls := "FeeDocket$Fees", name := "copyFrom", desc := "(LFeeDocket$Fees;)V" } : Jvm.MethodName)) : Cond) ∈ lw_all := lw_mk 276 (by decide +kernel) rfl
theorem w_222 : ((Jvm.Cond.selects "FeeDocket$Fees" ({ cls := "FeeDocket$Fees", name := "copyFrom", desc := "(LFeeDocket$Fees;)V" } : Jvm.MethodName) ({ cls := "FeeDocket$Fees", name := "copyFrom", desc := "(LFeeDocket$Fees;)V" } : Jvm.MethodName)) : Cond) ∈ lw_all := lw_mk 277 (by decide +kernel) rfl
theorem w_223 : ((Jvm.Cond.code ({ cls := "FeeDocket$Fees", name := "copyFrom", desc := "(LFeeDocket$Fees;)V" } : Jvm.MethodName) prog_3_method_3_code (2 : Nat) (Option.none : Option Jvm.ClassFile.FieldType)) : Cond) ∈ lw_all := lw_mk 278 (by decide +kernel) rfl
theorem w_224 : ((Jvm.Cond.methodLink "FeeDocket$Fees" (22 : Nat) ({ cls := "FeeDocket$Fees", name := "set", desc := "(IIII)V" } : Jvm.MethodName)) : Cond) ∈ lw_all := lw_mk 279 (by decide +kernel) rfl
theorem w_225 : ((Jvm.Cond.instanceMethod ({ cls := "FeeDocket$Fees", name := "set", desc := "(IIII)V" } : Jvm.MethodName)) : Cond) ∈ lw_all := lw_mk 280 (by decide +kernel) rfl
theorem w_226 : ((Jvm.Cond.selects "FeeDocket$Fees" ({ cls := "FeeDocket$Fees", name := "set", desc := "(IIII)V" } : Jvm.MethodName) ({ cls := "FeeDocket$Fees", name := "set", desc := "(IIII)V" } : Jvm.MethodName)) : Cond) ∈ lw_all := lw_mk 281 (by decide +kernel) rfl
theorem w_227 : ((Jvm.Cond.code ({ cls := "FeeDocket$Fees", name := "set", desc := "(IIII)V" } : Jvm.MethodName) prog_3_method_2_code (5 : Nat) (Option.none : Option Jvm.ClassFile.FieldType)) : Cond) ∈ lw_all := lw_mk 282 (by decide +kernel) rfl
theorem w_228 : ((Jvm.Cond.methodLink "FeeDocket$State" (55 : Nat) ({ cls := "FeeDocket$Right", name := "copyFrom", desc := "(LFeeDocket$Right;)V" } : Jvm.MethodName)) : Cond) ∈ lw_all := lw_mk 283 (by decide +kernel) rfl
theorem w_229 : ((Jvm.Cond.instanceMethod ({ cls := "FeeDocket$Right", name := "copyFrom", desc := "(LFeeDocket$Right;)V" } : Jvm.MethodName)) : Cond) ∈ lw_all := lw_mk 284 (by decide +kernel) rfl
theorem w_230 : ((Jvm.Cond.selects "FeeDocket$Right" ({ cls := "FeeDocket$Right", name := "copyFrom", desc := "(LFeeDocket$Right;)V" } : Jvm.MethodName) ({ cls := "FeeDocket$Right", name := "copyFrom", desc := "(LFeeDocket$Right;)V" } : Jvm.MethodName)) : Cond) ∈ lw_all := lw_mk 285 (by decide +kernel) rfl
theorem w_231 : ((Jvm.Cond.code ({ cls := "FeeDocket$Right", name := "copyFrom", desc := "(LFeeDocket$Right;)V" } : Jvm.MethodName) prog_5_method_3_code (2 : Nat) (Option.none : Option Jvm.ClassFile.FieldType)) : Cond) ∈ lw_all := lw_mk 286 (by decide +kernel) rfl
theorem w_232 : ((Jvm.Cond.methodLink "FeeDocket$Right" (65 : Nat) ({ cls := "java/lang/System", name := "arraycopy", desc := "(Ljava/lang/Object;ILjava/lang/Object;II)V" } : Jvm.MethodName)) : Cond) ∈ lw_all := lw_mk 287 (by decide +kernel) rfl
theorem w_233 : ((Jvm.Cond.methodLink "FeeDocket" (107 : Nat) ({ cls := "FeeDocket$State", name := "payAllFees", desc := "()I" } : Jvm.MethodName)) : Cond) ∈ lw_all := lw_mk 288 (by decide +kernel) rfl
theorem w_234 : ((Jvm.Cond.instanceMethod ({ cls := "FeeDocket$State", name := "payAllFees", desc := "()I" } : Jvm.MethodName)) : Cond) ∈ lw_all := lw_mk 289 (by decide +kernel) rfl
theorem w_235 : ((Jvm.Cond.selects "FeeDocket$State" ({ cls := "FeeDocket$State", name := "payAllFees", desc := "()I" } : Jvm.MethodName) ({ cls := "FeeDocket$State", name := "payAllFees", desc := "()I" } : Jvm.MethodName)) : Cond) ∈ lw_all := lw_mk 290 (by decide +kernel) rfl
theorem w_236 : ((Jvm.Cond.code ({ cls := "FeeDocket$State", name := "payAllFees", desc := "()I" } : Jvm.MethodName) prog_6_method_12_code (3 : Nat) (Option.some Jvm.ClassFile.FieldType.int)) : Cond) ∈ lw_all := lw_mk 291 (by decide +kernel) rfl
theorem w_237 : ((Jvm.Cond.methodLink "FeeDocket$State" (137 : Nat) ({ cls := "FeeDocket$State", name := "canPay", desc := "(LFeeDocket$Right;)Z" } : Jvm.MethodName)) : Cond) ∈ lw_all := lw_mk 292 (by decide +kernel) rfl
theorem w_238 : ((Jvm.Cond.instanceMethod ({ cls := "FeeDocket$State", name := "canPay", desc := "(LFeeDocket$Right;)Z" } : Jvm.MethodName)) : Cond) ∈ lw_all := lw_mk 293 (by decide +kernel) rfl
theorem w_239 : ((Jvm.Cond.selects "FeeDocket$State" ({ cls := "FeeDocket$State", name := "canPay", desc := "(LFeeDocket$Right;)Z" } : Jvm.MethodName) ({ cls := "FeeDocket$State", name := "canPay", desc := "(LFeeDocket$Right;)Z" } : Jvm.MethodName)) : Cond) ∈ lw_all := lw_mk 294 (by decide +kernel) rfl
theorem w_240 : ((Jvm.Cond.code ({ cls := "FeeDocket$State", name := "canPay", desc := "(LFeeDocket$Right;)Z" } : Jvm.MethodName) prog_6_method_6_code (3 : Nat) (Option.some Jvm.ClassFile.FieldType.boolean)) : Cond) ∈ lw_all := lw_mk 295 (by decide +kernel) rfl
theorem w_241 : ((Jvm.Cond.methodLink "FeeDocket$State" (87 : Nat) ({ cls := "FeeDocket$Right", name := "nextYear", desc := "()I" } : Jvm.MethodName)) : Cond) ∈ lw_all := lw_mk 296 (by decide +kernel) rfl
theorem w_242 : ((Jvm.Cond.instanceMethod ({ cls := "FeeDocket$Right", name := "nextYear", desc := "()I" } : Jvm.MethodName)) : Cond) ∈ lw_all := lw_mk 297 (by decide +kernel) rfl
theorem w_243 : ((Jvm.Cond.selects "FeeDocket$Right" ({ cls := "FeeDocket$Right", name := "nextYear", desc := "()I" } : Jvm.MethodName) ({ cls := "FeeDocket$Right", name := "nextYear", desc := "()I" } : Jvm.MethodName)) : Cond) ∈ lw_all := lw_mk 298 (by decide +kernel) rfl
theorem w_244 : ((Jvm.Cond.code ({ cls := "FeeDocket$Right", name := "nextYear", desc := "()I" } : Jvm.MethodName) prog_5_method_4_code (1 : Nat) (Option.some Jvm.ClassFile.FieldType.int)) : Cond) ∈ lw_all := lw_mk 299 (by decide +kernel) rfl
theorem w_245 : ((Jvm.Cond.methodLink "FeeDocket$State" (83 : Nat) ({ cls := "FeeDocket$Right", name := "isLapsed", desc := "(I)Z" } : Jvm.MethodName)) : Cond) ∈ lw_all := lw_mk 300 (by decide +kernel) rfl
theorem w_246 : ((Jvm.Cond.instanceMethod ({ cls := "FeeDocket$Right", name := "isLapsed", desc := "(I)Z" } : Jvm.MethodName)) : Cond) ∈ lw_all := lw_mk 301 (by decide +kernel) rfl
theorem w_247 : ((Jvm.Cond.selects "FeeDocket$Right" ({ cls := "FeeDocket$Right", name := "isLapsed", desc := "(I)Z" } : Jvm.MethodName) ({ cls := "FeeDocket$Right", name := "isLapsed", desc := "(I)Z" } : Jvm.MethodName)) : Cond) ∈ lw_all := lw_mk 302 (by decide +kernel) rfl
theorem w_248 : ((Jvm.Cond.code ({ cls := "FeeDocket$Right", name := "isLapsed", desc := "(I)Z" } : Jvm.MethodName) prog_5_method_9_code (3 : Nat) (Option.some Jvm.ClassFile.FieldType.boolean)) : Cond) ∈ lw_all := lw_mk 303 (by decide +kernel) rfl
theorem w_249 : ((Jvm.Cond.methodLink "FeeDocket$Right" (71 : Nat) ({ cls := "FeeDocket$Right", name := "nextYear", desc := "()I" } : Jvm.MethodName)) : Cond) ∈ lw_all := lw_mk 304 (by decide +kernel) rfl
theorem w_250 : ((Jvm.Cond.methodLink "FeeDocket$Right" (75 : Nat) ({ cls := "FeeDocket$Right", name := "graceOf", desc := "(I)I" } : Jvm.MethodName)) : Cond) ∈ lw_all := lw_mk 305 (by decide +kernel) rfl
theorem w_251 : ((Jvm.Cond.instanceMethod ({ cls := "FeeDocket$Right", name := "graceOf", desc := "(I)I" } : Jvm.MethodName)) : Cond) ∈ lw_all := lw_mk 306 (by decide +kernel) rfl
theorem w_252 : ((Jvm.Cond.selects "FeeDocket$Right" ({ cls := "FeeDocket$Right", name := "graceOf", desc := "(I)I" } : Jvm.MethodName) ({ cls := "FeeDocket$Right", name := "graceOf", desc := "(I)I" } : Jvm.MethodName)) : Cond) ∈ lw_all := lw_mk 307 (by decide +kernel) rfl
theorem w_253 : ((Jvm.Cond.code ({ cls := "FeeDocket$Right", name := "graceOf", desc := "(I)I" } : Jvm.MethodName) prog_5_method_6_code (2 : Nat) (Option.some Jvm.ClassFile.FieldType.int)) : Cond) ∈ lw_all := lw_mk 308 (by decide +kernel) rfl
theorem w_254 : ((Jvm.Cond.methodLink "FeeDocket$State" (91 : Nat) ({ cls := "FeeDocket$Right", name := "dueOf", desc := "(I)I" } : Jvm.MethodName)) : Cond) ∈ lw_all := lw_mk 309 (by decide +kernel) rfl
theorem w_255 : ((Jvm.Cond.instanceMethod ({ cls := "FeeDocket$Right", name := "dueOf", desc := "(I)I" } : Jvm.MethodName)) : Cond) ∈ lw_all := lw_mk 310 (by decide +kernel) rfl
theorem w_256 : ((Jvm.Cond.selects "FeeDocket$Right" ({ cls := "FeeDocket$Right", name := "dueOf", desc := "(I)I" } : Jvm.MethodName) ({ cls := "FeeDocket$Right", name := "dueOf", desc := "(I)I" } : Jvm.MethodName)) : Cond) ∈ lw_all := lw_mk 311 (by decide +kernel) rfl
theorem w_257 : ((Jvm.Cond.code ({ cls := "FeeDocket$Right", name := "dueOf", desc := "(I)I" } : Jvm.MethodName) prog_5_method_5_code (2 : Nat) (Option.some Jvm.ClassFile.FieldType.int)) : Cond) ∈ lw_all := lw_mk 312 (by decide +kernel) rfl
theorem w_258 : ((Jvm.Cond.methodLink "FeeDocket$State" (141 : Nat) ({ cls := "FeeDocket$State", name := "payNextFee", desc := "(LFeeDocket$Right;)I" } : Jvm.MethodName)) : Cond) ∈ lw_all := lw_mk 313 (by decide +kernel) rfl
theorem w_259 : ((Jvm.Cond.instanceMethod ({ cls := "FeeDocket$State", name := "payNextFee", desc := "(LFeeDocket$Right;)I" } : Jvm.MethodName)) : Cond) ∈ lw_all := lw_mk 314 (by decide +kernel) rfl
theorem w_260 : ((Jvm.Cond.selects "FeeDocket$State" ({ cls := "FeeDocket$State", name := "payNextFee", desc := "(LFeeDocket$Right;)I" } : Jvm.MethodName) ({ cls := "FeeDocket$State", name := "payNextFee", desc := "(LFeeDocket$Right;)I" } : Jvm.MethodName)) : Cond) ∈ lw_all := lw_mk 315 (by decide +kernel) rfl
theorem w_261 : ((Jvm.Cond.code ({ cls := "FeeDocket$State", name := "payNextFee", desc := "(LFeeDocket$Right;)I" } : Jvm.MethodName) prog_6_method_11_code (4 : Nat) (Option.some Jvm.ClassFile.FieldType.int)) : Cond) ∈ lw_all := lw_mk 316 (by decide +kernel) rfl
theorem w_262 : ((Jvm.Cond.methodLink "FeeDocket$State" (130 : Nat) ({ cls := "FeeDocket$State", name := "priceToday", desc := "(LFeeDocket$Right;I)I" } : Jvm.MethodName)) : Cond) ∈ lw_all := lw_mk 317 (by decide +kernel) rfl
theorem w_263 : ((Jvm.Cond.instanceMethod ({ cls := "FeeDocket$State", name := "priceToday", desc := "(LFeeDocket$Right;I)I" } : Jvm.MethodName)) : Cond) ∈ lw_all := lw_mk 318 (by decide +kernel) rfl
theorem w_264 : ((Jvm.Cond.selects "FeeDocket$State" ({ cls := "FeeDocket$State", name := "priceToday", desc := "(LFeeDocket$Right;I)I" } : Jvm.MethodName) ({ cls := "FeeDocket$State", name := "priceToday", desc := "(LFeeDocket$Right;I)I" } : Jvm.MethodName)) : Cond) ∈ lw_all := lw_mk 319 (by decide +kernel) rfl
theorem w_265 : ((Jvm.Cond.code ({ cls := "FeeDocket$State", name := "priceToday", desc := "(LFeeDocket$Right;I)I" } : Jvm.MethodName) prog_6_method_10_code (3 : Nat) (Option.some Jvm.ClassFile.FieldType.int)) : Cond) ∈ lw_all := lw_mk 320 (by decide +kernel) rfl
theorem w_266 : ((Jvm.Cond.methodLink "FeeDocket$State" (119 : Nat) ({ cls := "FeeDocket$Fees", name := "feeFor", desc := "(IZ)I" } : Jvm.MethodName)) : Cond) ∈ lw_all := lw_mk 321 (by decide +kernel) rfl
theorem w_267 : ((Jvm.Cond.instanceMethod ({ cls := "FeeDocket$Fees", name := "feeFor", desc := "(IZ)I" } : Jvm.MethodName)) : Cond) ∈ lw_all := lw_mk 322 (by decide +kernel) rfl
theorem w_268 : ((Jvm.Cond.selects "FeeDocket$Fees" ({ cls := "FeeDocket$Fees", name := "feeFor", desc := "(IZ)I" } : Jvm.MethodName) ({ cls := "FeeDocket$Fees", name := "feeFor", desc := "(IZ)I" } : Jvm.MethodName)) : Cond) ∈ lw_all := lw_mk 323 (by decide +kernel) rfl
theorem w_269 : ((Jvm.Cond.code ({ cls := "FeeDocket$Fees", name := "feeFor", desc := "(IZ)I" } : Jvm.MethodName) prog_3_method_4_code (4 : Nat) (Option.some Jvm.ClassFile.FieldType.int)) : Cond) ∈ lw_all := lw_mk 324 (by decide +kernel) rfl
theorem w_270 : ((Jvm.Cond.methodLink "FeeDocket$State" (126 : Nat) ({ cls := "FeeDocket$State", name := "surchargeToday", desc := "(LFeeDocket$Right;I)I" } : Jvm.MethodName)) : Cond) ∈ lw_all := lw_mk 325 (by decide +kernel) rfl
theorem w_271 : ((Jvm.Cond.instanceMethod ({ cls := "FeeDocket$State", name := "surchargeToday", desc := "(LFeeDocket$Right;I)I" } : Jvm.MethodName)) : Cond) ∈ lw_all := lw_mk 326 (by decide +kernel) rfl
theorem w_272 : ((Jvm.Cond.selects "FeeDocket$State" ({ cls := "FeeDocket$State", name := "surchargeToday", desc := "(LFeeDocket$Right;I)I" } : Jvm.MethodName) ({ cls := "FeeDocket$State", name := "surchargeToday", desc := "(LFeeDocket$Right;I)I" } : Jvm.MethodName)) : Cond) ∈ lw_all := lw_mk 327 (by decide +kernel) rfl
theorem w_273 : ((Jvm.Cond.code ({ cls := "FeeDocket$State", name := "surchargeToday", desc := "(LFeeDocket$Right;I)I" } : Jvm.MethodName) prog_6_method_9_code (3 : Nat) (Option.some Jvm.ClassFile.FieldType.int)) : Cond) ∈ lw_all := lw_mk 328 (by decide +kernel) rfl
theorem w_274 : ((Jvm.Cond.methodLink "FeeDocket$State" (123 : Nat) ({ cls := "FeeDocket$Fees", name := "surchargeOn", desc := "(I)I" } : Jvm.MethodName)) : Cond) ∈ lw_all := lw_mk 329 (by decide +kernel) rfl
theorem w_275 : ((Jvm.Cond.instanceMethod ({ cls := "FeeDocket$Fees", name := "surchargeOn", desc := "(I)I" } : Jvm.MethodName)) : Cond) ∈ lw_all := lw_mk 330 (by decide +kernel) rfl
theorem w_276 : ((Jvm.Cond.selects "FeeDocket$Fees" ({ cls := "FeeDocket$Fees", name := "surchargeOn", desc := "(I)I" } : Jvm.MethodName) ({ cls := "FeeDocket$Fees", name := "surchargeOn", desc := "(I)I" } : Jvm.MethodName)) : Cond) ∈ lw_all := lw_mk 331 (by decide +kernel) rfl
theorem w_277 : ((Jvm.Cond.code ({ cls := "FeeDocket$Fees", name := "surchargeOn", desc := "(I)I" } : Jvm.MethodName) prog_3_method_5_code (2 : Nat) (Option.some Jvm.ClassFile.FieldType.int)) : Cond) ∈ lw_all := lw_mk 332 (by decide +kernel) rfl
theorem w_278 : ((Jvm.Cond.methodLink "FeeDocket$State" (133 : Nat) ({ cls := "FeeDocket$Right", name := "takePayment", desc := "(II)V" } : Jvm.MethodName)) : Cond) ∈ lw_all := lw_mk 333 (by decide +kernel) rfl
theorem w_279 : ((Jvm.Cond.instanceMethod ({ cls := "FeeDocket$Right", name := "takePayment", desc := "(II)V" } : Jvm.MethodName)) : Cond) ∈ lw_all := lw_mk 334 (by decide +kernel) rfl
theorem w_280 : ((Jvm.Cond.selects "FeeDocket$Right" ({ cls := "FeeDocket$Right", name := "takePayment", desc := "(II)V" } : Jvm.MethodName) ({ cls := "FeeDocket$Right", name := "takePayment", desc := "(II)V" } : Jvm.MethodName)) : Cond) ∈ lw_all := lw_mk 335 (by decide +kernel) rfl
theorem w_281 : ((Jvm.Cond.code ({ cls := "FeeDocket$Right", name := "takePayment", desc := "(II)V" } : Jvm.MethodName) prog_5_method_10_code (4 : Nat) (Option.none : Option Jvm.ClassFile.FieldType)) : Cond) ∈ lw_all := lw_mk 336 (by decide +kernel) rfl
theorem w_282 : ((Jvm.Cond.methodLink "FeeDocketLaw" (160 : Nat) ({ cls := "FeeDocket", name := "nextDue", desc := "()I" } : Jvm.MethodName)) : Cond) ∈ lw_all := lw_mk 337 (by decide +kernel) rfl
theorem w_283 : ((Jvm.Cond.instanceMethod ({ cls := "FeeDocket", name := "nextDue", desc := "()I" } : Jvm.MethodName)) : Cond) ∈ lw_all := lw_mk 338 (by decide +kernel) rfl
theorem w_284 : ((Jvm.Cond.selects "FeeDocket" ({ cls := "FeeDocket", name := "nextDue", desc := "()I" } : Jvm.MethodName) ({ cls := "FeeDocket", name := "nextDue", desc := "()I" } : Jvm.MethodName)) : Cond) ∈ lw_all := lw_mk 339 (by decide +kernel) rfl
theorem w_285 : ((Jvm.Cond.code ({ cls := "FeeDocket", name := "nextDue", desc := "()I" } : Jvm.MethodName) prog_1_method_20_code (1 : Nat) (Option.some Jvm.ClassFile.FieldType.int)) : Cond) ∈ lw_all := lw_mk 340 (by decide +kernel) rfl
theorem w_286 : ((Jvm.Cond.methodLink "FeeDocket" (166 : Nat) ({ cls := "FeeDocket$State", name := "rightDueFirst", desc := "()I" } : Jvm.MethodName)) : Cond) ∈ lw_all := lw_mk 341 (by decide +kernel) rfl
theorem w_287 : ((Jvm.Cond.instanceMethod ({ cls := "FeeDocket$State", name := "rightDueFirst", desc := "()I" } : Jvm.MethodName)) : Cond) ∈ lw_all := lw_mk 342 (by decide +kernel) rfl
theorem w_288 : ((Jvm.Cond.selects "FeeDocket$State" ({ cls := "FeeDocket$State", name := "rightDueFirst", desc := "()I" } : Jvm.MethodName) ({ cls := "FeeDocket$State", name := "rightDueFirst", desc := "()I" } : Jvm.MethodName)) : Cond) ∈ lw_all := lw_mk 343 (by decide +kernel) rfl
theorem w_289 : ((Jvm.Cond.code ({ cls := "FeeDocket$State", name := "rightDueFirst", desc := "()I" } : Jvm.MethodName) prog_6_method_14_code (5 : Nat) (Option.some Jvm.ClassFile.FieldType.int)) : Cond) ∈ lw_all := lw_mk 344 (by decide +kernel) rfl
theorem w_290 : ((Jvm.Cond.methodLink "FeeDocketLaw" (177 : Nat) ({ cls := "FeeDocket", name := "clearText", desc := "()I" } : Jvm.MethodName)) : Cond) ∈ lw_all := lw_mk 345 (by decide +kernel) rfl
theorem w_291 : ((Jvm.Cond.instanceMethod ({ cls := "FeeDocket", name := "clearText", desc := "()I" } : Jvm.MethodName)) : Cond) ∈ lw_all := lw_mk 346 (by decide +kernel) rfl
theorem w_292 : ((Jvm.Cond.selects "FeeDocket" ({ cls := "FeeDocket", name := "clearText", desc := "()I" } : Jvm.MethodName) ({ cls := "FeeDocket", name := "clearText", desc := "()I" } : Jvm.MethodName)) : Cond) ∈ lw_all := lw_mk 347 (by decide +kernel) rfl
theorem w_293 : ((Jvm.Cond.code ({ cls := "FeeDocket", name := "clearText", desc := "()I" } : Jvm.MethodName) prog_1_method_25_code (2 : Nat) (Option.some Jvm.ClassFile.FieldType.int)) : Cond) ∈ lw_all := lw_mk 348 (by decide +kernel) rfl
theorem w_294 : ((Jvm.Cond.methodLink "FeeDocketLaw" (181 : Nat) ({ cls := "FeeDocket", name := "parse", desc := "()I" } : Jvm.MethodName)) : Cond) ∈ lw_all := lw_mk 349 (by decide +kernel) rfl
theorem w_295 : ((Jvm.Cond.instanceMethod ({ cls := "FeeDocket", name := "parse", desc := "()I" } : Jvm.MethodName)) : Cond) ∈ lw_all := lw_mk 350 (by decide +kernel) rfl
theorem w_296 : ((Jvm.Cond.selects "FeeDocket" ({ cls := "FeeDocket", name := "parse", desc := "()I" } : Jvm.MethodName) ({ cls := "FeeDocket", name := "parse", desc := "()I" } : Jvm.MethodName)) : Cond) ∈ lw_all := lw_mk 351 (by decide +kernel) rfl
theorem w_297 : ((Jvm.Cond.code ({ cls := "FeeDocket", name := "parse", desc := "()I" } : Jvm.MethodName) prog_1_method_26_code (2 : Nat) (Option.some Jvm.ClassFile.FieldType.int)) : Cond) ∈ lw_all := lw_mk 352 (by decide +kernel) rfl
theorem w_298 : ((Jvm.Cond.methodLink "FeeDocket" (184 : Nat) ({ cls := "FeeDocket$Text", name := "read", desc := "()I" } : Jvm.MethodName)) : Cond) ∈ lw_all := lw_mk 353 (by decide +kernel) rfl
theorem w_299 : ((Jvm.Cond.instanceMethod ({ cls := "FeeDocket$Text", name := "read", desc := "()I" } : Jvm.MethodName)) : Cond) ∈ lw_all := lw_mk 354 (by decide +kernel) rfl
theorem w_300 : ((Jvm.Cond.selects "FeeDocket$Text" ({ cls := "FeeDocket$Text", name := "read", desc := "()I" } : Jvm.MethodName) ({ cls := "FeeDocket$Text", name := "read", desc := "()I" } : Jvm.MethodName)) : Cond) ∈ lw_all := lw_mk 355 (by decide +kernel) rfl
theorem w_301 : ((Jvm.Cond.code ({ cls := "FeeDocket$Text", name := "read", desc := "()I" } : Jvm.MethodName) prog_7_method_3_code (2 : Nat) (Option.some Jvm.ClassFile.FieldType.int)) : Cond) ∈ lw_all := lw_mk 356 (by decide +kernel) rfl
theorem w_302 : ((Jvm.Cond.methodLink "FeeDocket$Text" (36 : Nat) ({ cls := "FeeDocket$Text", name := "readRight", desc := "()V" } : Jvm.MethodName)) : Cond) ∈ lw_all := lw_mk 357 (by decide +kernel) rfl
theorem w_304 : ((Jvm.Cond.instanceMethod ({ cls := "FeeDocket$Text", name := "readRight", desc := "()V" } : Jvm.MethodName)) : Cond) ∈ lw_all := lw_mk 359 (by decide +kernel) rfl
theorem w_305 : ((Jvm.Cond.code ({ cls := "FeeDocket$Text", name := "readRight", desc := "()V" } : Jvm.MethodName) prog_7_method_4_code (5 : Nat) (Option.none : Option Jvm.ClassFile.FieldType)) : Cond) ∈ lw_all := lw_mk 360 (by decide +kernel) rfl
theorem w_306 : ((Jvm.Cond.methodLink "FeeDocket$Text" (39 : Nat) ({ cls := "FeeDocket$Text", name := "readNumber", desc := "(II)I" } : Jvm.MethodName)) : Cond) ∈ lw_all := lw_mk 361 (by decide +kernel) rfl
theorem w_308 : ((Jvm.Cond.instanceMethod ({ cls := "FeeDocket$Text", name := "readNumber", desc := "(II)I" } : Jvm.MethodName)) : Cond) ∈ lw_all := lw_mk 363 (by decide +kernel) rfl
theorem w_309 : ((Jvm.Cond.code ({ cls := "FeeDocket$Text", name := "readNumber", desc := "(II)I" } : Jvm.MethodName) prog_7_method_5_code (5 : Nat) (Option.some Jvm.ClassFile.FieldType.int)) : Cond) ∈ lw_all := lw_mk 364 (by decide +kernel) rfl
theorem w_310 : ((Jvm.Cond.methodLink "FeeDocket$Text" (60 : Nat) ({ cls := "FeeDocket$Text", name := "isDigit", desc := "(I)Z" } : Jvm.MethodName)) : Cond) ∈ lw_all := lw_mk 365 (by decide +kernel) rfl
theorem w_312 : ((Jvm.Cond.instanceMethod ({ cls := "FeeDocket$Text", name := "isDigit", desc := "(I)Z" } : Jvm.MethodName)) : Cond) ∈ lw_all := lw_mk 367 (by decide +kernel) rfl
theorem w_313 : ((Jvm.Cond.code ({ cls := "FeeDocket$Text", name := "isDigit", desc := "(I)Z" } : Jvm.MethodName) prog_7_method_8_code (2 : Nat) (Option.some Jvm.ClassFile.FieldType.boolean)) : Cond) ∈ lw_all := lw_mk 368 (by decide +kernel) rfl
theorem w_314 : ((Jvm.Cond.methodLink "FeeDocket$Text" (64 : Nat) ({ cls := "FeeDocket$Text", name := "signAt", desc := "(I)I" } : Jvm.MethodName)) : Cond) ∈ lw_all := lw_mk 369 (by decide +kernel) rfl
theorem w_316 : ((Jvm.Cond.instanceMethod ({ cls := "FeeDocket$Text", name := "signAt", desc := "(I)I" } : Jvm.MethodName)) : Cond) ∈ lw_all := lw_mk 371 (by decide +kernel) rfl
theorem w_317 : ((Jvm.Cond.code ({ cls := "FeeDocket$Text", name := "signAt", desc := "(I)I" } : Jvm.MethodName) prog_7_method_9_code (2 : Nat) (Option.some Jvm.ClassFile.FieldType.int)) : Cond) ∈ lw_all := lw_mk 372 (by decide +kernel) rfl
theorem w_318 : ((Jvm.Cond.methodLink "FeeDocket$Text" (43 : Nat) ({ cls := "FeeDocket$Text", name := "readSign", desc := "(C)V" } : Jvm.MethodName)) : Cond) ∈ lw_all := lw_mk 373 (by decide +kernel) rfl
theorem w_320 : ((Jvm.Cond.instanceMethod ({ cls := "FeeDocket$Text", name := "readSign", desc := "(C)V" } : Jvm.MethodName)) : Cond) ∈ lw_all := lw_mk 375 (by decide +kernel) rfl
theorem w_321 : ((Jvm.Cond.code ({ cls := "FeeDocket$Text", name := "readSign", desc := "(C)V" } : Jvm.MethodName) prog_7_method_6_code (2 : Nat) (Option.none : Option Jvm.ClassFile.FieldType)) : Cond) ∈ lw_all := lw_mk 376 (by decide +kernel) rfl
theorem w_322 : ((Jvm.Cond.methodLink "FeeDocket$Text" (47 : Nat) ({ cls := "FeeDocket$Calendar", name := "monthLength", desc := "(II)I" } : Jvm.MethodName)) : Cond) ∈ lw_all := lw_mk 377 (by decide +kernel) rfl
theorem w_323 : ((Jvm.Cond.static ({ cls := "FeeDocket$Calendar", name := "monthLength", desc := "(II)I" } : Jvm.MethodName)) : Cond) ∈ lw_all := lw_mk 378 (by decide +kernel) rfl
theorem w_324 : ((Jvm.Cond.code ({ cls := "FeeDocket$Calendar", name := "monthLength", desc := "(II)I" } : Jvm.MethodName) prog_2_method_4_code (2 : Nat) (Option.some Jvm.ClassFile.FieldType.int)) : Cond) ∈ lw_all := lw_mk 379 (by decide +kernel) rfl
theorem w_325 : ((Jvm.Cond.methodLink "FeeDocket$Text" (52 : Nat) ({ cls := "FeeDocket$Text", name := "readSmall", desc := "()Z" } : Jvm.MethodName)) : Cond) ∈ lw_all := lw_mk 380 (by decide +kernel) rfl
theorem w_327 : ((Jvm.Cond.instanceMethod ({ cls := "FeeDocket$Text", name := "readSmall", desc := "()Z" } : Jvm.MethodName)) : Cond) ∈ lw_all := lw_mk 382 (by decide +kernel) rfl
theorem w_328 : ((Jvm.Cond.code ({ cls := "FeeDocket$Text", name := "readSmall", desc := "()Z" } : Jvm.MethodName) prog_7_method_7_code (1 : Nat) (Option.some Jvm.ClassFile.FieldType.boolean)) : Cond) ∈ lw_all := lw_mk 383 (by decide +kernel) rfl
theorem w_329 : ((Jvm.Cond.methodLink "FeeDocket$Text" (56 : Nat) ({ cls := "FeeDocket$Calendar", name := "dayOf", desc := "(III)I" } : Jvm.MethodName)) : Cond) ∈ lw_all := lw_mk 384 (by decide +kernel) rfl
theorem w_330 : ((Jvm.Cond.static ({ cls := "FeeDocket$Calendar", name := "dayOf", desc := "(III)I" } : Jvm.MethodName)) : Cond) ∈ lw_all := lw_mk 385 (by decide +kernel) rfl
theorem w_331 : ((Jvm.Cond.code ({ cls := "FeeDocket$Calendar", name := "dayOf", desc := "(III)I" } : Jvm.MethodName) prog_2_method_6_code (5 : Nat) (Option.some Jvm.ClassFile.FieldType.int)) : Cond) ∈ lw_all := lw_mk 386 (by decide +kernel) rfl
theorem w_332 : ((Jvm.Cond.methodLink "FeeDocket$Calendar" (13 : Nat) ({ cls := "FeeDocket$Calendar", name := "firstDayOf", desc := "(I)I" } : Jvm.MethodName)) : Cond) ∈ lw_all := lw_mk 387 (by decide +kernel) rfl
theorem w_333 : ((Jvm.Cond.static ({ cls := "FeeDocket$Calendar", name := "firstDayOf", desc := "(I)I" } : Jvm.MethodName)) : Cond) ∈ lw_all := lw_mk 388 (by decide +kernel) rfl
theorem w_334 : ((Jvm.Cond.code ({ cls := "FeeDocket$Calendar", name := "firstDayOf", desc := "(I)I" } : Jvm.MethodName) prog_2_method_3_code (1 : Nat) (Option.some Jvm.ClassFile.FieldType.int)) : Cond) ∈ lw_all := lw_mk 389 (by decide +kernel) rfl
theorem w_335 : ((Jvm.Cond.methodLink "FeeDocket$Calendar" (16 : Nat) ({ cls := "FeeDocket$Calendar", name := "monthLength", desc := "(II)I" } : Jvm.MethodName)) : Cond) ∈ lw_all := lw_mk 390 (by decide +kernel) rfl
theorem w_336 : ((Jvm.Cond.methodLink "FeeDocket" (187 : Nat) ({ cls := "FeeDocket$State", name := "takeRights", desc := "(LFeeDocket$Text;)V" } : Jvm.MethodName)) : Cond) ∈ lw_all := lw_mk 391 (by decide +kernel) rfl
theorem w_337 : ((Jvm.Cond.instanceMethod ({ cls := "FeeDocket$State", name := "takeRights", desc := "(LFeeDocket$Text;)V" } : Jvm.MethodName)) : Cond) ∈ lw_all := lw_mk 392 (by decide +kernel) rfl
theorem w_338 : ((Jvm.Cond.selects "FeeDocket$State" ({ cls := "FeeDocket$State", name := "takeRights", desc := "(LFeeDocket$Text;)V" } : Jvm.MethodName) ({ cls := "FeeDocket$State", name := "takeRights", desc := "(LFeeDocket$Text;)V" } : Jvm.MethodName)) : Cond) ∈ lw_all := lw_mk 393 (by decide +kernel) rfl
theorem w_339 : ((Jvm.Cond.code ({ cls := "FeeDocket$State", name := "takeRights", desc := "(LFeeDocket$Text;)V" } : Jvm.MethodName) prog_6_method_4_code (4 : Nat) (Option.none : Option Jvm.ClassFile.FieldType)) : Cond) ∈ lw_all := lw_mk 394 (by decide +kernel) rfl
theorem w_340 : ((Jvm.Cond.methodLink "FeeDocket$State" (73 : Nat) ({ cls := "FeeDocket$State", name := "addRight", desc := "(IZ)V" } : Jvm.MethodName)) : Cond) ∈ lw_all := lw_mk 395 (by decide +kernel) rfl
theorem w_341 : ((Jvm.Cond.instanceMethod ({ cls := "FeeDocket$State", name := "addRight", desc := "(IZ)V" } : Jvm.MethodName)) : Cond) ∈ lw_all := lw_mk 396 (by decide +kernel) rfl
theorem w_342 : ((Jvm.Cond.selects "FeeDocket$State" ({ cls := "FeeDocket$State", name := "addRight", desc := "(IZ)V" } : Jvm.MethodName) ({ cls := "FeeDocket$State", name := "addRight", desc := "(IZ)V" } : Jvm.MethodName)) : Cond) ∈ lw_all := lw_mk 397 (by decide +kernel) rfl
theorem w_343 : ((Jvm.Cond.code ({ cls := "FeeDocket$State", name := "addRight", desc := "(IZ)V" } : Jvm.MethodName) prog_6_method_3_code (3 : Nat) (Option.none : Option Jvm.ClassFile.FieldType)) : Cond) ∈ lw_all := lw_mk 398 (by decide +kernel) rfl
theorem w_344 : ((Jvm.Cond.methodLink "FeeDocket$State" (58 : Nat) ({ cls := "FeeDocket$Right", name := "start", desc := "(IZLFeeDocket$Holidays;)V" } : Jvm.MethodName)) : Cond) ∈ lw_all := lw_mk 399 (by decide +kernel) rfl
theorem w_345 : ((Jvm.Cond.instanceMethod ({ cls := "FeeDocket$Right", name := "start", desc := "(IZLFeeDocket$Holidays;)V" } : Jvm.MethodName)) : Cond) ∈ lw_all := lw_mk 400 (by decide +kernel) rfl
theorem w_346 : ((Jvm.Cond.selects "FeeDocket$Right" ({ cls := "FeeDocket$Right", name := "start", desc := "(IZLFeeDocket$Holidays;)V" } : Jvm.MethodName) ({ cls := "FeeDocket$Right", name := "start", desc := "(IZLFeeDocket$Holidays;)V" } : Jvm.MethodName)) : Cond) ∈ lw_all := lw_mk 401 (by decide +kernel) rfl
theorem w_347 : ((Jvm.Cond.code ({ cls := "FeeDocket$Right", name := "start", desc := "(IZLFeeDocket$Holidays;)V" } : Jvm.MethodName) prog_5_method_2_code (5 : Nat) (Option.none : Option Jvm.ClassFile.FieldType)) : Cond) ∈ lw_all := lw_mk 402 (by decide +kernel) rfl
theorem w_348 : ((Jvm.Cond.methodLink "FeeDocket$Right" (47 : Nat) ({ cls := "FeeDocket$Calendar", name := "monthsAfter", desc := "(II)I" } : Jvm.MethodName)) : Cond) ∈ lw_all := lw_mk 403 (by decide +kernel) rfl
theorem w_349 : ((Jvm.Cond.static ({ cls := "FeeDocket$Calendar", name := "monthsAfter", desc := "(II)I" } : Jvm.MethodName)) : Cond) ∈ lw_all := lw_mk 404 (by decide +kernel) rfl
theorem w_350 : ((Jvm.Cond.code ({ cls := "FeeDocket$Calendar", name := "monthsAfter", desc := "(II)I" } : Jvm.MethodName) prog_2_method_7_code (6 : Nat) (Option.some Jvm.ClassFile.FieldType.int)) : Cond) ∈ lw_all := lw_mk 405 (by decide +kernel) rfl
theorem w_351 : ((Jvm.Cond.methodLink "FeeDocket$Calendar" (20 : Nat) ({ cls := "FeeDocket$Calendar", name := "dateOf", desc := "(I)I" } : Jvm.MethodName)) : Cond) ∈ lw_all := lw_mk 406 (by decide +kernel) rfl
theorem w_352 : ((Jvm.Cond.static ({ cls := "FeeDocket$Calendar", name := "dateOf", desc := "(I)I" } : Jvm.MethodName)) : Cond) ∈ lw_all := lw_mk 407 (by decide +kernel) rfl
theorem w_353 : ((Jvm.Cond.code ({ cls := "FeeDocket$Calendar", name := "dateOf", desc := "(I)I" } : Jvm.MethodName) prog_2_method_5_code (4 : Nat) (Option.some Jvm.ClassFile.FieldType.int)) : Cond) ∈ lw_all := lw_mk 408 (by decide +kernel) rfl
theorem w_354 : ((Jvm.Cond.methodLink "FeeDocket$Calendar" (9 : Nat) ({ cls := "FeeDocket$Calendar", name := "yearOf", desc := "(I)I" } : Jvm.MethodName)) : Cond) ∈ lw_all := lw_mk 409 (by decide +kernel) rfl
theorem w_355 : ((Jvm.Cond.static ({ cls := "FeeDocket$Calendar", name := "yearOf", desc := "(I)I" } : Jvm.MethodName)) : Cond) ∈ lw_all := lw_mk 410 (by decide +kernel) rfl
theorem w_356 : ((Jvm.Cond.code ({ cls := "FeeDocket$Calendar", name := "yearOf", desc := "(I)I" } : Jvm.MethodName) prog_2_method_2_code (3 : Nat) (Option.some Jvm.ClassFile.FieldType.int)) : Cond) ∈ lw_all := lw_mk 411 (by decide +kernel) rfl
theorem w_357 : ((Jvm.Cond.methodLink "FeeDocket$Calendar" (23 : Nat) ({ cls := "java/lang/Math", name := "min", desc := "(II)I" } : Jvm.MethodName)) : Cond) ∈ lw_all := lw_mk 412 (by decide +kernel) rfl
theorem w_358 : ((Jvm.Cond.static ({ cls := "java/lang/Math", name := "min", desc := "(II)I" } : Jvm.MethodName)) : Cond) ∈ lw_all := lw_mk 413 (by decide +kernel) rfl
theorem w_359 : ((Jvm.Cond.code ({ cls := "java/lang/Math", name := "min", desc := "(II)I" } : Jvm.MethodName) prog_14_method_69_code (2 : Nat) (Option.some Jvm.ClassFile.FieldType.int)) : Cond) ∈ lw_all := lw_mk 414 (by decide +kernel) rfl
theorem w_360 : ((Jvm.Cond.methodLink "FeeDocket$Calendar" (28 : Nat) ({ cls := "FeeDocket$Calendar", name := "dayOf", desc := "(III)I" } : Jvm.MethodName)) : Cond) ∈ lw_all := lw_mk 415 (by decide +kernel) rfl
theorem w_361 : ((Jvm.Cond.methodLink "FeeDocket$Right" (53 : Nat) ({ cls := "FeeDocket$Holidays", name := "firstWorkingDay", desc := "(I)I" } : Jvm.MethodName)) : Cond) ∈ lw_all := lw_mk 416 (by decide +kernel) rfl
theorem w_362 : ((Jvm.Cond.instanceMethod ({ cls := "FeeDocket$Holidays", name := "firstWorkingDay", desc := "(I)I" } : Jvm.MethodName)) : Cond) ∈ lw_all := lw_mk 417 (by decide +kernel) rfl
theorem w_363 : ((Jvm.Cond.selects "FeeDocket$Holidays" ({ cls := "FeeDocket$Holidays", name := "firstWorkingDay", desc := "(I)I" } : Jvm.MethodName) ({ cls := "FeeDocket$Holidays", name := "firstWorkingDay", desc := "(I)I" } : Jvm.MethodName)) : Cond) ∈ lw_all := lw_mk 418 (by decide +kernel) rfl
theorem w_364 : ((Jvm.Cond.code ({ cls := "FeeDocket$Holidays", name := "firstWorkingDay", desc := "(I)I" } : Jvm.MethodName) prog_4_method_4_code (4 : Nat) (Option.some Jvm.ClassFile.FieldType.int)) : Cond) ∈ lw_all := lw_mk 419 (by decide +kernel) rfl
theorem w_365 : ((Jvm.Cond.methodLink "FeeDocket$Holidays" (27 : Nat) ({ cls := "FeeDocket$Holidays", name := "isHoliday", desc := "(I)Z" } : Jvm.MethodName)) : Cond) ∈ lw_all := lw_mk 420 (by decide +kernel) rfl
theorem w_367 : ((Jvm.Cond.instanceMethod ({ cls := "FeeDocket$Holidays", name := "isHoliday", desc := "(I)Z" } : Jvm.MethodName)) : Cond) ∈ lw_all := lw_mk 422 (by decide +kernel) rfl
theorem w_368 : ((Jvm.Cond.code ({ cls := "FeeDocket$Holidays", name := "isHoliday", desc := "(I)Z" } : Jvm.MethodName) prog_4_method_6_code (2 : Nat) (Option.some Jvm.ClassFile.FieldType.boolean)) : Cond) ∈ lw_all := lw_mk 423 (by decide +kernel) rfl
theorem w_369 : ((Jvm.Cond.methodLink "FeeDocket$Holidays" (37 : Nat) ({ cls := "FeeDocket$Calendar", name := "dateOf", desc := "(I)I" } : Jvm.MethodName)) : Cond) ∈ lw_all := lw_mk 424 (by decide +kernel) rfl
theorem w_370 : ((Jvm.Cond.methodLink "FeeDocket$Holidays" (19 : Nat) ({ cls := "FeeDocket$Holidays", name := "find", desc := "(I)I" } : Jvm.MethodName)) : Cond) ∈ lw_all := lw_mk 425 (by decide +kernel) rfl
theorem w_372 : ((Jvm.Cond.instanceMethod ({ cls := "FeeDocket$Holidays", name := "find", desc := "(I)I" } : Jvm.MethodName)) : Cond) ∈ lw_all := lw_mk 427 (by decide +kernel) rfl
theorem w_373 : ((Jvm.Cond.code ({ cls := "FeeDocket$Holidays", name := "find", desc := "(I)I" } : Jvm.MethodName) prog_4_method_7_code (3 : Nat) (Option.some Jvm.ClassFile.FieldType.int)) : Cond) ∈ lw_all := lw_mk 428 (by decide +kernel) rfl
theorem w_374 : ((Jvm.Cond.methodLink "FeeDocket$Right" (59 : Nat) ({ cls := "java/util/Arrays", name := "fill", desc := "([II)V" } : Jvm.MethodName)) : Cond) ∈ lw_all := lw_mk 429 (by decide +kernel) rfl
theorem w_375 : ((Jvm.Cond.static ({ cls := "java/util/Arrays", name := "fill", desc := "([II)V" } : Jvm.MethodName)) : Cond) ∈ lw_all := lw_mk 430 (by decide +kernel) rfl
theorem w_376 : ((Jvm.Cond.code ({ cls := "java/util/Arrays", name := "fill", desc := "([II)V" } : Jvm.MethodName) prog_19_method_103_code (4 : Nat) (Option.none : Option Jvm.ClassFile.FieldType)) : Cond) ∈ lw_all := lw_mk 431 (by decide +kernel) rfl
theorem w_377 : ((Jvm.Cond.methodLink "FeeDocket$State" (77 : Nat) ({ cls := "java/lang/Math", name := "max", desc := "(II)I" } : Jvm.MethodName)) : Cond) ∈ lw_all := lw_mk 432 (by decide +kernel) rfl
theorem w_378 : ((Jvm.Cond.static ({ cls := "java/lang/Math", name := "max", desc := "(II)I" } : Jvm.MethodName)) : Cond) ∈ lw_all := lw_mk 433 (by decide +kernel) rfl
theorem w_379 : ((Jvm.Cond.code ({ cls := "java/lang/Math", name := "max", desc := "(II)I" } : Jvm.MethodName) prog_14_method_65_code (2 : Nat) (Option.some Jvm.ClassFile.FieldType.int)) : Cond) ∈ lw_all := lw_mk 434 (by decide +kernel) rfl
theorem w_380 : ((Jvm.Cond.methodLink "FeeDocketLaw" (189 : Nat) ({ cls := "FeeDocket", name := "digest", desc := "()J" } : Jvm.MethodName)) : Cond) ∈ lw_all := lw_mk 435 (by decide +kernel) rfl
theorem w_381 : ((Jvm.Cond.instanceMethod ({ cls := "FeeDocket", name := "digest", desc := "()J" } : Jvm.MethodName)) : Cond) ∈ lw_all := lw_mk 436 (by decide +kernel) rfl
theorem w_382 : ((Jvm.Cond.selects "FeeDocket" ({ cls := "FeeDocket", name := "digest", desc := "()J" } : Jvm.MethodName) ({ cls := "FeeDocket", name := "digest", desc := "()J" } : Jvm.MethodName)) : Cond) ∈ lw_all := lw_mk 437 (by decide +kernel) rfl
theorem w_383 : ((Jvm.Cond.code ({ cls := "FeeDocket", name := "digest", desc := "()J" } : Jvm.MethodName) prog_1_method_28_code (4 : Nat) (Option.some Jvm.ClassFile.FieldType.long)) : Cond) ∈ lw_all := lw_mk 438 (by decide +kernel) rfl
theorem w_384 : ((Jvm.Cond.constantLong "FeeDocket" (195 : Nat) (3469 : Int64)) : Cond) ∈ lw_all := lw_mk 439 (by decide +kernel) rfl
theorem w_385 : ((Jvm.Cond.methodLink "FeeDocket" (197 : Nat) ({ cls := "FeeDocket", name := "mixed", desc := "(JJ)J" } : Jvm.MethodName)) : Cond) ∈ lw_all := lw_mk 440 (by decide +kernel) rfl
theorem w_386 : ((Jvm.Cond.static ({ cls := "FeeDocket", name := "mixed", desc := "(JJ)J" } : Jvm.MethodName)) : Cond) ∈ lw_all := lw_mk 441 (by decide +kernel) rfl
theorem w_387 : ((Jvm.Cond.code ({ cls := "FeeDocket", name := "mixed", desc := "(JJ)J" } : Jvm.MethodName) prog_1_method_30_code (4 : Nat) (Option.some Jvm.ClassFile.FieldType.long)) : Cond) ∈ lw_all := lw_mk 442 (by decide +kernel) rfl
theorem w_388 : ((Jvm.Cond.constantLong "FeeDocket" (209 : Nat) (31 : Int64)) : Cond) ∈ lw_all := lw_mk 443 (by decide +kernel) rfl
theorem w_389 : ((Jvm.Cond.methodLink "FeeDocket" (163 : Nat) ({ cls := "FeeDocket$State", name := "docketValue", desc := "(I)I" } : Jvm.MethodName)) : Cond) ∈ lw_all := lw_mk 444 (by decide +kernel) rfl
theorem w_390 : ((Jvm.Cond.instanceMethod ({ cls := "FeeDocket$State", name := "docketValue", desc := "(I)I" } : Jvm.MethodName)) : Cond) ∈ lw_all := lw_mk 445 (by decide +kernel) rfl
theorem w_391 : ((Jvm.Cond.selects "FeeDocket$State" ({ cls := "FeeDocket$State", name := "docketValue", desc := "(I)I" } : Jvm.MethodName) ({ cls := "FeeDocket$State", name := "docketValue", desc := "(I)I" } : Jvm.MethodName)) : Cond) ∈ lw_all := lw_mk 446 (by decide +kernel) rfl
theorem w_392 : ((Jvm.Cond.code ({ cls := "FeeDocket$State", name := "docketValue", desc := "(I)I" } : Jvm.MethodName) prog_6_method_18_code (2 : Nat) (Option.some Jvm.ClassFile.FieldType.int)) : Cond) ∈ lw_all := lw_mk 447 (by decide +kernel) rfl
theorem w_393 : ((Jvm.Cond.methodLink "FeeDocket$State" (170 : Nat) ({ cls := "FeeDocket$State", name := "countStanding", desc := "()I" } : Jvm.MethodName)) : Cond) ∈ lw_all := lw_mk 448 (by decide +kernel) rfl
theorem w_395 : ((Jvm.Cond.instanceMethod ({ cls := "FeeDocket$State", name := "countStanding", desc := "()I" } : Jvm.MethodName)) : Cond) ∈ lw_all := lw_mk 450 (by decide +kernel) rfl
theorem w_396 : ((Jvm.Cond.code ({ cls := "FeeDocket$State", name := "countStanding", desc := "()I" } : Jvm.MethodName) prog_6_method_19_code (3 : Nat) (Option.some Jvm.ClassFile.FieldType.int)) : Cond) ∈ lw_all := lw_mk 451 (by decide +kernel) rfl
theorem w_397 : ((Jvm.Cond.methodLink "FeeDocket$State" (109 : Nat) ({ cls := "FeeDocket$Right", name := "stoodOn", desc := "(II)Z" } : Jvm.MethodName)) : Cond) ∈ lw_all := lw_mk 452 (by decide +kernel) rfl
theorem w_398 : ((Jvm.Cond.instanceMethod ({ cls := "FeeDocket$Right", name := "stoodOn", desc := "(II)Z" } : Jvm.MethodName)) : Cond) ∈ lw_all := lw_mk 453 (by decide +kernel) rfl
theorem w_399 : ((Jvm.Cond.selects "FeeDocket$Right" ({ cls := "FeeDocket$Right", name := "stoodOn", desc := "(II)Z" } : Jvm.MethodName) ({ cls := "FeeDocket$Right", name := "stoodOn", desc := "(II)Z" } : Jvm.MethodName)) : Cond) ∈ lw_all := lw_mk 454 (by decide +kernel) rfl
theorem w_400 : ((Jvm.Cond.code ({ cls := "FeeDocket$Right", name := "stoodOn", desc := "(II)Z" } : Jvm.MethodName) prog_5_method_12_code (3 : Nat) (Option.some Jvm.ClassFile.FieldType.boolean)) : Cond) ∈ lw_all := lw_mk 455 (by decide +kernel) rfl
theorem w_401 : ((Jvm.Cond.methodLink "FeeDocket$Right" (78 : Nat) ({ cls := "FeeDocket$Right", name := "isLapsed", desc := "(I)Z" } : Jvm.MethodName)) : Cond) ∈ lw_all := lw_mk 456 (by decide +kernel) rfl
theorem w_402 : ((Jvm.Cond.methodLink "FeeDocket$Right" (82 : Nat) ({ cls := "FeeDocket$Right", name := "dueOf", desc := "(I)I" } : Jvm.MethodName)) : Cond) ∈ lw_all := lw_mk 457 (by decide +kernel) rfl
theorem w_403 : ((Jvm.Cond.methodLink "FeeDocket$Right" (85 : Nat) ({ cls := "FeeDocket$Right", name := "isInGap", desc := "(I)Z" } : Jvm.MethodName)) : Cond) ∈ lw_all := lw_mk 458 (by decide +kernel) rfl
theorem w_404 : ((Jvm.Cond.instanceMethod ({ cls := "FeeDocket$Right", name := "isInGap", desc := "(I)Z" } : Jvm.MethodName)) : Cond) ∈ lw_all := lw_mk 459 (by decide +kernel) rfl
theorem w_405 : ((Jvm.Cond.selects "FeeDocket$Right" ({ cls := "FeeDocket$Right", name := "isInGap", desc := "(I)Z" } : Jvm.MethodName) ({ cls := "FeeDocket$Right", name := "isInGap", desc := "(I)Z" } : Jvm.MethodName)) : Cond) ∈ lw_all := lw_mk 460 (by decide +kernel) rfl
theorem w_406 : ((Jvm.Cond.code ({ cls := "FeeDocket$Right", name := "isInGap", desc := "(I)Z" } : Jvm.MethodName) prog_5_method_13_code (3 : Nat) (Option.some Jvm.ClassFile.FieldType.boolean)) : Cond) ∈ lw_all := lw_mk 461 (by decide +kernel) rfl
theorem w_407 : ((Jvm.Cond.methodLink "FeeDocket$Right" (88 : Nat) ({ cls := "FeeDocket$Right", name := "revivalOf", desc := "(I)I" } : Jvm.MethodName)) : Cond) ∈ lw_all := lw_mk 462 (by decide +kernel) rfl
theorem w_408 : ((Jvm.Cond.instanceMethod ({ cls := "FeeDocket$Right", name := "revivalOf", desc := "(I)I" } : Jvm.MethodName)) : Cond) ∈ lw_all := lw_mk 463 (by decide +kernel) rfl
theorem w_409 : ((Jvm.Cond.selects "FeeDocket$Right" ({ cls := "FeeDocket$Right", name := "revivalOf", desc := "(I)I" } : Jvm.MethodName) ({ cls := "FeeDocket$Right", name := "revivalOf", desc := "(I)I" } : Jvm.MethodName)) : Cond) ∈ lw_all := lw_mk 464 (by decide +kernel) rfl
theorem w_410 : ((Jvm.Cond.code ({ cls := "FeeDocket$Right", name := "revivalOf", desc := "(I)I" } : Jvm.MethodName) prog_5_method_8_code (2 : Nat) (Option.some Jvm.ClassFile.FieldType.int)) : Cond) ∈ lw_all := lw_mk 465 (by decide +kernel) rfl
theorem w_411 : ((Jvm.Cond.methodLink "FeeDocket$State" (173 : Nat) ({ cls := "FeeDocket$State", name := "countLapsed", desc := "()I" } : Jvm.MethodName)) : Cond) ∈ lw_all := lw_mk 466 (by decide +kernel) rfl
theorem w_413 : ((Jvm.Cond.instanceMethod ({ cls := "FeeDocket$State", name := "countLapsed", desc := "()I" } : Jvm.MethodName)) : Cond) ∈ lw_all := lw_mk 468 (by decide +kernel) rfl
theorem w_414 : ((Jvm.Cond.code ({ cls := "FeeDocket$State", name := "countLapsed", desc := "()I" } : Jvm.MethodName) prog_6_method_20_code (3 : Nat) (Option.some Jvm.ClassFile.FieldType.int)) : Cond) ∈ lw_all := lw_mk 469 (by decide +kernel) rfl
theorem w_415 : ((Jvm.Cond.methodLink "FeeDocket" (39 : Nat) ({ cls := "FeeDocket$Calendar", name := "dateOf", desc := "(I)I" } : Jvm.MethodName)) : Cond) ∈ lw_all := lw_mk 470 (by decide +kernel) rfl
theorem w_416 : ((Jvm.Cond.methodLink "FeeDocket" (205 : Nat) ({ cls := "FeeDocket", name := "mixedWithRight", desc := "(JLFeeDocket$Right;)J" } : Jvm.MethodName)) : Cond) ∈ lw_all := lw_mk 471 (by decide +kernel) rfl
theorem w_418 : ((Jvm.Cond.instanceMethod ({ cls := "FeeDocket", name := "mixedWithRight", desc := "(JLFeeDocket$Right;)J" } : Jvm.MethodName)) : Cond) ∈ lw_all := lw_mk 473 (by decide +kernel) rfl
theorem w_419 : ((Jvm.Cond.code ({ cls := "FeeDocket", name := "mixedWithRight", desc := "(JLFeeDocket$Right;)J" } : Jvm.MethodName) prog_1_method_29_code (7 : Nat) (Option.some Jvm.ClassFile.FieldType.long)) : Cond) ∈ lw_all := lw_mk 474 (by decide +kernel) rfl
theorem w_420 : ((Jvm.Cond.methodLink "FeeDocket" (143 : Nat) ({ cls := "FeeDocket$State", name := "rightValue", desc := "(LFeeDocket$Right;I)I" } : Jvm.MethodName)) : Cond) ∈ lw_all := lw_mk 475 (by decide +kernel) rfl
theorem w_421 : ((Jvm.Cond.instanceMethod ({ cls := "FeeDocket$State", name := "rightValue", desc := "(LFeeDocket$Right;I)I" } : Jvm.MethodName)) : Cond) ∈ lw_all := lw_mk 476 (by decide +kernel) rfl
theorem w_422 : ((Jvm.Cond.selects "FeeDocket$State" ({ cls := "FeeDocket$State", name := "rightValue", desc := "(LFeeDocket$Right;I)I" } : Jvm.MethodName) ({ cls := "FeeDocket$State", name := "rightValue", desc := "(LFeeDocket$Right;I)I" } : Jvm.MethodName)) : Cond) ∈ lw_all := lw_mk 477 (by decide +kernel) rfl
theorem w_423 : ((Jvm.Cond.code ({ cls := "FeeDocket$State", name := "rightValue", desc := "(LFeeDocket$Right;I)I" } : Jvm.MethodName) prog_6_method_17_code (3 : Nat) (Option.some Jvm.ClassFile.FieldType.int)) : Cond) ∈ lw_all := lw_mk 478 (by decide +kernel) rfl
theorem w_424 : ((Jvm.Cond.methodLink "FeeDocket$State" (98 : Nat) ({ cls := "FeeDocket$Right", name := "graceOf", desc := "(I)I" } : Jvm.MethodName)) : Cond) ∈ lw_all := lw_mk 479 (by decide +kernel) rfl
theorem w_425 : ((Jvm.Cond.methodLink "FeeDocket$State" (163 : Nat) ({ cls := "FeeDocket$Right", name := "countUsers", desc := "()I" } : Jvm.MethodName)) : Cond) ∈ lw_all := lw_mk 480 (by decide +kernel) rfl
theorem w_426 : ((Jvm.Cond.instanceMethod ({ cls := "FeeDocket$Right", name := "countUsers", desc := "()I" } : Jvm.MethodName)) : Cond) ∈ lw_all := lw_mk 481 (by decide +kernel) rfl
theorem w_427 : ((Jvm.Cond.selects "FeeDocket$Right" ({ cls := "FeeDocket$Right", name := "countUsers", desc := "()I" } : Jvm.MethodName) ({ cls := "FeeDocket$Right", name := "countUsers", desc := "()I" } : Jvm.MethodName)) : Cond) ∈ lw_all := lw_mk 482 (by decide +kernel) rfl
theorem w_428 : ((Jvm.Cond.code ({ cls := "FeeDocket$Right", name := "countUsers", desc := "()I" } : Jvm.MethodName) prog_5_method_20_code (3 : Nat) (Option.some Jvm.ClassFile.FieldType.int)) : Cond) ∈ lw_all := lw_mk 483 (by decide +kernel) rfl
theorem w_429 : ((Jvm.Cond.methodLink "FeeDocket$Right" (105 : Nat) ({ cls := "FeeDocket$Right", name := "hasBegun", desc := "(I)Z" } : Jvm.MethodName)) : Cond) ∈ lw_all := lw_mk 484 (by decide +kernel) rfl
theorem w_430 : ((Jvm.Cond.instanceMethod ({ cls := "FeeDocket$Right", name := "hasBegun", desc := "(I)Z" } : Jvm.MethodName)) : Cond) ∈ lw_all := lw_mk 485 (by decide +kernel) rfl
theorem w_431 : ((Jvm.Cond.selects "FeeDocket$Right" ({ cls := "FeeDocket$Right", name := "hasBegun", desc := "(I)Z" } : Jvm.MethodName) ({ cls := "FeeDocket$Right", name := "hasBegun", desc := "(I)Z" } : Jvm.MethodName)) : Cond) ∈ lw_all := lw_mk 486 (by decide +kernel) rfl
theorem w_432 : ((Jvm.Cond.code ({ cls := "FeeDocket$Right", name := "hasBegun", desc := "(I)Z" } : Jvm.MethodName) prog_5_method_17_code (2 : Nat) (Option.some Jvm.ClassFile.FieldType.boolean)) : Cond) ∈ lw_all := lw_mk 487 (by decide +kernel) rfl
theorem w_433 : ((Jvm.Cond.methodLink "FeeDocket$Right" (102 : Nat) ({ cls := "FeeDocket$Right", name := "standingOfUser", desc := "(I)I" } : Jvm.MethodName)) : Cond) ∈ lw_all := lw_mk 488 (by decide +kernel) rfl
theorem w_434 : ((Jvm.Cond.instanceMethod ({ cls := "FeeDocket$Right", name := "standingOfUser", desc := "(I)I" } : Jvm.MethodName)) : Cond) ∈ lw_all := lw_mk 489 (by decide +kernel) rfl
theorem w_435 : ((Jvm.Cond.selects "FeeDocket$Right" ({ cls := "FeeDocket$Right", name := "standingOfUser", desc := "(I)I" } : Jvm.MethodName) ({ cls := "FeeDocket$Right", name := "standingOfUser", desc := "(I)I" } : Jvm.MethodName)) : Cond) ∈ lw_all := lw_mk 490 (by decide +kernel) rfl
theorem w_436 : ((Jvm.Cond.code ({ cls := "FeeDocket$Right", name := "standingOfUser", desc := "(I)I" } : Jvm.MethodName) prog_5_method_19_code (2 : Nat) (Option.some Jvm.ClassFile.FieldType.int)) : Cond) ∈ lw_all := lw_mk 491 (by decide +kernel) rfl
theorem w_437 : ((Jvm.Cond.methodLink "FeeDocket$State" (166 : Nat) ({ cls := "FeeDocket$Right", name := "countProtected", desc := "()I" } : Jvm.MethodName)) : Cond) ∈ lw_all := lw_mk 492 (by decide +kernel) rfl
theorem w_438 : ((Jvm.Cond.instanceMethod ({ cls := "FeeDocket$Right", name := "countProtected", desc := "()I" } : Jvm.MethodName)) : Cond) ∈ lw_all := lw_mk 493 (by decide +kernel) rfl
theorem w_439 : ((Jvm.Cond.selects "FeeDocket$Right" ({ cls := "FeeDocket$Right", name := "countProtected", desc := "()I" } : Jvm.MethodName) ({ cls := "FeeDocket$Right", name := "countProtected", desc := "()I" } : Jvm.MethodName)) : Cond) ∈ lw_all := lw_mk 494 (by decide +kernel) rfl
theorem w_440 : ((Jvm.Cond.code ({ cls := "FeeDocket$Right", name := "countProtected", desc := "()I" } : Jvm.MethodName) prog_5_method_21_code (3 : Nat) (Option.some Jvm.ClassFile.FieldType.int)) : Cond) ∈ lw_all := lw_mk 495 (by decide +kernel) rfl
theorem w_441 : ((Jvm.Cond.methodLink "FeeDocket" (160 : Nat) ({ cls := "FeeDocket$Right", name := "standingOfUser", desc := "(I)I" } : Jvm.MethodName)) : Cond) ∈ lw_all := lw_mk 496 (by decide +kernel) rfl
theorem w_442 : ((Jvm.Cond.methodLink "FeeDocket" (153 : Nat) ({ cls := "FeeDocket$Right", name := "stoodOn", desc := "(II)Z" } : Jvm.MethodName)) : Cond) ∈ lw_all := lw_mk 497 (by decide +kernel) rfl
theorem w_443 : ((Jvm.Cond.methodLink "FeeDocketLaw" (94 : Nat) ({ cls := "FeeDocketLaw", name := "date", desc := "(LFeeDocket;I[J)I" } : Jvm.MethodName)) : Cond) ∈ lw_all := lw_mk 498 (by decide +kernel) rfl
theorem w_444 : ((Jvm.Cond.static ({ cls := "FeeDocketLaw", name := "date", desc := "(LFeeDocket;I[J)I" } : Jvm.MethodName)) : Cond) ∈ lw_all := lw_mk 499 (by decide +kernel) rfl
theorem w_445 : ((Jvm.Cond.codeWith ({ cls := "FeeDocketLaw", name := "date", desc := "(LFeeDocket;I[J)I" } : Jvm.MethodName) method_3_code (4 : Nat) (Option.some Jvm.ClassFile.FieldType.int) [((0 : Nat), (9 : Nat), (12 : Nat), (13 : Nat))]) : Cond) ∈ lw_all := lw_mk 500 (by decide +kernel) rfl
theorem w_446 : ((Jvm.Cond.classLink "FeeDocketLaw" (13 : Nat) "java/lang/IllegalArgumentException") : Cond) ∈ lw_all := lw_mk 501 (by decide +kernel) rfl
theorem w_447 : ((Jvm.Cond.methodLink "FeeDocketLaw" (7 : Nat) ({ cls := "FeeDocket", name := "date", desc := "(I)I" } : Jvm.MethodName)) : Cond) ∈ lw_all := lw_mk 502 (by decide +kernel) rfl
theorem w_448 : ((Jvm.Cond.instanceMethod ({ cls := "FeeDocket", name := "date", desc := "(I)I" } : Jvm.MethodName)) : Cond) ∈ lw_all := lw_mk 503 (by decide +kernel) rfl
theorem w_449 : ((Jvm.Cond.selects "FeeDocket" ({ cls := "FeeDocket", name := "date", desc := "(I)I" } : Jvm.MethodName) ({ cls := "FeeDocket", name := "date", desc := "(I)I" } : Jvm.MethodName)) : Cond) ∈ lw_all := lw_mk 504 (by decide +kernel) rfl
theorem w_450 : ((Jvm.Cond.code ({ cls := "FeeDocket", name := "date", desc := "(I)I" } : Jvm.MethodName) prog_1_method_2_code (2 : Nat) (Option.some Jvm.ClassFile.FieldType.int)) : Cond) ∈ lw_all := lw_mk 505 (by decide +kernel) rfl
theorem w_451 : ((Jvm.Cond.methodLink "FeeDocket" (31 : Nat) ({ cls := "FeeDocket", name := "isWithin", desc := "(III)Z" } : Jvm.MethodName)) : Cond) ∈ lw_all := lw_mk 506 (by decide +kernel) rfl
theorem w_452 : ((Jvm.Cond.static ({ cls := "FeeDocket", name := "isWithin", desc := "(III)Z" } : Jvm.MethodName)) : Cond) ∈ lw_all := lw_mk 507 (by decide +kernel) rfl
theorem w_453 : ((Jvm.Cond.code ({ cls := "FeeDocket", name := "isWithin", desc := "(III)Z" } : Jvm.MethodName) prog_1_method_31_code (3 : Nat) (Option.some Jvm.ClassFile.FieldType.boolean)) : Cond) ∈ lw_all := lw_mk 508 (by decide +kernel) rfl
theorem w_454 : ((Jvm.Cond.methodLink "FeeDocket" (35 : Nat) ({ cls := "FeeDocket", name := "checkArgument", desc := "(Z)V" } : Jvm.MethodName)) : Cond) ∈ lw_all := lw_mk 509 (by decide +kernel) rfl
theorem w_455 : ((Jvm.Cond.static ({ cls := "FeeDocket", name := "checkArgument", desc := "(Z)V" } : Jvm.MethodName)) : Cond) ∈ lw_all := lw_mk 510 (by decide +kernel) rfl
theorem w_456 : ((Jvm.Cond.code ({ cls := "FeeDocket", name := "checkArgument", desc := "(Z)V" } : Jvm.MethodName) prog_1_method_32_code (1 : Nat) (Option.none : Option Jvm.ClassFile.FieldType)) : Cond) ∈ lw_all := lw_mk 511 (by decide +kernel) rfl
theorem w_457 : ((Jvm.Cond.classLink "FeeDocket" (211 : Nat) "java/lang/IllegalArgumentException") : Cond) ∈ lw_all := lw_mk 512 (by decide +kernel) rfl
theorem w_458 : ((Jvm.Cond.instantiable "java/lang/IllegalArgumentException" (6 : Nat)) : Cond) ∈ lw_all := lw_mk 513 (by decide +kernel) rfl
theorem w_466 : ((Jvm.Cond.selects "java/lang/IllegalArgumentException" ({ cls := "java/lang/Throwable", name := "fillInStackTrace", desc := "(I)Ljava/lang/Throwable;" } : Jvm.MethodName) ({ cls := "java/lang/Throwable", name := "fillInStackTrace", desc := "(I)Ljava/lang/Throwable;" } : Jvm.MethodName)) : Cond) ∈ lw_all := lw_mk 521 (by decide +kernel) rfl
theorem w_467 : ((Jvm.Cond.selects "java/lang/IllegalArgumentException" ({ cls := "java/lang/Throwable", name := "fillInStackTrace", desc := "()Ljava/lang/Throwable;" } : Jvm.MethodName) ({ cls := "java/lang/Throwable", name := "fillInStackTrace", desc := "()Ljava/lang/Throwable;" } : Jvm.MethodName)) : Cond) ∈ lw_all := lw_mk 522 (by decide +kernel) rfl
theorem w_468 : ((Jvm.Cond.lays "java/lang/IllegalArgumentException" "java/lang/Throwable" "cause" "Ljava/lang/Throwable;") : Cond) ∈ lw_all := lw_mk 523 (by decide +kernel) rfl
theorem w_469 : ((Jvm.Cond.lays "java/lang/Throwable" "java/lang/Throwable" "cause" "Ljava/lang/Throwable;") : Cond) ∈ lw_all := lw_mk 524 (by decide +kernel) rfl
theorem w_470 : ((Jvm.Cond.lays "java/lang/IllegalArgumentException" "java/lang/Throwable" "stackTrace" "[Ljava/lang/StackTraceElement;") : Cond) ∈ lw_all := lw_mk 525 (by decide +kernel) rfl
theorem w_471 : ((Jvm.Cond.lays "java/lang/Throwable" "java/lang/Throwable" "stackTrace" "[Ljava/lang/StackTraceElement;") : Cond) ∈ lw_all := lw_mk 526 (by decide +kernel) rfl
theorem w_472 : ((Jvm.Cond.lays "java/lang/IllegalArgumentException" "java/lang/Throwable" "suppressedExceptions" "Ljava/util/List;") : Cond) ∈ lw_all := lw_mk 527 (by decide +kernel) rfl
theorem w_473 : ((Jvm.Cond.lays "java/lang/Throwable" "java/lang/Throwable" "suppressedExceptions" "Ljava/util/List;") : Cond) ∈ lw_all := lw_mk 528 (by decide +kernel) rfl
theorem w_474 : ((Jvm.Cond.lays "java/lang/IllegalArgumentException" "java/lang/Throwable" "detailMessage" "Ljava/lang/String;") : Cond) ∈ lw_all := lw_mk 529 (by decide +kernel) rfl
theorem w_475 : ((Jvm.Cond.lays "java/lang/Throwable" "java/lang/Throwable" "detailMessage" "Ljava/lang/String;") : Cond) ∈ lw_all := lw_mk 530 (by decide +kernel) rfl
theorem w_476 : ((Jvm.Cond.lays "java/lang/IllegalArgumentException" "java/lang/Throwable" "backtrace" "Ljava/lang/Object;") : Cond) ∈ lw_all := lw_mk 531 (by decide +kernel) rfl
theorem w_477 : ((Jvm.Cond.lays "java/lang/Throwable" "java/lang/Throwable" "backtrace" "Ljava/lang/Object;") : Cond) ∈ lw_all := lw_mk 532 (by decide +kernel) rfl
theorem w_478 : ((Jvm.Cond.fieldLink "java/lang/Throwable" (198 : Nat) "java/lang/Throwable" "backtrace" "Ljava/lang/Object;") : Cond) ∈ lw_all := lw_mk 533 (by decide +kernel) rfl
theorem w_479 : ((Jvm.Cond.superclass "java/lang/Throwable" "java/lang/Object") : Cond) ∈ lw_all := lw_mk 534 (by decide +kernel) rfl
theorem w_480 : ((Jvm.Cond.instanceMethod ({ cls := "java/lang/Throwable", name := "<init>", desc := "()V" } : Jvm.MethodName)) : Cond) ∈ lw_all := lw_mk 535 (by decide +kernel) rfl
theorem w_481 : ((Jvm.Cond.code ({ cls := "java/lang/Throwable", name := "<init>", desc := "()V" } : Jvm.MethodName) prog_18_method_1_code (1 : Nat) (Option.none : Option Jvm.ClassFile.FieldType)) : Cond) ∈ lw_all := lw_mk 536 (by decide +kernel) rfl
theorem w_482 : ((Jvm.Cond.methodLink "java/lang/Throwable" (1 : Nat) ({ cls := "java/lang/Object", name := "<init>", desc := "()V" } : Jvm.MethodName)) : Cond) ∈ lw_all := lw_mk 537 (by decide +kernel) rfl
theorem w_483 : ((Jvm.Cond.fieldLink "java/lang/Throwable" (13 : Nat) "java/lang/Throwable" "UNASSIGNED_STACK" "[Ljava/lang/StackTraceElement;") : Cond) ∈ lw_all := lw_mk 538 (by decide +kernel) rfl
theorem w_485 : ((Jvm.Cond.fieldLink "java/lang/Throwable" (20 : Nat) "java/lang/Throwable" "SUPPRESSED_SENTINEL" "Ljava/util/List;") : Cond) ∈ lw_all := lw_mk 540 (by decide +kernel) rfl
theorem w_487 : ((Jvm.Cond.methodLink "java/lang/Throwable" (27 : Nat) ({ cls := "java/lang/Throwable", name := "fillInStackTrace", desc := "()Ljava/lang/Throwable;" } : Jvm.MethodName)) : Cond) ∈ lw_all := lw_mk 542 (by decide +kernel) rfl
theorem w_488 : ((Jvm.Cond.instanceMethod ({ cls := "java/lang/Throwable", name := "fillInStackTrace", desc := "()Ljava/lang/Throwable;" } : Jvm.MethodName)) : Cond) ∈ lw_all := lw_mk 543 (by decide +kernel) rfl
theorem w_489 : ((Jvm.Cond.sameMethod "java/lang/Throwable" "java/lang/Throwable" "fillInStackTrace" "()Ljava/lang/Throwable;") : Cond) ∈ lw_all := lw_mk 544 (by decide +kernel) rfl
theorem w_490 : ((Jvm.Cond.selects "java/lang/IllegalStateException" ({ cls := "java/lang/Throwable", name := "fillInStackTrace", desc := "()Ljava/lang/Throwable;" } : Jvm.MethodName) ({ cls := "java/lang/Throwable", name := "fillInStackTrace", desc := "()Ljava/lang/Throwable;" } : Jvm.MethodName)) : Cond) ∈ lw_all := lw_mk 545 (by decide +kernel) rfl
theorem w_491 : ((Jvm.Cond.selects "java/lang/IndexOutOfBoundsException" ({ cls := "java/lang/Throwable", name := "fillInStackTrace", desc := "()Ljava/lang/Throwable;" } : Jvm.MethodName) ({ cls := "java/lang/Throwable", name := "fillInStackTrace", desc := "()Ljava/lang/Throwable;" } : Jvm.MethodName)) : Cond) ∈ lw_all := lw_mk 546 (by decide +kernel) rfl
theorem w_492 : ((Jvm.Cond.codeSync ({ cls := "java/lang/Throwable", name := "fillInStackTrace", desc := "()Ljava/lang/Throwable;" } : Jvm.MethodName) prog_18_method_18_code (1 : Nat) (Option.some (Jvm.ClassFile.FieldType.object "java/lang/Throwable"))) : Cond) ∈ lw_all := lw_mk 547 (by decide +kernel) rfl
theorem w_493 : ((Jvm.Cond.methodLink "java/lang/Throwable" (202 : Nat) ({ cls := "java/lang/Throwable", name := "fillInStackTrace", desc := "(I)Ljava/lang/Throwable;" } : Jvm.MethodName)) : Cond) ∈ lw_all := lw_mk 548 (by decide +kernel) rfl
theorem w_495 : ((Jvm.Cond.instanceMethod ({ cls := "java/lang/Throwable", name := "fillInStackTrace", desc := "(I)Ljava/lang/Throwable;" } : Jvm.MethodName)) : Cond) ∈ lw_all := lw_mk 550 (by decide +kernel) rfl
theorem w_496 : ((Jvm.Cond.instantiable "java/lang/Throwable" (6 : Nat)) : Cond) ∈ lw_all := lw_mk 551 (by decide +kernel) rfl
theorem w_497 : ((Jvm.Cond.native ({ cls := "java/lang/Throwable", name := "fillInStackTrace", desc := "(I)Ljava/lang/Throwable;" } : Jvm.MethodName)) : Cond) ∈ lw_all := lw_mk 552 (by decide +kernel) rfl
theorem w_499 : ((Jvm.Cond.methodLink "FeeDocket" (215 : Nat) ({ cls := "java/lang/IllegalArgumentException", name := "<init>", desc := "(Ljava/lang/String;)V" } : Jvm.MethodName)) : Cond) ∈ lw_all := lw_mk 554 (by decide +kernel) rfl
theorem w_500 : ((Jvm.Cond.instanceMethod ({ cls := "java/lang/IllegalArgumentException", name := "<init>", desc := "(Ljava/lang/String;)V" } : Jvm.MethodName)) : Cond) ∈ lw_all := lw_mk 555 (by decide +kernel) rfl
theorem w_501 : ((Jvm.Cond.code ({ cls := "java/lang/IllegalArgumentException", name := "<init>", desc := "(Ljava/lang/String;)V" } : Jvm.MethodName) prog_11_method_2_code (2 : Nat) (Option.none : Option Jvm.ClassFile.FieldType)) : Cond) ∈ lw_all := lw_mk 556 (by decide +kernel) rfl
theorem w_502 : ((Jvm.Cond.methodLink "java/lang/IllegalArgumentException" (7 : Nat) ({ cls := "java/lang/RuntimeException", name := "<init>", desc := "(Ljava/lang/String;)V" } : Jvm.MethodName)) : Cond) ∈ lw_all := lw_mk 557 (by decide +kernel) rfl
theorem w_503 : ((Jvm.Cond.instanceMethod ({ cls := "java/lang/RuntimeException", name := "<init>", desc := "(Ljava/lang/String;)V" } : Jvm.MethodName)) : Cond) ∈ lw_all := lw_mk 558 (by decide +kernel) rfl
theorem w_504 : ((Jvm.Cond.code ({ cls := "java/lang/RuntimeException", name := "<init>", desc := "(Ljava/lang/String;)V" } : Jvm.MethodName) prog_15_method_2_code (2 : Nat) (Option.none : Option Jvm.ClassFile.FieldType)) : Cond) ∈ lw_all := lw_mk 559 (by decide +kernel) rfl
theorem w_505 : ((Jvm.Cond.methodLink "java/lang/RuntimeException" (7 : Nat) ({ cls := "java/lang/Exception", name := "<init>", desc := "(Ljava/lang/String;)V" } : Jvm.MethodName)) : Cond) ∈ lw_all := lw_mk 560 (by decide +kernel) rfl
theorem w_506 : ((Jvm.Cond.instanceMethod ({ cls := "java/lang/Exception", name := "<init>", desc := "(Ljava/lang/String;)V" } : Jvm.MethodName)) : Cond) ∈ lw_all := lw_mk 561 (by decide +kernel) rfl
theorem w_507 : ((Jvm.Cond.code ({ cls := "java/lang/Exception", name := "<init>", desc := "(Ljava/lang/String;)V" } : Jvm.MethodName) prog_10_method_2_code (2 : Nat) (Option.none : Option Jvm.ClassFile.FieldType)) : Cond) ∈ lw_all := lw_mk 562 (by decide +kernel) rfl
theorem w_508 : ((Jvm.Cond.methodLink "java/lang/Exception" (7 : Nat) ({ cls := "java/lang/Throwable", name := "<init>", desc := "(Ljava/lang/String;)V" } : Jvm.MethodName)) : Cond) ∈ lw_all := lw_mk 563 (by decide +kernel) rfl
theorem w_509 : ((Jvm.Cond.instanceMethod ({ cls := "java/lang/Throwable", name := "<init>", desc := "(Ljava/lang/String;)V" } : Jvm.MethodName)) : Cond) ∈ lw_all := lw_mk 564 (by decide +kernel) rfl
theorem w_510 : ((Jvm.Cond.code ({ cls := "java/lang/Throwable", name := "<init>", desc := "(Ljava/lang/String;)V" } : Jvm.MethodName) prog_18_method_2_code (2 : Nat) (Option.none : Option Jvm.ClassFile.FieldType)) : Cond) ∈ lw_all := lw_mk 565 (by decide +kernel) rfl
theorem w_512 : ((Jvm.Cond.fieldLink "java/lang/Throwable" (31 : Nat) "java/lang/Throwable" "detailMessage" "Ljava/lang/String;") : Cond) ∈ lw_all := lw_mk 567 (by decide +kernel) rfl
theorem w_513 : ((Jvm.Cond.fieldLink "java/lang/Throwable" (7 : Nat) "java/lang/Throwable" "cause" "Ljava/lang/Throwable;") : Cond) ∈ lw_all := lw_mk 568 (by decide +kernel) rfl
theorem w_514 : ((Jvm.Cond.fieldLink "java/lang/Throwable" (17 : Nat) "java/lang/Throwable" "stackTrace" "[Ljava/lang/StackTraceElement;") : Cond) ∈ lw_all := lw_mk 569 (by decide +kernel) rfl
theorem w_515 : ((Jvm.Cond.fieldLink "java/lang/Throwable" (24 : Nat) "java/lang/Throwable" "suppressedExceptions" "Ljava/util/List;") : Cond) ∈ lw_all := lw_mk 570 (by decide +kernel) rfl
theorem w_516 : ((Jvm.Cond.soleField "java/lang/Throwable" "backtrace") : Cond) ∈ lw_all := lw_mk 571 (by decide +kernel) rfl
theorem w_517 : ((Jvm.Cond.soleField "java/lang/Throwable" "detailMessage") : Cond) ∈ lw_all := lw_mk 572 (by decide +kernel) rfl
theorem w_518 : ((Jvm.Cond.soleField "java/lang/Throwable" "cause") : Cond) ∈ lw_all := lw_mk 573 (by decide +kernel) rfl
theorem w_519 : ((Jvm.Cond.soleField "java/lang/Throwable" "stackTrace") : Cond) ∈ lw_all := lw_mk 574 (by decide +kernel) rfl
theorem w_520 : ((Jvm.Cond.lays "java/lang/IllegalArgumentException" "java/lang/Throwable" "depth" "I") : Cond) ∈ lw_all := lw_mk 575 (by decide +kernel) rfl
theorem w_521 : ((Jvm.Cond.soleField "java/lang/Throwable" "depth") : Cond) ∈ lw_all := lw_mk 576 (by decide +kernel) rfl
theorem w_522 : ((Jvm.Cond.soleField "java/lang/Throwable" "suppressedExceptions") : Cond) ∈ lw_all := lw_mk 577 (by decide +kernel) rfl
theorem w_523 : ((Jvm.Cond.superclass "java/lang/IllegalArgumentException" "java/lang/RuntimeException") : Cond) ∈ lw_all := lw_mk 578 (by decide +kernel) rfl
theorem w_524 : ((Jvm.Cond.methodLink "FeeDocketLaw" (103 : Nat) ({ cls := "FeeDocketLaw", name := "day", desc := "(LFeeDocket;III[J)I" } : Jvm.MethodName)) : Cond) ∈ lw_all := lw_mk 579 (by decide +kernel) rfl
theorem w_525 : ((Jvm.Cond.static ({ cls := "FeeDocketLaw", name := "day", desc := "(LFeeDocket;III[J)I" } : Jvm.MethodName)) : Cond) ∈ lw_all := lw_mk 580 (by decide +kernel) rfl
theorem w_526 : ((Jvm.Cond.codeWith ({ cls := "FeeDocketLaw", name := "day", desc := "(LFeeDocket;III[J)I" } : Jvm.MethodName) method_4_code (6 : Nat) (Option.some Jvm.ClassFile.FieldType.int) [((0 : Nat), (12 : Nat), (15 : Nat), (13 : Nat))]) : Cond) ∈ lw_all := lw_mk 581 (by decide +kernel) rfl
theorem w_527 : ((Jvm.Cond.methodLink "FeeDocketLaw" (15 : Nat) ({ cls := "FeeDocket", name := "day", desc := "(III)I" } : Jvm.MethodName)) : Cond) ∈ lw_all := lw_mk 582 (by decide +kernel) rfl
theorem w_528 : ((Jvm.Cond.instanceMethod ({ cls := "FeeDocket", name := "day", desc := "(III)I" } : Jvm.MethodName)) : Cond) ∈ lw_all := lw_mk 583 (by decide +kernel) rfl
theorem w_529 : ((Jvm.Cond.selects "FeeDocket" ({ cls := "FeeDocket", name := "day", desc := "(III)I" } : Jvm.MethodName) ({ cls := "FeeDocket", name := "day", desc := "(III)I" } : Jvm.MethodName)) : Cond) ∈ lw_all := lw_mk 584 (by decide +kernel) rfl
theorem w_530 : ((Jvm.Cond.code ({ cls := "FeeDocket", name := "day", desc := "(III)I" } : Jvm.MethodName) prog_1_method_3_code (4 : Nat) (Option.some Jvm.ClassFile.FieldType.int)) : Cond) ∈ lw_all := lw_mk 585 (by decide +kernel) rfl
theorem w_531 : ((Jvm.Cond.methodLink "FeeDocket" (45 : Nat) ({ cls := "FeeDocket$Calendar", name := "monthLength", desc := "(II)I" } : Jvm.MethodName)) : Cond) ∈ lw_all := lw_mk 586 (by decide +kernel) rfl
theorem w_532 : ((Jvm.Cond.methodLink "FeeDocket" (49 : Nat) ({ cls := "FeeDocket$Calendar", name := "dayOf", desc := "(III)I" } : Jvm.MethodName)) : Cond) ∈ lw_all := lw_mk 587 (by decide +kernel) rfl
theorem w_533 : ((Jvm.Cond.methodLink "FeeDocketLaw" (107 : Nat) ({ cls := "FeeDocketLaw", name := "later", desc := "(LFeeDocket;II[J)I" } : Jvm.MethodName)) : Cond) ∈ lw_all := lw_mk 588 (by decide +kernel) rfl
theorem w_534 : ((Jvm.Cond.static ({ cls := "FeeDocketLaw", name := "later", desc := "(LFeeDocket;II[J)I" } : Jvm.MethodName)) : Cond) ∈ lw_all := lw_mk 589 (by decide +kernel) rfl
theorem w_535 : ((Jvm.Cond.codeWith ({ cls := "FeeDocketLaw", name := "later", desc := "(LFeeDocket;II[J)I" } : Jvm.MethodName) method_5_code (5 : Nat) (Option.some Jvm.ClassFile.FieldType.int) [((0 : Nat), (10 : Nat), (13 : Nat), (13 : Nat))]) : Cond) ∈ lw_all := lw_mk 590 (by decide +kernel) rfl
theorem w_536 : ((Jvm.Cond.methodLink "FeeDocketLaw" (19 : Nat) ({ cls := "FeeDocket", name := "later", desc := "(II)I" } : Jvm.MethodName)) : Cond) ∈ lw_all := lw_mk 591 (by decide +kernel) rfl
theorem w_537 : ((Jvm.Cond.instanceMethod ({ cls := "FeeDocket", name := "later", desc := "(II)I" } : Jvm.MethodName)) : Cond) ∈ lw_all := lw_mk 592 (by decide +kernel) rfl
theorem w_538 : ((Jvm.Cond.selects "FeeDocket" ({ cls := "FeeDocket", name := "later", desc := "(II)I" } : Jvm.MethodName) ({ cls := "FeeDocket", name := "later", desc := "(II)I" } : Jvm.MethodName)) : Cond) ∈ lw_all := lw_mk 593 (by decide +kernel) rfl
theorem w_539 : ((Jvm.Cond.code ({ cls := "FeeDocket", name := "later", desc := "(II)I" } : Jvm.MethodName) prog_1_method_4_code (3 : Nat) (Option.some Jvm.ClassFile.FieldType.int)) : Cond) ∈ lw_all := lw_mk 594 (by decide +kernel) rfl
theorem w_540 : ((Jvm.Cond.methodLink "FeeDocket" (53 : Nat) ({ cls := "FeeDocket$Calendar", name := "monthsAfter", desc := "(II)I" } : Jvm.MethodName)) : Cond) ∈ lw_all := lw_mk 595 (by decide +kernel) rfl
theorem w_541 : ((Jvm.Cond.methodLink "FeeDocketLaw" (111 : Nat) ({ cls := "FeeDocketLaw", name := "putOff", desc := "(LFeeDocket;I[J)I" } : Jvm.MethodName)) : Cond) ∈ lw_all := lw_mk 596 (by decide +kernel) rfl
theorem w_542 : ((Jvm.Cond.static ({ cls := "FeeDocketLaw", name := "putOff", desc := "(LFeeDocket;I[J)I" } : Jvm.MethodName)) : Cond) ∈ lw_all := lw_mk 597 (by decide +kernel) rfl
theorem w_543 : ((Jvm.Cond.codeWith ({ cls := "FeeDocketLaw", name := "putOff", desc := "(LFeeDocket;I[J)I" } : Jvm.MethodName) method_6_code (4 : Nat) (Option.some Jvm.ClassFile.FieldType.int) [((0 : Nat), (9 : Nat), (12 : Nat), (13 : Nat))]) : Cond) ∈ lw_all := lw_mk 598 (by decide +kernel) rfl
theorem w_544 : ((Jvm.Cond.methodLink "FeeDocketLaw" (23 : Nat) ({ cls := "FeeDocket", name := "putOff", desc := "(I)I" } : Jvm.MethodName)) : Cond) ∈ lw_all := lw_mk 599 (by decide +kernel) rfl
theorem w_545 : ((Jvm.Cond.instanceMethod ({ cls := "FeeDocket", name := "putOff", desc := "(I)I" } : Jvm.MethodName)) : Cond) ∈ lw_all := lw_mk 600 (by decide +kernel) rfl
theorem w_546 : ((Jvm.Cond.selects "FeeDocket" ({ cls := "FeeDocket", name := "putOff", desc := "(I)I" } : Jvm.MethodName) ({ cls := "FeeDocket", name := "putOff", desc := "(I)I" } : Jvm.MethodName)) : Cond) ∈ lw_all := lw_mk 601 (by decide +kernel) rfl
theorem w_547 : ((Jvm.Cond.code ({ cls := "FeeDocket", name := "putOff", desc := "(I)I" } : Jvm.MethodName) prog_1_method_5_code (2 : Nat) (Option.some Jvm.ClassFile.FieldType.int)) : Cond) ∈ lw_all := lw_mk 602 (by decide +kernel) rfl
theorem w_548 : ((Jvm.Cond.methodLink "FeeDocket" (60 : Nat) ({ cls := "FeeDocket$Holidays", name := "firstWorkingDay", desc := "(I)I" } : Jvm.MethodName)) : Cond) ∈ lw_all := lw_mk 603 (by decide +kernel) rfl
theorem w_549 : ((Jvm.Cond.methodLink "FeeDocketLaw" (114 : Nat) ({ cls := "FeeDocketLaw", name := "holiday", desc := "(LFeeDocket;II[J)I" } : Jvm.MethodName)) : Cond) ∈ lw_all := lw_mk 604 (by decide +kernel) rfl
theorem w_550 : ((Jvm.Cond.static ({ cls := "FeeDocketLaw", name := "holiday", desc := "(LFeeDocket;II[J)I" } : Jvm.MethodName)) : Cond) ∈ lw_all := lw_mk 605 (by decide +kernel) rfl
theorem w_551 : ((Jvm.Cond.codeWith ({ cls := "FeeDocketLaw", name := "holiday", desc := "(LFeeDocket;II[J)I" } : Jvm.MethodName) method_7_code (5 : Nat) (Option.some Jvm.ClassFile.FieldType.int) [((0 : Nat), (10 : Nat), (13 : Nat), (13 : Nat)), ((0 : Nat), (10 : Nat), (17 : Nat), (29 : Nat))]) : Cond) ∈ lw_all := lw_mk 606 (by decide +kernel) rfl
theorem w_552 : ((Jvm.Cond.classLink "FeeDocketLaw" (29 : Nat) "java/lang/IllegalStateException") : Cond) ∈ lw_all := lw_mk 607 (by decide +kernel) rfl
theorem w_553 : ((Jvm.Cond.methodLink "FeeDocketLaw" (26 : Nat) ({ cls := "FeeDocket", name := "holiday", desc := "(II)I" } : Jvm.MethodName)) : Cond) ∈ lw_all := lw_mk 608 (by decide +kernel) rfl
theorem w_554 : ((Jvm.Cond.instanceMethod ({ cls := "FeeDocket", name := "holiday", desc := "(II)I" } : Jvm.MethodName)) : Cond) ∈ lw_all := lw_mk 609 (by decide +kernel) rfl
theorem w_555 : ((Jvm.Cond.selects "FeeDocket" ({ cls := "FeeDocket", name := "holiday", desc := "(II)I" } : Jvm.MethodName) ({ cls := "FeeDocket", name := "holiday", desc := "(II)I" } : Jvm.MethodName)) : Cond) ∈ lw_all := lw_mk 610 (by decide +kernel) rfl
theorem w_556 : ((Jvm.Cond.code ({ cls := "FeeDocket", name := "holiday", desc := "(II)I" } : Jvm.MethodName) prog_1_method_6_code (4 : Nat) (Option.some Jvm.ClassFile.FieldType.int)) : Cond) ∈ lw_all := lw_mk 611 (by decide +kernel) rfl
theorem w_557 : ((Jvm.Cond.methodLink "FeeDocket" (68 : Nat) ({ cls := "FeeDocket$Holidays", name := "canToggle", desc := "(I)Z" } : Jvm.MethodName)) : Cond) ∈ lw_all := lw_mk 612 (by decide +kernel) rfl
theorem w_558 : ((Jvm.Cond.instanceMethod ({ cls := "FeeDocket$Holidays", name := "canToggle", desc := "(I)Z" } : Jvm.MethodName)) : Cond) ∈ lw_all := lw_mk 613 (by decide +kernel) rfl
theorem w_559 : ((Jvm.Cond.selects "FeeDocket$Holidays" ({ cls := "FeeDocket$Holidays", name := "canToggle", desc := "(I)Z" } : Jvm.MethodName) ({ cls := "FeeDocket$Holidays", name := "canToggle", desc := "(I)Z" } : Jvm.MethodName)) : Cond) ∈ lw_all := lw_mk 614 (by decide +kernel) rfl
theorem w_560 : ((Jvm.Cond.code ({ cls := "FeeDocket$Holidays", name := "canToggle", desc := "(I)Z" } : Jvm.MethodName) prog_4_method_2_code (2 : Nat) (Option.some Jvm.ClassFile.FieldType.boolean)) : Cond) ∈ lw_all := lw_mk 615 (by decide +kernel) rfl
theorem w_561 : ((Jvm.Cond.methodLink "FeeDocket" (72 : Nat) ({ cls := "FeeDocket", name := "checkState", desc := "(Z)V" } : Jvm.MethodName)) : Cond) ∈ lw_all := lw_mk 616 (by decide +kernel) rfl
theorem w_562 : ((Jvm.Cond.static ({ cls := "FeeDocket", name := "checkState", desc := "(Z)V" } : Jvm.MethodName)) : Cond) ∈ lw_all := lw_mk 617 (by decide +kernel) rfl
theorem w_563 : ((Jvm.Cond.code ({ cls := "FeeDocket", name := "checkState", desc := "(Z)V" } : Jvm.MethodName) prog_1_method_33_code (1 : Nat) (Option.none : Option Jvm.ClassFile.FieldType)) : Cond) ∈ lw_all := lw_mk 618 (by decide +kernel) rfl
theorem w_564 : ((Jvm.Cond.classLink "FeeDocket" (218 : Nat) "java/lang/IllegalStateException") : Cond) ∈ lw_all := lw_mk 619 (by decide +kernel) rfl
theorem w_565 : ((Jvm.Cond.instantiable "java/lang/IllegalStateException" (6 : Nat)) : Cond) ∈ lw_all := lw_mk 620 (by decide +kernel) rfl
theorem w_567 : ((Jvm.Cond.selects "java/lang/IllegalStateException" ({ cls := "java/lang/Throwable", name := "fillInStackTrace", desc := "(I)Ljava/lang/Throwable;" } : Jvm.MethodName) ({ cls := "java/lang/Throwable", name := "fillInStackTrace", desc := "(I)Ljava/lang/Throwable;" } : Jvm.MethodName)) : Cond) ∈ lw_all := lw_mk 622 (by decide +kernel) rfl
theorem w_568 : ((Jvm.Cond.lays "java/lang/IllegalStateException" "java/lang/Throwable" "cause" "Ljava/lang/Throwable;") : Cond) ∈ lw_all := lw_mk 623 (by decide +kernel) rfl
theorem w_569 : ((Jvm.Cond.lays "java/lang/IllegalStateException" "java/lang/Throwable" "stackTrace" "[Ljava/lang/StackTraceElement;") : Cond) ∈ lw_all := lw_mk 624 (by decide +kernel) rfl
theorem w_570 : ((Jvm.Cond.lays "java/lang/IllegalStateException" "java/lang/Throwable" "suppressedExceptions" "Ljava/util/List;") : Cond) ∈ lw_all := lw_mk 625 (by decide +kernel) rfl
theorem w_571 : ((Jvm.Cond.lays "java/lang/IllegalStateException" "java/lang/Throwable" "detailMessage" "Ljava/lang/String;") : Cond) ∈ lw_all := lw_mk 626 (by decide +kernel) rfl
theorem w_572 : ((Jvm.Cond.lays "java/lang/IllegalStateException" "java/lang/Throwable" "backtrace" "Ljava/lang/Object;") : Cond) ∈ lw_all := lw_mk 627 (by decide +kernel) rfl
theorem w_574 : ((Jvm.Cond.methodLink "FeeDocket" (222 : Nat) ({ cls := "java/lang/IllegalStateException", name := "<init>", desc := "(Ljava/lang/String;)V" } : Jvm.MethodName)) : Cond) ∈ lw_all := lw_mk 629 (by decide +kernel) rfl
theorem w_575 : ((Jvm.Cond.instanceMethod ({ cls := "java/lang/IllegalStateException", name := "<init>", desc := "(Ljava/lang/String;)V" } : Jvm.MethodName)) : Cond) ∈ lw_all := lw_mk 630 (by decide +kernel) rfl
theorem w_576 : ((Jvm.Cond.code ({ cls := "java/lang/IllegalStateException", name := "<init>", desc := "(Ljava/lang/String;)V" } : Jvm.MethodName) prog_12_method_2_code (2 : Nat) (Option.none : Option Jvm.ClassFile.FieldType)) : Cond) ∈ lw_all := lw_mk 631 (by decide +kernel) rfl
theorem w_577 : ((Jvm.Cond.methodLink "java/lang/IllegalStateException" (7 : Nat) ({ cls := "java/lang/RuntimeException", name := "<init>", desc := "(Ljava/lang/String;)V" } : Jvm.MethodName)) : Cond) ∈ lw_all := lw_mk 632 (by decide +kernel) rfl
theorem w_578 : ((Jvm.Cond.lays "java/lang/IllegalStateException" "java/lang/Throwable" "depth" "I") : Cond) ∈ lw_all := lw_mk 633 (by decide +kernel) rfl
theorem w_579 : ((Jvm.Cond.superclass "java/lang/IllegalStateException" "java/lang/RuntimeException") : Cond) ∈ lw_all := lw_mk 634 (by decide +kernel) rfl
theorem w_580 : ((Jvm.Cond.methodLink "FeeDocket" (78 : Nat) ({ cls := "FeeDocket$Holidays", name := "toggle", desc := "(I)V" } : Jvm.MethodName)) : Cond) ∈ lw_all := lw_mk 635 (by decide +kernel) rfl
theorem w_581 : ((Jvm.Cond.instanceMethod ({ cls := "FeeDocket$Holidays", name := "toggle", desc := "(I)V" } : Jvm.MethodName)) : Cond) ∈ lw_all := lw_mk 636 (by decide +kernel) rfl
theorem w_582 : ((Jvm.Cond.selects "FeeDocket$Holidays" ({ cls := "FeeDocket$Holidays", name := "toggle", desc := "(I)V" } : Jvm.MethodName) ({ cls := "FeeDocket$Holidays", name := "toggle", desc := "(I)V" } : Jvm.MethodName)) : Cond) ∈ lw_all := lw_mk 637 (by decide +kernel) rfl
theorem w_583 : ((Jvm.Cond.code ({ cls := "FeeDocket$Holidays", name := "toggle", desc := "(I)V" } : Jvm.MethodName) prog_4_method_3_code (3 : Nat) (Option.none : Option Jvm.ClassFile.FieldType)) : Cond) ∈ lw_all := lw_mk 638 (by decide +kernel) rfl
theorem w_584 : ((Jvm.Cond.methodLink "FeeDocket$Holidays" (23 : Nat) ({ cls := "FeeDocket$Holidays", name := "remove", desc := "(I)V" } : Jvm.MethodName)) : Cond) ∈ lw_all := lw_mk 639 (by decide +kernel) rfl
theorem w_586 : ((Jvm.Cond.instanceMethod ({ cls := "FeeDocket$Holidays", name := "remove", desc := "(I)V" } : Jvm.MethodName)) : Cond) ∈ lw_all := lw_mk 641 (by decide +kernel) rfl
theorem w_587 : ((Jvm.Cond.code ({ cls := "FeeDocket$Holidays", name := "remove", desc := "(I)V" } : Jvm.MethodName) prog_4_method_8_code (3 : Nat) (Option.none : Option Jvm.ClassFile.FieldType)) : Cond) ∈ lw_all := lw_mk 642 (by decide +kernel) rfl
theorem w_588 : ((Jvm.Cond.methodLink "FeeDocketLaw" (117 : Nat) ({ cls := "FeeDocketLaw", name := "file", desc := "(LFeeDocket;Z[J)I" } : Jvm.MethodName)) : Cond) ∈ lw_all := lw_mk 643 (by decide +kernel) rfl
theorem w_589 : ((Jvm.Cond.static ({ cls := "FeeDocketLaw", name := "file", desc := "(LFeeDocket;Z[J)I" } : Jvm.MethodName)) : Cond) ∈ lw_all := lw_mk 644 (by decide +kernel) rfl
theorem w_590 : ((Jvm.Cond.codeWith ({ cls := "FeeDocketLaw", name := "file", desc := "(LFeeDocket;Z[J)I" } : Jvm.MethodName) method_8_code (4 : Nat) (Option.some Jvm.ClassFile.FieldType.int) [((0 : Nat), (9 : Nat), (12 : Nat), (29 : Nat))]) : Cond) ∈ lw_all := lw_mk 645 (by decide +kernel) rfl
theorem w_591 : ((Jvm.Cond.methodLink "FeeDocketLaw" (31 : Nat) ({ cls := "FeeDocket", name := "file", desc := "(Z)I" } : Jvm.MethodName)) : Cond) ∈ lw_all := lw_mk 646 (by decide +kernel) rfl
theorem w_592 : ((Jvm.Cond.instanceMethod ({ cls := "FeeDocket", name := "file", desc := "(Z)I" } : Jvm.MethodName)) : Cond) ∈ lw_all := lw_mk 647 (by decide +kernel) rfl
theorem w_593 : ((Jvm.Cond.selects "FeeDocket" ({ cls := "FeeDocket", name := "file", desc := "(Z)I" } : Jvm.MethodName) ({ cls := "FeeDocket", name := "file", desc := "(Z)I" } : Jvm.MethodName)) : Cond) ∈ lw_all := lw_mk 648 (by decide +kernel) rfl
theorem w_594 : ((Jvm.Cond.code ({ cls := "FeeDocket", name := "file", desc := "(Z)I" } : Jvm.MethodName) prog_1_method_7_code (2 : Nat) (Option.some Jvm.ClassFile.FieldType.int)) : Cond) ∈ lw_all := lw_mk 649 (by decide +kernel) rfl
theorem w_595 : ((Jvm.Cond.methodLink "FeeDocket" (88 : Nat) ({ cls := "FeeDocket$State", name := "addRight", desc := "(IZ)V" } : Jvm.MethodName)) : Cond) ∈ lw_all := lw_mk 650 (by decide +kernel) rfl
theorem w_596 : ((Jvm.Cond.methodLink "FeeDocketLaw" (121 : Nat) ({ cls := "FeeDocketLaw", name := "pass", desc := "(LFeeDocket;I[J)I" } : Jvm.MethodName)) : Cond) ∈ lw_all := lw_mk 651 (by decide +kernel) rfl
theorem w_597 : ((Jvm.Cond.static ({ cls := "FeeDocketLaw", name := "pass", desc := "(LFeeDocket;I[J)I" } : Jvm.MethodName)) : Cond) ∈ lw_all := lw_mk 652 (by decide +kernel) rfl
theorem w_598 : ((Jvm.Cond.codeWith ({ cls := "FeeDocketLaw", name := "pass", desc := "(LFeeDocket;I[J)I" } : Jvm.MethodName) method_9_code (4 : Nat) (Option.some Jvm.ClassFile.FieldType.int) [((0 : Nat), (9 : Nat), (12 : Nat), (13 : Nat)), ((0 : Nat), (9 : Nat), (15 : Nat), (29 : Nat))]) : Cond) ∈ lw_all := lw_mk 653 (by decide +kernel) rfl
theorem w_599 : ((Jvm.Cond.methodLink "FeeDocketLaw" (35 : Nat) ({ cls := "FeeDocket", name := "pass", desc := "(I)I" } : Jvm.MethodName)) : Cond) ∈ lw_all := lw_mk 654 (by decide +kernel) rfl
theorem w_600 : ((Jvm.Cond.instanceMethod ({ cls := "FeeDocket", name := "pass", desc := "(I)I" } : Jvm.MethodName)) : Cond) ∈ lw_all := lw_mk 655 (by decide +kernel) rfl
theorem w_601 : ((Jvm.Cond.selects "FeeDocket" ({ cls := "FeeDocket", name := "pass", desc := "(I)I" } : Jvm.MethodName) ({ cls := "FeeDocket", name := "pass", desc := "(I)I" } : Jvm.MethodName)) : Cond) ∈ lw_all := lw_mk 656 (by decide +kernel) rfl
theorem w_602 : ((Jvm.Cond.code ({ cls := "FeeDocket", name := "pass", desc := "(I)I" } : Jvm.MethodName) prog_1_method_8_code (3 : Nat) (Option.some Jvm.ClassFile.FieldType.int)) : Cond) ∈ lw_all := lw_mk 657 (by decide +kernel) rfl
theorem w_603 : ((Jvm.Cond.methodLink "FeeDocket" (92 : Nat) ({ cls := "FeeDocket$State", name := "lapsesWithin", desc := "(I)I" } : Jvm.MethodName)) : Cond) ∈ lw_all := lw_mk 658 (by decide +kernel) rfl
theorem w_604 : ((Jvm.Cond.instanceMethod ({ cls := "FeeDocket$State", name := "lapsesWithin", desc := "(I)I" } : Jvm.MethodName)) : Cond) ∈ lw_all := lw_mk 659 (by decide +kernel) rfl
theorem w_605 : ((Jvm.Cond.selects "FeeDocket$State" ({ cls := "FeeDocket$State", name := "lapsesWithin", desc := "(I)I" } : Jvm.MethodName) ({ cls := "FeeDocket$State", name := "lapsesWithin", desc := "(I)I" } : Jvm.MethodName)) : Cond) ∈ lw_all := lw_mk 660 (by decide +kernel) rfl
theorem w_606 : ((Jvm.Cond.code ({ cls := "FeeDocket$State", name := "lapsesWithin", desc := "(I)I" } : Jvm.MethodName) prog_6_method_5_code (4 : Nat) (Option.some Jvm.ClassFile.FieldType.int)) : Cond) ∈ lw_all := lw_mk 661 (by decide +kernel) rfl
theorem w_607 : ((Jvm.Cond.methodLink "FeeDocketLaw" (124 : Nat) ({ cls := "FeeDocketLaw", name := "pay", desc := "(LFeeDocket;I[J)I" } : Jvm.MethodName)) : Cond) ∈ lw_all := lw_mk 662 (by decide +kernel) rfl
theorem w_608 : ((Jvm.Cond.static ({ cls := "FeeDocketLaw", name := "pay", desc := "(LFeeDocket;I[J)I" } : Jvm.MethodName)) : Cond) ∈ lw_all := lw_mk 663 (by decide +kernel) rfl
theorem w_609 : ((Jvm.Cond.codeWith ({ cls := "FeeDocketLaw", name := "pay", desc := "(LFeeDocket;I[J)I" } : Jvm.MethodName) method_10_code (4 : Nat) (Option.some Jvm.ClassFile.FieldType.int) [((0 : Nat), (9 : Nat), (12 : Nat), (41 : Nat)), ((0 : Nat), (9 : Nat), (15 : Nat), (29 : Nat))]) : Cond) ∈ lw_all := lw_mk 664 (by decide +kernel) rfl
theorem w_610 : ((Jvm.Cond.classLink "FeeDocketLaw" (41 : Nat) "java/lang/IndexOutOfBoundsException") : Cond) ∈ lw_all := lw_mk 665 (by decide +kernel) rfl
theorem w_611 : ((Jvm.Cond.methodLink "FeeDocketLaw" (38 : Nat) ({ cls := "FeeDocket", name := "pay", desc := "(I)I" } : Jvm.MethodName)) : Cond) ∈ lw_all := lw_mk 666 (by decide +kernel) rfl
theorem w_612 : ((Jvm.Cond.instanceMethod ({ cls := "FeeDocket", name := "pay", desc := "(I)I" } : Jvm.MethodName)) : Cond) ∈ lw_all := lw_mk 667 (by decide +kernel) rfl
theorem w_613 : ((Jvm.Cond.selects "FeeDocket" ({ cls := "FeeDocket", name := "pay", desc := "(I)I" } : Jvm.MethodName) ({ cls := "FeeDocket", name := "pay", desc := "(I)I" } : Jvm.MethodName)) : Cond) ∈ lw_all := lw_mk 668 (by decide +kernel) rfl
theorem w_614 : ((Jvm.Cond.code ({ cls := "FeeDocket", name := "pay", desc := "(I)I" } : Jvm.MethodName) prog_1_method_9_code (3 : Nat) (Option.some Jvm.ClassFile.FieldType.int)) : Cond) ∈ lw_all := lw_mk 669 (by decide +kernel) rfl
theorem w_615 : ((Jvm.Cond.methodLink "FeeDocket" (95 : Nat) ({ cls := "FeeDocket", name := "existingRight", desc := "(I)LFeeDocket$Right;" } : Jvm.MethodName)) : Cond) ∈ lw_all := lw_mk 670 (by decide +kernel) rfl
theorem w_617 : ((Jvm.Cond.instanceMethod ({ cls := "FeeDocket", name := "existingRight", desc := "(I)LFeeDocket$Right;" } : Jvm.MethodName)) : Cond) ∈ lw_all := lw_mk 672 (by decide +kernel) rfl
theorem w_618 : ((Jvm.Cond.code ({ cls := "FeeDocket", name := "existingRight", desc := "(I)LFeeDocket$Right;" } : Jvm.MethodName) prog_1_method_34_code (2 : Nat) (Option.some (Jvm.ClassFile.FieldType.object "FeeDocket$Right"))) : Cond) ∈ lw_all := lw_mk 673 (by decide +kernel) rfl
theorem w_619 : ((Jvm.Cond.classLink "FeeDocket" (223 : Nat) "java/lang/IndexOutOfBoundsException") : Cond) ∈ lw_all := lw_mk 674 (by decide +kernel) rfl
theorem w_620 : ((Jvm.Cond.instantiable "java/lang/IndexOutOfBoundsException" (6 : Nat)) : Cond) ∈ lw_all := lw_mk 675 (by decide +kernel) rfl
theorem w_622 : ((Jvm.Cond.selects "java/lang/IndexOutOfBoundsException" ({ cls := "java/lang/Throwable", name := "fillInStackTrace", desc := "(I)Ljava/lang/Throwable;" } : Jvm.MethodName) ({ cls := "java/lang/Throwable", name := "fillInStackTrace", desc := "(I)Ljava/lang/Throwable;" } : Jvm.MethodName)) : Cond) ∈ lw_all := lw_mk 677 (by decide +kernel) rfl
theorem w_623 : ((Jvm.Cond.lays "java/lang/IndexOutOfBoundsException" "java/lang/Throwable" "cause" "Ljava/lang/Throwable;") : Cond) ∈ lw_all := lw_mk 678 (by decide +kernel) rfl
theorem w_624 : ((Jvm.Cond.lays "java/lang/IndexOutOfBoundsException" "java/lang/Throwable" "stackTrace" "[Ljava/lang/StackTraceElement;") : Cond) ∈ lw_all := lw_mk 679 (by decide +kernel) rfl
theorem w_625 : ((Jvm.Cond.lays "java/lang/IndexOutOfBoundsException" "java/lang/Throwable" "suppressedExceptions" "Ljava/util/List;") : Cond) ∈ lw_all := lw_mk 680 (by decide +kernel) rfl
theorem w_626 : ((Jvm.Cond.lays "java/lang/IndexOutOfBoundsException" "java/lang/Throwable" "detailMessage" "Ljava/lang/String;") : Cond) ∈ lw_all := lw_mk 681 (by decide +kernel) rfl
theorem w_627 : ((Jvm.Cond.lays "java/lang/IndexOutOfBoundsException" "java/lang/Throwable" "backtrace" "Ljava/lang/Object;") : Cond) ∈ lw_all := lw_mk 682 (by decide +kernel) rfl
theorem w_629 : ((Jvm.Cond.methodLink "FeeDocket" (227 : Nat) ({ cls := "java/lang/IndexOutOfBoundsException", name := "<init>", desc := "(Ljava/lang/String;)V" } : Jvm.MethodName)) : Cond) ∈ lw_all := lw_mk 684 (by decide +kernel) rfl
theorem w_630 : ((Jvm.Cond.instanceMethod ({ cls := "java/lang/IndexOutOfBoundsException", name := "<init>", desc := "(Ljava/lang/String;)V" } : Jvm.MethodName)) : Cond) ∈ lw_all := lw_mk 685 (by decide +kernel) rfl
theorem w_631 : ((Jvm.Cond.code ({ cls := "java/lang/IndexOutOfBoundsException", name := "<init>", desc := "(Ljava/lang/String;)V" } : Jvm.MethodName) prog_13_method_2_code (2 : Nat) (Option.none : Option Jvm.ClassFile.FieldType)) : Cond) ∈ lw_all := lw_mk 686 (by decide +kernel) rfl
theorem w_632 : ((Jvm.Cond.methodLink "java/lang/IndexOutOfBoundsException" (7 : Nat) ({ cls := "java/lang/RuntimeException", name := "<init>", desc := "(Ljava/lang/String;)V" } : Jvm.MethodName)) : Cond) ∈ lw_all := lw_mk 687 (by decide +kernel) rfl
theorem w_633 : ((Jvm.Cond.lays "java/lang/IndexOutOfBoundsException" "java/lang/Throwable" "depth" "I") : Cond) ∈ lw_all := lw_mk 688 (by decide +kernel) rfl
theorem w_634 : ((Jvm.Cond.superclass "java/lang/IndexOutOfBoundsException" "java/lang/RuntimeException") : Cond) ∈ lw_all := lw_mk 689 (by decide +kernel) rfl
theorem w_635 : ((Jvm.Cond.methodLink "FeeDocket" (99 : Nat) ({ cls := "FeeDocket$State", name := "canPay", desc := "(LFeeDocket$Right;)Z" } : Jvm.MethodName)) : Cond) ∈ lw_all := lw_mk 690 (by decide +kernel) rfl
theorem w_636 : ((Jvm.Cond.methodLink "FeeDocket" (103 : Nat) ({ cls := "FeeDocket$State", name := "payNextFee", desc := "(LFeeDocket$Right;)I" } : Jvm.MethodName)) : Cond) ∈ lw_all := lw_mk 691 (by decide +kernel) rfl
theorem w_637 : ((Jvm.Cond.methodLink "FeeDocketLaw" (131 : Nat) ({ cls := "FeeDocketLaw", name := "revive", desc := "(LFeeDocket;I[J)I" } : Jvm.MethodName)) : Cond) ∈ lw_all := lw_mk 692 (by decide +kernel) rfl
theorem w_638 : ((Jvm.Cond.static ({ cls := "FeeDocketLaw", name := "revive", desc := "(LFeeDocket;I[J)I" } : Jvm.MethodName)) : Cond) ∈ lw_all := lw_mk 693 (by decide +kernel) rfl
theorem w_639 : ((Jvm.Cond.codeWith ({ cls := "FeeDocketLaw", name := "revive", desc := "(LFeeDocket;I[J)I" } : Jvm.MethodName) method_11_code (4 : Nat) (Option.some Jvm.ClassFile.FieldType.int) [((0 : Nat), (9 : Nat), (12 : Nat), (41 : Nat)), ((0 : Nat), (9 : Nat), (15 : Nat), (29 : Nat))]) : Cond) ∈ lw_all := lw_mk 694 (by decide +kernel) rfl
theorem w_640 : ((Jvm.Cond.methodLink "FeeDocketLaw" (43 : Nat) ({ cls := "FeeDocket", name := "revive", desc := "(I)I" } : Jvm.MethodName)) : Cond) ∈ lw_all := lw_mk 695 (by decide +kernel) rfl
theorem w_641 : ((Jvm.Cond.instanceMethod ({ cls := "FeeDocket", name := "revive", desc := "(I)I" } : Jvm.MethodName)) : Cond) ∈ lw_all := lw_mk 696 (by decide +kernel) rfl
theorem w_642 : ((Jvm.Cond.selects "FeeDocket" ({ cls := "FeeDocket", name := "revive", desc := "(I)I" } : Jvm.MethodName) ({ cls := "FeeDocket", name := "revive", desc := "(I)I" } : Jvm.MethodName)) : Cond) ∈ lw_all := lw_mk 697 (by decide +kernel) rfl
theorem w_643 : ((Jvm.Cond.code ({ cls := "FeeDocket", name := "revive", desc := "(I)I" } : Jvm.MethodName) prog_1_method_11_code (3 : Nat) (Option.some Jvm.ClassFile.FieldType.int)) : Cond) ∈ lw_all := lw_mk 698 (by decide +kernel) rfl
theorem w_644 : ((Jvm.Cond.methodLink "FeeDocket" (111 : Nat) ({ cls := "FeeDocket$State", name := "canRevive", desc := "(LFeeDocket$Right;)Z" } : Jvm.MethodName)) : Cond) ∈ lw_all := lw_mk 699 (by decide +kernel) rfl
theorem w_645 : ((Jvm.Cond.instanceMethod ({ cls := "FeeDocket$State", name := "canRevive", desc := "(LFeeDocket$Right;)Z" } : Jvm.MethodName)) : Cond) ∈ lw_all := lw_mk 700 (by decide +kernel) rfl
theorem w_646 : ((Jvm.Cond.selects "FeeDocket$State" ({ cls := "FeeDocket$State", name := "canRevive", desc := "(LFeeDocket$Right;)Z" } : Jvm.MethodName) ({ cls := "FeeDocket$State", name := "canRevive", desc := "(LFeeDocket$Right;)Z" } : Jvm.MethodName)) : Cond) ∈ lw_all := lw_mk 701 (by decide +kernel) rfl
theorem w_647 : ((Jvm.Cond.code ({ cls := "FeeDocket$State", name := "canRevive", desc := "(LFeeDocket$Right;)Z" } : Jvm.MethodName) prog_6_method_7_code (3 : Nat) (Option.some Jvm.ClassFile.FieldType.boolean)) : Cond) ∈ lw_all := lw_mk 702 (by decide +kernel) rfl
theorem w_648 : ((Jvm.Cond.methodLink "FeeDocket$State" (101 : Nat) ({ cls := "FeeDocket$Calendar", name := "monthsAfter", desc := "(II)I" } : Jvm.MethodName)) : Cond) ∈ lw_all := lw_mk 703 (by decide +kernel) rfl
theorem w_649 : ((Jvm.Cond.methodLink "FeeDocket$State" (106 : Nat) ({ cls := "FeeDocket$Holidays", name := "firstWorkingDay", desc := "(I)I" } : Jvm.MethodName)) : Cond) ∈ lw_all := lw_mk 704 (by decide +kernel) rfl
theorem w_650 : ((Jvm.Cond.methodLink "FeeDocket" (114 : Nat) ({ cls := "FeeDocket$State", name := "reviveRight", desc := "(LFeeDocket$Right;)I" } : Jvm.MethodName)) : Cond) ∈ lw_all := lw_mk 705 (by decide +kernel) rfl
theorem w_651 : ((Jvm.Cond.instanceMethod ({ cls := "FeeDocket$State", name := "reviveRight", desc := "(LFeeDocket$Right;)I" } : Jvm.MethodName)) : Cond) ∈ lw_all := lw_mk 706 (by decide +kernel) rfl
theorem w_652 : ((Jvm.Cond.selects "FeeDocket$State" ({ cls := "FeeDocket$State", name := "reviveRight", desc := "(LFeeDocket$Right;)I" } : Jvm.MethodName) ({ cls := "FeeDocket$State", name := "reviveRight", desc := "(LFeeDocket$Right;)I" } : Jvm.MethodName)) : Cond) ∈ lw_all := lw_mk 707 (by decide +kernel) rfl
theorem w_653 : ((Jvm.Cond.code ({ cls := "FeeDocket$State", name := "reviveRight", desc := "(LFeeDocket$Right;)I" } : Jvm.MethodName) prog_6_method_13_code (4 : Nat) (Option.some Jvm.ClassFile.FieldType.int)) : Cond) ∈ lw_all := lw_mk 708 (by decide +kernel) rfl
theorem w_654 : ((Jvm.Cond.methodLink "FeeDocket$State" (148 : Nat) ({ cls := "FeeDocket$Right", name := "takeRevival", desc := "(III)V" } : Jvm.MethodName)) : Cond) ∈ lw_all := lw_mk 709 (by decide +kernel) rfl
theorem w_655 : ((Jvm.Cond.instanceMethod ({ cls := "FeeDocket$Right", name := "takeRevival", desc := "(III)V" } : Jvm.MethodName)) : Cond) ∈ lw_all := lw_mk 710 (by decide +kernel) rfl
theorem w_656 : ((Jvm.Cond.selects "FeeDocket$Right" ({ cls := "FeeDocket$Right", name := "takeRevival", desc := "(III)V" } : Jvm.MethodName) ({ cls := "FeeDocket$Right", name := "takeRevival", desc := "(III)V" } : Jvm.MethodName)) : Cond) ∈ lw_all := lw_mk 711 (by decide +kernel) rfl
theorem w_657 : ((Jvm.Cond.code ({ cls := "FeeDocket$Right", name := "takeRevival", desc := "(III)V" } : Jvm.MethodName) prog_5_method_11_code (4 : Nat) (Option.none : Option Jvm.ClassFile.FieldType)) : Cond) ∈ lw_all := lw_mk 712 (by decide +kernel) rfl
theorem w_658 : ((Jvm.Cond.methodLink "FeeDocketLaw" (134 : Nat) ({ cls := "FeeDocketLaw", name := "use", desc := "(LFeeDocket;II[J)I" } : Jvm.MethodName)) : Cond) ∈ lw_all := lw_mk 713 (by decide +kernel) rfl
theorem w_659 : ((Jvm.Cond.static ({ cls := "FeeDocketLaw", name := "use", desc := "(LFeeDocket;II[J)I" } : Jvm.MethodName)) : Cond) ∈ lw_all := lw_mk 714 (by decide +kernel) rfl
theorem w_660 : ((Jvm.Cond.codeWith ({ cls := "FeeDocketLaw", name := "use", desc := "(LFeeDocket;II[J)I" } : Jvm.MethodName) method_12_code (5 : Nat) (Option.some Jvm.ClassFile.FieldType.int) [((0 : Nat), (10 : Nat), (13 : Nat), (41 : Nat)), ((0 : Nat), (10 : Nat), (17 : Nat), (13 : Nat)), ((0 : Nat), (10 : Nat), (21 : Nat), (29 : Nat))]) : Cond) ∈ lw_all := lw_mk 715 (by decide +kernel) rfl
theorem w_661 : ((Jvm.Cond.methodLink "FeeDocketLaw" (46 : Nat) ({ cls := "FeeDocket", name := "use", desc := "(II)I" } : Jvm.MethodName)) : Cond) ∈ lw_all := lw_mk 716 (by decide +kernel) rfl
theorem w_662 : ((Jvm.Cond.instanceMethod ({ cls := "FeeDocket", name := "use", desc := "(II)I" } : Jvm.MethodName)) : Cond) ∈ lw_all := lw_mk 717 (by decide +kernel) rfl
theorem w_663 : ((Jvm.Cond.selects "FeeDocket" ({ cls := "FeeDocket", name := "use", desc := "(II)I" } : Jvm.MethodName) ({ cls := "FeeDocket", name := "use", desc := "(II)I" } : Jvm.MethodName)) : Cond) ∈ lw_all := lw_mk 718 (by decide +kernel) rfl
theorem w_664 : ((Jvm.Cond.code ({ cls := "FeeDocket", name := "use", desc := "(II)I" } : Jvm.MethodName) prog_1_method_12_code (4 : Nat) (Option.some Jvm.ClassFile.FieldType.int)) : Cond) ∈ lw_all := lw_mk 719 (by decide +kernel) rfl
theorem w_665 : ((Jvm.Cond.methodLink "FeeDocket" (117 : Nat) ({ cls := "FeeDocket$State", name := "canUse", desc := "(LFeeDocket$Right;I)Z" } : Jvm.MethodName)) : Cond) ∈ lw_all := lw_mk 720 (by decide +kernel) rfl
theorem w_666 : ((Jvm.Cond.instanceMethod ({ cls := "FeeDocket$State", name := "canUse", desc := "(LFeeDocket$Right;I)Z" } : Jvm.MethodName)) : Cond) ∈ lw_all := lw_mk 721 (by decide +kernel) rfl
theorem w_667 : ((Jvm.Cond.selects "FeeDocket$State" ({ cls := "FeeDocket$State", name := "canUse", desc := "(LFeeDocket$Right;I)Z" } : Jvm.MethodName) ({ cls := "FeeDocket$State", name := "canUse", desc := "(LFeeDocket$Right;I)Z" } : Jvm.MethodName)) : Cond) ∈ lw_all := lw_mk 722 (by decide +kernel) rfl
theorem w_668 : ((Jvm.Cond.code ({ cls := "FeeDocket$State", name := "canUse", desc := "(LFeeDocket$Right;I)Z" } : Jvm.MethodName) prog_6_method_8_code (3 : Nat) (Option.some Jvm.ClassFile.FieldType.boolean)) : Cond) ∈ lw_all := lw_mk 723 (by decide +kernel) rfl
theorem w_669 : ((Jvm.Cond.methodLink "FeeDocket$State" (113 : Nat) ({ cls := "FeeDocket$Right", name := "hasBegun", desc := "(I)Z" } : Jvm.MethodName)) : Cond) ∈ lw_all := lw_mk 724 (by decide +kernel) rfl
theorem w_670 : ((Jvm.Cond.methodLink "FeeDocket" (121 : Nat) ({ cls := "FeeDocket$Right", name := "begin", desc := "(II)V" } : Jvm.MethodName)) : Cond) ∈ lw_all := lw_mk 725 (by decide +kernel) rfl
theorem w_671 : ((Jvm.Cond.instanceMethod ({ cls := "FeeDocket$Right", name := "begin", desc := "(II)V" } : Jvm.MethodName)) : Cond) ∈ lw_all := lw_mk 726 (by decide +kernel) rfl
theorem w_672 : ((Jvm.Cond.selects "FeeDocket$Right" ({ cls := "FeeDocket$Right", name := "begin", desc := "(II)V" } : Jvm.MethodName) ({ cls := "FeeDocket$Right", name := "begin", desc := "(II)V" } : Jvm.MethodName)) : Cond) ∈ lw_all := lw_mk 727 (by decide +kernel) rfl
theorem w_673 : ((Jvm.Cond.code ({ cls := "FeeDocket$Right", name := "begin", desc := "(II)V" } : Jvm.MethodName) prog_5_method_18_code (3 : Nat) (Option.none : Option Jvm.ClassFile.FieldType)) : Cond) ∈ lw_all := lw_mk 728 (by decide +kernel) rfl
theorem w_674 : ((Jvm.Cond.methodLink "FeeDocket" (127 : Nat) ({ cls := "FeeDocket$Right", name := "countUsers", desc := "()I" } : Jvm.MethodName)) : Cond) ∈ lw_all := lw_mk 729 (by decide +kernel) rfl
theorem w_675 : ((Jvm.Cond.methodLink "FeeDocketLaw" (137 : Nat) ({ cls := "FeeDocketLaw", name := "setFees", desc := "(LFeeDocket;IIII[J)I" } : Jvm.MethodName)) : Cond) ∈ lw_all := lw_mk 730 (by decide +kernel) rfl
theorem w_676 : ((Jvm.Cond.static ({ cls := "FeeDocketLaw", name := "setFees", desc := "(LFeeDocket;IIII[J)I" } : Jvm.MethodName)) : Cond) ∈ lw_all := lw_mk 731 (by decide +kernel) rfl
theorem w_677 : ((Jvm.Cond.codeWith ({ cls := "FeeDocketLaw", name := "setFees", desc := "(LFeeDocket;IIII[J)I" } : Jvm.MethodName) method_13_code (7 : Nat) (Option.some Jvm.ClassFile.FieldType.int) [((0 : Nat), (14 : Nat), (17 : Nat), (13 : Nat))]) : Cond) ∈ lw_all := lw_mk 732 (by decide +kernel) rfl
theorem w_678 : ((Jvm.Cond.methodLink "FeeDocketLaw" (49 : Nat) ({ cls := "FeeDocket", name := "setFees", desc := "(IIII)I" } : Jvm.MethodName)) : Cond) ∈ lw_all := lw_mk 733 (by decide +kernel) rfl
theorem w_679 : ((Jvm.Cond.instanceMethod ({ cls := "FeeDocket", name := "setFees", desc := "(IIII)I" } : Jvm.MethodName)) : Cond) ∈ lw_all := lw_mk 734 (by decide +kernel) rfl
theorem w_680 : ((Jvm.Cond.selects "FeeDocket" ({ cls := "FeeDocket", name := "setFees", desc := "(IIII)I" } : Jvm.MethodName) ({ cls := "FeeDocket", name := "setFees", desc := "(IIII)I" } : Jvm.MethodName)) : Cond) ∈ lw_all := lw_mk 735 (by decide +kernel) rfl
theorem w_681 : ((Jvm.Cond.code ({ cls := "FeeDocket", name := "setFees", desc := "(IIII)I" } : Jvm.MethodName) prog_1_method_13_code (6 : Nat) (Option.some Jvm.ClassFile.FieldType.int)) : Cond) ∈ lw_all := lw_mk 736 (by decide +kernel) rfl
theorem w_682 : ((Jvm.Cond.methodLink "FeeDocket" (139 : Nat) ({ cls := "FeeDocket$Fees", name := "set", desc := "(IIII)V" } : Jvm.MethodName)) : Cond) ∈ lw_all := lw_mk 737 (by decide +kernel) rfl
theorem w_683 : ((Jvm.Cond.methodLink "FeeDocketLaw" (141 : Nat) ({ cls := "FeeDocketLaw", name := "right", desc := "(LFeeDocket;II[J)I" } : Jvm.MethodName)) : Cond) ∈ lw_all := lw_mk 738 (by decide +kernel) rfl
theorem w_684 : ((Jvm.Cond.static ({ cls := "FeeDocketLaw", name := "right", desc := "(LFeeDocket;II[J)I" } : Jvm.MethodName)) : Cond) ∈ lw_all := lw_mk 739 (by decide +kernel) rfl
theorem w_685 : ((Jvm.Cond.codeWith ({ cls := "FeeDocketLaw", name := "right", desc := "(LFeeDocket;II[J)I" } : Jvm.MethodName) method_14_code (5 : Nat) (Option.some Jvm.ClassFile.FieldType.int) [((0 : Nat), (10 : Nat), (13 : Nat), (41 : Nat)), ((0 : Nat), (10 : Nat), (17 : Nat), (13 : Nat))]) : Cond) ∈ lw_all := lw_mk 740 (by decide +kernel) rfl
theorem w_686 : ((Jvm.Cond.methodLink "FeeDocketLaw" (53 : Nat) ({ cls := "FeeDocket", name := "right", desc := "(II)I" } : Jvm.MethodName)) : Cond) ∈ lw_all := lw_mk 741 (by decide +kernel) rfl
theorem w_687 : ((Jvm.Cond.instanceMethod ({ cls := "FeeDocket", name := "right", desc := "(II)I" } : Jvm.MethodName)) : Cond) ∈ lw_all := lw_mk 742 (by decide +kernel) rfl
theorem w_688 : ((Jvm.Cond.selects "FeeDocket" ({ cls := "FeeDocket", name := "right", desc := "(II)I" } : Jvm.MethodName) ({ cls := "FeeDocket", name := "right", desc := "(II)I" } : Jvm.MethodName)) : Cond) ∈ lw_all := lw_mk 743 (by decide +kernel) rfl
theorem w_689 : ((Jvm.Cond.code ({ cls := "FeeDocket", name := "right", desc := "(II)I" } : Jvm.MethodName) prog_1_method_14_code (4 : Nat) (Option.some Jvm.ClassFile.FieldType.int)) : Cond) ∈ lw_all := lw_mk 744 (by decide +kernel) rfl
theorem w_690 : ((Jvm.Cond.methodLink "FeeDocketLaw" (144 : Nat) ({ cls := "FeeDocketLaw", name := "due", desc := "(LFeeDocket;IIZ[J)I" } : Jvm.MethodName)) : Cond) ∈ lw_all := lw_mk 745 (by decide +kernel) rfl
theorem w_691 : ((Jvm.Cond.static ({ cls := "FeeDocketLaw", name := "due", desc := "(LFeeDocket;IIZ[J)I" } : Jvm.MethodName)) : Cond) ∈ lw_all := lw_mk 746 (by decide +kernel) rfl
theorem w_692 : ((Jvm.Cond.codeWith ({ cls := "FeeDocketLaw", name := "due", desc := "(LFeeDocket;IIZ[J)I" } : Jvm.MethodName) method_15_code (6 : Nat) (Option.some Jvm.ClassFile.FieldType.int) [((0 : Nat), (12 : Nat), (15 : Nat), (41 : Nat)), ((0 : Nat), (12 : Nat), (19 : Nat), (13 : Nat))]) : Cond) ∈ lw_all := lw_mk 747 (by decide +kernel) rfl
theorem w_693 : ((Jvm.Cond.methodLink "FeeDocketLaw" (56 : Nat) ({ cls := "FeeDocket", name := "due", desc := "(IIZ)I" } : Jvm.MethodName)) : Cond) ∈ lw_all := lw_mk 748 (by decide +kernel) rfl
theorem w_694 : ((Jvm.Cond.instanceMethod ({ cls := "FeeDocket", name := "due", desc := "(IIZ)I" } : Jvm.MethodName)) : Cond) ∈ lw_all := lw_mk 749 (by decide +kernel) rfl
theorem w_695 : ((Jvm.Cond.selects "FeeDocket" ({ cls := "FeeDocket", name := "due", desc := "(IIZ)I" } : Jvm.MethodName) ({ cls := "FeeDocket", name := "due", desc := "(IIZ)I" } : Jvm.MethodName)) : Cond) ∈ lw_all := lw_mk 750 (by decide +kernel) rfl
theorem w_696 : ((Jvm.Cond.code ({ cls := "FeeDocket", name := "due", desc := "(IIZ)I" } : Jvm.MethodName) prog_1_method_15_code (5 : Nat) (Option.some Jvm.ClassFile.FieldType.int)) : Cond) ∈ lw_all := lw_mk 751 (by decide +kernel) rfl
theorem w_697 : ((Jvm.Cond.methodLink "FeeDocket" (147 : Nat) ({ cls := "FeeDocket$Right", name := "graceOf", desc := "(I)I" } : Jvm.MethodName)) : Cond) ∈ lw_all := lw_mk 752 (by decide +kernel) rfl
theorem w_698 : ((Jvm.Cond.methodLink "FeeDocket" (150 : Nat) ({ cls := "FeeDocket$Right", name := "dueOf", desc := "(I)I" } : Jvm.MethodName)) : Cond) ∈ lw_all := lw_mk 753 (by decide +kernel) rfl
theorem w_699 : ((Jvm.Cond.methodLink "FeeDocketLaw" (148 : Nat) ({ cls := "FeeDocketLaw", name := "stood", desc := "(LFeeDocket;II[J)I" } : Jvm.MethodName)) : Cond) ∈ lw_all := lw_mk 754 (by decide +kernel) rfl
theorem w_700 : ((Jvm.Cond.static ({ cls := "FeeDocketLaw", name := "stood", desc := "(LFeeDocket;II[J)I" } : Jvm.MethodName)) : Cond) ∈ lw_all := lw_mk 755 (by decide +kernel) rfl
theorem w_701 : ((Jvm.Cond.codeWith ({ cls := "FeeDocketLaw", name := "stood", desc := "(LFeeDocket;II[J)I" } : Jvm.MethodName) method_16_code (5 : Nat) (Option.some Jvm.ClassFile.FieldType.int) [((0 : Nat), (17 : Nat), (20 : Nat), (41 : Nat)), ((0 : Nat), (17 : Nat), (24 : Nat), (13 : Nat))]) : Cond) ∈ lw_all := lw_mk 756 (by decide +kernel) rfl
theorem w_702 : ((Jvm.Cond.methodLink "FeeDocketLaw" (60 : Nat) ({ cls := "FeeDocket", name := "stood", desc := "(II)Z" } : Jvm.MethodName)) : Cond) ∈ lw_all := lw_mk 757 (by decide +kernel) rfl
theorem w_703 : ((Jvm.Cond.instanceMethod ({ cls := "FeeDocket", name := "stood", desc := "(II)Z" } : Jvm.MethodName)) : Cond) ∈ lw_all := lw_mk 758 (by decide +kernel) rfl
theorem w_704 : ((Jvm.Cond.selects "FeeDocket" ({ cls := "FeeDocket", name := "stood", desc := "(II)Z" } : Jvm.MethodName) ({ cls := "FeeDocket", name := "stood", desc := "(II)Z" } : Jvm.MethodName)) : Cond) ∈ lw_all := lw_mk 759 (by decide +kernel) rfl
theorem w_705 : ((Jvm.Cond.code ({ cls := "FeeDocket", name := "stood", desc := "(II)Z" } : Jvm.MethodName) prog_1_method_16_code (4 : Nat) (Option.some Jvm.ClassFile.FieldType.boolean)) : Cond) ∈ lw_all := lw_mk 760 (by decide +kernel) rfl
theorem w_706 : ((Jvm.Cond.methodLink "FeeDocketLaw" (151 : Nat) ({ cls := "FeeDocketLaw", name := "covered", desc := "(LFeeDocket;II[J)I" } : Jvm.MethodName)) : Cond) ∈ lw_all := lw_mk 761 (by decide +kernel) rfl
theorem w_707 : ((Jvm.Cond.static ({ cls := "FeeDocketLaw", name := "covered", desc := "(LFeeDocket;II[J)I" } : Jvm.MethodName)) : Cond) ∈ lw_all := lw_mk 762 (by decide +kernel) rfl
theorem w_708 : ((Jvm.Cond.codeWith ({ cls := "FeeDocketLaw", name := "covered", desc := "(LFeeDocket;II[J)I" } : Jvm.MethodName) method_17_code (5 : Nat) (Option.some Jvm.ClassFile.FieldType.int) [((0 : Nat), (17 : Nat), (20 : Nat), (41 : Nat)), ((0 : Nat), (17 : Nat), (24 : Nat), (13 : Nat))]) : Cond) ∈ lw_all := lw_mk 763 (by decide +kernel) rfl
theorem w_709 : ((Jvm.Cond.methodLink "FeeDocketLaw" (64 : Nat) ({ cls := "FeeDocket", name := "covered", desc := "(II)Z" } : Jvm.MethodName)) : Cond) ∈ lw_all := lw_mk 764 (by decide +kernel) rfl
theorem w_710 : ((Jvm.Cond.instanceMethod ({ cls := "FeeDocket", name := "covered", desc := "(II)Z" } : Jvm.MethodName)) : Cond) ∈ lw_all := lw_mk 765 (by decide +kernel) rfl
theorem w_711 : ((Jvm.Cond.selects "FeeDocket" ({ cls := "FeeDocket", name := "covered", desc := "(II)Z" } : Jvm.MethodName) ({ cls := "FeeDocket", name := "covered", desc := "(II)Z" } : Jvm.MethodName)) : Cond) ∈ lw_all := lw_mk 766 (by decide +kernel) rfl
theorem w_712 : ((Jvm.Cond.code ({ cls := "FeeDocket", name := "covered", desc := "(II)Z" } : Jvm.MethodName) prog_1_method_17_code (4 : Nat) (Option.some Jvm.ClassFile.FieldType.boolean)) : Cond) ∈ lw_all := lw_mk 767 (by decide +kernel) rfl
theorem w_713 : ((Jvm.Cond.methodLink "FeeDocket" (157 : Nat) ({ cls := "FeeDocket$Right", name := "paidForOn", desc := "(II)Z" } : Jvm.MethodName)) : Cond) ∈ lw_all := lw_mk 768 (by decide +kernel) rfl
theorem w_714 : ((Jvm.Cond.instanceMethod ({ cls := "FeeDocket$Right", name := "paidForOn", desc := "(II)Z" } : Jvm.MethodName)) : Cond) ∈ lw_all := lw_mk 769 (by decide +kernel) rfl
theorem w_715 : ((Jvm.Cond.selects "FeeDocket$Right" ({ cls := "FeeDocket$Right", name := "paidForOn", desc := "(II)Z" } : Jvm.MethodName) ({ cls := "FeeDocket$Right", name := "paidForOn", desc := "(II)Z" } : Jvm.MethodName)) : Cond) ∈ lw_all := lw_mk 770 (by decide +kernel) rfl
theorem w_716 : ((Jvm.Cond.code ({ cls := "FeeDocket$Right", name := "paidForOn", desc := "(II)Z" } : Jvm.MethodName) prog_5_method_14_code (6 : Nat) (Option.some Jvm.ClassFile.FieldType.boolean)) : Cond) ∈ lw_all := lw_mk 771 (by decide +kernel) rfl
theorem w_717 : ((Jvm.Cond.methodLink "FeeDocket$Right" (91 : Nat) ({ cls := "FeeDocket$Right", name := "paymentOf", desc := "(I)I" } : Jvm.MethodName)) : Cond) ∈ lw_all := lw_mk 772 (by decide +kernel) rfl
theorem w_718 : ((Jvm.Cond.instanceMethod ({ cls := "FeeDocket$Right", name := "paymentOf", desc := "(I)I" } : Jvm.MethodName)) : Cond) ∈ lw_all := lw_mk 773 (by decide +kernel) rfl
theorem w_719 : ((Jvm.Cond.selects "FeeDocket$Right" ({ cls := "FeeDocket$Right", name := "paymentOf", desc := "(I)I" } : Jvm.MethodName) ({ cls := "FeeDocket$Right", name := "paymentOf", desc := "(I)I" } : Jvm.MethodName)) : Cond) ∈ lw_all := lw_mk 774 (by decide +kernel) rfl
theorem w_720 : ((Jvm.Cond.code ({ cls := "FeeDocket$Right", name := "paymentOf", desc := "(I)I" } : Jvm.MethodName) prog_5_method_7_code (2 : Nat) (Option.some Jvm.ClassFile.FieldType.int)) : Cond) ∈ lw_all := lw_mk 775 (by decide +kernel) rfl
theorem w_721 : ((Jvm.Cond.methodLink "FeeDocketLaw" (154 : Nat) ({ cls := "FeeDocketLaw", name := "user", desc := "(LFeeDocket;II[J)I" } : Jvm.MethodName)) : Cond) ∈ lw_all := lw_mk 776 (by decide +kernel) rfl
theorem w_722 : ((Jvm.Cond.static ({ cls := "FeeDocketLaw", name := "user", desc := "(LFeeDocket;II[J)I" } : Jvm.MethodName)) : Cond) ∈ lw_all := lw_mk 777 (by decide +kernel) rfl
theorem w_723 : ((Jvm.Cond.codeWith ({ cls := "FeeDocketLaw", name := "user", desc := "(LFeeDocket;II[J)I" } : Jvm.MethodName) method_18_code (5 : Nat) (Option.some Jvm.ClassFile.FieldType.int) [((0 : Nat), (10 : Nat), (13 : Nat), (41 : Nat)), ((0 : Nat), (10 : Nat), (17 : Nat), (13 : Nat))]) : Cond) ∈ lw_all := lw_mk 778 (by decide +kernel) rfl
theorem w_724 : ((Jvm.Cond.methodLink "FeeDocketLaw" (67 : Nat) ({ cls := "FeeDocket", name := "user", desc := "(II)I" } : Jvm.MethodName)) : Cond) ∈ lw_all := lw_mk 779 (by decide +kernel) rfl
theorem w_725 : ((Jvm.Cond.instanceMethod ({ cls := "FeeDocket", name := "user", desc := "(II)I" } : Jvm.MethodName)) : Cond) ∈ lw_all := lw_mk 780 (by decide +kernel) rfl
theorem w_726 : ((Jvm.Cond.selects "FeeDocket" ({ cls := "FeeDocket", name := "user", desc := "(II)I" } : Jvm.MethodName) ({ cls := "FeeDocket", name := "user", desc := "(II)I" } : Jvm.MethodName)) : Cond) ∈ lw_all := lw_mk 781 (by decide +kernel) rfl
theorem w_727 : ((Jvm.Cond.code ({ cls := "FeeDocket", name := "user", desc := "(II)I" } : Jvm.MethodName) prog_1_method_18_code (4 : Nat) (Option.some Jvm.ClassFile.FieldType.int)) : Cond) ∈ lw_all := lw_mk 782 (by decide +kernel) rfl
theorem w_728 : ((Jvm.Cond.methodLink "FeeDocketLaw" (157 : Nat) ({ cls := "FeeDocketLaw", name := "value", desc := "(LFeeDocket;I[J)I" } : Jvm.MethodName)) : Cond) ∈ lw_all := lw_mk 783 (by decide +kernel) rfl
theorem w_729 : ((Jvm.Cond.static ({ cls := "FeeDocketLaw", name := "value", desc := "(LFeeDocket;I[J)I" } : Jvm.MethodName)) : Cond) ∈ lw_all := lw_mk 784 (by decide +kernel) rfl
theorem w_730 : ((Jvm.Cond.codeWith ({ cls := "FeeDocketLaw", name := "value", desc := "(LFeeDocket;I[J)I" } : Jvm.MethodName) method_19_code (4 : Nat) (Option.some Jvm.ClassFile.FieldType.int) [((0 : Nat), (9 : Nat), (12 : Nat), (13 : Nat))]) : Cond) ∈ lw_all := lw_mk 785 (by decide +kernel) rfl
theorem w_731 : ((Jvm.Cond.methodLink "FeeDocketLaw" (70 : Nat) ({ cls := "FeeDocket", name := "value", desc := "(I)I" } : Jvm.MethodName)) : Cond) ∈ lw_all := lw_mk 786 (by decide +kernel) rfl
theorem w_732 : ((Jvm.Cond.instanceMethod ({ cls := "FeeDocket", name := "value", desc := "(I)I" } : Jvm.MethodName)) : Cond) ∈ lw_all := lw_mk 787 (by decide +kernel) rfl
theorem w_733 : ((Jvm.Cond.selects "FeeDocket" ({ cls := "FeeDocket", name := "value", desc := "(I)I" } : Jvm.MethodName) ({ cls := "FeeDocket", name := "value", desc := "(I)I" } : Jvm.MethodName)) : Cond) ∈ lw_all := lw_mk 788 (by decide +kernel) rfl
theorem w_734 : ((Jvm.Cond.code ({ cls := "FeeDocket", name := "value", desc := "(I)I" } : Jvm.MethodName) prog_1_method_19_code (2 : Nat) (Option.some Jvm.ClassFile.FieldType.int)) : Cond) ∈ lw_all := lw_mk 789 (by decide +kernel) rfl
theorem w_735 : ((Jvm.Cond.methodLink "FeeDocketLaw" (164 : Nat) ({ cls := "FeeDocketLaw", name := "costs", desc := "(LFeeDocket;I[J)I" } : Jvm.MethodName)) : Cond) ∈ lw_all := lw_mk 790 (by decide +kernel) rfl
theorem w_736 : ((Jvm.Cond.static ({ cls := "FeeDocketLaw", name := "costs", desc := "(LFeeDocket;I[J)I" } : Jvm.MethodName)) : Cond) ∈ lw_all := lw_mk 791 (by decide +kernel) rfl
theorem w_737 : ((Jvm.Cond.codeWith ({ cls := "FeeDocketLaw", name := "costs", desc := "(LFeeDocket;I[J)I" } : Jvm.MethodName) method_20_code (4 : Nat) (Option.some Jvm.ClassFile.FieldType.int) [((0 : Nat), (9 : Nat), (12 : Nat), (13 : Nat))]) : Cond) ∈ lw_all := lw_mk 792 (by decide +kernel) rfl
theorem w_738 : ((Jvm.Cond.methodLink "FeeDocketLaw" (73 : Nat) ({ cls := "FeeDocket", name := "costs", desc := "(I)I" } : Jvm.MethodName)) : Cond) ∈ lw_all := lw_mk 793 (by decide +kernel) rfl
theorem w_739 : ((Jvm.Cond.instanceMethod ({ cls := "FeeDocket", name := "costs", desc := "(I)I" } : Jvm.MethodName)) : Cond) ∈ lw_all := lw_mk 794 (by decide +kernel) rfl
theorem w_740 : ((Jvm.Cond.selects "FeeDocket" ({ cls := "FeeDocket", name := "costs", desc := "(I)I" } : Jvm.MethodName) ({ cls := "FeeDocket", name := "costs", desc := "(I)I" } : Jvm.MethodName)) : Cond) ∈ lw_all := lw_mk 795 (by decide +kernel) rfl
theorem w_741 : ((Jvm.Cond.code ({ cls := "FeeDocket", name := "costs", desc := "(I)I" } : Jvm.MethodName) prog_1_method_21_code (2 : Nat) (Option.some Jvm.ClassFile.FieldType.int)) : Cond) ∈ lw_all := lw_mk 796 (by decide +kernel) rfl
theorem w_742 : ((Jvm.Cond.methodLink "FeeDocket" (169 : Nat) ({ cls := "FeeDocket$State", name := "costsWithin", desc := "(I)I" } : Jvm.MethodName)) : Cond) ∈ lw_all := lw_mk 797 (by decide +kernel) rfl
theorem w_743 : ((Jvm.Cond.instanceMethod ({ cls := "FeeDocket$State", name := "costsWithin", desc := "(I)I" } : Jvm.MethodName)) : Cond) ∈ lw_all := lw_mk 798 (by decide +kernel) rfl
theorem w_744 : ((Jvm.Cond.selects "FeeDocket$State" ({ cls := "FeeDocket$State", name := "costsWithin", desc := "(I)I" } : Jvm.MethodName) ({ cls := "FeeDocket$State", name := "costsWithin", desc := "(I)I" } : Jvm.MethodName)) : Cond) ∈ lw_all := lw_mk 799 (by decide +kernel) rfl
theorem w_745 : ((Jvm.Cond.code ({ cls := "FeeDocket$State", name := "costsWithin", desc := "(I)I" } : Jvm.MethodName) prog_6_method_15_code (4 : Nat) (Option.some Jvm.ClassFile.FieldType.int)) : Cond) ∈ lw_all := lw_mk 800 (by decide +kernel) rfl
theorem w_746 : ((Jvm.Cond.methodLink "FeeDocket$State" (152 : Nat) ({ cls := "FeeDocket$State", name := "costsUpTo", desc := "(LFeeDocket$Right;I)I" } : Jvm.MethodName)) : Cond) ∈ lw_all := lw_mk 801 (by decide +kernel) rfl
theorem w_748 : ((Jvm.Cond.instanceMethod ({ cls := "FeeDocket$State", name := "costsUpTo", desc := "(LFeeDocket$Right;I)I" } : Jvm.MethodName)) : Cond) ∈ lw_all := lw_mk 803 (by decide +kernel) rfl
theorem w_749 : ((Jvm.Cond.code ({ cls := "FeeDocket$State", name := "costsUpTo", desc := "(LFeeDocket$Right;I)I" } : Jvm.MethodName) prog_6_method_16_code (5 : Nat) (Option.some Jvm.ClassFile.FieldType.int)) : Cond) ∈ lw_all := lw_mk 804 (by decide +kernel) rfl
theorem w_750 : ((Jvm.Cond.methodLink "FeeDocketLaw" (167 : Nat) ({ cls := "FeeDocketLaw", name := "lapsing", desc := "(LFeeDocket;I[J)I" } : Jvm.MethodName)) : Cond) ∈ lw_all := lw_mk 805 (by decide +kernel) rfl
theorem w_751 : ((Jvm.Cond.static ({ cls := "FeeDocketLaw", name := "lapsing", desc := "(LFeeDocket;I[J)I" } : Jvm.MethodName)) : Cond) ∈ lw_all := lw_mk 806 (by decide +kernel) rfl
theorem w_752 : ((Jvm.Cond.codeWith ({ cls := "FeeDocketLaw", name := "lapsing", desc := "(LFeeDocket;I[J)I" } : Jvm.MethodName) method_21_code (4 : Nat) (Option.some Jvm.ClassFile.FieldType.int) [((0 : Nat), (9 : Nat), (12 : Nat), (13 : Nat))]) : Cond) ∈ lw_all := lw_mk 807 (by decide +kernel) rfl
theorem w_753 : ((Jvm.Cond.methodLink "FeeDocketLaw" (76 : Nat) ({ cls := "FeeDocket", name := "lapsing", desc := "(I)I" } : Jvm.MethodName)) : Cond) ∈ lw_all := lw_mk 808 (by decide +kernel) rfl
theorem w_754 : ((Jvm.Cond.instanceMethod ({ cls := "FeeDocket", name := "lapsing", desc := "(I)I" } : Jvm.MethodName)) : Cond) ∈ lw_all := lw_mk 809 (by decide +kernel) rfl
theorem w_755 : ((Jvm.Cond.selects "FeeDocket" ({ cls := "FeeDocket", name := "lapsing", desc := "(I)I" } : Jvm.MethodName) ({ cls := "FeeDocket", name := "lapsing", desc := "(I)I" } : Jvm.MethodName)) : Cond) ∈ lw_all := lw_mk 810 (by decide +kernel) rfl
theorem w_756 : ((Jvm.Cond.code ({ cls := "FeeDocket", name := "lapsing", desc := "(I)I" } : Jvm.MethodName) prog_1_method_22_code (2 : Nat) (Option.some Jvm.ClassFile.FieldType.int)) : Cond) ∈ lw_all := lw_mk 811 (by decide +kernel) rfl
theorem w_757 : ((Jvm.Cond.methodLink "FeeDocketLaw" (170 : Nat) ({ cls := "FeeDocketLaw", name := "share", desc := "(LFeeDocket;I[D)I" } : Jvm.MethodName)) : Cond) ∈ lw_all := lw_mk 812 (by decide +kernel) rfl
theorem w_758 : ((Jvm.Cond.static ({ cls := "FeeDocketLaw", name := "share", desc := "(LFeeDocket;I[D)I" } : Jvm.MethodName)) : Cond) ∈ lw_all := lw_mk 813 (by decide +kernel) rfl
theorem w_759 : ((Jvm.Cond.codeWith ({ cls := "FeeDocketLaw", name := "share", desc := "(LFeeDocket;I[D)I" } : Jvm.MethodName) method_22_code (4 : Nat) (Option.some Jvm.ClassFile.FieldType.int) [((0 : Nat), (8 : Nat), (11 : Nat), (41 : Nat))]) : Cond) ∈ lw_all := lw_mk 814 (by decide +kernel) rfl
theorem w_760 : ((Jvm.Cond.methodLink "FeeDocketLaw" (79 : Nat) ({ cls := "FeeDocket", name := "share", desc := "(I)D" } : Jvm.MethodName)) : Cond) ∈ lw_all := lw_mk 815 (by decide +kernel) rfl
theorem w_761 : ((Jvm.Cond.instanceMethod ({ cls := "FeeDocket", name := "share", desc := "(I)D" } : Jvm.MethodName)) : Cond) ∈ lw_all := lw_mk 816 (by decide +kernel) rfl
theorem w_762 : ((Jvm.Cond.selects "FeeDocket" ({ cls := "FeeDocket", name := "share", desc := "(I)D" } : Jvm.MethodName) ({ cls := "FeeDocket", name := "share", desc := "(I)D" } : Jvm.MethodName)) : Cond) ∈ lw_all := lw_mk 817 (by decide +kernel) rfl
theorem w_763 : ((Jvm.Cond.code ({ cls := "FeeDocket", name := "share", desc := "(I)D" } : Jvm.MethodName) prog_1_method_23_code (4 : Nat) (Option.some Jvm.ClassFile.FieldType.double)) : Cond) ∈ lw_all := lw_mk 818 (by decide +kernel) rfl
theorem w_764 : ((Jvm.Cond.methodLink "FeeDocket" (172 : Nat) ({ cls := "FeeDocket$Right", name := "daysLived", desc := "(I)I" } : Jvm.MethodName)) : Cond) ∈ lw_all := lw_mk 819 (by decide +kernel) rfl
theorem w_765 : ((Jvm.Cond.instanceMethod ({ cls := "FeeDocket$Right", name := "daysLived", desc := "(I)I" } : Jvm.MethodName)) : Cond) ∈ lw_all := lw_mk 820 (by decide +kernel) rfl
theorem w_766 : ((Jvm.Cond.selects "FeeDocket$Right" ({ cls := "FeeDocket$Right", name := "daysLived", desc := "(I)I" } : Jvm.MethodName) ({ cls := "FeeDocket$Right", name := "daysLived", desc := "(I)I" } : Jvm.MethodName)) : Cond) ∈ lw_all := lw_mk 821 (by decide +kernel) rfl
theorem w_767 : ((Jvm.Cond.code ({ cls := "FeeDocket$Right", name := "daysLived", desc := "(I)I" } : Jvm.MethodName) prog_5_method_15_code (2 : Nat) (Option.some Jvm.ClassFile.FieldType.int)) : Cond) ∈ lw_all := lw_mk 822 (by decide +kernel) rfl
theorem w_768 : ((Jvm.Cond.methodLink "FeeDocket$Right" (94 : Nat) ({ cls := "java/lang/Math", name := "min", desc := "(II)I" } : Jvm.MethodName)) : Cond) ∈ lw_all := lw_mk 823 (by decide +kernel) rfl
theorem w_769 : ((Jvm.Cond.methodLink "FeeDocket" (175 : Nat) ({ cls := "FeeDocket$Right", name := "daysStood", desc := "(I)I" } : Jvm.MethodName)) : Cond) ∈ lw_all := lw_mk 824 (by decide +kernel) rfl
theorem w_770 : ((Jvm.Cond.instanceMethod ({ cls := "FeeDocket$Right", name := "daysStood", desc := "(I)I" } : Jvm.MethodName)) : Cond) ∈ lw_all := lw_mk 825 (by decide +kernel) rfl
theorem w_771 : ((Jvm.Cond.selects "FeeDocket$Right" ({ cls := "FeeDocket$Right", name := "daysStood", desc := "(I)I" } : Jvm.MethodName) ({ cls := "FeeDocket$Right", name := "daysStood", desc := "(I)I" } : Jvm.MethodName)) : Cond) ∈ lw_all := lw_mk 826 (by decide +kernel) rfl
theorem w_772 : ((Jvm.Cond.code ({ cls := "FeeDocket$Right", name := "daysStood", desc := "(I)I" } : Jvm.MethodName) prog_5_method_16_code (5 : Nat) (Option.some Jvm.ClassFile.FieldType.int)) : Cond) ∈ lw_all := lw_mk 827 (by decide +kernel) rfl
theorem w_773 : ((Jvm.Cond.methodLink "FeeDocket$Right" (99 : Nat) ({ cls := "java/lang/Math", name := "max", desc := "(II)I" } : Jvm.MethodName)) : Cond) ∈ lw_all := lw_mk 828 (by decide +kernel) rfl
theorem w_774 : ((Jvm.Cond.methodLink "FeeDocketLaw" (174 : Nat) ({ cls := "FeeDocketLaw", name := "append", desc := "(LFeeDocket;I[J)I" } : Jvm.MethodName)) : Cond) ∈ lw_all := lw_mk 829 (by decide +kernel) rfl
theorem w_775 : ((Jvm.Cond.static ({ cls := "FeeDocketLaw", name := "append", desc := "(LFeeDocket;I[J)I" } : Jvm.MethodName)) : Cond) ∈ lw_all := lw_mk 830 (by decide +kernel) rfl
theorem w_776 : ((Jvm.Cond.codeWith ({ cls := "FeeDocketLaw", name := "append", desc := "(LFeeDocket;I[J)I" } : Jvm.MethodName) method_23_code (4 : Nat) (Option.some Jvm.ClassFile.FieldType.int) [((0 : Nat), (9 : Nat), (12 : Nat), (13 : Nat)), ((0 : Nat), (9 : Nat), (15 : Nat), (29 : Nat))]) : Cond) ∈ lw_all := lw_mk 831 (by decide +kernel) rfl
theorem w_777 : ((Jvm.Cond.methodLink "FeeDocketLaw" (83 : Nat) ({ cls := "FeeDocket", name := "append", desc := "(I)I" } : Jvm.MethodName)) : Cond) ∈ lw_all := lw_mk 832 (by decide +kernel) rfl
theorem w_778 : ((Jvm.Cond.instanceMethod ({ cls := "FeeDocket", name := "append", desc := "(I)I" } : Jvm.MethodName)) : Cond) ∈ lw_all := lw_mk 833 (by decide +kernel) rfl
theorem w_779 : ((Jvm.Cond.selects "FeeDocket" ({ cls := "FeeDocket", name := "append", desc := "(I)I" } : Jvm.MethodName) ({ cls := "FeeDocket", name := "append", desc := "(I)I" } : Jvm.MethodName)) : Cond) ∈ lw_all := lw_mk 834 (by decide +kernel) rfl
theorem w_780 : ((Jvm.Cond.code ({ cls := "FeeDocket", name := "append", desc := "(I)I" } : Jvm.MethodName) prog_1_method_24_code (2 : Nat) (Option.some Jvm.ClassFile.FieldType.int)) : Cond) ∈ lw_all := lw_mk 835 (by decide +kernel) rfl
theorem w_781 : ((Jvm.Cond.methodLink "FeeDocket" (181 : Nat) ({ cls := "FeeDocket$Text", name := "add", desc := "(I)V" } : Jvm.MethodName)) : Cond) ∈ lw_all := lw_mk 836 (by decide +kernel) rfl
theorem w_782 : ((Jvm.Cond.instanceMethod ({ cls := "FeeDocket$Text", name := "add", desc := "(I)V" } : Jvm.MethodName)) : Cond) ∈ lw_all := lw_mk 837 (by decide +kernel) rfl
theorem w_783 : ((Jvm.Cond.selects "FeeDocket$Text" ({ cls := "FeeDocket$Text", name := "add", desc := "(I)V" } : Jvm.MethodName) ({ cls := "FeeDocket$Text", name := "add", desc := "(I)V" } : Jvm.MethodName)) : Cond) ∈ lw_all := lw_mk 838 (by decide +kernel) rfl
theorem w_784 : ((Jvm.Cond.code ({ cls := "FeeDocket$Text", name := "add", desc := "(I)V" } : Jvm.MethodName) prog_7_method_2_code (2 : Nat) (Option.none : Option Jvm.ClassFile.FieldType)) : Cond) ∈ lw_all := lw_mk 839 (by decide +kernel) rfl
theorem w_785 : ((Jvm.Cond.methodLink "FeeDocketLaw" (185 : Nat) ({ cls := "FeeDocketLaw", name := "undo", desc := "(LFeeDocket;[J)I" } : Jvm.MethodName)) : Cond) ∈ lw_all := lw_mk 840 (by decide +kernel) rfl
theorem w_786 : ((Jvm.Cond.static ({ cls := "FeeDocketLaw", name := "undo", desc := "(LFeeDocket;[J)I" } : Jvm.MethodName)) : Cond) ∈ lw_all := lw_mk 841 (by decide +kernel) rfl
theorem w_787 : ((Jvm.Cond.codeWith ({ cls := "FeeDocketLaw", name := "undo", desc := "(LFeeDocket;[J)I" } : Jvm.MethodName) method_24_code (3 : Nat) (Option.some Jvm.ClassFile.FieldType.int) [((0 : Nat), (8 : Nat), (11 : Nat), (29 : Nat))]) : Cond) ∈ lw_all := lw_mk 842 (by decide +kernel) rfl
theorem w_788 : ((Jvm.Cond.methodLink "FeeDocketLaw" (86 : Nat) ({ cls := "FeeDocket", name := "undo", desc := "()I" } : Jvm.MethodName)) : Cond) ∈ lw_all := lw_mk 843 (by decide +kernel) rfl
theorem w_789 : ((Jvm.Cond.instanceMethod ({ cls := "FeeDocket", name := "undo", desc := "()I" } : Jvm.MethodName)) : Cond) ∈ lw_all := lw_mk 844 (by decide +kernel) rfl
theorem w_790 : ((Jvm.Cond.selects "FeeDocket" ({ cls := "FeeDocket", name := "undo", desc := "()I" } : Jvm.MethodName) ({ cls := "FeeDocket", name := "undo", desc := "()I" } : Jvm.MethodName)) : Cond) ∈ lw_all := lw_mk 845 (by decide +kernel) rfl
theorem w_791 : ((Jvm.Cond.code ({ cls := "FeeDocket", name := "undo", desc := "()I" } : Jvm.MethodName) prog_1_method_27_code (1 : Nat) (Option.some Jvm.ClassFile.FieldType.int)) : Cond) ∈ lw_all := lw_mk 846 (by decide +kernel) rfl
theorem w_792 : ((Jvm.Cond.classLink "FeeDocketLaw" (91 : Nat) "FeeDocketModel") : Cond) ∈ lw_all := lw_mk 847 (by decide +kernel) rfl
theorem w_793 : ((Jvm.Cond.instantiable "FeeDocketModel" (14 : Nat)) : Cond) ∈ lw_all := lw_mk 848 (by decide +kernel) rfl
theorem w_794 : ((Jvm.Cond.methodLink "FeeDocketLaw" (93 : Nat) ({ cls := "FeeDocketModel", name := "<init>", desc := "()V" } : Jvm.MethodName)) : Cond) ∈ lw_all := lw_mk 849 (by decide +kernel) rfl
theorem w_795 : ((Jvm.Cond.instanceMethod ({ cls := "FeeDocketModel", name := "<init>", desc := "()V" } : Jvm.MethodName)) : Cond) ∈ lw_all := lw_mk 850 (by decide +kernel) rfl
theorem w_796 : ((Jvm.Cond.code ({ cls := "FeeDocketModel", name := "<init>", desc := "()V" } : Jvm.MethodName) prog_9_method_1_code (1 : Nat) (Option.none : Option Jvm.ClassFile.FieldType)) : Cond) ∈ lw_all := lw_mk 851 (by decide +kernel) rfl
theorem w_797 : ((Jvm.Cond.methodLink "FeeDocketModel" (1 : Nat) ({ cls := "java/lang/Object", name := "<init>", desc := "()V" } : Jvm.MethodName)) : Cond) ∈ lw_all := lw_mk 852 (by decide +kernel) rfl
theorem w_798 : ((Jvm.Cond.fieldLink "FeeDocketModel" (7 : Nat) "FeeDocketModel" "now" "[I") : Cond) ∈ lw_all := lw_mk 853 (by decide +kernel) rfl
theorem w_799 : ((Jvm.Cond.fieldLink "FeeDocketModel" (13 : Nat) "FeeDocketModel" "past" "[I") : Cond) ∈ lw_all := lw_mk 854 (by decide +kernel) rfl
theorem w_800 : ((Jvm.Cond.fieldLink "FeeDocketModel" (16 : Nat) "FeeDocketModel" "aside" "[I") : Cond) ∈ lw_all := lw_mk 855 (by decide +kernel) rfl
theorem w_801 : ((Jvm.Cond.fieldLink "FeeDocketModel" (32 : Nat) "FeeDocketModel" "saved" "I") : Cond) ∈ lw_all := lw_mk 856 (by decide +kernel) rfl
theorem w_802 : ((Jvm.Cond.fieldLink "FeeDocketModel" (28 : Nat) "FeeDocketModel" "refusal" "I") : Cond) ∈ lw_all := lw_mk 857 (by decide +kernel) rfl
theorem w_803 : ((Jvm.Cond.fieldLink "FeeDocketModel" (19 : Nat) "FeeDocketModel" "text" "[I") : Cond) ∈ lw_all := lw_mk 858 (by decide +kernel) rfl
theorem w_804 : ((Jvm.Cond.fieldLink "FeeDocketModel" (182 : Nat) "FeeDocketModel" "length" "I") : Cond) ∈ lw_all := lw_mk 859 (by decide +kernel) rfl
theorem w_805 : ((Jvm.Cond.fieldLink "FeeDocketModel" (22 : Nat) "FeeDocketModel" "from" "[I") : Cond) ∈ lw_all := lw_mk 860 (by decide +kernel) rfl
theorem w_806 : ((Jvm.Cond.fieldLink "FeeDocketModel" (25 : Nat) "FeeDocketModel" "till" "[I") : Cond) ∈ lw_all := lw_mk 861 (by decide +kernel) rfl
theorem w_807 : ((Jvm.Cond.fieldLink "FeeDocketModel" (148 : Nat) "FeeDocketModel" "lates" "I") : Cond) ∈ lw_all := lw_mk 862 (by decide +kernel) rfl
theorem w_808 : ((Jvm.Cond.fieldLink "FeeDocketModel" (151 : Nat) "FeeDocketModel" "open" "I") : Cond) ∈ lw_all := lw_mk 863 (by decide +kernel) rfl
theorem w_809 : ((Jvm.Cond.fieldLink "FeeDocketModel" (185 : Nat) "FeeDocketModel" "spot" "I") : Cond) ∈ lw_all := lw_mk 864 (by decide +kernel) rfl
theorem w_810 : ((Jvm.Cond.fieldLink "FeeDocketModel" (191 : Nat) "FeeDocketModel" "number" "I") : Cond) ∈ lw_all := lw_mk 865 (by decide +kernel) rfl
theorem w_811 : ((Jvm.Cond.fieldLink "FeeDocketModel" (209 : Nat) "FeeDocketModel" "hash" "J") : Cond) ∈ lw_all := lw_mk 866 (by decide +kernel) rfl
theorem w_812 : ((Jvm.Cond.laysFinal "FeeDocketModel" "FeeDocketModel" "now" "[I") : Cond) ∈ lw_all := lw_mk 867 (by decide +kernel) rfl
theorem w_813 : ((Jvm.Cond.soleField "FeeDocketModel" "now") : Cond) ∈ lw_all := lw_mk 868 (by decide +kernel) rfl
theorem w_814 : ((Jvm.Cond.laysFinal "FeeDocketModel" "FeeDocketModel" "past" "[I") : Cond) ∈ lw_all := lw_mk 869 (by decide +kernel) rfl
theorem w_815 : ((Jvm.Cond.soleField "FeeDocketModel" "past") : Cond) ∈ lw_all := lw_mk 870 (by decide +kernel) rfl
theorem w_816 : ((Jvm.Cond.laysFinal "FeeDocketModel" "FeeDocketModel" "aside" "[I") : Cond) ∈ lw_all := lw_mk 871 (by decide +kernel) rfl
theorem w_817 : ((Jvm.Cond.soleField "FeeDocketModel" "aside") : Cond) ∈ lw_all := lw_mk 872 (by decide +kernel) rfl
theorem w_818 : ((Jvm.Cond.lays "FeeDocketModel" "FeeDocketModel" "saved" "I") : Cond) ∈ lw_all := lw_mk 873 (by decide +kernel) rfl
theorem w_819 : ((Jvm.Cond.soleField "FeeDocketModel" "saved") : Cond) ∈ lw_all := lw_mk 874 (by decide +kernel) rfl
theorem w_820 : ((Jvm.Cond.lays "FeeDocketModel" "FeeDocketModel" "refusal" "I") : Cond) ∈ lw_all := lw_mk 875 (by decide +kernel) rfl
theorem w_821 : ((Jvm.Cond.soleField "FeeDocketModel" "refusal") : Cond) ∈ lw_all := lw_mk 876 (by decide +kernel) rfl
theorem w_822 : ((Jvm.Cond.laysFinal "FeeDocketModel" "FeeDocketModel" "text" "[I") : Cond) ∈ lw_all := lw_mk 877 (by decide +kernel) rfl
theorem w_823 : ((Jvm.Cond.soleField "FeeDocketModel" "text") : Cond) ∈ lw_all := lw_mk 878 (by decide +kernel) rfl
theorem w_824 : ((Jvm.Cond.lays "FeeDocketModel" "FeeDocketModel" "length" "I") : Cond) ∈ lw_all := lw_mk 879 (by decide +kernel) rfl
theorem w_825 : ((Jvm.Cond.soleField "FeeDocketModel" "length") : Cond) ∈ lw_all := lw_mk 880 (by decide +kernel) rfl
theorem w_826 : ((Jvm.Cond.laysFinal "FeeDocketModel" "FeeDocketModel" "from" "[I") : Cond) ∈ lw_all := lw_mk 881 (by decide +kernel) rfl
theorem w_827 : ((Jvm.Cond.soleField "FeeDocketModel" "from") : Cond) ∈ lw_all := lw_mk 882 (by decide +kernel) rfl
theorem w_828 : ((Jvm.Cond.laysFinal "FeeDocketModel" "FeeDocketModel" "till" "[I") : Cond) ∈ lw_all := lw_mk 883 (by decide +kernel) rfl
theorem w_829 : ((Jvm.Cond.soleField "FeeDocketModel" "till") : Cond) ∈ lw_all := lw_mk 884 (by decide +kernel) rfl
theorem w_830 : ((Jvm.Cond.lays "FeeDocketModel" "FeeDocketModel" "lates" "I") : Cond) ∈ lw_all := lw_mk 885 (by decide +kernel) rfl
theorem w_831 : ((Jvm.Cond.soleField "FeeDocketModel" "lates") : Cond) ∈ lw_all := lw_mk 886 (by decide +kernel) rfl
theorem w_832 : ((Jvm.Cond.lays "FeeDocketModel" "FeeDocketModel" "open" "I") : Cond) ∈ lw_all := lw_mk 887 (by decide +kernel) rfl
theorem w_833 : ((Jvm.Cond.soleField "FeeDocketModel" "open") : Cond) ∈ lw_all := lw_mk 888 (by decide +kernel) rfl
theorem w_834 : ((Jvm.Cond.lays "FeeDocketModel" "FeeDocketModel" "spot" "I") : Cond) ∈ lw_all := lw_mk 889 (by decide +kernel) rfl
theorem w_835 : ((Jvm.Cond.soleField "FeeDocketModel" "spot") : Cond) ∈ lw_all := lw_mk 890 (by decide +kernel) rfl
theorem w_836 : ((Jvm.Cond.lays "FeeDocketModel" "FeeDocketModel" "number" "I") : Cond) ∈ lw_all := lw_mk 891 (by decide +kernel) rfl
theorem w_837 : ((Jvm.Cond.soleField "FeeDocketModel" "number") : Cond) ∈ lw_all := lw_mk 892 (by decide +kernel) rfl
theorem w_838 : ((Jvm.Cond.lays "FeeDocketModel" "FeeDocketModel" "hash" "J") : Cond) ∈ lw_all := lw_mk 893 (by decide +kernel) rfl
theorem w_839 : ((Jvm.Cond.soleField "FeeDocketModel" "hash") : Cond) ∈ lw_all := lw_mk 894 (by decide +kernel) rfl
theorem w_840 : ((Jvm.Cond.superclass "FeeDocketModel" "java/lang/Object") : Cond) ∈ lw_all := lw_mk 895 (by decide +kernel) rfl
theorem w_841 : ((Jvm.Cond.methodLink "FeeDocketLaw" (100 : Nat) ({ cls := "FeeDocketModel", name := "thrown", desc := "()I" } : Jvm.MethodName)) : Cond) ∈ lw_all := lw_mk 896 (by decide +kernel) rfl
theorem w_842 : ((Jvm.Cond.instanceMethod ({ cls := "FeeDocketModel", name := "thrown", desc := "()I" } : Jvm.MethodName)) : Cond) ∈ lw_all := lw_mk 897 (by decide +kernel) rfl
theorem w_843 : ((Jvm.Cond.selects "FeeDocketModel" ({ cls := "FeeDocketModel", name := "thrown", desc := "()I" } : Jvm.MethodName) ({ cls := "FeeDocketModel", name := "thrown", desc := "()I" } : Jvm.MethodName)) : Cond) ∈ lw_all := lw_mk 898 (by decide +kernel) rfl
theorem w_844 : ((Jvm.Cond.code ({ cls := "FeeDocketModel", name := "thrown", desc := "()I" } : Jvm.MethodName) prog_9_method_2_code (1 : Nat) (Option.some Jvm.ClassFile.FieldType.int)) : Cond) ∈ lw_all := lw_mk 899 (by decide +kernel) rfl
theorem w_845 : ((Jvm.Cond.methodLink "FeeDocketLaw" (188 : Nat) ({ cls := "FeeDocketModel", name := "undo", desc := "()I" } : Jvm.MethodName)) : Cond) ∈ lw_all := lw_mk 900 (by decide +kernel) rfl
theorem w_846 : ((Jvm.Cond.instanceMethod ({ cls := "FeeDocketModel", name := "undo", desc := "()I" } : Jvm.MethodName)) : Cond) ∈ lw_all := lw_mk 901 (by decide +kernel) rfl
theorem w_847 : ((Jvm.Cond.selects "FeeDocketModel" ({ cls := "FeeDocketModel", name := "undo", desc := "()I" } : Jvm.MethodName) ({ cls := "FeeDocketModel", name := "undo", desc := "()I" } : Jvm.MethodName)) : Cond) ∈ lw_all := lw_mk 902 (by decide +kernel) rfl
theorem w_848 : ((Jvm.Cond.code ({ cls := "FeeDocketModel", name := "undo", desc := "()I" } : Jvm.MethodName) prog_9_method_6_code (2 : Nat) (Option.some Jvm.ClassFile.FieldType.int)) : Cond) ∈ lw_all := lw_mk 903 (by decide +kernel) rfl
theorem w_849 : ((Jvm.Cond.methodLink "FeeDocketModel" (35 : Nat) ({ cls := "FeeDocketModel", name := "refused", desc := "(I)Z" } : Jvm.MethodName)) : Cond) ∈ lw_all := lw_mk 904 (by decide +kernel) rfl
theorem w_851 : ((Jvm.Cond.instanceMethod ({ cls := "FeeDocketModel", name := "refused", desc := "(I)Z" } : Jvm.MethodName)) : Cond) ∈ lw_all := lw_mk 906 (by decide +kernel) rfl
theorem w_852 : ((Jvm.Cond.code ({ cls := "FeeDocketModel", name := "refused", desc := "(I)Z" } : Jvm.MethodName) prog_9_method_3_code (2 : Nat) (Option.some Jvm.ClassFile.FieldType.boolean)) : Cond) ∈ lw_all := lw_mk 907 (by decide +kernel) rfl
theorem w_853 : ((Jvm.Cond.methodLink "FeeDocketLaw" (99 : Nat) ({ cls := "FeeDocketModel", name := "date", desc := "(I)I" } : Jvm.MethodName)) : Cond) ∈ lw_all := lw_mk 908 (by decide +kernel) rfl
theorem w_854 : ((Jvm.Cond.instanceMethod ({ cls := "FeeDocketModel", name := "date", desc := "(I)I" } : Jvm.MethodName)) : Cond) ∈ lw_all := lw_mk 909 (by decide +kernel) rfl
theorem w_855 : ((Jvm.Cond.selects "FeeDocketModel" ({ cls := "FeeDocketModel", name := "date", desc := "(I)I" } : Jvm.MethodName) ({ cls := "FeeDocketModel", name := "date", desc := "(I)I" } : Jvm.MethodName)) : Cond) ∈ lw_all := lw_mk 910 (by decide +kernel) rfl
theorem w_856 : ((Jvm.Cond.code ({ cls := "FeeDocketModel", name := "date", desc := "(I)I" } : Jvm.MethodName) prog_9_method_16_code (2 : Nat) (Option.some Jvm.ClassFile.FieldType.int)) : Cond) ∈ lw_all := lw_mk 911 (by decide +kernel) rfl
theorem w_857 : ((Jvm.Cond.methodLink "FeeDocketModel" (60 : Nat) ({ cls := "FeeDocketModel", name := "lastOf", desc := "(I)I" } : Jvm.MethodName)) : Cond) ∈ lw_all := lw_mk 912 (by decide +kernel) rfl
theorem w_858 : ((Jvm.Cond.static ({ cls := "FeeDocketModel", name := "lastOf", desc := "(I)I" } : Jvm.MethodName)) : Cond) ∈ lw_all := lw_mk 913 (by decide +kernel) rfl
theorem w_859 : ((Jvm.Cond.code ({ cls := "FeeDocketModel", name := "lastOf", desc := "(I)I" } : Jvm.MethodName) prog_9_method_15_code (1 : Nat) (Option.some Jvm.ClassFile.FieldType.int)) : Cond) ∈ lw_all := lw_mk 914 (by decide +kernel) rfl
theorem w_860 : ((Jvm.Cond.methodLink "FeeDocketModel" (39 : Nat) ({ cls := "FeeDocketModel", name := "newYear", desc := "(I)I" } : Jvm.MethodName)) : Cond) ∈ lw_all := lw_mk 915 (by decide +kernel) rfl
theorem w_861 : ((Jvm.Cond.static ({ cls := "FeeDocketModel", name := "newYear", desc := "(I)I" } : Jvm.MethodName)) : Cond) ∈ lw_all := lw_mk 916 (by decide +kernel) rfl
theorem w_862 : ((Jvm.Cond.code ({ cls := "FeeDocketModel", name := "newYear", desc := "(I)I" } : Jvm.MethodName) prog_9_method_8_code (1 : Nat) (Option.some Jvm.ClassFile.FieldType.int)) : Cond) ∈ lw_all := lw_mk 917 (by decide +kernel) rfl
theorem w_863 : ((Jvm.Cond.methodLink "FeeDocketModel" (63 : Nat) ({ cls := "FeeDocketModel", name := "in", desc := "(III)Z" } : Jvm.MethodName)) : Cond) ∈ lw_all := lw_mk 918 (by decide +kernel) rfl
theorem w_864 : ((Jvm.Cond.static ({ cls := "FeeDocketModel", name := "in", desc := "(III)Z" } : Jvm.MethodName)) : Cond) ∈ lw_all := lw_mk 919 (by decide +kernel) rfl
theorem w_865 : ((Jvm.Cond.code ({ cls := "FeeDocketModel", name := "in", desc := "(III)Z" } : Jvm.MethodName) prog_9_method_4_code (3 : Nat) (Option.some Jvm.ClassFile.FieldType.boolean)) : Cond) ∈ lw_all := lw_mk 920 (by decide +kernel) rfl
theorem w_866 : ((Jvm.Cond.methodLink "FeeDocketModel" (50 : Nat) ({ cls := "FeeDocketModel", name := "dateOf", desc := "(I)I" } : Jvm.MethodName)) : Cond) ∈ lw_all := lw_mk 921 (by decide +kernel) rfl
theorem w_867 : ((Jvm.Cond.static ({ cls := "FeeDocketModel", name := "dateOf", desc := "(I)I" } : Jvm.MethodName)) : Cond) ∈ lw_all := lw_mk 922 (by decide +kernel) rfl
theorem w_868 : ((Jvm.Cond.code ({ cls := "FeeDocketModel", name := "dateOf", desc := "(I)I" } : Jvm.MethodName) prog_9_method_11_code (4 : Nat) (Option.some Jvm.ClassFile.FieldType.int)) : Cond) ∈ lw_all := lw_mk 923 (by decide +kernel) rfl
theorem w_869 : ((Jvm.Cond.methodLink "FeeDocketModel" (47 : Nat) ({ cls := "FeeDocketModel", name := "yearOf", desc := "(I)I" } : Jvm.MethodName)) : Cond) ∈ lw_all := lw_mk 924 (by decide +kernel) rfl
theorem w_870 : ((Jvm.Cond.static ({ cls := "FeeDocketModel", name := "yearOf", desc := "(I)I" } : Jvm.MethodName)) : Cond) ∈ lw_all := lw_mk 925 (by decide +kernel) rfl
theorem w_871 : ((Jvm.Cond.code ({ cls := "FeeDocketModel", name := "yearOf", desc := "(I)I" } : Jvm.MethodName) prog_9_method_10_code (2 : Nat) (Option.some Jvm.ClassFile.FieldType.int)) : Cond) ∈ lw_all := lw_mk 926 (by decide +kernel) rfl
theorem w_872 : ((Jvm.Cond.methodLink "FeeDocketModel" (43 : Nat) ({ cls := "FeeDocketModel", name := "monthDays", desc := "(II)I" } : Jvm.MethodName)) : Cond) ∈ lw_all := lw_mk 927 (by decide +kernel) rfl
theorem w_873 : ((Jvm.Cond.static ({ cls := "FeeDocketModel", name := "monthDays", desc := "(II)I" } : Jvm.MethodName)) : Cond) ∈ lw_all := lw_mk 928 (by decide +kernel) rfl
theorem w_874 : ((Jvm.Cond.code ({ cls := "FeeDocketModel", name := "monthDays", desc := "(II)I" } : Jvm.MethodName) prog_9_method_7_code (2 : Nat) (Option.some Jvm.ClassFile.FieldType.int)) : Cond) ∈ lw_all := lw_mk 929 (by decide +kernel) rfl
theorem w_875 : ((Jvm.Cond.methodLink "FeeDocketLaw" (106 : Nat) ({ cls := "FeeDocketModel", name := "day", desc := "(III)I" } : Jvm.MethodName)) : Cond) ∈ lw_all := lw_mk 930 (by decide +kernel) rfl
theorem w_876 : ((Jvm.Cond.instanceMethod ({ cls := "FeeDocketModel", name := "day", desc := "(III)I" } : Jvm.MethodName)) : Cond) ∈ lw_all := lw_mk 931 (by decide +kernel) rfl
theorem w_877 : ((Jvm.Cond.selects "FeeDocketModel" ({ cls := "FeeDocketModel", name := "day", desc := "(III)I" } : Jvm.MethodName) ({ cls := "FeeDocketModel", name := "day", desc := "(III)I" } : Jvm.MethodName)) : Cond) ∈ lw_all := lw_mk 932 (by decide +kernel) rfl
theorem w_878 : ((Jvm.Cond.code ({ cls := "FeeDocketModel", name := "day", desc := "(III)I" } : Jvm.MethodName) prog_9_method_17_code (5 : Nat) (Option.some Jvm.ClassFile.FieldType.int)) : Cond) ∈ lw_all := lw_mk 933 (by decide +kernel) rfl
theorem w_879 : ((Jvm.Cond.methodLink "FeeDocketModel" (53 : Nat) ({ cls := "FeeDocketModel", name := "dayOf", desc := "(III)I" } : Jvm.MethodName)) : Cond) ∈ lw_all := lw_mk 934 (by decide +kernel) rfl
theorem w_880 : ((Jvm.Cond.static ({ cls := "FeeDocketModel", name := "dayOf", desc := "(III)I" } : Jvm.MethodName)) : Cond) ∈ lw_all := lw_mk 935 (by decide +kernel) rfl
theorem w_881 : ((Jvm.Cond.code ({ cls := "FeeDocketModel", name := "dayOf", desc := "(III)I" } : Jvm.MethodName) prog_9_method_9_code (5 : Nat) (Option.some Jvm.ClassFile.FieldType.int)) : Cond) ∈ lw_all := lw_mk 936 (by decide +kernel) rfl
theorem w_882 : ((Jvm.Cond.methodLink "FeeDocketLaw" (110 : Nat) ({ cls := "FeeDocketModel", name := "later", desc := "(II)I" } : Jvm.MethodName)) : Cond) ∈ lw_all := lw_mk 937 (by decide +kernel) rfl
theorem w_883 : ((Jvm.Cond.instanceMethod ({ cls := "FeeDocketModel", name := "later", desc := "(II)I" } : Jvm.MethodName)) : Cond) ∈ lw_all := lw_mk 938 (by decide +kernel) rfl
theorem w_884 : ((Jvm.Cond.selects "FeeDocketModel" ({ cls := "FeeDocketModel", name := "later", desc := "(II)I" } : Jvm.MethodName) ({ cls := "FeeDocketModel", name := "later", desc := "(II)I" } : Jvm.MethodName)) : Cond) ∈ lw_all := lw_mk 939 (by decide +kernel) rfl
theorem w_885 : ((Jvm.Cond.code ({ cls := "FeeDocketModel", name := "later", desc := "(II)I" } : Jvm.MethodName) prog_9_method_18_code (3 : Nat) (Option.some Jvm.ClassFile.FieldType.int)) : Cond) ∈ lw_all := lw_mk 940 (by decide +kernel) rfl
theorem w_886 : ((Jvm.Cond.methodLink "FeeDocketModel" (67 : Nat) ({ cls := "FeeDocketModel", name := "behind", desc := "(II)I" } : Jvm.MethodName)) : Cond) ∈ lw_all := lw_mk 941 (by decide +kernel) rfl
theorem w_887 : ((Jvm.Cond.static ({ cls := "FeeDocketModel", name := "behind", desc := "(II)I" } : Jvm.MethodName)) : Cond) ∈ lw_all := lw_mk 942 (by decide +kernel) rfl
theorem w_888 : ((Jvm.Cond.code ({ cls := "FeeDocketModel", name := "behind", desc := "(II)I" } : Jvm.MethodName) prog_9_method_12_code (7 : Nat) (Option.some Jvm.ClassFile.FieldType.int)) : Cond) ∈ lw_all := lw_mk 943 (by decide +kernel) rfl
theorem w_889 : ((Jvm.Cond.methodLink "FeeDocketLaw" (113 : Nat) ({ cls := "FeeDocketModel", name := "putOff", desc := "(I)I" } : Jvm.MethodName)) : Cond) ∈ lw_all := lw_mk 944 (by decide +kernel) rfl
theorem w_890 : ((Jvm.Cond.instanceMethod ({ cls := "FeeDocketModel", name := "putOff", desc := "(I)I" } : Jvm.MethodName)) : Cond) ∈ lw_all := lw_mk 945 (by decide +kernel) rfl
theorem w_891 : ((Jvm.Cond.selects "FeeDocketModel" ({ cls := "FeeDocketModel", name := "putOff", desc := "(I)I" } : Jvm.MethodName) ({ cls := "FeeDocketModel", name := "putOff", desc := "(I)I" } : Jvm.MethodName)) : Cond) ∈ lw_all := lw_mk 946 (by decide +kernel) rfl
theorem w_892 : ((Jvm.Cond.code ({ cls := "FeeDocketModel", name := "putOff", desc := "(I)I" } : Jvm.MethodName) prog_9_method_19_code (2 : Nat) (Option.some Jvm.ClassFile.FieldType.int)) : Cond) ∈ lw_all := lw_mk 947 (by decide +kernel) rfl
theorem w_893 : ((Jvm.Cond.methodLink "FeeDocketModel" (70 : Nat) ({ cls := "FeeDocketModel", name := "worksFrom", desc := "(I)I" } : Jvm.MethodName)) : Cond) ∈ lw_all := lw_mk 948 (by decide +kernel) rfl
theorem w_895 : ((Jvm.Cond.instanceMethod ({ cls := "FeeDocketModel", name := "worksFrom", desc := "(I)I" } : Jvm.MethodName)) : Cond) ∈ lw_all := lw_mk 950 (by decide +kernel) rfl
theorem w_896 : ((Jvm.Cond.code ({ cls := "FeeDocketModel", name := "worksFrom", desc := "(I)I" } : Jvm.MethodName) prog_9_method_14_code (3 : Nat) (Option.some Jvm.ClassFile.FieldType.int)) : Cond) ∈ lw_all := lw_mk 951 (by decide +kernel) rfl
theorem w_897 : ((Jvm.Cond.methodLink "FeeDocketModel" (57 : Nat) ({ cls := "FeeDocketModel", name := "isHoliday", desc := "(I)Z" } : Jvm.MethodName)) : Cond) ∈ lw_all := lw_mk 952 (by decide +kernel) rfl
theorem w_899 : ((Jvm.Cond.instanceMethod ({ cls := "FeeDocketModel", name := "isHoliday", desc := "(I)Z" } : Jvm.MethodName)) : Cond) ∈ lw_all := lw_mk 954 (by decide +kernel) rfl
theorem w_900 : ((Jvm.Cond.code ({ cls := "FeeDocketModel", name := "isHoliday", desc := "(I)Z" } : Jvm.MethodName) prog_9_method_13_code (4 : Nat) (Option.some Jvm.ClassFile.FieldType.boolean)) : Cond) ∈ lw_all := lw_mk 955 (by decide +kernel) rfl
theorem w_901 : ((Jvm.Cond.methodLink "FeeDocketLaw" (116 : Nat) ({ cls := "FeeDocketModel", name := "holiday", desc := "(II)I" } : Jvm.MethodName)) : Cond) ∈ lw_all := lw_mk 956 (by decide +kernel) rfl
theorem w_902 : ((Jvm.Cond.instanceMethod ({ cls := "FeeDocketModel", name := "holiday", desc := "(II)I" } : Jvm.MethodName)) : Cond) ∈ lw_all := lw_mk 957 (by decide +kernel) rfl
theorem w_903 : ((Jvm.Cond.selects "FeeDocketModel" ({ cls := "FeeDocketModel", name := "holiday", desc := "(II)I" } : Jvm.MethodName) ({ cls := "FeeDocketModel", name := "holiday", desc := "(II)I" } : Jvm.MethodName)) : Cond) ∈ lw_all := lw_mk 958 (by decide +kernel) rfl
theorem w_904 : ((Jvm.Cond.code ({ cls := "FeeDocketModel", name := "holiday", desc := "(II)I" } : Jvm.MethodName) prog_9_method_21_code (6 : Nat) (Option.some Jvm.ClassFile.FieldType.int)) : Cond) ∈ lw_all := lw_mk 959 (by decide +kernel) rfl
theorem w_905 : ((Jvm.Cond.methodLink "FeeDocketModel" (73 : Nat) ({ cls := "FeeDocketModel", name := "saves", desc := "()V" } : Jvm.MethodName)) : Cond) ∈ lw_all := lw_mk 960 (by decide +kernel) rfl
theorem w_907 : ((Jvm.Cond.instanceMethod ({ cls := "FeeDocketModel", name := "saves", desc := "()V" } : Jvm.MethodName)) : Cond) ∈ lw_all := lw_mk 962 (by decide +kernel) rfl
theorem w_908 : ((Jvm.Cond.code ({ cls := "FeeDocketModel", name := "saves", desc := "()V" } : Jvm.MethodName) prog_9_method_5_code (2 : Nat) (Option.none : Option Jvm.ClassFile.FieldType)) : Cond) ∈ lw_all := lw_mk 963 (by decide +kernel) rfl
theorem w_909 : ((Jvm.Cond.methodLink "FeeDocketModel" (76 : Nat) ({ cls := "FeeDocketModel", name := "takesHoliday", desc := "(I)V" } : Jvm.MethodName)) : Cond) ∈ lw_all := lw_mk 964 (by decide +kernel) rfl
theorem w_911 : ((Jvm.Cond.instanceMethod ({ cls := "FeeDocketModel", name := "takesHoliday", desc := "(I)V" } : Jvm.MethodName)) : Cond) ∈ lw_all := lw_mk 966 (by decide +kernel) rfl
theorem w_912 : ((Jvm.Cond.code ({ cls := "FeeDocketModel", name := "takesHoliday", desc := "(I)V" } : Jvm.MethodName) prog_9_method_20_code (4 : Nat) (Option.none : Option Jvm.ClassFile.FieldType)) : Cond) ∈ lw_all := lw_mk 967 (by decide +kernel) rfl
theorem w_913 : ((Jvm.Cond.methodLink "FeeDocketLaw" (120 : Nat) ({ cls := "FeeDocketModel", name := "file", desc := "(Z)I" } : Jvm.MethodName)) : Cond) ∈ lw_all := lw_mk 968 (by decide +kernel) rfl
theorem w_914 : ((Jvm.Cond.instanceMethod ({ cls := "FeeDocketModel", name := "file", desc := "(Z)I" } : Jvm.MethodName)) : Cond) ∈ lw_all := lw_mk 969 (by decide +kernel) rfl
theorem w_915 : ((Jvm.Cond.selects "FeeDocketModel" ({ cls := "FeeDocketModel", name := "file", desc := "(Z)I" } : Jvm.MethodName) ({ cls := "FeeDocketModel", name := "file", desc := "(Z)I" } : Jvm.MethodName)) : Cond) ∈ lw_all := lw_mk 970 (by decide +kernel) rfl
theorem w_916 : ((Jvm.Cond.code ({ cls := "FeeDocketModel", name := "file", desc := "(Z)I" } : Jvm.MethodName) prog_9_method_26_code (2 : Nat) (Option.some Jvm.ClassFile.FieldType.int)) : Cond) ∈ lw_all := lw_mk 971 (by decide +kernel) rfl
theorem w_917 : ((Jvm.Cond.methodLink "FeeDocketModel" (83 : Nat) ({ cls := "FeeDocketModel", name := "comes", desc := "(IZ)I" } : Jvm.MethodName)) : Cond) ∈ lw_all := lw_mk 972 (by decide +kernel) rfl
theorem w_919 : ((Jvm.Cond.instanceMethod ({ cls := "FeeDocketModel", name := "comes", desc := "(IZ)I" } : Jvm.MethodName)) : Cond) ∈ lw_all := lw_mk 974 (by decide +kernel) rfl
theorem w_920 : ((Jvm.Cond.code ({ cls := "FeeDocketModel", name := "comes", desc := "(IZ)I" } : Jvm.MethodName) prog_9_method_25_code (5 : Nat) (Option.some Jvm.ClassFile.FieldType.int)) : Cond) ∈ lw_all := lw_mk 975 (by decide +kernel) rfl
theorem w_921 : ((Jvm.Cond.methodLink "FeeDocketModel" (80 : Nat) ({ cls := "FeeDocketModel", name := "at", desc := "(I)I" } : Jvm.MethodName)) : Cond) ∈ lw_all := lw_mk 976 (by decide +kernel) rfl
theorem w_922 : ((Jvm.Cond.static ({ cls := "FeeDocketModel", name := "at", desc := "(I)I" } : Jvm.MethodName)) : Cond) ∈ lw_all := lw_mk 977 (by decide +kernel) rfl
theorem w_923 : ((Jvm.Cond.code ({ cls := "FeeDocketModel", name := "at", desc := "(I)I" } : Jvm.MethodName) prog_9_method_22_code (1 : Nat) (Option.some Jvm.ClassFile.FieldType.int)) : Cond) ∈ lw_all := lw_mk 978 (by decide +kernel) rfl
theorem w_924 : ((Jvm.Cond.methodLink "FeeDocketLaw" (123 : Nat) ({ cls := "FeeDocketModel", name := "pass", desc := "(I)I" } : Jvm.MethodName)) : Cond) ∈ lw_all := lw_mk 979 (by decide +kernel) rfl
theorem w_925 : ((Jvm.Cond.instanceMethod ({ cls := "FeeDocketModel", name := "pass", desc := "(I)I" } : Jvm.MethodName)) : Cond) ∈ lw_all := lw_mk 980 (by decide +kernel) rfl
theorem w_926 : ((Jvm.Cond.selects "FeeDocketModel" ({ cls := "FeeDocketModel", name := "pass", desc := "(I)I" } : Jvm.MethodName) ({ cls := "FeeDocketModel", name := "pass", desc := "(I)I" } : Jvm.MethodName)) : Cond) ∈ lw_all := lw_mk 981 (by decide +kernel) rfl
theorem w_927 : ((Jvm.Cond.code ({ cls := "FeeDocketModel", name := "pass", desc := "(I)I" } : Jvm.MethodName) prog_9_method_34_code (3 : Nat) (Option.some Jvm.ClassFile.FieldType.int)) : Cond) ∈ lw_all := lw_mk 982 (by decide +kernel) rfl
theorem w_928 : ((Jvm.Cond.methodLink "FeeDocketModel" (102 : Nat) ({ cls := "FeeDocketModel", name := "lapsedOnes", desc := "()I" } : Jvm.MethodName)) : Cond) ∈ lw_all := lw_mk 983 (by decide +kernel) rfl
theorem w_930 : ((Jvm.Cond.instanceMethod ({ cls := "FeeDocketModel", name := "lapsedOnes", desc := "()I" } : Jvm.MethodName)) : Cond) ∈ lw_all := lw_mk 985 (by decide +kernel) rfl
theorem w_931 : ((Jvm.Cond.code ({ cls := "FeeDocketModel", name := "lapsedOnes", desc := "()I" } : Jvm.MethodName) prog_9_method_33_code (3 : Nat) (Option.some Jvm.ClassFile.FieldType.int)) : Cond) ∈ lw_all := lw_mk 986 (by decide +kernel) rfl
theorem w_932 : ((Jvm.Cond.methodLink "FeeDocketModel" (96 : Nat) ({ cls := "FeeDocketModel", name := "isLapsed", desc := "(I)Z" } : Jvm.MethodName)) : Cond) ∈ lw_all := lw_mk 987 (by decide +kernel) rfl
theorem w_934 : ((Jvm.Cond.instanceMethod ({ cls := "FeeDocketModel", name := "isLapsed", desc := "(I)Z" } : Jvm.MethodName)) : Cond) ∈ lw_all := lw_mk 989 (by decide +kernel) rfl
theorem w_935 : ((Jvm.Cond.code ({ cls := "FeeDocketModel", name := "isLapsed", desc := "(I)Z" } : Jvm.MethodName) prog_9_method_31_code (2 : Nat) (Option.some Jvm.ClassFile.FieldType.boolean)) : Cond) ∈ lw_all := lw_mk 990 (by decide +kernel) rfl
theorem w_936 : ((Jvm.Cond.methodLink "FeeDocketModel" (90 : Nat) ({ cls := "FeeDocketModel", name := "nextOf", desc := "(I)I" } : Jvm.MethodName)) : Cond) ∈ lw_all := lw_mk 991 (by decide +kernel) rfl
theorem w_938 : ((Jvm.Cond.instanceMethod ({ cls := "FeeDocketModel", name := "nextOf", desc := "(I)I" } : Jvm.MethodName)) : Cond) ∈ lw_all := lw_mk 993 (by decide +kernel) rfl
theorem w_939 : ((Jvm.Cond.code ({ cls := "FeeDocketModel", name := "nextOf", desc := "(I)I" } : Jvm.MethodName) prog_9_method_30_code (2 : Nat) (Option.some Jvm.ClassFile.FieldType.int)) : Cond) ∈ lw_all := lw_mk 994 (by decide +kernel) rfl
theorem w_940 : ((Jvm.Cond.methodLink "FeeDocketModel" (87 : Nat) ({ cls := "FeeDocketModel", name := "of", desc := "(II)I" } : Jvm.MethodName)) : Cond) ∈ lw_all := lw_mk 995 (by decide +kernel) rfl
theorem w_942 : ((Jvm.Cond.instanceMethod ({ cls := "FeeDocketModel", name := "of", desc := "(II)I" } : Jvm.MethodName)) : Cond) ∈ lw_all := lw_mk 997 (by decide +kernel) rfl
theorem w_943 : ((Jvm.Cond.code ({ cls := "FeeDocketModel", name := "of", desc := "(II)I" } : Jvm.MethodName) prog_9_method_23_code (3 : Nat) (Option.some Jvm.ClassFile.FieldType.int)) : Cond) ∈ lw_all := lw_mk 998 (by decide +kernel) rfl
theorem w_944 : ((Jvm.Cond.methodLink "FeeDocketModel" (93 : Nat) ({ cls := "FeeDocketModel", name := "graceOf", desc := "(II)I" } : Jvm.MethodName)) : Cond) ∈ lw_all := lw_mk 999 (by decide +kernel) rfl
theorem w_946 : ((Jvm.Cond.instanceMethod ({ cls := "FeeDocketModel", name := "graceOf", desc := "(II)I" } : Jvm.MethodName)) : Cond) ∈ lw_all := lw_mk 1001 (by decide +kernel) rfl
theorem w_947 : ((Jvm.Cond.code ({ cls := "FeeDocketModel", name := "graceOf", desc := "(II)I" } : Jvm.MethodName) prog_9_method_28_code (3 : Nat) (Option.some Jvm.ClassFile.FieldType.int)) : Cond) ∈ lw_all := lw_mk 1002 (by decide +kernel) rfl
theorem w_948 : ((Jvm.Cond.methodLink "FeeDocketLaw" (126 : Nat) ({ cls := "FeeDocketModel", name := "pay", desc := "(I)I" } : Jvm.MethodName)) : Cond) ∈ lw_all := lw_mk 1003 (by decide +kernel) rfl
theorem w_949 : ((Jvm.Cond.instanceMethod ({ cls := "FeeDocketModel", name := "pay", desc := "(I)I" } : Jvm.MethodName)) : Cond) ∈ lw_all := lw_mk 1004 (by decide +kernel) rfl
theorem w_950 : ((Jvm.Cond.selects "FeeDocketModel" ({ cls := "FeeDocketModel", name := "pay", desc := "(I)I" } : Jvm.MethodName) ({ cls := "FeeDocketModel", name := "pay", desc := "(I)I" } : Jvm.MethodName)) : Cond) ∈ lw_all := lw_mk 1005 (by decide +kernel) rfl
theorem w_951 : ((Jvm.Cond.code ({ cls := "FeeDocketModel", name := "pay", desc := "(I)I" } : Jvm.MethodName) prog_9_method_40_code (2 : Nat) (Option.some Jvm.ClassFile.FieldType.int)) : Cond) ∈ lw_all := lw_mk 1006 (by decide +kernel) rfl
theorem w_952 : ((Jvm.Cond.methodLink "FeeDocketModel" (115 : Nat) ({ cls := "FeeDocketModel", name := "isRight", desc := "(I)Z" } : Jvm.MethodName)) : Cond) ∈ lw_all := lw_mk 1007 (by decide +kernel) rfl
theorem w_954 : ((Jvm.Cond.instanceMethod ({ cls := "FeeDocketModel", name := "isRight", desc := "(I)Z" } : Jvm.MethodName)) : Cond) ∈ lw_all := lw_mk 1009 (by decide +kernel) rfl
theorem w_955 : ((Jvm.Cond.code ({ cls := "FeeDocketModel", name := "isRight", desc := "(I)Z" } : Jvm.MethodName) prog_9_method_24_code (2 : Nat) (Option.some Jvm.ClassFile.FieldType.boolean)) : Cond) ∈ lw_all := lw_mk 1010 (by decide +kernel) rfl
theorem w_956 : ((Jvm.Cond.methodLink "FeeDocketModel" (118 : Nat) ({ cls := "FeeDocketModel", name := "canPay", desc := "(I)Z" } : Jvm.MethodName)) : Cond) ∈ lw_all := lw_mk 1011 (by decide +kernel) rfl
theorem w_958 : ((Jvm.Cond.instanceMethod ({ cls := "FeeDocketModel", name := "canPay", desc := "(I)Z" } : Jvm.MethodName)) : Cond) ∈ lw_all := lw_mk 1013 (by decide +kernel) rfl
theorem w_959 : ((Jvm.Cond.code ({ cls := "FeeDocketModel", name := "canPay", desc := "(I)Z" } : Jvm.MethodName) prog_9_method_38_code (3 : Nat) (Option.some Jvm.ClassFile.FieldType.boolean)) : Cond) ∈ lw_all := lw_mk 1014 (by decide +kernel) rfl
theorem w_960 : ((Jvm.Cond.methodLink "FeeDocketModel" (112 : Nat) ({ cls := "FeeDocketModel", name := "dueOf", desc := "(II)I" } : Jvm.MethodName)) : Cond) ∈ lw_all := lw_mk 1015 (by decide +kernel) rfl
theorem w_962 : ((Jvm.Cond.instanceMethod ({ cls := "FeeDocketModel", name := "dueOf", desc := "(II)I" } : Jvm.MethodName)) : Cond) ∈ lw_all := lw_mk 1017 (by decide +kernel) rfl
theorem w_963 : ((Jvm.Cond.code ({ cls := "FeeDocketModel", name := "dueOf", desc := "(II)I" } : Jvm.MethodName) prog_9_method_27_code (3 : Nat) (Option.some Jvm.ClassFile.FieldType.int)) : Cond) ∈ lw_all := lw_mk 1018 (by decide +kernel) rfl
theorem w_964 : ((Jvm.Cond.methodLink "FeeDocketModel" (121 : Nat) ({ cls := "FeeDocketModel", name := "isLate", desc := "(I)Z" } : Jvm.MethodName)) : Cond) ∈ lw_all := lw_mk 1019 (by decide +kernel) rfl
theorem w_966 : ((Jvm.Cond.instanceMethod ({ cls := "FeeDocketModel", name := "isLate", desc := "(I)Z" } : Jvm.MethodName)) : Cond) ∈ lw_all := lw_mk 1021 (by decide +kernel) rfl
theorem w_967 : ((Jvm.Cond.code ({ cls := "FeeDocketModel", name := "isLate", desc := "(I)Z" } : Jvm.MethodName) prog_9_method_39_code (2 : Nat) (Option.some Jvm.ClassFile.FieldType.boolean)) : Cond) ∈ lw_all := lw_mk 1022 (by decide +kernel) rfl
theorem w_968 : ((Jvm.Cond.methodLink "FeeDocketModel" (124 : Nat) ({ cls := "FeeDocketModel", name := "paysNext", desc := "(IZ)I" } : Jvm.MethodName)) : Cond) ∈ lw_all := lw_mk 1023 (by decide +kernel) rfl
theorem w_970 : ((Jvm.Cond.instanceMethod ({ cls := "FeeDocketModel", name := "paysNext", desc := "(IZ)I" } : Jvm.MethodName)) : Cond) ∈ lw_all := lw_mk 1025 (by decide +kernel) rfl
theorem w_971 : ((Jvm.Cond.code ({ cls := "FeeDocketModel", name := "paysNext", desc := "(IZ)I" } : Jvm.MethodName) prog_9_method_37_code (6 : Nat) (Option.some Jvm.ClassFile.FieldType.int)) : Cond) ∈ lw_all := lw_mk 1026 (by decide +kernel) rfl
theorem w_972 : ((Jvm.Cond.methodLink "FeeDocketModel" (106 : Nat) ({ cls := "FeeDocketModel", name := "feeOf", desc := "(II)I" } : Jvm.MethodName)) : Cond) ∈ lw_all := lw_mk 1027 (by decide +kernel) rfl
theorem w_974 : ((Jvm.Cond.instanceMethod ({ cls := "FeeDocketModel", name := "feeOf", desc := "(II)I" } : Jvm.MethodName)) : Cond) ∈ lw_all := lw_mk 1029 (by decide +kernel) rfl
theorem w_975 : ((Jvm.Cond.code ({ cls := "FeeDocketModel", name := "feeOf", desc := "(II)I" } : Jvm.MethodName) prog_9_method_35_code (4 : Nat) (Option.some Jvm.ClassFile.FieldType.int)) : Cond) ∈ lw_all := lw_mk 1030 (by decide +kernel) rfl
theorem w_976 : ((Jvm.Cond.methodLink "FeeDocketModel" (109 : Nat) ({ cls := "FeeDocketModel", name := "surchargeOn", desc := "(I)I" } : Jvm.MethodName)) : Cond) ∈ lw_all := lw_mk 1031 (by decide +kernel) rfl
theorem w_978 : ((Jvm.Cond.instanceMethod ({ cls := "FeeDocketModel", name := "surchargeOn", desc := "(I)I" } : Jvm.MethodName)) : Cond) ∈ lw_all := lw_mk 1033 (by decide +kernel) rfl
theorem w_979 : ((Jvm.Cond.code ({ cls := "FeeDocketModel", name := "surchargeOn", desc := "(I)I" } : Jvm.MethodName) prog_9_method_36_code (2 : Nat) (Option.some Jvm.ClassFile.FieldType.int)) : Cond) ∈ lw_all := lw_mk 1034 (by decide +kernel) rfl
theorem w_980 : ((Jvm.Cond.methodLink "FeeDocketLaw" (130 : Nat) ({ cls := "FeeDocketModel", name := "payAll", desc := "()I" } : Jvm.MethodName)) : Cond) ∈ lw_all := lw_mk 1035 (by decide +kernel) rfl
theorem w_981 : ((Jvm.Cond.instanceMethod ({ cls := "FeeDocketModel", name := "payAll", desc := "()I" } : Jvm.MethodName)) : Cond) ∈ lw_all := lw_mk 1036 (by decide +kernel) rfl
theorem w_982 : ((Jvm.Cond.selects "FeeDocketModel" ({ cls := "FeeDocketModel", name := "payAll", desc := "()I" } : Jvm.MethodName) ({ cls := "FeeDocketModel", name := "payAll", desc := "()I" } : Jvm.MethodName)) : Cond) ∈ lw_all := lw_mk 1037 (by decide +kernel) rfl
theorem w_983 : ((Jvm.Cond.code ({ cls := "FeeDocketModel", name := "payAll", desc := "()I" } : Jvm.MethodName) prog_9_method_41_code (3 : Nat) (Option.some Jvm.ClassFile.FieldType.int)) : Cond) ∈ lw_all := lw_mk 1038 (by decide +kernel) rfl
theorem w_984 : ((Jvm.Cond.methodLink "FeeDocketLaw" (133 : Nat) ({ cls := "FeeDocketModel", name := "revive", desc := "(I)I" } : Jvm.MethodName)) : Cond) ∈ lw_all := lw_mk 1039 (by decide +kernel) rfl
theorem w_985 : ((Jvm.Cond.instanceMethod ({ cls := "FeeDocketModel", name := "revive", desc := "(I)I" } : Jvm.MethodName)) : Cond) ∈ lw_all := lw_mk 1040 (by decide +kernel) rfl
theorem w_986 : ((Jvm.Cond.selects "FeeDocketModel" ({ cls := "FeeDocketModel", name := "revive", desc := "(I)I" } : Jvm.MethodName) ({ cls := "FeeDocketModel", name := "revive", desc := "(I)I" } : Jvm.MethodName)) : Cond) ∈ lw_all := lw_mk 1041 (by decide +kernel) rfl
theorem w_987 : ((Jvm.Cond.code ({ cls := "FeeDocketModel", name := "revive", desc := "(I)I" } : Jvm.MethodName) prog_9_method_43_code (7 : Nat) (Option.some Jvm.ClassFile.FieldType.int)) : Cond) ∈ lw_all := lw_mk 1042 (by decide +kernel) rfl
theorem w_988 : ((Jvm.Cond.methodLink "FeeDocketModel" (127 : Nat) ({ cls := "FeeDocketModel", name := "canRevive", desc := "(I)Z" } : Jvm.MethodName)) : Cond) ∈ lw_all := lw_mk 1043 (by decide +kernel) rfl
theorem w_990 : ((Jvm.Cond.instanceMethod ({ cls := "FeeDocketModel", name := "canRevive", desc := "(I)Z" } : Jvm.MethodName)) : Cond) ∈ lw_all := lw_mk 1045 (by decide +kernel) rfl
theorem w_991 : ((Jvm.Cond.code ({ cls := "FeeDocketModel", name := "canRevive", desc := "(I)Z" } : Jvm.MethodName) prog_9_method_42_code (2 : Nat) (Option.some Jvm.ClassFile.FieldType.boolean)) : Cond) ∈ lw_all := lw_mk 1046 (by decide +kernel) rfl
theorem w_992 : ((Jvm.Cond.methodLink "FeeDocketModel" (99 : Nat) ({ cls := "FeeDocketModel", name := "endOf", desc := "(I)I" } : Jvm.MethodName)) : Cond) ∈ lw_all := lw_mk 1047 (by decide +kernel) rfl
theorem w_994 : ((Jvm.Cond.instanceMethod ({ cls := "FeeDocketModel", name := "endOf", desc := "(I)I" } : Jvm.MethodName)) : Cond) ∈ lw_all := lw_mk 1049 (by decide +kernel) rfl
theorem w_995 : ((Jvm.Cond.code ({ cls := "FeeDocketModel", name := "endOf", desc := "(I)I" } : Jvm.MethodName) prog_9_method_29_code (2 : Nat) (Option.some Jvm.ClassFile.FieldType.int)) : Cond) ∈ lw_all := lw_mk 1050 (by decide +kernel) rfl
theorem w_996 : ((Jvm.Cond.methodLink "FeeDocketLaw" (136 : Nat) ({ cls := "FeeDocketModel", name := "use", desc := "(II)I" } : Jvm.MethodName)) : Cond) ∈ lw_all := lw_mk 1051 (by decide +kernel) rfl
theorem w_997 : ((Jvm.Cond.instanceMethod ({ cls := "FeeDocketModel", name := "use", desc := "(II)I" } : Jvm.MethodName)) : Cond) ∈ lw_all := lw_mk 1052 (by decide +kernel) rfl
theorem w_998 : ((Jvm.Cond.selects "FeeDocketModel" ({ cls := "FeeDocketModel", name := "use", desc := "(II)I" } : Jvm.MethodName) ({ cls := "FeeDocketModel", name := "use", desc := "(II)I" } : Jvm.MethodName)) : Cond) ∈ lw_all := lw_mk 1053 (by decide +kernel) rfl
theorem w_999 : ((Jvm.Cond.code ({ cls := "FeeDocketModel", name := "use", desc := "(II)I" } : Jvm.MethodName) prog_9_method_46_code (3 : Nat) (Option.some Jvm.ClassFile.FieldType.int)) : Cond) ∈ lw_all := lw_mk 1054 (by decide +kernel) rfl
theorem w_1000 : ((Jvm.Cond.methodLink "FeeDocketModel" (130 : Nat) ({ cls := "FeeDocketModel", name := "isUser", desc := "(I)Z" } : Jvm.MethodName)) : Cond) ∈ lw_all := lw_mk 1055 (by decide +kernel) rfl
theorem w_1001 : ((Jvm.Cond.static ({ cls := "FeeDocketModel", name := "isUser", desc := "(I)Z" } : Jvm.MethodName)) : Cond) ∈ lw_all := lw_mk 1056 (by decide +kernel) rfl
theorem w_1002 : ((Jvm.Cond.code ({ cls := "FeeDocketModel", name := "isUser", desc := "(I)Z" } : Jvm.MethodName) prog_9_method_45_code (1 : Nat) (Option.some Jvm.ClassFile.FieldType.boolean)) : Cond) ∈ lw_all := lw_mk 1057 (by decide +kernel) rfl
theorem w_1003 : ((Jvm.Cond.methodLink "FeeDocketModel" (133 : Nat) ({ cls := "FeeDocketModel", name := "stands", desc := "(I)Z" } : Jvm.MethodName)) : Cond) ∈ lw_all := lw_mk 1058 (by decide +kernel) rfl
theorem w_1005 : ((Jvm.Cond.instanceMethod ({ cls := "FeeDocketModel", name := "stands", desc := "(I)Z" } : Jvm.MethodName)) : Cond) ∈ lw_all := lw_mk 1060 (by decide +kernel) rfl
theorem w_1006 : ((Jvm.Cond.code ({ cls := "FeeDocketModel", name := "stands", desc := "(I)Z" } : Jvm.MethodName) prog_9_method_32_code (2 : Nat) (Option.some Jvm.ClassFile.FieldType.boolean)) : Cond) ∈ lw_all := lw_mk 1061 (by decide +kernel) rfl
theorem w_1007 : ((Jvm.Cond.methodLink "FeeDocketModel" (136 : Nat) ({ cls := "FeeDocketModel", name := "usersOf", desc := "(I)I" } : Jvm.MethodName)) : Cond) ∈ lw_all := lw_mk 1062 (by decide +kernel) rfl
theorem w_1009 : ((Jvm.Cond.instanceMethod ({ cls := "FeeDocketModel", name := "usersOf", desc := "(I)I" } : Jvm.MethodName)) : Cond) ∈ lw_all := lw_mk 1064 (by decide +kernel) rfl
theorem w_1010 : ((Jvm.Cond.code ({ cls := "FeeDocketModel", name := "usersOf", desc := "(I)I" } : Jvm.MethodName) prog_9_method_44_code (4 : Nat) (Option.some Jvm.ClassFile.FieldType.int)) : Cond) ∈ lw_all := lw_mk 1065 (by decide +kernel) rfl
theorem w_1011 : ((Jvm.Cond.methodLink "FeeDocketLaw" (140 : Nat) ({ cls := "FeeDocketModel", name := "setFees", desc := "(IIII)I" } : Jvm.MethodName)) : Cond) ∈ lw_all := lw_mk 1066 (by decide +kernel) rfl
theorem w_1012 : ((Jvm.Cond.instanceMethod ({ cls := "FeeDocketModel", name := "setFees", desc := "(IIII)I" } : Jvm.MethodName)) : Cond) ∈ lw_all := lw_mk 1067 (by decide +kernel) rfl
theorem w_1013 : ((Jvm.Cond.selects "FeeDocketModel" ({ cls := "FeeDocketModel", name := "setFees", desc := "(IIII)I" } : Jvm.MethodName) ({ cls := "FeeDocketModel", name := "setFees", desc := "(IIII)I" } : Jvm.MethodName)) : Cond) ∈ lw_all := lw_mk 1068 (by decide +kernel) rfl
theorem w_1014 : ((Jvm.Cond.code ({ cls := "FeeDocketModel", name := "setFees", desc := "(IIII)I" } : Jvm.MethodName) prog_9_method_47_code (6 : Nat) (Option.some Jvm.ClassFile.FieldType.int)) : Cond) ∈ lw_all := lw_mk 1069 (by decide +kernel) rfl
theorem w_1015 : ((Jvm.Cond.methodLink "FeeDocketLaw" (143 : Nat) ({ cls := "FeeDocketModel", name := "right", desc := "(II)I" } : Jvm.MethodName)) : Cond) ∈ lw_all := lw_mk 1070 (by decide +kernel) rfl
theorem w_1016 : ((Jvm.Cond.instanceMethod ({ cls := "FeeDocketModel", name := "right", desc := "(II)I" } : Jvm.MethodName)) : Cond) ∈ lw_all := lw_mk 1071 (by decide +kernel) rfl
theorem w_1017 : ((Jvm.Cond.selects "FeeDocketModel" ({ cls := "FeeDocketModel", name := "right", desc := "(II)I" } : Jvm.MethodName) ({ cls := "FeeDocketModel", name := "right", desc := "(II)I" } : Jvm.MethodName)) : Cond) ∈ lw_all := lw_mk 1072 (by decide +kernel) rfl
theorem w_1018 : ((Jvm.Cond.code ({ cls := "FeeDocketModel", name := "right", desc := "(II)I" } : Jvm.MethodName) prog_9_method_51_code (3 : Nat) (Option.some Jvm.ClassFile.FieldType.int)) : Cond) ∈ lw_all := lw_mk 1073 (by decide +kernel) rfl
theorem w_1019 : ((Jvm.Cond.methodLink "FeeDocketModel" (145 : Nat) ({ cls := "FeeDocketModel", name := "tellRight", desc := "(II)I" } : Jvm.MethodName)) : Cond) ∈ lw_all := lw_mk 1074 (by decide +kernel) rfl
theorem w_1021 : ((Jvm.Cond.instanceMethod ({ cls := "FeeDocketModel", name := "tellRight", desc := "(II)I" } : Jvm.MethodName)) : Cond) ∈ lw_all := lw_mk 1076 (by decide +kernel) rfl
theorem w_1022 : ((Jvm.Cond.code ({ cls := "FeeDocketModel", name := "tellRight", desc := "(II)I" } : Jvm.MethodName) prog_9_method_50_code (4 : Nat) (Option.some Jvm.ClassFile.FieldType.int)) : Cond) ∈ lw_all := lw_mk 1077 (by decide +kernel) rfl
theorem w_1023 : ((Jvm.Cond.methodLink "FeeDocketModel" (139 : Nat) ({ cls := "FeeDocketModel", name := "costNow", desc := "(I)I" } : Jvm.MethodName)) : Cond) ∈ lw_all := lw_mk 1078 (by decide +kernel) rfl
theorem w_1025 : ((Jvm.Cond.instanceMethod ({ cls := "FeeDocketModel", name := "costNow", desc := "(I)I" } : Jvm.MethodName)) : Cond) ∈ lw_all := lw_mk 1080 (by decide +kernel) rfl
theorem w_1026 : ((Jvm.Cond.code ({ cls := "FeeDocketModel", name := "costNow", desc := "(I)I" } : Jvm.MethodName) prog_9_method_49_code (3 : Nat) (Option.some Jvm.ClassFile.FieldType.int)) : Cond) ∈ lw_all := lw_mk 1081 (by decide +kernel) rfl
theorem w_1027 : ((Jvm.Cond.methodLink "FeeDocketModel" (142 : Nat) ({ cls := "FeeDocketModel", name := "bits", desc := "(I)I" } : Jvm.MethodName)) : Cond) ∈ lw_all := lw_mk 1082 (by decide +kernel) rfl
theorem w_1028 : ((Jvm.Cond.static ({ cls := "FeeDocketModel", name := "bits", desc := "(I)I" } : Jvm.MethodName)) : Cond) ∈ lw_all := lw_mk 1083 (by decide +kernel) rfl
theorem w_1029 : ((Jvm.Cond.code ({ cls := "FeeDocketModel", name := "bits", desc := "(I)I" } : Jvm.MethodName) prog_9_method_48_code (3 : Nat) (Option.some Jvm.ClassFile.FieldType.int)) : Cond) ∈ lw_all := lw_mk 1084 (by decide +kernel) rfl
theorem w_1030 : ((Jvm.Cond.methodLink "FeeDocketLaw" (147 : Nat) ({ cls := "FeeDocketModel", name := "due", desc := "(IIZ)I" } : Jvm.MethodName)) : Cond) ∈ lw_all := lw_mk 1085 (by decide +kernel) rfl
theorem w_1031 : ((Jvm.Cond.instanceMethod ({ cls := "FeeDocketModel", name := "due", desc := "(IIZ)I" } : Jvm.MethodName)) : Cond) ∈ lw_all := lw_mk 1086 (by decide +kernel) rfl
theorem w_1032 : ((Jvm.Cond.selects "FeeDocketModel" ({ cls := "FeeDocketModel", name := "due", desc := "(IIZ)I" } : Jvm.MethodName) ({ cls := "FeeDocketModel", name := "due", desc := "(IIZ)I" } : Jvm.MethodName)) : Cond) ∈ lw_all := lw_mk 1087 (by decide +kernel) rfl
theorem w_1033 : ((Jvm.Cond.code ({ cls := "FeeDocketModel", name := "due", desc := "(IIZ)I" } : Jvm.MethodName) prog_9_method_52_code (4 : Nat) (Option.some Jvm.ClassFile.FieldType.int)) : Cond) ∈ lw_all := lw_mk 1088 (by decide +kernel) rfl
theorem w_1034 : ((Jvm.Cond.methodLink "FeeDocketLaw" (150 : Nat) ({ cls := "FeeDocketModel", name := "stood", desc := "(II)Z" } : Jvm.MethodName)) : Cond) ∈ lw_all := lw_mk 1089 (by decide +kernel) rfl
theorem w_1035 : ((Jvm.Cond.instanceMethod ({ cls := "FeeDocketModel", name := "stood", desc := "(II)Z" } : Jvm.MethodName)) : Cond) ∈ lw_all := lw_mk 1090 (by decide +kernel) rfl
theorem w_1036 : ((Jvm.Cond.selects "FeeDocketModel" ({ cls := "FeeDocketModel", name := "stood", desc := "(II)Z" } : Jvm.MethodName) ({ cls := "FeeDocketModel", name := "stood", desc := "(II)Z" } : Jvm.MethodName)) : Cond) ∈ lw_all := lw_mk 1091 (by decide +kernel) rfl
theorem w_1037 : ((Jvm.Cond.code ({ cls := "FeeDocketModel", name := "stood", desc := "(II)Z" } : Jvm.MethodName) prog_9_method_56_code (3 : Nat) (Option.some Jvm.ClassFile.FieldType.boolean)) : Cond) ∈ lw_all := lw_mk 1092 (by decide +kernel) rfl
theorem w_1038 : ((Jvm.Cond.methodLink "FeeDocketModel" (160 : Nat) ({ cls := "FeeDocketModel", name := "stoodOn", desc := "(II)Z" } : Jvm.MethodName)) : Cond) ∈ lw_all := lw_mk 1093 (by decide +kernel) rfl
theorem w_1040 : ((Jvm.Cond.instanceMethod ({ cls := "FeeDocketModel", name := "stoodOn", desc := "(II)Z" } : Jvm.MethodName)) : Cond) ∈ lw_all := lw_mk 1095 (by decide +kernel) rfl
theorem w_1041 : ((Jvm.Cond.code ({ cls := "FeeDocketModel", name := "stoodOn", desc := "(II)Z" } : Jvm.MethodName) prog_9_method_55_code (3 : Nat) (Option.some Jvm.ClassFile.FieldType.boolean)) : Cond) ∈ lw_all := lw_mk 1096 (by decide +kernel) rfl
theorem w_1042 : ((Jvm.Cond.methodLink "FeeDocketModel" (154 : Nat) ({ cls := "FeeDocketModel", name := "laysGaps", desc := "(I)V" } : Jvm.MethodName)) : Cond) ∈ lw_all := lw_mk 1097 (by decide +kernel) rfl
theorem w_1044 : ((Jvm.Cond.instanceMethod ({ cls := "FeeDocketModel", name := "laysGaps", desc := "(I)V" } : Jvm.MethodName)) : Cond) ∈ lw_all := lw_mk 1099 (by decide +kernel) rfl
theorem w_1045 : ((Jvm.Cond.code ({ cls := "FeeDocketModel", name := "laysGaps", desc := "(I)V" } : Jvm.MethodName) prog_9_method_53_code (4 : Nat) (Option.none : Option Jvm.ClassFile.FieldType)) : Cond) ∈ lw_all := lw_mk 1100 (by decide +kernel) rfl
theorem w_1046 : ((Jvm.Cond.methodLink "FeeDocketModel" (157 : Nat) ({ cls := "FeeDocketModel", name := "isCovered", desc := "(I)Z" } : Jvm.MethodName)) : Cond) ∈ lw_all := lw_mk 1101 (by decide +kernel) rfl
theorem w_1048 : ((Jvm.Cond.instanceMethod ({ cls := "FeeDocketModel", name := "isCovered", desc := "(I)Z" } : Jvm.MethodName)) : Cond) ∈ lw_all := lw_mk 1103 (by decide +kernel) rfl
theorem w_1049 : ((Jvm.Cond.code ({ cls := "FeeDocketModel", name := "isCovered", desc := "(I)Z" } : Jvm.MethodName) prog_9_method_54_code (4 : Nat) (Option.some Jvm.ClassFile.FieldType.boolean)) : Cond) ∈ lw_all := lw_mk 1104 (by decide +kernel) rfl
theorem w_1050 : ((Jvm.Cond.methodLink "FeeDocketLaw" (153 : Nat) ({ cls := "FeeDocketModel", name := "covered", desc := "(II)Z" } : Jvm.MethodName)) : Cond) ∈ lw_all := lw_mk 1105 (by decide +kernel) rfl
theorem w_1051 : ((Jvm.Cond.instanceMethod ({ cls := "FeeDocketModel", name := "covered", desc := "(II)Z" } : Jvm.MethodName)) : Cond) ∈ lw_all := lw_mk 1106 (by decide +kernel) rfl
theorem w_1052 : ((Jvm.Cond.selects "FeeDocketModel" ({ cls := "FeeDocketModel", name := "covered", desc := "(II)Z" } : Jvm.MethodName) ({ cls := "FeeDocketModel", name := "covered", desc := "(II)Z" } : Jvm.MethodName)) : Cond) ∈ lw_all := lw_mk 1107 (by decide +kernel) rfl
theorem w_1053 : ((Jvm.Cond.code ({ cls := "FeeDocketModel", name := "covered", desc := "(II)Z" } : Jvm.MethodName) prog_9_method_57_code (3 : Nat) (Option.some Jvm.ClassFile.FieldType.boolean)) : Cond) ∈ lw_all := lw_mk 1108 (by decide +kernel) rfl
theorem w_1054 : ((Jvm.Cond.methodLink "FeeDocketLaw" (156 : Nat) ({ cls := "FeeDocketModel", name := "user", desc := "(II)I" } : Jvm.MethodName)) : Cond) ∈ lw_all := lw_mk 1109 (by decide +kernel) rfl
theorem w_1055 : ((Jvm.Cond.instanceMethod ({ cls := "FeeDocketModel", name := "user", desc := "(II)I" } : Jvm.MethodName)) : Cond) ∈ lw_all := lw_mk 1110 (by decide +kernel) rfl
theorem w_1056 : ((Jvm.Cond.selects "FeeDocketModel" ({ cls := "FeeDocketModel", name := "user", desc := "(II)I" } : Jvm.MethodName) ({ cls := "FeeDocketModel", name := "user", desc := "(II)I" } : Jvm.MethodName)) : Cond) ∈ lw_all := lw_mk 1111 (by decide +kernel) rfl
theorem w_1057 : ((Jvm.Cond.code ({ cls := "FeeDocketModel", name := "user", desc := "(II)I" } : Jvm.MethodName) prog_9_method_59_code (3 : Nat) (Option.some Jvm.ClassFile.FieldType.int)) : Cond) ∈ lw_all := lw_mk 1112 (by decide +kernel) rfl
theorem w_1058 : ((Jvm.Cond.methodLink "FeeDocketModel" (164 : Nat) ({ cls := "FeeDocketModel", name := "tellUser", desc := "(II)I" } : Jvm.MethodName)) : Cond) ∈ lw_all := lw_mk 1113 (by decide +kernel) rfl
theorem w_1060 : ((Jvm.Cond.instanceMethod ({ cls := "FeeDocketModel", name := "tellUser", desc := "(II)I" } : Jvm.MethodName)) : Cond) ∈ lw_all := lw_mk 1115 (by decide +kernel) rfl
theorem w_1061 : ((Jvm.Cond.code ({ cls := "FeeDocketModel", name := "tellUser", desc := "(II)I" } : Jvm.MethodName) prog_9_method_58_code (3 : Nat) (Option.some Jvm.ClassFile.FieldType.int)) : Cond) ∈ lw_all := lw_mk 1116 (by decide +kernel) rfl
theorem w_1062 : ((Jvm.Cond.methodLink "FeeDocketLaw" (159 : Nat) ({ cls := "FeeDocketModel", name := "value", desc := "(I)I" } : Jvm.MethodName)) : Cond) ∈ lw_all := lw_mk 1117 (by decide +kernel) rfl
theorem w_1063 : ((Jvm.Cond.instanceMethod ({ cls := "FeeDocketModel", name := "value", desc := "(I)I" } : Jvm.MethodName)) : Cond) ∈ lw_all := lw_mk 1118 (by decide +kernel) rfl
theorem w_1064 : ((Jvm.Cond.selects "FeeDocketModel" ({ cls := "FeeDocketModel", name := "value", desc := "(I)I" } : Jvm.MethodName) ({ cls := "FeeDocketModel", name := "value", desc := "(I)I" } : Jvm.MethodName)) : Cond) ∈ lw_all := lw_mk 1119 (by decide +kernel) rfl
theorem w_1065 : ((Jvm.Cond.code ({ cls := "FeeDocketModel", name := "value", desc := "(I)I" } : Jvm.MethodName) prog_9_method_62_code (2 : Nat) (Option.some Jvm.ClassFile.FieldType.int)) : Cond) ∈ lw_all := lw_mk 1120 (by decide +kernel) rfl
theorem w_1066 : ((Jvm.Cond.methodLink "FeeDocketModel" (170 : Nat) ({ cls := "FeeDocketModel", name := "tellValue", desc := "(I)I" } : Jvm.MethodName)) : Cond) ∈ lw_all := lw_mk 1121 (by decide +kernel) rfl
theorem w_1068 : ((Jvm.Cond.instanceMethod ({ cls := "FeeDocketModel", name := "tellValue", desc := "(I)I" } : Jvm.MethodName)) : Cond) ∈ lw_all := lw_mk 1123 (by decide +kernel) rfl
theorem w_1069 : ((Jvm.Cond.code ({ cls := "FeeDocketModel", name := "tellValue", desc := "(I)I" } : Jvm.MethodName) prog_9_method_61_code (2 : Nat) (Option.some Jvm.ClassFile.FieldType.int)) : Cond) ∈ lw_all := lw_mk 1124 (by decide +kernel) rfl
theorem w_1070 : ((Jvm.Cond.methodLink "FeeDocketModel" (167 : Nat) ({ cls := "FeeDocketModel", name := "standing", desc := "()I" } : Jvm.MethodName)) : Cond) ∈ lw_all := lw_mk 1125 (by decide +kernel) rfl
theorem w_1072 : ((Jvm.Cond.instanceMethod ({ cls := "FeeDocketModel", name := "standing", desc := "()I" } : Jvm.MethodName)) : Cond) ∈ lw_all := lw_mk 1127 (by decide +kernel) rfl
theorem w_1073 : ((Jvm.Cond.code ({ cls := "FeeDocketModel", name := "standing", desc := "()I" } : Jvm.MethodName) prog_9_method_60_code (3 : Nat) (Option.some Jvm.ClassFile.FieldType.int)) : Cond) ∈ lw_all := lw_mk 1128 (by decide +kernel) rfl
theorem w_1074 : ((Jvm.Cond.methodLink "FeeDocketLaw" (163 : Nat) ({ cls := "FeeDocketModel", name := "nextDue", desc := "()I" } : Jvm.MethodName)) : Cond) ∈ lw_all := lw_mk 1129 (by decide +kernel) rfl
theorem w_1075 : ((Jvm.Cond.instanceMethod ({ cls := "FeeDocketModel", name := "nextDue", desc := "()I" } : Jvm.MethodName)) : Cond) ∈ lw_all := lw_mk 1130 (by decide +kernel) rfl
theorem w_1076 : ((Jvm.Cond.selects "FeeDocketModel" ({ cls := "FeeDocketModel", name := "nextDue", desc := "()I" } : Jvm.MethodName) ({ cls := "FeeDocketModel", name := "nextDue", desc := "()I" } : Jvm.MethodName)) : Cond) ∈ lw_all := lw_mk 1131 (by decide +kernel) rfl
theorem w_1077 : ((Jvm.Cond.code ({ cls := "FeeDocketModel", name := "nextDue", desc := "()I" } : Jvm.MethodName) prog_9_method_64_code (1 : Nat) (Option.some Jvm.ClassFile.FieldType.int)) : Cond) ∈ lw_all := lw_mk 1132 (by decide +kernel) rfl
theorem w_1078 : ((Jvm.Cond.methodLink "FeeDocketModel" (173 : Nat) ({ cls := "FeeDocketModel", name := "firstDue", desc := "()I" } : Jvm.MethodName)) : Cond) ∈ lw_all := lw_mk 1133 (by decide +kernel) rfl
theorem w_1080 : ((Jvm.Cond.instanceMethod ({ cls := "FeeDocketModel", name := "firstDue", desc := "()I" } : Jvm.MethodName)) : Cond) ∈ lw_all := lw_mk 1135 (by decide +kernel) rfl
theorem w_1081 : ((Jvm.Cond.code ({ cls := "FeeDocketModel", name := "firstDue", desc := "()I" } : Jvm.MethodName) prog_9_method_63_code (6 : Nat) (Option.some Jvm.ClassFile.FieldType.int)) : Cond) ∈ lw_all := lw_mk 1136 (by decide +kernel) rfl
theorem w_1082 : ((Jvm.Cond.methodLink "FeeDocketLaw" (166 : Nat) ({ cls := "FeeDocketModel", name := "costs", desc := "(I)I" } : Jvm.MethodName)) : Cond) ∈ lw_all := lw_mk 1137 (by decide +kernel) rfl
theorem w_1083 : ((Jvm.Cond.instanceMethod ({ cls := "FeeDocketModel", name := "costs", desc := "(I)I" } : Jvm.MethodName)) : Cond) ∈ lw_all := lw_mk 1138 (by decide +kernel) rfl
theorem w_1084 : ((Jvm.Cond.selects "FeeDocketModel" ({ cls := "FeeDocketModel", name := "costs", desc := "(I)I" } : Jvm.MethodName) ({ cls := "FeeDocketModel", name := "costs", desc := "(I)I" } : Jvm.MethodName)) : Cond) ∈ lw_all := lw_mk 1139 (by decide +kernel) rfl
theorem w_1085 : ((Jvm.Cond.code ({ cls := "FeeDocketModel", name := "costs", desc := "(I)I" } : Jvm.MethodName) prog_9_method_67_code (4 : Nat) (Option.some Jvm.ClassFile.FieldType.int)) : Cond) ∈ lw_all := lw_mk 1140 (by decide +kernel) rfl
theorem w_1086 : ((Jvm.Cond.methodLink "FeeDocketModel" (176 : Nat) ({ cls := "FeeDocketModel", name := "areDays", desc := "(I)Z" } : Jvm.MethodName)) : Cond) ∈ lw_all := lw_mk 1141 (by decide +kernel) rfl
theorem w_1087 : ((Jvm.Cond.static ({ cls := "FeeDocketModel", name := "areDays", desc := "(I)Z" } : Jvm.MethodName)) : Cond) ∈ lw_all := lw_mk 1142 (by decide +kernel) rfl
theorem w_1088 : ((Jvm.Cond.code ({ cls := "FeeDocketModel", name := "areDays", desc := "(I)Z" } : Jvm.MethodName) prog_9_method_65_code (1 : Nat) (Option.some Jvm.ClassFile.FieldType.boolean)) : Cond) ∈ lw_all := lw_mk 1143 (by decide +kernel) rfl
theorem w_1089 : ((Jvm.Cond.methodLink "FeeDocketModel" (179 : Nat) ({ cls := "FeeDocketModel", name := "costsOf", desc := "(II)I" } : Jvm.MethodName)) : Cond) ∈ lw_all := lw_mk 1144 (by decide +kernel) rfl
theorem w_1091 : ((Jvm.Cond.instanceMethod ({ cls := "FeeDocketModel", name := "costsOf", desc := "(II)I" } : Jvm.MethodName)) : Cond) ∈ lw_all := lw_mk 1146 (by decide +kernel) rfl
theorem w_1092 : ((Jvm.Cond.code ({ cls := "FeeDocketModel", name := "costsOf", desc := "(II)I" } : Jvm.MethodName) prog_9_method_66_code (7 : Nat) (Option.some Jvm.ClassFile.FieldType.int)) : Cond) ∈ lw_all := lw_mk 1147 (by decide +kernel) rfl
theorem w_1093 : ((Jvm.Cond.methodLink "FeeDocketLaw" (169 : Nat) ({ cls := "FeeDocketModel", name := "lapsing", desc := "(I)I" } : Jvm.MethodName)) : Cond) ∈ lw_all := lw_mk 1148 (by decide +kernel) rfl
theorem w_1094 : ((Jvm.Cond.instanceMethod ({ cls := "FeeDocketModel", name := "lapsing", desc := "(I)I" } : Jvm.MethodName)) : Cond) ∈ lw_all := lw_mk 1149 (by decide +kernel) rfl
theorem w_1095 : ((Jvm.Cond.selects "FeeDocketModel" ({ cls := "FeeDocketModel", name := "lapsing", desc := "(I)I" } : Jvm.MethodName) ({ cls := "FeeDocketModel", name := "lapsing", desc := "(I)I" } : Jvm.MethodName)) : Cond) ∈ lw_all := lw_mk 1150 (by decide +kernel) rfl
theorem w_1096 : ((Jvm.Cond.code ({ cls := "FeeDocketModel", name := "lapsing", desc := "(I)I" } : Jvm.MethodName) prog_9_method_68_code (5 : Nat) (Option.some Jvm.ClassFile.FieldType.int)) : Cond) ∈ lw_all := lw_mk 1151 (by decide +kernel) rfl
theorem w_1097 : ((Jvm.Cond.methodLink "FeeDocketLaw" (173 : Nat) ({ cls := "FeeDocketModel", name := "share", desc := "(I)D" } : Jvm.MethodName)) : Cond) ∈ lw_all := lw_mk 1152 (by decide +kernel) rfl
theorem w_1098 : ((Jvm.Cond.instanceMethod ({ cls := "FeeDocketModel", name := "share", desc := "(I)D" } : Jvm.MethodName)) : Cond) ∈ lw_all := lw_mk 1153 (by decide +kernel) rfl
theorem w_1099 : ((Jvm.Cond.selects "FeeDocketModel" ({ cls := "FeeDocketModel", name := "share", desc := "(I)D" } : Jvm.MethodName) ({ cls := "FeeDocketModel", name := "share", desc := "(I)D" } : Jvm.MethodName)) : Cond) ∈ lw_all := lw_mk 1154 (by decide +kernel) rfl
theorem w_1100 : ((Jvm.Cond.code ({ cls := "FeeDocketModel", name := "share", desc := "(I)D" } : Jvm.MethodName) prog_9_method_69_code (5 : Nat) (Option.some Jvm.ClassFile.FieldType.double)) : Cond) ∈ lw_all := lw_mk 1155 (by decide +kernel) rfl
theorem w_1101 : ((Jvm.Cond.methodLink "FeeDocketLaw" (176 : Nat) ({ cls := "FeeDocketModel", name := "append", desc := "(I)I" } : Jvm.MethodName)) : Cond) ∈ lw_all := lw_mk 1156 (by decide +kernel) rfl
theorem w_1102 : ((Jvm.Cond.instanceMethod ({ cls := "FeeDocketModel", name := "append", desc := "(I)I" } : Jvm.MethodName)) : Cond) ∈ lw_all := lw_mk 1157 (by decide +kernel) rfl
theorem w_1103 : ((Jvm.Cond.selects "FeeDocketModel" ({ cls := "FeeDocketModel", name := "append", desc := "(I)I" } : Jvm.MethodName) ({ cls := "FeeDocketModel", name := "append", desc := "(I)I" } : Jvm.MethodName)) : Cond) ∈ lw_all := lw_mk 1158 (by decide +kernel) rfl
theorem w_1104 : ((Jvm.Cond.code ({ cls := "FeeDocketModel", name := "append", desc := "(I)I" } : Jvm.MethodName) prog_9_method_70_code (2 : Nat) (Option.some Jvm.ClassFile.FieldType.int)) : Cond) ∈ lw_all := lw_mk 1159 (by decide +kernel) rfl
theorem w_1105 : ((Jvm.Cond.methodLink "FeeDocketLaw" (180 : Nat) ({ cls := "FeeDocketModel", name := "clearText", desc := "()I" } : Jvm.MethodName)) : Cond) ∈ lw_all := lw_mk 1160 (by decide +kernel) rfl
theorem w_1106 : ((Jvm.Cond.instanceMethod ({ cls := "FeeDocketModel", name := "clearText", desc := "()I" } : Jvm.MethodName)) : Cond) ∈ lw_all := lw_mk 1161 (by decide +kernel) rfl
theorem w_1107 : ((Jvm.Cond.selects "FeeDocketModel" ({ cls := "FeeDocketModel", name := "clearText", desc := "()I" } : Jvm.MethodName) ({ cls := "FeeDocketModel", name := "clearText", desc := "()I" } : Jvm.MethodName)) : Cond) ∈ lw_all := lw_mk 1162 (by decide +kernel) rfl
theorem w_1108 : ((Jvm.Cond.code ({ cls := "FeeDocketModel", name := "clearText", desc := "()I" } : Jvm.MethodName) prog_9_method_71_code (2 : Nat) (Option.some Jvm.ClassFile.FieldType.int)) : Cond) ∈ lw_all := lw_mk 1163 (by decide +kernel) rfl
theorem w_1109 : ((Jvm.Cond.methodLink "FeeDocketLaw" (184 : Nat) ({ cls := "FeeDocketModel", name := "parse", desc := "()I" } : Jvm.MethodName)) : Cond) ∈ lw_all := lw_mk 1164 (by decide +kernel) rfl
theorem w_1110 : ((Jvm.Cond.instanceMethod ({ cls := "FeeDocketModel", name := "parse", desc := "()I" } : Jvm.MethodName)) : Cond) ∈ lw_all := lw_mk 1165 (by decide +kernel) rfl
theorem w_1111 : ((Jvm.Cond.selects "FeeDocketModel" ({ cls := "FeeDocketModel", name := "parse", desc := "()I" } : Jvm.MethodName) ({ cls := "FeeDocketModel", name := "parse", desc := "()I" } : Jvm.MethodName)) : Cond) ∈ lw_all := lw_mk 1166 (by decide +kernel) rfl
theorem w_1112 : ((Jvm.Cond.code ({ cls := "FeeDocketModel", name := "parse", desc := "()I" } : Jvm.MethodName) prog_9_method_76_code (4 : Nat) (Option.some Jvm.ClassFile.FieldType.int)) : Cond) ∈ lw_all := lw_mk 1167 (by decide +kernel) rfl
theorem w_1113 : ((Jvm.Cond.methodLink "FeeDocketModel" (200 : Nat) ({ cls := "FeeDocketModel", name := "takesRight", desc := "()Z" } : Jvm.MethodName)) : Cond) ∈ lw_all := lw_mk 1168 (by decide +kernel) rfl
theorem w_1115 : ((Jvm.Cond.instanceMethod ({ cls := "FeeDocketModel", name := "takesRight", desc := "()Z" } : Jvm.MethodName)) : Cond) ∈ lw_all := lw_mk 1170 (by decide +kernel) rfl
theorem w_1116 : ((Jvm.Cond.code ({ cls := "FeeDocketModel", name := "takesRight", desc := "()Z" } : Jvm.MethodName) prog_9_method_75_code (6 : Nat) (Option.some Jvm.ClassFile.FieldType.boolean)) : Cond) ∈ lw_all := lw_mk 1171 (by decide +kernel) rfl
theorem w_1117 : ((Jvm.Cond.methodLink "FeeDocketModel" (194 : Nat) ({ cls := "FeeDocketModel", name := "takesNumber", desc := "(II)Z" } : Jvm.MethodName)) : Cond) ∈ lw_all := lw_mk 1172 (by decide +kernel) rfl
theorem w_1119 : ((Jvm.Cond.instanceMethod ({ cls := "FeeDocketModel", name := "takesNumber", desc := "(II)Z" } : Jvm.MethodName)) : Cond) ∈ lw_all := lw_mk 1174 (by decide +kernel) rfl
theorem w_1120 : ((Jvm.Cond.code ({ cls := "FeeDocketModel", name := "takesNumber", desc := "(II)Z" } : Jvm.MethodName) prog_9_method_74_code (6 : Nat) (Option.some Jvm.ClassFile.FieldType.boolean)) : Cond) ∈ lw_all := lw_mk 1175 (by decide +kernel) rfl
theorem w_1121 : ((Jvm.Cond.methodLink "FeeDocketModel" (188 : Nat) ({ cls := "FeeDocketModel", name := "isAt", desc := "(II)Z" } : Jvm.MethodName)) : Cond) ∈ lw_all := lw_mk 1176 (by decide +kernel) rfl
theorem w_1123 : ((Jvm.Cond.instanceMethod ({ cls := "FeeDocketModel", name := "isAt", desc := "(II)Z" } : Jvm.MethodName)) : Cond) ∈ lw_all := lw_mk 1178 (by decide +kernel) rfl
theorem w_1124 : ((Jvm.Cond.code ({ cls := "FeeDocketModel", name := "isAt", desc := "(II)Z" } : Jvm.MethodName) prog_9_method_72_code (3 : Nat) (Option.some Jvm.ClassFile.FieldType.boolean)) : Cond) ∈ lw_all := lw_mk 1179 (by decide +kernel) rfl
theorem w_1125 : ((Jvm.Cond.methodLink "FeeDocketModel" (197 : Nat) ({ cls := "FeeDocketModel", name := "takes", desc := "(I)Z" } : Jvm.MethodName)) : Cond) ∈ lw_all := lw_mk 1180 (by decide +kernel) rfl
theorem w_1127 : ((Jvm.Cond.instanceMethod ({ cls := "FeeDocketModel", name := "takes", desc := "(I)Z" } : Jvm.MethodName)) : Cond) ∈ lw_all := lw_mk 1182 (by decide +kernel) rfl
theorem w_1128 : ((Jvm.Cond.code ({ cls := "FeeDocketModel", name := "takes", desc := "(I)Z" } : Jvm.MethodName) prog_9_method_73_code (3 : Nat) (Option.some Jvm.ClassFile.FieldType.boolean)) : Cond) ∈ lw_all := lw_mk 1183 (by decide +kernel) rfl
theorem w_1129 : ((Jvm.Cond.methodLink "FeeDocketModel" (204 : Nat) ({ cls := "FeeDocketModel", name := "swapsAside", desc := "()V" } : Jvm.MethodName)) : Cond) ∈ lw_all := lw_mk 1184 (by decide +kernel) rfl
theorem w_1131 : ((Jvm.Cond.instanceMethod ({ cls := "FeeDocketModel", name := "swapsAside", desc := "()V" } : Jvm.MethodName)) : Cond) ∈ lw_all := lw_mk 1186 (by decide +kernel) rfl
theorem w_1132 : ((Jvm.Cond.code ({ cls := "FeeDocketModel", name := "swapsAside", desc := "()V" } : Jvm.MethodName) prog_9_method_77_code (3 : Nat) (Option.none : Option Jvm.ClassFile.FieldType)) : Cond) ∈ lw_all := lw_mk 1187 (by decide +kernel) rfl
theorem w_1133 : ((Jvm.Cond.methodLink "FeeDocketLaw" (193 : Nat) ({ cls := "FeeDocketModel", name := "digest", desc := "()J" } : Jvm.MethodName)) : Cond) ∈ lw_all := lw_mk 1188 (by decide +kernel) rfl
theorem w_1134 : ((Jvm.Cond.instanceMethod ({ cls := "FeeDocketModel", name := "digest", desc := "()J" } : Jvm.MethodName)) : Cond) ∈ lw_all := lw_mk 1189 (by decide +kernel) rfl
theorem w_1135 : ((Jvm.Cond.selects "FeeDocketModel" ({ cls := "FeeDocketModel", name := "digest", desc := "()J" } : Jvm.MethodName) ({ cls := "FeeDocketModel", name := "digest", desc := "()J" } : Jvm.MethodName)) : Cond) ∈ lw_all := lw_mk 1190 (by decide +kernel) rfl
theorem w_1136 : ((Jvm.Cond.code ({ cls := "FeeDocketModel", name := "digest", desc := "()J" } : Jvm.MethodName) prog_9_method_79_code (3 : Nat) (Option.some Jvm.ClassFile.FieldType.long)) : Cond) ∈ lw_all := lw_mk 1191 (by decide +kernel) rfl
theorem w_1137 : ((Jvm.Cond.constantLong "FeeDocketModel" (213 : Nat) (3469 : Int64)) : Cond) ∈ lw_all := lw_mk 1192 (by decide +kernel) rfl
theorem w_1138 : ((Jvm.Cond.methodLink "FeeDocketModel" (215 : Nat) ({ cls := "FeeDocketModel", name := "mix", desc := "(I)V" } : Jvm.MethodName)) : Cond) ∈ lw_all := lw_mk 1193 (by decide +kernel) rfl
theorem w_1140 : ((Jvm.Cond.instanceMethod ({ cls := "FeeDocketModel", name := "mix", desc := "(I)V" } : Jvm.MethodName)) : Cond) ∈ lw_all := lw_mk 1195 (by decide +kernel) rfl
theorem w_1141 : ((Jvm.Cond.code ({ cls := "FeeDocketModel", name := "mix", desc := "(I)V" } : Jvm.MethodName) prog_9_method_78_code (2 : Nat) (Option.none : Option Jvm.ClassFile.FieldType)) : Cond) ∈ lw_all := lw_mk 1196 (by decide +kernel) rfl
theorem w_1142 : ((Jvm.Cond.constantLong "FeeDocketModel" (207 : Nat) (31 : Int64)) : Cond) ∈ lw_all := lw_mk 1197 (by decide +kernel) rfl
theorem w_1143 : ((Jvm.Cond.arrayClass Jvm.ClassFile.FieldType.long) : Cond) ∈ lw_all := lw_mk 1198 (by decide +kernel) rfl
theorem w_1144 : ((Jvm.Cond.arrayClass Jvm.ClassFile.FieldType.double) : Cond) ∈ lw_all := lw_mk 1199 (by decide +kernel) rfl
theorem w_1145 : ((Jvm.Cond.sameMethod "java/lang/Throwable" "java/lang/Throwable" "fillInStackTrace" "(I)Ljava/lang/Throwable;") : Cond) ∈ lw_all := lw_mk 1200 (by decide +kernel) rfl
theorem ws_0 : Cond.selects "FeeDocket" ⟨"FeeDocket", "save", "()V"⟩ ⟨"FeeDocket", "save", "()V"⟩ ∈ lw_all := lw_mk 0 (by decide +kernel) rfl
theorem ws_1 : Cond.selects "FeeDocket" ⟨"FeeDocket", "dropOldest", "()V"⟩ ⟨"FeeDocket", "dropOldest", "()V"⟩ ∈ lw_all := lw_mk 1 (by decide +kernel) rfl
theorem ws_2 : Cond.selects "FeeDocket$Text" ⟨"FeeDocket$Text", "readRight", "()V"⟩ ⟨"FeeDocket$Text", "readRight", "()V"⟩ ∈ lw_all := lw_mk 2 (by decide +kernel) rfl
theorem ws_3 : Cond.selects "FeeDocket$Text" ⟨"FeeDocket$Text", "readNumber", "(II)I"⟩ ⟨"FeeDocket$Text", "readNumber", "(II)I"⟩ ∈ lw_all := lw_mk 3 (by decide +kernel) rfl
theorem ws_4 : Cond.selects "FeeDocket$Text" ⟨"FeeDocket$Text", "isDigit", "(I)Z"⟩ ⟨"FeeDocket$Text", "isDigit", "(I)Z"⟩ ∈ lw_all := lw_mk 4 (by decide +kernel) rfl
theorem ws_5 : Cond.selects "FeeDocket$Text" ⟨"FeeDocket$Text", "signAt", "(I)I"⟩ ⟨"FeeDocket$Text", "signAt", "(I)I"⟩ ∈ lw_all := lw_mk 5 (by decide +kernel) rfl
theorem ws_6 : Cond.selects "FeeDocket$Text" ⟨"FeeDocket$Text", "readSign", "(C)V"⟩ ⟨"FeeDocket$Text", "readSign", "(C)V"⟩ ∈ lw_all := lw_mk 6 (by decide +kernel) rfl
theorem ws_7 : Cond.selects "FeeDocket$Text" ⟨"FeeDocket$Text", "readSmall", "()Z"⟩ ⟨"FeeDocket$Text", "readSmall", "()Z"⟩ ∈ lw_all := lw_mk 7 (by decide +kernel) rfl
theorem ws_8 : Cond.selects "FeeDocket$Holidays" ⟨"FeeDocket$Holidays", "isHoliday", "(I)Z"⟩ ⟨"FeeDocket$Holidays", "isHoliday", "(I)Z"⟩ ∈ lw_all := lw_mk 8 (by decide +kernel) rfl
theorem ws_9 : Cond.selects "FeeDocket$Holidays" ⟨"FeeDocket$Holidays", "find", "(I)I"⟩ ⟨"FeeDocket$Holidays", "find", "(I)I"⟩ ∈ lw_all := lw_mk 9 (by decide +kernel) rfl
theorem ws_10 : Cond.selects "FeeDocket$State" ⟨"FeeDocket$State", "countStanding", "()I"⟩ ⟨"FeeDocket$State", "countStanding", "()I"⟩ ∈ lw_all := lw_mk 10 (by decide +kernel) rfl
theorem ws_11 : Cond.selects "FeeDocket$State" ⟨"FeeDocket$State", "countLapsed", "()I"⟩ ⟨"FeeDocket$State", "countLapsed", "()I"⟩ ∈ lw_all := lw_mk 11 (by decide +kernel) rfl
theorem ws_12 : Cond.selects "FeeDocket" ⟨"FeeDocket", "mixedWithRight", "(JLFeeDocket$Right;)J"⟩ ⟨"FeeDocket", "mixedWithRight", "(JLFeeDocket$Right;)J"⟩ ∈ lw_all := lw_mk 12 (by decide +kernel) rfl
theorem ws_13 : Cond.selects "java/lang/Throwable" ⟨"java/lang/Throwable", "fillInStackTrace", "(I)Ljava/lang/Throwable;"⟩ ⟨"java/lang/Throwable", "fillInStackTrace", "(I)Ljava/lang/Throwable;"⟩ ∈ lw_all := lw_mk 13 (by decide +kernel) rfl
theorem ws_14 : Cond.selects "FeeDocket$Holidays" ⟨"FeeDocket$Holidays", "remove", "(I)V"⟩ ⟨"FeeDocket$Holidays", "remove", "(I)V"⟩ ∈ lw_all := lw_mk 14 (by decide +kernel) rfl
theorem ws_15 : Cond.selects "FeeDocket" ⟨"FeeDocket", "existingRight", "(I)LFeeDocket$Right;"⟩ ⟨"FeeDocket", "existingRight", "(I)LFeeDocket$Right;"⟩ ∈ lw_all := lw_mk 15 (by decide +kernel) rfl
theorem ws_16 : Cond.selects "FeeDocket$State" ⟨"FeeDocket$State", "costsUpTo", "(LFeeDocket$Right;I)I"⟩ ⟨"FeeDocket$State", "costsUpTo", "(LFeeDocket$Right;I)I"⟩ ∈ lw_all := lw_mk 16 (by decide +kernel) rfl
theorem ws_17 : Cond.selects "FeeDocketModel" ⟨"FeeDocketModel", "refused", "(I)Z"⟩ ⟨"FeeDocketModel", "refused", "(I)Z"⟩ ∈ lw_all := lw_mk 17 (by decide +kernel) rfl
theorem ws_18 : Cond.selects "FeeDocketModel" ⟨"FeeDocketModel", "worksFrom", "(I)I"⟩ ⟨"FeeDocketModel", "worksFrom", "(I)I"⟩ ∈ lw_all := lw_mk 18 (by decide +kernel) rfl
theorem ws_19 : Cond.selects "FeeDocketModel" ⟨"FeeDocketModel", "isHoliday", "(I)Z"⟩ ⟨"FeeDocketModel", "isHoliday", "(I)Z"⟩ ∈ lw_all := lw_mk 19 (by decide +kernel) rfl
theorem ws_20 : Cond.selects "FeeDocketModel" ⟨"FeeDocketModel", "saves", "()V"⟩ ⟨"FeeDocketModel", "saves", "()V"⟩ ∈ lw_all := lw_mk 20 (by decide +kernel) rfl
theorem ws_21 : Cond.selects "FeeDocketModel" ⟨"FeeDocketModel", "takesHoliday", "(I)V"⟩ ⟨"FeeDocketModel", "takesHoliday", "(I)V"⟩ ∈ lw_all := lw_mk 21 (by decide +kernel) rfl
theorem ws_22 : Cond.selects "FeeDocketModel" ⟨"FeeDocketModel", "comes", "(IZ)I"⟩ ⟨"FeeDocketModel", "comes", "(IZ)I"⟩ ∈ lw_all := lw_mk 22 (by decide +kernel) rfl
theorem ws_23 : Cond.selects "FeeDocketModel" ⟨"FeeDocketModel", "lapsedOnes", "()I"⟩ ⟨"FeeDocketModel", "lapsedOnes", "()I"⟩ ∈ lw_all := lw_mk 23 (by decide +kernel) rfl
theorem ws_24 : Cond.selects "FeeDocketModel" ⟨"FeeDocketModel", "isLapsed", "(I)Z"⟩ ⟨"FeeDocketModel", "isLapsed", "(I)Z"⟩ ∈ lw_all := lw_mk 24 (by decide +kernel) rfl
theorem ws_25 : Cond.selects "FeeDocketModel" ⟨"FeeDocketModel", "nextOf", "(I)I"⟩ ⟨"FeeDocketModel", "nextOf", "(I)I"⟩ ∈ lw_all := lw_mk 25 (by decide +kernel) rfl
theorem ws_26 : Cond.selects "FeeDocketModel" ⟨"FeeDocketModel", "of", "(II)I"⟩ ⟨"FeeDocketModel", "of", "(II)I"⟩ ∈ lw_all := lw_mk 26 (by decide +kernel) rfl
theorem ws_27 : Cond.selects "FeeDocketModel" ⟨"FeeDocketModel", "graceOf", "(II)I"⟩ ⟨"FeeDocketModel", "graceOf", "(II)I"⟩ ∈ lw_all := lw_mk 27 (by decide +kernel) rfl
theorem ws_28 : Cond.selects "FeeDocketModel" ⟨"FeeDocketModel", "isRight", "(I)Z"⟩ ⟨"FeeDocketModel", "isRight", "(I)Z"⟩ ∈ lw_all := lw_mk 28 (by decide +kernel) rfl
theorem ws_29 : Cond.selects "FeeDocketModel" ⟨"FeeDocketModel", "canPay", "(I)Z"⟩ ⟨"FeeDocketModel", "canPay", "(I)Z"⟩ ∈ lw_all := lw_mk 29 (by decide +kernel) rfl
theorem ws_30 : Cond.selects "FeeDocketModel" ⟨"FeeDocketModel", "dueOf", "(II)I"⟩ ⟨"FeeDocketModel", "dueOf", "(II)I"⟩ ∈ lw_all := lw_mk 30 (by decide +kernel) rfl
theorem ws_31 : Cond.selects "FeeDocketModel" ⟨"FeeDocketModel", "isLate", "(I)Z"⟩ ⟨"FeeDocketModel", "isLate", "(I)Z"⟩ ∈ lw_all := lw_mk 31 (by decide +kernel) rfl
theorem ws_32 : Cond.selects "FeeDocketModel" ⟨"FeeDocketModel", "paysNext", "(IZ)I"⟩ ⟨"FeeDocketModel", "paysNext", "(IZ)I"⟩ ∈ lw_all := lw_mk 32 (by decide +kernel) rfl
theorem ws_33 : Cond.selects "FeeDocketModel" ⟨"FeeDocketModel", "feeOf", "(II)I"⟩ ⟨"FeeDocketModel", "feeOf", "(II)I"⟩ ∈ lw_all := lw_mk 33 (by decide +kernel) rfl
theorem ws_34 : Cond.selects "FeeDocketModel" ⟨"FeeDocketModel", "surchargeOn", "(I)I"⟩ ⟨"FeeDocketModel", "surchargeOn", "(I)I"⟩ ∈ lw_all := lw_mk 34 (by decide +kernel) rfl
theorem ws_35 : Cond.selects "FeeDocketModel" ⟨"FeeDocketModel", "canRevive", "(I)Z"⟩ ⟨"FeeDocketModel", "canRevive", "(I)Z"⟩ ∈ lw_all := lw_mk 35 (by decide +kernel) rfl
theorem ws_36 : Cond.selects "FeeDocketModel" ⟨"FeeDocketModel", "endOf", "(I)I"⟩ ⟨"FeeDocketModel", "endOf", "(I)I"⟩ ∈ lw_all := lw_mk 36 (by decide +kernel) rfl
theorem ws_37 : Cond.selects "FeeDocketModel" ⟨"FeeDocketModel", "stands", "(I)Z"⟩ ⟨"FeeDocketModel", "stands", "(I)Z"⟩ ∈ lw_all := lw_mk 37 (by decide +kernel) rfl
theorem ws_38 : Cond.selects "FeeDocketModel" ⟨"FeeDocketModel", "usersOf", "(I)I"⟩ ⟨"FeeDocketModel", "usersOf", "(I)I"⟩ ∈ lw_all := lw_mk 38 (by decide +kernel) rfl
theorem ws_39 : Cond.selects "FeeDocketModel" ⟨"FeeDocketModel", "tellRight", "(II)I"⟩ ⟨"FeeDocketModel", "tellRight", "(II)I"⟩ ∈ lw_all := lw_mk 39 (by decide +kernel) rfl
theorem ws_40 : Cond.selects "FeeDocketModel" ⟨"FeeDocketModel", "costNow", "(I)I"⟩ ⟨"FeeDocketModel", "costNow", "(I)I"⟩ ∈ lw_all := lw_mk 40 (by decide +kernel) rfl
theorem ws_41 : Cond.selects "FeeDocketModel" ⟨"FeeDocketModel", "stoodOn", "(II)Z"⟩ ⟨"FeeDocketModel", "stoodOn", "(II)Z"⟩ ∈ lw_all := lw_mk 41 (by decide +kernel) rfl
theorem ws_42 : Cond.selects "FeeDocketModel" ⟨"FeeDocketModel", "laysGaps", "(I)V"⟩ ⟨"FeeDocketModel", "laysGaps", "(I)V"⟩ ∈ lw_all := lw_mk 42 (by decide +kernel) rfl
theorem ws_43 : Cond.selects "FeeDocketModel" ⟨"FeeDocketModel", "isCovered", "(I)Z"⟩ ⟨"FeeDocketModel", "isCovered", "(I)Z"⟩ ∈ lw_all := lw_mk 43 (by decide +kernel) rfl
theorem ws_44 : Cond.selects "FeeDocketModel" ⟨"FeeDocketModel", "tellUser", "(II)I"⟩ ⟨"FeeDocketModel", "tellUser", "(II)I"⟩ ∈ lw_all := lw_mk 44 (by decide +kernel) rfl
theorem ws_45 : Cond.selects "FeeDocketModel" ⟨"FeeDocketModel", "tellValue", "(I)I"⟩ ⟨"FeeDocketModel", "tellValue", "(I)I"⟩ ∈ lw_all := lw_mk 45 (by decide +kernel) rfl
theorem ws_46 : Cond.selects "FeeDocketModel" ⟨"FeeDocketModel", "standing", "()I"⟩ ⟨"FeeDocketModel", "standing", "()I"⟩ ∈ lw_all := lw_mk 46 (by decide +kernel) rfl
theorem ws_47 : Cond.selects "FeeDocketModel" ⟨"FeeDocketModel", "firstDue", "()I"⟩ ⟨"FeeDocketModel", "firstDue", "()I"⟩ ∈ lw_all := lw_mk 47 (by decide +kernel) rfl
theorem ws_48 : Cond.selects "FeeDocketModel" ⟨"FeeDocketModel", "costsOf", "(II)I"⟩ ⟨"FeeDocketModel", "costsOf", "(II)I"⟩ ∈ lw_all := lw_mk 48 (by decide +kernel) rfl
theorem ws_49 : Cond.selects "FeeDocketModel" ⟨"FeeDocketModel", "takesRight", "()Z"⟩ ⟨"FeeDocketModel", "takesRight", "()Z"⟩ ∈ lw_all := lw_mk 49 (by decide +kernel) rfl
theorem ws_50 : Cond.selects "FeeDocketModel" ⟨"FeeDocketModel", "takesNumber", "(II)Z"⟩ ⟨"FeeDocketModel", "takesNumber", "(II)Z"⟩ ∈ lw_all := lw_mk 50 (by decide +kernel) rfl
theorem ws_51 : Cond.selects "FeeDocketModel" ⟨"FeeDocketModel", "isAt", "(II)Z"⟩ ⟨"FeeDocketModel", "isAt", "(II)Z"⟩ ∈ lw_all := lw_mk 51 (by decide +kernel) rfl
theorem ws_52 : Cond.selects "FeeDocketModel" ⟨"FeeDocketModel", "takes", "(I)Z"⟩ ⟨"FeeDocketModel", "takes", "(I)Z"⟩ ∈ lw_all := lw_mk 52 (by decide +kernel) rfl
theorem ws_53 : Cond.selects "FeeDocketModel" ⟨"FeeDocketModel", "swapsAside", "()V"⟩ ⟨"FeeDocketModel", "swapsAside", "()V"⟩ ∈ lw_all := lw_mk 53 (by decide +kernel) rfl
theorem ws_54 : Cond.selects "FeeDocketModel" ⟨"FeeDocketModel", "mix", "(I)V"⟩ ⟨"FeeDocketModel", "mix", "(I)V"⟩ ∈ lw_all := lw_mk 54 (by decide +kernel) rfl
end
section
/-! THE LAYER OF WHOLE NUMBERS: ints as whole numbers, the world as a row of cells from the address z on; a row an instruction -/
def iv (a : Int) : Value := .int (Int32.ofInt a)
def lgv (a : Int) : Value := .long (Int64.ofInt a)
theorem oi_add (a b : Int) : Int32.ofInt a + Int32.ofInt b = Int32.ofInt (a + b) := Int32.toInt_inj.mp (by simp [Int32.toInt_ofInt, Int32.toInt_add])
theorem oi_sub (a b : Int) : Int32.ofInt a - Int32.ofInt b = Int32.ofInt (a - b) := Int32.toInt_inj.mp (by simp [Int32.toInt_ofInt, Int32.toInt_sub])
theorem oi_mul (a b : Int) : Int32.ofInt a * Int32.ofInt b = Int32.ofInt (a * b) := Int32.toInt_inj.mp (by simp [Int32.toInt_ofInt, Int32.toInt_mul])
theorem ol_add (a b : Int) : Int64.ofInt a + Int64.ofInt b = Int64.ofInt (a + b) := Int64.toInt_inj.mp (by simp [Int64.toInt_ofInt, Int64.toInt_add])
theorem ol_mul (a b : Int) : Int64.ofInt a * Int64.ofInt b = Int64.ofInt (a * b) := Int64.toInt_inj.mp (by simp [Int64.toInt_ofInt, Int64.toInt_mul])
theorem oi_toInt {a : Int} (h : -2147483648 ≤ a ∧ a < 2147483648) : (Int32.ofInt a).toInt = a := Int32.toInt_ofInt_of_le (by omega) (by omega)
theorem oi_lt {a b : Int} (ha : -2147483648 ≤ a ∧ a < 2147483648) (hb : -2147483648 ≤ b ∧ b < 2147483648) : Int32.ofInt a < Int32.ofInt b ↔ a < b := by rw [Int32.lt_iff_toInt_lt, oi_toInt ha, oi_toInt hb]
theorem oi_le {a b : Int} (ha : -2147483648 ≤ a ∧ a < 2147483648) (hb : -2147483648 ≤ b ∧ b < 2147483648) : Int32.ofInt a ≤ Int32.ofInt b ↔ a ≤ b := by rw [Int32.le_iff_toInt_le, oi_toInt ha, oi_toInt hb]
theorem oi_eq {a b : Int} (ha : -2147483648 ≤ a ∧ a < 2147483648) (hb : -2147483648 ≤ b ∧ b < 2147483648) : Int32.ofInt a = Int32.ofInt b ↔ a = b := by rw [← Int32.toInt_inj, oi_toInt ha, oi_toInt hb]
theorem oi_0 : (0 : Int32) = Int32.ofInt 0 := rfl
theorem iv_all (x : Int32) : Value.int x = iv x.toInt := by rw [iv, Int32.ofInt_toInt]
theorem oi_in {i : Int} {n : Nat} (h : 0 ≤ i ∧ i < n) (hn : n < 2147483648) : vp_in (Int32.ofInt i) n := vp_in_iff.mpr (by rw [oi_toInt (by omega)]; exact h)
theorem oi_nat {i : Int} (h : -2147483648 ≤ i ∧ i < 2147483648) : (Int32.ofInt i).toNatClampNeg = i.toNat := Int32.toNatClampNeg_ofInt_of_le (by omega) (by omega)
theorem oi_div {a b : Int} (ha : 0 ≤ a ∧ a < 2147483648) (hb : 0 < b ∧ b < 2147483648) : Int32.ofInt a / Int32.ofInt b = Int32.ofInt (a / b) := by
  apply Int32.toInt_inj.mp
  rw [Int32.toInt_div_of_ne_right _ _ (by intro h; have h2 := congrArg Int32.toInt h; rw [oi_toInt (by omega)] at h2; simp at h2; omega), oi_toInt (by omega), oi_toInt (by omega)]
  have h1 : a.tdiv b = a / b := Int.tdiv_eq_ediv_of_nonneg ha.1
  have h2 : 0 ≤ a / b := Int.ediv_nonneg ha.1 (by omega)
  have h3 : a / b ≤ a := Int.ediv_le_self b ha.1
  rw [h1, oi_toInt (by omega)]
theorem oi_rem {a b : Int} (ha : 0 ≤ a ∧ a < 2147483648) (hb : 0 < b ∧ b < 2147483648) : Int32.ofInt a - Int32.ofInt a / Int32.ofInt b * Int32.ofInt b = Int32.ofInt (a % b) := by
  rw [oi_div ha hb, oi_mul, oi_sub]
  congr 1
  have := Int.mul_ediv_add_emod a b
  have h2 : a / b * b = b * (a / b) := Int.mul_comm _ _
  omega
theorem lk_mem : ∀ {lv : List (Nat × Value)} {i : Nat} {v : Value}, lv.lookup i = some v → (i, v) ∈ lv
  | [], i, v, h => by simp at h
  | (j, w) :: t, i, v, h => by
    by_cases e : i = j
    · subst e
      simp [List.lookup] at h
      subst h
      exact List.mem_cons_self
    · have hb : (i == j) = false := by simpa using e
      rw [List.lookup_cons, hb] at h
      exact List.mem_cons_of_mem _ (lk_mem h)
theorem lk_at {ls : Array Slot} {nL : Nat} {lv : List (Nat × Value)} (h : lv_has ls nL lv) {i : Nat} {v : Value} (hl : lv.lookup i = some v) : ls[i]? = some (.val v) := h.2.2 (i, v) (lk_mem hl)
/-- the world's memory: how many cells, and what each holds -/
abbrev Mm : Type := Nat × (Nat → va_E)
def wl (z : Nat) (M : Mm) : va_W := (List.range M.1).map fun k => (z + k, M.2 k)
def mset (M : Mm) (k : Nat) (e : va_E) : Mm := (M.1, va_up M.2 k e)
def mpush (M : Mm) (e : va_E) : Mm := (M.1 + 1, va_up M.2 M.1 e)
theorem mset_1 (M : Mm) (k : Nat) (e : va_E) : (mset M k e).1 = M.1 := rfl
theorem mset_self (M : Mm) (k : Nat) (e : va_E) : (mset M k e).2 k = e := by simp [mset, va_up]
theorem mset_ne {M : Mm} {k j : Nat} {e : va_E} (h : j ≠ k) : (mset M k e).2 j = M.2 j := by simp [mset, va_up, h]
theorem mpush_1 (M : Mm) (e : va_E) : (mpush M e).1 = M.1 + 1 := rfl
theorem mpush_self (M : Mm) (e : va_E) : (mpush M e).2 M.1 = e := by simp [mpush, va_up]
theorem mpush_ne {M : Mm} {j : Nat} {e : va_E} (h : j < M.1) : (mpush M e).2 j = M.2 j := by simp [mpush, va_up, Nat.ne_of_lt h]
theorem wl_get {z : Nat} {M : Mm} {k : Nat} (h : k < M.1) : (wl z M)[k]? = some (z + k, M.2 k) := by simp [wl, h]
theorem wl_inv {z : Nat} {M : Mm} {k : Nat} {q : Nat × va_E} (h : (wl z M)[k]? = some q) : k < M.1 ∧ q = (z + k, M.2 k) := by
  have hk : k < M.1 := by
    have := (List.getElem?_eq_some_iff.mp h).1
    simpa [wl] using this
  rw [wl_get hk] at h
  exact ⟨hk, (Option.some.inj h).symm⟩
theorem wl_set {z : Nat} {M : Mm} {k : Nat} {e : va_E} (h : k < M.1) : (wl z M).set k (z + k, e) = wl z (mset M k e) := by
  apply List.ext_getElem?
  intro i
  by_cases hi : i < M.1
  · rw [wl_get (M := mset M k e) (show i < (mset M k e).1 from hi)]
    by_cases hik : i = k
    · subst hik
      rw [List.getElem?_set_self (by simpa [wl] using hi), mset_self]
    · rw [List.getElem?_set_ne (Ne.symm hik), wl_get hi, mset_ne hik]
  · rw [List.getElem?_eq_none (by simpa [wl] using Nat.le_of_not_lt hi), List.getElem?_eq_none (by simpa [wl, mset] using Nat.le_of_not_lt hi)]
theorem wl_push {z : Nat} {M : Mm} {e : va_E} : wl z (mpush M e) = wl z M ++ [(z + M.1, e)] := by
  simp only [wl, mpush_1, List.range_succ, List.map_append, List.map_cons, List.map_nil, mpush_self]
  congr 1
  apply List.map_congr_left
  intro k hk
  rw [mpush_ne (List.mem_range.mp hk)]
theorem wl_D (z : Nat) (M : Mm) : va_D (fun q => z ≤ q) (wl z M) := by
  refine ⟨fun i j p q hi hj hpq => ?_, fun k q hk => ?_⟩
  · obtain ⟨-, rfl⟩ := wl_inv hi
    obtain ⟨-, rfl⟩ := wl_inv hj
    dsimp only at hpq
    omega
  · obtain ⟨-, rfl⟩ := wl_inv hk
    exact Nat.le_add_right _ _
/-- what the tables say of arrays: their classes by number -/
def tysL (cy : Nat → ClassId) : List (ClassId × FieldType) := [(cy 0, .int), (cy 1, .byte), (cy 2, .boolean), (cy 3, .object RX3), (cy 4, .object RX4), (cy 5, .long), (cy 6, .double)]
/-- words that warming keeps, though the kit's goodWord doesn't name them -/
def nw_ok : Cond → Bool
  | .fieldLinkNest .. | .methodLinkNest .. | .declares _ | .castable .. => true
  | _ => false
def nw_all : List Cond := [(Jvm.Cond.methodLinkNest "FeeDocket$State" (35 : Nat) ({ cls := "FeeDocket$Holidays", name := "<init>", desc := "()V" } : Jvm.MethodName) "FeeDocket"), (Jvm.Cond.fieldLinkNest "FeeDocket" (82 : Nat) "FeeDocket$Holidays" "count" "I" "FeeDocket"), (Jvm.Cond.fieldLinkNest "FeeDocket$State" (176 : Nat) "FeeDocket$Holidays" "count" "I" "FeeDocket"), (Jvm.Cond.methodLinkNest "FeeDocket$State" (42 : Nat) ({ cls := "FeeDocket$Fees", name := "<init>", desc := "()V" } : Jvm.MethodName) "FeeDocket"), (Jvm.Cond.fieldLinkNest "FeeDocket" (134 : Nat) "FeeDocket$Fees" "base" "I" "FeeDocket"), (Jvm.Cond.fieldLinkNest "FeeDocket$State" (179 : Nat) "FeeDocket$Fees" "base" "I" "FeeDocket"), (Jvm.Cond.fieldLinkNest "FeeDocket$State" (182 : Nat) "FeeDocket$Fees" "step" "I" "FeeDocket"), (Jvm.Cond.fieldLinkNest "FeeDocket$State" (185 : Nat) "FeeDocket$Fees" "percent" "I" "FeeDocket"), (Jvm.Cond.fieldLinkNest "FeeDocket$State" (145 : Nat) "FeeDocket$Fees" "petition" "I" "FeeDocket"), (Jvm.Cond.methodLinkNest "FeeDocket$State" (47 : Nat) ({ cls := "FeeDocket$Right", name := "<init>", desc := "()V" } : Jvm.MethodName) "FeeDocket"), (Jvm.Cond.fieldLinkNest "FeeDocket$State" (158 : Nat) "FeeDocket$Right" "filed" "I" "FeeDocket"), (Jvm.Cond.fieldLinkNest "FeeDocket$State" (95 : Nat) "FeeDocket$Right" "lastDay" "I" "FeeDocket"), (Jvm.Cond.fieldLinkNest "FeeDocket$State" (116 : Nat) "FeeDocket$Right" "small" "Z" "FeeDocket"), (Jvm.Cond.fieldLinkNest "FeeDocket$State" (155 : Nat) "FeeDocket$Right" "feesPaid" "I" "FeeDocket"), (Jvm.Cond.fieldLinkNest "FeeDocket$State" (169 : Nat) "FeeDocket$Right" "sumPaid" "I" "FeeDocket"), (Jvm.Cond.fieldLinkNest "FeeDocket$State" (160 : Nat) "FeeDocket$Right" "gaps" "I" "FeeDocket"), (Jvm.Cond.fieldLinkNest "FeeDocket" (85 : Nat) "FeeDocket$State" "today" "I" "FeeDocket"), (Jvm.Cond.fieldLinkNest "FeeDocket" (65 : Nat) "FeeDocket$State" "rightCount" "I" "FeeDocket"), (Jvm.Cond.fieldLinkNest "FeeDocket" (201 : Nat) "FeeDocket$State" "rights" "[LFeeDocket$Right;" "FeeDocket"), (Jvm.Cond.fieldLinkNest "FeeDocket" (56 : Nat) "FeeDocket$State" "holidays" "LFeeDocket$Holidays;" "FeeDocket"), (Jvm.Cond.fieldLinkNest "FeeDocket" (130 : Nat) "FeeDocket$State" "fees" "LFeeDocket$Fees;" "FeeDocket"), (Jvm.Cond.methodLinkNest "FeeDocket" (26 : Nat) ({ cls := "FeeDocket$Text", name := "<init>", desc := "()V" } : Jvm.MethodName) "FeeDocket"), (Jvm.Cond.fieldLinkNest "FeeDocket" (178 : Nat) "FeeDocket$Text" "length" "I" "FeeDocket"), (Jvm.Cond.fieldLinkNest "FeeDocket$State" (62 : Nat) "FeeDocket$Text" "rightCount" "I" "FeeDocket"), (Jvm.Cond.fieldLinkNest "FeeDocket$State" (65 : Nat) "FeeDocket$Text" "filed" "[I" "FeeDocket"), (Jvm.Cond.fieldLinkNest "FeeDocket$State" (69 : Nat) "FeeDocket$Text" "small" "[Z" "FeeDocket"), (Jvm.Cond.castable "java/lang/IllegalArgumentException" "java/lang/IllegalArgumentException"), (Jvm.Cond.declares ({ cls := "java/lang/RuntimeException", name := "<init>", desc := "()V" } : Jvm.MethodName)), (Jvm.Cond.declares ({ cls := "java/lang/RuntimeException", name := "<init>", desc := "(Ljava/lang/String;)V" } : Jvm.MethodName)), (Jvm.Cond.declares ({ cls := "java/lang/Exception", name := "<init>", desc := "()V" } : Jvm.MethodName)), (Jvm.Cond.declares ({ cls := "java/lang/Exception", name := "<init>", desc := "(Ljava/lang/String;)V" } : Jvm.MethodName)), (Jvm.Cond.declares ({ cls := "java/lang/Throwable", name := "<init>", desc := "()V" } : Jvm.MethodName)), (Jvm.Cond.declares ({ cls := "java/lang/Throwable", name := "<init>", desc := "(Ljava/lang/String;)V" } : Jvm.MethodName)), (Jvm.Cond.castable "java/lang/IllegalStateException" "java/lang/IllegalStateException"), (Jvm.Cond.castable "java/lang/IndexOutOfBoundsException" "java/lang/IndexOutOfBoundsException")]
theorem nw_all_ok : nw_all.all nw_ok = true := rfl
theorem nw_all_in : ∀ w ∈ nw_all, w ∈ tables_1 := by decide +kernel
theorem nw_warm {w : Cond} (hw : nw_ok w = true) {s U : State} (hW : s.WarmedH U.vm) (h : va_Nw w s) : va_Nw w U := by
  cases w <;> first | exact va_Nw.warmF hW h | exact va_Nw.warmM hW h | exact va_Nw.warmD hW h | exact va_Nw.warmC hW h | (simp [nw_ok] at hw)
theorem nw_use {w : Cond} (hw : nw_ok w = true) {A : Array Value} {U : State} (h : va_Nw w U) : w.before A U = true := va_Nw.use (by cases w <;> first | rfl | (simp [nw_ok] at hw)) h
def nc_all : List (String × String) := [("java/lang/IllegalStateException", "java/lang/IllegalArgumentException"), ("java/lang/IllegalArgumentException", "java/lang/IndexOutOfBoundsException"), ("java/lang/IllegalStateException", "java/lang/IndexOutOfBoundsException")]
theorem nc_moved {C T : String} {u U : State} (hvm : u.vm.Alike U.vm) (h : va_Nc C T u) : va_Nc C T U := by
  obtain ⟨c, t, h1, h2, h3⟩ := h
  exact ⟨c, t, by rw [hvm.findClass]; exact h1, by rw [hvm.findClass]; exact h2, by rw [hvm.assignable]; exact h3⟩
def wB (D : va_G) (cy : Nat → ClassId) (z : Nat) (U : State) (H : Heap) : Prop :=
  va_K D vwCl (tysL cy) U ∧ vx_Zq Bundle.tN "UNASSIGNED_STACK" Bundle.steD (fun q => z ≤ q) U H ∧ vx_Zq Bundle.tN "SUPPRESSED_SENTINEL" Bundle.listD (fun q => z ≤ q) U H ∧ (∀ w ∈ nw_all, va_Nw w U) ∧ va_AO RX3 U ∧ va_AO RX4 U ∧ (∀ q ∈ nc_all, va_Nc q.1 q.2 U) ∧
  (∃ sa, vk_R RX6 213 "an argument is out of range" sa U) ∧ (∃ sa, vk_R RX6 220 "the docket does not allow this call now" sa U) ∧ ∃ sa, vk_R RX6 225 "there is no such right" sa U
theorem wB.moved {D : va_G} {cy : Nat → ClassId} {z : Nat} {s U : State} {H0 H : Heap} (h : wB D cy z s H0) (hW : s.WarmedH U.vm) (hq : ∀ a : Nat, a < H0.size → ¬ z ≤ a → H[a]? = H0[a]?) : wB D cy z U H := by
  obtain ⟨h1, h2, h3, h4, h5, h6, h7, ⟨sa, h8⟩, ⟨sb, h9⟩, sc, h10⟩ := h
  exact ⟨va_K.moved hW.alike h1, vx_Zq.moved hW.alike (h2.kept hq), vx_Zq.moved hW.alike (h3.kept hq), fun w hw => nw_warm (List.all_eq_true.mp nw_all_ok w hw) hW (h4 w hw), va_AO.moved hW.alike h5, va_AO.moved hW.alike h6, fun q hq => nc_moved hW.alike (h7 q hq), ⟨sa, vk_R.warm hW h8⟩, ⟨sb, vk_R.warm hW h9⟩, sc, vk_R.warm hW h10⟩
theorem wB.same {D : va_G} {cy : Nat → ClassId} {z : Nat} {s U : State} {H : Heap} (h : wB D cy z s H) (hv : s.vm = U.vm) : wB D cy z U H := h.moved (by rw [← hv]; exact State.WarmedH.refl s) (fun _ _ _ => rfl)
def wW (D : va_G) (z : Nat) (M : Mm) (H : Heap) : Prop := va_P D vwCl (wl z M) H ∧ z + M.1 ≤ H.size
/-- a method's start: the arguments, the world -/
def pc_ (D : va_G) (cy : Nat → ClassId) (z : Nat) (x : Bool) (M : Mm) (av : List Value) : Array Value → State → Prop := va_Pc av (fun U => wW D z M U.heap ∧ (x = true → U.heap.size = z + M.1) ∧ wB D cy z U U.heap)
/-- its end: the answer and the memory then are as K says -/
def qc_ (D : va_G) (z : Nat) (K : Option Value → Mm → Prop) : Array Value → State → Outcome → State → Prop := fun _ st oc t => (∃ (r : Option Value) (M' : Mm), oc = .returned r ∧ K r M' ∧ wW D z M' t.heap) ∧ va_F (fun q => z ≤ q) st t
/-- where it throws: the class is as KX says, the memory as it was -/
def xc_ (D : va_G) (z : Nat) (M : Mm) (KX : String → Prop) : String → State → State → Prop := vx_X (S := Unit) (fun _ => True) (fun E _ t => KX E ∧ wW D z M t.heap) (fun q => z ≤ q)
abbrev MT (l : Launch) (D : va_G) (cy : Nat → ClassId) (z : Nat) (x : Bool) (y : MethodName) (ws : List Cond) (fr lo mc ms : Nat) (M : Mm) (av : List Value) (K : Option Value → Mm → Prop) : Prop :=
  Met l y ws { frames := fr, cells := mc, slots := ms, locals := lo } (pc_ D cy z x M av) (qc_ D z K) mc ms (fun q => z ≤ q)
abbrev MX (l : Launch) (D : va_G) (cy : Nat → ClassId) (z : Nat) (x : Bool) (y : MethodName) (ws : List Cond) (fr lo mc ms : Nat) (M : Mm) (av : List Value) (K : Option Value → Mm → Prop) (KX : String → Prop) : Prop :=
  vx_Met l y ws { frames := fr, cells := mc, slots := ms, locals := lo } (pc_ D cy z x M av) (qc_ D z K) (xc_ D z M KX) mc ms (fun q => z ≤ q)
abbrev wsy (y : MethodName) (cc : ByteArray) (nL : Nat) (ret : Option FieldType) : List Cond := .code y cc nL ret :: lw_all
def Cx (p : Program) (l : Launch) (s : State) (m : MethodId) (args : Array Value) (meth : Method) (c : Code) (D : va_G) (cy : Nat → ClassId) (z nL : Nat) (cc : ByteArray) (own : String) : Prop :=
  p.tables.exec = Jvm.exec ∧ c.code = cc ∧ c.maxLocals = nL ∧ s.vm.findClass own = some m.cls ∧ (∀ w ∈ lw_all, w.before args s = true) ∧ wB D cy z s s.heap ∧ meth.locks = false ∧ z ≤ s.heap.size
def V (p : Program) (l : Launch) (e : Env) (R : Room) (s : State) (m : MethodId) (args : Array Value) (below : List Frame) (meth : Method) (c : Code) (D : va_G) (z nL : Nat) (Q : State → Prop) (cells slots : Nat) (M : Mm) (pc : Nat) (lv : List (Nat × Value)) (st : List Value) : Prop :=
  ∀ (H : Heap) (locs : List Loc) (ls : Array Slot), lv_has ls nL lv → wW D z M H → va_S (fun q => z ≤ q) s.heap H locs → W p l e R s m args below meth c H locs cells slots Q (F0 m pc ls st)
/-- a value put on what rests of the stack -/
def pushr (r : Option Value) (st : List Value) : List Value := match r with
  | none => st
  | some v => v :: st
theorem pushr_eq (r : Option Value) (st : List Value) : r.toList ++ st = pushr r st := by cases r <;> rfl
def ups (i : Nat) (v : Value) (lv : List (Nat × Value)) : List (Nat × Value) := (i, v) :: lv.filter (fun q => !(q.1 == i) && !(q.1 + 1 == i && q.2.category == 2))
def ups2 (i : Nat) (v : Value) (lv : List (Nat × Value)) : List (Nat × Value) := (i, v) :: lv.filter (fun q => !(q.1 == i) && (!(q.1 == i + 1) && !(q.1 + 1 == i && q.2.category == 2)))
section VROWS
variable {p : Program} {l : Launch} {e : Env} {R : Room} {s : State} {m : MethodId} {args : Array Value} {below : List Frame} {meth : Method} {c : Code} {D : va_G} {cy : Nat → ClassId} {z nL : Nat} {cc : ByteArray} {own : String} {Q : State → Prop} {cells slots : Nat} {M : Mm} {pc : Nat} {lv : List (Nat × Value)} {st : List Value}
theorem V_lv (lv' : List (Nat × Value)) (h : ∀ q ∈ lv', lv.lookup q.1 = some q.2) (k : V p l e R s m args below meth c D z nL Q cells slots M pc lv' st) : V p l e R s m args below meth c D z nL Q cells slots M pc lv st :=
  fun H locs ls hl => k H locs ls ⟨hl.1, hl.2.1, fun q hq => hl.2.2 q (lk_mem (h q hq))⟩
theorem V_eq {lv' : List (Nat × Value)} {st' : List Value} {M' : Mm} (h1 : lv = lv') (h2 : st = st') (h3 : M = M') (k : V p l e R s m args below meth c D z nL Q cells slots M' pc lv' st') : V p l e R s m args below meth c D z nL Q cells slots M pc lv st := by
  subst h1; subst h2; subst h3; exact k
theorem V_widen {k n : Nat} (h1 : cells ≤ k) (h2 : slots ≤ n) (kk : V p l e R s m args below meth c D z nL Q k n M pc lv st) : V p l e R s m args below meth c D z nL Q cells slots M pc lv st :=
  fun H locs ls hl hw hS => W.widen h1 h2 (kk H locs ls hl hw hS)
theorem V_iconst (C : Cx p l s m args meth c D cy z nL cc own) {n : Int} (hd : decode cc pc = .ok (.iconst n, 1)) (k : V p l e R s m args below meth c D z nL Q cells slots M (pc + 1) lv (iv n :: st)) : V p l e R s m args below meth c D z nL Q cells slots M pc lv st :=
  fun H locs ls hl hw hS => lv_iconst C.1 C.2.1 hd rfl (k H locs ls hl hw hS)
theorem V_bipush (C : Cx p l s m args meth c D cy z nL cc own) {n : Int} (hd : decode cc pc = .ok (.bipush n, 2)) (hn : (Int8.ofInt n).toInt32 = Int32.ofInt n) (k : V p l e R s m args below meth c D z nL Q cells slots M (pc + 2) lv (iv n :: st)) : V p l e R s m args below meth c D z nL Q cells slots M pc lv st :=
  fun H locs ls hl hw hS => lv_bipush C.1 C.2.1 hd hn (k H locs ls hl hw hS)
theorem V_sipush (C : Cx p l s m args meth c D cy z nL cc own) {n : Int} (hd : decode cc pc = .ok (.sipush n, 3)) (hn : (Int16.ofInt n).toInt32 = Int32.ofInt n) (k : V p l e R s m args below meth c D z nL Q cells slots M (pc + 3) lv (iv n :: st)) : V p l e R s m args below meth c D z nL Q cells slots M pc lv st :=
  fun H locs ls hl hw hS => lv_sipush C.1 C.2.1 hd hn (k H locs ls hl hw hS)
theorem V_iload_n (C : Cx p l s m args meth c D cy z nL cc own) {j : Fin 4} {a : Int} (hd : decode cc pc = .ok (.iload_n j, 1)) (h : lv.lookup (j : Nat) = some (iv a)) (k : V p l e R s m args below meth c D z nL Q cells slots M (pc + 1) lv (iv a :: st)) : V p l e R s m args below meth c D z nL Q cells slots M pc lv st :=
  fun H locs ls hl hw hS => lv_iload_n C.1 C.2.1 hd rfl (lk_at hl h) (k H locs ls hl hw hS)
theorem V_iload (C : Cx p l s m args meth c D cy z nL cc own) {i : Nat} {a : Int} (hd : decode cc pc = .ok (.iload i, 2)) (h : lv.lookup i = some (iv a)) (k : V p l e R s m args below meth c D z nL Q cells slots M (pc + 2) lv (iv a :: st)) : V p l e R s m args below meth c D z nL Q cells slots M pc lv st :=
  fun H locs ls hl hw hS => lv_iload C.1 C.2.1 hd (lk_at hl h) (k H locs ls hl hw hS)
theorem V_aload_n (C : Cx p l s m args meth c D cy z nL cc own) {j : Fin 4} {a : Nat} (hd : decode cc pc = .ok (.aload_n j, 1)) (h : lv.lookup (j : Nat) = some (.ref a)) (k : V p l e R s m args below meth c D z nL Q cells slots M (pc + 1) lv (.ref a :: st)) : V p l e R s m args below meth c D z nL Q cells slots M pc lv st :=
  fun H locs ls hl hw hS => lv_aload_n C.1 C.2.1 hd rfl (lk_at hl h) (k H locs ls hl hw hS)
theorem V_aload (C : Cx p l s m args meth c D cy z nL cc own) {i a : Nat} (hd : decode cc pc = .ok (.aload i, 2)) (h : lv.lookup i = some (.ref a)) (k : V p l e R s m args below meth c D z nL Q cells slots M (pc + 2) lv (.ref a :: st)) : V p l e R s m args below meth c D z nL Q cells slots M pc lv st :=
  fun H locs ls hl hw hS => lv_aload C.1 C.2.1 hd (lk_at hl h) (k H locs ls hl hw hS)
theorem V_lload_n (C : Cx p l s m args meth c D cy z nL cc own) {j : Fin 4} {a : Int} (hd : decode cc pc = .ok (.lload_n j, 1)) (h : lv.lookup (j : Nat) = some (lgv a)) (k : V p l e R s m args below meth c D z nL Q cells slots M (pc + 1) lv (lgv a :: st)) : V p l e R s m args below meth c D z nL Q cells slots M pc lv st :=
  fun H locs ls hl hw hS => lv_lload_n C.1 C.2.1 hd rfl (lk_at hl h) (k H locs ls hl hw hS)
theorem V_lload (C : Cx p l s m args meth c D cy z nL cc own) {i : Nat} {a : Int} (hd : decode cc pc = .ok (.lload i, 2)) (h : lv.lookup i = some (lgv a)) (k : V p l e R s m args below meth c D z nL Q cells slots M (pc + 2) lv (lgv a :: st)) : V p l e R s m args below meth c D z nL Q cells slots M pc lv st :=
  fun H locs ls hl hw hS => lv_lload C.1 C.2.1 hd (lk_at hl h) (k H locs ls hl hw hS)
theorem V_istore_n (C : Cx p l s m args meth c D cy z nL cc own) {j : Fin 4} {a : Int} (hd : decode cc pc = .ok (.istore_n j, 1)) (hn : (j : Nat) < nL) (k : V p l e R s m args below meth c D z nL Q cells slots M (pc + 1) (ups (j : Nat) (iv a) lv) st) : V p l e R s m args below meth c D z nL Q cells slots M pc lv (iv a :: st) :=
  fun H locs ls hl hw hS => lv_istore_n C.1 C.2.1 hd rfl hl hn rfl (fun ls' hl' => k H locs ls' hl' hw hS)
theorem V_istore (C : Cx p l s m args meth c D cy z nL cc own) {i : Nat} {a : Int} (hd : decode cc pc = .ok (.istore i, 2)) (hn : i < nL) (k : V p l e R s m args below meth c D z nL Q cells slots M (pc + 2) (ups i (iv a) lv) st) : V p l e R s m args below meth c D z nL Q cells slots M pc lv (iv a :: st) :=
  fun H locs ls hl hw hS => lv_istore C.1 C.2.1 hd hl hn rfl (fun ls' hl' => k H locs ls' hl' hw hS)
theorem V_astore_n (C : Cx p l s m args meth c D cy z nL cc own) {j : Fin 4} {a : Nat} (hd : decode cc pc = .ok (.astore_n j, 1)) (hn : (j : Nat) < nL) (k : V p l e R s m args below meth c D z nL Q cells slots M (pc + 1) (ups (j : Nat) (.ref a) lv) st) : V p l e R s m args below meth c D z nL Q cells slots M pc lv (.ref a :: st) :=
  fun H locs ls hl hw hS => lv_astore_n C.1 C.2.1 hd rfl hl hn rfl (fun ls' hl' => k H locs ls' hl' hw hS)
theorem V_astore (C : Cx p l s m args meth c D cy z nL cc own) {i a : Nat} (hd : decode cc pc = .ok (.astore i, 2)) (hn : i < nL) (k : V p l e R s m args below meth c D z nL Q cells slots M (pc + 2) (ups i (.ref a) lv) st) : V p l e R s m args below meth c D z nL Q cells slots M pc lv (.ref a :: st) :=
  fun H locs ls hl hw hS => lv_astore C.1 C.2.1 hd hl hn rfl (fun ls' hl' => k H locs ls' hl' hw hS)
theorem V_lstore_n (C : Cx p l s m args meth c D cy z nL cc own) {j : Fin 4} {a : Int} (hd : decode cc pc = .ok (.lstore_n j, 1)) (hn : (j : Nat) + 1 < nL) (k : V p l e R s m args below meth c D z nL Q cells slots M (pc + 1) (ups2 (j : Nat) (lgv a) lv) st) : V p l e R s m args below meth c D z nL Q cells slots M pc lv (lgv a :: st) :=
  fun H locs ls hl hw hS => lv_lstore_n C.1 C.2.1 hd rfl hl hn rfl (fun ls' hl' => k H locs ls' hl' hw hS)
theorem V_lstore (C : Cx p l s m args meth c D cy z nL cc own) {i : Nat} {a : Int} (hd : decode cc pc = .ok (.lstore i, 2)) (hn : i + 1 < nL) (k : V p l e R s m args below meth c D z nL Q cells slots M (pc + 2) (ups2 i (lgv a) lv) st) : V p l e R s m args below meth c D z nL Q cells slots M pc lv (lgv a :: st) :=
  fun H locs ls hl hw hS => lv_lstore C.1 C.2.1 hd hl hn rfl (fun ls' hl' => k H locs ls' hl' hw hS)
theorem V_iinc (C : Cx p l s m args meth c D cy z nL cc own) {i : Nat} {n a : Int} (hd : decode cc pc = .ok (.iinc i n, 3)) (h : lv.lookup i = some (iv a)) (hn : i < nL) (k : V p l e R s m args below meth c D z nL Q cells slots M (pc + 3) (ups i (iv (a + n)) lv) st) : V p l e R s m args below meth c D z nL Q cells slots M pc lv st := by
  intro H locs ls hl hw hS
  obtain ⟨j, hj⟩ := List.getElem?_of_mem (lk_mem h)
  exact lv_iinc C.1 C.2.1 hd hl hj (oi_add a n) hn rfl (fun ls' hl' => k H locs ls' hl' hw hS)
theorem V_iadd (C : Cx p l s m args meth c D cy z nL cc own) {a b : Int} (hd : decode cc pc = .ok (.iadd, 1)) (k : V p l e R s m args below meth c D z nL Q cells slots M (pc + 1) lv (iv (a + b) :: st)) : V p l e R s m args below meth c D z nL Q cells slots M pc lv (iv b :: iv a :: st) :=
  fun H locs ls hl hw hS => lv_iadd C.1 C.2.1 hd (by rw [oi_add]; exact k H locs ls hl hw hS)
theorem V_isub (C : Cx p l s m args meth c D cy z nL cc own) {a b : Int} (hd : decode cc pc = .ok (.isub, 1)) (k : V p l e R s m args below meth c D z nL Q cells slots M (pc + 1) lv (iv (a - b) :: st)) : V p l e R s m args below meth c D z nL Q cells slots M pc lv (iv b :: iv a :: st) :=
  fun H locs ls hl hw hS => lv_isub C.1 C.2.1 hd (by rw [oi_sub]; exact k H locs ls hl hw hS)
theorem V_imul (C : Cx p l s m args meth c D cy z nL cc own) {a b : Int} (hd : decode cc pc = .ok (.imul, 1)) (k : V p l e R s m args below meth c D z nL Q cells slots M (pc + 1) lv (iv (a * b) :: st)) : V p l e R s m args below meth c D z nL Q cells slots M pc lv (iv b :: iv a :: st) :=
  fun H locs ls hl hw hS => lv_imul C.1 C.2.1 hd (by rw [oi_mul]; exact k H locs ls hl hw hS)
theorem V_idiv (C : Cx p l s m args meth c D cy z nL cc own) {a b : Int} (hd : decode cc pc = .ok (.idiv, 1)) (ha : 0 ≤ a ∧ a < 2147483648) (hb : 0 < b ∧ b < 2147483648) (k : V p l e R s m args below meth c D z nL Q cells slots M (pc + 1) lv (iv (a / b) :: st)) : V p l e R s m args below meth c D z nL Q cells slots M pc lv (iv b :: iv a :: st) :=
  fun H locs ls hl hw hS => lv_idiv C.1 C.2.1 hd (fun h => by rw [oi_0, oi_eq (by omega) (by omega)] at h; omega) (by rw [oi_div ha hb]; exact k H locs ls hl hw hS)
theorem V_irem (C : Cx p l s m args meth c D cy z nL cc own) {a b : Int} (hd : decode cc pc = .ok (.irem, 1)) (ha : 0 ≤ a ∧ a < 2147483648) (hb : 0 < b ∧ b < 2147483648) (k : V p l e R s m args below meth c D z nL Q cells slots M (pc + 1) lv (iv (a % b) :: st)) : V p l e R s m args below meth c D z nL Q cells slots M pc lv (iv b :: iv a :: st) :=
  fun H locs ls hl hw hS => lv_irem C.1 C.2.1 hd (fun h => by rw [oi_0, oi_eq (by omega) (by omega)] at h; omega) (by rw [oi_rem ha hb]; exact k H locs ls hl hw hS)
theorem V_ladd (C : Cx p l s m args meth c D cy z nL cc own) {a b : Int} (hd : decode cc pc = .ok (.ladd, 1)) (k : V p l e R s m args below meth c D z nL Q cells slots M (pc + 1) lv (lgv (a + b) :: st)) : V p l e R s m args below meth c D z nL Q cells slots M pc lv (lgv b :: lgv a :: st) :=
  fun H locs ls hl hw hS => lv_ladd C.1 C.2.1 hd (by rw [ol_add]; exact k H locs ls hl hw hS)
theorem V_lmul (C : Cx p l s m args meth c D cy z nL cc own) {a b : Int} (hd : decode cc pc = .ok (.lmul, 1)) (k : V p l e R s m args below meth c D z nL Q cells slots M (pc + 1) lv (lgv (a * b) :: st)) : V p l e R s m args below meth c D z nL Q cells slots M pc lv (lgv b :: lgv a :: st) :=
  fun H locs ls hl hw hS => lv_lmul C.1 C.2.1 hd (by rw [ol_mul]; exact k H locs ls hl hw hS)
theorem V_i2l (C : Cx p l s m args meth c D cy z nL cc own) {a : Int} (hd : decode cc pc = .ok (.i2l, 1)) (ha : -2147483648 ≤ a ∧ a < 2147483648) (k : V p l e R s m args below meth c D z nL Q cells slots M (pc + 1) lv (lgv a :: st)) : V p l e R s m args below meth c D z nL Q cells slots M pc lv (iv a :: st) :=
  fun H locs ls hl hw hS => lv_i2l C.1 C.2.1 hd (by apply Int64.toInt_inj.mp; rw [Int32.toInt_toInt64, oi_toInt ha, Int64.toInt_ofInt_of_le (by omega) (by omega)]) (k H locs ls hl hw hS)
theorem V_dup (C : Cx p l s m args meth c D cy z nL cc own) {v : Value} (hd : decode cc pc = .ok (.dup, 1)) (hv : v.category = 1) (k : V p l e R s m args below meth c D z nL Q cells slots M (pc + 1) lv (v :: v :: st)) : V p l e R s m args below meth c D z nL Q cells slots M pc lv (v :: st) :=
  fun H locs ls hl hw hS => lv_dup C.1 C.2.1 hd hv (k H locs ls hl hw hS)
theorem V_dup2 (C : Cx p l s m args meth c D cy z nL cc own) {v w : Value} (hd : decode cc pc = .ok (.dup2, 1)) (hv : v.category = 1) (hw' : w.category = 1) (k : V p l e R s m args below meth c D z nL Q cells slots M (pc + 1) lv (v :: w :: v :: w :: st)) : V p l e R s m args below meth c D z nL Q cells slots M pc lv (v :: w :: st) :=
  fun H locs ls hl hw hS => lv_dup2_11 C.1 C.2.1 hd hv hw' (k H locs ls hl hw hS)
theorem V_goto (C : Cx p l s m args meth c D cy z nL cc own) {off : Int} {tgt : Nat} (hd : decode cc pc = .ok (.goto off, 3)) (ht : (pc : Int) + off = (tgt : Int)) (k : V p l e R s m args below meth c D z nL Q cells slots M tgt lv st) : V p l e R s m args below meth c D z nL Q cells slots M pc lv st :=
  fun H locs ls hl hw hS => lv_goto C.1 C.2.1 hd ht (k H locs ls hl hw hS)
theorem V_if_eq (C : Cx p l s m args meth c D cy z nL cc own) {a off : Int} {tgt : Nat} (hd : decode cc pc = .ok (.ifCond .eq off, 3)) (ht : (pc : Int) + off = (tgt : Int)) (ha : -2147483648 ≤ a ∧ a < 2147483648) (f : a = 0 → V p l e R s m args below meth c D z nL Q cells slots M tgt lv st) (g : ¬ a = 0 → V p l e R s m args below meth c D z nL Q cells slots M (pc + 3) lv st) : V p l e R s m args below meth c D z nL Q cells slots M pc lv (iv a :: st) :=
  fun H locs ls hl hw hS => lv_if_eq C.1 C.2.1 hd ht (fun h => f ((oi_eq ha (by omega)).mp h) H locs ls hl hw hS) (fun h => g (fun h2 => h ((oi_eq ha (by omega)).mpr h2)) H locs ls hl hw hS)
theorem V_icmp_eq (C : Cx p l s m args meth c D cy z nL cc own) {a b off : Int} {tgt : Nat} (hd : decode cc pc = .ok (.if_icmp .eq off, 3)) (ht : (pc : Int) + off = (tgt : Int)) (ha : -2147483648 ≤ a ∧ a < 2147483648) (hb : -2147483648 ≤ b ∧ b < 2147483648) (f : a = b → V p l e R s m args below meth c D z nL Q cells slots M tgt lv st) (g : ¬ a = b → V p l e R s m args below meth c D z nL Q cells slots M (pc + 3) lv st) : V p l e R s m args below meth c D z nL Q cells slots M pc lv (iv b :: iv a :: st) :=
  fun H locs ls hl hw hS => lv_icmp_eq C.1 C.2.1 hd ht (fun h => f ((oi_eq ha hb).mp h) H locs ls hl hw hS) (fun h => g (fun h2 => h ((oi_eq ha hb).mpr h2)) H locs ls hl hw hS)
theorem V_if_ne (C : Cx p l s m args meth c D cy z nL cc own) {a off : Int} {tgt : Nat} (hd : decode cc pc = .ok (.ifCond .ne off, 3)) (ht : (pc : Int) + off = (tgt : Int)) (ha : -2147483648 ≤ a ∧ a < 2147483648) (f : ¬ a = 0 → V p l e R s m args below meth c D z nL Q cells slots M tgt lv st) (g : a = 0 → V p l e R s m args below meth c D z nL Q cells slots M (pc + 3) lv st) : V p l e R s m args below meth c D z nL Q cells slots M pc lv (iv a :: st) :=
  fun H locs ls hl hw hS => lv_if_ne C.1 C.2.1 hd ht (fun h => f (fun h2 => h ((oi_eq ha (by omega)).mpr h2)) H locs ls hl hw hS) (fun h => g ((oi_eq ha (by omega)).mp h) H locs ls hl hw hS)
theorem V_icmp_ne (C : Cx p l s m args meth c D cy z nL cc own) {a b off : Int} {tgt : Nat} (hd : decode cc pc = .ok (.if_icmp .ne off, 3)) (ht : (pc : Int) + off = (tgt : Int)) (ha : -2147483648 ≤ a ∧ a < 2147483648) (hb : -2147483648 ≤ b ∧ b < 2147483648) (f : ¬ a = b → V p l e R s m args below meth c D z nL Q cells slots M tgt lv st) (g : a = b → V p l e R s m args below meth c D z nL Q cells slots M (pc + 3) lv st) : V p l e R s m args below meth c D z nL Q cells slots M pc lv (iv b :: iv a :: st) :=
  fun H locs ls hl hw hS => lv_icmp_ne C.1 C.2.1 hd ht (fun h => f (fun h2 => h ((oi_eq ha hb).mpr h2)) H locs ls hl hw hS) (fun h => g ((oi_eq ha hb).mp h) H locs ls hl hw hS)
theorem V_if_lt (C : Cx p l s m args meth c D cy z nL cc own) {a off : Int} {tgt : Nat} (hd : decode cc pc = .ok (.ifCond .lt off, 3)) (ht : (pc : Int) + off = (tgt : Int)) (ha : -2147483648 ≤ a ∧ a < 2147483648) (f : a < 0 → V p l e R s m args below meth c D z nL Q cells slots M tgt lv st) (g : 0 ≤ a → V p l e R s m args below meth c D z nL Q cells slots M (pc + 3) lv st) : V p l e R s m args below meth c D z nL Q cells slots M pc lv (iv a :: st) :=
  fun H locs ls hl hw hS => lv_if_lt C.1 C.2.1 hd ht (fun h => f ((oi_lt ha (by omega)).mp h) H locs ls hl hw hS) (fun h => g (by have h2 : ¬ (a < 0) := fun h3 => h ((oi_lt ha (by omega)).mpr h3); omega) H locs ls hl hw hS)
theorem V_icmp_lt (C : Cx p l s m args meth c D cy z nL cc own) {a b off : Int} {tgt : Nat} (hd : decode cc pc = .ok (.if_icmp .lt off, 3)) (ht : (pc : Int) + off = (tgt : Int)) (ha : -2147483648 ≤ a ∧ a < 2147483648) (hb : -2147483648 ≤ b ∧ b < 2147483648) (f : a < b → V p l e R s m args below meth c D z nL Q cells slots M tgt lv st) (g : b ≤ a → V p l e R s m args below meth c D z nL Q cells slots M (pc + 3) lv st) : V p l e R s m args below meth c D z nL Q cells slots M pc lv (iv b :: iv a :: st) :=
  fun H locs ls hl hw hS => lv_icmp_lt C.1 C.2.1 hd ht (fun h => f ((oi_lt ha hb).mp h) H locs ls hl hw hS) (fun h => g (by have h2 := (not_congr (oi_lt ha hb)).mp h; omega) H locs ls hl hw hS)
theorem V_if_ge (C : Cx p l s m args meth c D cy z nL cc own) {a off : Int} {tgt : Nat} (hd : decode cc pc = .ok (.ifCond .ge off, 3)) (ht : (pc : Int) + off = (tgt : Int)) (ha : -2147483648 ≤ a ∧ a < 2147483648) (f : 0 ≤ a → V p l e R s m args below meth c D z nL Q cells slots M tgt lv st) (g : a < 0 → V p l e R s m args below meth c D z nL Q cells slots M (pc + 3) lv st) : V p l e R s m args below meth c D z nL Q cells slots M pc lv (iv a :: st) :=
  fun H locs ls hl hw hS => lv_if_ge C.1 C.2.1 hd ht (fun h => f ((oi_le (by omega) ha).mp h) H locs ls hl hw hS) (fun h => g (by have h2 : ¬ (0 ≤ a) := fun h3 => h ((oi_le (by omega) ha).mpr h3); omega) H locs ls hl hw hS)
theorem V_icmp_ge (C : Cx p l s m args meth c D cy z nL cc own) {a b off : Int} {tgt : Nat} (hd : decode cc pc = .ok (.if_icmp .ge off, 3)) (ht : (pc : Int) + off = (tgt : Int)) (ha : -2147483648 ≤ a ∧ a < 2147483648) (hb : -2147483648 ≤ b ∧ b < 2147483648) (f : b ≤ a → V p l e R s m args below meth c D z nL Q cells slots M tgt lv st) (g : a < b → V p l e R s m args below meth c D z nL Q cells slots M (pc + 3) lv st) : V p l e R s m args below meth c D z nL Q cells slots M pc lv (iv b :: iv a :: st) :=
  fun H locs ls hl hw hS => lv_icmp_ge C.1 C.2.1 hd ht (fun h => f ((oi_le hb ha).mp h) H locs ls hl hw hS) (fun h => g (by have h2 := (not_congr (oi_le hb ha)).mp h; omega) H locs ls hl hw hS)
theorem V_if_gt (C : Cx p l s m args meth c D cy z nL cc own) {a off : Int} {tgt : Nat} (hd : decode cc pc = .ok (.ifCond .gt off, 3)) (ht : (pc : Int) + off = (tgt : Int)) (ha : -2147483648 ≤ a ∧ a < 2147483648) (f : 0 < a → V p l e R s m args below meth c D z nL Q cells slots M tgt lv st) (g : a ≤ 0 → V p l e R s m args below meth c D z nL Q cells slots M (pc + 3) lv st) : V p l e R s m args below meth c D z nL Q cells slots M pc lv (iv a :: st) :=
  fun H locs ls hl hw hS => lv_if_gt C.1 C.2.1 hd ht (fun h => f ((oi_lt (by omega) ha).mp h) H locs ls hl hw hS) (fun h => g (by have h2 : ¬ (0 < a) := fun h3 => h ((oi_lt (by omega) ha).mpr h3); omega) H locs ls hl hw hS)
theorem V_icmp_gt (C : Cx p l s m args meth c D cy z nL cc own) {a b off : Int} {tgt : Nat} (hd : decode cc pc = .ok (.if_icmp .gt off, 3)) (ht : (pc : Int) + off = (tgt : Int)) (ha : -2147483648 ≤ a ∧ a < 2147483648) (hb : -2147483648 ≤ b ∧ b < 2147483648) (f : b < a → V p l e R s m args below meth c D z nL Q cells slots M tgt lv st) (g : a ≤ b → V p l e R s m args below meth c D z nL Q cells slots M (pc + 3) lv st) : V p l e R s m args below meth c D z nL Q cells slots M pc lv (iv b :: iv a :: st) :=
  fun H locs ls hl hw hS => lv_icmp_gt C.1 C.2.1 hd ht (fun h => f ((oi_lt hb ha).mp h) H locs ls hl hw hS) (fun h => g (by have h2 := (not_congr (oi_lt hb ha)).mp h; omega) H locs ls hl hw hS)
theorem V_if_le (C : Cx p l s m args meth c D cy z nL cc own) {a off : Int} {tgt : Nat} (hd : decode cc pc = .ok (.ifCond .le off, 3)) (ht : (pc : Int) + off = (tgt : Int)) (ha : -2147483648 ≤ a ∧ a < 2147483648) (f : a ≤ 0 → V p l e R s m args below meth c D z nL Q cells slots M tgt lv st) (g : 0 < a → V p l e R s m args below meth c D z nL Q cells slots M (pc + 3) lv st) : V p l e R s m args below meth c D z nL Q cells slots M pc lv (iv a :: st) :=
  fun H locs ls hl hw hS => lv_if_le C.1 C.2.1 hd ht (fun h => f ((oi_le ha (by omega)).mp h) H locs ls hl hw hS) (fun h => g (by have h2 : ¬ (a ≤ 0) := fun h3 => h ((oi_le ha (by omega)).mpr h3); omega) H locs ls hl hw hS)
theorem V_icmp_le (C : Cx p l s m args meth c D cy z nL cc own) {a b off : Int} {tgt : Nat} (hd : decode cc pc = .ok (.if_icmp .le off, 3)) (ht : (pc : Int) + off = (tgt : Int)) (ha : -2147483648 ≤ a ∧ a < 2147483648) (hb : -2147483648 ≤ b ∧ b < 2147483648) (f : a ≤ b → V p l e R s m args below meth c D z nL Q cells slots M tgt lv st) (g : b < a → V p l e R s m args below meth c D z nL Q cells slots M (pc + 3) lv st) : V p l e R s m args below meth c D z nL Q cells slots M pc lv (iv b :: iv a :: st) :=
  fun H locs ls hl hw hS => lv_icmp_le C.1 C.2.1 hd ht (fun h => f ((oi_le ha hb).mp h) H locs ls hl hw hS) (fun h => g (by have h2 := (not_congr (oi_le ha hb)).mp h; omega) H locs ls hl hw hS)
end VROWS
end
section
/-! MEMORY, CALLS, ENDS, ENTRIES of the layer -/
def aI (cy : Nat → ClassId) (n : Nat) (g : Nat → Int) : va_E := .inl (cy 0, n, .inl (fun j => Int32.ofInt (g j)))
def aB (cy : Nat → ClassId) (n : Nat) (g : Nat → Int) : va_E := .inl (cy 1, n, .inl (fun j => Int32.ofInt (g j)))
def aZ (cy : Nat → ClassId) (n : Nat) (g : Nat → Int) : va_E := .inl (cy 2, n, .inl (fun j => Int32.ofInt (g j)))
def aL (cy : Nat → ClassId) (n : Nat) (g : Nat → Int) : va_E := .inl (cy 5, n, .inr (.inl (fun j => Int64.ofInt (g j))))
def aD (cy : Nat → ClassId) (n : Nat) (g : Nat → UInt64) : va_E := .inl (cy 6, n, .inr (.inr (.inr (.inl g))))
def aQ (c : ClassId) (n : Nat) (g : Nat → Option Nat) : va_E := .inl (c, n, .inr (.inr (.inr (.inr g))))
def oX (ci : Nat) (fs : List Value) : va_E := .inr (ci, fs)
theorem up_oi (g : Nat → Int) (k : Nat) (a : Int) : upd (fun j => Int32.ofInt (g j)) k (Int32.ofInt a) = fun j => Int32.ofInt (va_up g k a j) := by
  funext j
  by_cases h : j = k <;> simp [upd, va_up, h]
theorem up_ol (g : Nat → Int) (k : Nat) (a : Int) : vp_updL (fun j => Int64.ofInt (g j)) k (Int64.ofInt a) = fun j => Int64.ofInt (va_up g k a j) := by
  funext j
  by_cases h : j = k <;> simp [vp_updL, va_up, h]
theorem cpy_oi (f g : Nat → Int) (sp dp n : Nat) : va_cpy (fun j => Int32.ofInt (f j)) (fun j => Int32.ofInt (g j)) sp dp n = fun j => Int32.ofInt (va_cpy f g sp dp n j) := by
  funext j
  by_cases h : dp ≤ j ∧ j < dp + n <;> simp [va_cpy, h]
/-- what is known of a field that is read -/
def FG (own : String) (index ci f : Nat) : Prop := ∃ (C' : String) (T : u_T) (N : Nat), vwCl[ci]? = some (C', T, N) ∧ f < N ∧ (∀ w ∈ u_ws C' T N, w ∈ lw_all) ∧ (Cond.fieldLink own index (T f).1 (T f).2.1 (T f).2.2.1 ∈ lw_all ∨ ∃ host, Cond.fieldLinkNest own index (T f).1 (T f).2.1 (T f).2.2.1 host ∈ nw_all)
/-- .. that is written -/
def FP (own : String) (index ci f : Nat) (ty : FieldType) : Prop := ∃ (C' : String) (T : u_T) (N : Nat) (ty0 : Nat → FieldType), vwCl[ci]? = some (C', T, N) ∧ f < N ∧ (∀ w ∈ u_ws C' T N, w ∈ lw_all) ∧ (Cond.fieldLink own index (T f).1 (T f).2.1 (T f).2.2.1 ∈ lw_all ∨ ∃ host, Cond.fieldLinkNest own index (T f).1 (T f).2.1 (T f).2.2.1 host ∈ nw_all) ∧
  (∀ k, k < N → parseFieldDescriptor (T k).2.2.1 = some (ty0 k)) ∧ (∀ a, a < N → ∀ b, b < N → a ≠ b → (T a).2.1 ≠ (T b).2.1) ∧ (T f).2.2.2 = false ∧ ty0 f = ty
/-- .. that is final, and written in its constructor -/
def FF (own : String) (index ci f : Nat) (ty : FieldType) : Prop := ∃ (T : u_T) (N : Nat) (ty0 : Nat → FieldType), vwCl[ci]? = some (own, T, N) ∧ f < N ∧ (∀ w ∈ u_ws own T N, w ∈ lw_all) ∧ Cond.fieldLink own index own (T f).2.1 (T f).2.2.1 ∈ lw_all ∧
  (∀ k, k < N → parseFieldDescriptor (T k).2.2.1 = some (ty0 k)) ∧ (∀ a, a < N → ∀ b, b < N → a ≠ b → (T a).2.1 ≠ (T b).2.1) ∧ (T f).2.2.2 = true ∧ (T f).1 = own ∧ ty0 f = ty
theorem wW_set {D : va_G} {z k : Nat} {M : Mm} {e : va_E} {H1 : Heap} (hk : k < M.1) (h : va_P D vwCl ((wl z M).set k (z + k, e)) H1) : wW D z (mset M k e) H1 := by
  rw [wl_set hk] at h
  refine ⟨h, ?_⟩
  have h1 : M.1 - 1 < (mset M k e).1 := by show M.1 - 1 < M.1; omega
  have h2 := (h (M.1 - 1) _ (wl_get h1)).lt
  dsimp only at h2
  show z + M.1 ≤ H1.size
  omega
section VMEM
variable {p : Program} {l : Launch} {e : Env} {R : Room} {s : State} {m : MethodId} {args : Array Value} {below : List Frame} {meth : Method} {c : Code} {D : va_G} {cy : Nat → ClassId} {z nL : Nat} {cc : ByteArray} {own : String} {Q : State → Prop} {cells slots : Nat} {M : Mm} {pc : Nat} {lv : List (Nat × Value)} {st : List Value}
theorem V_get (C : Cx p l s m args meth c D cy z nL cc own) {index ci f k : Nat} {fs : List Value} {v : Value} (hf : FG own index ci f) (hd : decode cc pc = .ok (.getfield index, 3)) (hM : M.2 k = oX ci fs) (hk : k < M.1) (hv : fs[f]? = some v) (kk : V p l e R s m args below meth c D z nL Q cells slots M (pc + 3) lv (v :: st)) : V p l e R s m args below meth c D z nL Q cells slots M pc lv (.ref (z + k) :: st) := by
  intro H locs ls hl hw hS
  obtain ⟨C', T, N, h1, h2, h3, h4⟩ := hf
  have he : (wl z M)[k]? = some (z + k, .inr (ci, fs)) := by rw [wl_get hk, hM]; rfl
  rcases h4 with h4 | ⟨host, h4⟩
  · exact va_get C.1 C.2.1 C.2.2.2.2.1 h3 C.2.2.2.1 C.2.2.2.2.2.1.1 hw.1 k he h1 f h2 (C.2.2.2.2.1 _ h4) (fun _ h9 => h9) hv hd (kk H locs ls hl hw hS)
  · exact va_getN C.1 C.2.1 C.2.2.2.2.1 h3 C.2.2.2.1 C.2.2.2.2.2.1.1 hw.1 k he h1 f h2 (nw_use (List.all_eq_true.mp nw_all_ok _ h4) (C.2.2.2.2.2.1.2.2.2.1 _ h4)) (fun _ h9 => h9) hv hd (kk H locs ls hl hw hS)
theorem V_put (C : Cx p l s m args meth c D cy z nL cc own) {index ci f k : Nat} {fs : List Value} {v : Value} {ty : FieldType} (hf : FP own index ci f ty) (hd : decode cc pc = .ok (.putfield index, 3)) (hM : M.2 k = oX ci fs) (hk : k < M.1) (hn : narrow ty v = v) (hfit : fits ty v = true) (hl' : f < fs.length) (kk : V p l e R s m args below meth c D z nL Q cells slots (mset M k (oX ci (fs.set f v))) (pc + 3) lv st) : V p l e R s m args below meth c D z nL Q cells slots M pc lv (v :: .ref (z + k) :: st) := by
  intro H locs ls hl hw hS
  obtain ⟨C', T, N, ty0, h1, h2, h3, h4, h5, h6, h7, h8⟩ := hf
  have he : (wl z M)[k]? = some (z + k, .inr (ci, fs)) := by rw [wl_get hk, hM]; rfl
  have ht : parseFieldDescriptor (T f).2.2.1 = some ty := by rw [h5 f h2, h8]
  rcases h4 with h4 | ⟨host, h4⟩
  · exact va_put C.1 C.2.1 C.2.2.2.2.1 h3 ty0 h5 h6 C.2.2.2.1 C.2.2.2.2.2.1.1 hw.1 (wl_D z M) hS k he h1 f h2 (C.2.2.2.2.1 _ h4) (fun _ h9 => h9) h7 ht hn hfit hl' hd (fun H1 locs1 hP hD hS1 => kk H1 locs1 ls hl (wW_set hk hP) hS1)
  · exact va_putN C.1 C.2.1 C.2.2.2.2.1 h3 ty0 h5 h6 C.2.2.2.1 C.2.2.2.2.2.1.1 hw.1 (wl_D z M) hS k he h1 f h2 (nw_use (List.all_eq_true.mp nw_all_ok _ h4) (C.2.2.2.2.2.1.2.2.2.1 _ h4)) (fun _ h9 => h9) h7 ht hn hfit hl' hd (fun H1 locs1 hP hD hS1 => kk H1 locs1 ls hl (wW_set hk hP) hS1)
theorem V_putF (C : Cx p l s m args meth c D cy z nL cc own) (hin : meth.name = "<init>") {index ci f k : Nat} {fs : List Value} {v : Value} {ty : FieldType} (hf : FF own index ci f ty) (hd : decode cc pc = .ok (.putfield index, 3)) (hM : M.2 k = oX ci fs) (hk : k < M.1) (hn : narrow ty v = v) (hfit : fits ty v = true) (hl' : f < fs.length) (kk : V p l e R s m args below meth c D z nL Q cells slots (mset M k (oX ci (fs.set f v))) (pc + 3) lv st) : V p l e R s m args below meth c D z nL Q cells slots M pc lv (v :: .ref (z + k) :: st) := by
  intro H locs ls hl hw hS
  obtain ⟨T, N, ty0, h1, h2, h3, h4, h5, h6, h7, h9, h8⟩ := hf
  have he : (wl z M)[k]? = some (z + k, .inr (ci, fs)) := by rw [wl_get hk, hM]; rfl
  have ht : parseFieldDescriptor (T f).2.2.1 = some ty := by rw [h5 f h2, h8]
  exact va_putF C.1 C.2.1 C.2.2.2.2.1 h3 ty0 h5 h6 C.2.2.2.1 C.2.2.2.2.2.1.1 hw.1 (wl_D z M) hS k he h1 f h2 (C.2.2.2.2.1 _ h4) (fun y h10 => by rw [h9] at h10; exact h10) h7 hin h9 ht hn hfit hl' hd (fun H1 locs1 hP hD hS1 => kk H1 locs1 ls hl (wW_set hk hP) hS1)
theorem V_iaload (C : Cx p l s m args meth c D cy z nL cc own) {k n : Nat} {g : Nat → Int} {i : Int} (hd : decode cc pc = .ok (.iaload, 1)) (hM : M.2 k = aI cy n g) (hk : k < M.1) (hi : 0 ≤ i ∧ i < n) (hn : n < 2147483648) (kk : V p l e R s m args below meth c D z nL Q cells slots M (pc + 1) lv (iv (g i.toNat) :: st)) : V p l e R s m args below meth c D z nL Q cells slots M pc lv (iv i :: .ref (z + k) :: st) := by
  intro H locs ls hl hw hS
  refine va_iald (t0 := 0) C.1 C.2.1 C.2.2.2.2.2.1.1 hw.1 k (by rw [wl_get hk, hM]; rfl) rfl (oi_in hi hn) hd ?_
  rw [oi_nat (by omega)]
  exact kk H locs ls hl hw hS
theorem V_baload (C : Cx p l s m args meth c D cy z nL cc own) {k n : Nat} {g : Nat → Int} {i : Int} (hd : decode cc pc = .ok (.baload, 1)) (hM : M.2 k = aB cy n g) (hk : k < M.1) (hi : 0 ≤ i ∧ i < n) (hn : n < 2147483648) (kk : V p l e R s m args below meth c D z nL Q cells slots M (pc + 1) lv (iv (g i.toNat) :: st)) : V p l e R s m args below meth c D z nL Q cells slots M pc lv (iv i :: .ref (z + k) :: st) := by
  intro H locs ls hl hw hS
  refine va_bald (t0 := 1) C.1 C.2.1 C.2.2.2.2.2.1.1 hw.1 k (by rw [wl_get hk, hM]; rfl) rfl (oi_in hi hn) hd ?_
  rw [oi_nat (by omega)]
  exact kk H locs ls hl hw hS
theorem V_zaload (C : Cx p l s m args meth c D cy z nL cc own) {k n : Nat} {g : Nat → Int} {i : Int} (hd : decode cc pc = .ok (.baload, 1)) (hM : M.2 k = aZ cy n g) (hk : k < M.1) (hi : 0 ≤ i ∧ i < n) (hn : n < 2147483648) (kk : V p l e R s m args below meth c D z nL Q cells slots M (pc + 1) lv (iv (g i.toNat) :: st)) : V p l e R s m args below meth c D z nL Q cells slots M pc lv (iv i :: .ref (z + k) :: st) := by
  intro H locs ls hl hw hS
  refine va_zald (t0 := 2) C.1 C.2.1 C.2.2.2.2.2.1.1 hw.1 k (by rw [wl_get hk, hM]; rfl) rfl (oi_in hi hn) hd ?_
  rw [oi_nat (by omega)]
  exact kk H locs ls hl hw hS
theorem V_laload (C : Cx p l s m args meth c D cy z nL cc own) {k n : Nat} {g : Nat → Int} {i : Int} (hd : decode cc pc = .ok (.laload, 1)) (hM : M.2 k = aL cy n g) (hk : k < M.1) (hi : 0 ≤ i ∧ i < n) (hn : n < 2147483648) (kk : V p l e R s m args below meth c D z nL Q cells slots M (pc + 1) lv (lgv (g i.toNat) :: st)) : V p l e R s m args below meth c D z nL Q cells slots M pc lv (iv i :: .ref (z + k) :: st) := by
  intro H locs ls hl hw hS
  refine va_lald (t0 := 5) C.1 C.2.1 C.2.2.2.2.2.1.1 hw.1 k (by rw [wl_get hk, hM]; rfl) rfl (oi_in hi hn) hd ?_
  rw [oi_nat (by omega)]
  exact kk H locs ls hl hw hS
theorem V_daload (C : Cx p l s m args meth c D cy z nL cc own) {k n : Nat} {g : Nat → UInt64} {i : Int} (hd : decode cc pc = .ok (.daload, 1)) (hM : M.2 k = aD cy n g) (hk : k < M.1) (hi : 0 ≤ i ∧ i < n) (hn : n < 2147483648) (kk : V p l e R s m args below meth c D z nL Q cells slots M (pc + 1) lv (.double (g i.toNat) :: st)) : V p l e R s m args below meth c D z nL Q cells slots M pc lv (iv i :: .ref (z + k) :: st) := by
  intro H locs ls hl hw hS
  refine va_dald (t0 := 6) C.1 C.2.1 C.2.2.2.2.2.1.1 hw.1 k (by rw [wl_get hk, hM]; rfl) rfl (oi_in hi hn) hd ?_
  rw [oi_nat (by omega)]
  exact kk H locs ls hl hw hS
theorem V_aaload (C : Cx p l s m args meth c D cy z nL cc own) {k n t a : Nat} {g : Nat → Option Nat} {i : Int} {C' : String} (ht : (tysL cy)[t]? = some (cy t, .object C')) (hd : decode cc pc = .ok (.aaload, 1)) (hM : M.2 k = aQ (cy t) n g) (hk : k < M.1) (hi : 0 ≤ i ∧ i < n) (hn : n < 2147483648) (hg : g i.toNat = some a) (kk : V p l e R s m args below meth c D z nL Q cells slots M (pc + 1) lv (.ref a :: st)) : V p l e R s m args below meth c D z nL Q cells slots M pc lv (iv i :: .ref (z + k) :: st) := by
  intro H locs ls hl hw hS
  refine va_aldq (t0 := t) C.1 C.2.1 C.2.2.2.2.2.1.1 hw.1 k (by rw [wl_get hk, hM]; rfl) ht (oi_in hi hn) hd ?_
  rw [oi_nat (by omega), hg]
  exact kk H locs ls hl hw hS
theorem V_iastore (C : Cx p l s m args meth c D cy z nL cc own) {k n : Nat} {g : Nat → Int} {i a : Int} (hd : decode cc pc = .ok (.iastore, 1)) (hM : M.2 k = aI cy n g) (hk : k < M.1) (hi : 0 ≤ i ∧ i < n) (hn : n < 2147483648) (kk : V p l e R s m args below meth c D z nL Q cells slots (mset M k (aI cy n (va_up g i.toNat a))) (pc + 1) lv st) : V p l e R s m args below meth c D z nL Q cells slots M pc lv (iv a :: iv i :: .ref (z + k) :: st) := by
  intro H locs ls hl hw hS
  refine va_iast (t0 := 0) C.1 C.2.1 C.2.2.2.2.2.1.1 hw.1 (wl_D z M) hS k (by rw [wl_get hk, hM]; rfl) rfl (oi_in hi hn) hd (fun H1 locs1 hP hD hS1 => kk H1 locs1 ls hl (wW_set hk ?_) hS1)
  rw [oi_nat (by omega), up_oi] at hP
  exact hP
theorem V_lastore (C : Cx p l s m args meth c D cy z nL cc own) {k n : Nat} {g : Nat → Int} {i a : Int} (hd : decode cc pc = .ok (.lastore, 1)) (hM : M.2 k = aL cy n g) (hk : k < M.1) (hi : 0 ≤ i ∧ i < n) (hn : n < 2147483648) (kk : V p l e R s m args below meth c D z nL Q cells slots (mset M k (aL cy n (va_up g i.toNat a))) (pc + 1) lv st) : V p l e R s m args below meth c D z nL Q cells slots M pc lv (lgv a :: iv i :: .ref (z + k) :: st) := by
  intro H locs ls hl hw hS
  refine va_last (t0 := 5) C.1 C.2.1 C.2.2.2.2.2.1.1 hw.1 (wl_D z M) hS k (by rw [wl_get hk, hM]; rfl) rfl (oi_in hi hn) hd (fun H1 locs1 hP hD hS1 => kk H1 locs1 ls hl (wW_set hk ?_) hS1)
  rw [oi_nat (by omega), up_ol] at hP
  exact hP
theorem V_dastore (C : Cx p l s m args meth c D cy z nL cc own) {k n : Nat} {g : Nat → UInt64} {i : Int} {a : UInt64} (hd : decode cc pc = .ok (.dastore, 1)) (hM : M.2 k = aD cy n g) (hk : k < M.1) (hi : 0 ≤ i ∧ i < n) (hn : n < 2147483648) (kk : V p l e R s m args below meth c D z nL Q cells slots (mset M k (aD cy n (vf_upd g i.toNat a))) (pc + 1) lv st) : V p l e R s m args below meth c D z nL Q cells slots M pc lv (.double a :: iv i :: .ref (z + k) :: st) := by
  intro H locs ls hl hw hS
  refine va_dast (t0 := 6) C.1 C.2.1 C.2.2.2.2.2.1.1 hw.1 (wl_D z M) hS k (by rw [wl_get hk, hM]; rfl) rfl (oi_in hi hn) hd (fun H1 locs1 hP hD hS1 => kk H1 locs1 ls hl (wW_set hk ?_) hS1)
  rw [oi_nat (by omega)] at hP
  exact hP
theorem V_bastore (C : Cx p l s m args meth c D cy z nL cc own) {k n : Nat} {g : Nat → Int} {i a : Int} (hd : decode cc pc = .ok (.bastore, 1)) (hM : M.2 k = aB cy n g) (hk : k < M.1) (hi : 0 ≤ i ∧ i < n) (hn : n < 2147483648) (ha : -128 ≤ a ∧ a < 128) (kk : V p l e R s m args below meth c D z nL Q cells slots (mset M k (aB cy n (va_up g i.toNat a))) (pc + 1) lv st) : V p l e R s m args below meth c D z nL Q cells slots M pc lv (iv a :: iv i :: .ref (z + k) :: st) := by
  intro H locs ls hl hw hS
  refine va_bast (t0 := 1) C.1 C.2.1 C.2.2.2.2.2.1.1 hw.1 (wl_D z M) hS k (by rw [wl_get hk, hM]; rfl) rfl (oi_in hi hn) hd (fun H1 locs1 hP hD hS1 => kk H1 locs1 ls hl (wW_set hk ?_) hS1)
  have hv : vp_nar .byte (Int32.ofInt a) = Int32.ofInt a := by
    rw [vp_nar_byte, Int32.toInt8_ofInt]
    exact Int8.toInt32_ofInt (by simpa [Int8.toInt_minValue] using ha.1) (by have := ha.2; simp [Int8.toInt_maxValue]; omega)
  rw [oi_nat (by omega), hv, up_oi] at hP
  exact hP
theorem V_i2b (C : Cx p l s m args meth c D cy z nL cc own) {a : Int} (hd : decode cc pc = .ok (.i2b, 1)) (ha : -128 ≤ a ∧ a < 128) (k : V p l e R s m args below meth c D z nL Q cells slots M (pc + 1) lv (iv a :: st)) : V p l e R s m args below meth c D z nL Q cells slots M pc lv (iv a :: st) :=
  fun H locs ls hl hw hS => lv_i2b C.1 C.2.1 hd (by rw [Int32.toInt8_ofInt]; exact Int8.toInt32_ofInt (by simpa [Int8.toInt_minValue] using ha.1) (by have := ha.2; simp [Int8.toInt_maxValue]; omega)) (k H locs ls hl hw hS)
theorem V_zastore (C : Cx p l s m args meth c D cy z nL cc own) {k n : Nat} {g : Nat → Int} {i a : Int} (hd : decode cc pc = .ok (.bastore, 1)) (hM : M.2 k = aZ cy n g) (hk : k < M.1) (hi : 0 ≤ i ∧ i < n) (hn : n < 2147483648) (ha : a = 0 ∨ a = 1) (kk : V p l e R s m args below meth c D z nL Q cells slots (mset M k (aZ cy n (va_up g i.toNat a))) (pc + 1) lv st) : V p l e R s m args below meth c D z nL Q cells slots M pc lv (iv a :: iv i :: .ref (z + k) :: st) := by
  intro H locs ls hl hw hS
  refine va_zast (t0 := 2) C.1 C.2.1 C.2.2.2.2.2.1.1 hw.1 (wl_D z M) hS k (by rw [wl_get hk, hM]; rfl) rfl (oi_in hi hn) hd (fun H1 locs1 hP hD hS1 => kk H1 locs1 ls hl (wW_set hk ?_) hS1)
  have hv : vp_nar .boolean (Int32.ofInt a) = Int32.ofInt a := by rcases ha with rfl | rfl <;> rfl
  rw [oi_nat (by omega), hv, up_oi] at hP
  exact hP
theorem V_aastore (C : Cx p l s m args meth c D cy z nL cc own) {k n t ci qk : Nat} {r : vw_C} {vs : List Value} {g : Nat → Option Nat} {i : Int} (ht : (tysL cy)[t]? = some (cy t, .object r.1)) (hc : vwCl[ci]? = some r) (hd : decode cc pc = .ok (.aastore, 1)) (hM : M.2 k = aQ (cy t) n g) (hk : k < M.1) (hi : 0 ≤ i ∧ i < n) (hn : n < 2147483648) (hv : M.2 qk = oX ci vs) (hqk : qk < M.1) (kk : V p l e R s m args below meth c D z nL Q cells slots (mset M k (aQ (cy t) n (va_up g i.toNat (some (z + qk))))) (pc + 1) lv st) : V p l e R s m args below meth c D z nL Q cells slots M pc lv (.ref (z + qk) :: iv i :: .ref (z + k) :: st) := by
  intro H locs ls hl hw hS
  refine va_astq (t0 := t) (r := r) (qk := qk) (ci := ci) C.1 C.2.1 C.2.2.2.2.2.1.1 hw.1 (wl_D z M) hS k (by rw [wl_get hk, hM]; rfl) ht (by rw [wl_get hqk, hv]; rfl) hc (oi_in hi hn) hd (fun H1 locs1 hP hD hS1 => kk H1 locs1 ls hl (wW_set hk ?_) hS1)
  rw [oi_nat (by omega)] at hP
  exact hP
theorem V_alen (C : Cx p l s m args meth c D cy z nL cc own) {k t : Nat} {a : vp_A} {ty : FieldType} (ht : (tysL cy)[t]? = some (cy t, ty)) (hd : decode cc pc = .ok (.arraylength, 1)) (hM : M.2 k = .inl (cy t, a)) (hk : k < M.1) (kk : V p l e R s m args below meth c D z nL Q cells slots M (pc + 1) lv (iv a.1 :: st)) : V p l e R s m args below meth c D z nL Q cells slots M pc lv (.ref (z + k) :: st) := by
  intro H locs ls hl hw hS
  exact va_alen (t0 := t) C.1 C.2.1 C.2.2.2.2.2.1.1 hw.1 k (by rw [wl_get hk, hM]) ht (Int32.ofInt_eq_ofNat (n := a.1)).symm hd (kk H locs ls hl hw hS)
theorem V_copy (C : Cx p l s m args meth c D cy z nL cc own) {index k0 k n0 n1 : Nat} {f g : Nat → Int} {sp dp n : Int} (hlink : Cond.methodLink own index arraycopyName ∈ lw_all) (hnat : Cond.native arraycopyName ∈ lw_all) (hstat : Cond.static arraycopyName ∈ lw_all) (hini : Cond.initialized "java/lang/System" ∈ lw_all) (hd : decode cc pc = .ok (.invokestatic index, 3)) (h0 : M.2 k0 = aI cy n0 f) (hk0 : k0 < M.1) (h1 : M.2 k = aI cy n1 g) (hk : k < M.1)
    (hs : 0 ≤ sp ∧ 0 ≤ n ∧ sp + n ≤ n0) (hdp : 0 ≤ dp ∧ dp + n ≤ n1) (hb0 : n0 < 2147483648) (hb1 : n1 < 2147483648) (hR : 1 ≤ R.frames ∧ (st.map fun v => v.category).sum + (nativeFrameWords "java/lang/System" "arraycopy" 5 + 11) ≤ R.locals)
    (kk : V p l e R s m args below meth c D z nL Q cells slots (mset M k (aI cy n1 (va_cpy f g sp.toNat dp.toNat n.toNat))) (pc + 3) lv st) : V p l e R s m args below meth c D z nL Q cells slots M pc lv (iv n :: iv dp :: .ref (z + k) :: iv sp :: .ref (z + k0) :: st) := by
  intro H locs ls hl hw hS
  have nn : ∀ a : Int, 0 ≤ a ∧ a < 2147483648 → ¬ Int32.ofInt a < 0 := fun a ha h => by
    rw [oi_0, oi_lt (by omega) (by omega)] at h
    omega
  refine va_copyi (ty := .int) C.1 C.2.1 (by rw [C.2.2.1]; exact hl.1.symm) C.2.2.2.1 (C.2.2.2.2.1 _ hlink) (C.2.2.2.2.1 _ hnat) (C.2.2.2.2.1 _ hstat) (C.2.2.2.2.1 _ hini) C.2.2.2.2.2.1.1 hw.1 (wl_D z M) hS k0 k 0 0 (by rw [wl_get hk0, h0]; rfl) (by rw [wl_get hk, h1]; rfl) rfl rfl rfl (nn sp (by omega)) (nn dp (by omega)) (nn n (by omega)) (by rw [oi_nat (by omega), oi_nat (by omega)]; omega) (by rw [oi_nat (by omega), oi_nat (by omega)]; omega) (fun _ _ => rfl) hR.1 hR.2 hd (fun H1 locs1 hP hD hS1 => kk H1 locs1 ls hl (wW_set hk ?_) hS1)
  rw [oi_nat (by omega), oi_nat (by omega), oi_nat (by omega), cpy_oi] at hP
  exact hP
theorem V_min (C : Cx p l s m args meth c D cy z nL cc own) {index : Nat} {a b : Int} (hlink : Cond.methodLink own index Lib.Math.min.name ∈ lw_all) (hstat : Cond.static Lib.Math.min.name ∈ lw_all) (hini : Cond.initialized "java/lang/Math" ∈ lw_all) (hcode : Cond.code Lib.Math.min.name Lib.Math.min.code 2 (some .int) ∈ lw_all) (hd : decode cc pc = .ok (.invokestatic index, 3)) (ha : -2147483648 ≤ a ∧ a < 2147483648) (hb : -2147483648 ≤ b ∧ b < 2147483648) (hR : 1 ≤ R.frames ∧ (st.map fun v => v.category).sum + 13 ≤ R.locals) (hc : cells ≤ R.cells ∧ slots ≤ R.slots) (kk : V p l e R s m args below meth c D z nL Q cells slots M (pc + 3) lv (iv (if b < a then b else a) :: st)) : V p l e R s m args below meth c D z nL Q cells slots M pc lv (iv b :: iv a :: st) := by
  intro H locs ls hl hw hS
  refine va_mmin C.1 C.2.1 (by rw [C.2.2.1]; exact hl.1.symm) C.2.2.2.1 (C.2.2.2.2.1 _ hlink) (C.2.2.2.2.1 _ hstat) (C.2.2.2.2.1 _ hini) (C.2.2.2.2.1 _ hcode) hR.1 hR.2 hc.1 hc.2 hd ?_
  have e1 : (if Int32.ofInt b < Int32.ofInt a then Int32.ofInt b else Int32.ofInt a) = Int32.ofInt (if b < a then b else a) := by
    by_cases h : b < a
    · rw [if_pos ((oi_lt hb ha).mpr h), if_pos h]
    · rw [if_neg (fun h2 => h ((oi_lt hb ha).mp h2)), if_neg h]
  rw [e1]
  exact kk H locs ls hl hw hS
theorem V_max (C : Cx p l s m args meth c D cy z nL cc own) {index : Nat} {a b : Int} (hlink : Cond.methodLink own index Lib.Math.max.name ∈ lw_all) (hstat : Cond.static Lib.Math.max.name ∈ lw_all) (hini : Cond.initialized "java/lang/Math" ∈ lw_all) (hcode : Cond.code Lib.Math.max.name Lib.Math.max.code 2 (some .int) ∈ lw_all) (hd : decode cc pc = .ok (.invokestatic index, 3)) (ha : -2147483648 ≤ a ∧ a < 2147483648) (hb : -2147483648 ≤ b ∧ b < 2147483648) (hR : 1 ≤ R.frames ∧ (st.map fun v => v.category).sum + 13 ≤ R.locals) (hc : cells ≤ R.cells ∧ slots ≤ R.slots) (kk : V p l e R s m args below meth c D z nL Q cells slots M (pc + 3) lv (iv (if a < b then b else a) :: st)) : V p l e R s m args below meth c D z nL Q cells slots M pc lv (iv b :: iv a :: st) := by
  intro H locs ls hl hw hS
  refine va_mmax C.1 C.2.1 (by rw [C.2.2.1]; exact hl.1.symm) C.2.2.2.1 (C.2.2.2.2.1 _ hlink) (C.2.2.2.2.1 _ hstat) (C.2.2.2.2.1 _ hini) (C.2.2.2.2.1 _ hcode) hR.1 hR.2 hc.1 hc.2 hd ?_
  have e1 : (if Int32.ofInt a < Int32.ofInt b then Int32.ofInt b else Int32.ofInt a) = Int32.ofInt (if a < b then b else a) := by
    by_cases h : a < b
    · rw [if_pos ((oi_lt ha hb).mpr h), if_pos h]
    · rw [if_neg (fun h2 => h ((oi_lt ha hb).mp h2)), if_neg h]
  rw [e1]
  exact kk H locs ls hl hw hS
end VMEM
end
section
/-! CALLS, ENDS, ENTRIES -/
theorem pc_blind {D : va_G} {cy : Nat → ClassId} {z : Nat} {x : Bool} {M : Mm} {av : List Value} : FrameBlind (pc_ D cy z x M av) := by
  intro a U g mk q
  obtain ⟨h1, h2, h3, h4⟩ := q
  exact ⟨h1, h2, h3, wB.same h4 rfl⟩
def YV (y : MethodName) (cc : ByteArray) (nL : Nat) (ret : Option FieldType) (n : Nat) : Prop := Cond.instanceMethod y ∈ lw_all ∧ Cond.selects y.cls y y ∈ lw_all ∧ Cond.initialized y.cls ∈ lw_all ∧ Cond.code y cc nL ret ∈ lw_all ∧ y.cls ≠ "java/lang/invoke/MethodHandle" ∧ y.cls ≠ "java/lang/invoke/VarHandle" ∧ (parseMethodDescriptor y.desc).map (fun d => d.parameters.length) = some n
def YS (y : MethodName) (cc : ByteArray) (nL : Nat) (ret : Option FieldType) (n : Nat) : Prop := Cond.static y ∈ lw_all ∧ Cond.initialized y.cls ∈ lw_all ∧ Cond.code y cc nL ret ∈ lw_all ∧ y.cls ≠ "java/lang/invoke/MethodHandle" ∧ y.cls ≠ "java/lang/invoke/VarHandle" ∧ (parseMethodDescriptor y.desc).map (fun d => d.parameters.length) = some n
def YI (y : MethodName) (cc : ByteArray) (nL : Nat) (n : Nat) : Prop := Cond.instanceMethod y ∈ lw_all ∧ y.name = "<init>" ∧ Cond.initialized y.cls ∈ lw_all ∧ Cond.code y cc nL none ∈ lw_all ∧ y.cls ≠ "java/lang/invoke/MethodHandle" ∧ y.cls ≠ "java/lang/invoke/VarHandle" ∧ (parseMethodDescriptor y.desc).map (fun d => d.parameters.length) = some n
theorem good_ws {y : MethodName} {cc : ByteArray} {nL : Nat} {ret : Option FieldType} (h : Cond.code y cc nL ret ∈ lw_all) : GoodIn lw_all (wsy y cc nL ret) := fun w hw => by
  have hm : w ∈ lw_all := by
    rcases List.mem_cons.mp hw with e | e
    · rw [e]; exact h
    · exact e
  exact ⟨hm, good_of_word (lw_all_good w hm)⟩
theorem good_V {own : String} {idx : Nat} {y : MethodName} {cc : ByteArray} {nL n : Nat} {ret : Option FieldType} (hy : YV y cc nL ret n) (hl : Cond.methodLink own idx y ∈ lw_all) : GoodIn lw_all (wsV own idx y.cls y (wsy y cc nL ret)) := by
  intro w hw
  simp only [wsV, List.mem_append, List.mem_cons, List.not_mem_nil, or_false] at hw
  rcases hw with (e | e | e | e) | e
  · subst e; exact ⟨hl, good_of_word (lw_all_good _ hl)⟩
  · subst e; exact ⟨hy.1, good_of_word (lw_all_good _ hy.1)⟩
  · subst e; exact ⟨hy.2.1, good_of_word (lw_all_good _ hy.2.1)⟩
  · subst e; exact ⟨hy.2.2.1, good_of_word (lw_all_good _ hy.2.2.1)⟩
  · exact good_ws hy.2.2.2.1 w (List.mem_cons.mpr e)
theorem good_S {own : String} {idx : Nat} {y : MethodName} {cc : ByteArray} {nL n : Nat} {ret : Option FieldType} (hy : YS y cc nL ret n) (hl : Cond.methodLink own idx y ∈ lw_all) : GoodIn lw_all (va_wsS own idx y (wsy y cc nL ret)) := by
  intro w hw
  simp only [va_wsS, List.mem_append, List.mem_cons, List.not_mem_nil, or_false] at hw
  rcases hw with (e | e | e) | e
  · subst e; exact ⟨hl, good_of_word (lw_all_good _ hl)⟩
  · subst e; exact ⟨hy.1, good_of_word (lw_all_good _ hy.1)⟩
  · subst e; exact ⟨hy.2.1, good_of_word (lw_all_good _ hy.2.1)⟩
  · exact good_ws hy.2.2.1 w (List.mem_cons.mpr e)
section VCALL
variable {p : Program} {l : Launch} {e : Env} {R : Room} {s : State} {m : MethodId} {args : Array Value} {below : List Frame} {meth : Method} {c : Code} {D : va_G} {cy : Nat → ClassId} {z nL : Nat} {cc : ByteArray} {own : String} {Q : State → Prop} {cells slots : Nat} {M : Mm} {pc : Nat} {lv : List (Nat × Value)} {st : List Value}
theorem pc_at (C : Cx p l s m args meth c D cy z nL cc own) {H : Heap} {locs : List Loc} {x : Bool} {av : List Value} (hw : wW D z M H) (hx : x = true → H.size = z + M.1) (hS : va_S (fun q => z ≤ q) s.heap H locs) : ∀ U : State, U.heap = H → s.WarmedH U.vm → pc_ D cy z x M av av.toArray U := fun U hU hW =>
  ⟨rfl, by rw [hU]; exact hw, by rw [hU]; exact hx, C.2.2.2.2.2.1.moved hW (by rw [hU]; exact hS.2.1)⟩
theorem V_run {mc ms : Nat} {rest : List Value} (h : ∀ (H : Heap) (locs : List Loc) (ls : Array Slot), lv_has ls nL lv → wW D z M H → va_S (fun q => z ≤ q) s.heap H locs → ∀ T : State, T.heap = H → Stand p l e R s m args below meth c T locs cells slots → ∃ (v : Option Value) (st₀ t T' : State) (L : List Loc), st₀.heap = H ∧ Stand p l e R s m args below meth c T' (locs ++ L) (cells + mc) (slots + ms) ∧ (∀ q ∈ L, z ≤ q.base) ∧ T'.heap = t.heap ∧ T'.vm = t.vm ∧ qc_ D z (fun r M' => V p l e R s m args below meth c D z nL Q (cells + mc) (slots + ms) M' (pc + 3) lv (pushr r rest)) #[] st₀ (.returned v) t ∧
      Goes p e below T (F0 m pc ls st) T' (F0 m (pc + 3) ls (v.toList ++ rest))) : V p l e R s m args below meth c D z nL Q cells slots M pc lv st := by
  intro H locs ls hl hw hS T hT X
  obtain ⟨v, st₀, t, T', L, h0, X', hL, e1, e2, ⟨⟨r, M', hv, hK, hw'⟩, hF⟩, hst⟩ := h H locs ls hl hw hS T hT X
  cases hv
  obtain ⟨k1, k2, k3⟩ := vx_keep h0 e1 hS (fun q _ h => h) (free := fun q => z ≤ q) (fun q h => h) hL hF
  obtain ⟨t2, a1, b1⟩ := hK T'.heap (locs ++ L) ls hl (by rw [e1]; exact hw') k3 T' rfl X'
  refine ⟨t2, hst t2 ?_, b1⟩
  rw [pushr_eq]
  exact a1
theorem V_runX {mc ms mc0 ms0 : Nat} {rest : List Value} {K0 : Option Value → Mm → Prop} {KX KX' : String → Prop} (hxt : ∀ x ∈ c.exceptionTable.toList, False) (hlk : meth.locks = false) (hKX : ∀ E, KX' E → KX E) (hcs : cells + mc ≤ mc0 ∧ slots + ms ≤ ms0)
    (h : ∀ (H : Heap) (locs : List Loc) (ls : Array Slot), lv_has ls nL lv → wW D z M H → va_S (fun q => z ≤ q) s.heap H locs → vx_Run p l e R s m args below meth c H locs cells slots mc ms (F0 m pc ls st) rest (qc_ D z (fun r M' => V p l e R s m args below meth c D z nL (vx_MQ below (qc_ D z K0) (xc_ D z M KX) args s mc0 ms0 (fun q => z ≤ q)) (cells + mc) (slots + ms) M' (pc + 3) lv (pushr r rest)) #[]) (xc_ D z M KX') (fun q => z ≤ q)) :
    V p l e R s m args below meth c D z nL (vx_MQ below (qc_ D z K0) (xc_ D z M KX) args s mc0 ms0 (fun q => z ≤ q)) cells slots M pc lv st := by
  intro H locs ls hl hw hS T hT X
  rcases h H locs ls hl hw hS T hT X with ⟨v, st₀, t, T', L, h0, X', hL, e1, e2, ⟨⟨r, M', hv, hK, hw'⟩, hF⟩, hst⟩ | ⟨q, st₀, t, T', L, E, ce, h0, X', hL, e1, e2, ⟨u, -, ⟨hE, hw'⟩, hF⟩, hce, hcv, hcl, hst⟩
  · cases hv
    obtain ⟨k1, k2, k3⟩ := vx_keep h0 e1 hS (fun q _ h => h) (free := fun q => z ≤ q) (fun q h => h) hL hF
    obtain ⟨t2, a1, b1⟩ := hK T'.heap (locs ++ L) ls hl (by rw [e1]; exact hw') k3 T' rfl X'
    refine ⟨t2, hst t2 ?_, b1⟩
    rw [pushr_eq]
    exact a1
  · obtain ⟨k1, k2, k3⟩ := vx_keep h0 e1 hS (fun q _ h => h) (free := fun q => z ≤ q) (fun q h => h) hL hF
    obtain ⟨t2, a1, b1⟩ := vx_out (pc := pc) (ls := ls) (rest := rest) (Qc := qc_ D z K0) (XC := xc_ D z M KX) (free := fun q => z ≤ q) (mc := mc0) (ms := ms0) (fun y hy => (hxt y hy).elim) hlk (by rw [e1]; exact hce) hcv hcl (fun t' ht' _ => ⟨(), trivial, ⟨hKX E hE, by rw [ht', e1]; exact hw'⟩, k3.F ht'⟩) k3.2.2 hcs.1 hcs.2 T' rfl X'
    exact ⟨t2, hst.trans a1, b1⟩
theorem V_callV (C : Cx p l s m args meth c D cy z nL cc own) {y : MethodName} {cc' : ByteArray} {nL' n fr lo mc ms idx k ci : Nat} {ret : Option FieldType} {r : vw_C} {fs As rest : List Value} (hy : YV y cc' nL' ret n) (hl : Cond.methodLink own idx y ∈ lw_all) (hd : decode cc pc = .ok (.invokevirtual idx, 3)) (hcl : vwCl[ci]? = some r) (hr : r.1 = y.cls) (hM : M.2 k = oX ci fs) (hk : k < M.1) (hst : st = As.reverse ++ .ref (z + k) :: rest) (hn : As.length = n) (hcat : (rest.map fun v => v.category).sum ≤ 8) (hR : fr + 1 ≤ R.frames ∧ 8 + (nL' + 11) + lo ≤ R.locals) (hf : cells + mc ≤ R.cells ∧ slots + ms ≤ R.slots)
    (hMt : MT l D cy z false y (wsy y cc' nL' ret) fr lo mc ms M (.ref (z + k) :: As) (fun r M' => V p l e R s m args below meth c D z nL Q (cells + mc) (slots + ms) M' (pc + 3) lv (pushr r rest))) : V p l e R s m args below meth c D z nL Q cells slots M pc lv st := by
  refine V_run (mc := mc) (ms := ms) (rest := rest) (fun H locs ls hl' hw hS => ?_)
  have hrec := va_recv (q0 := k) C.2.2.2.2.2.1.1 hw.1 hcl (by rw [wl_get hk, hM]; rfl)
  rw [hr] at hrec
  exact va_runV (C := y.cls) (As := As) (rest := rest) ⟨C.1, C.2.1, C.2.2.1, C.2.2.2.1, C.2.2.2.2.1⟩ hMt (cwV n C.2.2.2.2.1 (good_V hy hl) rfl rfl rfl ⟨rfl, hy.2.2.2.2⟩ hR) ⟨pc_blind, hrec, pc_at C hw (fun h => nomatch h) hS⟩ rfl hn hl'.1 hst (lv_room hcat) hd hf
theorem V_callS (C : Cx p l s m args meth c D cy z nL cc own) {y : MethodName} {cc' : ByteArray} {nL' n fr lo mc ms idx : Nat} {ret : Option FieldType} {As rest : List Value} (hy : YS y cc' nL' ret n) (hl : Cond.methodLink own idx y ∈ lw_all) (hd : decode cc pc = .ok (.invokestatic idx, 3)) (hst : st = As.reverse ++ rest) (hn : As.length = n) (hcat : (rest.map fun v => v.category).sum ≤ 8) (hR : fr + 1 ≤ R.frames ∧ 8 + (nL' + 11) + lo ≤ R.locals) (hf : cells + mc ≤ R.cells ∧ slots + ms ≤ R.slots)
    (hMt : MT l D cy z false y (wsy y cc' nL' ret) fr lo mc ms M As (fun r M' => V p l e R s m args below meth c D z nL Q (cells + mc) (slots + ms) M' (pc + 3) lv (pushr r rest))) : V p l e R s m args below meth c D z nL Q cells slots M pc lv st := by
  refine V_run (mc := mc) (ms := ms) (rest := rest) (fun H locs ls hl' hw hS => ?_)
  exact va_runS (As := As) (rest := rest) ⟨C.1, C.2.1, C.2.2.1, C.2.2.2.1, C.2.2.2.2.1⟩ hMt (va_cwS n C.2.2.2.2.1 (good_S hy hl) rfl rfl rfl hy.2.2.2 hR) ⟨pc_blind, pc_at C hw (fun h => nomatch h) hS⟩ rfl hn hl'.1 hst (lv_room hcat) hd hf
/-- a constructor that makes cells: the heap is just as large as the world -/
theorem V_callI (C : Cx p l s m args meth c D cy z nL cc own) {y : MethodName} {cc' : ByteArray} {nL' n fr lo mc ms idx k : Nat} {As rest : List Value} (hy : YI y cc' nL' n) (hl : Cond.methodLink own idx y ∈ lw_all ∨ ∃ host, Cond.methodLinkNest own idx y host ∈ nw_all) (hd : decode cc pc = .ok (.invokespecial idx, 3)) (hst : st = As.reverse ++ .ref (z + k) :: rest) (hn : As.length = n) (hcat : (rest.map fun v => v.category).sum ≤ 8) (hR : fr + 1 ≤ R.frames ∧ 8 + (nL' + 11) + lo ≤ R.locals) (hf : cells + mc ≤ R.cells ∧ slots + ms ≤ R.slots) (hz : s.heap.size + cells = z + M.1)
    (hMt : MT l D cy z true y (wsy y cc' nL' none) fr lo mc ms M (.ref (z + k) :: As) (fun r M' => V p l e R s m args below meth c D z nL Q (cells + mc) (slots + ms) M' (pc + 3) lv (pushr r rest))) : V p l e R s m args below meth c D z nL Q cells slots M pc lv st := by
  refine V_run (mc := mc) (ms := ms) (rest := rest) (fun H locs ls hl' hw hS T hT X => ?_)
  have hx : true = true → H.size = z + M.1 := fun _ => by
    have h1 : T.heap.size ≤ s.heap.size + cells := X.same.2.2.1
    rw [hT] at h1
    have := hw.2
    omega
  rcases hl with hl | ⟨host, hl⟩
  · exact va_runI (As := As) (rest := rest) ⟨C.1, C.2.1, C.2.2.1, C.2.2.2.1, C.2.2.2.2.1⟩ hMt (cwI n C.2.2.2.2.1 (good_ws hy.2.2.2.1) rfl rfl rfl (C.2.2.2.2.1 _ hy.2.2.1) (C.2.2.2.2.1 _ hl) (C.2.2.2.2.1 _ hy.1) hy.2.1 hy.2.2.2.2 hR) ⟨pc_blind, pc_at C hw hx hS⟩ rfl hn hl'.1 hst (lv_room hcat) hd hf T hT X
  · exact va_runIN (As := As) (rest := rest) ⟨C.1, C.2.1, C.2.2.1, C.2.2.2.1, C.2.2.2.2.1⟩ hMt ⟨va_cnB n C.2.2.2.2.1 (good_ws hy.2.2.2.1) rfl rfl rfl (C.2.2.2.2.2.1.2.2.2.1 _ hl) (C.2.2.2.2.1 _ hy.2.2.1) hy.2.2.2.2 hR, hy.2.1, C.2.2.2.2.1 _ hy.1⟩ ⟨pc_blind, pc_at C hw hx hS⟩ rfl hn hl'.1 hst (lv_room hcat) hd hf T hT X
theorem V_objInit (C : Cx p l s m args meth c D cy z nL cc own) {idx a : Nat} (hl : Cond.methodLink own idx Lib.objectInit ∈ lw_all) (hi : Cond.instanceMethod Lib.objectInit ∈ lw_all) (hc : Cond.code Lib.objectInit ⟨#[0xb1]⟩ 1 none ∈ lw_all) (hd : decode cc pc = .ok (.invokespecial idx, 3)) (hR : 1 ≤ R.frames ∧ (st.map fun v => v.category).sum + 12 ≤ R.locals) (k : V p l e R s m args below meth c D z nL Q cells slots M (pc + 3) lv st) : V p l e R s m args below meth c D z nL Q cells slots M pc lv (.ref a :: st) := by
  intro H locs ls hl' hw hS
  refine W.objInit C.1 C.2.1 C.2.2.2.1 (C.2.2.2.2.1 _ hl) (C.2.2.2.2.1 _ hi) (C.2.2.2.2.1 _ hc) (a := a) (rest := st) rfl (by rw [C.2.2.1]; exact hl'.1) rfl hd hR.1 (by show 2 * 0 + _ + 12 ≤ _; omega) ?_
  exact k H locs ls hl' hw hS
theorem V_callVX (C : Cx p l s m args meth c D cy z nL cc own) {y : MethodName} {cc' : ByteArray} {nL' n fr lo mc ms mc0 ms0 idx k ci : Nat} {ret : Option FieldType} {r : vw_C} {fs As rest : List Value} {K0 : Option Value → Mm → Prop} {KX KX' : String → Prop} (hxt : ∀ x ∈ c.exceptionTable.toList, False) (hy : YV y cc' nL' ret n) (hl : Cond.methodLink own idx y ∈ lw_all) (hd : decode cc pc = .ok (.invokevirtual idx, 3)) (hcl : vwCl[ci]? = some r) (hr : r.1 = y.cls) (hM : M.2 k = oX ci fs) (hk : k < M.1) (hst : st = As.reverse ++ .ref (z + k) :: rest) (hn : As.length = n) (hcat : (rest.map fun v => v.category).sum ≤ 8) (hR : fr + 1 ≤ R.frames ∧ 8 + (nL' + 11) + lo ≤ R.locals) (hf : cells + mc ≤ R.cells ∧ slots + ms ≤ R.slots) (hKX : ∀ E, KX' E → KX E) (hcs : cells + mc ≤ mc0 ∧ slots + ms ≤ ms0)
    (hMt : MX l D cy z false y (wsy y cc' nL' ret) fr lo mc ms M (.ref (z + k) :: As) (fun r M' => V p l e R s m args below meth c D z nL (vx_MQ below (qc_ D z K0) (xc_ D z M KX) args s mc0 ms0 (fun q => z ≤ q)) (cells + mc) (slots + ms) M' (pc + 3) lv (pushr r rest)) KX') : V p l e R s m args below meth c D z nL (vx_MQ below (qc_ D z K0) (xc_ D z M KX) args s mc0 ms0 (fun q => z ≤ q)) cells slots M pc lv st := by
  refine V_runX (rest := rest) hxt C.2.2.2.2.2.2.1 hKX hcs (fun H locs ls hl' hw hS => ?_)
  have hrec := va_recv (q0 := k) C.2.2.2.2.2.1.1 hw.1 hcl (by rw [wl_get hk, hM]; rfl)
  rw [hr] at hrec
  exact vx_runV (C := y.cls) (As := As) (rest := rest) ⟨C.1, C.2.1, C.2.2.1, C.2.2.2.1, C.2.2.2.2.1⟩ hMt (cwV n C.2.2.2.2.1 (good_V hy hl) rfl rfl rfl ⟨rfl, hy.2.2.2.2⟩ hR) ⟨pc_blind, hrec, pc_at C hw (fun h => nomatch h) hS⟩ rfl hn hl'.1 hst (lv_room hcat) hd hf
theorem V_callSX (C : Cx p l s m args meth c D cy z nL cc own) {y : MethodName} {cc' : ByteArray} {nL' n fr lo mc ms mc0 ms0 idx : Nat} {ret : Option FieldType} {As rest : List Value} {K0 : Option Value → Mm → Prop} {KX KX' : String → Prop} (hxt : ∀ x ∈ c.exceptionTable.toList, False) (hy : YS y cc' nL' ret n) (hl : Cond.methodLink own idx y ∈ lw_all) (hd : decode cc pc = .ok (.invokestatic idx, 3)) (hst : st = As.reverse ++ rest) (hn : As.length = n) (hcat : (rest.map fun v => v.category).sum ≤ 8) (hR : fr + 1 ≤ R.frames ∧ 8 + (nL' + 11) + lo ≤ R.locals) (hf : cells + mc ≤ R.cells ∧ slots + ms ≤ R.slots) (hKX : ∀ E, KX' E → KX E) (hcs : cells + mc ≤ mc0 ∧ slots + ms ≤ ms0)
    (hMt : MX l D cy z false y (wsy y cc' nL' ret) fr lo mc ms M As (fun r M' => V p l e R s m args below meth c D z nL (vx_MQ below (qc_ D z K0) (xc_ D z M KX) args s mc0 ms0 (fun q => z ≤ q)) (cells + mc) (slots + ms) M' (pc + 3) lv (pushr r rest)) KX') : V p l e R s m args below meth c D z nL (vx_MQ below (qc_ D z K0) (xc_ D z M KX) args s mc0 ms0 (fun q => z ≤ q)) cells slots M pc lv st := by
  refine V_runX (rest := rest) hxt C.2.2.2.2.2.2.1 hKX hcs (fun H locs ls hl' hw hS => ?_)
  exact vx_runS (As := As) (rest := rest) ⟨C.1, C.2.1, C.2.2.1, C.2.2.2.1, C.2.2.2.2.1⟩ hMt (va_cwS n C.2.2.2.2.1 (good_S hy hl) rfl rfl rfl hy.2.2.2 hR) ⟨pc_blind, pc_at C hw (fun h => nomatch h) hS⟩ rfl hn hl'.1 hst (lv_room hcat) hd hf
-- ends
theorem V_iret (C : Cx p l s m args meth c D cy z nL cc own) (hr : meth.sig.returnType = some .int) {K : Option Value → Mm → Prop} {a : Int} (hd : decode cc pc = .ok (.ireturn, 1)) (hK : K (some (iv a)) M) : V p l e R s m args below meth c D z nL (MQ below (qc_ D z K) args s cells slots (fun q => z ≤ q)) cells slots M pc lv [iv a] :=
  fun H locs ls hl hw hS => W.iret C.1 C.2.1 hr (fun t ht hW => ⟨⟨_, M, rfl, hK, by rw [ht]; exact hw⟩, hS.F ht⟩) hS.2.2 hd C.2.2.2.2.2.2.1
theorem V_zret (C : Cx p l s m args meth c D cy z nL cc own) (hr : meth.sig.returnType = some .boolean) {K : Option Value → Mm → Prop} {a : Int} (ha : a = 0 ∨ a = 1) (hd : decode cc pc = .ok (.ireturn, 1)) (hK : K (some (iv a)) M) : V p l e R s m args below meth c D z nL (MQ below (qc_ D z K) args s cells slots (fun q => z ≤ q)) cells slots M pc lv [iv a] :=
  fun H locs ls hl hw hS => W.zret C.1 C.2.1 hr (by rcases ha with rfl | rfl <;> rfl) (fun t ht hW => ⟨⟨_, M, rfl, hK, by rw [ht]; exact hw⟩, hS.F ht⟩) hS.2.2 hd C.2.2.2.2.2.2.1
theorem V_vret (C : Cx p l s m args meth c D cy z nL cc own) (hr : meth.sig.returnType = none) {K : Option Value → Mm → Prop} (hd : decode cc pc = .ok (.return_, 1)) (hK : K none M) : V p l e R s m args below meth c D z nL (MQ below (qc_ D z K) args s cells slots (fun q => z ≤ q)) cells slots M pc lv [] :=
  fun H locs ls hl hw hS => W.vret C.1 C.2.1 hr (fun t ht hW => ⟨⟨_, M, rfl, hK, by rw [ht]; exact hw⟩, hS.F ht⟩) hS.2.2 hd C.2.2.2.2.2.2.1
theorem V_lret (C : Cx p l s m args meth c D cy z nL cc own) (hr : meth.sig.returnType = some .long) {K : Option Value → Mm → Prop} {a : Int} (hd : decode cc pc = .ok (.lreturn, 1)) (hK : K (some (lgv a)) M) : V p l e R s m args below meth c D z nL (MQ below (qc_ D z K) args s cells slots (fun q => z ≤ q)) cells slots M pc lv [lgv a] :=
  fun H locs ls hl hw hS => W.lret C.1 C.2.1 hr (fun t ht hW => ⟨⟨_, M, rfl, hK, by rw [ht]; exact hw⟩, hS.F ht⟩) hS.2.2 hd C.2.2.2.2.2.2.1
theorem V_dret (C : Cx p l s m args meth c D cy z nL cc own) (hr : meth.sig.returnType = some .double) {K : Option Value → Mm → Prop} {a : UInt64} (hd : decode cc pc = .ok (.dreturn, 1)) (hK : K (some (.double a)) M) : V p l e R s m args below meth c D z nL (MQ below (qc_ D z K) args s cells slots (fun q => z ≤ q)) cells slots M pc lv [.double a] :=
  fun H locs ls hl hw hS => W.dret C.1 C.2.1 hr (fun t ht hW => ⟨⟨_, M, rfl, hK, by rw [ht]; exact hw⟩, hS.F ht⟩) hS.2.2 hd C.2.2.2.2.2.2.1
theorem V_aret (C : Cx p l s m args meth c D cy z nL cc own) {o : String} (hr : meth.sig.returnType = some (.object o)) {K : Option Value → Mm → Prop} {a : Nat} (hd : decode cc pc = .ok (.areturn, 1)) (hK : K (some (.ref a)) M) : V p l e R s m args below meth c D z nL (MQ below (qc_ D z K) args s cells slots (fun q => z ≤ q)) cells slots M pc lv [.ref a] :=
  fun H locs ls hl hw hS => W.aret C.1 C.2.1 hr (Or.inl ⟨o, rfl⟩) (Or.inr ⟨a, rfl⟩) (fun t ht hW => ⟨⟨_, M, rfl, hK, by rw [ht]; exact hw⟩, hS.F ht⟩) hS.2.2 hd C.2.2.2.2.2.2.1
/-- in a method that may throw: its plain end -/
theorem V_ret {K : Option Value → Mm → Prop} {XC : String → State → State → Prop} {mc ms : Nat} (k : V p l e R s m args below meth c D z nL (MQ below (qc_ D z K) args s mc ms (fun q => z ≤ q)) cells slots M pc lv st) : V p l e R s m args below meth c D z nL (vx_MQ below (qc_ D z K) XC args s mc ms (fun q => z ≤ q)) cells slots M pc lv st :=
  fun H locs ls hl hw hS => vx_ret (k H locs ls hl hw hS)
theorem V_throw (C : Cx p l s m args meth c D cy z nL cc own) (hlt : l.stackTraces = false) (hxt : ∀ x ∈ c.exceptionTable.toList, False) {cls text : String} {names : List String} {ik is ic mc ms : Nat} {K : Option Value → Mm → Prop} {KX : String → Prop} (hcls : Bundle.fit cls = true) (hnames : ∀ n ∈ names, Bundle.fit n = true) (hk : Cond.classLink own ik cls ∈ lw_all) (hini : Cond.initialized cls ∈ lw_all) (hstr : ∃ sa, vk_R own is text sa s) (hat : ∀ w ∈ vx_atS own ic cls names, w ∈ lw_all ∨ w ∈ nw_all) (hgood : ∀ w ∈ Cond.classLink own ik cls :: Cond.initialized cls :: vx_atS own ic cls names, vx_ot w = true)
    (d0 : decode cc pc = .ok (.new ik, 3)) (d3 : decode cc (pc + 3) = .ok (.dup, 1)) (d4 : decode cc (pc + 4) = .ok (.ldc is, 2)) (d6 : decode cc (pc + 6) = .ok (.invokespecial ic, 3)) (d9 : decode cc (pc + 9) = .ok (.athrow, 1)) (hR : names.length + 3 < R.frames ∧ (st.map fun v => v.category).sum + (13 * (names.length + 1) + 43) ≤ R.locals) (hf : cells + 1 ≤ R.cells ∧ slots + 6 ≤ R.slots) (hcs : cells + 1 ≤ mc ∧ slots + 6 ≤ ms) (hKX : KX cls) :
    V p l e R s m args below meth c D z nL (vx_MQ below (qc_ D z K) (xc_ D z M KX) args s mc ms (fun q => z ≤ q)) cells slots M pc lv st := by
  intro H locs ls hl hw hS
  obtain ⟨sa, hsa⟩ := hstr
  have hB := C.2.2.2.2.2.1
  refine vx_throwS (A := fun q => z ≤ q) C.1 C.2.1 hlt C.2.2.2.1 hcls hnames (C.2.2.2.2.1 _ hk) (C.2.2.2.2.1 _ hini) hsa (fun w hw => (hat w hw).elim (C.2.2.2.2.1 _) (fun h => nw_use (List.all_eq_true.mp nw_all_ok _ h) (hB.2.2.2.1 _ h))) hgood hB.2.1 hB.2.2.1 hS (by rw [C.2.2.1]; exact hl.1) d0 d3 d4 d6 d9 (fun y hy => (hxt y hy).elim) hR.1 hR.2 hf.1 hf.2 C.2.2.2.2.2.2.1 (fun t hv hz hk2 => ?_) hS.2.2 hcs.1 hcs.2
  refine ⟨(), trivial, ⟨hKX, hw.1.kept (fun k q hq => hk2 _ (hw.1 k q hq).lt), Nat.le_trans hw.2 hz⟩, Nat.le_trans hS.1 hz, fun q h1 h2 => ?_⟩
  rw [hk2 q (Nat.lt_of_lt_of_le h1 hS.1)]
  exact hS.2.1 q h1 h2
end VCALL
section VENTRY
variable {l : Launch} {D : va_G} {cy : Nat → ClassId} {z : Nat} {x : Bool} {y : MethodName} {cc : ByteArray} {nL : Nat} {ret : Option FieldType} {fr lo mc ms : Nat} {M : Mm} {av : List Value} {K : Option Value → Mm → Prop} {KX : String → Prop}
theorem MT_of (hy : plainName y.cls = true) (hc : Cond.code y cc nL ret ∈ lw_all) (hlen : (lg_sl av).length ≤ nL)
    (body : ∀ (p : Program) (e : Env) (s : State) (m : MethodId) (args : Array Value) (below : List Frame) (meth : Method) (c : Code), Cx p l s m args meth c D cy z nL cc y.cls → meth.sig.returnType = ret → (x = true → s.heap.size = z + M.1 ∧ meth.name = y.name) → V p l e { frames := fr, cells := mc, slots := ms, locals := lo } s m args below meth c D z nL (MQ below (qc_ D z K) args s mc ms (fun q => z ≤ q)) 0 0 M 0 (lv_args 0 av) []) :
    MT l D cy z x y (wsy y cc nL ret) fr lo mc ms M av K := by
  refine Met.ofW (cc := cc) (maxL := nL) (ret := ret) hy rfl ?_
  intro p e s m args below meth c s₁ B hml hv
  obtain ⟨rfl, hw, hx, hB⟩ := hv
  have hts := atoms_spec (ws := wsy y cc nL ret) B.pre
  have C : Cx p l s m av.toArray meth c D cy z nL cc y.cls := ⟨B.exec, B.bytes, hml, findClass_of_methodNamed B.named, fun w hw => hts w (List.mem_cons_of_mem _ hw), hB, B.notSynchronized, by have := hw.2; omega⟩
  rw [lg_entry_eq]
  exact body p e s m av.toArray below meth c C B.returns (fun h => ⟨hx h, (name_of_methodNamed B.named B.method).1⟩) s.heap [] _ (lv_entry av hlen) hw va_S.rf
theorem MX_of (hy : plainName y.cls = true) (hc : Cond.code y cc nL ret ∈ lw_all) (hlen : (lg_sl av).length ≤ nL)
    (body : ∀ (p : Program) (e : Env) (s : State) (m : MethodId) (args : Array Value) (below : List Frame) (meth : Method) (c : Code), Cx p l s m args meth c D cy z nL cc y.cls → meth.sig.returnType = ret → (∀ x ∈ c.exceptionTable.toList, False) → V p l e { frames := fr, cells := mc, slots := ms, locals := lo } s m args below meth c D z nL (vx_MQ below (qc_ D z K) (xc_ D z M KX) args s mc ms (fun q => z ≤ q)) 0 0 M 0 (lv_args 0 av) []) :
    MX l D cy z x y (wsy y cc nL ret) fr lo mc ms M av K KX := by
  refine vx_ofW (cc := cc) (maxL := nL) (ret := ret) hy rfl ?_
  intro p e s m args below meth c s₁ B hml hxt hv
  obtain ⟨rfl, hw, hx, hB⟩ := hv
  have hts := atoms_spec (ws := wsy y cc nL ret) B.pre
  have C : Cx p l s m av.toArray meth c D cy z nL cc y.cls := ⟨B.exec, B.bytes, hml, findClass_of_methodNamed B.named, fun w hw => hts w (List.mem_cons_of_mem _ hw), hB, B.notSynchronized, by have := hw.2; omega⟩
  rw [lg_entry_eq]
  exact body p e s m av.toArray below meth c C B.returns hxt s.heap [] _ (lv_entry av hlen) hw va_S.rf
end VENTRY
end
