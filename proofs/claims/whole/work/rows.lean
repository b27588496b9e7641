section
-- ===== PART A: goes FIRST, ahead of the names: the tables' words, and 'selects' of the private methods out of them =====
/-- a private method of a class that the tables say can be made, by its rows of tables_1 -/
def lw_okq (q : MethodName × Nat) : Prop := (q.1.cls ≠ "java/lang/invoke/MethodHandle" ∧ q.1.cls ≠ "java/lang/invoke/VarHandle") ∧ Cond.instantiable q.1.cls q.2 ∈ tables_1 ∧ Cond.privateMethod q.1 ∈ tables_1 ∧ Cond.instanceMethod q.1 ∈ tables_1
theorem lw_p0 : lw_okq (⟨"SleepWork$Reader", "open", "(LSleepWork$Tape;LSleepWork$House;LSleepWork$State;)V"⟩, 14) := ⟨⟨by decide +kernel, by decide +kernel⟩, List.mem_of_getElem? (i := 421) (by decide +kernel), List.mem_of_getElem? (i := 609) (by decide +kernel), List.mem_of_getElem? (i := 610) (by decide +kernel)⟩
theorem lw_p1 : lw_okq (⟨"SleepWork$Scanner", "scanNext", "(ILSleepWork$Tape;)V"⟩, 6) := ⟨⟨by decide +kernel, by decide +kernel⟩, List.mem_of_getElem? (i := 427) (by decide +kernel), List.mem_of_getElem? (i := 619) (by decide +kernel), List.mem_of_getElem? (i := 620) (by decide +kernel)⟩
theorem lw_p2 : lw_okq (⟨"SleepWork$Scanner", "scanLetters", "(ILSleepWork$Tape;)V"⟩, 6) := ⟨⟨by decide +kernel, by decide +kernel⟩, List.mem_of_getElem? (i := 427) (by decide +kernel), List.mem_of_getElem? (i := 629) (by decide +kernel), List.mem_of_getElem? (i := 630) (by decide +kernel)⟩
theorem lw_p3 : lw_okq (⟨"SleepWork$Scanner", "scanDigits", "(ILSleepWork$Tape;)V"⟩, 6) := ⟨⟨by decide +kernel, by decide +kernel⟩, List.mem_of_getElem? (i := 427) (by decide +kernel), List.mem_of_getElem? (i := 636) (by decide +kernel), List.mem_of_getElem? (i := 637) (by decide +kernel)⟩
theorem lw_p4 : lw_okq (⟨"SleepWork$Reader", "isNext", "(I)Z"⟩, 14) := ⟨⟨by decide +kernel, by decide +kernel⟩, List.mem_of_getElem? (i := 421) (by decide +kernel), List.mem_of_getElem? (i := 700) (by decide +kernel), List.mem_of_getElem? (i := 701) (by decide +kernel)⟩
theorem lw_p5 : lw_okq (⟨"SleepWork$Reader", "readRoom", "()V"⟩, 14) := ⟨⟨by decide +kernel, by decide +kernel⟩, List.mem_of_getElem? (i := 421) (by decide +kernel), List.mem_of_getElem? (i := 704) (by decide +kernel), List.mem_of_getElem? (i := 705) (by decide +kernel)⟩
theorem lw_p6 : lw_okq (⟨"SleepWork$Reader", "takeFirst", "(III)V"⟩, 14) := ⟨⟨by decide +kernel, by decide +kernel⟩, List.mem_of_getElem? (i := 421) (by decide +kernel), List.mem_of_getElem? (i := 708) (by decide +kernel), List.mem_of_getElem? (i := 709) (by decide +kernel)⟩
theorem lw_p7 : lw_okq (⟨"SleepWork$Reader", "fail", "(II)V"⟩, 14) := ⟨⟨by decide +kernel, by decide +kernel⟩, List.mem_of_getElem? (i := 421) (by decide +kernel), List.mem_of_getElem? (i := 712) (by decide +kernel), List.mem_of_getElem? (i := 713) (by decide +kernel)⟩
theorem lw_p8 : lw_okq (⟨"SleepWork$Reader", "take", "(I)Z"⟩, 14) := ⟨⟨by decide +kernel, by decide +kernel⟩, List.mem_of_getElem? (i := 421) (by decide +kernel), List.mem_of_getElem? (i := 716) (by decide +kernel), List.mem_of_getElem? (i := 717) (by decide +kernel)⟩
theorem lw_p9 : lw_okq (⟨"SleepWork$Reader", "takeNewName", "([JI)V"⟩, 14) := ⟨⟨by decide +kernel, by decide +kernel⟩, List.mem_of_getElem? (i := 421) (by decide +kernel), List.mem_of_getElem? (i := 720) (by decide +kernel), List.mem_of_getElem? (i := 721) (by decide +kernel)⟩
theorem lw_p10 : lw_okq (⟨"SleepWork$Reader", "failLate", "(I)V"⟩, 14) := ⟨⟨by decide +kernel, by decide +kernel⟩, List.mem_of_getElem? (i := 421) (by decide +kernel), List.mem_of_getElem? (i := 727) (by decide +kernel), List.mem_of_getElem? (i := 728) (by decide +kernel)⟩
theorem lw_p11 : lw_okq (⟨"SleepWork$Reader", "readDoor", "()V"⟩, 14) := ⟨⟨by decide +kernel, by decide +kernel⟩, List.mem_of_getElem? (i := 421) (by decide +kernel), List.mem_of_getElem? (i := 731) (by decide +kernel), List.mem_of_getElem? (i := 732) (by decide +kernel)⟩
theorem lw_p12 : lw_okq (⟨"SleepWork$Reader", "takeKnownName", "([JI)I"⟩, 14) := ⟨⟨by decide +kernel, by decide +kernel⟩, List.mem_of_getElem? (i := 421) (by decide +kernel), List.mem_of_getElem? (i := 735) (by decide +kernel), List.mem_of_getElem? (i := 736) (by decide +kernel)⟩
theorem lw_p13 : lw_okq (⟨"SleepWork$Reader", "takeNumber", "(II)I"⟩, 14) := ⟨⟨by decide +kernel, by decide +kernel⟩, List.mem_of_getElem? (i := 421) (by decide +kernel), List.mem_of_getElem? (i := 739) (by decide +kernel), List.mem_of_getElem? (i := 740) (by decide +kernel)⟩
theorem lw_p14 : lw_okq (⟨"SleepWork$Reader", "readTool", "()V"⟩, 14) := ⟨⟨by decide +kernel, by decide +kernel⟩, List.mem_of_getElem? (i := 421) (by decide +kernel), List.mem_of_getElem? (i := 743) (by decide +kernel), List.mem_of_getElem? (i := 744) (by decide +kernel)⟩
theorem lw_p15 : lw_okq (⟨"SleepWork$Reader", "readTask", "()V"⟩, 14) := ⟨⟨by decide +kernel, by decide +kernel⟩, List.mem_of_getElem? (i := 421) (by decide +kernel), List.mem_of_getElem? (i := 747) (by decide +kernel), List.mem_of_getElem? (i := 748) (by decide +kernel)⟩
def lw_privs_1 : List (MethodName × Nat) := [(⟨"SleepWork$Reader", "open", "(LSleepWork$Tape;LSleepWork$House;LSleepWork$State;)V"⟩, 14), (⟨"SleepWork$Scanner", "scanNext", "(ILSleepWork$Tape;)V"⟩, 6), (⟨"SleepWork$Scanner", "scanLetters", "(ILSleepWork$Tape;)V"⟩, 6), (⟨"SleepWork$Scanner", "scanDigits", "(ILSleepWork$Tape;)V"⟩, 6), (⟨"SleepWork$Reader", "isNext", "(I)Z"⟩, 14), (⟨"SleepWork$Reader", "readRoom", "()V"⟩, 14), (⟨"SleepWork$Reader", "takeFirst", "(III)V"⟩, 14), (⟨"SleepWork$Reader", "fail", "(II)V"⟩, 14), (⟨"SleepWork$Reader", "take", "(I)Z"⟩, 14), (⟨"SleepWork$Reader", "takeNewName", "([JI)V"⟩, 14), (⟨"SleepWork$Reader", "failLate", "(I)V"⟩, 14), (⟨"SleepWork$Reader", "readDoor", "()V"⟩, 14), (⟨"SleepWork$Reader", "takeKnownName", "([JI)I"⟩, 14), (⟨"SleepWork$Reader", "takeNumber", "(II)I"⟩, 14), (⟨"SleepWork$Reader", "readTool", "()V"⟩, 14), (⟨"SleepWork$Reader", "readTask", "()V"⟩, 14)]
theorem lw_r1 : ∀ q ∈ lw_privs_1, lw_okq q := List.forall_mem_cons.mpr ⟨lw_p0, List.forall_mem_cons.mpr ⟨lw_p1, List.forall_mem_cons.mpr ⟨lw_p2, List.forall_mem_cons.mpr ⟨lw_p3, List.forall_mem_cons.mpr ⟨lw_p4, List.forall_mem_cons.mpr ⟨lw_p5, List.forall_mem_cons.mpr ⟨lw_p6, List.forall_mem_cons.mpr ⟨lw_p7, List.forall_mem_cons.mpr ⟨lw_p8, List.forall_mem_cons.mpr ⟨lw_p9, List.forall_mem_cons.mpr ⟨lw_p10, List.forall_mem_cons.mpr ⟨lw_p11, List.forall_mem_cons.mpr ⟨lw_p12, List.forall_mem_cons.mpr ⟨lw_p13, List.forall_mem_cons.mpr ⟨lw_p14, List.forall_mem_cons.mpr ⟨lw_p15, fun _ h => absurd h List.not_mem_nil⟩⟩⟩⟩⟩⟩⟩⟩⟩⟩⟩⟩⟩⟩⟩⟩
theorem lw_p16 : lw_okq (⟨"SleepWork$Reader", "readStep", "()V"⟩, 14) := ⟨⟨by decide +kernel, by decide +kernel⟩, List.mem_of_getElem? (i := 421) (by decide +kernel), List.mem_of_getElem? (i := 751) (by decide +kernel), List.mem_of_getElem? (i := 752) (by decide +kernel)⟩
theorem lw_p17 : lw_okq (⟨"SleepWork$Reader", "takeTaskOfStep", "()I"⟩, 14) := ⟨⟨by decide +kernel, by decide +kernel⟩, List.mem_of_getElem? (i := 421) (by decide +kernel), List.mem_of_getElem? (i := 755) (by decide +kernel), List.mem_of_getElem? (i := 756) (by decide +kernel)⟩
theorem lw_p18 : lw_okq (⟨"SleepWork$Reader", "takeStepNumber", "(I)I"⟩, 14) := ⟨⟨by decide +kernel, by decide +kernel⟩, List.mem_of_getElem? (i := 421) (by decide +kernel), List.mem_of_getElem? (i := 759) (by decide +kernel), List.mem_of_getElem? (i := 760) (by decide +kernel)⟩
theorem lw_p19 : lw_okq (⟨"SleepWork$Reader", "readMan", "()V"⟩, 14) := ⟨⟨by decide +kernel, by decide +kernel⟩, List.mem_of_getElem? (i := 421) (by decide +kernel), List.mem_of_getElem? (i := 763) (by decide +kernel), List.mem_of_getElem? (i := 764) (by decide +kernel)⟩
theorem lw_p20 : lw_okq (⟨"SleepWork$Reader", "readLaw", "()V"⟩, 14) := ⟨⟨by decide +kernel, by decide +kernel⟩, List.mem_of_getElem? (i := 421) (by decide +kernel), List.mem_of_getElem? (i := 767) (by decide +kernel), List.mem_of_getElem? (i := 768) (by decide +kernel)⟩
theorem lw_p21 : lw_okq (⟨"SleepWork$Reader", "readIf", "()V"⟩, 14) := ⟨⟨by decide +kernel, by decide +kernel⟩, List.mem_of_getElem? (i := 421) (by decide +kernel), List.mem_of_getElem? (i := 771) (by decide +kernel), List.mem_of_getElem? (i := 772) (by decide +kernel)⟩
theorem lw_p22 : lw_okq (⟨"SleepWork$Reader", "readSum", "(I)V"⟩, 14) := ⟨⟨by decide +kernel, by decide +kernel⟩, List.mem_of_getElem? (i := 421) (by decide +kernel), List.mem_of_getElem? (i := 775) (by decide +kernel), List.mem_of_getElem? (i := 776) (by decide +kernel)⟩
theorem lw_p23 : lw_okq (⟨"SleepWork$Reader", "readUnit", "(I)V"⟩, 14) := ⟨⟨by decide +kernel, by decide +kernel⟩, List.mem_of_getElem? (i := 421) (by decide +kernel), List.mem_of_getElem? (i := 779) (by decide +kernel), List.mem_of_getElem? (i := 780) (by decide +kernel)⟩
theorem lw_p24 : lw_okq (⟨"SleepWork$Reader", "addSign", "(I)V"⟩, 14) := ⟨⟨by decide +kernel, by decide +kernel⟩, List.mem_of_getElem? (i := 421) (by decide +kernel), List.mem_of_getElem? (i := 787) (by decide +kernel), List.mem_of_getElem? (i := 788) (by decide +kernel)⟩
theorem lw_p25 : lw_okq (⟨"SleepWork$Reader", "takeEither", "(II)I"⟩, 14) := ⟨⟨by decide +kernel, by decide +kernel⟩, List.mem_of_getElem? (i := 421) (by decide +kernel), List.mem_of_getElem? (i := 791) (by decide +kernel), List.mem_of_getElem? (i := 792) (by decide +kernel)⟩
theorem lw_p26 : lw_okq (⟨"SleepWork$Reader", "readNight", "()V"⟩, 14) := ⟨⟨by decide +kernel, by decide +kernel⟩, List.mem_of_getElem? (i := 421) (by decide +kernel), List.mem_of_getElem? (i := 799) (by decide +kernel), List.mem_of_getElem? (i := 800) (by decide +kernel)⟩
theorem lw_p27 : lw_okq (⟨"SleepWork", "moveIn", "()V"⟩, 12) := ⟨⟨by decide +kernel, by decide +kernel⟩, List.mem_of_getElem? (i := 24) (by decide +kernel), List.mem_of_getElem? (i := 807) (by decide +kernel), List.mem_of_getElem? (i := 808) (by decide +kernel)⟩
theorem lw_p28 : lw_okq (⟨"SleepWork", "isMan", "(I)Z"⟩, 12) := ⟨⟨by decide +kernel, by decide +kernel⟩, List.mem_of_getElem? (i := 24) (by decide +kernel), List.mem_of_getElem? (i := 859) (by decide +kernel), List.mem_of_getElem? (i := 860) (by decide +kernel)⟩
theorem lw_p29 : lw_okq (⟨"SleepWork", "isTool", "(I)Z"⟩, 12) := ⟨⟨by decide +kernel, by decide +kernel⟩, List.mem_of_getElem? (i := 24) (by decide +kernel), List.mem_of_getElem? (i := 867) (by decide +kernel), List.mem_of_getElem? (i := 868) (by decide +kernel)⟩
theorem lw_p30 : lw_okq (⟨"SleepWork", "isRoom", "(I)Z"⟩, 12) := ⟨⟨by decide +kernel, by decide +kernel⟩, List.mem_of_getElem? (i := 24) (by decide +kernel), List.mem_of_getElem? (i := 875) (by decide +kernel), List.mem_of_getElem? (i := 876) (by decide +kernel)⟩
theorem lw_p31 : lw_okq (⟨"SleepWork$Ways", "takeDoors", "(LSleepWork$House;I)V"⟩, 2) := ⟨⟨by decide +kernel, by decide +kernel⟩, List.mem_of_getElem? (i := 320) (by decide +kernel), List.mem_of_getElem? (i := 887) (by decide +kernel), List.mem_of_getElem? (i := 888) (by decide +kernel)⟩
def lw_privs_2 : List (MethodName × Nat) := [(⟨"SleepWork$Reader", "readStep", "()V"⟩, 14), (⟨"SleepWork$Reader", "takeTaskOfStep", "()I"⟩, 14), (⟨"SleepWork$Reader", "takeStepNumber", "(I)I"⟩, 14), (⟨"SleepWork$Reader", "readMan", "()V"⟩, 14), (⟨"SleepWork$Reader", "readLaw", "()V"⟩, 14), (⟨"SleepWork$Reader", "readIf", "()V"⟩, 14), (⟨"SleepWork$Reader", "readSum", "(I)V"⟩, 14), (⟨"SleepWork$Reader", "readUnit", "(I)V"⟩, 14), (⟨"SleepWork$Reader", "addSign", "(I)V"⟩, 14), (⟨"SleepWork$Reader", "takeEither", "(II)I"⟩, 14), (⟨"SleepWork$Reader", "readNight", "()V"⟩, 14), (⟨"SleepWork", "moveIn", "()V"⟩, 12), (⟨"SleepWork", "isMan", "(I)Z"⟩, 12), (⟨"SleepWork", "isTool", "(I)Z"⟩, 12), (⟨"SleepWork", "isRoom", "(I)Z"⟩, 12), (⟨"SleepWork$Ways", "takeDoors", "(LSleepWork$House;I)V"⟩, 2)]
theorem lw_r2 : ∀ q ∈ lw_privs_2, lw_okq q := List.forall_mem_cons.mpr ⟨lw_p16, List.forall_mem_cons.mpr ⟨lw_p17, List.forall_mem_cons.mpr ⟨lw_p18, List.forall_mem_cons.mpr ⟨lw_p19, List.forall_mem_cons.mpr ⟨lw_p20, List.forall_mem_cons.mpr ⟨lw_p21, List.forall_mem_cons.mpr ⟨lw_p22, List.forall_mem_cons.mpr ⟨lw_p23, List.forall_mem_cons.mpr ⟨lw_p24, List.forall_mem_cons.mpr ⟨lw_p25, List.forall_mem_cons.mpr ⟨lw_p26, List.forall_mem_cons.mpr ⟨lw_p27, List.forall_mem_cons.mpr ⟨lw_p28, List.forall_mem_cons.mpr ⟨lw_p29, List.forall_mem_cons.mpr ⟨lw_p30, List.forall_mem_cons.mpr ⟨lw_p31, fun _ h => absurd h List.not_mem_nil⟩⟩⟩⟩⟩⟩⟩⟩⟩⟩⟩⟩⟩⟩⟩⟩
theorem lw_p32 : lw_okq (⟨"SleepWork$Ways", "joinWays", "(I)V"⟩, 2) := ⟨⟨by decide +kernel, by decide +kernel⟩, List.mem_of_getElem? (i := 320) (by decide +kernel), List.mem_of_getElem? (i := 894) (by decide +kernel), List.mem_of_getElem? (i := 895) (by decide +kernel)⟩
theorem lw_p33 : lw_okq (⟨"SleepWork$Sleep", "getUp", "()V"⟩, 10) := ⟨⟨by decide +kernel, by decide +kernel⟩, List.mem_of_getElem? (i := 314) (by decide +kernel), List.mem_of_getElem? (i := 947) (by decide +kernel), List.mem_of_getElem? (i := 948) (by decide +kernel)⟩
theorem lw_p34 : lw_okq (⟨"SleepWork$Sleep", "nextMinute", "()I"⟩, 10) := ⟨⟨by decide +kernel, by decide +kernel⟩, List.mem_of_getElem? (i := 314) (by decide +kernel), List.mem_of_getElem? (i := 953) (by decide +kernel), List.mem_of_getElem? (i := 954) (by decide +kernel)⟩
theorem lw_p35 : lw_okq (⟨"SleepWork$Sleep", "finishAll", "(I)V"⟩, 10) := ⟨⟨by decide +kernel, by decide +kernel⟩, List.mem_of_getElem? (i := 314) (by decide +kernel), List.mem_of_getElem? (i := 958) (by decide +kernel), List.mem_of_getElem? (i := 959) (by decide +kernel)⟩
theorem lw_p36 : lw_okq (⟨"SleepWork$Sleep", "begin", "(II)V"⟩, 10) := ⟨⟨by decide +kernel, by decide +kernel⟩, List.mem_of_getElem? (i := 314) (by decide +kernel), List.mem_of_getElem? (i := 963) (by decide +kernel), List.mem_of_getElem? (i := 964) (by decide +kernel)⟩
theorem lw_p37 : lw_okq (⟨"SleepWork$Sleep", "lieDown", "(II)V"⟩, 10) := ⟨⟨by decide +kernel, by decide +kernel⟩, List.mem_of_getElem? (i := 314) (by decide +kernel), List.mem_of_getElem? (i := 968) (by decide +kernel), List.mem_of_getElem? (i := 969) (by decide +kernel)⟩
theorem lw_p38 : lw_okq (⟨"SleepWork$Sleep", "chosenStep", "(III)I"⟩, 10) := ⟨⟨by decide +kernel, by decide +kernel⟩, List.mem_of_getElem? (i := 314) (by decide +kernel), List.mem_of_getElem? (i := 972) (by decide +kernel), List.mem_of_getElem? (i := 973) (by decide +kernel)⟩
theorem lw_p39 : lw_okq (⟨"SleepWork$Sleep", "wakeUp", "()V"⟩, 10) := ⟨⟨by decide +kernel, by decide +kernel⟩, List.mem_of_getElem? (i := 314) (by decide +kernel), List.mem_of_getElem? (i := 984) (by decide +kernel), List.mem_of_getElem? (i := 985) (by decide +kernel)⟩
theorem lw_p40 : lw_okq (⟨"SleepWork$Evening", "gainOfTrial", "()I"⟩, 16) := ⟨⟨by decide +kernel, by decide +kernel⟩, List.mem_of_getElem? (i := 306) (by decide +kernel), List.mem_of_getElem? (i := 1006) (by decide +kernel), List.mem_of_getElem? (i := 1007) (by decide +kernel)⟩
theorem lw_p41 : lw_okq (⟨"SleepWork$Evening", "isAnswered", "(III)Z"⟩, 16) := ⟨⟨by decide +kernel, by decide +kernel⟩, List.mem_of_getElem? (i := 306) (by decide +kernel), List.mem_of_getElem? (i := 1018) (by decide +kernel), List.mem_of_getElem? (i := 1019) (by decide +kernel)⟩
theorem lw_p42 : lw_okq (⟨"SleepWork$Evening", "offer", "(III)V"⟩, 16) := ⟨⟨by decide +kernel, by decide +kernel⟩, List.mem_of_getElem? (i := 306) (by decide +kernel), List.mem_of_getElem? (i := 1027) (by decide +kernel), List.mem_of_getElem? (i := 1028) (by decide +kernel)⟩
theorem lw_p43 : lw_okq (⟨"SleepWork", "areTwoMen", "(II)Z"⟩, 12) := ⟨⟨by decide +kernel, by decide +kernel⟩, List.mem_of_getElem? (i := 24) (by decide +kernel), List.mem_of_getElem? (i := 1038) (by decide +kernel), List.mem_of_getElem? (i := 1039) (by decide +kernel)⟩
theorem lw_p44 : lw_okq (⟨"SleepWork$Evening", "clearSeen", "(I)V"⟩, 16) := ⟨⟨by decide +kernel, by decide +kernel⟩, List.mem_of_getElem? (i := 306) (by decide +kernel), List.mem_of_getElem? (i := 1067) (by decide +kernel), List.mem_of_getElem? (i := 1068) (by decide +kernel)⟩
theorem lw_p45 : lw_okq (⟨"SleepWork$Evening", "arrivals", "(I)J"⟩, 16) := ⟨⟨by decide +kernel, by decide +kernel⟩, List.mem_of_getElem? (i := 306) (by decide +kernel), List.mem_of_getElem? (i := 1080) (by decide +kernel), List.mem_of_getElem? (i := 1081) (by decide +kernel)⟩
theorem lw_p46 : lw_okq (⟨"SleepWork$Evening", "isNew", "(J)Z"⟩, 16) := ⟨⟨by decide +kernel, by decide +kernel⟩, List.mem_of_getElem? (i := 306) (by decide +kernel), List.mem_of_getElem? (i := 1085) (by decide +kernel), List.mem_of_getElem? (i := 1086) (by decide +kernel)⟩
theorem lw_p47 : lw_okq (⟨"SleepWork", "isKnownBy", "(I)Z"⟩, 12) := ⟨⟨by decide +kernel, by decide +kernel⟩, List.mem_of_getElem? (i := 24) (by decide +kernel), List.mem_of_getElem? (i := 1122) (by decide +kernel), List.mem_of_getElem? (i := 1123) (by decide +kernel)⟩
def lw_privs_3 : List (MethodName × Nat) := [(⟨"SleepWork$Ways", "joinWays", "(I)V"⟩, 2), (⟨"SleepWork$Sleep", "getUp", "()V"⟩, 10), (⟨"SleepWork$Sleep", "nextMinute", "()I"⟩, 10), (⟨"SleepWork$Sleep", "finishAll", "(I)V"⟩, 10), (⟨"SleepWork$Sleep", "begin", "(II)V"⟩, 10), (⟨"SleepWork$Sleep", "lieDown", "(II)V"⟩, 10), (⟨"SleepWork$Sleep", "chosenStep", "(III)I"⟩, 10), (⟨"SleepWork$Sleep", "wakeUp", "()V"⟩, 10), (⟨"SleepWork$Evening", "gainOfTrial", "()I"⟩, 16), (⟨"SleepWork$Evening", "isAnswered", "(III)Z"⟩, 16), (⟨"SleepWork$Evening", "offer", "(III)V"⟩, 16), (⟨"SleepWork", "areTwoMen", "(II)Z"⟩, 12), (⟨"SleepWork$Evening", "clearSeen", "(I)V"⟩, 16), (⟨"SleepWork$Evening", "arrivals", "(I)J"⟩, 16), (⟨"SleepWork$Evening", "isNew", "(J)Z"⟩, 16), (⟨"SleepWork", "isKnownBy", "(I)Z"⟩, 12)]
theorem lw_r3 : ∀ q ∈ lw_privs_3, lw_okq q := List.forall_mem_cons.mpr ⟨lw_p32, List.forall_mem_cons.mpr ⟨lw_p33, List.forall_mem_cons.mpr ⟨lw_p34, List.forall_mem_cons.mpr ⟨lw_p35, List.forall_mem_cons.mpr ⟨lw_p36, List.forall_mem_cons.mpr ⟨lw_p37, List.forall_mem_cons.mpr ⟨lw_p38, List.forall_mem_cons.mpr ⟨lw_p39, List.forall_mem_cons.mpr ⟨lw_p40, List.forall_mem_cons.mpr ⟨lw_p41, List.forall_mem_cons.mpr ⟨lw_p42, List.forall_mem_cons.mpr ⟨lw_p43, List.forall_mem_cons.mpr ⟨lw_p44, List.forall_mem_cons.mpr ⟨lw_p45, List.forall_mem_cons.mpr ⟨lw_p46, List.forall_mem_cons.mpr ⟨lw_p47, fun _ h => absurd h List.not_mem_nil⟩⟩⟩⟩⟩⟩⟩⟩⟩⟩⟩⟩⟩⟩⟩⟩
theorem lw_p48 : lw_okq (⟨"SleepWork$Evening", "isSuspect", "(II)Z"⟩, 16) := ⟨⟨by decide +kernel, by decide +kernel⟩, List.mem_of_getElem? (i := 306) (by decide +kernel), List.mem_of_getElem? (i := 1142) (by decide +kernel), List.mem_of_getElem? (i := 1143) (by decide +kernel)⟩
theorem lw_p49 : lw_okq (⟨"SleepWorkModel", "put", "(I)V"⟩, 83) := ⟨⟨by decide +kernel, by decide +kernel⟩, List.mem_of_getElem? (i := 1167) (by decide +kernel), List.mem_of_getElem? (i := 1434) (by decide +kernel), List.mem_of_getElem? (i := 1435) (by decide +kernel)⟩
theorem lw_p50 : lw_okq (⟨"SleepWorkModel", "cut", "()V"⟩, 83) := ⟨⟨by decide +kernel, by decide +kernel⟩, List.mem_of_getElem? (i := 1167) (by decide +kernel), List.mem_of_getElem? (i := 1446) (by decide +kernel), List.mem_of_getElem? (i := 1447) (by decide +kernel)⟩
theorem lw_p51 : lw_okq (⟨"SleepWorkModel", "byteAt", "(I)I"⟩, 83) := ⟨⟨by decide +kernel, by decide +kernel⟩, List.mem_of_getElem? (i := 1167) (by decide +kernel), List.mem_of_getElem? (i := 1450) (by decide +kernel), List.mem_of_getElem? (i := 1451) (by decide +kernel)⟩
theorem lw_p52 : lw_okq (⟨"SleepWorkModel", "token", "(IIIJ)V"⟩, 83) := ⟨⟨by decide +kernel, by decide +kernel⟩, List.mem_of_getElem? (i := 1167) (by decide +kernel), List.mem_of_getElem? (i := 1454) (by decide +kernel), List.mem_of_getElem? (i := 1455) (by decide +kernel)⟩
theorem lw_p53 : lw_okq (⟨"SleepWorkModel", "sign", "(III)I"⟩, 83) := ⟨⟨by decide +kernel, by decide +kernel⟩, List.mem_of_getElem? (i := 1167) (by decide +kernel), List.mem_of_getElem? (i := 1464) (by decide +kernel), List.mem_of_getElem? (i := 1465) (by decide +kernel)⟩
theorem lw_p54 : lw_okq (⟨"SleepWorkModel", "is", "(I)Z"⟩, 83) := ⟨⟨by decide +kernel, by decide +kernel⟩, List.mem_of_getElem? (i := 1167) (by decide +kernel), List.mem_of_getElem? (i := 1468) (by decide +kernel), List.mem_of_getElem? (i := 1469) (by decide +kernel)⟩
theorem lw_p55 : lw_okq (⟨"SleepWorkModel", "tell", "()V"⟩, 83) := ⟨⟨by decide +kernel, by decide +kernel⟩, List.mem_of_getElem? (i := 1167) (by decide +kernel), List.mem_of_getElem? (i := 1472) (by decide +kernel), List.mem_of_getElem? (i := 1473) (by decide +kernel)⟩
theorem lw_p56 : lw_okq (⟨"SleepWorkModel", "roomFor", "(II)V"⟩, 83) := ⟨⟨by decide +kernel, by decide +kernel⟩, List.mem_of_getElem? (i := 1167) (by decide +kernel), List.mem_of_getElem? (i := 1476) (by decide +kernel), List.mem_of_getElem? (i := 1477) (by decide +kernel)⟩
theorem lw_p57 : lw_okq (⟨"SleepWorkModel", "fail", "(I)V"⟩, 83) := ⟨⟨by decide +kernel, by decide +kernel⟩, List.mem_of_getElem? (i := 1167) (by decide +kernel), List.mem_of_getElem? (i := 1480) (by decide +kernel), List.mem_of_getElem? (i := 1481) (by decide +kernel)⟩
theorem lw_p58 : lw_okq (⟨"SleepWorkModel", "goesOn", "()V"⟩, 83) := ⟨⟨by decide +kernel, by decide +kernel⟩, List.mem_of_getElem? (i := 1167) (by decide +kernel), List.mem_of_getElem? (i := 1484) (by decide +kernel), List.mem_of_getElem? (i := 1485) (by decide +kernel)⟩
theorem lw_p59 : lw_okq (⟨"SleepWorkModel", "tellRoom", "()V"⟩, 83) := ⟨⟨by decide +kernel, by decide +kernel⟩, List.mem_of_getElem? (i := 1167) (by decide +kernel), List.mem_of_getElem? (i := 1488) (by decide +kernel), List.mem_of_getElem? (i := 1489) (by decide +kernel)⟩
theorem lw_p60 : lw_okq (⟨"SleepWorkModel", "named", "()I"⟩, 83) := ⟨⟨by decide +kernel, by decide +kernel⟩, List.mem_of_getElem? (i := 1167) (by decide +kernel), List.mem_of_getElem? (i := 1492) (by decide +kernel), List.mem_of_getElem? (i := 1493) (by decide +kernel)⟩
theorem lw_p61 : lw_okq (⟨"SleepWorkModel", "must", "(I)V"⟩, 83) := ⟨⟨by decide +kernel, by decide +kernel⟩, List.mem_of_getElem? (i := 1167) (by decide +kernel), List.mem_of_getElem? (i := 1496) (by decide +kernel), List.mem_of_getElem? (i := 1497) (by decide +kernel)⟩
theorem lw_p62 : lw_okq (⟨"SleepWorkModel", "wrong", "(II)V"⟩, 83) := ⟨⟨by decide +kernel, by decide +kernel⟩, List.mem_of_getElem? (i := 1167) (by decide +kernel), List.mem_of_getElem? (i := 1500) (by decide +kernel), List.mem_of_getElem? (i := 1501) (by decide +kernel)⟩
theorem lw_p63 : lw_okq (⟨"SleepWorkModel", "notes", "(III)V"⟩, 83) := ⟨⟨by decide +kernel, by decide +kernel⟩, List.mem_of_getElem? (i := 1167) (by decide +kernel), List.mem_of_getElem? (i := 1504) (by decide +kernel), List.mem_of_getElem? (i := 1505) (by decide +kernel)⟩
def lw_privs_4 : List (MethodName × Nat) := [(⟨"SleepWork$Evening", "isSuspect", "(II)Z"⟩, 16), (⟨"SleepWorkModel", "put", "(I)V"⟩, 83), (⟨"SleepWorkModel", "cut", "()V"⟩, 83), (⟨"SleepWorkModel", "byteAt", "(I)I"⟩, 83), (⟨"SleepWorkModel", "token", "(IIIJ)V"⟩, 83), (⟨"SleepWorkModel", "sign", "(III)I"⟩, 83), (⟨"SleepWorkModel", "is", "(I)Z"⟩, 83), (⟨"SleepWorkModel", "tell", "()V"⟩, 83), (⟨"SleepWorkModel", "roomFor", "(II)V"⟩, 83), (⟨"SleepWorkModel", "fail", "(I)V"⟩, 83), (⟨"SleepWorkModel", "goesOn", "()V"⟩, 83), (⟨"SleepWorkModel", "tellRoom", "()V"⟩, 83), (⟨"SleepWorkModel", "named", "()I"⟩, 83), (⟨"SleepWorkModel", "must", "(I)V"⟩, 83), (⟨"SleepWorkModel", "wrong", "(II)V"⟩, 83), (⟨"SleepWorkModel", "notes", "(III)V"⟩, 83)]
theorem lw_r4 : ∀ q ∈ lw_privs_4, lw_okq q := List.forall_mem_cons.mpr ⟨lw_p48, List.forall_mem_cons.mpr ⟨lw_p49, List.forall_mem_cons.mpr ⟨lw_p50, List.forall_mem_cons.mpr ⟨lw_p51, List.forall_mem_cons.mpr ⟨lw_p52, List.forall_mem_cons.mpr ⟨lw_p53, List.forall_mem_cons.mpr ⟨lw_p54, List.forall_mem_cons.mpr ⟨lw_p55, List.forall_mem_cons.mpr ⟨lw_p56, List.forall_mem_cons.mpr ⟨lw_p57, List.forall_mem_cons.mpr ⟨lw_p58, List.forall_mem_cons.mpr ⟨lw_p59, List.forall_mem_cons.mpr ⟨lw_p60, List.forall_mem_cons.mpr ⟨lw_p61, List.forall_mem_cons.mpr ⟨lw_p62, List.forall_mem_cons.mpr ⟨lw_p63, fun _ h => absurd h List.not_mem_nil⟩⟩⟩⟩⟩⟩⟩⟩⟩⟩⟩⟩⟩⟩⟩⟩
theorem lw_p64 : lw_okq (⟨"SleepWorkModel", "tellDoor", "()V"⟩, 83) := ⟨⟨by decide +kernel, by decide +kernel⟩, List.mem_of_getElem? (i := 1167) (by decide +kernel), List.mem_of_getElem? (i := 1508) (by decide +kernel), List.mem_of_getElem? (i := 1509) (by decide +kernel)⟩
theorem lw_p65 : lw_okq (⟨"SleepWorkModel", "known", "(I)I"⟩, 83) := ⟨⟨by decide +kernel, by decide +kernel⟩, List.mem_of_getElem? (i := 1167) (by decide +kernel), List.mem_of_getElem? (i := 1512) (by decide +kernel), List.mem_of_getElem? (i := 1513) (by decide +kernel)⟩
theorem lw_p66 : lw_okq (⟨"SleepWorkModel", "bounded", "(II)I"⟩, 83) := ⟨⟨by decide +kernel, by decide +kernel⟩, List.mem_of_getElem? (i := 1167) (by decide +kernel), List.mem_of_getElem? (i := 1516) (by decide +kernel), List.mem_of_getElem? (i := 1517) (by decide +kernel)⟩
theorem lw_p67 : lw_okq (⟨"SleepWorkModel", "tellTool", "()V"⟩, 83) := ⟨⟨by decide +kernel, by decide +kernel⟩, List.mem_of_getElem? (i := 1167) (by decide +kernel), List.mem_of_getElem? (i := 1520) (by decide +kernel), List.mem_of_getElem? (i := 1521) (by decide +kernel)⟩
theorem lw_p68 : lw_okq (⟨"SleepWorkModel", "tellTask", "()V"⟩, 83) := ⟨⟨by decide +kernel, by decide +kernel⟩, List.mem_of_getElem? (i := 1167) (by decide +kernel), List.mem_of_getElem? (i := 1524) (by decide +kernel), List.mem_of_getElem? (i := 1525) (by decide +kernel)⟩
theorem lw_p69 : lw_okq (⟨"SleepWorkModel", "tellStep", "(I)V"⟩, 83) := ⟨⟨by decide +kernel, by decide +kernel⟩, List.mem_of_getElem? (i := 1167) (by decide +kernel), List.mem_of_getElem? (i := 1528) (by decide +kernel), List.mem_of_getElem? (i := 1529) (by decide +kernel)⟩
theorem lw_p70 : lw_okq (⟨"SleepWorkModel", "failAt", "(II)V"⟩, 83) := ⟨⟨by decide +kernel, by decide +kernel⟩, List.mem_of_getElem? (i := 1167) (by decide +kernel), List.mem_of_getElem? (i := 1532) (by decide +kernel), List.mem_of_getElem? (i := 1533) (by decide +kernel)⟩
theorem lw_p71 : lw_okq (⟨"SleepWorkModel", "tellMan", "()V"⟩, 83) := ⟨⟨by decide +kernel, by decide +kernel⟩, List.mem_of_getElem? (i := 1167) (by decide +kernel), List.mem_of_getElem? (i := 1536) (by decide +kernel), List.mem_of_getElem? (i := 1537) (by decide +kernel)⟩
theorem lw_p72 : lw_okq (⟨"SleepWorkModel", "tellLaw", "()V"⟩, 83) := ⟨⟨by decide +kernel, by decide +kernel⟩, List.mem_of_getElem? (i := 1167) (by decide +kernel), List.mem_of_getElem? (i := 1540) (by decide +kernel), List.mem_of_getElem? (i := 1541) (by decide +kernel)⟩
theorem lw_p73 : lw_okq (⟨"SleepWorkModel", "expression", "()V"⟩, 83) := ⟨⟨by decide +kernel, by decide +kernel⟩, List.mem_of_getElem? (i := 1167) (by decide +kernel), List.mem_of_getElem? (i := 1544) (by decide +kernel), List.mem_of_getElem? (i := 1545) (by decide +kernel)⟩
theorem lw_p74 : lw_okq (⟨"SleepWorkModel", "unit", "()V"⟩, 83) := ⟨⟨by decide +kernel, by decide +kernel⟩, List.mem_of_getElem? (i := 1167) (by decide +kernel), List.mem_of_getElem? (i := 1548) (by decide +kernel), List.mem_of_getElem? (i := 1549) (by decide +kernel)⟩
theorem lw_p75 : lw_okq (⟨"SleepWorkModel", "emit", "(II)V"⟩, 83) := ⟨⟨by decide +kernel, by decide +kernel⟩, List.mem_of_getElem? (i := 1167) (by decide +kernel), List.mem_of_getElem? (i := 1552) (by decide +kernel), List.mem_of_getElem? (i := 1553) (by decide +kernel)⟩
theorem lw_p76 : lw_okq (⟨"SleepWorkModel", "comesOut", "(Z)V"⟩, 83) := ⟨⟨by decide +kernel, by decide +kernel⟩, List.mem_of_getElem? (i := 1167) (by decide +kernel), List.mem_of_getElem? (i := 1556) (by decide +kernel), List.mem_of_getElem? (i := 1557) (by decide +kernel)⟩
theorem lw_p77 : lw_okq (⟨"SleepWorkModel", "term", "()V"⟩, 83) := ⟨⟨by decide +kernel, by decide +kernel⟩, List.mem_of_getElem? (i := 1167) (by decide +kernel), List.mem_of_getElem? (i := 1560) (by decide +kernel), List.mem_of_getElem? (i := 1561) (by decide +kernel)⟩
theorem lw_p78 : lw_okq (⟨"SleepWorkModel", "begins", "()V"⟩, 83) := ⟨⟨by decide +kernel, by decide +kernel⟩, List.mem_of_getElem? (i := 1167) (by decide +kernel), List.mem_of_getElem? (i := 1564) (by decide +kernel), List.mem_of_getElem? (i := 1565) (by decide +kernel)⟩
theorem lw_p79 : lw_okq (⟨"SleepWorkModel", "tasksNow", "()I"⟩, 83) := ⟨⟨by decide +kernel, by decide +kernel⟩, List.mem_of_getElem? (i := 1167) (by decide +kernel), List.mem_of_getElem? (i := 1568) (by decide +kernel), List.mem_of_getElem? (i := 1569) (by decide +kernel)⟩
def lw_privs_5 : List (MethodName × Nat) := [(⟨"SleepWorkModel", "tellDoor", "()V"⟩, 83), (⟨"SleepWorkModel", "known", "(I)I"⟩, 83), (⟨"SleepWorkModel", "bounded", "(II)I"⟩, 83), (⟨"SleepWorkModel", "tellTool", "()V"⟩, 83), (⟨"SleepWorkModel", "tellTask", "()V"⟩, 83), (⟨"SleepWorkModel", "tellStep", "(I)V"⟩, 83), (⟨"SleepWorkModel", "failAt", "(II)V"⟩, 83), (⟨"SleepWorkModel", "tellMan", "()V"⟩, 83), (⟨"SleepWorkModel", "tellLaw", "()V"⟩, 83), (⟨"SleepWorkModel", "expression", "()V"⟩, 83), (⟨"SleepWorkModel", "unit", "()V"⟩, 83), (⟨"SleepWorkModel", "emit", "(II)V"⟩, 83), (⟨"SleepWorkModel", "comesOut", "(Z)V"⟩, 83), (⟨"SleepWorkModel", "term", "()V"⟩, 83), (⟨"SleepWorkModel", "begins", "()V"⟩, 83), (⟨"SleepWorkModel", "tasksNow", "()I"⟩, 83)]
theorem lw_r5 : ∀ q ∈ lw_privs_5, lw_okq q := List.forall_mem_cons.mpr ⟨lw_p64, List.forall_mem_cons.mpr ⟨lw_p65, List.forall_mem_cons.mpr ⟨lw_p66, List.forall_mem_cons.mpr ⟨lw_p67, List.forall_mem_cons.mpr ⟨lw_p68, List.forall_mem_cons.mpr ⟨lw_p69, List.forall_mem_cons.mpr ⟨lw_p70, List.forall_mem_cons.mpr ⟨lw_p71, List.forall_mem_cons.mpr ⟨lw_p72, List.forall_mem_cons.mpr ⟨lw_p73, List.forall_mem_cons.mpr ⟨lw_p74, List.forall_mem_cons.mpr ⟨lw_p75, List.forall_mem_cons.mpr ⟨lw_p76, List.forall_mem_cons.mpr ⟨lw_p77, List.forall_mem_cons.mpr ⟨lw_p78, List.forall_mem_cons.mpr ⟨lw_p79, fun _ h => absurd h List.not_mem_nil⟩⟩⟩⟩⟩⟩⟩⟩⟩⟩⟩⟩⟩⟩⟩⟩
theorem lw_p80 : lw_okq (⟨"SleepWorkModel", "menNow", "()I"⟩, 83) := ⟨⟨by decide +kernel, by decide +kernel⟩, List.mem_of_getElem? (i := 1167) (by decide +kernel), List.mem_of_getElem? (i := 1572) (by decide +kernel), List.mem_of_getElem? (i := 1573) (by decide +kernel)⟩
theorem lw_p81 : lw_okq (⟨"SleepWorkModel", "isTask", "(I)Z"⟩, 83) := ⟨⟨by decide +kernel, by decide +kernel⟩, List.mem_of_getElem? (i := 1167) (by decide +kernel), List.mem_of_getElem? (i := 1584) (by decide +kernel), List.mem_of_getElem? (i := 1585) (by decide +kernel)⟩
theorem lw_p82 : lw_okq (⟨"SleepWorkModel", "takes", "()V"⟩, 83) := ⟨⟨by decide +kernel, by decide +kernel⟩, List.mem_of_getElem? (i := 1167) (by decide +kernel), List.mem_of_getElem? (i := 1591) (by decide +kernel), List.mem_of_getElem? (i := 1592) (by decide +kernel)⟩
theorem lw_p83 : lw_okq (⟨"SleepWorkModel", "stepsOf", "(I)I"⟩, 83) := ⟨⟨by decide +kernel, by decide +kernel⟩, List.mem_of_getElem? (i := 1167) (by decide +kernel), List.mem_of_getElem? (i := 1595) (by decide +kernel), List.mem_of_getElem? (i := 1596) (by decide +kernel)⟩
theorem lw_p84 : lw_okq (⟨"SleepWorkModel", "worthOf", "(I)I"⟩, 83) := ⟨⟨by decide +kernel, by decide +kernel⟩, List.mem_of_getElem? (i := 1167) (by decide +kernel), List.mem_of_getElem? (i := 1599) (by decide +kernel), List.mem_of_getElem? (i := 1600) (by decide +kernel)⟩
theorem lw_p85 : lw_okq (⟨"SleepWorkModel", "stepAt", "(II)I"⟩, 83) := ⟨⟨by decide +kernel, by decide +kernel⟩, List.mem_of_getElem? (i := 1167) (by decide +kernel), List.mem_of_getElem? (i := 1603) (by decide +kernel), List.mem_of_getElem? (i := 1604) (by decide +kernel)⟩
theorem lw_p86 : lw_okq (⟨"SleepWorkModel", "isEnded", "(I)Z"⟩, 83) := ⟨⟨by decide +kernel, by decide +kernel⟩, List.mem_of_getElem? (i := 1167) (by decide +kernel), List.mem_of_getElem? (i := 1607) (by decide +kernel), List.mem_of_getElem? (i := 1608) (by decide +kernel)⟩
theorem lw_p87 : lw_okq (⟨"SleepWorkModel", "isStep", "(II)Z"⟩, 83) := ⟨⟨by decide +kernel, by decide +kernel⟩, List.mem_of_getElem? (i := 1167) (by decide +kernel), List.mem_of_getElem? (i := 1615) (by decide +kernel), List.mem_of_getElem? (i := 1616) (by decide +kernel)⟩
theorem lw_p88 : lw_okq (⟨"SleepWorkModel", "isMan", "(I)Z"⟩, 83) := ⟨⟨by decide +kernel, by decide +kernel⟩, List.mem_of_getElem? (i := 1167) (by decide +kernel), List.mem_of_getElem? (i := 1626) (by decide +kernel), List.mem_of_getElem? (i := 1627) (by decide +kernel)⟩
theorem lw_p89 : lw_okq (⟨"SleepWorkModel", "isTool", "(I)Z"⟩, 83) := ⟨⟨by decide +kernel, by decide +kernel⟩, List.mem_of_getElem? (i := 1167) (by decide +kernel), List.mem_of_getElem? (i := 1634) (by decide +kernel), List.mem_of_getElem? (i := 1635) (by decide +kernel)⟩
theorem lw_p90 : lw_okq (⟨"SleepWorkModel", "isRoom", "(I)Z"⟩, 83) := ⟨⟨by decide +kernel, by decide +kernel⟩, List.mem_of_getElem? (i := 1167) (by decide +kernel), List.mem_of_getElem? (i := 1642) (by decide +kernel), List.mem_of_getElem? (i := 1643) (by decide +kernel)⟩
theorem lw_p91 : lw_okq (⟨"SleepWorkModel", "fillsWays", "()V"⟩, 83) := ⟨⟨by decide +kernel, by decide +kernel⟩, List.mem_of_getElem? (i := 1167) (by decide +kernel), List.mem_of_getElem? (i := 1646) (by decide +kernel), List.mem_of_getElem? (i := 1647) (by decide +kernel)⟩
theorem lw_p92 : lw_okq (⟨"SleepWorkModel", "isLeft", "(II)Z"⟩, 83) := ⟨⟨by decide +kernel, by decide +kernel⟩, List.mem_of_getElem? (i := 1167) (by decide +kernel), List.mem_of_getElem? (i := 1655) (by decide +kernel), List.mem_of_getElem? (i := 1656) (by decide +kernel)⟩
theorem lw_p93 : lw_okq (⟨"SleepWorkModel", "does", "(II)V"⟩, 83) := ⟨⟨by decide +kernel, by decide +kernel⟩, List.mem_of_getElem? (i := 1167) (by decide +kernel), List.mem_of_getElem? (i := 1663) (by decide +kernel), List.mem_of_getElem? (i := 1664) (by decide +kernel)⟩
theorem lw_p94 : lw_okq (⟨"SleepWorkModel", "wholeNight", "()I"⟩, 83) := ⟨⟨by decide +kernel, by decide +kernel⟩, List.mem_of_getElem? (i := 1167) (by decide +kernel), List.mem_of_getElem? (i := 1683) (by decide +kernel), List.mem_of_getElem? (i := 1684) (by decide +kernel)⟩
theorem lw_p95 : lw_okq (⟨"SleepWorkModel", "worthNow", "()I"⟩, 83) := ⟨⟨by decide +kernel, by decide +kernel⟩, List.mem_of_getElem? (i := 1167) (by decide +kernel), List.mem_of_getElem? (i := 1687) (by decide +kernel), List.mem_of_getElem? (i := 1688) (by decide +kernel)⟩
def lw_privs_6 : List (MethodName × Nat) := [(⟨"SleepWorkModel", "menNow", "()I"⟩, 83), (⟨"SleepWorkModel", "isTask", "(I)Z"⟩, 83), (⟨"SleepWorkModel", "takes", "()V"⟩, 83), (⟨"SleepWorkModel", "stepsOf", "(I)I"⟩, 83), (⟨"SleepWorkModel", "worthOf", "(I)I"⟩, 83), (⟨"SleepWorkModel", "stepAt", "(II)I"⟩, 83), (⟨"SleepWorkModel", "isEnded", "(I)Z"⟩, 83), (⟨"SleepWorkModel", "isStep", "(II)Z"⟩, 83), (⟨"SleepWorkModel", "isMan", "(I)Z"⟩, 83), (⟨"SleepWorkModel", "isTool", "(I)Z"⟩, 83), (⟨"SleepWorkModel", "isRoom", "(I)Z"⟩, 83), (⟨"SleepWorkModel", "fillsWays", "()V"⟩, 83), (⟨"SleepWorkModel", "isLeft", "(II)Z"⟩, 83), (⟨"SleepWorkModel", "does", "(II)V"⟩, 83), (⟨"SleepWorkModel", "wholeNight", "()I"⟩, 83), (⟨"SleepWorkModel", "worthNow", "()I"⟩, 83)]
theorem lw_r6 : ∀ q ∈ lw_privs_6, lw_okq q := List.forall_mem_cons.mpr ⟨lw_p80, List.forall_mem_cons.mpr ⟨lw_p81, List.forall_mem_cons.mpr ⟨lw_p82, List.forall_mem_cons.mpr ⟨lw_p83, List.forall_mem_cons.mpr ⟨lw_p84, List.forall_mem_cons.mpr ⟨lw_p85, List.forall_mem_cons.mpr ⟨lw_p86, List.forall_mem_cons.mpr ⟨lw_p87, List.forall_mem_cons.mpr ⟨lw_p88, List.forall_mem_cons.mpr ⟨lw_p89, List.forall_mem_cons.mpr ⟨lw_p90, List.forall_mem_cons.mpr ⟨lw_p91, List.forall_mem_cons.mpr ⟨lw_p92, List.forall_mem_cons.mpr ⟨lw_p93, List.forall_mem_cons.mpr ⟨lw_p94, List.forall_mem_cons.mpr ⟨lw_p95, fun _ h => absurd h List.not_mem_nil⟩⟩⟩⟩⟩⟩⟩⟩⟩⟩⟩⟩⟩⟩⟩⟩
theorem lw_p96 : lw_okq (⟨"SleepWorkModel", "goesTill", "(I)V"⟩, 83) := ⟨⟨by decide +kernel, by decide +kernel⟩, List.mem_of_getElem? (i := 1167) (by decide +kernel), List.mem_of_getElem? (i := 1691) (by decide +kernel), List.mem_of_getElem? (i := 1692) (by decide +kernel)⟩
theorem lw_p97 : lw_okq (⟨"SleepWorkModel", "getsUp", "(I)V"⟩, 83) := ⟨⟨by decide +kernel, by decide +kernel⟩, List.mem_of_getElem? (i := 1167) (by decide +kernel), List.mem_of_getElem? (i := 1695) (by decide +kernel), List.mem_of_getElem? (i := 1696) (by decide +kernel)⟩
theorem lw_p98 : lw_okq (⟨"SleepWorkModel", "isOver", "(I)V"⟩, 83) := ⟨⟨by decide +kernel, by decide +kernel⟩, List.mem_of_getElem? (i := 1167) (by decide +kernel), List.mem_of_getElem? (i := 1699) (by decide +kernel), List.mem_of_getElem? (i := 1700) (by decide +kernel)⟩
theorem lw_p99 : lw_okq (⟨"SleepWorkModel", "begins1", "(II)V"⟩, 83) := ⟨⟨by decide +kernel, by decide +kernel⟩, List.mem_of_getElem? (i := 1167) (by decide +kernel), List.mem_of_getElem? (i := 1703) (by decide +kernel), List.mem_of_getElem? (i := 1704) (by decide +kernel)⟩
theorem lw_p100 : lw_okq (⟨"SleepWorkModel", "lies", "(II)V"⟩, 83) := ⟨⟨by decide +kernel, by decide +kernel⟩, List.mem_of_getElem? (i := 1167) (by decide +kernel), List.mem_of_getElem? (i := 1707) (by decide +kernel), List.mem_of_getElem? (i := 1708) (by decide +kernel)⟩
theorem lw_p101 : lw_okq (⟨"SleepWorkModel", "tells", "(II)I"⟩, 83) := ⟨⟨by decide +kernel, by decide +kernel⟩, List.mem_of_getElem? (i := 1167) (by decide +kernel), List.mem_of_getElem? (i := 1711) (by decide +kernel), List.mem_of_getElem? (i := 1712) (by decide +kernel)⟩
theorem lw_p102 : lw_okq (⟨"SleepWorkModel", "termOf", "(II)I"⟩, 83) := ⟨⟨by decide +kernel, by decide +kernel⟩, List.mem_of_getElem? (i := 1167) (by decide +kernel), List.mem_of_getElem? (i := 1715) (by decide +kernel), List.mem_of_getElem? (i := 1716) (by decide +kernel)⟩
theorem lw_p103 : lw_okq (⟨"SleepWorkModel", "isInUse", "(II)Z"⟩, 83) := ⟨⟨by decide +kernel, by decide +kernel⟩, List.mem_of_getElem? (i := 1167) (by decide +kernel), List.mem_of_getElem? (i := 1719) (by decide +kernel), List.mem_of_getElem? (i := 1720) (by decide +kernel)⟩
theorem lw_p104 : lw_okq (⟨"SleepWorkModel", "bestOption", "(I)I"⟩, 83) := ⟨⟨by decide +kernel, by decide +kernel⟩, List.mem_of_getElem? (i := 1167) (by decide +kernel), List.mem_of_getElem? (i := 1735) (by decide +kernel), List.mem_of_getElem? (i := 1736) (by decide +kernel)⟩
theorem lw_p105 : lw_okq (⟨"SleepWorkModel", "gainBy", "(II)I"⟩, 83) := ⟨⟨by decide +kernel, by decide +kernel⟩, List.mem_of_getElem? (i := 1167) (by decide +kernel), List.mem_of_getElem? (i := 1739) (by decide +kernel), List.mem_of_getElem? (i := 1740) (by decide +kernel)⟩
theorem lw_p106 : lw_okq (⟨"SleepWorkModel", "leaves", "(II)Z"⟩, 83) := ⟨⟨by decide +kernel, by decide +kernel⟩, List.mem_of_getElem? (i := 1167) (by decide +kernel), List.mem_of_getElem? (i := 1743) (by decide +kernel), List.mem_of_getElem? (i := 1744) (by decide +kernel)⟩
theorem lw_p107 : lw_okq (⟨"SleepWorkModel", "options", "()I"⟩, 83) := ⟨⟨by decide +kernel, by decide +kernel⟩, List.mem_of_getElem? (i := 1167) (by decide +kernel), List.mem_of_getElem? (i := 1747) (by decide +kernel), List.mem_of_getElem? (i := 1748) (by decide +kernel)⟩
theorem lw_p108 : lw_okq (⟨"SleepWorkModel", "codeOf", "(II)I"⟩, 83) := ⟨⟨by decide +kernel, by decide +kernel⟩, List.mem_of_getElem? (i := 1167) (by decide +kernel), List.mem_of_getElem? (i := 1751) (by decide +kernel), List.mem_of_getElem? (i := 1752) (by decide +kernel)⟩
theorem lw_p109 : lw_okq (⟨"SleepWorkModel", "isSo", "(I)Z"⟩, 83) := ⟨⟨by decide +kernel, by decide +kernel⟩, List.mem_of_getElem? (i := 1167) (by decide +kernel), List.mem_of_getElem? (i := 1795) (by decide +kernel), List.mem_of_getElem? (i := 1796) (by decide +kernel)⟩
theorem lw_p110 : lw_okq (⟨"SleepWorkModel", "isSuspect", "(II)Z"⟩, 83) := ⟨⟨by decide +kernel, by decide +kernel⟩, List.mem_of_getElem? (i := 1167) (by decide +kernel), List.mem_of_getElem? (i := 1803) (by decide +kernel), List.mem_of_getElem? (i := 1804) (by decide +kernel)⟩
def lw_privs_7 : List (MethodName × Nat) := [(⟨"SleepWorkModel", "goesTill", "(I)V"⟩, 83), (⟨"SleepWorkModel", "getsUp", "(I)V"⟩, 83), (⟨"SleepWorkModel", "isOver", "(I)V"⟩, 83), (⟨"SleepWorkModel", "begins1", "(II)V"⟩, 83), (⟨"SleepWorkModel", "lies", "(II)V"⟩, 83), (⟨"SleepWorkModel", "tells", "(II)I"⟩, 83), (⟨"SleepWorkModel", "termOf", "(II)I"⟩, 83), (⟨"SleepWorkModel", "isInUse", "(II)Z"⟩, 83), (⟨"SleepWorkModel", "bestOption", "(I)I"⟩, 83), (⟨"SleepWorkModel", "gainBy", "(II)I"⟩, 83), (⟨"SleepWorkModel", "leaves", "(II)Z"⟩, 83), (⟨"SleepWorkModel", "options", "()I"⟩, 83), (⟨"SleepWorkModel", "codeOf", "(II)I"⟩, 83), (⟨"SleepWorkModel", "isSo", "(I)Z"⟩, 83), (⟨"SleepWorkModel", "isSuspect", "(II)Z"⟩, 83)]
theorem lw_r7 : ∀ q ∈ lw_privs_7, lw_okq q := List.forall_mem_cons.mpr ⟨lw_p96, List.forall_mem_cons.mpr ⟨lw_p97, List.forall_mem_cons.mpr ⟨lw_p98, List.forall_mem_cons.mpr ⟨lw_p99, List.forall_mem_cons.mpr ⟨lw_p100, List.forall_mem_cons.mpr ⟨lw_p101, List.forall_mem_cons.mpr ⟨lw_p102, List.forall_mem_cons.mpr ⟨lw_p103, List.forall_mem_cons.mpr ⟨lw_p104, List.forall_mem_cons.mpr ⟨lw_p105, List.forall_mem_cons.mpr ⟨lw_p106, List.forall_mem_cons.mpr ⟨lw_p107, List.forall_mem_cons.mpr ⟨lw_p108, List.forall_mem_cons.mpr ⟨lw_p109, List.forall_mem_cons.mpr ⟨lw_p110, fun _ h => absurd h List.not_mem_nil⟩⟩⟩⟩⟩⟩⟩⟩⟩⟩⟩⟩⟩⟩⟩
def lw_privs : List (MethodName × Nat) := lw_privs_1 ++ (lw_privs_2 ++ (lw_privs_3 ++ (lw_privs_4 ++ (lw_privs_5 ++ (lw_privs_6 ++ (lw_privs_7))))))
def lw_tbl : List Cond := k2_sels lw_privs ++ tables_1
theorem lw_privs_ok : ∀ q ∈ lw_privs, lw_okq q := by
  show ∀ q ∈ lw_privs_1 ++ (lw_privs_2 ++ (lw_privs_3 ++ (lw_privs_4 ++ (lw_privs_5 ++ (lw_privs_6 ++ (lw_privs_7)))))), lw_okq q
  exact List.forall_mem_append.mpr ⟨lw_r1, List.forall_mem_append.mpr ⟨lw_r2, List.forall_mem_append.mpr ⟨lw_r3, List.forall_mem_append.mpr ⟨lw_r4, List.forall_mem_append.mpr ⟨lw_r5, List.forall_mem_append.mpr ⟨lw_r6, lw_r7⟩⟩⟩⟩⟩⟩
/-- the words that keep -/
def lw_gd : List Cond := lw_tbl.filter goodWord
theorem k_memT {i : Nat} {w : Cond} (h : tables_1[i]? = some w) (hg : goodWord w = true) : w ∈ lw_gd := List.mem_filter.mpr ⟨List.mem_append_right _ (List.mem_of_getElem? h), hg⟩
theorem k_memP {i : Nat} {w : Cond} (h : (k2_sels lw_privs)[i]? = some w) (hg : goodWord w = true) : w ∈ lw_gd := List.mem_filter.mpr ⟨List.mem_append_left _ (List.mem_of_getElem? h), hg⟩
theorem k_good : ∀ w ∈ lw_gd, goodWord w = true := fun _ h => (List.mem_filter.mp h).2
end
section
/-! THE LOGICAL MACHINE: an interpreter over a heap whose cells have numbers of their own (region * 1024 + place), with no JVM in it. What it answers, the machine does: g_sim below. -/
/-- a logical cell: an array (the number of its type in tys, its length and contents), or an object (the number of its class, its fields) -/
abbrev gE : Type := (Nat × vp_A) ⊕ (Nat × List Value)
/-- a logical heap: how many cells and how many slots were made, the regions' cells -/
abbrev gH : Type := (Nat × Nat) × (Nat → List gE)
def g_get (h : gH) (k : Nat) : Option gE := (h.2 (k / 1024))[k % 1024]?
def g_set (h : gH) (k : Nat) (e : gE) : gH := (h.1, va_up h.2 (k / 1024) ((h.2 (k / 1024)).set (k % 1024) e))
/-- a new cell comes at the number that lg gives to the next one, if that is the next place of its region -/
def g_push (lg : Nat → Nat) (h : gH) (n : Nat) (e : gE) : Option (Nat × gH) :=
  if (h.2 (lg h.1.1 / 1024)).length = lg h.1.1 % 1024 then some (lg h.1.1, ((h.1.1 + 1, h.1.2 + n), va_up h.2 (lg h.1.1 / 1024) (h.2 (lg h.1.1 / 1024) ++ [e]))) else none
/-- the machine's value of a logical one: a float stands for a cell that was there before (the script, a text), a retAddr for a reference of which nothing is known -/
def g_sh (ad : Nat → Nat) (cst : Nat → Nat) : Value → Value
  | .ref k => .ref (ad k)
  | .float j => .ref (cst j.toNat)
  | .retAddr _ => va_rf (match cst 1000 with | 0 => none | a + 1 => some a)
  | v => v
def g_shl (ad cst : Nat → Nat) (loc : List (Nat × Value)) : List (Nat × Value) := loc.map fun q => (q.1, g_sh ad cst q.2)
def g_shd (ad : Nat → Nat) (a : vp_A) : vp_A := match a with
  | (n, .inr (.inr (.inr (.inr f)))) => (n, .inr (.inr (.inr (.inr fun i => (f i).map ad))))
  | a => a
def g_pe (ad cst : Nat → Nat) (tys : List (ClassId × FieldType)) : gE → va_E
  | .inl (t, a) => .inl ((tys.getD t (0, .int)).1, g_shd ad a)
  | .inr (ci, fs) => .inr (ci, fs.map (g_sh ad cst))
/-- the machine's heap holds the logical one: all that came since h0, and nothing else has changed -/
def g_HH (D : va_G) (cl : List vw_C) (tys : List (ClassId × FieldType)) (fl lg cst : Nat → Nat) (H0 : Heap) (h : gH) (H : Heap) : Prop :=
  H.size = H0.size + h.1.1 ∧ (∀ q, q < H0.size → H[q]? = H0[q]?) ∧ ∀ (k : Nat) (e : gE), g_get h k = some e → fl k < h.1.1 ∧ lg (fl k) = k ∧ va_at D cl (H0.size + fl k, g_pe (fun j => H0.size + fl j) cst tys e) H
theorem g_sh_cat (ad cst : Nat → Nat) (v : Value) : (g_sh ad cst v).category = v.category := by
  cases v with
  | retAddr a => show (va_rf (match cst 1000 with | 0 => none | a + 1 => some a)).category = 1; cases cst 1000 <;> rfl
  | _ => rfl
theorem g_get_set_same {h : gH} {k : Nat} {e0 e : gE} (hk : g_get h k = some e0) : g_get (g_set h k e) k = some e := by
  unfold g_get g_set at *
  simp only [va_up, if_true]
  exact List.getElem?_set_self (List.getElem?_eq_some_iff.mp hk).1
theorem g_get_set_ne {h : gH} {k j : Nat} {e : gE} (hj : j ≠ k) : g_get (g_set h k e) j = g_get h j := by
  unfold g_get g_set
  simp only [va_up]
  by_cases h1 : j / 1024 = k / 1024
  · rw [if_pos h1, h1]
    exact List.getElem?_set_ne (fun h2 => hj (by omega))
  · rw [if_neg h1]
section GH
variable {D : va_G} {cl : List vw_C} {tys : List (ClassId × FieldType)} {fl lg cst : Nat → Nat} {H0 : Heap}
theorem g_HH.at {h : gH} {H : Heap} {k : Nat} {e : gE} (hh : g_HH D cl tys fl lg cst H0 h H) (hk : g_get h k = some e) : va_P D cl [(H0.size + fl k, g_pe (fun j => H0.size + fl j) cst tys e)] H := by
  intro i q hq
  have hz : i < 1 := (List.getElem?_eq_some_iff.mp hq).1
  have h0 : i = 0 := by omega
  subst h0
  cases hq
  exact (hh.2.2 k e hk).2.2
theorem g_HH.put {h : gH} {H H1 : Heap} {k : Nat} {e0 e : gE} (hh : g_HH D cl tys fl lg cst H0 h H) (hk : g_get h k = some e0) (z : H1.size = H.size) (oq : ∀ q, q ≠ H0.size + fl k → H1[q]? = H[q]?)
    (he : va_at D cl (H0.size + fl k, g_pe (fun j => H0.size + fl j) cst tys e) H1) : g_HH D cl tys fl lg cst H0 (g_set h k e) H1 := by
  obtain ⟨a1, a2, a3⟩ := hh
  obtain ⟨b1, b2, -⟩ := a3 k e0 hk
  refine ⟨by rw [z]; exact a1, fun q hq => by rw [oq q (by omega)]; exact a2 q hq, fun j x hj => ?_⟩
  by_cases hjk : j = k
  · subst hjk
    rw [g_get_set_same hk] at hj
    cases hj
    exact ⟨b1, b2, he⟩
  · rw [g_get_set_ne hjk] at hj
    obtain ⟨c1, c2, c3⟩ := a3 j x hj
    refine ⟨c1, c2, c3.kept (oq _ (fun h => hjk ?_))⟩
    have h2 : fl j = fl k := by
      have : H0.size + fl j = H0.size + fl k := h
      omega
    rw [← c2, ← b2, h2]
theorem g_HH.push {h h' : gH} {H H1 : Heap} {k n : Nat} {e : gE} (hfl : ∀ i, fl (lg i) = i) (hh : g_HH D cl tys fl lg cst H0 h H) (hp : g_push lg h n e = some (k, h')) (z : H1.size = H.size + 1) (oq : ∀ q, q < H.size → H1[q]? = H[q]?)
    (he : va_at D cl (H.size, g_pe (fun j => H0.size + fl j) cst tys e) H1) : H0.size + fl k = H.size ∧ h'.1 = (h.1.1 + 1, h.1.2 + n) ∧ g_HH D cl tys fl lg cst H0 h' H1 := by
  obtain ⟨a1, a2, a3⟩ := hh
  unfold g_push at hp
  split at hp
  next hlen =>
    cases hp
    have hk : H0.size + fl (lg h.1.1) = H.size := by rw [hfl]; exact a1.symm
    refine ⟨hk, rfl, by show H1.size = H0.size + (h.1.1 + 1); omega, fun q hq => by rw [oq q (by omega)]; exact a2 q hq, fun j x hj => ?_⟩
    unfold g_get at hj
    simp only [va_up] at hj
    have old : ∀ {j : Nat} {x : gE}, g_get h j = some x → fl j < h.1.1 + 1 ∧ lg (fl j) = j ∧ va_at D cl (H0.size + fl j, g_pe (fun j => H0.size + fl j) cst tys x) H1 := by
      intro j x hj
      obtain ⟨c1, c2, c3⟩ := a3 j x hj
      exact ⟨by omega, c2, c3.kept (oq _ (by show H0.size + fl j < H.size; omega))⟩
    by_cases h1 : j / 1024 = lg h.1.1 / 1024
    · rw [if_pos h1] at hj
      by_cases h2 : j % 1024 < (h.2 (lg h.1.1 / 1024)).length
      · rw [List.getElem?_append_left h2] at hj
        exact old (show g_get h j = some x by unfold g_get; rw [h1]; exact hj)
      · rw [List.getElem?_append_right (by omega)] at hj
        have h3 := (List.getElem?_eq_some_iff.mp hj).1
        have h4 : j = lg h.1.1 := by
          have : j % 1024 - (h.2 (lg h.1.1 / 1024)).length < 1 := h3
          omega
        rw [show j % 1024 - (h.2 (lg h.1.1 / 1024)).length = 0 by have : j % 1024 - (h.2 (lg h.1.1 / 1024)).length < 1 := h3; omega] at hj
        cases hj
        subst h4
        rw [hfl]
        refine ⟨Nat.lt_succ_self _, rfl, ?_⟩
        rw [← a1]
        exact he
    · rw [if_neg h1] at hj
      exact old hj
  next => cases hp
end GH
end
section
/-! instructions of the stack alone -/
/-- how long an instruction is (0: a switch) -/
def g_len : Instr → Nat
  | .bipush _ => 2 | .sipush _ => 3 | .iload _ => 2 | .lload _ => 2 | .aload _ => 2 | .istore _ => 2 | .lstore _ => 2 | .astore _ => 2 | .iinc _ _ => 3
  | .ldc _ => 2 | .ldc_w _ => 3 | .ldc2_w _ => 3 | .getfield _ => 3 | .putfield _ => 3 | .new _ => 3 | .newarray _ => 2 | .anewarray _ => 3
  | .getstatic _ => 3 | .invokevirtual _ => 3 | .invokespecial _ => 3 | .invokestatic _ => 3 | .goto _ => 3 | .ifCond _ _ => 3 | .if_icmp _ _ => 3 | .tableswitch _ _ _ _ => 0
  | _ => 1
def g_pure (I : Instr) (st : List Value) : Option (List Value) := match I with
  | .iconst n => some (.int (Int32.ofInt n) :: st)
  | .bipush n => some (.int (Int8.ofInt n).toInt32 :: st)
  | .sipush n => some (.int (Int16.ofInt n).toInt32 :: st)
  | .lconst n => some (.long (Int64.ofNat n) :: st)
  | .iadd => match st with | .int y :: .int x :: r => some (.int (x + y) :: r) | _ => none
  | .isub => match st with | .int y :: .int x :: r => some (.int (x - y) :: r) | _ => none
  | .imul => match st with | .int y :: .int x :: r => some (.int (x * y) :: r) | _ => none
  | .idiv => match st with | .int y :: .int x :: r => if y = 0 then none else some (.int (x / y) :: r) | _ => none
  | .irem => match st with | .int y :: .int x :: r => if y = 0 then none else some (.int (x - x / y * y) :: r) | _ => none
  | .ineg => match st with | .int x :: r => some (.int (-x) :: r) | _ => none
  | .iand => match st with | .int y :: .int x :: r => some (.int (x &&& y) :: r) | _ => none
  | .ior => match st with | .int y :: .int x :: r => some (.int (x ||| y) :: r) | _ => none
  | .ixor => match st with | .int y :: .int x :: r => some (.int (x ^^^ y) :: r) | _ => none
  | .ishl => match st with | .int y :: .int x :: r => some (.int (x <<< (y &&& 31)) :: r) | _ => none
  | .ishr => match st with | .int y :: .int x :: r => some (.int (x >>> (y &&& 31)) :: r) | _ => none
  | .iushr => match st with | .int y :: .int x :: r => some (.int (x.toUInt32 >>> (y.toUInt32 &&& Int32.toUInt32 31)).toInt32 :: r) | _ => none
  | .ladd => match st with | .long y :: .long x :: r => some (.long (x + y) :: r) | _ => none
  | .lsub => match st with | .long y :: .long x :: r => some (.long (x - y) :: r) | _ => none
  | .lmul => match st with | .long y :: .long x :: r => some (.long (x * y) :: r) | _ => none
  | .land => match st with | .long y :: .long x :: r => some (.long (x &&& y) :: r) | _ => none
  | .lor => match st with | .long y :: .long x :: r => some (.long (x ||| y) :: r) | _ => none
  | .lxor => match st with | .long y :: .long x :: r => some (.long (x ^^^ y) :: r) | _ => none
  | .lshl => match st with | .int y :: .long x :: r => some (.long (x <<< (y.toInt64 &&& 63)) :: r) | _ => none
  | .lushr => match st with | .int y :: .long x :: r => some (.long (x.toUInt64 >>> (y.toInt64.toUInt64 &&& Int64.toUInt64 63)).toInt64 :: r) | _ => none
  | .lcmp => match st with | .long y :: .long x :: r => some (.int (lg_cmp x y) :: r) | _ => none
  | .i2l => match st with | .int x :: r => some (.long x.toInt64 :: r) | _ => none
  | .l2i => match st with | .long x :: r => some (.int x.toInt32 :: r) | _ => none
  | .i2b => match st with | .int x :: r => some (.int x.toInt8.toInt32 :: r) | _ => none
  | .i2c => match st with | .int x :: r => some (.int (x.toUInt32 % 65536).toInt32 :: r) | _ => none
  | .dup => match st with | v :: r => if v.category = 1 then some (v :: v :: r) else none | _ => none
  | .dup2 => match st with | a :: b :: r => if a.category = 1 ∧ b.category = 1 then some (a :: b :: a :: b :: r) else none | _ => none
  | .pop => match st with | v :: r => if v.category = 1 then some r else none | _ => none
  | _ => none
section GP
variable {p : Program} {l : Launch} {e : Env} {R : Room} {s : State} {m : MethodId} {args : Array Value} {below : List Frame} {meth : Method} {c : Code} {H : Heap} {locs : List Loc} {cells slots : Nat} {Q : State → Prop}
variable {cc : ByteArray} {pc : Nat} {ls : Array Slot} {ad cst : Nat → Nat}
set_option maxHeartbeats 4000000 in
theorem g_pure_ok (hx : p.tables.exec = Jvm.exec) (hb : c.code = cc) {I : Instr} {st st' : List Value} {len : Nat} (h : g_pure I st = some st') (hd : decode cc pc = .ok (I, len)) (hl : len = g_len I)
    (k : W p l e R s m args below meth c H locs cells slots Q (F0 m (pc + g_len I) ls (st'.map (g_sh ad cst)))) : W p l e R s m args below meth c H locs cells slots Q (F0 m pc ls (st.map (g_sh ad cst))) := by
  subst hl
  unfold g_pure at h
  split at h
  · cases h; exact lv_iconst hx hb hd rfl k
  · cases h; exact lv_bipush hx hb hd rfl k
  · cases h; exact lv_sipush hx hb hd rfl k
  · cases h; exact lv_lconst hx hb hd rfl k
  · split at h
    · cases h; exact lv_iadd hx hb hd k
    · cases h
  · split at h
    · cases h; exact lv_isub hx hb hd k
    · cases h
  · split at h
    · cases h; exact lv_imul hx hb hd k
    · cases h
  · split at h
    · split at h
      · cases h
      next hne => cases h; exact lv_idiv hx hb hd hne k
    · cases h
  · split at h
    · split at h
      · cases h
      next hne => cases h; exact lv_irem hx hb hd hne k
    · cases h
  · split at h
    · cases h; exact lv_ineg hx hb hd k
    · cases h
  · split at h
    · cases h; exact lv_iand hx hb hd k
    · cases h
  · split at h
    · cases h; exact lv_ior hx hb hd k
    · cases h
  · split at h
    · cases h; exact lv_ixor hx hb hd k
    · cases h
  · split at h
    · cases h; exact lv_ishl hx hb hd k
    · cases h
  · split at h
    · cases h; exact lv_ishr hx hb hd k
    · cases h
  · split at h
    · cases h; exact lv_iushr hx hb hd rfl k
    · cases h
  · split at h
    · cases h; exact lv_ladd hx hb hd k
    · cases h
  · split at h
    · cases h; exact lv_lsub hx hb hd k
    · cases h
  · split at h
    · cases h; exact lv_lmul hx hb hd k
    · cases h
  · split at h
    · cases h; exact lv_land hx hb hd k
    · cases h
  · split at h
    · cases h; exact lv_lor hx hb hd k
    · cases h
  · split at h
    · cases h; exact lv_lxor hx hb hd k
    · cases h
  · split at h
    · cases h; exact lv_lshl hx hb hd rfl k
    · cases h
  · split at h
    · cases h; exact lv_lushr hx hb hd rfl k
    · cases h
  · split at h
    · cases h; exact W.lcmp hx hb hd k
    · cases h
  · split at h
    · cases h; exact lv_i2l hx hb hd rfl k
    · cases h
  · split at h
    · cases h; exact lv_l2i hx hb hd rfl k
    · cases h
  · split at h
    · cases h; exact lv_i2b hx hb hd rfl k
    · cases h
  · split at h
    · cases h; exact lv_i2c hx hb hd rfl k
    · cases h
  · split at h
    · split at h
      next hc => cases h; exact lv_dup hx hb hd ((g_sh_cat ad cst _).trans hc) k
      · cases h
    · cases h
  · split at h
    · split at h
      next hc => cases h; exact lv_dup2_11 hx hb hd ((g_sh_cat ad cst _).trans hc.1) ((g_sh_cat ad cst _).trans hc.2) k
      · cases h
    · cases h
  · split at h
    · split at h
      next hc => cases h; exact lv_pop hx hb hd ((g_sh_cat ad cst _).trans hc) k
      · cases h
    · cases h
  · cases h
end GP
end
section
/-! instructions of the locals; branches -/
def g_ld (loc : List (Nat × Value)) (i : Nat) : Option Value := (loc.find? fun q => q.1 == i).map fun q => q.2
/-- the locals stand in the order of their numbers -/
def g_ins (i : Nat) (v : Value) : List (Nat × Value) → List (Nat × Value)
  | [] => [(i, v)]
  | q :: l => if i < q.1 then (i, v) :: q :: l else q :: g_ins i v l
def g_st1 (loc : List (Nat × Value)) (i : Nat) (v : Value) : List (Nat × Value) := g_ins i v (loc.filter fun q => !(q.1 == i) && !(q.1 + 1 == i && q.2.category == 2))
def g_st2 (loc : List (Nat × Value)) (i : Nat) (v : Value) : List (Nat × Value) := g_ins i v (loc.filter fun q => !(q.1 == i) && (!(q.1 == i + 1) && !(q.1 + 1 == i && q.2.category == 2)))
def g_loads (loc : List (Nat × Value)) (i : Nat) (st : List Value) (a : Nat) : Option (List (Nat × Value) × List Value) := match g_ld loc i, a with
  | some (.int x), 0 => some (loc, .int x :: st)
  | some (.long x), 1 => some (loc, .long x :: st)
  | some (.ref x), 2 => some (loc, .ref x :: st)
  | some (.float x), 2 => some (loc, .float x :: st)
  | _, _ => none
def g_stores (nL : Nat) (loc : List (Nat × Value)) (i : Nat) (st : List Value) (a : Nat) : Option (List (Nat × Value) × List Value) := match st, a with
  | .int x :: r, 0 => if i < nL then some (g_st1 loc i (.int x), r) else none
  | .long x :: r, 1 => if i + 1 < nL then some (g_st2 loc i (.long x), r) else none
  | .ref x :: r, 2 => if i < nL then some (g_st1 loc i (.ref x), r) else none
  | .float x :: r, 2 => if i < nL then some (g_st1 loc i (.float x), r) else none
  | _, _ => none
def g_loc (nL : Nat) (I : Instr) (loc : List (Nat × Value)) (st : List Value) : Option (List (Nat × Value) × List Value) := match I with
  | .iload i => g_loads loc i st 0
  | .iload_n i => g_loads loc i st 0
  | .lload i => g_loads loc i st 1
  | .lload_n i => g_loads loc i st 1
  | .aload i => g_loads loc i st 2
  | .aload_n i => g_loads loc i st 2
  | .istore i => g_stores nL loc i st 0
  | .istore_n i => g_stores nL loc i st 0
  | .lstore i => g_stores nL loc i st 1
  | .lstore_n i => g_stores nL loc i st 1
  | .astore i => g_stores nL loc i st 2
  | .astore_n i => g_stores nL loc i st 2
  | .iinc i n => match g_ld loc i with
    | some (.int x) => if i < nL then some (g_st1 loc i (.int (x + Int32.ofInt n)), st) else none
    | _ => none
  | _ => none
theorem g_ld_mem {loc : List (Nat × Value)} {i : Nat} {v : Value} (h : g_ld loc i = some v) : (i, v) ∈ loc := by
  unfold g_ld at h
  cases hf : loc.find? (fun q => q.1 == i) with
  | none => rw [hf] at h; cases h
  | some q =>
    rw [hf] at h
    cases h
    have h1 := List.find?_some hf
    have h2 := List.mem_of_find?_eq_some hf
    have h3 : q.1 = i := by simpa using h1
    rw [← h3]
    exact h2
theorem g_shl_mem {ad cst : Nat → Nat} {loc : List (Nat × Value)} {i : Nat} {v : Value} (h : (i, v) ∈ loc) : (i, g_sh ad cst v) ∈ g_shl ad cst loc := List.mem_map.mpr ⟨(i, v), h, rfl⟩
theorem g_ins_mem {i : Nat} {v : Value} : ∀ {l : List (Nat × Value)} {q : Nat × Value}, q ∈ g_ins i v l → q = (i, v) ∨ q ∈ l
  | [], q, h => Or.inl (List.mem_singleton.mp h)
  | a :: l, q, h => by
    unfold g_ins at h
    split at h
    · rcases List.mem_cons.mp h with h | h
      · exact Or.inl h
      · exact Or.inr h
    · rcases List.mem_cons.mp h with h | h
      · exact Or.inr (List.mem_cons.mpr (Or.inl h))
      · rcases g_ins_mem h with h | h
        · exact Or.inl h
        · exact Or.inr (List.mem_cons.mpr (Or.inr h))
theorem g_has_st1 {ad cst : Nat → Nat} {ls : Array Slot} {nL : Nat} {loc : List (Nat × Value)} {i : Nat} {v : Value} (h : lv_has ls nL ((i, g_sh ad cst v) :: (g_shl ad cst loc).filter (fun q => !(q.1 == i) && !(q.1 + 1 == i && q.2.category == 2)))) : lv_has ls nL (g_shl ad cst (g_st1 loc i v)) := by
  refine ⟨h.1, h.2.1, fun q hq => h.2.2 q ?_⟩
  obtain ⟨q0, h0, rfl⟩ := List.mem_map.mp hq
  rcases g_ins_mem h0 with rfl | h1
  · exact List.mem_cons_self
  · obtain ⟨h2, h3⟩ := List.mem_filter.mp h1
    refine List.mem_cons_of_mem _ (List.mem_filter.mpr ⟨List.mem_map.mpr ⟨q0, h2, rfl⟩, ?_⟩)
    simpa only [g_sh_cat] using h3
theorem g_has_st2 {ad cst : Nat → Nat} {ls : Array Slot} {nL : Nat} {loc : List (Nat × Value)} {i : Nat} {v : Value} (h : lv_has ls nL ((i, g_sh ad cst v) :: (g_shl ad cst loc).filter (fun q => !(q.1 == i) && (!(q.1 == i + 1) && !(q.1 + 1 == i && q.2.category == 2))))) : lv_has ls nL (g_shl ad cst (g_st2 loc i v)) := by
  refine ⟨h.1, h.2.1, fun q hq => h.2.2 q ?_⟩
  obtain ⟨q0, h0, rfl⟩ := List.mem_map.mp hq
  rcases g_ins_mem h0 with rfl | h1
  · exact List.mem_cons_self
  · obtain ⟨h2, h3⟩ := List.mem_filter.mp h1
    refine List.mem_cons_of_mem _ (List.mem_filter.mpr ⟨List.mem_map.mpr ⟨q0, h2, rfl⟩, ?_⟩)
    simpa only [g_sh_cat] using h3
section GL
variable {p : Program} {l : Launch} {e : Env} {R : Room} {s : State} {m : MethodId} {args : Array Value} {below : List Frame} {meth : Method} {c : Code} {H : Heap} {locs : List Loc} {cells slots : Nat} {Q : State → Prop}
variable {cc : ByteArray} {pc : Nat} {ls : Array Slot} {ad cst : Nat → Nat}
theorem g_loads_at {nL : Nat} {loc loc' : List (Nat × Value)} {st st' : List Value} {i a : Nat} (hl : lv_has ls nL (g_shl ad cst loc)) (h : g_loads loc i st a = some (loc', st')) :
    loc' = loc ∧ ((a = 0 ∧ ∃ x, ls[i]? = some (.val (.int x)) ∧ st'.map (g_sh ad cst) = .int x :: st.map (g_sh ad cst)) ∨ (a = 1 ∧ ∃ x, ls[i]? = some (.val (.long x)) ∧ st'.map (g_sh ad cst) = .long x :: st.map (g_sh ad cst)) ∨ (a = 2 ∧ ∃ x, ls[i]? = some (.val (.ref x)) ∧ st'.map (g_sh ad cst) = .ref x :: st.map (g_sh ad cst))) := by
  unfold g_loads at h
  split at h
  next x hg => cases h; exact ⟨rfl, Or.inl ⟨rfl, x, hl.2.2 _ (g_shl_mem (g_ld_mem hg)), rfl⟩⟩
  next x hg => cases h; exact ⟨rfl, Or.inr (Or.inl ⟨rfl, x, hl.2.2 _ (g_shl_mem (g_ld_mem hg)), rfl⟩)⟩
  next x hg => cases h; exact ⟨rfl, Or.inr (Or.inr ⟨rfl, ad x, hl.2.2 _ (g_shl_mem (g_ld_mem hg)), rfl⟩)⟩
  next x hg => cases h; exact ⟨rfl, Or.inr (Or.inr ⟨rfl, cst x.toNat, hl.2.2 _ (g_shl_mem (g_ld_mem hg)), rfl⟩)⟩
  next => cases h
set_option maxHeartbeats 4000000 in
theorem g_loc_ok (hx : p.tables.exec = Jvm.exec) (hb : c.code = cc) {I : Instr} {nL len : Nat} {loc loc' : List (Nat × Value)} {st st' : List Value} (h : g_loc nL I loc st = some (loc', st')) (hd : decode cc pc = .ok (I, len)) (hn : len = g_len I) (hl : lv_has ls nL (g_shl ad cst loc))
    (k : ∀ ls' : Array Slot, lv_has ls' nL (g_shl ad cst loc') → W p l e R s m args below meth c H locs cells slots Q (F0 m (pc + g_len I) ls' (st'.map (g_sh ad cst)))) : W p l e R s m args below meth c H locs cells slots Q (F0 m pc ls (st.map (g_sh ad cst))) := by
  subst hn
  unfold g_loc at h
  split at h
  · obtain ⟨rfl, ⟨-, x, h1, h2⟩ | ⟨h0, -⟩ | ⟨h0, -⟩⟩ := g_loads_at hl h
    · exact lv_iload hx hb hd h1 (by rw [← h2]; exact k ls hl)
    · cases h0
    · cases h0
  · obtain ⟨rfl, ⟨-, x, h1, h2⟩ | ⟨h0, -⟩ | ⟨h0, -⟩⟩ := g_loads_at hl h
    · exact lv_iload_n hx hb hd rfl h1 (by rw [← h2]; exact k ls hl)
    · cases h0
    · cases h0
  · obtain ⟨rfl, ⟨h0, -⟩ | ⟨-, x, h1, h2⟩ | ⟨h0, -⟩⟩ := g_loads_at hl h
    · cases h0
    · exact lv_lload hx hb hd h1 (by rw [← h2]; exact k ls hl)
    · cases h0
  · obtain ⟨rfl, ⟨h0, -⟩ | ⟨-, x, h1, h2⟩ | ⟨h0, -⟩⟩ := g_loads_at hl h
    · cases h0
    · exact lv_lload_n hx hb hd rfl h1 (by rw [← h2]; exact k ls hl)
    · cases h0
  · obtain ⟨rfl, ⟨h0, -⟩ | ⟨h0, -⟩ | ⟨-, x, h1, h2⟩⟩ := g_loads_at hl h
    · cases h0
    · cases h0
    · exact lv_aload hx hb hd h1 (by rw [← h2]; exact k ls hl)
  · obtain ⟨rfl, ⟨h0, -⟩ | ⟨h0, -⟩ | ⟨-, x, h1, h2⟩⟩ := g_loads_at hl h
    · cases h0
    · cases h0
    · exact lv_aload_n hx hb hd rfl h1 (by rw [← h2]; exact k ls hl)
  · unfold g_stores at h
    split at h
    · split at h
      next hi => cases h; exact lv_istore hx hb hd hl hi rfl (fun ls' h' => k ls' (g_has_st1 (v := .int _) h'))
      · cases h
    next e0 => cases e0
    next e0 => cases e0
    next e0 => cases e0
    · cases h
  · unfold g_stores at h
    split at h
    · split at h
      next hi => cases h; exact lv_istore_n hx hb hd rfl hl hi rfl (fun ls' h' => k ls' (g_has_st1 (v := .int _) h'))
      · cases h
    next e0 => cases e0
    next e0 => cases e0
    next e0 => cases e0
    · cases h
  · unfold g_stores at h
    split at h
    next e0 => cases e0
    · split at h
      next hi => cases h; exact lv_lstore hx hb hd hl hi rfl (fun ls' h' => k ls' (g_has_st2 (v := .long _) h'))
      · cases h
    next e0 => cases e0
    next e0 => cases e0
    · cases h
  · unfold g_stores at h
    split at h
    next e0 => cases e0
    · split at h
      next hi => cases h; exact lv_lstore_n hx hb hd rfl hl hi rfl (fun ls' h' => k ls' (g_has_st2 (v := .long _) h'))
      · cases h
    next e0 => cases e0
    next e0 => cases e0
    · cases h
  · unfold g_stores at h
    split at h
    next e0 => cases e0
    next e0 => cases e0
    · split at h
      next hi => cases h; exact lv_astore hx hb hd hl hi rfl (fun ls' h' => k ls' (g_has_st1 (v := .ref _) h'))
      · cases h
    · split at h
      next hi => cases h; exact lv_astore hx hb hd hl hi rfl (fun ls' h' => k ls' (g_has_st1 (v := .float _) h'))
      · cases h
    · cases h
  · unfold g_stores at h
    split at h
    next e0 => cases e0
    next e0 => cases e0
    · split at h
      next hi => cases h; exact lv_astore_n hx hb hd rfl hl hi rfl (fun ls' h' => k ls' (g_has_st1 (v := .ref _) h'))
      · cases h
    · split at h
      next hi => cases h; exact lv_astore_n hx hb hd rfl hl hi rfl (fun ls' h' => k ls' (g_has_st1 (v := .float _) h'))
      · cases h
    · cases h
  · split at h
    next x hg =>
      split at h
      next hi =>
        cases h
        obtain ⟨j, hj⟩ := List.getElem?_of_mem (g_shl_mem (ad := ad) (cst := cst) (g_ld_mem hg))
        exact lv_iinc hx hb hd hl (k := j) hj rfl hi rfl (fun ls' h' => k ls' (g_has_st1 (v := .int _) h'))
      · cases h
    · cases h
  · cases h
end GL
end
