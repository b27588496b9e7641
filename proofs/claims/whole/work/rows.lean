section
-- ===== PART A: goes FIRST, ahead of the names: the tables' words, and 'selects' of the private methods out of them =====
/-- a private method of a class that the tables say can be made, by its rows of tables_1 -/
def lw_okq (q : MethodName × Nat) : Prop := (q.1.cls ≠ "java/lang/invoke/MethodHandle" ∧ q.1.cls ≠ "java/lang/invoke/VarHandle") ∧ Cond.instantiable q.1.cls q.2 ∈ tables_1 ∧ Cond.privateMethod q.1 ∈ tables_1 ∧ Cond.instanceMethod q.1 ∈ tables_1
theorem lw_p0 : lw_okq (⟨"SleepWork$Reader", "open", "(LSleepWork$Tape;LSleepWork$House;LSleepWork$State;)V"⟩, 14) := ⟨⟨by decide +kernel, by decide +kernel⟩, List.mem_of_getElem? (i := 421) (by decide +kernel), List.mem_of_getElem? (i := 609) (by decide +kernel), List.mem_of_getElem? (i := 610) (by decide +kernel)⟩
theorem lw_p1 : lw_okq (⟨"SleepWork$Scanner", "scanNext", "(ILSleepWork$Tape;)V"⟩, 6) := ⟨⟨by decide +kernel, by decide +kernel⟩, List.mem_of_getElem? (i := 427) (by decide +kernel), List.mem_of_getElem? (i := 619) (by decide +kernel), List.mem_of_getElem? (i := 620) (by decide +kernel)⟩
theorem lw_p2 : lw_okq (⟨"SleepWork$Scanner", "scanLetters", "(ILSleepWork$Tape;)V"⟩, 6) := ⟨⟨by decide +kernel, by decide +kernel⟩, List.mem_of_getElem? (i := 427) (by decide +kernel), List.mem_of_getElem? (i := 629) (by decide +kernel), List.mem_of_getElem? (i := 630) (by decide +kernel)⟩
theorem lw_p3 : lw_okq (⟨"SleepWork$Scanner", "scanDigits", "(ILSleepWork$Tape;)V"⟩, 6) := ⟨⟨by decide +kernel, by decide +kernel⟩, List.mem_of_getElem? (i := 427) (by decide +kernel), List.mem_of_getElem? (i := 636) (by decide +kernel), List.mem_of_getElem? (i := 637) (by decide +kernel)⟩
theorem lw_p4 : lw_okq (⟨"SleepWork$Reader", "isNext", "(I)Z"⟩, 14) := ⟨⟨by decide +kernel, by decide +kernel⟩, List.mem_of_getElem? (i := 421) (by decide +kernel), List.mem_of_getElem? (i := 700) (by decide +kernel), List.mem_of_getElem? (i := 701) (by decide +kernel)⟩
theorem lw_p5 : lw_okq (⟨"SleepWork$Reader", "readRoom", "()V"⟩, 14) := ⟨⟨by decide +kernel, by decide +kernel⟩, List.mem_of_getElem? (i := 421) (by decide +kernel), List.mem_of_getElem? (i := 704) (by decide +kernel), List.mem_of_getElem? (i := 705) (by decide +kernel)⟩
theorem lw_p6 : lw_okq (⟨"SleepWork$Reader", "takeFirst", "(III)V"⟩, 14) := ⟨⟨by decide +kernel, by decide +kernel⟩, List.mem_of_getElem? (i := 421) (by decide +kernel), List.mem_of_getElem? (i := 708) (by decide +kernel), List.mem_of_getElem? (i := 709) (by decide +kernel)⟩
theorem lw_p7 : lw_okq (⟨"SleepWork$Reader", "fail", "(II)V"⟩, 14) := ⟨⟨by decide +kernel, by decide +kernel⟩, List.mem_of_getElem? (i := 421) (by decide +kernel), List.mem_of_getElem? (i := 712) (by decide +kernel), List.mem_of_getElem? (i := 713) (by decide +kernel)⟩
theorem lw_p8 : lw_okq (⟨"SleepWork$Reader", "take", "(I)Z"⟩, 14) := ⟨⟨by decide +kernel, by decide +kernel⟩, List.mem_of_getElem? (i := 421) (by decide +kernel), List.mem_of_getElem? (i := 716) (by decide +kernel), List.mem_of_getElem? (i := 717) (by decide +kernel)⟩
theorem lw_p9 : lw_okq (⟨"SleepWork$Reader", "takeNewName", "([JI)V"⟩, 14) := ⟨⟨by decide +kernel, by decide +kernel⟩, List.mem_of_getElem? (i := 421) (by decide +kernel), List.mem_of_getElem? (i := 720) (by decide +kernel), List.mem_of_getElem? (i := 721) (by decide +kernel)⟩
theorem lw_p10 : lw_okq (⟨"SleepWork$Reader", "failLate", "(I)V"⟩, 14) := ⟨⟨by decide +kernel, by decide +kernel⟩, List.mem_of_getElem? (i := 421) (by decide +kernel), List.mem_of_getElem? (i := 727) (by decide +kernel), List.mem_of_getElem? (i := 728) (by decide +kernel)⟩
theorem lw_p11 : lw_okq (⟨"SleepWork$Reader", "readDoor", "()V"⟩, 14) := ⟨⟨by decide +kernel, by decide +kernel⟩, List.mem_of_getElem? (i := 421) (by decide +kernel), List.mem_of_getElem? (i := 731) (by decide +kernel), List.mem_of_getElem? (i := 732) (by decide +kernel)⟩
theorem lw_p12 : lw_okq (⟨"SleepWork$Reader", "takeKnownName", "([JI)I"⟩, 14) := ⟨⟨by decide +kernel, by decide +kernel⟩, List.mem_of_getElem? (i := 421) (by decide +kernel), List.mem_of_getElem? (i := 735) (by decide +kernel), List.mem_of_getElem? (i := 736) (by decide +kernel)⟩
theorem lw_p13 : lw_okq (⟨"SleepWork$Reader", "takeNumber", "(II)I"⟩, 14) := ⟨⟨by decide +kernel, by decide +kernel⟩, List.mem_of_getElem? (i := 421) (by decide +kernel), List.mem_of_getElem? (i := 739) (by decide +kernel), List.mem_of_getElem? (i := 740) (by decide +kernel)⟩
theorem lw_p14 : lw_okq (⟨"SleepWork$Reader", "readTool", "()V"⟩, 14) := ⟨⟨by decide +kernel, by decide +kernel⟩, List.mem_of_getElem? (i := 421) (by decide +kernel), List.mem_of_getElem? (i := 743) (by decide +kernel), List.mem_of_getElem? (i := 744) (by decide +kernel)⟩
theorem lw_p15 : lw_okq (⟨"SleepWork$Reader", "readTask", "()V"⟩, 14) := ⟨⟨by decide +kernel, by decide +kernel⟩, List.mem_of_getElem? (i := 421) (by decide +kernel), List.mem_of_getElem? (i := 747) (by decide +kernel), List.mem_of_getElem? (i := 748) (by decide +kernel)⟩
def lw_privs_1 : List (MethodName × Nat) := [(⟨"SleepWork$Reader", "open", "(LSleepWork$Tape;LSleepWork$House;LSleepWork$State;)V"⟩, 14), (⟨"SleepWork$Scanner", "scanNext", "(ILSleepWork$Tape;)V"⟩, 6), (⟨"SleepWork$Scanner", "scanLetters", "(ILSleepWork$Tape;)V"⟩, 6), (⟨"SleepWork$Scanner", "scanDigits", "(ILSleepWork$Tape;)V"⟩, 6), (⟨"SleepWork$Reader", "isNext", "(I)Z"⟩, 14), (⟨"SleepWork$Reader", "readRoom", "()V"⟩, 14), (⟨"SleepWork$Reader", "takeFirst", "(III)V"⟩, 14), (⟨"SleepWork$Reader", "fail", "(II)V"⟩, 14), (⟨"SleepWork$Reader", "take", "(I)Z"⟩, 14), (⟨"SleepWork$Reader", "takeNewName", "([JI)V"⟩, 14), (⟨"SleepWork$Reader", "failLate", "(I)V"⟩, 14), (⟨"SleepWork$Reader", "readDoor", "()V"⟩, 14), (⟨"SleepWork$Reader", "takeKnownName", "([JI)I"⟩, 14), (⟨"SleepWork$Reader", "takeNumber", "(II)I"⟩, 14), (⟨"SleepWork$Reader", "readTool", "()V"⟩, 14), (⟨"SleepWork$Reader", "readTask", "()V"⟩, 14)]
theorem lw_r1 : ∀ q ∈ lw_privs_1, lw_okq q := List.forall_mem_cons.mpr ⟨lw_p0, List.forall_mem_cons.mpr ⟨lw_p1, List.forall_mem_cons.mpr ⟨lw_p2, List.forall_mem_cons.mpr ⟨lw_p3, List.forall_mem_cons.mpr ⟨lw_p4, List.forall_mem_cons.mpr ⟨lw_p5, List.forall_mem_cons.mpr ⟨lw_p6, List.forall_mem_cons.mpr ⟨lw_p7, List.forall_mem_cons.mpr ⟨lw_p8, List.forall_mem_cons.mpr ⟨lw_p9, List.forall_mem_cons.mpr ⟨lw_p10, List.forall_mem_cons.mpr ⟨lw_p11, List.forall_mem_cons.mpr ⟨lw_p12, List.forall_mem_cons.mpr ⟨lw_p13, List.forall_mem_cons.mpr ⟨lw_p14, List.forall_mem_cons.mpr ⟨lw_p15, fun _ h => absurd h List.not_mem_nil⟩⟩⟩⟩⟩⟩⟩⟩⟩⟩⟩⟩⟩⟩⟩⟩
theorem lw_p16 : lw_okq (⟨"SleepWork$Reader", "readStep", "()V"⟩, 14) := ⟨⟨by decide +kernel, by decide +kernel⟩, List.mem_of_getElem? (i := 421) (by decide +kernel), List.mem_of_getElem? (i := 751) (by decide +kernel), List.mem_of_getElem? (i := 752) (by decide +kernel)⟩
theorem lw_p17 : lw_okq (⟨"SleepWork$Reader", "takeTaskOfStep", "()I"⟩, 14) := ⟨⟨by decide +kernel, by decide +kernel⟩, List.mem_of_getElem? (i := 421) (by decide +kernel), List.mem_of_getElem? (i := 755) (by decide +kernel), List.mem_of_getElem? (i := 756) (by decide +kernel)⟩
theorem lw_p18 : lw_okq (⟨"SleepWork$Reader", "takeStepNumber", "(I)I"⟩, 14) := ⟨⟨by decide +kernel, by decide +kernel⟩, List.mem_of_getElem? (i := 421) (by decide +kernel), List.mem_of_getElem? (i := 759) (by decide +kernel), List.mem_of_getElem? (i := 760) (by decide +kernel)⟩
theorem lw_p19 : lw_okq (⟨"SleepWork$Reader", "readMan", "()V"⟩, 14) := ⟨⟨by decide +kernel, by decide +kernel⟩, List.mem_of_getElem? (i := 421) (by decide +kernel), List.mem_of_getElem? (i := 763) (by decide +kernel), List.mem_of_getElem? (i := 764) (by decide +kernel)⟩
theorem lw_p20 : lw_okq (⟨"SleepWork$Reader", "readLaw", "()V"⟩, 14) := ⟨⟨by decide +kernel, by decide +kernel⟩, List.mem_of_getElem? (i := 421) (by decide +kernel), List.mem_of_getElem? (i := 767) (by decide +kernel), List.mem_of_getElem? (i := 768) (by decide +kernel)⟩
theorem lw_p21 : lw_okq (⟨"SleepWork$Reader", "readIf", "()V"⟩, 14) := ⟨⟨by decide +kernel, by decide +kernel⟩, List.mem_of_getElem? (i := 421) (by decide +kernel), List.mem_of_getElem? (i := 771) (by decide +kernel), List.mem_of_getElem? (i := 772) (by decide +kernel)⟩
theorem lw_p22 : lw_okq (⟨"SleepWork$Reader", "readSum", "(I)V"⟩, 14) := ⟨⟨by decide +kernel, by decide +kernel⟩, List.mem_of_getElem? (i := 421) (by decide +kernel), List.mem_of_getElem? (i := 775) (by decide +kernel), List.mem_of_getElem? (i := 776) (by decide +kernel)⟩
theorem lw_p23 : lw_okq (⟨"SleepWork$Reader", "readUnit", "(I)V"⟩, 14) := ⟨⟨by decide +kernel, by decide +kernel⟩, List.mem_of_getElem? (i := 421) (by decide +kernel), List.mem_of_getElem? (i := 779) (by decide +kernel), List.mem_of_getElem? (i := 780) (by decide +kernel)⟩
theorem lw_p24 : lw_okq (⟨"SleepWork$Reader", "addSign", "(I)V"⟩, 14) := ⟨⟨by decide +kernel, by decide +kernel⟩, List.mem_of_getElem? (i := 421) (by decide +kernel), List.mem_of_getElem? (i := 787) (by decide +kernel), List.mem_of_getElem? (i := 788) (by decide +kernel)⟩
theorem lw_p25 : lw_okq (⟨"SleepWork$Reader", "takeEither", "(II)I"⟩, 14) := ⟨⟨by decide +kernel, by decide +kernel⟩, List.mem_of_getElem? (i := 421) (by decide +kernel), List.mem_of_getElem? (i := 791) (by decide +kernel), List.mem_of_getElem? (i := 792) (by decide +kernel)⟩
theorem lw_p26 : lw_okq (⟨"SleepWork$Reader", "readNight", "()V"⟩, 14) := ⟨⟨by decide +kernel, by decide +kernel⟩, List.mem_of_getElem? (i := 421) (by decide +kernel), List.mem_of_getElem? (i := 799) (by decide +kernel), List.mem_of_getElem? (i := 800) (by decide +kernel)⟩
theorem lw_p27 : lw_okq (⟨"SleepWork", "moveIn", "()V"⟩, 12) := ⟨⟨by decide +kernel, by decide +kernel⟩, List.mem_of_getElem? (i := 24) (by decide +kernel), List.mem_of_getElem? (i := 807) (by decide +kernel), List.mem_of_getElem? (i := 808) (by decide +kernel)⟩
theorem lw_p28 : lw_okq (⟨"SleepWork", "isMan", "(I)Z"⟩, 12) := ⟨⟨by decide +kernel, by decide +kernel⟩, List.mem_of_getElem? (i := 24) (by decide +kernel), List.mem_of_getElem? (i := 859) (by decide +kernel), List.mem_of_getElem? (i := 860) (by decide +kernel)⟩
theorem lw_p29 : lw_okq (⟨"SleepWork", "isTool", "(I)Z"⟩, 12) := ⟨⟨by decide +kernel, by decide +kernel⟩, List.mem_of_getElem? (i := 24) (by decide +kernel), List.mem_of_getElem? (i := 867) (by decide +kernel), List.mem_of_getElem? (i := 868) (by decide +kernel)⟩
theorem lw_p30 : lw_okq (⟨"SleepWork", "isRoom", "(I)Z"⟩, 12) := ⟨⟨by decide +kernel, by decide +kernel⟩, List.mem_of_getElem? (i := 24) (by decide +kernel), List.mem_of_getElem? (i := 875) (by decide +kernel), List.mem_of_getElem? (i := 876) (by decide +kernel)⟩
theorem lw_p31 : lw_okq (⟨"SleepWork$Ways", "takeDoors", "(LSleepWork$House;I)V"⟩, 2) := ⟨⟨by decide +kernel, by decide +kernel⟩, List.mem_of_getElem? (i := 320) (by decide +kernel), List.mem_of_getElem? (i := 887) (by decide +kernel), List.mem_of_getElem? (i := 888) (by decide +kernel)⟩
def lw_privs_2 : List (MethodName × Nat) := [(⟨"SleepWork$Reader", "readStep", "()V"⟩, 14), (⟨"SleepWork$Reader", "takeTaskOfStep", "()I"⟩, 14), (⟨"SleepWork$Reader", "takeStepNumber", "(I)I"⟩, 14), (⟨"SleepWork$Reader", "readMan", "()V"⟩, 14), (⟨"SleepWork$Reader", "readLaw", "()V"⟩, 14), (⟨"SleepWork$Reader", "readIf", "()V"⟩, 14), (⟨"SleepWork$Reader", "readSum", "(I)V"⟩, 14), (⟨"SleepWork$Reader", "readUnit", "(I)V"⟩, 14), (⟨"SleepWork$Reader", "addSign", "(I)V"⟩, 14), (⟨"SleepWork$Reader", "takeEither", "(II)I"⟩, 14), (⟨"SleepWork$Reader", "readNight", "()V"⟩, 14), (⟨"SleepWork", "moveIn", "()V"⟩, 12), (⟨"SleepWork", "isMan", "(I)Z"⟩, 12), (⟨"SleepWork", "isTool", "(I)Z"⟩, 12), (⟨"SleepWork", "isRoom", "(I)Z"⟩, 12), (⟨"SleepWork$Ways", "takeDoors", "(LSleepWork$House;I)V"⟩, 2)]
theorem lw_r2 : ∀ q ∈ lw_privs_2, lw_okq q := List.forall_mem_cons.mpr ⟨lw_p16, List.forall_mem_cons.mpr ⟨lw_p17, List.forall_mem_cons.mpr ⟨lw_p18, List.forall_mem_cons.mpr ⟨lw_p19, List.forall_mem_cons.mpr ⟨lw_p20, List.forall_mem_cons.mpr ⟨lw_p21, List.forall_mem_cons.mpr ⟨lw_p22, List.forall_mem_cons.mpr ⟨lw_p23, List.forall_mem_cons.mpr ⟨lw_p24, List.forall_mem_cons.mpr ⟨lw_p25, List.forall_mem_cons.mpr ⟨lw_p26, List.forall_mem_cons.mpr ⟨lw_p27, List.forall_mem_cons.mpr ⟨lw_p28, List.forall_mem_cons.mpr ⟨lw_p29, List.forall_mem_cons.mpr ⟨lw_p30, List.forall_mem_cons.mpr ⟨lw_p31, fun _ h => absurd h List.not_mem_nil⟩⟩⟩⟩⟩⟩⟩⟩⟩⟩⟩⟩⟩⟩⟩⟩
theorem lw_p32 : lw_okq (⟨"SleepWork$Ways", "joinWays", "(I)V"⟩, 2) := ⟨⟨by decide +kernel, by decide +kernel⟩, List.mem_of_getElem? (i := 320) (by decide +kernel), List.mem_of_getElem? (i := 894) (by decide +kernel), List.mem_of_getElem? (i := 895) (by decide +kernel)⟩
theorem lw_p33 : lw_okq (⟨"SleepWork$Sleep", "getUp", "()V"⟩, 10) := ⟨⟨by decide +kernel, by decide +kernel⟩, List.mem_of_getElem? (i := 314) (by decide +kernel), List.mem_of_getElem? (i := 947) (by decide +kernel), List.mem_of_getElem? (i := 948) (by decide +kernel)⟩
theorem lw_p34 : lw_okq (⟨"SleepWork$Sleep", "nextMinute", "()I"⟩, 10) := ⟨⟨by decide +kernel, by decide +kernel⟩, List.mem_of_getElem? (i := 314) (by decide +kernel), List.mem_of_getElem? (i := 953) (by decide +kernel), List.mem_of_getElem? (i := 954) (by decide +kernel)⟩
theorem lw_p35 : lw_okq (⟨"SleepWork$Sleep", "finishAll", "(I)V"⟩, 10) := ⟨⟨by decide +kernel, by decide +kernel⟩, List.mem_of_getElem? (i := 314) (by decide +kernel), List.mem_of_getElem? (i := 958) (by decide +kernel), List.mem_of_getElem? (i := 959) (by decide +kernel)⟩
theorem lw_p36 : lw_okq (⟨"SleepWork$Sleep", "begin", "(II)V"⟩, 10) := ⟨⟨by decide +kernel, by decide +kernel⟩, List.mem_of_getElem? (i := 314) (by decide +kernel), List.mem_of_getElem? (i := 963) (by decide +kernel), List.mem_of_getElem? (i := 964) (by decide +kernel)⟩
theorem lw_p37 : lw_okq (⟨"SleepWork$Sleep", "lieDown", "(II)V"⟩, 10) := ⟨⟨by decide +kernel, by decide +kernel⟩, List.mem_of_getElem? (i := 314) (by decide +kernel), List.mem_of_getElem? (i := 968) (by decide +kernel), List.mem_of_getElem? (i := 969) (by decide +kernel)⟩
theorem lw_p38 : lw_okq (⟨"SleepWork$Sleep", "chosenStep", "(III)I"⟩, 10) := ⟨⟨by decide +kernel, by decide +kernel⟩, List.mem_of_getElem? (i := 314) (by decide +kernel), List.mem_of_getElem? (i := 972) (by decide +kernel), List.mem_of_getElem? (i := 973) (by decide +kernel)⟩
theorem lw_p39 : lw_okq (⟨"SleepWork$Sleep", "wakeUp", "()V"⟩, 10) := ⟨⟨by decide +kernel, by decide +kernel⟩, List.mem_of_getElem? (i := 314) (by decide +kernel), List.mem_of_getElem? (i := 984) (by decide +kernel), List.mem_of_getElem? (i := 985) (by decide +kernel)⟩
theorem lw_p40 : lw_okq (⟨"SleepWork$Evening", "gainOfTrial", "()I"⟩, 16) := ⟨⟨by decide +kernel, by decide +kernel⟩, List.mem_of_getElem? (i := 306) (by decide +kernel), List.mem_of_getElem? (i := 1006) (by decide +kernel), List.mem_of_getElem? (i := 1007) (by decide +kernel)⟩
theorem lw_p41 : lw_okq (⟨"SleepWork$Evening", "isAnswered", "(III)Z"⟩, 16) := ⟨⟨by decide +kernel, by decide +kernel⟩, List.mem_of_getElem? (i := 306) (by decide +kernel), List.mem_of_getElem? (i := 1018) (by decide +kernel), List.mem_of_getElem? (i := 1019) (by decide +kernel)⟩
theorem lw_p42 : lw_okq (⟨"SleepWork$Evening", "offer", "(III)V"⟩, 16) := ⟨⟨by decide +kernel, by decide +kernel⟩, List.mem_of_getElem? (i := 306) (by decide +kernel), List.mem_of_getElem? (i := 1027) (by decide +kernel), List.mem_of_getElem? (i := 1028) (by decide +kernel)⟩
theorem lw_p43 : lw_okq (⟨"SleepWork", "areTwoMen", "(II)Z"⟩, 12) := ⟨⟨by decide +kernel, by decide +kernel⟩, List.mem_of_getElem? (i := 24) (by decide +kernel), List.mem_of_getElem? (i := 1038) (by decide +kernel), List.mem_of_getElem? (i := 1039) (by decide +kernel)⟩
theorem lw_p44 : lw_okq (⟨"SleepWork$Evening", "clearSeen", "(I)V"⟩, 16) := ⟨⟨by decide +kernel, by decide +kernel⟩, List.mem_of_getElem? (i := 306) (by decide +kernel), List.mem_of_getElem? (i := 1067) (by decide +kernel), List.mem_of_getElem? (i := 1068) (by decide +kernel)⟩
theorem lw_p45 : lw_okq (⟨"SleepWork$Evening", "arrivals", "(I)J"⟩, 16) := ⟨⟨by decide +kernel, by decide +kernel⟩, List.mem_of_getElem? (i := 306) (by decide +kernel), List.mem_of_getElem? (i := 1080) (by decide +kernel), List.mem_of_getElem? (i := 1081) (by decide +kernel)⟩
theorem lw_p46 : lw_okq (⟨"SleepWork$Evening", "isNew", "(J)Z"⟩, 16) := ⟨⟨by decide +kernel, by decide +kernel⟩, List.mem_of_getElem? (i := 306) (by decide +kernel), List.mem_of_getElem? (i := 1085) (by decide +kernel), List.mem_of_getElem? (i := 1086) (by decide +kernel)⟩
theorem lw_p47 : lw_okq (⟨"SleepWork", "isKnownBy", "(I)Z"⟩, 12) := ⟨⟨by decide +kernel, by decide +kernel⟩, List.mem_of_getElem? (i := 24) (by decide +kernel), List.mem_of_getElem? (i := 1122) (by decide +kernel), List.mem_of_getElem? (i := 1123) (by decide +kernel)⟩
def lw_privs_3 : List (MethodName × Nat) := [(⟨"SleepWork$Ways", "joinWays", "(I)V"⟩, 2), (⟨"SleepWork$Sleep", "getUp", "()V"⟩, 10), (⟨"SleepWork$Sleep", "nextMinute", "()I"⟩, 10), (⟨"SleepWork$Sleep", "finishAll", "(I)V"⟩, 10), (⟨"SleepWork$Sleep", "begin", "(II)V"⟩, 10), (⟨"SleepWork$Sleep", "lieDown", "(II)V"⟩, 10), (⟨"SleepWork$Sleep", "chosenStep", "(III)I"⟩, 10), (⟨"SleepWork$Sleep", "wakeUp", "()V"⟩, 10), (⟨"SleepWork$Evening", "gainOfTrial", "()I"⟩, 16), (⟨"SleepWork$Evening", "isAnswered", "(III)Z"⟩, 16), (⟨"SleepWork$Evening", "offer", "(III)V"⟩, 16), (⟨"SleepWork", "areTwoMen", "(II)Z"⟩, 12), (⟨"SleepWork$Evening", "clearSeen", "(I)V"⟩, 16), (⟨"SleepWork$Evening", "arrivals", "(I)J"⟩, 16), (⟨"SleepWork$Evening", "isNew", "(J)Z"⟩, 16), (⟨"SleepWork", "isKnownBy", "(I)Z"⟩, 12)]
theorem lw_r3 : ∀ q ∈ lw_privs_3, lw_okq q := List.forall_mem_cons.mpr ⟨lw_p32, List.forall_mem_cons.mpr ⟨lw_p33, List.forall_mem_cons.mpr ⟨lw_p34, List.forall_mem_cons.mpr ⟨lw_p35, List.forall_mem_cons.mpr ⟨lw_p36, List.forall_mem_cons.mpr ⟨lw_p37, List.forall_mem_cons.mpr ⟨lw_p38, List.forall_mem_cons.mpr ⟨lw_p39, List.forall_mem_cons.mpr ⟨lw_p40, List.forall_mem_cons.mpr ⟨lw_p41, List.forall_mem_cons.mpr ⟨lw_p42, List.forall_mem_cons.mpr ⟨lw_p43, List.forall_mem_cons.mpr ⟨lw_p44, List.forall_mem_cons.mpr ⟨lw_p45, List.forall_mem_cons.mpr ⟨lw_p46, List.forall_mem_cons.mpr ⟨lw_p47, fun _ h => absurd h List.not_mem_nil⟩⟩⟩⟩⟩⟩⟩⟩⟩⟩⟩⟩⟩⟩⟩⟩
theorem lw_p48 : lw_okq (⟨"SleepWork$Evening", "isSuspect", "(II)Z"⟩, 16) := ⟨⟨by decide +kernel, by decide +kernel⟩, List.mem_of_getElem? (i := 306) (by decide +kernel), List.mem_of_getElem? (i := 1142) (by decide +kernel), List.mem_of_getElem? (i := 1143) (by decide +kernel)⟩
theorem lw_p49 : lw_okq (⟨"SleepWorkModel", "put", "(I)V"⟩, 83) := ⟨⟨by decide +kernel, by decide +kernel⟩, List.mem_of_getElem? (i := 1167) (by decide +kernel), List.mem_of_getElem? (i := 1434) (by decide +kernel), List.mem_of_getElem? (i := 1435) (by decide +kernel)⟩
theorem lw_p50 : lw_okq (⟨"SleepWorkModel", "cut", "()V"⟩, 83) := ⟨⟨by decide +kernel, by decide +kernel⟩, List.mem_of_getElem? (i := 1167) (by decide +kernel), List.mem_of_getElem? (i := 1446) (by decide +kernel), List.mem_of_getElem? (i := 1447) (by decide +kernel)⟩
theorem lw_p51 : lw_okq (⟨"SleepWorkModel", "byteAt", "(I)I"⟩, 83) := ⟨⟨by decide +kernel, by decide +kernel⟩, List.mem_of_getElem? (i := 1167) (by decide +kernel), List.mem_of_getElem? (i := 1450) (by decide +kernel), List.mem_of_getElem? (i := 1451) (by decide +kernel)⟩
theorem lw_p52 : lw_okq (⟨"SleepWorkModel", "token", "(IIIJ)V"⟩, 83) := ⟨⟨by decide +kernel, by decide +kernel⟩, List.mem_of_getElem? (i := 1167) (by decide +kernel), List.mem_of_getElem? (i := 1454) (by decide +kernel), List.mem_of_getElem? (i := 1455) (by decide +kernel)⟩
theorem lw_p53 : lw_okq (⟨"SleepWorkModel", "sign", "(III)I"⟩, 83) := ⟨⟨by decide +kernel, by decide +kernel⟩, List.mem_of_getElem? (i := 1167) (by decide +kernel), List.mem_of_getElem? (i := 1464) (by decide +kernel), List.mem_of_getElem? (i := 1465) (by decide +kernel)⟩
theorem lw_p54 : lw_okq (⟨"SleepWorkModel", "is", "(I)Z"⟩, 83) := ⟨⟨by decide +kernel, by decide +kernel⟩, List.mem_of_getElem? (i := 1167) (by decide +kernel), List.mem_of_getElem? (i := 1468) (by decide +kernel), List.mem_of_getElem? (i := 1469) (by decide +kernel)⟩
theorem lw_p55 : lw_okq (⟨"SleepWorkModel", "tell", "()V"⟩, 83) := ⟨⟨by decide +kernel, by decide +kernel⟩, List.mem_of_getElem? (i := 1167) (by decide +kernel), List.mem_of_getElem? (i := 1472) (by decide +kernel), List.mem_of_getElem? (i := 1473) (by decide +kernel)⟩
theorem lw_p56 : lw_okq (⟨"SleepWorkModel", "roomFor", "(II)V"⟩, 83) := ⟨⟨by decide +kernel, by decide +kernel⟩, List.mem_of_getElem? (i := 1167) (by decide +kernel), List.mem_of_getElem? (i := 1476) (by decide +kernel), List.mem_of_getElem? (i := 1477) (by decide +kernel)⟩
theorem lw_p57 : lw_okq (⟨"SleepWorkModel", "fail", "(I)V"⟩, 83) := ⟨⟨by decide +kernel, by decide +kernel⟩, List.mem_of_getElem? (i := 1167) (by decide +kernel), List.mem_of_getElem? (i := 1480) (by decide +kernel), List.mem_of_getElem? (i := 1481) (by decide +kernel)⟩
theorem lw_p58 : lw_okq (⟨"SleepWorkModel", "goesOn", "()V"⟩, 83) := ⟨⟨by decide +kernel, by decide +kernel⟩, List.mem_of_getElem? (i := 1167) (by decide +kernel), List.mem_of_getElem? (i := 1484) (by decide +kernel), List.mem_of_getElem? (i := 1485) (by decide +kernel)⟩
theorem lw_p59 : lw_okq (⟨"SleepWorkModel", "tellRoom", "()V"⟩, 83) := ⟨⟨by decide +kernel, by decide +kernel⟩, List.mem_of_getElem? (i := 1167) (by decide +kernel), List.mem_of_getElem? (i := 1488) (by decide +kernel), List.mem_of_getElem? (i := 1489) (by decide +kernel)⟩
theorem lw_p60 : lw_okq (⟨"SleepWorkModel", "named", "()I"⟩, 83) := ⟨⟨by decide +kernel, by decide +kernel⟩, List.mem_of_getElem? (i := 1167) (by decide +kernel), List.mem_of_getElem? (i := 1492) (by decide +kernel), List.mem_of_getElem? (i := 1493) (by decide +kernel)⟩
theorem lw_p61 : lw_okq (⟨"SleepWorkModel", "must", "(I)V"⟩, 83) := ⟨⟨by decide +kernel, by decide +kernel⟩, List.mem_of_getElem? (i := 1167) (by decide +kernel), List.mem_of_getElem? (i := 1496) (by decide +kernel), List.mem_of_getElem? (i := 1497) (by decide +kernel)⟩
theorem lw_p62 : lw_okq (⟨"SleepWorkModel", "wrong", "(II)V"⟩, 83) := ⟨⟨by decide +kernel, by decide +kernel⟩, List.mem_of_getElem? (i := 1167) (by decide +kernel), List.mem_of_getElem? (i := 1500) (by decide +kernel), List.mem_of_getElem? (i := 1501) (by decide +kernel)⟩
theorem lw_p63 : lw_okq (⟨"SleepWorkModel", "notes", "(III)V"⟩, 83) := ⟨⟨by decide +kernel, by decide +kernel⟩, List.mem_of_getElem? (i := 1167) (by decide +kernel), List.mem_of_getElem? (i := 1504) (by decide +kernel), List.mem_of_getElem? (i := 1505) (by decide +kernel)⟩
def lw_privs_4 : List (MethodName × Nat) := [(⟨"SleepWork$Evening", "isSuspect", "(II)Z"⟩, 16), (⟨"SleepWorkModel", "put", "(I)V"⟩, 83), (⟨"SleepWorkModel", "cut", "()V"⟩, 83), (⟨"SleepWorkModel", "byteAt", "(I)I"⟩, 83), (⟨"SleepWorkModel", "token", "(IIIJ)V"⟩, 83), (⟨"SleepWorkModel", "sign", "(III)I"⟩, 83), (⟨"SleepWorkModel", "is", "(I)Z"⟩, 83), (⟨"SleepWorkModel", "tell", "()V"⟩, 83), (⟨"SleepWorkModel", "roomFor", "(II)V"⟩, 83), (⟨"SleepWorkModel", "fail", "(I)V"⟩, 83), (⟨"SleepWorkModel", "goesOn", "()V"⟩, 83), (⟨"SleepWorkModel", "tellRoom", "()V"⟩, 83), (⟨"SleepWorkModel", "named", "()I"⟩, 83), (⟨"SleepWorkModel", "must", "(I)V"⟩, 83), (⟨"SleepWorkModel", "wrong", "(II)V"⟩, 83), (⟨"SleepWorkModel", "notes", "(III)V"⟩, 83)]
theorem lw_r4 : ∀ q ∈ lw_privs_4, lw_okq q := List.forall_mem_cons.mpr ⟨lw_p48, List.forall_mem_cons.mpr ⟨lw_p49, List.forall_mem_cons.mpr ⟨lw_p50, List.forall_mem_cons.mpr ⟨lw_p51, List.forall_mem_cons.mpr ⟨lw_p52, List.forall_mem_cons.mpr ⟨lw_p53, List.forall_mem_cons.mpr ⟨lw_p54, List.forall_mem_cons.mpr ⟨lw_p55, List.forall_mem_cons.mpr ⟨lw_p56, List.forall_mem_cons.mpr ⟨lw_p57, List.forall_mem_cons.mpr ⟨lw_p58, List.forall_mem_cons.mpr ⟨lw_p59, List.forall_mem_cons.mpr ⟨lw_p60, List.forall_mem_cons.mpr ⟨lw_p61, List.forall_mem_cons.mpr ⟨lw_p62, List.forall_mem_cons.mpr ⟨lw_p63, fun _ h => absurd h List.not_mem_nil⟩⟩⟩⟩⟩⟩⟩⟩⟩⟩⟩⟩⟩⟩⟩⟩
theorem lw_p64 : lw_okq (⟨"SleepWorkModel", "tellDoor", "()V"⟩, 83) := ⟨⟨by decide +kernel, by decide +kernel⟩, List.mem_of_getElem? (i := 1167) (by decide +kernel), List.mem_of_getElem? (i := 1508) (by decide +kernel), List.mem_of_getElem? (i := 1509) (by decide +kernel)⟩
theorem lw_p65 : lw_okq (⟨"SleepWorkModel", "known", "(I)I"⟩, 83) := ⟨⟨by decide +kernel, by decide +kernel⟩, List.mem_of_getElem? (i := 1167) (by decide +kernel), List.mem_of_getElem? (i := 1512) (by decide +kernel), List.mem_of_getElem? (i := 1513) (by decide +kernel)⟩
theorem lw_p66 : lw_okq (⟨"SleepWorkModel", "bounded", "(II)I"⟩, 83) := ⟨⟨by decide +kernel, by decide +kernel⟩, List.mem_of_getElem? (i := 1167) (by decide +kernel), List.mem_of_getElem? (i := 1516) (by decide +kernel), List.mem_of_getElem? (i := 1517) (by decide +kernel)⟩
theorem lw_p67 : lw_okq (⟨"SleepWorkModel", "tellTool", "()V"⟩, 83) := ⟨⟨by decide +kernel, by decide +kernel⟩, List.mem_of_getElem? (i := 1167) (by decide +kernel), List.mem_of_getElem? (i := 1520) (by decide +kernel), List.mem_of_getElem? (i := 1521) (by decide +kernel)⟩
theorem lw_p68 : lw_okq (⟨"SleepWorkModel", "tellTask", "()V"⟩, 83) := ⟨⟨by decide +kernel, by decide +kernel⟩, List.mem_of_getElem? (i := 1167) (by decide +kernel), List.mem_of_getElem? (i := 1524) (by decide +kernel), List.mem_of_getElem? (i := 1525) (by decide +kernel)⟩
theorem lw_p69 : lw_okq (⟨"SleepWorkModel", "tellStep", "(I)V"⟩, 83) := ⟨⟨by decide +kernel, by decide +kernel⟩, List.mem_of_getElem? (i := 1167) (by decide +kernel), List.mem_of_getElem? (i := 1528) (by decide +kernel), List.mem_of_getElem? (i := 1529) (by decide +kernel)⟩
theorem lw_p70 : lw_okq (⟨"SleepWorkModel", "failAt", "(II)V"⟩, 83) := ⟨⟨by decide +kernel, by decide +kernel⟩, List.mem_of_getElem? (i := 1167) (by decide +kernel), List.mem_of_getElem? (i := 1532) (by decide +kernel), List.mem_of_getElem? (i := 1533) (by decide +kernel)⟩
theorem lw_p71 : lw_okq (⟨"SleepWorkModel", "tellMan", "()V"⟩, 83) := ⟨⟨by decide +kernel, by decide +kernel⟩, List.mem_of_getElem? (i := 1167) (by decide +kernel), List.mem_of_getElem? (i := 1536) (by decide +kernel), List.mem_of_getElem? (i := 1537) (by decide +kernel)⟩
theorem lw_p72 : lw_okq (⟨"SleepWorkModel", "tellLaw", "()V"⟩, 83) := ⟨⟨by decide +kernel, by decide +kernel⟩, List.mem_of_getElem? (i := 1167) (by decide +kernel), List.mem_of_getElem? (i := 1540) (by decide +kernel), List.mem_of_getElem? (i := 1541) (by decide +kernel)⟩
theorem lw_p73 : lw_okq (⟨"SleepWorkModel", "expression", "()V"⟩, 83) := ⟨⟨by decide +kernel, by decide +kernel⟩, List.mem_of_getElem? (i := 1167) (by decide +kernel), List.mem_of_getElem? (i := 1544) (by decide +kernel), List.mem_of_getElem? (i := 1545) (by decide +kernel)⟩
theorem lw_p74 : lw_okq (⟨"SleepWorkModel", "unit", "()V"⟩, 83) := ⟨⟨by decide +kernel, by decide +kernel⟩, List.mem_of_getElem? (i := 1167) (by decide +kernel), List.mem_of_getElem? (i := 1548) (by decide +kernel), List.mem_of_getElem? (i := 1549) (by decide +kernel)⟩
theorem lw_p75 : lw_okq (⟨"SleepWorkModel", "emit", "(II)V"⟩, 83) := ⟨⟨by decide +kernel, by decide +kernel⟩, List.mem_of_getElem? (i := 1167) (by decide +kernel), List.mem_of_getElem? (i := 1552) (by decide +kernel), List.mem_of_getElem? (i := 1553) (by decide +kernel)⟩
theorem lw_p76 : lw_okq (⟨"SleepWorkModel", "comesOut", "(Z)V"⟩, 83) := ⟨⟨by decide +kernel, by decide +kernel⟩, List.mem_of_getElem? (i := 1167) (by decide +kernel), List.mem_of_getElem? (i := 1556) (by decide +kernel), List.mem_of_getElem? (i := 1557) (by decide +kernel)⟩
theorem lw_p77 : lw_okq (⟨"SleepWorkModel", "term", "()V"⟩, 83) := ⟨⟨by decide +kernel, by decide +kernel⟩, List.mem_of_getElem? (i := 1167) (by decide +kernel), List.mem_of_getElem? (i := 1560) (by decide +kernel), List.mem_of_getElem? (i := 1561) (by decide +kernel)⟩
theorem lw_p78 : lw_okq (⟨"SleepWorkModel", "begins", "()V"⟩, 83) := ⟨⟨by decide +kernel, by decide +kernel⟩, List.mem_of_getElem? (i := 1167) (by decide +kernel), List.mem_of_getElem? (i := 1564) (by decide +kernel), List.mem_of_getElem? (i := 1565) (by decide +kernel)⟩
theorem lw_p79 : lw_okq (⟨"SleepWorkModel", "tasksNow", "()I"⟩, 83) := ⟨⟨by decide +kernel, by decide +kernel⟩, List.mem_of_getElem? (i := 1167) (by decide +kernel), List.mem_of_getElem? (i := 1568) (by decide +kernel), List.mem_of_getElem? (i := 1569) (by decide +kernel)⟩
def lw_privs_5 : List (MethodName × Nat) := [(⟨"SleepWorkModel", "tellDoor", "()V"⟩, 83), (⟨"SleepWorkModel", "known", "(I)I"⟩, 83), (⟨"SleepWorkModel", "bounded", "(II)I"⟩, 83), (⟨"SleepWorkModel", "tellTool", "()V"⟩, 83), (⟨"SleepWorkModel", "tellTask", "()V"⟩, 83), (⟨"SleepWorkModel", "tellStep", "(I)V"⟩, 83), (⟨"SleepWorkModel", "failAt", "(II)V"⟩, 83), (⟨"SleepWorkModel", "tellMan", "()V"⟩, 83), (⟨"SleepWorkModel", "tellLaw", "()V"⟩, 83), (⟨"SleepWorkModel", "expression", "()V"⟩, 83), (⟨"SleepWorkModel", "unit", "()V"⟩, 83), (⟨"SleepWorkModel", "emit", "(II)V"⟩, 83), (⟨"SleepWorkModel", "comesOut", "(Z)V"⟩, 83), (⟨"SleepWorkModel", "term", "()V"⟩, 83), (⟨"SleepWorkModel", "begins", "()V"⟩, 83), (⟨"SleepWorkModel", "tasksNow", "()I"⟩, 83)]
theorem lw_r5 : ∀ q ∈ lw_privs_5, lw_okq q := List.forall_mem_cons.mpr ⟨lw_p64, List.forall_mem_cons.mpr ⟨lw_p65, List.forall_mem_cons.mpr ⟨lw_p66, List.forall_mem_cons.mpr ⟨lw_p67, List.forall_mem_cons.mpr ⟨lw_p68, List.forall_mem_cons.mpr ⟨lw_p69, List.forall_mem_cons.mpr ⟨lw_p70, List.forall_mem_cons.mpr ⟨lw_p71, List.forall_mem_cons.mpr ⟨lw_p72, List.forall_mem_cons.mpr ⟨lw_p73, List.forall_mem_cons.mpr ⟨lw_p74, List.forall_mem_cons.mpr ⟨lw_p75, List.forall_mem_cons.mpr ⟨lw_p76, List.forall_mem_cons.mpr ⟨lw_p77, List.forall_mem_cons.mpr ⟨lw_p78, List.forall_mem_cons.mpr ⟨lw_p79, fun _ h => absurd h List.not_mem_nil⟩⟩⟩⟩⟩⟩⟩⟩⟩⟩⟩⟩⟩⟩⟩⟩
theorem lw_p80 : lw_okq (⟨"SleepWorkModel", "menNow", "()I"⟩, 83) := ⟨⟨by decide +kernel, by decide +kernel⟩, List.mem_of_getElem? (i := 1167) (by decide +kernel), List.mem_of_getElem? (i := 1572) (by decide +kernel), List.mem_of_getElem? (i := 1573) (by decide +kernel)⟩
theorem lw_p81 : lw_okq (⟨"SleepWorkModel", "isTask", "(I)Z"⟩, 83) := ⟨⟨by decide +kernel, by decide +kernel⟩, List.mem_of_getElem? (i := 1167) (by decide +kernel), List.mem_of_getElem? (i := 1584) (by decide +kernel), List.mem_of_getElem? (i := 1585) (by decide +kernel)⟩
theorem lw_p82 : lw_okq (⟨"SleepWorkModel", "takes", "()V"⟩, 83) := ⟨⟨by decide +kernel, by decide +kernel⟩, List.mem_of_getElem? (i := 1167) (by decide +kernel), List.mem_of_getElem? (i := 1591) (by decide +kernel), List.mem_of_getElem? (i := 1592) (by decide +kernel)⟩
theorem lw_p83 : lw_okq (⟨"SleepWorkModel", "stepsOf", "(I)I"⟩, 83) := ⟨⟨by decide +kernel, by decide +kernel⟩, List.mem_of_getElem? (i := 1167) (by decide +kernel), List.mem_of_getElem? (i := 1595) (by decide +kernel), List.mem_of_getElem? (i := 1596) (by decide +kernel)⟩
theorem lw_p84 : lw_okq (⟨"SleepWorkModel", "worthOf", "(I)I"⟩, 83) := ⟨⟨by decide +kernel, by decide +kernel⟩, List.mem_of_getElem? (i := 1167) (by decide +kernel), List.mem_of_getElem? (i := 1599) (by decide +kernel), List.mem_of_getElem? (i := 1600) (by decide +kernel)⟩
theorem lw_p85 : lw_okq (⟨"SleepWorkModel", "stepAt", "(II)I"⟩, 83) := ⟨⟨by decide +kernel, by decide +kernel⟩, List.mem_of_getElem? (i := 1167) (by decide +kernel), List.mem_of_getElem? (i := 1603) (by decide +kernel), List.mem_of_getElem? (i := 1604) (by decide +kernel)⟩
theorem lw_p86 : lw_okq (⟨"SleepWorkModel", "isEnded", "(I)Z"⟩, 83) := ⟨⟨by decide +kernel, by decide +kernel⟩, List.mem_of_getElem? (i := 1167) (by decide +kernel), List.mem_of_getElem? (i := 1607) (by decide +kernel), List.mem_of_getElem? (i := 1608) (by decide +kernel)⟩
theorem lw_p87 : lw_okq (⟨"SleepWorkModel", "isStep", "(II)Z"⟩, 83) := ⟨⟨by decide +kernel, by decide +kernel⟩, List.mem_of_getElem? (i := 1167) (by decide +kernel), List.mem_of_getElem? (i := 1615) (by decide +kernel), List.mem_of_getElem? (i := 1616) (by decide +kernel)⟩
theorem lw_p88 : lw_okq (⟨"SleepWorkModel", "isMan", "(I)Z"⟩, 83) := ⟨⟨by decide +kernel, by decide +kernel⟩, List.mem_of_getElem? (i := 1167) (by decide +kernel), List.mem_of_getElem? (i := 1626) (by decide +kernel), List.mem_of_getElem? (i := 1627) (by decide +kernel)⟩
theorem lw_p89 : lw_okq (⟨"SleepWorkModel", "isTool", "(I)Z"⟩, 83) := ⟨⟨by decide +kernel, by decide +kernel⟩, List.mem_of_getElem? (i := 1167) (by decide +kernel), List.mem_of_getElem? (i := 1634) (by decide +kernel), List.mem_of_getElem? (i := 1635) (by decide +kernel)⟩
theorem lw_p90 : lw_okq (⟨"SleepWorkModel", "isRoom", "(I)Z"⟩, 83) := ⟨⟨by decide +kernel, by decide +kernel⟩, List.mem_of_getElem? (i := 1167) (by decide +kernel), List.mem_of_getElem? (i := 1642) (by decide +kernel), List.mem_of_getElem? (i := 1643) (by decide +kernel)⟩
theorem lw_p91 : lw_okq (⟨"SleepWorkModel", "fillsWays", "()V"⟩, 83) := ⟨⟨by decide +kernel, by decide +kernel⟩, List.mem_of_getElem? (i := 1167) (by decide +kernel), List.mem_of_getElem? (i := 1646) (by decide +kernel), List.mem_of_getElem? (i := 1647) (by decide +kernel)⟩
theorem lw_p92 : lw_okq (⟨"SleepWorkModel", "isLeft", "(II)Z"⟩, 83) := ⟨⟨by decide +kernel, by decide +kernel⟩, List.mem_of_getElem? (i := 1167) (by decide +kernel), List.mem_of_getElem? (i := 1655) (by decide +kernel), List.mem_of_getElem? (i := 1656) (by decide +kernel)⟩
theorem lw_p93 : lw_okq (⟨"SleepWorkModel", "does", "(II)V"⟩, 83) := ⟨⟨by decide +kernel, by decide +kernel⟩, List.mem_of_getElem? (i := 1167) (by decide +kernel), List.mem_of_getElem? (i := 1663) (by decide +kernel), List.mem_of_getElem? (i := 1664) (by decide +kernel)⟩
theorem lw_p94 : lw_okq (⟨"SleepWorkModel", "wholeNight", "()I"⟩, 83) := ⟨⟨by decide +kernel, by decide +kernel⟩, List.mem_of_getElem? (i := 1167) (by decide +kernel), List.mem_of_getElem? (i := 1683) (by decide +kernel), List.mem_of_getElem? (i := 1684) (by decide +kernel)⟩
theorem lw_p95 : lw_okq (⟨"SleepWorkModel", "worthNow", "()I"⟩, 83) := ⟨⟨by decide +kernel, by decide +kernel⟩, List.mem_of_getElem? (i := 1167) (by decide +kernel), List.mem_of_getElem? (i := 1687) (by decide +kernel), List.mem_of_getElem? (i := 1688) (by decide +kernel)⟩
def lw_privs_6 : List (MethodName × Nat) := [(⟨"SleepWorkModel", "menNow", "()I"⟩, 83), (⟨"SleepWorkModel", "isTask", "(I)Z"⟩, 83), (⟨"SleepWorkModel", "takes", "()V"⟩, 83), (⟨"SleepWorkModel", "stepsOf", "(I)I"⟩, 83), (⟨"SleepWorkModel", "worthOf", "(I)I"⟩, 83), (⟨"SleepWorkModel", "stepAt", "(II)I"⟩, 83), (⟨"SleepWorkModel", "isEnded", "(I)Z"⟩, 83), (⟨"SleepWorkModel", "isStep", "(II)Z"⟩, 83), (⟨"SleepWorkModel", "isMan", "(I)Z"⟩, 83), (⟨"SleepWorkModel", "isTool", "(I)Z"⟩, 83), (⟨"SleepWorkModel", "isRoom", "(I)Z"⟩, 83), (⟨"SleepWorkModel", "fillsWays", "()V"⟩, 83), (⟨"SleepWorkModel", "isLeft", "(II)Z"⟩, 83), (⟨"SleepWorkModel", "does", "(II)V"⟩, 83), (⟨"SleepWorkModel", "wholeNight", "()I"⟩, 83), (⟨"SleepWorkModel", "worthNow", "()I"⟩, 83)]
theorem lw_r6 : ∀ q ∈ lw_privs_6, lw_okq q := List.forall_mem_cons.mpr ⟨lw_p80, List.forall_mem_cons.mpr ⟨lw_p81, List.forall_mem_cons.mpr ⟨lw_p82, List.forall_mem_cons.mpr ⟨lw_p83, List.forall_mem_cons.mpr ⟨lw_p84, List.forall_mem_cons.mpr ⟨lw_p85, List.forall_mem_cons.mpr ⟨lw_p86, List.forall_mem_cons.mpr ⟨lw_p87, List.forall_mem_cons.mpr ⟨lw_p88, List.forall_mem_cons.mpr ⟨lw_p89, List.forall_mem_cons.mpr ⟨lw_p90, List.forall_mem_cons.mpr ⟨lw_p91, List.forall_mem_cons.mpr ⟨lw_p92, List.forall_mem_cons.mpr ⟨lw_p93, List.forall_mem_cons.mpr ⟨lw_p94, List.forall_mem_cons.mpr ⟨lw_p95, fun _ h => absurd h List.not_mem_nil⟩⟩⟩⟩⟩⟩⟩⟩⟩⟩⟩⟩⟩⟩⟩⟩
theorem lw_p96 : lw_okq (⟨"SleepWorkModel", "goesTill", "(I)V"⟩, 83) := ⟨⟨by decide +kernel, by decide +kernel⟩, List.mem_of_getElem? (i := 1167) (by decide +kernel), List.mem_of_getElem? (i := 1691) (by decide +kernel), List.mem_of_getElem? (i := 1692) (by decide +kernel)⟩
theorem lw_p97 : lw_okq (⟨"SleepWorkModel", "getsUp", "(I)V"⟩, 83) := ⟨⟨by decide +kernel, by decide +kernel⟩, List.mem_of_getElem? (i := 1167) (by decide +kernel), List.mem_of_getElem? (i := 1695) (by decide +kernel), List.mem_of_getElem? (i := 1696) (by decide +kernel)⟩
theorem lw_p98 : lw_okq (⟨"SleepWorkModel", "isOver", "(I)V"⟩, 83) := ⟨⟨by decide +kernel, by decide +kernel⟩, List.mem_of_getElem? (i := 1167) (by decide +kernel), List.mem_of_getElem? (i := 1699) (by decide +kernel), List.mem_of_getElem? (i := 1700) (by decide +kernel)⟩
theorem lw_p99 : lw_okq (⟨"SleepWorkModel", "begins1", "(II)V"⟩, 83) := ⟨⟨by decide +kernel, by decide +kernel⟩, List.mem_of_getElem? (i := 1167) (by decide +kernel), List.mem_of_getElem? (i := 1703) (by decide +kernel), List.mem_of_getElem? (i := 1704) (by decide +kernel)⟩
theorem lw_p100 : lw_okq (⟨"SleepWorkModel", "lies", "(II)V"⟩, 83) := ⟨⟨by decide +kernel, by decide +kernel⟩, List.mem_of_getElem? (i := 1167) (by decide +kernel), List.mem_of_getElem? (i := 1707) (by decide +kernel), List.mem_of_getElem? (i := 1708) (by decide +kernel)⟩
theorem lw_p101 : lw_okq (⟨"SleepWorkModel", "tells", "(II)I"⟩, 83) := ⟨⟨by decide +kernel, by decide +kernel⟩, List.mem_of_getElem? (i := 1167) (by decide +kernel), List.mem_of_getElem? (i := 1711) (by decide +kernel), List.mem_of_getElem? (i := 1712) (by decide +kernel)⟩
theorem lw_p102 : lw_okq (⟨"SleepWorkModel", "termOf", "(II)I"⟩, 83) := ⟨⟨by decide +kernel, by decide +kernel⟩, List.mem_of_getElem? (i := 1167) (by decide +kernel), List.mem_of_getElem? (i := 1715) (by decide +kernel), List.mem_of_getElem? (i := 1716) (by decide +kernel)⟩
theorem lw_p103 : lw_okq (⟨"SleepWorkModel", "isInUse", "(II)Z"⟩, 83) := ⟨⟨by decide +kernel, by decide +kernel⟩, List.mem_of_getElem? (i := 1167) (by decide +kernel), List.mem_of_getElem? (i := 1719) (by decide +kernel), List.mem_of_getElem? (i := 1720) (by decide +kernel)⟩
theorem lw_p104 : lw_okq (⟨"SleepWorkModel", "bestOption", "(I)I"⟩, 83) := ⟨⟨by decide +kernel, by decide +kernel⟩, List.mem_of_getElem? (i := 1167) (by decide +kernel), List.mem_of_getElem? (i := 1735) (by decide +kernel), List.mem_of_getElem? (i := 1736) (by decide +kernel)⟩
theorem lw_p105 : lw_okq (⟨"SleepWorkModel", "gainBy", "(II)I"⟩, 83) := ⟨⟨by decide +kernel, by decide +kernel⟩, List.mem_of_getElem? (i := 1167) (by decide +kernel), List.mem_of_getElem? (i := 1739) (by decide +kernel), List.mem_of_getElem? (i := 1740) (by decide +kernel)⟩
theorem lw_p106 : lw_okq (⟨"SleepWorkModel", "leaves", "(II)Z"⟩, 83) := ⟨⟨by decide +kernel, by decide +kernel⟩, List.mem_of_getElem? (i := 1167) (by decide +kernel), List.mem_of_getElem? (i := 1743) (by decide +kernel), List.mem_of_getElem? (i := 1744) (by decide +kernel)⟩
theorem lw_p107 : lw_okq (⟨"SleepWorkModel", "options", "()I"⟩, 83) := ⟨⟨by decide +kernel, by decide +kernel⟩, List.mem_of_getElem? (i := 1167) (by decide +kernel), List.mem_of_getElem? (i := 1747) (by decide +kernel), List.mem_of_getElem? (i := 1748) (by decide +kernel)⟩
theorem lw_p108 : lw_okq (⟨"SleepWorkModel", "codeOf", "(II)I"⟩, 83) := ⟨⟨by decide +kernel, by decide +kernel⟩, List.mem_of_getElem? (i := 1167) (by decide +kernel), List.mem_of_getElem? (i := 1751) (by decide +kernel), List.mem_of_getElem? (i := 1752) (by decide +kernel)⟩
theorem lw_p109 : lw_okq (⟨"SleepWorkModel", "isSo", "(I)Z"⟩, 83) := ⟨⟨by decide +kernel, by decide +kernel⟩, List.mem_of_getElem? (i := 1167) (by decide +kernel), List.mem_of_getElem? (i := 1795) (by decide +kernel), List.mem_of_getElem? (i := 1796) (by decide +kernel)⟩
theorem lw_p110 : lw_okq (⟨"SleepWorkModel", "isSuspect", "(II)Z"⟩, 83) := ⟨⟨by decide +kernel, by decide +kernel⟩, List.mem_of_getElem? (i := 1167) (by decide +kernel), List.mem_of_getElem? (i := 1803) (by decide +kernel), List.mem_of_getElem? (i := 1804) (by decide +kernel)⟩
def lw_privs_7 : List (MethodName × Nat) := [(⟨"SleepWorkModel", "goesTill", "(I)V"⟩, 83), (⟨"SleepWorkModel", "getsUp", "(I)V"⟩, 83), (⟨"SleepWorkModel", "isOver", "(I)V"⟩, 83), (⟨"SleepWorkModel", "begins1", "(II)V"⟩, 83), (⟨"SleepWorkModel", "lies", "(II)V"⟩, 83), (⟨"SleepWorkModel", "tells", "(II)I"⟩, 83), (⟨"SleepWorkModel", "termOf", "(II)I"⟩, 83), (⟨"SleepWorkModel", "isInUse", "(II)Z"⟩, 83), (⟨"SleepWorkModel", "bestOption", "(I)I"⟩, 83), (⟨"SleepWorkModel", "gainBy", "(II)I"⟩, 83), (⟨"SleepWorkModel", "leaves", "(II)Z"⟩, 83), (⟨"SleepWorkModel", "options", "()I"⟩, 83), (⟨"SleepWorkModel", "codeOf", "(II)I"⟩, 83), (⟨"SleepWorkModel", "isSo", "(I)Z"⟩, 83), (⟨"SleepWorkModel", "isSuspect", "(II)Z"⟩, 83)]
theorem lw_r7 : ∀ q ∈ lw_privs_7, lw_okq q := List.forall_mem_cons.mpr ⟨lw_p96, List.forall_mem_cons.mpr ⟨lw_p97, List.forall_mem_cons.mpr ⟨lw_p98, List.forall_mem_cons.mpr ⟨lw_p99, List.forall_mem_cons.mpr ⟨lw_p100, List.forall_mem_cons.mpr ⟨lw_p101, List.forall_mem_cons.mpr ⟨lw_p102, List.forall_mem_cons.mpr ⟨lw_p103, List.forall_mem_cons.mpr ⟨lw_p104, List.forall_mem_cons.mpr ⟨lw_p105, List.forall_mem_cons.mpr ⟨lw_p106, List.forall_mem_cons.mpr ⟨lw_p107, List.forall_mem_cons.mpr ⟨lw_p108, List.forall_mem_cons.mpr ⟨lw_p109, List.forall_mem_cons.mpr ⟨lw_p110, fun _ h => absurd h List.not_mem_nil⟩⟩⟩⟩⟩⟩⟩⟩⟩⟩⟩⟩⟩⟩⟩
def lw_privs : List (MethodName × Nat) := lw_privs_1 ++ (lw_privs_2 ++ (lw_privs_3 ++ (lw_privs_4 ++ (lw_privs_5 ++ (lw_privs_6 ++ (lw_privs_7))))))
def lw_tbl : List Cond := k2_sels lw_privs ++ tables_1
theorem lw_privs_ok : ∀ q ∈ lw_privs, lw_okq q := by
  show ∀ q ∈ lw_privs_1 ++ (lw_privs_2 ++ (lw_privs_3 ++ (lw_privs_4 ++ (lw_privs_5 ++ (lw_privs_6 ++ (lw_privs_7)))))), lw_okq q
  exact List.forall_mem_append.mpr ⟨lw_r1, List.forall_mem_append.mpr ⟨lw_r2, List.forall_mem_append.mpr ⟨lw_r3, List.forall_mem_append.mpr ⟨lw_r4, List.forall_mem_append.mpr ⟨lw_r5, List.forall_mem_append.mpr ⟨lw_r6, lw_r7⟩⟩⟩⟩⟩⟩
/-- the words that keep -/
def lw_gd : List Cond := lw_tbl.filter goodWord
theorem k_memT {i : Nat} {w : Cond} (h : tables_1[i]? = some w) (hg : goodWord w = true) : w ∈ lw_gd := List.mem_filter.mpr ⟨List.mem_append_right _ (List.mem_of_getElem? h), hg⟩
theorem k_memP {i : Nat} {w : Cond} (h : (k2_sels lw_privs)[i]? = some w) (hg : goodWord w = true) : w ∈ lw_gd := List.mem_filter.mpr ⟨List.mem_append_left _ (List.mem_of_getElem? h), hg⟩
theorem k_good : ∀ w ∈ lw_gd, goodWord w = true := fun _ h => (List.mem_filter.mp h).2
end
section
/-! THE LOGICAL MACHINE: an interpreter over a heap whose cells have numbers of their own (region * 1024 + place), with no JVM in it. What it answers, the machine does: g_sim below. -/
/-- a logical cell: an array (the number of its type in tys, its length and contents), or an object (the number of its class, its fields) -/
abbrev gE : Type := (Nat × vp_A) ⊕ (Nat × List Value)
/-- a logical heap: how many cells and how many slots were made, the regions' cells -/
abbrev gH : Type := (Nat × Nat) × (Nat → List gE)
def g_get (h : gH) (k : Nat) : Option gE := (h.2 (k / 1024))[k % 1024]?
def g_set (h : gH) (k : Nat) (e : gE) : gH := (h.1, va_up h.2 (k / 1024) ((h.2 (k / 1024)).set (k % 1024) e))
/-- a new cell comes at the number that lg gives to the next one, if that is the next place of its region -/
def g_push (lg : Nat → Nat) (h : gH) (n : Nat) (e : gE) : Option (Nat × gH) :=
  if (h.2 (lg h.1.1 / 1024)).length = lg h.1.1 % 1024 then some (lg h.1.1, ((h.1.1 + 1, h.1.2 + n), va_up h.2 (lg h.1.1 / 1024) (h.2 (lg h.1.1 / 1024) ++ [e]))) else none
/-- the machine's value of a logical one: a float stands for a cell that was there before (the script, a text), a retAddr for a reference of which nothing is known -/
def g_sh (ad : Nat → Nat) (cst : Nat → Nat) : Value → Value
  | .ref k => .ref (ad k)
  | .float j => .ref (cst j.toNat)
  | .retAddr _ => va_rf (match cst 1000 with | 0 => none | a + 1 => some a)
  | v => v
def g_shl (ad cst : Nat → Nat) (loc : List (Nat × Value)) : List (Nat × Value) := loc.map fun q => (q.1, g_sh ad cst q.2)
def g_shd (ad : Nat → Nat) (a : vp_A) : vp_A := match a with
  | (n, .inr (.inr (.inr (.inr f)))) => (n, .inr (.inr (.inr (.inr fun i => (f i).map ad))))
  | a => a
def g_pe (ad cst : Nat → Nat) (tys : List (ClassId × FieldType)) : gE → va_E
  | .inl (t, a) => .inl ((tys.getD t (0, .int)).1, g_shd ad a)
  | .inr (ci, fs) => .inr (ci, fs.map (g_sh ad cst))
/-- the machine's heap holds the logical one: all that came since h0, and nothing else has changed -/
def g_HH (D : va_G) (cl : List vw_C) (tys : List (ClassId × FieldType)) (fl lg cst : Nat → Nat) (H0 : Heap) (h : gH) (H : Heap) : Prop :=
  H.size = H0.size + h.1.1 ∧ (∀ q, q < H0.size → H[q]? = H0[q]?) ∧ ∀ (k : Nat) (e : gE), g_get h k = some e → fl k < h.1.1 ∧ lg (fl k) = k ∧ va_at D cl (H0.size + fl k, g_pe (fun j => H0.size + fl j) cst tys e) H
theorem g_sh_cat (ad cst : Nat → Nat) (v : Value) : (g_sh ad cst v).category = v.category := by
  cases v with
  | retAddr a => show (va_rf (match cst 1000 with | 0 => none | a + 1 => some a)).category = 1; cases cst 1000 <;> rfl
  | _ => rfl
theorem g_get_set_same {h : gH} {k : Nat} {e0 e : gE} (hk : g_get h k = some e0) : g_get (g_set h k e) k = some e := by
  unfold g_get g_set at *
  simp only [va_up, if_true]
  exact List.getElem?_set_self (List.getElem?_eq_some_iff.mp hk).1
theorem g_get_set_ne {h : gH} {k j : Nat} {e : gE} (hj : j ≠ k) : g_get (g_set h k e) j = g_get h j := by
  unfold g_get g_set
  simp only [va_up]
  by_cases h1 : j / 1024 = k / 1024
  · rw [if_pos h1, h1]
    exact List.getElem?_set_ne (fun h2 => hj (by omega))
  · rw [if_neg h1]
section GH
variable {D : va_G} {cl : List vw_C} {tys : List (ClassId × FieldType)} {fl lg cst : Nat → Nat} {H0 : Heap}
theorem g_HH.at {h : gH} {H : Heap} {k : Nat} {e : gE} (hh : g_HH D cl tys fl lg cst H0 h H) (hk : g_get h k = some e) : va_P D cl [(H0.size + fl k, g_pe (fun j => H0.size + fl j) cst tys e)] H := by
  intro i q hq
  have hz : i < 1 := (List.getElem?_eq_some_iff.mp hq).1
  have h0 : i = 0 := by omega
  subst h0
  cases hq
  exact (hh.2.2 k e hk).2.2
theorem g_HH.put {h : gH} {H H1 : Heap} {k : Nat} {e0 e : gE} (hh : g_HH D cl tys fl lg cst H0 h H) (hk : g_get h k = some e0) (z : H1.size = H.size) (oq : ∀ q, q ≠ H0.size + fl k → H1[q]? = H[q]?)
    (he : va_at D cl (H0.size + fl k, g_pe (fun j => H0.size + fl j) cst tys e) H1) : g_HH D cl tys fl lg cst H0 (g_set h k e) H1 := by
  obtain ⟨a1, a2, a3⟩ := hh
  obtain ⟨b1, b2, -⟩ := a3 k e0 hk
  refine ⟨by rw [z]; exact a1, fun q hq => by rw [oq q (by omega)]; exact a2 q hq, fun j x hj => ?_⟩
  by_cases hjk : j = k
  · subst hjk
    rw [g_get_set_same hk] at hj
    cases hj
    exact ⟨b1, b2, he⟩
  · rw [g_get_set_ne hjk] at hj
    obtain ⟨c1, c2, c3⟩ := a3 j x hj
    refine ⟨c1, c2, c3.kept (oq _ (fun h => hjk ?_))⟩
    have h2 : fl j = fl k := by
      have : H0.size + fl j = H0.size + fl k := h
      omega
    rw [← c2, ← b2, h2]
theorem g_HH.push {h h' : gH} {H H1 : Heap} {k n : Nat} {e : gE} (hfl : ∀ i, fl (lg i) = i) (hh : g_HH D cl tys fl lg cst H0 h H) (hp : g_push lg h n e = some (k, h')) (z : H1.size = H.size + 1) (oq : ∀ q, q < H.size → H1[q]? = H[q]?)
    (he : va_at D cl (H.size, g_pe (fun j => H0.size + fl j) cst tys e) H1) : H0.size + fl k = H.size ∧ h'.1 = (h.1.1 + 1, h.1.2 + n) ∧ g_HH D cl tys fl lg cst H0 h' H1 := by
  obtain ⟨a1, a2, a3⟩ := hh
  unfold g_push at hp
  split at hp
  next hlen =>
    cases hp
    have hk : H0.size + fl (lg h.1.1) = H.size := by rw [hfl]; exact a1.symm
    refine ⟨hk, rfl, by show H1.size = H0.size + (h.1.1 + 1); omega, fun q hq => by rw [oq q (by omega)]; exact a2 q hq, fun j x hj => ?_⟩
    unfold g_get at hj
    simp only [va_up] at hj
    have old : ∀ {j : Nat} {x : gE}, g_get h j = some x → fl j < h.1.1 + 1 ∧ lg (fl j) = j ∧ va_at D cl (H0.size + fl j, g_pe (fun j => H0.size + fl j) cst tys x) H1 := by
      intro j x hj
      obtain ⟨c1, c2, c3⟩ := a3 j x hj
      exact ⟨by omega, c2, c3.kept (oq _ (by show H0.size + fl j < H.size; omega))⟩
    by_cases h1 : j / 1024 = lg h.1.1 / 1024
    · rw [if_pos h1] at hj
      by_cases h2 : j % 1024 < (h.2 (lg h.1.1 / 1024)).length
      · rw [List.getElem?_append_left h2] at hj
        exact old (show g_get h j = some x by unfold g_get; rw [h1]; exact hj)
      · rw [List.getElem?_append_right (by omega)] at hj
        have h3 := (List.getElem?_eq_some_iff.mp hj).1
        have h4 : j = lg h.1.1 := by
          have : j % 1024 - (h.2 (lg h.1.1 / 1024)).length < 1 := h3
          omega
        rw [show j % 1024 - (h.2 (lg h.1.1 / 1024)).length = 0 by have : j % 1024 - (h.2 (lg h.1.1 / 1024)).length < 1 := h3; omega] at hj
        cases hj
        subst h4
        rw [hfl]
        refine ⟨Nat.lt_succ_self _, rfl, ?_⟩
        rw [← a1]
        exact he
    · rw [if_neg h1] at hj
      exact old hj
  next => cases hp
end GH
end
section
/-! instructions of the stack alone -/
/-- how long an instruction is (0: a switch) -/
def g_len : Instr → Nat
  | .bipush _ => 2 | .sipush _ => 3 | .iload _ => 2 | .lload _ => 2 | .aload _ => 2 | .istore _ => 2 | .lstore _ => 2 | .astore _ => 2 | .iinc _ _ => 3
  | .ldc _ => 2 | .ldc_w _ => 3 | .ldc2_w _ => 3 | .getfield _ => 3 | .putfield _ => 3 | .new _ => 3 | .newarray _ => 2 | .anewarray _ => 3
  | .getstatic _ => 3 | .invokevirtual _ => 3 | .invokespecial _ => 3 | .invokestatic _ => 3 | .goto _ => 3 | .ifCond _ _ => 3 | .if_icmp _ _ => 3 | .tableswitch _ _ _ _ => 0
  | _ => 1
def g_pure (I : Instr) (st : List Value) : Option (List Value) := match I with
  | .iconst n => some (.int (Int32.ofInt n) :: st)
  | .bipush n => some (.int (Int8.ofInt n).toInt32 :: st)
  | .sipush n => some (.int (Int16.ofInt n).toInt32 :: st)
  | .lconst n => some (.long (Int64.ofNat n) :: st)
  | .iadd => match st with | .int y :: .int x :: r => some (.int (x + y) :: r) | _ => none
  | .isub => match st with | .int y :: .int x :: r => some (.int (x - y) :: r) | _ => none
  | .imul => match st with | .int y :: .int x :: r => some (.int (x * y) :: r) | _ => none
  | .idiv => match st with | .int y :: .int x :: r => if y = 0 then none else some (.int (x / y) :: r) | _ => none
  | .irem => match st with | .int y :: .int x :: r => if y = 0 then none else some (.int (x - x / y * y) :: r) | _ => none
  | .ineg => match st with | .int x :: r => some (.int (-x) :: r) | _ => none
  | .iand => match st with | .int y :: .int x :: r => some (.int (x &&& y) :: r) | _ => none
  | .ior => match st with | .int y :: .int x :: r => some (.int (x ||| y) :: r) | _ => none
  | .ixor => match st with | .int y :: .int x :: r => some (.int (x ^^^ y) :: r) | _ => none
  | .ishl => match st with | .int y :: .int x :: r => some (.int (x <<< (y &&& 31)) :: r) | _ => none
  | .ishr => match st with | .int y :: .int x :: r => some (.int (x >>> (y &&& 31)) :: r) | _ => none
  | .iushr => match st with | .int y :: .int x :: r => some (.int (x.toUInt32 >>> (y.toUInt32 &&& Int32.toUInt32 31)).toInt32 :: r) | _ => none
  | .ladd => match st with | .long y :: .long x :: r => some (.long (x + y) :: r) | _ => none
  | .lsub => match st with | .long y :: .long x :: r => some (.long (x - y) :: r) | _ => none
  | .lmul => match st with | .long y :: .long x :: r => some (.long (x * y) :: r) | _ => none
  | .land => match st with | .long y :: .long x :: r => some (.long (x &&& y) :: r) | _ => none
  | .lor => match st with | .long y :: .long x :: r => some (.long (x ||| y) :: r) | _ => none
  | .lxor => match st with | .long y :: .long x :: r => some (.long (x ^^^ y) :: r) | _ => none
  | .lshl => match st with | .int y :: .long x :: r => some (.long (x <<< (y.toInt64 &&& 63)) :: r) | _ => none
  | .lushr => match st with | .int y :: .long x :: r => some (.long (x.toUInt64 >>> (y.toInt64.toUInt64 &&& Int64.toUInt64 63)).toInt64 :: r) | _ => none
  | .lcmp => match st with | .long y :: .long x :: r => some (.int (lg_cmp x y) :: r) | _ => none
  | .i2l => match st with | .int x :: r => some (.long x.toInt64 :: r) | _ => none
  | .l2i => match st with | .long x :: r => some (.int x.toInt32 :: r) | _ => none
  | .i2b => match st with | .int x :: r => some (.int x.toInt8.toInt32 :: r) | _ => none
  | .i2c => match st with | .int x :: r => some (.int (x.toUInt32 % 65536).toInt32 :: r) | _ => none
  | .dup => match st with | v :: r => if v.category = 1 then some (v :: v :: r) else none | _ => none
  | .dup2 => match st with | a :: b :: r => if a.category = 1 ∧ b.category = 1 then some (a :: b :: a :: b :: r) else none | _ => none
  | .pop => match st with | v :: r => if v.category = 1 then some r else none | _ => none
  | _ => none
section GP
variable {p : Program} {l : Launch} {e : Env} {R : Room} {s : State} {m : MethodId} {args : Array Value} {below : List Frame} {meth : Method} {c : Code} {H : Heap} {locs : List Loc} {cells slots : Nat} {Q : State → Prop}
variable {cc : ByteArray} {pc : Nat} {ls : Array Slot} {ad cst : Nat → Nat}
set_option maxHeartbeats 4000000 in
theorem g_pure_ok (hx : p.tables.exec = Jvm.exec) (hb : c.code = cc) {I : Instr} {st st' : List Value} {len : Nat} (h : g_pure I st = some st') (hd : decode cc pc = .ok (I, len)) (hl : len = g_len I)
    (k : W p l e R s m args below meth c H locs cells slots Q (F0 m (pc + g_len I) ls (st'.map (g_sh ad cst)))) : W p l e R s m args below meth c H locs cells slots Q (F0 m pc ls (st.map (g_sh ad cst))) := by
  subst hl
  unfold g_pure at h
  split at h
  · cases h; exact lv_iconst hx hb hd rfl k
  · cases h; exact lv_bipush hx hb hd rfl k
  · cases h; exact lv_sipush hx hb hd rfl k
  · cases h; exact lv_lconst hx hb hd rfl k
  · split at h
    · cases h; exact lv_iadd hx hb hd k
    · cases h
  · split at h
    · cases h; exact lv_isub hx hb hd k
    · cases h
  · split at h
    · cases h; exact lv_imul hx hb hd k
    · cases h
  · split at h
    · split at h
      · cases h
      next hne => cases h; exact lv_idiv hx hb hd hne k
    · cases h
  · split at h
    · split at h
      · cases h
      next hne => cases h; exact lv_irem hx hb hd hne k
    · cases h
  · split at h
    · cases h; exact lv_ineg hx hb hd k
    · cases h
  · split at h
    · cases h; exact lv_iand hx hb hd k
    · cases h
  · split at h
    · cases h; exact lv_ior hx hb hd k
    · cases h
  · split at h
    · cases h; exact lv_ixor hx hb hd k
    · cases h
  · split at h
    · cases h; exact lv_ishl hx hb hd k
    · cases h
  · split at h
    · cases h; exact lv_ishr hx hb hd k
    · cases h
  · split at h
    · cases h; exact lv_iushr hx hb hd rfl k
    · cases h
  · split at h
    · cases h; exact lv_ladd hx hb hd k
    · cases h
  · split at h
    · cases h; exact lv_lsub hx hb hd k
    · cases h
  · split at h
    · cases h; exact lv_lmul hx hb hd k
    · cases h
  · split at h
    · cases h; exact lv_land hx hb hd k
    · cases h
  · split at h
    · cases h; exact lv_lor hx hb hd k
    · cases h
  · split at h
    · cases h; exact lv_lxor hx hb hd k
    · cases h
  · split at h
    · cases h; exact lv_lshl hx hb hd rfl k
    · cases h
  · split at h
    · cases h; exact lv_lushr hx hb hd rfl k
    · cases h
  · split at h
    · cases h; exact W.lcmp hx hb hd k
    · cases h
  · split at h
    · cases h; exact lv_i2l hx hb hd rfl k
    · cases h
  · split at h
    · cases h; exact lv_l2i hx hb hd rfl k
    · cases h
  · split at h
    · cases h; exact lv_i2b hx hb hd rfl k
    · cases h
  · split at h
    · cases h; exact lv_i2c hx hb hd rfl k
    · cases h
  · split at h
    · split at h
      next hc => cases h; exact lv_dup hx hb hd ((g_sh_cat ad cst _).trans hc) k
      · cases h
    · cases h
  · split at h
    · split at h
      next hc => cases h; exact lv_dup2_11 hx hb hd ((g_sh_cat ad cst _).trans hc.1) ((g_sh_cat ad cst _).trans hc.2) k
      · cases h
    · cases h
  · split at h
    · split at h
      next hc => cases h; exact lv_pop hx hb hd ((g_sh_cat ad cst _).trans hc) k
      · cases h
    · cases h
  · cases h
end GP
end
section
/-! instructions of the locals; branches -/
def g_ld (loc : List (Nat × Value)) (i : Nat) : Option Value := (loc.find? fun q => q.1 == i).map fun q => q.2
/-- the locals stand in the order of their numbers -/
def g_ins (i : Nat) (v : Value) : List (Nat × Value) → List (Nat × Value)
  | [] => [(i, v)]
  | q :: l => if i < q.1 then (i, v) :: q :: l else q :: g_ins i v l
def g_st1 (loc : List (Nat × Value)) (i : Nat) (v : Value) : List (Nat × Value) := g_ins i v (loc.filter fun q => !(q.1 == i) && !(q.1 + 1 == i && q.2.category == 2))
def g_st2 (loc : List (Nat × Value)) (i : Nat) (v : Value) : List (Nat × Value) := g_ins i v (loc.filter fun q => !(q.1 == i) && (!(q.1 == i + 1) && !(q.1 + 1 == i && q.2.category == 2)))
def g_loads (loc : List (Nat × Value)) (i : Nat) (st : List Value) (a : Nat) : Option (List (Nat × Value) × List Value) := match g_ld loc i, a with
  | some (.int x), 0 => some (loc, .int x :: st)
  | some (.long x), 1 => some (loc, .long x :: st)
  | some (.ref x), 2 => some (loc, .ref x :: st)
  | some (.float x), 2 => some (loc, .float x :: st)
  | _, _ => none
def g_stores (nL : Nat) (loc : List (Nat × Value)) (i : Nat) (st : List Value) (a : Nat) : Option (List (Nat × Value) × List Value) := match st, a with
  | .int x :: r, 0 => if i < nL then some (g_st1 loc i (.int x), r) else none
  | .long x :: r, 1 => if i + 1 < nL then some (g_st2 loc i (.long x), r) else none
  | .ref x :: r, 2 => if i < nL then some (g_st1 loc i (.ref x), r) else none
  | .float x :: r, 2 => if i < nL then some (g_st1 loc i (.float x), r) else none
  | _, _ => none
def g_loc (nL : Nat) (I : Instr) (loc : List (Nat × Value)) (st : List Value) : Option (List (Nat × Value) × List Value) := match I with
  | .iload i => g_loads loc i st 0
  | .iload_n i => g_loads loc i st 0
  | .lload i => g_loads loc i st 1
  | .lload_n i => g_loads loc i st 1
  | .aload i => g_loads loc i st 2
  | .aload_n i => g_loads loc i st 2
  | .istore i => g_stores nL loc i st 0
  | .istore_n i => g_stores nL loc i st 0
  | .lstore i => g_stores nL loc i st 1
  | .lstore_n i => g_stores nL loc i st 1
  | .astore i => g_stores nL loc i st 2
  | .astore_n i => g_stores nL loc i st 2
  | .iinc i n => match g_ld loc i with
    | some (.int x) => if i < nL then some (g_st1 loc i (.int (x + Int32.ofInt n)), st) else none
    | _ => none
  | _ => none
theorem g_ld_mem {loc : List (Nat × Value)} {i : Nat} {v : Value} (h : g_ld loc i = some v) : (i, v) ∈ loc := by
  unfold g_ld at h
  cases hf : loc.find? (fun q => q.1 == i) with
  | none => rw [hf] at h; cases h
  | some q =>
    rw [hf] at h
    cases h
    have h1 := List.find?_some hf
    have h2 := List.mem_of_find?_eq_some hf
    have h3 : q.1 = i := by simpa using h1
    rw [← h3]
    exact h2
theorem g_shl_mem {ad cst : Nat → Nat} {loc : List (Nat × Value)} {i : Nat} {v : Value} (h : (i, v) ∈ loc) : (i, g_sh ad cst v) ∈ g_shl ad cst loc := List.mem_map.mpr ⟨(i, v), h, rfl⟩
theorem g_ins_mem {i : Nat} {v : Value} : ∀ {l : List (Nat × Value)} {q : Nat × Value}, q ∈ g_ins i v l → q = (i, v) ∨ q ∈ l
  | [], q, h => Or.inl (List.mem_singleton.mp h)
  | a :: l, q, h => by
    unfold g_ins at h
    split at h
    · rcases List.mem_cons.mp h with h | h
      · exact Or.inl h
      · exact Or.inr h
    · rcases List.mem_cons.mp h with h | h
      · exact Or.inr (List.mem_cons.mpr (Or.inl h))
      · rcases g_ins_mem h with h | h
        · exact Or.inl h
        · exact Or.inr (List.mem_cons.mpr (Or.inr h))
theorem g_has_st1 {ad cst : Nat → Nat} {ls : Array Slot} {nL : Nat} {loc : List (Nat × Value)} {i : Nat} {v : Value} (h : lv_has ls nL ((i, g_sh ad cst v) :: (g_shl ad cst loc).filter (fun q => !(q.1 == i) && !(q.1 + 1 == i && q.2.category == 2)))) : lv_has ls nL (g_shl ad cst (g_st1 loc i v)) := by
  refine ⟨h.1, h.2.1, fun q hq => h.2.2 q ?_⟩
  obtain ⟨q0, h0, rfl⟩ := List.mem_map.mp hq
  rcases g_ins_mem h0 with rfl | h1
  · exact List.mem_cons_self
  · obtain ⟨h2, h3⟩ := List.mem_filter.mp h1
    refine List.mem_cons_of_mem _ (List.mem_filter.mpr ⟨List.mem_map.mpr ⟨q0, h2, rfl⟩, ?_⟩)
    simpa only [g_sh_cat] using h3
theorem g_has_st2 {ad cst : Nat → Nat} {ls : Array Slot} {nL : Nat} {loc : List (Nat × Value)} {i : Nat} {v : Value} (h : lv_has ls nL ((i, g_sh ad cst v) :: (g_shl ad cst loc).filter (fun q => !(q.1 == i) && (!(q.1 == i + 1) && !(q.1 + 1 == i && q.2.category == 2))))) : lv_has ls nL (g_shl ad cst (g_st2 loc i v)) := by
  refine ⟨h.1, h.2.1, fun q hq => h.2.2 q ?_⟩
  obtain ⟨q0, h0, rfl⟩ := List.mem_map.mp hq
  rcases g_ins_mem h0 with rfl | h1
  · exact List.mem_cons_self
  · obtain ⟨h2, h3⟩ := List.mem_filter.mp h1
    refine List.mem_cons_of_mem _ (List.mem_filter.mpr ⟨List.mem_map.mpr ⟨q0, h2, rfl⟩, ?_⟩)
    simpa only [g_sh_cat] using h3
section GL
variable {p : Program} {l : Launch} {e : Env} {R : Room} {s : State} {m : MethodId} {args : Array Value} {below : List Frame} {meth : Method} {c : Code} {H : Heap} {locs : List Loc} {cells slots : Nat} {Q : State → Prop}
variable {cc : ByteArray} {pc : Nat} {ls : Array Slot} {ad cst : Nat → Nat}
theorem g_loads_at {nL : Nat} {loc loc' : List (Nat × Value)} {st st' : List Value} {i a : Nat} (hl : lv_has ls nL (g_shl ad cst loc)) (h : g_loads loc i st a = some (loc', st')) :
    loc' = loc ∧ ((a = 0 ∧ ∃ x, ls[i]? = some (.val (.int x)) ∧ st'.map (g_sh ad cst) = .int x :: st.map (g_sh ad cst)) ∨ (a = 1 ∧ ∃ x, ls[i]? = some (.val (.long x)) ∧ st'.map (g_sh ad cst) = .long x :: st.map (g_sh ad cst)) ∨ (a = 2 ∧ ∃ x, ls[i]? = some (.val (.ref x)) ∧ st'.map (g_sh ad cst) = .ref x :: st.map (g_sh ad cst))) := by
  unfold g_loads at h
  split at h
  next x hg => cases h; exact ⟨rfl, Or.inl ⟨rfl, x, hl.2.2 _ (g_shl_mem (g_ld_mem hg)), rfl⟩⟩
  next x hg => cases h; exact ⟨rfl, Or.inr (Or.inl ⟨rfl, x, hl.2.2 _ (g_shl_mem (g_ld_mem hg)), rfl⟩)⟩
  next x hg => cases h; exact ⟨rfl, Or.inr (Or.inr ⟨rfl, ad x, hl.2.2 _ (g_shl_mem (g_ld_mem hg)), rfl⟩)⟩
  next x hg => cases h; exact ⟨rfl, Or.inr (Or.inr ⟨rfl, cst x.toNat, hl.2.2 _ (g_shl_mem (g_ld_mem hg)), rfl⟩)⟩
  next => cases h
set_option maxHeartbeats 4000000 in
theorem g_loc_ok (hx : p.tables.exec = Jvm.exec) (hb : c.code = cc) {I : Instr} {nL len : Nat} {loc loc' : List (Nat × Value)} {st st' : List Value} (h : g_loc nL I loc st = some (loc', st')) (hd : decode cc pc = .ok (I, len)) (hn : len = g_len I) (hl : lv_has ls nL (g_shl ad cst loc))
    (k : ∀ ls' : Array Slot, lv_has ls' nL (g_shl ad cst loc') → W p l e R s m args below meth c H locs cells slots Q (F0 m (pc + g_len I) ls' (st'.map (g_sh ad cst)))) : W p l e R s m args below meth c H locs cells slots Q (F0 m pc ls (st.map (g_sh ad cst))) := by
  subst hn
  unfold g_loc at h
  split at h
  · obtain ⟨rfl, ⟨-, x, h1, h2⟩ | ⟨h0, -⟩ | ⟨h0, -⟩⟩ := g_loads_at hl h
    · exact lv_iload hx hb hd h1 (by rw [← h2]; exact k ls hl)
    · cases h0
    · cases h0
  · obtain ⟨rfl, ⟨-, x, h1, h2⟩ | ⟨h0, -⟩ | ⟨h0, -⟩⟩ := g_loads_at hl h
    · exact lv_iload_n hx hb hd rfl h1 (by rw [← h2]; exact k ls hl)
    · cases h0
    · cases h0
  · obtain ⟨rfl, ⟨h0, -⟩ | ⟨-, x, h1, h2⟩ | ⟨h0, -⟩⟩ := g_loads_at hl h
    · cases h0
    · exact lv_lload hx hb hd h1 (by rw [← h2]; exact k ls hl)
    · cases h0
  · obtain ⟨rfl, ⟨h0, -⟩ | ⟨-, x, h1, h2⟩ | ⟨h0, -⟩⟩ := g_loads_at hl h
    · cases h0
    · exact lv_lload_n hx hb hd rfl h1 (by rw [← h2]; exact k ls hl)
    · cases h0
  · obtain ⟨rfl, ⟨h0, -⟩ | ⟨h0, -⟩ | ⟨-, x, h1, h2⟩⟩ := g_loads_at hl h
    · cases h0
    · cases h0
    · exact lv_aload hx hb hd h1 (by rw [← h2]; exact k ls hl)
  · obtain ⟨rfl, ⟨h0, -⟩ | ⟨h0, -⟩ | ⟨-, x, h1, h2⟩⟩ := g_loads_at hl h
    · cases h0
    · cases h0
    · exact lv_aload_n hx hb hd rfl h1 (by rw [← h2]; exact k ls hl)
  · unfold g_stores at h
    split at h
    · split at h
      next hi => cases h; exact lv_istore hx hb hd hl hi rfl (fun ls' h' => k ls' (g_has_st1 (v := .int _) h'))
      · cases h
    next e0 => cases e0
    next e0 => cases e0
    next e0 => cases e0
    · cases h
  · unfold g_stores at h
    split at h
    · split at h
      next hi => cases h; exact lv_istore_n hx hb hd rfl hl hi rfl (fun ls' h' => k ls' (g_has_st1 (v := .int _) h'))
      · cases h
    next e0 => cases e0
    next e0 => cases e0
    next e0 => cases e0
    · cases h
  · unfold g_stores at h
    split at h
    next e0 => cases e0
    · split at h
      next hi => cases h; exact lv_lstore hx hb hd hl hi rfl (fun ls' h' => k ls' (g_has_st2 (v := .long _) h'))
      · cases h
    next e0 => cases e0
    next e0 => cases e0
    · cases h
  · unfold g_stores at h
    split at h
    next e0 => cases e0
    · split at h
      next hi => cases h; exact lv_lstore_n hx hb hd rfl hl hi rfl (fun ls' h' => k ls' (g_has_st2 (v := .long _) h'))
      · cases h
    next e0 => cases e0
    next e0 => cases e0
    · cases h
  · unfold g_stores at h
    split at h
    next e0 => cases e0
    next e0 => cases e0
    · split at h
      next hi => cases h; exact lv_astore hx hb hd hl hi rfl (fun ls' h' => k ls' (g_has_st1 (v := .ref _) h'))
      · cases h
    · split at h
      next hi => cases h; exact lv_astore hx hb hd hl hi rfl (fun ls' h' => k ls' (g_has_st1 (v := .float _) h'))
      · cases h
    · cases h
  · unfold g_stores at h
    split at h
    next e0 => cases e0
    next e0 => cases e0
    · split at h
      next hi => cases h; exact lv_astore_n hx hb hd rfl hl hi rfl (fun ls' h' => k ls' (g_has_st1 (v := .ref _) h'))
      · cases h
    · split at h
      next hi => cases h; exact lv_astore_n hx hb hd rfl hl hi rfl (fun ls' h' => k ls' (g_has_st1 (v := .float _) h'))
      · cases h
    · cases h
  · split at h
    next x hg =>
      split at h
      next hi =>
        cases h
        obtain ⟨j, hj⟩ := List.getElem?_of_mem (g_shl_mem (ad := ad) (cst := cst) (g_ld_mem hg))
        exact lv_iinc hx hb hd hl (k := j) hj rfl hi rfl (fun ls' h' => k ls' (g_has_st1 (v := .int _) h'))
      · cases h
    · cases h
  · cases h
end GL
end
section
/-! branches: r has the places where they go on -/
def g_cnd (cd : Jvm.ClassFile.Cond) (x y : Int32) : Bool := match cd with
  | .eq => decide (x = y) | .ne => decide (¬ x = y) | .lt => decide (x < y) | .ge => decide (y ≤ x) | .gt => decide (y < x) | .le => decide (x ≤ y)
def g_br (I : Instr) (r : List Nat) (pc : Nat) (st : List Value) : Option (Nat × List Value) := match I with
  | .goto _ => match r with | t :: _ => some (t, st) | _ => none
  | .ifCond cd _ => match r, st with | t :: _, .int x :: q => some (if g_cnd cd x 0 then t else pc + 3, q) | _, _ => none
  | .if_icmp cd _ => match r, st with | t :: _, .int y :: .int x :: q => some (if g_cnd cd x y then t else pc + 3, q) | _, _ => none
  | .tableswitch _ lo hi _ => match st with
    | .int x :: q => if x.toInt < lo ∨ hi < x.toInt then (r[0]?).map (fun t => (t, q)) else (r[(x.toInt - lo).toNat + 1]?).map (fun t => (t, q))
    | _ => none
  | _ => none
def g_brok (pc : Nat) (I : Instr) (r : List Nat) : Bool := match I with
  | .goto off => match r with | t :: _ => decide ((pc : Int) + off = (t : Int)) | _ => true
  | .ifCond _ off => match r with | t :: _ => decide ((pc : Int) + off = (t : Int)) | _ => true
  | .if_icmp _ off => match r with | t :: _ => decide ((pc : Int) + off = (t : Int)) | _ => true
  | .tableswitch d _ _ offs => decide (((pc : Int) + d) :: offs.toList.map (fun o => (pc : Int) + o) = r.map (fun t : Nat => (t : Int)))
  | _ => true
section GB
variable {p : Program} {l : Launch} {e : Env} {R : Room} {s : State} {m : MethodId} {args : Array Value} {below : List Frame} {meth : Method} {c : Code} {H : Heap} {locs : List Loc} {cells slots : Nat} {Q : State → Prop}
variable {cc : ByteArray} {pc : Nat} {ls : Array Slot} {ad cst : Nat → Nat}
set_option maxHeartbeats 4000000 in
theorem g_br_ok (hx : p.tables.exec = Jvm.exec) (hb : c.code = cc) {I : Instr} {r : List Nat} {st st' : List Value} {len pc' : Nat} (h : g_br I r pc st = some (pc', st')) (hd : decode cc pc = .ok (I, len)) (hl : g_len I = 0 ∨ len = g_len I) (hr : g_brok pc I r = true)
    (k : W p l e R s m args below meth c H locs cells slots Q (F0 m pc' ls (st'.map (g_sh ad cst)))) : W p l e R s m args below meth c H locs cells slots Q (F0 m pc ls (st.map (g_sh ad cst))) := by
  unfold g_br at h
  split at h
  · have hl : len = 3 := hl.resolve_left (fun h => by cases h)
    subst hl
    split at h
    next t q =>
      cases h
      have h1 : (pc : Int) + _ = (pc' : Int) := of_decide_eq_true hr
      exact lv_goto hx hb hd h1 k
    next => cases h
  next cd off =>
    have hl : len = 3 := hl.resolve_left (fun h => by cases h)
    subst hl
    split at h
    next t q x z =>
      cases h
      have h1 : (pc : Int) + off = (t : Int) := of_decide_eq_true hr
      have key : ∀ {P : Prop} {dP : Decidable P}, g_cnd cd x 0 = @decide P dP → (P → W p l e R s m args below meth c H locs cells slots Q (F0 m t ls (st'.map (g_sh ad cst)))) ∧ (¬ P → W p l e R s m args below meth c H locs cells slots Q (F0 m (pc + 3) ls (st'.map (g_sh ad cst)))) := by
        intro P dP hc
        rw [hc] at k
        exact ⟨fun hp => by simpa [hp] using k, fun hp => by simpa [hp] using k⟩
      cases cd with
      | eq => exact lv_if_eq hx hb hd h1 (key rfl).1 (key rfl).2
      | ne => exact lv_if_ne hx hb hd h1 (key rfl).1 (fun h => (key rfl).2 (fun q => q h))
      | lt => exact lv_if_lt hx hb hd h1 (key rfl).1 (key rfl).2
      | ge => exact lv_if_ge hx hb hd h1 (key rfl).1 (key rfl).2
      | gt => exact lv_if_gt hx hb hd h1 (key rfl).1 (key rfl).2
      | le => exact lv_if_le hx hb hd h1 (key rfl).1 (key rfl).2
    next => cases h
  next cd off =>
    have hl : len = 3 := hl.resolve_left (fun h => by cases h)
    subst hl
    split at h
    next t q y x z =>
      cases h
      have h1 : (pc : Int) + off = (t : Int) := of_decide_eq_true hr
      have key : ∀ {P : Prop} {dP : Decidable P}, g_cnd cd x y = @decide P dP → (P → W p l e R s m args below meth c H locs cells slots Q (F0 m t ls (st'.map (g_sh ad cst)))) ∧ (¬ P → W p l e R s m args below meth c H locs cells slots Q (F0 m (pc + 3) ls (st'.map (g_sh ad cst)))) := by
        intro P dP hc
        rw [hc] at k
        exact ⟨fun hp => by simpa [hp] using k, fun hp => by simpa [hp] using k⟩
      cases cd with
      | eq => exact lv_icmp_eq hx hb hd h1 (key rfl).1 (key rfl).2
      | ne => exact lv_icmp_ne hx hb hd h1 (key rfl).1 (fun h => (key rfl).2 (fun q => q h))
      | lt => exact lv_icmp_lt hx hb hd h1 (key rfl).1 (key rfl).2
      | ge => exact lv_icmp_ge hx hb hd h1 (key rfl).1 (key rfl).2
      | gt => exact lv_icmp_gt hx hb hd h1 (key rfl).1 (key rfl).2
      | le => exact lv_icmp_le hx hb hd h1 (key rfl).1 (key rfl).2
    next => cases h
  next d lo hi offs =>
    have hr : ((pc : Int) + d) :: offs.toList.map (fun o => (pc : Int) + o) = r.map (fun t : Nat => (t : Int)) := of_decide_eq_true hr
    split at h
    next x q =>
      split at h
      next hc =>
        cases r with
        | nil => cases h
        | cons t ts =>
          cases h
          have h1 : (pc : Int) + d = (pc' : Int) := (List.cons.inj hr).1
          exact lv_tableOut hx hb hd hc h1 k
      next hc =>
        have hc1 : ¬ x.toInt < lo := fun z => hc (Or.inl z)
        have hc2 : ¬ hi < x.toInt := fun z => hc (Or.inr z)
        cases r with
        | nil => cases h
        | cons t ts =>
          have h2 := (List.cons.inj hr).2
          rw [List.getElem?_cons_succ] at h
          cases hg : ts[(x.toInt - lo).toNat]? with
          | none => rw [hg] at h; cases h
          | some t2 =>
            rw [hg] at h
            cases h
            have h3 : (offs.toList.map (fun o => (pc : Int) + o))[(x.toInt - lo).toNat]? = some (pc' : Int) := by
              rw [h2, List.getElem?_map, hg]; rfl
            rw [List.getElem?_map] at h3
            cases ho : offs.toList[(x.toInt - lo).toNat]? with
            | none => rw [ho] at h3; cases h3
            | some o =>
              rw [ho] at h3
              exact lv_tableIn hx hb hd hc1 hc2 (by rw [← Array.getElem?_toList]; exact ho) (Option.some.inj h3) k
    next => cases h
  next => cases h
end GB
end
section
/-! instructions of the heap -/
/-- the array types that there are: number 0 int, 1 byte, 2 boolean, 3 long, 4 objects of one class -/
def g_tys (cA : Nat → ClassId) (C4 : String) : List (ClassId × FieldType) := [(cA 0, .int), (cA 1, .byte), (cA 2, .boolean), (cA 3, .long), (cA 4, .object C4)]
/-- a field of that type takes this value -/
def g_fit (ty : FieldType) (v : Value) : Bool := match ty, v with
  | .int, .int _ => true
  | .boolean, .int x => decide (x = 0 ∨ x = 1)
  | .long, .long _ => true
  | .object _, .ref _ => true
  | .array _, .ref _ => true
  | _, _ => false
/-- the tables: classes' field types, the class of an array's objects, the script -/
abbrev gT : Type := (Nat → Nat → FieldType) × Nat × (Nat → Int32) × Nat
def g_mem (t : gT) (I : Instr) (r : List Nat) (st : List Value) (h : gH) : Option (List Value × gH) := match I with
  | .getfield _ => match r, st with
    | ci :: k :: _, .ref a :: q => match g_get h a with
      | some (.inr (ci', fs)) => if ci' = ci then (fs[k]?).map (fun v => (v :: q, h)) else none
      | _ => none
    | _, _ => none
  | .putfield _ => match r, st with
    | ci :: k :: _, v :: .ref a :: q => match g_get h a with
      | some (.inr (ci', fs)) => if ci' = ci ∧ k < fs.length ∧ g_fit (t.1 ci k) v = true then some (q, g_set h a (.inr (ci, fs.set k v))) else none
      | _ => none
    | _, _ => none
  | .iaload => match st with
    | .int i :: .ref a :: q => match g_get h a with
      | some (.inl (0, n, .inl f)) => if i < 0 ∨ n ≤ i.toNatClampNeg then none else some (.int (f i.toNatClampNeg) :: q, h)
      | _ => none
    | .int i :: .float 0 :: q => if i < 0 ∨ t.2.2.2 ≤ i.toNatClampNeg then none else some (.int (t.2.2.1 i.toNatClampNeg) :: q, h)
    | _ => none
  | .baload => match st with
    | .int i :: .ref a :: q => match g_get h a with
      | some (.inl (1, n, .inl f)) => if i < 0 ∨ n ≤ i.toNatClampNeg then none else some (.int (f i.toNatClampNeg) :: q, h)
      | some (.inl (2, n, .inl f)) => if i < 0 ∨ n ≤ i.toNatClampNeg then none else some (.int (f i.toNatClampNeg) :: q, h)
      | _ => none
    | _ => none
  | .laload => match st with
    | .int i :: .ref a :: q => match g_get h a with
      | some (.inl (3, n, .inr (.inl f))) => if i < 0 ∨ n ≤ i.toNatClampNeg then none else some (.long (f i.toNatClampNeg) :: q, h)
      | _ => none
    | _ => none
  | .aaload => match st with
    | .int i :: .ref a :: q => match g_get h a with
      | some (.inl (4, n, .inr (.inr (.inr (.inr f))))) => if i < 0 ∨ n ≤ i.toNatClampNeg then none else match f i.toNatClampNeg with
        | some b => some (.ref b :: q, h)
        | none => none
      | _ => none
    | _ => none
  | .arraylength => match st with
    | .ref a :: q => match g_get h a with
      | some (.inl (j, n, _)) => if j < 5 then some (.int (Int32.ofNat n) :: q, h) else none
      | _ => none
    | .float 0 :: q => some (.int (Int32.ofNat t.2.2.2) :: q, h)
    | _ => none
  | .iastore => match st with
    | .int x :: .int i :: .ref a :: q => match g_get h a with
      | some (.inl (0, n, .inl f)) => if i < 0 ∨ n ≤ i.toNatClampNeg then none else some (q, g_set h a (.inl (0, n, .inl (upd f i.toNatClampNeg x))))
      | _ => none
    | _ => none
  | .bastore => match st with
    | .int x :: .int i :: .ref a :: q => match g_get h a with
      | some (.inl (1, n, .inl f)) => if i < 0 ∨ n ≤ i.toNatClampNeg then none else some (q, g_set h a (.inl (1, n, .inl (upd f i.toNatClampNeg (vp_nar .byte x)))))
      | some (.inl (2, n, .inl f)) => if i < 0 ∨ n ≤ i.toNatClampNeg then none else some (q, g_set h a (.inl (2, n, .inl (upd f i.toNatClampNeg (vp_nar .boolean x)))))
      | _ => none
    | _ => none
  | .lastore => match st with
    | .long x :: .int i :: .ref a :: q => match g_get h a with
      | some (.inl (3, n, .inr (.inl f))) => if i < 0 ∨ n ≤ i.toNatClampNeg then none else some (q, g_set h a (.inl (3, n, .inr (.inl (vp_updL f i.toNatClampNeg x)))))
      | _ => none
    | _ => none
  | .aastore => match st with
    | .ref b :: .int i :: .ref a :: q => match g_get h a, g_get h b with
      | some (.inl (4, n, .inr (.inr (.inr (.inr f))))), some (.inr (ci, _)) => if i < 0 ∨ n ≤ i.toNatClampNeg ∨ ci ≠ t.2.1 then none else some (q, g_set h a (.inl (4, n, .inr (.inr (.inr (.inr (va_up f i.toNatClampNeg (some b))))))))
      | _, _ => none
    | _ => none
  | .ldc _ => match r with | 0 :: v :: _ => some (.int (Int32.ofNat v) :: st, h) | _ => none
  | .ldc_w _ => match r with | 0 :: v :: _ => some (.int (Int32.ofNat v) :: st, h) | _ => none
  | .ldc2_w _ => match r with | v :: _ => some (.long (Int64.ofNat v) :: st, h) | _ => none
  | _ => none
/-- what the tables must say for an instruction of the heap, or of constants, in a method of that class and name -/
def g_memok (cl : List vw_C) (Ts : List Cond) (own name : String) (I : Instr) (r : List Nat) : Prop := match I with
  | .getfield ix => match r with
    | ci :: k :: _ => ∃ q, cl[ci]? = some q ∧ k < q.2.2 ∧ Cond.fieldLink own ix (q.2.1 k).1 (q.2.1 k).2.1 (q.2.1 k).2.2.1 ∈ Ts
    | _ => True
  | .putfield ix => match r with
    | ci :: k :: _ => ∃ q, cl[ci]? = some q ∧ k < q.2.2 ∧ Cond.fieldLink own ix (q.2.1 k).1 (q.2.1 k).2.1 (q.2.1 k).2.2.1 ∈ Ts ∧ ((q.2.1 k).2.2.2 = false ∨ ((q.2.1 k).2.2.2 = true ∧ name = "<init>" ∧ (q.2.1 k).1 = own))
    | _ => True
  | .ldc ix => match r with | 0 :: v :: _ => Cond.constant own ix (Int32.ofNat v) ∈ Ts | _ => True
  | .ldc_w ix => match r with | 0 :: v :: _ => Cond.constant own ix (Int32.ofNat v) ∈ Ts | _ => True
  | .ldc2_w ix => match r with | v :: _ => Cond.constantLong own ix (Int64.ofNat v) ∈ Ts | _ => True
  | _ => True
/-- what the tables must say of the classes -/
def g_CL (cl : List vw_C) (t : gT) (Ts : List Cond) (C4 : String) : Prop := (∀ (ci : Nat) (q : vw_C), cl[ci]? = some q → (∀ w ∈ u_ws q.1 q.2.1 q.2.2, w ∈ Ts) ∧ (∀ k, k < q.2.2 → parseFieldDescriptor (q.2.1 k).2.2.1 = some (t.1 ci k)) ∧ (∀ a, a < q.2.2 → ∀ b, b < q.2.2 → a ≠ b → (q.2.1 a).2.1 ≠ (q.2.1 b).2.1)) ∧ ∃ q, cl[t.2.1]? = some q ∧ q.1 = C4
theorem g_fit_ok {ad cst : Nat → Nat} {ty : FieldType} {v : Value} (h : g_fit ty v = true) : narrow ty (g_sh ad cst v) = g_sh ad cst v ∧ fits ty (g_sh ad cst v) = true := by
  unfold g_fit at h
  split at h
  · exact ⟨rfl, rfl⟩
  · rcases of_decide_eq_true h with rfl | rfl
    · exact ⟨show narrow .boolean (.int 0) = .int 0 by decide, show fits .boolean (.int 0) = true by decide⟩
    · exact ⟨show narrow .boolean (.int 1) = .int 1 by decide, show fits .boolean (.int 1) = true by decide⟩
  · exact ⟨rfl, rfl⟩
  · exact ⟨rfl, rfl⟩
  · exact ⟨rfl, rfl⟩
  · cases h
section GM
variable {p : Program} {l : Launch} {e : Env} {R : Room} {s : State} {m : MethodId} {args : Array Value} {below : List Frame} {meth : Method} {c : Code} {H : Heap} {locs : List Loc} {cells slots : Nat} {Q : State → Prop}
variable {cc : ByteArray} {pc : Nat} {ls : Array Slot} {D : va_G} {cl : List vw_C} {cA : Nat → ClassId} {C4 : String} {fl lg cst : Nat → Nat} {H0 : Heap} {t : gT} {Ts : List Cond} {own : String}
theorem g_ht (hts : ∀ w ∈ Ts, w.before args s = true) {w : Cond} (h : w ∈ Ts) : w.before args s = true := hts w h
/-- a store into an array: the cell behind it -/
theorem g_arr_at {k t0 : Nat} {a : vp_A} {H1 : Heap} (h : H1[H0.size + fl k]? = some (vp_cell ((g_tys cA C4).getD t0 (0, .int)).1 (g_shd (fun j => H0.size + fl j) a))) : va_at D cl (H0.size + fl k, g_pe (fun j => H0.size + fl j) cst (g_tys cA C4) (.inl (t0, a))) H1 := h
set_option maxHeartbeats 8000000 in
theorem g_mem_ok (hx : p.tables.exec = Jvm.exec) (hb : c.code = cc) (hts : ∀ w ∈ Ts, w.before args s = true) (hown : s.vm.findClass own = some m.cls) (hK : va_K D cl (g_tys cA C4) s) (hCL : g_CL cl t Ts C4) (hX : va_X (cst 0) t.2.2.2 t.2.2.1 s H0) (hbl : cst 0 < H0.size)
    {I : Instr} {r : List Nat} {st st' : List Value} {h h' : gH} {len : Nat} (hS : g_mem t I r st h = some (st', h')) (hd : decode cc pc = .ok (I, len)) (hl : len = g_len I) (hok : g_memok cl Ts own meth.name I r)
    (hH : g_HH D cl (g_tys cA C4) fl lg cst H0 h H) (hlo : ∀ q ∈ locs, H0.size ≤ q.base)
    (kk : ∀ (H' : Heap) (locs' : List Loc), h'.1 = h.1 → g_HH D cl (g_tys cA C4) fl lg cst H0 h' H' → (∀ q ∈ locs', H0.size ≤ q.base) → W p l e R s m args below meth c H' locs' cells slots Q (F0 m (pc + g_len I) ls (st'.map (g_sh (fun j => H0.size + fl j) cst)))) :
    W p l e R s m args below meth c H locs cells slots Q (F0 m pc ls (st.map (g_sh (fun j => H0.size + fl j) cst))) := by
  subst hl
  have hlo' : ∀ (a k : Nat), ∀ q ∈ locs ++ [(⟨H0.size + a, k⟩ : Loc)], H0.size ≤ q.base := by
    intro a k q hq
    rcases List.mem_append.mp hq with h | h
    · exact hlo q h
    · rw [List.mem_singleton.mp h]; exact Nat.le_add_right _ _
  unfold g_mem at hS
  split at hS
  next ix =>
    split at hS
    next ci k r' a q =>
      split at hS
      next ci' fs hg =>
        split at hS
        next hci =>
          subst hci
          cases hv : fs[k]? with
          | none => rw [hv] at hS; cases hS
          | some v =>
            rw [hv] at hS
            cases hS
            obtain ⟨qc, hc, hk, hlk⟩ := hok
            exact va_get hx hb hts (hCL.1 _ _ hc).1 hown hK (hH.at hg) 0 rfl hc k hk (hts _ hlk) (fun _ h9 => h9) (by rw [List.getElem?_map, hv]; rfl) hd (kk H locs rfl hH hlo)
        next => cases hS
      next => cases hS
    next => cases hS
  next ix =>
    split at hS
    next ci k r' v a q =>
      split at hS
      next ci' fs hg =>
        split at hS
        next hci =>
          obtain ⟨rfl, hkf, hfv⟩ := hci
          cases hS
          obtain ⟨⟨C, T, N⟩, hc, hk, hlk, hfin⟩ := hok
          obtain ⟨hin, hty, hnm⟩ := hCL.1 _ _ hc
          have hap := va_apart (own := own) hts hin _ hty hnm hK hc
          obtain ⟨r, h1, cell, q1, q2, q3, q4⟩ := (hH.2.2 a _ hg).2.2
          have hr : r = (C, T, N) := Option.some.inj (h1.symm.trans hc)
          subst hr
          obtain ⟨hSl, hfc, kC, hkC, hkind⟩ := hK.1 _ _ hc
          obtain ⟨cf, kf, fi, f, hi, hsl⟩ := hSl k hk
          have hst := (u_facts hfc hkC (u_lays hts hin hk) hi).1
          obtain ⟨hn1, hf1⟩ := g_fit_ok (ad := fun j => H0.size + fl j) (cst := cst) hfv
          have hlay := hts _ (hin _ (u_in_lay hk))
          unfold u_lay at hlay
          have fin : ∀ H' : Heap, H'[H0.size + fl a]? = some (cell.setSlot f.slot (g_sh (fun j => H0.size + fl j) cst v)) → H'.size = H.size → (∀ q, q ≠ H0.size + fl a → H'[q]? = H[q]?) → g_HH D cl (g_tys cA C4) fl lg cst H0 (g_set h a (.inr (ci', fs.set k v))) H' := by
            intro H' e1 e2 e3
            rw [hsl] at e1
            refine hH.put hg e2 e3 ⟨_, hc, t_OB.to (V := updV (vp_V (fs.map (g_sh (fun j => H0.size + fl j) cst))) k (g_sh (fun j => H0.size + fl j) cst v)) ⟨_, e1, q2, q3, t_set q4 hap hk _⟩ (fun j _ => ?_)⟩
            rw [List.map_set]
            exact vp_updV_set (by rw [List.length_map]; exact hkf) _ j
          rcases hfin with hfin | ⟨hfin, hin2, hdecl⟩
          · rw [if_neg (by rw [hfin]; decide)] at hlay
            have h6 := u_store hfc hkC hkind hlay hi (hty k hk) hn1 hf1
            exact W.putK hx hb (f := f) ⟨hown, hts _ hlk, ⟨_, _, _, hi⟩, hst⟩ (by rw [q2]; exact h6) q1 q3 (by rw [hsl]; exact k2_hasslot (q4 k hk)) rfl rfl hd fun H' e1 e2 e3 => kk H' _ rfl (fin H' e1 e2 e3) (hlo' _ _)
          · rw [if_pos hfin] at hlay
            have hcf : m.cls = cf := by
              obtain ⟨_, _, c', _, _, _, -, -, hf', -, -, -, hown2, -⟩ := Cond.laysFinal_spec hlay
              have e1 : c' = cf := by have := hi.symm.trans hf'; simp at this; exact this.1.symm
              rw [hdecl] at hown2
              rw [← e1]; exact Option.some.inj (hown.symm.trans hown2)
            have h6 := u_fits hfc hkC hkind (Or.inr hlay) hi (hty k hk) hn1 hf1
            exact W.putFinK hx hb hown (hts _ hlk) hi hst hcf hin2 (by rw [q2]; exact h6) q1 q3 (by rw [hsl]; exact k2_hasslot (q4 k hk)) rfl rfl hd fun H' e1 e2 e3 => kk H' _ rfl (fin H' e1 e2 e3) (hlo' _ _)
        next => cases hS
      next => cases hS
    next => cases hS
  · split at hS
    next i a q =>
      split at hS
      next n f hg =>
        split at hS
        · cases hS
        next hin => cases hS; exact va_iald hx hb hK (hH.at hg) 0 0 rfl rfl hin hd (kk H locs rfl hH hlo)
      next => cases hS
    next i q =>
      split at hS
      · cases hS
      next hin =>
        cases hS
        exact va_sld (A := fun q => H0.size ≤ q) hx hb hX hbl (Nat.not_le.mpr hbl) ⟨by rw [hH.1]; exact Nat.le_add_right _ _, fun q h1 _ => hH.2.1 q h1, hlo⟩ hin hd (kk H locs rfl hH hlo)
    next => cases hS
  · split at hS
    next i a q =>
      split at hS
      next n f hg =>
        split at hS
        · cases hS
        next hin => cases hS; exact va_bald hx hb hK (hH.at hg) 0 1 rfl rfl hin hd (kk H locs rfl hH hlo)
      next n f hg =>
        split at hS
        · cases hS
        next hin => cases hS; exact va_zald hx hb hK (hH.at hg) 0 2 rfl rfl hin hd (kk H locs rfl hH hlo)
      next => cases hS
    next => cases hS
  · split at hS
    next i a q =>
      split at hS
      next n f hg =>
        split at hS
        · cases hS
        next hin => cases hS; exact va_lald hx hb hK (hH.at hg) 0 3 rfl rfl hin hd (kk H locs rfl hH hlo)
      next => cases hS
    next => cases hS
  · split at hS
    next i a q =>
      split at hS
      next n f hg =>
        split at hS
        · cases hS
        next hin =>
          split at hS
          next b hb2 =>
            cases hS
            refine va_aldq hx hb hK (hH.at hg) 0 4 rfl rfl hin hd ?_
            have h3 := kk H locs rfl hH hlo
            rw [hb2]
            exact h3
          next => cases hS
      next => cases hS
    next => cases hS
  · split at hS
    next a q =>
      split at hS
      next j n d hg =>
        split at hS
        next hj =>
          cases hS
          obtain ⟨ty, hty⟩ : ∃ ty, (g_tys cA C4)[j]? = some (((g_tys cA C4).getD j (0, .int)).1, ty) := by
            rcases (show j = 0 ∨ j = 1 ∨ j = 2 ∨ j = 3 ∨ j = 4 by omega) with rfl | rfl | rfl | rfl | rfl <;> exact ⟨_, rfl⟩
          have hn : (g_shd (fun j => H0.size + fl j) (n, d)).1 = n := by
            unfold g_shd
            split
            next e0 => cases e0; rfl
            next => rfl
          exact va_alen hx hb hK (hH.at hg) 0 j rfl hty (by rw [hn]) hd (kk H locs rfl hH hlo)
        next => cases hS
      next => cases hS
    next q =>
      cases hS
      exact va_slen (A := fun q => H0.size ≤ q) hx hb hX hbl (Nat.not_le.mpr hbl) ⟨by rw [hH.1]; exact Nat.le_add_right _ _, fun q h1 _ => hH.2.1 q h1, hlo⟩ hd (kk H locs rfl hH hlo)
    next => cases hS
  · split at hS
    next x i a q =>
      split at hS
      next n f hg =>
        split at hS
        · cases hS
        next hin =>
          cases hS
          have hat := (hH.2.2 a _ hg).2.2
          refine W.iast hx hb hat ((hK.2 0 _ rfl).1 n (fun j => .int (f j))) (fun q => by cases q) (by show ¬ (i < 0 ∨ (arrV _ _ _).slots.size ≤ _); rw [arrV_size]; exact hin) rfl rfl hd fun H1 e1 z oq => kk H1 _ rfl (hH.put hg z oq (g_arr_at ?_)) (hlo' _ _)
          rw [e1]
          show some ((vp_cell (cA 0) (n, .inl f)).setSlot _ _) = some (vp_cell (cA 0) (n, .inl (upd f i.toNatClampNeg x)))
          rw [vp_cell_i, vp_cell_i, arrV_store]
          congr 2
          funext q
          by_cases hq : q = i.toNatClampNeg
          · subst hq
            simp [updV, upd]
          · simp [updV, upd, hq]
      next => cases hS
    next => cases hS
  · split at hS
    next x i a q =>
      split at hS
      next n f hg =>
        split at hS
        · cases hS
        next hin =>
          cases hS
          have hat := (hH.2.2 a _ hg).2.2
          refine W.bast hx hb hat ((hK.2 1 _ rfl).1 n (fun j => .int (f j))) (fun q => by cases q) (by show ¬ (i < 0 ∨ (arrV _ _ _).slots.size ≤ _); rw [arrV_size]; exact hin) rfl rfl hd fun H1 e1 z oq => kk H1 _ rfl (hH.put hg z oq (g_arr_at ?_)) (hlo' _ _)
          rw [e1]
          show some ((vp_cell (cA 1) (n, .inl f)).setSlot _ _) = some (vp_cell (cA 1) (n, .inl (upd f i.toNatClampNeg (vp_nar .byte x))))
          rw [vp_cell_i, vp_cell_i, arrV_store]
          congr 2
          funext q
          by_cases hq : q = i.toNatClampNeg
          · subst hq
            simp [updV, upd, vp_nar]
            try rfl
          · simp [updV, upd, hq]
      next n f hg =>
        split at hS
        · cases hS
        next hin =>
          cases hS
          have hat := (hH.2.2 a _ hg).2.2
          refine W.zast hx hb hat ((hK.2 2 _ rfl).1 n (fun j => .int (f j))) (fun q => by cases q) (by show ¬ (i < 0 ∨ (arrV _ _ _).slots.size ≤ _); rw [arrV_size]; exact hin) rfl rfl hd fun H1 e1 z oq => kk H1 _ rfl (hH.put hg z oq (g_arr_at ?_)) (hlo' _ _)
          rw [e1]
          show some ((vp_cell (cA 2) (n, .inl f)).setSlot _ _) = some (vp_cell (cA 2) (n, .inl (upd f i.toNatClampNeg (vp_nar .boolean x))))
          rw [vp_cell_i, vp_cell_i, arrV_store]
          congr 2
          funext q
          by_cases hq : q = i.toNatClampNeg
          · subst hq
            simp [updV, upd, vp_nar]
            try rfl
          · simp [updV, upd, hq]
      next => cases hS
    next => cases hS
  · split at hS
    next x i a q =>
      split at hS
      next n f hg =>
        split at hS
        · cases hS
        next hin =>
          cases hS
          have hat := (hH.2.2 a _ hg).2.2
          refine W.last hx hb hat ((hK.2 3 _ rfl).1 n (fun j => .long (f j))) (fun q => by cases q) (by show ¬ (i < 0 ∨ (arrV _ _ _).slots.size ≤ _); rw [arrV_size]; exact hin) rfl rfl hd fun H1 e1 z oq => kk H1 _ rfl (hH.put hg z oq (g_arr_at ?_)) (hlo' _ _)
          rw [e1]
          show some ((vp_cell (cA 3) (n, .inr (.inl f))).setSlot _ _) = some (vp_cell (cA 3) (n, .inr (.inl (vp_updL f i.toNatClampNeg x))))
          rw [vp_cell_l, vp_cell_l, arrV_store]
          congr 2
          funext q
          by_cases hq : q = i.toNatClampNeg
          · subst hq
            simp [updV, vp_updL]
          · simp [updV, vp_updL, hq]
      next => cases hS
    next => cases hS
  · split at hS
    next b i a q =>
      split at hS
      next n f ci vs hg hgb =>
        split at hS
        · cases hS
        next hin =>
          cases hS
          have hin1 : ¬ i < 0 := fun z => hin (Or.inl z)
          have hin2 : i.toNatClampNeg < n := Nat.not_le.mp fun z => hin (Or.inr (Or.inl z))
          have hci : ci = t.2.1 := Classical.not_not.mp fun z => hin (Or.inr (Or.inr z))
          subst hci
          have hat := (hH.2.2 a _ hg).2.2
          obtain ⟨r', hr', cellV, g1, g2, g3, -⟩ := (hH.2.2 b _ hgb).2.2
          obtain ⟨qq, hqq, hC4⟩ := hCL.2
          have hcls := (hK.1 _ _ hqq).2
          obtain ⟨kA, comp, k1, k2, k3, -⟩ := (hK.2 4 _ rfl).2
          have hcomp : comp = D.1 t.2.1 := Option.some.inj (k3.symm.trans (by rw [← hC4]; exact hcls.1))
          subst hcomp
          obtain ⟨kC, hkC, -⟩ := hcls.2
          refine W.aast hx hb hat (fun q h => by cases h) (fun h => by cases h) k1 k2 rfl hkC ⟨hin1, by show _ < (arrV _ _ _).slots.size; rw [arrV_size]; exact hin2⟩ g1 (fun q h => by rw [g3] at h; cases h) (by rw [g2]; exact hkC) (by rw [g2]; exact va_assign hcls) rfl rfl hd fun H1 e1 z oq => kk H1 _ rfl (hH.put hg z oq (g_arr_at ?_)) (hlo' _ _)
          rw [e1]
          show some ((vp_cell (cA 4) (n, .inr (.inr (.inr (.inr fun i => (f i).map fun j => H0.size + fl j))))).setSlot _ _) = some (vp_cell (cA 4) (n, .inr (.inr (.inr (.inr fun j => (va_up f i.toNatClampNeg (some b) j).map fun j => H0.size + fl j)))))
          rw [vp_cell_q, vp_cell_q, arrV_store]
          congr 2
          funext q
          by_cases hq : q = i.toNatClampNeg
          · subst hq
            simp [updV, va_up, va_rf]
          · simp [updV, va_up, hq]
      next => cases hS
    next => cases hS
  · split at hS
    · cases hS; exact lv_ldc hx hb hown (hts _ hok) hd (kk H locs rfl hH hlo)
    · cases hS
  · split at hS
    · cases hS; exact lv_ldcw hx hb hown (hts _ hok) hd (kk H locs rfl hH hlo)
    · cases hS
  · split at hS
    · cases hS; exact lv_ldc2 hx hb hown (hts _ hok) hd (kk H locs rfl hH hlo)
    · cases hS
  · cases hS
end GM
end
section
/-! instructions that make cells -/
def g_new (lg : Nat → Nat) (df : Nat → List Value) (I : Instr) (r : List Nat) (st : List Value) (h : gH) : Option (List Value × gH) := match I with
  | .new _ => match r with
    | ci :: _ => (g_push lg h (df ci).length (.inr (ci, df ci))).map fun q => (.ref q.1 :: st, q.2)
    | _ => none
  | .newarray _ => match r, st with
    | 0 :: _, .int n :: q => if n < 0 ∨ 1000000 < n.toNatClampNeg then none else (g_push lg h n.toNatClampNeg (.inl (0, n.toNatClampNeg, .inl fun _ => 0))).map fun z => (.ref z.1 :: q, z.2)
    | 1 :: _, .int n :: q => if n < 0 ∨ 1000000 < n.toNatClampNeg then none else (g_push lg h n.toNatClampNeg (.inl (1, n.toNatClampNeg, .inl fun _ => 0))).map fun z => (.ref z.1 :: q, z.2)
    | 2 :: _, .int n :: q => if n < 0 ∨ 1000000 < n.toNatClampNeg then none else (g_push lg h n.toNatClampNeg (.inl (2, n.toNatClampNeg, .inl fun _ => 0))).map fun z => (.ref z.1 :: q, z.2)
    | 3 :: _, .int n :: q => if n < 0 ∨ 1000000 < n.toNatClampNeg then none else (g_push lg h n.toNatClampNeg (.inl (3, n.toNatClampNeg, .inr (.inl fun _ => 0)))).map fun z => (.ref z.1 :: q, z.2)
    | _, _ => none
  | .anewarray _ => match st with
    | .int n :: q => if n < 0 ∨ 1000000 < n.toNatClampNeg then none else (g_push lg h n.toNatClampNeg (.inl (4, n.toNatClampNeg, .inr (.inr (.inr (.inr fun _ => none)))))).map fun z => (.ref z.1 :: q, z.2)
    | _ => none
  | _ => none
def g_newok (cl : List vw_C) (Ts : List Cond) (C4 own : String) (I : Instr) (r : List Nat) : Prop := match I with
  | .new ix => match r with
    | ci :: _ => ∃ q, cl[ci]? = some q ∧ Cond.classLink own ix q.1 ∈ Ts ∧ Cond.instantiable q.1 q.2.2 ∈ Ts ∧ Cond.initialized q.1 ∈ Ts
    | _ => True
  | .newarray at_ => match r with
    | 0 :: _ => newarray.typeOf at_ = .int ∧ Cond.arrayClass .int ∈ Ts
    | 1 :: _ => newarray.typeOf at_ = .byte ∧ Cond.arrayClass .byte ∈ Ts
    | 2 :: _ => newarray.typeOf at_ = .boolean ∧ Cond.arrayClass .boolean ∈ Ts
    | 3 :: _ => newarray.typeOf at_ = .long ∧ Cond.arrayClass .long ∈ Ts
    | _ => True
  | .anewarray ix => Cond.classLink own ix C4 ∈ Ts
  | _ => True
/-- what a new object holds -/
def g_DF (cl : List vw_C) (t : gT) (df : Nat → List Value) : Prop := ∀ (ci : Nat) (q : vw_C), cl[ci]? = some q → (df ci).length = q.2.2 ∧ (∀ j, j < q.2.2 → defaultValue (t.1 ci j) = vp_V (df ci) j) ∧ ∀ (ad cst : Nat → Nat), (df ci).map (g_sh ad cst) = df ci
section GN
variable {p : Program} {l : Launch} {e : Env} {R : Room} {s : State} {m : MethodId} {args : Array Value} {below : List Frame} {meth : Method} {c : Code} {H : Heap} {locs : List Loc} {cells slots : Nat} {Q : State → Prop}
variable {cc : ByteArray} {pc : Nat} {ls : Array Slot} {D : va_G} {cl : List vw_C} {cA : Nat → ClassId} {C4 : String} {fl lg cst : Nat → Nat} {H0 : Heap} {t : gT} {Ts : List Cond} {own : String} {df : Nat → List Value}
theorem g_newarr (hx : p.tables.exec = Jvm.exec) (hb : c.code = cc) (hts : ∀ w ∈ Ts, w.before args s = true) (hK : va_K D cl (g_tys cA C4) s) (hfl : ∀ i, fl (lg i) = i) {at_ : ArrayType} {ty : FieldType} (h1 : newarray.typeOf at_ = ty) (h2 : Cond.arrayClass ty ∈ Ts) {t0 : Nat} (ht0 : (g_tys cA C4)[t0]? = some (cA t0, ty)) (hprim : ∀ C, ty ≠ .object C) (hby : componentBytes ty ≤ 8)
    {n : Int32} {st : List Value} {h : gH} {d : (Nat → Int32) ⊕ (Nat → Int64) ⊕ (Nat → UInt32) ⊕ (Nat → UInt64) ⊕ (Nat → Option Nat)} (hd0 : ∀ N, vp_cell (cA t0) (g_shd (fun j => H0.size + fl j) (N, d)) = arrV (cA t0) N (fun _ => defaultValue ty))
    {k : Nat} {h' : gH} (hin : ¬ (n < 0 ∨ 1000000 < n.toNatClampNeg)) (hp : g_push lg h n.toNatClampNeg (.inl (t0, n.toNatClampNeg, d)) = some (k, h')) (hd : decode cc pc = .ok (.newarray at_, 2))
    (hH : g_HH D cl (g_tys cA C4) fl lg cst H0 h H) (hrc : cells + (h'.1.1 - h.1.1) ≤ R.cells) (hrs : slots + (h'.1.2 - h.1.2) ≤ R.slots)
    (kk : ∀ (H' : Heap), g_HH D cl (g_tys cA C4) fl lg cst H0 h' H' → W p l e R s m args below meth c H' locs (cells + (h'.1.1 - h.1.1)) (slots + (h'.1.2 - h.1.2)) Q (F0 m (pc + 2) ls ((Value.ref k :: st).map (g_sh (fun j => H0.size + fl j) cst)))) :
    W p l e R s m args below meth c H locs cells slots Q (F0 m pc ls ((Value.int n :: st).map (g_sh (fun j => H0.size + fl j) cst))) := by
  have hn : ¬ n < 0 := fun z => hin (Or.inl z)
  have hN : n.toNatClampNeg ≤ 1000000 := Nat.not_lt.mp fun z => hin (Or.inr z)
  have hpp : h'.1 = (h.1.1 + 1, h.1.2 + n.toNatClampNeg) := by
    unfold g_push at hp
    split at hp
    · cases hp; rfl
    · cases hp
  have e1 : h'.1.1 - h.1.1 = 1 := by rw [hpp]; show h.1.1 + 1 - h.1.1 = 1; omega
  have e2 : h'.1.2 - h.1.2 = n.toNatClampNeg := by rw [hpp]; show h.1.2 + n.toNatClampNeg - h.1.2 = _; omega
  rw [e1, e2] at kk
  rw [e1] at hrc
  rw [e2] at hrs
  refine va_newaK hx hb (hts _ (by rw [h1]; exact h2)) rfl hd rfl hn rfl (by rw [h1]; exact Nat.le_trans (Nat.mul_le_mul hN hby) (by decide)) hrc hrs rfl fun H1 cA' f1 f2 f3 _ f5 => ?_
  have hc : cA' = cA t0 := by
    have h9 := (hK.2 t0 _ ht0).2
    rw [h1] at f5
    cases ty with
    | object C => exact absurd rfl (hprim C)
    | _ => exact Option.some.inj (f5.symm.trans h9)
  subst hc
  obtain ⟨g1, -, g3⟩ := hH.push hfl hp f2 f3 (show H1[H.size]? = some (vp_cell ((g_tys cA C4).getD t0 (0, .int)).1 (g_shd (fun j => H0.size + fl j) (n.toNatClampNeg, d))) by
    rw [f1, h1, show ((g_tys cA C4).getD t0 (0, .int)).1 = cA t0 by rw [List.getD_eq_getElem?_getD, ht0]; rfl, hd0])
  have h7 := kk H1 g3
  rw [List.map_cons, show g_sh (fun j => H0.size + fl j) cst (Value.ref k) = .ref H.size by show Value.ref (H0.size + fl k) = _; rw [g1]] at h7
  exact h7
set_option maxHeartbeats 4000000 in
theorem g_new_ok (hx : p.tables.exec = Jvm.exec) (hb : c.code = cc) (hts : ∀ w ∈ Ts, w.before args s = true) (hown : s.vm.findClass own = some m.cls) (hK : va_K D cl (g_tys cA C4) s) (hCL : g_CL cl t Ts C4) (hDF : g_DF cl t df) (hAO : va_AO C4 s) (hfl : ∀ i, fl (lg i) = i)
    {I : Instr} {r : List Nat} {st st' : List Value} {h h' : gH} {len : Nat} (hS : g_new lg df I r st h = some (st', h')) (hd : decode cc pc = .ok (I, len)) (hl : len = g_len I) (hok : g_newok cl Ts C4 own I r)
    (hH : g_HH D cl (g_tys cA C4) fl lg cst H0 h H) (hrc : cells + (h'.1.1 - h.1.1) ≤ R.cells) (hrs : slots + (h'.1.2 - h.1.2) ≤ R.slots)
    (kk : ∀ (H' : Heap), g_HH D cl (g_tys cA C4) fl lg cst H0 h' H' → W p l e R s m args below meth c H' locs (cells + (h'.1.1 - h.1.1)) (slots + (h'.1.2 - h.1.2)) Q (F0 m (pc + g_len I) ls (st'.map (g_sh (fun j => H0.size + fl j) cst)))) :
    W p l e R s m args below meth c H locs cells slots Q (F0 m pc ls (st.map (g_sh (fun j => H0.size + fl j) cst))) := by
  subst hl
  unfold g_new at hS
  split at hS
  next ix =>
    split at hS
    next ci r' =>
      cases hp : g_push lg h (df ci).length (.inr (ci, df ci)) with
      | none => rw [hp] at hS; cases hS
      | some z =>
        rw [hp] at hS
        cases hS
        obtain ⟨⟨C, T, N⟩, hc, hlk, hins, hini⟩ := hok
        obtain ⟨hin, hty, hnm⟩ := hCL.1 _ _ hc
        obtain ⟨d1, d2, d3⟩ := hDF _ _ hc
        obtain ⟨k, h'⟩ := z
        have hKn := hK.1 _ _ hc
        have hpp : h'.1 = (h.1.1 + 1, h.1.2 + N) := by
          unfold g_push at hp
          split at hp
          · cases hp; rw [d1]
          · cases hp
        have e1 : h'.1.1 - h.1.1 = 1 := by rw [hpp]; show h.1.1 + 1 - h.1.1 = 1; omega
        have e2 : h'.1.2 - h.1.2 = N := by rw [hpp]; show h.1.2 + N - h.1.2 = _; omega
        simp only [e1, e2] at kk hrc hrs
        refine W.newcK hx hb hown (hts _ hlk) (hts _ hins) (hts _ hini) rfl hd hrc hrs hKn.2.1 rfl fun H1 kC hkC f1 f2 f3 => ?_
        obtain ⟨g1, -, g3⟩ := hH.push hfl hp f2 f3 ⟨_, hc, (u_born (t.1 ci) hts hin hKn hkC f1 hty).to (fun j hj => by rw [d3]; exact d2 j hj)⟩
        have h7 := kk H1 g3
        rw [List.map_cons, show g_sh (fun j => H0.size + fl j) cst (Value.ref k) = .ref H.size by show Value.ref (H0.size + fl k) = _; rw [g1]] at h7
        exact h7
    next => cases hS
  next at_ =>
    split at hS
    next r' n q =>
      split at hS
      · cases hS
      next hin =>
        cases hp : g_push lg h n.toNatClampNeg (.inl (0, n.toNatClampNeg, .inl fun _ => 0)) with
        | none => rw [hp] at hS; cases hS
        | some z => rw [hp] at hS; cases hS; exact g_newarr hx hb hts hK hfl hok.1 hok.2 rfl (fun C h => by cases h) (by decide) (fun N => rfl) hin hp hd hH hrc hrs kk
    next r' n q =>
      split at hS
      · cases hS
      next hin =>
        cases hp : g_push lg h n.toNatClampNeg (.inl (1, n.toNatClampNeg, .inl fun _ => 0)) with
        | none => rw [hp] at hS; cases hS
        | some z => rw [hp] at hS; cases hS; exact g_newarr hx hb hts hK hfl hok.1 hok.2 rfl (fun C h => by cases h) (by decide) (fun N => rfl) hin hp hd hH hrc hrs kk
    next r' n q =>
      split at hS
      · cases hS
      next hin =>
        cases hp : g_push lg h n.toNatClampNeg (.inl (2, n.toNatClampNeg, .inl fun _ => 0)) with
        | none => rw [hp] at hS; cases hS
        | some z => rw [hp] at hS; cases hS; exact g_newarr hx hb hts hK hfl hok.1 hok.2 rfl (fun C h => by cases h) (by decide) (fun N => rfl) hin hp hd hH hrc hrs kk
    next r' n q =>
      split at hS
      · cases hS
      next hin =>
        cases hp : g_push lg h n.toNatClampNeg (.inl (3, n.toNatClampNeg, .inr (.inl fun _ => 0))) with
        | none => rw [hp] at hS; cases hS
        | some z => rw [hp] at hS; cases hS; exact g_newarr hx hb hts hK hfl hok.1 hok.2 rfl (fun C h => by cases h) (by decide) (fun N => rfl) hin hp hd hH hrc hrs kk
    next => cases hS
  next ix =>
    split at hS
    next n q =>
      split at hS
      · cases hS
      next hin =>
        cases hp : g_push lg h n.toNatClampNeg (.inl (4, n.toNatClampNeg, .inr (.inr (.inr (.inr fun _ => none))))) with
        | none => rw [hp] at hS; cases hS
        | some z =>
          rw [hp] at hS
          cases hS
          obtain ⟨k, h'⟩ := z
          have hn : ¬ n < 0 := fun z => hin (Or.inl z)
          have hN : n.toNatClampNeg ≤ 1000000 := Nat.not_lt.mp fun z => hin (Or.inr z)
          have hpp : h'.1 = (h.1.1 + 1, h.1.2 + n.toNatClampNeg) := by
            unfold g_push at hp
            split at hp
            · cases hp; rfl
            · cases hp
          have e1 : h'.1.1 - h.1.1 = 1 := by rw [hpp]; show h.1.1 + 1 - h.1.1 = 1; omega
          have e2 : h'.1.2 - h.1.2 = n.toNatClampNeg := by rw [hpp]; show h.1.2 + n.toNatClampNeg - h.1.2 = _; omega
          simp only [e1, e2] at kk hrc hrs
          refine W.anew hx hb hown (hts _ hok) (va_AO.use hAO) rfl hd rfl hn (by omega) hrc hrs fun cA' kA comp f1 f2 f3 f4 => ?_
          obtain ⟨_, _, _, _, _, r4⟩ := (hK.2 4 _ rfl).2
          have hc : cA' = cA 4 := Option.some.inj (f1.symm.trans r4)
          subst hc
          obtain ⟨g1, -, g3⟩ := hH.push hfl hp (H1 := H.push { cls := cA 4, slots := Array.replicate n.toNatClampNeg .null, vm := .none }) (by rw [Array.size_push]) (fun q hq => by rw [Array.getElem?_push, if_neg (Nat.ne_of_lt hq)])
            (show (H.push _)[H.size]? = some (vp_cell (cA 4) (n.toNatClampNeg, .inr (.inr (.inr (.inr fun _ => none))))) by rw [Array.getElem?_push_size, vp_cell_q, ← arrV_new]; rfl)
          have h7 := kk _ g3
          rw [List.map_cons, show g_sh (fun j => H0.size + fl j) cst (Value.ref k) = .ref H.size by show Value.ref (H0.size + fl k) = _; rw [g1]] at h7
          exact h7
    next => cases hS
  next => cases hS
end GN
end
section
/-! texts (String constants): number j + 1 is the text, j + 1 + how many there are its row of bytes -/
def g_txt (tb : List (List Int32)) (I : Instr) (r : List Nat) (st : List Value) : Option (List Value) := match I with
  | .ldc _ => match r with
    | 1 :: j :: _ => if j < tb.length ∧ tb.length < 1000 then some (.float (UInt32.ofNat (j + 1)) :: st) else none
    | _ => none
  | .getfield _ => match r, st with
    | [0], .float j :: q => if 0 < j.toNat ∧ j.toNat ≤ tb.length ∧ tb.length < 1000 then some (.float (UInt32.ofNat (j.toNat + tb.length)) :: q) else none
    | [1], .float j :: q => if 0 < j.toNat ∧ j.toNat ≤ tb.length ∧ tb.length < 1000 then some (.int 0 :: q) else none
    | _, _ => none
  | .arraylength => match st with
    | .float j :: q => if tb.length < j.toNat ∧ j.toNat ≤ 2 * tb.length then some (.int (Int32.ofNat (tb.getD (j.toNat - 1 - tb.length) []).length) :: q) else none
    | _ => none
  | .baload => match st with
    | .int i :: .float j :: q => if tb.length < j.toNat ∧ j.toNat ≤ 2 * tb.length then
        (if i < 0 ∨ (tb.getD (j.toNat - 1 - tb.length) []).length ≤ i.toNatClampNeg then none else some (.int ((tb.getD (j.toNat - 1 - tb.length) []).getD i.toNatClampNeg 0) :: q)) else none
    | _ => none
  | .getstatic _ => match r with
    | [0] => some (.int 1 :: st)
    | [1] => some (.retAddr 0 :: st)
    | _ => none
  | _ => none
/-- the texts' names: class, place in its pool, the text -/
def g_txtok (tn : Nat → String × Nat × String) (Ts : List Cond) (own : String) (I : Instr) (r : List Nat) : Prop := match I with
  | .ldc ix => match r with
    | 1 :: j :: _ => (tn j).1 = own ∧ (tn j).2.1 = ix
    | _ => True
  | .getfield ix => match r with
    | [0] => Cond.fieldLink own ix "java/lang/String" "value" "[B" ∈ Ts
    | [1] => Cond.fieldLink own ix "java/lang/String" "coder" "B" ∈ Ts
    | _ => True
  | .getstatic ix => match r with
    | [0] => Cond.fieldLink own ix "java/lang/String" "COMPACT_STRINGS" "Z" ∈ Ts
    | [1] => Cond.fieldLink own ix "jdk/internal/util/Preconditions" "SIOOBE_FORMATTER" "Ljava/util/function/BiFunction;" ∈ Ts
    | _ => True
  | _ => True
/-- what holds of the texts -/
def g_TX (tb : List (List Int32)) (tn : Nat → String × Nat × String) (cst : Nat → Nat) (H0 : Heap) (U : State) : Prop :=
  (∀ j, j < tb.length → vk_R (tn j).1 (tn j).2.1 (tn j).2.2 (cst (j + 1)) U) ∧ vk_S tb.length (tb.map List.length) tb (fun i => cst (i + 1)) (fun i => cst (i + 1 + tb.length)) (fun q => H0.size ≤ q) U H0 ∧ va_Z "java/lang/String" "COMPACT_STRINGS" "Z" (.int 1) (fun q => H0.size ≤ q) U H0 ∧ va_Z "jdk/internal/util/Preconditions" "SIOOBE_FORMATTER" "Ljava/util/function/BiFunction;" (va_rf (match cst 1000 with | 0 => none | a + 1 => some a)) (fun q => H0.size ≤ q) U H0
theorem g_TX.warm {tb : List (List Int32)} {tn : Nat → String × Nat × String} {cst : Nat → Nat} {H0 : Heap} {s U : State} (hW : s.WarmedH U.vm) (h : g_TX tb tn cst H0 s) : g_TX tb tn cst H0 U :=
  ⟨fun j hj => (h.1 j hj).warm hW, h.2.1.moved hW.alike, h.2.2.1.moved hW.alike, h.2.2.2.moved hW.alike⟩
theorem g_TX.same {tb : List (List Int32)} {tn : Nat → String × Nat × String} {cst : Nat → Nat} {H0 : Heap} {s U : State} (hv : U.vm = s.vm) (h : g_TX tb tn cst H0 s) : g_TX tb tn cst H0 U :=
  ⟨fun j hj => (h.1 j hj).same hv, h.2.1.moved (by rw [hv]; exact Vm.Alike.refl _), h.2.2.1.moved (by rw [hv]; exact Vm.Alike.refl _), h.2.2.2.moved (by rw [hv]; exact Vm.Alike.refl _)⟩
section GX
variable {p : Program} {l : Launch} {e : Env} {R : Room} {s : State} {m : MethodId} {args : Array Value} {below : List Frame} {meth : Method} {c : Code} {H : Heap} {locs : List Loc} {cells slots : Nat} {Q : State → Prop}
variable {cc : ByteArray} {pc : Nat} {ls : Array Slot} {ad cst : Nat → Nat} {H0 : Heap} {Ts : List Cond} {own : String} {tb : List (List Int32)} {tn : Nat → String × Nat × String}
theorem g_len_at (tb : List (List Int32)) (i : Nat) : (tb.map List.length).getD i 0 = (tb.getD i []).length := by
  simp only [List.getD_eq_getElem?_getD, List.getElem?_map]
  cases tb[i]? <;> rfl
set_option maxHeartbeats 4000000 in
theorem g_txt_ok (hx : p.tables.exec = Jvm.exec) (hb : c.code = cc) (hts : ∀ w ∈ Ts, w.before args s = true) (hown : s.vm.findClass own = some m.cls) (hTX : g_TX tb tn cst H0 s) (hold : ∀ q, q < H0.size → H[q]? = H0[q]?)
    {I : Instr} {r : List Nat} {st st' : List Value} {len : Nat} (hS : g_txt tb I r st = some st') (hd : decode cc pc = .ok (I, len)) (hl : len = g_len I) (hok : g_txtok tn Ts own I r)
    (k : W p l e R s m args below meth c H locs cells slots Q (F0 m (pc + g_len I) ls (st'.map (g_sh ad cst)))) : W p l e R s m args below meth c H locs cells slots Q (F0 m pc ls (st.map (g_sh ad cst))) := by
  subst hl
  obtain ⟨hR, hV, hZ, hZ2⟩ := hTX
  have u32 : ∀ n : Nat, n < 4000 → (UInt32.ofNat n).toNat = n := fun n hn => by
    rw [UInt32.toNat_ofNat']
    exact Nat.mod_eq_of_lt (by omega)
  unfold g_txt at hS
  split at hS
  next ix =>
    split at hS
    next j r' =>
      split at hS
      next hj =>
        cases hS
        obtain ⟨h1, h2⟩ := hok
        have h3 := hR j hj.1
        rw [h1, h2] at h3
        refine va_ldcS hx hb hown h3 hd ?_
        have h4 : g_sh ad cst (.float (UInt32.ofNat (j + 1))) = .ref (cst (j + 1)) := by
          show Value.ref (cst (UInt32.ofNat (j + 1)).toNat) = _
          rw [u32 _ (by omega)]
        rw [List.map_cons, h4] at k
        exact k
      next => cases hS
    next => cases hS
  next ix =>
    split at hS
    next j q =>
      split at hS
      next hj =>
        cases hS
        obtain ⟨cf, kf, fi, f, cell, g1, g2, g3, g4, g5, g6⟩ := (hV.1 (j.toNat - 1) (by omega)).2.2.1
        have ha : cst (j.toNat - 1 + 1) < H0.size := Nat.not_le.mp g6
        have e1 : g_sh ad cst (.float j) = .ref (cst (j.toNat - 1 + 1)) := by
          show Value.ref (cst j.toNat) = _
          rw [show j.toNat - 1 + 1 = j.toNat by omega]
        rw [List.map_cons, e1]
        refine W.getf hx hb hown (hts _ hok) g1 g2 (by rw [hold _ ha]; exact g3) g4 g5 (g := F0 m pc ls _) rfl rfl hd ?_
        have h4 : g_sh ad cst (.float (UInt32.ofNat (j.toNat + tb.length))) = .ref (cst (j.toNat - 1 + 1 + tb.length)) := by
          show Value.ref (cst (UInt32.ofNat (j.toNat + tb.length)).toNat) = _
          rw [u32 _ (by omega), show j.toNat - 1 + 1 = j.toNat by omega]
        rw [List.map_cons, h4] at k
        exact k
      next => cases hS
    next j q =>
      split at hS
      next hj =>
        cases hS
        obtain ⟨cf, kf, fi, f, cell, g1, g2, g3, g4, g5, g6⟩ := (hV.1 (j.toNat - 1) (by omega)).2.1
        have ha : cst (j.toNat - 1 + 1) < H0.size := Nat.not_le.mp g6
        have e1 : g_sh ad cst (.float j) = .ref (cst (j.toNat - 1 + 1)) := by
          show Value.ref (cst j.toNat) = _
          rw [show j.toNat - 1 + 1 = j.toNat by omega]
        rw [List.map_cons, e1]
        exact W.getf hx hb hown (hts _ hok) g1 g2 (by rw [hold _ ha]; exact g3) g4 g5 (g := F0 m pc ls _) rfl rfl hd k
      next => cases hS
    next => cases hS
  · split at hS
    next j q =>
      split at hS
      next hj =>
        cases hS
        obtain ⟨cell, g1, g2, g3, g4, g5, g6, g7⟩ := (hV.1 (j.toNat - 1 - tb.length) (by omega)).2.2.2
        have ha : cst (j.toNat - 1 - tb.length + 1 + tb.length) < H0.size := Nat.not_le.mp g7
        have e1 : g_sh ad cst (.float j) = .ref (cst (j.toNat - 1 - tb.length + 1 + tb.length)) := by
          show Value.ref (cst j.toNat) = _
          rw [show j.toNat - 1 - tb.length + 1 + tb.length = j.toNat by omega]
        rw [List.map_cons, e1]
        rw [g_len_at] at g5
        exact W.alen hx hb (by rw [hold _ ha]; exact g1) g2 g5 (g := F0 m pc ls _) rfl rfl hd k
      next => cases hS
    next => cases hS
  · split at hS
    next i j q =>
      split at hS
      next hj =>
        split at hS
        · cases hS
        next hin =>
          cases hS
          obtain ⟨cell, g1, g2, g3, g4, g5, g6, g7⟩ := (hV.1 (j.toNat - 1 - tb.length) (by omega)).2.2.2
          have ha : cst (j.toNat - 1 - tb.length + 1 + tb.length) < H0.size := Nat.not_le.mp g7
          have e1 : g_sh ad cst (.float j) = .ref (cst (j.toNat - 1 - tb.length + 1 + tb.length)) := by
            show Value.ref (cst j.toNat) = _
            rw [show j.toNat - 1 - tb.length + 1 + tb.length = j.toNat by omega]
          rw [List.map_cons, List.map_cons, e1]
          have hlt : i.toNatClampNeg < (tb.getD (j.toNat - 1 - tb.length) []).length := Nat.not_le.mp fun z => hin (Or.inr z)
          rw [g_len_at] at g4
          exact W.bald hx hb (by rw [hold _ ha]; exact g1) g2 g3 (fun z => z.elim (fun z => hin (Or.inl z)) (fun z => by omega)) (g6 _ (by rw [g_len_at]; exact hlt)) (g := F0 m pc ls _) rfl rfl hd k
      next => cases hS
    next => cases hS
  next ix =>
    split at hS
    next =>
      cases hS
      obtain ⟨cf, kf, fi, f, a, cell, h1, h2, h3, h4, h5, h6, h7, h8⟩ := hZ
      exact W.gets hx hb hown (hts _ hok) h1 h2 h3 h4 (by rw [hold _ (Nat.not_le.mp h8)]; exact h5) (fun e => by rw [e] at h6; cases h6) h7 (g := F0 m pc ls _) rfl hd k
    next =>
      cases hS
      obtain ⟨cf, kf, fi, f, a, cell, h1, h2, h3, h4, h5, h6, h7, h8⟩ := hZ2
      exact W.gets hx hb hown (hts _ hok) h1 h2 h3 h4 (by rw [hold _ (Nat.not_le.mp h8)]; exact h5) (fun e => by rw [e] at h6; cases h6) h7 (g := F0 m pc ls _) rfl hd k
    next => cases hS
  next => cases hS
end GX
end
section
/-! natives, calls, and the interpreter -/
def g_sum (st : List Value) : Nat := (st.map fun v => v.category).sum
def g_nat (I : Instr) (r : List Nat) (st : List Value) (h : gH) : Option (List Value × gH) := match I with
  | .invokespecial _ => match r, st with
    | [0], .ref _ :: q => if g_sum q ≤ 8 then some (q, h) else none
    | _, _ => none
  | .invokestatic _ => match r, st with
    | [5], .int n :: .int dp :: .ref a :: .int sp :: .ref a0 :: q => match g_get h a0, g_get h a with
      | some (.inl (0, n0, .inl f)), some (.inl (0, n1, .inl g)) =>
        if sp < 0 ∨ dp < 0 ∨ n < 0 ∨ n0 < sp.toNatClampNeg + n.toNatClampNeg ∨ n1 < dp.toNatClampNeg + n.toNatClampNeg ∨ 8 < g_sum q then none
        else some (q, g_set h a (.inl (0, n1, .inl (va_cpy f g sp.toNatClampNeg dp.toNatClampNeg n.toNatClampNeg))))
      | _, _ => none
    | [7], .int y :: .int x :: q => if g_sum q ≤ 8 then some (.int (if x < y then y else x) :: q, h) else none
    | [8], .int y :: .int x :: q => if g_sum q ≤ 8 then some (.int (if y < x then y else x) :: q, h) else none
    | _, _ => none
  | _ => none
def g_natok (Ts : List Cond) (own : String) (I : Instr) (r : List Nat) : Prop := match I with
  | .invokespecial ix => match r with
    | [0] => Cond.methodLink own ix objectInit ∈ Ts ∧ Cond.instanceMethod objectInit ∈ Ts ∧ Cond.code objectInit ⟨#[0xb1]⟩ 1 none ∈ Ts
    | _ => True
  | .invokestatic ix => match r with
    | [5] => Cond.methodLink own ix arraycopyName ∈ Ts ∧ Cond.native arraycopyName ∈ Ts ∧ Cond.static arraycopyName ∈ Ts ∧ Cond.initialized "java/lang/System" ∈ Ts
    | [7] => Cond.methodLink own ix Lib.Math.max.name ∈ Ts ∧ Cond.static Lib.Math.max.name ∈ Ts ∧ Cond.initialized "java/lang/Math" ∈ Ts ∧ Cond.code Lib.Math.max.name Lib.Math.max.code 2 (some .int) ∈ Ts
    | [8] => Cond.methodLink own ix Lib.Math.min.name ∈ Ts ∧ Cond.static Lib.Math.min.name ∈ Ts ∧ Cond.initialized "java/lang/Math" ∈ Ts ∧ Cond.code Lib.Math.min.name Lib.Math.min.code 2 (some .int) ∈ Ts
    | _ => True
  | _ => True
/-- a method: its name, bytes, locals, what it returns; its instructions, each with what it links to -/
abbrev gM : Type := (MethodName × ByteArray × Nat × Option FieldType) × (Nat → Option (Instr × List Nat))
/-- a call: the method's number, its arguments, the rest of the stack -/
def g_inv (nt : Nat) (mt : Nat → gM) (I : Instr) (r : List Nat) (st : List Value) (h : gH) : Option (Nat × List Value × List Value) := match I with
  | .invokestatic _ => match r with
    | [1, M, na] => if na ≤ st.length ∧ g_sum (st.drop na) ≤ 8 ∧ (lg_sl (st.take na).reverse).length ≤ (mt M).1.2.2.1 then some (M, (st.take na).reverse, st.drop na) else none
    | _ => none
  | .invokevirtual _ => match r with
    | [2, M, na, ci] => match st.drop na with
      | .ref b :: q => match g_get h b with
        | some (.inr (ci', _)) => if ci' = ci ∧ na ≤ st.length ∧ g_sum q ≤ 8 ∧ (lg_sl (.ref b :: (st.take na).reverse)).length ≤ (mt M).1.2.2.1 then some (M, .ref b :: (st.take na).reverse, q) else none
        | _ => none
      | _ => none
    | [6, M, na] => match st.drop na with
      | .float j :: q => if 0 < j.toNat ∧ j.toNat ≤ nt ∧ na ≤ st.length ∧ g_sum q ≤ 8 ∧ (lg_sl (.float j :: (st.take na).reverse)).length ≤ (mt M).1.2.2.1 then some (M, .float j :: (st.take na).reverse, q) else none
      | _ => none
    | _ => none
  | .invokespecial _ => match r with
    | [3, M, na] => match st.drop na with
      | .ref b :: q => if na ≤ st.length ∧ g_sum q ≤ 8 ∧ (lg_sl (.ref b :: (st.take na).reverse)).length ≤ (mt M).1.2.2.1 then some (M, .ref b :: (st.take na).reverse, q) else none
      | _ => none
    | [4, M, na] => match st.drop na with
      | .ref b :: q => if na ≤ st.length ∧ g_sum q ≤ 8 ∧ (lg_sl (.ref b :: (st.take na).reverse)).length ≤ (mt M).1.2.2.1 then some (M, .ref b :: (st.take na).reverse, q) else none
      | _ => none
    | _ => none
  | _ => none
/-- what the tables must say of a method that is called -/
def g_called (Ts : List Cond) (M : gM) (na : Nat) : Prop := plainName M.1.1.cls = true ∧ M.1.2.2.1 ≤ 45 ∧ Cond.code M.1.1 M.1.2.1 M.1.2.2.1 M.1.2.2.2 ∈ Ts ∧ Cond.initialized M.1.1.cls ∈ Ts ∧ (M.1.1.cls ≠ "java/lang/invoke/MethodHandle" ∧ M.1.1.cls ≠ "java/lang/invoke/VarHandle" ∧ (parseMethodDescriptor M.1.1.desc).map (fun d => d.parameters.length) = some na)
def g_invok (cl : List vw_C) (Ts : List Cond) (Ns : List (String × Nat × MethodName × String)) (mt : Nat → gM) (host own : String) (I : Instr) (r : List Nat) : Prop := match I with
  | .invokestatic ix => match r with
    | [1, M, na] => g_called Ts (mt M) na ∧ Cond.methodLink own ix (mt M).1.1 ∈ Ts ∧ Cond.static (mt M).1.1 ∈ Ts
    | _ => True
  | .invokevirtual ix => match r with
    | [2, M, na, ci] => g_called Ts (mt M) na ∧ Cond.methodLink own ix (mt M).1.1 ∈ Ts ∧ Cond.instanceMethod (mt M).1.1 ∈ Ts ∧ Cond.selects (mt M).1.1.cls (mt M).1.1 (mt M).1.1 ∈ Ts ∧ ∃ q, cl[ci]? = some q ∧ q.1 = (mt M).1.1.cls
    | [6, M, na] => g_called Ts (mt M) na ∧ Cond.methodLink own ix (mt M).1.1 ∈ Ts ∧ Cond.instanceMethod (mt M).1.1 ∈ Ts ∧ Cond.selects (mt M).1.1.cls (mt M).1.1 (mt M).1.1 ∈ Ts ∧ (mt M).1.1.cls = "java/lang/String"
    | _ => True
  | .invokespecial ix => match r with
    | [3, M, na] => g_called Ts (mt M) na ∧ Cond.methodLink own ix (mt M).1.1 ∈ Ts ∧ Cond.instanceMethod (mt M).1.1 ∈ Ts ∧ (mt M).1.1.name = "<init>" ∧ (mt M).1.2.2.2 = none
    | [4, M, na] => g_called Ts (mt M) na ∧ (own, ix, (mt M).1.1, host) ∈ Ns ∧ Cond.instanceMethod (mt M).1.1 ∈ Ts ∧ (mt M).1.1.name = "<init>" ∧ (mt M).1.2.2.2 = none
    | _ => True
  | _ => True
def g_ret (ret : Option FieldType) (I : Instr) (st : List Value) : Option (Option Value) := match I with
  | .ireturn => match ret, st with
    | some ty, [.int v] => if narrow ty (.int v) = .int v then some (some (.int v)) else none
    | _, _ => none
  | .lreturn => match ret, st with
    | some .long, [.long v] => some (some (.long v))
    | _, _ => none
  | .return_ => match ret, st with
    | none, [] => some none
    | _, _ => none
  | _ => none
/-- an instruction that is neither call nor return -/
def g_step (t : gT) (tb : List (List Int32)) (lg : Nat → Nat) (df : Nat → List Value) (nL : Nat) (I : Instr) (r : List Nat) (pc : Nat) (loc : List (Nat × Value)) (st : List Value) (h : gH) : Option (Nat × List (Nat × Value) × List Value × gH) :=
  match g_pure I st with
  | some st' => some (pc + g_len I, loc, st', h)
  | none => match g_loc nL I loc st with
    | some (loc', st') => some (pc + g_len I, loc', st', h)
    | none => match g_br I r pc st with
      | some (pc', st') => some (pc', loc, st', h)
      | none => match g_mem t I r st h with
        | some (st', h') => some (pc + g_len I, loc, st', h')
        | none => match g_new lg df I r st h with
          | some (st', h') => some (pc + g_len I, loc, st', h')
          | none => match g_txt tb I r st with
            | some st' => some (pc + g_len I, loc, st', h)
            | none => match g_nat I r st h with
              | some (st', h') => some (pc + 3, loc, st', h')
              | none => none
/-- the interpreter: fuel, calls' depth, the method, its place, its locals, its stack, the heap -/
def g_exec (t : gT) (tb : List (List Int32)) (lg : Nat → Nat) (df : Nat → List Value) (mt : Nat → gM) : Nat → Nat → Nat → Nat → List (Nat × Value) → List Value → gH → Option (Option Value × gH)
  | 0, _, _, _, _, _, _ => none
  | n + 1, d, M, pc, loc, st, h => match (mt M).2 pc with
    | none => none
    | some (I, r) => match g_step t tb lg df (mt M).1.2.2.1 I r pc loc st h with
      | some (pc', loc', st', h') => g_exec t tb lg df mt n d M pc' loc' st' h'
      | none => match g_ret (mt M).1.2.2.2 I st with
        | some v => some (v, h)
        | none => match g_inv tb.length mt I r st h, d with
          | some (M', as, rest), d' + 1 => match g_exec t tb lg df mt n d' M' 0 (lv_args 0 as) [] h with
            | some (v, h1) => g_exec t tb lg df mt n (d' + 1) M (pc + 3) loc (v.toList ++ rest) h1
            | none => none
          | _, _ => none
theorem g_push_mono {lg : Nat → Nat} {h h' : gH} {n k : Nat} {e : gE} (hp : g_push lg h n e = some (k, h')) : h.1.1 ≤ h'.1.1 ∧ h.1.2 ≤ h'.1.2 := by
  unfold g_push at hp
  split at hp
  · cases hp; exact ⟨Nat.le_succ _, Nat.le_add_right _ _⟩
  · cases hp
theorem g_new_mono {lg : Nat → Nat} {df : Nat → List Value} {I : Instr} {r : List Nat} {st st' : List Value} {h h' : gH} (hS : g_new lg df I r st h = some (st', h')) : h.1.1 ≤ h'.1.1 ∧ h.1.2 ≤ h'.1.2 := by
  have key : ∀ {n : Nat} {e : gE} {q : List Value}, (g_push lg h n e).map (fun z => ((Value.ref z.1 :: q : List Value), z.2)) = some (st', h') → h.1.1 ≤ h'.1.1 ∧ h.1.2 ≤ h'.1.2 := by
    intro n e q hq
    cases hp : g_push lg h n e with
    | none => rw [hp] at hq; cases hq
    | some z => rw [hp] at hq; cases hq; exact g_push_mono hp
  unfold g_new at hS
  split at hS
  · split at hS
    · exact key hS
    · cases hS
  · split at hS
    · split at hS
      · cases hS
      · exact key hS
    · split at hS
      · cases hS
      · exact key hS
    · split at hS
      · cases hS
      · exact key hS
    · split at hS
      · cases hS
      · exact key hS
    · cases hS
  · split at hS
    · split at hS
      · cases hS
      · exact key hS
    · cases hS
  · cases hS
end
section
/-! no cell goes -/
set_option maxHeartbeats 4000000 in
theorem g_mem_cnt {t : gT} {I : Instr} {r : List Nat} {st st' : List Value} {h h' : gH} (hS : g_mem t I r st h = some (st', h')) : h'.1 = h.1 := by
  unfold g_mem at hS
  repeat' split at hS
  all_goals first
    | (cases hS <;> rfl)
    | (obtain ⟨v, hv, e⟩ := Option.map_eq_some_iff.mp hS; cases e; rfl)
theorem g_nat_cnt {I : Instr} {r : List Nat} {st st' : List Value} {h h' : gH} (hS : g_nat I r st h = some (st', h')) : h'.1 = h.1 := by
  unfold g_nat at hS
  repeat' split at hS
  all_goals first
    | (cases hS <;> rfl)
theorem g_step_mono {t : gT} {tb : List (List Int32)} {lg : Nat → Nat} {df : Nat → List Value} {nL : Nat} {I : Instr} {r : List Nat} {pc pc' : Nat} {loc loc' : List (Nat × Value)} {st st' : List Value} {h h' : gH} (hS : g_step t tb lg df nL I r pc loc st h = some (pc', loc', st', h')) : h.1.1 ≤ h'.1.1 ∧ h.1.2 ≤ h'.1.2 := by
  unfold g_step at hS
  split at hS
  · cases hS; exact ⟨Nat.le_refl _, Nat.le_refl _⟩
  · split at hS
    · cases hS; exact ⟨Nat.le_refl _, Nat.le_refl _⟩
    · split at hS
      · cases hS; exact ⟨Nat.le_refl _, Nat.le_refl _⟩
      · split at hS
        next hm => cases hS; rw [g_mem_cnt hm]; exact ⟨Nat.le_refl _, Nat.le_refl _⟩
        · split at hS
          next hm => cases hS; exact g_new_mono hm
          · split at hS
            · cases hS; exact ⟨Nat.le_refl _, Nat.le_refl _⟩
            · split at hS
              next hm => cases hS; rw [g_nat_cnt hm]; exact ⟨Nat.le_refl _, Nat.le_refl _⟩
              · cases hS
theorem g_exec_mono {t : gT} {tb : List (List Int32)} {lg : Nat → Nat} {df : Nat → List Value} {mt : Nat → gM} : ∀ (n d M pc : Nat) (loc : List (Nat × Value)) (st : List Value) (h : gH) (v : Option Value) (h' : gH), g_exec t tb lg df mt n d M pc loc st h = some (v, h') → h.1.1 ≤ h'.1.1 ∧ h.1.2 ≤ h'.1.2 := by
  intro n
  induction n with
  | zero => intro d M pc loc st h v h' he; cases he
  | succ n ih =>
    intro d M pc loc st h v h' he
    unfold g_exec at he
    split at he
    · cases he
    · split at he
      next hs =>
        have h1 := g_step_mono hs
        have h2 := ih _ _ _ _ _ _ _ _ he
        omega
      · split at he
        · cases he; exact ⟨Nat.le_refl _, Nat.le_refl _⟩
        · split at he
          · split at he
            next hc =>
              have h1 := ih _ _ _ _ _ _ _ _ hc
              have h2 := ih _ _ _ _ _ _ _ _ he
              omega
            · cases he
          · cases he
/-- more fuel: the same -/
theorem g_exec_more {t : gT} {tb : List (List Int32)} {lg : Nat → Nat} {df : Nat → List Value} {mt : Nat → gM} : ∀ (n k d M pc : Nat) (loc : List (Nat × Value)) (st : List Value) (h : gH) (z : Option Value × gH), n ≤ k → g_exec t tb lg df mt n d M pc loc st h = some z → g_exec t tb lg df mt k d M pc loc st h = some z := by
  intro n
  induction n with
  | zero => intro k d M pc loc st h z _ he; cases he
  | succ n ih =>
    intro k d M pc loc st h z hk he
    obtain ⟨k, rfl⟩ : ∃ k', k = k' + 1 := ⟨k - 1, by omega⟩
    have hk : n ≤ k := by omega
    unfold g_exec at he ⊢
    split at he
    · cases he
    next I r hI =>
      try rw [hI]
      try dsimp only
      split at he
      next hs =>
        try rw [hs]
        try dsimp only
        exact ih _ _ _ _ _ _ _ _ hk he
      next hs =>
        try rw [hs]
        try dsimp only
        split at he
        next hr => (try rw [hr]); exact he
        next hr =>
          try rw [hr]
          try dsimp only
          split at he
          next hi =>
            try rw [hi]
            try dsimp only
            split at he
            next hc =>
              rw [ih _ _ _ _ _ _ _ _ hk hc]
              dsimp only
              exact ih _ _ _ _ _ _ _ _ hk he
            · cases he
          · cases he
end
section
/-! natives -/
section GC
variable {p : Program} {l : Launch} {e : Env} {R : Room} {s : State} {m : MethodId} {args : Array Value} {below : List Frame} {meth : Method} {c : Code} {H : Heap} {locs : List Loc} {cells slots : Nat} {Q : State → Prop}
variable {cc : ByteArray} {pc : Nat} {ls : Array Slot} {D : va_G} {cl : List vw_C} {cA : Nat → ClassId} {C4 : String} {fl lg cst : Nat → Nat} {H0 : Heap} {Ts : List Cond} {own : String} {rest : List Value}
/-- System.arraycopy between rows of ints: where it was written, how large the heap is -/
theorem g_copy (hx : p.tables.exec = Jvm.exec) (hb : c.code = cc) (hml : c.maxLocals = ls.size) {index : Nat} (hown : s.vm.findClass own = some m.cls) (hlink : (Cond.methodLink own index arraycopyName).before args s = true) (hnat : (Cond.native arraycopyName).before args s = true) (hstat : (Cond.static arraycopyName).before args s = true) (hini : (Cond.initialized "java/lang/System").before args s = true)
    {a0 a : Nat} {c0 : ClassId} {n0 n1 : Nat} {f g : Nat → Int32} (hK : ArrOfT s c0 .int) (hc0 : H[a0]? = some (vp_cell c0 (n0, .inl f))) (hc1 : H[a]? = some (vp_cell c0 (n1, .inl g)))
    {sp dp n : Int32} (h1 : ¬ sp < 0) (h2 : ¬ dp < 0) (h3 : ¬ n < 0) (h4 : sp.toNatClampNeg + n.toNatClampNeg ≤ n0) (h5 : dp.toNatClampNeg + n.toNatClampNeg ≤ n1)
    (hframes : 1 ≤ R.frames) (hlocals : (rest.map fun v => v.category).sum + (nativeFrameWords "java/lang/System" "arraycopy" 5 + 11) ≤ R.locals) (hdg : decode cc pc = .ok (.invokestatic index, 3))
    (kk : ∀ (H1 : Heap) (locs1 : List Loc), H1[a]? = some (vp_cell c0 (n1, .inl (va_cpy f g sp.toNatClampNeg dp.toNatClampNeg n.toNatClampNeg))) → H1.size = H.size → (∀ q, q ≠ a → H1[q]? = H[q]?) → (∀ q ∈ locs1, q ∈ locs ∨ q.base = a) → W p l e R s m args below meth c H1 locs1 cells slots Q (F0 m (pc + 3) ls rest)) :
    W p l e R s m args below meth c H locs cells slots Q (F0 m pc ls (.int n :: .int dp :: .ref a :: .int sp :: .ref a0 :: rest)) := by
  have nn : ∀ z : Int32, ¬ z < 0 → z.toInt = (z.toNatClampNeg : Int) := by
    intro z hz
    have hz0 : (0 : Int) ≤ z.toInt := by
      have := Int32.not_lt.mp hz
      simpa using Int32.le_iff_toInt_le.mp this
    show z.toInt = ((z.toInt.toNat : Nat) : Int)
    omega
  intro T hT X
  obtain ⟨-, k0, hk0, cm0, hkk0⟩ := hK n0 (fun j => .int (f j))
  obtain ⟨-, k1, hk1, cm1, hkk1⟩ := hK n1 (fun j => .int (g j))
  obtain ⟨vm', X', step⟩ := X.arraycopy hx hown hlink hnat hstat hini (src := a0) (dst := a) (cs := vp_cell c0 (n0, .inl f)) (cd := vp_cell c0 (n1, .inl g)) (srcPos := sp) (destPos := dp) (n := n) (by rw [hT]; exact hc0) (by rw [hT]; exact hc1)
    (fun _ h => by cases h) (fun _ h => by cases h) (fun h => by cases h) (fun h => by cases h) hk0 hk1 hkk0 hkk1 (by simp [refKind]) h1 h2 h3
    (by rw [nn sp h1, nn n h3]; show ¬ _ > ((arrV c0 n0 (fun j => .int (f j))).slots.size : Int); rw [arrV_size]; omega)
    (by rw [nn dp h2, nn n h3]; show ¬ _ > ((arrV c0 n1 (fun j => .int (g j))).slots.size : Int); rw [arrV_size]; omega)
    (fun vm₁ _ i hi => by
      have e : (vp_cell c0 (n0, .inl f)).slots.getD (sp.toNatClampNeg + i) .null = .int (f (sp.toNatClampNeg + i)) := by
        show (arrV c0 n0 (fun j => .int (f j))).slots.getD _ _ = _
        rw [Array.getD_eq_getD_getElem?, arrV_read _ _ (by omega)]
        rfl
      refine ⟨?_, ?_⟩
      · rw [e]
        rfl
      · rw [e]
        exact trivial)
    (g := F0 m pc ls (.int n :: .int dp :: .ref a :: .int sp :: .ref a0 :: rest)) rfl (by rw [hml]) (rest := rest) rfl (by rw [hb]; exact hdg) hframes (by show 2 * 0 + _ + _ ≤ _; omega)
  have e1 : copied (vp_cell c0 (n0, .inl f)) (vp_cell c0 (n1, .inl g)) sp dp n = vp_cell c0 (n1, .inl (va_cpy f g sp.toNatClampNeg dp.toNatClampNeg n.toNatClampNeg)) := va_copied (fun z => .int z) c0 c0 f g h4
  rw [e1] at X' step
  have hl : a < H.size := (Array.getElem?_eq_some_iff.mp hc1).1
  have hheap : ((T.setVm vm').setCell a (vp_cell c0 (n1, .inl (va_cpy f g sp.toNatClampNeg dp.toNatClampNeg n.toNatClampNeg)))).heap = H.setIfInBounds a (vp_cell c0 (n1, .inl (va_cpy f g sp.toNatClampNeg dp.toNatClampNeg n.toNatClampNeg))) := by rw [← hT]; rfl
  obtain ⟨t, a1, b1⟩ := kk _ _ (by simp [Array.getElem?_setIfInBounds, hl]) (by simp) (fun q hq => by simp [Array.getElem?_setIfInBounds, Ne.symm hq]) (fun q hq => by
      rcases List.mem_append.mp hq with h | h
      · exact Or.inl h
      · obtain ⟨z, -, hz⟩ := List.mem_map.mp h
        rw [← hz]
        exact Or.inr rfl) _ hheap X'
  exact ⟨t, step t a1, b1⟩
theorem g_sum_sh (ad cst : Nat → Nat) (st : List Value) : ((st.map (g_sh ad cst)).map fun v => v.category).sum = g_sum st := by
  unfold g_sum
  rw [List.map_map]
  congr 1
  apply List.map_congr_left
  intro v _
  exact g_sh_cat ad cst v
theorem g_nat_ok (hx : p.tables.exec = Jvm.exec) (hb : c.code = cc) (hml : c.maxLocals = ls.size) (hts : ∀ w ∈ Ts, w.before args s = true) (hown : s.vm.findClass own = some m.cls) (hK : va_K D cl (g_tys cA C4) s)
    {I : Instr} {r : List Nat} {st st' : List Value} {h h' : gH} {len : Nat} (hS : g_nat I r st h = some (st', h')) (hd : decode cc pc = .ok (I, len)) (hl : len = g_len I) (hok : g_natok Ts own I r)
    (hH : g_HH D cl (g_tys cA C4) fl lg cst H0 h H) (hlo : ∀ q ∈ locs, H0.size ≤ q.base) (hfr : 1 ≤ R.frames) (hro : 64 ≤ R.locals) (hcR : cells ≤ R.cells) (hsR : slots ≤ R.slots)
    (kk : ∀ (H' : Heap) (locs' : List Loc), h'.1 = h.1 → g_HH D cl (g_tys cA C4) fl lg cst H0 h' H' → (∀ q ∈ locs', H0.size ≤ q.base) → W p l e R s m args below meth c H' locs' cells slots Q (F0 m (pc + 3) ls (st'.map (g_sh (fun j => H0.size + fl j) cst)))) :
    W p l e R s m args below meth c H locs cells slots Q (F0 m pc ls (st.map (g_sh (fun j => H0.size + fl j) cst))) := by
  subst hl
  unfold g_nat at hS
  split at hS
  · split at hS
    next a q =>
      split at hS
      next hq =>
        cases hS
        exact W.objInit hx hb hown (hts _ hok.1) (hts _ hok.2.1) (hts _ hok.2.2) rfl (by rw [hml]) rfl hd hfr (by rw [g_sum_sh]; show 2 * 0 + _ + _ ≤ _; omega) (kk H locs rfl hH hlo)
      next => cases hS
    next => cases hS
  · split at hS
    next n dp a sp a0 q =>
      split at hS
      next n0 f n1 g hg0 hg1 =>
        split at hS
        · cases hS
        next hc =>
          cases hS
          have c1 : ¬ sp < 0 := fun z => hc (Or.inl z)
          have c2 : ¬ dp < 0 := fun z => hc (Or.inr (Or.inl z))
          have c3 : ¬ n < 0 := fun z => hc (Or.inr (Or.inr (Or.inl z)))
          have c4 : sp.toNatClampNeg + n.toNatClampNeg ≤ n0 := Nat.not_lt.mp fun z => hc (Or.inr (Or.inr (Or.inr (Or.inl z))))
          have c5 : dp.toNatClampNeg + n.toNatClampNeg ≤ n1 := Nat.not_lt.mp fun z => hc (Or.inr (Or.inr (Or.inr (Or.inr (Or.inl z)))))
          have c6 : g_sum st' ≤ 8 := Nat.not_lt.mp fun z => hc (Or.inr (Or.inr (Or.inr (Or.inr (Or.inr z)))))
          refine g_copy hx hb hml hown (hts _ hok.1) (hts _ hok.2.1) (hts _ hok.2.2.1) (hts _ hok.2.2.2) (hK.2 0 _ rfl).1 (hH.2.2 a0 _ hg0).2.2 (hH.2.2 a _ hg1).2.2 c1 c2 c3 c4 c5 hfr (by rw [g_sum_sh, show nativeFrameWords "java/lang/System" "arraycopy" 5 = 7 by decide]; omega) hd fun H1 locs1 e1 z oq hl1 => kk H1 locs1 rfl (hH.put hg1 z oq (g_arr_at e1)) (fun q hq => ?_)
          rcases hl1 q hq with h9 | h9
          · exact hlo q h9
          · rw [h9]; exact Nat.le_add_right _ _
      next => cases hS
    next y x q =>
      split at hS
      next hq =>
        cases hS
        exact va_mmax hx hb hml hown (hts _ hok.1) (hts _ hok.2.1) (hts _ hok.2.2.1) (hts _ hok.2.2.2) hfr (by rw [g_sum_sh]; omega) hcR hsR hd (kk H locs rfl hH hlo)
      next => cases hS
    next y x q =>
      split at hS
      next hq =>
        cases hS
        exact va_mmin hx hb hml hown (hts _ hok.1) (hts _ hok.2.1) (hts _ hok.2.2.1) (hts _ hok.2.2.2) hfr (by rw [g_sum_sh]; omega) hcR hsR hd (kk H locs rfl hH hlo)
      next => cases hS
    next => cases hS
  · cases hS
end GC
end
section
/-! WHAT THE LOGICAL MACHINE ANSWERS, THE MACHINE DOES -/
/-- all that an instruction of a method must keep -/
def g_IOK (cl : List vw_C) (Ts : List Cond) (Ns : List (String × Nat × MethodName × String)) (C4 host : String) (tn : Nat → String × Nat × String) (mt : Nat → gM) (M pc : Nat) (I : Instr) (r : List Nat) : Prop :=
  (∃ len, decode (mt M).1.2.1 pc = .ok (I, len) ∧ (g_len I = 0 ∨ len = g_len I)) ∧ g_brok pc I r = true ∧ g_memok cl Ts (mt M).1.1.cls (mt M).1.1.name I r ∧ g_newok cl Ts C4 (mt M).1.1.cls I r ∧ g_txtok tn Ts (mt M).1.1.cls I r ∧ g_natok Ts (mt M).1.1.cls I r ∧ g_invok cl Ts Ns mt host (mt M).1.1.cls I r
/-- the program keeps the tables -/
def g_OK (cl : List vw_C) (t : gT) (Ts : List Cond) (Ns : List (String × Nat × MethodName × String)) (C4 host : String) (df : Nat → List Value) (tn : Nat → String × Nat × String) (fl lg : Nat → Nat) (mt : Nat → gM) : Prop :=
  g_CL cl t Ts C4 ∧ g_DF cl t df ∧ (∀ i, fl (lg i) = i) ∧ (∀ w ∈ Ts, goodWord w = true) ∧ ∀ (M pc : Nat) (I : Instr) (r : List Nat), (mt M).2 pc = some (I, r) → g_IOK cl Ts Ns C4 host tn mt M pc I r
/-- what holds of the tables at a state -/
def g_KK (Ns : List (String × Nat × MethodName × String)) (D : va_G) (cl : List vw_C) (cA : Nat → ClassId) (C4 : String) (t : gT) (tb : List (List Int32)) (tn : Nat → String × Nat × String) (cst : Nat → Nat) (H0 : Heap) (U : State) : Prop :=
  va_K D cl (g_tys cA C4) U ∧ va_X (cst 0) t.2.2.2 t.2.2.1 U H0 ∧ g_TX tb tn cst H0 U ∧ va_AO C4 U ∧ ∀ q ∈ Ns, va_Nw (.methodLinkNest q.1 q.2.1 q.2.2.1 q.2.2.2) U
theorem g_KK.warm {Ns : List (String × Nat × MethodName × String)} {D : va_G} {cl : List vw_C} {cA : Nat → ClassId} {C4 : String} {t : gT} {tb : List (List Int32)} {tn : Nat → String × Nat × String} {cst : Nat → Nat} {H0 : Heap} {s U : State} (hW : s.WarmedH U.vm) (h : g_KK Ns D cl cA C4 t tb tn cst H0 s) : g_KK Ns D cl cA C4 t tb tn cst H0 U :=
  ⟨h.1.moved hW.alike, h.2.1.moved hW.alike, h.2.2.1.warm hW, h.2.2.2.1.moved hW.alike, fun q hq => (h.2.2.2.2 q hq).warmM hW⟩
theorem g_KK.same {Ns : List (String × Nat × MethodName × String)} {D : va_G} {cl : List vw_C} {cA : Nat → ClassId} {C4 : String} {t : gT} {tb : List (List Int32)} {tn : Nat → String × Nat × String} {cst : Nat → Nat} {H0 : Heap} {s U : State} (hv : U.vm = s.vm) (h : g_KK Ns D cl cA C4 t tb tn cst H0 s) : g_KK Ns D cl cA C4 t tb tn cst H0 U :=
  ⟨h.1.moved (by rw [hv]; exact Vm.Alike.refl _), h.2.1.moved (by rw [hv]; exact Vm.Alike.refl _), h.2.2.1.same hv, h.2.2.2.1.moved (by rw [hv]; exact Vm.Alike.refl _), fun q hq => (h.2.2.2.2 q hq).same rfl hv.symm⟩
theorem g_args_sh (ad cst : Nat → Nat) : ∀ (as : List Value) (i : Nat), lv_args i (as.map (g_sh ad cst)) = g_shl ad cst (lv_args i as) := by
  intro as
  induction as with
  | nil => intro i; rfl
  | cons v as ih =>
    intro i
    show (i, g_sh ad cst v) :: lv_args (if (g_sh ad cst v).category = 2 then i + 2 else i + 1) (as.map (g_sh ad cst)) = (i, g_sh ad cst v) :: g_shl ad cst (lv_args (if v.category = 2 then i + 2 else i + 1) as)
    rw [g_sh_cat, ih]
theorem g_sl_sh (ad cst : Nat → Nat) (as : List Value) : (lg_sl (as.map (g_sh ad cst))).length = (lg_sl as).length := by
  induction as with
  | nil => rfl
  | cons v as ih =>
    unfold lg_sl at ih ⊢
    rw [List.map_cons, List.flatMap_cons, List.flatMap_cons, List.length_append, List.length_append, ih, g_sh_cat]
    by_cases hv : v.category = 2 <;> simp [hv]
section GA
variable {p : Program} {l : Launch} {e : Env} {R : Room} {s : State} {m : MethodId} {args : Array Value} {below : List Frame} {meth : Method} {c : Code} {H : Heap} {locs : List Loc} {cells slots : Nat} {Q : State → Prop}
variable {pc : Nat} {ls : Array Slot}
theorem g_after {mc ms : Nat} {Qa : State → Outcome → State → Prop} {free : Addr → Prop} {st0 rest : List Value} (hr : va_Run p l e R s m args below meth c H locs cells slots mc ms (F0 m pc ls st0) rest Qa free)
    (kk : ∀ (v : Option Value) (st₀ t : State) (locs1 : List Loc), Qa st₀ (.returned v) t → (∀ q ∈ locs1, q ∈ locs ∨ free q.base) → W p l e R s m args below meth c t.heap locs1 (cells + mc) (slots + ms) Q (F0 m (pc + 3) ls (v.toList ++ rest))) : W p l e R s m args below meth c H locs cells slots Q (F0 m pc ls st0) := by
  intro T hT X
  obtain ⟨v, st₀, t, T', L, h0, X', hL, e1, e2, hq, st⟩ := hr T hT X
  obtain ⟨t2, a1, b1⟩ := kk v st₀ t (locs ++ L) hq (fun q hq => (List.mem_append.mp hq).elim Or.inl (fun h => Or.inr (hL q h))) T' e1 X'
  exact ⟨t2, st t2 a1, b1⟩
end GA
theorem g_switch_none {I : Instr} (h : g_len I = 0) (st : List Value) (nL : Nat) (loc : List (Nat × Value)) (t : gT) (r : List Nat) (hh : gH) (lg : Nat → Nat) (df : Nat → List Value) (tb : List (List Int32)) :
    g_pure I st = none ∧ g_loc nL I loc st = none ∧ g_mem t I r st hh = none ∧ g_new lg df I r st hh = none ∧ g_txt tb I r st = none ∧ g_nat I r st hh = none := by
  unfold g_len at h
  split at h <;> first | exact ⟨rfl, rfl, rfl, rfl, rfl, rfl⟩ | cases h
end
section
section GS
variable {D : va_G} {cl : List vw_C} {cA : Nat → ClassId} {C4 host : String} {fl lg cst : Nat → Nat} {H0 : Heap} {t : gT} {Ts : List Cond} {Ns : List (String × Nat × MethodName × String)} {df : Nat → List Value} {tb : List (List Int32)} {tn : Nat → String × Nat × String} {mt : Nat → gM}
/-- how a method that is called ends -/
theorem g_end {p : Program} {l : Launch} {e : Env} {R : Room} {s : State} {m : MethodId} {args : Array Value} {below : List Frame} {meth : Method} {c : Code} {v : Option Value} {h' : gH} {ret : Option FieldType} {TC TS : Nat} (hx : p.tables.exec = Jvm.exec) (hr : meth.sig.returnType = ret) (hlocks : meth.locks = false)
    {pc : Nat} {I : Instr} {len : Nat} {ls : Array Slot} {st : List Value} {H2 : Heap} {locs2 : List Loc} (hd : decode c.code pc = .ok (I, len)) (hl : g_len I = 0 ∨ len = g_len I) (hret : g_ret ret I st = some v) (hH : g_HH D cl (g_tys cA C4) fl lg cst H0 h' H2) (hlo : ∀ q ∈ locs2, H0.size ≤ q.base) :
    W p l e R s m args below meth c H2 locs2 TC TS (MQ below (fun _ _ oc t => oc = .returned (v.map (g_sh (fun j => H0.size + fl j) cst)) ∧ g_HH D cl (g_tys cA C4) fl lg cst H0 h' t.heap) args s TC TS (fun q => H0.size ≤ q)) (F0 m pc ls (st.map (g_sh (fun j => H0.size + fl j) cst))) := by
  unfold g_ret at hret
  split at hret
  · have hl : len = 1 := hl.resolve_left (fun h => by cases h)
    subst hl
    split at hret
    next ty x =>
      split at hret
      next hn =>
        cases hret
        exact W.zret hx rfl hr hn (fun t ht _ => ⟨rfl, by rw [ht]; exact hH⟩) hlo hd
      next => cases hret
    next => cases hret
  · have hl : len = 1 := hl.resolve_left (fun h => by cases h)
    subst hl
    split at hret
    next x =>
      cases hret
      exact W.lret hx rfl hr (fun t ht _ => ⟨rfl, by rw [ht]; exact hH⟩) hlo hd
    next => cases hret
  · have hl : len = 1 := hl.resolve_left (fun h => by cases h)
    subst hl
    split at hret
    next =>
      cases hret
      exact W.vret hx rfl hr (fun t ht _ => ⟨rfl, by rw [ht]; exact hH⟩) hlo hd
    next => cases hret
  · cases hret
set_option maxHeartbeats 8000000 in
theorem g_sim (G : g_OK cl t Ts Ns C4 host df tn fl lg mt) (hbl : cst 0 < H0.size) (l : Launch) : ∀ (n d M pc : Nat) (loc : List (Nat × Value)) (st : List Value) (h : gH) (v : Option Value) (h' : gH), g_exec t tb lg df mt n d M pc loc st h = some (v, h') →
    ∀ {p : Program} {e : Env} {R : Room} {s : State} {m : MethodId} {args : Array Value} {below : List Frame} {meth : Method} {c : Code} {H : Heap} {locs : List Loc} {cells slots : Nat} {Q : State → Prop} {ls : Array Slot} (TC TS : Nat),
      p.tables.exec = Jvm.exec → c.code = (mt M).1.2.1 → c.maxLocals = (mt M).1.2.2.1 → s.vm.findClass (mt M).1.1.cls = some m.cls → meth.name = (mt M).1.1.name → (∀ w ∈ Ts, w.before args s = true) → g_KK Ns D cl cA C4 t tb tn cst H0 s →
      g_HH D cl (g_tys cA C4) fl lg cst H0 h H → lv_has ls (mt M).1.2.2.1 (g_shl (fun j => H0.size + fl j) cst loc) → (∀ q ∈ locs, H0.size ≤ q.base) →
      d + 1 ≤ R.frames → 64 * (d + 1) ≤ R.locals → cells + h'.1.1 = TC + h.1.1 → slots + h'.1.2 = TS + h.1.2 → TC ≤ R.cells → TS ≤ R.slots →
      (∀ (pc : Nat) (I : Instr) (len : Nat) (ls : Array Slot) (st : List Value) (H2 : Heap) (locs2 : List Loc), decode c.code pc = .ok (I, len) → (g_len I = 0 ∨ len = g_len I) → g_ret (mt M).1.2.2.2 I st = some v → g_HH D cl (g_tys cA C4) fl lg cst H0 h' H2 → (∀ q ∈ locs2, H0.size ≤ q.base) → W p l e R s m args below meth c H2 locs2 TC TS Q (F0 m pc ls (st.map (g_sh (fun j => H0.size + fl j) cst)))) →
      W p l e R s m args below meth c H locs cells slots Q (F0 m pc ls (st.map (g_sh (fun j => H0.size + fl j) cst))) := by
  obtain ⟨hCL, hDF, hfl, hgood, hall⟩ := id G
  intro n
  induction n with
  | zero => intro d M pc loc st h v h' he; cases he
  | succ n ih =>
    intro d M pc loc st h v h' he p e R s m args below meth c H locs cells slots Q ls TC TS hx hb hml hown hnm hts hKK hH hl hlo hfr hro hTC hTS hRC hRS hend
    have hm0 := g_exec_mono _ _ _ _ _ _ _ _ _ he
    unfold g_exec at he
    split at he
    · cases he
    next I r hI =>
      obtain ⟨⟨len, hd, hlen⟩, hbr, hme, hne, htx, hna, hiv⟩ := hall M pc I r hI
      rw [← hnm] at hme
      split at he
      next pc' loc' st' h1 hs =>
        have hm1 := g_exec_mono _ _ _ _ _ _ _ _ _ he
        unfold g_step at hs
        split at hs
        next hp =>
          cases hs
          have hle : len = g_len I := hlen.resolve_left (fun h0 => by have := (g_switch_none h0 st 0 loc t r h lg df tb).1; rw [hp] at this; cases this)
          exact g_pure_ok hx hb hp hd hle (ih _ _ _ _ _ _ _ _ he TC TS hx hb hml hown hnm hts hKK hH hl hlo hfr hro hTC hTS hRC hRS hend)
        next =>
          split at hs
          next hp =>
            cases hs
            have hle : len = g_len I := hlen.resolve_left (fun h0 => by have := (g_switch_none h0 st (mt M).1.2.2.1 loc t r h lg df tb).2.1; rw [hp] at this; cases this)
            exact g_loc_ok hx hb hp hd hle hl (fun ls' hl' => ih _ _ _ _ _ _ _ _ he TC TS hx hb hml hown hnm hts hKK hH hl' hlo hfr hro hTC hTS hRC hRS hend)
          next =>
            split at hs
            next hp =>
              cases hs
              exact g_br_ok hx hb hp hd hlen hbr (ih _ _ _ _ _ _ _ _ he TC TS hx hb hml hown hnm hts hKK hH hl hlo hfr hro hTC hTS hRC hRS hend)
            next =>
              split at hs
              next hp =>
                cases hs
                have hle : len = g_len I := hlen.resolve_left (fun h0 => by have := (g_switch_none h0 st 0 loc t r h lg df tb).2.2.1; rw [hp] at this; cases this)
                exact g_mem_ok hx hb hts hown hKK.1 hCL hKK.2.1 hbl hp hd hle hme hH hlo (fun H' locs' hc hH' hlo' => ih _ _ _ _ _ _ _ _ he TC TS hx hb hml hown hnm hts hKK hH' hl hlo' hfr hro (by rw [hc]; exact hTC) (by rw [hc]; exact hTS) hRC hRS hend)
              next =>
                split at hs
                next hp =>
                  cases hs
                  have hle : len = g_len I := hlen.resolve_left (fun h0 => by have := (g_switch_none h0 st 0 loc t r h lg df tb).2.2.2.1; rw [hp] at this; cases this)
                  have hmn := g_new_mono hp
                  exact g_new_ok hx hb hts hown hKK.1 hCL hDF hKK.2.2.2.1 hfl hp hd hle hne hH (by omega) (by omega) (fun H' hH' => ih _ _ _ _ _ _ _ _ he TC TS hx hb hml hown hnm hts hKK hH' hl hlo hfr hro (by omega) (by omega) hRC hRS hend)
                next =>
                  split at hs
                  next hp =>
                    cases hs
                    have hle : len = g_len I := hlen.resolve_left (fun h0 => by have := (g_switch_none h0 st 0 loc t r h lg df tb).2.2.2.2.1; rw [hp] at this; cases this)
                    exact g_txt_ok hx hb hts hown hKK.2.2.1 hH.2.1 hp hd hle htx (ih _ _ _ _ _ _ _ _ he TC TS hx hb hml hown hnm hts hKK hH hl hlo hfr hro hTC hTS hRC hRS hend)
                  next =>
                    split at hs
                    next hp =>
                      cases hs
                      have hle : len = g_len I := hlen.resolve_left (fun h0 => by have := (g_switch_none h0 st 0 loc t r h lg df tb).2.2.2.2.2; rw [hp] at this; cases this)
                      exact g_nat_ok hx hb (by rw [hml, hl.1]) hts hown hKK.1 hp hd hle hna hH hlo (by omega) (by omega) (by omega) (by omega) (fun H' locs' hc hH' hlo' => ih _ _ _ _ _ _ _ _ he TC TS hx hb hml hown hnm hts hKK hH' hl hlo' hfr hro (by rw [hc]; exact hTC) (by rw [hc]; exact hTS) hRC hRS hend)
                    next => cases hs
      next hsn =>
        clear hsn
        split at he
        next v1 hret =>
          cases he
          have e1 : TC = cells := by omega
          have e2 : TS = slots := by omega
          subst e1; subst e2
          exact hend pc I len ls st H locs (by rw [hb]; exact hd) hlen hret hH hlo
        next hrn =>
          clear hrn
          split at he
          next M' as rest d' hi =>
            split at he
            next v1 h1 hc =>
              have hm1 := g_exec_mono _ _ _ _ _ _ _ _ _ hc
              have hm2 := g_exec_mono _ _ _ _ _ _ _ _ _ he
              have met : ∀ (na : Nat), g_called Ts (mt M') na → (lg_sl as).length ≤ (mt M').1.2.2.1 → Met l (mt M').1.1 (Cond.code (mt M').1.1 (mt M').1.2.1 (mt M').1.2.2.1 (mt M').1.2.2.2 :: Ts) { frames := d' + 1, cells := h1.1.1 - h.1.1, slots := h1.1.2 - h.1.2, locals := 64 * (d' + 1) }
                  (va_Pc (as.map (g_sh (fun j => H0.size + fl j) cst)) (fun U => g_KK Ns D cl cA C4 t tb tn cst H0 U ∧ g_HH D cl (g_tys cA C4) fl lg cst H0 h U.heap)) (fun _ _ oc t => oc = .returned (v1.map (g_sh (fun j => H0.size + fl j) cst)) ∧ g_HH D cl (g_tys cA C4) fl lg cst H0 h1 t.heap) (h1.1.1 - h.1.1) (h1.1.2 - h.1.2) (fun q => H0.size ≤ q) := by
                intro na hcal hsl
                refine Met.ofW (cc := (mt M').1.2.1) (maxL := (mt M').1.2.2.1) (ret := (mt M').1.2.2.2) hcal.1 rfl ?_
                intro p e s m args below meth c s₁ B hml hv
                obtain ⟨rfl, hKK, hHH⟩ := hv
                have hts := atoms_spec (ws := Cond.code (mt M').1.1 (mt M').1.2.1 (mt M').1.2.2.1 (mt M').1.2.2.2 :: Ts) B.pre
                have hl := lv_entry (as.map (g_sh (fun j => H0.size + fl j) cst)) (n := (mt M').1.2.2.1) (by rw [g_sl_sh]; exact hsl)
                rw [lg_entry_eq]
                generalize (lg_sl (as.map (g_sh (fun j => H0.size + fl j) cst)) ++ List.replicate ((mt M').1.2.2.1 - (lg_sl (as.map (g_sh (fun j => H0.size + fl j) cst))).length) Slot.unset).toArray = ls at hl ⊢
                rw [g_args_sh] at hl
                exact ih d' M' 0 (lv_args 0 as) [] h v1 h1 hc (h1.1.1 - h.1.1) (h1.1.2 - h.1.2) B.exec B.bytes hml (findClass_of_methodNamed B.named) (name_of_methodNamed B.named B.method).1 (fun w hw => hts w (List.mem_cons_of_mem _ hw)) hKK hHH hl (fun q hq => by cases hq) (Nat.le_refl _) (Nat.le_refl _) (by omega) (by omega) (Nat.le_refl _) (Nat.le_refl _)
                  (fun pc I len ls st H2 locs2 q1 q2 q3 q4 q5 => g_end B.exec B.returns B.notSynchronized q1 q2 q3 q4 q5)
              have good : ∀ (na : Nat), g_called Ts (mt M') na → GoodIn Ts (Cond.code (mt M').1.1 (mt M').1.2.1 (mt M').1.2.2.1 (mt M').1.2.2.2 :: Ts) := by
                intro na hcal w hw
                have hw2 : w ∈ Ts := (List.mem_cons.mp hw).elim (fun e => by rw [e]; exact hcal.2.2.1) id
                exact ⟨hw2, good_of_word (hgood w hw2)⟩
              have cb : ∀ (na ix : Nat), g_called Ts (mt M') na → (Cond.methodLink (mt M).1.1.cls ix (mt M').1.1).before args s = true → CallB R s args (mt M).1.1.cls ix (mt M').1.1 (mt M').1.2.1 (mt M').1.2.2.1 (mt M').1.2.2.2 (Cond.code (mt M').1.1 (mt M').1.2.1 (mt M').1.2.2.1 (mt M').1.2.2.2 :: Ts) { frames := d' + 1, cells := h1.1.1 - h.1.1, slots := h1.1.2 - h.1.2, locals := 64 * (d' + 1) } (h1.1.1 - h.1.1) (h1.1.2 - h.1.2) na := by
                intro na ix hcal hlk
                have h45 := hcal.2.1
                exact callB_of na hts (good na hcal) rfl rfl rfl (hts _ hcal.2.2.2.1) hlk hcal.2.2.2.2 ⟨hfr, by show 8 + ((mt M').1.2.2.1 + 11) + 64 * (d' + 1) ≤ R.locals; omega⟩
              have pre : ∀ U : State, U.heap = H → s.WarmedH U.vm → va_Pc (as.map (g_sh (fun j => H0.size + fl j) cst)) (fun U => g_KK Ns D cl cA C4 t tb tn cst H0 U ∧ g_HH D cl (g_tys cA C4) fl lg cst H0 h U.heap) (as.map (g_sh (fun j => H0.size + fl j) cst)).toArray U :=
                fun U hU hW => ⟨rfl, hKK.warm hW, by rw [hU]; exact hH⟩
              have blind : FrameBlind (va_Pc (as.map (g_sh (fun j => H0.size + fl j) cst)) (fun U => g_KK Ns D cl cA C4 t tb tn cst H0 U ∧ g_HH D cl (g_tys cA C4) fl lg cst H0 h U.heap)) :=
                fun a U g mk q => ⟨q.1, q.2.1.same rfl, q.2.2⟩
              have fin : ∀ {st0 : List Value}, va_Run p l e R s m args below meth c H locs cells slots (h1.1.1 - h.1.1) (h1.1.2 - h.1.2) (F0 m pc ls st0) (rest.map (g_sh (fun j => H0.size + fl j) cst)) (fun (_ : State) (oc : Outcome) (t : State) => oc = .returned (v1.map (g_sh (fun j => H0.size + fl j) cst)) ∧ g_HH D cl (g_tys cA C4) fl lg cst H0 h1 t.heap) (fun q => H0.size ≤ q) →
                  W p l e R s m args below meth c H locs cells slots Q (F0 m pc ls st0) := by
                intro st0 hrun
                refine g_after hrun fun v0 st₀ tt locs1 hq hlo1 => ?_
                obtain ⟨hv0, hH1⟩ := hq
                cases hv0
                have h9 := ih _ _ _ _ _ _ _ _ he (p := p) (e := e) (R := R) (s := s) (m := m) (args := args) (below := below) (meth := meth) (c := c) (H := tt.heap) (locs := locs1) (cells := cells + (h1.1.1 - h.1.1)) (slots := slots + (h1.1.2 - h.1.2)) (Q := Q) (ls := ls) TC TS hx hb hml hown hnm hts hKK hH1 hl (fun q hq => (hlo1 q hq).elim (hlo q) id) hfr hro (by omega) (by omega) hRC hRS hend
                rw [List.map_append] at h9
                cases v1 <;> exact h9
              have sumr : g_sum rest ≤ 8 → 2 * (F0 m pc ls (st.map (g_sh (fun j => H0.size + fl j) cst))).monitorRoom + ((rest.map (g_sh (fun j => H0.size + fl j) cst)).map fun v => v.category).sum ≤ 8 := by
                intro hs8
                rw [g_sum_sh]
                show 2 * 0 + _ ≤ _
                omega
              have room : cells + (h1.1.1 - h.1.1) ≤ R.cells ∧ slots + (h1.1.2 - h.1.2) ≤ R.slots := ⟨by omega, by omega⟩
              have stk : ∀ (na : Nat) (ws : List Value), st.drop na = ws → st.map (g_sh (fun j => H0.size + fl j) cst) = (((st.take na).reverse).map (g_sh (fun j => H0.size + fl j) cst)).reverse ++ ws.map (g_sh (fun j => H0.size + fl j) cst) := by
                intro na ws hws
                rw [← List.map_reverse, List.reverse_reverse, ← hws, ← List.map_append, List.take_append_drop]
              have lenA : ∀ (na : Nat), na ≤ st.length → (((st.take na).reverse).map (g_sh (fun j => H0.size + fl j) cst)).length = na := by
                intro na hna
                rw [List.length_map, List.length_reverse, List.length_take]
                omega
              unfold g_inv at hi
              split at hi
              next ix =>
                have hle : len = 3 := hlen.resolve_left (fun h => by cases h)
                subst hle
                split at hi
                next M2 na =>
                  split at hi
                  next hc2 =>
                    cases hi
                    exact fin (va_runS (As := ((st.take na).reverse).map (g_sh (fun j => H0.size + fl j) cst)) ⟨hx, hb, hml, hown, hts⟩ (met na hiv.1 hc2.2.2) ⟨cb na ix hiv.1 (hts _ hiv.2.1), hts _ hiv.2.2⟩ ⟨blind, pre⟩ rfl (lenA na hc2.1) hl.1 (stk na _ rfl) (sumr hc2.2.1) hd room)
                  next => cases hi
                next => cases hi
              next ix =>
                have hle : len = 3 := hlen.resolve_left (fun h => by cases h)
                subst hle
                split at hi
                next M2 na ci =>
                  split at hi
                  next b q hdr =>
                    split at hi
                    next ci' fs hg =>
                      split at hi
                      next hc2 =>
                        cases hi
                        obtain ⟨rfl, hc3, hc4, hc5⟩ := hc2
                        obtain ⟨i1, i2, i3, i4, qq, i5, i6⟩ := hiv
                        have hrec := va_recv hKK.1 (hH.at hg) i5 (ci := ci') (q0 := 0) rfl
                        rw [i6] at hrec
                        exact fin (va_runV (C := (mt M').1.1.cls) (b := H0.size + fl b) (As := ((st.take na).reverse).map (g_sh (fun j => H0.size + fl j) cst)) ⟨hx, hb, hml, hown, hts⟩ (met na i1 hc5) ⟨cb na ix i1 (hts _ i2), hts _ i3, hts _ i4⟩ ⟨blind, hrec, pre⟩ rfl (lenA na hc3) hl.1 (stk na _ hdr) (sumr hc4) hd room)
                      next => cases hi
                    next => cases hi
                  next => cases hi
                next M2 na =>
                  split at hi
                  next j q hdr =>
                    split at hi
                    next hc2 =>
                      cases hi
                      obtain ⟨j1, j2, hc3, hc4, hc5⟩ := hc2
                      obtain ⟨i1, i2, i3, i4, i5⟩ := hiv
                      obtain ⟨cell, k1, k2, k3, k4⟩ := (hKK.2.2.1.2.1.1 (j.toNat - 1) (by omega)).1
                      have e0 : j.toNat - 1 + 1 = j.toNat := by omega
                      simp only [e0] at k1 k4
                      have hrec : ∃ cellB : Cell, H[cst j.toNat]? = some cellB ∧ cellB.vm.isStatics = false ∧ s.vm.findClass (mt M').1.1.cls = some cellB.cls := ⟨cell, by rw [hH.2.1 _ (Nat.not_le.mp k4)]; exact k1, k2, by rw [i5]; exact k3⟩
                      exact fin (va_runV (C := (mt M').1.1.cls) (b := cst j.toNat) (As := ((st.take na).reverse).map (g_sh (fun j => H0.size + fl j) cst)) ⟨hx, hb, hml, hown, hts⟩ (met na i1 hc5) ⟨cb na ix i1 (hts _ i2), hts _ i3, hts _ i4⟩ ⟨blind, hrec, pre⟩ rfl (lenA na hc3) hl.1 (stk na _ hdr) (sumr hc4) hd room)
                    next => cases hi
                  next => cases hi
                next => cases hi
              next ix =>
                have hle : len = 3 := hlen.resolve_left (fun h => by cases h)
                subst hle
                split at hi
                next M2 na =>
                  split at hi
                  next b q hdr =>
                    split at hi
                    next hc2 =>
                      cases hi
                      obtain ⟨hc3, hc4, hc5⟩ := hc2
                      obtain ⟨i1, i2, i3, i4, i5⟩ := hiv
                      have hcb := cb na ix i1 (hts _ i2)
                      have hmet := met na i1 hc5
                      rw [i5] at hcb hmet
                      exact fin (va_runI (b := H0.size + fl b) (As := ((st.take na).reverse).map (g_sh (fun j => H0.size + fl j) cst)) ⟨hx, hb, hml, hown, hts⟩ hmet ⟨hcb, i4, hts _ i3⟩ ⟨blind, pre⟩ rfl (lenA na hc3) hl.1 (stk na _ hdr) (sumr hc4) hd room)
                    next => cases hi
                  next => cases hi
                next M2 na =>
                  split at hi
                  next b q hdr =>
                    split at hi
                    next hc2 =>
                      cases hi
                      obtain ⟨hc3, hc4, hc5⟩ := hc2
                      obtain ⟨i1, i2, i3, i4, i5⟩ := hiv
                      have hmet := met na i1 hc5
                      have hgd := good na i1
                      have hcode := hts _ i1.2.2.1
                      rw [i5] at hmet hgd hcode
                      have h45 := i1.2.1
                      exact fin (va_runIN (b := H0.size + fl b) (host := host) (As := ((st.take na).reverse).map (g_sh (fun j => H0.size + fl j) cst)) ⟨hx, hb, hml, hown, hts⟩ hmet
                        ⟨⟨⟨rfl, rfl, hfr, by show 8 + ((mt M').1.2.2.1 + 11) + 64 * (d' + 1) ≤ R.locals; omega, pay_in hts hgd, List.mem_cons_self⟩, hcode, hts _ i1.2.2.2.1, ⟨i1.2.2.2.2.1, i1.2.2.2.2.2.1⟩, fun sig hsig => by have h2 := i1.2.2.2.2.2.2; rw [hsig] at h2; exact (Option.some.inj h2).symm, va_Nw.use rfl (hKK.2.2.2.2 _ i2)⟩, i4, hts _ i3⟩ ⟨blind, pre⟩ rfl (lenA na hc3) hl.1 (stk na _ hdr) (sumr hc4) hd room)
                    next => cases hi
                  next => cases hi
                next => cases hi
              next => cases hi
            next => cases he
          next => cases he
end GS
end
section
/-! the classes (printed by wip/gen.py out of the claim's tables) -/
theorem k_bulk {ws : List Cond} (ps : List Nat) (h : (ws.length == ps.length && (ws.zip ps).all fun q => decide (tables_1[q.2]? = some q.1) && goodWord q.1) = true) : ∀ w ∈ ws, w ∈ lw_gd := by
  rw [Bool.and_eq_true, beq_iff_eq] at h
  intro w hw
  obtain ⟨i, hi⟩ := List.getElem?_of_mem hw
  have hlt := (List.getElem?_eq_some_iff.mp hi).1
  have h2 : (ws.zip ps)[i]? = some (w, ps[i]'(by omega)) := by
    rw [List.getElem?_zip_eq_some]
    exact ⟨hi, List.getElem?_eq_getElem (by omega)⟩
  have h3 := List.all_eq_true.mp h.2 _ (List.mem_of_getElem? h2)
  rw [Bool.and_eq_true] at h3
  exact k_memT (of_decide_eq_true h3.1) h3.2
def k_T0 : u_T := fun k => match k with
  | 0 => ("SleepWork$Evening", "sleep", "LSleepWork$Sleep;", true)
  | 1 => ("SleepWork$Evening", "now", "LSleepWork$State;", true)
  | 2 => ("SleepWork$Evening", "trial", "LSleepWork$State;", true)
  | 3 => ("SleepWork$Evening", "told", "LSleepWork$Told;", true)
  | 4 => ("SleepWork$Evening", "house", "LSleepWork$House;", false)
  | 5 => ("SleepWork$Evening", "worthNow", "I", false)
  | 6 => ("SleepWork$Evening", "question", "I", false)
  | 7 => ("SleepWork$Evening", "questionOne", "I", false)
  | 8 => ("SleepWork$Evening", "questionTwo", "I", false)
  | 9 => ("SleepWork$Evening", "seen", "[J", false)
  | 10 => ("SleepWork$Evening", "mostGain", "I", false)
  | 11 => ("SleepWork$Evening", "idleGain", "I", false)
  | 12 => ("SleepWork$Evening", "first", "I", false)
  | 13 => ("SleepWork$Evening", "second", "I", false)
  | 14 => ("SleepWork$Evening", "fit", "[I", true)
  | _ => ("SleepWork$Evening", "fitCount", "I", false)
def k_ty0 : Nat → FieldType := fun k => match k with
  | 0 => .object "SleepWork$Sleep"
  | 1 => .object "SleepWork$State"
  | 2 => .object "SleepWork$State"
  | 3 => .object "SleepWork$Told"
  | 4 => .object "SleepWork$House"
  | 5 => .int
  | 6 => .int
  | 7 => .int
  | 8 => .int
  | 9 => .array .long
  | 10 => .int
  | 11 => .int
  | 12 => .int
  | 13 => .int
  | 14 => .array .int
  | _ => .int
theorem k_nm0 : ∀ a, a < 16 → ∀ b, b < 16 → a ≠ b → (k_T0 a).2.1 ≠ (k_T0 b).2.1 := by decide +kernel
theorem k_tyok0 : ∀ k, k < 16 → parseFieldDescriptor (k_T0 k).2.2.1 = some (k_ty0 k) := by decide +kernel
theorem k_in0 : ∀ w ∈ u_ws "SleepWork$Evening" k_T0 16, w ∈ lw_gd := k_bulk [387, 389, 391, 393, 395, 397, 399, 401, 403, 405, 407, 409, 411, 413, 415, 417] (by decide +kernel)
def k_T1 : u_T := fun k => match k with
  | 0 => ("SleepWork$House", "doorFrom", "[I", true)
  | 1 => ("SleepWork$House", "doorTo", "[I", true)
  | 2 => ("SleepWork$House", "doorMinutes", "[I", true)
  | 3 => ("SleepWork$House", "taskRoom", "[I", true)
  | 4 => ("SleepWork$House", "stepCount", "[I", true)
  | 5 => ("SleepWork$House", "stepMinutes", "[I", true)
  | 6 => ("SleepWork$House", "need", "[I", true)
  | 7 => ("SleepWork$House", "won", "[I", true)
  | 8 => ("SleepWork$House", "spoilt", "[I", true)
  | 9 => ("SleepWork$House", "stepTool", "[I", true)
  | 10 => ("SleepWork$House", "undone", "[I", true)
  | 11 => ("SleepWork$House", "home", "[I", true)
  | 12 => ("SleepWork$House", "laws", "LSleepWork$Laws;", true)
  | 13 => ("SleepWork$House", "rooms", "I", false)
  | 14 => ("SleepWork$House", "doors", "I", false)
  | 15 => ("SleepWork$House", "tools", "I", false)
  | 16 => ("SleepWork$House", "tasks", "I", false)
  | 17 => ("SleepWork$House", "men", "I", false)
  | _ => ("SleepWork$House", "minutes", "I", false)
def k_ty1 : Nat → FieldType := fun k => match k with
  | 0 => .array .int
  | 1 => .array .int
  | 2 => .array .int
  | 3 => .array .int
  | 4 => .array .int
  | 5 => .array .int
  | 6 => .array .int
  | 7 => .array .int
  | 8 => .array .int
  | 9 => .array .int
  | 10 => .array .int
  | 11 => .array .int
  | 12 => .object "SleepWork$Laws"
  | 13 => .int
  | 14 => .int
  | 15 => .int
  | 16 => .int
  | 17 => .int
  | _ => .int
theorem k_nm1 : ∀ a, a < 19 → ∀ b, b < 19 → a ≠ b → (k_T1 a).2.1 ≠ (k_T1 b).2.1 := by decide +kernel
theorem k_tyok1 : ∀ k, k < 19 → parseFieldDescriptor (k_T1 k).2.2.1 = some (k_ty1 k) := by decide +kernel
theorem k_in1 : ∀ w ∈ u_ws "SleepWork$House" k_T1 19, w ∈ lw_gd := k_bulk [266, 268, 270, 272, 274, 276, 278, 280, 282, 284, 286, 288, 290, 292, 294, 296, 298, 300, 302] (by decide +kernel)
def k_T2 : u_T := fun k => match k with
  | 0 => ("SleepWork$Laws", "start", "[I", true)
  | 1 => ("SleepWork$Laws", "code", "[I", true)
  | 2 => ("SleepWork$Laws", "value", "[I", true)
  | 3 => ("SleepWork$Laws", "stack", "[I", true)
  | _ => ("SleepWork$Laws", "length", "I", false)
def k_ty2 : Nat → FieldType := fun k => match k with
  | 0 => .array .int
  | 1 => .array .int
  | 2 => .array .int
  | 3 => .array .int
  | _ => .int
theorem k_nm2 : ∀ a, a < 5 → ∀ b, b < 5 → a ≠ b → (k_T2 a).2.1 ≠ (k_T2 b).2.1 := by decide +kernel
theorem k_tyok2 : ∀ k, k < 5 → parseFieldDescriptor (k_T2 k).2.2.1 = some (k_ty2 k) := by decide +kernel
theorem k_in2 : ∀ w ∈ u_ws "SleepWork$Laws" k_T2 5, w ∈ lw_gd := k_bulk [174, 176, 178, 180, 182] (by decide +kernel)
def k_T3 : u_T := fun k => match k with
  | 0 => ("SleepWork$Past", "evenings", "[LSleepWork$State;", true)
  | 1 => ("SleepWork$Past", "oldest", "I", false)
  | _ => ("SleepWork$Past", "size", "I", false)
def k_ty3 : Nat → FieldType := fun k => match k with
  | 0 => .array (.object "SleepWork$State")
  | 1 => .int
  | _ => .int
theorem k_nm3 : ∀ a, a < 3 → ∀ b, b < 3 → a ≠ b → (k_T3 a).2.1 ≠ (k_T3 b).2.1 := by decide +kernel
theorem k_tyok3 : ∀ k, k < 3 → parseFieldDescriptor (k_T3 k).2.2.1 = some (k_ty3 k) := by decide +kernel
theorem k_in3 : ∀ w ∈ u_ws "SleepWork$Past" k_T3 3, w ∈ lw_gd := k_bulk [131, 133, 135] (by decide +kernel)
def k_T4 : u_T := fun k => match k with
  | 0 => ("SleepWork$Reader", "scan", "LSleepWork$Scanner;", true)
  | 1 => ("SleepWork$Reader", "roomNames", "[J", true)
  | 2 => ("SleepWork$Reader", "toolNames", "[J", true)
  | 3 => ("SleepWork$Reader", "taskNames", "[J", true)
  | 4 => ("SleepWork$Reader", "manNames", "[J", true)
  | 5 => ("SleepWork$Reader", "house", "LSleepWork$House;", false)
  | 6 => ("SleepWork$Reader", "state", "LSleepWork$State;", false)
  | 7 => ("SleepWork$Reader", "token", "I", false)
  | 8 => ("SleepWork$Reader", "taken", "I", false)
  | 9 => ("SleepWork$Reader", "lawCount", "I", false)
  | 10 => ("SleepWork$Reader", "fault", "I", false)
  | 11 => ("SleepWork$Reader", "faultAt", "I", false)
  | 12 => ("SleepWork$Reader", "lateFault", "I", false)
  | _ => ("SleepWork$Reader", "lateFaultAt", "I", false)
def k_ty4 : Nat → FieldType := fun k => match k with
  | 0 => .object "SleepWork$Scanner"
  | 1 => .array .long
  | 2 => .array .long
  | 3 => .array .long
  | 4 => .array .long
  | 5 => .object "SleepWork$House"
  | 6 => .object "SleepWork$State"
  | 7 => .int
  | 8 => .int
  | 9 => .int
  | 10 => .int
  | 11 => .int
  | 12 => .int
  | _ => .int
theorem k_nm4 : ∀ a, a < 14 → ∀ b, b < 14 → a ≠ b → (k_T4 a).2.1 ≠ (k_T4 b).2.1 := by decide +kernel
theorem k_tyok4 : ∀ k, k < 14 → parseFieldDescriptor (k_T4 k).2.2.1 = some (k_ty4 k) := by decide +kernel
theorem k_in4 : ∀ w ∈ u_ws "SleepWork$Reader" k_T4 14, w ∈ lw_gd := k_bulk [518, 520, 522, 524, 526, 528, 530, 532, 534, 536, 538, 540, 542, 544] (by decide +kernel)
def k_T5 : u_T := fun k => match k with
  | 0 => ("SleepWork$Scanner", "kind", "[I", true)
  | 1 => ("SleepWork$Scanner", "from", "[I", true)
  | 2 => ("SleepWork$Scanner", "number", "[I", true)
  | 3 => ("SleepWork$Scanner", "name", "[J", true)
  | 4 => ("SleepWork$Scanner", "words", "[J", true)
  | _ => ("SleepWork$Scanner", "at", "I", false)
def k_ty5 : Nat → FieldType := fun k => match k with
  | 0 => .array .int
  | 1 => .array .int
  | 2 => .array .int
  | 3 => .array .long
  | 4 => .array .long
  | _ => .int
theorem k_nm5 : ∀ a, a < 6 → ∀ b, b < 6 → a ≠ b → (k_T5 a).2.1 ≠ (k_T5 b).2.1 := by decide +kernel
theorem k_tyok5 : ∀ k, k < 6 → parseFieldDescriptor (k_T5 k).2.2.1 = some (k_ty5 k) := by decide +kernel
theorem k_in5 : ∀ w ∈ u_ws "SleepWork$Scanner" k_T5 6, w ∈ lw_gd := k_bulk [491, 493, 495, 497, 499, 501] (by decide +kernel)
def k_T6 : u_T := fun k => match k with
  | 0 => ("SleepWork$Sleep", "ways", "LSleepWork$Ways;", true)
  | 1 => ("SleepWork$Sleep", "due", "[I", true)
  | 2 => ("SleepWork$Sleep", "doing", "[I", true)
  | 3 => ("SleepWork$Sleep", "last", "[I", true)
  | 4 => ("SleepWork$Sleep", "times", "[I", true)
  | 5 => ("SleepWork$Sleep", "sawEnd", "[I", true)
  | 6 => ("SleepWork$Sleep", "inUse", "[I", true)
  | 7 => ("SleepWork$Sleep", "facts", "[I", true)
  | 8 => ("SleepWork$Sleep", "house", "LSleepWork$House;", false)
  | _ => ("SleepWork$Sleep", "state", "LSleepWork$State;", false)
def k_ty6 : Nat → FieldType := fun k => match k with
  | 0 => .object "SleepWork$Ways"
  | 1 => .array .int
  | 2 => .array .int
  | 3 => .array .int
  | 4 => .array .int
  | 5 => .array .int
  | 6 => .array .int
  | 7 => .array .int
  | 8 => .object "SleepWork$House"
  | _ => .object "SleepWork$State"
theorem k_nm6 : ∀ a, a < 10 → ∀ b, b < 10 → a ≠ b → (k_T6 a).2.1 ≠ (k_T6 b).2.1 := by decide +kernel
theorem k_tyok6 : ∀ k, k < 10 → parseFieldDescriptor (k_T6 k).2.2.1 = some (k_ty6 k) := by decide +kernel
theorem k_in6 : ∀ w ∈ u_ws "SleepWork$Sleep" k_T6 10, w ∈ lw_gd := k_bulk [344, 346, 348, 350, 352, 354, 356, 358, 360, 362] (by decide +kernel)
def k_T7 : u_T := fun k => match k with
  | 0 => ("SleepWork$State", "done", "[I", true)
  | 1 => ("SleepWork$State", "stuff", "[I", true)
  | 2 => ("SleepWork$State", "left", "[I", true)
  | 3 => ("SleepWork$State", "toolAt", "[I", true)
  | 4 => ("SleepWork$State", "lastStrokes", "[I", true)
  | 5 => ("SleepWork$State", "allStrokes", "[I", true)
  | 6 => ("SleepWork$State", "downAt", "[I", true)
  | 7 => ("SleepWork$State", "shut", "I", false)
  | _ => ("SleepWork$State", "nights", "I", false)
def k_ty7 : Nat → FieldType := fun k => match k with
  | 0 => .array .int
  | 1 => .array .int
  | 2 => .array .int
  | 3 => .array .int
  | 4 => .array .int
  | 5 => .array .int
  | 6 => .array .int
  | 7 => .int
  | _ => .int
theorem k_nm7 : ∀ a, a < 9 → ∀ b, b < 9 → a ≠ b → (k_T7 a).2.1 ≠ (k_T7 b).2.1 := by decide +kernel
theorem k_tyok7 : ∀ k, k < 9 → parseFieldDescriptor (k_T7 k).2.2.1 = some (k_ty7 k) := by decide +kernel
theorem k_in7 : ∀ w ∈ u_ws "SleepWork$State" k_T7 9, w ∈ lw_gd := k_bulk [98, 100, 102, 104, 106, 108, 110, 112, 114] (by decide +kernel)
def k_T8 : u_T := fun k => match k with
  | 0 => ("SleepWork$Tape", "bytes", "[B", true)
  | _ => ("SleepWork$Tape", "size", "I", false)
def k_ty8 : Nat → FieldType := fun k => match k with
  | 0 => .array .byte
  | _ => .int
theorem k_nm8 : ∀ a, a < 2 → ∀ b, b < 2 → a ≠ b → (k_T8 a).2.1 ≠ (k_T8 b).2.1 := by decide +kernel
theorem k_tyok8 : ∀ k, k < 2 → parseFieldDescriptor (k_T8 k).2.2.1 = some (k_ty8 k) := by decide +kernel
theorem k_in8 : ∀ w ∈ u_ws "SleepWork$Tape" k_T8 2, w ∈ lw_gd := k_bulk [42, 44] (by decide +kernel)
def k_T9 : u_T := fun k => match k with
  | 0 => ("SleepWork$Told", "step", "[I", true)
  | 1 => ("SleepWork$Told", "times", "[I", true)
  | _ => ("SleepWork$Told", "size", "I", false)
def k_ty9 : Nat → FieldType := fun k => match k with
  | 0 => .array .int
  | 1 => .array .int
  | _ => .int
theorem k_nm9 : ∀ a, a < 3 → ∀ b, b < 3 → a ≠ b → (k_T9 a).2.1 ≠ (k_T9 b).2.1 := by decide +kernel
theorem k_tyok9 : ∀ k, k < 3 → parseFieldDescriptor (k_T9 k).2.2.1 = some (k_ty9 k) := by decide +kernel
theorem k_in9 : ∀ w ∈ u_ws "SleepWork$Told" k_T9 3, w ∈ lw_gd := k_bulk [148, 150, 152] (by decide +kernel)
def k_T10 : u_T := fun k => match k with
  | 0 => ("SleepWork$Ways", "minutes", "[I", true)
  | _ => ("SleepWork$Ways", "knownShut", "I", false)
def k_ty10 : Nat → FieldType := fun k => match k with
  | 0 => .array .int
  | _ => .int
theorem k_nm10 : ∀ a, a < 2 → ∀ b, b < 2 → a ≠ b → (k_T10 a).2.1 ≠ (k_T10 b).2.1 := by decide +kernel
theorem k_tyok10 : ∀ k, k < 2 → parseFieldDescriptor (k_T10 k).2.2.1 = some (k_ty10 k) := by decide +kernel
theorem k_in10 : ∀ w ∈ u_ws "SleepWork$Ways" k_T10 2, w ∈ lw_gd := k_bulk [327, 329] (by decide +kernel)
def k_T11 : u_T := fun k => match k with
  | 0 => ("SleepWork", "tape", "LSleepWork$Tape;", true)
  | 1 => ("SleepWork", "now", "LSleepWork$State;", true)
  | 2 => ("SleepWork", "draftState", "LSleepWork$State;", true)
  | 3 => ("SleepWork", "past", "LSleepWork$Past;", true)
  | 4 => ("SleepWork", "told", "LSleepWork$Told;", true)
  | 5 => ("SleepWork", "slots", "[LSleepWork$State;", true)
  | 6 => ("SleepWork", "evening", "LSleepWork$Evening;", true)
  | 7 => ("SleepWork", "reader", "LSleepWork$Reader;", true)
  | 8 => ("SleepWork", "house", "LSleepWork$House;", false)
  | 9 => ("SleepWork", "draft", "LSleepWork$House;", false)
  | 10 => ("SleepWork", "held", "I", false)
  | _ => ("SleepWork", "faultPlace", "I", false)
def k_ty11 : Nat → FieldType := fun k => match k with
  | 0 => .object "SleepWork$Tape"
  | 1 => .object "SleepWork$State"
  | 2 => .object "SleepWork$State"
  | 3 => .object "SleepWork$Past"
  | 4 => .object "SleepWork$Told"
  | 5 => .array (.object "SleepWork$State")
  | 6 => .object "SleepWork$Evening"
  | 7 => .object "SleepWork$Reader"
  | 8 => .object "SleepWork$House"
  | 9 => .object "SleepWork$House"
  | 10 => .int
  | _ => .int
theorem k_nm11 : ∀ a, a < 12 → ∀ b, b < 12 → a ≠ b → (k_T11 a).2.1 ≠ (k_T11 b).2.1 := by decide +kernel
theorem k_tyok11 : ∀ k, k < 12 → parseFieldDescriptor (k_T11 k).2.2.1 = some (k_ty11 k) := by decide +kernel
theorem k_in11 : ∀ w ∈ u_ws "SleepWork" k_T11 12, w ∈ lw_gd := k_bulk [559, 561, 563, 565, 567, 569, 571, 573, 575, 577, 579, 581] (by decide +kernel)
def k_T12 : u_T := fun k => match k with
  | 0 => ("SleepWorkModel", "thrown", "I", false)
  | 1 => ("SleepWorkModel", "tape", "[B", true)
  | 2 => ("SleepWorkModel", "taped", "I", false)
  | 3 => ("SleepWorkModel", "text", "[B", true)
  | 4 => ("SleepWorkModel", "size", "I", false)
  | 5 => ("SleepWorkModel", "tKind", "[I", true)
  | 6 => ("SleepWorkModel", "tPlace", "[I", true)
  | 7 => ("SleepWorkModel", "tValue", "[I", true)
  | 8 => ("SleepWorkModel", "tName", "[J", true)
  | 9 => ("SleepWorkModel", "keys", "[J", true)
  | 10 => ("SleepWorkModel", "tokens", "I", false)
  | 11 => ("SleepWorkModel", "t", "I", false)
  | 12 => ("SleepWorkModel", "open", "I", false)
  | 13 => ("SleepWorkModel", "fault", "I", false)
  | 14 => ("SleepWorkModel", "faultPlace", "I", false)
  | 15 => ("SleepWorkModel", "worst", "I", false)
  | 16 => ("SleepWorkModel", "worstPlace", "I", false)
  | 17 => ("SleepWorkModel", "place", "I", false)
  | 18 => ("SleepWorkModel", "live", "I", false)
  | 19 => ("SleepWorkModel", "side", "I", false)
  | 20 => ("SleepWorkModel", "names", "I", false)
  | 21 => ("SleepWorkModel", "nameOf", "[J", true)
  | 22 => ("SleepWorkModel", "nameSort", "[I", true)
  | 23 => ("SleepWorkModel", "nameAt", "[I", true)
  | 24 => ("SleepWorkModel", "rooms", "[I", true)
  | 25 => ("SleepWorkModel", "doors", "[I", true)
  | 26 => ("SleepWorkModel", "doorOne", "[I", true)
  | 27 => ("SleepWorkModel", "doorOther", "[I", true)
  | 28 => ("SleepWorkModel", "doorMinutes", "[I", true)
  | 29 => ("SleepWorkModel", "doorShut", "[Z", true)
  | 30 => ("SleepWorkModel", "tools", "[I", true)
  | 31 => ("SleepWorkModel", "toolTold", "[I", true)
  | 32 => ("SleepWorkModel", "tasks", "[I", true)
  | 33 => ("SleepWorkModel", "taskRoom", "[I", true)
  | 34 => ("SleepWorkModel", "stuffTold", "[I", true)
  | 35 => ("SleepWorkModel", "steps", "[I", true)
  | 36 => ("SleepWorkModel", "stepMinutes", "[I", true)
  | 37 => ("SleepWorkModel", "stepNeed", "[I", true)
  | 38 => ("SleepWorkModel", "stepGain", "[I", true)
  | 39 => ("SleepWorkModel", "stepSpoil", "[I", true)
  | 40 => ("SleepWorkModel", "stepTool", "[I", true)
  | 41 => ("SleepWorkModel", "stepUndoes", "[I", true)
  | 42 => ("SleepWorkModel", "men", "[I", true)
  | 43 => ("SleepWorkModel", "home", "[I", true)
  | 44 => ("SleepWorkModel", "leftTask", "[I", true)
  | 45 => ("SleepWorkModel", "leftStep", "[I", true)
  | 46 => ("SleepWorkModel", "laws", "[I", true)
  | 47 => ("SleepWorkModel", "lawFirst", "[I", true)
  | 48 => ("SleepWorkModel", "lawLast", "[I", true)
  | 49 => ("SleepWorkModel", "branches", "I", false)
  | 50 => ("SleepWorkModel", "hasTest", "[Z", true)
  | 51 => ("SleepWorkModel", "testFrom", "[I", true)
  | 52 => ("SleepWorkModel", "testMid", "[I", true)
  | 53 => ("SleepWorkModel", "testTo", "[I", true)
  | 54 => ("SleepWorkModel", "termTo", "[I", true)
  | 55 => ("SleepWorkModel", "nights", "[I", true)
  | 56 => ("SleepWorkModel", "codes", "I", false)
  | 57 => ("SleepWorkModel", "code", "[I", true)
  | 58 => ("SleepWorkModel", "codeInt", "[I", true)
  | 59 => ("SleepWorkModel", "waits", "[I", true)
  | 60 => ("SleepWorkModel", "waiting", "I", false)
  | 61 => ("SleepWorkModel", "variables", "[I", true)
  | 62 => ("SleepWorkModel", "pile", "[I", true)
  | 63 => ("SleepWorkModel", "isBroken", "Z", false)
  | 64 => ("SleepWorkModel", "now", "[I", true)
  | 65 => ("SleepWorkModel", "row", "[I", true)
  | 66 => ("SleepWorkModel", "far", "[I", true)
  | 67 => ("SleepWorkModel", "state", "[I", true)
  | 68 => ("SleepWorkModel", "from", "[I", true)
  | 69 => ("SleepWorkModel", "till", "[I", true)
  | 70 => ("SleepWorkModel", "doing", "[I", true)
  | 71 => ("SleepWorkModel", "lastStep", "[I", true)
  | 72 => ("SleepWorkModel", "times0", "[I", true)
  | 73 => ("SleepWorkModel", "byEnd", "[Z", true)
  | 74 => ("SleepWorkModel", "undos", "I", false)
  | 75 => ("SleepWorkModel", "history", "[I", true)
  | 76 => ("SleepWorkModel", "bestGain", "I", false)
  | 77 => ("SleepWorkModel", "told", "I", false)
  | 78 => ("SleepWorkModel", "toldTask", "[I", true)
  | 79 => ("SleepWorkModel", "toldStep", "[I", true)
  | 80 => ("SleepWorkModel", "toldTimes", "[I", true)
  | 81 => ("SleepWorkModel", "isHeld", "[Z", true)
  | _ => ("SleepWorkModel", "held", "[I", true)
def k_ty12 : Nat → FieldType := fun k => match k with
  | 0 => .int
  | 1 => .array .byte
  | 2 => .int
  | 3 => .array .byte
  | 4 => .int
  | 5 => .array .int
  | 6 => .array .int
  | 7 => .array .int
  | 8 => .array .long
  | 9 => .array .long
  | 10 => .int
  | 11 => .int
  | 12 => .int
  | 13 => .int
  | 14 => .int
  | 15 => .int
  | 16 => .int
  | 17 => .int
  | 18 => .int
  | 19 => .int
  | 20 => .int
  | 21 => .array .long
  | 22 => .array .int
  | 23 => .array .int
  | 24 => .array .int
  | 25 => .array .int
  | 26 => .array .int
  | 27 => .array .int
  | 28 => .array .int
  | 29 => .array .boolean
  | 30 => .array .int
  | 31 => .array .int
  | 32 => .array .int
  | 33 => .array .int
  | 34 => .array .int
  | 35 => .array .int
  | 36 => .array .int
  | 37 => .array .int
  | 38 => .array .int
  | 39 => .array .int
  | 40 => .array .int
  | 41 => .array .int
  | 42 => .array .int
  | 43 => .array .int
  | 44 => .array .int
  | 45 => .array .int
  | 46 => .array .int
  | 47 => .array .int
  | 48 => .array .int
  | 49 => .int
  | 50 => .array .boolean
  | 51 => .array .int
  | 52 => .array .int
  | 53 => .array .int
  | 54 => .array .int
  | 55 => .array .int
  | 56 => .int
  | 57 => .array .int
  | 58 => .array .int
  | 59 => .array .int
  | 60 => .int
  | 61 => .array .int
  | 62 => .array .int
  | 63 => .boolean
  | 64 => .array .int
  | 65 => .array .int
  | 66 => .array .int
  | 67 => .array .int
  | 68 => .array .int
  | 69 => .array .int
  | 70 => .array .int
  | 71 => .array .int
  | 72 => .array .int
  | 73 => .array .boolean
  | 74 => .int
  | 75 => .array .int
  | 76 => .int
  | 77 => .int
  | 78 => .array .int
  | 79 => .array .int
  | 80 => .array .int
  | 81 => .array .boolean
  | _ => .array .int
theorem k_nm12 : ∀ a, a < 83 → ∀ b, b < 83 → a ≠ b → (k_T12 a).2.1 ≠ (k_T12 b).2.1 := by decide +kernel
theorem k_tyok12 : ∀ k, k < 83 → parseFieldDescriptor (k_T12 k).2.2.1 = some (k_ty12 k) := by decide +kernel
theorem k_in12 : ∀ w ∈ u_ws "SleepWorkModel" k_T12 83, w ∈ lw_gd := k_bulk [1261, 1263, 1265, 1267, 1269, 1271, 1273, 1275, 1277, 1279, 1281, 1283, 1285, 1287, 1289, 1291, 1293, 1295, 1297, 1299, 1301, 1303, 1305, 1307, 1309, 1311, 1313, 1315, 1317, 1319, 1321, 1323, 1325, 1327, 1329, 1331, 1333, 1335, 1337, 1339, 1341, 1343, 1345, 1347, 1349, 1351, 1353, 1355, 1357, 1359, 1361, 1363, 1365, 1367, 1369, 1371, 1373, 1375, 1377, 1379, 1381, 1383, 1385, 1387, 1389, 1391, 1393, 1395, 1397, 1399, 1401, 1403, 1405, 1407, 1409, 1411, 1413, 1415, 1417, 1419, 1421, 1423, 1425] (by decide +kernel)
def k_cl : List vw_C := [("SleepWork$Evening", k_T0, 16), ("SleepWork$House", k_T1, 19), ("SleepWork$Laws", k_T2, 5), ("SleepWork$Past", k_T3, 3), ("SleepWork$Reader", k_T4, 14), ("SleepWork$Scanner", k_T5, 6), ("SleepWork$Sleep", k_T6, 10), ("SleepWork$State", k_T7, 9), ("SleepWork$Tape", k_T8, 2), ("SleepWork$Told", k_T9, 3), ("SleepWork$Ways", k_T10, 2), ("SleepWork", k_T11, 12), ("SleepWorkModel", k_T12, 83)]
def k_ty : Nat → Nat → FieldType := fun ci => match ci with
  | 0 => k_ty0
  | 1 => k_ty1
  | 2 => k_ty2
  | 3 => k_ty3
  | 4 => k_ty4
  | 5 => k_ty5
  | 6 => k_ty6
  | 7 => k_ty7
  | 8 => k_ty8
  | 9 => k_ty9
  | 10 => k_ty10
  | 11 => k_ty11
  | _ => k_ty12
def k_df : Nat → List Value := fun ci => match ci with
  | 0 => [.null, .null, .null, .null, .null, .int 0, .int 0, .int 0, .int 0, .null, .int 0, .int 0, .int 0, .int 0, .null, .int 0]
  | 1 => [.null, .null, .null, .null, .null, .null, .null, .null, .null, .null, .null, .null, .null, .int 0, .int 0, .int 0, .int 0, .int 0, .int 0]
  | 2 => [.null, .null, .null, .null, .int 0]
  | 3 => [.null, .int 0, .int 0]
  | 4 => [.null, .null, .null, .null, .null, .null, .null, .int 0, .int 0, .int 0, .int 0, .int 0, .int 0, .int 0]
  | 5 => [.null, .null, .null, .null, .null, .int 0]
  | 6 => [.null, .null, .null, .null, .null, .null, .null, .null, .null, .null]
  | 7 => [.null, .null, .null, .null, .null, .null, .null, .int 0, .int 0]
  | 8 => [.null, .int 0]
  | 9 => [.null, .null, .int 0]
  | 10 => [.null, .int 0]
  | 11 => [.null, .null, .null, .null, .null, .null, .null, .null, .null, .null, .int 0, .int 0]
  | _ => [.int 0, .null, .int 0, .null, .int 0, .null, .null, .null, .null, .null, .int 0, .int 0, .int 0, .int 0, .int 0, .int 0, .int 0, .int 0, .int 0, .int 0, .int 0, .null, .null, .null, .null, .null, .null, .null, .null, .null, .null, .null, .null, .null, .null, .null, .null, .null, .null, .null, .null, .null, .null, .null, .null, .null, .null, .null, .null, .int 0, .null, .null, .null, .null, .null, .null, .int 0, .null, .null, .null, .int 0, .null, .null, .int 0, .null, .null, .null, .null, .null, .null, .null, .null, .null, .null, .int 0, .null, .int 0, .int 0, .null, .null, .null, .null, .null]
def k_t (xs : Nat → Int32) (L : Nat) : gT := (k_ty, 7, xs, L)
theorem k_CL (xs : Nat → Int32) (L : Nat) : g_CL k_cl (k_t xs L) lw_gd "SleepWork$State" := by
  refine ⟨fun ci q hq => ?_, _, rfl, rfl⟩
  match ci, hq with
  | 0, hq => cases hq; exact ⟨k_in0, k_tyok0, k_nm0⟩
  | 1, hq => cases hq; exact ⟨k_in1, k_tyok1, k_nm1⟩
  | 2, hq => cases hq; exact ⟨k_in2, k_tyok2, k_nm2⟩
  | 3, hq => cases hq; exact ⟨k_in3, k_tyok3, k_nm3⟩
  | 4, hq => cases hq; exact ⟨k_in4, k_tyok4, k_nm4⟩
  | 5, hq => cases hq; exact ⟨k_in5, k_tyok5, k_nm5⟩
  | 6, hq => cases hq; exact ⟨k_in6, k_tyok6, k_nm6⟩
  | 7, hq => cases hq; exact ⟨k_in7, k_tyok7, k_nm7⟩
  | 8, hq => cases hq; exact ⟨k_in8, k_tyok8, k_nm8⟩
  | 9, hq => cases hq; exact ⟨k_in9, k_tyok9, k_nm9⟩
  | 10, hq => cases hq; exact ⟨k_in10, k_tyok10, k_nm10⟩
  | 11, hq => cases hq; exact ⟨k_in11, k_tyok11, k_nm11⟩
  | 12, hq => cases hq; exact ⟨k_in12, k_tyok12, k_nm12⟩
  | n + 13, hq => simp [k_cl] at hq
theorem k_dfok0 : ∀ j, j < 16 → defaultValue (k_ty 0 j) = vp_V (k_df 0) j := by decide +kernel
theorem k_dfok1 : ∀ j, j < 19 → defaultValue (k_ty 1 j) = vp_V (k_df 1) j := by decide +kernel
theorem k_dfok2 : ∀ j, j < 5 → defaultValue (k_ty 2 j) = vp_V (k_df 2) j := by decide +kernel
theorem k_dfok3 : ∀ j, j < 3 → defaultValue (k_ty 3 j) = vp_V (k_df 3) j := by decide +kernel
theorem k_dfok4 : ∀ j, j < 14 → defaultValue (k_ty 4 j) = vp_V (k_df 4) j := by decide +kernel
theorem k_dfok5 : ∀ j, j < 6 → defaultValue (k_ty 5 j) = vp_V (k_df 5) j := by decide +kernel
theorem k_dfok6 : ∀ j, j < 10 → defaultValue (k_ty 6 j) = vp_V (k_df 6) j := by decide +kernel
theorem k_dfok7 : ∀ j, j < 9 → defaultValue (k_ty 7 j) = vp_V (k_df 7) j := by decide +kernel
theorem k_dfok8 : ∀ j, j < 2 → defaultValue (k_ty 8 j) = vp_V (k_df 8) j := by decide +kernel
theorem k_dfok9 : ∀ j, j < 3 → defaultValue (k_ty 9 j) = vp_V (k_df 9) j := by decide +kernel
theorem k_dfok10 : ∀ j, j < 2 → defaultValue (k_ty 10 j) = vp_V (k_df 10) j := by decide +kernel
theorem k_dfok11 : ∀ j, j < 12 → defaultValue (k_ty 11 j) = vp_V (k_df 11) j := by decide +kernel
theorem k_dfok12 : ∀ j, j < 83 → defaultValue (k_ty 12 j) = vp_V (k_df 12) j := by decide +kernel
theorem k_DF (xs : Nat → Int32) (L : Nat) : g_DF k_cl (k_t xs L) k_df := by
  intro ci q hq
  match ci, hq with
  | 0, hq => cases hq; exact ⟨rfl, k_dfok0, fun _ _ => rfl⟩
  | 1, hq => cases hq; exact ⟨rfl, k_dfok1, fun _ _ => rfl⟩
  | 2, hq => cases hq; exact ⟨rfl, k_dfok2, fun _ _ => rfl⟩
  | 3, hq => cases hq; exact ⟨rfl, k_dfok3, fun _ _ => rfl⟩
  | 4, hq => cases hq; exact ⟨rfl, k_dfok4, fun _ _ => rfl⟩
  | 5, hq => cases hq; exact ⟨rfl, k_dfok5, fun _ _ => rfl⟩
  | 6, hq => cases hq; exact ⟨rfl, k_dfok6, fun _ _ => rfl⟩
  | 7, hq => cases hq; exact ⟨rfl, k_dfok7, fun _ _ => rfl⟩
  | 8, hq => cases hq; exact ⟨rfl, k_dfok8, fun _ _ => rfl⟩
  | 9, hq => cases hq; exact ⟨rfl, k_dfok9, fun _ _ => rfl⟩
  | 10, hq => cases hq; exact ⟨rfl, k_dfok10, fun _ _ => rfl⟩
  | 11, hq => cases hq; exact ⟨rfl, k_dfok11, fun _ _ => rfl⟩
  | 12, hq => cases hq; exact ⟨rfl, k_dfok12, fun _ _ => rfl⟩
  | n + 13, hq => simp [k_cl] at hq
def k_tn : Nat → String × Nat × String := fun j => match j with
  | 0 => ("SleepWork$Scanner", 26, "room door tool task step man law night shut with undoes left if then else last done steps minute stuff times ")
  | _ => ("SleepWork$Scanner", 71, ";=+-*/<()")
def k_tb : List (List Int32) := [[114, 111, 111, 109, 32, 100, 111, 111, 114, 32, 116, 111, 111, 108, 32, 116, 97, 115, 107, 32, 115, 116, 101, 112, 32, 109, 97, 110, 32, 108, 97, 119, 32, 110, 105, 103, 104, 116, 32, 115, 104, 117, 116, 32, 119, 105, 116, 104, 32, 117, 110, 100, 111, 101, 115, 32, 108, 101, 102, 116, 32, 105, 102, 32, 116, 104, 101, 110, 32, 101, 108, 115, 101, 32, 108, 97, 115, 116, 32, 100, 111, 110, 101, 32, 115, 116, 101, 112, 115, 32, 109, 105, 110, 117, 116, 101, 32, 115, 116, 117, 102, 102, 32, 116, 105, 109, 101, 115, 32], [59, 61, 43, 45, 42, 47, 60, 40, 41]]
end
section
/-! the tables have the methods' code -/
set_option maxRecDepth 100000 in
theorem k_cw0 : Cond.code ⟨"SleepWork$Evening", "<init>", "(LSleepWork$House;LSleepWork$State;LSleepWork$Told;)V"⟩ prog_2_method_1_code 4 ((Option.none : Option FieldType)) ∈ lw_gd := k_memT (i := 309) rfl rfl
set_option maxRecDepth 100000 in
theorem k_cw1 : Cond.code ⟨"SleepWork$Evening", "enter", "(LSleepWork$House;)V"⟩ prog_2_method_2_code 2 ((Option.none : Option FieldType)) ∈ lw_gd := k_memT (i := 820) rfl rfl
set_option maxRecDepth 100000 in
theorem k_cw2 : Cond.code ⟨"SleepWork$Evening", "setStale", "()V"⟩ prog_2_method_3_code 1 ((Option.none : Option FieldType)) ∈ lw_gd := k_memT (i := 828) rfl rfl
set_option maxRecDepth 100000 in
theorem k_cw3 : Cond.code ⟨"SleepWork$Evening", "minutesBetween", "(II)I"⟩ prog_2_method_4_code 3 ((Option.some FieldType.int)) ∈ lw_gd := k_memT (i := 881) rfl rfl
set_option maxRecDepth 100000 in
theorem k_cw4 : Cond.code ⟨"SleepWork$Evening", "goBy", "()V"⟩ prog_2_method_5_code 1 ((Option.none : Option FieldType)) ∈ lw_gd := k_memT (i := 940) rfl rfl
set_option maxRecDepth 100000 in
theorem k_cw5 : Cond.code ⟨"SleepWork$Evening", "gainAsItIs", "()I"⟩ prog_2_method_6_code 1 ((Option.some FieldType.int)) ∈ lw_gd := k_memT (i := 1002) rfl rfl
set_option maxRecDepth 100000 in
theorem k_cw6 : Cond.code ⟨"SleepWork$Evening", "strokesTill", "(II)I"⟩ prog_2_method_7_code 3 ((Option.some FieldType.int)) ∈ lw_gd := k_memT (i := 1100) rfl rfl
set_option maxRecDepth 100000 in
theorem k_cw7 : Cond.code ⟨"SleepWork$Evening", "gainOfTrial", "()I"⟩ prog_2_method_8_code 1 ((Option.some FieldType.int)) ∈ lw_gd := k_memT (i := 1008) rfl rfl
set_option maxRecDepth 100000 in
theorem k_cw8 : Cond.code ⟨"SleepWork$Evening", "isAnswered", "(III)Z"⟩ prog_2_method_9_code 4 ((Option.some FieldType.boolean)) ∈ lw_gd := k_memT (i := 1020) rfl rfl
set_option maxRecDepth 100000 in
theorem k_cw9 : Cond.code ⟨"SleepWork$Evening", "offer", "(III)V"⟩ prog_2_method_10_code 4 ((Option.none : Option FieldType)) ∈ lw_gd := k_memT (i := 1029) rfl rfl
set_option maxRecDepth 100000 in
theorem k_cw10 : Cond.code ⟨"SleepWork$Evening", "seekForOne", "(I)V"⟩ prog_2_method_11_code 3 ((Option.none : Option FieldType)) ∈ lw_gd := k_memT (i := 1016) rfl rfl
set_option maxRecDepth 100000 in
theorem k_cw11 : Cond.code ⟨"SleepWork$Evening", "seekForTwo", "(II)V"⟩ prog_2_method_12_code 5 ((Option.none : Option FieldType)) ∈ lw_gd := k_memT (i := 1044) rfl rfl
set_option maxRecDepth 100000 in
theorem k_cw12 : Cond.code ⟨"SleepWork$Evening", "seekHidingPlace", "(I)V"⟩ prog_2_method_13_code 4 ((Option.none : Option FieldType)) ∈ lw_gd := k_memT (i := 1057) rfl rfl
set_option maxRecDepth 100000 in
theorem k_cw13 : Cond.code ⟨"SleepWork$Evening", "seekBars", "()V"⟩ prog_2_method_14_code 4 ((Option.none : Option FieldType)) ∈ lw_gd := k_memT (i := 1065) rfl rfl
set_option maxRecDepth 100000 in
theorem k_cw14 : Cond.code ⟨"SleepWork$Evening", "arrivals", "(I)J"⟩ prog_2_method_15_code 8 ((Option.some FieldType.long)) ∈ lw_gd := k_memT (i := 1082) rfl rfl
set_option maxRecDepth 100000 in
theorem k_cw15 : Cond.code ⟨"SleepWork$Evening", "clearSeen", "(I)V"⟩ prog_2_method_16_code 2 ((Option.none : Option FieldType)) ∈ lw_gd := k_memT (i := 1069) rfl rfl
set_option maxRecDepth 100000 in
theorem k_cw16 : Cond.code ⟨"SleepWork$Evening", "isNew", "(J)Z"⟩ prog_2_method_17_code 8 ((Option.some FieldType.boolean)) ∈ lw_gd := k_memT (i := 1087) rfl rfl
set_option maxRecDepth 100000 in
theorem k_cw17 : Cond.code ⟨"SleepWork$Evening", "seekFits", "(II)V"⟩ prog_2_method_18_code 4 ((Option.none : Option FieldType)) ∈ lw_gd := k_memT (i := 1128) rfl rfl
set_option maxRecDepth 100000 in
theorem k_cw18 : Cond.code ⟨"SleepWork$Evening", "suspectBits", "(I)I"⟩ prog_2_method_19_code 4 ((Option.some FieldType.int)) ∈ lw_gd := k_memT (i := 1140) rfl rfl
set_option maxRecDepth 100000 in
theorem k_cw19 : Cond.code ⟨"SleepWork$Evening", "isSuspect", "(II)Z"⟩ prog_2_method_20_code 4 ((Option.some FieldType.boolean)) ∈ lw_gd := k_memT (i := 1144) rfl rfl
set_option maxRecDepth 100000 in
theorem k_cw20 : Cond.code ⟨"SleepWork$Evening", "fittingPairs", "(III)I"⟩ prog_2_method_21_code 7 ((Option.some FieldType.int)) ∈ lw_gd := k_memT (i := 1152) rfl rfl
set_option maxRecDepth 100000 in
theorem k_cw21 : Cond.code ⟨"SleepWork$House", "<init>", "()V"⟩ prog_3_method_1_code 1 ((Option.none : Option FieldType)) ∈ lw_gd := k_memT (i := 159) rfl rfl
set_option maxRecDepth 100000 in
theorem k_cw22 : Cond.code ⟨"SleepWork$House", "clear", "()V"⟩ prog_3_method_2_code 1 ((Option.none : Option FieldType)) ∈ lw_gd := k_memT (i := 188) rfl rfl
set_option maxRecDepth 100000 in
theorem k_cw23 : Cond.code ⟨"SleepWork$House", "hasStep", "(II)Z"⟩ prog_3_method_3_code 3 ((Option.some FieldType.boolean)) ∈ lw_gd := k_memT (i := 853) rfl rfl
set_option maxRecDepth 100000 in
theorem k_cw24 : Cond.code ⟨"SleepWork$House", "mayBeLeft", "(I)Z"⟩ prog_3_method_4_code 2 ((Option.some FieldType.boolean)) ∈ lw_gd := k_memT (i := 1025) rfl rfl
set_option maxRecDepth 100000 in
theorem k_cw25 : Cond.code ⟨"SleepWork$House", "isEnded", "(LSleepWork$State;I)Z"⟩ prog_3_method_5_code 5 ((Option.some FieldType.boolean)) ∈ lw_gd := k_memT (i := 845) rfl rfl
set_option maxRecDepth 100000 in
theorem k_cw26 : Cond.code ⟨"SleepWork$House", "worth", "(LSleepWork$State;I)I"⟩ prog_3_method_6_code 7 ((Option.some FieldType.int)) ∈ lw_gd := k_memT (i := 840) rfl rfl
set_option maxRecDepth 100000 in
theorem k_cw27 : Cond.code ⟨"SleepWork$House", "worthOfAll", "(LSleepWork$State;)I"⟩ prog_3_method_7_code 4 ((Option.some FieldType.int)) ∈ lw_gd := k_memT (i := 935) rfl rfl
set_option maxRecDepth 100000 in
theorem k_cw28 : Cond.code ⟨"SleepWork$House", "finish", "(LSleepWork$State;II)V"⟩ prog_3_method_8_code 6 ((Option.none : Option FieldType)) ∈ lw_gd := k_memT (i := 910) rfl rfl
set_option maxRecDepth 100000 in
theorem k_cw29 : Cond.code ⟨"SleepWork$Laws", "<init>", "()V"⟩ prog_4_method_1_code 1 ((Option.none : Option FieldType)) ∈ lw_gd := k_memT (i := 165) rfl rfl
set_option maxRecDepth 100000 in
theorem k_cw30 : Cond.code ⟨"SleepWork$Laws", "clear", "()V"⟩ prog_4_method_2_code 1 ((Option.none : Option FieldType)) ∈ lw_gd := k_memT (i := 193) rfl rfl
set_option maxRecDepth 100000 in
theorem k_cw31 : Cond.code ⟨"SleepWork$Laws", "add", "(II)I"⟩ prog_4_method_3_code 3 ((Option.some FieldType.int)) ∈ lw_gd := k_memT (i := 785) rfl rfl
set_option maxRecDepth 100000 in
theorem k_cw32 : Cond.code ⟨"SleepWork$Laws", "aimHere", "(I)V"⟩ prog_4_method_4_code 2 ((Option.none : Option FieldType)) ∈ lw_gd := k_memT (i := 797) rfl rfl
set_option maxRecDepth 100000 in
theorem k_cw33 : Cond.code ⟨"SleepWork$Laws", "tellsTo", "(I[I)I"⟩ prog_4_method_5_code 8 ((Option.some FieldType.int)) ∈ lw_gd := k_memT (i := 978) rfl rfl
set_option maxRecDepth 100000 in
theorem k_cw34 : Cond.code ⟨"SleepWork$Laws", "joined", "(III)I"⟩ prog_4_method_6_code 3 ((Option.some FieldType.int)) ∈ lw_gd := k_memT (i := 981) rfl rfl
set_option maxRecDepth 100000 in
theorem k_cw35 : Cond.code ⟨"SleepWork$Past", "<init>", "()V"⟩ prog_5_method_1_code 2 ((Option.none : Option FieldType)) ∈ lw_gd := k_memT (i := 122) rfl rfl
set_option maxRecDepth 100000 in
theorem k_cw36 : Cond.code ⟨"SleepWork$Past", "push", "(LSleepWork$State;)V"⟩ prog_5_method_2_code 2 ((Option.none : Option FieldType)) ∈ lw_gd := k_memT (i := 930) rfl rfl
set_option maxRecDepth 100000 in
theorem k_cw37 : Cond.code ⟨"SleepWork$Past", "pull", "(LSleepWork$State;)Z"⟩ prog_5_method_3_code 2 ((Option.some FieldType.boolean)) ∈ lw_gd := k_memT (i := 994) rfl rfl
set_option maxRecDepth 100000 in
theorem k_cw38 : Cond.code ⟨"SleepWork$Reader", "<init>", "(LSleepWork$House;LSleepWork$State;)V"⟩ prog_6_method_1_code 3 ((Option.none : Option FieldType)) ∈ lw_gd := k_memT (i := 424) rfl rfl
set_option maxRecDepth 100000 in
theorem k_cw39 : Cond.code ⟨"SleepWork$Reader", "readText", "(LSleepWork$Tape;LSleepWork$House;LSleepWork$State;)I"⟩ prog_6_method_2_code 5 ((Option.some FieldType.int)) ∈ lw_gd := k_memT (i := 607) rfl rfl
set_option maxRecDepth 100000 in
theorem k_cw40 : Cond.code ⟨"SleepWork$Reader", "placeOfFault", "()I"⟩ prog_6_method_3_code 1 ((Option.some FieldType.int)) ∈ lw_gd := k_memT (i := 805) rfl rfl
set_option maxRecDepth 100000 in
theorem k_cw41 : Cond.code ⟨"SleepWork$Reader", "open", "(LSleepWork$Tape;LSleepWork$House;LSleepWork$State;)V"⟩ prog_6_method_4_code 4 ((Option.none : Option FieldType)) ∈ lw_gd := k_memT (i := 611) rfl rfl
set_option maxRecDepth 100000 in
theorem k_cw42 : Cond.code ⟨"SleepWork$Reader", "fail", "(II)V"⟩ prog_6_method_5_code 3 ((Option.none : Option FieldType)) ∈ lw_gd := k_memT (i := 714) rfl rfl
set_option maxRecDepth 100000 in
theorem k_cw43 : Cond.code ⟨"SleepWork$Reader", "failLate", "(I)V"⟩ prog_6_method_6_code 2 ((Option.none : Option FieldType)) ∈ lw_gd := k_memT (i := 729) rfl rfl
set_option maxRecDepth 100000 in
theorem k_cw44 : Cond.code ⟨"SleepWork$Reader", "isNext", "(I)Z"⟩ prog_6_method_7_code 2 ((Option.some FieldType.boolean)) ∈ lw_gd := k_memT (i := 702) rfl rfl
set_option maxRecDepth 100000 in
theorem k_cw45 : Cond.code ⟨"SleepWork$Reader", "take", "(I)Z"⟩ prog_6_method_8_code 2 ((Option.some FieldType.boolean)) ∈ lw_gd := k_memT (i := 718) rfl rfl
set_option maxRecDepth 100000 in
theorem k_cw46 : Cond.code ⟨"SleepWork$Reader", "takeFirst", "(III)V"⟩ prog_6_method_9_code 4 ((Option.none : Option FieldType)) ∈ lw_gd := k_memT (i := 710) rfl rfl
set_option maxRecDepth 100000 in
theorem k_cw47 : Cond.code ⟨"SleepWork$Reader", "takeNewName", "([JI)V"⟩ prog_6_method_10_code 5 ((Option.none : Option FieldType)) ∈ lw_gd := k_memT (i := 722) rfl rfl
set_option maxRecDepth 100000 in
theorem k_cw48 : Cond.code ⟨"SleepWork$Reader", "takeKnownName", "([JI)I"⟩ prog_6_method_11_code 4 ((Option.some FieldType.int)) ∈ lw_gd := k_memT (i := 737) rfl rfl
set_option maxRecDepth 100000 in
theorem k_cw49 : Cond.code ⟨"SleepWork$Reader", "find", "(J[JI)I"⟩ prog_6_method_12_code 5 ((Option.some FieldType.int)) ∈ lw_gd := k_memT (i := 725) rfl rfl
set_option maxRecDepth 100000 in
theorem k_cw50 : Cond.code ⟨"SleepWork$Reader", "takeNumber", "(II)I"⟩ prog_6_method_13_code 4 ((Option.some FieldType.int)) ∈ lw_gd := k_memT (i := 741) rfl rfl
set_option maxRecDepth 100000 in
theorem k_cw51 : Cond.code ⟨"SleepWork$Reader", "takeStepNumber", "(I)I"⟩ prog_6_method_14_code 2 ((Option.some FieldType.int)) ∈ lw_gd := k_memT (i := 761) rfl rfl
set_option maxRecDepth 100000 in
theorem k_cw52 : Cond.code ⟨"SleepWork$Reader", "readRoom", "()V"⟩ prog_6_method_15_code 1 ((Option.none : Option FieldType)) ∈ lw_gd := k_memT (i := 706) rfl rfl
set_option maxRecDepth 100000 in
theorem k_cw53 : Cond.code ⟨"SleepWork$Reader", "readDoor", "()V"⟩ prog_6_method_16_code 6 ((Option.none : Option FieldType)) ∈ lw_gd := k_memT (i := 733) rfl rfl
set_option maxRecDepth 100000 in
theorem k_cw54 : Cond.code ⟨"SleepWork$Reader", "readTool", "()V"⟩ prog_6_method_17_code 2 ((Option.none : Option FieldType)) ∈ lw_gd := k_memT (i := 745) rfl rfl
set_option maxRecDepth 100000 in
theorem k_cw55 : Cond.code ⟨"SleepWork$Reader", "readTask", "()V"⟩ prog_6_method_18_code 3 ((Option.none : Option FieldType)) ∈ lw_gd := k_memT (i := 749) rfl rfl
set_option maxRecDepth 100000 in
theorem k_cw56 : Cond.code ⟨"SleepWork$Reader", "readStep", "()V"⟩ prog_6_method_19_code 9 ((Option.none : Option FieldType)) ∈ lw_gd := k_memT (i := 753) rfl rfl
set_option maxRecDepth 100000 in
theorem k_cw57 : Cond.code ⟨"SleepWork$Reader", "takeTaskOfStep", "()I"⟩ prog_6_method_20_code 3 ((Option.some FieldType.int)) ∈ lw_gd := k_memT (i := 757) rfl rfl
set_option maxRecDepth 100000 in
theorem k_cw58 : Cond.code ⟨"SleepWork$Reader", "readMan", "()V"⟩ prog_6_method_21_code 4 ((Option.none : Option FieldType)) ∈ lw_gd := k_memT (i := 765) rfl rfl
set_option maxRecDepth 100000 in
theorem k_cw59 : Cond.code ⟨"SleepWork$Reader", "readNight", "()V"⟩ prog_6_method_22_code 1 ((Option.none : Option FieldType)) ∈ lw_gd := k_memT (i := 801) rfl rfl
set_option maxRecDepth 100000 in
theorem k_cw60 : Cond.code ⟨"SleepWork$Reader", "readLaw", "()V"⟩ prog_6_method_23_code 4 ((Option.none : Option FieldType)) ∈ lw_gd := k_memT (i := 769) rfl rfl
set_option maxRecDepth 100000 in
theorem k_cw61 : Cond.code ⟨"SleepWork$Reader", "readIf", "()V"⟩ prog_6_method_24_code 2 ((Option.none : Option FieldType)) ∈ lw_gd := k_memT (i := 773) rfl rfl
set_option maxRecDepth 100000 in
theorem k_cw62 : Cond.code ⟨"SleepWork$Reader", "readSum", "(I)V"⟩ prog_6_method_25_code 6 ((Option.none : Option FieldType)) ∈ lw_gd := k_memT (i := 777) rfl rfl
set_option maxRecDepth 100000 in
theorem k_cw63 : Cond.code ⟨"SleepWork$Reader", "addSign", "(I)V"⟩ prog_6_method_26_code 2 ((Option.none : Option FieldType)) ∈ lw_gd := k_memT (i := 789) rfl rfl
set_option maxRecDepth 100000 in
theorem k_cw64 : Cond.code ⟨"SleepWork$Reader", "takeEither", "(II)I"⟩ prog_6_method_27_code 3 ((Option.some FieldType.int)) ∈ lw_gd := k_memT (i := 793) rfl rfl
set_option maxRecDepth 100000 in
theorem k_cw65 : Cond.code ⟨"SleepWork$Reader", "readUnit", "(I)V"⟩ prog_6_method_28_code 3 ((Option.none : Option FieldType)) ∈ lw_gd := k_memT (i := 781) rfl rfl
set_option maxRecDepth 100000 in
theorem k_cw66 : Cond.code ⟨"SleepWork$Scanner", "<init>", "()V"⟩ prog_7_method_1_code 3 ((Option.none : Option FieldType)) ∈ lw_gd := k_memT (i := 430) rfl rfl
set_option maxRecDepth 100000 in
theorem k_cw67 : Cond.code ⟨"SleepWork$Scanner", "scanAll", "(LSleepWork$Tape;)V"⟩ prog_7_method_2_code 4 ((Option.none : Option FieldType)) ∈ lw_gd := k_memT (i := 617) rfl rfl
set_option maxRecDepth 100000 in
theorem k_cw68 : Cond.code ⟨"SleepWork$Scanner", "scanNext", "(ILSleepWork$Tape;)V"⟩ prog_7_method_3_code 4 ((Option.none : Option FieldType)) ∈ lw_gd := k_memT (i := 621) rfl rfl
set_option maxRecDepth 100000 in
theorem k_cw69 : Cond.code ⟨"SleepWork$Scanner", "scanLetters", "(ILSleepWork$Tape;)V"⟩ prog_7_method_4_code 7 ((Option.none : Option FieldType)) ∈ lw_gd := k_memT (i := 631) rfl rfl
set_option maxRecDepth 100000 in
theorem k_cw70 : Cond.code ⟨"SleepWork$Scanner", "scanDigits", "(ILSleepWork$Tape;)V"⟩ prog_7_method_5_code 4 ((Option.none : Option FieldType)) ∈ lw_gd := k_memT (i := 638) rfl rfl
set_option maxRecDepth 100000 in
theorem k_cw71 : Cond.code ⟨"SleepWork$Scanner", "isBlank", "(I)Z"⟩ prog_7_method_6_code 1 ((Option.some FieldType.boolean)) ∈ lw_gd := k_memT (i := 624) rfl rfl
set_option maxRecDepth 100000 in
theorem k_cw72 : Cond.code ⟨"SleepWork$Scanner", "isLetter", "(I)Z"⟩ prog_7_method_7_code 1 ((Option.some FieldType.boolean)) ∈ lw_gd := k_memT (i := 627) rfl rfl
set_option maxRecDepth 100000 in
theorem k_cw73 : Cond.code ⟨"SleepWork$Scanner", "isDigit", "(I)Z"⟩ prog_7_method_8_code 1 ((Option.some FieldType.boolean)) ∈ lw_gd := k_memT (i := 634) rfl rfl
set_option maxRecDepth 100000 in
theorem k_cw74 : Cond.code ⟨"SleepWork$Sleep", "<init>", "(LSleepWork$House;LSleepWork$State;)V"⟩ prog_8_method_1_code 3 ((Option.none : Option FieldType)) ∈ lw_gd := k_memT (i := 317) rfl rfl
set_option maxRecDepth 100000 in
theorem k_cw75 : Cond.code ⟨"SleepWork$Sleep", "goTill", "(ILSleepWork$House;LSleepWork$State;)V"⟩ prog_8_method_2_code 7 ((Option.none : Option FieldType)) ∈ lw_gd := k_memT (i := 944) rfl rfl
set_option maxRecDepth 100000 in
theorem k_cw76 : Cond.code ⟨"SleepWork$Sleep", "getUp", "()V"⟩ prog_8_method_3_code 4 ((Option.none : Option FieldType)) ∈ lw_gd := k_memT (i := 949) rfl rfl
set_option maxRecDepth 100000 in
theorem k_cw77 : Cond.code ⟨"SleepWork$Sleep", "nextMinute", "()I"⟩ prog_8_method_4_code 3 ((Option.some FieldType.int)) ∈ lw_gd := k_memT (i := 955) rfl rfl
set_option maxRecDepth 100000 in
theorem k_cw78 : Cond.code ⟨"SleepWork$Sleep", "finishAll", "(I)V"⟩ prog_8_method_5_code 6 ((Option.none : Option FieldType)) ∈ lw_gd := k_memT (i := 960) rfl rfl
set_option maxRecDepth 100000 in
theorem k_cw79 : Cond.code ⟨"SleepWork$Sleep", "begin", "(II)V"⟩ prog_8_method_6_code 8 ((Option.none : Option FieldType)) ∈ lw_gd := k_memT (i := 965) rfl rfl
set_option maxRecDepth 100000 in
theorem k_cw80 : Cond.code ⟨"SleepWork$Sleep", "lieDown", "(II)V"⟩ prog_8_method_7_code 3 ((Option.none : Option FieldType)) ∈ lw_gd := k_memT (i := 970) rfl rfl
set_option maxRecDepth 100000 in
theorem k_cw81 : Cond.code ⟨"SleepWork$Sleep", "chosenStep", "(III)I"⟩ prog_8_method_8_code 5 ((Option.some FieldType.int)) ∈ lw_gd := k_memT (i := 974) rfl rfl
set_option maxRecDepth 100000 in
theorem k_cw82 : Cond.code ⟨"SleepWork$Sleep", "wakeUp", "()V"⟩ prog_8_method_9_code 4 ((Option.none : Option FieldType)) ∈ lw_gd := k_memT (i := 986) rfl rfl
set_option maxRecDepth 100000 in
theorem k_cw83 : Cond.code ⟨"SleepWork$State", "<init>", "()V"⟩ prog_9_method_1_code 1 ((Option.none : Option FieldType)) ∈ lw_gd := k_memT (i := 52) rfl rfl
set_option maxRecDepth 100000 in
theorem k_cw84 : Cond.code ⟨"SleepWork$State", "clear", "()V"⟩ prog_9_method_2_code 1 ((Option.none : Option FieldType)) ∈ lw_gd := k_memT (i := 57) rfl rfl
set_option maxRecDepth 100000 in
theorem k_cw85 : Cond.code ⟨"SleepWork$State", "copy", "(LSleepWork$State;)V"⟩ prog_9_method_3_code 2 ((Option.none : Option FieldType)) ∈ lw_gd := k_memT (i := 813) rfl rfl
set_option maxRecDepth 100000 in
theorem k_cw86 : Cond.code ⟨"SleepWork$Tape", "<init>", "()V"⟩ prog_10_method_1_code 1 ((Option.none : Option FieldType)) ∈ lw_gd := k_memT (i := 35) rfl rfl
set_option maxRecDepth 100000 in
theorem k_cw87 : Cond.code ⟨"SleepWork$Tape", "hasSpace", "()Z"⟩ prog_10_method_2_code 1 ((Option.some FieldType.boolean)) ∈ lw_gd := k_memT (i := 591) rfl rfl
set_option maxRecDepth 100000 in
theorem k_cw88 : Cond.code ⟨"SleepWork$Tape", "addWord", "(I)V"⟩ prog_10_method_3_code 3 ((Option.none : Option FieldType)) ∈ lw_gd := k_memT (i := 595) rfl rfl
set_option maxRecDepth 100000 in
theorem k_cw89 : Cond.code ⟨"SleepWork$Told", "<init>", "()V"⟩ prog_11_method_1_code 1 ((Option.none : Option FieldType)) ∈ lw_gd := k_memT (i := 142) rfl rfl
set_option maxRecDepth 100000 in
theorem k_cw90 : Cond.code ⟨"SleepWork$Told", "isFull", "()Z"⟩ prog_11_method_2_code 1 ((Option.some FieldType.boolean)) ∈ lw_gd := k_memT (i := 1108) rfl rfl
set_option maxRecDepth 100000 in
theorem k_cw91 : Cond.code ⟨"SleepWork$Told", "add", "(II)I"⟩ prog_11_method_3_code 3 ((Option.some FieldType.int)) ∈ lw_gd := k_memT (i := 1112) rfl rfl
set_option maxRecDepth 100000 in
theorem k_cw92 : Cond.code ⟨"SleepWork$Told", "isSoIn", "(LSleepWork$State;I)Z"⟩ prog_11_method_4_code 4 ((Option.some FieldType.boolean)) ∈ lw_gd := k_memT (i := 1132) rfl rfl
set_option maxRecDepth 100000 in
theorem k_cw93 : Cond.code ⟨"SleepWork$Ways", "<init>", "()V"⟩ prog_12_method_1_code 1 ((Option.none : Option FieldType)) ∈ lw_gd := k_memT (i := 323) rfl rfl
set_option maxRecDepth 100000 in
theorem k_cw94 : Cond.code ⟨"SleepWork$Ways", "drop", "()V"⟩ prog_12_method_2_code 1 ((Option.none : Option FieldType)) ∈ lw_gd := k_memT (i := 824) rfl rfl
set_option maxRecDepth 100000 in
theorem k_cw95 : Cond.code ⟨"SleepWork$Ways", "between", "(LSleepWork$House;III)I"⟩ prog_12_method_3_code 5 ((Option.some FieldType.int)) ∈ lw_gd := k_memT (i := 885) rfl rfl
set_option maxRecDepth 100000 in
theorem k_cw96 : Cond.code ⟨"SleepWork$Ways", "takeDoors", "(LSleepWork$House;I)V"⟩ prog_12_method_4_code 7 ((Option.none : Option FieldType)) ∈ lw_gd := k_memT (i := 889) rfl rfl
set_option maxRecDepth 100000 in
theorem k_cw97 : Cond.code ⟨"SleepWork$Ways", "joinWays", "(I)V"⟩ prog_12_method_5_code 7 ((Option.none : Option FieldType)) ∈ lw_gd := k_memT (i := 896) rfl rfl
set_option maxRecDepth 100000 in
theorem k_cw98 : Cond.code ⟨"SleepWork", "<init>", "()V"⟩ prog_1_method_1_code 2 ((Option.none : Option FieldType)) ∈ lw_gd := k_memT (i := 27) rfl rfl
set_option maxRecDepth 100000 in
theorem k_cw99 : Cond.code ⟨"SleepWork", "feed", "(IIIII)I"⟩ prog_1_method_2_code 6 ((Option.some FieldType.int)) ∈ lw_gd := k_memT (i := 587) rfl rfl
set_option maxRecDepth 100000 in
theorem k_cw100 : Cond.code ⟨"SleepWork", "back", "(I)I"⟩ prog_1_method_3_code 2 ((Option.some FieldType.int)) ∈ lw_gd := k_memT (i := 599) rfl rfl
set_option maxRecDepth 100000 in
theorem k_cw101 : Cond.code ⟨"SleepWork", "read", "()I"⟩ prog_1_method_4_code 2 ((Option.some FieldType.int)) ∈ lw_gd := k_memT (i := 603) rfl rfl
set_option maxRecDepth 100000 in
theorem k_cw102 : Cond.code ⟨"SleepWork", "moveIn", "()V"⟩ prog_1_method_5_code 2 ((Option.none : Option FieldType)) ∈ lw_gd := k_memT (i := 809) rfl rfl
set_option maxRecDepth 100000 in
theorem k_cw103 : Cond.code ⟨"SleepWork", "place", "()I"⟩ prog_1_method_6_code 1 ((Option.some FieldType.int)) ∈ lw_gd := k_memT (i := 832) rfl rfl
set_option maxRecDepth 100000 in
theorem k_cw104 : Cond.code ⟨"SleepWork", "task", "(II)I"⟩ prog_1_method_7_code 3 ((Option.some FieldType.int)) ∈ lw_gd := k_memT (i := 836) rfl rfl
set_option maxRecDepth 100000 in
theorem k_cw105 : Cond.code ⟨"SleepWork", "step", "(III)I"⟩ prog_1_method_8_code 5 ((Option.some FieldType.int)) ∈ lw_gd := k_memT (i := 849) rfl rfl
set_option maxRecDepth 100000 in
theorem k_cw106 : Cond.code ⟨"SleepWork", "man", "(II)I"⟩ prog_1_method_9_code 4 ((Option.some FieldType.int)) ∈ lw_gd := k_memT (i := 857) rfl rfl
set_option maxRecDepth 100000 in
theorem k_cw107 : Cond.code ⟨"SleepWork", "isMan", "(I)Z"⟩ prog_1_method_10_code 2 ((Option.some FieldType.boolean)) ∈ lw_gd := k_memT (i := 861) rfl rfl
set_option maxRecDepth 100000 in
theorem k_cw108 : Cond.code ⟨"SleepWork", "isTool", "(I)Z"⟩ prog_1_method_11_code 2 ((Option.some FieldType.boolean)) ∈ lw_gd := k_memT (i := 869) rfl rfl
set_option maxRecDepth 100000 in
theorem k_cw109 : Cond.code ⟨"SleepWork", "isRoom", "(I)Z"⟩ prog_1_method_12_code 2 ((Option.some FieldType.boolean)) ∈ lw_gd := k_memT (i := 877) rfl rfl
set_option maxRecDepth 100000 in
theorem k_cw110 : Cond.code ⟨"SleepWork", "areTwoMen", "(II)Z"⟩ prog_1_method_13_code 3 ((Option.some FieldType.boolean)) ∈ lw_gd := k_memT (i := 1040) rfl rfl
set_option maxRecDepth 100000 in
theorem k_cw111 : Cond.code ⟨"SleepWork", "isKnownBy", "(I)Z"⟩ prog_1_method_14_code 2 ((Option.some FieldType.boolean)) ∈ lw_gd := k_memT (i := 1124) rfl rfl
set_option maxRecDepth 100000 in
theorem k_cw112 : Cond.code ⟨"SleepWork", "tool", "(I)I"⟩ prog_1_method_15_code 2 ((Option.some FieldType.int)) ∈ lw_gd := k_memT (i := 865) rfl rfl
set_option maxRecDepth 100000 in
theorem k_cw113 : Cond.code ⟨"SleepWork", "way", "(II)I"⟩ prog_1_method_16_code 4 ((Option.some FieldType.int)) ∈ lw_gd := k_memT (i := 873) rfl rfl
set_option maxRecDepth 100000 in
theorem k_cw114 : Cond.code ⟨"SleepWork", "leave", "(III)Z"⟩ prog_1_method_17_code 5 ((Option.some FieldType.boolean)) ∈ lw_gd := k_memT (i := 901) rfl rfl
set_option maxRecDepth 100000 in
theorem k_cw115 : Cond.code ⟨"SleepWork", "work", "(II)Z"⟩ prog_1_method_18_code 3 ((Option.some FieldType.boolean)) ∈ lw_gd := k_memT (i := 906) rfl rfl
set_option maxRecDepth 100000 in
theorem k_cw116 : Cond.code ⟨"SleepWork", "lay", "(II)Z"⟩ prog_1_method_19_code 3 ((Option.some FieldType.boolean)) ∈ lw_gd := k_memT (i := 914) rfl rfl
set_option maxRecDepth 100000 in
theorem k_cw117 : Cond.code ⟨"SleepWork", "give", "(II)Z"⟩ prog_1_method_20_code 3 ((Option.some FieldType.boolean)) ∈ lw_gd := k_memT (i := 918) rfl rfl
set_option maxRecDepth 100000 in
theorem k_cw118 : Cond.code ⟨"SleepWork", "bar", "(IZ)Z"⟩ prog_1_method_21_code 3 ((Option.some FieldType.boolean)) ∈ lw_gd := k_memT (i := 922) rfl rfl
set_option maxRecDepth 100000 in
theorem k_cw119 : Cond.code ⟨"SleepWork", "night", "()I"⟩ prog_1_method_22_code 2 ((Option.some FieldType.int)) ∈ lw_gd := k_memT (i := 926) rfl rfl
set_option maxRecDepth 100000 in
theorem k_cw120 : Cond.code ⟨"SleepWork", "undo", "()Z"⟩ prog_1_method_23_code 1 ((Option.some FieldType.boolean)) ∈ lw_gd := k_memT (i := 990) rfl rfl
set_option maxRecDepth 100000 in
theorem k_cw121 : Cond.code ⟨"SleepWork", "gain", "()I"⟩ prog_1_method_24_code 1 ((Option.some FieldType.int)) ∈ lw_gd := k_memT (i := 998) rfl rfl
set_option maxRecDepth 100000 in
theorem k_cw122 : Cond.code ⟨"SleepWork", "best", "(II)I"⟩ prog_1_method_25_code 3 ((Option.some FieldType.int)) ∈ lw_gd := k_memT (i := 1012) rfl rfl
set_option maxRecDepth 100000 in
theorem k_cw123 : Cond.code ⟨"SleepWork", "bestOfTwo", "(III)I"⟩ prog_1_method_26_code 4 ((Option.some FieldType.int)) ∈ lw_gd := k_memT (i := 1036) rfl rfl
set_option maxRecDepth 100000 in
theorem k_cw124 : Cond.code ⟨"SleepWork", "codeOf", "(I)I"⟩ prog_1_method_27_code 1 ((Option.some FieldType.int)) ∈ lw_gd := k_memT (i := 1032) rfl rfl
set_option maxRecDepth 100000 in
theorem k_cw125 : Cond.code ⟨"SleepWork", "hire", "(I)I"⟩ prog_1_method_28_code 2 ((Option.some FieldType.int)) ∈ lw_gd := k_memT (i := 1048) rfl rfl
set_option maxRecDepth 100000 in
theorem k_cw126 : Cond.code ⟨"SleepWork", "hide", "(II)I"⟩ prog_1_method_29_code 3 ((Option.some FieldType.int)) ∈ lw_gd := k_memT (i := 1053) rfl rfl
set_option maxRecDepth 100000 in
theorem k_cw127 : Cond.code ⟨"SleepWork", "bars", "(I)I"⟩ prog_1_method_30_code 2 ((Option.some FieldType.int)) ∈ lw_gd := k_memT (i := 1061) rfl rfl
set_option maxRecDepth 100000 in
theorem k_cw128 : Cond.code ⟨"SleepWork", "where", "(II)I"⟩ prog_1_method_31_code 6 ((Option.some FieldType.int)) ∈ lw_gd := k_memT (i := 1092) rfl rfl
set_option maxRecDepth 100000 in
theorem k_cw129 : Cond.code ⟨"SleepWork", "strokes", "(II)I"⟩ prog_1_method_32_code 3 ((Option.some FieldType.int)) ∈ lw_gd := k_memT (i := 1096) rfl rfl
set_option maxRecDepth 100000 in
theorem k_cw130 : Cond.code ⟨"SleepWork", "tell", "(III)I"⟩ prog_1_method_33_code 4 ((Option.some FieldType.int)) ∈ lw_gd := k_memT (i := 1104) rfl rfl
set_option maxRecDepth 100000 in
theorem k_cw131 : Cond.code ⟨"SleepWork", "forget", "()I"⟩ prog_1_method_34_code 2 ((Option.some FieldType.int)) ∈ lw_gd := k_memT (i := 1116) rfl rfl
set_option maxRecDepth 100000 in
theorem k_cw132 : Cond.code ⟨"SleepWork", "fits", "(III)I"⟩ prog_1_method_35_code 4 ((Option.some FieldType.int)) ∈ lw_gd := k_memT (i := 1120) rfl rfl
set_option maxRecDepth 100000 in
theorem k_cw133 : Cond.code ⟨"SleepWork", "suspects", "(I)I"⟩ prog_1_method_36_code 2 ((Option.some FieldType.int)) ∈ lw_gd := k_memT (i := 1136) rfl rfl
set_option maxRecDepth 100000 in
theorem k_cw134 : Cond.code ⟨"SleepWork", "pairs", "(III)I"⟩ prog_1_method_37_code 4 ((Option.some FieldType.int)) ∈ lw_gd := k_memT (i := 1148) rfl rfl
set_option maxRecDepth 100000 in
theorem k_cw135 : Cond.code ⟨"SleepWork", "hold", "(I)Z"⟩ prog_1_method_38_code 2 ((Option.some FieldType.boolean)) ∈ lw_gd := k_memT (i := 1156) rfl rfl
set_option maxRecDepth 100000 in
theorem k_cw136 : Cond.code ⟨"SleepWork", "restore", "(I)Z"⟩ prog_1_method_39_code 2 ((Option.some FieldType.boolean)) ∈ lw_gd := k_memT (i := 1160) rfl rfl
set_option maxRecDepth 100000 in
theorem k_cw137 : Cond.code ⟨"SleepWork", "count", "(I)I"⟩ prog_1_method_40_code 2 ((Option.some FieldType.int)) ∈ lw_gd := k_memT (i := 1164) rfl rfl
set_option maxRecDepth 100000 in
theorem k_cw138 : Cond.code ⟨"SleepWorkModel", "<init>", "()V"⟩ prog_14_method_2_code 1 ((Option.none : Option FieldType)) ∈ lw_gd := k_memT (i := 1170) rfl rfl
set_option maxRecDepth 100000 in
theorem k_cw139 : Cond.code ⟨"SleepWorkModel", "feed", "(IIIII)I"⟩ prog_14_method_3_code 6 ((Option.some FieldType.int)) ∈ lw_gd := k_memT (i := 1432) rfl rfl
set_option maxRecDepth 100000 in
theorem k_cw140 : Cond.code ⟨"SleepWorkModel", "put", "(I)V"⟩ prog_14_method_4_code 3 ((Option.none : Option FieldType)) ∈ lw_gd := k_memT (i := 1436) rfl rfl
set_option maxRecDepth 100000 in
theorem k_cw141 : Cond.code ⟨"SleepWorkModel", "back", "(I)I"⟩ prog_14_method_5_code 2 ((Option.some FieldType.int)) ∈ lw_gd := k_memT (i := 1440) rfl rfl
set_option maxRecDepth 100000 in
theorem k_cw142 : Cond.code ⟨"SleepWorkModel", "byteAt", "(I)I"⟩ prog_14_method_6_code 2 ((Option.some FieldType.int)) ∈ lw_gd := k_memT (i := 1452) rfl rfl
set_option maxRecDepth 100000 in
theorem k_cw143 : Cond.code ⟨"SleepWorkModel", "isDigit", "(I)Z"⟩ prog_14_method_7_code 1 ((Option.some FieldType.boolean)) ∈ lw_gd := k_memT (i := 1462) rfl rfl
set_option maxRecDepth 100000 in
theorem k_cw144 : Cond.code ⟨"SleepWorkModel", "isLetter", "(I)Z"⟩ prog_14_method_8_code 1 ((Option.some FieldType.boolean)) ∈ lw_gd := k_memT (i := 1459) rfl rfl
set_option maxRecDepth 100000 in
theorem k_cw145 : Cond.code ⟨"SleepWorkModel", "appends", "(JI)J"⟩ prog_14_method_9_code 3 ((Option.some FieldType.long)) ∈ lw_gd := k_memT (i := 1177) rfl rfl
set_option maxRecDepth 100000 in
theorem k_cw146 : Cond.code ⟨"SleepWorkModel", "word", "(IIIIIII)J"⟩ prog_14_method_10_code 7 ((Option.some FieldType.long)) ∈ lw_gd := k_memT (i := 1174) rfl rfl
set_option maxRecDepth 100000 in
theorem k_cw147 : Cond.code ⟨"SleepWorkModel", "token", "(IIIJ)V"⟩ prog_14_method_11_code 6 ((Option.none : Option FieldType)) ∈ lw_gd := k_memT (i := 1456) rfl rfl
set_option maxRecDepth 100000 in
theorem k_cw148 : Cond.code ⟨"SleepWorkModel", "cut", "()V"⟩ prog_14_method_12_code 8 ((Option.none : Option FieldType)) ∈ lw_gd := k_memT (i := 1448) rfl rfl
set_option maxRecDepth 100000 in
theorem k_cw149 : Cond.code ⟨"SleepWorkModel", "sign", "(III)I"⟩ prog_14_method_13_code 5 ((Option.some FieldType.int)) ∈ lw_gd := k_memT (i := 1466) rfl rfl
set_option maxRecDepth 100000 in
theorem k_cw150 : Cond.code ⟨"SleepWorkModel", "is", "(I)Z"⟩ prog_14_method_14_code 2 ((Option.some FieldType.boolean)) ∈ lw_gd := k_memT (i := 1470) rfl rfl
set_option maxRecDepth 100000 in
theorem k_cw151 : Cond.code ⟨"SleepWorkModel", "fail", "(I)V"⟩ prog_14_method_15_code 2 ((Option.none : Option FieldType)) ∈ lw_gd := k_memT (i := 1482) rfl rfl
set_option maxRecDepth 100000 in
theorem k_cw152 : Cond.code ⟨"SleepWorkModel", "wrong", "(II)V"⟩ prog_14_method_16_code 4 ((Option.none : Option FieldType)) ∈ lw_gd := k_memT (i := 1502) rfl rfl
set_option maxRecDepth 100000 in
theorem k_cw153 : Cond.code ⟨"SleepWorkModel", "goesOn", "()V"⟩ prog_14_method_17_code 1 ((Option.none : Option FieldType)) ∈ lw_gd := k_memT (i := 1486) rfl rfl
set_option maxRecDepth 100000 in
theorem k_cw154 : Cond.code ⟨"SleepWorkModel", "must", "(I)V"⟩ prog_14_method_18_code 2 ((Option.none : Option FieldType)) ∈ lw_gd := k_memT (i := 1498) rfl rfl
set_option maxRecDepth 100000 in
theorem k_cw155 : Cond.code ⟨"SleepWorkModel", "read", "()I"⟩ prog_14_method_19_code 2 ((Option.some FieldType.int)) ∈ lw_gd := k_memT (i := 1444) rfl rfl
set_option maxRecDepth 100000 in
theorem k_cw156 : Cond.code ⟨"SleepWorkModel", "place", "()I"⟩ prog_14_method_20_code 1 ((Option.some FieldType.int)) ∈ lw_gd := k_memT (i := 1578) rfl rfl
set_option maxRecDepth 100000 in
theorem k_cw157 : Cond.code ⟨"SleepWorkModel", "failAt", "(II)V"⟩ prog_14_method_21_code 3 ((Option.none : Option FieldType)) ∈ lw_gd := k_memT (i := 1534) rfl rfl
set_option maxRecDepth 100000 in
theorem k_cw158 : Cond.code ⟨"SleepWorkModel", "roomFor", "(II)V"⟩ prog_14_method_22_code 3 ((Option.none : Option FieldType)) ∈ lw_gd := k_memT (i := 1478) rfl rfl
set_option maxRecDepth 100000 in
theorem k_cw159 : Cond.code ⟨"SleepWorkModel", "tell", "()V"⟩ prog_14_method_23_code 1 ((Option.none : Option FieldType)) ∈ lw_gd := k_memT (i := 1474) rfl rfl
set_option maxRecDepth 100000 in
theorem k_cw160 : Cond.code ⟨"SleepWorkModel", "named", "()I"⟩ prog_14_method_24_code 3 ((Option.some FieldType.int)) ∈ lw_gd := k_memT (i := 1494) rfl rfl
set_option maxRecDepth 100000 in
theorem k_cw161 : Cond.code ⟨"SleepWorkModel", "notes", "(III)V"⟩ prog_14_method_25_code 4 ((Option.none : Option FieldType)) ∈ lw_gd := k_memT (i := 1506) rfl rfl
set_option maxRecDepth 100000 in
theorem k_cw162 : Cond.code ⟨"SleepWorkModel", "known", "(I)I"⟩ prog_14_method_26_code 4 ((Option.some FieldType.int)) ∈ lw_gd := k_memT (i := 1514) rfl rfl
set_option maxRecDepth 100000 in
theorem k_cw163 : Cond.code ⟨"SleepWorkModel", "bounded", "(II)I"⟩ prog_14_method_27_code 4 ((Option.some FieldType.int)) ∈ lw_gd := k_memT (i := 1518) rfl rfl
set_option maxRecDepth 100000 in
theorem k_cw164 : Cond.code ⟨"SleepWorkModel", "tellRoom", "()V"⟩ prog_14_method_28_code 2 ((Option.none : Option FieldType)) ∈ lw_gd := k_memT (i := 1490) rfl rfl
set_option maxRecDepth 100000 in
theorem k_cw165 : Cond.code ⟨"SleepWorkModel", "tellDoor", "()V"⟩ prog_14_method_29_code 3 ((Option.none : Option FieldType)) ∈ lw_gd := k_memT (i := 1510) rfl rfl
set_option maxRecDepth 100000 in
theorem k_cw166 : Cond.code ⟨"SleepWorkModel", "tellTool", "()V"⟩ prog_14_method_30_code 2 ((Option.none : Option FieldType)) ∈ lw_gd := k_memT (i := 1522) rfl rfl
set_option maxRecDepth 100000 in
theorem k_cw167 : Cond.code ⟨"SleepWorkModel", "tellTask", "()V"⟩ prog_14_method_31_code 3 ((Option.none : Option FieldType)) ∈ lw_gd := k_memT (i := 1526) rfl rfl
set_option maxRecDepth 100000 in
theorem k_cw168 : Cond.code ⟨"SleepWorkModel", "tellStep", "(I)V"⟩ prog_14_method_32_code 11 ((Option.none : Option FieldType)) ∈ lw_gd := k_memT (i := 1530) rfl rfl
set_option maxRecDepth 100000 in
theorem k_cw169 : Cond.code ⟨"SleepWorkModel", "tellMan", "()V"⟩ prog_14_method_33_code 4 ((Option.none : Option FieldType)) ∈ lw_gd := k_memT (i := 1538) rfl rfl
set_option maxRecDepth 100000 in
theorem k_cw170 : Cond.code ⟨"SleepWorkModel", "tellLaw", "()V"⟩ prog_14_method_34_code 4 ((Option.none : Option FieldType)) ∈ lw_gd := k_memT (i := 1542) rfl rfl
set_option maxRecDepth 100000 in
theorem k_cw171 : Cond.code ⟨"SleepWorkModel", "term", "()V"⟩ prog_14_method_35_code 1 ((Option.none : Option FieldType)) ∈ lw_gd := k_memT (i := 1562) rfl rfl
set_option maxRecDepth 100000 in
theorem k_cw172 : Cond.code ⟨"SleepWorkModel", "emit", "(II)V"⟩ prog_14_method_36_code 3 ((Option.none : Option FieldType)) ∈ lw_gd := k_memT (i := 1554) rfl rfl
set_option maxRecDepth 100000 in
theorem k_cw173 : Cond.code ⟨"SleepWorkModel", "comesOut", "(Z)V"⟩ prog_14_method_37_code 3 ((Option.none : Option FieldType)) ∈ lw_gd := k_memT (i := 1558) rfl rfl
set_option maxRecDepth 100000 in
theorem k_cw174 : Cond.code ⟨"SleepWorkModel", "expression", "()V"⟩ prog_14_method_38_code 3 ((Option.none : Option FieldType)) ∈ lw_gd := k_memT (i := 1546) rfl rfl
set_option maxRecDepth 100000 in
theorem k_cw175 : Cond.code ⟨"SleepWorkModel", "unit", "()V"⟩ prog_14_method_39_code 1 ((Option.none : Option FieldType)) ∈ lw_gd := k_memT (i := 1550) rfl rfl
set_option maxRecDepth 100000 in
theorem k_cw176 : Cond.code ⟨"SleepWorkModel", "termOf", "(II)I"⟩ prog_14_method_40_code 8 ((Option.some FieldType.int)) ∈ lw_gd := k_memT (i := 1717) rfl rfl
set_option maxRecDepth 100000 in
theorem k_cw177 : Cond.code ⟨"SleepWorkModel", "in", "(III)Z"⟩ prog_14_method_41_code 3 ((Option.some FieldType.boolean)) ∈ lw_gd := k_memT (i := 1589) rfl rfl
set_option maxRecDepth 100000 in
theorem k_cw178 : Cond.code ⟨"SleepWorkModel", "tasksNow", "()I"⟩ prog_14_method_42_code 1 ((Option.some FieldType.int)) ∈ lw_gd := k_memT (i := 1570) rfl rfl
set_option maxRecDepth 100000 in
theorem k_cw179 : Cond.code ⟨"SleepWorkModel", "menNow", "()I"⟩ prog_14_method_43_code 1 ((Option.some FieldType.int)) ∈ lw_gd := k_memT (i := 1574) rfl rfl
set_option maxRecDepth 100000 in
theorem k_cw180 : Cond.code ⟨"SleepWorkModel", "stepsOf", "(I)I"⟩ prog_14_method_44_code 2 ((Option.some FieldType.int)) ∈ lw_gd := k_memT (i := 1597) rfl rfl
set_option maxRecDepth 100000 in
theorem k_cw181 : Cond.code ⟨"SleepWorkModel", "stepAt", "(II)I"⟩ prog_14_method_45_code 3 ((Option.some FieldType.int)) ∈ lw_gd := k_memT (i := 1605) rfl rfl
set_option maxRecDepth 100000 in
theorem k_cw182 : Cond.code ⟨"SleepWorkModel", "isTask", "(I)Z"⟩ prog_14_method_46_code 2 ((Option.some FieldType.boolean)) ∈ lw_gd := k_memT (i := 1586) rfl rfl
set_option maxRecDepth 100000 in
theorem k_cw183 : Cond.code ⟨"SleepWorkModel", "isStep", "(II)Z"⟩ prog_14_method_47_code 3 ((Option.some FieldType.boolean)) ∈ lw_gd := k_memT (i := 1617) rfl rfl
set_option maxRecDepth 100000 in
theorem k_cw184 : Cond.code ⟨"SleepWorkModel", "isMan", "(I)Z"⟩ prog_14_method_48_code 2 ((Option.some FieldType.boolean)) ∈ lw_gd := k_memT (i := 1628) rfl rfl
set_option maxRecDepth 100000 in
theorem k_cw185 : Cond.code ⟨"SleepWorkModel", "isRoom", "(I)Z"⟩ prog_14_method_49_code 2 ((Option.some FieldType.boolean)) ∈ lw_gd := k_memT (i := 1644) rfl rfl
set_option maxRecDepth 100000 in
theorem k_cw186 : Cond.code ⟨"SleepWorkModel", "isTool", "(I)Z"⟩ prog_14_method_50_code 2 ((Option.some FieldType.boolean)) ∈ lw_gd := k_memT (i := 1636) rfl rfl
set_option maxRecDepth 100000 in
theorem k_cw187 : Cond.code ⟨"SleepWorkModel", "begins", "()V"⟩ prog_14_method_51_code 2 ((Option.none : Option FieldType)) ∈ lw_gd := k_memT (i := 1566) rfl rfl
set_option maxRecDepth 100000 in
theorem k_cw188 : Cond.code ⟨"SleepWorkModel", "takes", "()V"⟩ prog_14_method_52_code 2 ((Option.none : Option FieldType)) ∈ lw_gd := k_memT (i := 1593) rfl rfl
set_option maxRecDepth 100000 in
theorem k_cw189 : Cond.code ⟨"SleepWorkModel", "isEnded", "(I)Z"⟩ prog_14_method_53_code 3 ((Option.some FieldType.boolean)) ∈ lw_gd := k_memT (i := 1609) rfl rfl
set_option maxRecDepth 100000 in
theorem k_cw190 : Cond.code ⟨"SleepWorkModel", "worthOf", "(I)I"⟩ prog_14_method_54_code 7 ((Option.some FieldType.int)) ∈ lw_gd := k_memT (i := 1601) rfl rfl
set_option maxRecDepth 100000 in
theorem k_cw191 : Cond.code ⟨"SleepWorkModel", "worthNow", "()I"⟩ prog_14_method_55_code 3 ((Option.some FieldType.int)) ∈ lw_gd := k_memT (i := 1689) rfl rfl
set_option maxRecDepth 100000 in
theorem k_cw192 : Cond.code ⟨"SleepWorkModel", "fillsWays", "()V"⟩ prog_14_method_56_code 5 ((Option.none : Option FieldType)) ∈ lw_gd := k_memT (i := 1648) rfl rfl
set_option maxRecDepth 100000 in
theorem k_cw193 : Cond.code ⟨"SleepWorkModel", "getsUp", "(I)V"⟩ prog_14_method_57_code 4 ((Option.none : Option FieldType)) ∈ lw_gd := k_memT (i := 1697) rfl rfl
set_option maxRecDepth 100000 in
theorem k_cw194 : Cond.code ⟨"SleepWorkModel", "tells", "(II)I"⟩ prog_14_method_58_code 9 ((Option.some FieldType.int)) ∈ lw_gd := k_memT (i := 1713) rfl rfl
set_option maxRecDepth 100000 in
theorem k_cw195 : Cond.code ⟨"SleepWorkModel", "does", "(II)V"⟩ prog_14_method_59_code 4 ((Option.none : Option FieldType)) ∈ lw_gd := k_memT (i := 1665) rfl rfl
set_option maxRecDepth 100000 in
theorem k_cw196 : Cond.code ⟨"SleepWorkModel", "isOver", "(I)V"⟩ prog_14_method_60_code 2 ((Option.none : Option FieldType)) ∈ lw_gd := k_memT (i := 1701) rfl rfl
set_option maxRecDepth 100000 in
theorem k_cw197 : Cond.code ⟨"SleepWorkModel", "lies", "(II)V"⟩ prog_14_method_61_code 3 ((Option.none : Option FieldType)) ∈ lw_gd := k_memT (i := 1709) rfl rfl
set_option maxRecDepth 100000 in
theorem k_cw198 : Cond.code ⟨"SleepWorkModel", "isInUse", "(II)Z"⟩ prog_14_method_62_code 4 ((Option.some FieldType.boolean)) ∈ lw_gd := k_memT (i := 1721) rfl rfl
set_option maxRecDepth 100000 in
theorem k_cw199 : Cond.code ⟨"SleepWorkModel", "begins1", "(II)V"⟩ prog_14_method_63_code 7 ((Option.none : Option FieldType)) ∈ lw_gd := k_memT (i := 1705) rfl rfl
set_option maxRecDepth 100000 in
theorem k_cw200 : Cond.code ⟨"SleepWorkModel", "goesTill", "(I)V"⟩ prog_14_method_64_code 4 ((Option.none : Option FieldType)) ∈ lw_gd := k_memT (i := 1693) rfl rfl
set_option maxRecDepth 100000 in
theorem k_cw201 : Cond.code ⟨"SleepWorkModel", "wholeNight", "()I"⟩ prog_14_method_65_code 3 ((Option.some FieldType.int)) ∈ lw_gd := k_memT (i := 1685) rfl rfl
set_option maxRecDepth 100000 in
theorem k_cw202 : Cond.code ⟨"SleepWorkModel", "task", "(II)I"⟩ prog_14_method_66_code 3 ((Option.some FieldType.int)) ∈ lw_gd := k_memT (i := 1582) rfl rfl
set_option maxRecDepth 100000 in
theorem k_cw203 : Cond.code ⟨"SleepWorkModel", "orNone", "(I)I"⟩ prog_14_method_67_code 1 ((Option.some FieldType.int)) ∈ lw_gd := k_memT (i := 1620) rfl rfl
set_option maxRecDepth 100000 in
theorem k_cw204 : Cond.code ⟨"SleepWorkModel", "step", "(III)I"⟩ prog_14_method_68_code 5 ((Option.some FieldType.int)) ∈ lw_gd := k_memT (i := 1613) rfl rfl
set_option maxRecDepth 100000 in
theorem k_cw205 : Cond.code ⟨"SleepWorkModel", "man", "(II)I"⟩ prog_14_method_69_code 3 ((Option.some FieldType.int)) ∈ lw_gd := k_memT (i := 1624) rfl rfl
set_option maxRecDepth 100000 in
theorem k_cw206 : Cond.code ⟨"SleepWorkModel", "tool", "(I)I"⟩ prog_14_method_70_code 2 ((Option.some FieldType.int)) ∈ lw_gd := k_memT (i := 1632) rfl rfl
set_option maxRecDepth 100000 in
theorem k_cw207 : Cond.code ⟨"SleepWorkModel", "way", "(II)I"⟩ prog_14_method_71_code 3 ((Option.some FieldType.int)) ∈ lw_gd := k_memT (i := 1640) rfl rfl
set_option maxRecDepth 100000 in
theorem k_cw208 : Cond.code ⟨"SleepWorkModel", "isLeft", "(II)Z"⟩ prog_14_method_72_code 3 ((Option.some FieldType.boolean)) ∈ lw_gd := k_memT (i := 1657) rfl rfl
set_option maxRecDepth 100000 in
theorem k_cw209 : Cond.code ⟨"SleepWorkModel", "leave", "(III)Z"⟩ prog_14_method_73_code 4 ((Option.some FieldType.boolean)) ∈ lw_gd := k_memT (i := 1653) rfl rfl
set_option maxRecDepth 100000 in
theorem k_cw210 : Cond.code ⟨"SleepWorkModel", "work", "(II)Z"⟩ prog_14_method_74_code 4 ((Option.some FieldType.boolean)) ∈ lw_gd := k_memT (i := 1661) rfl rfl
set_option maxRecDepth 100000 in
theorem k_cw211 : Cond.code ⟨"SleepWorkModel", "lay", "(II)Z"⟩ prog_14_method_75_code 3 ((Option.some FieldType.boolean)) ∈ lw_gd := k_memT (i := 1669) rfl rfl
set_option maxRecDepth 100000 in
theorem k_cw212 : Cond.code ⟨"SleepWorkModel", "give", "(II)Z"⟩ prog_14_method_76_code 3 ((Option.some FieldType.boolean)) ∈ lw_gd := k_memT (i := 1673) rfl rfl
set_option maxRecDepth 100000 in
theorem k_cw213 : Cond.code ⟨"SleepWorkModel", "bar", "(IZ)Z"⟩ prog_14_method_77_code 3 ((Option.some FieldType.boolean)) ∈ lw_gd := k_memT (i := 1677) rfl rfl
set_option maxRecDepth 100000 in
theorem k_cw214 : Cond.code ⟨"SleepWorkModel", "night", "()I"⟩ prog_14_method_78_code 3 ((Option.some FieldType.int)) ∈ lw_gd := k_memT (i := 1681) rfl rfl
set_option maxRecDepth 100000 in
theorem k_cw215 : Cond.code ⟨"SleepWorkModel", "undo", "()Z"⟩ prog_14_method_79_code 2 ((Option.some FieldType.boolean)) ∈ lw_gd := k_memT (i := 1725) rfl rfl
set_option maxRecDepth 100000 in
theorem k_cw216 : Cond.code ⟨"SleepWorkModel", "gain", "()I"⟩ prog_14_method_80_code 1 ((Option.some FieldType.int)) ∈ lw_gd := k_memT (i := 1729) rfl rfl
set_option maxRecDepth 100000 in
theorem k_cw217 : Cond.code ⟨"SleepWorkModel", "leaves", "(II)Z"⟩ prog_14_method_81_code 5 ((Option.some FieldType.boolean)) ∈ lw_gd := k_memT (i := 1745) rfl rfl
set_option maxRecDepth 100000 in
theorem k_cw218 : Cond.code ⟨"SleepWorkModel", "options", "()I"⟩ prog_14_method_82_code 3 ((Option.some FieldType.int)) ∈ lw_gd := k_memT (i := 1749) rfl rfl
set_option maxRecDepth 100000 in
theorem k_cw219 : Cond.code ⟨"SleepWorkModel", "codeOf", "(II)I"⟩ prog_14_method_83_code 3 ((Option.some FieldType.int)) ∈ lw_gd := k_memT (i := 1753) rfl rfl
set_option maxRecDepth 100000 in
theorem k_cw220 : Cond.code ⟨"SleepWorkModel", "gainBy", "(II)I"⟩ prog_14_method_84_code 3 ((Option.some FieldType.int)) ∈ lw_gd := k_memT (i := 1741) rfl rfl
set_option maxRecDepth 100000 in
theorem k_cw221 : Cond.code ⟨"SleepWorkModel", "bestOption", "(I)I"⟩ prog_14_method_85_code 5 ((Option.some FieldType.int)) ∈ lw_gd := k_memT (i := 1737) rfl rfl
set_option maxRecDepth 100000 in
theorem k_cw222 : Cond.code ⟨"SleepWorkModel", "best", "(II)I"⟩ prog_14_method_86_code 4 ((Option.some FieldType.int)) ∈ lw_gd := k_memT (i := 1733) rfl rfl
set_option maxRecDepth 100000 in
theorem k_cw223 : Cond.code ⟨"SleepWorkModel", "bestOfTwo", "(III)I"⟩ prog_14_method_87_code 10 ((Option.some FieldType.int)) ∈ lw_gd := k_memT (i := 1757) rfl rfl
set_option maxRecDepth 100000 in
theorem k_cw224 : Cond.code ⟨"SleepWorkModel", "hire", "(I)I"⟩ prog_14_method_88_code 2 ((Option.some FieldType.int)) ∈ lw_gd := k_memT (i := 1761) rfl rfl
set_option maxRecDepth 100000 in
theorem k_cw225 : Cond.code ⟨"SleepWorkModel", "hide", "(II)I"⟩ prog_14_method_89_code 8 ((Option.some FieldType.int)) ∈ lw_gd := k_memT (i := 1766) rfl rfl
set_option maxRecDepth 100000 in
theorem k_cw226 : Cond.code ⟨"SleepWorkModel", "bits", "(I)I"⟩ prog_14_method_90_code 3 ((Option.some FieldType.int)) ∈ lw_gd := k_memT (i := 1773) rfl rfl
set_option maxRecDepth 100000 in
theorem k_cw227 : Cond.code ⟨"SleepWorkModel", "bars", "(I)I"⟩ prog_14_method_91_code 6 ((Option.some FieldType.int)) ∈ lw_gd := k_memT (i := 1770) rfl rfl
set_option maxRecDepth 100000 in
theorem k_cw228 : Cond.code ⟨"SleepWorkModel", "where", "(II)I"⟩ prog_14_method_92_code 5 ((Option.some FieldType.int)) ∈ lw_gd := k_memT (i := 1777) rfl rfl
set_option maxRecDepth 100000 in
theorem k_cw229 : Cond.code ⟨"SleepWorkModel", "strokes", "(II)I"⟩ prog_14_method_93_code 3 ((Option.some FieldType.int)) ∈ lw_gd := k_memT (i := 1781) rfl rfl
set_option maxRecDepth 100000 in
theorem k_cw230 : Cond.code ⟨"SleepWorkModel", "tell", "(III)I"⟩ prog_14_method_94_code 4 ((Option.some FieldType.int)) ∈ lw_gd := k_memT (i := 1785) rfl rfl
set_option maxRecDepth 100000 in
theorem k_cw231 : Cond.code ⟨"SleepWorkModel", "forget", "()I"⟩ prog_14_method_95_code 2 ((Option.some FieldType.int)) ∈ lw_gd := k_memT (i := 1789) rfl rfl
set_option maxRecDepth 100000 in
theorem k_cw232 : Cond.code ⟨"SleepWorkModel", "isSo", "(I)Z"⟩ prog_14_method_96_code 3 ((Option.some FieldType.boolean)) ∈ lw_gd := k_memT (i := 1797) rfl rfl
set_option maxRecDepth 100000 in
theorem k_cw233 : Cond.code ⟨"SleepWorkModel", "fits", "(III)I"⟩ prog_14_method_97_code 6 ((Option.some FieldType.int)) ∈ lw_gd := k_memT (i := 1793) rfl rfl
set_option maxRecDepth 100000 in
theorem k_cw234 : Cond.code ⟨"SleepWorkModel", "isSuspect", "(II)Z"⟩ prog_14_method_98_code 4 ((Option.some FieldType.boolean)) ∈ lw_gd := k_memT (i := 1805) rfl rfl
set_option maxRecDepth 100000 in
theorem k_cw235 : Cond.code ⟨"SleepWorkModel", "suspects", "(I)I"⟩ prog_14_method_99_code 4 ((Option.some FieldType.int)) ∈ lw_gd := k_memT (i := 1801) rfl rfl
set_option maxRecDepth 100000 in
theorem k_cw236 : Cond.code ⟨"SleepWorkModel", "pairs", "(III)I"⟩ prog_14_method_100_code 7 ((Option.some FieldType.int)) ∈ lw_gd := k_memT (i := 1809) rfl rfl
set_option maxRecDepth 100000 in
theorem k_cw237 : Cond.code ⟨"SleepWorkModel", "hold", "(I)Z"⟩ prog_14_method_101_code 3 ((Option.some FieldType.boolean)) ∈ lw_gd := k_memT (i := 1813) rfl rfl
set_option maxRecDepth 100000 in
theorem k_cw238 : Cond.code ⟨"SleepWorkModel", "restore", "(I)Z"⟩ prog_14_method_102_code 3 ((Option.some FieldType.boolean)) ∈ lw_gd := k_memT (i := 1817) rfl rfl
set_option maxRecDepth 100000 in
theorem k_cw239 : Cond.code ⟨"SleepWorkModel", "count", "(I)I"⟩ prog_14_method_103_code 2 ((Option.some FieldType.int)) ∈ lw_gd := k_memT (i := 1821) rfl rfl
set_option maxRecDepth 100000 in
theorem k_cw240 : Cond.code ⟨"java/lang/Character", "isValidCodePoint", "(I)Z"⟩ prog_15_method_11_code 2 ((Option.some FieldType.boolean)) ∈ lw_gd := k_memT (i := 690) rfl rfl
set_option maxRecDepth 100000 in
theorem k_cw241 : Cond.code ⟨"java/lang/Character", "highSurrogate", "(I)C"⟩ prog_15_method_28_code 1 ((Option.some FieldType.char)) ∈ lw_gd := k_memT (i := 693) rfl rfl
set_option maxRecDepth 100000 in
theorem k_cw242 : Cond.code ⟨"java/lang/Character", "lowSurrogate", "(I)C"⟩ prog_15_method_29_code 1 ((Option.some FieldType.char)) ∈ lw_gd := k_memT (i := 697) rfl rfl
set_option maxRecDepth 100000 in
theorem k_cw243 : Cond.code ⟨"java/lang/Integer", "bitCount", "(I)I"⟩ prog_16_method_49_code 1 ((Option.some FieldType.int)) ∈ lw_gd := k_memT (i := 1075) rfl rfl
set_option maxRecDepth 100000 in
theorem k_cw246 : Cond.code ⟨"java/lang/String", "length", "()I"⟩ prog_18_method_54_code 1 ((Option.some FieldType.int)) ∈ lw_gd := k_memT (i := 436) rfl rfl
set_option maxRecDepth 100000 in
theorem k_cw247 : Cond.code ⟨"java/lang/String", "charAt", "(I)C"⟩ prog_18_method_56_code 2 ((Option.some FieldType.char)) ∈ lw_gd := k_memT (i := 446) rfl rfl
set_option maxRecDepth 100000 in
theorem k_cw248 : Cond.code ⟨"java/lang/String", "indexOf", "(I)I"⟩ prog_18_method_79_code 2 ((Option.some FieldType.int)) ∈ lw_gd := k_memT (i := 643) rfl rfl
set_option maxRecDepth 100000 in
theorem k_cw249 : Cond.code ⟨"java/lang/String", "indexOf", "(II)I"⟩ prog_18_method_80_code 3 ((Option.some FieldType.int)) ∈ lw_gd := k_memT (i := 647) rfl rfl
set_option maxRecDepth 100000 in
theorem k_cw250 : Cond.code ⟨"java/lang/String", "coder", "()B"⟩ prog_18_method_152_code 1 ((Option.some FieldType.byte)) ∈ lw_gd := k_memT (i := 440) rfl rfl
set_option maxRecDepth 100000 in
theorem k_cw251 : Cond.code ⟨"java/lang/String", "isLatin1", "()Z"⟩ prog_18_method_154_code 1 ((Option.some FieldType.boolean)) ∈ lw_gd := k_memT (i := 450) rfl rfl
set_option maxRecDepth 100000 in
theorem k_cw252 : Cond.code ⟨"java/lang/String", "checkIndex", "(II)V"⟩ prog_18_method_155_code 2 ((Option.none : Option FieldType)) ∈ lw_gd := k_memT (i := 456) rfl rfl
set_option maxRecDepth 100000 in
theorem k_cw253 : Cond.code ⟨"java/lang/String", "checkBoundsBeginEnd", "(III)V"⟩ prog_18_method_158_code 3 ((Option.none : Option FieldType)) ∈ lw_gd := k_memT (i := 678) rfl rfl
set_option maxRecDepth 100000 in
theorem k_cw254 : Cond.code ⟨"java/lang/StringLatin1", "charAt", "([BI)C"⟩ prog_19_method_2_code 2 ((Option.some FieldType.char)) ∈ lw_gd := k_memT (i := 453) rfl rfl
set_option maxRecDepth 100000 in
theorem k_cw255 : Cond.code ⟨"java/lang/StringLatin1", "canEncode", "(I)Z"⟩ prog_19_method_4_code 1 ((Option.some FieldType.boolean)) ∈ lw_gd := k_memT (i := 654) rfl rfl
set_option maxRecDepth 100000 in
theorem k_cw256 : Cond.code ⟨"java/lang/StringLatin1", "indexOf", "([BIII)I"⟩ prog_19_method_22_code 4 ((Option.some FieldType.int)) ∈ lw_gd := k_memT (i := 651) rfl rfl
set_option maxRecDepth 100000 in
theorem k_cw257 : Cond.code ⟨"java/lang/StringLatin1", "indexOfChar", "([BIII)I"⟩ prog_19_method_23_code 6 ((Option.some FieldType.int)) ∈ lw_gd := k_memT (i := 663) rfl rfl
set_option maxRecDepth 100000 in
theorem k_cw258 : Cond.code ⟨"java/lang/StringUTF16", "getChar", "([BI)C"⟩ prog_20_method_5_code 2 ((Option.some FieldType.char)) ∈ lw_gd := k_memT (i := 474) rfl rfl
set_option maxRecDepth 100000 in
theorem k_cw259 : Cond.code ⟨"java/lang/StringUTF16", "length", "([B)I"⟩ prog_20_method_6_code 1 ((Option.some FieldType.int)) ∈ lw_gd := k_memT (i := 470) rfl rfl
set_option maxRecDepth 100000 in
theorem k_cw260 : Cond.code ⟨"java/lang/StringUTF16", "indexOf", "([BIII)I"⟩ prog_20_method_40_code 4 ((Option.some FieldType.int)) ∈ lw_gd := k_memT (i := 666) rfl rfl
set_option maxRecDepth 100000 in
theorem k_cw261 : Cond.code ⟨"java/lang/StringUTF16", "indexOfChar", "([BIII)I"⟩ prog_20_method_47_code 4 ((Option.some FieldType.int)) ∈ lw_gd := k_memT (i := 672) rfl rfl
set_option maxRecDepth 100000 in
theorem k_cw262 : Cond.code ⟨"java/lang/StringUTF16", "indexOfCharUnsafe", "([BIII)I"⟩ prog_20_method_48_code 5 ((Option.some FieldType.int)) ∈ lw_gd := k_memT (i := 684) rfl rfl
set_option maxRecDepth 100000 in
theorem k_cw263 : Cond.code ⟨"java/lang/StringUTF16", "indexOfSupplementary", "([BIII)I"⟩ prog_20_method_49_code 7 ((Option.some FieldType.int)) ∈ lw_gd := k_memT (i := 687) rfl rfl
set_option maxRecDepth 100000 in
theorem k_cw264 : Cond.code ⟨"java/lang/StringUTF16", "charAt", "([BI)C"⟩ prog_20_method_83_code 2 ((Option.some FieldType.char)) ∈ lw_gd := k_memT (i := 464) rfl rfl
set_option maxRecDepth 100000 in
theorem k_cw265 : Cond.code ⟨"java/lang/StringUTF16", "checkIndex", "(I[B)V"⟩ prog_20_method_91_code 2 ((Option.none : Option FieldType)) ∈ lw_gd := k_memT (i := 467) rfl rfl
set_option maxRecDepth 100000 in
theorem k_cw266 : Cond.code ⟨"java/lang/StringUTF16", "checkBoundsBeginEnd", "(II[B)V"⟩ prog_20_method_93_code 3 ((Option.none : Option FieldType)) ∈ lw_gd := k_memT (i := 675) rfl rfl
set_option maxRecDepth 100000 in
theorem k_cw267 : Cond.code ⟨"java/util/Arrays", "fill", "([JJ)V"⟩ prog_22_method_101_code 5 ((Option.none : Option FieldType)) ∈ lw_gd := k_memT (i := 1072) rfl rfl
set_option maxRecDepth 100000 in
theorem k_cw268 : Cond.code ⟨"java/util/Arrays", "fill", "([II)V"⟩ prog_22_method_103_code 4 ((Option.none : Option FieldType)) ∈ lw_gd := k_memT (i := 60) rfl rfl
set_option maxRecDepth 100000 in
theorem k_cw269 : Cond.code ⟨"jdk/internal/util/Preconditions", "checkIndex", "(IILjava/util/function/BiFunction;)I"⟩ prog_23_method_11_code 3 ((Option.some FieldType.int)) ∈ lw_gd := k_memT (i := 461) rfl rfl
set_option maxRecDepth 100000 in
theorem k_cw270 : Cond.code ⟨"jdk/internal/util/Preconditions", "checkFromToIndex", "(IIILjava/util/function/BiFunction;)I"⟩ prog_23_method_12_code 4 ((Option.some FieldType.int)) ∈ lw_gd := k_memT (i := 681) rfl rfl
end
section
/-! the methods: places, instructions, what they link to (printed by wip/gen.py) -/
def g_look (cd : List (Nat × Instr × List Nat)) (pc : Nat) : Option (Instr × List Nat) := (cd.find? fun q => q.1 == pc).map fun q => q.2
/-- SleepWork$Evening.<init>(LSleepWork$House;LSleepWork$State;LSleepWork$Told;)V -/
def k_c0 : List (Nat × Instr × List Nat) := [(0, .aload_n 0, []), (1, .invokespecial 3, [0]), (4, .aload_n 0, []), (5, .new 9, [7]), (8, .dup, []), (9, .invokespecial 11, [3, 83, 0]), (12, .putfield 12, [0, 2]), (15, .aload_n 0, []), (16, .iconst (-1), []), (17, .putfield 18, [0, 6]), (20, .aload_n 0, []), (21, .iconst 0, []), (22, .newarray .long, [3]), (24, .putfield 22, [0, 9]), (27, .aload_n 0, []), (28, .bipush 37, []), (30, .newarray .int, [0]), (32, .putfield 26, [0, 14]), (35, .aload_n 0, []), (36, .aload_n 1, []), (37, .putfield 30, [0, 4]), (40, .aload_n 0, []), (41, .aload_n 2, []), (42, .putfield 34, [0, 1]), (45, .aload_n 0, []), (46, .aload_n 3, []), (47, .putfield 37, [0, 3]), (50, .aload_n 0, []), (51, .new 41, [6]), (54, .dup, []), (55, .aload_n 1, []), (56, .aload_n 0, []), (57, .getfield 12, [0, 2]), (60, .invokespecial 43, [3, 74, 2]), (63, .putfield 46, [0, 0]), (66, .return_, [])]
/-- SleepWork$Evening.enter(LSleepWork$House;)V -/
def k_c1 : List (Nat × Instr × List Nat) := [(0, .aload_n 0, []), (1, .aload_n 1, []), (2, .putfield 30, [0, 4]), (5, .aload_n 0, []), (6, .getfield 46, [0, 0]), (9, .getfield 50, [6, 0]), (12, .invokevirtual 54, [2, 94, 0, 10]), (15, .aload_n 0, []), (16, .invokevirtual 59, [2, 2, 0, 0]), (19, .return_, [])]
/-- SleepWork$Evening.setStale()V -/
def k_c2 : List (Nat × Instr × List Nat) := [(0, .aload_n 0, []), (1, .iconst (-1), []), (2, .putfield 18, [0, 6]), (5, .return_, [])]
/-- SleepWork$Evening.minutesBetween(II)I -/
def k_c3 : List (Nat × Instr × List Nat) := [(0, .aload_n 0, []), (1, .getfield 46, [0, 0]), (4, .getfield 50, [6, 0]), (7, .aload_n 0, []), (8, .getfield 30, [0, 4]), (11, .aload_n 0, []), (12, .getfield 34, [0, 1]), (15, .getfield 62, [7, 7]), (18, .iload_n 1, []), (19, .iload_n 2, []), (20, .invokevirtual 65, [2, 95, 4, 10]), (23, .ireturn, [])]
/-- SleepWork$Evening.goBy()V -/
def k_c4 : List (Nat × Instr × List Nat) := [(0, .aload_n 0, []), (1, .getfield 46, [0, 0]), (4, .aload_n 0, []), (5, .getfield 30, [0, 4]), (8, .getfield 69, [1, 18]), (11, .aload_n 0, []), (12, .getfield 30, [0, 4]), (15, .aload_n 0, []), (16, .getfield 34, [0, 1]), (19, .invokevirtual 74, [2, 75, 3, 6]), (22, .aload_n 0, []), (23, .getfield 34, [0, 1]), (26, .dup, []), (27, .getfield 78, [7, 8]), (30, .iconst 1, []), (31, .iadd, []), (32, .putfield 78, [7, 8]), (35, .aload_n 0, []), (36, .invokevirtual 59, [2, 2, 0, 0]), (39, .return_, [])]
/-- SleepWork$Evening.gainAsItIs()I -/
def k_c5 : List (Nat × Instr × List Nat) := [(0, .aload_n 0, []), (1, .aload_n 0, []), (2, .getfield 30, [0, 4]), (5, .aload_n 0, []), (6, .getfield 34, [0, 1]), (9, .invokevirtual 81, [2, 27, 1, 1]), (12, .putfield 85, [0, 5]), (15, .aload_n 0, []), (16, .getfield 12, [0, 2]), (19, .aload_n 0, []), (20, .getfield 34, [0, 1]), (23, .invokevirtual 88, [2, 85, 1, 7]), (26, .aload_n 0, []), (27, .invokevirtual 92, [2, 7, 0, 0]), (30, .ireturn, [])]
/-- SleepWork$Evening.strokesTill(II)I -/
def k_c6 : List (Nat × Instr × List Nat) := [(0, .aload_n 0, []), (1, .getfield 12, [0, 2]), (4, .aload_n 0, []), (5, .getfield 34, [0, 1]), (8, .invokevirtual 88, [2, 85, 1, 7]), (11, .aload_n 0, []), (12, .getfield 46, [0, 0]), (15, .iload_n 2, []), (16, .aload_n 0, []), (17, .getfield 30, [0, 4]), (20, .aload_n 0, []), (21, .getfield 12, [0, 2]), (24, .invokevirtual 74, [2, 75, 3, 6]), (27, .aload_n 0, []), (28, .getfield 12, [0, 2]), (31, .getfield 96, [7, 4]), (34, .iload_n 1, []), (35, .iaload, []), (36, .ireturn, [])]
/-- SleepWork$Evening.gainOfTrial()I -/
def k_c7 : List (Nat × Instr × List Nat) := [(0, .aload_n 0, []), (1, .getfield 46, [0, 0]), (4, .aload_n 0, []), (5, .getfield 30, [0, 4]), (8, .getfield 69, [1, 18]), (11, .aload_n 0, []), (12, .getfield 30, [0, 4]), (15, .aload_n 0, []), (16, .getfield 12, [0, 2]), (19, .invokevirtual 74, [2, 75, 3, 6]), (22, .aload_n 0, []), (23, .getfield 30, [0, 4]), (26, .aload_n 0, []), (27, .getfield 12, [0, 2]), (30, .invokevirtual 81, [2, 27, 1, 1]), (33, .aload_n 0, []), (34, .getfield 85, [0, 5]), (37, .isub, []), (38, .ireturn, [])]
/-- SleepWork$Evening.isAnswered(III)Z -/
def k_c8 : List (Nat × Instr × List Nat) := [(0, .aload_n 0, []), (1, .getfield 18, [0, 6]), (4, .iload_n 1, []), (5, .if_icmp .ne 21, [26]), (8, .aload_n 0, []), (9, .getfield 99, [0, 7]), (12, .iload_n 2, []), (13, .if_icmp .ne 13, [26]), (16, .aload_n 0, []), (17, .getfield 102, [0, 8]), (20, .iload_n 3, []), (21, .if_icmp .ne 5, [26]), (24, .iconst 1, []), (25, .ireturn, []), (26, .aload_n 0, []), (27, .iload_n 1, []), (28, .putfield 18, [0, 6]), (31, .aload_n 0, []), (32, .iload_n 2, []), (33, .putfield 99, [0, 7]), (36, .aload_n 0, []), (37, .iload_n 3, []), (38, .putfield 102, [0, 8]), (41, .aload_n 0, []), (42, .aload_n 0, []), (43, .getfield 30, [0, 4]), (46, .aload_n 0, []), (47, .getfield 34, [0, 1]), (50, .invokevirtual 81, [2, 27, 1, 1]), (53, .putfield 85, [0, 5]), (56, .aload_n 0, []), (57, .ldc 105, [0, 2294967296]), (59, .putfield 106, [0, 10]), (62, .iconst 0, []), (63, .ireturn, [])]
/-- SleepWork$Evening.offer(III)V -/
def k_c9 : List (Nat × Instr × List Nat) := [(0, .iload_n 1, []), (1, .aload_n 0, []), (2, .getfield 106, [0, 10]), (5, .if_icmp .le 18, [23]), (8, .aload_n 0, []), (9, .iload_n 1, []), (10, .putfield 106, [0, 10]), (13, .aload_n 0, []), (14, .iload_n 2, []), (15, .putfield 109, [0, 12]), (18, .aload_n 0, []), (19, .iload_n 3, []), (20, .putfield 112, [0, 13]), (23, .return_, [])]
/-- SleepWork$Evening.seekForOne(I)V -/
def k_c10 : List (Nat × Instr × List Nat) := [(0, .aload_n 0, []), (1, .iconst 0, []), (2, .iload_n 1, []), (3, .iconst (-1), []), (4, .invokevirtual 115, [2, 8, 3, 0]), (7, .ifCond .eq 4, [11]), (10, .return_, []), (11, .iconst (-1), []), (12, .istore_n 2, []), (13, .iload_n 2, []), (14, .bipush 36, []), (16, .if_icmp .ge 63, [79]), (19, .aload_n 0, []), (20, .getfield 30, [0, 4]), (23, .iload_n 2, []), (24, .invokevirtual 119, [2, 24, 1, 1]), (27, .ifCond .eq 46, [73]), (30, .aload_n 0, []), (31, .getfield 12, [0, 2]), (34, .aload_n 0, []), (35, .getfield 34, [0, 1]), (38, .invokevirtual 88, [2, 85, 1, 7]), (41, .aload_n 0, []), (42, .getfield 12, [0, 2]), (45, .getfield 123, [7, 2]), (48, .iload_n 1, []), (49, .iload_n 2, []), (50, .iastore, []), (51, .aload_n 0, []), (52, .aload_n 0, []), (53, .invokevirtual 92, [2, 7, 0, 0]), (56, .iload_n 2, []), (57, .iconst (-1), []), (58, .invokevirtual 126, [2, 9, 3, 0]), (61, .iload_n 2, []), (62, .ifCond .ge 11, [73]), (65, .aload_n 0, []), (66, .aload_n 0, []), (67, .getfield 106, [0, 10]), (70, .putfield 130, [0, 11]), (73, .iinc 2 1, []), (76, .goto (-63), [13]), (79, .return_, [])]
/-- SleepWork$Evening.seekForTwo(II)V -/
def k_c11 : List (Nat × Instr × List Nat) := [(0, .aload_n 0, []), (1, .iconst 1, []), (2, .iload_n 1, []), (3, .iload_n 2, []), (4, .invokevirtual 115, [2, 8, 3, 0]), (7, .ifCond .eq 4, [11]), (10, .return_, []), (11, .iconst (-1), []), (12, .istore_n 3, []), (13, .iload_n 3, []), (14, .bipush 36, []), (16, .if_icmp .ge 91, [107]), (19, .iconst (-1), []), (20, .istore 4, []), (22, .iload 4, []), (24, .bipush 36, []), (26, .if_icmp .ge 75, [101]), (29, .aload_n 0, []), (30, .getfield 30, [0, 4]), (33, .iload_n 3, []), (34, .invokevirtual 119, [2, 24, 1, 1]), (37, .ifCond .eq 64, [101]), (40, .aload_n 0, []), (41, .getfield 30, [0, 4]), (44, .iload 4, []), (46, .invokevirtual 119, [2, 24, 1, 1]), (49, .ifCond .eq 46, [95]), (52, .aload_n 0, []), (53, .getfield 12, [0, 2]), (56, .aload_n 0, []), (57, .getfield 34, [0, 1]), (60, .invokevirtual 88, [2, 85, 1, 7]), (63, .aload_n 0, []), (64, .getfield 12, [0, 2]), (67, .getfield 123, [7, 2]), (70, .iload_n 1, []), (71, .iload_n 3, []), (72, .iastore, []), (73, .aload_n 0, []), (74, .getfield 12, [0, 2]), (77, .getfield 123, [7, 2]), (80, .iload_n 2, []), (81, .iload 4, []), (83, .iastore, []), (84, .aload_n 0, []), (85, .aload_n 0, []), (86, .invokevirtual 92, [2, 7, 0, 0]), (89, .iload_n 3, []), (90, .iload 4, []), (92, .invokevirtual 126, [2, 9, 3, 0]), (95, .iinc 4 1, []), (98, .goto (-76), [22]), (101, .iinc 3 1, []), (104, .goto (-91), [13]), (107, .return_, [])]
/-- SleepWork$Evening.seekHidingPlace(I)V -/
def k_c12 : List (Nat × Instr × List Nat) := [(0, .aload_n 0, []), (1, .iconst 2, []), (2, .iload_n 1, []), (3, .iconst (-1), []), (4, .invokevirtual 115, [2, 8, 3, 0]), (7, .ifCond .eq 4, [11]), (10, .return_, []), (11, .iconst 0, []), (12, .istore_n 2, []), (13, .iload_n 2, []), (14, .aload_n 0, []), (15, .getfield 30, [0, 4]), (18, .getfield 133, [1, 13]), (21, .aload_n 0, []), (22, .getfield 30, [0, 4]), (25, .getfield 136, [1, 17]), (28, .iadd, []), (29, .if_icmp .ge 68, [97]), (32, .iload_n 2, []), (33, .aload_n 0, []), (34, .getfield 30, [0, 4]), (37, .getfield 133, [1, 13]), (40, .if_icmp .ge 7, [47]), (43, .iload_n 2, []), (44, .goto 15, [59]), (47, .bipush 100, []), (49, .iload_n 2, []), (50, .iadd, []), (51, .aload_n 0, []), (52, .getfield 30, [0, 4]), (55, .getfield 133, [1, 13]), (58, .isub, []), (59, .istore_n 3, []), (60, .aload_n 0, []), (61, .getfield 12, [0, 2]), (64, .aload_n 0, []), (65, .getfield 34, [0, 1]), (68, .invokevirtual 88, [2, 85, 1, 7]), (71, .aload_n 0, []), (72, .getfield 12, [0, 2]), (75, .getfield 139, [7, 3]), (78, .iload_n 1, []), (79, .iload_n 3, []), (80, .iastore, []), (81, .aload_n 0, []), (82, .aload_n 0, []), (83, .invokevirtual 92, [2, 7, 0, 0]), (86, .iload_n 3, []), (87, .iconst (-1), []), (88, .invokevirtual 126, [2, 9, 3, 0]), (91, .iinc 2 1, []), (94, .goto (-81), [13]), (97, .return_, [])]
/-- SleepWork$Evening.seekBars()V -/
def k_c13 : List (Nat × Instr × List Nat) := [(0, .aload_n 0, []), (1, .iconst 3, []), (2, .iconst (-1), []), (3, .iconst (-1), []), (4, .invokevirtual 115, [2, 8, 3, 0]), (7, .ifCond .eq 4, [11]), (10, .return_, []), (11, .iconst 1, []), (12, .aload_n 0, []), (13, .getfield 30, [0, 4]), (16, .getfield 142, [1, 14]), (19, .ishl, []), (20, .istore_n 1, []), (21, .aload_n 0, []), (22, .iconst 2, []), (23, .iload_n 1, []), (24, .imul, []), (25, .invokevirtual 145, [2, 15, 1, 0]), (28, .iconst 0, []), (29, .istore_n 2, []), (30, .iload_n 2, []), (31, .aload_n 0, []), (32, .getfield 30, [0, 4]), (35, .getfield 142, [1, 14]), (38, .if_icmp .gt 71, [109]), (41, .iconst 0, []), (42, .istore_n 3, []), (43, .iload_n 3, []), (44, .iload_n 1, []), (45, .if_icmp .ge 58, [103]), (48, .iload_n 3, []), (49, .invokestatic 149, [1, 243, 1]), (52, .iload_n 2, []), (53, .if_icmp .ne 44, [97]), (56, .aload_n 0, []), (57, .aload_n 0, []), (58, .iload_n 3, []), (59, .invokevirtual 155, [2, 14, 1, 0]), (62, .invokevirtual 159, [2, 16, 1, 0]), (65, .ifCond .eq 32, [97]), (68, .aload_n 0, []), (69, .getfield 12, [0, 2]), (72, .aload_n 0, []), (73, .getfield 34, [0, 1]), (76, .invokevirtual 88, [2, 85, 1, 7]), (79, .aload_n 0, []), (80, .getfield 12, [0, 2]), (83, .iload_n 3, []), (84, .putfield 62, [7, 7]), (87, .aload_n 0, []), (88, .aload_n 0, []), (89, .invokevirtual 92, [2, 7, 0, 0]), (92, .iload_n 3, []), (93, .iconst (-1), []), (94, .invokevirtual 126, [2, 9, 3, 0]), (97, .iinc 3 1, []), (100, .goto (-57), [43]), (103, .iinc 2 1, []), (106, .goto (-76), [30]), (109, .return_, [])]
/-- SleepWork$Evening.arrivals(I)J -/
def k_c14 : List (Nat × Instr × List Nat) := [(0, .lconst 0, []), (1, .lstore_n 2, []), (2, .iconst 0, []), (3, .istore 4, []), (5, .iload 4, []), (7, .aload_n 0, []), (8, .getfield 30, [0, 4]), (11, .getfield 136, [1, 17]), (14, .if_icmp .ge 105, [119]), (17, .aload_n 0, []), (18, .getfield 34, [0, 1]), (21, .getfield 123, [7, 2]), (24, .iload 4, []), (26, .iaload, []), (27, .istore 5, []), (29, .ldc 163, [0, 1000000]), (31, .istore 6, []), (33, .iload 5, []), (35, .ifCond .lt 47, [82]), (38, .aload_n 0, []), (39, .getfield 30, [0, 4]), (42, .getfield 164, [1, 3]), (45, .iload 5, []), (47, .bipush 6, []), (49, .idiv, []), (50, .iaload, []), (51, .istore 7, []), (53, .aload_n 0, []), (54, .getfield 46, [0, 0]), (57, .getfield 50, [6, 0]), (60, .aload_n 0, []), (61, .getfield 30, [0, 4]), (64, .iload_n 1, []), (65, .aload_n 0, []), (66, .getfield 30, [0, 4]), (69, .getfield 167, [1, 11]), (72, .iload 4, []), (74, .iaload, []), (75, .iload 7, []), (77, .invokevirtual 65, [2, 95, 4, 10]), (80, .istore 6, []), (82, .lload_n 2, []), (83, .bipush 9, []), (85, .lshl, []), (86, .iload 6, []), (88, .aload_n 0, []), (89, .getfield 30, [0, 4]), (92, .getfield 69, [1, 18]), (95, .if_icmp .lt 9, [104]), (98, .sipush 511, []), (101, .goto 9, [110]), (104, .iload 6, []), (106, .sipush 511, []), (109, .iand, []), (110, .i2l, []), (111, .lor, []), (112, .lstore_n 2, []), (113, .iinc 4 1, []), (116, .goto (-111), [5]), (119, .lload_n 2, []), (120, .lreturn, [])]
/-- SleepWork$Evening.clearSeen(I)V -/
def k_c15 : List (Nat × Instr × List Nat) := [(0, .aload_n 0, []), (1, .getfield 22, [0, 9]), (4, .arraylength, []), (5, .iload_n 1, []), (6, .if_icmp .ge 10, [16]), (9, .aload_n 0, []), (10, .iload_n 1, []), (11, .newarray .long, [3]), (13, .putfield 22, [0, 9]), (16, .aload_n 0, []), (17, .getfield 22, [0, 9]), (20, .lconst 0, []), (21, .invokestatic 170, [1, 267, 2]), (24, .return_, [])]
/-- SleepWork$Evening.isNew(J)Z -/
def k_c16 : List (Nat × Instr × List Nat) := [(0, .lload_n 1, []), (1, .lconst 1, []), (2, .ladd, []), (3, .ldc2_w 176, [11400714819323198485]), (6, .lmul, []), (7, .lstore_n 3, []), (8, .aload_n 0, []), (9, .getfield 22, [0, 9]), (12, .arraylength, []), (13, .iconst 1, []), (14, .isub, []), (15, .istore 5, []), (17, .lload_n 3, []), (18, .bipush 40, []), (20, .lushr, []), (21, .l2i, []), (22, .iload 5, []), (24, .iand, []), (25, .istore 6, []), (27, .iconst 0, []), (28, .istore 7, []), (30, .iload 7, []), (32, .aload_n 0, []), (33, .getfield 22, [0, 9]), (36, .arraylength, []), (37, .if_icmp .ge 58, [95]), (40, .aload_n 0, []), (41, .getfield 22, [0, 9]), (44, .iload 6, []), (46, .laload, []), (47, .lload_n 1, []), (48, .lconst 1, []), (49, .ladd, []), (50, .lcmp, []), (51, .ifCond .ne 5, [56]), (54, .iconst 0, []), (55, .ireturn, []), (56, .aload_n 0, []), (57, .getfield 22, [0, 9]), (60, .iload 6, []), (62, .laload, []), (63, .lconst 0, []), (64, .lcmp, []), (65, .ifCond .ne 15, [80]), (68, .aload_n 0, []), (69, .getfield 22, [0, 9]), (72, .iload 6, []), (74, .lload_n 1, []), (75, .lconst 1, []), (76, .ladd, []), (77, .lastore, []), (78, .iconst 1, []), (79, .ireturn, []), (80, .iload 6, []), (82, .iconst 1, []), (83, .iadd, []), (84, .iload 5, []), (86, .iand, []), (87, .istore 6, []), (89, .iinc 7 1, []), (92, .goto (-62), [30]), (95, .iconst 1, []), (96, .ireturn, [])]
/-- SleepWork$Evening.seekFits(II)V -/
def k_c17 : List (Nat × Instr × List Nat) := [(0, .aload_n 0, []), (1, .iconst 4, []), (2, .iload_n 1, []), (3, .iload_n 2, []), (4, .invokevirtual 115, [2, 8, 3, 0]), (7, .ifCond .eq 4, [11]), (10, .return_, []), (11, .aload_n 0, []), (12, .iconst 0, []), (13, .putfield 178, [0, 15]), (16, .iconst (-1), []), (17, .istore_n 3, []), (18, .iload_n 3, []), (19, .bipush 36, []), (21, .if_icmp .ge 98, [119]), (24, .aload_n 0, []), (25, .getfield 30, [0, 4]), (28, .iload_n 3, []), (29, .invokevirtual 119, [2, 24, 1, 1]), (32, .ifCond .eq 81, [113]), (35, .aload_n 0, []), (36, .getfield 12, [0, 2]), (39, .aload_n 0, []), (40, .getfield 34, [0, 1]), (43, .invokevirtual 88, [2, 85, 1, 7]), (46, .aload_n 0, []), (47, .getfield 12, [0, 2]), (50, .getfield 123, [7, 2]), (53, .iload_n 1, []), (54, .iload_n 3, []), (55, .iastore, []), (56, .aload_n 0, []), (57, .getfield 46, [0, 0]), (60, .aload_n 0, []), (61, .getfield 30, [0, 4]), (64, .getfield 69, [1, 18]), (67, .aload_n 0, []), (68, .getfield 30, [0, 4]), (71, .aload_n 0, []), (72, .getfield 12, [0, 2]), (75, .invokevirtual 74, [2, 75, 3, 6]), (78, .aload_n 0, []), (79, .getfield 37, [0, 3]), (82, .aload_n 0, []), (83, .getfield 12, [0, 2]), (86, .iload_n 2, []), (87, .invokevirtual 181, [2, 92, 2, 9]), (90, .ifCond .eq 23, [113]), (93, .aload_n 0, []), (94, .getfield 26, [0, 14]), (97, .aload_n 0, []), (98, .getfield 178, [0, 15]), (101, .iload_n 3, []), (102, .iastore, []), (103, .aload_n 0, []), (104, .dup, []), (105, .getfield 178, [0, 15]), (108, .iconst 1, []), (109, .iadd, []), (110, .putfield 178, [0, 15]), (113, .iinc 3 1, []), (116, .goto (-98), [18]), (119, .return_, [])]
/-- SleepWork$Evening.suspectBits(I)I -/
def k_c18 : List (Nat × Instr × List Nat) := [(0, .iconst 0, []), (1, .istore_n 2, []), (2, .iconst 0, []), (3, .istore_n 3, []), (4, .iload_n 3, []), (5, .aload_n 0, []), (6, .getfield 30, [0, 4]), (9, .getfield 136, [1, 17]), (12, .if_icmp .ge 24, [36]), (15, .aload_n 0, []), (16, .iload_n 3, []), (17, .iload_n 1, []), (18, .invokevirtual 187, [2, 19, 2, 0]), (21, .ifCond .eq 9, [30]), (24, .iload_n 2, []), (25, .iconst 1, []), (26, .iload_n 3, []), (27, .ishl, []), (28, .ior, []), (29, .istore_n 2, []), (30, .iinc 3 1, []), (33, .goto (-29), [4]), (36, .iload_n 2, []), (37, .ireturn, [])]
/-- SleepWork$Evening.isSuspect(II)Z -/
def k_c19 : List (Nat × Instr × List Nat) := [(0, .iconst (-1), []), (1, .istore_n 3, []), (2, .iload_n 3, []), (3, .bipush 36, []), (5, .if_icmp .ge 93, [98]), (8, .aload_n 0, []), (9, .getfield 30, [0, 4]), (12, .iload_n 3, []), (13, .invokevirtual 119, [2, 24, 1, 1]), (16, .ifCond .eq 76, [92]), (19, .iload_n 3, []), (20, .aload_n 0, []), (21, .getfield 34, [0, 1]), (24, .getfield 123, [7, 2]), (27, .iload_n 1, []), (28, .iaload, []), (29, .if_icmp .eq 63, [92]), (32, .aload_n 0, []), (33, .getfield 12, [0, 2]), (36, .aload_n 0, []), (37, .getfield 34, [0, 1]), (40, .invokevirtual 88, [2, 85, 1, 7]), (43, .aload_n 0, []), (44, .getfield 12, [0, 2]), (47, .getfield 123, [7, 2]), (50, .iload_n 1, []), (51, .iload_n 3, []), (52, .iastore, []), (53, .aload_n 0, []), (54, .getfield 46, [0, 0]), (57, .aload_n 0, []), (58, .getfield 30, [0, 4]), (61, .getfield 69, [1, 18]), (64, .aload_n 0, []), (65, .getfield 30, [0, 4]), (68, .aload_n 0, []), (69, .getfield 12, [0, 2]), (72, .invokevirtual 74, [2, 75, 3, 6]), (75, .aload_n 0, []), (76, .getfield 37, [0, 3]), (79, .aload_n 0, []), (80, .getfield 12, [0, 2]), (83, .iload_n 2, []), (84, .invokevirtual 181, [2, 92, 2, 9]), (87, .ifCond .eq 5, [92]), (90, .iconst 1, []), (91, .ireturn, []), (92, .iinc 3 1, []), (95, .goto (-93), [2]), (98, .iconst 0, []), (99, .ireturn, [])]
/-- SleepWork$Evening.fittingPairs(III)I -/
def k_c20 : List (Nat × Instr × List Nat) := [(0, .iconst 0, []), (1, .istore 4, []), (3, .iconst (-1), []), (4, .istore 5, []), (6, .iload 5, []), (8, .bipush 36, []), (10, .if_icmp .ge 129, [139]), (13, .iconst (-1), []), (14, .istore 6, []), (16, .iload 6, []), (18, .bipush 36, []), (20, .if_icmp .ge 113, [133]), (23, .aload_n 0, []), (24, .getfield 30, [0, 4]), (27, .iload 5, []), (29, .invokevirtual 119, [2, 24, 1, 1]), (32, .ifCond .eq 101, [133]), (35, .aload_n 0, []), (36, .getfield 30, [0, 4]), (39, .iload 6, []), (41, .invokevirtual 119, [2, 24, 1, 1]), (44, .ifCond .eq 83, [127]), (47, .aload_n 0, []), (48, .getfield 12, [0, 2]), (51, .aload_n 0, []), (52, .getfield 34, [0, 1]), (55, .invokevirtual 88, [2, 85, 1, 7]), (58, .aload_n 0, []), (59, .getfield 12, [0, 2]), (62, .getfield 123, [7, 2]), (65, .iload_n 1, []), (66, .iload 5, []), (68, .iastore, []), (69, .aload_n 0, []), (70, .getfield 12, [0, 2]), (73, .getfield 123, [7, 2]), (76, .iload_n 2, []), (77, .iload 6, []), (79, .iastore, []), (80, .aload_n 0, []), (81, .getfield 46, [0, 0]), (84, .aload_n 0, []), (85, .getfield 30, [0, 4]), (88, .getfield 69, [1, 18]), (91, .aload_n 0, []), (92, .getfield 30, [0, 4]), (95, .aload_n 0, []), (96, .getfield 12, [0, 2]), (99, .invokevirtual 74, [2, 75, 3, 6]), (102, .iload 4, []), (104, .aload_n 0, []), (105, .getfield 37, [0, 3]), (108, .aload_n 0, []), (109, .getfield 12, [0, 2]), (112, .iload_n 3, []), (113, .invokevirtual 181, [2, 92, 2, 9]), (116, .ifCond .eq 7, [123]), (119, .iconst 1, []), (120, .goto 4, [124]), (123, .iconst 0, []), (124, .iadd, []), (125, .istore 4, []), (127, .iinc 6 1, []), (130, .goto (-114), [16]), (133, .iinc 5 1, []), (136, .goto (-130), [6]), (139, .iload 4, []), (141, .ireturn, [])]
/-- SleepWork$House.<init>()V -/
def k_c21 : List (Nat × Instr × List Nat) := [(0, .aload_n 0, []), (1, .invokespecial 3, [0]), (4, .aload_n 0, []), (5, .bipush 12, []), (7, .newarray .int, [0]), (9, .putfield 9, [1, 0]), (12, .aload_n 0, []), (13, .bipush 12, []), (15, .newarray .int, [0]), (17, .putfield 15, [1, 1]), (20, .aload_n 0, []), (21, .bipush 12, []), (23, .newarray .int, [0]), (25, .putfield 18, [1, 2]), (28, .aload_n 0, []), (29, .bipush 6, []), (31, .newarray .int, [0]), (33, .putfield 21, [1, 3]), (36, .aload_n 0, []), (37, .bipush 6, []), (39, .newarray .int, [0]), (41, .putfield 24, [1, 4]), (44, .aload_n 0, []), (45, .bipush 36, []), (47, .newarray .int, [0]), (49, .putfield 27, [1, 5]), (52, .aload_n 0, []), (53, .bipush 36, []), (55, .newarray .int, [0]), (57, .putfield 30, [1, 6]), (60, .aload_n 0, []), (61, .bipush 36, []), (63, .newarray .int, [0]), (65, .putfield 33, [1, 7]), (68, .aload_n 0, []), (69, .bipush 36, []), (71, .newarray .int, [0]), (73, .putfield 36, [1, 8]), (76, .aload_n 0, []), (77, .bipush 36, []), (79, .newarray .int, [0]), (81, .putfield 39, [1, 9]), (84, .aload_n 0, []), (85, .bipush 36, []), (87, .newarray .int, [0]), (89, .putfield 42, [1, 10]), (92, .aload_n 0, []), (93, .bipush 6, []), (95, .newarray .int, [0]), (97, .putfield 45, [1, 11]), (100, .aload_n 0, []), (101, .new 48, [2]), (104, .dup, []), (105, .invokespecial 50, [4, 29, 0]), (108, .putfield 51, [1, 12]), (111, .aload_n 0, []), (112, .invokevirtual 55, [2, 22, 0, 1]), (115, .return_, [])]
/-- SleepWork$House.clear()V -/
def k_c22 : List (Nat × Instr × List Nat) := [(0, .aload_n 0, []), (1, .iconst 0, []), (2, .putfield 58, [1, 13]), (5, .aload_n 0, []), (6, .iconst 0, []), (7, .putfield 62, [1, 14]), (10, .aload_n 0, []), (11, .iconst 0, []), (12, .putfield 65, [1, 15]), (15, .aload_n 0, []), (16, .iconst 0, []), (17, .putfield 68, [1, 16]), (20, .aload_n 0, []), (21, .iconst 0, []), (22, .putfield 71, [1, 17]), (25, .aload_n 0, []), (26, .sipush 480, []), (29, .putfield 74, [1, 18]), (32, .aload_n 0, []), (33, .getfield 24, [1, 4]), (36, .iconst 0, []), (37, .invokestatic 77, [1, 268, 2]), (40, .aload_n 0, []), (41, .getfield 51, [1, 12]), (44, .invokevirtual 83, [2, 30, 0, 2]), (47, .return_, [])]
/-- SleepWork$House.hasStep(II)Z -/
def k_c23 : List (Nat × Instr × List Nat) := [(0, .iload_n 1, []), (1, .ifCond .lt 29, [30]), (4, .iload_n 1, []), (5, .aload_n 0, []), (6, .getfield 68, [1, 16]), (9, .if_icmp .ge 21, [30]), (12, .iload_n 2, []), (13, .ifCond .lt 17, [30]), (16, .iload_n 2, []), (17, .aload_n 0, []), (18, .getfield 24, [1, 4]), (21, .iload_n 1, []), (22, .iaload, []), (23, .if_icmp .ge 7, [30]), (26, .iconst 1, []), (27, .goto 4, [31]), (30, .iconst 0, []), (31, .ireturn, [])]
/-- SleepWork$House.mayBeLeft(I)Z -/
def k_c24 : List (Nat × Instr × List Nat) := [(0, .iload_n 1, []), (1, .ifCond .lt 19, [20]), (4, .iload_n 1, []), (5, .bipush 6, []), (7, .irem, []), (8, .aload_n 0, []), (9, .getfield 24, [1, 4]), (12, .iload_n 1, []), (13, .bipush 6, []), (15, .idiv, []), (16, .iaload, []), (17, .if_icmp .ge 7, [24]), (20, .iconst 1, []), (21, .goto 4, [25]), (24, .iconst 0, []), (25, .ireturn, [])]
/-- SleepWork$House.isEnded(LSleepWork$State;I)Z -/
def k_c25 : List (Nat × Instr × List Nat) := [(0, .iload_n 2, []), (1, .bipush 6, []), (3, .imul, []), (4, .aload_n 0, []), (5, .getfield 24, [1, 4]), (8, .iload_n 2, []), (9, .iaload, []), (10, .iadd, []), (11, .istore_n 3, []), (12, .iload_n 2, []), (13, .bipush 6, []), (15, .imul, []), (16, .istore 4, []), (18, .iload 4, []), (20, .iload_n 3, []), (21, .if_icmp .ge 28, [49]), (24, .aload_n 1, []), (25, .getfield 84, [7, 0]), (28, .iload 4, []), (30, .iaload, []), (31, .aload_n 0, []), (32, .getfield 30, [1, 6]), (35, .iload 4, []), (37, .iaload, []), (38, .if_icmp .ge 5, [43]), (41, .iconst 0, []), (42, .ireturn, []), (43, .iinc 4 1, []), (46, .goto (-28), [18]), (49, .iconst 1, []), (50, .ireturn, [])]
/-- SleepWork$House.worth(LSleepWork$State;I)I -/
def k_c26 : List (Nat × Instr × List Nat) := [(0, .iconst 0, []), (1, .istore_n 3, []), (2, .iload_n 2, []), (3, .bipush 6, []), (5, .imul, []), (6, .aload_n 0, []), (7, .getfield 24, [1, 4]), (10, .iload_n 2, []), (11, .iaload, []), (12, .iadd, []), (13, .istore 4, []), (15, .iload_n 2, []), (16, .bipush 6, []), (18, .imul, []), (19, .istore 5, []), (21, .iload 5, []), (23, .iload 4, []), (25, .if_icmp .ge 60, [85]), (28, .aload_n 1, []), (29, .getfield 84, [7, 0]), (32, .iload 5, []), (34, .iaload, []), (35, .aload_n 0, []), (36, .getfield 30, [1, 6]), (39, .iload 5, []), (41, .iaload, []), (42, .invokestatic 89, [8]), (45, .istore 6, []), (47, .iload_n 3, []), (48, .iload 6, []), (50, .aload_n 0, []), (51, .getfield 33, [1, 7]), (54, .iload 5, []), (56, .iaload, []), (57, .imul, []), (58, .aload_n 1, []), (59, .getfield 84, [7, 0]), (62, .iload 5, []), (64, .iaload, []), (65, .iload 6, []), (67, .isub, []), (68, .aload_n 0, []), (69, .getfield 36, [1, 8]), (72, .iload 5, []), (74, .iaload, []), (75, .imul, []), (76, .isub, []), (77, .iadd, []), (78, .istore_n 3, []), (79, .iinc 5 1, []), (82, .goto (-61), [21]), (85, .iload_n 3, []), (86, .ireturn, [])]
/-- SleepWork$House.worthOfAll(LSleepWork$State;)I -/
def k_c27 : List (Nat × Instr × List Nat) := [(0, .iconst 0, []), (1, .istore_n 2, []), (2, .iconst 0, []), (3, .istore_n 3, []), (4, .iload_n 3, []), (5, .aload_n 0, []), (6, .getfield 68, [1, 16]), (9, .if_icmp .ge 18, [27]), (12, .iload_n 2, []), (13, .aload_n 0, []), (14, .aload_n 1, []), (15, .iload_n 3, []), (16, .invokevirtual 95, [2, 26, 2, 1]), (19, .iadd, []), (20, .istore_n 2, []), (21, .iinc 3 1, []), (24, .goto (-20), [4]), (27, .iload_n 2, []), (28, .ireturn, [])]
/-- SleepWork$House.finish(LSleepWork$State;II)V -/
def k_c28 : List (Nat × Instr × List Nat) := [(0, .iload_n 2, []), (1, .bipush 6, []), (3, .imul, []), (4, .iload_n 3, []), (5, .iadd, []), (6, .istore 4, []), (8, .aload_n 1, []), (9, .getfield 84, [7, 0]), (12, .iload 4, []), (14, .dup2, []), (15, .iaload, []), (16, .iconst 1, []), (17, .iadd, []), (18, .iastore, []), (19, .aload_n 0, []), (20, .getfield 42, [1, 10]), (23, .iload 4, []), (25, .iaload, []), (26, .istore 5, []), (28, .iload 5, []), (30, .ifCond .lt 34, [64]), (33, .aload_n 1, []), (34, .getfield 84, [7, 0]), (37, .iload_n 2, []), (38, .bipush 6, []), (40, .imul, []), (41, .iload 5, []), (43, .iadd, []), (44, .iaload, []), (45, .ifCond .le 19, [64]), (48, .aload_n 1, []), (49, .getfield 84, [7, 0]), (52, .iload_n 2, []), (53, .bipush 6, []), (55, .imul, []), (56, .iload 5, []), (58, .iadd, []), (59, .dup2, []), (60, .iaload, []), (61, .iconst 1, []), (62, .isub, []), (63, .iastore, []), (64, .return_, [])]
/-- SleepWork$Laws.<init>()V -/
def k_c29 : List (Nat × Instr × List Nat) := [(0, .aload_n 0, []), (1, .invokespecial 3, [0]), (4, .aload_n 0, []), (5, .bipush 6, []), (7, .newarray .int, [0]), (9, .putfield 9, [2, 0]), (12, .aload_n 0, []), (13, .sipush 400, []), (16, .newarray .int, [0]), (18, .putfield 15, [2, 1]), (21, .aload_n 0, []), (22, .sipush 400, []), (25, .newarray .int, [0]), (27, .putfield 18, [2, 2]), (30, .aload_n 0, []), (31, .bipush 32, []), (33, .newarray .int, [0]), (35, .putfield 21, [2, 3]), (38, .return_, [])]
/-- SleepWork$Laws.clear()V -/
def k_c30 : List (Nat × Instr × List Nat) := [(0, .aload_n 0, []), (1, .iconst 0, []), (2, .putfield 24, [2, 4]), (5, .aload_n 0, []), (6, .getfield 9, [2, 0]), (9, .iconst (-1), []), (10, .invokestatic 28, [1, 268, 2]), (13, .return_, [])]
/-- SleepWork$Laws.add(II)I -/
def k_c31 : List (Nat × Instr × List Nat) := [(0, .aload_n 0, []), (1, .getfield 24, [2, 4]), (4, .sipush 400, []), (7, .if_icmp .ge 33, [40]), (10, .aload_n 0, []), (11, .getfield 15, [2, 1]), (14, .aload_n 0, []), (15, .getfield 24, [2, 4]), (18, .iload_n 1, []), (19, .iastore, []), (20, .aload_n 0, []), (21, .getfield 18, [2, 2]), (24, .aload_n 0, []), (25, .getfield 24, [2, 4]), (28, .iload_n 2, []), (29, .iastore, []), (30, .aload_n 0, []), (31, .dup, []), (32, .getfield 24, [2, 4]), (35, .iconst 1, []), (36, .iadd, []), (37, .putfield 24, [2, 4]), (40, .aload_n 0, []), (41, .getfield 24, [2, 4]), (44, .iconst 1, []), (45, .isub, []), (46, .ireturn, [])]
/-- SleepWork$Laws.aimHere(I)V -/
def k_c32 : List (Nat × Instr × List Nat) := [(0, .iload_n 1, []), (1, .ifCond .lt 21, [22]), (4, .iload_n 1, []), (5, .aload_n 0, []), (6, .getfield 24, [2, 4]), (9, .if_icmp .ge 13, [22]), (12, .aload_n 0, []), (13, .getfield 18, [2, 2]), (16, .iload_n 1, []), (17, .aload_n 0, []), (18, .getfield 24, [2, 4]), (21, .iastore, []), (22, .return_, [])]
/-- SleepWork$Laws.tellsTo(I[I)I -/
def k_c33 : List (Nat × Instr × List Nat) := [(0, .aload_n 0, []), (1, .getfield 9, [2, 0]), (4, .iload_n 1, []), (5, .iaload, []), (6, .istore_n 3, []), (7, .iconst (-1), []), (8, .istore 4, []), (10, .iconst 0, []), (11, .istore 5, []), (13, .iload 5, []), (15, .aload_n 0, []), (16, .getfield 24, [2, 4]), (19, .if_icmp .ge 214, [233]), (22, .iload_n 3, []), (23, .ifCond .lt 210, [233]), (26, .iload_n 3, []), (27, .aload_n 0, []), (28, .getfield 24, [2, 4]), (31, .if_icmp .ge 202, [233]), (34, .aload_n 0, []), (35, .getfield 15, [2, 1]), (38, .iload_n 3, []), (39, .iaload, []), (40, .istore 6, []), (42, .aload_n 0, []), (43, .getfield 18, [2, 2]), (46, .iload_n 3, []), (47, .iaload, []), (48, .istore 7, []), (50, .iinc 3 1, []), (53, .iload 6, []), (55, .ifCond .ne 21, [76]), (58, .iload 4, []), (60, .ifCond .ne 12, [72]), (63, .aload_n 0, []), (64, .getfield 21, [2, 3]), (67, .iconst 0, []), (68, .iaload, []), (69, .goto 6, [75]), (72, .aload_n 2, []), (73, .iconst 0, []), (74, .iaload, []), (75, .ireturn, []), (76, .iload 6, []), (78, .iconst 1, []), (79, .if_icmp .eq 9, [88]), (82, .iload 6, []), (84, .iconst 2, []), (85, .if_icmp .ne 45, [130]), (88, .iinc 4 1, []), (91, .iload 4, []), (93, .aload_n 0, []), (94, .getfield 21, [2, 3]), (97, .arraylength, []), (98, .if_icmp .lt 7, [105]), (101, .aload_n 2, []), (102, .iconst 0, []), (103, .iaload, []), (104, .ireturn, []), (105, .aload_n 0, []), (106, .getfield 21, [2, 3]), (109, .iload 4, []), (111, .iload 6, []), (113, .iconst 1, []), (114, .if_icmp .ne 8, [122]), (117, .iload 7, []), (119, .goto 7, [126]), (122, .aload_n 2, []), (123, .iload 7, []), (125, .iaload, []), (126, .iastore, []), (127, .goto 100, [227]), (130, .iload 4, []), (132, .iconst 1, []), (133, .if_icmp .lt 20, [153]), (136, .iload 6, []), (138, .bipush 47, []), (140, .if_icmp .ne 17, [157]), (143, .aload_n 0, []), (144, .getfield 21, [2, 3]), (147, .iload 4, []), (149, .iaload, []), (150, .ifCond .ne 7, [157]), (153, .aload_n 2, []), (154, .iconst 0, []), (155, .iaload, []), (156, .ireturn, []), (157, .iinc 4 (-1), []), (160, .iload 6, []), (162, .bipush 60, []), (164, .if_icmp .ne 35, [199]), (167, .aload_n 0, []), (168, .getfield 21, [2, 3]), (171, .iload 4, []), (173, .iaload, []), (174, .aload_n 0, []), (175, .getfield 21, [2, 3]), (178, .iload 4, []), (180, .iconst 1, []), (181, .iadd, []), (182, .iaload, []), (183, .if_icmp .ge 7, [190]), (186, .iload_n 3, []), (187, .goto 5, [192]), (190, .iload 7, []), (192, .istore_n 3, []), (193, .iinc 4 (-1), []), (196, .goto 31, [227]), (199, .aload_n 0, []), (200, .getfield 21, [2, 3]), (203, .iload 4, []), (205, .iload 6, []), (207, .aload_n 0, []), (208, .getfield 21, [2, 3]), (211, .iload 4, []), (213, .iaload, []), (214, .aload_n 0, []), (215, .getfield 21, [2, 3]), (218, .iload 4, []), (220, .iconst 1, []), (221, .iadd, []), (222, .iaload, []), (223, .invokestatic 34, [1, 34, 3]), (226, .iastore, []), (227, .iinc 5 1, []), (230, .goto (-217), [13]), (233, .aload_n 2, []), (234, .iconst 0, []), (235, .iaload, []), (236, .ireturn, [])]
/-- SleepWork$Laws.joined(III)I -/
def k_c34 : List (Nat × Instr × List Nat) := [(0, .iload_n 0, []), (1, .tableswitch 43 42 45 #[39, 31, 43, 35], [44, 40, 32, 44, 36]), (32, .iload_n 1, []), (33, .iload_n 2, []), (34, .iadd, []), (35, .ireturn, []), (36, .iload_n 1, []), (37, .iload_n 2, []), (38, .isub, []), (39, .ireturn, []), (40, .iload_n 1, []), (41, .iload_n 2, []), (42, .imul, []), (43, .ireturn, []), (44, .iload_n 2, []), (45, .ifCond .ne 7, [52]), (48, .iconst 0, []), (49, .goto 6, [55]), (52, .iload_n 1, []), (53, .iload_n 2, []), (54, .idiv, []), (55, .ireturn, [])]
/-- SleepWork$Past.<init>()V -/
def k_c35 : List (Nat × Instr × List Nat) := [(0, .aload_n 0, []), (1, .invokespecial 1, [0]), (4, .aload_n 0, []), (5, .bipush 20, []), (7, .anewarray 9, [4]), (10, .putfield 11, [3, 0]), (13, .iconst 0, []), (14, .istore_n 1, []), (15, .iload_n 1, []), (16, .bipush 20, []), (18, .if_icmp .ge 22, [40]), (21, .aload_n 0, []), (22, .getfield 11, [3, 0]), (25, .iload_n 1, []), (26, .new 9, [7]), (29, .dup, []), (30, .invokespecial 15, [3, 83, 0]), (33, .aastore, []), (34, .iinc 1 1, []), (37, .goto (-22), [15]), (40, .return_, [])]
/-- SleepWork$Past.push(LSleepWork$State;)V -/
def k_c36 : List (Nat × Instr × List Nat) := [(0, .aload_n 0, []), (1, .getfield 16, [3, 2]), (4, .bipush 20, []), (6, .if_icmp .ne 19, [25]), (9, .aload_n 0, []), (10, .aload_n 0, []), (11, .getfield 20, [3, 1]), (14, .iconst 1, []), (15, .iadd, []), (16, .bipush 20, []), (18, .irem, []), (19, .putfield 20, [3, 1]), (22, .goto 13, [35]), (25, .aload_n 0, []), (26, .dup, []), (27, .getfield 16, [3, 2]), (30, .iconst 1, []), (31, .iadd, []), (32, .putfield 16, [3, 2]), (35, .aload_n 0, []), (36, .getfield 11, [3, 0]), (39, .aload_n 0, []), (40, .getfield 20, [3, 1]), (43, .aload_n 0, []), (44, .getfield 16, [3, 2]), (47, .iadd, []), (48, .iconst 1, []), (49, .isub, []), (50, .bipush 20, []), (52, .irem, []), (53, .aaload, []), (54, .aload_n 1, []), (55, .invokevirtual 23, [2, 85, 1, 7]), (58, .return_, [])]
/-- SleepWork$Past.pull(LSleepWork$State;)Z -/
def k_c37 : List (Nat × Instr × List Nat) := [(0, .aload_n 0, []), (1, .getfield 16, [3, 2]), (4, .ifCond .ne 5, [9]), (7, .iconst 0, []), (8, .ireturn, []), (9, .aload_n 0, []), (10, .dup, []), (11, .getfield 16, [3, 2]), (14, .iconst 1, []), (15, .isub, []), (16, .putfield 16, [3, 2]), (19, .aload_n 1, []), (20, .aload_n 0, []), (21, .getfield 11, [3, 0]), (24, .aload_n 0, []), (25, .getfield 20, [3, 1]), (28, .aload_n 0, []), (29, .getfield 16, [3, 2]), (32, .iadd, []), (33, .bipush 20, []), (35, .irem, []), (36, .aaload, []), (37, .invokevirtual 23, [2, 85, 1, 7]), (40, .iconst 1, []), (41, .ireturn, [])]
/-- SleepWork$Reader.<init>(LSleepWork$House;LSleepWork$State;)V -/
def k_c38 : List (Nat × Instr × List Nat) := [(0, .aload_n 0, []), (1, .invokespecial 3, [0]), (4, .aload_n 0, []), (5, .new 9, [5]), (8, .dup, []), (9, .invokespecial 11, [3, 66, 0]), (12, .putfield 12, [4, 0]), (15, .aload_n 0, []), (16, .bipush 8, []), (18, .newarray .long, [3]), (20, .putfield 18, [4, 1]), (23, .aload_n 0, []), (24, .bipush 6, []), (26, .newarray .long, [3]), (28, .putfield 22, [4, 2]), (31, .aload_n 0, []), (32, .bipush 6, []), (34, .newarray .long, [3]), (36, .putfield 25, [4, 3]), (39, .aload_n 0, []), (40, .bipush 6, []), (42, .newarray .long, [3]), (44, .putfield 28, [4, 4]), (47, .aload_n 0, []), (48, .aload_n 1, []), (49, .putfield 31, [4, 5]), (52, .aload_n 0, []), (53, .aload_n 2, []), (54, .putfield 35, [4, 6]), (57, .return_, [])]
/-- SleepWork$Reader.readText(LSleepWork$Tape;LSleepWork$House;LSleepWork$State;)I -/
def k_c39 : List (Nat × Instr × List Nat) := [(0, .aload_n 0, []), (1, .aload_n 1, []), (2, .aload_n 2, []), (3, .aload_n 3, []), (4, .invokevirtual 39, [2, 41, 3, 4]), (7, .iconst 0, []), (8, .istore 4, []), (10, .iload 4, []), (12, .sipush 400, []), (15, .if_icmp .gt 156, [171]), (18, .aload_n 0, []), (19, .getfield 43, [4, 10]), (22, .ifCond .ne 149, [171]), (25, .aload_n 0, []), (26, .bipush 102, []), (28, .invokevirtual 47, [2, 44, 1, 4]), (31, .ifCond .ne 140, [171]), (34, .aload_n 0, []), (35, .getfield 12, [4, 0]), (38, .getfield 51, [5, 0]), (41, .aload_n 0, []), (42, .getfield 55, [4, 7]), (45, .iaload, []), (46, .tableswitch 102 0 7 #[46, 53, 60, 67, 74, 81, 88, 95], [148, 92, 99, 106, 113, 120, 127, 134, 141]), (92, .aload_n 0, []), (93, .invokevirtual 58, [2, 52, 0, 4]), (96, .goto 69, [165]), (99, .aload_n 0, []), (100, .invokevirtual 61, [2, 53, 0, 4]), (103, .goto 62, [165]), (106, .aload_n 0, []), (107, .invokevirtual 64, [2, 54, 0, 4]), (110, .goto 55, [165]), (113, .aload_n 0, []), (114, .invokevirtual 67, [2, 55, 0, 4]), (117, .goto 48, [165]), (120, .aload_n 0, []), (121, .invokevirtual 70, [2, 56, 0, 4]), (124, .goto 41, [165]), (127, .aload_n 0, []), (128, .invokevirtual 73, [2, 58, 0, 4]), (131, .goto 34, [165]), (134, .aload_n 0, []), (135, .invokevirtual 76, [2, 60, 0, 4]), (138, .goto 27, [165]), (141, .aload_n 0, []), (142, .invokevirtual 79, [2, 59, 0, 4]), (145, .goto 20, [165]), (148, .aload_n 0, []), (149, .iconst 1, []), (150, .aload_n 0, []), (151, .getfield 12, [4, 0]), (154, .getfield 82, [5, 1]), (157, .aload_n 0, []), (158, .getfield 55, [4, 7]), (161, .iaload, []), (162, .invokevirtual 85, [2, 42, 2, 4]), (165, .iinc 4 1, []), (168, .goto (-158), [10]), (171, .aload_n 0, []), (172, .getfield 43, [4, 10]), (175, .ifCond .ne 19, [194]), (178, .aload_n 0, []), (179, .aload_n 0, []), (180, .getfield 89, [4, 12]), (183, .putfield 43, [4, 10]), (186, .aload_n 0, []), (187, .aload_n 0, []), (188, .getfield 92, [4, 13]), (191, .putfield 95, [4, 11]), (194, .aload_n 0, []), (195, .getfield 43, [4, 10]), (198, .ireturn, [])]
/-- SleepWork$Reader.placeOfFault()I -/
def k_c40 : List (Nat × Instr × List Nat) := [(0, .aload_n 0, []), (1, .getfield 43, [4, 10]), (4, .ifCond .ne 7, [11]), (7, .iconst (-1), []), (8, .goto 7, [15]), (11, .aload_n 0, []), (12, .getfield 95, [4, 11]), (15, .ireturn, [])]
/-- SleepWork$Reader.open(LSleepWork$Tape;LSleepWork$House;LSleepWork$State;)V -/
def k_c41 : List (Nat × Instr × List Nat) := [(0, .aload_n 0, []), (1, .aload_n 2, []), (2, .putfield 31, [4, 5]), (5, .aload_n 0, []), (6, .aload_n 3, []), (7, .putfield 35, [4, 6]), (10, .aload_n 0, []), (11, .getfield 31, [4, 5]), (14, .invokevirtual 98, [2, 22, 0, 1]), (17, .aload_n 0, []), (18, .getfield 35, [4, 6]), (21, .invokevirtual 103, [2, 84, 0, 7]), (24, .aload_n 0, []), (25, .iconst 0, []), (26, .putfield 55, [4, 7]), (29, .aload_n 0, []), (30, .iconst 0, []), (31, .putfield 106, [4, 8]), (34, .aload_n 0, []), (35, .iconst 0, []), (36, .putfield 109, [4, 9]), (39, .aload_n 0, []), (40, .iconst 0, []), (41, .putfield 43, [4, 10]), (44, .aload_n 0, []), (45, .iconst 0, []), (46, .putfield 89, [4, 12]), (49, .aload_n 0, []), (50, .getfield 12, [4, 0]), (53, .aload_n 1, []), (54, .invokevirtual 112, [2, 67, 1, 5]), (57, .return_, [])]
/-- SleepWork$Reader.fail(II)V -/
def k_c42 : List (Nat × Instr × List Nat) := [(0, .aload_n 0, []), (1, .getfield 43, [4, 10]), (4, .ifCond .eq 11, [15]), (7, .iload_n 2, []), (8, .aload_n 0, []), (9, .getfield 95, [4, 11]), (12, .if_icmp .ge 13, [25]), (15, .aload_n 0, []), (16, .iload_n 1, []), (17, .putfield 43, [4, 10]), (20, .aload_n 0, []), (21, .iload_n 2, []), (22, .putfield 95, [4, 11]), (25, .return_, [])]
/-- SleepWork$Reader.failLate(I)V -/
def k_c43 : List (Nat × Instr × List Nat) := [(0, .aload_n 0, []), (1, .getfield 89, [4, 12]), (4, .ifCond .ne 24, [28]), (7, .aload_n 0, []), (8, .iload_n 1, []), (9, .putfield 89, [4, 12]), (12, .aload_n 0, []), (13, .aload_n 0, []), (14, .getfield 12, [4, 0]), (17, .getfield 82, [5, 1]), (20, .aload_n 0, []), (21, .getfield 106, [4, 8]), (24, .iaload, []), (25, .putfield 92, [4, 13]), (28, .return_, [])]
/-- SleepWork$Reader.isNext(I)Z -/
def k_c44 : List (Nat × Instr × List Nat) := [(0, .aload_n 0, []), (1, .getfield 43, [4, 10]), (4, .ifCond .ne 23, [27]), (7, .aload_n 0, []), (8, .getfield 12, [4, 0]), (11, .getfield 51, [5, 0]), (14, .aload_n 0, []), (15, .getfield 55, [4, 7]), (18, .iaload, []), (19, .iload_n 1, []), (20, .if_icmp .ne 7, [27]), (23, .iconst 1, []), (24, .goto 4, [28]), (27, .iconst 0, []), (28, .ireturn, [])]
/-- SleepWork$Reader.take(I)Z -/
def k_c45 : List (Nat × Instr × List Nat) := [(0, .aload_n 0, []), (1, .getfield 43, [4, 10]), (4, .ifCond .eq 5, [9]), (7, .iconst 0, []), (8, .ireturn, []), (9, .aload_n 0, []), (10, .getfield 12, [4, 0]), (13, .getfield 51, [5, 0]), (16, .aload_n 0, []), (17, .getfield 55, [4, 7]), (20, .iaload, []), (21, .iload_n 1, []), (22, .if_icmp .eq 22, [44]), (25, .aload_n 0, []), (26, .iconst 1, []), (27, .aload_n 0, []), (28, .getfield 12, [4, 0]), (31, .getfield 82, [5, 1]), (34, .aload_n 0, []), (35, .getfield 55, [4, 7]), (38, .iaload, []), (39, .invokevirtual 85, [2, 42, 2, 4]), (42, .iconst 0, []), (43, .ireturn, []), (44, .aload_n 0, []), (45, .getfield 55, [4, 7]), (48, .sipush 400, []), (51, .if_icmp .lt 22, [73]), (54, .aload_n 0, []), (55, .iconst 2, []), (56, .aload_n 0, []), (57, .getfield 12, [4, 0]), (60, .getfield 82, [5, 1]), (63, .aload_n 0, []), (64, .getfield 55, [4, 7]), (67, .iaload, []), (68, .invokevirtual 85, [2, 42, 2, 4]), (71, .iconst 0, []), (72, .ireturn, []), (73, .aload_n 0, []), (74, .aload_n 0, []), (75, .getfield 55, [4, 7]), (78, .putfield 106, [4, 8]), (81, .aload_n 0, []), (82, .dup, []), (83, .getfield 55, [4, 7]), (86, .iconst 1, []), (87, .iadd, []), (88, .putfield 55, [4, 7]), (91, .iconst 1, []), (92, .ireturn, [])]
/-- SleepWork$Reader.takeFirst(III)V -/
def k_c46 : List (Nat × Instr × List Nat) := [(0, .iload_n 2, []), (1, .iload_n 3, []), (2, .if_icmp .lt 20, [22]), (5, .aload_n 0, []), (6, .iconst 2, []), (7, .aload_n 0, []), (8, .getfield 12, [4, 0]), (11, .getfield 82, [5, 1]), (14, .aload_n 0, []), (15, .getfield 55, [4, 7]), (18, .iaload, []), (19, .invokevirtual 85, [2, 42, 2, 4]), (22, .aload_n 0, []), (23, .iload_n 1, []), (24, .invokevirtual 116, [2, 45, 1, 4]), (27, .pop, []), (28, .return_, [])]
/-- SleepWork$Reader.takeNewName([JI)V -/
def k_c47 : List (Nat × Instr × List Nat) := [(0, .aload_n 0, []), (1, .bipush 100, []), (3, .invokevirtual 116, [2, 45, 1, 4]), (6, .ifCond .eq 9, [15]), (9, .iload_n 2, []), (10, .aload_n 1, []), (11, .arraylength, []), (12, .if_icmp .lt 4, [16]), (15, .return_, []), (16, .aload_n 0, []), (17, .getfield 12, [4, 0]), (20, .getfield 119, [5, 3]), (23, .aload_n 0, []), (24, .getfield 106, [4, 8]), (27, .laload, []), (28, .lstore_n 3, []), (29, .lload_n 3, []), (30, .aload_n 0, []), (31, .getfield 18, [4, 1]), (34, .aload_n 0, []), (35, .getfield 31, [4, 5]), (38, .getfield 122, [1, 13]), (41, .invokestatic 125, [1, 49, 3]), (44, .ifCond .ge 57, [101]), (47, .lload_n 3, []), (48, .aload_n 0, []), (49, .getfield 22, [4, 2]), (52, .aload_n 0, []), (53, .getfield 31, [4, 5]), (56, .getfield 129, [1, 15]), (59, .invokestatic 125, [1, 49, 3]), (62, .ifCond .ge 39, [101]), (65, .lload_n 3, []), (66, .aload_n 0, []), (67, .getfield 25, [4, 3]), (70, .aload_n 0, []), (71, .getfield 31, [4, 5]), (74, .getfield 132, [1, 16]), (77, .invokestatic 125, [1, 49, 3]), (80, .ifCond .ge 21, [101]), (83, .lload_n 3, []), (84, .aload_n 0, []), (85, .getfield 28, [4, 4]), (88, .aload_n 0, []), (89, .getfield 31, [4, 5]), (92, .getfield 135, [1, 17]), (95, .invokestatic 125, [1, 49, 3]), (98, .ifCond .lt 8, [106]), (101, .aload_n 0, []), (102, .iconst 3, []), (103, .invokevirtual 138, [2, 43, 1, 4]), (106, .aload_n 1, []), (107, .iload_n 2, []), (108, .lload_n 3, []), (109, .lastore, []), (110, .return_, [])]
/-- SleepWork$Reader.takeKnownName([JI)I -/
def k_c48 : List (Nat × Instr × List Nat) := [(0, .aload_n 0, []), (1, .bipush 100, []), (3, .invokevirtual 116, [2, 45, 1, 4]), (6, .ifCond .ne 5, [11]), (9, .iconst (-1), []), (10, .ireturn, []), (11, .aload_n 0, []), (12, .getfield 12, [4, 0]), (15, .getfield 119, [5, 3]), (18, .aload_n 0, []), (19, .getfield 106, [4, 8]), (22, .laload, []), (23, .aload_n 1, []), (24, .iload_n 2, []), (25, .invokestatic 125, [1, 49, 3]), (28, .istore_n 3, []), (29, .iload_n 3, []), (30, .ifCond .ge 8, [38]), (33, .aload_n 0, []), (34, .iconst 4, []), (35, .invokevirtual 138, [2, 43, 1, 4]), (38, .iload_n 3, []), (39, .ireturn, [])]
/-- SleepWork$Reader.find(J[JI)I -/
def k_c49 : List (Nat × Instr × List Nat) := [(0, .iconst 0, []), (1, .istore 4, []), (3, .iload 4, []), (5, .iload_n 3, []), (6, .if_icmp .ge 28, [34]), (9, .iload 4, []), (11, .aload_n 2, []), (12, .arraylength, []), (13, .if_icmp .ge 21, [34]), (16, .aload_n 2, []), (17, .iload 4, []), (19, .laload, []), (20, .lload_n 0, []), (21, .lcmp, []), (22, .ifCond .ne 6, [28]), (25, .iload 4, []), (27, .ireturn, []), (28, .iinc 4 1, []), (31, .goto (-28), [3]), (34, .iconst (-1), []), (35, .ireturn, [])]
/-- SleepWork$Reader.takeNumber(II)I -/
def k_c50 : List (Nat × Instr × List Nat) := [(0, .aload_n 0, []), (1, .bipush 101, []), (3, .invokevirtual 116, [2, 45, 1, 4]), (6, .ifCond .ne 5, [11]), (9, .iload_n 1, []), (10, .ireturn, []), (11, .aload_n 0, []), (12, .getfield 12, [4, 0]), (15, .getfield 142, [5, 2]), (18, .aload_n 0, []), (19, .getfield 106, [4, 8]), (22, .iaload, []), (23, .istore_n 3, []), (24, .iload_n 3, []), (25, .iload_n 1, []), (26, .if_icmp .lt 8, [34]), (29, .iload_n 3, []), (30, .iload_n 2, []), (31, .if_icmp .le 8, [39]), (34, .aload_n 0, []), (35, .iconst 5, []), (36, .invokevirtual 138, [2, 43, 1, 4]), (39, .iload_n 3, []), (40, .ireturn, [])]
/-- SleepWork$Reader.takeStepNumber(I)I -/
def k_c51 : List (Nat × Instr × List Nat) := [(0, .aload_n 0, []), (1, .iconst 0, []), (2, .iload_n 1, []), (3, .ifCond .ge 9, [12]), (6, .sipush 9999, []), (9, .goto 14, [23]), (12, .aload_n 0, []), (13, .getfield 31, [4, 5]), (16, .getfield 145, [1, 4]), (19, .iload_n 1, []), (20, .iaload, []), (21, .iconst 1, []), (22, .isub, []), (23, .invokevirtual 148, [2, 50, 2, 4]), (26, .ireturn, [])]
/-- SleepWork$Reader.readRoom()V -/
def k_c52 : List (Nat × Instr × List Nat) := [(0, .aload_n 0, []), (1, .iconst 0, []), (2, .aload_n 0, []), (3, .getfield 31, [4, 5]), (6, .getfield 122, [1, 13]), (9, .bipush 8, []), (11, .invokevirtual 152, [2, 46, 3, 4]), (14, .aload_n 0, []), (15, .aload_n 0, []), (16, .getfield 18, [4, 1]), (19, .aload_n 0, []), (20, .getfield 31, [4, 5]), (23, .getfield 122, [1, 13]), (26, .invokevirtual 156, [2, 47, 2, 4]), (29, .aload_n 0, []), (30, .bipush 59, []), (32, .invokevirtual 116, [2, 45, 1, 4]), (35, .ifCond .eq 16, [51]), (38, .aload_n 0, []), (39, .getfield 31, [4, 5]), (42, .dup, []), (43, .getfield 122, [1, 13]), (46, .iconst 1, []), (47, .iadd, []), (48, .putfield 122, [1, 13]), (51, .return_, [])]
/-- SleepWork$Reader.readDoor()V -/
def k_c53 : List (Nat × Instr × List Nat) := [(0, .aload_n 0, []), (1, .iconst 1, []), (2, .aload_n 0, []), (3, .getfield 31, [4, 5]), (6, .getfield 160, [1, 14]), (9, .bipush 12, []), (11, .invokevirtual 152, [2, 46, 3, 4]), (14, .aload_n 0, []), (15, .aload_n 0, []), (16, .getfield 18, [4, 1]), (19, .aload_n 0, []), (20, .getfield 31, [4, 5]), (23, .getfield 122, [1, 13]), (26, .invokevirtual 163, [2, 48, 2, 4]), (29, .istore_n 1, []), (30, .aload_n 0, []), (31, .aload_n 0, []), (32, .getfield 18, [4, 1]), (35, .aload_n 0, []), (36, .getfield 31, [4, 5]), (39, .getfield 122, [1, 13]), (42, .invokevirtual 163, [2, 48, 2, 4]), (45, .istore_n 2, []), (46, .iload_n 1, []), (47, .ifCond .lt 13, [60]), (50, .iload_n 1, []), (51, .iload_n 2, []), (52, .if_icmp .ne 8, [60]), (55, .aload_n 0, []), (56, .iconst 5, []), (57, .invokevirtual 138, [2, 43, 1, 4]), (60, .aload_n 0, []), (61, .iconst 1, []), (62, .bipush 60, []), (64, .invokevirtual 148, [2, 50, 2, 4]), (67, .istore_n 3, []), (68, .aload_n 0, []), (69, .bipush 8, []), (71, .invokevirtual 47, [2, 44, 1, 4]), (74, .ifCond .eq 16, [90]), (77, .aload_n 0, []), (78, .bipush 8, []), (80, .invokevirtual 116, [2, 45, 1, 4]), (83, .ifCond .eq 7, [90]), (86, .iconst 1, []), (87, .goto 4, [91]), (90, .iconst 0, []), (91, .istore 4, []), (93, .aload_n 0, []), (94, .bipush 59, []), (96, .invokevirtual 116, [2, 45, 1, 4]), (99, .ifCond .eq 83, [182]), (102, .aload_n 0, []), (103, .getfield 31, [4, 5]), (106, .getfield 160, [1, 14]), (109, .istore 5, []), (111, .aload_n 0, []), (112, .getfield 31, [4, 5]), (115, .getfield 167, [1, 0]), (118, .iload 5, []), (120, .iload_n 1, []), (121, .iastore, []), (122, .aload_n 0, []), (123, .getfield 31, [4, 5]), (126, .getfield 170, [1, 1]), (129, .iload 5, []), (131, .iload_n 2, []), (132, .iastore, []), (133, .aload_n 0, []), (134, .getfield 31, [4, 5]), (137, .getfield 173, [1, 2]), (140, .iload 5, []), (142, .iload_n 3, []), (143, .iastore, []), (144, .aload_n 0, []), (145, .getfield 35, [4, 6]), (148, .dup, []), (149, .getfield 176, [7, 7]), (152, .iload 4, []), (154, .ifCond .eq 10, [164]), (157, .iconst 1, []), (158, .iload 5, []), (160, .ishl, []), (161, .goto 4, [165]), (164, .iconst 0, []), (165, .ior, []), (166, .putfield 176, [7, 7]), (169, .aload_n 0, []), (170, .getfield 31, [4, 5]), (173, .dup, []), (174, .getfield 160, [1, 14]), (177, .iconst 1, []), (178, .iadd, []), (179, .putfield 160, [1, 14]), (182, .return_, [])]
/-- SleepWork$Reader.readTool()V -/
def k_c54 : List (Nat × Instr × List Nat) := [(0, .aload_n 0, []), (1, .iconst 2, []), (2, .aload_n 0, []), (3, .getfield 31, [4, 5]), (6, .getfield 129, [1, 15]), (9, .bipush 6, []), (11, .invokevirtual 152, [2, 46, 3, 4]), (14, .aload_n 0, []), (15, .aload_n 0, []), (16, .getfield 22, [4, 2]), (19, .aload_n 0, []), (20, .getfield 31, [4, 5]), (23, .getfield 129, [1, 15]), (26, .invokevirtual 156, [2, 47, 2, 4]), (29, .aload_n 0, []), (30, .aload_n 0, []), (31, .getfield 18, [4, 1]), (34, .aload_n 0, []), (35, .getfield 31, [4, 5]), (38, .getfield 122, [1, 13]), (41, .invokevirtual 163, [2, 48, 2, 4]), (44, .istore_n 1, []), (45, .aload_n 0, []), (46, .bipush 59, []), (48, .invokevirtual 116, [2, 45, 1, 4]), (51, .ifCond .eq 32, [83]), (54, .aload_n 0, []), (55, .getfield 35, [4, 6]), (58, .getfield 179, [7, 3]), (61, .aload_n 0, []), (62, .getfield 31, [4, 5]), (65, .getfield 129, [1, 15]), (68, .iload_n 1, []), (69, .iastore, []), (70, .aload_n 0, []), (71, .getfield 31, [4, 5]), (74, .dup, []), (75, .getfield 129, [1, 15]), (78, .iconst 1, []), (79, .iadd, []), (80, .putfield 129, [1, 15]), (83, .return_, [])]
/-- SleepWork$Reader.readTask()V -/
def k_c55 : List (Nat × Instr × List Nat) := [(0, .aload_n 0, []), (1, .iconst 3, []), (2, .aload_n 0, []), (3, .getfield 31, [4, 5]), (6, .getfield 132, [1, 16]), (9, .bipush 6, []), (11, .invokevirtual 152, [2, 46, 3, 4]), (14, .aload_n 0, []), (15, .aload_n 0, []), (16, .getfield 25, [4, 3]), (19, .aload_n 0, []), (20, .getfield 31, [4, 5]), (23, .getfield 132, [1, 16]), (26, .invokevirtual 156, [2, 47, 2, 4]), (29, .aload_n 0, []), (30, .aload_n 0, []), (31, .getfield 18, [4, 1]), (34, .aload_n 0, []), (35, .getfield 31, [4, 5]), (38, .getfield 122, [1, 13]), (41, .invokevirtual 163, [2, 48, 2, 4]), (44, .istore_n 1, []), (45, .aload_n 0, []), (46, .iconst 0, []), (47, .sipush 999, []), (50, .invokevirtual 148, [2, 50, 2, 4]), (53, .istore_n 2, []), (54, .aload_n 0, []), (55, .bipush 59, []), (57, .invokevirtual 116, [2, 45, 1, 4]), (60, .ifCond .eq 48, [108]), (63, .aload_n 0, []), (64, .getfield 31, [4, 5]), (67, .getfield 182, [1, 3]), (70, .aload_n 0, []), (71, .getfield 31, [4, 5]), (74, .getfield 132, [1, 16]), (77, .iload_n 1, []), (78, .iastore, []), (79, .aload_n 0, []), (80, .getfield 35, [4, 6]), (83, .getfield 185, [7, 1]), (86, .aload_n 0, []), (87, .getfield 31, [4, 5]), (90, .getfield 132, [1, 16]), (93, .iload_n 2, []), (94, .iastore, []), (95, .aload_n 0, []), (96, .getfield 31, [4, 5]), (99, .dup, []), (100, .getfield 132, [1, 16]), (103, .iconst 1, []), (104, .iadd, []), (105, .putfield 132, [1, 16]), (108, .return_, [])]
/-- SleepWork$Reader.readStep()V -/
def k_c56 : List (Nat × Instr × List Nat) := [(0, .aload_n 0, []), (1, .invokevirtual 188, [2, 57, 0, 4]), (4, .istore_n 1, []), (5, .aload_n 0, []), (6, .iconst 1, []), (7, .bipush 120, []), (9, .invokevirtual 148, [2, 50, 2, 4]), (12, .istore_n 2, []), (13, .aload_n 0, []), (14, .iconst 0, []), (15, .bipush 99, []), (17, .invokevirtual 148, [2, 50, 2, 4]), (20, .istore_n 3, []), (21, .aload_n 0, []), (22, .iconst 0, []), (23, .bipush 99, []), (25, .invokevirtual 148, [2, 50, 2, 4]), (28, .istore 4, []), (30, .aload_n 0, []), (31, .iconst 0, []), (32, .bipush 99, []), (34, .invokevirtual 148, [2, 50, 2, 4]), (37, .istore 5, []), (39, .bipush (-2), []), (41, .istore 6, []), (43, .aload_n 0, []), (44, .bipush 9, []), (46, .invokevirtual 47, [2, 44, 1, 4]), (49, .ifCond .eq 29, [78]), (52, .aload_n 0, []), (53, .bipush 9, []), (55, .invokevirtual 116, [2, 45, 1, 4]), (58, .ifCond .eq 20, [78]), (61, .aload_n 0, []), (62, .aload_n 0, []), (63, .getfield 22, [4, 2]), (66, .aload_n 0, []), (67, .getfield 31, [4, 5]), (70, .getfield 129, [1, 15]), (73, .invokevirtual 163, [2, 48, 2, 4]), (76, .istore 6, []), (78, .bipush (-2), []), (80, .istore 7, []), (82, .aload_n 0, []), (83, .bipush 10, []), (85, .invokevirtual 47, [2, 44, 1, 4]), (88, .ifCond .eq 19, [107]), (91, .aload_n 0, []), (92, .bipush 10, []), (94, .invokevirtual 116, [2, 45, 1, 4]), (97, .ifCond .eq 10, [107]), (100, .aload_n 0, []), (101, .iload_n 1, []), (102, .invokevirtual 192, [2, 51, 1, 4]), (105, .istore 7, []), (107, .aload_n 0, []), (108, .bipush 59, []), (110, .invokevirtual 116, [2, 45, 1, 4]), (113, .ifCond .eq 106, [219]), (116, .iload_n 1, []), (117, .ifCond .lt 102, [219]), (120, .iload_n 1, []), (121, .bipush 6, []), (123, .imul, []), (124, .aload_n 0, []), (125, .getfield 31, [4, 5]), (128, .getfield 145, [1, 4]), (131, .iload_n 1, []), (132, .iaload, []), (133, .iadd, []), (134, .istore 8, []), (136, .aload_n 0, []), (137, .getfield 31, [4, 5]), (140, .getfield 196, [1, 5]), (143, .iload 8, []), (145, .iload_n 2, []), (146, .iastore, []), (147, .aload_n 0, []), (148, .getfield 31, [4, 5]), (151, .getfield 199, [1, 6]), (154, .iload 8, []), (156, .iload_n 3, []), (157, .iastore, []), (158, .aload_n 0, []), (159, .getfield 31, [4, 5]), (162, .getfield 202, [1, 7]), (165, .iload 8, []), (167, .iload 4, []), (169, .iastore, []), (170, .aload_n 0, []), (171, .getfield 31, [4, 5]), (174, .getfield 205, [1, 8]), (177, .iload 8, []), (179, .iload 5, []), (181, .iastore, []), (182, .aload_n 0, []), (183, .getfield 31, [4, 5]), (186, .getfield 208, [1, 9]), (189, .iload 8, []), (191, .iload 6, []), (193, .iastore, []), (194, .aload_n 0, []), (195, .getfield 31, [4, 5]), (198, .getfield 211, [1, 10]), (201, .iload 8, []), (203, .iload 7, []), (205, .iastore, []), (206, .aload_n 0, []), (207, .getfield 31, [4, 5]), (210, .getfield 145, [1, 4]), (213, .iload_n 1, []), (214, .dup2, []), (215, .iaload, []), (216, .iconst 1, []), (217, .iadd, []), (218, .iastore, []), (219, .return_, [])]
/-- SleepWork$Reader.takeTaskOfStep()I -/
def k_c57 : List (Nat × Instr × List Nat) := [(0, .aload_n 0, []), (1, .getfield 12, [4, 0]), (4, .getfield 82, [5, 1]), (7, .aload_n 0, []), (8, .getfield 55, [4, 7]), (11, .iaload, []), (12, .istore_n 1, []), (13, .aload_n 0, []), (14, .iconst 4, []), (15, .invokevirtual 116, [2, 45, 1, 4]), (18, .pop, []), (19, .iconst (-1), []), (20, .istore_n 2, []), (21, .aload_n 0, []), (22, .bipush 100, []), (24, .invokevirtual 47, [2, 44, 1, 4]), (27, .ifCond .eq 30, [57]), (30, .aload_n 0, []), (31, .getfield 12, [4, 0]), (34, .getfield 119, [5, 3]), (37, .aload_n 0, []), (38, .getfield 55, [4, 7]), (41, .laload, []), (42, .aload_n 0, []), (43, .getfield 25, [4, 3]), (46, .aload_n 0, []), (47, .getfield 31, [4, 5]), (50, .getfield 132, [1, 16]), (53, .invokestatic 125, [1, 49, 3]), (56, .istore_n 2, []), (57, .aload_n 0, []), (58, .aload_n 0, []), (59, .getfield 25, [4, 3]), (62, .aload_n 0, []), (63, .getfield 31, [4, 5]), (66, .getfield 132, [1, 16]), (69, .invokevirtual 163, [2, 48, 2, 4]), (72, .pop, []), (73, .iload_n 2, []), (74, .ifCond .lt 23, [97]), (77, .aload_n 0, []), (78, .getfield 31, [4, 5]), (81, .getfield 145, [1, 4]), (84, .iload_n 2, []), (85, .iaload, []), (86, .bipush 6, []), (88, .if_icmp .lt 9, [97]), (91, .aload_n 0, []), (92, .iconst 2, []), (93, .iload_n 1, []), (94, .invokevirtual 85, [2, 42, 2, 4]), (97, .iload_n 2, []), (98, .ireturn, [])]
/-- SleepWork$Reader.readMan()V -/
def k_c58 : List (Nat × Instr × List Nat) := [(0, .aload_n 0, []), (1, .iconst 5, []), (2, .aload_n 0, []), (3, .getfield 31, [4, 5]), (6, .getfield 135, [1, 17]), (9, .bipush 6, []), (11, .invokevirtual 152, [2, 46, 3, 4]), (14, .aload_n 0, []), (15, .aload_n 0, []), (16, .getfield 28, [4, 4]), (19, .aload_n 0, []), (20, .getfield 31, [4, 5]), (23, .getfield 135, [1, 17]), (26, .invokevirtual 156, [2, 47, 2, 4]), (29, .aload_n 0, []), (30, .aload_n 0, []), (31, .getfield 18, [4, 1]), (34, .aload_n 0, []), (35, .getfield 31, [4, 5]), (38, .getfield 122, [1, 13]), (41, .invokevirtual 163, [2, 48, 2, 4]), (44, .istore_n 1, []), (45, .iconst (-1), []), (46, .istore_n 2, []), (47, .aload_n 0, []), (48, .bipush 11, []), (50, .invokevirtual 47, [2, 44, 1, 4]), (53, .ifCond .eq 39, [92]), (56, .aload_n 0, []), (57, .bipush 11, []), (59, .invokevirtual 116, [2, 45, 1, 4]), (62, .ifCond .eq 30, [92]), (65, .aload_n 0, []), (66, .aload_n 0, []), (67, .getfield 25, [4, 3]), (70, .aload_n 0, []), (71, .getfield 31, [4, 5]), (74, .getfield 132, [1, 16]), (77, .invokevirtual 163, [2, 48, 2, 4]), (80, .istore_n 3, []), (81, .iload_n 3, []), (82, .bipush 6, []), (84, .imul, []), (85, .aload_n 0, []), (86, .iload_n 3, []), (87, .invokevirtual 192, [2, 51, 1, 4]), (90, .iadd, []), (91, .istore_n 2, []), (92, .aload_n 0, []), (93, .bipush 59, []), (95, .invokevirtual 116, [2, 45, 1, 4]), (98, .ifCond .eq 48, [146]), (101, .aload_n 0, []), (102, .getfield 31, [4, 5]), (105, .getfield 214, [1, 11]), (108, .aload_n 0, []), (109, .getfield 31, [4, 5]), (112, .getfield 135, [1, 17]), (115, .iload_n 1, []), (116, .iastore, []), (117, .aload_n 0, []), (118, .getfield 35, [4, 6]), (121, .getfield 217, [7, 2]), (124, .aload_n 0, []), (125, .getfield 31, [4, 5]), (128, .getfield 135, [1, 17]), (131, .iload_n 2, []), (132, .iastore, []), (133, .aload_n 0, []), (134, .getfield 31, [4, 5]), (137, .dup, []), (138, .getfield 135, [1, 17]), (141, .iconst 1, []), (142, .iadd, []), (143, .putfield 135, [1, 17]), (146, .return_, [])]
/-- SleepWork$Reader.readNight()V -/
def k_c59 : List (Nat × Instr × List Nat) := [(0, .aload_n 0, []), (1, .bipush 7, []), (3, .invokevirtual 116, [2, 45, 1, 4]), (6, .pop, []), (7, .aload_n 0, []), (8, .getfield 31, [4, 5]), (11, .aload_n 0, []), (12, .iconst 1, []), (13, .sipush 600, []), (16, .invokevirtual 148, [2, 50, 2, 4]), (19, .putfield 220, [1, 18]), (22, .aload_n 0, []), (23, .bipush 59, []), (25, .invokevirtual 116, [2, 45, 1, 4]), (28, .pop, []), (29, .return_, [])]
/-- SleepWork$Reader.readLaw()V -/
def k_c60 : List (Nat × Instr × List Nat) := [(0, .aload_n 0, []), (1, .bipush 6, []), (3, .aload_n 0, []), (4, .getfield 109, [4, 9]), (7, .bipush 8, []), (9, .invokevirtual 152, [2, 46, 3, 4]), (12, .aload_n 0, []), (13, .aload_n 0, []), (14, .getfield 28, [4, 4]), (17, .aload_n 0, []), (18, .getfield 31, [4, 5]), (21, .getfield 135, [1, 17]), (24, .invokevirtual 163, [2, 48, 2, 4]), (27, .istore_n 1, []), (28, .aload_n 0, []), (29, .getfield 31, [4, 5]), (32, .getfield 223, [1, 12]), (35, .getfield 227, [2, 4]), (38, .istore_n 2, []), (39, .aload_n 0, []), (40, .bipush 61, []), (42, .invokevirtual 116, [2, 45, 1, 4]), (45, .pop, []), (46, .iconst 0, []), (47, .istore_n 3, []), (48, .iload_n 3, []), (49, .iconst 4, []), (50, .if_icmp .gt 44, [94]), (53, .aload_n 0, []), (54, .bipush 12, []), (56, .invokevirtual 47, [2, 44, 1, 4]), (59, .ifCond .eq 35, [94]), (62, .iload_n 3, []), (63, .iconst 4, []), (64, .if_icmp .ne 20, [84]), (67, .aload_n 0, []), (68, .iconst 2, []), (69, .aload_n 0, []), (70, .getfield 12, [4, 0]), (73, .getfield 82, [5, 1]), (76, .aload_n 0, []), (77, .getfield 55, [4, 7]), (80, .iaload, []), (81, .invokevirtual 85, [2, 42, 2, 4]), (84, .aload_n 0, []), (85, .invokevirtual 232, [2, 61, 0, 4]), (88, .iinc 3 1, []), (91, .goto (-43), [48]), (94, .aload_n 0, []), (95, .iconst 0, []), (96, .invokevirtual 235, [2, 62, 1, 4]), (99, .aload_n 0, []), (100, .getfield 31, [4, 5]), (103, .getfield 223, [1, 12]), (106, .iconst 0, []), (107, .iconst 0, []), (108, .invokevirtual 238, [2, 31, 2, 2]), (111, .pop, []), (112, .aload_n 0, []), (113, .bipush 59, []), (115, .invokevirtual 116, [2, 45, 1, 4]), (118, .ifCond .eq 30, [148]), (121, .aload_n 0, []), (122, .dup, []), (123, .getfield 109, [4, 9]), (126, .iconst 1, []), (127, .iadd, []), (128, .putfield 109, [4, 9]), (131, .iload_n 1, []), (132, .ifCond .lt 16, [148]), (135, .aload_n 0, []), (136, .getfield 31, [4, 5]), (139, .getfield 223, [1, 12]), (142, .getfield 241, [2, 0]), (145, .iload_n 1, []), (146, .iload_n 2, []), (147, .iastore, []), (148, .return_, [])]
/-- SleepWork$Reader.readIf()V -/
def k_c61 : List (Nat × Instr × List Nat) := [(0, .aload_n 0, []), (1, .bipush 12, []), (3, .invokevirtual 116, [2, 45, 1, 4]), (6, .pop, []), (7, .aload_n 0, []), (8, .iconst 0, []), (9, .invokevirtual 235, [2, 62, 1, 4]), (12, .aload_n 0, []), (13, .bipush 60, []), (15, .invokevirtual 116, [2, 45, 1, 4]), (18, .pop, []), (19, .aload_n 0, []), (20, .iconst 0, []), (21, .invokevirtual 235, [2, 62, 1, 4]), (24, .aload_n 0, []), (25, .getfield 31, [4, 5]), (28, .getfield 223, [1, 12]), (31, .bipush 60, []), (33, .iconst 0, []), (34, .invokevirtual 238, [2, 31, 2, 2]), (37, .istore_n 1, []), (38, .aload_n 0, []), (39, .bipush 13, []), (41, .invokevirtual 116, [2, 45, 1, 4]), (44, .pop, []), (45, .aload_n 0, []), (46, .iconst 0, []), (47, .invokevirtual 235, [2, 62, 1, 4]), (50, .aload_n 0, []), (51, .getfield 31, [4, 5]), (54, .getfield 223, [1, 12]), (57, .iconst 0, []), (58, .iconst 0, []), (59, .invokevirtual 238, [2, 31, 2, 2]), (62, .pop, []), (63, .aload_n 0, []), (64, .bipush 14, []), (66, .invokevirtual 116, [2, 45, 1, 4]), (69, .pop, []), (70, .aload_n 0, []), (71, .getfield 31, [4, 5]), (74, .getfield 223, [1, 12]), (77, .iload_n 1, []), (78, .invokevirtual 244, [2, 32, 1, 2]), (81, .return_, [])]
/-- SleepWork$Reader.readSum(I)V -/
def k_c62 : List (Nat × Instr × List Nat) := [(0, .iconst 0, []), (1, .istore_n 2, []), (2, .iconst 0, []), (3, .istore_n 3, []), (4, .iconst 1, []), (5, .istore 4, []), (7, .iconst 0, []), (8, .istore 5, []), (10, .iload 5, []), (12, .sipush 400, []), (15, .if_icmp .gt 62, [77]), (18, .iload 4, []), (20, .ifCond .eq 57, [77]), (23, .aload_n 0, []), (24, .iload_n 1, []), (25, .invokevirtual 247, [2, 65, 1, 4]), (28, .aload_n 0, []), (29, .iload_n 3, []), (30, .invokevirtual 250, [2, 63, 1, 4]), (33, .aload_n 0, []), (34, .bipush 42, []), (36, .bipush 47, []), (38, .invokevirtual 253, [2, 64, 2, 4]), (41, .istore_n 3, []), (42, .iload_n 3, []), (43, .ifCond .ne 28, [71]), (46, .aload_n 0, []), (47, .iload_n 2, []), (48, .invokevirtual 250, [2, 63, 1, 4]), (51, .aload_n 0, []), (52, .bipush 43, []), (54, .bipush 45, []), (56, .invokevirtual 253, [2, 64, 2, 4]), (59, .istore_n 2, []), (60, .iload_n 2, []), (61, .ifCond .eq 7, [68]), (64, .iconst 1, []), (65, .goto 4, [69]), (68, .iconst 0, []), (69, .istore 4, []), (71, .iinc 5 1, []), (74, .goto (-64), [10]), (77, .return_, [])]
/-- SleepWork$Reader.addSign(I)V -/
def k_c63 : List (Nat × Instr × List Nat) := [(0, .iload_n 1, []), (1, .ifCond .eq 16, [17]), (4, .aload_n 0, []), (5, .getfield 31, [4, 5]), (8, .getfield 223, [1, 12]), (11, .iload_n 1, []), (12, .iconst 0, []), (13, .invokevirtual 238, [2, 31, 2, 2]), (16, .pop, []), (17, .return_, [])]
/-- SleepWork$Reader.takeEither(II)I -/
def k_c64 : List (Nat × Instr × List Nat) := [(0, .aload_n 0, []), (1, .iload_n 1, []), (2, .invokevirtual 47, [2, 44, 1, 4]), (5, .ifCond .eq 13, [18]), (8, .aload_n 0, []), (9, .iload_n 1, []), (10, .invokevirtual 116, [2, 45, 1, 4]), (13, .ifCond .eq 5, [18]), (16, .iload_n 1, []), (17, .ireturn, []), (18, .aload_n 0, []), (19, .iload_n 2, []), (20, .invokevirtual 47, [2, 44, 1, 4]), (23, .ifCond .eq 15, [38]), (26, .aload_n 0, []), (27, .iload_n 2, []), (28, .invokevirtual 116, [2, 45, 1, 4]), (31, .ifCond .eq 7, [38]), (34, .iload_n 2, []), (35, .goto 4, [39]), (38, .iconst 0, []), (39, .ireturn, [])]
/-- SleepWork$Reader.readUnit(I)V -/
def k_c65 : List (Nat × Instr × List Nat) := [(0, .aload_n 0, []), (1, .bipush 40, []), (3, .invokevirtual 47, [2, 44, 1, 4]), (6, .ifCond .eq 49, [55]), (9, .iload_n 1, []), (10, .bipush 6, []), (12, .if_icmp .lt 21, [33]), (15, .aload_n 0, []), (16, .iconst 2, []), (17, .aload_n 0, []), (18, .getfield 12, [4, 0]), (21, .getfield 82, [5, 1]), (24, .aload_n 0, []), (25, .getfield 55, [4, 7]), (28, .iaload, []), (29, .invokevirtual 85, [2, 42, 2, 4]), (32, .return_, []), (33, .aload_n 0, []), (34, .bipush 40, []), (36, .invokevirtual 116, [2, 45, 1, 4]), (39, .pop, []), (40, .aload_n 0, []), (41, .iload_n 1, []), (42, .iconst 1, []), (43, .iadd, []), (44, .invokevirtual 235, [2, 62, 1, 4]), (47, .aload_n 0, []), (48, .bipush 41, []), (50, .invokevirtual 116, [2, 45, 1, 4]), (53, .pop, []), (54, .return_, []), (55, .bipush 15, []), (57, .istore_n 2, []), (58, .iload_n 2, []), (59, .bipush 20, []), (61, .if_icmp .gt 42, [103]), (64, .aload_n 0, []), (65, .iload_n 2, []), (66, .invokevirtual 47, [2, 44, 1, 4]), (69, .ifCond .eq 28, [97]), (72, .aload_n 0, []), (73, .iload_n 2, []), (74, .invokevirtual 116, [2, 45, 1, 4]), (77, .ifCond .eq 20, [97]), (80, .aload_n 0, []), (81, .getfield 31, [4, 5]), (84, .getfield 223, [1, 12]), (87, .iconst 2, []), (88, .iload_n 2, []), (89, .bipush 15, []), (91, .isub, []), (92, .invokevirtual 238, [2, 31, 2, 2]), (95, .pop, []), (96, .return_, []), (97, .iinc 2 1, []), (100, .goto (-42), [58]), (103, .aload_n 0, []), (104, .bipush 101, []), (106, .invokevirtual 116, [2, 45, 1, 4]), (109, .ifCond .eq 27, [136]), (112, .aload_n 0, []), (113, .getfield 31, [4, 5]), (116, .getfield 223, [1, 12]), (119, .iconst 1, []), (120, .aload_n 0, []), (121, .getfield 12, [4, 0]), (124, .getfield 142, [5, 2]), (127, .aload_n 0, []), (128, .getfield 106, [4, 8]), (131, .iaload, []), (132, .invokevirtual 238, [2, 31, 2, 2]), (135, .pop, []), (136, .return_, [])]
/-- SleepWork$Scanner.<init>()V -/
def k_c66 : List (Nat × Instr × List Nat) := [(0, .aload_n 0, []), (1, .invokespecial 1, [0]), (4, .aload_n 0, []), (5, .sipush 401, []), (8, .newarray .int, [0]), (10, .putfield 9, [5, 0]), (13, .aload_n 0, []), (14, .sipush 401, []), (17, .newarray .int, [0]), (19, .putfield 13, [5, 1]), (22, .aload_n 0, []), (23, .sipush 401, []), (26, .newarray .int, [0]), (28, .putfield 16, [5, 2]), (31, .aload_n 0, []), (32, .sipush 401, []), (35, .newarray .long, [3]), (37, .putfield 19, [5, 3]), (40, .aload_n 0, []), (41, .bipush 21, []), (43, .newarray .long, [3]), (45, .putfield 23, [5, 4]), (48, .iconst 0, []), (49, .istore_n 1, []), (50, .iconst 0, []), (51, .istore_n 2, []), (52, .iload_n 2, []), (53, .ldc 26, [1, 0]), (55, .invokevirtual 28, [6, 246, 0]), (58, .if_icmp .ge 55, [113]), (61, .iload_n 1, []), (62, .bipush 21, []), (64, .if_icmp .ge 49, [113]), (67, .ldc 26, [1, 0]), (69, .iload_n 2, []), (70, .invokevirtual 34, [6, 247, 1]), (73, .bipush 32, []), (75, .if_icmp .ne 9, [84]), (78, .iinc 1 1, []), (81, .goto 26, [107]), (84, .aload_n 0, []), (85, .getfield 23, [5, 4]), (88, .iload_n 1, []), (89, .aload_n 0, []), (90, .getfield 23, [5, 4]), (93, .iload_n 1, []), (94, .laload, []), (95, .bipush 8, []), (97, .lshl, []), (98, .ldc 26, [1, 0]), (100, .iload_n 2, []), (101, .invokevirtual 34, [6, 247, 1]), (104, .i2l, []), (105, .lor, []), (106, .lastore, []), (107, .iinc 2 1, []), (110, .goto (-58), [52]), (113, .return_, [])]
/-- SleepWork$Scanner.scanAll(LSleepWork$Tape;)V -/
def k_c67 : List (Nat × Instr × List Nat) := [(0, .aload_n 0, []), (1, .iconst 0, []), (2, .putfield 38, [5, 5]), (5, .iconst 1, []), (6, .istore_n 2, []), (7, .iconst 0, []), (8, .istore_n 3, []), (9, .iload_n 3, []), (10, .sipush 400, []), (13, .if_icmp .gt 47, [60]), (16, .iload_n 2, []), (17, .ifCond .eq 43, [60]), (20, .aload_n 0, []), (21, .iload_n 3, []), (22, .aload_n 1, []), (23, .invokevirtual 42, [2, 68, 2, 5]), (26, .aload_n 0, []), (27, .getfield 9, [5, 0]), (30, .iload_n 3, []), (31, .iaload, []), (32, .bipush 102, []), (34, .if_icmp .eq 18, [52]), (37, .aload_n 0, []), (38, .getfield 9, [5, 0]), (41, .iload_n 3, []), (42, .iaload, []), (43, .bipush 103, []), (45, .if_icmp .eq 7, [52]), (48, .iconst 1, []), (49, .goto 4, [53]), (52, .iconst 0, []), (53, .istore_n 2, []), (54, .iinc 3 1, []), (57, .goto (-48), [9]), (60, .return_, [])]
/-- SleepWork$Scanner.scanNext(ILSleepWork$Tape;)V -/
def k_c68 : List (Nat × Instr × List Nat) := [(0, .aload_n 0, []), (1, .getfield 38, [5, 5]), (4, .aload_n 2, []), (5, .getfield 46, [8, 1]), (8, .if_icmp .ge 31, [39]), (11, .aload_n 2, []), (12, .getfield 51, [8, 0]), (15, .aload_n 0, []), (16, .getfield 38, [5, 5]), (19, .baload, []), (20, .invokestatic 55, [1, 71, 1]), (23, .ifCond .eq 16, [39]), (26, .aload_n 0, []), (27, .dup, []), (28, .getfield 38, [5, 5]), (31, .iconst 1, []), (32, .iadd, []), (33, .putfield 38, [5, 5]), (36, .goto (-36), [0]), (39, .aload_n 0, []), (40, .getfield 13, [5, 1]), (43, .iload_n 1, []), (44, .aload_n 0, []), (45, .getfield 38, [5, 5]), (48, .iastore, []), (49, .aload_n 0, []), (50, .getfield 38, [5, 5]), (53, .aload_n 2, []), (54, .getfield 46, [8, 1]), (57, .if_icmp .lt 12, [69]), (60, .aload_n 0, []), (61, .getfield 9, [5, 0]), (64, .iload_n 1, []), (65, .bipush 102, []), (67, .iastore, []), (68, .return_, []), (69, .aload_n 2, []), (70, .getfield 51, [8, 0]), (73, .aload_n 0, []), (74, .getfield 38, [5, 5]), (77, .baload, []), (78, .istore_n 3, []), (79, .iload_n 3, []), (80, .invokestatic 59, [1, 72, 1]), (83, .ifCond .eq 12, [95]), (86, .aload_n 0, []), (87, .iload_n 1, []), (88, .aload_n 2, []), (89, .invokevirtual 62, [2, 69, 2, 5]), (92, .goto 55, [147]), (95, .iload_n 3, []), (96, .invokestatic 65, [1, 73, 1]), (99, .ifCond .eq 12, [111]), (102, .aload_n 0, []), (103, .iload_n 1, []), (104, .aload_n 2, []), (105, .invokevirtual 68, [2, 70, 2, 5]), (108, .goto 39, [147]), (111, .aload_n 0, []), (112, .getfield 9, [5, 0]), (115, .iload_n 1, []), (116, .iload_n 3, []), (117, .ifCond .le 17, [134]), (120, .ldc 71, [1, 1]), (122, .iload_n 3, []), (123, .i2c, []), (124, .invokevirtual 73, [6, 248, 1]), (127, .ifCond .lt 7, [134]), (130, .iload_n 3, []), (131, .goto 5, [136]), (134, .bipush 103, []), (136, .iastore, []), (137, .aload_n 0, []), (138, .dup, []), (139, .getfield 38, [5, 5]), (142, .iconst 1, []), (143, .iadd, []), (144, .putfield 38, [5, 5]), (147, .return_, [])]
/-- SleepWork$Scanner.scanLetters(ILSleepWork$Tape;)V -/
def k_c69 : List (Nat × Instr × List Nat) := [(0, .lconst 0, []), (1, .lstore_n 3, []), (2, .aload_n 0, []), (3, .getfield 38, [5, 5]), (6, .aload_n 2, []), (7, .getfield 46, [8, 1]), (10, .if_icmp .ge 47, [57]), (13, .aload_n 2, []), (14, .getfield 51, [8, 0]), (17, .aload_n 0, []), (18, .getfield 38, [5, 5]), (21, .baload, []), (22, .invokestatic 59, [1, 72, 1]), (25, .ifCond .eq 32, [57]), (28, .lload_n 3, []), (29, .bipush 8, []), (31, .lshl, []), (32, .aload_n 2, []), (33, .getfield 51, [8, 0]), (36, .aload_n 0, []), (37, .getfield 38, [5, 5]), (40, .baload, []), (41, .i2l, []), (42, .lor, []), (43, .lstore_n 3, []), (44, .aload_n 0, []), (45, .dup, []), (46, .getfield 38, [5, 5]), (49, .iconst 1, []), (50, .iadd, []), (51, .putfield 38, [5, 5]), (54, .goto (-52), [2]), (57, .aload_n 0, []), (58, .getfield 38, [5, 5]), (61, .aload_n 0, []), (62, .getfield 13, [5, 1]), (65, .iload_n 1, []), (66, .iaload, []), (67, .isub, []), (68, .bipush 8, []), (70, .if_icmp .le 8, [78]), (73, .bipush 103, []), (75, .goto 5, [80]), (78, .bipush 100, []), (80, .istore 5, []), (82, .iconst 0, []), (83, .istore 6, []), (85, .iload 6, []), (87, .bipush 21, []), (89, .if_icmp .ge 32, [121]), (92, .iload 5, []), (94, .bipush 100, []), (96, .if_icmp .ne 25, [121]), (99, .aload_n 0, []), (100, .getfield 23, [5, 4]), (103, .iload 6, []), (105, .laload, []), (106, .lload_n 3, []), (107, .lcmp, []), (108, .ifCond .ne 7, [115]), (111, .iload 6, []), (113, .istore 5, []), (115, .iinc 6 1, []), (118, .goto (-33), [85]), (121, .aload_n 0, []), (122, .getfield 19, [5, 3]), (125, .iload_n 1, []), (126, .lload_n 3, []), (127, .lastore, []), (128, .aload_n 0, []), (129, .getfield 9, [5, 0]), (132, .iload_n 1, []), (133, .iload 5, []), (135, .iastore, []), (136, .return_, [])]
/-- SleepWork$Scanner.scanDigits(ILSleepWork$Tape;)V -/
def k_c70 : List (Nat × Instr × List Nat) := [(0, .iconst 0, []), (1, .istore_n 3, []), (2, .aload_n 0, []), (3, .getfield 38, [5, 5]), (6, .aload_n 2, []), (7, .getfield 46, [8, 1]), (10, .if_icmp .ge 49, [59]), (13, .aload_n 2, []), (14, .getfield 51, [8, 0]), (17, .aload_n 0, []), (18, .getfield 38, [5, 5]), (21, .baload, []), (22, .invokestatic 65, [1, 73, 1]), (25, .ifCond .eq 34, [59]), (28, .iload_n 3, []), (29, .bipush 10, []), (31, .imul, []), (32, .aload_n 2, []), (33, .getfield 51, [8, 0]), (36, .aload_n 0, []), (37, .getfield 38, [5, 5]), (40, .baload, []), (41, .iadd, []), (42, .bipush 48, []), (44, .isub, []), (45, .istore_n 3, []), (46, .aload_n 0, []), (47, .dup, []), (48, .getfield 38, [5, 5]), (51, .iconst 1, []), (52, .iadd, []), (53, .putfield 38, [5, 5]), (56, .goto (-54), [2]), (59, .aload_n 0, []), (60, .getfield 16, [5, 2]), (63, .iload_n 1, []), (64, .iload_n 3, []), (65, .iastore, []), (66, .aload_n 0, []), (67, .getfield 9, [5, 0]), (70, .iload_n 1, []), (71, .aload_n 0, []), (72, .getfield 38, [5, 5]), (75, .aload_n 0, []), (76, .getfield 13, [5, 1]), (79, .iload_n 1, []), (80, .iaload, []), (81, .isub, []), (82, .iconst 4, []), (83, .if_icmp .le 8, [91]), (86, .bipush 103, []), (88, .goto 5, [93]), (91, .bipush 101, []), (93, .iastore, []), (94, .return_, [])]
/-- SleepWork$Scanner.isBlank(I)Z -/
def k_c71 : List (Nat × Instr × List Nat) := [(0, .iload_n 0, []), (1, .bipush 9, []), (3, .if_icmp .eq 21, [24]), (6, .iload_n 0, []), (7, .bipush 10, []), (9, .if_icmp .eq 15, [24]), (12, .iload_n 0, []), (13, .bipush 13, []), (15, .if_icmp .eq 9, [24]), (18, .iload_n 0, []), (19, .bipush 32, []), (21, .if_icmp .ne 7, [28]), (24, .iconst 1, []), (25, .goto 4, [29]), (28, .iconst 0, []), (29, .ireturn, [])]
/-- SleepWork$Scanner.isLetter(I)Z -/
def k_c72 : List (Nat × Instr × List Nat) := [(0, .iload_n 0, []), (1, .bipush 97, []), (3, .if_icmp .lt 13, [16]), (6, .iload_n 0, []), (7, .bipush 122, []), (9, .if_icmp .gt 7, [16]), (12, .iconst 1, []), (13, .goto 4, [17]), (16, .iconst 0, []), (17, .ireturn, [])]
/-- SleepWork$Scanner.isDigit(I)Z -/
def k_c73 : List (Nat × Instr × List Nat) := [(0, .iload_n 0, []), (1, .bipush 48, []), (3, .if_icmp .lt 13, [16]), (6, .iload_n 0, []), (7, .bipush 57, []), (9, .if_icmp .gt 7, [16]), (12, .iconst 1, []), (13, .goto 4, [17]), (16, .iconst 0, []), (17, .ireturn, [])]
/-- SleepWork$Sleep.<init>(LSleepWork$House;LSleepWork$State;)V -/
def k_c74 : List (Nat × Instr × List Nat) := [(0, .aload_n 0, []), (1, .invokespecial 3, [0]), (4, .aload_n 0, []), (5, .new 9, [10]), (8, .dup, []), (9, .invokespecial 11, [4, 93, 0]), (12, .putfield 12, [6, 0]), (15, .aload_n 0, []), (16, .bipush 6, []), (18, .newarray .int, [0]), (20, .putfield 18, [6, 1]), (23, .aload_n 0, []), (24, .bipush 6, []), (26, .newarray .int, [0]), (28, .putfield 22, [6, 2]), (31, .aload_n 0, []), (32, .bipush 6, []), (34, .newarray .int, [0]), (36, .putfield 25, [6, 3]), (39, .aload_n 0, []), (40, .bipush 6, []), (42, .newarray .int, [0]), (44, .putfield 28, [6, 4]), (47, .aload_n 0, []), (48, .bipush 6, []), (50, .newarray .int, [0]), (52, .putfield 31, [6, 5]), (55, .aload_n 0, []), (56, .bipush 6, []), (58, .newarray .int, [0]), (60, .putfield 34, [6, 6]), (63, .aload_n 0, []), (64, .bipush 6, []), (66, .newarray .int, [0]), (68, .putfield 39, [6, 7]), (71, .aload_n 0, []), (72, .aload_n 1, []), (73, .putfield 42, [6, 8]), (76, .aload_n 0, []), (77, .aload_n 2, []), (78, .putfield 46, [6, 9]), (81, .return_, [])]
/-- SleepWork$Sleep.goTill(ILSleepWork$House;LSleepWork$State;)V -/
def k_c75 : List (Nat × Instr × List Nat) := [(0, .aload_n 0, []), (1, .aload_n 2, []), (2, .putfield 42, [6, 8]), (5, .aload_n 0, []), (6, .aload_n 3, []), (7, .putfield 46, [6, 9]), (10, .aload_n 0, []), (11, .getfield 34, [6, 6]), (14, .iconst 0, []), (15, .invokestatic 50, [1, 268, 2]), (18, .aload_n 0, []), (19, .invokevirtual 56, [2, 76, 0, 6]), (22, .aload_n 0, []), (23, .invokevirtual 59, [2, 77, 0, 6]), (26, .istore 4, []), (28, .iconst 0, []), (29, .istore 5, []), (31, .iload 5, []), (33, .iload_n 1, []), (34, .if_icmp .gt 85, [119]), (37, .iload 4, []), (39, .iload_n 1, []), (40, .if_icmp .gt 79, [119]), (43, .aload_n 0, []), (44, .iload 4, []), (46, .invokevirtual 63, [2, 78, 1, 6]), (49, .iconst 0, []), (50, .istore 6, []), (52, .iload 6, []), (54, .aload_n 0, []), (55, .getfield 42, [6, 8]), (58, .getfield 67, [1, 17]), (61, .if_icmp .ge 35, [96]), (64, .iload 4, []), (66, .iload_n 1, []), (67, .if_icmp .ge 29, [96]), (70, .aload_n 0, []), (71, .getfield 18, [6, 1]), (74, .iload 6, []), (76, .iaload, []), (77, .iload 4, []), (79, .if_icmp .ne 11, [90]), (82, .aload_n 0, []), (83, .iload 6, []), (85, .iload 4, []), (87, .invokevirtual 73, [2, 79, 2, 6]), (90, .iinc 6 1, []), (93, .goto (-41), [52]), (96, .iload 4, []), (98, .iload_n 1, []), (99, .if_icmp .ge 10, [109]), (102, .aload_n 0, []), (103, .invokevirtual 59, [2, 77, 0, 6]), (106, .goto 5, [111]), (109, .ldc 77, [0, 1000000]), (111, .istore 4, []), (113, .iinc 5 1, []), (116, .goto (-85), [31]), (119, .aload_n 0, []), (120, .invokevirtual 78, [2, 82, 0, 6]), (123, .return_, [])]
/-- SleepWork$Sleep.getUp()V -/
def k_c76 : List (Nat × Instr × List Nat) := [(0, .iconst 0, []), (1, .istore_n 1, []), (2, .iload_n 1, []), (3, .aload_n 0, []), (4, .getfield 42, [6, 8]), (7, .getfield 67, [1, 17]), (10, .if_icmp .ge 141, [151]), (13, .aload_n 0, []), (14, .getfield 46, [6, 9]), (17, .getfield 81, [7, 2]), (20, .iload_n 1, []), (21, .iaload, []), (22, .istore_n 2, []), (23, .aload_n 0, []), (24, .getfield 22, [6, 2]), (27, .iload_n 1, []), (28, .iconst (-1), []), (29, .iastore, []), (30, .aload_n 0, []), (31, .getfield 28, [6, 4]), (34, .iload_n 1, []), (35, .iconst 0, []), (36, .iastore, []), (37, .aload_n 0, []), (38, .getfield 31, [6, 5]), (41, .iload_n 1, []), (42, .iconst 0, []), (43, .iastore, []), (44, .aload_n 0, []), (45, .getfield 18, [6, 1]), (48, .iload_n 1, []), (49, .ldc 77, [0, 1000000]), (51, .iastore, []), (52, .aload_n 0, []), (53, .getfield 46, [6, 9]), (56, .getfield 86, [7, 6]), (59, .iload_n 1, []), (60, .bipush (-2), []), (62, .iastore, []), (63, .iload_n 2, []), (64, .ifCond .lt 81, [145]), (67, .aload_n 0, []), (68, .getfield 25, [6, 3]), (71, .iload_n 1, []), (72, .iload_n 2, []), (73, .bipush 6, []), (75, .irem, []), (76, .iastore, []), (77, .aload_n 0, []), (78, .getfield 42, [6, 8]), (81, .getfield 89, [1, 3]), (84, .iload_n 2, []), (85, .bipush 6, []), (87, .idiv, []), (88, .iaload, []), (89, .istore_n 3, []), (90, .aload_n 0, []), (91, .getfield 18, [6, 1]), (94, .iload_n 1, []), (95, .aload_n 0, []), (96, .getfield 12, [6, 0]), (99, .aload_n 0, []), (100, .getfield 42, [6, 8]), (103, .aload_n 0, []), (104, .getfield 46, [6, 9]), (107, .getfield 92, [7, 7]), (110, .aload_n 0, []), (111, .getfield 42, [6, 8]), (114, .getfield 95, [1, 11]), (117, .iload_n 1, []), (118, .iaload, []), (119, .iload_n 3, []), (120, .invokevirtual 98, [2, 95, 4, 10]), (123, .iastore, []), (124, .aload_n 0, []), (125, .getfield 18, [6, 1]), (128, .iload_n 1, []), (129, .iaload, []), (130, .ldc 77, [0, 1000000]), (132, .if_icmp .lt 13, [145]), (135, .aload_n 0, []), (136, .getfield 46, [6, 9]), (139, .getfield 86, [7, 6]), (142, .iload_n 1, []), (143, .iconst 0, []), (144, .iastore, []), (145, .iinc 1 1, []), (148, .goto (-146), [2]), (151, .return_, [])]
/-- SleepWork$Sleep.nextMinute()I -/
def k_c77 : List (Nat × Instr × List Nat) := [(0, .ldc 77, [0, 1000000]), (2, .istore_n 1, []), (3, .iconst 0, []), (4, .istore_n 2, []), (5, .iload_n 2, []), (6, .aload_n 0, []), (7, .getfield 42, [6, 8]), (10, .getfield 67, [1, 17]), (13, .if_icmp .ge 20, [33]), (16, .iload_n 1, []), (17, .aload_n 0, []), (18, .getfield 18, [6, 1]), (21, .iload_n 2, []), (22, .iaload, []), (23, .invokestatic 102, [8]), (26, .istore_n 1, []), (27, .iinc 2 1, []), (30, .goto (-25), [5]), (33, .iload_n 1, []), (34, .ireturn, [])]
/-- SleepWork$Sleep.finishAll(I)V -/
def k_c78 : List (Nat × Instr × List Nat) := [(0, .iconst 0, []), (1, .istore_n 2, []), (2, .iload_n 2, []), (3, .aload_n 0, []), (4, .getfield 42, [6, 8]), (7, .getfield 67, [1, 17]), (10, .if_icmp .ge 118, [128]), (13, .aload_n 0, []), (14, .getfield 18, [6, 1]), (17, .iload_n 2, []), (18, .iaload, []), (19, .iload_n 1, []), (20, .if_icmp .ne 102, [122]), (23, .aload_n 0, []), (24, .getfield 22, [6, 2]), (27, .iload_n 2, []), (28, .iaload, []), (29, .ifCond .lt 93, [122]), (32, .aload_n 0, []), (33, .getfield 46, [6, 9]), (36, .getfield 81, [7, 2]), (39, .iload_n 2, []), (40, .iaload, []), (41, .bipush 6, []), (43, .idiv, []), (44, .istore_n 3, []), (45, .aload_n 0, []), (46, .getfield 22, [6, 2]), (49, .iload_n 2, []), (50, .iaload, []), (51, .istore 4, []), (53, .aload_n 0, []), (54, .getfield 42, [6, 8]), (57, .aload_n 0, []), (58, .getfield 46, [6, 9]), (61, .iload_n 3, []), (62, .iload 4, []), (64, .invokevirtual 108, [2, 28, 3, 1]), (67, .aload_n 0, []), (68, .getfield 42, [6, 8]), (71, .getfield 112, [1, 9]), (74, .iload_n 3, []), (75, .bipush 6, []), (77, .imul, []), (78, .iload 4, []), (80, .iadd, []), (81, .iaload, []), (82, .istore 5, []), (84, .iload 5, []), (86, .ifCond .lt 11, [97]), (89, .aload_n 0, []), (90, .getfield 34, [6, 6]), (93, .iload 5, []), (95, .iconst 0, []), (96, .iastore, []), (97, .aload_n 0, []), (98, .getfield 25, [6, 3]), (101, .iload_n 2, []), (102, .iload 4, []), (104, .iastore, []), (105, .aload_n 0, []), (106, .getfield 28, [6, 4]), (109, .iload_n 2, []), (110, .dup2, []), (111, .iaload, []), (112, .iconst 1, []), (113, .iadd, []), (114, .iastore, []), (115, .aload_n 0, []), (116, .getfield 22, [6, 2]), (119, .iload_n 2, []), (120, .iconst (-1), []), (121, .iastore, []), (122, .iinc 2 1, []), (125, .goto (-123), [2]), (128, .return_, [])]
/-- SleepWork$Sleep.begin(II)V -/
def k_c79 : List (Nat × Instr × List Nat) := [(0, .aload_n 0, []), (1, .getfield 46, [6, 9]), (4, .getfield 81, [7, 2]), (7, .iload_n 1, []), (8, .iaload, []), (9, .bipush 6, []), (11, .idiv, []), (12, .istore_n 3, []), (13, .aload_n 0, []), (14, .getfield 42, [6, 8]), (17, .aload_n 0, []), (18, .getfield 46, [6, 9]), (21, .iload_n 3, []), (22, .invokevirtual 115, [2, 25, 2, 1]), (25, .istore 4, []), (27, .iload 4, []), (29, .ifCond .ne 15, [44]), (32, .aload_n 0, []), (33, .getfield 46, [6, 9]), (36, .getfield 119, [7, 1]), (39, .iload_n 3, []), (40, .iaload, []), (41, .ifCond .gt 26, [67]), (44, .aload_n 0, []), (45, .getfield 31, [6, 5]), (48, .iload_n 1, []), (49, .iload 4, []), (51, .ifCond .eq 7, [58]), (54, .iconst 1, []), (55, .goto 4, [59]), (58, .iconst 0, []), (59, .iastore, []), (60, .aload_n 0, []), (61, .iload_n 1, []), (62, .iload_n 2, []), (63, .invokevirtual 122, [2, 80, 2, 6]), (66, .return_, []), (67, .aload_n 0, []), (68, .iload_n 1, []), (69, .iload_n 3, []), (70, .iload_n 2, []), (71, .invokevirtual 125, [2, 81, 3, 6]), (74, .istore 5, []), (76, .aload_n 0, []), (77, .getfield 42, [6, 8]), (80, .getfield 112, [1, 9]), (83, .iload_n 3, []), (84, .bipush 6, []), (86, .imul, []), (87, .iload 5, []), (89, .iadd, []), (90, .iaload, []), (91, .istore 6, []), (93, .iload 6, []), (95, .ifCond .lt 73, [168]), (98, .aload_n 0, []), (99, .getfield 46, [6, 9]), (102, .getfield 129, [7, 3]), (105, .iload 6, []), (107, .iaload, []), (108, .istore 7, []), (110, .iload 7, []), (112, .bipush 100, []), (114, .iload_n 1, []), (115, .iadd, []), (116, .if_icmp .eq 24, [140]), (119, .iload 7, []), (121, .aload_n 0, []), (122, .getfield 42, [6, 8]), (125, .getfield 89, [1, 3]), (128, .iload_n 3, []), (129, .iaload, []), (130, .if_icmp .eq 10, [140]), (133, .aload_n 0, []), (134, .iload_n 1, []), (135, .iload_n 2, []), (136, .invokevirtual 122, [2, 80, 2, 6]), (139, .return_, []), (140, .aload_n 0, []), (141, .getfield 34, [6, 6]), (144, .iload 6, []), (146, .iaload, []), (147, .ifCond .eq 13, [160]), (150, .aload_n 0, []), (151, .getfield 18, [6, 1]), (154, .iload_n 1, []), (155, .iload_n 2, []), (156, .iconst 1, []), (157, .iadd, []), (158, .iastore, []), (159, .return_, []), (160, .aload_n 0, []), (161, .getfield 34, [6, 6]), (164, .iload 6, []), (166, .iconst 1, []), (167, .iastore, []), (168, .aload_n 0, []), (169, .getfield 46, [6, 9]), (172, .getfield 119, [7, 1]), (175, .iload_n 3, []), (176, .dup2, []), (177, .iaload, []), (178, .iconst 1, []), (179, .isub, []), (180, .iastore, []), (181, .aload_n 0, []), (182, .getfield 22, [6, 2]), (185, .iload_n 1, []), (186, .iload 5, []), (188, .iastore, []), (189, .aload_n 0, []), (190, .getfield 18, [6, 1]), (193, .iload_n 1, []), (194, .iload_n 2, []), (195, .aload_n 0, []), (196, .getfield 42, [6, 8]), (199, .getfield 132, [1, 5]), (202, .iload_n 3, []), (203, .bipush 6, []), (205, .imul, []), (206, .iload 5, []), (208, .iadd, []), (209, .iaload, []), (210, .iadd, []), (211, .iastore, []), (212, .return_, [])]
/-- SleepWork$Sleep.lieDown(II)V -/
def k_c80 : List (Nat × Instr × List Nat) := [(0, .aload_n 0, []), (1, .getfield 46, [6, 9]), (4, .getfield 86, [7, 6]), (7, .iload_n 1, []), (8, .iload_n 2, []), (9, .iastore, []), (10, .aload_n 0, []), (11, .getfield 18, [6, 1]), (14, .iload_n 1, []), (15, .ldc 77, [0, 1000000]), (17, .iastore, []), (18, .return_, [])]
/-- SleepWork$Sleep.chosenStep(III)I -/
def k_c81 : List (Nat × Instr × List Nat) := [(0, .aload_n 0, []), (1, .getfield 39, [6, 7]), (4, .iconst 0, []), (5, .aload_n 0, []), (6, .getfield 25, [6, 3]), (9, .iload_n 1, []), (10, .iaload, []), (11, .iastore, []), (12, .aload_n 0, []), (13, .getfield 39, [6, 7]), (16, .iconst 1, []), (17, .aload_n 0, []), (18, .getfield 46, [6, 9]), (21, .getfield 135, [7, 0]), (24, .iload_n 2, []), (25, .bipush 6, []), (27, .imul, []), (28, .aload_n 0, []), (29, .getfield 25, [6, 3]), (32, .iload_n 1, []), (33, .iaload, []), (34, .iadd, []), (35, .iaload, []), (36, .iastore, []), (37, .aload_n 0, []), (38, .getfield 39, [6, 7]), (41, .iconst 2, []), (42, .aload_n 0, []), (43, .getfield 42, [6, 8]), (46, .getfield 138, [1, 4]), (49, .iload_n 2, []), (50, .iaload, []), (51, .iastore, []), (52, .aload_n 0, []), (53, .getfield 39, [6, 7]), (56, .iconst 3, []), (57, .iload_n 3, []), (58, .iastore, []), (59, .aload_n 0, []), (60, .getfield 39, [6, 7]), (63, .iconst 4, []), (64, .aload_n 0, []), (65, .getfield 46, [6, 9]), (68, .getfield 119, [7, 1]), (71, .iload_n 2, []), (72, .iaload, []), (73, .iastore, []), (74, .aload_n 0, []), (75, .getfield 39, [6, 7]), (78, .iconst 5, []), (79, .aload_n 0, []), (80, .getfield 28, [6, 4]), (83, .iload_n 1, []), (84, .iaload, []), (85, .iastore, []), (86, .aload_n 0, []), (87, .getfield 42, [6, 8]), (90, .getfield 141, [1, 12]), (93, .iload_n 1, []), (94, .aload_n 0, []), (95, .getfield 39, [6, 7]), (98, .invokevirtual 145, [2, 33, 2, 2]), (101, .istore 4, []), (103, .iconst 0, []), (104, .aload_n 0, []), (105, .getfield 42, [6, 8]), (108, .getfield 138, [1, 4]), (111, .iload_n 2, []), (112, .iaload, []), (113, .iconst 1, []), (114, .isub, []), (115, .iload 4, []), (117, .invokestatic 102, [8]), (120, .invokestatic 149, [7]), (123, .ireturn, [])]
/-- SleepWork$Sleep.wakeUp()V -/
def k_c82 : List (Nat × Instr × List Nat) := [(0, .iconst 0, []), (1, .istore_n 1, []), (2, .iload_n 1, []), (3, .aload_n 0, []), (4, .getfield 42, [6, 8]), (7, .getfield 67, [1, 17]), (10, .if_icmp .ge 95, [105]), (13, .aload_n 0, []), (14, .getfield 46, [6, 9]), (17, .getfield 81, [7, 2]), (20, .iload_n 1, []), (21, .iaload, []), (22, .istore_n 2, []), (23, .aload_n 0, []), (24, .getfield 46, [6, 9]), (27, .getfield 152, [7, 4]), (30, .iload_n 1, []), (31, .aload_n 0, []), (32, .getfield 28, [6, 4]), (35, .iload_n 1, []), (36, .iaload, []), (37, .iastore, []), (38, .aload_n 0, []), (39, .getfield 46, [6, 9]), (42, .getfield 155, [7, 5]), (45, .iload_n 1, []), (46, .dup2, []), (47, .iaload, []), (48, .aload_n 0, []), (49, .getfield 28, [6, 4]), (52, .iload_n 1, []), (53, .iaload, []), (54, .iadd, []), (55, .iastore, []), (56, .iload_n 2, []), (57, .ifCond .lt 42, [99]), (60, .iload_n 2, []), (61, .bipush 6, []), (63, .idiv, []), (64, .istore_n 3, []), (65, .aload_n 0, []), (66, .getfield 46, [6, 9]), (69, .getfield 81, [7, 2]), (72, .iload_n 1, []), (73, .aload_n 0, []), (74, .getfield 31, [6, 5]), (77, .iload_n 1, []), (78, .iaload, []), (79, .iconst 1, []), (80, .if_icmp .ne 7, [87]), (83, .iconst (-1), []), (84, .goto 14, [98]), (87, .iload_n 3, []), (88, .bipush 6, []), (90, .imul, []), (91, .aload_n 0, []), (92, .getfield 25, [6, 3]), (95, .iload_n 1, []), (96, .iaload, []), (97, .iadd, []), (98, .iastore, []), (99, .iinc 1 1, []), (102, .goto (-100), [2]), (105, .return_, [])]
/-- SleepWork$State.<init>()V -/
def k_c83 : List (Nat × Instr × List Nat) := [(0, .aload_n 0, []), (1, .invokespecial 3, [0]), (4, .aload_n 0, []), (5, .bipush 36, []), (7, .newarray .int, [0]), (9, .putfield 9, [7, 0]), (12, .aload_n 0, []), (13, .bipush 6, []), (15, .newarray .int, [0]), (17, .putfield 15, [7, 1]), (20, .aload_n 0, []), (21, .bipush 6, []), (23, .newarray .int, [0]), (25, .putfield 18, [7, 2]), (28, .aload_n 0, []), (29, .bipush 6, []), (31, .newarray .int, [0]), (33, .putfield 21, [7, 3]), (36, .aload_n 0, []), (37, .bipush 6, []), (39, .newarray .int, [0]), (41, .putfield 24, [7, 4]), (44, .aload_n 0, []), (45, .bipush 6, []), (47, .newarray .int, [0]), (49, .putfield 27, [7, 5]), (52, .aload_n 0, []), (53, .bipush 6, []), (55, .newarray .int, [0]), (57, .putfield 30, [7, 6]), (60, .aload_n 0, []), (61, .invokevirtual 33, [2, 84, 0, 7]), (64, .return_, [])]
/-- SleepWork$State.clear()V -/
def k_c84 : List (Nat × Instr × List Nat) := [(0, .aload_n 0, []), (1, .getfield 9, [7, 0]), (4, .iconst 0, []), (5, .invokestatic 36, [1, 268, 2]), (8, .aload_n 0, []), (9, .getfield 15, [7, 1]), (12, .iconst 0, []), (13, .invokestatic 36, [1, 268, 2]), (16, .aload_n 0, []), (17, .getfield 18, [7, 2]), (20, .iconst (-1), []), (21, .invokestatic 36, [1, 268, 2]), (24, .aload_n 0, []), (25, .getfield 21, [7, 3]), (28, .iconst 0, []), (29, .invokestatic 36, [1, 268, 2]), (32, .aload_n 0, []), (33, .getfield 24, [7, 4]), (36, .iconst 0, []), (37, .invokestatic 36, [1, 268, 2]), (40, .aload_n 0, []), (41, .getfield 27, [7, 5]), (44, .iconst 0, []), (45, .invokestatic 36, [1, 268, 2]), (48, .aload_n 0, []), (49, .getfield 30, [7, 6]), (52, .bipush (-2), []), (54, .invokestatic 36, [1, 268, 2]), (57, .aload_n 0, []), (58, .iconst 0, []), (59, .putfield 42, [7, 7]), (62, .aload_n 0, []), (63, .iconst 0, []), (64, .putfield 46, [7, 8]), (67, .return_, [])]
/-- SleepWork$State.copy(LSleepWork$State;)V -/
def k_c85 : List (Nat × Instr × List Nat) := [(0, .aload_n 1, []), (1, .getfield 9, [7, 0]), (4, .iconst 0, []), (5, .aload_n 0, []), (6, .getfield 9, [7, 0]), (9, .iconst 0, []), (10, .bipush 36, []), (12, .invokestatic 49, [5]), (15, .aload_n 1, []), (16, .getfield 15, [7, 1]), (19, .iconst 0, []), (20, .aload_n 0, []), (21, .getfield 15, [7, 1]), (24, .iconst 0, []), (25, .bipush 6, []), (27, .invokestatic 49, [5]), (30, .aload_n 1, []), (31, .getfield 18, [7, 2]), (34, .iconst 0, []), (35, .aload_n 0, []), (36, .getfield 18, [7, 2]), (39, .iconst 0, []), (40, .bipush 6, []), (42, .invokestatic 49, [5]), (45, .aload_n 1, []), (46, .getfield 21, [7, 3]), (49, .iconst 0, []), (50, .aload_n 0, []), (51, .getfield 21, [7, 3]), (54, .iconst 0, []), (55, .bipush 6, []), (57, .invokestatic 49, [5]), (60, .aload_n 1, []), (61, .getfield 24, [7, 4]), (64, .iconst 0, []), (65, .aload_n 0, []), (66, .getfield 24, [7, 4]), (69, .iconst 0, []), (70, .bipush 6, []), (72, .invokestatic 49, [5]), (75, .aload_n 1, []), (76, .getfield 27, [7, 5]), (79, .iconst 0, []), (80, .aload_n 0, []), (81, .getfield 27, [7, 5]), (84, .iconst 0, []), (85, .bipush 6, []), (87, .invokestatic 49, [5]), (90, .aload_n 1, []), (91, .getfield 30, [7, 6]), (94, .iconst 0, []), (95, .aload_n 0, []), (96, .getfield 30, [7, 6]), (99, .iconst 0, []), (100, .bipush 6, []), (102, .invokestatic 49, [5]), (105, .aload_n 0, []), (106, .aload_n 1, []), (107, .getfield 42, [7, 7]), (110, .putfield 42, [7, 7]), (113, .aload_n 0, []), (114, .aload_n 1, []), (115, .getfield 46, [7, 8]), (118, .putfield 46, [7, 8]), (121, .return_, [])]
/-- SleepWork$Tape.<init>()V -/
def k_c86 : List (Nat × Instr × List Nat) := [(0, .aload_n 0, []), (1, .invokespecial 1, [0]), (4, .aload_n 0, []), (5, .sipush 2000, []), (8, .newarray .byte, [1]), (10, .putfield 9, [8, 0]), (13, .return_, [])]
/-- SleepWork$Tape.hasSpace()Z -/
def k_c87 : List (Nat × Instr × List Nat) := [(0, .aload_n 0, []), (1, .getfield 13, [8, 1]), (4, .bipush 20, []), (6, .iadd, []), (7, .sipush 2000, []), (10, .if_icmp .gt 7, [17]), (13, .iconst 1, []), (14, .goto 4, [18]), (17, .iconst 0, []), (18, .ireturn, [])]
/-- SleepWork$Tape.addWord(I)V -/
def k_c88 : List (Nat × Instr × List Nat) := [(0, .bipush 24, []), (2, .istore_n 2, []), (3, .iload_n 2, []), (4, .ifCond .lt 42, [46]), (7, .aload_n 0, []), (8, .getfield 13, [8, 1]), (11, .sipush 2000, []), (14, .if_icmp .ge 32, [46]), (17, .aload_n 0, []), (18, .getfield 9, [8, 0]), (21, .aload_n 0, []), (22, .getfield 13, [8, 1]), (25, .iload_n 1, []), (26, .iload_n 2, []), (27, .ishr, []), (28, .i2b, []), (29, .bastore, []), (30, .aload_n 0, []), (31, .dup, []), (32, .getfield 13, [8, 1]), (35, .iconst 1, []), (36, .iadd, []), (37, .putfield 13, [8, 1]), (40, .iinc 2 (-8), []), (43, .goto (-40), [3]), (46, .return_, [])]
/-- SleepWork$Told.<init>()V -/
def k_c89 : List (Nat × Instr × List Nat) := [(0, .aload_n 0, []), (1, .invokespecial 1, [0]), (4, .aload_n 0, []), (5, .bipush 30, []), (7, .newarray .int, [0]), (9, .putfield 9, [9, 0]), (12, .aload_n 0, []), (13, .bipush 30, []), (15, .newarray .int, [0]), (17, .putfield 13, [9, 1]), (20, .return_, [])]
/-- SleepWork$Told.isFull()Z -/
def k_c90 : List (Nat × Instr × List Nat) := [(0, .aload_n 0, []), (1, .getfield 16, [9, 2]), (4, .bipush 30, []), (6, .if_icmp .lt 7, [13]), (9, .iconst 1, []), (10, .goto 4, [14]), (13, .iconst 0, []), (14, .ireturn, [])]
/-- SleepWork$Told.add(II)I -/
def k_c91 : List (Nat × Instr × List Nat) := [(0, .aload_n 0, []), (1, .getfield 9, [9, 0]), (4, .aload_n 0, []), (5, .getfield 16, [9, 2]), (8, .iload_n 1, []), (9, .iastore, []), (10, .aload_n 0, []), (11, .getfield 13, [9, 1]), (14, .aload_n 0, []), (15, .getfield 16, [9, 2]), (18, .iload_n 2, []), (19, .iastore, []), (20, .aload_n 0, []), (21, .dup, []), (22, .getfield 16, [9, 2]), (25, .iconst 1, []), (26, .iadd, []), (27, .putfield 16, [9, 2]), (30, .aload_n 0, []), (31, .getfield 16, [9, 2]), (34, .iconst 1, []), (35, .isub, []), (36, .ireturn, [])]
/-- SleepWork$Told.isSoIn(LSleepWork$State;I)Z -/
def k_c92 : List (Nat × Instr × List Nat) := [(0, .iconst 0, []), (1, .istore_n 3, []), (2, .iload_n 3, []), (3, .iload_n 2, []), (4, .if_icmp .ge 39, [43]), (7, .iload_n 3, []), (8, .aload_n 0, []), (9, .getfield 16, [9, 2]), (12, .if_icmp .ge 31, [43]), (15, .aload_n 1, []), (16, .getfield 20, [7, 0]), (19, .aload_n 0, []), (20, .getfield 9, [9, 0]), (23, .iload_n 3, []), (24, .iaload, []), (25, .iaload, []), (26, .aload_n 0, []), (27, .getfield 13, [9, 1]), (30, .iload_n 3, []), (31, .iaload, []), (32, .if_icmp .eq 5, [37]), (35, .iconst 0, []), (36, .ireturn, []), (37, .iinc 3 1, []), (40, .goto (-38), [2]), (43, .iconst 1, []), (44, .ireturn, [])]
/-- SleepWork$Ways.<init>()V -/
def k_c93 : List (Nat × Instr × List Nat) := [(0, .aload_n 0, []), (1, .invokespecial 3, [0]), (4, .aload_n 0, []), (5, .bipush 64, []), (7, .newarray .int, [0]), (9, .putfield 9, [10, 0]), (12, .aload_n 0, []), (13, .iconst (-1), []), (14, .putfield 15, [10, 1]), (17, .return_, [])]
/-- SleepWork$Ways.drop()V -/
def k_c94 : List (Nat × Instr × List Nat) := [(0, .aload_n 0, []), (1, .iconst (-1), []), (2, .putfield 15, [10, 1]), (5, .return_, [])]
/-- SleepWork$Ways.between(LSleepWork$House;III)I -/
def k_c95 : List (Nat × Instr × List Nat) := [(0, .iload_n 2, []), (1, .aload_n 0, []), (2, .getfield 15, [10, 1]), (5, .if_icmp .eq 22, [27]), (8, .aload_n 0, []), (9, .aload_n 1, []), (10, .iload_n 2, []), (11, .invokevirtual 19, [2, 96, 2, 10]), (14, .aload_n 0, []), (15, .aload_n 1, []), (16, .getfield 23, [1, 13]), (19, .invokevirtual 28, [2, 97, 1, 10]), (22, .aload_n 0, []), (23, .iload_n 2, []), (24, .putfield 15, [10, 1]), (27, .aload_n 0, []), (28, .getfield 9, [10, 0]), (31, .iload_n 3, []), (32, .bipush 8, []), (34, .imul, []), (35, .iload 4, []), (37, .iadd, []), (38, .iaload, []), (39, .ireturn, [])]
/-- SleepWork$Ways.takeDoors(LSleepWork$House;I)V -/
def k_c96 : List (Nat × Instr × List Nat) := [(0, .aload_n 0, []), (1, .getfield 9, [10, 0]), (4, .ldc 32, [0, 1000000]), (6, .invokestatic 33, [1, 268, 2]), (9, .iconst 0, []), (10, .istore_n 3, []), (11, .iload_n 3, []), (12, .aload_n 1, []), (13, .getfield 23, [1, 13]), (16, .if_icmp .ge 21, [37]), (19, .aload_n 0, []), (20, .getfield 9, [10, 0]), (23, .iload_n 3, []), (24, .bipush 8, []), (26, .imul, []), (27, .iload_n 3, []), (28, .iadd, []), (29, .iconst 0, []), (30, .iastore, []), (31, .iinc 3 1, []), (34, .goto (-23), [11]), (37, .iconst 0, []), (38, .istore_n 3, []), (39, .iload_n 3, []), (40, .aload_n 1, []), (41, .getfield 39, [1, 14]), (44, .if_icmp .ge 89, [133]), (47, .iload_n 2, []), (48, .iconst 1, []), (49, .iload_n 3, []), (50, .ishl, []), (51, .iand, []), (52, .ifCond .ne 75, [127]), (55, .aload_n 1, []), (56, .getfield 42, [1, 0]), (59, .iload_n 3, []), (60, .iaload, []), (61, .bipush 8, []), (63, .imul, []), (64, .aload_n 1, []), (65, .getfield 45, [1, 1]), (68, .iload_n 3, []), (69, .iaload, []), (70, .iadd, []), (71, .istore 4, []), (73, .aload_n 1, []), (74, .getfield 45, [1, 1]), (77, .iload_n 3, []), (78, .iaload, []), (79, .bipush 8, []), (81, .imul, []), (82, .aload_n 1, []), (83, .getfield 42, [1, 0]), (86, .iload_n 3, []), (87, .iaload, []), (88, .iadd, []), (89, .istore 5, []), (91, .aload_n 0, []), (92, .getfield 9, [10, 0]), (95, .iload 4, []), (97, .iaload, []), (98, .aload_n 1, []), (99, .getfield 48, [1, 2]), (102, .iload_n 3, []), (103, .iaload, []), (104, .invokestatic 51, [8]), (107, .istore 6, []), (109, .aload_n 0, []), (110, .getfield 9, [10, 0]), (113, .iload 4, []), (115, .iload 6, []), (117, .iastore, []), (118, .aload_n 0, []), (119, .getfield 9, [10, 0]), (122, .iload 5, []), (124, .iload 6, []), (126, .iastore, []), (127, .iinc 3 1, []), (130, .goto (-91), [39]), (133, .return_, [])]
/-- SleepWork$Ways.joinWays(I)V -/
def k_c97 : List (Nat × Instr × List Nat) := [(0, .iconst 0, []), (1, .istore_n 2, []), (2, .iload_n 2, []), (3, .iload_n 1, []), (4, .if_icmp .ge 105, [109]), (7, .iconst 0, []), (8, .istore_n 3, []), (9, .iload_n 3, []), (10, .iload_n 1, []), (11, .if_icmp .ge 92, [103]), (14, .aload_n 0, []), (15, .getfield 9, [10, 0]), (18, .iload_n 3, []), (19, .bipush 8, []), (21, .imul, []), (22, .iload_n 2, []), (23, .iadd, []), (24, .iaload, []), (25, .istore 4, []), (27, .iconst 0, []), (28, .istore 5, []), (30, .iload 5, []), (32, .iload_n 1, []), (33, .if_icmp .ge 64, [97]), (36, .iload 4, []), (38, .ldc 32, [0, 1000000]), (40, .if_icmp .ge 57, [97]), (43, .iload 4, []), (45, .aload_n 0, []), (46, .getfield 9, [10, 0]), (49, .iload_n 2, []), (50, .bipush 8, []), (52, .imul, []), (53, .iload 5, []), (55, .iadd, []), (56, .iaload, []), (57, .iadd, []), (58, .istore 6, []), (60, .iload 6, []), (62, .aload_n 0, []), (63, .getfield 9, [10, 0]), (66, .iload_n 3, []), (67, .bipush 8, []), (69, .imul, []), (70, .iload 5, []), (72, .iadd, []), (73, .iaload, []), (74, .if_icmp .ge 17, [91]), (77, .aload_n 0, []), (78, .getfield 9, [10, 0]), (81, .iload_n 3, []), (82, .bipush 8, []), (84, .imul, []), (85, .iload 5, []), (87, .iadd, []), (88, .iload 6, []), (90, .iastore, []), (91, .iinc 5 1, []), (94, .goto (-64), [30]), (97, .iinc 3 1, []), (100, .goto (-91), [9]), (103, .iinc 2 1, []), (106, .goto (-104), [2]), (109, .return_, [])]
/-- SleepWork.<init>()V -/
def k_c98 : List (Nat × Instr × List Nat) := [(0, .aload_n 0, []), (1, .invokespecial 3, [0]), (4, .aload_n 0, []), (5, .new 9, [8]), (8, .dup, []), (9, .invokespecial 11, [4, 86, 0]), (12, .putfield 12, [11, 0]), (15, .aload_n 0, []), (16, .new 16, [7]), (19, .dup, []), (20, .invokespecial 18, [3, 83, 0]), (23, .putfield 19, [11, 1]), (26, .aload_n 0, []), (27, .new 16, [7]), (30, .dup, []), (31, .invokespecial 18, [3, 83, 0]), (34, .putfield 23, [11, 2]), (37, .aload_n 0, []), (38, .new 26, [3]), (41, .dup, []), (42, .invokespecial 28, [3, 35, 0]), (45, .putfield 29, [11, 3]), (48, .aload_n 0, []), (49, .new 33, [9]), (52, .dup, []), (53, .invokespecial 35, [4, 89, 0]), (56, .putfield 36, [11, 4]), (59, .aload_n 0, []), (60, .iconst 3, []), (61, .anewarray 16, [4]), (64, .putfield 40, [11, 5]), (67, .aload_n 0, []), (68, .new 44, [1]), (71, .dup, []), (72, .invokespecial 46, [3, 21, 0]), (75, .putfield 47, [11, 8]), (78, .aload_n 0, []), (79, .new 44, [1]), (82, .dup, []), (83, .invokespecial 46, [3, 21, 0]), (86, .putfield 51, [11, 9]), (89, .aload_n 0, []), (90, .iconst (-1), []), (91, .putfield 54, [11, 11]), (94, .iconst 0, []), (95, .istore_n 1, []), (96, .iload_n 1, []), (97, .iconst 3, []), (98, .if_icmp .ge 22, [120]), (101, .aload_n 0, []), (102, .getfield 40, [11, 5]), (105, .iload_n 1, []), (106, .new 16, [7]), (109, .dup, []), (110, .invokespecial 18, [3, 83, 0]), (113, .aastore, []), (114, .iinc 1 1, []), (117, .goto (-21), [96]), (120, .aload_n 0, []), (121, .new 58, [0]), (124, .dup, []), (125, .aload_n 0, []), (126, .getfield 47, [11, 8]), (129, .aload_n 0, []), (130, .getfield 19, [11, 1]), (133, .aload_n 0, []), (134, .getfield 36, [11, 4]), (137, .invokespecial 60, [3, 0, 3]), (140, .putfield 63, [11, 6]), (143, .aload_n 0, []), (144, .new 67, [4]), (147, .dup, []), (148, .aload_n 0, []), (149, .getfield 51, [11, 9]), (152, .aload_n 0, []), (153, .getfield 23, [11, 2]), (156, .invokespecial 69, [3, 38, 2]), (159, .putfield 72, [11, 7]), (162, .return_, [])]
/-- SleepWork.feed(IIIII)I -/
def k_c99 : List (Nat × Instr × List Nat) := [(0, .aload_n 0, []), (1, .getfield 12, [11, 0]), (4, .invokevirtual 76, [2, 87, 0, 8]), (7, .ifCond .ne 5, [12]), (10, .iconst (-1), []), (11, .ireturn, []), (12, .aload_n 0, []), (13, .getfield 12, [11, 0]), (16, .iload_n 1, []), (17, .invokevirtual 80, [2, 88, 1, 8]), (20, .aload_n 0, []), (21, .getfield 12, [11, 0]), (24, .iload_n 2, []), (25, .invokevirtual 80, [2, 88, 1, 8]), (28, .aload_n 0, []), (29, .getfield 12, [11, 0]), (32, .iload_n 3, []), (33, .invokevirtual 80, [2, 88, 1, 8]), (36, .aload_n 0, []), (37, .getfield 12, [11, 0]), (40, .iload 4, []), (42, .invokevirtual 80, [2, 88, 1, 8]), (45, .aload_n 0, []), (46, .getfield 12, [11, 0]), (49, .iload 5, []), (51, .invokevirtual 80, [2, 88, 1, 8]), (54, .aload_n 0, []), (55, .getfield 12, [11, 0]), (58, .getfield 84, [8, 1]), (61, .ireturn, [])]
/-- SleepWork.back(I)I -/
def k_c100 : List (Nat × Instr × List Nat) := [(0, .iload_n 1, []), (1, .ifCond .lt 14, [15]), (4, .iload_n 1, []), (5, .aload_n 0, []), (6, .getfield 12, [11, 0]), (9, .getfield 84, [8, 1]), (12, .if_icmp .le 5, [17]), (15, .iconst (-1), []), (16, .ireturn, []), (17, .aload_n 0, []), (18, .getfield 12, [11, 0]), (21, .dup, []), (22, .getfield 84, [8, 1]), (25, .iload_n 1, []), (26, .isub, []), (27, .putfield 84, [8, 1]), (30, .aload_n 0, []), (31, .getfield 12, [11, 0]), (34, .getfield 84, [8, 1]), (37, .ireturn, [])]
/-- SleepWork.read()I -/
def k_c101 : List (Nat × Instr × List Nat) := [(0, .aload_n 0, []), (1, .getfield 72, [11, 7]), (4, .aload_n 0, []), (5, .getfield 12, [11, 0]), (8, .aload_n 0, []), (9, .getfield 51, [11, 9]), (12, .aload_n 0, []), (13, .getfield 23, [11, 2]), (16, .invokevirtual 87, [2, 39, 3, 4]), (19, .istore_n 1, []), (20, .aload_n 0, []), (21, .aload_n 0, []), (22, .getfield 72, [11, 7]), (25, .invokevirtual 91, [2, 40, 0, 4]), (28, .putfield 54, [11, 11]), (31, .aload_n 0, []), (32, .getfield 12, [11, 0]), (35, .iconst 0, []), (36, .putfield 84, [8, 1]), (39, .iload_n 1, []), (40, .ifCond .ne 7, [47]), (43, .aload_n 0, []), (44, .invokevirtual 95, [2, 102, 0, 11]), (47, .iload_n 1, []), (48, .ireturn, [])]
/-- SleepWork.moveIn()V -/
def k_c102 : List (Nat × Instr × List Nat) := [(0, .aload_n 0, []), (1, .getfield 47, [11, 8]), (4, .astore_n 1, []), (5, .aload_n 0, []), (6, .aload_n 0, []), (7, .getfield 51, [11, 9]), (10, .putfield 47, [11, 8]), (13, .aload_n 0, []), (14, .aload_n 1, []), (15, .putfield 51, [11, 9]), (18, .aload_n 0, []), (19, .getfield 19, [11, 1]), (22, .aload_n 0, []), (23, .getfield 23, [11, 2]), (26, .invokevirtual 98, [2, 85, 1, 7]), (29, .aload_n 0, []), (30, .getfield 29, [11, 3]), (33, .iconst 0, []), (34, .putfield 102, [3, 2]), (37, .aload_n 0, []), (38, .getfield 36, [11, 4]), (41, .iconst 0, []), (42, .putfield 103, [9, 2]), (45, .aload_n 0, []), (46, .iconst 0, []), (47, .putfield 104, [11, 10]), (50, .aload_n 0, []), (51, .getfield 63, [11, 6]), (54, .aload_n 0, []), (55, .getfield 47, [11, 8]), (58, .invokevirtual 107, [2, 1, 1, 0]), (61, .return_, [])]
/-- SleepWork.place()I -/
def k_c103 : List (Nat × Instr × List Nat) := [(0, .aload_n 0, []), (1, .getfield 54, [11, 11]), (4, .ireturn, [])]
/-- SleepWork.task(II)I -/
def k_c104 : List (Nat × Instr × List Nat) := [(0, .iload_n 1, []), (1, .ifCond .lt 14, [15]), (4, .iload_n 1, []), (5, .aload_n 0, []), (6, .getfield 47, [11, 8]), (9, .getfield 111, [1, 16]), (12, .if_icmp .lt 5, [17]), (15, .iconst (-1), []), (16, .ireturn, []), (17, .iload_n 2, []), (18, .tableswitch 98 0 4 #[34, 44, 54, 64, 77], [116, 52, 62, 72, 82, 95]), (52, .aload_n 0, []), (53, .getfield 47, [11, 8]), (56, .getfield 114, [1, 3]), (59, .iload_n 1, []), (60, .iaload, []), (61, .ireturn, []), (62, .aload_n 0, []), (63, .getfield 47, [11, 8]), (66, .getfield 118, [1, 4]), (69, .iload_n 1, []), (70, .iaload, []), (71, .ireturn, []), (72, .aload_n 0, []), (73, .getfield 19, [11, 1]), (76, .getfield 121, [7, 1]), (79, .iload_n 1, []), (80, .iaload, []), (81, .ireturn, []), (82, .aload_n 0, []), (83, .getfield 47, [11, 8]), (86, .aload_n 0, []), (87, .getfield 19, [11, 1]), (90, .iload_n 1, []), (91, .invokevirtual 124, [2, 26, 2, 1]), (94, .ireturn, []), (95, .aload_n 0, []), (96, .getfield 47, [11, 8]), (99, .aload_n 0, []), (100, .getfield 19, [11, 1]), (103, .iload_n 1, []), (104, .invokevirtual 128, [2, 25, 2, 1]), (107, .ifCond .eq 7, [114]), (110, .iconst 1, []), (111, .goto 4, [115]), (114, .iconst 0, []), (115, .ireturn, []), (116, .iconst (-1), []), (117, .ireturn, [])]
/-- SleepWork.step(III)I -/
def k_c105 : List (Nat × Instr × List Nat) := [(0, .aload_n 0, []), (1, .getfield 47, [11, 8]), (4, .iload_n 1, []), (5, .iload_n 2, []), (6, .invokevirtual 132, [2, 23, 2, 1]), (9, .ifCond .ne 5, [14]), (12, .iconst (-1), []), (13, .ireturn, []), (14, .iload_n 1, []), (15, .bipush 6, []), (17, .imul, []), (18, .iload_n 2, []), (19, .iadd, []), (20, .istore 4, []), (22, .iload_n 3, []), (23, .tableswitch 118 0 6 #[41, 52, 63, 74, 85, 96, 107], [141, 64, 75, 86, 97, 108, 119, 130]), (64, .aload_n 0, []), (65, .getfield 19, [11, 1]), (68, .getfield 136, [7, 0]), (71, .iload 4, []), (73, .iaload, []), (74, .ireturn, []), (75, .aload_n 0, []), (76, .getfield 47, [11, 8]), (79, .getfield 139, [1, 5]), (82, .iload 4, []), (84, .iaload, []), (85, .ireturn, []), (86, .aload_n 0, []), (87, .getfield 47, [11, 8]), (90, .getfield 142, [1, 6]), (93, .iload 4, []), (95, .iaload, []), (96, .ireturn, []), (97, .aload_n 0, []), (98, .getfield 47, [11, 8]), (101, .getfield 145, [1, 7]), (104, .iload 4, []), (106, .iaload, []), (107, .ireturn, []), (108, .aload_n 0, []), (109, .getfield 47, [11, 8]), (112, .getfield 148, [1, 8]), (115, .iload 4, []), (117, .iaload, []), (118, .ireturn, []), (119, .aload_n 0, []), (120, .getfield 47, [11, 8]), (123, .getfield 151, [1, 9]), (126, .iload 4, []), (128, .iaload, []), (129, .ireturn, []), (130, .aload_n 0, []), (131, .getfield 47, [11, 8]), (134, .getfield 154, [1, 10]), (137, .iload 4, []), (139, .iaload, []), (140, .ireturn, []), (141, .iconst (-1), []), (142, .ireturn, [])]
/-- SleepWork.man(II)I -/
def k_c106 : List (Nat × Instr × List Nat) := [(0, .aload_n 0, []), (1, .iload_n 1, []), (2, .invokevirtual 157, [2, 107, 1, 11]), (5, .ifCond .ne 5, [10]), (8, .iconst (-1), []), (9, .ireturn, []), (10, .aload_n 0, []), (11, .getfield 19, [11, 1]), (14, .getfield 161, [7, 2]), (17, .iload_n 1, []), (18, .iaload, []), (19, .istore_n 3, []), (20, .iload_n 2, []), (21, .tableswitch 107 0 5 #[39, 49, 63, 77, 87, 97], [128, 60, 70, 84, 98, 108, 118]), (60, .aload_n 0, []), (61, .getfield 47, [11, 8]), (64, .getfield 164, [1, 11]), (67, .iload_n 1, []), (68, .iaload, []), (69, .ireturn, []), (70, .iload_n 3, []), (71, .ifCond .ge 8, [79]), (74, .bipush (-2), []), (76, .goto 7, [83]), (79, .iload_n 3, []), (80, .bipush 6, []), (82, .idiv, []), (83, .ireturn, []), (84, .iload_n 3, []), (85, .ifCond .ge 8, [93]), (88, .bipush (-2), []), (90, .goto 7, [97]), (93, .iload_n 3, []), (94, .bipush 6, []), (96, .irem, []), (97, .ireturn, []), (98, .aload_n 0, []), (99, .getfield 19, [11, 1]), (102, .getfield 167, [7, 4]), (105, .iload_n 1, []), (106, .iaload, []), (107, .ireturn, []), (108, .aload_n 0, []), (109, .getfield 19, [11, 1]), (112, .getfield 170, [7, 5]), (115, .iload_n 1, []), (116, .iaload, []), (117, .ireturn, []), (118, .aload_n 0, []), (119, .getfield 19, [11, 1]), (122, .getfield 173, [7, 6]), (125, .iload_n 1, []), (126, .iaload, []), (127, .ireturn, []), (128, .iconst (-1), []), (129, .ireturn, [])]
/-- SleepWork.isMan(I)Z -/
def k_c107 : List (Nat × Instr × List Nat) := [(0, .iload_n 1, []), (1, .ifCond .lt 18, [19]), (4, .iload_n 1, []), (5, .aload_n 0, []), (6, .getfield 47, [11, 8]), (9, .getfield 176, [1, 17]), (12, .if_icmp .ge 7, [19]), (15, .iconst 1, []), (16, .goto 4, [20]), (19, .iconst 0, []), (20, .ireturn, [])]
/-- SleepWork.isTool(I)Z -/
def k_c108 : List (Nat × Instr × List Nat) := [(0, .iload_n 1, []), (1, .ifCond .lt 18, [19]), (4, .iload_n 1, []), (5, .aload_n 0, []), (6, .getfield 47, [11, 8]), (9, .getfield 179, [1, 15]), (12, .if_icmp .ge 7, [19]), (15, .iconst 1, []), (16, .goto 4, [20]), (19, .iconst 0, []), (20, .ireturn, [])]
/-- SleepWork.isRoom(I)Z -/
def k_c109 : List (Nat × Instr × List Nat) := [(0, .iload_n 1, []), (1, .ifCond .lt 18, [19]), (4, .iload_n 1, []), (5, .aload_n 0, []), (6, .getfield 47, [11, 8]), (9, .getfield 182, [1, 13]), (12, .if_icmp .ge 7, [19]), (15, .iconst 1, []), (16, .goto 4, [20]), (19, .iconst 0, []), (20, .ireturn, [])]
/-- SleepWork.areTwoMen(II)Z -/
def k_c110 : List (Nat × Instr × List Nat) := [(0, .aload_n 0, []), (1, .iload_n 1, []), (2, .invokevirtual 157, [2, 107, 1, 11]), (5, .ifCond .eq 20, [25]), (8, .aload_n 0, []), (9, .iload_n 2, []), (10, .invokevirtual 157, [2, 107, 1, 11]), (13, .ifCond .eq 12, [25]), (16, .iload_n 1, []), (17, .iload_n 2, []), (18, .if_icmp .eq 7, [25]), (21, .iconst 1, []), (22, .goto 4, [26]), (25, .iconst 0, []), (26, .ireturn, [])]
/-- SleepWork.isKnownBy(I)Z -/
def k_c111 : List (Nat × Instr × List Nat) := [(0, .iload_n 1, []), (1, .ifCond .lt 18, [19]), (4, .iload_n 1, []), (5, .aload_n 0, []), (6, .getfield 36, [11, 4]), (9, .getfield 103, [9, 2]), (12, .if_icmp .gt 7, [19]), (15, .iconst 1, []), (16, .goto 4, [20]), (19, .iconst 0, []), (20, .ireturn, [])]
/-- SleepWork.tool(I)I -/
def k_c112 : List (Nat × Instr × List Nat) := [(0, .aload_n 0, []), (1, .iload_n 1, []), (2, .invokevirtual 185, [2, 108, 1, 11]), (5, .ifCond .eq 15, [20]), (8, .aload_n 0, []), (9, .getfield 19, [11, 1]), (12, .getfield 188, [7, 3]), (15, .iload_n 1, []), (16, .iaload, []), (17, .goto 4, [21]), (20, .iconst (-1), []), (21, .ireturn, [])]
/-- SleepWork.way(II)I -/
def k_c113 : List (Nat × Instr × List Nat) := [(0, .aload_n 0, []), (1, .iload_n 1, []), (2, .invokevirtual 191, [2, 109, 1, 11]), (5, .ifCond .eq 11, [16]), (8, .aload_n 0, []), (9, .iload_n 2, []), (10, .invokevirtual 191, [2, 109, 1, 11]), (13, .ifCond .ne 5, [18]), (16, .iconst (-1), []), (17, .ireturn, []), (18, .aload_n 0, []), (19, .getfield 63, [11, 6]), (22, .iload_n 1, []), (23, .iload_n 2, []), (24, .invokevirtual 194, [2, 3, 2, 0]), (27, .istore_n 3, []), (28, .iload_n 3, []), (29, .ldc 198, [0, 1000000]), (31, .if_icmp .lt 8, [39]), (34, .bipush (-2), []), (36, .goto 4, [40]), (39, .iload_n 3, []), (40, .ireturn, [])]
/-- SleepWork.leave(III)Z -/
def k_c114 : List (Nat × Instr × List Nat) := [(0, .aload_n 0, []), (1, .iload_n 1, []), (2, .invokevirtual 157, [2, 107, 1, 11]), (5, .ifCond .ne 5, [10]), (8, .iconst 0, []), (9, .ireturn, []), (10, .iload_n 2, []), (11, .iconst (-1), []), (12, .if_icmp .ne 12, [24]), (15, .iload_n 3, []), (16, .iconst (-1), []), (17, .if_icmp .ne 7, [24]), (20, .iconst 1, []), (21, .goto 4, [25]), (24, .iconst 0, []), (25, .istore 4, []), (27, .iload 4, []), (29, .ifCond .ne 17, [46]), (32, .aload_n 0, []), (33, .getfield 47, [11, 8]), (36, .iload_n 2, []), (37, .iload_n 3, []), (38, .invokevirtual 132, [2, 23, 2, 1]), (41, .ifCond .ne 5, [46]), (44, .iconst 0, []), (45, .ireturn, []), (46, .aload_n 0, []), (47, .getfield 19, [11, 1]), (50, .getfield 161, [7, 2]), (53, .iload_n 1, []), (54, .iload 4, []), (56, .ifCond .eq 7, [63]), (59, .iconst (-1), []), (60, .goto 9, [69]), (63, .iload_n 2, []), (64, .bipush 6, []), (66, .imul, []), (67, .iload_n 3, []), (68, .iadd, []), (69, .iastore, []), (70, .aload_n 0, []), (71, .getfield 63, [11, 6]), (74, .invokevirtual 199, [2, 2, 0, 0]), (77, .iconst 1, []), (78, .ireturn, [])]
/-- SleepWork.work(II)Z -/
def k_c115 : List (Nat × Instr × List Nat) := [(0, .aload_n 0, []), (1, .getfield 47, [11, 8]), (4, .iload_n 1, []), (5, .iload_n 2, []), (6, .invokevirtual 132, [2, 23, 2, 1]), (9, .ifCond .eq 15, [24]), (12, .aload_n 0, []), (13, .getfield 19, [11, 1]), (16, .getfield 121, [7, 1]), (19, .iload_n 1, []), (20, .iaload, []), (21, .ifCond .gt 5, [26]), (24, .iconst 0, []), (25, .ireturn, []), (26, .aload_n 0, []), (27, .getfield 19, [11, 1]), (30, .getfield 121, [7, 1]), (33, .iload_n 1, []), (34, .dup2, []), (35, .iaload, []), (36, .iconst 1, []), (37, .isub, []), (38, .iastore, []), (39, .aload_n 0, []), (40, .getfield 47, [11, 8]), (43, .aload_n 0, []), (44, .getfield 19, [11, 1]), (47, .iload_n 1, []), (48, .iload_n 2, []), (49, .invokevirtual 202, [2, 28, 3, 1]), (52, .aload_n 0, []), (53, .getfield 63, [11, 6]), (56, .invokevirtual 199, [2, 2, 0, 0]), (59, .iconst 1, []), (60, .ireturn, [])]
/-- SleepWork.lay(II)Z -/
def k_c116 : List (Nat × Instr × List Nat) := [(0, .aload_n 0, []), (1, .iload_n 1, []), (2, .invokevirtual 185, [2, 108, 1, 11]), (5, .ifCond .eq 11, [16]), (8, .aload_n 0, []), (9, .iload_n 2, []), (10, .invokevirtual 191, [2, 109, 1, 11]), (13, .ifCond .ne 5, [18]), (16, .iconst 0, []), (17, .ireturn, []), (18, .aload_n 0, []), (19, .getfield 19, [11, 1]), (22, .getfield 188, [7, 3]), (25, .iload_n 1, []), (26, .iload_n 2, []), (27, .iastore, []), (28, .aload_n 0, []), (29, .getfield 63, [11, 6]), (32, .invokevirtual 199, [2, 2, 0, 0]), (35, .iconst 1, []), (36, .ireturn, [])]
/-- SleepWork.give(II)Z -/
def k_c117 : List (Nat × Instr × List Nat) := [(0, .aload_n 0, []), (1, .iload_n 1, []), (2, .invokevirtual 185, [2, 108, 1, 11]), (5, .ifCond .eq 11, [16]), (8, .aload_n 0, []), (9, .iload_n 2, []), (10, .invokevirtual 157, [2, 107, 1, 11]), (13, .ifCond .ne 5, [18]), (16, .iconst 0, []), (17, .ireturn, []), (18, .aload_n 0, []), (19, .getfield 19, [11, 1]), (22, .getfield 188, [7, 3]), (25, .iload_n 1, []), (26, .bipush 100, []), (28, .iload_n 2, []), (29, .iadd, []), (30, .iastore, []), (31, .aload_n 0, []), (32, .getfield 63, [11, 6]), (35, .invokevirtual 199, [2, 2, 0, 0]), (38, .iconst 1, []), (39, .ireturn, [])]
/-- SleepWork.bar(IZ)Z -/
def k_c118 : List (Nat × Instr × List Nat) := [(0, .iload_n 1, []), (1, .ifCond .lt 14, [15]), (4, .iload_n 1, []), (5, .aload_n 0, []), (6, .getfield 47, [11, 8]), (9, .getfield 206, [1, 14]), (12, .if_icmp .lt 5, [17]), (15, .iconst 0, []), (16, .ireturn, []), (17, .aload_n 0, []), (18, .getfield 19, [11, 1]), (21, .iload_n 2, []), (22, .ifCond .eq 17, [39]), (25, .aload_n 0, []), (26, .getfield 19, [11, 1]), (29, .getfield 209, [7, 7]), (32, .iconst 1, []), (33, .iload_n 1, []), (34, .ishl, []), (35, .ior, []), (36, .goto 16, [52]), (39, .aload_n 0, []), (40, .getfield 19, [11, 1]), (43, .getfield 209, [7, 7]), (46, .iconst 1, []), (47, .iload_n 1, []), (48, .ishl, []), (49, .iconst (-1), []), (50, .ixor, []), (51, .iand, []), (52, .putfield 209, [7, 7]), (55, .aload_n 0, []), (56, .getfield 63, [11, 6]), (59, .invokevirtual 199, [2, 2, 0, 0]), (62, .iconst 1, []), (63, .ireturn, [])]
/-- SleepWork.night()I -/
def k_c119 : List (Nat × Instr × List Nat) := [(0, .aload_n 0, []), (1, .getfield 29, [11, 3]), (4, .aload_n 0, []), (5, .getfield 19, [11, 1]), (8, .invokevirtual 212, [2, 36, 1, 3]), (11, .aload_n 0, []), (12, .getfield 47, [11, 8]), (15, .aload_n 0, []), (16, .getfield 19, [11, 1]), (19, .invokevirtual 215, [2, 27, 1, 1]), (22, .istore_n 1, []), (23, .aload_n 0, []), (24, .getfield 63, [11, 6]), (27, .invokevirtual 219, [2, 4, 0, 0]), (30, .aload_n 0, []), (31, .getfield 47, [11, 8]), (34, .aload_n 0, []), (35, .getfield 19, [11, 1]), (38, .invokevirtual 215, [2, 27, 1, 1]), (41, .iload_n 1, []), (42, .isub, []), (43, .ireturn, [])]
/-- SleepWork.undo()Z -/
def k_c120 : List (Nat × Instr × List Nat) := [(0, .aload_n 0, []), (1, .getfield 29, [11, 3]), (4, .aload_n 0, []), (5, .getfield 19, [11, 1]), (8, .invokevirtual 222, [2, 37, 1, 3]), (11, .ifCond .ne 5, [16]), (14, .iconst 0, []), (15, .ireturn, []), (16, .aload_n 0, []), (17, .getfield 63, [11, 6]), (20, .invokevirtual 199, [2, 2, 0, 0]), (23, .iconst 1, []), (24, .ireturn, [])]
/-- SleepWork.gain()I -/
def k_c121 : List (Nat × Instr × List Nat) := [(0, .aload_n 0, []), (1, .getfield 63, [11, 6]), (4, .invokevirtual 226, [2, 5, 0, 0]), (7, .ireturn, [])]
/-- SleepWork.best(II)I -/
def k_c122 : List (Nat × Instr × List Nat) := [(0, .aload_n 0, []), (1, .iload_n 1, []), (2, .invokevirtual 157, [2, 107, 1, 11]), (5, .ifCond .eq 12, [17]), (8, .iload_n 2, []), (9, .ifCond .lt 8, [17]), (12, .iload_n 2, []), (13, .iconst 1, []), (14, .if_icmp .le 5, [19]), (17, .iconst (-1), []), (18, .ireturn, []), (19, .aload_n 0, []), (20, .getfield 63, [11, 6]), (23, .iload_n 1, []), (24, .invokevirtual 229, [2, 10, 1, 0]), (27, .iload_n 2, []), (28, .ifCond .ne 13, [41]), (31, .aload_n 0, []), (32, .getfield 63, [11, 6]), (35, .getfield 232, [0, 10]), (38, .goto 13, [51]), (41, .aload_n 0, []), (42, .getfield 63, [11, 6]), (45, .getfield 235, [0, 12]), (48, .invokestatic 238, [1, 124, 1]), (51, .ireturn, [])]
/-- SleepWork.bestOfTwo(III)I -/
def k_c123 : List (Nat × Instr × List Nat) := [(0, .aload_n 0, []), (1, .iload_n 1, []), (2, .iload_n 2, []), (3, .invokevirtual 242, [2, 110, 2, 11]), (6, .ifCond .eq 12, [18]), (9, .iload_n 3, []), (10, .ifCond .lt 8, [18]), (13, .iload_n 3, []), (14, .iconst 2, []), (15, .if_icmp .le 5, [20]), (18, .iconst (-1), []), (19, .ireturn, []), (20, .aload_n 0, []), (21, .getfield 63, [11, 6]), (24, .iload_n 1, []), (25, .iload_n 2, []), (26, .invokevirtual 245, [2, 11, 2, 0]), (29, .iload_n 3, []), (30, .ifCond .ne 11, [41]), (33, .aload_n 0, []), (34, .getfield 63, [11, 6]), (37, .getfield 232, [0, 10]), (40, .ireturn, []), (41, .iload_n 3, []), (42, .iconst 1, []), (43, .if_icmp .ne 13, [56]), (46, .aload_n 0, []), (47, .getfield 63, [11, 6]), (50, .getfield 235, [0, 12]), (53, .goto 10, [63]), (56, .aload_n 0, []), (57, .getfield 63, [11, 6]), (60, .getfield 249, [0, 13]), (63, .invokestatic 238, [1, 124, 1]), (66, .ireturn, [])]
/-- SleepWork.codeOf(I)I -/
def k_c124 : List (Nat × Instr × List Nat) := [(0, .iload_n 0, []), (1, .ifCond .ge 8, [9]), (4, .bipush (-2), []), (6, .goto 15, [21]), (9, .bipush 10, []), (11, .iload_n 0, []), (12, .bipush 6, []), (14, .idiv, []), (15, .imul, []), (16, .iload_n 0, []), (17, .bipush 6, []), (19, .irem, []), (20, .iadd, []), (21, .ireturn, [])]
/-- SleepWork.hire(I)I -/
def k_c125 : List (Nat × Instr × List Nat) := [(0, .aload_n 0, []), (1, .iload_n 1, []), (2, .invokevirtual 157, [2, 107, 1, 11]), (5, .ifCond .ne 6, [11]), (8, .ldc 252, [0, 4293967296]), (10, .ireturn, []), (11, .aload_n 0, []), (12, .getfield 63, [11, 6]), (15, .iload_n 1, []), (16, .invokevirtual 229, [2, 10, 1, 0]), (19, .aload_n 0, []), (20, .getfield 63, [11, 6]), (23, .getfield 232, [0, 10]), (26, .aload_n 0, []), (27, .getfield 63, [11, 6]), (30, .getfield 253, [0, 11]), (33, .isub, []), (34, .ireturn, [])]
/-- SleepWork.hide(II)I -/
def k_c126 : List (Nat × Instr × List Nat) := [(0, .aload_n 0, []), (1, .iload_n 1, []), (2, .invokevirtual 185, [2, 108, 1, 11]), (5, .ifCond .eq 22, [27]), (8, .aload_n 0, []), (9, .getfield 47, [11, 8]), (12, .getfield 182, [1, 13]), (15, .ifCond .eq 12, [27]), (18, .iload_n 2, []), (19, .ifCond .lt 8, [27]), (22, .iload_n 2, []), (23, .iconst 1, []), (24, .if_icmp .le 5, [29]), (27, .iconst (-1), []), (28, .ireturn, []), (29, .aload_n 0, []), (30, .getfield 63, [11, 6]), (33, .iload_n 1, []), (34, .invokevirtual 256, [2, 12, 1, 0]), (37, .iload_n 2, []), (38, .ifCond .ne 13, [51]), (41, .aload_n 0, []), (42, .getfield 63, [11, 6]), (45, .getfield 232, [0, 10]), (48, .goto 10, [58]), (51, .aload_n 0, []), (52, .getfield 63, [11, 6]), (55, .getfield 235, [0, 12]), (58, .ireturn, [])]
/-- SleepWork.bars(I)I -/
def k_c127 : List (Nat × Instr × List Nat) := [(0, .iload_n 1, []), (1, .ifCond .lt 8, [9]), (4, .iload_n 1, []), (5, .iconst 1, []), (6, .if_icmp .le 5, [11]), (9, .iconst (-1), []), (10, .ireturn, []), (11, .aload_n 0, []), (12, .getfield 63, [11, 6]), (15, .invokevirtual 259, [2, 13, 0, 0]), (18, .iload_n 1, []), (19, .ifCond .ne 13, [32]), (22, .aload_n 0, []), (23, .getfield 63, [11, 6]), (26, .getfield 232, [0, 10]), (29, .goto 10, [39]), (32, .aload_n 0, []), (33, .getfield 63, [11, 6]), (36, .getfield 235, [0, 12]), (39, .ireturn, [])]
/-- SleepWork.where(II)I -/
def k_c128 : List (Nat × Instr × List Nat) := [(0, .aload_n 0, []), (1, .iload_n 1, []), (2, .invokevirtual 157, [2, 107, 1, 11]), (5, .ifCond .eq 18, [23]), (8, .iload_n 2, []), (9, .ifCond .lt 14, [23]), (12, .iload_n 2, []), (13, .aload_n 0, []), (14, .getfield 47, [11, 8]), (17, .getfield 262, [1, 18]), (20, .if_icmp .le 5, [25]), (23, .iconst (-1), []), (24, .ireturn, []), (25, .aload_n 0, []), (26, .getfield 47, [11, 8]), (29, .getfield 164, [1, 11]), (32, .iload_n 1, []), (33, .iaload, []), (34, .istore_n 3, []), (35, .aload_n 0, []), (36, .getfield 19, [11, 1]), (39, .getfield 161, [7, 2]), (42, .iload_n 1, []), (43, .iaload, []), (44, .istore 4, []), (46, .iload 4, []), (48, .ifCond .ge 5, [53]), (51, .iload_n 3, []), (52, .ireturn, []), (53, .aload_n 0, []), (54, .getfield 47, [11, 8]), (57, .getfield 114, [1, 3]), (60, .iload 4, []), (62, .bipush 6, []), (64, .idiv, []), (65, .iaload, []), (66, .istore 5, []), (68, .aload_n 0, []), (69, .getfield 63, [11, 6]), (72, .iload_n 3, []), (73, .iload 5, []), (75, .invokevirtual 194, [2, 3, 2, 0]), (78, .iload_n 2, []), (79, .if_icmp .gt 8, [87]), (82, .iload 5, []), (84, .goto 4, [88]), (87, .iload_n 3, []), (88, .ireturn, [])]
/-- SleepWork.strokes(II)I -/
def k_c129 : List (Nat × Instr × List Nat) := [(0, .aload_n 0, []), (1, .iload_n 1, []), (2, .invokevirtual 157, [2, 107, 1, 11]), (5, .ifCond .eq 18, [23]), (8, .iload_n 2, []), (9, .ifCond .lt 14, [23]), (12, .iload_n 2, []), (13, .aload_n 0, []), (14, .getfield 47, [11, 8]), (17, .getfield 262, [1, 18]), (20, .if_icmp .le 5, [25]), (23, .iconst (-1), []), (24, .ireturn, []), (25, .aload_n 0, []), (26, .getfield 63, [11, 6]), (29, .iload_n 1, []), (30, .iload_n 2, []), (31, .invokevirtual 265, [2, 6, 2, 0]), (34, .ireturn, [])]
/-- SleepWork.tell(III)I -/
def k_c130 : List (Nat × Instr × List Nat) := [(0, .aload_n 0, []), (1, .getfield 47, [11, 8]), (4, .iload_n 1, []), (5, .iload_n 2, []), (6, .invokevirtual 132, [2, 23, 2, 1]), (9, .ifCond .eq 24, [33]), (12, .iload_n 3, []), (13, .ifCond .lt 20, [33]), (16, .iload_n 3, []), (17, .sipush 999, []), (20, .if_icmp .gt 13, [33]), (23, .aload_n 0, []), (24, .getfield 36, [11, 4]), (27, .invokevirtual 268, [2, 90, 0, 9]), (30, .ifCond .eq 5, [35]), (33, .iconst (-1), []), (34, .ireturn, []), (35, .aload_n 0, []), (36, .getfield 36, [11, 4]), (39, .iload_n 1, []), (40, .bipush 6, []), (42, .imul, []), (43, .iload_n 2, []), (44, .iadd, []), (45, .iload_n 3, []), (46, .invokevirtual 271, [2, 91, 2, 9]), (49, .ireturn, [])]
/-- SleepWork.forget()I -/
def k_c131 : List (Nat × Instr × List Nat) := [(0, .aload_n 0, []), (1, .getfield 36, [11, 4]), (4, .getfield 103, [9, 2]), (7, .istore_n 1, []), (8, .aload_n 0, []), (9, .getfield 36, [11, 4]), (12, .iconst 0, []), (13, .putfield 103, [9, 2]), (16, .aload_n 0, []), (17, .getfield 63, [11, 6]), (20, .invokevirtual 199, [2, 2, 0, 0]), (23, .iload_n 1, []), (24, .ireturn, [])]
/-- SleepWork.fits(III)I -/
def k_c132 : List (Nat × Instr × List Nat) := [(0, .aload_n 0, []), (1, .iload_n 1, []), (2, .invokevirtual 157, [2, 107, 1, 11]), (5, .ifCond .eq 16, [21]), (8, .aload_n 0, []), (9, .iload_n 2, []), (10, .invokevirtual 274, [2, 111, 1, 11]), (13, .ifCond .eq 8, [21]), (16, .iload_n 3, []), (17, .iconst (-1), []), (18, .if_icmp .ge 5, [23]), (21, .iconst (-1), []), (22, .ireturn, []), (23, .aload_n 0, []), (24, .getfield 63, [11, 6]), (27, .iload_n 1, []), (28, .iload_n 2, []), (29, .invokevirtual 277, [2, 17, 2, 0]), (32, .iload_n 3, []), (33, .iconst (-1), []), (34, .if_icmp .ne 11, [45]), (37, .aload_n 0, []), (38, .getfield 63, [11, 6]), (41, .getfield 280, [0, 15]), (44, .ireturn, []), (45, .iload_n 3, []), (46, .aload_n 0, []), (47, .getfield 63, [11, 6]), (50, .getfield 280, [0, 15]), (53, .if_icmp .ge 18, [71]), (56, .aload_n 0, []), (57, .getfield 63, [11, 6]), (60, .getfield 283, [0, 14]), (63, .iload_n 3, []), (64, .iaload, []), (65, .invokestatic 238, [1, 124, 1]), (68, .goto 4, [72]), (71, .iconst (-1), []), (72, .ireturn, [])]
/-- SleepWork.suspects(I)I -/
def k_c133 : List (Nat × Instr × List Nat) := [(0, .aload_n 0, []), (1, .iload_n 1, []), (2, .invokevirtual 274, [2, 111, 1, 11]), (5, .ifCond .eq 14, [19]), (8, .aload_n 0, []), (9, .getfield 63, [11, 6]), (12, .iload_n 1, []), (13, .invokevirtual 286, [2, 18, 1, 0]), (16, .goto 4, [20]), (19, .iconst (-1), []), (20, .ireturn, [])]
/-- SleepWork.pairs(III)I -/
def k_c134 : List (Nat × Instr × List Nat) := [(0, .aload_n 0, []), (1, .iload_n 1, []), (2, .iload_n 2, []), (3, .invokevirtual 242, [2, 110, 2, 11]), (6, .ifCond .eq 11, [17]), (9, .aload_n 0, []), (10, .iload_n 3, []), (11, .invokevirtual 274, [2, 111, 1, 11]), (14, .ifCond .ne 5, [19]), (17, .iconst (-1), []), (18, .ireturn, []), (19, .aload_n 0, []), (20, .getfield 63, [11, 6]), (23, .iload_n 1, []), (24, .iload_n 2, []), (25, .iload_n 3, []), (26, .invokevirtual 289, [2, 20, 3, 0]), (29, .ireturn, [])]
/-- SleepWork.hold(I)Z -/
def k_c135 : List (Nat × Instr × List Nat) := [(0, .iload_n 1, []), (1, .ifCond .lt 8, [9]), (4, .iload_n 1, []), (5, .iconst 3, []), (6, .if_icmp .lt 5, [11]), (9, .iconst 0, []), (10, .ireturn, []), (11, .aload_n 0, []), (12, .getfield 40, [11, 5]), (15, .iload_n 1, []), (16, .aaload, []), (17, .aload_n 0, []), (18, .getfield 19, [11, 1]), (21, .invokevirtual 98, [2, 85, 1, 7]), (24, .aload_n 0, []), (25, .dup, []), (26, .getfield 104, [11, 10]), (29, .iconst 1, []), (30, .iload_n 1, []), (31, .ishl, []), (32, .ior, []), (33, .putfield 104, [11, 10]), (36, .iconst 1, []), (37, .ireturn, [])]
/-- SleepWork.restore(I)Z -/
def k_c136 : List (Nat × Instr × List Nat) := [(0, .iload_n 1, []), (1, .ifCond .lt 19, [20]), (4, .iload_n 1, []), (5, .iconst 3, []), (6, .if_icmp .ge 14, [20]), (9, .aload_n 0, []), (10, .getfield 104, [11, 10]), (13, .iconst 1, []), (14, .iload_n 1, []), (15, .ishl, []), (16, .iand, []), (17, .ifCond .ne 5, [22]), (20, .iconst 0, []), (21, .ireturn, []), (22, .aload_n 0, []), (23, .getfield 19, [11, 1]), (26, .aload_n 0, []), (27, .getfield 40, [11, 5]), (30, .iload_n 1, []), (31, .aaload, []), (32, .invokevirtual 98, [2, 85, 1, 7]), (35, .aload_n 0, []), (36, .getfield 29, [11, 3]), (39, .iconst 0, []), (40, .putfield 102, [3, 2]), (43, .aload_n 0, []), (44, .getfield 63, [11, 6]), (47, .invokevirtual 199, [2, 2, 0, 0]), (50, .iconst 1, []), (51, .ireturn, [])]
/-- SleepWork.count(I)I -/
def k_c137 : List (Nat × Instr × List Nat) := [(0, .iload_n 1, []), (1, .tableswitch 178 0 12 #[67, 75, 83, 91, 99, 107, 115, 123, 134, 146, 154, 162, 170], [179, 68, 76, 84, 92, 100, 108, 116, 124, 135, 147, 155, 163, 171]), (68, .aload_n 0, []), (69, .getfield 47, [11, 8]), (72, .getfield 182, [1, 13]), (75, .ireturn, []), (76, .aload_n 0, []), (77, .getfield 47, [11, 8]), (80, .getfield 206, [1, 14]), (83, .ireturn, []), (84, .aload_n 0, []), (85, .getfield 47, [11, 8]), (88, .getfield 179, [1, 15]), (91, .ireturn, []), (92, .aload_n 0, []), (93, .getfield 47, [11, 8]), (96, .getfield 111, [1, 16]), (99, .ireturn, []), (100, .aload_n 0, []), (101, .getfield 47, [11, 8]), (104, .getfield 176, [1, 17]), (107, .ireturn, []), (108, .aload_n 0, []), (109, .getfield 47, [11, 8]), (112, .getfield 262, [1, 18]), (115, .ireturn, []), (116, .aload_n 0, []), (117, .getfield 19, [11, 1]), (120, .getfield 293, [7, 8]), (123, .ireturn, []), (124, .aload_n 0, []), (125, .getfield 19, [11, 1]), (128, .getfield 209, [7, 7]), (131, .invokestatic 296, [1, 243, 1]), (134, .ireturn, []), (135, .aload_n 0, []), (136, .getfield 47, [11, 8]), (139, .aload_n 0, []), (140, .getfield 19, [11, 1]), (143, .invokevirtual 215, [2, 27, 1, 1]), (146, .ireturn, []), (147, .aload_n 0, []), (148, .getfield 12, [11, 0]), (151, .getfield 84, [8, 1]), (154, .ireturn, []), (155, .aload_n 0, []), (156, .getfield 29, [11, 3]), (159, .getfield 102, [3, 2]), (162, .ireturn, []), (163, .aload_n 0, []), (164, .getfield 36, [11, 4]), (167, .getfield 103, [9, 2]), (170, .ireturn, []), (171, .aload_n 0, []), (172, .getfield 104, [11, 10]), (175, .invokestatic 296, [1, 243, 1]), (178, .ireturn, []), (179, .iconst (-1), []), (180, .ireturn, [])]
def k_c138_0 : List (Nat × Instr × List Nat) := [(0, .aload_n 0, []), (1, .invokespecial 7, [0]), (4, .aload_n 0, []), (5, .sipush 2000, []), (8, .newarray .byte, [1]), (10, .putfield 13, [12, 1]), (13, .aload_n 0, []), (14, .sipush 2000, []), (17, .newarray .byte, [1]), (19, .putfield 17, [12, 3]), (22, .aload_n 0, []), (23, .sipush 403, []), (26, .newarray .int, [0]), (28, .putfield 20, [12, 5]), (31, .aload_n 0, []), (32, .sipush 403, []), (35, .newarray .int, [0]), (37, .putfield 24, [12, 6]), (40, .aload_n 0, []), (41, .sipush 403, []), (44, .newarray .int, [0]), (46, .putfield 27, [12, 7]), (49, .aload_n 0, []), (50, .sipush 403, []), (53, .newarray .long, [3]), (55, .putfield 30, [12, 8]), (58, .aload_n 0, []), (59, .bipush 21, []), (61, .newarray .long, [3]), (63, .putfield 34, [12, 9]), (66, .aload_n 0, []), (67, .iconst (-1), []), (68, .putfield 37, [12, 17]), (71, .aload_n 0, []), (72, .bipush 32, []), (74, .newarray .long, [3]), (76, .putfield 40, [12, 21]), (79, .aload_n 0, []), (80, .bipush 32, []), (82, .newarray .int, [0]), (84, .putfield 43, [12, 22]), (87, .aload_n 0, []), (88, .bipush 32, []), (90, .newarray .int, [0]), (92, .putfield 46, [12, 23]), (95, .aload_n 0, []), (96, .iconst 2, []), (97, .newarray .int, [0]), (99, .putfield 49, [12, 24]), (102, .aload_n 0, []), (103, .iconst 2, []), (104, .newarray .int, [0]), (106, .putfield 52, [12, 25]), (109, .aload_n 0, []), (110, .bipush 24, []), (112, .newarray .int, [0]), (114, .putfield 55, [12, 26]), (117, .aload_n 0, []), (118, .bipush 24, []), (120, .newarray .int, [0])]
def k_c138_1 : List (Nat × Instr × List Nat) := [(122, .putfield 58, [12, 27]), (125, .aload_n 0, []), (126, .bipush 24, []), (128, .newarray .int, [0]), (130, .putfield 61, [12, 28]), (133, .aload_n 0, []), (134, .bipush 24, []), (136, .newarray .boolean, [2]), (138, .putfield 64, [12, 29]), (141, .aload_n 0, []), (142, .iconst 2, []), (143, .newarray .int, [0]), (145, .putfield 68, [12, 30]), (148, .aload_n 0, []), (149, .bipush 12, []), (151, .newarray .int, [0]), (153, .putfield 71, [12, 31]), (156, .aload_n 0, []), (157, .iconst 2, []), (158, .newarray .int, [0]), (160, .putfield 74, [12, 32]), (163, .aload_n 0, []), (164, .bipush 12, []), (166, .newarray .int, [0]), (168, .putfield 77, [12, 33]), (171, .aload_n 0, []), (172, .bipush 12, []), (174, .newarray .int, [0]), (176, .putfield 80, [12, 34]), (179, .aload_n 0, []), (180, .bipush 12, []), (182, .newarray .int, [0]), (184, .putfield 83, [12, 35]), (187, .aload_n 0, []), (188, .bipush 72, []), (190, .newarray .int, [0]), (192, .putfield 86, [12, 36]), (195, .aload_n 0, []), (196, .bipush 72, []), (198, .newarray .int, [0]), (200, .putfield 89, [12, 37]), (203, .aload_n 0, []), (204, .bipush 72, []), (206, .newarray .int, [0]), (208, .putfield 92, [12, 38]), (211, .aload_n 0, []), (212, .bipush 72, []), (214, .newarray .int, [0]), (216, .putfield 95, [12, 39]), (219, .aload_n 0, []), (220, .bipush 72, []), (222, .newarray .int, [0]), (224, .putfield 98, [12, 40]), (227, .aload_n 0, []), (228, .bipush 72, []), (230, .newarray .int, [0]), (232, .putfield 101, [12, 41]), (235, .aload_n 0, []), (236, .iconst 2, []), (237, .newarray .int, [0])]
def k_c138_2 : List (Nat × Instr × List Nat) := [(239, .putfield 104, [12, 42]), (242, .aload_n 0, []), (243, .bipush 12, []), (245, .newarray .int, [0]), (247, .putfield 107, [12, 43]), (250, .aload_n 0, []), (251, .bipush 12, []), (253, .newarray .int, [0]), (255, .putfield 110, [12, 44]), (258, .aload_n 0, []), (259, .bipush 12, []), (261, .newarray .int, [0]), (263, .putfield 113, [12, 45]), (266, .aload_n 0, []), (267, .iconst 2, []), (268, .newarray .int, [0]), (270, .putfield 116, [12, 46]), (273, .aload_n 0, []), (274, .bipush 12, []), (276, .newarray .int, [0]), (278, .putfield 119, [12, 47]), (281, .aload_n 0, []), (282, .bipush 12, []), (284, .newarray .int, [0]), (286, .putfield 122, [12, 48]), (289, .aload_n 0, []), (290, .bipush 100, []), (292, .newarray .boolean, [2]), (294, .putfield 125, [12, 50]), (297, .aload_n 0, []), (298, .bipush 100, []), (300, .newarray .int, [0]), (302, .putfield 128, [12, 51]), (305, .aload_n 0, []), (306, .bipush 100, []), (308, .newarray .int, [0]), (310, .putfield 131, [12, 52]), (313, .aload_n 0, []), (314, .bipush 100, []), (316, .newarray .int, [0]), (318, .putfield 134, [12, 53]), (321, .aload_n 0, []), (322, .bipush 100, []), (324, .newarray .int, [0]), (326, .putfield 137, [12, 54]), (329, .aload_n 0, []), (330, .iconst 2, []), (331, .newarray .int, [0]), (333, .putfield 140, [12, 55]), (336, .aload_n 0, []), (337, .sipush 840, []), (340, .newarray .int, [0]), (342, .putfield 143, [12, 57]), (345, .aload_n 0, []), (346, .sipush 840, []), (349, .newarray .int, [0]), (351, .putfield 146, [12, 58]), (354, .aload_n 0, []), (355, .bipush 64, []), (357, .newarray .int, [0])]
def k_c138_3 : List (Nat × Instr × List Nat) := [(359, .putfield 149, [12, 59]), (362, .aload_n 0, []), (363, .bipush 6, []), (365, .newarray .int, [0]), (367, .putfield 152, [12, 61]), (370, .aload_n 0, []), (371, .sipush 400, []), (374, .newarray .int, [0]), (376, .putfield 155, [12, 62]), (379, .aload_n 0, []), (380, .bipush 100, []), (382, .newarray .int, [0]), (384, .putfield 158, [12, 64]), (387, .aload_n 0, []), (388, .bipush 100, []), (390, .newarray .int, [0]), (392, .putfield 161, [12, 65]), (395, .aload_n 0, []), (396, .bipush 64, []), (398, .newarray .int, [0]), (400, .putfield 164, [12, 66]), (403, .aload_n 0, []), (404, .bipush 6, []), (406, .newarray .int, [0]), (408, .putfield 167, [12, 67]), (411, .aload_n 0, []), (412, .bipush 6, []), (414, .newarray .int, [0]), (416, .putfield 170, [12, 68]), (419, .aload_n 0, []), (420, .bipush 6, []), (422, .newarray .int, [0]), (424, .putfield 173, [12, 69]), (427, .aload_n 0, []), (428, .bipush 6, []), (430, .newarray .int, [0]), (432, .putfield 176, [12, 70]), (435, .aload_n 0, []), (436, .bipush 6, []), (438, .newarray .int, [0]), (440, .putfield 179, [12, 71]), (443, .aload_n 0, []), (444, .bipush 6, []), (446, .newarray .int, [0]), (448, .putfield 182, [12, 72]), (451, .aload_n 0, []), (452, .bipush 6, []), (454, .newarray .boolean, [2]), (456, .putfield 185, [12, 73]), (459, .aload_n 0, []), (460, .sipush 2000, []), (463, .newarray .int, [0]), (465, .putfield 188, [12, 75]), (468, .aload_n 0, []), (469, .bipush 30, []), (471, .newarray .int, [0]), (473, .putfield 191, [12, 78]), (476, .aload_n 0, []), (477, .bipush 30, []), (479, .newarray .int, [0])]
def k_c138_4 : List (Nat × Instr × List Nat) := [(481, .putfield 194, [12, 79]), (484, .aload_n 0, []), (485, .bipush 30, []), (487, .newarray .int, [0]), (489, .putfield 197, [12, 80]), (492, .aload_n 0, []), (493, .iconst 3, []), (494, .newarray .boolean, [2]), (496, .putfield 200, [12, 81]), (499, .aload_n 0, []), (500, .sipush 300, []), (503, .newarray .int, [0]), (505, .putfield 203, [12, 82]), (508, .aload_n 0, []), (509, .getfield 140, [12, 55]), (512, .iconst 0, []), (513, .sipush 480, []), (516, .iastore, []), (517, .aload_n 0, []), (518, .getfield 34, [12, 9]), (521, .iconst 0, []), (522, .bipush 114, []), (524, .bipush 111, []), (526, .bipush 111, []), (528, .bipush 109, []), (530, .iconst 0, []), (531, .iconst 0, []), (532, .iconst 0, []), (533, .invokestatic 206, [1, 146, 7]), (536, .lastore, []), (537, .aload_n 0, []), (538, .getfield 34, [12, 9]), (541, .iconst 1, []), (542, .bipush 100, []), (544, .bipush 111, []), (546, .bipush 111, []), (548, .bipush 114, []), (550, .iconst 0, []), (551, .iconst 0, []), (552, .iconst 0, []), (553, .invokestatic 206, [1, 146, 7]), (556, .lastore, []), (557, .aload_n 0, []), (558, .getfield 34, [12, 9]), (561, .iconst 2, []), (562, .bipush 115, []), (564, .bipush 104, []), (566, .bipush 117, []), (568, .bipush 116, []), (570, .iconst 0, []), (571, .iconst 0, []), (572, .iconst 0, []), (573, .invokestatic 206, [1, 146, 7]), (576, .lastore, []), (577, .aload_n 0, []), (578, .getfield 34, [12, 9]), (581, .iconst 3, []), (582, .bipush 116, []), (584, .bipush 111, []), (586, .bipush 111, [])]
def k_c138_5 : List (Nat × Instr × List Nat) := [(588, .bipush 108, []), (590, .iconst 0, []), (591, .iconst 0, []), (592, .iconst 0, []), (593, .invokestatic 206, [1, 146, 7]), (596, .lastore, []), (597, .aload_n 0, []), (598, .getfield 34, [12, 9]), (601, .iconst 4, []), (602, .bipush 116, []), (604, .bipush 97, []), (606, .bipush 115, []), (608, .bipush 107, []), (610, .iconst 0, []), (611, .iconst 0, []), (612, .iconst 0, []), (613, .invokestatic 206, [1, 146, 7]), (616, .lastore, []), (617, .aload_n 0, []), (618, .getfield 34, [12, 9]), (621, .iconst 5, []), (622, .bipush 115, []), (624, .bipush 116, []), (626, .bipush 101, []), (628, .bipush 112, []), (630, .iconst 0, []), (631, .iconst 0, []), (632, .iconst 0, []), (633, .invokestatic 206, [1, 146, 7]), (636, .lastore, []), (637, .aload_n 0, []), (638, .getfield 34, [12, 9]), (641, .bipush 6, []), (643, .bipush 119, []), (645, .bipush 105, []), (647, .bipush 116, []), (649, .bipush 104, []), (651, .iconst 0, []), (652, .iconst 0, []), (653, .iconst 0, []), (654, .invokestatic 206, [1, 146, 7]), (657, .lastore, []), (658, .aload_n 0, []), (659, .getfield 34, [12, 9]), (662, .bipush 7, []), (664, .bipush 117, []), (666, .bipush 110, []), (668, .bipush 100, []), (670, .bipush 111, []), (672, .bipush 101, []), (674, .bipush 115, []), (676, .iconst 0, []), (677, .invokestatic 206, [1, 146, 7]), (680, .lastore, []), (681, .aload_n 0, []), (682, .getfield 34, [12, 9]), (685, .bipush 8, []), (687, .bipush 109, []), (689, .bipush 97, []), (691, .bipush 110, [])]
def k_c138_6 : List (Nat × Instr × List Nat) := [(693, .iconst 0, []), (694, .iconst 0, []), (695, .iconst 0, []), (696, .iconst 0, []), (697, .invokestatic 206, [1, 146, 7]), (700, .lastore, []), (701, .aload_n 0, []), (702, .getfield 34, [12, 9]), (705, .bipush 9, []), (707, .bipush 108, []), (709, .bipush 101, []), (711, .bipush 102, []), (713, .bipush 116, []), (715, .iconst 0, []), (716, .iconst 0, []), (717, .iconst 0, []), (718, .invokestatic 206, [1, 146, 7]), (721, .lastore, []), (722, .aload_n 0, []), (723, .getfield 34, [12, 9]), (726, .bipush 10, []), (728, .bipush 108, []), (730, .bipush 97, []), (732, .bipush 119, []), (734, .iconst 0, []), (735, .iconst 0, []), (736, .iconst 0, []), (737, .iconst 0, []), (738, .invokestatic 206, [1, 146, 7]), (741, .lastore, []), (742, .aload_n 0, []), (743, .getfield 34, [12, 9]), (746, .bipush 11, []), (748, .bipush 105, []), (750, .bipush 102, []), (752, .iconst 0, []), (753, .iconst 0, []), (754, .iconst 0, []), (755, .iconst 0, []), (756, .iconst 0, []), (757, .invokestatic 206, [1, 146, 7]), (760, .lastore, []), (761, .aload_n 0, []), (762, .getfield 34, [12, 9]), (765, .bipush 12, []), (767, .bipush 116, []), (769, .bipush 104, []), (771, .bipush 101, []), (773, .bipush 110, []), (775, .iconst 0, []), (776, .iconst 0, []), (777, .iconst 0, []), (778, .invokestatic 206, [1, 146, 7]), (781, .lastore, []), (782, .aload_n 0, []), (783, .getfield 34, [12, 9]), (786, .bipush 13, []), (788, .bipush 101, []), (790, .bipush 108, []), (792, .bipush 115, [])]
def k_c138_7 : List (Nat × Instr × List Nat) := [(794, .bipush 101, []), (796, .iconst 0, []), (797, .iconst 0, []), (798, .iconst 0, []), (799, .invokestatic 206, [1, 146, 7]), (802, .lastore, []), (803, .aload_n 0, []), (804, .getfield 34, [12, 9]), (807, .bipush 14, []), (809, .bipush 110, []), (811, .bipush 105, []), (813, .bipush 103, []), (815, .bipush 104, []), (817, .bipush 116, []), (819, .iconst 0, []), (820, .iconst 0, []), (821, .invokestatic 206, [1, 146, 7]), (824, .lastore, []), (825, .aload_n 0, []), (826, .getfield 34, [12, 9]), (829, .bipush 15, []), (831, .bipush 108, []), (833, .bipush 97, []), (835, .bipush 115, []), (837, .bipush 116, []), (839, .iconst 0, []), (840, .iconst 0, []), (841, .iconst 0, []), (842, .invokestatic 206, [1, 146, 7]), (845, .lastore, []), (846, .aload_n 0, []), (847, .getfield 34, [12, 9]), (850, .bipush 16, []), (852, .bipush 100, []), (854, .bipush 111, []), (856, .bipush 110, []), (858, .bipush 101, []), (860, .iconst 0, []), (861, .iconst 0, []), (862, .iconst 0, []), (863, .invokestatic 206, [1, 146, 7]), (866, .lastore, []), (867, .aload_n 0, []), (868, .getfield 34, [12, 9]), (871, .bipush 17, []), (873, .bipush 115, []), (875, .bipush 116, []), (877, .bipush 101, []), (879, .bipush 112, []), (881, .bipush 115, []), (883, .iconst 0, []), (884, .iconst 0, []), (885, .invokestatic 206, [1, 146, 7]), (888, .lastore, []), (889, .aload_n 0, []), (890, .getfield 34, [12, 9]), (893, .bipush 18, []), (895, .bipush 109, []), (897, .bipush 105, []), (899, .bipush 110, [])]
def k_c138_8 : List (Nat × Instr × List Nat) := [(901, .bipush 117, []), (903, .bipush 116, []), (905, .bipush 101, []), (907, .iconst 0, []), (908, .invokestatic 206, [1, 146, 7]), (911, .lastore, []), (912, .aload_n 0, []), (913, .getfield 34, [12, 9]), (916, .bipush 19, []), (918, .bipush 115, []), (920, .bipush 116, []), (922, .bipush 117, []), (924, .bipush 102, []), (926, .bipush 102, []), (928, .iconst 0, []), (929, .iconst 0, []), (930, .invokestatic 206, [1, 146, 7]), (933, .lastore, []), (934, .aload_n 0, []), (935, .getfield 34, [12, 9]), (938, .bipush 20, []), (940, .bipush 116, []), (942, .bipush 105, []), (944, .bipush 109, []), (946, .bipush 101, []), (948, .bipush 115, []), (950, .iconst 0, []), (951, .iconst 0, []), (952, .invokestatic 206, [1, 146, 7]), (955, .lastore, []), (956, .return_, [])]
/-- SleepWorkModel.<init>()V -/
def k_c138 : List (Nat × Instr × List Nat) := k_c138_0 ++ (k_c138_1 ++ (k_c138_2 ++ (k_c138_3 ++ (k_c138_4 ++ (k_c138_5 ++ (k_c138_6 ++ (k_c138_7 ++ (k_c138_8))))))))
/-- SleepWorkModel.feed(IIIII)I -/
def k_c139 : List (Nat × Instr × List Nat) := [(0, .aload_n 0, []), (1, .getfield 210, [12, 2]), (4, .bipush 20, []), (6, .iadd, []), (7, .sipush 2000, []), (10, .if_icmp .le 5, [15]), (13, .iconst (-1), []), (14, .ireturn, []), (15, .aload_n 0, []), (16, .iload_n 1, []), (17, .invokevirtual 213, [2, 140, 1, 12]), (20, .aload_n 0, []), (21, .iload_n 2, []), (22, .invokevirtual 213, [2, 140, 1, 12]), (25, .aload_n 0, []), (26, .iload_n 3, []), (27, .invokevirtual 213, [2, 140, 1, 12]), (30, .aload_n 0, []), (31, .iload 4, []), (33, .invokevirtual 213, [2, 140, 1, 12]), (36, .aload_n 0, []), (37, .iload 5, []), (39, .invokevirtual 213, [2, 140, 1, 12]), (42, .aload_n 0, []), (43, .getfield 210, [12, 2]), (46, .ireturn, [])]
/-- SleepWorkModel.put(I)V -/
def k_c140 : List (Nat × Instr × List Nat) := [(0, .bipush 24, []), (2, .istore_n 2, []), (3, .iload_n 2, []), (4, .ifCond .lt 32, [36]), (7, .aload_n 0, []), (8, .getfield 13, [12, 1]), (11, .aload_n 0, []), (12, .getfield 210, [12, 2]), (15, .iload_n 1, []), (16, .iload_n 2, []), (17, .ishr, []), (18, .i2b, []), (19, .bastore, []), (20, .aload_n 0, []), (21, .dup, []), (22, .getfield 210, [12, 2]), (25, .iconst 1, []), (26, .iadd, []), (27, .putfield 210, [12, 2]), (30, .iinc 2 (-8), []), (33, .goto (-30), [3]), (36, .return_, [])]
/-- SleepWorkModel.back(I)I -/
def k_c141 : List (Nat × Instr × List Nat) := [(0, .iload_n 1, []), (1, .ifCond .lt 11, [12]), (4, .iload_n 1, []), (5, .aload_n 0, []), (6, .getfield 210, [12, 2]), (9, .if_icmp .le 5, [14]), (12, .iconst (-1), []), (13, .ireturn, []), (14, .aload_n 0, []), (15, .dup, []), (16, .getfield 210, [12, 2]), (19, .iload_n 1, []), (20, .isub, []), (21, .putfield 210, [12, 2]), (24, .aload_n 0, []), (25, .getfield 210, [12, 2]), (28, .ireturn, [])]
/-- SleepWorkModel.byteAt(I)I -/
def k_c142 : List (Nat × Instr × List Nat) := [(0, .iload_n 1, []), (1, .aload_n 0, []), (2, .getfield 217, [12, 4]), (5, .if_icmp .ge 16, [21]), (8, .aload_n 0, []), (9, .getfield 17, [12, 3]), (12, .iload_n 1, []), (13, .baload, []), (14, .sipush 255, []), (17, .iand, []), (18, .goto 4, [22]), (21, .iconst 0, []), (22, .ireturn, [])]
/-- SleepWorkModel.isDigit(I)Z -/
def k_c143 : List (Nat × Instr × List Nat) := [(0, .iload_n 0, []), (1, .bipush 48, []), (3, .if_icmp .lt 13, [16]), (6, .iload_n 0, []), (7, .bipush 57, []), (9, .if_icmp .gt 7, [16]), (12, .iconst 1, []), (13, .goto 4, [17]), (16, .iconst 0, []), (17, .ireturn, [])]
/-- SleepWorkModel.isLetter(I)Z -/
def k_c144 : List (Nat × Instr × List Nat) := [(0, .iload_n 0, []), (1, .bipush 97, []), (3, .if_icmp .lt 13, [16]), (6, .iload_n 0, []), (7, .bipush 122, []), (9, .if_icmp .gt 7, [16]), (12, .iconst 1, []), (13, .goto 4, [17]), (16, .iconst 0, []), (17, .ireturn, [])]
/-- SleepWorkModel.appends(JI)J -/
def k_c145 : List (Nat × Instr × List Nat) := [(0, .iload_n 2, []), (1, .ifCond .ne 7, [8]), (4, .lload_n 0, []), (5, .goto 16, [21]), (8, .ldc2_w 220, [27]), (11, .lload_n 0, []), (12, .lmul, []), (13, .iload_n 2, []), (14, .bipush 97, []), (16, .isub, []), (17, .iconst 1, []), (18, .iadd, []), (19, .i2l, []), (20, .ladd, []), (21, .lreturn, [])]
/-- SleepWorkModel.word(IIIIIII)J -/
def k_c146 : List (Nat × Instr × List Nat) := [(0, .lconst 0, []), (1, .iload_n 0, []), (2, .invokestatic 222, [1, 145, 2]), (5, .iload_n 1, []), (6, .invokestatic 222, [1, 145, 2]), (9, .iload_n 2, []), (10, .invokestatic 222, [1, 145, 2]), (13, .iload_n 3, []), (14, .invokestatic 222, [1, 145, 2]), (17, .iload 4, []), (19, .invokestatic 222, [1, 145, 2]), (22, .iload 5, []), (24, .invokestatic 222, [1, 145, 2]), (27, .iload 6, []), (29, .invokestatic 222, [1, 145, 2]), (32, .lreturn, [])]
/-- SleepWorkModel.token(IIIJ)V -/
def k_c147 : List (Nat × Instr × List Nat) := [(0, .aload_n 0, []), (1, .getfield 20, [12, 5]), (4, .aload_n 0, []), (5, .getfield 226, [12, 10]), (8, .iload_n 1, []), (9, .iastore, []), (10, .aload_n 0, []), (11, .getfield 24, [12, 6]), (14, .aload_n 0, []), (15, .getfield 226, [12, 10]), (18, .iload_n 2, []), (19, .iastore, []), (20, .aload_n 0, []), (21, .getfield 27, [12, 7]), (24, .aload_n 0, []), (25, .getfield 226, [12, 10]), (28, .iload_n 3, []), (29, .iastore, []), (30, .aload_n 0, []), (31, .getfield 30, [12, 8]), (34, .aload_n 0, []), (35, .getfield 226, [12, 10]), (38, .lload 4, []), (40, .lastore, []), (41, .aload_n 0, []), (42, .dup, []), (43, .getfield 226, [12, 10]), (46, .iconst 1, []), (47, .iadd, []), (48, .putfield 226, [12, 10]), (51, .return_, [])]
def k_c148_0 : List (Nat × Instr × List Nat) := [(0, .aload_n 0, []), (1, .iconst 0, []), (2, .putfield 226, [12, 10]), (5, .iconst 0, []), (6, .istore_n 1, []), (7, .aload_n 0, []), (8, .getfield 226, [12, 10]), (11, .sipush 400, []), (14, .if_icmp .gt 280, [294]), (17, .aload_n 0, []), (18, .iload_n 1, []), (19, .invokevirtual 229, [2, 142, 1, 12]), (22, .istore_n 2, []), (23, .iload_n 1, []), (24, .aload_n 0, []), (25, .getfield 217, [12, 4]), (28, .if_icmp .lt 15, [43]), (31, .aload_n 0, []), (32, .iconst 0, []), (33, .aload_n 0, []), (34, .getfield 217, [12, 4]), (37, .iconst 0, []), (38, .lconst 0, []), (39, .invokevirtual 233, [2, 147, 4, 12]), (42, .return_, []), (43, .iload_n 2, []), (44, .bipush 9, []), (46, .if_icmp .eq 21, [67]), (49, .iload_n 2, []), (50, .bipush 10, []), (52, .if_icmp .eq 15, [67]), (55, .iload_n 2, []), (56, .bipush 13, []), (58, .if_icmp .eq 9, [67]), (61, .iload_n 2, []), (62, .bipush 32, []), (64, .if_icmp .ne 9, [73]), (67, .iinc 1 1, []), (70, .goto 221, [291]), (73, .iload_n 2, []), (74, .invokestatic 237, [1, 144, 1]), (77, .ifCond .eq 119, [196]), (80, .iconst 0, []), (81, .istore_n 3, []), (82, .lconst 0, []), (83, .lstore 4, []), (85, .aload_n 0, []), (86, .iload_n 1, []), (87, .iload_n 3, []), (88, .iadd, []), (89, .invokevirtual 229, [2, 142, 1, 12]), (92, .invokestatic 237, [1, 144, 1]), (95, .ifCond .eq 29, [124]), (98, .iload_n 3, []), (99, .bipush 8, []), (101, .if_icmp .ge 17, [118]), (104, .lload 4, []), (106, .aload_n 0, []), (107, .iload_n 1, []), (108, .iload_n 3, [])]
def k_c148_1 : List (Nat × Instr × List Nat) := [(109, .iadd, []), (110, .invokevirtual 229, [2, 142, 1, 12]), (113, .invokestatic 222, [1, 145, 2]), (116, .lstore 4, []), (118, .iinc 3 1, []), (121, .goto (-36), [85]), (124, .iload_n 3, []), (125, .bipush 8, []), (127, .if_icmp .le 7, [134]), (130, .iconst 3, []), (131, .goto 4, [135]), (134, .iconst 1, []), (135, .istore 6, []), (137, .iload_n 3, []), (138, .bipush 7, []), (140, .if_icmp .gt 39, [179]), (143, .iconst 0, []), (144, .istore 7, []), (146, .iload 7, []), (148, .bipush 21, []), (150, .if_icmp .ge 29, [179]), (153, .aload_n 0, []), (154, .getfield 34, [12, 9]), (157, .iload 7, []), (159, .laload, []), (160, .lload 4, []), (162, .lcmp, []), (163, .ifCond .ne 10, [173]), (166, .bipush 20, []), (168, .iload 7, []), (170, .iadd, []), (171, .istore 6, []), (173, .iinc 7 1, []), (176, .goto (-30), [146]), (179, .aload_n 0, []), (180, .iload 6, []), (182, .iload_n 1, []), (183, .iconst 0, []), (184, .lload 4, []), (186, .invokevirtual 233, [2, 147, 4, 12]), (189, .iload_n 1, []), (190, .iload_n 3, []), (191, .iadd, []), (192, .istore_n 1, []), (193, .goto 98, [291]), (196, .iload_n 2, []), (197, .invokestatic 241, [1, 143, 1]), (200, .ifCond .eq 75, [275]), (203, .iconst 0, []), (204, .istore_n 3, []), (205, .iconst 0, []), (206, .istore 4, []), (208, .aload_n 0, []), (209, .iload_n 1, []), (210, .iload_n 3, []), (211, .iadd, []), (212, .invokevirtual 229, [2, 142, 1, 12]), (215, .invokestatic 241, [1, 143, 1]), (218, .ifCond .eq 32, [250]), (221, .iload_n 3, [])]
def k_c148_2 : List (Nat × Instr × List Nat) := [(222, .iconst 4, []), (223, .if_icmp .ge 21, [244]), (226, .bipush 10, []), (228, .iload 4, []), (230, .imul, []), (231, .aload_n 0, []), (232, .iload_n 1, []), (233, .iload_n 3, []), (234, .iadd, []), (235, .invokevirtual 229, [2, 142, 1, 12]), (238, .iadd, []), (239, .bipush 48, []), (241, .isub, []), (242, .istore 4, []), (244, .iinc 3 1, []), (247, .goto (-39), [208]), (250, .aload_n 0, []), (251, .iload_n 3, []), (252, .iconst 4, []), (253, .if_icmp .le 7, [260]), (256, .iconst 3, []), (257, .goto 4, [261]), (260, .iconst 2, []), (261, .iload_n 1, []), (262, .iload 4, []), (264, .lconst 0, []), (265, .invokevirtual 233, [2, 147, 4, 12]), (268, .iload_n 1, []), (269, .iload_n 3, []), (270, .iadd, []), (271, .istore_n 1, []), (272, .goto 19, [291]), (275, .iload_n 1, []), (276, .aload_n 0, []), (277, .iload_n 1, []), (278, .iload_n 2, []), (279, .aload_n 0, []), (280, .iload_n 1, []), (281, .iconst 1, []), (282, .iadd, []), (283, .invokevirtual 229, [2, 142, 1, 12]), (286, .invokevirtual 244, [2, 149, 3, 12]), (289, .iadd, []), (290, .istore_n 1, []), (291, .goto (-284), [7]), (294, .return_, [])]
/-- SleepWorkModel.cut()V -/
def k_c148 : List (Nat × Instr × List Nat) := k_c148_0 ++ (k_c148_1 ++ (k_c148_2))
/-- SleepWorkModel.sign(III)I -/
def k_c149 : List (Nat × Instr × List Nat) := [(0, .iload_n 2, []), (1, .bipush 59, []), (3, .if_icmp .ne 7, [10]), (6, .iconst 4, []), (7, .goto 36, [43]), (10, .iload_n 2, []), (11, .bipush 61, []), (13, .if_icmp .ne 7, [20]), (16, .iconst 5, []), (17, .goto 26, [43]), (20, .iload_n 2, []), (21, .bipush 40, []), (23, .if_icmp .ne 8, [31]), (26, .bipush 6, []), (28, .goto 15, [43]), (31, .iload_n 2, []), (32, .bipush 41, []), (34, .if_icmp .ne 8, [42]), (37, .bipush 7, []), (39, .goto 4, [43]), (42, .iconst 3, []), (43, .istore 4, []), (45, .iload_n 2, []), (46, .bipush 43, []), (48, .if_icmp .ne 7, [55]), (51, .bipush 8, []), (53, .istore 4, []), (55, .iload_n 2, []), (56, .bipush 45, []), (58, .if_icmp .ne 7, [65]), (61, .bipush 9, []), (63, .istore 4, []), (65, .iload_n 2, []), (66, .bipush 42, []), (68, .if_icmp .ne 7, [75]), (71, .bipush 10, []), (73, .istore 4, []), (75, .iload_n 2, []), (76, .bipush 47, []), (78, .if_icmp .ne 7, [85]), (81, .bipush 15, []), (83, .istore 4, []), (85, .iload_n 2, []), (86, .bipush 60, []), (88, .if_icmp .ne 7, [95]), (91, .bipush 13, []), (93, .istore 4, []), (95, .aload_n 0, []), (96, .iload 4, []), (98, .iload_n 1, []), (99, .iconst 0, []), (100, .lconst 0, []), (101, .invokevirtual 233, [2, 147, 4, 12]), (104, .iconst 1, []), (105, .ireturn, [])]
/-- SleepWorkModel.is(I)Z -/
def k_c150 : List (Nat × Instr × List Nat) := [(0, .aload_n 0, []), (1, .getfield 248, [12, 13]), (4, .ifCond .ne 20, [24]), (7, .aload_n 0, []), (8, .getfield 20, [12, 5]), (11, .aload_n 0, []), (12, .getfield 251, [12, 11]), (15, .iaload, []), (16, .iload_n 1, []), (17, .if_icmp .ne 7, [24]), (20, .iconst 1, []), (21, .goto 4, [25]), (24, .iconst 0, []), (25, .ireturn, [])]
/-- SleepWorkModel.fail(I)V -/
def k_c151 : List (Nat × Instr × List Nat) := [(0, .aload_n 0, []), (1, .getfield 248, [12, 13]), (4, .ifCond .le 4, [8]), (7, .return_, []), (8, .aload_n 0, []), (9, .iload_n 1, []), (10, .putfield 248, [12, 13]), (13, .aload_n 0, []), (14, .aload_n 0, []), (15, .getfield 24, [12, 6]), (18, .aload_n 0, []), (19, .getfield 251, [12, 11]), (22, .iaload, []), (23, .putfield 254, [12, 14]), (26, .return_, [])]
/-- SleepWorkModel.wrong(II)V -/
def k_c152 : List (Nat × Instr × List Nat) := [(0, .aload_n 0, []), (1, .getfield 24, [12, 6]), (4, .iload_n 2, []), (5, .iaload, []), (6, .istore_n 3, []), (7, .aload_n 0, []), (8, .getfield 248, [12, 13]), (11, .ifCond .gt 34, [45]), (14, .aload_n 0, []), (15, .getfield 257, [12, 15]), (18, .ifCond .eq 28, [46]), (21, .iload_n 3, []), (22, .aload_n 0, []), (23, .getfield 260, [12, 16]), (26, .if_icmp .gt 19, [45]), (29, .iload_n 3, []), (30, .aload_n 0, []), (31, .getfield 260, [12, 16]), (34, .if_icmp .ne 12, [46]), (37, .iload_n 1, []), (38, .aload_n 0, []), (39, .getfield 257, [12, 15]), (42, .if_icmp .lt 4, [46]), (45, .return_, []), (46, .aload_n 0, []), (47, .iload_n 1, []), (48, .putfield 257, [12, 15]), (51, .aload_n 0, []), (52, .iload_n 3, []), (53, .putfield 260, [12, 16]), (56, .return_, [])]
/-- SleepWorkModel.goesOn()V -/
def k_c153 : List (Nat × Instr × List Nat) := [(0, .aload_n 0, []), (1, .getfield 251, [12, 11]), (4, .sipush 400, []), (7, .if_icmp .ne 11, [18]), (10, .aload_n 0, []), (11, .iconst 2, []), (12, .invokevirtual 263, [2, 151, 1, 12]), (15, .goto 13, [28]), (18, .aload_n 0, []), (19, .dup, []), (20, .getfield 251, [12, 11]), (23, .iconst 1, []), (24, .iadd, []), (25, .putfield 251, [12, 11]), (28, .return_, [])]
/-- SleepWorkModel.must(I)V -/
def k_c154 : List (Nat × Instr × List Nat) := [(0, .aload_n 0, []), (1, .iload_n 1, []), (2, .invokevirtual 266, [2, 150, 1, 12]), (5, .ifCond .eq 10, [15]), (8, .aload_n 0, []), (9, .invokevirtual 269, [2, 153, 0, 12]), (12, .goto 8, [20]), (15, .aload_n 0, []), (16, .iconst 1, []), (17, .invokevirtual 263, [2, 151, 1, 12]), (20, .return_, [])]
def k_c155_0 : List (Nat × Instr × List Nat) := [(0, .aload_n 0, []), (1, .aload_n 0, []), (2, .getfield 210, [12, 2]), (5, .putfield 217, [12, 4]), (8, .iconst 0, []), (9, .istore_n 1, []), (10, .iload_n 1, []), (11, .aload_n 0, []), (12, .getfield 217, [12, 4]), (15, .if_icmp .ge 21, [36]), (18, .aload_n 0, []), (19, .getfield 17, [12, 3]), (22, .iload_n 1, []), (23, .aload_n 0, []), (24, .getfield 13, [12, 1]), (27, .iload_n 1, []), (28, .baload, []), (29, .bastore, []), (30, .iinc 1 1, []), (33, .goto (-23), [10]), (36, .aload_n 0, []), (37, .iconst 0, []), (38, .putfield 210, [12, 2]), (41, .aload_n 0, []), (42, .invokevirtual 272, [2, 148, 0, 12]), (45, .aload_n 0, []), (46, .iconst 0, []), (47, .putfield 251, [12, 11]), (50, .aload_n 0, []), (51, .iconst 0, []), (52, .putfield 275, [12, 12]), (55, .aload_n 0, []), (56, .iconst 0, []), (57, .putfield 248, [12, 13]), (60, .aload_n 0, []), (61, .iconst 0, []), (62, .putfield 257, [12, 15]), (65, .aload_n 0, []), (66, .iconst 1, []), (67, .aload_n 0, []), (68, .getfield 278, [12, 18]), (71, .isub, []), (72, .putfield 281, [12, 19]), (75, .aload_n 0, []), (76, .iconst 0, []), (77, .putfield 284, [12, 20]), (80, .aload_n 0, []), (81, .getfield 49, [12, 24]), (84, .aload_n 0, []), (85, .getfield 281, [12, 19]), (88, .iconst 0, []), (89, .iastore, []), (90, .aload_n 0, []), (91, .getfield 52, [12, 25]), (94, .aload_n 0, []), (95, .getfield 281, [12, 19]), (98, .iconst 0, []), (99, .iastore, []), (100, .aload_n 0, []), (101, .getfield 68, [12, 30])]
def k_c155_1 : List (Nat × Instr × List Nat) := [(104, .aload_n 0, []), (105, .getfield 281, [12, 19]), (108, .iconst 0, []), (109, .iastore, []), (110, .aload_n 0, []), (111, .getfield 74, [12, 32]), (114, .aload_n 0, []), (115, .getfield 281, [12, 19]), (118, .iconst 0, []), (119, .iastore, []), (120, .aload_n 0, []), (121, .getfield 104, [12, 42]), (124, .aload_n 0, []), (125, .getfield 281, [12, 19]), (128, .iconst 0, []), (129, .iastore, []), (130, .aload_n 0, []), (131, .getfield 116, [12, 46]), (134, .aload_n 0, []), (135, .getfield 281, [12, 19]), (138, .iconst 0, []), (139, .iastore, []), (140, .aload_n 0, []), (141, .getfield 140, [12, 55]), (144, .aload_n 0, []), (145, .getfield 281, [12, 19]), (148, .sipush 480, []), (151, .iastore, []), (152, .aload_n 0, []), (153, .bipush 50, []), (155, .aload_n 0, []), (156, .getfield 281, [12, 19]), (159, .imul, []), (160, .putfield 287, [12, 49]), (163, .aload_n 0, []), (164, .sipush 420, []), (167, .aload_n 0, []), (168, .getfield 281, [12, 19]), (171, .imul, []), (172, .putfield 290, [12, 56]), (175, .iconst 0, []), (176, .istore_n 1, []), (177, .iload_n 1, []), (178, .bipush 6, []), (180, .if_icmp .ge 39, [219]), (183, .aload_n 0, []), (184, .getfield 119, [12, 47]), (187, .bipush 6, []), (189, .aload_n 0, []), (190, .getfield 281, [12, 19]), (193, .imul, []), (194, .iload_n 1, []), (195, .iadd, []), (196, .iconst 0, []), (197, .iastore, []), (198, .aload_n 0, []), (199, .getfield 122, [12, 48]), (202, .bipush 6, []), (204, .aload_n 0, []), (205, .getfield 281, [12, 19])]
def k_c155_2 : List (Nat × Instr × List Nat) := [(208, .imul, []), (209, .iload_n 1, []), (210, .iadd, []), (211, .iconst 0, []), (212, .iastore, []), (213, .iinc 1 1, []), (216, .goto (-39), [177]), (219, .aload_n 0, []), (220, .getfield 248, [12, 13]), (223, .ifCond .ne 18, [241]), (226, .aload_n 0, []), (227, .iconst 0, []), (228, .invokevirtual 266, [2, 150, 1, 12]), (231, .ifCond .ne 10, [241]), (234, .aload_n 0, []), (235, .invokevirtual 293, [2, 159, 0, 12]), (238, .goto (-19), [219]), (241, .aload_n 0, []), (242, .aload_n 0, []), (243, .getfield 248, [12, 13]), (246, .ifCond .le 10, [256]), (249, .aload_n 0, []), (250, .getfield 254, [12, 14]), (253, .goto 18, [271]), (256, .aload_n 0, []), (257, .getfield 257, [12, 15]), (260, .ifCond .le 10, [270]), (263, .aload_n 0, []), (264, .getfield 260, [12, 16]), (267, .goto 4, [271]), (270, .iconst (-1), []), (271, .putfield 37, [12, 17]), (274, .aload_n 0, []), (275, .getfield 248, [12, 13]), (278, .ifCond .le 8, [286]), (281, .aload_n 0, []), (282, .getfield 248, [12, 13]), (285, .ireturn, []), (286, .aload_n 0, []), (287, .getfield 257, [12, 15]), (290, .ifCond .le 8, [298]), (293, .aload_n 0, []), (294, .getfield 257, [12, 15]), (297, .ireturn, []), (298, .aload_n 0, []), (299, .aload_n 0, []), (300, .getfield 281, [12, 19]), (303, .putfield 278, [12, 18]), (306, .aload_n 0, []), (307, .invokevirtual 296, [2, 187, 0, 12]), (310, .aload_n 0, []), (311, .iconst 0, []), (312, .putfield 299, [12, 74]), (315, .aload_n 0, []), (316, .iconst 0, []), (317, .putfield 302, [12, 77]), (320, .iconst 0, []), (321, .istore_n 1, []), (322, .iload_n 1, []), (323, .iconst 3, [])]
def k_c155_3 : List (Nat × Instr × List Nat) := [(324, .if_icmp .ge 16, [340]), (327, .aload_n 0, []), (328, .getfield 200, [12, 81]), (331, .iload_n 1, []), (332, .iconst 0, []), (333, .bastore, []), (334, .iinc 1 1, []), (337, .goto (-15), [322]), (340, .iconst 0, []), (341, .ireturn, [])]
/-- SleepWorkModel.read()I -/
def k_c155 : List (Nat × Instr × List Nat) := k_c155_0 ++ (k_c155_1 ++ (k_c155_2 ++ (k_c155_3)))
/-- SleepWorkModel.place()I -/
def k_c156 : List (Nat × Instr × List Nat) := [(0, .aload_n 0, []), (1, .getfield 37, [12, 17]), (4, .ireturn, [])]
/-- SleepWorkModel.failAt(II)V -/
def k_c157 : List (Nat × Instr × List Nat) := [(0, .aload_n 0, []), (1, .getfield 248, [12, 13]), (4, .ifCond .le 4, [8]), (7, .return_, []), (8, .aload_n 0, []), (9, .iload_n 1, []), (10, .putfield 248, [12, 13]), (13, .aload_n 0, []), (14, .aload_n 0, []), (15, .getfield 24, [12, 6]), (18, .iload_n 2, []), (19, .iaload, []), (20, .putfield 254, [12, 14]), (23, .return_, [])]
/-- SleepWorkModel.roomFor(II)V -/
def k_c158 : List (Nat × Instr × List Nat) := [(0, .iload_n 1, []), (1, .iload_n 2, []), (2, .if_icmp .ne 8, [10]), (5, .aload_n 0, []), (6, .iconst 2, []), (7, .invokevirtual 263, [2, 151, 1, 12]), (10, .aload_n 0, []), (11, .getfield 248, [12, 13]), (14, .ifCond .ne 7, [21]), (17, .aload_n 0, []), (18, .invokevirtual 269, [2, 153, 0, 12]), (21, .return_, [])]
/-- SleepWorkModel.tell()V -/
def k_c159 : List (Nat × Instr × List Nat) := [(0, .aload_n 0, []), (1, .getfield 20, [12, 5]), (4, .aload_n 0, []), (5, .getfield 251, [12, 11]), (8, .iaload, []), (9, .tableswitch 295 20 34 #[75, 104, 295, 133, 162, 191, 295, 295, 208, 295, 237, 295, 295, 295, 266], [304, 84, 113, 304, 142, 171, 200, 304, 304, 217, 304, 246, 304, 304, 304, 275]), (84, .aload_n 0, []), (85, .aload_n 0, []), (86, .getfield 49, [12, 24]), (89, .aload_n 0, []), (90, .getfield 281, [12, 19]), (93, .iaload, []), (94, .bipush 8, []), (96, .invokevirtual 305, [2, 158, 2, 12]), (99, .aload_n 0, []), (100, .getfield 248, [12, 13]), (103, .ifCond .ne 206, [309]), (106, .aload_n 0, []), (107, .invokevirtual 309, [2, 164, 0, 12]), (110, .goto 199, [309]), (113, .aload_n 0, []), (114, .aload_n 0, []), (115, .getfield 52, [12, 25]), (118, .aload_n 0, []), (119, .getfield 281, [12, 19]), (122, .iaload, []), (123, .bipush 12, []), (125, .invokevirtual 305, [2, 158, 2, 12]), (128, .aload_n 0, []), (129, .getfield 248, [12, 13]), (132, .ifCond .ne 177, [309]), (135, .aload_n 0, []), (136, .invokevirtual 312, [2, 165, 0, 12]), (139, .goto 170, [309]), (142, .aload_n 0, []), (143, .aload_n 0, []), (144, .getfield 68, [12, 30]), (147, .aload_n 0, []), (148, .getfield 281, [12, 19]), (151, .iaload, []), (152, .bipush 6, []), (154, .invokevirtual 305, [2, 158, 2, 12]), (157, .aload_n 0, []), (158, .getfield 248, [12, 13]), (161, .ifCond .ne 148, [309]), (164, .aload_n 0, []), (165, .invokevirtual 315, [2, 166, 0, 12]), (168, .goto 141, [309]), (171, .aload_n 0, []), (172, .aload_n 0, []), (173, .getfield 74, [12, 32]), (176, .aload_n 0, []), (177, .getfield 281, [12, 19]), (180, .iaload, []), (181, .bipush 6, []), (183, .invokevirtual 305, [2, 158, 2, 12]), (186, .aload_n 0, []), (187, .getfield 248, [12, 13]), (190, .ifCond .ne 119, [309]), (193, .aload_n 0, []), (194, .invokevirtual 318, [2, 167, 0, 12]), (197, .goto 112, [309]), (200, .aload_n 0, []), (201, .invokevirtual 269, [2, 153, 0, 12]), (204, .aload_n 0, []), (205, .aload_n 0, []), (206, .getfield 251, [12, 11]), (209, .iconst 1, []), (210, .isub, []), (211, .invokevirtual 321, [2, 168, 1, 12]), (214, .goto 95, [309]), (217, .aload_n 0, []), (218, .aload_n 0, []), (219, .getfield 104, [12, 42]), (222, .aload_n 0, []), (223, .getfield 281, [12, 19]), (226, .iaload, []), (227, .bipush 6, []), (229, .invokevirtual 305, [2, 158, 2, 12]), (232, .aload_n 0, []), (233, .getfield 248, [12, 13]), (236, .ifCond .ne 73, [309]), (239, .aload_n 0, []), (240, .invokevirtual 324, [2, 169, 0, 12]), (243, .goto 66, [309]), (246, .aload_n 0, []), (247, .aload_n 0, []), (248, .getfield 116, [12, 46]), (251, .aload_n 0, []), (252, .getfield 281, [12, 19]), (255, .iaload, []), (256, .bipush 8, []), (258, .invokevirtual 305, [2, 158, 2, 12]), (261, .aload_n 0, []), (262, .getfield 248, [12, 13]), (265, .ifCond .ne 44, [309]), (268, .aload_n 0, []), (269, .invokevirtual 327, [2, 170, 0, 12]), (272, .goto 37, [309]), (275, .aload_n 0, []), (276, .invokevirtual 269, [2, 153, 0, 12]), (279, .aload_n 0, []), (280, .getfield 140, [12, 55]), (283, .aload_n 0, []), (284, .getfield 281, [12, 19]), (287, .aload_n 0, []), (288, .iconst 1, []), (289, .sipush 600, []), (292, .invokevirtual 330, [2, 163, 2, 12]), (295, .iastore, []), (296, .aload_n 0, []), (297, .iconst 4, []), (298, .invokevirtual 334, [2, 154, 1, 12]), (301, .goto 8, [309]), (304, .aload_n 0, []), (305, .iconst 1, []), (306, .invokevirtual 263, [2, 151, 1, 12]), (309, .return_, [])]
/-- SleepWorkModel.named()I -/
def k_c160 : List (Nat × Instr × List Nat) := [(0, .aload_n 0, []), (1, .getfield 251, [12, 11]), (4, .istore_n 1, []), (5, .aload_n 0, []), (6, .iconst 1, []), (7, .invokevirtual 334, [2, 154, 1, 12]), (10, .iconst 0, []), (11, .istore_n 2, []), (12, .iload_n 2, []), (13, .aload_n 0, []), (14, .getfield 284, [12, 20]), (17, .if_icmp .ge 38, [55]), (20, .aload_n 0, []), (21, .getfield 248, [12, 13]), (24, .ifCond .ne 31, [55]), (27, .aload_n 0, []), (28, .getfield 40, [12, 21]), (31, .iload_n 2, []), (32, .laload, []), (33, .aload_n 0, []), (34, .getfield 30, [12, 8]), (37, .iload_n 1, []), (38, .laload, []), (39, .lcmp, []), (40, .ifCond .ne 9, [49]), (43, .aload_n 0, []), (44, .iconst 3, []), (45, .iload_n 1, []), (46, .invokevirtual 337, [2, 152, 2, 12]), (49, .iinc 2 1, []), (52, .goto (-40), [12]), (55, .iload_n 1, []), (56, .ireturn, [])]
/-- SleepWorkModel.notes(III)V -/
def k_c161 : List (Nat × Instr × List Nat) := [(0, .aload_n 0, []), (1, .getfield 40, [12, 21]), (4, .aload_n 0, []), (5, .getfield 284, [12, 20]), (8, .aload_n 0, []), (9, .getfield 30, [12, 8]), (12, .iload_n 1, []), (13, .laload, []), (14, .lastore, []), (15, .aload_n 0, []), (16, .getfield 43, [12, 22]), (19, .aload_n 0, []), (20, .getfield 284, [12, 20]), (23, .iload_n 2, []), (24, .iastore, []), (25, .aload_n 0, []), (26, .getfield 46, [12, 23]), (29, .aload_n 0, []), (30, .getfield 284, [12, 20]), (33, .iload_n 3, []), (34, .iastore, []), (35, .aload_n 0, []), (36, .dup, []), (37, .getfield 284, [12, 20]), (40, .iconst 1, []), (41, .iadd, []), (42, .putfield 284, [12, 20]), (45, .return_, [])]
/-- SleepWorkModel.known(I)I -/
def k_c162 : List (Nat × Instr × List Nat) := [(0, .aload_n 0, []), (1, .getfield 251, [12, 11]), (4, .istore_n 2, []), (5, .aload_n 0, []), (6, .iconst 1, []), (7, .invokevirtual 334, [2, 154, 1, 12]), (10, .aload_n 0, []), (11, .getfield 248, [12, 13]), (14, .ifCond .le 5, [19]), (17, .iconst (-1), []), (18, .ireturn, []), (19, .iconst 0, []), (20, .istore_n 3, []), (21, .iload_n 3, []), (22, .aload_n 0, []), (23, .getfield 284, [12, 20]), (26, .if_icmp .ge 42, [68]), (29, .aload_n 0, []), (30, .getfield 40, [12, 21]), (33, .iload_n 3, []), (34, .laload, []), (35, .aload_n 0, []), (36, .getfield 30, [12, 8]), (39, .iload_n 2, []), (40, .laload, []), (41, .lcmp, []), (42, .ifCond .ne 20, [62]), (45, .aload_n 0, []), (46, .getfield 43, [12, 22]), (49, .iload_n 3, []), (50, .iaload, []), (51, .iload_n 1, []), (52, .if_icmp .ne 10, [62]), (55, .aload_n 0, []), (56, .getfield 46, [12, 23]), (59, .iload_n 3, []), (60, .iaload, []), (61, .ireturn, []), (62, .iinc 3 1, []), (65, .goto (-44), [21]), (68, .aload_n 0, []), (69, .iconst 4, []), (70, .iload_n 2, []), (71, .invokevirtual 337, [2, 152, 2, 12]), (74, .iconst (-1), []), (75, .ireturn, [])]
/-- SleepWorkModel.bounded(II)I -/
def k_c163 : List (Nat × Instr × List Nat) := [(0, .aload_n 0, []), (1, .getfield 248, [12, 13]), (4, .ifCond .gt 11, [15]), (7, .aload_n 0, []), (8, .iconst 2, []), (9, .invokevirtual 266, [2, 150, 1, 12]), (12, .ifCond .ne 10, [22]), (15, .aload_n 0, []), (16, .iconst 1, []), (17, .invokevirtual 263, [2, 151, 1, 12]), (20, .iload_n 1, []), (21, .ireturn, []), (22, .aload_n 0, []), (23, .getfield 27, [12, 7]), (26, .aload_n 0, []), (27, .getfield 251, [12, 11]), (30, .iaload, []), (31, .istore_n 3, []), (32, .iload_n 3, []), (33, .iload_n 1, []), (34, .if_icmp .lt 8, [42]), (37, .iload_n 3, []), (38, .iload_n 2, []), (39, .if_icmp .le 12, [51]), (42, .aload_n 0, []), (43, .iconst 5, []), (44, .aload_n 0, []), (45, .getfield 251, [12, 11]), (48, .invokevirtual 337, [2, 152, 2, 12]), (51, .aload_n 0, []), (52, .invokevirtual 269, [2, 153, 0, 12]), (55, .iload_n 3, []), (56, .ireturn, [])]
/-- SleepWorkModel.tellRoom()V -/
def k_c164 : List (Nat × Instr × List Nat) := [(0, .aload_n 0, []), (1, .invokevirtual 340, [2, 160, 0, 12]), (4, .istore_n 1, []), (5, .aload_n 0, []), (6, .iconst 4, []), (7, .invokevirtual 334, [2, 154, 1, 12]), (10, .aload_n 0, []), (11, .getfield 248, [12, 13]), (14, .ifCond .le 4, [18]), (17, .return_, []), (18, .aload_n 0, []), (19, .iload_n 1, []), (20, .iconst 0, []), (21, .aload_n 0, []), (22, .getfield 49, [12, 24]), (25, .aload_n 0, []), (26, .getfield 281, [12, 19]), (29, .iaload, []), (30, .invokevirtual 344, [2, 161, 3, 12]), (33, .aload_n 0, []), (34, .getfield 49, [12, 24]), (37, .aload_n 0, []), (38, .getfield 281, [12, 19]), (41, .dup2, []), (42, .iaload, []), (43, .iconst 1, []), (44, .iadd, []), (45, .iastore, []), (46, .return_, [])]
/-- SleepWorkModel.tellDoor()V -/
def k_c165 : List (Nat × Instr × List Nat) := [(0, .bipush 12, []), (2, .aload_n 0, []), (3, .getfield 281, [12, 19]), (6, .imul, []), (7, .aload_n 0, []), (8, .getfield 52, [12, 25]), (11, .aload_n 0, []), (12, .getfield 281, [12, 19]), (15, .iaload, []), (16, .iadd, []), (17, .istore_n 1, []), (18, .aload_n 0, []), (19, .getfield 55, [12, 26]), (22, .iload_n 1, []), (23, .aload_n 0, []), (24, .iconst 0, []), (25, .invokevirtual 348, [2, 162, 1, 12]), (28, .iastore, []), (29, .aload_n 0, []), (30, .getfield 251, [12, 11]), (33, .istore_n 2, []), (34, .aload_n 0, []), (35, .getfield 58, [12, 27]), (38, .iload_n 1, []), (39, .aload_n 0, []), (40, .iconst 0, []), (41, .invokevirtual 348, [2, 162, 1, 12]), (44, .iastore, []), (45, .aload_n 0, []), (46, .getfield 248, [12, 13]), (49, .ifCond .ne 33, [82]), (52, .aload_n 0, []), (53, .getfield 55, [12, 26]), (56, .iload_n 1, []), (57, .iaload, []), (58, .ifCond .lt 24, [82]), (61, .aload_n 0, []), (62, .getfield 55, [12, 26]), (65, .iload_n 1, []), (66, .iaload, []), (67, .aload_n 0, []), (68, .getfield 58, [12, 27]), (71, .iload_n 1, []), (72, .iaload, []), (73, .if_icmp .ne 9, [82]), (76, .aload_n 0, []), (77, .iconst 5, []), (78, .iload_n 2, []), (79, .invokevirtual 337, [2, 152, 2, 12]), (82, .aload_n 0, []), (83, .getfield 61, [12, 28]), (86, .iload_n 1, []), (87, .aload_n 0, []), (88, .iconst 1, []), (89, .bipush 60, []), (91, .invokevirtual 330, [2, 163, 2, 12]), (94, .iastore, []), (95, .aload_n 0, []), (96, .getfield 64, [12, 29]), (99, .iload_n 1, []), (100, .aload_n 0, []), (101, .getfield 248, [12, 13]), (104, .ifCond .ne 16, [120]), (107, .aload_n 0, []), (108, .bipush 22, []), (110, .invokevirtual 266, [2, 150, 1, 12]), (113, .ifCond .eq 7, [120]), (116, .iconst 1, []), (117, .goto 4, [121]), (120, .iconst 0, []), (121, .bastore, []), (122, .aload_n 0, []), (123, .getfield 64, [12, 29]), (126, .iload_n 1, []), (127, .baload, []), (128, .ifCond .eq 7, [135]), (131, .aload_n 0, []), (132, .invokevirtual 269, [2, 153, 0, 12]), (135, .aload_n 0, []), (136, .iconst 4, []), (137, .invokevirtual 334, [2, 154, 1, 12]), (140, .aload_n 0, []), (141, .getfield 248, [12, 13]), (144, .ifCond .ne 16, [160]), (147, .aload_n 0, []), (148, .getfield 52, [12, 25]), (151, .aload_n 0, []), (152, .getfield 281, [12, 19]), (155, .dup2, []), (156, .iaload, []), (157, .iconst 1, []), (158, .iadd, []), (159, .iastore, []), (160, .return_, [])]
/-- SleepWorkModel.tellTool()V -/
def k_c166 : List (Nat × Instr × List Nat) := [(0, .aload_n 0, []), (1, .invokevirtual 340, [2, 160, 0, 12]), (4, .istore_n 1, []), (5, .aload_n 0, []), (6, .getfield 71, [12, 31]), (9, .bipush 6, []), (11, .aload_n 0, []), (12, .getfield 281, [12, 19]), (15, .imul, []), (16, .aload_n 0, []), (17, .getfield 68, [12, 30]), (20, .aload_n 0, []), (21, .getfield 281, [12, 19]), (24, .iaload, []), (25, .iadd, []), (26, .aload_n 0, []), (27, .iconst 0, []), (28, .invokevirtual 348, [2, 162, 1, 12]), (31, .iastore, []), (32, .aload_n 0, []), (33, .iconst 4, []), (34, .invokevirtual 334, [2, 154, 1, 12]), (37, .aload_n 0, []), (38, .getfield 248, [12, 13]), (41, .ifCond .le 4, [45]), (44, .return_, []), (45, .aload_n 0, []), (46, .iload_n 1, []), (47, .iconst 1, []), (48, .aload_n 0, []), (49, .getfield 68, [12, 30]), (52, .aload_n 0, []), (53, .getfield 281, [12, 19]), (56, .iaload, []), (57, .invokevirtual 344, [2, 161, 3, 12]), (60, .aload_n 0, []), (61, .getfield 68, [12, 30]), (64, .aload_n 0, []), (65, .getfield 281, [12, 19]), (68, .dup2, []), (69, .iaload, []), (70, .iconst 1, []), (71, .iadd, []), (72, .iastore, []), (73, .return_, [])]
/-- SleepWorkModel.tellTask()V -/
def k_c167 : List (Nat × Instr × List Nat) := [(0, .bipush 6, []), (2, .aload_n 0, []), (3, .getfield 281, [12, 19]), (6, .imul, []), (7, .aload_n 0, []), (8, .getfield 74, [12, 32]), (11, .aload_n 0, []), (12, .getfield 281, [12, 19]), (15, .iaload, []), (16, .iadd, []), (17, .istore_n 1, []), (18, .aload_n 0, []), (19, .invokevirtual 340, [2, 160, 0, 12]), (22, .istore_n 2, []), (23, .aload_n 0, []), (24, .getfield 77, [12, 33]), (27, .iload_n 1, []), (28, .aload_n 0, []), (29, .iconst 0, []), (30, .invokevirtual 348, [2, 162, 1, 12]), (33, .iastore, []), (34, .aload_n 0, []), (35, .getfield 80, [12, 34]), (38, .iload_n 1, []), (39, .aload_n 0, []), (40, .iconst 0, []), (41, .sipush 999, []), (44, .invokevirtual 330, [2, 163, 2, 12]), (47, .iastore, []), (48, .aload_n 0, []), (49, .getfield 83, [12, 35]), (52, .iload_n 1, []), (53, .iconst 0, []), (54, .iastore, []), (55, .aload_n 0, []), (56, .iconst 4, []), (57, .invokevirtual 334, [2, 154, 1, 12]), (60, .aload_n 0, []), (61, .getfield 248, [12, 13]), (64, .ifCond .le 4, [68]), (67, .return_, []), (68, .aload_n 0, []), (69, .iload_n 2, []), (70, .iconst 2, []), (71, .aload_n 0, []), (72, .getfield 74, [12, 32]), (75, .aload_n 0, []), (76, .getfield 281, [12, 19]), (79, .iaload, []), (80, .invokevirtual 344, [2, 161, 3, 12]), (83, .aload_n 0, []), (84, .getfield 74, [12, 32]), (87, .aload_n 0, []), (88, .getfield 281, [12, 19]), (91, .dup2, []), (92, .iaload, []), (93, .iconst 1, []), (94, .iadd, []), (95, .iastore, []), (96, .return_, [])]
/-- SleepWorkModel.tellStep(I)V -/
def k_c168 : List (Nat × Instr × List Nat) := [(0, .aload_n 0, []), (1, .iconst 2, []), (2, .invokevirtual 348, [2, 162, 1, 12]), (5, .istore_n 2, []), (6, .iload_n 2, []), (7, .ifCond .ge 7, [14]), (10, .iconst 0, []), (11, .goto 17, [28]), (14, .aload_n 0, []), (15, .getfield 83, [12, 35]), (18, .bipush 6, []), (20, .aload_n 0, []), (21, .getfield 281, [12, 19]), (24, .imul, []), (25, .iload_n 2, []), (26, .iadd, []), (27, .iaload, []), (28, .istore_n 3, []), (29, .iload_n 3, []), (30, .bipush 6, []), (32, .if_icmp .ne 9, [41]), (35, .aload_n 0, []), (36, .iconst 2, []), (37, .iload_n 1, []), (38, .invokevirtual 351, [2, 157, 2, 12]), (41, .bipush 6, []), (43, .bipush 6, []), (45, .aload_n 0, []), (46, .getfield 281, [12, 19]), (49, .imul, []), (50, .iload_n 2, []), (51, .ifCond .ge 7, [58]), (54, .iconst 0, []), (55, .goto 4, [59]), (58, .iload_n 2, []), (59, .iadd, []), (60, .imul, []), (61, .iload_n 3, []), (62, .iadd, []), (63, .istore 4, []), (65, .aload_n 0, []), (66, .iconst 1, []), (67, .bipush 120, []), (69, .invokevirtual 330, [2, 163, 2, 12]), (72, .istore 5, []), (74, .aload_n 0, []), (75, .iconst 0, []), (76, .bipush 99, []), (78, .invokevirtual 330, [2, 163, 2, 12]), (81, .istore 6, []), (83, .aload_n 0, []), (84, .iconst 0, []), (85, .bipush 99, []), (87, .invokevirtual 330, [2, 163, 2, 12]), (90, .istore 7, []), (92, .aload_n 0, []), (93, .iconst 0, []), (94, .bipush 99, []), (96, .invokevirtual 330, [2, 163, 2, 12]), (99, .istore 8, []), (101, .iconst (-1), []), (102, .istore 9, []), (104, .iconst (-1), []), (105, .istore 10, []), (107, .aload_n 0, []), (108, .getfield 248, [12, 13]), (111, .ifCond .ne 23, [134]), (114, .aload_n 0, []), (115, .bipush 26, []), (117, .invokevirtual 266, [2, 150, 1, 12]), (120, .ifCond .eq 14, [134]), (123, .aload_n 0, []), (124, .invokevirtual 269, [2, 153, 0, 12]), (127, .aload_n 0, []), (128, .iconst 1, []), (129, .invokevirtual 348, [2, 162, 1, 12]), (132, .istore 9, []), (134, .aload_n 0, []), (135, .getfield 248, [12, 13]), (138, .ifCond .ne 36, [174]), (141, .aload_n 0, []), (142, .bipush 27, []), (144, .invokevirtual 266, [2, 150, 1, 12]), (147, .ifCond .eq 27, [174]), (150, .aload_n 0, []), (151, .invokevirtual 269, [2, 153, 0, 12]), (154, .aload_n 0, []), (155, .iconst 0, []), (156, .iload_n 2, []), (157, .ifCond .ge 9, [166]), (160, .sipush 9999, []), (163, .goto 6, [169]), (166, .iload_n 3, []), (167, .iconst 1, []), (168, .isub, []), (169, .invokevirtual 330, [2, 163, 2, 12]), (172, .istore 10, []), (174, .aload_n 0, []), (175, .iconst 4, []), (176, .invokevirtual 334, [2, 154, 1, 12]), (179, .aload_n 0, []), (180, .getfield 248, [12, 13]), (183, .ifCond .gt 7, [190]), (186, .iload_n 2, []), (187, .ifCond .ge 4, [191]), (190, .return_, []), (191, .aload_n 0, []), (192, .getfield 86, [12, 36]), (195, .iload 4, []), (197, .iload 5, []), (199, .iastore, []), (200, .aload_n 0, []), (201, .getfield 89, [12, 37]), (204, .iload 4, []), (206, .iload 6, []), (208, .iastore, []), (209, .aload_n 0, []), (210, .getfield 92, [12, 38]), (213, .iload 4, []), (215, .iload 7, []), (217, .iastore, []), (218, .aload_n 0, []), (219, .getfield 95, [12, 39]), (222, .iload 4, []), (224, .iload 8, []), (226, .iastore, []), (227, .aload_n 0, []), (228, .getfield 98, [12, 40]), (231, .iload 4, []), (233, .iload 9, []), (235, .iastore, []), (236, .aload_n 0, []), (237, .getfield 101, [12, 41]), (240, .iload 4, []), (242, .iload 10, []), (244, .iastore, []), (245, .aload_n 0, []), (246, .getfield 83, [12, 35]), (249, .bipush 6, []), (251, .aload_n 0, []), (252, .getfield 281, [12, 19]), (255, .imul, []), (256, .iload_n 2, []), (257, .iadd, []), (258, .dup2, []), (259, .iaload, []), (260, .iconst 1, []), (261, .iadd, []), (262, .iastore, []), (263, .return_, [])]
/-- SleepWorkModel.tellMan()V -/
def k_c169 : List (Nat × Instr × List Nat) := [(0, .bipush 6, []), (2, .aload_n 0, []), (3, .getfield 281, [12, 19]), (6, .imul, []), (7, .aload_n 0, []), (8, .getfield 104, [12, 42]), (11, .aload_n 0, []), (12, .getfield 281, [12, 19]), (15, .iaload, []), (16, .iadd, []), (17, .istore_n 1, []), (18, .aload_n 0, []), (19, .invokevirtual 340, [2, 160, 0, 12]), (22, .istore_n 2, []), (23, .aload_n 0, []), (24, .getfield 107, [12, 43]), (27, .iload_n 1, []), (28, .aload_n 0, []), (29, .iconst 0, []), (30, .invokevirtual 348, [2, 162, 1, 12]), (33, .iastore, []), (34, .aload_n 0, []), (35, .getfield 110, [12, 44]), (38, .iload_n 1, []), (39, .iconst (-1), []), (40, .iastore, []), (41, .aload_n 0, []), (42, .getfield 113, [12, 45]), (45, .iload_n 1, []), (46, .iconst (-1), []), (47, .iastore, []), (48, .aload_n 0, []), (49, .getfield 248, [12, 13]), (52, .ifCond .ne 66, [118]), (55, .aload_n 0, []), (56, .bipush 29, []), (58, .invokevirtual 266, [2, 150, 1, 12]), (61, .ifCond .eq 57, [118]), (64, .aload_n 0, []), (65, .invokevirtual 269, [2, 153, 0, 12]), (68, .aload_n 0, []), (69, .iconst 2, []), (70, .invokevirtual 348, [2, 162, 1, 12]), (73, .istore_n 3, []), (74, .aload_n 0, []), (75, .getfield 110, [12, 44]), (78, .iload_n 1, []), (79, .iload_n 3, []), (80, .iastore, []), (81, .aload_n 0, []), (82, .getfield 113, [12, 45]), (85, .iload_n 1, []), (86, .aload_n 0, []), (87, .iconst 0, []), (88, .iload_n 3, []), (89, .ifCond .ge 9, [98]), (92, .sipush 9999, []), (95, .goto 19, [114]), (98, .aload_n 0, []), (99, .getfield 83, [12, 35]), (102, .bipush 6, []), (104, .aload_n 0, []), (105, .getfield 281, [12, 19]), (108, .imul, []), (109, .iload_n 3, []), (110, .iadd, []), (111, .iaload, []), (112, .iconst 1, []), (113, .isub, []), (114, .invokevirtual 330, [2, 163, 2, 12]), (117, .iastore, []), (118, .aload_n 0, []), (119, .iconst 4, []), (120, .invokevirtual 334, [2, 154, 1, 12]), (123, .aload_n 0, []), (124, .getfield 248, [12, 13]), (127, .ifCond .le 4, [131]), (130, .return_, []), (131, .aload_n 0, []), (132, .iload_n 2, []), (133, .iconst 3, []), (134, .aload_n 0, []), (135, .getfield 104, [12, 42]), (138, .aload_n 0, []), (139, .getfield 281, [12, 19]), (142, .iaload, []), (143, .invokevirtual 344, [2, 161, 3, 12]), (146, .aload_n 0, []), (147, .getfield 104, [12, 42]), (150, .aload_n 0, []), (151, .getfield 281, [12, 19]), (154, .dup2, []), (155, .iaload, []), (156, .iconst 1, []), (157, .iadd, []), (158, .iastore, []), (159, .return_, [])]
/-- SleepWorkModel.tellLaw()V -/
def k_c170 : List (Nat × Instr × List Nat) := [(0, .aload_n 0, []), (1, .iconst 3, []), (2, .invokevirtual 348, [2, 162, 1, 12]), (5, .istore_n 1, []), (6, .aload_n 0, []), (7, .iconst 5, []), (8, .invokevirtual 334, [2, 154, 1, 12]), (11, .aload_n 0, []), (12, .getfield 287, [12, 49]), (15, .istore_n 2, []), (16, .iconst 0, []), (17, .istore_n 3, []), (18, .aload_n 0, []), (19, .getfield 248, [12, 13]), (22, .ifCond .ne 113, [135]), (25, .aload_n 0, []), (26, .bipush 31, []), (28, .invokevirtual 266, [2, 150, 1, 12]), (31, .ifCond .eq 104, [135]), (34, .iload_n 3, []), (35, .iconst 4, []), (36, .if_icmp .ne 8, [44]), (39, .aload_n 0, []), (40, .iconst 2, []), (41, .invokevirtual 263, [2, 151, 1, 12]), (44, .aload_n 0, []), (45, .getfield 248, [12, 13]), (48, .ifCond .le 4, [52]), (51, .return_, []), (52, .iinc 3 1, []), (55, .aload_n 0, []), (56, .invokevirtual 269, [2, 153, 0, 12]), (59, .aload_n 0, []), (60, .getfield 125, [12, 50]), (63, .aload_n 0, []), (64, .getfield 287, [12, 49]), (67, .iconst 1, []), (68, .bastore, []), (69, .aload_n 0, []), (70, .getfield 128, [12, 51]), (73, .aload_n 0, []), (74, .getfield 287, [12, 49]), (77, .aload_n 0, []), (78, .getfield 290, [12, 56]), (81, .iastore, []), (82, .aload_n 0, []), (83, .invokevirtual 354, [2, 174, 0, 12]), (86, .aload_n 0, []), (87, .bipush 13, []), (89, .invokevirtual 334, [2, 154, 1, 12]), (92, .aload_n 0, []), (93, .getfield 131, [12, 52]), (96, .aload_n 0, []), (97, .getfield 287, [12, 49]), (100, .aload_n 0, []), (101, .getfield 290, [12, 56]), (104, .iastore, []), (105, .aload_n 0, []), (106, .getfield 248, [12, 13]), (109, .ifCond .ne 7, [116]), (112, .aload_n 0, []), (113, .invokevirtual 354, [2, 174, 0, 12]), (116, .aload_n 0, []), (117, .bipush 32, []), (119, .invokevirtual 334, [2, 154, 1, 12]), (122, .aload_n 0, []), (123, .invokevirtual 357, [2, 171, 0, 12]), (126, .aload_n 0, []), (127, .bipush 33, []), (129, .invokevirtual 334, [2, 154, 1, 12]), (132, .goto (-114), [18]), (135, .aload_n 0, []), (136, .getfield 125, [12, 50]), (139, .aload_n 0, []), (140, .getfield 287, [12, 49]), (143, .iconst 0, []), (144, .bastore, []), (145, .aload_n 0, []), (146, .invokevirtual 357, [2, 171, 0, 12]), (149, .aload_n 0, []), (150, .iconst 4, []), (151, .invokevirtual 334, [2, 154, 1, 12]), (154, .aload_n 0, []), (155, .getfield 248, [12, 13]), (158, .ifCond .le 4, [162]), (161, .return_, []), (162, .aload_n 0, []), (163, .getfield 116, [12, 46]), (166, .aload_n 0, []), (167, .getfield 281, [12, 19]), (170, .dup2, []), (171, .iaload, []), (172, .iconst 1, []), (173, .iadd, []), (174, .iastore, []), (175, .iload_n 1, []), (176, .ifCond .ge 4, [180]), (179, .return_, []), (180, .aload_n 0, []), (181, .getfield 119, [12, 47]), (184, .bipush 6, []), (186, .aload_n 0, []), (187, .getfield 281, [12, 19]), (190, .imul, []), (191, .iload_n 1, []), (192, .iadd, []), (193, .iload_n 2, []), (194, .iastore, []), (195, .aload_n 0, []), (196, .getfield 122, [12, 48]), (199, .bipush 6, []), (201, .aload_n 0, []), (202, .getfield 281, [12, 19]), (205, .imul, []), (206, .iload_n 1, []), (207, .iadd, []), (208, .aload_n 0, []), (209, .getfield 287, [12, 49]), (212, .iastore, []), (213, .return_, [])]
/-- SleepWorkModel.term()V -/
def k_c171 : List (Nat × Instr × List Nat) := [(0, .aload_n 0, []), (1, .getfield 134, [12, 53]), (4, .aload_n 0, []), (5, .getfield 287, [12, 49]), (8, .aload_n 0, []), (9, .getfield 290, [12, 56]), (12, .iastore, []), (13, .aload_n 0, []), (14, .getfield 248, [12, 13]), (17, .ifCond .ne 7, [24]), (20, .aload_n 0, []), (21, .invokevirtual 354, [2, 174, 0, 12]), (24, .aload_n 0, []), (25, .getfield 137, [12, 54]), (28, .aload_n 0, []), (29, .getfield 287, [12, 49]), (32, .aload_n 0, []), (33, .getfield 290, [12, 56]), (36, .iastore, []), (37, .aload_n 0, []), (38, .dup, []), (39, .getfield 287, [12, 49]), (42, .iconst 1, []), (43, .iadd, []), (44, .putfield 287, [12, 49]), (47, .return_, [])]
/-- SleepWorkModel.emit(II)V -/
def k_c172 : List (Nat × Instr × List Nat) := [(0, .aload_n 0, []), (1, .getfield 143, [12, 57]), (4, .aload_n 0, []), (5, .getfield 290, [12, 56]), (8, .iload_n 1, []), (9, .iastore, []), (10, .aload_n 0, []), (11, .getfield 146, [12, 58]), (14, .aload_n 0, []), (15, .getfield 290, [12, 56]), (18, .iload_n 2, []), (19, .iastore, []), (20, .aload_n 0, []), (21, .dup, []), (22, .getfield 290, [12, 56]), (25, .iconst 1, []), (26, .iadd, []), (27, .putfield 290, [12, 56]), (30, .return_, [])]
/-- SleepWorkModel.comesOut(Z)V -/
def k_c173 : List (Nat × Instr × List Nat) := [(0, .aload_n 0, []), (1, .getfield 360, [12, 60]), (4, .ifCond .le 87, [91]), (7, .aload_n 0, []), (8, .getfield 149, [12, 59]), (11, .aload_n 0, []), (12, .getfield 360, [12, 60]), (15, .iconst 1, []), (16, .isub, []), (17, .iaload, []), (18, .istore_n 2, []), (19, .iload_n 2, []), (20, .bipush 6, []), (22, .if_icmp .eq 19, [41]), (25, .iload_n 1, []), (26, .ifCond .eq 16, [42]), (29, .iload_n 2, []), (30, .bipush 8, []), (32, .if_icmp .eq 9, [41]), (35, .iload_n 2, []), (36, .bipush 9, []), (38, .if_icmp .ne 4, [42]), (41, .return_, []), (42, .aload_n 0, []), (43, .dup, []), (44, .getfield 360, [12, 60]), (47, .iconst 1, []), (48, .isub, []), (49, .putfield 360, [12, 60]), (52, .aload_n 0, []), (53, .iload_n 2, []), (54, .bipush 8, []), (56, .if_icmp .ne 7, [63]), (59, .iconst 2, []), (60, .goto 24, [84]), (63, .iload_n 2, []), (64, .bipush 9, []), (66, .if_icmp .ne 7, [73]), (69, .iconst 3, []), (70, .goto 14, [84]), (73, .iload_n 2, []), (74, .bipush 10, []), (76, .if_icmp .ne 7, [83]), (79, .iconst 4, []), (80, .goto 4, [84]), (83, .iconst 5, []), (84, .iconst 0, []), (85, .invokevirtual 363, [2, 172, 2, 12]), (88, .goto (-88), [0]), (91, .return_, [])]
/-- SleepWorkModel.expression()V -/
def k_c174 : List (Nat × Instr × List Nat) := [(0, .aload_n 0, []), (1, .iconst 0, []), (2, .putfield 360, [12, 60]), (5, .aload_n 0, []), (6, .getfield 275, [12, 12]), (9, .istore_n 1, []), (10, .iconst 1, []), (11, .istore_n 2, []), (12, .iload_n 2, []), (13, .ifCond .eq 259, [272]), (16, .aload_n 0, []), (17, .getfield 248, [12, 13]), (20, .ifCond .ne 252, [272]), (23, .aload_n 0, []), (24, .bipush 6, []), (26, .invokevirtual 266, [2, 150, 1, 12]), (29, .ifCond .eq 55, [84]), (32, .aload_n 0, []), (33, .getfield 275, [12, 12]), (36, .bipush 6, []), (38, .if_icmp .ne 8, [46]), (41, .aload_n 0, []), (42, .iconst 2, []), (43, .invokevirtual 263, [2, 151, 1, 12]), (46, .aload_n 0, []), (47, .dup, []), (48, .getfield 275, [12, 12]), (51, .iconst 1, []), (52, .iadd, []), (53, .putfield 275, [12, 12]), (56, .aload_n 0, []), (57, .invokevirtual 269, [2, 153, 0, 12]), (60, .aload_n 0, []), (61, .getfield 149, [12, 59]), (64, .aload_n 0, []), (65, .getfield 360, [12, 60]), (68, .bipush 6, []), (70, .iastore, []), (71, .aload_n 0, []), (72, .dup, []), (73, .getfield 360, [12, 60]), (76, .iconst 1, []), (77, .iadd, []), (78, .putfield 360, [12, 60]), (81, .goto (-58), [23]), (84, .aload_n 0, []), (85, .invokevirtual 366, [2, 175, 0, 12]), (88, .aload_n 0, []), (89, .getfield 248, [12, 13]), (92, .ifCond .le 4, [96]), (95, .return_, []), (96, .aload_n 0, []), (97, .bipush 7, []), (99, .invokevirtual 266, [2, 150, 1, 12]), (102, .ifCond .eq 43, [145]), (105, .aload_n 0, []), (106, .getfield 275, [12, 12]), (109, .iload_n 1, []), (110, .if_icmp .le 35, [145]), (113, .aload_n 0, []), (114, .iconst 0, []), (115, .invokevirtual 369, [2, 173, 1, 12]), (118, .aload_n 0, []), (119, .dup, []), (120, .getfield 360, [12, 60]), (123, .iconst 1, []), (124, .isub, []), (125, .putfield 360, [12, 60]), (128, .aload_n 0, []), (129, .dup, []), (130, .getfield 275, [12, 12]), (133, .iconst 1, []), (134, .isub, []), (135, .putfield 275, [12, 12]), (138, .aload_n 0, []), (139, .invokevirtual 269, [2, 153, 0, 12]), (142, .goto (-46), [96]), (145, .aload_n 0, []), (146, .bipush 8, []), (148, .invokevirtual 266, [2, 150, 1, 12]), (151, .ifCond .ne 30, [181]), (154, .aload_n 0, []), (155, .bipush 9, []), (157, .invokevirtual 266, [2, 150, 1, 12]), (160, .ifCond .ne 21, [181]), (163, .aload_n 0, []), (164, .bipush 10, []), (166, .invokevirtual 266, [2, 150, 1, 12]), (169, .ifCond .ne 12, [181]), (172, .aload_n 0, []), (173, .bipush 15, []), (175, .invokevirtual 266, [2, 150, 1, 12]), (178, .ifCond .eq 7, [185]), (181, .iconst 1, []), (182, .goto 4, [186]), (185, .iconst 0, []), (186, .istore_n 2, []), (187, .iload_n 2, []), (188, .ifCond .ne 22, [210]), (191, .aload_n 0, []), (192, .getfield 275, [12, 12]), (195, .iload_n 1, []), (196, .if_icmp .le 8, [204]), (199, .aload_n 0, []), (200, .iconst 1, []), (201, .invokevirtual 263, [2, 151, 1, 12]), (204, .aload_n 0, []), (205, .iconst 0, []), (206, .invokevirtual 369, [2, 173, 1, 12]), (209, .return_, []), (210, .aload_n 0, []), (211, .aload_n 0, []), (212, .bipush 10, []), (214, .invokevirtual 266, [2, 150, 1, 12]), (217, .ifCond .ne 12, [229]), (220, .aload_n 0, []), (221, .bipush 15, []), (223, .invokevirtual 266, [2, 150, 1, 12]), (226, .ifCond .eq 7, [233]), (229, .iconst 1, []), (230, .goto 4, [234]), (233, .iconst 0, []), (234, .invokevirtual 369, [2, 173, 1, 12]), (237, .aload_n 0, []), (238, .getfield 149, [12, 59]), (241, .aload_n 0, []), (242, .getfield 360, [12, 60]), (245, .aload_n 0, []), (246, .getfield 20, [12, 5]), (249, .aload_n 0, []), (250, .getfield 251, [12, 11]), (253, .iaload, []), (254, .iastore, []), (255, .aload_n 0, []), (256, .dup, []), (257, .getfield 360, [12, 60]), (260, .iconst 1, []), (261, .iadd, []), (262, .putfield 360, [12, 60]), (265, .aload_n 0, []), (266, .invokevirtual 269, [2, 153, 0, 12]), (269, .goto (-257), [12]), (272, .return_, [])]
/-- SleepWorkModel.unit()V -/
def k_c175 : List (Nat × Instr × List Nat) := [(0, .aload_n 0, []), (1, .iconst 2, []), (2, .invokevirtual 266, [2, 150, 1, 12]), (5, .ifCond .eq 24, [29]), (8, .aload_n 0, []), (9, .iconst 0, []), (10, .aload_n 0, []), (11, .getfield 27, [12, 7]), (14, .aload_n 0, []), (15, .getfield 251, [12, 11]), (18, .iaload, []), (19, .invokevirtual 363, [2, 172, 2, 12]), (22, .aload_n 0, []), (23, .invokevirtual 269, [2, 153, 0, 12]), (26, .goto 67, [93]), (29, .aload_n 0, []), (30, .getfield 248, [12, 13]), (33, .ifCond .ne 55, [88]), (36, .aload_n 0, []), (37, .getfield 20, [12, 5]), (40, .aload_n 0, []), (41, .getfield 251, [12, 11]), (44, .iaload, []), (45, .bipush 35, []), (47, .if_icmp .lt 41, [88]), (50, .aload_n 0, []), (51, .getfield 20, [12, 5]), (54, .aload_n 0, []), (55, .getfield 251, [12, 11]), (58, .iaload, []), (59, .bipush 40, []), (61, .if_icmp .gt 27, [88]), (64, .aload_n 0, []), (65, .iconst 1, []), (66, .aload_n 0, []), (67, .getfield 20, [12, 5]), (70, .aload_n 0, []), (71, .getfield 251, [12, 11]), (74, .iaload, []), (75, .bipush 35, []), (77, .isub, []), (78, .invokevirtual 363, [2, 172, 2, 12]), (81, .aload_n 0, []), (82, .invokevirtual 269, [2, 153, 0, 12]), (85, .goto 8, [93]), (88, .aload_n 0, []), (89, .iconst 1, []), (90, .invokevirtual 263, [2, 151, 1, 12]), (93, .return_, [])]
/-- SleepWorkModel.termOf(II)I -/
def k_c176 : List (Nat × Instr × List Nat) := [(0, .iconst 0, []), (1, .istore_n 3, []), (2, .iload_n 1, []), (3, .istore 4, []), (5, .iload 4, []), (7, .iload_n 2, []), (8, .if_icmp .ge 157, [165]), (11, .aload_n 0, []), (12, .getfield 143, [12, 57]), (15, .iload 4, []), (17, .iaload, []), (18, .istore 5, []), (20, .iload 5, []), (22, .iconst 2, []), (23, .if_icmp .ge 42, [65]), (26, .aload_n 0, []), (27, .getfield 155, [12, 62]), (30, .iload_n 3, []), (31, .iload 5, []), (33, .ifCond .ne 13, [46]), (36, .aload_n 0, []), (37, .getfield 146, [12, 58]), (40, .iload 4, []), (42, .iaload, []), (43, .goto 15, [58]), (46, .aload_n 0, []), (47, .getfield 152, [12, 61]), (50, .aload_n 0, []), (51, .getfield 146, [12, 58]), (54, .iload 4, []), (56, .iaload, []), (57, .iaload, []), (58, .iastore, []), (59, .iinc 3 1, []), (62, .goto 97, [159]), (65, .iinc 3 (-1), []), (68, .aload_n 0, []), (69, .getfield 155, [12, 62]), (72, .iload_n 3, []), (73, .iconst 1, []), (74, .isub, []), (75, .iaload, []), (76, .istore 6, []), (78, .aload_n 0, []), (79, .getfield 155, [12, 62]), (82, .iload_n 3, []), (83, .iaload, []), (84, .istore 7, []), (86, .iload 5, []), (88, .iconst 5, []), (89, .if_icmp .ne 15, [104]), (92, .iload 7, []), (94, .ifCond .ne 10, [104]), (97, .aload_n 0, []), (98, .iconst 1, []), (99, .putfield 373, [12, 63]), (102, .iconst 0, []), (103, .ireturn, []), (104, .aload_n 0, []), (105, .getfield 155, [12, 62]), (108, .iload_n 3, []), (109, .iconst 1, []), (110, .isub, []), (111, .iload 5, []), (113, .iconst 2, []), (114, .if_icmp .ne 11, [125]), (117, .iload 6, []), (119, .iload 7, []), (121, .iadd, []), (122, .goto 36, [158]), (125, .iload 5, []), (127, .iconst 3, []), (128, .if_icmp .ne 11, [139]), (131, .iload 6, []), (133, .iload 7, []), (135, .isub, []), (136, .goto 22, [158]), (139, .iload 5, []), (141, .iconst 4, []), (142, .if_icmp .ne 11, [153]), (145, .iload 6, []), (147, .iload 7, []), (149, .imul, []), (150, .goto 8, [158]), (153, .iload 6, []), (155, .iload 7, []), (157, .idiv, []), (158, .iastore, []), (159, .iinc 4 1, []), (162, .goto (-157), [5]), (165, .aload_n 0, []), (166, .getfield 155, [12, 62]), (169, .iconst 0, []), (170, .iaload, []), (171, .ireturn, [])]
/-- SleepWorkModel.in(III)Z -/
def k_c177 : List (Nat × Instr × List Nat) := [(0, .iload_n 0, []), (1, .iload_n 1, []), (2, .if_icmp .lt 12, [14]), (5, .iload_n 0, []), (6, .iload_n 2, []), (7, .if_icmp .gt 7, [14]), (10, .iconst 1, []), (11, .goto 4, [15]), (14, .iconst 0, []), (15, .ireturn, [])]
/-- SleepWorkModel.tasksNow()I -/
def k_c178 : List (Nat × Instr × List Nat) := [(0, .aload_n 0, []), (1, .getfield 74, [12, 32]), (4, .aload_n 0, []), (5, .getfield 278, [12, 18]), (8, .iaload, []), (9, .ireturn, [])]
/-- SleepWorkModel.menNow()I -/
def k_c179 : List (Nat × Instr × List Nat) := [(0, .aload_n 0, []), (1, .getfield 104, [12, 42]), (4, .aload_n 0, []), (5, .getfield 278, [12, 18]), (8, .iaload, []), (9, .ireturn, [])]
/-- SleepWorkModel.stepsOf(I)I -/
def k_c180 : List (Nat × Instr × List Nat) := [(0, .aload_n 0, []), (1, .getfield 83, [12, 35]), (4, .bipush 6, []), (6, .aload_n 0, []), (7, .getfield 278, [12, 18]), (10, .imul, []), (11, .iload_n 1, []), (12, .iadd, []), (13, .iaload, []), (14, .ireturn, [])]
/-- SleepWorkModel.stepAt(II)I -/
def k_c181 : List (Nat × Instr × List Nat) := [(0, .bipush 6, []), (2, .bipush 6, []), (4, .aload_n 0, []), (5, .getfield 278, [12, 18]), (8, .imul, []), (9, .iload_n 1, []), (10, .iadd, []), (11, .imul, []), (12, .iload_n 2, []), (13, .iadd, []), (14, .ireturn, [])]
/-- SleepWorkModel.isTask(I)Z -/
def k_c182 : List (Nat × Instr × List Nat) := [(0, .iload_n 1, []), (1, .iconst 0, []), (2, .aload_n 0, []), (3, .invokevirtual 377, [2, 178, 0, 12]), (6, .iconst 1, []), (7, .isub, []), (8, .invokestatic 380, [1, 177, 3]), (11, .ireturn, [])]
/-- SleepWorkModel.isStep(II)Z -/
def k_c183 : List (Nat × Instr × List Nat) := [(0, .aload_n 0, []), (1, .iload_n 1, []), (2, .invokevirtual 384, [2, 182, 1, 12]), (5, .ifCond .eq 22, [27]), (8, .iload_n 2, []), (9, .iconst 0, []), (10, .aload_n 0, []), (11, .iload_n 1, []), (12, .invokevirtual 387, [2, 180, 1, 12]), (15, .iconst 1, []), (16, .isub, []), (17, .invokestatic 380, [1, 177, 3]), (20, .ifCond .eq 7, [27]), (23, .iconst 1, []), (24, .goto 4, [28]), (27, .iconst 0, []), (28, .ireturn, [])]
/-- SleepWorkModel.isMan(I)Z -/
def k_c184 : List (Nat × Instr × List Nat) := [(0, .iload_n 1, []), (1, .iconst 0, []), (2, .aload_n 0, []), (3, .invokevirtual 390, [2, 179, 0, 12]), (6, .iconst 1, []), (7, .isub, []), (8, .invokestatic 380, [1, 177, 3]), (11, .ireturn, [])]
/-- SleepWorkModel.isRoom(I)Z -/
def k_c185 : List (Nat × Instr × List Nat) := [(0, .iload_n 1, []), (1, .iconst 0, []), (2, .aload_n 0, []), (3, .getfield 49, [12, 24]), (6, .aload_n 0, []), (7, .getfield 278, [12, 18]), (10, .iaload, []), (11, .iconst 1, []), (12, .isub, []), (13, .invokestatic 380, [1, 177, 3]), (16, .ireturn, [])]
/-- SleepWorkModel.isTool(I)Z -/
def k_c186 : List (Nat × Instr × List Nat) := [(0, .iload_n 1, []), (1, .iconst 0, []), (2, .aload_n 0, []), (3, .getfield 68, [12, 30]), (6, .aload_n 0, []), (7, .getfield 278, [12, 18]), (10, .iaload, []), (11, .iconst 1, []), (12, .isub, []), (13, .invokestatic 380, [1, 177, 3]), (16, .ireturn, [])]
/-- SleepWorkModel.begins()V -/
def k_c187 : List (Nat × Instr × List Nat) := [(0, .iconst 0, []), (1, .istore_n 1, []), (2, .iload_n 1, []), (3, .bipush 100, []), (5, .if_icmp .ge 16, [21]), (8, .aload_n 0, []), (9, .getfield 158, [12, 64]), (12, .iload_n 1, []), (13, .iconst 0, []), (14, .iastore, []), (15, .iinc 1 1, []), (18, .goto (-16), [2]), (21, .iconst 0, []), (22, .istore_n 1, []), (23, .iload_n 1, []), (24, .aload_n 0, []), (25, .invokevirtual 377, [2, 178, 0, 12]), (28, .if_icmp .ge 29, [57]), (31, .aload_n 0, []), (32, .getfield 158, [12, 64]), (35, .iload_n 1, []), (36, .aload_n 0, []), (37, .getfield 80, [12, 34]), (40, .bipush 6, []), (42, .aload_n 0, []), (43, .getfield 278, [12, 18]), (46, .imul, []), (47, .iload_n 1, []), (48, .iadd, []), (49, .iaload, []), (50, .iastore, []), (51, .iinc 1 1, []), (54, .goto (-31), [23]), (57, .iconst 0, []), (58, .istore_n 1, []), (59, .iload_n 1, []), (60, .aload_n 0, []), (61, .invokevirtual 390, [2, 179, 0, 12]), (64, .if_icmp .ge 66, [130]), (67, .aload_n 0, []), (68, .getfield 158, [12, 64]), (71, .bipush 42, []), (73, .iload_n 1, []), (74, .iadd, []), (75, .aload_n 0, []), (76, .getfield 110, [12, 44]), (79, .bipush 6, []), (81, .aload_n 0, []), (82, .getfield 278, [12, 18]), (85, .imul, []), (86, .iload_n 1, []), (87, .iadd, []), (88, .iaload, []), (89, .iastore, []), (90, .aload_n 0, []), (91, .getfield 158, [12, 64]), (94, .bipush 48, []), (96, .iload_n 1, []), (97, .iadd, []), (98, .aload_n 0, []), (99, .getfield 113, [12, 45]), (102, .bipush 6, []), (104, .aload_n 0, []), (105, .getfield 278, [12, 18]), (108, .imul, []), (109, .iload_n 1, []), (110, .iadd, []), (111, .iaload, []), (112, .iastore, []), (113, .aload_n 0, []), (114, .getfield 158, [12, 64]), (117, .bipush 66, []), (119, .iload_n 1, []), (120, .iadd, []), (121, .bipush (-2), []), (123, .iastore, []), (124, .iinc 1 1, []), (127, .goto (-68), [59]), (130, .iconst 0, []), (131, .istore_n 1, []), (132, .iload_n 1, []), (133, .aload_n 0, []), (134, .getfield 68, [12, 30]), (137, .aload_n 0, []), (138, .getfield 278, [12, 18]), (141, .iaload, []), (142, .if_icmp .ge 32, [174]), (145, .aload_n 0, []), (146, .getfield 158, [12, 64]), (149, .bipush 72, []), (151, .iload_n 1, []), (152, .iadd, []), (153, .aload_n 0, []), (154, .getfield 71, [12, 31]), (157, .bipush 6, []), (159, .aload_n 0, []), (160, .getfield 278, [12, 18]), (163, .imul, []), (164, .iload_n 1, []), (165, .iadd, []), (166, .iaload, []), (167, .iastore, []), (168, .iinc 1 1, []), (171, .goto (-39), [132]), (174, .iconst 0, []), (175, .istore_n 1, []), (176, .iload_n 1, []), (177, .aload_n 0, []), (178, .getfield 52, [12, 25]), (181, .aload_n 0, []), (182, .getfield 278, [12, 18]), (185, .iaload, []), (186, .if_icmp .ge 39, [225]), (189, .aload_n 0, []), (190, .getfield 64, [12, 29]), (193, .bipush 12, []), (195, .aload_n 0, []), (196, .getfield 278, [12, 18]), (199, .imul, []), (200, .iload_n 1, []), (201, .iadd, []), (202, .baload, []), (203, .ifCond .eq 16, [219]), (206, .aload_n 0, []), (207, .getfield 158, [12, 64]), (210, .bipush 78, []), (212, .dup2, []), (213, .iaload, []), (214, .iconst 1, []), (215, .iload_n 1, []), (216, .ishl, []), (217, .ior, []), (218, .iastore, []), (219, .iinc 1 1, []), (222, .goto (-46), [176]), (225, .return_, [])]
/-- SleepWorkModel.takes()V -/
def k_c188 : List (Nat × Instr × List Nat) := [(0, .iconst 0, []), (1, .istore_n 1, []), (2, .iload_n 1, []), (3, .bipush 100, []), (5, .if_icmp .ge 21, [26]), (8, .aload_n 0, []), (9, .getfield 161, [12, 65]), (12, .iload_n 1, []), (13, .aload_n 0, []), (14, .getfield 158, [12, 64]), (17, .iload_n 1, []), (18, .iaload, []), (19, .iastore, []), (20, .iinc 1 1, []), (23, .goto (-21), [2]), (26, .return_, [])]
/-- SleepWorkModel.isEnded(I)Z -/
def k_c189 : List (Nat × Instr × List Nat) := [(0, .iconst 0, []), (1, .istore_n 2, []), (2, .iload_n 2, []), (3, .aload_n 0, []), (4, .iload_n 1, []), (5, .invokevirtual 387, [2, 180, 1, 12]), (8, .if_icmp .ge 39, [47]), (11, .aload_n 0, []), (12, .getfield 161, [12, 65]), (15, .bipush 6, []), (17, .bipush 6, []), (19, .iload_n 1, []), (20, .imul, []), (21, .iadd, []), (22, .iload_n 2, []), (23, .iadd, []), (24, .iaload, []), (25, .aload_n 0, []), (26, .getfield 89, [12, 37]), (29, .aload_n 0, []), (30, .iload_n 1, []), (31, .iload_n 2, []), (32, .invokevirtual 393, [2, 181, 2, 12]), (35, .iaload, []), (36, .if_icmp .ge 5, [41]), (39, .iconst 0, []), (40, .ireturn, []), (41, .iinc 2 1, []), (44, .goto (-42), [2]), (47, .iconst 1, []), (48, .ireturn, [])]
/-- SleepWorkModel.worthOf(I)I -/
def k_c190 : List (Nat × Instr × List Nat) := [(0, .iconst 0, []), (1, .istore_n 2, []), (2, .iconst 0, []), (3, .istore_n 3, []), (4, .iload_n 3, []), (5, .aload_n 0, []), (6, .iload_n 1, []), (7, .invokevirtual 387, [2, 180, 1, 12]), (10, .if_icmp .ge 92, [102]), (13, .aload_n 0, []), (14, .iload_n 1, []), (15, .iload_n 3, []), (16, .invokevirtual 393, [2, 181, 2, 12]), (19, .istore 4, []), (21, .aload_n 0, []), (22, .getfield 161, [12, 65]), (25, .bipush 6, []), (27, .bipush 6, []), (29, .iload_n 1, []), (30, .imul, []), (31, .iadd, []), (32, .iload_n 3, []), (33, .iadd, []), (34, .iaload, []), (35, .istore 5, []), (37, .aload_n 0, []), (38, .getfield 89, [12, 37]), (41, .iload 4, []), (43, .iaload, []), (44, .istore 6, []), (46, .iload_n 2, []), (47, .iload 5, []), (49, .iload 6, []), (51, .if_icmp .ge 8, [59]), (54, .iload 5, []), (56, .goto 5, [61]), (59, .iload 6, []), (61, .aload_n 0, []), (62, .getfield 92, [12, 38]), (65, .iload 4, []), (67, .iaload, []), (68, .imul, []), (69, .iload 5, []), (71, .iload 6, []), (73, .if_icmp .le 11, [84]), (76, .iload 5, []), (78, .iload 6, []), (80, .isub, []), (81, .goto 4, [85]), (84, .iconst 0, []), (85, .aload_n 0, []), (86, .getfield 95, [12, 39]), (89, .iload 4, []), (91, .iaload, []), (92, .imul, []), (93, .isub, []), (94, .iadd, []), (95, .istore_n 2, []), (96, .iinc 3 1, []), (99, .goto (-95), [4]), (102, .iload_n 2, []), (103, .ireturn, [])]
/-- SleepWorkModel.worthNow()I -/
def k_c191 : List (Nat × Instr × List Nat) := [(0, .iconst 0, []), (1, .istore_n 1, []), (2, .iconst 0, []), (3, .istore_n 2, []), (4, .iload_n 2, []), (5, .aload_n 0, []), (6, .invokevirtual 377, [2, 178, 0, 12]), (9, .if_icmp .ge 17, [26]), (12, .iload_n 1, []), (13, .aload_n 0, []), (14, .iload_n 2, []), (15, .invokevirtual 396, [2, 190, 1, 12]), (18, .iadd, []), (19, .istore_n 1, []), (20, .iinc 2 1, []), (23, .goto (-19), [4]), (26, .iload_n 1, []), (27, .ireturn, [])]
def k_c192_0 : List (Nat × Instr × List Nat) := [(0, .iconst 0, []), (1, .istore_n 1, []), (2, .iload_n 1, []), (3, .bipush 64, []), (5, .if_icmp .ge 33, [38]), (8, .aload_n 0, []), (9, .getfield 164, [12, 66]), (12, .iload_n 1, []), (13, .iload_n 1, []), (14, .bipush 8, []), (16, .idiv, []), (17, .iload_n 1, []), (18, .bipush 8, []), (20, .irem, []), (21, .if_icmp .ne 7, [28]), (24, .iconst 0, []), (25, .goto 6, [31]), (28, .ldc_w 399, [0, 1000000]), (31, .iastore, []), (32, .iinc 1 1, []), (35, .goto (-33), [2]), (38, .iconst 0, []), (39, .istore_n 1, []), (40, .iload_n 1, []), (41, .aload_n 0, []), (42, .getfield 52, [12, 25]), (45, .aload_n 0, []), (46, .getfield 278, [12, 18]), (49, .iaload, []), (50, .if_icmp .ge 118, [168]), (53, .aload_n 0, []), (54, .getfield 161, [12, 65]), (57, .bipush 78, []), (59, .iaload, []), (60, .iload_n 1, []), (61, .ishr, []), (62, .iconst 1, []), (63, .iand, []), (64, .iconst 1, []), (65, .if_icmp .ne 6, [71]), (68, .goto 94, [162]), (71, .aload_n 0, []), (72, .getfield 55, [12, 26]), (75, .bipush 12, []), (77, .aload_n 0, []), (78, .getfield 278, [12, 18]), (81, .imul, []), (82, .iload_n 1, []), (83, .iadd, []), (84, .iaload, []), (85, .istore_n 2, []), (86, .aload_n 0, []), (87, .getfield 58, [12, 27]), (90, .bipush 12, []), (92, .aload_n 0, []), (93, .getfield 278, [12, 18]), (96, .imul, []), (97, .iload_n 1, []), (98, .iadd, []), (99, .iaload, [])]
def k_c192_1 : List (Nat × Instr × List Nat) := [(100, .istore_n 3, []), (101, .aload_n 0, []), (102, .getfield 61, [12, 28]), (105, .bipush 12, []), (107, .aload_n 0, []), (108, .getfield 278, [12, 18]), (111, .imul, []), (112, .iload_n 1, []), (113, .iadd, []), (114, .iaload, []), (115, .istore 4, []), (117, .iload 4, []), (119, .aload_n 0, []), (120, .getfield 164, [12, 66]), (123, .bipush 8, []), (125, .iload_n 2, []), (126, .imul, []), (127, .iload_n 3, []), (128, .iadd, []), (129, .iaload, []), (130, .if_icmp .lt 6, [136]), (133, .goto 29, [162]), (136, .aload_n 0, []), (137, .getfield 164, [12, 66]), (140, .bipush 8, []), (142, .iload_n 2, []), (143, .imul, []), (144, .iload_n 3, []), (145, .iadd, []), (146, .iload 4, []), (148, .iastore, []), (149, .aload_n 0, []), (150, .getfield 164, [12, 66]), (153, .bipush 8, []), (155, .iload_n 3, []), (156, .imul, []), (157, .iload_n 2, []), (158, .iadd, []), (159, .iload 4, []), (161, .iastore, []), (162, .iinc 1 1, []), (165, .goto (-125), [40]), (168, .iconst 0, []), (169, .istore_n 1, []), (170, .iload_n 1, []), (171, .bipush 8, []), (173, .if_icmp .ge 108, [281]), (176, .iconst 0, []), (177, .istore_n 2, []), (178, .iload_n 2, []), (179, .bipush 8, []), (181, .if_icmp .ge 94, [275]), (184, .iconst 0, []), (185, .istore_n 3, []), (186, .iload_n 3, []), (187, .bipush 8, []), (189, .if_icmp .ge 80, [269]), (192, .aload_n 0, []), (193, .getfield 164, [12, 66]), (196, .bipush 8, [])]
def k_c192_2 : List (Nat × Instr × List Nat) := [(198, .iload_n 2, []), (199, .imul, []), (200, .iload_n 1, []), (201, .iadd, []), (202, .iaload, []), (203, .aload_n 0, []), (204, .getfield 164, [12, 66]), (207, .bipush 8, []), (209, .iload_n 1, []), (210, .imul, []), (211, .iload_n 3, []), (212, .iadd, []), (213, .iaload, []), (214, .iadd, []), (215, .aload_n 0, []), (216, .getfield 164, [12, 66]), (219, .bipush 8, []), (221, .iload_n 2, []), (222, .imul, []), (223, .iload_n 3, []), (224, .iadd, []), (225, .iaload, []), (226, .if_icmp .ge 37, [263]), (229, .aload_n 0, []), (230, .getfield 164, [12, 66]), (233, .bipush 8, []), (235, .iload_n 2, []), (236, .imul, []), (237, .iload_n 3, []), (238, .iadd, []), (239, .aload_n 0, []), (240, .getfield 164, [12, 66]), (243, .bipush 8, []), (245, .iload_n 2, []), (246, .imul, []), (247, .iload_n 1, []), (248, .iadd, []), (249, .iaload, []), (250, .aload_n 0, []), (251, .getfield 164, [12, 66]), (254, .bipush 8, []), (256, .iload_n 1, []), (257, .imul, []), (258, .iload_n 3, []), (259, .iadd, []), (260, .iaload, []), (261, .iadd, []), (262, .iastore, []), (263, .iinc 3 1, []), (266, .goto (-80), [186]), (269, .iinc 2 1, []), (272, .goto (-94), [178]), (275, .iinc 1 1, []), (278, .goto (-108), [170]), (281, .return_, [])]
/-- SleepWorkModel.fillsWays()V -/
def k_c192 : List (Nat × Instr × List Nat) := k_c192_0 ++ (k_c192_1 ++ (k_c192_2))
/-- SleepWorkModel.getsUp(I)V -/
def k_c193 : List (Nat × Instr × List Nat) := [(0, .aload_n 0, []), (1, .getfield 161, [12, 65]), (4, .bipush 42, []), (6, .iload_n 1, []), (7, .iadd, []), (8, .iaload, []), (9, .istore_n 2, []), (10, .aload_n 0, []), (11, .getfield 167, [12, 67]), (14, .iload_n 1, []), (15, .iconst 0, []), (16, .iastore, []), (17, .aload_n 0, []), (18, .getfield 182, [12, 72]), (21, .iload_n 1, []), (22, .iconst 0, []), (23, .iastore, []), (24, .aload_n 0, []), (25, .getfield 185, [12, 73]), (28, .iload_n 1, []), (29, .iconst 0, []), (30, .bastore, []), (31, .aload_n 0, []), (32, .getfield 161, [12, 65]), (35, .bipush 66, []), (37, .iload_n 1, []), (38, .iadd, []), (39, .bipush (-2), []), (41, .iastore, []), (42, .aload_n 0, []), (43, .getfield 179, [12, 71]), (46, .iload_n 1, []), (47, .aload_n 0, []), (48, .getfield 161, [12, 65]), (51, .bipush 48, []), (53, .iload_n 1, []), (54, .iadd, []), (55, .iaload, []), (56, .iastore, []), (57, .iload_n 2, []), (58, .ifCond .ge 4, [62]), (61, .return_, []), (62, .aload_n 0, []), (63, .getfield 164, [12, 66]), (66, .bipush 8, []), (68, .aload_n 0, []), (69, .getfield 107, [12, 43]), (72, .bipush 6, []), (74, .aload_n 0, []), (75, .getfield 278, [12, 18]), (78, .imul, []), (79, .iload_n 1, []), (80, .iadd, []), (81, .iaload, []), (82, .imul, []), (83, .aload_n 0, []), (84, .getfield 77, [12, 33]), (87, .bipush 6, []), (89, .aload_n 0, []), (90, .getfield 278, [12, 18]), (93, .imul, []), (94, .iload_n 2, []), (95, .iadd, []), (96, .iaload, []), (97, .iadd, []), (98, .iaload, []), (99, .istore_n 3, []), (100, .aload_n 0, []), (101, .getfield 167, [12, 67]), (104, .iload_n 1, []), (105, .iload_n 3, []), (106, .ldc_w 399, [0, 1000000]), (109, .if_icmp .ne 7, [116]), (112, .iconst 3, []), (113, .goto 4, [117]), (116, .iconst 1, []), (117, .iastore, []), (118, .aload_n 0, []), (119, .getfield 170, [12, 68]), (122, .iload_n 1, []), (123, .iload_n 3, []), (124, .iastore, []), (125, .iload_n 3, []), (126, .ldc_w 399, [0, 1000000]), (129, .if_icmp .ne 13, [142]), (132, .aload_n 0, []), (133, .getfield 161, [12, 65]), (136, .bipush 66, []), (138, .iload_n 1, []), (139, .iadd, []), (140, .iconst 0, []), (141, .iastore, []), (142, .return_, [])]
def k_c194_0 : List (Nat × Instr × List Nat) := [(0, .aload_n 0, []), (1, .getfield 161, [12, 65]), (4, .bipush 42, []), (6, .iload_n 1, []), (7, .iadd, []), (8, .iaload, []), (9, .istore_n 3, []), (10, .aload_n 0, []), (11, .getfield 119, [12, 47]), (14, .bipush 6, []), (16, .aload_n 0, []), (17, .getfield 278, [12, 18]), (20, .imul, []), (21, .iload_n 1, []), (22, .iadd, []), (23, .iaload, []), (24, .istore 4, []), (26, .aload_n 0, []), (27, .getfield 122, [12, 48]), (30, .bipush 6, []), (32, .aload_n 0, []), (33, .getfield 278, [12, 18]), (36, .imul, []), (37, .iload_n 1, []), (38, .iadd, []), (39, .iaload, []), (40, .istore 5, []), (42, .aload_n 0, []), (43, .getfield 152, [12, 61]), (46, .iconst 0, []), (47, .aload_n 0, []), (48, .getfield 179, [12, 71]), (51, .iload_n 1, []), (52, .iaload, []), (53, .iastore, []), (54, .aload_n 0, []), (55, .getfield 152, [12, 61]), (58, .iconst 1, []), (59, .aload_n 0, []), (60, .getfield 161, [12, 65]), (63, .bipush 6, []), (65, .bipush 6, []), (67, .iload_n 3, []), (68, .imul, []), (69, .iadd, []), (70, .aload_n 0, []), (71, .getfield 179, [12, 71]), (74, .iload_n 1, []), (75, .iaload, []), (76, .iadd, []), (77, .iaload, []), (78, .iastore, []), (79, .aload_n 0, []), (80, .getfield 152, [12, 61]), (83, .iconst 2, []), (84, .aload_n 0, []), (85, .iload_n 3, []), (86, .invokevirtual 387, [2, 180, 1, 12]), (89, .iastore, []), (90, .aload_n 0, [])]
def k_c194_1 : List (Nat × Instr × List Nat) := [(91, .getfield 152, [12, 61]), (94, .iconst 3, []), (95, .iload_n 2, []), (96, .iastore, []), (97, .aload_n 0, []), (98, .getfield 152, [12, 61]), (101, .iconst 4, []), (102, .aload_n 0, []), (103, .getfield 161, [12, 65]), (106, .iload_n 3, []), (107, .iaload, []), (108, .iastore, []), (109, .aload_n 0, []), (110, .getfield 152, [12, 61]), (113, .iconst 5, []), (114, .aload_n 0, []), (115, .getfield 182, [12, 72]), (118, .iload_n 1, []), (119, .iaload, []), (120, .iastore, []), (121, .aload_n 0, []), (122, .iconst 0, []), (123, .putfield 373, [12, 63]), (126, .iload 4, []), (128, .istore 6, []), (130, .iload 6, []), (132, .iload 5, []), (134, .if_icmp .ge 149, [283]), (137, .aload_n 0, []), (138, .getfield 125, [12, 50]), (141, .iload 6, []), (143, .baload, []), (144, .ifCond .eq 67, [211]), (147, .aload_n 0, []), (148, .aload_n 0, []), (149, .getfield 128, [12, 51]), (152, .iload 6, []), (154, .iaload, []), (155, .aload_n 0, []), (156, .getfield 131, [12, 52]), (159, .iload 6, []), (161, .iaload, []), (162, .invokevirtual 400, [2, 176, 2, 12]), (165, .istore 7, []), (167, .aload_n 0, []), (168, .aload_n 0, []), (169, .getfield 131, [12, 52]), (172, .iload 6, []), (174, .iaload, []), (175, .aload_n 0, []), (176, .getfield 134, [12, 53]), (179, .iload 6, []), (181, .iaload, []), (182, .invokevirtual 400, [2, 176, 2, 12]), (185, .istore 8, []), (187, .aload_n 0, []), (188, .getfield 373, [12, 63]), (191, .ifCond .eq 10, [201]), (194, .aload_n 0, []), (195, .getfield 179, [12, 71])]
def k_c194_2 : List (Nat × Instr × List Nat) := [(198, .iload_n 1, []), (199, .iaload, []), (200, .ireturn, []), (201, .iload 7, []), (203, .iload 8, []), (205, .if_icmp .lt 6, [211]), (208, .goto 69, [277]), (211, .aload_n 0, []), (212, .aload_n 0, []), (213, .getfield 134, [12, 53]), (216, .iload 6, []), (218, .iaload, []), (219, .aload_n 0, []), (220, .getfield 137, [12, 54]), (223, .iload 6, []), (225, .iaload, []), (226, .invokevirtual 400, [2, 176, 2, 12]), (229, .istore 7, []), (231, .aload_n 0, []), (232, .getfield 373, [12, 63]), (235, .ifCond .eq 10, [245]), (238, .aload_n 0, []), (239, .getfield 179, [12, 71]), (242, .iload_n 1, []), (243, .iaload, []), (244, .ireturn, []), (245, .iload 7, []), (247, .ifCond .ge 7, [254]), (250, .iconst 0, []), (251, .goto 25, [276]), (254, .iload 7, []), (256, .aload_n 0, []), (257, .iload_n 3, []), (258, .invokevirtual 387, [2, 180, 1, 12]), (261, .if_icmp .lt 13, [274]), (264, .aload_n 0, []), (265, .iload_n 3, []), (266, .invokevirtual 387, [2, 180, 1, 12]), (269, .iconst 1, []), (270, .isub, []), (271, .goto 5, [276]), (274, .iload 7, []), (276, .ireturn, []), (277, .iinc 6 1, []), (280, .goto (-150), [130]), (283, .aload_n 0, []), (284, .getfield 179, [12, 71]), (287, .iload_n 1, []), (288, .iaload, []), (289, .ireturn, [])]
/-- SleepWorkModel.tells(II)I -/
def k_c194 : List (Nat × Instr × List Nat) := k_c194_0 ++ (k_c194_1 ++ (k_c194_2))
/-- SleepWorkModel.does(II)V -/
def k_c195 : List (Nat × Instr × List Nat) := [(0, .aload_n 0, []), (1, .getfield 161, [12, 65]), (4, .bipush 6, []), (6, .bipush 6, []), (8, .iload_n 1, []), (9, .imul, []), (10, .iadd, []), (11, .iload_n 2, []), (12, .iadd, []), (13, .dup2, []), (14, .iaload, []), (15, .iconst 1, []), (16, .iadd, []), (17, .iastore, []), (18, .aload_n 0, []), (19, .getfield 101, [12, 41]), (22, .aload_n 0, []), (23, .iload_n 1, []), (24, .iload_n 2, []), (25, .invokevirtual 393, [2, 181, 2, 12]), (28, .iaload, []), (29, .istore_n 3, []), (30, .iload_n 3, []), (31, .ifCond .lt 38, [69]), (34, .aload_n 0, []), (35, .getfield 161, [12, 65]), (38, .bipush 6, []), (40, .bipush 6, []), (42, .iload_n 1, []), (43, .imul, []), (44, .iadd, []), (45, .iload_n 3, []), (46, .iadd, []), (47, .iaload, []), (48, .ifCond .le 21, [69]), (51, .aload_n 0, []), (52, .getfield 161, [12, 65]), (55, .bipush 6, []), (57, .bipush 6, []), (59, .iload_n 1, []), (60, .imul, []), (61, .iadd, []), (62, .iload_n 3, []), (63, .iadd, []), (64, .dup2, []), (65, .iaload, []), (66, .iconst 1, []), (67, .isub, []), (68, .iastore, []), (69, .return_, [])]
/-- SleepWorkModel.isOver(I)V -/
def k_c196 : List (Nat × Instr × List Nat) := [(0, .aload_n 0, []), (1, .aload_n 0, []), (2, .getfield 161, [12, 65]), (5, .bipush 42, []), (7, .iload_n 1, []), (8, .iadd, []), (9, .iaload, []), (10, .aload_n 0, []), (11, .getfield 176, [12, 70]), (14, .iload_n 1, []), (15, .iaload, []), (16, .invokevirtual 403, [2, 195, 2, 12]), (19, .aload_n 0, []), (20, .getfield 167, [12, 67]), (23, .iload_n 1, []), (24, .iconst 1, []), (25, .iastore, []), (26, .aload_n 0, []), (27, .getfield 179, [12, 71]), (30, .iload_n 1, []), (31, .aload_n 0, []), (32, .getfield 176, [12, 70]), (35, .iload_n 1, []), (36, .iaload, []), (37, .iastore, []), (38, .aload_n 0, []), (39, .getfield 182, [12, 72]), (42, .iload_n 1, []), (43, .dup2, []), (44, .iaload, []), (45, .iconst 1, []), (46, .iadd, []), (47, .iastore, []), (48, .return_, [])]
/-- SleepWorkModel.lies(II)V -/
def k_c197 : List (Nat × Instr × List Nat) := [(0, .aload_n 0, []), (1, .getfield 167, [12, 67]), (4, .iload_n 1, []), (5, .iconst 3, []), (6, .iastore, []), (7, .aload_n 0, []), (8, .getfield 161, [12, 65]), (11, .bipush 66, []), (13, .iload_n 1, []), (14, .iadd, []), (15, .iload_n 2, []), (16, .iastore, []), (17, .return_, [])]
/-- SleepWorkModel.isInUse(II)Z -/
def k_c198 : List (Nat × Instr × List Nat) := [(0, .iconst 0, []), (1, .istore_n 3, []), (2, .iload_n 3, []), (3, .aload_n 0, []), (4, .invokevirtual 390, [2, 179, 0, 12]), (7, .if_icmp .ge 54, [61]), (10, .iload_n 3, []), (11, .iload_n 2, []), (12, .if_icmp .eq 43, [55]), (15, .aload_n 0, []), (16, .getfield 167, [12, 67]), (19, .iload_n 3, []), (20, .iaload, []), (21, .iconst 2, []), (22, .if_icmp .ne 33, [55]), (25, .aload_n 0, []), (26, .getfield 98, [12, 40]), (29, .aload_n 0, []), (30, .aload_n 0, []), (31, .getfield 161, [12, 65]), (34, .bipush 42, []), (36, .iload_n 3, []), (37, .iadd, []), (38, .iaload, []), (39, .aload_n 0, []), (40, .getfield 176, [12, 70]), (43, .iload_n 3, []), (44, .iaload, []), (45, .invokevirtual 393, [2, 181, 2, 12]), (48, .iaload, []), (49, .iload_n 1, []), (50, .if_icmp .ne 5, [55]), (53, .iconst 1, []), (54, .ireturn, []), (55, .iinc 3 1, []), (58, .goto (-56), [2]), (61, .iconst 0, []), (62, .ireturn, [])]
/-- SleepWorkModel.begins1(II)V -/
def k_c199 : List (Nat × Instr × List Nat) := [(0, .aload_n 0, []), (1, .getfield 161, [12, 65]), (4, .bipush 42, []), (6, .iload_n 1, []), (7, .iadd, []), (8, .iaload, []), (9, .istore_n 3, []), (10, .aload_n 0, []), (11, .iload_n 3, []), (12, .invokevirtual 406, [2, 189, 1, 12]), (15, .ifCond .eq 17, [32]), (18, .aload_n 0, []), (19, .getfield 185, [12, 73]), (22, .iload_n 1, []), (23, .iconst 1, []), (24, .bastore, []), (25, .aload_n 0, []), (26, .iload_n 1, []), (27, .iload_n 2, []), (28, .invokevirtual 409, [2, 197, 2, 12]), (31, .return_, []), (32, .aload_n 0, []), (33, .iload_n 1, []), (34, .iload_n 2, []), (35, .invokevirtual 412, [2, 194, 2, 12]), (38, .istore 4, []), (40, .aload_n 0, []), (41, .getfield 98, [12, 40]), (44, .aload_n 0, []), (45, .iload_n 3, []), (46, .iload 4, []), (48, .invokevirtual 393, [2, 181, 2, 12]), (51, .iaload, []), (52, .istore 5, []), (54, .iload 5, []), (56, .ifCond .lt 20, [76]), (59, .aload_n 0, []), (60, .getfield 161, [12, 65]), (63, .bipush 72, []), (65, .iload 5, []), (67, .iadd, []), (68, .iaload, []), (69, .bipush 100, []), (71, .iload_n 1, []), (72, .iadd, []), (73, .if_icmp .ne 7, [80]), (76, .iconst 1, []), (77, .goto 4, [81]), (80, .iconst 0, []), (81, .istore 6, []), (83, .aload_n 0, []), (84, .getfield 161, [12, 65]), (87, .iload_n 3, []), (88, .iaload, []), (89, .ifCond .eq 35, [124]), (92, .iload 6, []), (94, .ifCond .ne 37, [131]), (97, .aload_n 0, []), (98, .getfield 161, [12, 65]), (101, .bipush 72, []), (103, .iload 5, []), (105, .iadd, []), (106, .iaload, []), (107, .aload_n 0, []), (108, .getfield 77, [12, 33]), (111, .bipush 6, []), (113, .aload_n 0, []), (114, .getfield 278, [12, 18]), (117, .imul, []), (118, .iload_n 3, []), (119, .iadd, []), (120, .iaload, []), (121, .if_icmp .eq 10, [131]), (124, .aload_n 0, []), (125, .iload_n 1, []), (126, .iload_n 2, []), (127, .invokevirtual 409, [2, 197, 2, 12]), (130, .return_, []), (131, .iload 6, []), (133, .ifCond .ne 14, [147]), (136, .aload_n 0, []), (137, .iload 5, []), (139, .iload_n 1, []), (140, .invokevirtual 415, [2, 198, 2, 12]), (143, .ifCond .eq 4, [147]), (146, .return_, []), (147, .aload_n 0, []), (148, .getfield 161, [12, 65]), (151, .iload_n 3, []), (152, .dup2, []), (153, .iaload, []), (154, .iconst 1, []), (155, .isub, []), (156, .iastore, []), (157, .aload_n 0, []), (158, .getfield 176, [12, 70]), (161, .iload_n 1, []), (162, .iload 4, []), (164, .iastore, []), (165, .aload_n 0, []), (166, .getfield 167, [12, 67]), (169, .iload_n 1, []), (170, .iconst 2, []), (171, .iastore, []), (172, .aload_n 0, []), (173, .getfield 173, [12, 69]), (176, .iload_n 1, []), (177, .iload_n 2, []), (178, .aload_n 0, []), (179, .getfield 86, [12, 36]), (182, .aload_n 0, []), (183, .iload_n 3, []), (184, .iload 4, []), (186, .invokevirtual 393, [2, 181, 2, 12]), (189, .iaload, []), (190, .iadd, []), (191, .iastore, []), (192, .return_, [])]
/-- SleepWorkModel.goesTill(I)V -/
def k_c200 : List (Nat × Instr × List Nat) := [(0, .aload_n 0, []), (1, .invokevirtual 419, [2, 192, 0, 12]), (4, .iconst 0, []), (5, .istore_n 2, []), (6, .iload_n 2, []), (7, .aload_n 0, []), (8, .invokevirtual 390, [2, 179, 0, 12]), (11, .if_icmp .ge 14, [25]), (14, .aload_n 0, []), (15, .iload_n 2, []), (16, .invokevirtual 422, [2, 193, 1, 12]), (19, .iinc 2 1, []), (22, .goto (-16), [6]), (25, .iconst 0, []), (26, .istore_n 2, []), (27, .iload_n 2, []), (28, .iload_n 1, []), (29, .if_icmp .gt 105, [134]), (32, .iconst 0, []), (33, .istore_n 3, []), (34, .iload_n 3, []), (35, .aload_n 0, []), (36, .invokevirtual 390, [2, 179, 0, 12]), (39, .if_icmp .ge 34, [73]), (42, .aload_n 0, []), (43, .getfield 167, [12, 67]), (46, .iload_n 3, []), (47, .iaload, []), (48, .iconst 2, []), (49, .if_icmp .ne 18, [67]), (52, .aload_n 0, []), (53, .getfield 173, [12, 69]), (56, .iload_n 3, []), (57, .iaload, []), (58, .iload_n 2, []), (59, .if_icmp .ne 8, [67]), (62, .aload_n 0, []), (63, .iload_n 3, []), (64, .invokevirtual 425, [2, 196, 1, 12]), (67, .iinc 3 1, []), (70, .goto (-36), [34]), (73, .iconst 0, []), (74, .istore_n 3, []), (75, .iload_n 3, []), (76, .aload_n 0, []), (77, .invokevirtual 390, [2, 179, 0, 12]), (80, .if_icmp .ge 48, [128]), (83, .iload_n 2, []), (84, .aload_n 0, []), (85, .getfield 140, [12, 55]), (88, .aload_n 0, []), (89, .getfield 278, [12, 18]), (92, .iaload, []), (93, .if_icmp .ge 35, [128]), (96, .aload_n 0, []), (97, .getfield 167, [12, 67]), (100, .iload_n 3, []), (101, .iaload, []), (102, .iconst 1, []), (103, .if_icmp .ne 19, [122]), (106, .aload_n 0, []), (107, .getfield 170, [12, 68]), (110, .iload_n 3, []), (111, .iaload, []), (112, .iload_n 2, []), (113, .if_icmp .gt 9, [122]), (116, .aload_n 0, []), (117, .iload_n 3, []), (118, .iload_n 2, []), (119, .invokevirtual 428, [2, 199, 2, 12]), (122, .iinc 3 1, []), (125, .goto (-50), [75]), (128, .iinc 2 1, []), (131, .goto (-104), [27]), (134, .return_, [])]
/-- SleepWorkModel.wholeNight()I -/
def k_c201 : List (Nat × Instr × List Nat) := [(0, .aload_n 0, []), (1, .invokevirtual 431, [2, 191, 0, 12]), (4, .istore_n 1, []), (5, .aload_n 0, []), (6, .aload_n 0, []), (7, .getfield 140, [12, 55]), (10, .aload_n 0, []), (11, .getfield 278, [12, 18]), (14, .iaload, []), (15, .invokevirtual 434, [2, 200, 1, 12]), (18, .iconst 0, []), (19, .istore_n 2, []), (20, .iload_n 2, []), (21, .aload_n 0, []), (22, .invokevirtual 390, [2, 179, 0, 12]), (25, .if_icmp .ge 89, [114]), (28, .aload_n 0, []), (29, .getfield 161, [12, 65]), (32, .bipush 54, []), (34, .iload_n 2, []), (35, .iadd, []), (36, .aload_n 0, []), (37, .getfield 182, [12, 72]), (40, .iload_n 2, []), (41, .iaload, []), (42, .iastore, []), (43, .aload_n 0, []), (44, .getfield 161, [12, 65]), (47, .bipush 60, []), (49, .iload_n 2, []), (50, .iadd, []), (51, .dup2, []), (52, .iaload, []), (53, .aload_n 0, []), (54, .getfield 182, [12, 72]), (57, .iload_n 2, []), (58, .iaload, []), (59, .iadd, []), (60, .iastore, []), (61, .aload_n 0, []), (62, .getfield 161, [12, 65]), (65, .bipush 48, []), (67, .iload_n 2, []), (68, .iadd, []), (69, .aload_n 0, []), (70, .getfield 179, [12, 71]), (73, .iload_n 2, []), (74, .iaload, []), (75, .iastore, []), (76, .aload_n 0, []), (77, .getfield 185, [12, 73]), (80, .iload_n 2, []), (81, .baload, []), (82, .ifCond .ne 6, [88]), (85, .goto 23, [108]), (88, .aload_n 0, []), (89, .getfield 161, [12, 65]), (92, .bipush 42, []), (94, .iload_n 2, []), (95, .iadd, []), (96, .iconst (-1), []), (97, .iastore, []), (98, .aload_n 0, []), (99, .getfield 161, [12, 65]), (102, .bipush 48, []), (104, .iload_n 2, []), (105, .iadd, []), (106, .iconst (-1), []), (107, .iastore, []), (108, .iinc 2 1, []), (111, .goto (-91), [20]), (114, .aload_n 0, []), (115, .getfield 161, [12, 65]), (118, .bipush 79, []), (120, .dup2, []), (121, .iaload, []), (122, .iconst 1, []), (123, .iadd, []), (124, .iastore, []), (125, .aload_n 0, []), (126, .invokevirtual 431, [2, 191, 0, 12]), (129, .iload_n 1, []), (130, .isub, []), (131, .ireturn, [])]
/-- SleepWorkModel.task(II)I -/
def k_c202 : List (Nat × Instr × List Nat) := [(0, .aload_n 0, []), (1, .iload_n 1, []), (2, .invokevirtual 384, [2, 182, 1, 12]), (5, .ifCond .ne 5, [10]), (8, .iconst (-1), []), (9, .ireturn, []), (10, .aload_n 0, []), (11, .invokevirtual 437, [2, 188, 0, 12]), (14, .iload_n 2, []), (15, .tableswitch 81 0 4 #[33, 48, 54, 61, 67], [96, 48, 63, 69, 76, 82]), (48, .aload_n 0, []), (49, .getfield 77, [12, 33]), (52, .bipush 6, []), (54, .aload_n 0, []), (55, .getfield 278, [12, 18]), (58, .imul, []), (59, .iload_n 1, []), (60, .iadd, []), (61, .iaload, []), (62, .ireturn, []), (63, .aload_n 0, []), (64, .iload_n 1, []), (65, .invokevirtual 387, [2, 180, 1, 12]), (68, .ireturn, []), (69, .aload_n 0, []), (70, .getfield 161, [12, 65]), (73, .iload_n 1, []), (74, .iaload, []), (75, .ireturn, []), (76, .aload_n 0, []), (77, .iload_n 1, []), (78, .invokevirtual 396, [2, 190, 1, 12]), (81, .ireturn, []), (82, .aload_n 0, []), (83, .iload_n 1, []), (84, .invokevirtual 406, [2, 189, 1, 12]), (87, .ifCond .eq 7, [94]), (90, .iconst 1, []), (91, .goto 4, [95]), (94, .iconst 0, []), (95, .ireturn, []), (96, .iconst (-1), []), (97, .ireturn, [])]
/-- SleepWorkModel.orNone(I)I -/
def k_c203 : List (Nat × Instr × List Nat) := [(0, .iload_n 0, []), (1, .ifCond .ge 8, [9]), (4, .bipush (-2), []), (6, .goto 4, [10]), (9, .iload_n 0, []), (10, .ireturn, [])]
/-- SleepWorkModel.step(III)I -/
def k_c204 : List (Nat × Instr × List Nat) := [(0, .aload_n 0, []), (1, .iload_n 1, []), (2, .iload_n 2, []), (3, .invokevirtual 440, [2, 183, 2, 12]), (6, .ifCond .ne 5, [11]), (9, .iconst (-1), []), (10, .ireturn, []), (11, .aload_n 0, []), (12, .iload_n 1, []), (13, .iload_n 2, []), (14, .invokevirtual 393, [2, 181, 2, 12]), (17, .istore 4, []), (19, .iload_n 3, []), (20, .tableswitch 113 0 6 #[44, 59, 67, 75, 83, 91, 102], [133, 64, 79, 87, 95, 103, 111, 122]), (64, .aload_n 0, []), (65, .getfield 158, [12, 64]), (68, .bipush 6, []), (70, .bipush 6, []), (72, .iload_n 1, []), (73, .imul, []), (74, .iadd, []), (75, .iload_n 2, []), (76, .iadd, []), (77, .iaload, []), (78, .ireturn, []), (79, .aload_n 0, []), (80, .getfield 86, [12, 36]), (83, .iload 4, []), (85, .iaload, []), (86, .ireturn, []), (87, .aload_n 0, []), (88, .getfield 89, [12, 37]), (91, .iload 4, []), (93, .iaload, []), (94, .ireturn, []), (95, .aload_n 0, []), (96, .getfield 92, [12, 38]), (99, .iload 4, []), (101, .iaload, []), (102, .ireturn, []), (103, .aload_n 0, []), (104, .getfield 95, [12, 39]), (107, .iload 4, []), (109, .iaload, []), (110, .ireturn, []), (111, .aload_n 0, []), (112, .getfield 98, [12, 40]), (115, .iload 4, []), (117, .iaload, []), (118, .invokestatic 443, [1, 203, 1]), (121, .ireturn, []), (122, .aload_n 0, []), (123, .getfield 101, [12, 41]), (126, .iload 4, []), (128, .iaload, []), (129, .invokestatic 443, [1, 203, 1]), (132, .ireturn, []), (133, .iconst (-1), []), (134, .ireturn, [])]
/-- SleepWorkModel.man(II)I -/
def k_c205 : List (Nat × Instr × List Nat) := [(0, .aload_n 0, []), (1, .iload_n 1, []), (2, .invokevirtual 446, [2, 184, 1, 12]), (5, .ifCond .ne 5, [10]), (8, .iconst (-1), []), (9, .ireturn, []), (10, .iload_n 2, []), (11, .tableswitch 108 0 5 #[37, 52, 65, 78, 88, 98], [119, 48, 63, 76, 89, 99, 109]), (48, .aload_n 0, []), (49, .getfield 107, [12, 43]), (52, .bipush 6, []), (54, .aload_n 0, []), (55, .getfield 278, [12, 18]), (58, .imul, []), (59, .iload_n 1, []), (60, .iadd, []), (61, .iaload, []), (62, .ireturn, []), (63, .aload_n 0, []), (64, .getfield 158, [12, 64]), (67, .bipush 42, []), (69, .iload_n 1, []), (70, .iadd, []), (71, .iaload, []), (72, .invokestatic 443, [1, 203, 1]), (75, .ireturn, []), (76, .aload_n 0, []), (77, .getfield 158, [12, 64]), (80, .bipush 48, []), (82, .iload_n 1, []), (83, .iadd, []), (84, .iaload, []), (85, .invokestatic 443, [1, 203, 1]), (88, .ireturn, []), (89, .aload_n 0, []), (90, .getfield 158, [12, 64]), (93, .bipush 54, []), (95, .iload_n 1, []), (96, .iadd, []), (97, .iaload, []), (98, .ireturn, []), (99, .aload_n 0, []), (100, .getfield 158, [12, 64]), (103, .bipush 60, []), (105, .iload_n 1, []), (106, .iadd, []), (107, .iaload, []), (108, .ireturn, []), (109, .aload_n 0, []), (110, .getfield 158, [12, 64]), (113, .bipush 66, []), (115, .iload_n 1, []), (116, .iadd, []), (117, .iaload, []), (118, .ireturn, []), (119, .iconst (-1), []), (120, .ireturn, [])]
/-- SleepWorkModel.tool(I)I -/
def k_c206 : List (Nat × Instr × List Nat) := [(0, .aload_n 0, []), (1, .iload_n 1, []), (2, .invokevirtual 449, [2, 186, 1, 12]), (5, .ifCond .eq 15, [20]), (8, .aload_n 0, []), (9, .getfield 158, [12, 64]), (12, .bipush 72, []), (14, .iload_n 1, []), (15, .iadd, []), (16, .iaload, []), (17, .goto 4, [21]), (20, .iconst (-1), []), (21, .ireturn, [])]
/-- SleepWorkModel.way(II)I -/
def k_c207 : List (Nat × Instr × List Nat) := [(0, .aload_n 0, []), (1, .iload_n 1, []), (2, .invokevirtual 452, [2, 185, 1, 12]), (5, .ifCond .eq 11, [16]), (8, .aload_n 0, []), (9, .iload_n 2, []), (10, .invokevirtual 452, [2, 185, 1, 12]), (13, .ifCond .ne 5, [18]), (16, .iconst (-1), []), (17, .ireturn, []), (18, .aload_n 0, []), (19, .invokevirtual 437, [2, 188, 0, 12]), (22, .aload_n 0, []), (23, .invokevirtual 419, [2, 192, 0, 12]), (26, .aload_n 0, []), (27, .getfield 164, [12, 66]), (30, .bipush 8, []), (32, .iload_n 1, []), (33, .imul, []), (34, .iload_n 2, []), (35, .iadd, []), (36, .iaload, []), (37, .ldc_w 399, [0, 1000000]), (40, .if_icmp .ne 8, [48]), (43, .bipush (-2), []), (45, .goto 14, [59]), (48, .aload_n 0, []), (49, .getfield 164, [12, 66]), (52, .bipush 8, []), (54, .iload_n 1, []), (55, .imul, []), (56, .iload_n 2, []), (57, .iadd, []), (58, .iaload, []), (59, .ireturn, [])]
/-- SleepWorkModel.isLeft(II)Z -/
def k_c208 : List (Nat × Instr × List Nat) := [(0, .iload_n 1, []), (1, .iconst (-1), []), (2, .if_icmp .ne 8, [10]), (5, .iload_n 2, []), (6, .iconst (-1), []), (7, .if_icmp .eq 12, [19]), (10, .aload_n 0, []), (11, .iload_n 1, []), (12, .iload_n 2, []), (13, .invokevirtual 440, [2, 183, 2, 12]), (16, .ifCond .eq 7, [23]), (19, .iconst 1, []), (20, .goto 4, [24]), (23, .iconst 0, []), (24, .ireturn, [])]
/-- SleepWorkModel.leave(III)Z -/
def k_c209 : List (Nat × Instr × List Nat) := [(0, .aload_n 0, []), (1, .iload_n 1, []), (2, .invokevirtual 446, [2, 184, 1, 12]), (5, .ifCond .eq 12, [17]), (8, .aload_n 0, []), (9, .iload_n 2, []), (10, .iload_n 3, []), (11, .invokevirtual 455, [2, 208, 2, 12]), (14, .ifCond .ne 5, [19]), (17, .iconst 0, []), (18, .ireturn, []), (19, .aload_n 0, []), (20, .getfield 158, [12, 64]), (23, .bipush 42, []), (25, .iload_n 1, []), (26, .iadd, []), (27, .iload_n 2, []), (28, .iastore, []), (29, .aload_n 0, []), (30, .getfield 158, [12, 64]), (33, .bipush 48, []), (35, .iload_n 1, []), (36, .iadd, []), (37, .iload_n 3, []), (38, .iastore, []), (39, .iconst 1, []), (40, .ireturn, [])]
/-- SleepWorkModel.work(II)Z -/
def k_c210 : List (Nat × Instr × List Nat) := [(0, .aload_n 0, []), (1, .iload_n 1, []), (2, .iload_n 2, []), (3, .invokevirtual 440, [2, 183, 2, 12]), (6, .ifCond .eq 12, [18]), (9, .aload_n 0, []), (10, .getfield 158, [12, 64]), (13, .iload_n 1, []), (14, .iaload, []), (15, .ifCond .ne 5, [20]), (18, .iconst 0, []), (19, .ireturn, []), (20, .aload_n 0, []), (21, .invokevirtual 437, [2, 188, 0, 12]), (24, .aload_n 0, []), (25, .getfield 161, [12, 65]), (28, .iload_n 1, []), (29, .dup2, []), (30, .iaload, []), (31, .iconst 1, []), (32, .isub, []), (33, .iastore, []), (34, .aload_n 0, []), (35, .iload_n 1, []), (36, .iload_n 2, []), (37, .invokevirtual 403, [2, 195, 2, 12]), (40, .iconst 0, []), (41, .istore_n 3, []), (42, .iload_n 3, []), (43, .bipush 100, []), (45, .if_icmp .ge 21, [66]), (48, .aload_n 0, []), (49, .getfield 158, [12, 64]), (52, .iload_n 3, []), (53, .aload_n 0, []), (54, .getfield 161, [12, 65]), (57, .iload_n 3, []), (58, .iaload, []), (59, .iastore, []), (60, .iinc 3 1, []), (63, .goto (-21), [42]), (66, .iconst 1, []), (67, .ireturn, [])]
/-- SleepWorkModel.lay(II)Z -/
def k_c211 : List (Nat × Instr × List Nat) := [(0, .aload_n 0, []), (1, .iload_n 1, []), (2, .invokevirtual 449, [2, 186, 1, 12]), (5, .ifCond .eq 11, [16]), (8, .aload_n 0, []), (9, .iload_n 2, []), (10, .invokevirtual 452, [2, 185, 1, 12]), (13, .ifCond .ne 5, [18]), (16, .iconst 0, []), (17, .ireturn, []), (18, .aload_n 0, []), (19, .getfield 158, [12, 64]), (22, .bipush 72, []), (24, .iload_n 1, []), (25, .iadd, []), (26, .iload_n 2, []), (27, .iastore, []), (28, .iconst 1, []), (29, .ireturn, [])]
/-- SleepWorkModel.give(II)Z -/
def k_c212 : List (Nat × Instr × List Nat) := [(0, .aload_n 0, []), (1, .iload_n 1, []), (2, .invokevirtual 449, [2, 186, 1, 12]), (5, .ifCond .eq 11, [16]), (8, .aload_n 0, []), (9, .iload_n 2, []), (10, .invokevirtual 446, [2, 184, 1, 12]), (13, .ifCond .ne 5, [18]), (16, .iconst 0, []), (17, .ireturn, []), (18, .aload_n 0, []), (19, .getfield 158, [12, 64]), (22, .bipush 72, []), (24, .iload_n 1, []), (25, .iadd, []), (26, .bipush 100, []), (28, .iload_n 2, []), (29, .iadd, []), (30, .iastore, []), (31, .iconst 1, []), (32, .ireturn, [])]
/-- SleepWorkModel.bar(IZ)Z -/
def k_c213 : List (Nat × Instr × List Nat) := [(0, .iload_n 1, []), (1, .iconst 0, []), (2, .aload_n 0, []), (3, .getfield 52, [12, 25]), (6, .aload_n 0, []), (7, .getfield 278, [12, 18]), (10, .iaload, []), (11, .iconst 1, []), (12, .isub, []), (13, .invokestatic 380, [1, 177, 3]), (16, .ifCond .ne 5, [21]), (19, .iconst 0, []), (20, .ireturn, []), (21, .aload_n 0, []), (22, .getfield 158, [12, 64]), (25, .bipush 78, []), (27, .iload_n 2, []), (28, .ifCond .eq 17, [45]), (31, .aload_n 0, []), (32, .getfield 158, [12, 64]), (35, .bipush 78, []), (37, .iaload, []), (38, .iconst 1, []), (39, .iload_n 1, []), (40, .ishl, []), (41, .ior, []), (42, .goto 16, [58]), (45, .aload_n 0, []), (46, .getfield 158, [12, 64]), (49, .bipush 78, []), (51, .iaload, []), (52, .iconst 1, []), (53, .iload_n 1, []), (54, .ishl, []), (55, .iconst (-1), []), (56, .ixor, []), (57, .iand, []), (58, .iastore, []), (59, .iconst 1, []), (60, .ireturn, [])]
/-- SleepWorkModel.night()I -/
def k_c214 : List (Nat × Instr × List Nat) := [(0, .aload_n 0, []), (1, .getfield 299, [12, 74]), (4, .bipush 20, []), (6, .if_icmp .ne 43, [49]), (9, .iconst 0, []), (10, .istore_n 1, []), (11, .iload_n 1, []), (12, .sipush 1900, []), (15, .if_icmp .ge 24, [39]), (18, .aload_n 0, []), (19, .getfield 188, [12, 75]), (22, .iload_n 1, []), (23, .aload_n 0, []), (24, .getfield 188, [12, 75]), (27, .iload_n 1, []), (28, .bipush 100, []), (30, .iadd, []), (31, .iaload, []), (32, .iastore, []), (33, .iinc 1 1, []), (36, .goto (-25), [11]), (39, .aload_n 0, []), (40, .dup, []), (41, .getfield 299, [12, 74]), (44, .iconst 1, []), (45, .isub, []), (46, .putfield 299, [12, 74]), (49, .iconst 0, []), (50, .istore_n 1, []), (51, .iload_n 1, []), (52, .bipush 100, []), (54, .if_icmp .ge 29, [83]), (57, .aload_n 0, []), (58, .getfield 188, [12, 75]), (61, .bipush 100, []), (63, .aload_n 0, []), (64, .getfield 299, [12, 74]), (67, .imul, []), (68, .iload_n 1, []), (69, .iadd, []), (70, .aload_n 0, []), (71, .getfield 158, [12, 64]), (74, .iload_n 1, []), (75, .iaload, []), (76, .iastore, []), (77, .iinc 1 1, []), (80, .goto (-29), [51]), (83, .aload_n 0, []), (84, .dup, []), (85, .getfield 299, [12, 74]), (88, .iconst 1, []), (89, .iadd, []), (90, .putfield 299, [12, 74]), (93, .aload_n 0, []), (94, .invokevirtual 437, [2, 188, 0, 12]), (97, .aload_n 0, []), (98, .invokevirtual 458, [2, 201, 0, 12]), (101, .istore_n 1, []), (102, .iconst 0, []), (103, .istore_n 2, []), (104, .iload_n 2, []), (105, .bipush 100, []), (107, .if_icmp .ge 21, [128]), (110, .aload_n 0, []), (111, .getfield 158, [12, 64]), (114, .iload_n 2, []), (115, .aload_n 0, []), (116, .getfield 161, [12, 65]), (119, .iload_n 2, []), (120, .iaload, []), (121, .iastore, []), (122, .iinc 2 1, []), (125, .goto (-21), [104]), (128, .iload_n 1, []), (129, .ireturn, [])]
/-- SleepWorkModel.undo()Z -/
def k_c215 : List (Nat × Instr × List Nat) := [(0, .aload_n 0, []), (1, .getfield 299, [12, 74]), (4, .ifCond .ne 5, [9]), (7, .iconst 0, []), (8, .ireturn, []), (9, .aload_n 0, []), (10, .dup, []), (11, .getfield 299, [12, 74]), (14, .iconst 1, []), (15, .isub, []), (16, .putfield 299, [12, 74]), (19, .iconst 0, []), (20, .istore_n 1, []), (21, .iload_n 1, []), (22, .bipush 100, []), (24, .if_icmp .ge 29, [53]), (27, .aload_n 0, []), (28, .getfield 158, [12, 64]), (31, .iload_n 1, []), (32, .aload_n 0, []), (33, .getfield 188, [12, 75]), (36, .bipush 100, []), (38, .aload_n 0, []), (39, .getfield 299, [12, 74]), (42, .imul, []), (43, .iload_n 1, []), (44, .iadd, []), (45, .iaload, []), (46, .iastore, []), (47, .iinc 1 1, []), (50, .goto (-29), [21]), (53, .iconst 1, []), (54, .ireturn, [])]
/-- SleepWorkModel.gain()I -/
def k_c216 : List (Nat × Instr × List Nat) := [(0, .aload_n 0, []), (1, .invokevirtual 437, [2, 188, 0, 12]), (4, .aload_n 0, []), (5, .invokevirtual 458, [2, 201, 0, 12]), (8, .ireturn, [])]
/-- SleepWorkModel.leaves(II)Z -/
def k_c217 : List (Nat × Instr × List Nat) := [(0, .iload_n 2, []), (1, .iconst 1, []), (2, .isub, []), (3, .istore_n 3, []), (4, .iconst 0, []), (5, .istore 4, []), (7, .iload_n 3, []), (8, .ifCond .lt 37, [45]), (11, .iload 4, []), (13, .aload_n 0, []), (14, .invokevirtual 377, [2, 178, 0, 12]), (17, .if_icmp .ge 28, [45]), (20, .iload_n 3, []), (21, .aload_n 0, []), (22, .iload 4, []), (24, .invokevirtual 387, [2, 180, 1, 12]), (27, .if_icmp .lt 18, [45]), (30, .iload_n 3, []), (31, .aload_n 0, []), (32, .iload 4, []), (34, .invokevirtual 387, [2, 180, 1, 12]), (37, .isub, []), (38, .istore_n 3, []), (39, .iinc 4 1, []), (42, .goto (-35), [7]), (45, .iload 4, []), (47, .aload_n 0, []), (48, .invokevirtual 377, [2, 178, 0, 12]), (51, .if_icmp .ne 9, [60]), (54, .iload_n 3, []), (55, .ifCond .lt 5, [60]), (58, .iconst 0, []), (59, .ireturn, []), (60, .aload_n 0, []), (61, .getfield 161, [12, 65]), (64, .bipush 42, []), (66, .iload_n 1, []), (67, .iadd, []), (68, .iload_n 3, []), (69, .ifCond .ge 7, [76]), (72, .iconst (-1), []), (73, .goto 5, [78]), (76, .iload 4, []), (78, .iastore, []), (79, .aload_n 0, []), (80, .getfield 161, [12, 65]), (83, .bipush 48, []), (85, .iload_n 1, []), (86, .iadd, []), (87, .iload_n 3, []), (88, .ifCond .ge 7, [95]), (91, .iconst (-1), []), (92, .goto 4, [96]), (95, .iload_n 3, []), (96, .iastore, []), (97, .iconst 1, []), (98, .ireturn, [])]
/-- SleepWorkModel.options()I -/
def k_c218 : List (Nat × Instr × List Nat) := [(0, .iconst 1, []), (1, .istore_n 1, []), (2, .iconst 0, []), (3, .istore_n 2, []), (4, .iload_n 2, []), (5, .aload_n 0, []), (6, .invokevirtual 377, [2, 178, 0, 12]), (9, .if_icmp .ge 17, [26]), (12, .iload_n 1, []), (13, .aload_n 0, []), (14, .iload_n 2, []), (15, .invokevirtual 387, [2, 180, 1, 12]), (18, .iadd, []), (19, .istore_n 1, []), (20, .iinc 2 1, []), (23, .goto (-19), [4]), (26, .iload_n 1, []), (27, .ireturn, [])]
/-- SleepWorkModel.codeOf(II)I -/
def k_c219 : List (Nat × Instr × List Nat) := [(0, .aload_n 0, []), (1, .iload_n 1, []), (2, .iload_n 2, []), (3, .invokevirtual 461, [2, 217, 2, 12]), (6, .ifCond .eq 40, [46]), (9, .aload_n 0, []), (10, .getfield 161, [12, 65]), (13, .bipush 42, []), (15, .iload_n 1, []), (16, .iadd, []), (17, .iaload, []), (18, .ifCond .lt 28, [46]), (21, .bipush 10, []), (23, .aload_n 0, []), (24, .getfield 161, [12, 65]), (27, .bipush 42, []), (29, .iload_n 1, []), (30, .iadd, []), (31, .iaload, []), (32, .imul, []), (33, .aload_n 0, []), (34, .getfield 161, [12, 65]), (37, .bipush 48, []), (39, .iload_n 1, []), (40, .iadd, []), (41, .iaload, []), (42, .iadd, []), (43, .goto 5, [48]), (46, .bipush (-2), []), (48, .ireturn, [])]
/-- SleepWorkModel.gainBy(II)I -/
def k_c220 : List (Nat × Instr × List Nat) := [(0, .aload_n 0, []), (1, .invokevirtual 437, [2, 188, 0, 12]), (4, .aload_n 0, []), (5, .iload_n 1, []), (6, .iload_n 2, []), (7, .invokevirtual 461, [2, 217, 2, 12]), (10, .pop, []), (11, .aload_n 0, []), (12, .invokevirtual 458, [2, 201, 0, 12]), (15, .ireturn, [])]
/-- SleepWorkModel.bestOption(I)I -/
def k_c221 : List (Nat × Instr × List Nat) := [(0, .iconst 0, []), (1, .istore_n 2, []), (2, .aload_n 0, []), (3, .aload_n 0, []), (4, .iload_n 1, []), (5, .iconst 0, []), (6, .invokevirtual 464, [2, 220, 2, 12]), (9, .putfield 467, [12, 76]), (12, .iconst 1, []), (13, .istore_n 3, []), (14, .iload_n 3, []), (15, .aload_n 0, []), (16, .invokevirtual 470, [2, 218, 0, 12]), (19, .if_icmp .ge 37, [56]), (22, .aload_n 0, []), (23, .iload_n 1, []), (24, .iload_n 3, []), (25, .invokevirtual 464, [2, 220, 2, 12]), (28, .istore 4, []), (30, .iload 4, []), (32, .aload_n 0, []), (33, .getfield 467, [12, 76]), (36, .if_icmp .gt 6, [42]), (39, .goto 11, [50]), (42, .iload_n 3, []), (43, .istore_n 2, []), (44, .aload_n 0, []), (45, .iload 4, []), (47, .putfield 467, [12, 76]), (50, .iinc 3 1, []), (53, .goto (-39), [14]), (56, .iload_n 2, []), (57, .ireturn, [])]
/-- SleepWorkModel.best(II)I -/
def k_c222 : List (Nat × Instr × List Nat) := [(0, .aload_n 0, []), (1, .iload_n 1, []), (2, .invokevirtual 446, [2, 184, 1, 12]), (5, .ifCond .eq 12, [17]), (8, .iload_n 2, []), (9, .iconst 0, []), (10, .iconst 1, []), (11, .invokestatic 380, [1, 177, 3]), (14, .ifCond .ne 5, [19]), (17, .iconst (-1), []), (18, .ireturn, []), (19, .aload_n 0, []), (20, .iload_n 1, []), (21, .invokevirtual 473, [2, 221, 1, 12]), (24, .istore_n 3, []), (25, .iload_n 2, []), (26, .ifCond .ne 10, [36]), (29, .aload_n 0, []), (30, .getfield 467, [12, 76]), (33, .goto 9, [42]), (36, .aload_n 0, []), (37, .iload_n 1, []), (38, .iload_n 3, []), (39, .invokevirtual 476, [2, 219, 2, 12]), (42, .ireturn, [])]
/-- SleepWorkModel.bestOfTwo(III)I -/
def k_c223 : List (Nat × Instr × List Nat) := [(0, .aload_n 0, []), (1, .iload_n 1, []), (2, .invokevirtual 446, [2, 184, 1, 12]), (5, .ifCond .eq 25, [30]), (8, .aload_n 0, []), (9, .iload_n 2, []), (10, .invokevirtual 446, [2, 184, 1, 12]), (13, .ifCond .eq 17, [30]), (16, .iload_n 1, []), (17, .iload_n 2, []), (18, .if_icmp .eq 12, [30]), (21, .iload_n 3, []), (22, .iconst 0, []), (23, .iconst 2, []), (24, .invokestatic 380, [1, 177, 3]), (27, .ifCond .ne 5, [32]), (30, .iconst (-1), []), (31, .ireturn, []), (32, .iconst (-1), []), (33, .istore 4, []), (35, .iconst 0, []), (36, .istore 5, []), (38, .iconst 0, []), (39, .istore 6, []), (41, .iconst 0, []), (42, .istore 7, []), (44, .iload 7, []), (46, .aload_n 0, []), (47, .invokevirtual 470, [2, 218, 0, 12]), (50, .if_icmp .ge 80, [130]), (53, .iconst 0, []), (54, .istore 8, []), (56, .iload 8, []), (58, .aload_n 0, []), (59, .invokevirtual 470, [2, 218, 0, 12]), (62, .if_icmp .ge 62, [124]), (65, .aload_n 0, []), (66, .invokevirtual 437, [2, 188, 0, 12]), (69, .aload_n 0, []), (70, .iload_n 1, []), (71, .iload 7, []), (73, .invokevirtual 461, [2, 217, 2, 12]), (76, .pop, []), (77, .aload_n 0, []), (78, .iload_n 2, []), (79, .iload 8, []), (81, .invokevirtual 461, [2, 217, 2, 12]), (84, .pop, []), (85, .aload_n 0, []), (86, .invokevirtual 458, [2, 201, 0, 12]), (89, .istore 9, []), (91, .iload 4, []), (93, .ifCond .lt 13, [106]), (96, .iload 9, []), (98, .iload 6, []), (100, .if_icmp .gt 6, [106]), (103, .goto 15, [118]), (106, .iload 7, []), (108, .istore 4, []), (110, .iload 8, []), (112, .istore 5, []), (114, .iload 9, []), (116, .istore 6, []), (118, .iinc 8 1, []), (121, .goto (-65), [56]), (124, .iinc 7 1, []), (127, .goto (-83), [44]), (130, .iload_n 3, []), (131, .ifCond .ne 8, [139]), (134, .iload 6, []), (136, .goto 25, [161]), (139, .iload_n 3, []), (140, .iconst 1, []), (141, .if_icmp .ne 13, [154]), (144, .aload_n 0, []), (145, .iload_n 1, []), (146, .iload 4, []), (148, .invokevirtual 476, [2, 219, 2, 12]), (151, .goto 10, [161]), (154, .aload_n 0, []), (155, .iload_n 2, []), (156, .iload 5, []), (158, .invokevirtual 476, [2, 219, 2, 12]), (161, .ireturn, [])]
/-- SleepWorkModel.hire(I)I -/
def k_c224 : List (Nat × Instr × List Nat) := [(0, .aload_n 0, []), (1, .iload_n 1, []), (2, .invokevirtual 446, [2, 184, 1, 12]), (5, .ifCond .ne 7, [12]), (8, .ldc_w 479, [0, 4293967296]), (11, .ireturn, []), (12, .aload_n 0, []), (13, .iload_n 1, []), (14, .invokevirtual 473, [2, 221, 1, 12]), (17, .pop, []), (18, .aload_n 0, []), (19, .getfield 467, [12, 76]), (22, .aload_n 0, []), (23, .iload_n 1, []), (24, .iconst 0, []), (25, .invokevirtual 464, [2, 220, 2, 12]), (28, .isub, []), (29, .ireturn, [])]
/-- SleepWorkModel.hide(II)I -/
def k_c225 : List (Nat × Instr × List Nat) := [(0, .aload_n 0, []), (1, .iload_n 1, []), (2, .invokevirtual 449, [2, 186, 1, 12]), (5, .ifCond .eq 24, [29]), (8, .iload_n 2, []), (9, .iconst 0, []), (10, .iconst 1, []), (11, .invokestatic 380, [1, 177, 3]), (14, .ifCond .eq 15, [29]), (17, .aload_n 0, []), (18, .getfield 49, [12, 24]), (21, .aload_n 0, []), (22, .getfield 278, [12, 18]), (25, .iaload, []), (26, .ifCond .ne 5, [31]), (29, .iconst (-1), []), (30, .ireturn, []), (31, .iconst (-1), []), (32, .istore_n 3, []), (33, .iconst 0, []), (34, .istore 4, []), (36, .iconst 0, []), (37, .istore 5, []), (39, .iload 5, []), (41, .aload_n 0, []), (42, .getfield 49, [12, 24]), (45, .aload_n 0, []), (46, .getfield 278, [12, 18]), (49, .iaload, []), (50, .aload_n 0, []), (51, .invokevirtual 390, [2, 179, 0, 12]), (54, .iadd, []), (55, .if_icmp .ge 87, [142]), (58, .iload 5, []), (60, .aload_n 0, []), (61, .getfield 49, [12, 24]), (64, .aload_n 0, []), (65, .getfield 278, [12, 18]), (68, .iaload, []), (69, .if_icmp .ge 8, [77]), (72, .iload 5, []), (74, .goto 18, [92]), (77, .bipush 100, []), (79, .iload 5, []), (81, .iadd, []), (82, .aload_n 0, []), (83, .getfield 49, [12, 24]), (86, .aload_n 0, []), (87, .getfield 278, [12, 18]), (90, .iaload, []), (91, .isub, []), (92, .istore 6, []), (94, .aload_n 0, []), (95, .invokevirtual 437, [2, 188, 0, 12]), (98, .aload_n 0, []), (99, .getfield 161, [12, 65]), (102, .bipush 72, []), (104, .iload_n 1, []), (105, .iadd, []), (106, .iload 6, []), (108, .iastore, []), (109, .aload_n 0, []), (110, .invokevirtual 458, [2, 201, 0, 12]), (113, .istore 7, []), (115, .iload_n 3, []), (116, .ifCond .lt 13, [129]), (119, .iload 7, []), (121, .iload 4, []), (123, .if_icmp .gt 6, [129]), (126, .goto 10, [136]), (129, .iload 6, []), (131, .istore_n 3, []), (132, .iload 7, []), (134, .istore 4, []), (136, .iinc 5 1, []), (139, .goto (-100), [39]), (142, .iload_n 2, []), (143, .ifCond .ne 8, [151]), (146, .iload 4, []), (148, .goto 4, [152]), (151, .iload_n 3, []), (152, .ireturn, [])]
/-- SleepWorkModel.bits(I)I -/
def k_c226 : List (Nat × Instr × List Nat) := [(0, .iconst 0, []), (1, .istore_n 1, []), (2, .iconst 0, []), (3, .istore_n 2, []), (4, .iload_n 2, []), (5, .bipush 12, []), (7, .if_icmp .ge 17, [24]), (10, .iload_n 1, []), (11, .iload_n 0, []), (12, .iload_n 2, []), (13, .ishr, []), (14, .iconst 1, []), (15, .iand, []), (16, .iadd, []), (17, .istore_n 1, []), (18, .iinc 2 1, []), (21, .goto (-17), [4]), (24, .iload_n 1, []), (25, .ireturn, [])]
/-- SleepWorkModel.bars(I)I -/
def k_c227 : List (Nat × Instr × List Nat) := [(0, .iload_n 1, []), (1, .iconst 0, []), (2, .iconst 1, []), (3, .invokestatic 380, [1, 177, 3]), (6, .ifCond .ne 5, [11]), (9, .iconst (-1), []), (10, .ireturn, []), (11, .iconst (-1), []), (12, .istore_n 2, []), (13, .iconst 0, []), (14, .istore_n 3, []), (15, .iconst 0, []), (16, .istore 4, []), (18, .iload 4, []), (20, .iconst 1, []), (21, .aload_n 0, []), (22, .getfield 52, [12, 25]), (25, .aload_n 0, []), (26, .getfield 278, [12, 18]), (29, .iaload, []), (30, .ishl, []), (31, .if_icmp .ge 65, [96]), (34, .aload_n 0, []), (35, .invokevirtual 437, [2, 188, 0, 12]), (38, .aload_n 0, []), (39, .getfield 161, [12, 65]), (42, .bipush 78, []), (44, .iload 4, []), (46, .iastore, []), (47, .aload_n 0, []), (48, .invokevirtual 458, [2, 201, 0, 12]), (51, .istore 5, []), (53, .iload_n 2, []), (54, .ifCond .lt 30, [84]), (57, .iload 5, []), (59, .iload_n 3, []), (60, .if_icmp .lt 30, [90]), (63, .iload 5, []), (65, .iload_n 3, []), (66, .if_icmp .ne 18, [84]), (69, .iload 4, []), (71, .invokestatic 480, [1, 226, 1]), (74, .iload_n 2, []), (75, .invokestatic 480, [1, 226, 1]), (78, .if_icmp .lt 6, [84]), (81, .goto 9, [90]), (84, .iload 4, []), (86, .istore_n 2, []), (87, .iload 5, []), (89, .istore_n 3, []), (90, .iinc 4 1, []), (93, .goto (-75), [18]), (96, .iload_n 1, []), (97, .ifCond .ne 7, [104]), (100, .iload_n 3, []), (101, .goto 4, [105]), (104, .iload_n 2, []), (105, .ireturn, [])]
/-- SleepWorkModel.where(II)I -/
def k_c228 : List (Nat × Instr × List Nat) := [(0, .aload_n 0, []), (1, .iload_n 1, []), (2, .invokevirtual 446, [2, 184, 1, 12]), (5, .ifCond .eq 20, [25]), (8, .iload_n 2, []), (9, .iconst 0, []), (10, .aload_n 0, []), (11, .getfield 140, [12, 55]), (14, .aload_n 0, []), (15, .getfield 278, [12, 18]), (18, .iaload, []), (19, .invokestatic 380, [1, 177, 3]), (22, .ifCond .ne 5, [27]), (25, .iconst (-1), []), (26, .ireturn, []), (27, .aload_n 0, []), (28, .invokevirtual 437, [2, 188, 0, 12]), (31, .aload_n 0, []), (32, .invokevirtual 419, [2, 192, 0, 12]), (35, .aload_n 0, []), (36, .getfield 107, [12, 43]), (39, .bipush 6, []), (41, .aload_n 0, []), (42, .getfield 278, [12, 18]), (45, .imul, []), (46, .iload_n 1, []), (47, .iadd, []), (48, .iaload, []), (49, .istore_n 3, []), (50, .aload_n 0, []), (51, .getfield 161, [12, 65]), (54, .bipush 42, []), (56, .iload_n 1, []), (57, .iadd, []), (58, .iaload, []), (59, .ifCond .ge 5, [64]), (62, .iload_n 3, []), (63, .ireturn, []), (64, .aload_n 0, []), (65, .getfield 77, [12, 33]), (68, .bipush 6, []), (70, .aload_n 0, []), (71, .getfield 278, [12, 18]), (74, .imul, []), (75, .aload_n 0, []), (76, .getfield 161, [12, 65]), (79, .bipush 42, []), (81, .iload_n 1, []), (82, .iadd, []), (83, .iaload, []), (84, .iadd, []), (85, .iaload, []), (86, .istore 4, []), (88, .aload_n 0, []), (89, .getfield 164, [12, 66]), (92, .bipush 8, []), (94, .iload_n 3, []), (95, .imul, []), (96, .iload 4, []), (98, .iadd, []), (99, .iaload, []), (100, .iload_n 2, []), (101, .if_icmp .gt 8, [109]), (104, .iload 4, []), (106, .goto 4, [110]), (109, .iload_n 3, []), (110, .ireturn, [])]
/-- SleepWorkModel.strokes(II)I -/
def k_c229 : List (Nat × Instr × List Nat) := [(0, .aload_n 0, []), (1, .iload_n 1, []), (2, .invokevirtual 446, [2, 184, 1, 12]), (5, .ifCond .eq 20, [25]), (8, .iload_n 2, []), (9, .iconst 0, []), (10, .aload_n 0, []), (11, .getfield 140, [12, 55]), (14, .aload_n 0, []), (15, .getfield 278, [12, 18]), (18, .iaload, []), (19, .invokestatic 380, [1, 177, 3]), (22, .ifCond .ne 5, [27]), (25, .iconst (-1), []), (26, .ireturn, []), (27, .aload_n 0, []), (28, .invokevirtual 437, [2, 188, 0, 12]), (31, .aload_n 0, []), (32, .iload_n 2, []), (33, .invokevirtual 434, [2, 200, 1, 12]), (36, .aload_n 0, []), (37, .getfield 182, [12, 72]), (40, .iload_n 1, []), (41, .iaload, []), (42, .ireturn, [])]
/-- SleepWorkModel.tell(III)I -/
def k_c230 : List (Nat × Instr × List Nat) := [(0, .aload_n 0, []), (1, .getfield 302, [12, 77]), (4, .bipush 30, []), (6, .if_icmp .eq 23, [29]), (9, .aload_n 0, []), (10, .iload_n 1, []), (11, .iload_n 2, []), (12, .invokevirtual 440, [2, 183, 2, 12]), (15, .ifCond .eq 14, [29]), (18, .iload_n 3, []), (19, .iconst 0, []), (20, .sipush 999, []), (23, .invokestatic 380, [1, 177, 3]), (26, .ifCond .ne 5, [31]), (29, .iconst (-1), []), (30, .ireturn, []), (31, .aload_n 0, []), (32, .getfield 191, [12, 78]), (35, .aload_n 0, []), (36, .getfield 302, [12, 77]), (39, .iload_n 1, []), (40, .iastore, []), (41, .aload_n 0, []), (42, .getfield 194, [12, 79]), (45, .aload_n 0, []), (46, .getfield 302, [12, 77]), (49, .iload_n 2, []), (50, .iastore, []), (51, .aload_n 0, []), (52, .getfield 197, [12, 80]), (55, .aload_n 0, []), (56, .getfield 302, [12, 77]), (59, .iload_n 3, []), (60, .iastore, []), (61, .aload_n 0, []), (62, .dup, []), (63, .getfield 302, [12, 77]), (66, .iconst 1, []), (67, .iadd, []), (68, .putfield 302, [12, 77]), (71, .aload_n 0, []), (72, .getfield 302, [12, 77]), (75, .iconst 1, []), (76, .isub, []), (77, .ireturn, [])]
/-- SleepWorkModel.forget()I -/
def k_c231 : List (Nat × Instr × List Nat) := [(0, .aload_n 0, []), (1, .getfield 302, [12, 77]), (4, .istore_n 1, []), (5, .aload_n 0, []), (6, .iconst 0, []), (7, .putfield 302, [12, 77]), (10, .iload_n 1, []), (11, .ireturn, [])]
/-- SleepWorkModel.isSo(I)Z -/
def k_c232 : List (Nat × Instr × List Nat) := [(0, .aload_n 0, []), (1, .invokevirtual 458, [2, 201, 0, 12]), (4, .pop, []), (5, .iconst 0, []), (6, .istore_n 2, []), (7, .iload_n 2, []), (8, .iload_n 1, []), (9, .if_icmp .ge 44, [53]), (12, .aload_n 0, []), (13, .getfield 161, [12, 65]), (16, .bipush 6, []), (18, .bipush 6, []), (20, .aload_n 0, []), (21, .getfield 191, [12, 78]), (24, .iload_n 2, []), (25, .iaload, []), (26, .imul, []), (27, .iadd, []), (28, .aload_n 0, []), (29, .getfield 194, [12, 79]), (32, .iload_n 2, []), (33, .iaload, []), (34, .iadd, []), (35, .iaload, []), (36, .aload_n 0, []), (37, .getfield 197, [12, 80]), (40, .iload_n 2, []), (41, .iaload, []), (42, .if_icmp .eq 5, [47]), (45, .iconst 0, []), (46, .ireturn, []), (47, .iinc 2 1, []), (50, .goto (-43), [7]), (53, .iconst 1, []), (54, .ireturn, [])]
/-- SleepWorkModel.fits(III)I -/
def k_c233 : List (Nat × Instr × List Nat) := [(0, .aload_n 0, []), (1, .iload_n 1, []), (2, .invokevirtual 446, [2, 184, 1, 12]), (5, .ifCond .eq 20, [25]), (8, .iload_n 2, []), (9, .iconst 0, []), (10, .aload_n 0, []), (11, .getfield 302, [12, 77]), (14, .invokestatic 380, [1, 177, 3]), (17, .ifCond .eq 8, [25]), (20, .iload_n 3, []), (21, .iconst (-1), []), (22, .if_icmp .ge 5, [27]), (25, .iconst (-1), []), (26, .ireturn, []), (27, .iconst 0, []), (28, .istore 4, []), (30, .iconst 0, []), (31, .istore 5, []), (33, .iload 5, []), (35, .aload_n 0, []), (36, .invokevirtual 470, [2, 218, 0, 12]), (39, .if_icmp .ge 49, [88]), (42, .aload_n 0, []), (43, .invokevirtual 437, [2, 188, 0, 12]), (46, .aload_n 0, []), (47, .iload_n 1, []), (48, .iload 5, []), (50, .invokevirtual 461, [2, 217, 2, 12]), (53, .pop, []), (54, .aload_n 0, []), (55, .iload_n 2, []), (56, .invokevirtual 483, [2, 232, 1, 12]), (59, .ifCond .ne 6, [65]), (62, .goto 20, [82]), (65, .iload 4, []), (67, .iload_n 3, []), (68, .if_icmp .ne 11, [79]), (71, .aload_n 0, []), (72, .iload_n 1, []), (73, .iload 5, []), (75, .invokevirtual 476, [2, 219, 2, 12]), (78, .ireturn, []), (79, .iinc 4 1, []), (82, .iinc 5 1, []), (85, .goto (-52), [33]), (88, .iload_n 3, []), (89, .iconst (-1), []), (90, .if_icmp .ne 8, [98]), (93, .iload 4, []), (95, .goto 4, [99]), (98, .iconst (-1), []), (99, .ireturn, [])]
/-- SleepWorkModel.isSuspect(II)Z -/
def k_c234 : List (Nat × Instr × List Nat) := [(0, .iconst 0, []), (1, .istore_n 3, []), (2, .iload_n 3, []), (3, .aload_n 0, []), (4, .invokevirtual 470, [2, 218, 0, 12]), (7, .if_icmp .ge 75, [82]), (10, .aload_n 0, []), (11, .invokevirtual 437, [2, 188, 0, 12]), (14, .aload_n 0, []), (15, .iload_n 1, []), (16, .iload_n 3, []), (17, .invokevirtual 461, [2, 217, 2, 12]), (20, .pop, []), (21, .aload_n 0, []), (22, .getfield 161, [12, 65]), (25, .bipush 42, []), (27, .iload_n 1, []), (28, .iadd, []), (29, .iaload, []), (30, .aload_n 0, []), (31, .getfield 158, [12, 64]), (34, .bipush 42, []), (36, .iload_n 1, []), (37, .iadd, []), (38, .iaload, []), (39, .if_icmp .ne 27, [66]), (42, .aload_n 0, []), (43, .getfield 161, [12, 65]), (46, .bipush 48, []), (48, .iload_n 1, []), (49, .iadd, []), (50, .iaload, []), (51, .aload_n 0, []), (52, .getfield 158, [12, 64]), (55, .bipush 48, []), (57, .iload_n 1, []), (58, .iadd, []), (59, .iaload, []), (60, .if_icmp .ne 6, [66]), (63, .goto 13, [76]), (66, .aload_n 0, []), (67, .iload_n 2, []), (68, .invokevirtual 483, [2, 232, 1, 12]), (71, .ifCond .eq 5, [76]), (74, .iconst 1, []), (75, .ireturn, []), (76, .iinc 3 1, []), (79, .goto (-77), [2]), (82, .iconst 0, []), (83, .ireturn, [])]
/-- SleepWorkModel.suspects(I)I -/
def k_c235 : List (Nat × Instr × List Nat) := [(0, .iload_n 1, []), (1, .iconst 0, []), (2, .aload_n 0, []), (3, .getfield 302, [12, 77]), (6, .invokestatic 380, [1, 177, 3]), (9, .ifCond .ne 5, [14]), (12, .iconst (-1), []), (13, .ireturn, []), (14, .iconst 0, []), (15, .istore_n 2, []), (16, .iconst 0, []), (17, .istore_n 3, []), (18, .iload_n 3, []), (19, .aload_n 0, []), (20, .invokevirtual 390, [2, 179, 0, 12]), (23, .if_icmp .ge 24, [47]), (26, .aload_n 0, []), (27, .iload_n 3, []), (28, .iload_n 1, []), (29, .invokevirtual 486, [2, 234, 2, 12]), (32, .ifCond .eq 9, [41]), (35, .iload_n 2, []), (36, .iconst 1, []), (37, .iload_n 3, []), (38, .ishl, []), (39, .ior, []), (40, .istore_n 2, []), (41, .iinc 3 1, []), (44, .goto (-26), [18]), (47, .iload_n 2, []), (48, .ireturn, [])]
/-- SleepWorkModel.pairs(III)I -/
def k_c236 : List (Nat × Instr × List Nat) := [(0, .aload_n 0, []), (1, .iload_n 1, []), (2, .invokevirtual 446, [2, 184, 1, 12]), (5, .ifCond .eq 28, [33]), (8, .aload_n 0, []), (9, .iload_n 2, []), (10, .invokevirtual 446, [2, 184, 1, 12]), (13, .ifCond .eq 20, [33]), (16, .iload_n 1, []), (17, .iload_n 2, []), (18, .if_icmp .eq 15, [33]), (21, .iload_n 3, []), (22, .iconst 0, []), (23, .aload_n 0, []), (24, .getfield 302, [12, 77]), (27, .invokestatic 380, [1, 177, 3]), (30, .ifCond .ne 5, [35]), (33, .iconst (-1), []), (34, .ireturn, []), (35, .iconst 0, []), (36, .istore 4, []), (38, .iconst 0, []), (39, .istore 5, []), (41, .iload 5, []), (43, .aload_n 0, []), (44, .invokevirtual 470, [2, 218, 0, 12]), (47, .if_icmp .ge 58, [105]), (50, .iconst 0, []), (51, .istore 6, []), (53, .iload 6, []), (55, .aload_n 0, []), (56, .invokevirtual 470, [2, 218, 0, 12]), (59, .if_icmp .ge 40, [99]), (62, .aload_n 0, []), (63, .invokevirtual 437, [2, 188, 0, 12]), (66, .aload_n 0, []), (67, .iload_n 1, []), (68, .iload 5, []), (70, .invokevirtual 461, [2, 217, 2, 12]), (73, .pop, []), (74, .aload_n 0, []), (75, .iload_n 2, []), (76, .iload 6, []), (78, .invokevirtual 461, [2, 217, 2, 12]), (81, .pop, []), (82, .aload_n 0, []), (83, .iload_n 3, []), (84, .invokevirtual 483, [2, 232, 1, 12]), (87, .ifCond .eq 6, [93]), (90, .iinc 4 1, []), (93, .iinc 6 1, []), (96, .goto (-43), [53]), (99, .iinc 5 1, []), (102, .goto (-61), [41]), (105, .iload 4, []), (107, .ireturn, [])]
/-- SleepWorkModel.hold(I)Z -/
def k_c237 : List (Nat × Instr × List Nat) := [(0, .iload_n 1, []), (1, .iconst 0, []), (2, .iconst 2, []), (3, .invokestatic 380, [1, 177, 3]), (6, .ifCond .ne 5, [11]), (9, .iconst 0, []), (10, .ireturn, []), (11, .aload_n 0, []), (12, .getfield 200, [12, 81]), (15, .iload_n 1, []), (16, .iconst 1, []), (17, .bastore, []), (18, .iconst 0, []), (19, .istore_n 2, []), (20, .iload_n 2, []), (21, .bipush 100, []), (23, .if_icmp .ge 26, [49]), (26, .aload_n 0, []), (27, .getfield 203, [12, 82]), (30, .bipush 100, []), (32, .iload_n 1, []), (33, .imul, []), (34, .iload_n 2, []), (35, .iadd, []), (36, .aload_n 0, []), (37, .getfield 158, [12, 64]), (40, .iload_n 2, []), (41, .iaload, []), (42, .iastore, []), (43, .iinc 2 1, []), (46, .goto (-26), [20]), (49, .iconst 1, []), (50, .ireturn, [])]
/-- SleepWorkModel.restore(I)Z -/
def k_c238 : List (Nat × Instr × List Nat) := [(0, .iload_n 1, []), (1, .iconst 0, []), (2, .iconst 2, []), (3, .invokestatic 380, [1, 177, 3]), (6, .ifCond .eq 12, [18]), (9, .aload_n 0, []), (10, .getfield 200, [12, 81]), (13, .iload_n 1, []), (14, .baload, []), (15, .ifCond .ne 5, [20]), (18, .iconst 0, []), (19, .ireturn, []), (20, .iconst 0, []), (21, .istore_n 2, []), (22, .iload_n 2, []), (23, .bipush 100, []), (25, .if_icmp .ge 26, [51]), (28, .aload_n 0, []), (29, .getfield 158, [12, 64]), (32, .iload_n 2, []), (33, .aload_n 0, []), (34, .getfield 203, [12, 82]), (37, .bipush 100, []), (39, .iload_n 1, []), (40, .imul, []), (41, .iload_n 2, []), (42, .iadd, []), (43, .iaload, []), (44, .iastore, []), (45, .iinc 2 1, []), (48, .goto (-26), [22]), (51, .aload_n 0, []), (52, .iconst 0, []), (53, .putfield 299, [12, 74]), (56, .iconst 1, []), (57, .ireturn, [])]
/-- SleepWorkModel.count(I)I -/
def k_c239 : List (Nat × Instr × List Nat) := [(0, .iload_n 1, []), (1, .tableswitch 205 0 12 #[67, 77, 87, 97, 102, 107, 117, 125, 136, 145, 150, 155, 160], [206, 68, 78, 88, 98, 103, 108, 118, 126, 137, 146, 151, 156, 161]), (68, .aload_n 0, []), (69, .getfield 49, [12, 24]), (72, .aload_n 0, []), (73, .getfield 278, [12, 18]), (76, .iaload, []), (77, .ireturn, []), (78, .aload_n 0, []), (79, .getfield 52, [12, 25]), (82, .aload_n 0, []), (83, .getfield 278, [12, 18]), (86, .iaload, []), (87, .ireturn, []), (88, .aload_n 0, []), (89, .getfield 68, [12, 30]), (92, .aload_n 0, []), (93, .getfield 278, [12, 18]), (96, .iaload, []), (97, .ireturn, []), (98, .aload_n 0, []), (99, .invokevirtual 377, [2, 178, 0, 12]), (102, .ireturn, []), (103, .aload_n 0, []), (104, .invokevirtual 390, [2, 179, 0, 12]), (107, .ireturn, []), (108, .aload_n 0, []), (109, .getfield 140, [12, 55]), (112, .aload_n 0, []), (113, .getfield 278, [12, 18]), (116, .iaload, []), (117, .ireturn, []), (118, .aload_n 0, []), (119, .getfield 158, [12, 64]), (122, .bipush 79, []), (124, .iaload, []), (125, .ireturn, []), (126, .aload_n 0, []), (127, .getfield 158, [12, 64]), (130, .bipush 78, []), (132, .iaload, []), (133, .invokestatic 480, [1, 226, 1]), (136, .ireturn, []), (137, .aload_n 0, []), (138, .invokevirtual 437, [2, 188, 0, 12]), (141, .aload_n 0, []), (142, .invokevirtual 431, [2, 191, 0, 12]), (145, .ireturn, []), (146, .aload_n 0, []), (147, .getfield 210, [12, 2]), (150, .ireturn, []), (151, .aload_n 0, []), (152, .getfield 299, [12, 74]), (155, .ireturn, []), (156, .aload_n 0, []), (157, .getfield 302, [12, 77]), (160, .ireturn, []), (161, .aload_n 0, []), (162, .getfield 200, [12, 81]), (165, .iconst 0, []), (166, .baload, []), (167, .ifCond .eq 7, [174]), (170, .iconst 1, []), (171, .goto 4, [175]), (174, .iconst 0, []), (175, .aload_n 0, []), (176, .getfield 200, [12, 81]), (179, .iconst 1, []), (180, .baload, []), (181, .ifCond .eq 7, [188]), (184, .iconst 1, []), (185, .goto 4, [189]), (188, .iconst 0, []), (189, .iadd, []), (190, .aload_n 0, []), (191, .getfield 200, [12, 81]), (194, .iconst 2, []), (195, .baload, []), (196, .ifCond .eq 7, [203]), (199, .iconst 1, []), (200, .goto 4, [204]), (203, .iconst 0, []), (204, .iadd, []), (205, .ireturn, []), (206, .iconst (-1), []), (207, .ireturn, [])]
/-- java/lang/Character.isValidCodePoint(I)Z -/
def k_c240 : List (Nat × Instr × List Nat) := [(0, .iload_n 0, []), (1, .bipush 16, []), (3, .iushr, []), (4, .istore_n 1, []), (5, .iload_n 1, []), (6, .bipush 17, []), (8, .if_icmp .ge 7, [15]), (11, .iconst 1, []), (12, .goto 4, [16]), (15, .iconst 0, []), (16, .ireturn, [])]
/-- java/lang/Character.highSurrogate(I)C -/
def k_c241 : List (Nat × Instr × List Nat) := [(0, .iload_n 0, []), (1, .bipush 10, []), (3, .iushr, []), (4, .ldc 110, [0, 55232]), (6, .iadd, []), (7, .i2c, []), (8, .ireturn, [])]
/-- java/lang/Character.lowSurrogate(I)C -/
def k_c242 : List (Nat × Instr × List Nat) := [(0, .iload_n 0, []), (1, .sipush 1023, []), (4, .iand, []), (5, .ldc 76, [0, 56320]), (7, .iadd, []), (8, .i2c, []), (9, .ireturn, [])]
/-- java/lang/Integer.bitCount(I)I -/
def k_c243 : List (Nat × Instr × List Nat) := [(0, .iload_n 0, []), (1, .iload_n 0, []), (2, .iconst 1, []), (3, .iushr, []), (4, .ldc_w 265, [0, 1431655765]), (7, .iand, []), (8, .isub, []), (9, .istore_n 0, []), (10, .iload_n 0, []), (11, .ldc_w 266, [0, 858993459]), (14, .iand, []), (15, .iload_n 0, []), (16, .iconst 2, []), (17, .iushr, []), (18, .ldc_w 266, [0, 858993459]), (21, .iand, []), (22, .iadd, []), (23, .istore_n 0, []), (24, .iload_n 0, []), (25, .iload_n 0, []), (26, .iconst 4, []), (27, .iushr, []), (28, .iadd, []), (29, .ldc_w 267, [0, 252645135]), (32, .iand, []), (33, .istore_n 0, []), (34, .iload_n 0, []), (35, .iload_n 0, []), (36, .bipush 8, []), (38, .iushr, []), (39, .iadd, []), (40, .istore_n 0, []), (41, .iload_n 0, []), (42, .iload_n 0, []), (43, .bipush 16, []), (45, .iushr, []), (46, .iadd, []), (47, .istore_n 0, []), (48, .iload_n 0, []), (49, .bipush 63, []), (51, .iand, []), (52, .ireturn, [])]
/-- java/lang/Math.max(II)I -/
def k_c244 : List (Nat × Instr × List Nat) := [(0, .iload_n 0, []), (1, .iload_n 1, []), (2, .if_icmp .lt 7, [9]), (5, .iload_n 0, []), (6, .goto 4, [10]), (9, .iload_n 1, []), (10, .ireturn, [])]
/-- java/lang/Math.min(II)I -/
def k_c245 : List (Nat × Instr × List Nat) := [(0, .iload_n 0, []), (1, .iload_n 1, []), (2, .if_icmp .gt 7, [9]), (5, .iload_n 0, []), (6, .goto 4, [10]), (9, .iload_n 1, []), (10, .ireturn, [])]
/-- java/lang/String.length()I -/
def k_c246 : List (Nat × Instr × List Nat) := [(0, .aload_n 0, []), (1, .getfield 9, [0]), (4, .arraylength, []), (5, .aload_n 0, []), (6, .invokevirtual 335, [6, 250, 0]), (9, .ishr, []), (10, .ireturn, [])]
/-- java/lang/String.charAt(I)C -/
def k_c247 : List (Nat × Instr × List Nat) := [(0, .aload_n 0, []), (1, .invokevirtual 492, [6, 251, 0]), (4, .ifCond .eq 12, [16]), (7, .aload_n 0, []), (8, .getfield 9, [0]), (11, .iload_n 1, []), (12, .invokestatic 495, [1, 254, 2]), (15, .ireturn, []), (16, .aload_n 0, []), (17, .getfield 9, [0]), (20, .iload_n 1, []), (21, .invokestatic 498, [1, 264, 2]), (24, .ireturn, [])]
/-- java/lang/String.indexOf(I)I -/
def k_c248 : List (Nat × Instr × List Nat) := [(0, .aload_n 0, []), (1, .iload_n 1, []), (2, .iconst 0, []), (3, .invokevirtual 633, [6, 249, 2]), (6, .ireturn, [])]
/-- java/lang/String.indexOf(II)I -/
def k_c249 : List (Nat × Instr × List Nat) := [(0, .aload_n 0, []), (1, .invokevirtual 492, [6, 251, 0]), (4, .ifCond .eq 19, [23]), (7, .aload_n 0, []), (8, .getfield 9, [0]), (11, .iload_n 1, []), (12, .iload_n 2, []), (13, .aload_n 0, []), (14, .invokevirtual 505, [6, 246, 0]), (17, .invokestatic 637, [1, 256, 4]), (20, .goto 16, [36]), (23, .aload_n 0, []), (24, .getfield 9, [0]), (27, .iload_n 1, []), (28, .iload_n 2, []), (29, .aload_n 0, []), (30, .invokevirtual 505, [6, 246, 0]), (33, .invokestatic 640, [1, 260, 4]), (36, .ireturn, [])]
/-- java/lang/String.coder()B -/
def k_c250 : List (Nat × Instr × List Nat) := [(0, .getstatic 38, [0]), (3, .ifCond .eq 10, [13]), (6, .aload_n 0, []), (7, .getfield 15, [1]), (10, .goto 4, [14]), (13, .iconst 1, []), (14, .ireturn, [])]
/-- java/lang/String.isLatin1()Z -/
def k_c251 : List (Nat × Instr × List Nat) := [(0, .getstatic 38, [0]), (3, .ifCond .eq 14, [17]), (6, .aload_n 0, []), (7, .getfield 15, [1]), (10, .ifCond .ne 7, [17]), (13, .iconst 1, []), (14, .goto 4, [18]), (17, .iconst 0, []), (18, .ireturn, [])]
/-- java/lang/String.checkIndex(II)V -/
def k_c252 : List (Nat × Instr × List Nat) := [(0, .iload_n 0, []), (1, .iload_n 1, []), (2, .getstatic 1053, [1]), (5, .invokestatic 1059, [1, 269, 3]), (8, .pop, []), (9, .return_, [])]
/-- java/lang/String.checkBoundsBeginEnd(III)V -/
def k_c253 : List (Nat × Instr × List Nat) := [(0, .iload_n 0, []), (1, .iload_n 1, []), (2, .iload_n 2, []), (3, .getstatic 1053, [1]), (6, .invokestatic 1062, [1, 270, 4]), (9, .pop, []), (10, .return_, [])]
/-- java/lang/StringLatin1.charAt([BI)C -/
def k_c254 : List (Nat × Instr × List Nat) := [(0, .iload_n 1, []), (1, .aload_n 0, []), (2, .arraylength, []), (3, .invokestatic 9, [1, 252, 2]), (6, .aload_n 0, []), (7, .iload_n 1, []), (8, .baload, []), (9, .sipush 255, []), (12, .iand, []), (13, .i2c, []), (14, .ireturn, [])]
/-- java/lang/StringLatin1.canEncode(I)Z -/
def k_c255 : List (Nat × Instr × List Nat) := [(0, .iload_n 0, []), (1, .ifCond .lt 14, [15]), (4, .iload_n 0, []), (5, .sipush 255, []), (8, .if_icmp .gt 7, [15]), (11, .iconst 1, []), (12, .goto 4, [16]), (15, .iconst 0, []), (16, .ireturn, [])]
/-- java/lang/StringLatin1.indexOf([BIII)I -/
def k_c256 : List (Nat × Instr × List Nat) := [(0, .iload_n 1, []), (1, .invokestatic 88, [1, 255, 1]), (4, .ifCond .ne 5, [9]), (7, .iconst (-1), []), (8, .ireturn, []), (9, .iload_n 2, []), (10, .iconst 0, []), (11, .invokestatic 92, [7]), (14, .istore_n 2, []), (15, .iload_n 3, []), (16, .aload_n 0, []), (17, .arraylength, []), (18, .invokestatic 38, [8]), (21, .istore_n 3, []), (22, .iload_n 2, []), (23, .iload_n 3, []), (24, .if_icmp .lt 5, [29]), (27, .iconst (-1), []), (28, .ireturn, []), (29, .aload_n 0, []), (30, .iload_n 1, []), (31, .iload_n 2, []), (32, .iload_n 3, []), (33, .invokestatic 95, [1, 257, 4]), (36, .ireturn, [])]
/-- java/lang/StringLatin1.indexOfChar([BIII)I -/
def k_c257 : List (Nat × Instr × List Nat) := [(0, .iload_n 1, []), (1, .i2b, []), (2, .istore 4, []), (4, .iload_n 2, []), (5, .istore 5, []), (7, .iload 5, []), (9, .iload_n 3, []), (10, .if_icmp .ge 21, [31]), (13, .aload_n 0, []), (14, .iload 5, []), (16, .baload, []), (17, .iload 4, []), (19, .if_icmp .ne 6, [25]), (22, .iload 5, []), (24, .ireturn, []), (25, .iinc 5 1, []), (28, .goto (-21), [7]), (31, .iconst (-1), []), (32, .ireturn, [])]
/-- java/lang/StringUTF16.getChar([BI)C -/
def k_c258 : List (Nat × Instr × List Nat) := [(3, .ifCond .ne 25, [28]), (6, .iload_n 1, []), (7, .ifCond .lt 11, [18]), (10, .iload_n 1, []), (11, .aload_n 0, []), (12, .invokestatic 48, [1, 259, 1]), (15, .if_icmp .lt 13, [28]), (21, .dup, []), (28, .iload_n 1, []), (29, .iconst 1, []), (30, .ishl, []), (31, .istore_n 1, []), (32, .aload_n 0, []), (33, .iload_n 1, []), (34, .iinc 1 1, []), (37, .baload, []), (38, .sipush 255, []), (41, .iand, []), (45, .ishl, []), (46, .aload_n 0, []), (47, .iload_n 1, []), (48, .baload, []), (49, .sipush 255, []), (52, .iand, []), (56, .ishl, []), (57, .ior, []), (58, .i2c, []), (59, .ireturn, [])]
/-- java/lang/StringUTF16.length([B)I -/
def k_c259 : List (Nat × Instr × List Nat) := [(0, .aload_n 0, []), (1, .arraylength, []), (2, .iconst 1, []), (3, .ishr, []), (4, .ireturn, [])]
/-- java/lang/StringUTF16.indexOf([BIII)I -/
def k_c260 : List (Nat × Instr × List Nat) := [(0, .iload_n 2, []), (1, .iconst 0, []), (2, .invokestatic 224, [7]), (5, .istore_n 2, []), (6, .iload_n 3, []), (7, .aload_n 0, []), (8, .arraylength, []), (9, .iconst 1, []), (10, .ishr, []), (11, .invokestatic 183, [8]), (14, .istore_n 3, []), (15, .iload_n 2, []), (16, .iload_n 3, []), (17, .if_icmp .lt 5, [22]), (20, .iconst (-1), []), (21, .ireturn, []), (22, .iload_n 1, []), (23, .ldc 227, [0, 65536]), (25, .if_icmp .ge 11, [36]), (28, .aload_n 0, []), (29, .iload_n 1, []), (30, .iload_n 2, []), (31, .iload_n 3, []), (32, .invokestatic 228, [1, 261, 4]), (35, .ireturn, []), (36, .aload_n 0, []), (37, .iload_n 1, []), (38, .iload_n 2, []), (39, .iload_n 3, []), (40, .invokestatic 232, [1, 263, 4]), (43, .ireturn, [])]
/-- java/lang/StringUTF16.indexOfChar([BIII)I -/
def k_c261 : List (Nat × Instr × List Nat) := [(0, .iload_n 2, []), (1, .iload_n 3, []), (2, .aload_n 0, []), (3, .invokestatic 96, [1, 266, 3]), (6, .aload_n 0, []), (7, .iload_n 1, []), (8, .iload_n 2, []), (9, .iload_n 3, []), (10, .invokestatic 244, [1, 262, 4]), (13, .ireturn, [])]
/-- java/lang/StringUTF16.indexOfCharUnsafe([BIII)I -/
def k_c262 : List (Nat × Instr × List Nat) := [(0, .iload_n 2, []), (1, .istore 4, []), (3, .iload 4, []), (5, .iload_n 3, []), (6, .if_icmp .ge 22, [28]), (9, .aload_n 0, []), (10, .iload 4, []), (12, .invokestatic 71, [1, 258, 2]), (15, .iload_n 1, []), (16, .if_icmp .ne 6, [22]), (19, .iload 4, []), (21, .ireturn, []), (22, .iinc 4 1, []), (25, .goto (-22), [3]), (28, .iconst (-1), []), (29, .ireturn, [])]
/-- java/lang/StringUTF16.indexOfSupplementary([BIII)I -/
def k_c263 : List (Nat × Instr × List Nat) := [(0, .iload_n 1, []), (1, .invokestatic 164, [1, 240, 1]), (4, .ifCond .eq 65, [69]), (7, .iload_n 1, []), (8, .invokestatic 157, [1, 241, 1]), (11, .istore 4, []), (13, .iload_n 1, []), (14, .invokestatic 161, [1, 242, 1]), (17, .istore 5, []), (19, .iload_n 2, []), (20, .iload_n 3, []), (21, .aload_n 0, []), (22, .invokestatic 96, [1, 266, 3]), (25, .iload_n 2, []), (26, .istore 6, []), (28, .iload 6, []), (30, .iload_n 3, []), (31, .iconst 1, []), (32, .isub, []), (33, .if_icmp .ge 36, [69]), (36, .aload_n 0, []), (37, .iload 6, []), (39, .invokestatic 71, [1, 258, 2]), (42, .iload 4, []), (44, .if_icmp .ne 19, [63]), (47, .aload_n 0, []), (48, .iload 6, []), (50, .iconst 1, []), (51, .iadd, []), (52, .invokestatic 71, [1, 258, 2]), (55, .iload 5, []), (57, .if_icmp .ne 6, [63]), (60, .iload 6, []), (62, .ireturn, []), (63, .iinc 6 1, []), (66, .goto (-38), [28]), (69, .iconst (-1), []), (70, .ireturn, [])]
/-- java/lang/StringUTF16.charAt([BI)C -/
def k_c264 : List (Nat × Instr × List Nat) := [(0, .iload_n 1, []), (1, .aload_n 0, []), (2, .invokestatic 67, [1, 265, 2]), (5, .aload_n 0, []), (6, .iload_n 1, []), (7, .invokestatic 71, [1, 258, 2]), (10, .ireturn, [])]
/-- java/lang/StringUTF16.checkIndex(I[B)V -/
def k_c265 : List (Nat × Instr × List Nat) := [(0, .iload_n 0, []), (1, .aload_n 1, []), (2, .invokestatic 48, [1, 259, 1]), (5, .invokestatic 414, [1, 252, 2]), (8, .return_, [])]
/-- java/lang/StringUTF16.checkBoundsBeginEnd(II[B)V -/
def k_c266 : List (Nat × Instr × List Nat) := [(0, .iload_n 0, []), (1, .iload_n 1, []), (2, .aload_n 2, []), (3, .invokestatic 48, [1, 259, 1]), (6, .invokestatic 241, [1, 253, 3]), (9, .return_, [])]
/-- java/util/Arrays.fill([JJ)V -/
def k_c267 : List (Nat × Instr × List Nat) := [(0, .iconst 0, []), (1, .istore_n 3, []), (2, .aload_n 0, []), (3, .arraylength, []), (4, .istore 4, []), (6, .iload_n 3, []), (7, .iload 4, []), (9, .if_icmp .ge 13, [22]), (12, .aload_n 0, []), (13, .iload_n 3, []), (14, .lload_n 1, []), (15, .lastore, []), (16, .iinc 3 1, []), (19, .goto (-13), [6]), (22, .return_, [])]
/-- java/util/Arrays.fill([II)V -/
def k_c268 : List (Nat × Instr × List Nat) := [(0, .iconst 0, []), (1, .istore_n 2, []), (2, .aload_n 0, []), (3, .arraylength, []), (4, .istore_n 3, []), (5, .iload_n 2, []), (6, .iload_n 3, []), (7, .if_icmp .ge 13, [20]), (10, .aload_n 0, []), (11, .iload_n 2, []), (12, .iload_n 1, []), (13, .iastore, []), (14, .iinc 2 1, []), (17, .goto (-12), [5]), (20, .return_, [])]
/-- jdk/internal/util/Preconditions.checkIndex(IILjava/util/function/BiFunction;)I -/
def k_c269 : List (Nat × Instr × List Nat) := [(0, .iload_n 0, []), (1, .ifCond .lt 8, [9]), (4, .iload_n 0, []), (5, .iload_n 1, []), (6, .if_icmp .lt 10, [16]), (9, .aload_n 2, []), (10, .iload_n 0, []), (11, .iload_n 1, []), (16, .iload_n 0, []), (17, .ireturn, [])]
/-- jdk/internal/util/Preconditions.checkFromToIndex(IIILjava/util/function/BiFunction;)I -/
def k_c270 : List (Nat × Instr × List Nat) := [(0, .iload_n 0, []), (1, .ifCond .lt 13, [14]), (4, .iload_n 0, []), (5, .iload_n 1, []), (6, .if_icmp .gt 8, [14]), (9, .iload_n 1, []), (10, .iload_n 2, []), (11, .if_icmp .le 11, [22]), (14, .aload_n 3, []), (15, .iload_n 0, []), (16, .iload_n 1, []), (17, .iload_n 2, []), (22, .iload_n 0, []), (23, .ireturn, [])]
def k_c271_0 : List (Nat × Instr × List Nat) := [(0, .new 7, [11]), (3, .dup, []), (4, .invokespecial 9, [3, 98, 0]), (7, .astore_n 1, []), (8, .new 10, [12]), (11, .dup, []), (12, .invokespecial 12, [3, 138, 0]), (15, .astore_n 2, []), (16, .iconst 0, []), (17, .istore_n 3, []), (18, .iload_n 3, []), (19, .aload_n 0, []), (20, .arraylength, []), (21, .bipush 6, []), (23, .isub, []), (24, .if_icmp .gt 1120, [1144]), (27, .aload_n 0, []), (28, .iload_n 3, []), (29, .iaload, []), (30, .bipush 31, []), (32, .iand, []), (33, .tableswitch 1105 0 31 #[143, 206, 229, 242, 255, 288, 331, 364, 387, 420, 463, 496, 529, 562, 611, 624, 637, 650, 683, 726, 749, 782, 805, 838, 871, 914, 927, 970, 993, 1036, 1059, 1082], [1138, 176, 239, 262, 275, 288, 321, 364, 397, 420, 453, 496, 529, 562, 595, 644, 657, 670, 683, 716, 759, 782, 815, 838, 871, 904, 947, 960, 1003, 1026, 1069, 1092, 1115]), (176, .aload_n 1, []), (177, .aload_n 0, []), (178, .iload_n 3, []), (179, .iconst 1, []), (180, .iadd, []), (181, .iaload, []), (182, .aload_n 0, []), (183, .iload_n 3, []), (184, .iconst 2, []), (185, .iadd, []), (186, .iaload, []), (187, .aload_n 0, []), (188, .iload_n 3, []), (189, .iconst 3, []), (190, .iadd, []), (191, .iaload, []), (192, .aload_n 0, []), (193, .iload_n 3, []), (194, .iconst 4, []), (195, .iadd, []), (196, .iaload, []), (197, .aload_n 0, []), (198, .iload_n 3, []), (199, .iconst 5, []), (200, .iadd, []), (201, .iaload, []), (202, .invokevirtual 13, [2, 99, 5, 11]), (205, .aload_n 2, []), (206, .aload_n 0, []), (207, .iload_n 3, []), (208, .iconst 1, []), (209, .iadd, []), (210, .iaload, []), (211, .aload_n 0, []), (212, .iload_n 3, []), (213, .iconst 2, []), (214, .iadd, []), (215, .iaload, [])]
def k_c271_1 : List (Nat × Instr × List Nat) := [(216, .aload_n 0, []), (217, .iload_n 3, []), (218, .iconst 3, []), (219, .iadd, []), (220, .iaload, []), (221, .aload_n 0, []), (222, .iload_n 3, []), (223, .iconst 4, []), (224, .iadd, []), (225, .iaload, []), (226, .aload_n 0, []), (227, .iload_n 3, []), (228, .iconst 5, []), (229, .iadd, []), (230, .iaload, []), (231, .invokevirtual 17, [2, 139, 5, 12]), (234, .if_icmp .eq 904, [1138]), (237, .iconst 0, []), (238, .ireturn, []), (239, .aload_n 1, []), (240, .aload_n 0, []), (241, .iload_n 3, []), (242, .iconst 1, []), (243, .iadd, []), (244, .iaload, []), (245, .invokevirtual 18, [2, 100, 1, 11]), (248, .aload_n 2, []), (249, .aload_n 0, []), (250, .iload_n 3, []), (251, .iconst 1, []), (252, .iadd, []), (253, .iaload, []), (254, .invokevirtual 22, [2, 141, 1, 12]), (257, .if_icmp .eq 881, [1138]), (260, .iconst 0, []), (261, .ireturn, []), (262, .aload_n 1, []), (263, .invokevirtual 23, [2, 101, 0, 11]), (266, .aload_n 2, []), (267, .invokevirtual 27, [2, 155, 0, 12]), (270, .if_icmp .eq 868, [1138]), (273, .iconst 0, []), (274, .ireturn, []), (275, .aload_n 1, []), (276, .invokevirtual 28, [2, 103, 0, 11]), (279, .aload_n 2, []), (280, .invokevirtual 31, [2, 156, 0, 12]), (283, .if_icmp .eq 855, [1138]), (286, .iconst 0, []), (287, .ireturn, []), (288, .aload_n 1, []), (289, .aload_n 0, []), (290, .iload_n 3, []), (291, .iconst 1, []), (292, .iadd, []), (293, .iaload, []), (294, .aload_n 0, []), (295, .iload_n 3, []), (296, .iconst 2, []), (297, .iadd, [])]
def k_c271_2 : List (Nat × Instr × List Nat) := [(298, .iaload, []), (299, .invokevirtual 32, [2, 104, 2, 11]), (302, .aload_n 2, []), (303, .aload_n 0, []), (304, .iload_n 3, []), (305, .iconst 1, []), (306, .iadd, []), (307, .iaload, []), (308, .aload_n 0, []), (309, .iload_n 3, []), (310, .iconst 2, []), (311, .iadd, []), (312, .iaload, []), (313, .invokevirtual 36, [2, 202, 2, 12]), (316, .if_icmp .eq 822, [1138]), (319, .iconst 0, []), (320, .ireturn, []), (321, .aload_n 1, []), (322, .aload_n 0, []), (323, .iload_n 3, []), (324, .iconst 1, []), (325, .iadd, []), (326, .iaload, []), (327, .aload_n 0, []), (328, .iload_n 3, []), (329, .iconst 2, []), (330, .iadd, []), (331, .iaload, []), (332, .aload_n 0, []), (333, .iload_n 3, []), (334, .iconst 3, []), (335, .iadd, []), (336, .iaload, []), (337, .invokevirtual 37, [2, 105, 3, 11]), (340, .aload_n 2, []), (341, .aload_n 0, []), (342, .iload_n 3, []), (343, .iconst 1, []), (344, .iadd, []), (345, .iaload, []), (346, .aload_n 0, []), (347, .iload_n 3, []), (348, .iconst 2, []), (349, .iadd, []), (350, .iaload, []), (351, .aload_n 0, []), (352, .iload_n 3, []), (353, .iconst 3, []), (354, .iadd, []), (355, .iaload, []), (356, .invokevirtual 41, [2, 204, 3, 12]), (359, .if_icmp .eq 779, [1138]), (362, .iconst 0, []), (363, .ireturn, []), (364, .aload_n 1, []), (365, .aload_n 0, []), (366, .iload_n 3, []), (367, .iconst 1, []), (368, .iadd, []), (369, .iaload, [])]
def k_c271_3 : List (Nat × Instr × List Nat) := [(370, .aload_n 0, []), (371, .iload_n 3, []), (372, .iconst 2, []), (373, .iadd, []), (374, .iaload, []), (375, .invokevirtual 42, [2, 106, 2, 11]), (378, .aload_n 2, []), (379, .aload_n 0, []), (380, .iload_n 3, []), (381, .iconst 1, []), (382, .iadd, []), (383, .iaload, []), (384, .aload_n 0, []), (385, .iload_n 3, []), (386, .iconst 2, []), (387, .iadd, []), (388, .iaload, []), (389, .invokevirtual 45, [2, 205, 2, 12]), (392, .if_icmp .eq 746, [1138]), (395, .iconst 0, []), (396, .ireturn, []), (397, .aload_n 1, []), (398, .aload_n 0, []), (399, .iload_n 3, []), (400, .iconst 1, []), (401, .iadd, []), (402, .iaload, []), (403, .invokevirtual 46, [2, 112, 1, 11]), (406, .aload_n 2, []), (407, .aload_n 0, []), (408, .iload_n 3, []), (409, .iconst 1, []), (410, .iadd, []), (411, .iaload, []), (412, .invokevirtual 49, [2, 206, 1, 12]), (415, .if_icmp .eq 723, [1138]), (418, .iconst 0, []), (419, .ireturn, []), (420, .aload_n 1, []), (421, .aload_n 0, []), (422, .iload_n 3, []), (423, .iconst 1, []), (424, .iadd, []), (425, .iaload, []), (426, .aload_n 0, []), (427, .iload_n 3, []), (428, .iconst 2, []), (429, .iadd, []), (430, .iaload, []), (431, .invokevirtual 50, [2, 113, 2, 11]), (434, .aload_n 2, []), (435, .aload_n 0, []), (436, .iload_n 3, []), (437, .iconst 1, []), (438, .iadd, []), (439, .iaload, []), (440, .aload_n 0, []), (441, .iload_n 3, []), (442, .iconst 2, []), (443, .iadd, [])]
def k_c271_4 : List (Nat × Instr × List Nat) := [(444, .iaload, []), (445, .invokevirtual 53, [2, 207, 2, 12]), (448, .if_icmp .eq 690, [1138]), (451, .iconst 0, []), (452, .ireturn, []), (453, .aload_n 1, []), (454, .aload_n 0, []), (455, .iload_n 3, []), (456, .iconst 1, []), (457, .iadd, []), (458, .iaload, []), (459, .aload_n 0, []), (460, .iload_n 3, []), (461, .iconst 2, []), (462, .iadd, []), (463, .iaload, []), (464, .aload_n 0, []), (465, .iload_n 3, []), (466, .iconst 3, []), (467, .iadd, []), (468, .iaload, []), (469, .invokevirtual 54, [2, 114, 3, 11]), (472, .aload_n 2, []), (473, .aload_n 0, []), (474, .iload_n 3, []), (475, .iconst 1, []), (476, .iadd, []), (477, .iaload, []), (478, .aload_n 0, []), (479, .iload_n 3, []), (480, .iconst 2, []), (481, .iadd, []), (482, .iaload, []), (483, .aload_n 0, []), (484, .iload_n 3, []), (485, .iconst 3, []), (486, .iadd, []), (487, .iaload, []), (488, .invokevirtual 58, [2, 209, 3, 12]), (491, .if_icmp .eq 647, [1138]), (494, .iconst 0, []), (495, .ireturn, []), (496, .aload_n 1, []), (497, .aload_n 0, []), (498, .iload_n 3, []), (499, .iconst 1, []), (500, .iadd, []), (501, .iaload, []), (502, .aload_n 0, []), (503, .iload_n 3, []), (504, .iconst 2, []), (505, .iadd, []), (506, .iaload, []), (507, .invokevirtual 59, [2, 115, 2, 11]), (510, .aload_n 2, []), (511, .aload_n 0, []), (512, .iload_n 3, []), (513, .iconst 1, []), (514, .iadd, []), (515, .iaload, [])]
def k_c271_5 : List (Nat × Instr × List Nat) := [(516, .aload_n 0, []), (517, .iload_n 3, []), (518, .iconst 2, []), (519, .iadd, []), (520, .iaload, []), (521, .invokevirtual 63, [2, 210, 2, 12]), (524, .if_icmp .eq 614, [1138]), (527, .iconst 0, []), (528, .ireturn, []), (529, .aload_n 1, []), (530, .aload_n 0, []), (531, .iload_n 3, []), (532, .iconst 1, []), (533, .iadd, []), (534, .iaload, []), (535, .aload_n 0, []), (536, .iload_n 3, []), (537, .iconst 2, []), (538, .iadd, []), (539, .iaload, []), (540, .invokevirtual 64, [2, 116, 2, 11]), (543, .aload_n 2, []), (544, .aload_n 0, []), (545, .iload_n 3, []), (546, .iconst 1, []), (547, .iadd, []), (548, .iaload, []), (549, .aload_n 0, []), (550, .iload_n 3, []), (551, .iconst 2, []), (552, .iadd, []), (553, .iaload, []), (554, .invokevirtual 67, [2, 211, 2, 12]), (557, .if_icmp .eq 581, [1138]), (560, .iconst 0, []), (561, .ireturn, []), (562, .aload_n 1, []), (563, .aload_n 0, []), (564, .iload_n 3, []), (565, .iconst 1, []), (566, .iadd, []), (567, .iaload, []), (568, .aload_n 0, []), (569, .iload_n 3, []), (570, .iconst 2, []), (571, .iadd, []), (572, .iaload, []), (573, .invokevirtual 68, [2, 117, 2, 11]), (576, .aload_n 2, []), (577, .aload_n 0, []), (578, .iload_n 3, []), (579, .iconst 1, []), (580, .iadd, []), (581, .iaload, []), (582, .aload_n 0, []), (583, .iload_n 3, []), (584, .iconst 2, []), (585, .iadd, []), (586, .iaload, []), (587, .invokevirtual 71, [2, 212, 2, 12])]
def k_c271_6 : List (Nat × Instr × List Nat) := [(590, .if_icmp .eq 548, [1138]), (593, .iconst 0, []), (594, .ireturn, []), (595, .aload_n 1, []), (596, .aload_n 0, []), (597, .iload_n 3, []), (598, .iconst 1, []), (599, .iadd, []), (600, .iaload, []), (601, .aload_n 0, []), (602, .iload_n 3, []), (603, .iconst 2, []), (604, .iadd, []), (605, .iaload, []), (606, .ifCond .eq 7, [613]), (609, .iconst 1, []), (610, .goto 4, [614]), (613, .iconst 0, []), (614, .invokevirtual 72, [2, 118, 2, 11]), (617, .aload_n 2, []), (618, .aload_n 0, []), (619, .iload_n 3, []), (620, .iconst 1, []), (621, .iadd, []), (622, .iaload, []), (623, .aload_n 0, []), (624, .iload_n 3, []), (625, .iconst 2, []), (626, .iadd, []), (627, .iaload, []), (628, .ifCond .eq 7, [635]), (631, .iconst 1, []), (632, .goto 4, [636]), (635, .iconst 0, []), (636, .invokevirtual 76, [2, 213, 2, 12]), (639, .if_icmp .eq 499, [1138]), (642, .iconst 0, []), (643, .ireturn, []), (644, .aload_n 1, []), (645, .invokevirtual 77, [2, 119, 0, 11]), (648, .aload_n 2, []), (649, .invokevirtual 80, [2, 214, 0, 12]), (652, .if_icmp .eq 486, [1138]), (655, .iconst 0, []), (656, .ireturn, []), (657, .aload_n 1, []), (658, .invokevirtual 81, [2, 120, 0, 11]), (661, .aload_n 2, []), (662, .invokevirtual 85, [2, 215, 0, 12]), (665, .if_icmp .eq 473, [1138]), (668, .iconst 0, []), (669, .ireturn, []), (670, .aload_n 1, []), (671, .invokevirtual 86, [2, 121, 0, 11]), (674, .aload_n 2, []), (675, .invokevirtual 89, [2, 216, 0, 12]), (678, .if_icmp .eq 460, [1138]), (681, .iconst 0, []), (682, .ireturn, []), (683, .aload_n 1, [])]
def k_c271_7 : List (Nat × Instr × List Nat) := [(684, .aload_n 0, []), (685, .iload_n 3, []), (686, .iconst 1, []), (687, .iadd, []), (688, .iaload, []), (689, .aload_n 0, []), (690, .iload_n 3, []), (691, .iconst 2, []), (692, .iadd, []), (693, .iaload, []), (694, .invokevirtual 90, [2, 122, 2, 11]), (697, .aload_n 2, []), (698, .aload_n 0, []), (699, .iload_n 3, []), (700, .iconst 1, []), (701, .iadd, []), (702, .iaload, []), (703, .aload_n 0, []), (704, .iload_n 3, []), (705, .iconst 2, []), (706, .iadd, []), (707, .iaload, []), (708, .invokevirtual 93, [2, 222, 2, 12]), (711, .if_icmp .eq 427, [1138]), (714, .iconst 0, []), (715, .ireturn, []), (716, .aload_n 1, []), (717, .aload_n 0, []), (718, .iload_n 3, []), (719, .iconst 1, []), (720, .iadd, []), (721, .iaload, []), (722, .aload_n 0, []), (723, .iload_n 3, []), (724, .iconst 2, []), (725, .iadd, []), (726, .iaload, []), (727, .aload_n 0, []), (728, .iload_n 3, []), (729, .iconst 3, []), (730, .iadd, []), (731, .iaload, []), (732, .invokevirtual 94, [2, 123, 3, 11]), (735, .aload_n 2, []), (736, .aload_n 0, []), (737, .iload_n 3, []), (738, .iconst 1, []), (739, .iadd, []), (740, .iaload, []), (741, .aload_n 0, []), (742, .iload_n 3, []), (743, .iconst 2, []), (744, .iadd, []), (745, .iaload, []), (746, .aload_n 0, []), (747, .iload_n 3, []), (748, .iconst 3, []), (749, .iadd, []), (750, .iaload, []), (751, .invokevirtual 97, [2, 223, 3, 12])]
def k_c271_8 : List (Nat × Instr × List Nat) := [(754, .if_icmp .eq 384, [1138]), (757, .iconst 0, []), (758, .ireturn, []), (759, .aload_n 1, []), (760, .aload_n 0, []), (761, .iload_n 3, []), (762, .iconst 1, []), (763, .iadd, []), (764, .iaload, []), (765, .invokevirtual 98, [2, 125, 1, 11]), (768, .aload_n 2, []), (769, .aload_n 0, []), (770, .iload_n 3, []), (771, .iconst 1, []), (772, .iadd, []), (773, .iaload, []), (774, .invokevirtual 101, [2, 224, 1, 12]), (777, .if_icmp .eq 361, [1138]), (780, .iconst 0, []), (781, .ireturn, []), (782, .aload_n 1, []), (783, .aload_n 0, []), (784, .iload_n 3, []), (785, .iconst 1, []), (786, .iadd, []), (787, .iaload, []), (788, .aload_n 0, []), (789, .iload_n 3, []), (790, .iconst 2, []), (791, .iadd, []), (792, .iaload, []), (793, .invokevirtual 102, [2, 126, 2, 11]), (796, .aload_n 2, []), (797, .aload_n 0, []), (798, .iload_n 3, []), (799, .iconst 1, []), (800, .iadd, []), (801, .iaload, []), (802, .aload_n 0, []), (803, .iload_n 3, []), (804, .iconst 2, []), (805, .iadd, []), (806, .iaload, []), (807, .invokevirtual 105, [2, 225, 2, 12]), (810, .if_icmp .eq 328, [1138]), (813, .iconst 0, []), (814, .ireturn, []), (815, .aload_n 1, []), (816, .aload_n 0, []), (817, .iload_n 3, []), (818, .iconst 1, []), (819, .iadd, []), (820, .iaload, []), (821, .invokevirtual 106, [2, 127, 1, 11]), (824, .aload_n 2, []), (825, .aload_n 0, []), (826, .iload_n 3, []), (827, .iconst 1, []), (828, .iadd, []), (829, .iaload, [])]
def k_c271_9 : List (Nat × Instr × List Nat) := [(830, .invokevirtual 109, [2, 227, 1, 12]), (833, .if_icmp .eq 305, [1138]), (836, .iconst 0, []), (837, .ireturn, []), (838, .aload_n 1, []), (839, .aload_n 0, []), (840, .iload_n 3, []), (841, .iconst 1, []), (842, .iadd, []), (843, .iaload, []), (844, .aload_n 0, []), (845, .iload_n 3, []), (846, .iconst 2, []), (847, .iadd, []), (848, .iaload, []), (849, .invokevirtual 110, [2, 128, 2, 11]), (852, .aload_n 2, []), (853, .aload_n 0, []), (854, .iload_n 3, []), (855, .iconst 1, []), (856, .iadd, []), (857, .iaload, []), (858, .aload_n 0, []), (859, .iload_n 3, []), (860, .iconst 2, []), (861, .iadd, []), (862, .iaload, []), (863, .invokevirtual 113, [2, 228, 2, 12]), (866, .if_icmp .eq 272, [1138]), (869, .iconst 0, []), (870, .ireturn, []), (871, .aload_n 1, []), (872, .aload_n 0, []), (873, .iload_n 3, []), (874, .iconst 1, []), (875, .iadd, []), (876, .iaload, []), (877, .aload_n 0, []), (878, .iload_n 3, []), (879, .iconst 2, []), (880, .iadd, []), (881, .iaload, []), (882, .invokevirtual 114, [2, 129, 2, 11]), (885, .aload_n 2, []), (886, .aload_n 0, []), (887, .iload_n 3, []), (888, .iconst 1, []), (889, .iadd, []), (890, .iaload, []), (891, .aload_n 0, []), (892, .iload_n 3, []), (893, .iconst 2, []), (894, .iadd, []), (895, .iaload, []), (896, .invokevirtual 117, [2, 229, 2, 12]), (899, .if_icmp .eq 239, [1138]), (902, .iconst 0, []), (903, .ireturn, []), (904, .aload_n 1, []), (905, .aload_n 0, [])]
def k_c271_10 : List (Nat × Instr × List Nat) := [(906, .iload_n 3, []), (907, .iconst 1, []), (908, .iadd, []), (909, .iaload, []), (910, .aload_n 0, []), (911, .iload_n 3, []), (912, .iconst 2, []), (913, .iadd, []), (914, .iaload, []), (915, .aload_n 0, []), (916, .iload_n 3, []), (917, .iconst 3, []), (918, .iadd, []), (919, .iaload, []), (920, .invokevirtual 118, [2, 130, 3, 11]), (923, .aload_n 2, []), (924, .aload_n 0, []), (925, .iload_n 3, []), (926, .iconst 1, []), (927, .iadd, []), (928, .iaload, []), (929, .aload_n 0, []), (930, .iload_n 3, []), (931, .iconst 2, []), (932, .iadd, []), (933, .iaload, []), (934, .aload_n 0, []), (935, .iload_n 3, []), (936, .iconst 3, []), (937, .iadd, []), (938, .iaload, []), (939, .invokevirtual 121, [2, 230, 3, 12]), (942, .if_icmp .eq 196, [1138]), (945, .iconst 0, []), (946, .ireturn, []), (947, .aload_n 1, []), (948, .invokevirtual 122, [2, 131, 0, 11]), (951, .aload_n 2, []), (952, .invokevirtual 125, [2, 231, 0, 12]), (955, .if_icmp .eq 183, [1138]), (958, .iconst 0, []), (959, .ireturn, []), (960, .aload_n 1, []), (961, .aload_n 0, []), (962, .iload_n 3, []), (963, .iconst 1, []), (964, .iadd, []), (965, .iaload, []), (966, .aload_n 0, []), (967, .iload_n 3, []), (968, .iconst 2, []), (969, .iadd, []), (970, .iaload, []), (971, .aload_n 0, []), (972, .iload_n 3, []), (973, .iconst 3, []), (974, .iadd, []), (975, .iaload, []), (976, .invokevirtual 126, [2, 132, 3, 11]), (979, .aload_n 2, [])]
def k_c271_11 : List (Nat × Instr × List Nat) := [(980, .aload_n 0, []), (981, .iload_n 3, []), (982, .iconst 1, []), (983, .iadd, []), (984, .iaload, []), (985, .aload_n 0, []), (986, .iload_n 3, []), (987, .iconst 2, []), (988, .iadd, []), (989, .iaload, []), (990, .aload_n 0, []), (991, .iload_n 3, []), (992, .iconst 3, []), (993, .iadd, []), (994, .iaload, []), (995, .invokevirtual 129, [2, 233, 3, 12]), (998, .if_icmp .eq 140, [1138]), (1001, .iconst 0, []), (1002, .ireturn, []), (1003, .aload_n 1, []), (1004, .aload_n 0, []), (1005, .iload_n 3, []), (1006, .iconst 1, []), (1007, .iadd, []), (1008, .iaload, []), (1009, .invokevirtual 130, [2, 133, 1, 11]), (1012, .aload_n 2, []), (1013, .aload_n 0, []), (1014, .iload_n 3, []), (1015, .iconst 1, []), (1016, .iadd, []), (1017, .iaload, []), (1018, .invokevirtual 133, [2, 235, 1, 12]), (1021, .if_icmp .eq 117, [1138]), (1024, .iconst 0, []), (1025, .ireturn, []), (1026, .aload_n 1, []), (1027, .aload_n 0, []), (1028, .iload_n 3, []), (1029, .iconst 1, []), (1030, .iadd, []), (1031, .iaload, []), (1032, .aload_n 0, []), (1033, .iload_n 3, []), (1034, .iconst 2, []), (1035, .iadd, []), (1036, .iaload, []), (1037, .aload_n 0, []), (1038, .iload_n 3, []), (1039, .iconst 3, []), (1040, .iadd, []), (1041, .iaload, []), (1042, .invokevirtual 134, [2, 134, 3, 11]), (1045, .aload_n 2, []), (1046, .aload_n 0, []), (1047, .iload_n 3, []), (1048, .iconst 1, []), (1049, .iadd, []), (1050, .iaload, []), (1051, .aload_n 0, [])]
def k_c271_12 : List (Nat × Instr × List Nat) := [(1052, .iload_n 3, []), (1053, .iconst 2, []), (1054, .iadd, []), (1055, .iaload, []), (1056, .aload_n 0, []), (1057, .iload_n 3, []), (1058, .iconst 3, []), (1059, .iadd, []), (1060, .iaload, []), (1061, .invokevirtual 137, [2, 236, 3, 12]), (1064, .if_icmp .eq 74, [1138]), (1067, .iconst 0, []), (1068, .ireturn, []), (1069, .aload_n 1, []), (1070, .aload_n 0, []), (1071, .iload_n 3, []), (1072, .iconst 1, []), (1073, .iadd, []), (1074, .iaload, []), (1075, .invokevirtual 138, [2, 135, 1, 11]), (1078, .aload_n 2, []), (1079, .aload_n 0, []), (1080, .iload_n 3, []), (1081, .iconst 1, []), (1082, .iadd, []), (1083, .iaload, []), (1084, .invokevirtual 142, [2, 237, 1, 12]), (1087, .if_icmp .eq 51, [1138]), (1090, .iconst 0, []), (1091, .ireturn, []), (1092, .aload_n 1, []), (1093, .aload_n 0, []), (1094, .iload_n 3, []), (1095, .iconst 1, []), (1096, .iadd, []), (1097, .iaload, []), (1098, .invokevirtual 143, [2, 136, 1, 11]), (1101, .aload_n 2, []), (1102, .aload_n 0, []), (1103, .iload_n 3, []), (1104, .iconst 1, []), (1105, .iadd, []), (1106, .iaload, []), (1107, .invokevirtual 146, [2, 238, 1, 12]), (1110, .if_icmp .eq 28, [1138]), (1113, .iconst 0, []), (1114, .ireturn, []), (1115, .aload_n 1, []), (1116, .aload_n 0, []), (1117, .iload_n 3, []), (1118, .iconst 1, []), (1119, .iadd, []), (1120, .iaload, []), (1121, .invokevirtual 147, [2, 137, 1, 11]), (1124, .aload_n 2, []), (1125, .aload_n 0, []), (1126, .iload_n 3, []), (1127, .iconst 1, []), (1128, .iadd, []), (1129, .iaload, [])]
def k_c271_13 : List (Nat × Instr × List Nat) := [(1130, .invokevirtual 150, [2, 239, 1, 12]), (1133, .if_icmp .eq 5, [1138]), (1136, .iconst 0, []), (1137, .ireturn, []), (1138, .iinc 3 6, []), (1141, .goto (-1123), [18]), (1144, .iconst 1, []), (1145, .ireturn, [])]
/-- SleepWorkLaw.law([I)Z -/
def k_c271 : List (Nat × Instr × List Nat) := k_c271_0 ++ (k_c271_1 ++ (k_c271_2 ++ (k_c271_3 ++ (k_c271_4 ++ (k_c271_5 ++ (k_c271_6 ++ (k_c271_7 ++ (k_c271_8 ++ (k_c271_9 ++ (k_c271_10 ++ (k_c271_11 ++ (k_c271_12 ++ (k_c271_13)))))))))))))
def k_m0 : gM := ((⟨"SleepWork$Evening", "<init>", "(LSleepWork$House;LSleepWork$State;LSleepWork$Told;)V"⟩, prog_2_method_1_code, 4, (Option.none : Option FieldType)), g_look k_c0)
def k_m1 : gM := ((⟨"SleepWork$Evening", "enter", "(LSleepWork$House;)V"⟩, prog_2_method_2_code, 2, (Option.none : Option FieldType)), g_look k_c1)
def k_m2 : gM := ((⟨"SleepWork$Evening", "setStale", "()V"⟩, prog_2_method_3_code, 1, (Option.none : Option FieldType)), g_look k_c2)
def k_m3 : gM := ((⟨"SleepWork$Evening", "minutesBetween", "(II)I"⟩, prog_2_method_4_code, 3, (Option.some FieldType.int)), g_look k_c3)
def k_m4 : gM := ((⟨"SleepWork$Evening", "goBy", "()V"⟩, prog_2_method_5_code, 1, (Option.none : Option FieldType)), g_look k_c4)
def k_m5 : gM := ((⟨"SleepWork$Evening", "gainAsItIs", "()I"⟩, prog_2_method_6_code, 1, (Option.some FieldType.int)), g_look k_c5)
def k_m6 : gM := ((⟨"SleepWork$Evening", "strokesTill", "(II)I"⟩, prog_2_method_7_code, 3, (Option.some FieldType.int)), g_look k_c6)
def k_m7 : gM := ((⟨"SleepWork$Evening", "gainOfTrial", "()I"⟩, prog_2_method_8_code, 1, (Option.some FieldType.int)), g_look k_c7)
def k_m8 : gM := ((⟨"SleepWork$Evening", "isAnswered", "(III)Z"⟩, prog_2_method_9_code, 4, (Option.some FieldType.boolean)), g_look k_c8)
def k_m9 : gM := ((⟨"SleepWork$Evening", "offer", "(III)V"⟩, prog_2_method_10_code, 4, (Option.none : Option FieldType)), g_look k_c9)
def k_m10 : gM := ((⟨"SleepWork$Evening", "seekForOne", "(I)V"⟩, prog_2_method_11_code, 3, (Option.none : Option FieldType)), g_look k_c10)
def k_m11 : gM := ((⟨"SleepWork$Evening", "seekForTwo", "(II)V"⟩, prog_2_method_12_code, 5, (Option.none : Option FieldType)), g_look k_c11)
def k_m12 : gM := ((⟨"SleepWork$Evening", "seekHidingPlace", "(I)V"⟩, prog_2_method_13_code, 4, (Option.none : Option FieldType)), g_look k_c12)
def k_m13 : gM := ((⟨"SleepWork$Evening", "seekBars", "()V"⟩, prog_2_method_14_code, 4, (Option.none : Option FieldType)), g_look k_c13)
def k_m14 : gM := ((⟨"SleepWork$Evening", "arrivals", "(I)J"⟩, prog_2_method_15_code, 8, (Option.some FieldType.long)), g_look k_c14)
def k_m15 : gM := ((⟨"SleepWork$Evening", "clearSeen", "(I)V"⟩, prog_2_method_16_code, 2, (Option.none : Option FieldType)), g_look k_c15)
def k_m16 : gM := ((⟨"SleepWork$Evening", "isNew", "(J)Z"⟩, prog_2_method_17_code, 8, (Option.some FieldType.boolean)), g_look k_c16)
def k_m17 : gM := ((⟨"SleepWork$Evening", "seekFits", "(II)V"⟩, prog_2_method_18_code, 4, (Option.none : Option FieldType)), g_look k_c17)
def k_m18 : gM := ((⟨"SleepWork$Evening", "suspectBits", "(I)I"⟩, prog_2_method_19_code, 4, (Option.some FieldType.int)), g_look k_c18)
def k_m19 : gM := ((⟨"SleepWork$Evening", "isSuspect", "(II)Z"⟩, prog_2_method_20_code, 4, (Option.some FieldType.boolean)), g_look k_c19)
def k_m20 : gM := ((⟨"SleepWork$Evening", "fittingPairs", "(III)I"⟩, prog_2_method_21_code, 7, (Option.some FieldType.int)), g_look k_c20)
def k_m21 : gM := ((⟨"SleepWork$House", "<init>", "()V"⟩, prog_3_method_1_code, 1, (Option.none : Option FieldType)), g_look k_c21)
def k_m22 : gM := ((⟨"SleepWork$House", "clear", "()V"⟩, prog_3_method_2_code, 1, (Option.none : Option FieldType)), g_look k_c22)
def k_m23 : gM := ((⟨"SleepWork$House", "hasStep", "(II)Z"⟩, prog_3_method_3_code, 3, (Option.some FieldType.boolean)), g_look k_c23)
def k_m24 : gM := ((⟨"SleepWork$House", "mayBeLeft", "(I)Z"⟩, prog_3_method_4_code, 2, (Option.some FieldType.boolean)), g_look k_c24)
def k_m25 : gM := ((⟨"SleepWork$House", "isEnded", "(LSleepWork$State;I)Z"⟩, prog_3_method_5_code, 5, (Option.some FieldType.boolean)), g_look k_c25)
def k_m26 : gM := ((⟨"SleepWork$House", "worth", "(LSleepWork$State;I)I"⟩, prog_3_method_6_code, 7, (Option.some FieldType.int)), g_look k_c26)
def k_m27 : gM := ((⟨"SleepWork$House", "worthOfAll", "(LSleepWork$State;)I"⟩, prog_3_method_7_code, 4, (Option.some FieldType.int)), g_look k_c27)
def k_m28 : gM := ((⟨"SleepWork$House", "finish", "(LSleepWork$State;II)V"⟩, prog_3_method_8_code, 6, (Option.none : Option FieldType)), g_look k_c28)
def k_m29 : gM := ((⟨"SleepWork$Laws", "<init>", "()V"⟩, prog_4_method_1_code, 1, (Option.none : Option FieldType)), g_look k_c29)
def k_m30 : gM := ((⟨"SleepWork$Laws", "clear", "()V"⟩, prog_4_method_2_code, 1, (Option.none : Option FieldType)), g_look k_c30)
def k_m31 : gM := ((⟨"SleepWork$Laws", "add", "(II)I"⟩, prog_4_method_3_code, 3, (Option.some FieldType.int)), g_look k_c31)
def k_m32 : gM := ((⟨"SleepWork$Laws", "aimHere", "(I)V"⟩, prog_4_method_4_code, 2, (Option.none : Option FieldType)), g_look k_c32)
def k_m33 : gM := ((⟨"SleepWork$Laws", "tellsTo", "(I[I)I"⟩, prog_4_method_5_code, 8, (Option.some FieldType.int)), g_look k_c33)
def k_m34 : gM := ((⟨"SleepWork$Laws", "joined", "(III)I"⟩, prog_4_method_6_code, 3, (Option.some FieldType.int)), g_look k_c34)
def k_m35 : gM := ((⟨"SleepWork$Past", "<init>", "()V"⟩, prog_5_method_1_code, 2, (Option.none : Option FieldType)), g_look k_c35)
def k_m36 : gM := ((⟨"SleepWork$Past", "push", "(LSleepWork$State;)V"⟩, prog_5_method_2_code, 2, (Option.none : Option FieldType)), g_look k_c36)
def k_m37 : gM := ((⟨"SleepWork$Past", "pull", "(LSleepWork$State;)Z"⟩, prog_5_method_3_code, 2, (Option.some FieldType.boolean)), g_look k_c37)
def k_m38 : gM := ((⟨"SleepWork$Reader", "<init>", "(LSleepWork$House;LSleepWork$State;)V"⟩, prog_6_method_1_code, 3, (Option.none : Option FieldType)), g_look k_c38)
def k_m39 : gM := ((⟨"SleepWork$Reader", "readText", "(LSleepWork$Tape;LSleepWork$House;LSleepWork$State;)I"⟩, prog_6_method_2_code, 5, (Option.some FieldType.int)), g_look k_c39)
def k_m40 : gM := ((⟨"SleepWork$Reader", "placeOfFault", "()I"⟩, prog_6_method_3_code, 1, (Option.some FieldType.int)), g_look k_c40)
def k_m41 : gM := ((⟨"SleepWork$Reader", "open", "(LSleepWork$Tape;LSleepWork$House;LSleepWork$State;)V"⟩, prog_6_method_4_code, 4, (Option.none : Option FieldType)), g_look k_c41)
def k_m42 : gM := ((⟨"SleepWork$Reader", "fail", "(II)V"⟩, prog_6_method_5_code, 3, (Option.none : Option FieldType)), g_look k_c42)
def k_m43 : gM := ((⟨"SleepWork$Reader", "failLate", "(I)V"⟩, prog_6_method_6_code, 2, (Option.none : Option FieldType)), g_look k_c43)
def k_m44 : gM := ((⟨"SleepWork$Reader", "isNext", "(I)Z"⟩, prog_6_method_7_code, 2, (Option.some FieldType.boolean)), g_look k_c44)
def k_m45 : gM := ((⟨"SleepWork$Reader", "take", "(I)Z"⟩, prog_6_method_8_code, 2, (Option.some FieldType.boolean)), g_look k_c45)
def k_m46 : gM := ((⟨"SleepWork$Reader", "takeFirst", "(III)V"⟩, prog_6_method_9_code, 4, (Option.none : Option FieldType)), g_look k_c46)
def k_m47 : gM := ((⟨"SleepWork$Reader", "takeNewName", "([JI)V"⟩, prog_6_method_10_code, 5, (Option.none : Option FieldType)), g_look k_c47)
def k_m48 : gM := ((⟨"SleepWork$Reader", "takeKnownName", "([JI)I"⟩, prog_6_method_11_code, 4, (Option.some FieldType.int)), g_look k_c48)
def k_m49 : gM := ((⟨"SleepWork$Reader", "find", "(J[JI)I"⟩, prog_6_method_12_code, 5, (Option.some FieldType.int)), g_look k_c49)
def k_m50 : gM := ((⟨"SleepWork$Reader", "takeNumber", "(II)I"⟩, prog_6_method_13_code, 4, (Option.some FieldType.int)), g_look k_c50)
def k_m51 : gM := ((⟨"SleepWork$Reader", "takeStepNumber", "(I)I"⟩, prog_6_method_14_code, 2, (Option.some FieldType.int)), g_look k_c51)
def k_m52 : gM := ((⟨"SleepWork$Reader", "readRoom", "()V"⟩, prog_6_method_15_code, 1, (Option.none : Option FieldType)), g_look k_c52)
def k_m53 : gM := ((⟨"SleepWork$Reader", "readDoor", "()V"⟩, prog_6_method_16_code, 6, (Option.none : Option FieldType)), g_look k_c53)
def k_m54 : gM := ((⟨"SleepWork$Reader", "readTool", "()V"⟩, prog_6_method_17_code, 2, (Option.none : Option FieldType)), g_look k_c54)
def k_m55 : gM := ((⟨"SleepWork$Reader", "readTask", "()V"⟩, prog_6_method_18_code, 3, (Option.none : Option FieldType)), g_look k_c55)
def k_m56 : gM := ((⟨"SleepWork$Reader", "readStep", "()V"⟩, prog_6_method_19_code, 9, (Option.none : Option FieldType)), g_look k_c56)
def k_m57 : gM := ((⟨"SleepWork$Reader", "takeTaskOfStep", "()I"⟩, prog_6_method_20_code, 3, (Option.some FieldType.int)), g_look k_c57)
def k_m58 : gM := ((⟨"SleepWork$Reader", "readMan", "()V"⟩, prog_6_method_21_code, 4, (Option.none : Option FieldType)), g_look k_c58)
def k_m59 : gM := ((⟨"SleepWork$Reader", "readNight", "()V"⟩, prog_6_method_22_code, 1, (Option.none : Option FieldType)), g_look k_c59)
def k_m60 : gM := ((⟨"SleepWork$Reader", "readLaw", "()V"⟩, prog_6_method_23_code, 4, (Option.none : Option FieldType)), g_look k_c60)
def k_m61 : gM := ((⟨"SleepWork$Reader", "readIf", "()V"⟩, prog_6_method_24_code, 2, (Option.none : Option FieldType)), g_look k_c61)
def k_m62 : gM := ((⟨"SleepWork$Reader", "readSum", "(I)V"⟩, prog_6_method_25_code, 6, (Option.none : Option FieldType)), g_look k_c62)
def k_m63 : gM := ((⟨"SleepWork$Reader", "addSign", "(I)V"⟩, prog_6_method_26_code, 2, (Option.none : Option FieldType)), g_look k_c63)
def k_m64 : gM := ((⟨"SleepWork$Reader", "takeEither", "(II)I"⟩, prog_6_method_27_code, 3, (Option.some FieldType.int)), g_look k_c64)
def k_m65 : gM := ((⟨"SleepWork$Reader", "readUnit", "(I)V"⟩, prog_6_method_28_code, 3, (Option.none : Option FieldType)), g_look k_c65)
def k_m66 : gM := ((⟨"SleepWork$Scanner", "<init>", "()V"⟩, prog_7_method_1_code, 3, (Option.none : Option FieldType)), g_look k_c66)
def k_m67 : gM := ((⟨"SleepWork$Scanner", "scanAll", "(LSleepWork$Tape;)V"⟩, prog_7_method_2_code, 4, (Option.none : Option FieldType)), g_look k_c67)
def k_m68 : gM := ((⟨"SleepWork$Scanner", "scanNext", "(ILSleepWork$Tape;)V"⟩, prog_7_method_3_code, 4, (Option.none : Option FieldType)), g_look k_c68)
def k_m69 : gM := ((⟨"SleepWork$Scanner", "scanLetters", "(ILSleepWork$Tape;)V"⟩, prog_7_method_4_code, 7, (Option.none : Option FieldType)), g_look k_c69)
def k_m70 : gM := ((⟨"SleepWork$Scanner", "scanDigits", "(ILSleepWork$Tape;)V"⟩, prog_7_method_5_code, 4, (Option.none : Option FieldType)), g_look k_c70)
def k_m71 : gM := ((⟨"SleepWork$Scanner", "isBlank", "(I)Z"⟩, prog_7_method_6_code, 1, (Option.some FieldType.boolean)), g_look k_c71)
def k_m72 : gM := ((⟨"SleepWork$Scanner", "isLetter", "(I)Z"⟩, prog_7_method_7_code, 1, (Option.some FieldType.boolean)), g_look k_c72)
def k_m73 : gM := ((⟨"SleepWork$Scanner", "isDigit", "(I)Z"⟩, prog_7_method_8_code, 1, (Option.some FieldType.boolean)), g_look k_c73)
def k_m74 : gM := ((⟨"SleepWork$Sleep", "<init>", "(LSleepWork$House;LSleepWork$State;)V"⟩, prog_8_method_1_code, 3, (Option.none : Option FieldType)), g_look k_c74)
def k_m75 : gM := ((⟨"SleepWork$Sleep", "goTill", "(ILSleepWork$House;LSleepWork$State;)V"⟩, prog_8_method_2_code, 7, (Option.none : Option FieldType)), g_look k_c75)
def k_m76 : gM := ((⟨"SleepWork$Sleep", "getUp", "()V"⟩, prog_8_method_3_code, 4, (Option.none : Option FieldType)), g_look k_c76)
def k_m77 : gM := ((⟨"SleepWork$Sleep", "nextMinute", "()I"⟩, prog_8_method_4_code, 3, (Option.some FieldType.int)), g_look k_c77)
def k_m78 : gM := ((⟨"SleepWork$Sleep", "finishAll", "(I)V"⟩, prog_8_method_5_code, 6, (Option.none : Option FieldType)), g_look k_c78)
def k_m79 : gM := ((⟨"SleepWork$Sleep", "begin", "(II)V"⟩, prog_8_method_6_code, 8, (Option.none : Option FieldType)), g_look k_c79)
def k_m80 : gM := ((⟨"SleepWork$Sleep", "lieDown", "(II)V"⟩, prog_8_method_7_code, 3, (Option.none : Option FieldType)), g_look k_c80)
def k_m81 : gM := ((⟨"SleepWork$Sleep", "chosenStep", "(III)I"⟩, prog_8_method_8_code, 5, (Option.some FieldType.int)), g_look k_c81)
def k_m82 : gM := ((⟨"SleepWork$Sleep", "wakeUp", "()V"⟩, prog_8_method_9_code, 4, (Option.none : Option FieldType)), g_look k_c82)
def k_m83 : gM := ((⟨"SleepWork$State", "<init>", "()V"⟩, prog_9_method_1_code, 1, (Option.none : Option FieldType)), g_look k_c83)
def k_m84 : gM := ((⟨"SleepWork$State", "clear", "()V"⟩, prog_9_method_2_code, 1, (Option.none : Option FieldType)), g_look k_c84)
def k_m85 : gM := ((⟨"SleepWork$State", "copy", "(LSleepWork$State;)V"⟩, prog_9_method_3_code, 2, (Option.none : Option FieldType)), g_look k_c85)
def k_m86 : gM := ((⟨"SleepWork$Tape", "<init>", "()V"⟩, prog_10_method_1_code, 1, (Option.none : Option FieldType)), g_look k_c86)
def k_m87 : gM := ((⟨"SleepWork$Tape", "hasSpace", "()Z"⟩, prog_10_method_2_code, 1, (Option.some FieldType.boolean)), g_look k_c87)
def k_m88 : gM := ((⟨"SleepWork$Tape", "addWord", "(I)V"⟩, prog_10_method_3_code, 3, (Option.none : Option FieldType)), g_look k_c88)
def k_m89 : gM := ((⟨"SleepWork$Told", "<init>", "()V"⟩, prog_11_method_1_code, 1, (Option.none : Option FieldType)), g_look k_c89)
def k_m90 : gM := ((⟨"SleepWork$Told", "isFull", "()Z"⟩, prog_11_method_2_code, 1, (Option.some FieldType.boolean)), g_look k_c90)
def k_m91 : gM := ((⟨"SleepWork$Told", "add", "(II)I"⟩, prog_11_method_3_code, 3, (Option.some FieldType.int)), g_look k_c91)
def k_m92 : gM := ((⟨"SleepWork$Told", "isSoIn", "(LSleepWork$State;I)Z"⟩, prog_11_method_4_code, 4, (Option.some FieldType.boolean)), g_look k_c92)
def k_m93 : gM := ((⟨"SleepWork$Ways", "<init>", "()V"⟩, prog_12_method_1_code, 1, (Option.none : Option FieldType)), g_look k_c93)
def k_m94 : gM := ((⟨"SleepWork$Ways", "drop", "()V"⟩, prog_12_method_2_code, 1, (Option.none : Option FieldType)), g_look k_c94)
def k_m95 : gM := ((⟨"SleepWork$Ways", "between", "(LSleepWork$House;III)I"⟩, prog_12_method_3_code, 5, (Option.some FieldType.int)), g_look k_c95)
def k_m96 : gM := ((⟨"SleepWork$Ways", "takeDoors", "(LSleepWork$House;I)V"⟩, prog_12_method_4_code, 7, (Option.none : Option FieldType)), g_look k_c96)
def k_m97 : gM := ((⟨"SleepWork$Ways", "joinWays", "(I)V"⟩, prog_12_method_5_code, 7, (Option.none : Option FieldType)), g_look k_c97)
def k_m98 : gM := ((⟨"SleepWork", "<init>", "()V"⟩, prog_1_method_1_code, 2, (Option.none : Option FieldType)), g_look k_c98)
def k_m99 : gM := ((⟨"SleepWork", "feed", "(IIIII)I"⟩, prog_1_method_2_code, 6, (Option.some FieldType.int)), g_look k_c99)
def k_m100 : gM := ((⟨"SleepWork", "back", "(I)I"⟩, prog_1_method_3_code, 2, (Option.some FieldType.int)), g_look k_c100)
def k_m101 : gM := ((⟨"SleepWork", "read", "()I"⟩, prog_1_method_4_code, 2, (Option.some FieldType.int)), g_look k_c101)
def k_m102 : gM := ((⟨"SleepWork", "moveIn", "()V"⟩, prog_1_method_5_code, 2, (Option.none : Option FieldType)), g_look k_c102)
def k_m103 : gM := ((⟨"SleepWork", "place", "()I"⟩, prog_1_method_6_code, 1, (Option.some FieldType.int)), g_look k_c103)
def k_m104 : gM := ((⟨"SleepWork", "task", "(II)I"⟩, prog_1_method_7_code, 3, (Option.some FieldType.int)), g_look k_c104)
def k_m105 : gM := ((⟨"SleepWork", "step", "(III)I"⟩, prog_1_method_8_code, 5, (Option.some FieldType.int)), g_look k_c105)
def k_m106 : gM := ((⟨"SleepWork", "man", "(II)I"⟩, prog_1_method_9_code, 4, (Option.some FieldType.int)), g_look k_c106)
def k_m107 : gM := ((⟨"SleepWork", "isMan", "(I)Z"⟩, prog_1_method_10_code, 2, (Option.some FieldType.boolean)), g_look k_c107)
def k_m108 : gM := ((⟨"SleepWork", "isTool", "(I)Z"⟩, prog_1_method_11_code, 2, (Option.some FieldType.boolean)), g_look k_c108)
def k_m109 : gM := ((⟨"SleepWork", "isRoom", "(I)Z"⟩, prog_1_method_12_code, 2, (Option.some FieldType.boolean)), g_look k_c109)
def k_m110 : gM := ((⟨"SleepWork", "areTwoMen", "(II)Z"⟩, prog_1_method_13_code, 3, (Option.some FieldType.boolean)), g_look k_c110)
def k_m111 : gM := ((⟨"SleepWork", "isKnownBy", "(I)Z"⟩, prog_1_method_14_code, 2, (Option.some FieldType.boolean)), g_look k_c111)
def k_m112 : gM := ((⟨"SleepWork", "tool", "(I)I"⟩, prog_1_method_15_code, 2, (Option.some FieldType.int)), g_look k_c112)
def k_m113 : gM := ((⟨"SleepWork", "way", "(II)I"⟩, prog_1_method_16_code, 4, (Option.some FieldType.int)), g_look k_c113)
def k_m114 : gM := ((⟨"SleepWork", "leave", "(III)Z"⟩, prog_1_method_17_code, 5, (Option.some FieldType.boolean)), g_look k_c114)
def k_m115 : gM := ((⟨"SleepWork", "work", "(II)Z"⟩, prog_1_method_18_code, 3, (Option.some FieldType.boolean)), g_look k_c115)
def k_m116 : gM := ((⟨"SleepWork", "lay", "(II)Z"⟩, prog_1_method_19_code, 3, (Option.some FieldType.boolean)), g_look k_c116)
def k_m117 : gM := ((⟨"SleepWork", "give", "(II)Z"⟩, prog_1_method_20_code, 3, (Option.some FieldType.boolean)), g_look k_c117)
def k_m118 : gM := ((⟨"SleepWork", "bar", "(IZ)Z"⟩, prog_1_method_21_code, 3, (Option.some FieldType.boolean)), g_look k_c118)
def k_m119 : gM := ((⟨"SleepWork", "night", "()I"⟩, prog_1_method_22_code, 2, (Option.some FieldType.int)), g_look k_c119)
def k_m120 : gM := ((⟨"SleepWork", "undo", "()Z"⟩, prog_1_method_23_code, 1, (Option.some FieldType.boolean)), g_look k_c120)
def k_m121 : gM := ((⟨"SleepWork", "gain", "()I"⟩, prog_1_method_24_code, 1, (Option.some FieldType.int)), g_look k_c121)
def k_m122 : gM := ((⟨"SleepWork", "best", "(II)I"⟩, prog_1_method_25_code, 3, (Option.some FieldType.int)), g_look k_c122)
def k_m123 : gM := ((⟨"SleepWork", "bestOfTwo", "(III)I"⟩, prog_1_method_26_code, 4, (Option.some FieldType.int)), g_look k_c123)
def k_m124 : gM := ((⟨"SleepWork", "codeOf", "(I)I"⟩, prog_1_method_27_code, 1, (Option.some FieldType.int)), g_look k_c124)
def k_m125 : gM := ((⟨"SleepWork", "hire", "(I)I"⟩, prog_1_method_28_code, 2, (Option.some FieldType.int)), g_look k_c125)
def k_m126 : gM := ((⟨"SleepWork", "hide", "(II)I"⟩, prog_1_method_29_code, 3, (Option.some FieldType.int)), g_look k_c126)
def k_m127 : gM := ((⟨"SleepWork", "bars", "(I)I"⟩, prog_1_method_30_code, 2, (Option.some FieldType.int)), g_look k_c127)
def k_m128 : gM := ((⟨"SleepWork", "where", "(II)I"⟩, prog_1_method_31_code, 6, (Option.some FieldType.int)), g_look k_c128)
def k_m129 : gM := ((⟨"SleepWork", "strokes", "(II)I"⟩, prog_1_method_32_code, 3, (Option.some FieldType.int)), g_look k_c129)
def k_m130 : gM := ((⟨"SleepWork", "tell", "(III)I"⟩, prog_1_method_33_code, 4, (Option.some FieldType.int)), g_look k_c130)
def k_m131 : gM := ((⟨"SleepWork", "forget", "()I"⟩, prog_1_method_34_code, 2, (Option.some FieldType.int)), g_look k_c131)
def k_m132 : gM := ((⟨"SleepWork", "fits", "(III)I"⟩, prog_1_method_35_code, 4, (Option.some FieldType.int)), g_look k_c132)
def k_m133 : gM := ((⟨"SleepWork", "suspects", "(I)I"⟩, prog_1_method_36_code, 2, (Option.some FieldType.int)), g_look k_c133)
def k_m134 : gM := ((⟨"SleepWork", "pairs", "(III)I"⟩, prog_1_method_37_code, 4, (Option.some FieldType.int)), g_look k_c134)
def k_m135 : gM := ((⟨"SleepWork", "hold", "(I)Z"⟩, prog_1_method_38_code, 2, (Option.some FieldType.boolean)), g_look k_c135)
def k_m136 : gM := ((⟨"SleepWork", "restore", "(I)Z"⟩, prog_1_method_39_code, 2, (Option.some FieldType.boolean)), g_look k_c136)
def k_m137 : gM := ((⟨"SleepWork", "count", "(I)I"⟩, prog_1_method_40_code, 2, (Option.some FieldType.int)), g_look k_c137)
def k_m138 : gM := ((⟨"SleepWorkModel", "<init>", "()V"⟩, prog_14_method_2_code, 1, (Option.none : Option FieldType)), g_look k_c138)
def k_m139 : gM := ((⟨"SleepWorkModel", "feed", "(IIIII)I"⟩, prog_14_method_3_code, 6, (Option.some FieldType.int)), g_look k_c139)
def k_m140 : gM := ((⟨"SleepWorkModel", "put", "(I)V"⟩, prog_14_method_4_code, 3, (Option.none : Option FieldType)), g_look k_c140)
def k_m141 : gM := ((⟨"SleepWorkModel", "back", "(I)I"⟩, prog_14_method_5_code, 2, (Option.some FieldType.int)), g_look k_c141)
def k_m142 : gM := ((⟨"SleepWorkModel", "byteAt", "(I)I"⟩, prog_14_method_6_code, 2, (Option.some FieldType.int)), g_look k_c142)
def k_m143 : gM := ((⟨"SleepWorkModel", "isDigit", "(I)Z"⟩, prog_14_method_7_code, 1, (Option.some FieldType.boolean)), g_look k_c143)
def k_m144 : gM := ((⟨"SleepWorkModel", "isLetter", "(I)Z"⟩, prog_14_method_8_code, 1, (Option.some FieldType.boolean)), g_look k_c144)
def k_m145 : gM := ((⟨"SleepWorkModel", "appends", "(JI)J"⟩, prog_14_method_9_code, 3, (Option.some FieldType.long)), g_look k_c145)
def k_m146 : gM := ((⟨"SleepWorkModel", "word", "(IIIIIII)J"⟩, prog_14_method_10_code, 7, (Option.some FieldType.long)), g_look k_c146)
def k_m147 : gM := ((⟨"SleepWorkModel", "token", "(IIIJ)V"⟩, prog_14_method_11_code, 6, (Option.none : Option FieldType)), g_look k_c147)
def k_m148 : gM := ((⟨"SleepWorkModel", "cut", "()V"⟩, prog_14_method_12_code, 8, (Option.none : Option FieldType)), g_look k_c148)
def k_m149 : gM := ((⟨"SleepWorkModel", "sign", "(III)I"⟩, prog_14_method_13_code, 5, (Option.some FieldType.int)), g_look k_c149)
def k_m150 : gM := ((⟨"SleepWorkModel", "is", "(I)Z"⟩, prog_14_method_14_code, 2, (Option.some FieldType.boolean)), g_look k_c150)
def k_m151 : gM := ((⟨"SleepWorkModel", "fail", "(I)V"⟩, prog_14_method_15_code, 2, (Option.none : Option FieldType)), g_look k_c151)
def k_m152 : gM := ((⟨"SleepWorkModel", "wrong", "(II)V"⟩, prog_14_method_16_code, 4, (Option.none : Option FieldType)), g_look k_c152)
def k_m153 : gM := ((⟨"SleepWorkModel", "goesOn", "()V"⟩, prog_14_method_17_code, 1, (Option.none : Option FieldType)), g_look k_c153)
def k_m154 : gM := ((⟨"SleepWorkModel", "must", "(I)V"⟩, prog_14_method_18_code, 2, (Option.none : Option FieldType)), g_look k_c154)
def k_m155 : gM := ((⟨"SleepWorkModel", "read", "()I"⟩, prog_14_method_19_code, 2, (Option.some FieldType.int)), g_look k_c155)
def k_m156 : gM := ((⟨"SleepWorkModel", "place", "()I"⟩, prog_14_method_20_code, 1, (Option.some FieldType.int)), g_look k_c156)
def k_m157 : gM := ((⟨"SleepWorkModel", "failAt", "(II)V"⟩, prog_14_method_21_code, 3, (Option.none : Option FieldType)), g_look k_c157)
def k_m158 : gM := ((⟨"SleepWorkModel", "roomFor", "(II)V"⟩, prog_14_method_22_code, 3, (Option.none : Option FieldType)), g_look k_c158)
def k_m159 : gM := ((⟨"SleepWorkModel", "tell", "()V"⟩, prog_14_method_23_code, 1, (Option.none : Option FieldType)), g_look k_c159)
def k_m160 : gM := ((⟨"SleepWorkModel", "named", "()I"⟩, prog_14_method_24_code, 3, (Option.some FieldType.int)), g_look k_c160)
def k_m161 : gM := ((⟨"SleepWorkModel", "notes", "(III)V"⟩, prog_14_method_25_code, 4, (Option.none : Option FieldType)), g_look k_c161)
def k_m162 : gM := ((⟨"SleepWorkModel", "known", "(I)I"⟩, prog_14_method_26_code, 4, (Option.some FieldType.int)), g_look k_c162)
def k_m163 : gM := ((⟨"SleepWorkModel", "bounded", "(II)I"⟩, prog_14_method_27_code, 4, (Option.some FieldType.int)), g_look k_c163)
def k_m164 : gM := ((⟨"SleepWorkModel", "tellRoom", "()V"⟩, prog_14_method_28_code, 2, (Option.none : Option FieldType)), g_look k_c164)
def k_m165 : gM := ((⟨"SleepWorkModel", "tellDoor", "()V"⟩, prog_14_method_29_code, 3, (Option.none : Option FieldType)), g_look k_c165)
def k_m166 : gM := ((⟨"SleepWorkModel", "tellTool", "()V"⟩, prog_14_method_30_code, 2, (Option.none : Option FieldType)), g_look k_c166)
def k_m167 : gM := ((⟨"SleepWorkModel", "tellTask", "()V"⟩, prog_14_method_31_code, 3, (Option.none : Option FieldType)), g_look k_c167)
def k_m168 : gM := ((⟨"SleepWorkModel", "tellStep", "(I)V"⟩, prog_14_method_32_code, 11, (Option.none : Option FieldType)), g_look k_c168)
def k_m169 : gM := ((⟨"SleepWorkModel", "tellMan", "()V"⟩, prog_14_method_33_code, 4, (Option.none : Option FieldType)), g_look k_c169)
def k_m170 : gM := ((⟨"SleepWorkModel", "tellLaw", "()V"⟩, prog_14_method_34_code, 4, (Option.none : Option FieldType)), g_look k_c170)
def k_m171 : gM := ((⟨"SleepWorkModel", "term", "()V"⟩, prog_14_method_35_code, 1, (Option.none : Option FieldType)), g_look k_c171)
def k_m172 : gM := ((⟨"SleepWorkModel", "emit", "(II)V"⟩, prog_14_method_36_code, 3, (Option.none : Option FieldType)), g_look k_c172)
def k_m173 : gM := ((⟨"SleepWorkModel", "comesOut", "(Z)V"⟩, prog_14_method_37_code, 3, (Option.none : Option FieldType)), g_look k_c173)
def k_m174 : gM := ((⟨"SleepWorkModel", "expression", "()V"⟩, prog_14_method_38_code, 3, (Option.none : Option FieldType)), g_look k_c174)
def k_m175 : gM := ((⟨"SleepWorkModel", "unit", "()V"⟩, prog_14_method_39_code, 1, (Option.none : Option FieldType)), g_look k_c175)
def k_m176 : gM := ((⟨"SleepWorkModel", "termOf", "(II)I"⟩, prog_14_method_40_code, 8, (Option.some FieldType.int)), g_look k_c176)
def k_m177 : gM := ((⟨"SleepWorkModel", "in", "(III)Z"⟩, prog_14_method_41_code, 3, (Option.some FieldType.boolean)), g_look k_c177)
def k_m178 : gM := ((⟨"SleepWorkModel", "tasksNow", "()I"⟩, prog_14_method_42_code, 1, (Option.some FieldType.int)), g_look k_c178)
def k_m179 : gM := ((⟨"SleepWorkModel", "menNow", "()I"⟩, prog_14_method_43_code, 1, (Option.some FieldType.int)), g_look k_c179)
def k_m180 : gM := ((⟨"SleepWorkModel", "stepsOf", "(I)I"⟩, prog_14_method_44_code, 2, (Option.some FieldType.int)), g_look k_c180)
def k_m181 : gM := ((⟨"SleepWorkModel", "stepAt", "(II)I"⟩, prog_14_method_45_code, 3, (Option.some FieldType.int)), g_look k_c181)
def k_m182 : gM := ((⟨"SleepWorkModel", "isTask", "(I)Z"⟩, prog_14_method_46_code, 2, (Option.some FieldType.boolean)), g_look k_c182)
def k_m183 : gM := ((⟨"SleepWorkModel", "isStep", "(II)Z"⟩, prog_14_method_47_code, 3, (Option.some FieldType.boolean)), g_look k_c183)
def k_m184 : gM := ((⟨"SleepWorkModel", "isMan", "(I)Z"⟩, prog_14_method_48_code, 2, (Option.some FieldType.boolean)), g_look k_c184)
def k_m185 : gM := ((⟨"SleepWorkModel", "isRoom", "(I)Z"⟩, prog_14_method_49_code, 2, (Option.some FieldType.boolean)), g_look k_c185)
def k_m186 : gM := ((⟨"SleepWorkModel", "isTool", "(I)Z"⟩, prog_14_method_50_code, 2, (Option.some FieldType.boolean)), g_look k_c186)
def k_m187 : gM := ((⟨"SleepWorkModel", "begins", "()V"⟩, prog_14_method_51_code, 2, (Option.none : Option FieldType)), g_look k_c187)
def k_m188 : gM := ((⟨"SleepWorkModel", "takes", "()V"⟩, prog_14_method_52_code, 2, (Option.none : Option FieldType)), g_look k_c188)
def k_m189 : gM := ((⟨"SleepWorkModel", "isEnded", "(I)Z"⟩, prog_14_method_53_code, 3, (Option.some FieldType.boolean)), g_look k_c189)
def k_m190 : gM := ((⟨"SleepWorkModel", "worthOf", "(I)I"⟩, prog_14_method_54_code, 7, (Option.some FieldType.int)), g_look k_c190)
def k_m191 : gM := ((⟨"SleepWorkModel", "worthNow", "()I"⟩, prog_14_method_55_code, 3, (Option.some FieldType.int)), g_look k_c191)
def k_m192 : gM := ((⟨"SleepWorkModel", "fillsWays", "()V"⟩, prog_14_method_56_code, 5, (Option.none : Option FieldType)), g_look k_c192)
def k_m193 : gM := ((⟨"SleepWorkModel", "getsUp", "(I)V"⟩, prog_14_method_57_code, 4, (Option.none : Option FieldType)), g_look k_c193)
def k_m194 : gM := ((⟨"SleepWorkModel", "tells", "(II)I"⟩, prog_14_method_58_code, 9, (Option.some FieldType.int)), g_look k_c194)
def k_m195 : gM := ((⟨"SleepWorkModel", "does", "(II)V"⟩, prog_14_method_59_code, 4, (Option.none : Option FieldType)), g_look k_c195)
def k_m196 : gM := ((⟨"SleepWorkModel", "isOver", "(I)V"⟩, prog_14_method_60_code, 2, (Option.none : Option FieldType)), g_look k_c196)
def k_m197 : gM := ((⟨"SleepWorkModel", "lies", "(II)V"⟩, prog_14_method_61_code, 3, (Option.none : Option FieldType)), g_look k_c197)
def k_m198 : gM := ((⟨"SleepWorkModel", "isInUse", "(II)Z"⟩, prog_14_method_62_code, 4, (Option.some FieldType.boolean)), g_look k_c198)
def k_m199 : gM := ((⟨"SleepWorkModel", "begins1", "(II)V"⟩, prog_14_method_63_code, 7, (Option.none : Option FieldType)), g_look k_c199)
def k_m200 : gM := ((⟨"SleepWorkModel", "goesTill", "(I)V"⟩, prog_14_method_64_code, 4, (Option.none : Option FieldType)), g_look k_c200)
def k_m201 : gM := ((⟨"SleepWorkModel", "wholeNight", "()I"⟩, prog_14_method_65_code, 3, (Option.some FieldType.int)), g_look k_c201)
def k_m202 : gM := ((⟨"SleepWorkModel", "task", "(II)I"⟩, prog_14_method_66_code, 3, (Option.some FieldType.int)), g_look k_c202)
def k_m203 : gM := ((⟨"SleepWorkModel", "orNone", "(I)I"⟩, prog_14_method_67_code, 1, (Option.some FieldType.int)), g_look k_c203)
def k_m204 : gM := ((⟨"SleepWorkModel", "step", "(III)I"⟩, prog_14_method_68_code, 5, (Option.some FieldType.int)), g_look k_c204)
def k_m205 : gM := ((⟨"SleepWorkModel", "man", "(II)I"⟩, prog_14_method_69_code, 3, (Option.some FieldType.int)), g_look k_c205)
def k_m206 : gM := ((⟨"SleepWorkModel", "tool", "(I)I"⟩, prog_14_method_70_code, 2, (Option.some FieldType.int)), g_look k_c206)
def k_m207 : gM := ((⟨"SleepWorkModel", "way", "(II)I"⟩, prog_14_method_71_code, 3, (Option.some FieldType.int)), g_look k_c207)
def k_m208 : gM := ((⟨"SleepWorkModel", "isLeft", "(II)Z"⟩, prog_14_method_72_code, 3, (Option.some FieldType.boolean)), g_look k_c208)
def k_m209 : gM := ((⟨"SleepWorkModel", "leave", "(III)Z"⟩, prog_14_method_73_code, 4, (Option.some FieldType.boolean)), g_look k_c209)
def k_m210 : gM := ((⟨"SleepWorkModel", "work", "(II)Z"⟩, prog_14_method_74_code, 4, (Option.some FieldType.boolean)), g_look k_c210)
def k_m211 : gM := ((⟨"SleepWorkModel", "lay", "(II)Z"⟩, prog_14_method_75_code, 3, (Option.some FieldType.boolean)), g_look k_c211)
def k_m212 : gM := ((⟨"SleepWorkModel", "give", "(II)Z"⟩, prog_14_method_76_code, 3, (Option.some FieldType.boolean)), g_look k_c212)
def k_m213 : gM := ((⟨"SleepWorkModel", "bar", "(IZ)Z"⟩, prog_14_method_77_code, 3, (Option.some FieldType.boolean)), g_look k_c213)
def k_m214 : gM := ((⟨"SleepWorkModel", "night", "()I"⟩, prog_14_method_78_code, 3, (Option.some FieldType.int)), g_look k_c214)
def k_m215 : gM := ((⟨"SleepWorkModel", "undo", "()Z"⟩, prog_14_method_79_code, 2, (Option.some FieldType.boolean)), g_look k_c215)
def k_m216 : gM := ((⟨"SleepWorkModel", "gain", "()I"⟩, prog_14_method_80_code, 1, (Option.some FieldType.int)), g_look k_c216)
def k_m217 : gM := ((⟨"SleepWorkModel", "leaves", "(II)Z"⟩, prog_14_method_81_code, 5, (Option.some FieldType.boolean)), g_look k_c217)
def k_m218 : gM := ((⟨"SleepWorkModel", "options", "()I"⟩, prog_14_method_82_code, 3, (Option.some FieldType.int)), g_look k_c218)
def k_m219 : gM := ((⟨"SleepWorkModel", "codeOf", "(II)I"⟩, prog_14_method_83_code, 3, (Option.some FieldType.int)), g_look k_c219)
def k_m220 : gM := ((⟨"SleepWorkModel", "gainBy", "(II)I"⟩, prog_14_method_84_code, 3, (Option.some FieldType.int)), g_look k_c220)
def k_m221 : gM := ((⟨"SleepWorkModel", "bestOption", "(I)I"⟩, prog_14_method_85_code, 5, (Option.some FieldType.int)), g_look k_c221)
def k_m222 : gM := ((⟨"SleepWorkModel", "best", "(II)I"⟩, prog_14_method_86_code, 4, (Option.some FieldType.int)), g_look k_c222)
def k_m223 : gM := ((⟨"SleepWorkModel", "bestOfTwo", "(III)I"⟩, prog_14_method_87_code, 10, (Option.some FieldType.int)), g_look k_c223)
def k_m224 : gM := ((⟨"SleepWorkModel", "hire", "(I)I"⟩, prog_14_method_88_code, 2, (Option.some FieldType.int)), g_look k_c224)
def k_m225 : gM := ((⟨"SleepWorkModel", "hide", "(II)I"⟩, prog_14_method_89_code, 8, (Option.some FieldType.int)), g_look k_c225)
def k_m226 : gM := ((⟨"SleepWorkModel", "bits", "(I)I"⟩, prog_14_method_90_code, 3, (Option.some FieldType.int)), g_look k_c226)
def k_m227 : gM := ((⟨"SleepWorkModel", "bars", "(I)I"⟩, prog_14_method_91_code, 6, (Option.some FieldType.int)), g_look k_c227)
def k_m228 : gM := ((⟨"SleepWorkModel", "where", "(II)I"⟩, prog_14_method_92_code, 5, (Option.some FieldType.int)), g_look k_c228)
def k_m229 : gM := ((⟨"SleepWorkModel", "strokes", "(II)I"⟩, prog_14_method_93_code, 3, (Option.some FieldType.int)), g_look k_c229)
def k_m230 : gM := ((⟨"SleepWorkModel", "tell", "(III)I"⟩, prog_14_method_94_code, 4, (Option.some FieldType.int)), g_look k_c230)
def k_m231 : gM := ((⟨"SleepWorkModel", "forget", "()I"⟩, prog_14_method_95_code, 2, (Option.some FieldType.int)), g_look k_c231)
def k_m232 : gM := ((⟨"SleepWorkModel", "isSo", "(I)Z"⟩, prog_14_method_96_code, 3, (Option.some FieldType.boolean)), g_look k_c232)
def k_m233 : gM := ((⟨"SleepWorkModel", "fits", "(III)I"⟩, prog_14_method_97_code, 6, (Option.some FieldType.int)), g_look k_c233)
def k_m234 : gM := ((⟨"SleepWorkModel", "isSuspect", "(II)Z"⟩, prog_14_method_98_code, 4, (Option.some FieldType.boolean)), g_look k_c234)
def k_m235 : gM := ((⟨"SleepWorkModel", "suspects", "(I)I"⟩, prog_14_method_99_code, 4, (Option.some FieldType.int)), g_look k_c235)
def k_m236 : gM := ((⟨"SleepWorkModel", "pairs", "(III)I"⟩, prog_14_method_100_code, 7, (Option.some FieldType.int)), g_look k_c236)
def k_m237 : gM := ((⟨"SleepWorkModel", "hold", "(I)Z"⟩, prog_14_method_101_code, 3, (Option.some FieldType.boolean)), g_look k_c237)
def k_m238 : gM := ((⟨"SleepWorkModel", "restore", "(I)Z"⟩, prog_14_method_102_code, 3, (Option.some FieldType.boolean)), g_look k_c238)
def k_m239 : gM := ((⟨"SleepWorkModel", "count", "(I)I"⟩, prog_14_method_103_code, 2, (Option.some FieldType.int)), g_look k_c239)
def k_m240 : gM := ((⟨"java/lang/Character", "isValidCodePoint", "(I)Z"⟩, prog_15_method_11_code, 2, (Option.some FieldType.boolean)), g_look k_c240)
def k_m241 : gM := ((⟨"java/lang/Character", "highSurrogate", "(I)C"⟩, prog_15_method_28_code, 1, (Option.some FieldType.char)), g_look k_c241)
def k_m242 : gM := ((⟨"java/lang/Character", "lowSurrogate", "(I)C"⟩, prog_15_method_29_code, 1, (Option.some FieldType.char)), g_look k_c242)
def k_m243 : gM := ((⟨"java/lang/Integer", "bitCount", "(I)I"⟩, prog_16_method_49_code, 1, (Option.some FieldType.int)), g_look k_c243)
def k_m244 : gM := ((⟨"java/lang/Math", "max", "(II)I"⟩, prog_17_method_65_code, 2, (Option.some FieldType.int)), g_look k_c244)
def k_m245 : gM := ((⟨"java/lang/Math", "min", "(II)I"⟩, prog_17_method_69_code, 2, (Option.some FieldType.int)), g_look k_c245)
def k_m246 : gM := ((⟨"java/lang/String", "length", "()I"⟩, prog_18_method_54_code, 1, (Option.some FieldType.int)), g_look k_c246)
def k_m247 : gM := ((⟨"java/lang/String", "charAt", "(I)C"⟩, prog_18_method_56_code, 2, (Option.some FieldType.char)), g_look k_c247)
def k_m248 : gM := ((⟨"java/lang/String", "indexOf", "(I)I"⟩, prog_18_method_79_code, 2, (Option.some FieldType.int)), g_look k_c248)
def k_m249 : gM := ((⟨"java/lang/String", "indexOf", "(II)I"⟩, prog_18_method_80_code, 3, (Option.some FieldType.int)), g_look k_c249)
def k_m250 : gM := ((⟨"java/lang/String", "coder", "()B"⟩, prog_18_method_152_code, 1, (Option.some FieldType.byte)), g_look k_c250)
def k_m251 : gM := ((⟨"java/lang/String", "isLatin1", "()Z"⟩, prog_18_method_154_code, 1, (Option.some FieldType.boolean)), g_look k_c251)
def k_m252 : gM := ((⟨"java/lang/String", "checkIndex", "(II)V"⟩, prog_18_method_155_code, 2, (Option.none : Option FieldType)), g_look k_c252)
def k_m253 : gM := ((⟨"java/lang/String", "checkBoundsBeginEnd", "(III)V"⟩, prog_18_method_158_code, 3, (Option.none : Option FieldType)), g_look k_c253)
def k_m254 : gM := ((⟨"java/lang/StringLatin1", "charAt", "([BI)C"⟩, prog_19_method_2_code, 2, (Option.some FieldType.char)), g_look k_c254)
def k_m255 : gM := ((⟨"java/lang/StringLatin1", "canEncode", "(I)Z"⟩, prog_19_method_4_code, 1, (Option.some FieldType.boolean)), g_look k_c255)
def k_m256 : gM := ((⟨"java/lang/StringLatin1", "indexOf", "([BIII)I"⟩, prog_19_method_22_code, 4, (Option.some FieldType.int)), g_look k_c256)
def k_m257 : gM := ((⟨"java/lang/StringLatin1", "indexOfChar", "([BIII)I"⟩, prog_19_method_23_code, 6, (Option.some FieldType.int)), g_look k_c257)
def k_m258 : gM := ((⟨"java/lang/StringUTF16", "getChar", "([BI)C"⟩, prog_20_method_5_code, 2, (Option.some FieldType.char)), g_look k_c258)
def k_m259 : gM := ((⟨"java/lang/StringUTF16", "length", "([B)I"⟩, prog_20_method_6_code, 1, (Option.some FieldType.int)), g_look k_c259)
def k_m260 : gM := ((⟨"java/lang/StringUTF16", "indexOf", "([BIII)I"⟩, prog_20_method_40_code, 4, (Option.some FieldType.int)), g_look k_c260)
def k_m261 : gM := ((⟨"java/lang/StringUTF16", "indexOfChar", "([BIII)I"⟩, prog_20_method_47_code, 4, (Option.some FieldType.int)), g_look k_c261)
def k_m262 : gM := ((⟨"java/lang/StringUTF16", "indexOfCharUnsafe", "([BIII)I"⟩, prog_20_method_48_code, 5, (Option.some FieldType.int)), g_look k_c262)
def k_m263 : gM := ((⟨"java/lang/StringUTF16", "indexOfSupplementary", "([BIII)I"⟩, prog_20_method_49_code, 7, (Option.some FieldType.int)), g_look k_c263)
def k_m264 : gM := ((⟨"java/lang/StringUTF16", "charAt", "([BI)C"⟩, prog_20_method_83_code, 2, (Option.some FieldType.char)), g_look k_c264)
def k_m265 : gM := ((⟨"java/lang/StringUTF16", "checkIndex", "(I[B)V"⟩, prog_20_method_91_code, 2, (Option.none : Option FieldType)), g_look k_c265)
def k_m266 : gM := ((⟨"java/lang/StringUTF16", "checkBoundsBeginEnd", "(II[B)V"⟩, prog_20_method_93_code, 3, (Option.none : Option FieldType)), g_look k_c266)
def k_m267 : gM := ((⟨"java/util/Arrays", "fill", "([JJ)V"⟩, prog_22_method_101_code, 5, (Option.none : Option FieldType)), g_look k_c267)
def k_m268 : gM := ((⟨"java/util/Arrays", "fill", "([II)V"⟩, prog_22_method_103_code, 4, (Option.none : Option FieldType)), g_look k_c268)
def k_m269 : gM := ((⟨"jdk/internal/util/Preconditions", "checkIndex", "(IILjava/util/function/BiFunction;)I"⟩, prog_23_method_11_code, 3, (Option.some FieldType.int)), g_look k_c269)
def k_m270 : gM := ((⟨"jdk/internal/util/Preconditions", "checkFromToIndex", "(IIILjava/util/function/BiFunction;)I"⟩, prog_23_method_12_code, 4, (Option.some FieldType.int)), g_look k_c270)
def k_m271 : gM := ((⟨"SleepWorkLaw", "law", "([I)Z"⟩, code, maxLocals, ret), g_look k_c271)
def k_ms : List gM := [k_m0, k_m1, k_m2, k_m3, k_m4, k_m5, k_m6, k_m7, k_m8, k_m9, k_m10, k_m11, k_m12, k_m13, k_m14, k_m15, k_m16, k_m17, k_m18, k_m19, k_m20, k_m21, k_m22, k_m23, k_m24, k_m25, k_m26, k_m27, k_m28, k_m29, k_m30, k_m31, k_m32, k_m33, k_m34, k_m35, k_m36, k_m37, k_m38, k_m39, k_m40, k_m41, k_m42, k_m43, k_m44, k_m45, k_m46, k_m47, k_m48, k_m49, k_m50, k_m51, k_m52, k_m53, k_m54, k_m55, k_m56, k_m57, k_m58, k_m59, k_m60, k_m61, k_m62, k_m63, k_m64, k_m65, k_m66, k_m67, k_m68, k_m69, k_m70, k_m71, k_m72, k_m73, k_m74, k_m75, k_m76, k_m77, k_m78, k_m79, k_m80, k_m81, k_m82, k_m83, k_m84, k_m85, k_m86, k_m87, k_m88, k_m89, k_m90, k_m91, k_m92, k_m93, k_m94, k_m95, k_m96, k_m97, k_m98, k_m99, k_m100, k_m101, k_m102, k_m103, k_m104, k_m105, k_m106, k_m107, k_m108, k_m109, k_m110, k_m111, k_m112, k_m113, k_m114, k_m115, k_m116, k_m117, k_m118, k_m119, k_m120, k_m121, k_m122, k_m123, k_m124, k_m125, k_m126, k_m127, k_m128, k_m129, k_m130, k_m131, k_m132, k_m133, k_m134, k_m135, k_m136, k_m137, k_m138, k_m139, k_m140, k_m141, k_m142, k_m143, k_m144, k_m145, k_m146, k_m147, k_m148, k_m149, k_m150, k_m151, k_m152, k_m153, k_m154, k_m155, k_m156, k_m157, k_m158, k_m159, k_m160, k_m161, k_m162, k_m163, k_m164, k_m165, k_m166, k_m167, k_m168, k_m169, k_m170, k_m171, k_m172, k_m173, k_m174, k_m175, k_m176, k_m177, k_m178, k_m179, k_m180, k_m181, k_m182, k_m183, k_m184, k_m185, k_m186, k_m187, k_m188, k_m189, k_m190, k_m191, k_m192, k_m193, k_m194, k_m195, k_m196, k_m197, k_m198, k_m199, k_m200, k_m201, k_m202, k_m203, k_m204, k_m205, k_m206, k_m207, k_m208, k_m209, k_m210, k_m211, k_m212, k_m213, k_m214, k_m215, k_m216, k_m217, k_m218, k_m219, k_m220, k_m221, k_m222, k_m223, k_m224, k_m225, k_m226, k_m227, k_m228, k_m229, k_m230, k_m231, k_m232, k_m233, k_m234, k_m235, k_m236, k_m237, k_m238, k_m239, k_m240, k_m241, k_m242, k_m243, k_m244, k_m245, k_m246, k_m247, k_m248, k_m249, k_m250, k_m251, k_m252, k_m253, k_m254, k_m255, k_m256, k_m257, k_m258, k_m259, k_m260, k_m261, k_m262, k_m263, k_m264, k_m265, k_m266, k_m267, k_m268, k_m269, k_m270, k_m271]
def k_mt (M : Nat) : gM := k_ms.getD M k_m0
end
section
/-! what the tables say of each pool entry that the methods use (printed by wip/gen.py): looked up by places, all at once -/
def k_Ns : List (String × Nat × MethodName × String) := [("SleepWork", 11, ⟨"SleepWork$Tape", "<init>", "()V"⟩, "SleepWork"), ("SleepWork", 35, ⟨"SleepWork$Told", "<init>", "()V"⟩, "SleepWork"), ("SleepWork$House", 50, ⟨"SleepWork$Laws", "<init>", "()V"⟩, "SleepWork"), ("SleepWork$Sleep", 11, ⟨"SleepWork$Ways", "<init>", "()V"⟩, "SleepWork")]
/-- the word w stands at place p of the tables (from 100000 on: of the private methods' selects), and keeps -/
def k_tq (p : Nat) (w : Cond) : Bool := (if p < 100000 then decide (tables_1[p]? = some w) else decide ((k2_sels lw_privs)[p - 100000]? = some w)) && goodWord w
theorem k_tq_ok {p : Nat} {w : Cond} (h : k_tq p w = true) : w ∈ lw_gd := by
  unfold k_tq at h
  rw [Bool.and_eq_true] at h
  obtain ⟨h1, h2⟩ := h
  split at h1
  · exact k_memT (of_decide_eq_true h1) h2
  · exact k_memP (of_decide_eq_true h1) h2
/-- methods that are called: number, parameters, the places of its code and of its class's initialisation -/
def k_cal : List (Nat × Nat × Nat × Nat) := [(0, 3, 309, 9), (1, 1, 820, 9), (2, 0, 828, 9), (3, 2, 881, 9), (4, 0, 940, 9), (5, 0, 1002, 9), (6, 2, 1100, 9), (7, 0, 1008, 9), (8, 3, 1020, 9), (9, 3, 1029, 9), (10, 1, 1016, 9), (11, 2, 1044, 9), (12, 1, 1057, 9), (13, 0, 1065, 9), (14, 1, 1082, 9), (15, 1, 1069, 9), (16, 1, 1087, 9), (17, 2, 1128, 9), (18, 1, 1140, 9), (19, 2, 1144, 9), (20, 3, 1152, 9), (21, 0, 159, 7), (22, 0, 188, 7), (23, 2, 853, 7), (24, 1, 1025, 7), (25, 2, 845, 7), (26, 2, 840, 7), (27, 1, 935, 7), (28, 3, 910, 7), (29, 0, 165, 8), (30, 0, 193, 8), (31, 2, 785, 8), (32, 1, 797, 8), (33, 2, 978, 8), (34, 3, 981, 8), (35, 0, 122, 5), (36, 1, 930, 5), (37, 1, 994, 5), (38, 2, 424, 12), (39, 3, 607, 12), (40, 0, 805, 12), (41, 3, 611, 12), (42, 2, 714, 12), (43, 1, 729, 12), (44, 1, 702, 12), (45, 1, 718, 12), (46, 3, 710, 12), (47, 2, 722, 12), (48, 2, 737, 12), (49, 3, 725, 12), (50, 2, 741, 12), (51, 1, 761, 12), (52, 0, 706, 12), (53, 0, 733, 12), (54, 0, 745, 12), (55, 0, 749, 12), (56, 0, 753, 12), (57, 0, 757, 12), (58, 0, 765, 12), (59, 0, 801, 12), (60, 0, 769, 12), (61, 0, 773, 12), (62, 1, 777, 12), (63, 1, 789, 12), (64, 2, 793, 12), (65, 1, 781, 12), (66, 0, 430, 13), (67, 1, 617, 13), (68, 2, 621, 13), (69, 2, 631, 13), (70, 2, 638, 13), (71, 1, 624, 13), (72, 1, 627, 13), (73, 1, 634, 13), (74, 2, 317, 10), (75, 3, 944, 10), (76, 0, 949, 10), (77, 0, 955, 10), (78, 1, 960, 10), (79, 2, 965, 10), (80, 2, 970, 10), (81, 3, 974, 10), (82, 0, 986, 10), (83, 0, 52, 3), (84, 0, 57, 3), (85, 1, 813, 3), (86, 0, 35, 2), (87, 0, 591, 2), (88, 1, 595, 2), (89, 0, 142, 6), (90, 0, 1108, 6), (91, 2, 1112, 6), (92, 2, 1132, 6), (93, 0, 323, 11), (94, 0, 824, 11), (95, 4, 885, 11), (96, 2, 889, 11), (97, 1, 896, 11), (98, 0, 27, 1), (99, 5, 587, 1), (100, 1, 599, 1), (101, 0, 603, 1), (102, 0, 809, 1), (103, 0, 832, 1), (104, 2, 836, 1), (105, 3, 849, 1), (106, 2, 857, 1), (107, 1, 861, 1), (108, 1, 869, 1), (109, 1, 877, 1), (110, 2, 1040, 1), (111, 1, 1124, 1), (112, 1, 865, 1), (113, 2, 873, 1), (114, 3, 901, 1), (115, 2, 906, 1), (116, 2, 914, 1), (117, 2, 918, 1), (118, 2, 922, 1), (119, 0, 926, 1), (120, 0, 990, 1), (121, 0, 998, 1), (122, 2, 1012, 1), (123, 3, 1036, 1), (124, 1, 1032, 1), (125, 1, 1048, 1), (126, 2, 1053, 1), (127, 1, 1061, 1), (128, 2, 1092, 1), (129, 2, 1096, 1), (130, 3, 1104, 1), (131, 0, 1116, 1), (132, 3, 1120, 1), (133, 1, 1136, 1), (134, 3, 1148, 1), (135, 1, 1156, 1), (136, 1, 1160, 1), (137, 1, 1164, 1), (138, 0, 1170, 18), (139, 5, 1432, 18), (140, 1, 1436, 18), (141, 1, 1440, 18), (142, 1, 1452, 18), (143, 1, 1462, 18), (144, 1, 1459, 18), (145, 2, 1177, 18), (146, 7, 1174, 18), (147, 4, 1456, 18), (148, 0, 1448, 18), (149, 3, 1466, 18), (150, 1, 1470, 18), (151, 1, 1482, 18), (152, 2, 1502, 18), (153, 0, 1486, 18), (154, 1, 1498, 18), (155, 0, 1444, 18), (156, 0, 1578, 18), (157, 2, 1534, 18), (158, 2, 1478, 18), (159, 0, 1474, 18), (160, 0, 1494, 18), (161, 3, 1506, 18), (162, 1, 1514, 18), (163, 2, 1518, 18), (164, 0, 1490, 18), (165, 0, 1510, 18), (166, 0, 1522, 18), (167, 0, 1526, 18), (168, 1, 1530, 18), (169, 0, 1538, 18), (170, 0, 1542, 18), (171, 0, 1562, 18), (172, 2, 1554, 18), (173, 1, 1558, 18), (174, 0, 1546, 18), (175, 0, 1550, 18), (176, 2, 1717, 18), (177, 3, 1589, 18), (178, 0, 1570, 18), (179, 0, 1574, 18), (180, 1, 1597, 18), (181, 2, 1605, 18), (182, 1, 1586, 18), (183, 2, 1617, 18), (184, 1, 1628, 18), (185, 1, 1644, 18), (186, 1, 1636, 18), (187, 0, 1566, 18), (188, 0, 1593, 18), (189, 1, 1609, 18), (190, 1, 1601, 18), (191, 0, 1689, 18), (192, 0, 1648, 18), (193, 1, 1697, 18), (194, 2, 1713, 18), (195, 2, 1665, 18), (196, 1, 1701, 18), (197, 2, 1709, 18), (198, 2, 1721, 18), (199, 2, 1705, 18), (200, 1, 1693, 18), (201, 0, 1685, 18), (202, 2, 1582, 18), (203, 1, 1620, 18), (204, 3, 1613, 18), (205, 2, 1624, 18), (206, 1, 1632, 18), (207, 2, 1640, 18), (208, 2, 1657, 18), (209, 3, 1653, 18), (210, 2, 1661, 18), (211, 2, 1669, 18), (212, 2, 1673, 18), (213, 2, 1677, 18), (214, 0, 1681, 18), (215, 0, 1725, 18), (216, 0, 1729, 18), (217, 2, 1745, 18), (218, 0, 1749, 18), (219, 2, 1753, 18), (220, 2, 1741, 18), (221, 1, 1737, 18), (222, 2, 1733, 18), (223, 3, 1757, 18), (224, 1, 1761, 18), (225, 2, 1766, 18), (226, 1, 1773, 18), (227, 1, 1770, 18), (228, 2, 1777, 18), (229, 2, 1781, 18), (230, 3, 1785, 18), (231, 0, 1789, 18), (232, 1, 1797, 18), (233, 3, 1793, 18), (234, 2, 1805, 18), (235, 1, 1801, 18), (236, 3, 1809, 18), (237, 1, 1813, 18), (238, 1, 1817, 18), (239, 1, 1821, 18), (240, 1, 690, 20), (241, 1, 693, 20), (242, 1, 697, 20), (243, 1, 1075, 22), (246, 0, 436, 14), (247, 1, 446, 14), (248, 1, 643, 14), (249, 2, 647, 14), (250, 0, 440, 14), (251, 0, 450, 14), (252, 2, 456, 14), (253, 3, 678, 14), (254, 2, 453, 15), (255, 1, 654, 15), (256, 4, 651, 15), (257, 4, 663, 15), (258, 2, 474, 17), (259, 1, 470, 17), (260, 4, 666, 17), (261, 4, 672, 17), (262, 4, 684, 17), (263, 4, 687, 17), (264, 2, 464, 17), (265, 2, 467, 17), (266, 3, 675, 17), (267, 2, 1072, 4), (268, 2, 60, 4), (269, 3, 461, 16), (270, 4, 681, 16)]
def k_calb (q : Nat × Nat × Nat × Nat) : Bool := plainName (k_mt q.1).1.1.cls && decide ((k_mt q.1).1.2.2.1 ≤ 45) && k_tq q.2.2.2 (.initialized (k_mt q.1).1.1.cls) && decide ((k_mt q.1).1.1.cls ≠ "java/lang/invoke/MethodHandle") && decide ((k_mt q.1).1.1.cls ≠ "java/lang/invoke/VarHandle") && decide ((parseMethodDescriptor (k_mt q.1).1.1.desc).map (fun d => d.parameters.length) = some q.2.1)
theorem k_cal_all : k_cal.all k_calb = true := by decide +kernel
abbrev k_codeIn (q : Nat × Nat × Nat × Nat) : Prop := Cond.code (k_mt q.1).1.1 (k_mt q.1).1.2.1 (k_mt q.1).1.2.2.1 (k_mt q.1).1.2.2.2 ∈ lw_gd
set_option maxRecDepth 100000 in
theorem k_codes : ∀ q ∈ k_cal, k_codeIn q := List.forall_mem_cons.mpr ⟨k_cw0, List.forall_mem_cons.mpr ⟨k_cw1, List.forall_mem_cons.mpr ⟨k_cw2, List.forall_mem_cons.mpr ⟨k_cw3, List.forall_mem_cons.mpr ⟨k_cw4, List.forall_mem_cons.mpr ⟨k_cw5, List.forall_mem_cons.mpr ⟨k_cw6, List.forall_mem_cons.mpr ⟨k_cw7, List.forall_mem_cons.mpr ⟨k_cw8, List.forall_mem_cons.mpr ⟨k_cw9, List.forall_mem_cons.mpr ⟨k_cw10, List.forall_mem_cons.mpr ⟨k_cw11, List.forall_mem_cons.mpr ⟨k_cw12, List.forall_mem_cons.mpr ⟨k_cw13, List.forall_mem_cons.mpr ⟨k_cw14, List.forall_mem_cons.mpr ⟨k_cw15, List.forall_mem_cons.mpr ⟨k_cw16, List.forall_mem_cons.mpr ⟨k_cw17, List.forall_mem_cons.mpr ⟨k_cw18, List.forall_mem_cons.mpr ⟨k_cw19, List.forall_mem_cons.mpr ⟨k_cw20, List.forall_mem_cons.mpr ⟨k_cw21, List.forall_mem_cons.mpr ⟨k_cw22, List.forall_mem_cons.mpr ⟨k_cw23, List.forall_mem_cons.mpr ⟨k_cw24, List.forall_mem_cons.mpr ⟨k_cw25, List.forall_mem_cons.mpr ⟨k_cw26, List.forall_mem_cons.mpr ⟨k_cw27, List.forall_mem_cons.mpr ⟨k_cw28, List.forall_mem_cons.mpr ⟨k_cw29, List.forall_mem_cons.mpr ⟨k_cw30, List.forall_mem_cons.mpr ⟨k_cw31, List.forall_mem_cons.mpr ⟨k_cw32, List.forall_mem_cons.mpr ⟨k_cw33, List.forall_mem_cons.mpr ⟨k_cw34, List.forall_mem_cons.mpr ⟨k_cw35, List.forall_mem_cons.mpr ⟨k_cw36, List.forall_mem_cons.mpr ⟨k_cw37, List.forall_mem_cons.mpr ⟨k_cw38, List.forall_mem_cons.mpr ⟨k_cw39, List.forall_mem_cons.mpr ⟨k_cw40, List.forall_mem_cons.mpr ⟨k_cw41, List.forall_mem_cons.mpr ⟨k_cw42, List.forall_mem_cons.mpr ⟨k_cw43, List.forall_mem_cons.mpr ⟨k_cw44, List.forall_mem_cons.mpr ⟨k_cw45, List.forall_mem_cons.mpr ⟨k_cw46, List.forall_mem_cons.mpr ⟨k_cw47, List.forall_mem_cons.mpr ⟨k_cw48, List.forall_mem_cons.mpr ⟨k_cw49, List.forall_mem_cons.mpr ⟨k_cw50, List.forall_mem_cons.mpr ⟨k_cw51, List.forall_mem_cons.mpr ⟨k_cw52, List.forall_mem_cons.mpr ⟨k_cw53, List.forall_mem_cons.mpr ⟨k_cw54, List.forall_mem_cons.mpr ⟨k_cw55, List.forall_mem_cons.mpr ⟨k_cw56, List.forall_mem_cons.mpr ⟨k_cw57, List.forall_mem_cons.mpr ⟨k_cw58, List.forall_mem_cons.mpr ⟨k_cw59, List.forall_mem_cons.mpr ⟨k_cw60, List.forall_mem_cons.mpr ⟨k_cw61, List.forall_mem_cons.mpr ⟨k_cw62, List.forall_mem_cons.mpr ⟨k_cw63, List.forall_mem_cons.mpr ⟨k_cw64, List.forall_mem_cons.mpr ⟨k_cw65, List.forall_mem_cons.mpr ⟨k_cw66, List.forall_mem_cons.mpr ⟨k_cw67, List.forall_mem_cons.mpr ⟨k_cw68, List.forall_mem_cons.mpr ⟨k_cw69, List.forall_mem_cons.mpr ⟨k_cw70, List.forall_mem_cons.mpr ⟨k_cw71, List.forall_mem_cons.mpr ⟨k_cw72, List.forall_mem_cons.mpr ⟨k_cw73, List.forall_mem_cons.mpr ⟨k_cw74, List.forall_mem_cons.mpr ⟨k_cw75, List.forall_mem_cons.mpr ⟨k_cw76, List.forall_mem_cons.mpr ⟨k_cw77, List.forall_mem_cons.mpr ⟨k_cw78, List.forall_mem_cons.mpr ⟨k_cw79, List.forall_mem_cons.mpr ⟨k_cw80, List.forall_mem_cons.mpr ⟨k_cw81, List.forall_mem_cons.mpr ⟨k_cw82, List.forall_mem_cons.mpr ⟨k_cw83, List.forall_mem_cons.mpr ⟨k_cw84, List.forall_mem_cons.mpr ⟨k_cw85, List.forall_mem_cons.mpr ⟨k_cw86, List.forall_mem_cons.mpr ⟨k_cw87, List.forall_mem_cons.mpr ⟨k_cw88, List.forall_mem_cons.mpr ⟨k_cw89, List.forall_mem_cons.mpr ⟨k_cw90, List.forall_mem_cons.mpr ⟨k_cw91, List.forall_mem_cons.mpr ⟨k_cw92, List.forall_mem_cons.mpr ⟨k_cw93, List.forall_mem_cons.mpr ⟨k_cw94, List.forall_mem_cons.mpr ⟨k_cw95, List.forall_mem_cons.mpr ⟨k_cw96, List.forall_mem_cons.mpr ⟨k_cw97, List.forall_mem_cons.mpr ⟨k_cw98, List.forall_mem_cons.mpr ⟨k_cw99, List.forall_mem_cons.mpr ⟨k_cw100, List.forall_mem_cons.mpr ⟨k_cw101, List.forall_mem_cons.mpr ⟨k_cw102, List.forall_mem_cons.mpr ⟨k_cw103, List.forall_mem_cons.mpr ⟨k_cw104, List.forall_mem_cons.mpr ⟨k_cw105, List.forall_mem_cons.mpr ⟨k_cw106, List.forall_mem_cons.mpr ⟨k_cw107, List.forall_mem_cons.mpr ⟨k_cw108, List.forall_mem_cons.mpr ⟨k_cw109, List.forall_mem_cons.mpr ⟨k_cw110, List.forall_mem_cons.mpr ⟨k_cw111, List.forall_mem_cons.mpr ⟨k_cw112, List.forall_mem_cons.mpr ⟨k_cw113, List.forall_mem_cons.mpr ⟨k_cw114, List.forall_mem_cons.mpr ⟨k_cw115, List.forall_mem_cons.mpr ⟨k_cw116, List.forall_mem_cons.mpr ⟨k_cw117, List.forall_mem_cons.mpr ⟨k_cw118, List.forall_mem_cons.mpr ⟨k_cw119, List.forall_mem_cons.mpr ⟨k_cw120, List.forall_mem_cons.mpr ⟨k_cw121, List.forall_mem_cons.mpr ⟨k_cw122, List.forall_mem_cons.mpr ⟨k_cw123, List.forall_mem_cons.mpr ⟨k_cw124, List.forall_mem_cons.mpr ⟨k_cw125, List.forall_mem_cons.mpr ⟨k_cw126, List.forall_mem_cons.mpr ⟨k_cw127, List.forall_mem_cons.mpr ⟨k_cw128, List.forall_mem_cons.mpr ⟨k_cw129, List.forall_mem_cons.mpr ⟨k_cw130, List.forall_mem_cons.mpr ⟨k_cw131, List.forall_mem_cons.mpr ⟨k_cw132, List.forall_mem_cons.mpr ⟨k_cw133, List.forall_mem_cons.mpr ⟨k_cw134, List.forall_mem_cons.mpr ⟨k_cw135, List.forall_mem_cons.mpr ⟨k_cw136, List.forall_mem_cons.mpr ⟨k_cw137, List.forall_mem_cons.mpr ⟨k_cw138, List.forall_mem_cons.mpr ⟨k_cw139, List.forall_mem_cons.mpr ⟨k_cw140, List.forall_mem_cons.mpr ⟨k_cw141, List.forall_mem_cons.mpr ⟨k_cw142, List.forall_mem_cons.mpr ⟨k_cw143, List.forall_mem_cons.mpr ⟨k_cw144, List.forall_mem_cons.mpr ⟨k_cw145, List.forall_mem_cons.mpr ⟨k_cw146, List.forall_mem_cons.mpr ⟨k_cw147, List.forall_mem_cons.mpr ⟨k_cw148, List.forall_mem_cons.mpr ⟨k_cw149, List.forall_mem_cons.mpr ⟨k_cw150, List.forall_mem_cons.mpr ⟨k_cw151, List.forall_mem_cons.mpr ⟨k_cw152, List.forall_mem_cons.mpr ⟨k_cw153, List.forall_mem_cons.mpr ⟨k_cw154, List.forall_mem_cons.mpr ⟨k_cw155, List.forall_mem_cons.mpr ⟨k_cw156, List.forall_mem_cons.mpr ⟨k_cw157, List.forall_mem_cons.mpr ⟨k_cw158, List.forall_mem_cons.mpr ⟨k_cw159, List.forall_mem_cons.mpr ⟨k_cw160, List.forall_mem_cons.mpr ⟨k_cw161, List.forall_mem_cons.mpr ⟨k_cw162, List.forall_mem_cons.mpr ⟨k_cw163, List.forall_mem_cons.mpr ⟨k_cw164, List.forall_mem_cons.mpr ⟨k_cw165, List.forall_mem_cons.mpr ⟨k_cw166, List.forall_mem_cons.mpr ⟨k_cw167, List.forall_mem_cons.mpr ⟨k_cw168, List.forall_mem_cons.mpr ⟨k_cw169, List.forall_mem_cons.mpr ⟨k_cw170, List.forall_mem_cons.mpr ⟨k_cw171, List.forall_mem_cons.mpr ⟨k_cw172, List.forall_mem_cons.mpr ⟨k_cw173, List.forall_mem_cons.mpr ⟨k_cw174, List.forall_mem_cons.mpr ⟨k_cw175, List.forall_mem_cons.mpr ⟨k_cw176, List.forall_mem_cons.mpr ⟨k_cw177, List.forall_mem_cons.mpr ⟨k_cw178, List.forall_mem_cons.mpr ⟨k_cw179, List.forall_mem_cons.mpr ⟨k_cw180, List.forall_mem_cons.mpr ⟨k_cw181, List.forall_mem_cons.mpr ⟨k_cw182, List.forall_mem_cons.mpr ⟨k_cw183, List.forall_mem_cons.mpr ⟨k_cw184, List.forall_mem_cons.mpr ⟨k_cw185, List.forall_mem_cons.mpr ⟨k_cw186, List.forall_mem_cons.mpr ⟨k_cw187, List.forall_mem_cons.mpr ⟨k_cw188, List.forall_mem_cons.mpr ⟨k_cw189, List.forall_mem_cons.mpr ⟨k_cw190, List.forall_mem_cons.mpr ⟨k_cw191, List.forall_mem_cons.mpr ⟨k_cw192, List.forall_mem_cons.mpr ⟨k_cw193, List.forall_mem_cons.mpr ⟨k_cw194, List.forall_mem_cons.mpr ⟨k_cw195, List.forall_mem_cons.mpr ⟨k_cw196, List.forall_mem_cons.mpr ⟨k_cw197, List.forall_mem_cons.mpr ⟨k_cw198, List.forall_mem_cons.mpr ⟨k_cw199, List.forall_mem_cons.mpr ⟨k_cw200, List.forall_mem_cons.mpr ⟨k_cw201, List.forall_mem_cons.mpr ⟨k_cw202, List.forall_mem_cons.mpr ⟨k_cw203, List.forall_mem_cons.mpr ⟨k_cw204, List.forall_mem_cons.mpr ⟨k_cw205, List.forall_mem_cons.mpr ⟨k_cw206, List.forall_mem_cons.mpr ⟨k_cw207, List.forall_mem_cons.mpr ⟨k_cw208, List.forall_mem_cons.mpr ⟨k_cw209, List.forall_mem_cons.mpr ⟨k_cw210, List.forall_mem_cons.mpr ⟨k_cw211, List.forall_mem_cons.mpr ⟨k_cw212, List.forall_mem_cons.mpr ⟨k_cw213, List.forall_mem_cons.mpr ⟨k_cw214, List.forall_mem_cons.mpr ⟨k_cw215, List.forall_mem_cons.mpr ⟨k_cw216, List.forall_mem_cons.mpr ⟨k_cw217, List.forall_mem_cons.mpr ⟨k_cw218, List.forall_mem_cons.mpr ⟨k_cw219, List.forall_mem_cons.mpr ⟨k_cw220, List.forall_mem_cons.mpr ⟨k_cw221, List.forall_mem_cons.mpr ⟨k_cw222, List.forall_mem_cons.mpr ⟨k_cw223, List.forall_mem_cons.mpr ⟨k_cw224, List.forall_mem_cons.mpr ⟨k_cw225, List.forall_mem_cons.mpr ⟨k_cw226, List.forall_mem_cons.mpr ⟨k_cw227, List.forall_mem_cons.mpr ⟨k_cw228, List.forall_mem_cons.mpr ⟨k_cw229, List.forall_mem_cons.mpr ⟨k_cw230, List.forall_mem_cons.mpr ⟨k_cw231, List.forall_mem_cons.mpr ⟨k_cw232, List.forall_mem_cons.mpr ⟨k_cw233, List.forall_mem_cons.mpr ⟨k_cw234, List.forall_mem_cons.mpr ⟨k_cw235, List.forall_mem_cons.mpr ⟨k_cw236, List.forall_mem_cons.mpr ⟨k_cw237, List.forall_mem_cons.mpr ⟨k_cw238, List.forall_mem_cons.mpr ⟨k_cw239, List.forall_mem_cons.mpr ⟨k_cw240, List.forall_mem_cons.mpr ⟨k_cw241, List.forall_mem_cons.mpr ⟨k_cw242, List.forall_mem_cons.mpr ⟨k_cw243, List.forall_mem_cons.mpr ⟨k_cw246, List.forall_mem_cons.mpr ⟨k_cw247, List.forall_mem_cons.mpr ⟨k_cw248, List.forall_mem_cons.mpr ⟨k_cw249, List.forall_mem_cons.mpr ⟨k_cw250, List.forall_mem_cons.mpr ⟨k_cw251, List.forall_mem_cons.mpr ⟨k_cw252, List.forall_mem_cons.mpr ⟨k_cw253, List.forall_mem_cons.mpr ⟨k_cw254, List.forall_mem_cons.mpr ⟨k_cw255, List.forall_mem_cons.mpr ⟨k_cw256, List.forall_mem_cons.mpr ⟨k_cw257, List.forall_mem_cons.mpr ⟨k_cw258, List.forall_mem_cons.mpr ⟨k_cw259, List.forall_mem_cons.mpr ⟨k_cw260, List.forall_mem_cons.mpr ⟨k_cw261, List.forall_mem_cons.mpr ⟨k_cw262, List.forall_mem_cons.mpr ⟨k_cw263, List.forall_mem_cons.mpr ⟨k_cw264, List.forall_mem_cons.mpr ⟨k_cw265, List.forall_mem_cons.mpr ⟨k_cw266, List.forall_mem_cons.mpr ⟨k_cw267, List.forall_mem_cons.mpr ⟨k_cw268, List.forall_mem_cons.mpr ⟨k_cw269, List.forall_mem_cons.mpr ⟨k_cw270, fun _ h => absurd h List.not_mem_nil⟩⟩⟩⟩⟩⟩⟩⟩⟩⟩⟩⟩⟩⟩⟩⟩⟩⟩⟩⟩⟩⟩⟩⟩⟩⟩⟩⟩⟩⟩⟩⟩⟩⟩⟩⟩⟩⟩⟩⟩⟩⟩⟩⟩⟩⟩⟩⟩⟩⟩⟩⟩⟩⟩⟩⟩⟩⟩⟩⟩⟩⟩⟩⟩⟩⟩⟩⟩⟩⟩⟩⟩⟩⟩⟩⟩⟩⟩⟩⟩⟩⟩⟩⟩⟩⟩⟩⟩⟩⟩⟩⟩⟩⟩⟩⟩⟩⟩⟩⟩⟩⟩⟩⟩⟩⟩⟩⟩⟩⟩⟩⟩⟩⟩⟩⟩⟩⟩⟩⟩⟩⟩⟩⟩⟩⟩⟩⟩⟩⟩⟩⟩⟩⟩⟩⟩⟩⟩⟩⟩⟩⟩⟩⟩⟩⟩⟩⟩⟩⟩⟩⟩⟩⟩⟩⟩⟩⟩⟩⟩⟩⟩⟩⟩⟩⟩⟩⟩⟩⟩⟩⟩⟩⟩⟩⟩⟩⟩⟩⟩⟩⟩⟩⟩⟩⟩⟩⟩⟩⟩⟩⟩⟩⟩⟩⟩⟩⟩⟩⟩⟩⟩⟩⟩⟩⟩⟩⟩⟩⟩⟩⟩⟩⟩⟩⟩⟩⟩⟩⟩⟩⟩⟩⟩⟩⟩⟩⟩⟩⟩⟩⟩⟩⟩⟩⟩⟩⟩⟩⟩⟩⟩⟩⟩⟩⟩⟩⟩⟩⟩⟩⟩⟩⟩⟩⟩⟩⟩⟩⟩⟩⟩⟩⟩⟩⟩⟩⟩⟩
def k_isc (M na : Nat) : Bool := k_cal.any fun q => decide (q.1 = M) && decide (q.2.1 = na)
theorem k_isc_ok {M na : Nat} (h : k_isc M na = true) : g_called lw_gd (k_mt M) na := by
  obtain ⟨q, hq, h2⟩ := List.any_eq_true.mp h
  rw [Bool.and_eq_true, decide_eq_true_eq, decide_eq_true_eq] at h2
  obtain ⟨rfl, rfl⟩ := h2
  have h3 := List.all_eq_true.mp k_cal_all q hq
  unfold k_calb at h3
  simp only [Bool.and_eq_true, decide_eq_true_eq] at h3
  obtain ⟨⟨⟨⟨⟨a1, a2⟩, a4⟩, a5⟩, a6⟩, a7⟩ := h3
  exact ⟨a1, a2, k_codes q hq, k_tq_ok a4, a5, a6, a7⟩
/-- what an entry must keep -/
def g_pl (cl : List vw_C) (Ts : List Cond) (Ns : List (String × Nat × MethodName × String)) (C4 host : String) (tn : Nat → String × Nat × String) (mt : Nat → gM) (own : String) (q : Nat × Nat × List Nat) : Prop := match q.1 with
  | 0 => g_memok cl Ts own "" (.getfield q.2.1) q.2.2 ∧ g_txtok tn Ts own (.getfield q.2.1) q.2.2
  | 1 => g_memok cl Ts own "" (.putfield q.2.1) q.2.2
  | 12 => g_memok cl Ts own "<init>" (.putfield q.2.1) q.2.2
  | 2 => g_memok cl Ts own "" (.ldc q.2.1) q.2.2 ∧ g_txtok tn Ts own (.ldc q.2.1) q.2.2
  | 3 => g_memok cl Ts own "" (.ldc_w q.2.1) q.2.2
  | 4 => g_memok cl Ts own "" (.ldc2_w q.2.1) q.2.2
  | 5 => g_txtok tn Ts own (.getstatic q.2.1) q.2.2
  | 6 => g_newok cl Ts C4 own (.new q.2.1) q.2.2
  | 8 => g_newok cl Ts C4 own (.anewarray q.2.1) q.2.2
  | 9 => g_natok Ts own (.invokespecial q.2.1) q.2.2 ∧ g_invok cl Ts Ns mt host own (.invokespecial q.2.1) q.2.2
  | 10 => g_natok Ts own (.invokestatic q.2.1) q.2.2 ∧ g_invok cl Ts Ns mt host own (.invokestatic q.2.1) q.2.2
  | 11 => g_natok Ts own (.invokevirtual q.2.1) q.2.2 ∧ g_invok cl Ts Ns mt host own (.invokevirtual q.2.1) q.2.2
  | _ => False
abbrev k_pl (own : String) (q : Nat × Nat × List Nat) : Prop := g_pl k_cl lw_gd k_Ns "SleepWork$State" "SleepWork" k_tn k_mt own q
/-- the check of an entry: ps has the places of its words -/
def k_plb (own : String) (op ix : Nat) (r ps : List Nat) : Bool := match op, r, ps with
  | 0, [ci, k], [p] => (match k_cl[ci]? with | some q => decide (k < q.2.2) && k_tq p (.fieldLink own ix (q.2.1 k).1 (q.2.1 k).2.1 (q.2.1 k).2.2.1) | none => false)
  | 0, [0], [p] => k_tq p (.fieldLink own ix "java/lang/String" "value" "[B")
  | 0, [1], [p] => k_tq p (.fieldLink own ix "java/lang/String" "coder" "B")
  | 1, [ci, k], [p] => (match k_cl[ci]? with | some q => decide (k < q.2.2) && k_tq p (.fieldLink own ix (q.2.1 k).1 (q.2.1 k).2.1 (q.2.1 k).2.2.1) && !(q.2.1 k).2.2.2 | none => false)
  | 12, [ci, k], [p] => (match k_cl[ci]? with | some q => decide (k < q.2.2) && k_tq p (.fieldLink own ix (q.2.1 k).1 (q.2.1 k).2.1 (q.2.1 k).2.2.1) && (q.2.1 k).2.2.2 && decide ((q.2.1 k).1 = own) | none => false)
  | 2, [0, v], [p] => k_tq p (.constant own ix (Int32.ofNat v))
  | 2, [1, j], [] => decide ((k_tn j).1 = own) && decide ((k_tn j).2.1 = ix)
  | 3, [0, v], [p] => k_tq p (.constant own ix (Int32.ofNat v))
  | 4, [v], [p] => k_tq p (.constantLong own ix (Int64.ofNat v))
  | 5, [0], [p] => k_tq p (.fieldLink own ix "java/lang/String" "COMPACT_STRINGS" "Z")
  | 5, [1], [p] => k_tq p (.fieldLink own ix "jdk/internal/util/Preconditions" "SIOOBE_FORMATTER" "Ljava/util/function/BiFunction;")
  | 6, [ci], [p, p1, p2] => (match k_cl[ci]? with | some q => k_tq p (.classLink own ix q.1) && k_tq p1 (.instantiable q.1 q.2.2) && k_tq p2 (.initialized q.1) | none => false)
  | 8, [4], [p] => k_tq p (.classLink own ix "SleepWork$State")
  | 9, [0], [p, p1, p2] => k_tq p (.methodLink own ix objectInit) && k_tq p1 (.instanceMethod objectInit) && k_tq p2 (.code objectInit ⟨#[0xb1]⟩ 1 none)
  | 9, [3, M, na], [p, p1] => k_isc M na && k_tq p (.methodLink own ix (k_mt M).1.1) && k_tq p1 (.instanceMethod (k_mt M).1.1) && decide ((k_mt M).1.1.name = "<init>") && decide ((k_mt M).1.2.2.2 = none)
  | 9, [4, M, na], [p1] => k_isc M na && decide ((own, ix, (k_mt M).1.1, "SleepWork") ∈ k_Ns) && k_tq p1 (.instanceMethod (k_mt M).1.1) && decide ((k_mt M).1.1.name = "<init>") && decide ((k_mt M).1.2.2.2 = none)
  | 10, [5], [p, p1, p2, p3] => k_tq p (.methodLink own ix arraycopyName) && k_tq p1 (.native arraycopyName) && k_tq p2 (.static arraycopyName) && k_tq p3 (.initialized "java/lang/System")
  | 10, [7], [p, p1, p2, p3] => k_tq p (.methodLink own ix Lib.Math.max.name) && k_tq p1 (.static Lib.Math.max.name) && k_tq p2 (.initialized "java/lang/Math") && k_tq p3 (.code Lib.Math.max.name Lib.Math.max.code 2 (some .int))
  | 10, [8], [p, p1, p2, p3] => k_tq p (.methodLink own ix Lib.Math.min.name) && k_tq p1 (.static Lib.Math.min.name) && k_tq p2 (.initialized "java/lang/Math") && k_tq p3 (.code Lib.Math.min.name Lib.Math.min.code 2 (some .int))
  | 10, [1, M, na], [p, p1] => k_isc M na && k_tq p (.methodLink own ix (k_mt M).1.1) && k_tq p1 (.static (k_mt M).1.1)
  | 11, [2, M, na, ci], [p, p1, p2] => k_isc M na && k_tq p (.methodLink own ix (k_mt M).1.1) && k_tq p1 (.instanceMethod (k_mt M).1.1) && k_tq p2 (.selects (k_mt M).1.1.cls (k_mt M).1.1 (k_mt M).1.1) && (match k_cl[ci]? with | some q => decide (q.1 = (k_mt M).1.1.cls) | none => false)
  | 11, [6, M, na], [p, p1, p2] => k_isc M na && k_tq p (.methodLink own ix (k_mt M).1.1) && k_tq p1 (.instanceMethod (k_mt M).1.1) && k_tq p2 (.selects (k_mt M).1.1.cls (k_mt M).1.1 (k_mt M).1.1) && decide ((k_mt M).1.1.cls = "java/lang/String")
  | _, _, _ => false
theorem k_two {own : String} {ix : Nat} (ci k : Nat) : g_txtok k_tn lw_gd own (.getfield ix) [ci, k] := by rcases ci with _ | _ | ci <;> trivial
set_option maxHeartbeats 4000000 in
theorem k_plb_ok {own : String} {op ix : Nat} {r ps : List Nat} (h : k_plb own op ix r ps = true) : k_pl own (op, ix, r) := by
  unfold k_plb at h
  split at h
  · split at h
    next q hq => rw [Bool.and_eq_true] at h; exact ⟨⟨q, hq, of_decide_eq_true h.1, k_tq_ok h.2⟩, k_two _ _⟩
    next => cases h
  · exact ⟨trivial, k_tq_ok h⟩
  · exact ⟨trivial, k_tq_ok h⟩
  · split at h
    next q hq =>
      simp only [Bool.and_eq_true] at h
      exact ⟨q, hq, of_decide_eq_true h.1.1, k_tq_ok h.1.2, Or.inl (by simpa using h.2)⟩
    next => cases h
  · split at h
    next q hq =>
      simp only [Bool.and_eq_true] at h
      exact ⟨q, hq, of_decide_eq_true h.1.1.1, k_tq_ok h.1.1.2, Or.inr ⟨h.1.2, rfl, of_decide_eq_true h.2⟩⟩
    next => cases h
  · exact ⟨k_tq_ok h, trivial⟩
  · rw [Bool.and_eq_true] at h; exact ⟨trivial, of_decide_eq_true h.1, of_decide_eq_true h.2⟩
  · exact k_tq_ok h
  · exact k_tq_ok h
  · exact k_tq_ok h
  · exact k_tq_ok h
  · split at h
    next q hq =>
      simp only [Bool.and_eq_true] at h
      exact ⟨q, hq, k_tq_ok h.1.1, k_tq_ok h.1.2, k_tq_ok h.2⟩
    next => cases h
  · exact k_tq_ok h
  · simp only [Bool.and_eq_true] at h
    exact ⟨⟨k_tq_ok h.1.1, k_tq_ok h.1.2, k_tq_ok h.2⟩, trivial⟩
  · simp only [Bool.and_eq_true] at h
    exact ⟨trivial, k_isc_ok h.1.1.1.1, k_tq_ok h.1.1.1.2, k_tq_ok h.1.1.2, of_decide_eq_true h.1.2, of_decide_eq_true h.2⟩
  · simp only [Bool.and_eq_true] at h
    exact ⟨trivial, k_isc_ok h.1.1.1.1, of_decide_eq_true h.1.1.1.2, k_tq_ok h.1.1.2, of_decide_eq_true h.1.2, of_decide_eq_true h.2⟩
  · simp only [Bool.and_eq_true] at h
    exact ⟨⟨k_tq_ok h.1.1.1, k_tq_ok h.1.1.2, k_tq_ok h.1.2, k_tq_ok h.2⟩, trivial⟩
  · simp only [Bool.and_eq_true] at h
    exact ⟨⟨k_tq_ok h.1.1.1, k_tq_ok h.1.1.2, k_tq_ok h.1.2, k_tq_ok h.2⟩, trivial⟩
  · simp only [Bool.and_eq_true] at h
    exact ⟨⟨k_tq_ok h.1.1.1, k_tq_ok h.1.1.2, k_tq_ok h.1.2, k_tq_ok h.2⟩, trivial⟩
  · simp only [Bool.and_eq_true] at h
    exact ⟨trivial, k_isc_ok h.1.1, k_tq_ok h.1.2, k_tq_ok h.2⟩
  · simp only [Bool.and_eq_true] at h
    obtain ⟨⟨⟨⟨a1, a2⟩, a3⟩, a4⟩, a5⟩ := h
    split at a5
    next q hq => exact ⟨trivial, k_isc_ok a1, k_tq_ok a2, k_tq_ok a3, k_tq_ok a4, q, hq, of_decide_eq_true a5⟩
    next => cases a5
  · simp only [Bool.and_eq_true] at h
    exact ⟨trivial, k_isc_ok h.1.1.1.1, k_tq_ok h.1.1.1.2, k_tq_ok h.1.1.2, k_tq_ok h.1.2, of_decide_eq_true h.2⟩
  · cases h
theorem k_pool {own : String} {pl : List (Nat × Nat × List Nat)} (ps : List (List Nat)) (h : (pl.zip ps).all (fun q => k_plb own q.1.1 q.1.2.1 q.1.2.2 q.2) = true) (hl : pl.length = ps.length) : ∀ q ∈ pl, k_pl own q := by
  intro q hq
  obtain ⟨i, hi⟩ := List.getElem?_of_mem hq
  have hlt := (List.getElem?_eq_some_iff.mp hi).1
  have h2 : (pl.zip ps)[i]? = some (q, ps[i]'(by omega)) := by
    rw [List.getElem?_zip_eq_some]
    exact ⟨hi, List.getElem?_eq_getElem (by omega)⟩
  exact k_plb_ok (List.all_eq_true.mp h _ (List.mem_of_getElem? h2))
def k_p0 : List (Nat × Nat × List Nat) := [(0, 12, [0, 2]), (0, 18, [0, 6]), (0, 22, [0, 9]), (0, 26, [0, 14]), (0, 30, [0, 4]), (0, 34, [0, 1]), (0, 37, [0, 3]), (0, 46, [0, 0]), (0, 50, [6, 0]), (0, 62, [7, 7]), (0, 69, [1, 18]), (0, 78, [7, 8]), (0, 85, [0, 5]), (0, 96, [7, 4]), (0, 99, [0, 7]), (0, 102, [0, 8]), (0, 106, [0, 10]), (0, 123, [7, 2]), (0, 133, [1, 13]), (0, 136, [1, 17]), (0, 139, [7, 3]), (0, 142, [1, 14]), (0, 164, [1, 3]), (0, 167, [1, 11]), (0, 178, [0, 15]), (1, 18, [0, 6]), (1, 22, [0, 9]), (1, 30, [0, 4]), (1, 62, [7, 7]), (1, 78, [7, 8]), (1, 85, [0, 5]), (1, 99, [0, 7]), (1, 102, [0, 8]), (1, 106, [0, 10]), (1, 109, [0, 12]), (1, 112, [0, 13]), (1, 130, [0, 11]), (1, 178, [0, 15]), (2, 105, [0, 2294967296]), (2, 163, [0, 1000000]), (4, 176, [11400714819323198485]), (6, 9, [7]), (6, 41, [6]), (9, 3, [0]), (9, 11, [3, 83, 0]), (9, 43, [3, 74, 2]), (10, 149, [1, 243, 1]), (10, 170, [1, 267, 2]), (11, 54, [2, 94, 0, 10]), (11, 59, [2, 2, 0, 0]), (11, 65, [2, 95, 4, 10]), (11, 74, [2, 75, 3, 6]), (11, 81, [2, 27, 1, 1]), (11, 88, [2, 85, 1, 7]), (11, 92, [2, 7, 0, 0]), (11, 115, [2, 8, 3, 0]), (11, 119, [2, 24, 1, 1]), (11, 126, [2, 9, 3, 0]), (11, 145, [2, 15, 1, 0]), (11, 155, [2, 14, 1, 0]), (11, 159, [2, 16, 1, 0]), (11, 181, [2, 92, 2, 9]), (11, 187, [2, 19, 2, 0]), (12, 12, [0, 2]), (12, 26, [0, 14]), (12, 34, [0, 1]), (12, 37, [0, 3]), (12, 46, [0, 0])]
theorem k_pok0 : ∀ q ∈ k_p0, k_pl "SleepWork$Evening" q := k_pool [[367], [371], [374], [383], [369], [366], [368], [365], [334], [92], [263], [96], [370], [81], [372], [373], [375], [73], [245], [261], [77], [248], [207], [236], [385], [371], [374], [369], [92], [96], [370], [372], [373], [375], [379], [381], [377], [385], [1021], [1083], [1088], [311, 49, 3], [313, 314, 10], [310, 29, 30], [312, 51], [315, 316], [1073, 1074], [1070, 1071], [821, 822, 823], [825, 826, 827], [882, 883, 884], [941, 942, 943], [1003, 933, 934], [1004, 811, 812], [1005, 1007, 100040], [1017, 1019, 100041], [1022, 1023, 1024], [1026, 1028, 100042], [1066, 1068, 100044], [1079, 1081, 100045], [1084, 1086, 100046], [1129, 1130, 1131], [1141, 1143, 100048], [367], [383], [366], [368], [365]] (by decide +kernel) (by decide +kernel)
def k_p1 : List (Nat × Nat × List Nat) := [(0, 24, [1, 4]), (0, 30, [1, 6]), (0, 33, [1, 7]), (0, 36, [1, 8]), (0, 42, [1, 10]), (0, 51, [1, 12]), (0, 68, [1, 16]), (0, 84, [7, 0]), (1, 58, [1, 13]), (1, 62, [1, 14]), (1, 65, [1, 15]), (1, 68, [1, 16]), (1, 71, [1, 17]), (1, 74, [1, 18]), (6, 48, [2]), (9, 3, [0]), (9, 50, [4, 29, 0]), (10, 77, [1, 268, 2]), (10, 89, [8]), (11, 55, [2, 22, 0, 1]), (11, 83, [2, 30, 0, 2]), (11, 95, [2, 26, 2, 1]), (12, 9, [1, 0]), (12, 15, [1, 1]), (12, 18, [1, 2]), (12, 21, [1, 3]), (12, 24, [1, 4]), (12, 27, [1, 5]), (12, 30, [1, 6]), (12, 33, [1, 7]), (12, 36, [1, 8]), (12, 39, [1, 9]), (12, 42, [1, 10]), (12, 45, [1, 11]), (12, 51, [1, 12])]
theorem k_pok1 : ∀ q ∈ k_p1, k_pl "SleepWork$House" q := k_pool [[209], [217], [220], [223], [230], [238], [254], [63], [241], [246], [251], [254], [257], [262], [161, 162, 8], [160, 29, 30], [164], [189, 59], [841, 659, 19, 660], [185, 186, 187], [190, 191, 192], [936, 838, 839], [195], [198], [201], [204], [209], [213], [217], [220], [223], [226], [230], [233], [238]] (by decide +kernel) (by decide +kernel)
def k_p2 : List (Nat × Nat × List Nat) := [(0, 9, [2, 0]), (0, 15, [2, 1]), (0, 18, [2, 2]), (0, 21, [2, 3]), (0, 24, [2, 4]), (1, 24, [2, 4]), (9, 3, [0]), (10, 28, [1, 268, 2]), (10, 34, [1, 34, 3]), (12, 9, [2, 0]), (12, 15, [2, 1]), (12, 18, [2, 2]), (12, 21, [2, 3])]
theorem k_pok2 : ∀ q ∈ k_p2, k_pl "SleepWork$Laws" q := k_pool [[167], [169], [170], [171], [172], [172], [166, 29, 30], [194, 59], [979, 980], [167], [169], [170], [171]] (by decide +kernel) (by decide +kernel)
def k_p3 : List (Nat × Nat × List Nat) := [(0, 11, [3, 0]), (0, 16, [3, 2]), (0, 20, [3, 1]), (1, 16, [3, 2]), (1, 20, [3, 1]), (6, 9, [7]), (8, 9, [4]), (9, 1, [0]), (9, 15, [3, 83, 0]), (11, 23, [2, 85, 1, 7]), (12, 11, [3, 0])]
theorem k_pok3 : ∀ q ∈ k_p3, k_pl "SleepWork$Past" q := k_pool [[127], [129], [128], [129], [128], [124, 49, 3], [124], [123, 29, 30], [126, 51], [931, 811, 812], [127]] (by decide +kernel) (by decide +kernel)
def k_p4 : List (Nat × Nat × List Nat) := [(0, 12, [4, 0]), (0, 18, [4, 1]), (0, 22, [4, 2]), (0, 25, [4, 3]), (0, 28, [4, 4]), (0, 31, [4, 5]), (0, 35, [4, 6]), (0, 43, [4, 10]), (0, 51, [5, 0]), (0, 55, [4, 7]), (0, 82, [5, 1]), (0, 89, [4, 12]), (0, 92, [4, 13]), (0, 95, [4, 11]), (0, 106, [4, 8]), (0, 109, [4, 9]), (0, 119, [5, 3]), (0, 122, [1, 13]), (0, 129, [1, 15]), (0, 132, [1, 16]), (0, 135, [1, 17]), (0, 142, [5, 2]), (0, 145, [1, 4]), (0, 160, [1, 14]), (0, 167, [1, 0]), (0, 170, [1, 1]), (0, 173, [1, 2]), (0, 176, [7, 7]), (0, 179, [7, 3]), (0, 182, [1, 3]), (0, 185, [7, 1]), (0, 196, [1, 5]), (0, 199, [1, 6]), (0, 202, [1, 7]), (0, 205, [1, 8]), (0, 208, [1, 9]), (0, 211, [1, 10]), (0, 214, [1, 11]), (0, 217, [7, 2]), (0, 223, [1, 12]), (0, 227, [2, 4]), (0, 241, [2, 0]), (1, 31, [4, 5]), (1, 35, [4, 6]), (1, 43, [4, 10]), (1, 55, [4, 7]), (1, 89, [4, 12]), (1, 92, [4, 13]), (1, 95, [4, 11]), (1, 106, [4, 8]), (1, 109, [4, 9]), (1, 122, [1, 13]), (1, 129, [1, 15]), (1, 132, [1, 16]), (1, 135, [1, 17]), (1, 160, [1, 14]), (1, 176, [7, 7]), (1, 220, [1, 18]), (6, 9, [5]), (9, 3, [0]), (9, 11, [3, 66, 0]), (10, 125, [1, 49, 3]), (11, 39, [2, 41, 3, 4]), (11, 47, [2, 44, 1, 4]), (11, 58, [2, 52, 0, 4]), (11, 61, [2, 53, 0, 4]), (11, 64, [2, 54, 0, 4]), (11, 67, [2, 55, 0, 4]), (11, 70, [2, 56, 0, 4]), (11, 73, [2, 58, 0, 4]), (11, 76, [2, 60, 0, 4]), (11, 79, [2, 59, 0, 4]), (11, 85, [2, 42, 2, 4]), (11, 98, [2, 22, 0, 1]), (11, 103, [2, 84, 0, 7]), (11, 112, [2, 67, 1, 5]), (11, 116, [2, 45, 1, 4]), (11, 138, [2, 43, 1, 4]), (11, 148, [2, 50, 2, 4]), (11, 152, [2, 46, 3, 4]), (11, 156, [2, 47, 2, 4]), (11, 163, [2, 48, 2, 4]), (11, 188, [2, 57, 0, 4]), (11, 192, [2, 51, 1, 4]), (11, 232, [2, 61, 0, 4]), (11, 235, [2, 62, 1, 4]), (11, 238, [2, 31, 2, 2]), (11, 244, [2, 32, 1, 2]), (11, 247, [2, 65, 1, 4]), (11, 250, [2, 63, 1, 4]), (11, 253, [2, 64, 2, 4]), (12, 12, [4, 0]), (12, 18, [4, 1]), (12, 22, [4, 2]), (12, 25, [4, 3]), (12, 28, [4, 4])]
theorem k_pok4 : ∀ q ∈ k_p4, k_pl "SleepWork$Reader" q := k_pool [[504], [505], [506], [507], [508], [509], [510], [514], [482], [511], [484], [516], [517], [515], [512], [513], [488], [243], [252], [256], [260], [486], [212], [249], [197], [200], [203], [93], [79], [208], [69], [216], [219], [222], [225], [229], [232], [237], [74], [240], [173], [168], [509], [510], [514], [511], [516], [517], [515], [512], [513], [243], [252], [256], [260], [249], [93], [264], [426, 427, 13], [425, 29, 30], [428, 429], [723, 724], [608, 610, 100000], [699, 701, 100004], [703, 705, 100005], [730, 732, 100011], [742, 744, 100014], [746, 748, 100015], [750, 752, 100016], [762, 764, 100019], [766, 768, 100020], [798, 800, 100026], [711, 713, 100007], [612, 186, 187], [613, 55, 56], [614, 615, 616], [715, 717, 100008], [726, 728, 100010], [738, 740, 100013], [707, 709, 100006], [719, 721, 100009], [734, 736, 100012], [754, 756, 100017], [758, 760, 100018], [770, 772, 100021], [774, 776, 100022], [782, 783, 784], [794, 795, 796], [778, 780, 100023], [786, 788, 100024], [790, 792, 100025], [504], [505], [506], [507], [508]] (by decide +kernel) (by decide +kernel)
def k_p5 : List (Nat × Nat × List Nat) := [(0, 9, [5, 0]), (0, 13, [5, 1]), (0, 16, [5, 2]), (0, 19, [5, 3]), (0, 23, [5, 4]), (0, 38, [5, 5]), (0, 46, [8, 1]), (0, 51, [8, 0]), (1, 38, [5, 5]), (2, 26, [1, 0]), (2, 71, [1, 1]), (9, 1, [0]), (10, 55, [1, 71, 1]), (10, 59, [1, 72, 1]), (10, 65, [1, 73, 1]), (11, 28, [6, 246, 0]), (11, 34, [6, 247, 1]), (11, 42, [2, 68, 2, 5]), (11, 62, [2, 69, 2, 5]), (11, 68, [2, 70, 2, 5]), (11, 73, [6, 248, 1]), (12, 9, [5, 0]), (12, 13, [5, 1]), (12, 16, [5, 2]), (12, 19, [5, 3]), (12, 23, [5, 4])]
theorem k_pok5 : ∀ q ∈ k_p5, k_pl "SleepWork$Scanner" q := k_pool [[481], [483], [485], [487], [489], [490], [41], [38], [490], [], [], [431, 29, 30], [622, 623], [625, 626], [632, 633], [433, 434, 435], [443, 444, 445], [618, 620, 100001], [628, 630, 100002], [635, 637, 100003], [640, 641, 642], [481], [483], [485], [487], [489]] (by decide +kernel) (by decide +kernel)
def k_p6 : List (Nat × Nat × List Nat) := [(0, 12, [6, 0]), (0, 18, [6, 1]), (0, 22, [6, 2]), (0, 25, [6, 3]), (0, 28, [6, 4]), (0, 31, [6, 5]), (0, 34, [6, 6]), (0, 39, [6, 7]), (0, 42, [6, 8]), (0, 46, [6, 9]), (0, 67, [1, 17]), (0, 81, [7, 2]), (0, 86, [7, 6]), (0, 89, [1, 3]), (0, 92, [7, 7]), (0, 95, [1, 11]), (0, 112, [1, 9]), (0, 119, [7, 1]), (0, 129, [7, 3]), (0, 132, [1, 5]), (0, 135, [7, 0]), (0, 138, [1, 4]), (0, 141, [1, 12]), (0, 152, [7, 4]), (0, 155, [7, 5]), (1, 42, [6, 8]), (1, 46, [6, 9]), (2, 77, [0, 1000000]), (6, 9, [10]), (9, 3, [0]), (9, 11, [4, 93, 0]), (10, 50, [1, 268, 2]), (10, 102, [8]), (10, 149, [7]), (11, 56, [2, 76, 0, 6]), (11, 59, [2, 77, 0, 6]), (11, 63, [2, 78, 1, 6]), (11, 73, [2, 79, 2, 6]), (11, 78, [2, 82, 0, 6]), (11, 98, [2, 95, 4, 10]), (11, 108, [2, 28, 3, 1]), (11, 115, [2, 25, 2, 1]), (11, 122, [2, 80, 2, 6]), (11, 125, [2, 81, 3, 6]), (11, 145, [2, 33, 2, 2]), (12, 12, [6, 0]), (12, 18, [6, 1]), (12, 22, [6, 2]), (12, 25, [6, 3]), (12, 28, [6, 4]), (12, 31, [6, 5]), (12, 34, [6, 6]), (12, 39, [6, 7])]
theorem k_pok6 : ∀ q ∈ k_p6, k_pl "SleepWork$Sleep" q := k_pool [[333], [335], [336], [337], [338], [339], [340], [341], [342], [343], [258], [71], [88], [205], [91], [234], [227], [67], [76], [214], [64], [211], [239], [82], [85], [342], [343], [950], [319, 320, 11], [318, 29, 30], [322], [945, 59], [956, 659, 19, 660], [982, 656, 19, 657], [946, 948, 100033], [952, 954, 100034], [957, 959, 100035], [962, 964, 100036], [983, 985, 100039], [951, 883, 884], [961, 908, 909], [966, 843, 844], [967, 969, 100037], [971, 973, 100038], [975, 976, 977], [333], [335], [336], [337], [338], [339], [340], [341]] (by decide +kernel) (by decide +kernel)
def k_p7 : List (Nat × Nat × List Nat) := [(0, 9, [7, 0]), (0, 15, [7, 1]), (0, 18, [7, 2]), (0, 21, [7, 3]), (0, 24, [7, 4]), (0, 27, [7, 5]), (0, 30, [7, 6]), (0, 42, [7, 7]), (0, 46, [7, 8]), (1, 42, [7, 7]), (1, 46, [7, 8]), (9, 3, [0]), (10, 36, [1, 268, 2]), (10, 49, [5]), (11, 33, [2, 84, 0, 7]), (12, 9, [7, 0]), (12, 15, [7, 1]), (12, 18, [7, 2]), (12, 21, [7, 3]), (12, 24, [7, 4]), (12, 27, [7, 5]), (12, 30, [7, 6])]
theorem k_pok7 : ∀ q ∈ k_p7, k_pl "SleepWork$State" q := k_pool [[61], [66], [70], [75], [80], [84], [87], [90], [95], [90], [95], [53, 29, 30], [58, 59], [814, 816, 815, 21], [54, 55, 56], [61], [66], [70], [75], [80], [84], [87]] (by decide +kernel) (by decide +kernel)
def k_p8 : List (Nat × Nat × List Nat) := [(0, 9, [8, 0]), (0, 13, [8, 1]), (1, 13, [8, 1]), (9, 1, [0]), (12, 9, [8, 0])]
theorem k_pok8 : ∀ q ∈ k_p8, k_pl "SleepWork$Tape" q := k_pool [[37], [39], [39], [36, 29, 30], [37]] (by decide +kernel) (by decide +kernel)
def k_p9 : List (Nat × Nat × List Nat) := [(0, 9, [9, 0]), (0, 13, [9, 1]), (0, 16, [9, 2]), (0, 20, [7, 0]), (1, 16, [9, 2]), (9, 1, [0]), (12, 9, [9, 0]), (12, 13, [9, 1])]
theorem k_pok9 : ∀ q ∈ k_p9, k_pl "SleepWork$Told" q := k_pool [[144], [145], [146], [62], [146], [143, 29, 30], [144], [145]] (by decide +kernel) (by decide +kernel)
def k_p10 : List (Nat × Nat × List Nat) := [(0, 9, [10, 0]), (0, 15, [10, 1]), (0, 23, [1, 13]), (0, 39, [1, 14]), (0, 42, [1, 0]), (0, 45, [1, 1]), (0, 48, [1, 2]), (1, 15, [10, 1]), (2, 32, [0, 1000000]), (9, 3, [0]), (10, 33, [1, 268, 2]), (10, 51, [8]), (11, 19, [2, 96, 2, 10]), (11, 28, [2, 97, 1, 10]), (12, 9, [10, 0])]
theorem k_pok10 : ∀ q ∈ k_p10, k_pl "SleepWork$Ways" q := k_pool [[325], [326], [242], [247], [196], [199], [202], [326], [890], [324, 29, 30], [891, 59], [892, 659, 19, 660], [886, 888, 100031], [893, 895, 100032], [325]] (by decide +kernel) (by decide +kernel)
def k_p11 : List (Nat × Nat × List Nat) := [(0, 12, [11, 0]), (0, 19, [11, 1]), (0, 23, [11, 2]), (0, 29, [11, 3]), (0, 36, [11, 4]), (0, 40, [11, 5]), (0, 47, [11, 8]), (0, 51, [11, 9]), (0, 54, [11, 11]), (0, 63, [11, 6]), (0, 72, [11, 7]), (0, 84, [8, 1]), (0, 102, [3, 2]), (0, 103, [9, 2]), (0, 104, [11, 10]), (0, 111, [1, 16]), (0, 114, [1, 3]), (0, 118, [1, 4]), (0, 121, [7, 1]), (0, 136, [7, 0]), (0, 139, [1, 5]), (0, 142, [1, 6]), (0, 145, [1, 7]), (0, 148, [1, 8]), (0, 151, [1, 9]), (0, 154, [1, 10]), (0, 161, [7, 2]), (0, 164, [1, 11]), (0, 167, [7, 4]), (0, 170, [7, 5]), (0, 173, [7, 6]), (0, 176, [1, 17]), (0, 179, [1, 15]), (0, 182, [1, 13]), (0, 188, [7, 3]), (0, 206, [1, 14]), (0, 209, [7, 7]), (0, 232, [0, 10]), (0, 235, [0, 12]), (0, 249, [0, 13]), (0, 253, [0, 11]), (0, 262, [1, 18]), (0, 280, [0, 15]), (0, 283, [0, 14]), (0, 293, [7, 8]), (1, 47, [11, 8]), (1, 51, [11, 9]), (1, 54, [11, 11]), (1, 84, [8, 1]), (1, 102, [3, 2]), (1, 103, [9, 2]), (1, 104, [11, 10]), (1, 209, [7, 7]), (2, 198, [0, 1000000]), (2, 252, [0, 4293967296]), (6, 9, [8]), (6, 16, [7]), (6, 26, [3]), (6, 33, [9]), (6, 44, [1]), (6, 58, [0]), (6, 67, [4]), (8, 16, [4]), (9, 3, [0]), (9, 11, [4, 86, 0]), (9, 18, [3, 83, 0]), (9, 28, [3, 35, 0]), (9, 35, [4, 89, 0]), (9, 46, [3, 21, 0]), (9, 60, [3, 0, 3]), (9, 69, [3, 38, 2]), (10, 238, [1, 124, 1]), (10, 296, [1, 243, 1]), (11, 76, [2, 87, 0, 8]), (11, 80, [2, 88, 1, 8]), (11, 87, [2, 39, 3, 4]), (11, 91, [2, 40, 0, 4]), (11, 95, [2, 102, 0, 11]), (11, 98, [2, 85, 1, 7]), (11, 107, [2, 1, 1, 0]), (11, 124, [2, 26, 2, 1]), (11, 128, [2, 25, 2, 1]), (11, 132, [2, 23, 2, 1]), (11, 157, [2, 107, 1, 11]), (11, 185, [2, 108, 1, 11]), (11, 191, [2, 109, 1, 11]), (11, 194, [2, 3, 2, 0]), (11, 199, [2, 2, 0, 0]), (11, 202, [2, 28, 3, 1]), (11, 212, [2, 36, 1, 3]), (11, 215, [2, 27, 1, 1]), (11, 219, [2, 4, 0, 0]), (11, 222, [2, 37, 1, 3]), (11, 226, [2, 5, 0, 0]), (11, 229, [2, 10, 1, 0]), (11, 242, [2, 110, 2, 11]), (11, 245, [2, 11, 2, 0]), (11, 256, [2, 12, 1, 0]), (11, 259, [2, 13, 0, 0]), (11, 265, [2, 6, 2, 0]), (11, 268, [2, 90, 0, 9]), (11, 271, [2, 91, 2, 9]), (11, 274, [2, 111, 1, 11]), (11, 277, [2, 17, 2, 0]), (11, 286, [2, 18, 1, 0]), (11, 289, [2, 20, 3, 0]), (12, 12, [11, 0]), (12, 19, [11, 1]), (12, 23, [11, 2]), (12, 29, [11, 3]), (12, 36, [11, 4]), (12, 40, [11, 5]), (12, 63, [11, 6]), (12, 72, [11, 7])]
theorem k_pok11 : ∀ q ∈ k_p11, k_pl "SleepWork" q := k_pool [[547], [548], [549], [550], [551], [552], [555], [556], [558], [553], [554], [40], [130], [147], [557], [255], [206], [210], [68], [65], [215], [218], [221], [224], [228], [231], [72], [235], [83], [86], [89], [259], [253], [244], [78], [250], [94], [376], [380], [382], [378], [265], [386], [384], [97], [555], [556], [558], [40], [130], [147], [557], [94], [897], [1049], [31, 32, 2], [48, 49, 3], [118, 119, 5], [138, 139, 6], [155, 156, 7], [305, 306, 9], [420, 421, 12], [48], [28, 29, 30], [34], [50, 51], [120, 121], [141], [157, 158], [307, 308], [422, 423], [1030, 1031], [1165, 1074], [588, 589, 590], [592, 593, 594], [604, 605, 606], [802, 803, 804], [806, 808, 100027], [810, 811, 812], [817, 818, 819], [837, 838, 839], [842, 843, 844], [850, 851, 852], [858, 860, 100028], [866, 868, 100029], [874, 876, 100030], [878, 879, 880], [902, 826, 827], [907, 908, 909], [927, 928, 929], [932, 933, 934], [937, 938, 939], [991, 992, 993], [999, 1000, 1001], [1013, 1014, 1015], [1037, 1039, 100043], [1041, 1042, 1043], [1054, 1055, 1056], [1062, 1063, 1064], [1097, 1098, 1099], [1105, 1106, 1107], [1109, 1110, 1111], [1121, 1123, 100047], [1125, 1126, 1127], [1137, 1138, 1139], [1149, 1150, 1151], [547], [548], [549], [550], [551], [552], [553], [554]] (by decide +kernel) (by decide +kernel)
def k_p12 : List (Nat × Nat × List Nat) := [(0, 13, [12, 1]), (0, 17, [12, 3]), (0, 20, [12, 5]), (0, 24, [12, 6]), (0, 27, [12, 7]), (0, 30, [12, 8]), (0, 34, [12, 9]), (0, 37, [12, 17]), (0, 40, [12, 21]), (0, 43, [12, 22]), (0, 46, [12, 23]), (0, 49, [12, 24]), (0, 52, [12, 25]), (0, 55, [12, 26]), (0, 58, [12, 27]), (0, 61, [12, 28]), (0, 64, [12, 29]), (0, 68, [12, 30]), (0, 71, [12, 31]), (0, 74, [12, 32]), (0, 77, [12, 33]), (0, 80, [12, 34]), (0, 83, [12, 35]), (0, 86, [12, 36]), (0, 89, [12, 37]), (0, 92, [12, 38]), (0, 95, [12, 39]), (0, 98, [12, 40]), (0, 101, [12, 41]), (0, 104, [12, 42]), (0, 107, [12, 43]), (0, 110, [12, 44]), (0, 113, [12, 45]), (0, 116, [12, 46]), (0, 119, [12, 47]), (0, 122, [12, 48]), (0, 125, [12, 50]), (0, 128, [12, 51]), (0, 131, [12, 52]), (0, 134, [12, 53]), (0, 137, [12, 54]), (0, 140, [12, 55]), (0, 143, [12, 57]), (0, 146, [12, 58]), (0, 149, [12, 59]), (0, 152, [12, 61]), (0, 155, [12, 62]), (0, 158, [12, 64]), (0, 161, [12, 65]), (0, 164, [12, 66]), (0, 167, [12, 67]), (0, 170, [12, 68]), (0, 173, [12, 69]), (0, 176, [12, 70]), (0, 179, [12, 71]), (0, 182, [12, 72]), (0, 185, [12, 73]), (0, 188, [12, 75]), (0, 191, [12, 78]), (0, 194, [12, 79]), (0, 197, [12, 80]), (0, 200, [12, 81]), (0, 203, [12, 82]), (0, 210, [12, 2]), (0, 217, [12, 4]), (0, 226, [12, 10]), (0, 248, [12, 13]), (0, 251, [12, 11]), (0, 254, [12, 14]), (0, 257, [12, 15]), (0, 260, [12, 16]), (0, 275, [12, 12]), (0, 278, [12, 18]), (0, 281, [12, 19]), (0, 284, [12, 20]), (0, 287, [12, 49]), (0, 290, [12, 56]), (0, 299, [12, 74]), (0, 302, [12, 77]), (0, 360, [12, 60]), (0, 373, [12, 63]), (0, 467, [12, 76]), (1, 37, [12, 17]), (1, 210, [12, 2]), (1, 217, [12, 4]), (1, 226, [12, 10]), (1, 248, [12, 13]), (1, 251, [12, 11]), (1, 254, [12, 14]), (1, 257, [12, 15]), (1, 260, [12, 16]), (1, 275, [12, 12]), (1, 278, [12, 18]), (1, 281, [12, 19]), (1, 284, [12, 20]), (1, 287, [12, 49]), (1, 290, [12, 56]), (1, 299, [12, 74]), (1, 302, [12, 77]), (1, 360, [12, 60]), (1, 373, [12, 63]), (1, 467, [12, 76]), (3, 399, [0, 1000000]), (3, 479, [0, 4293967296]), (4, 220, [27]), (9, 7, [0]), (10, 206, [1, 146, 7]), (10, 222, [1, 145, 2]), (10, 237, [1, 144, 1]), (10, 241, [1, 143, 1]), (10, 380, [1, 177, 3]), (10, 443, [1, 203, 1]), (10, 480, [1, 226, 1]), (11, 213, [2, 140, 1, 12]), (11, 229, [2, 142, 1, 12]), (11, 233, [2, 147, 4, 12]), (11, 244, [2, 149, 3, 12]), (11, 263, [2, 151, 1, 12]), (11, 266, [2, 150, 1, 12]), (11, 269, [2, 153, 0, 12]), (11, 272, [2, 148, 0, 12]), (11, 293, [2, 159, 0, 12]), (11, 296, [2, 187, 0, 12]), (11, 305, [2, 158, 2, 12]), (11, 309, [2, 164, 0, 12]), (11, 312, [2, 165, 0, 12]), (11, 315, [2, 166, 0, 12]), (11, 318, [2, 167, 0, 12]), (11, 321, [2, 168, 1, 12]), (11, 324, [2, 169, 0, 12]), (11, 327, [2, 170, 0, 12]), (11, 330, [2, 163, 2, 12]), (11, 334, [2, 154, 1, 12]), (11, 337, [2, 152, 2, 12]), (11, 340, [2, 160, 0, 12]), (11, 344, [2, 161, 3, 12]), (11, 348, [2, 162, 1, 12]), (11, 351, [2, 157, 2, 12]), (11, 354, [2, 174, 0, 12]), (11, 357, [2, 171, 0, 12]), (11, 363, [2, 172, 2, 12]), (11, 366, [2, 175, 0, 12]), (11, 369, [2, 173, 1, 12]), (11, 377, [2, 178, 0, 12]), (11, 384, [2, 182, 1, 12]), (11, 387, [2, 180, 1, 12]), (11, 390, [2, 179, 0, 12]), (11, 393, [2, 181, 2, 12]), (11, 396, [2, 190, 1, 12]), (11, 400, [2, 176, 2, 12]), (11, 403, [2, 195, 2, 12]), (11, 406, [2, 189, 1, 12]), (11, 409, [2, 197, 2, 12]), (11, 412, [2, 194, 2, 12]), (11, 415, [2, 198, 2, 12]), (11, 419, [2, 192, 0, 12]), (11, 422, [2, 193, 1, 12]), (11, 425, [2, 196, 1, 12]), (11, 428, [2, 199, 2, 12]), (11, 431, [2, 191, 0, 12]), (11, 434, [2, 200, 1, 12]), (11, 437, [2, 188, 0, 12]), (11, 440, [2, 183, 2, 12]), (11, 446, [2, 184, 1, 12]), (11, 449, [2, 186, 1, 12]), (11, 452, [2, 185, 1, 12]), (11, 455, [2, 208, 2, 12]), (11, 458, [2, 201, 0, 12]), (11, 461, [2, 217, 2, 12]), (11, 464, [2, 220, 2, 12]), (11, 470, [2, 218, 0, 12]), (11, 473, [2, 221, 1, 12]), (11, 476, [2, 219, 2, 12]), (11, 483, [2, 232, 1, 12]), (11, 486, [2, 234, 2, 12]), (12, 13, [12, 1]), (12, 17, [12, 3]), (12, 20, [12, 5]), (12, 24, [12, 6]), (12, 27, [12, 7]), (12, 30, [12, 8]), (12, 34, [12, 9]), (12, 40, [12, 21]), (12, 43, [12, 22]), (12, 46, [12, 23]), (12, 49, [12, 24]), (12, 52, [12, 25]), (12, 55, [12, 26]), (12, 58, [12, 27]), (12, 61, [12, 28]), (12, 64, [12, 29]), (12, 68, [12, 30]), (12, 71, [12, 31]), (12, 74, [12, 32]), (12, 77, [12, 33]), (12, 80, [12, 34]), (12, 83, [12, 35]), (12, 86, [12, 36]), (12, 89, [12, 37]), (12, 92, [12, 38]), (12, 95, [12, 39]), (12, 98, [12, 40]), (12, 101, [12, 41]), (12, 104, [12, 42]), (12, 107, [12, 43]), (12, 110, [12, 44]), (12, 113, [12, 45]), (12, 116, [12, 46]), (12, 119, [12, 47]), (12, 122, [12, 48]), (12, 125, [12, 50]), (12, 128, [12, 51]), (12, 131, [12, 52]), (12, 134, [12, 53]), (12, 137, [12, 54]), (12, 140, [12, 55]), (12, 143, [12, 57]), (12, 146, [12, 58]), (12, 149, [12, 59]), (12, 152, [12, 61]), (12, 155, [12, 62]), (12, 158, [12, 64]), (12, 161, [12, 65]), (12, 164, [12, 66]), (12, 167, [12, 67]), (12, 170, [12, 68]), (12, 173, [12, 69]), (12, 176, [12, 70]), (12, 179, [12, 71]), (12, 182, [12, 72]), (12, 185, [12, 73]), (12, 188, [12, 75]), (12, 191, [12, 78]), (12, 194, [12, 79]), (12, 197, [12, 80]), (12, 200, [12, 81]), (12, 203, [12, 82])]
theorem k_pok12 : ∀ q ∈ k_p12, k_pl "SleepWorkModel" q := k_pool [[1179], [1181], [1183], [1184], [1185], [1186], [1187], [1195], [1199], [1200], [1201], [1202], [1203], [1204], [1205], [1206], [1207], [1208], [1209], [1210], [1211], [1212], [1213], [1214], [1215], [1216], [1217], [1218], [1219], [1220], [1221], [1222], [1223], [1224], [1225], [1226], [1228], [1229], [1230], [1231], [1232], [1233], [1235], [1236], [1237], [1239], [1240], [1242], [1243], [1244], [1245], [1246], [1247], [1248], [1249], [1250], [1251], [1253], [1256], [1257], [1258], [1259], [1260], [1180], [1182], [1188], [1191], [1189], [1192], [1193], [1194], [1190], [1196], [1197], [1198], [1227], [1234], [1252], [1255], [1238], [1241], [1254], [1195], [1180], [1182], [1188], [1191], [1189], [1192], [1193], [1194], [1190], [1196], [1197], [1198], [1227], [1234], [1252], [1255], [1238], [1241], [1254], [1649], [1762], [1178], [1171, 29, 30], [1172, 1173], [1175, 1176], [1457, 1458], [1460, 1461], [1587, 1588], [1618, 1619], [1771, 1772], [1433, 1435, 100049], [1449, 1451, 100051], [1453, 1455, 100052], [1463, 1465, 100053], [1479, 1481, 100057], [1467, 1469, 100054], [1483, 1485, 100058], [1445, 1447, 100050], [1471, 1473, 100055], [1563, 1565, 100078], [1475, 1477, 100056], [1487, 1489, 100059], [1507, 1509, 100064], [1519, 1521, 100067], [1523, 1525, 100068], [1527, 1529, 100069], [1535, 1537, 100071], [1539, 1541, 100072], [1515, 1517, 100066], [1495, 1497, 100061], [1499, 1501, 100062], [1491, 1493, 100060], [1503, 1505, 100063], [1511, 1513, 100065], [1531, 1533, 100070], [1543, 1545, 100073], [1559, 1561, 100077], [1551, 1553, 100075], [1547, 1549, 100074], [1555, 1557, 100076], [1567, 1569, 100079], [1583, 1585, 100081], [1594, 1596, 100083], [1571, 1573, 100080], [1602, 1604, 100085], [1598, 1600, 100084], [1714, 1716, 100102], [1662, 1664, 100093], [1606, 1608, 100086], [1706, 1708, 100100], [1710, 1712, 100101], [1718, 1720, 100103], [1645, 1647, 100091], [1694, 1696, 100097], [1698, 1700, 100098], [1702, 1704, 100099], [1686, 1688, 100095], [1690, 1692, 100096], [1590, 1592, 100082], [1614, 1616, 100087], [1625, 1627, 100088], [1633, 1635, 100089], [1641, 1643, 100090], [1654, 1656, 100092], [1682, 1684, 100094], [1742, 1744, 100106], [1738, 1740, 100105], [1746, 1748, 100107], [1734, 1736, 100104], [1750, 1752, 100108], [1794, 1796, 100109], [1802, 1804, 100110], [1179], [1181], [1183], [1184], [1185], [1186], [1187], [1199], [1200], [1201], [1202], [1203], [1204], [1205], [1206], [1207], [1208], [1209], [1210], [1211], [1212], [1213], [1214], [1215], [1216], [1217], [1218], [1219], [1220], [1221], [1222], [1223], [1224], [1225], [1226], [1228], [1229], [1230], [1231], [1232], [1233], [1235], [1236], [1237], [1239], [1240], [1242], [1243], [1244], [1245], [1246], [1247], [1248], [1249], [1250], [1251], [1253], [1256], [1257], [1258], [1259], [1260]] (by decide +kernel) (by decide +kernel)
def k_p13 : List (Nat × Nat × List Nat) := [(2, 76, [0, 56320]), (2, 110, [0, 55232])]
theorem k_pok13 : ∀ q ∈ k_p13, k_pl "java/lang/Character" q := k_pool [[698], [694]] (by decide +kernel) (by decide +kernel)
def k_p14 : List (Nat × Nat × List Nat) := [(3, 265, [0, 1431655765]), (3, 266, [0, 858993459]), (3, 267, [0, 252645135])]
theorem k_pok14 : ∀ q ∈ k_p14, k_pl "java/lang/Integer" q := k_pool [[1076], [1077], [1078]] (by decide +kernel) (by decide +kernel)
def k_p15 : List (Nat × Nat × List Nat) := []
theorem k_pok15 : ∀ q ∈ k_p15, k_pl "java/lang/Math" q := k_pool [] (by decide +kernel) (by decide +kernel)
def k_p16 : List (Nat × Nat × List Nat) := [(0, 9, [0]), (0, 15, [1]), (5, 38, [0]), (5, 1053, [1]), (10, 495, [1, 254, 2]), (10, 498, [1, 264, 2]), (10, 637, [1, 256, 4]), (10, 640, [1, 260, 4]), (10, 1059, [1, 269, 3]), (10, 1062, [1, 270, 4]), (11, 335, [6, 250, 0]), (11, 492, [6, 251, 0]), (11, 505, [6, 246, 0]), (11, 633, [6, 249, 2])]
theorem k_pok16 : ∀ q ∈ k_p16, k_pl "java/lang/String" q := k_pool [[1822], [1823], [441], [457], [451, 452], [462, 463], [649, 650], [664, 665], [459, 460], [679, 680], [437, 438, 439], [447, 448, 449], [648, 434, 435], [644, 645, 646]] (by decide +kernel) (by decide +kernel)
def k_p17 : List (Nat × Nat × List Nat) := [(10, 9, [1, 252, 2]), (10, 38, [8]), (10, 88, [1, 255, 1]), (10, 92, [7]), (10, 95, [1, 257, 4])]
theorem k_pok17 : ∀ q ∈ k_p17, k_pl "java/lang/StringLatin1" q := k_pool [[454, 455], [658, 659, 19, 660], [652, 653], [655, 656, 19, 657], [661, 662]] (by decide +kernel) (by decide +kernel)
def k_p18 : List (Nat × Nat × List Nat) := [(2, 227, [0, 65536]), (10, 48, [1, 259, 1]), (10, 67, [1, 265, 2]), (10, 71, [1, 258, 2]), (10, 96, [1, 266, 3]), (10, 157, [1, 241, 1]), (10, 161, [1, 242, 1]), (10, 164, [1, 240, 1]), (10, 183, [8]), (10, 224, [7]), (10, 228, [1, 261, 4]), (10, 232, [1, 263, 4]), (10, 241, [1, 253, 3]), (10, 244, [1, 262, 4]), (10, 414, [1, 252, 2])]
theorem k_pok18 : ∀ q ∈ k_p18, k_pl "java/lang/StringUTF16" q := k_pool [[669], [468, 469], [465, 466], [472, 473], [673, 674], [691, 692], [695, 696], [688, 689], [668, 659, 19, 660], [667, 656, 19, 657], [670, 671], [685, 686], [676, 677], [682, 683], [471, 455]] (by decide +kernel) (by decide +kernel)
def k_p19 : List (Nat × Nat × List Nat) := []
theorem k_pok19 : ∀ q ∈ k_p19, k_pl "java/util/Arrays" q := k_pool [] (by decide +kernel) (by decide +kernel)
def k_p20 : List (Nat × Nat × List Nat) := []
theorem k_pok20 : ∀ q ∈ k_p20, k_pl "jdk/internal/util/Preconditions" q := k_pool [] (by decide +kernel) (by decide +kernel)
def k_p21 : List (Nat × Nat × List Nat) := [(6, 7, [11]), (6, 10, [12]), (9, 9, [3, 98, 0]), (9, 12, [3, 138, 0]), (11, 13, [2, 99, 5, 11]), (11, 17, [2, 139, 5, 12]), (11, 18, [2, 100, 1, 11]), (11, 22, [2, 141, 1, 12]), (11, 23, [2, 101, 0, 11]), (11, 27, [2, 155, 0, 12]), (11, 28, [2, 103, 0, 11]), (11, 31, [2, 156, 0, 12]), (11, 32, [2, 104, 2, 11]), (11, 36, [2, 202, 2, 12]), (11, 37, [2, 105, 3, 11]), (11, 41, [2, 204, 3, 12]), (11, 42, [2, 106, 2, 11]), (11, 45, [2, 205, 2, 12]), (11, 46, [2, 112, 1, 11]), (11, 49, [2, 206, 1, 12]), (11, 50, [2, 113, 2, 11]), (11, 53, [2, 207, 2, 12]), (11, 54, [2, 114, 3, 11]), (11, 58, [2, 209, 3, 12]), (11, 59, [2, 115, 2, 11]), (11, 63, [2, 210, 2, 12]), (11, 64, [2, 116, 2, 11]), (11, 67, [2, 211, 2, 12]), (11, 68, [2, 117, 2, 11]), (11, 71, [2, 212, 2, 12]), (11, 72, [2, 118, 2, 11]), (11, 76, [2, 213, 2, 12]), (11, 77, [2, 119, 0, 11]), (11, 80, [2, 214, 0, 12]), (11, 81, [2, 120, 0, 11]), (11, 85, [2, 215, 0, 12]), (11, 86, [2, 121, 0, 11]), (11, 89, [2, 216, 0, 12]), (11, 90, [2, 122, 2, 11]), (11, 93, [2, 222, 2, 12]), (11, 94, [2, 123, 3, 11]), (11, 97, [2, 223, 3, 12]), (11, 98, [2, 125, 1, 11]), (11, 101, [2, 224, 1, 12]), (11, 102, [2, 126, 2, 11]), (11, 105, [2, 225, 2, 12]), (11, 106, [2, 127, 1, 11]), (11, 109, [2, 227, 1, 12]), (11, 110, [2, 128, 2, 11]), (11, 113, [2, 228, 2, 12]), (11, 114, [2, 129, 2, 11]), (11, 117, [2, 229, 2, 12]), (11, 118, [2, 130, 3, 11]), (11, 121, [2, 230, 3, 12]), (11, 122, [2, 131, 0, 11]), (11, 125, [2, 231, 0, 12]), (11, 126, [2, 132, 3, 11]), (11, 129, [2, 233, 3, 12]), (11, 130, [2, 133, 1, 11]), (11, 133, [2, 235, 1, 12]), (11, 134, [2, 134, 3, 11]), (11, 137, [2, 236, 3, 12]), (11, 138, [2, 135, 1, 11]), (11, 142, [2, 237, 1, 12]), (11, 143, [2, 136, 1, 11]), (11, 146, [2, 238, 1, 12]), (11, 147, [2, 137, 1, 11]), (11, 150, [2, 239, 1, 12])]
theorem k_pok21 : ∀ q ∈ k_p21, k_pl "SleepWorkLaw" q := k_pool [[23, 24, 1], [1166, 1167, 18], [25, 26], [1168, 1169], [584, 585, 586], [1429, 1430, 1431], [596, 597, 598], [1437, 1438, 1439], [600, 601, 602], [1441, 1442, 1443], [829, 830, 831], [1575, 1576, 1577], [833, 834, 835], [1579, 1580, 1581], [846, 847, 848], [1610, 1611, 1612], [854, 855, 856], [1621, 1622, 1623], [862, 863, 864], [1629, 1630, 1631], [870, 871, 872], [1637, 1638, 1639], [898, 899, 900], [1650, 1651, 1652], [903, 904, 905], [1658, 1659, 1660], [911, 912, 913], [1666, 1667, 1668], [915, 916, 917], [1670, 1671, 1672], [919, 920, 921], [1674, 1675, 1676], [923, 924, 925], [1678, 1679, 1680], [987, 988, 989], [1722, 1723, 1724], [995, 996, 997], [1726, 1727, 1728], [1009, 1010, 1011], [1730, 1731, 1732], [1033, 1034, 1035], [1754, 1755, 1756], [1045, 1046, 1047], [1758, 1759, 1760], [1050, 1051, 1052], [1763, 1764, 1765], [1058, 1059, 1060], [1767, 1768, 1769], [1089, 1090, 1091], [1774, 1775, 1776], [1093, 1094, 1095], [1778, 1779, 1780], [1101, 1102, 1103], [1782, 1783, 1784], [1113, 1114, 1115], [1786, 1787, 1788], [1117, 1118, 1119], [1790, 1791, 1792], [1133, 1134, 1135], [1798, 1799, 1800], [1145, 1146, 1147], [1806, 1807, 1808], [1153, 1154, 1155], [1810, 1811, 1812], [1157, 1158, 1159], [1814, 1815, 1816], [1161, 1162, 1163], [1818, 1819, 1820]] (by decide +kernel) (by decide +kernel)
end
section
/-! every instruction of every method keeps the tables -/
def g_chk (bytes : ByteArray) (ini : Bool) (pl : List (Nat × Nat × List Nat)) (q : Nat × Instr × List Nat) : Bool :=
  (match decode bytes q.1 with | .ok (I, len) => decide (I = q.2.1) && (decide (g_len q.2.1 = 0) || decide (len = g_len q.2.1)) | _ => false) && g_brok q.1 q.2.1 q.2.2 &&
  (match q.2.1 with
   | .getfield ix => decide ((0, ix, q.2.2) ∈ pl)
   | .putfield ix => decide ((1, ix, q.2.2) ∈ pl) || (ini && decide ((12, ix, q.2.2) ∈ pl))
   | .ldc ix => decide ((2, ix, q.2.2) ∈ pl)
   | .ldc_w ix => decide ((3, ix, q.2.2) ∈ pl)
   | .ldc2_w ix => decide ((4, ix, q.2.2) ∈ pl)
   | .getstatic ix => decide ((5, ix, q.2.2) ∈ pl)
   | .new ix => decide ((6, ix, q.2.2) ∈ pl)
   | .newarray a => decide ((newarray.typeOf a = .int ∧ q.2.2 = [0]) ∨ (newarray.typeOf a = .byte ∧ q.2.2 = [1]) ∨ (newarray.typeOf a = .boolean ∧ q.2.2 = [2]) ∨ (newarray.typeOf a = .long ∧ q.2.2 = [3]))
   | .anewarray ix => decide ((8, ix, q.2.2) ∈ pl)
   | .invokespecial ix => decide ((9, ix, q.2.2) ∈ pl)
   | .invokestatic ix => decide ((10, ix, q.2.2) ∈ pl)
   | .invokevirtual ix => decide ((11, ix, q.2.2) ∈ pl)
   | _ => true)
theorem k_ac0 : Cond.arrayClass .int ∈ lw_gd := (k_memT (i := 117) (by decide +kernel) rfl)
theorem k_ac1 : Cond.arrayClass .byte ∈ lw_gd := (k_memT (i := 47) (by decide +kernel) rfl)
theorem k_ac2 : Cond.arrayClass .boolean ∈ lw_gd := (k_memT (i := 1428) (by decide +kernel) rfl)
theorem k_ac3 : Cond.arrayClass .long ∈ lw_gd := (k_memT (i := 332) (by decide +kernel) rfl)
theorem g_putf_name {cl : List vw_C} {Ts : List Cond} {own n n2 : String} {ix : Nat} {r : List Nat} (h : g_memok cl Ts own n (.putfield ix) r) (hn : n = "<init>" → n2 = "<init>") : g_memok cl Ts own n2 (.putfield ix) r := by
  unfold g_memok at h ⊢
  dsimp only at h ⊢
  split
  · obtain ⟨q, h1, h2, h3, h4⟩ := h
    exact ⟨q, h1, h2, h3, h4.imp id fun z => ⟨z.1, hn z.2.1, z.2.2⟩⟩
  · trivial
set_option maxHeartbeats 4000000 in
theorem g_chk_ok {own name : String} {bytes : ByteArray} {ini : Bool} {pl : List (Nat × Nat × List Nat)} {pc : Nat} {I : Instr} {r : List Nat} (hini : ini = true → name = "<init>") (hpl : ∀ q ∈ pl, k_pl own q) (h : g_chk bytes ini pl (pc, I, r) = true) :
    (∃ len, decode bytes pc = .ok (I, len) ∧ (g_len I = 0 ∨ len = g_len I)) ∧ g_brok pc I r = true ∧ g_memok k_cl lw_gd own name I r ∧ g_newok k_cl lw_gd "SleepWork$State" own I r ∧ g_txtok k_tn lw_gd own I r ∧ g_natok lw_gd own I r ∧ g_invok k_cl lw_gd k_Ns k_mt "SleepWork" own I r := by
  unfold g_chk at h
  rw [Bool.and_eq_true, Bool.and_eq_true] at h
  obtain ⟨⟨h1, h2⟩, h3⟩ := h
  dsimp only at h1 h2 h3
  refine ⟨?_, h2, ?_⟩
  · split at h1
    next I' len hd =>
      rw [Bool.and_eq_true, Bool.or_eq_true, decide_eq_true_eq, decide_eq_true_eq, decide_eq_true_eq] at h1
      exact ⟨len, by rw [hd, h1.1], h1.2⟩
    next => cases h1
  · cases I with
    | getfield ix => exact ⟨(hpl _ (of_decide_eq_true h3)).1, trivial, (hpl _ (of_decide_eq_true h3)).2, trivial, trivial⟩
    | putfield ix =>
      refine ⟨?_, trivial, trivial, trivial, trivial⟩
      rcases Bool.or_eq_true _ _ ▸ h3 with h3 | h3
      · exact g_putf_name (n := "") (hpl _ (of_decide_eq_true h3)) (fun h => absurd h (by decide))
      · rw [Bool.and_eq_true] at h3
        exact g_putf_name (n := "<init>") (hpl _ (of_decide_eq_true h3.2)) (fun _ => hini h3.1)
    | ldc ix => exact ⟨(hpl _ (of_decide_eq_true h3)).1, trivial, (hpl _ (of_decide_eq_true h3)).2, trivial, trivial⟩
    | ldc_w ix => exact ⟨hpl _ (of_decide_eq_true h3), trivial, trivial, trivial, trivial⟩
    | ldc2_w ix => exact ⟨hpl _ (of_decide_eq_true h3), trivial, trivial, trivial, trivial⟩
    | getstatic ix => exact ⟨trivial, trivial, hpl _ (of_decide_eq_true h3), trivial, trivial⟩
    | new ix => exact ⟨trivial, hpl _ (of_decide_eq_true h3), trivial, trivial, trivial⟩
    | newarray a =>
      refine ⟨trivial, ?_, trivial, trivial, trivial⟩
      have h4 := of_decide_eq_true h3
      rcases h4 with ⟨e1, e2⟩ | ⟨e1, e2⟩ | ⟨e1, e2⟩ | ⟨e1, e2⟩ <;> subst e2
      · exact ⟨e1, k_ac0⟩
      · exact ⟨e1, k_ac1⟩
      · exact ⟨e1, k_ac2⟩
      · exact ⟨e1, k_ac3⟩
    | anewarray ix => exact ⟨trivial, hpl _ (of_decide_eq_true h3), trivial, trivial, trivial⟩
    | invokespecial ix => exact ⟨trivial, trivial, trivial, (hpl _ (of_decide_eq_true h3)).1, (hpl _ (of_decide_eq_true h3)).2⟩
    | invokestatic ix => exact ⟨trivial, trivial, trivial, (hpl _ (of_decide_eq_true h3)).1, (hpl _ (of_decide_eq_true h3)).2⟩
    | invokevirtual ix => exact ⟨trivial, trivial, trivial, (hpl _ (of_decide_eq_true h3)).1, (hpl _ (of_decide_eq_true h3)).2⟩
    | _ => exact ⟨trivial, trivial, trivial, trivial, trivial⟩
theorem g_look_mem {cd : List (Nat × Instr × List Nat)} {pc : Nat} {I : Instr} {r : List Nat} (h : g_look cd pc = some (I, r)) : (pc, I, r) ∈ cd := by
  unfold g_look at h
  cases hf : cd.find? (fun q => q.1 == pc) with
  | none => rw [hf] at h; cases h
  | some q =>
    rw [hf] at h
    have h1 := List.find?_some hf
    have h2 := List.mem_of_find?_eq_some hf
    have h3 : q.1 = pc := by simpa using h1
    have h4 : q.2 = (I, r) := Option.some.inj h
    rw [← h3, ← h4]
    exact h2
/-- a method keeps the tables -/
def k_mok (m : gM) : Prop := ∀ (pc : Nat) (I : Instr) (r : List Nat), m.2 pc = some (I, r) → (∃ len, decode m.1.2.1 pc = .ok (I, len) ∧ (g_len I = 0 ∨ len = g_len I)) ∧ g_brok pc I r = true ∧ g_memok k_cl lw_gd m.1.1.cls m.1.1.name I r ∧ g_newok k_cl lw_gd "SleepWork$State" m.1.1.cls I r ∧ g_txtok k_tn lw_gd m.1.1.cls I r ∧ g_natok lw_gd m.1.1.cls I r ∧ g_invok k_cl lw_gd k_Ns k_mt "SleepWork" m.1.1.cls I r
theorem k_mok_of {own name : String} {y : MethodName} {bytes : ByteArray} {mL : Nat} {rt : Option FieldType} {cd : List (Nat × Instr × List Nat)} {pl : List (Nat × Nat × List Nat)} (ini : Bool) (hy : y.cls = own) (hini : ini = true → y.name = "<init>") (hpl : ∀ q ∈ pl, k_pl own q) (h : cd.all (g_chk bytes ini pl) = true) : k_mok ((y, bytes, mL, rt), g_look cd) := by
  subst hy
  intro pc I r hq
  exact g_chk_ok hini hpl (List.all_eq_true.mp h _ (g_look_mem hq))
end
section
/-! methods checked (printed by wip/gen.py) -/
theorem k_ok0 : k_mok k_m0 := k_mok_of (own := "SleepWork$Evening") (name := "") true rfl (fun _ => rfl) k_pok0 (by decide +kernel)
theorem k_ok1 : k_mok k_m1 := k_mok_of (own := "SleepWork$Evening") (name := "") false rfl (fun h => by cases h) k_pok0 (by decide +kernel)
theorem k_ok2 : k_mok k_m2 := k_mok_of (own := "SleepWork$Evening") (name := "") false rfl (fun h => by cases h) k_pok0 (by decide +kernel)
theorem k_ok3 : k_mok k_m3 := k_mok_of (own := "SleepWork$Evening") (name := "") false rfl (fun h => by cases h) k_pok0 (by decide +kernel)
theorem k_ok4 : k_mok k_m4 := k_mok_of (own := "SleepWork$Evening") (name := "") false rfl (fun h => by cases h) k_pok0 (by decide +kernel)
theorem k_ok5 : k_mok k_m5 := k_mok_of (own := "SleepWork$Evening") (name := "") false rfl (fun h => by cases h) k_pok0 (by decide +kernel)
theorem k_ok6 : k_mok k_m6 := k_mok_of (own := "SleepWork$Evening") (name := "") false rfl (fun h => by cases h) k_pok0 (by decide +kernel)
theorem k_ok7 : k_mok k_m7 := k_mok_of (own := "SleepWork$Evening") (name := "") false rfl (fun h => by cases h) k_pok0 (by decide +kernel)
theorem k_ok8 : k_mok k_m8 := k_mok_of (own := "SleepWork$Evening") (name := "") false rfl (fun h => by cases h) k_pok0 (by decide +kernel)
theorem k_ok9 : k_mok k_m9 := k_mok_of (own := "SleepWork$Evening") (name := "") false rfl (fun h => by cases h) k_pok0 (by decide +kernel)
theorem k_ok10 : k_mok k_m10 := k_mok_of (own := "SleepWork$Evening") (name := "") false rfl (fun h => by cases h) k_pok0 (by decide +kernel)
theorem k_ok11 : k_mok k_m11 := k_mok_of (own := "SleepWork$Evening") (name := "") false rfl (fun h => by cases h) k_pok0 (by decide +kernel)
theorem k_ok12 : k_mok k_m12 := k_mok_of (own := "SleepWork$Evening") (name := "") false rfl (fun h => by cases h) k_pok0 (by decide +kernel)
theorem k_ok13 : k_mok k_m13 := k_mok_of (own := "SleepWork$Evening") (name := "") false rfl (fun h => by cases h) k_pok0 (by decide +kernel)
theorem k_ok14 : k_mok k_m14 := k_mok_of (own := "SleepWork$Evening") (name := "") false rfl (fun h => by cases h) k_pok0 (by decide +kernel)
theorem k_ok15 : k_mok k_m15 := k_mok_of (own := "SleepWork$Evening") (name := "") false rfl (fun h => by cases h) k_pok0 (by decide +kernel)
theorem k_ok16 : k_mok k_m16 := k_mok_of (own := "SleepWork$Evening") (name := "") false rfl (fun h => by cases h) k_pok0 (by decide +kernel)
theorem k_ok17 : k_mok k_m17 := k_mok_of (own := "SleepWork$Evening") (name := "") false rfl (fun h => by cases h) k_pok0 (by decide +kernel)
theorem k_ok18 : k_mok k_m18 := k_mok_of (own := "SleepWork$Evening") (name := "") false rfl (fun h => by cases h) k_pok0 (by decide +kernel)
theorem k_ok19 : k_mok k_m19 := k_mok_of (own := "SleepWork$Evening") (name := "") false rfl (fun h => by cases h) k_pok0 (by decide +kernel)
theorem k_ok20 : k_mok k_m20 := k_mok_of (own := "SleepWork$Evening") (name := "") false rfl (fun h => by cases h) k_pok0 (by decide +kernel)
theorem k_ok21 : k_mok k_m21 := k_mok_of (own := "SleepWork$House") (name := "") true rfl (fun _ => rfl) k_pok1 (by decide +kernel)
theorem k_ok22 : k_mok k_m22 := k_mok_of (own := "SleepWork$House") (name := "") false rfl (fun h => by cases h) k_pok1 (by decide +kernel)
theorem k_ok23 : k_mok k_m23 := k_mok_of (own := "SleepWork$House") (name := "") false rfl (fun h => by cases h) k_pok1 (by decide +kernel)
theorem k_ok24 : k_mok k_m24 := k_mok_of (own := "SleepWork$House") (name := "") false rfl (fun h => by cases h) k_pok1 (by decide +kernel)
theorem k_ok25 : k_mok k_m25 := k_mok_of (own := "SleepWork$House") (name := "") false rfl (fun h => by cases h) k_pok1 (by decide +kernel)
theorem k_ok26 : k_mok k_m26 := k_mok_of (own := "SleepWork$House") (name := "") false rfl (fun h => by cases h) k_pok1 (by decide +kernel)
end
section
/-! methods checked (printed by wip/gen.py) -/
theorem k_ok27 : k_mok k_m27 := k_mok_of (own := "SleepWork$House") (name := "") false rfl (fun h => by cases h) k_pok1 (by decide +kernel)
theorem k_ok28 : k_mok k_m28 := k_mok_of (own := "SleepWork$House") (name := "") false rfl (fun h => by cases h) k_pok1 (by decide +kernel)
theorem k_ok29 : k_mok k_m29 := k_mok_of (own := "SleepWork$Laws") (name := "") true rfl (fun _ => rfl) k_pok2 (by decide +kernel)
theorem k_ok30 : k_mok k_m30 := k_mok_of (own := "SleepWork$Laws") (name := "") false rfl (fun h => by cases h) k_pok2 (by decide +kernel)
theorem k_ok31 : k_mok k_m31 := k_mok_of (own := "SleepWork$Laws") (name := "") false rfl (fun h => by cases h) k_pok2 (by decide +kernel)
theorem k_ok32 : k_mok k_m32 := k_mok_of (own := "SleepWork$Laws") (name := "") false rfl (fun h => by cases h) k_pok2 (by decide +kernel)
theorem k_ok33 : k_mok k_m33 := k_mok_of (own := "SleepWork$Laws") (name := "") false rfl (fun h => by cases h) k_pok2 (by decide +kernel)
theorem k_ok34 : k_mok k_m34 := k_mok_of (own := "SleepWork$Laws") (name := "") false rfl (fun h => by cases h) k_pok2 (by decide +kernel)
theorem k_ok35 : k_mok k_m35 := k_mok_of (own := "SleepWork$Past") (name := "") true rfl (fun _ => rfl) k_pok3 (by decide +kernel)
theorem k_ok36 : k_mok k_m36 := k_mok_of (own := "SleepWork$Past") (name := "") false rfl (fun h => by cases h) k_pok3 (by decide +kernel)
theorem k_ok37 : k_mok k_m37 := k_mok_of (own := "SleepWork$Past") (name := "") false rfl (fun h => by cases h) k_pok3 (by decide +kernel)
theorem k_ok38 : k_mok k_m38 := k_mok_of (own := "SleepWork$Reader") (name := "") true rfl (fun _ => rfl) k_pok4 (by decide +kernel)
theorem k_ok39 : k_mok k_m39 := k_mok_of (own := "SleepWork$Reader") (name := "") false rfl (fun h => by cases h) k_pok4 (by decide +kernel)
theorem k_ok40 : k_mok k_m40 := k_mok_of (own := "SleepWork$Reader") (name := "") false rfl (fun h => by cases h) k_pok4 (by decide +kernel)
theorem k_ok41 : k_mok k_m41 := k_mok_of (own := "SleepWork$Reader") (name := "") false rfl (fun h => by cases h) k_pok4 (by decide +kernel)
theorem k_ok42 : k_mok k_m42 := k_mok_of (own := "SleepWork$Reader") (name := "") false rfl (fun h => by cases h) k_pok4 (by decide +kernel)
theorem k_ok43 : k_mok k_m43 := k_mok_of (own := "SleepWork$Reader") (name := "") false rfl (fun h => by cases h) k_pok4 (by decide +kernel)
theorem k_ok44 : k_mok k_m44 := k_mok_of (own := "SleepWork$Reader") (name := "") false rfl (fun h => by cases h) k_pok4 (by decide +kernel)
theorem k_ok45 : k_mok k_m45 := k_mok_of (own := "SleepWork$Reader") (name := "") false rfl (fun h => by cases h) k_pok4 (by decide +kernel)
theorem k_ok46 : k_mok k_m46 := k_mok_of (own := "SleepWork$Reader") (name := "") false rfl (fun h => by cases h) k_pok4 (by decide +kernel)
theorem k_ok47 : k_mok k_m47 := k_mok_of (own := "SleepWork$Reader") (name := "") false rfl (fun h => by cases h) k_pok4 (by decide +kernel)
theorem k_ok48 : k_mok k_m48 := k_mok_of (own := "SleepWork$Reader") (name := "") false rfl (fun h => by cases h) k_pok4 (by decide +kernel)
theorem k_ok49 : k_mok k_m49 := k_mok_of (own := "SleepWork$Reader") (name := "") false rfl (fun h => by cases h) k_pok4 (by decide +kernel)
theorem k_ok50 : k_mok k_m50 := k_mok_of (own := "SleepWork$Reader") (name := "") false rfl (fun h => by cases h) k_pok4 (by decide +kernel)
theorem k_ok51 : k_mok k_m51 := k_mok_of (own := "SleepWork$Reader") (name := "") false rfl (fun h => by cases h) k_pok4 (by decide +kernel)
theorem k_ok52 : k_mok k_m52 := k_mok_of (own := "SleepWork$Reader") (name := "") false rfl (fun h => by cases h) k_pok4 (by decide +kernel)
theorem k_ok53 : k_mok k_m53 := k_mok_of (own := "SleepWork$Reader") (name := "") false rfl (fun h => by cases h) k_pok4 (by decide +kernel)
theorem k_ok54 : k_mok k_m54 := k_mok_of (own := "SleepWork$Reader") (name := "") false rfl (fun h => by cases h) k_pok4 (by decide +kernel)
end
section
/-! methods checked (printed by wip/gen.py) -/
theorem k_ok55 : k_mok k_m55 := k_mok_of (own := "SleepWork$Reader") (name := "") false rfl (fun h => by cases h) k_pok4 (by decide +kernel)
theorem k_ok56 : k_mok k_m56 := k_mok_of (own := "SleepWork$Reader") (name := "") false rfl (fun h => by cases h) k_pok4 (by decide +kernel)
theorem k_ok57 : k_mok k_m57 := k_mok_of (own := "SleepWork$Reader") (name := "") false rfl (fun h => by cases h) k_pok4 (by decide +kernel)
theorem k_ok58 : k_mok k_m58 := k_mok_of (own := "SleepWork$Reader") (name := "") false rfl (fun h => by cases h) k_pok4 (by decide +kernel)
theorem k_ok59 : k_mok k_m59 := k_mok_of (own := "SleepWork$Reader") (name := "") false rfl (fun h => by cases h) k_pok4 (by decide +kernel)
theorem k_ok60 : k_mok k_m60 := k_mok_of (own := "SleepWork$Reader") (name := "") false rfl (fun h => by cases h) k_pok4 (by decide +kernel)
theorem k_ok61 : k_mok k_m61 := k_mok_of (own := "SleepWork$Reader") (name := "") false rfl (fun h => by cases h) k_pok4 (by decide +kernel)
theorem k_ok62 : k_mok k_m62 := k_mok_of (own := "SleepWork$Reader") (name := "") false rfl (fun h => by cases h) k_pok4 (by decide +kernel)
theorem k_ok63 : k_mok k_m63 := k_mok_of (own := "SleepWork$Reader") (name := "") false rfl (fun h => by cases h) k_pok4 (by decide +kernel)
theorem k_ok64 : k_mok k_m64 := k_mok_of (own := "SleepWork$Reader") (name := "") false rfl (fun h => by cases h) k_pok4 (by decide +kernel)
theorem k_ok65 : k_mok k_m65 := k_mok_of (own := "SleepWork$Reader") (name := "") false rfl (fun h => by cases h) k_pok4 (by decide +kernel)
theorem k_ok66 : k_mok k_m66 := k_mok_of (own := "SleepWork$Scanner") (name := "") true rfl (fun _ => rfl) k_pok5 (by decide +kernel)
theorem k_ok67 : k_mok k_m67 := k_mok_of (own := "SleepWork$Scanner") (name := "") false rfl (fun h => by cases h) k_pok5 (by decide +kernel)
theorem k_ok68 : k_mok k_m68 := k_mok_of (own := "SleepWork$Scanner") (name := "") false rfl (fun h => by cases h) k_pok5 (by decide +kernel)
theorem k_ok69 : k_mok k_m69 := k_mok_of (own := "SleepWork$Scanner") (name := "") false rfl (fun h => by cases h) k_pok5 (by decide +kernel)
theorem k_ok70 : k_mok k_m70 := k_mok_of (own := "SleepWork$Scanner") (name := "") false rfl (fun h => by cases h) k_pok5 (by decide +kernel)
theorem k_ok71 : k_mok k_m71 := k_mok_of (own := "SleepWork$Scanner") (name := "") false rfl (fun h => by cases h) k_pok5 (by decide +kernel)
end
section
/-! methods checked (printed by wip/gen.py) -/
theorem k_ok72 : k_mok k_m72 := k_mok_of (own := "SleepWork$Scanner") (name := "") false rfl (fun h => by cases h) k_pok5 (by decide +kernel)
theorem k_ok73 : k_mok k_m73 := k_mok_of (own := "SleepWork$Scanner") (name := "") false rfl (fun h => by cases h) k_pok5 (by decide +kernel)
theorem k_ok74 : k_mok k_m74 := k_mok_of (own := "SleepWork$Sleep") (name := "") true rfl (fun _ => rfl) k_pok6 (by decide +kernel)
theorem k_ok75 : k_mok k_m75 := k_mok_of (own := "SleepWork$Sleep") (name := "") false rfl (fun h => by cases h) k_pok6 (by decide +kernel)
theorem k_ok76 : k_mok k_m76 := k_mok_of (own := "SleepWork$Sleep") (name := "") false rfl (fun h => by cases h) k_pok6 (by decide +kernel)
theorem k_ok77 : k_mok k_m77 := k_mok_of (own := "SleepWork$Sleep") (name := "") false rfl (fun h => by cases h) k_pok6 (by decide +kernel)
theorem k_ok78 : k_mok k_m78 := k_mok_of (own := "SleepWork$Sleep") (name := "") false rfl (fun h => by cases h) k_pok6 (by decide +kernel)
theorem k_ok79 : k_mok k_m79 := k_mok_of (own := "SleepWork$Sleep") (name := "") false rfl (fun h => by cases h) k_pok6 (by decide +kernel)
theorem k_ok80 : k_mok k_m80 := k_mok_of (own := "SleepWork$Sleep") (name := "") false rfl (fun h => by cases h) k_pok6 (by decide +kernel)
theorem k_ok81 : k_mok k_m81 := k_mok_of (own := "SleepWork$Sleep") (name := "") false rfl (fun h => by cases h) k_pok6 (by decide +kernel)
theorem k_ok82 : k_mok k_m82 := k_mok_of (own := "SleepWork$Sleep") (name := "") false rfl (fun h => by cases h) k_pok6 (by decide +kernel)
theorem k_ok83 : k_mok k_m83 := k_mok_of (own := "SleepWork$State") (name := "") true rfl (fun _ => rfl) k_pok7 (by decide +kernel)
theorem k_ok84 : k_mok k_m84 := k_mok_of (own := "SleepWork$State") (name := "") false rfl (fun h => by cases h) k_pok7 (by decide +kernel)
theorem k_ok85 : k_mok k_m85 := k_mok_of (own := "SleepWork$State") (name := "") false rfl (fun h => by cases h) k_pok7 (by decide +kernel)
theorem k_ok86 : k_mok k_m86 := k_mok_of (own := "SleepWork$Tape") (name := "") true rfl (fun _ => rfl) k_pok8 (by decide +kernel)
theorem k_ok87 : k_mok k_m87 := k_mok_of (own := "SleepWork$Tape") (name := "") false rfl (fun h => by cases h) k_pok8 (by decide +kernel)
theorem k_ok88 : k_mok k_m88 := k_mok_of (own := "SleepWork$Tape") (name := "") false rfl (fun h => by cases h) k_pok8 (by decide +kernel)
theorem k_ok89 : k_mok k_m89 := k_mok_of (own := "SleepWork$Told") (name := "") true rfl (fun _ => rfl) k_pok9 (by decide +kernel)
theorem k_ok90 : k_mok k_m90 := k_mok_of (own := "SleepWork$Told") (name := "") false rfl (fun h => by cases h) k_pok9 (by decide +kernel)
theorem k_ok91 : k_mok k_m91 := k_mok_of (own := "SleepWork$Told") (name := "") false rfl (fun h => by cases h) k_pok9 (by decide +kernel)
theorem k_ok92 : k_mok k_m92 := k_mok_of (own := "SleepWork$Told") (name := "") false rfl (fun h => by cases h) k_pok9 (by decide +kernel)
theorem k_ok93 : k_mok k_m93 := k_mok_of (own := "SleepWork$Ways") (name := "") true rfl (fun _ => rfl) k_pok10 (by decide +kernel)
theorem k_ok94 : k_mok k_m94 := k_mok_of (own := "SleepWork$Ways") (name := "") false rfl (fun h => by cases h) k_pok10 (by decide +kernel)
theorem k_ok95 : k_mok k_m95 := k_mok_of (own := "SleepWork$Ways") (name := "") false rfl (fun h => by cases h) k_pok10 (by decide +kernel)
theorem k_ok96 : k_mok k_m96 := k_mok_of (own := "SleepWork$Ways") (name := "") false rfl (fun h => by cases h) k_pok10 (by decide +kernel)
end
section
/-! methods checked (printed by wip/gen.py) -/
theorem k_ok97 : k_mok k_m97 := k_mok_of (own := "SleepWork$Ways") (name := "") false rfl (fun h => by cases h) k_pok10 (by decide +kernel)
theorem k_ok98 : k_mok k_m98 := k_mok_of (own := "SleepWork") (name := "") true rfl (fun _ => rfl) k_pok11 (by decide +kernel)
theorem k_ok99 : k_mok k_m99 := k_mok_of (own := "SleepWork") (name := "") false rfl (fun h => by cases h) k_pok11 (by decide +kernel)
theorem k_ok100 : k_mok k_m100 := k_mok_of (own := "SleepWork") (name := "") false rfl (fun h => by cases h) k_pok11 (by decide +kernel)
theorem k_ok101 : k_mok k_m101 := k_mok_of (own := "SleepWork") (name := "") false rfl (fun h => by cases h) k_pok11 (by decide +kernel)
theorem k_ok102 : k_mok k_m102 := k_mok_of (own := "SleepWork") (name := "") false rfl (fun h => by cases h) k_pok11 (by decide +kernel)
theorem k_ok103 : k_mok k_m103 := k_mok_of (own := "SleepWork") (name := "") false rfl (fun h => by cases h) k_pok11 (by decide +kernel)
theorem k_ok104 : k_mok k_m104 := k_mok_of (own := "SleepWork") (name := "") false rfl (fun h => by cases h) k_pok11 (by decide +kernel)
theorem k_ok105 : k_mok k_m105 := k_mok_of (own := "SleepWork") (name := "") false rfl (fun h => by cases h) k_pok11 (by decide +kernel)
theorem k_ok106 : k_mok k_m106 := k_mok_of (own := "SleepWork") (name := "") false rfl (fun h => by cases h) k_pok11 (by decide +kernel)
theorem k_ok107 : k_mok k_m107 := k_mok_of (own := "SleepWork") (name := "") false rfl (fun h => by cases h) k_pok11 (by decide +kernel)
theorem k_ok108 : k_mok k_m108 := k_mok_of (own := "SleepWork") (name := "") false rfl (fun h => by cases h) k_pok11 (by decide +kernel)
theorem k_ok109 : k_mok k_m109 := k_mok_of (own := "SleepWork") (name := "") false rfl (fun h => by cases h) k_pok11 (by decide +kernel)
theorem k_ok110 : k_mok k_m110 := k_mok_of (own := "SleepWork") (name := "") false rfl (fun h => by cases h) k_pok11 (by decide +kernel)
theorem k_ok111 : k_mok k_m111 := k_mok_of (own := "SleepWork") (name := "") false rfl (fun h => by cases h) k_pok11 (by decide +kernel)
theorem k_ok112 : k_mok k_m112 := k_mok_of (own := "SleepWork") (name := "") false rfl (fun h => by cases h) k_pok11 (by decide +kernel)
theorem k_ok113 : k_mok k_m113 := k_mok_of (own := "SleepWork") (name := "") false rfl (fun h => by cases h) k_pok11 (by decide +kernel)
theorem k_ok114 : k_mok k_m114 := k_mok_of (own := "SleepWork") (name := "") false rfl (fun h => by cases h) k_pok11 (by decide +kernel)
theorem k_ok115 : k_mok k_m115 := k_mok_of (own := "SleepWork") (name := "") false rfl (fun h => by cases h) k_pok11 (by decide +kernel)
theorem k_ok116 : k_mok k_m116 := k_mok_of (own := "SleepWork") (name := "") false rfl (fun h => by cases h) k_pok11 (by decide +kernel)
theorem k_ok117 : k_mok k_m117 := k_mok_of (own := "SleepWork") (name := "") false rfl (fun h => by cases h) k_pok11 (by decide +kernel)
theorem k_ok118 : k_mok k_m118 := k_mok_of (own := "SleepWork") (name := "") false rfl (fun h => by cases h) k_pok11 (by decide +kernel)
theorem k_ok119 : k_mok k_m119 := k_mok_of (own := "SleepWork") (name := "") false rfl (fun h => by cases h) k_pok11 (by decide +kernel)
theorem k_ok120 : k_mok k_m120 := k_mok_of (own := "SleepWork") (name := "") false rfl (fun h => by cases h) k_pok11 (by decide +kernel)
theorem k_ok121 : k_mok k_m121 := k_mok_of (own := "SleepWork") (name := "") false rfl (fun h => by cases h) k_pok11 (by decide +kernel)
theorem k_ok122 : k_mok k_m122 := k_mok_of (own := "SleepWork") (name := "") false rfl (fun h => by cases h) k_pok11 (by decide +kernel)
theorem k_ok123 : k_mok k_m123 := k_mok_of (own := "SleepWork") (name := "") false rfl (fun h => by cases h) k_pok11 (by decide +kernel)
theorem k_ok124 : k_mok k_m124 := k_mok_of (own := "SleepWork") (name := "") false rfl (fun h => by cases h) k_pok11 (by decide +kernel)
theorem k_ok125 : k_mok k_m125 := k_mok_of (own := "SleepWork") (name := "") false rfl (fun h => by cases h) k_pok11 (by decide +kernel)
theorem k_ok126 : k_mok k_m126 := k_mok_of (own := "SleepWork") (name := "") false rfl (fun h => by cases h) k_pok11 (by decide +kernel)
theorem k_ok127 : k_mok k_m127 := k_mok_of (own := "SleepWork") (name := "") false rfl (fun h => by cases h) k_pok11 (by decide +kernel)
theorem k_ok128 : k_mok k_m128 := k_mok_of (own := "SleepWork") (name := "") false rfl (fun h => by cases h) k_pok11 (by decide +kernel)
end
section
/-! methods checked (printed by wip/gen.py) -/
theorem k_ok129 : k_mok k_m129 := k_mok_of (own := "SleepWork") (name := "") false rfl (fun h => by cases h) k_pok11 (by decide +kernel)
theorem k_ok130 : k_mok k_m130 := k_mok_of (own := "SleepWork") (name := "") false rfl (fun h => by cases h) k_pok11 (by decide +kernel)
theorem k_ok131 : k_mok k_m131 := k_mok_of (own := "SleepWork") (name := "") false rfl (fun h => by cases h) k_pok11 (by decide +kernel)
theorem k_ok132 : k_mok k_m132 := k_mok_of (own := "SleepWork") (name := "") false rfl (fun h => by cases h) k_pok11 (by decide +kernel)
theorem k_ok133 : k_mok k_m133 := k_mok_of (own := "SleepWork") (name := "") false rfl (fun h => by cases h) k_pok11 (by decide +kernel)
theorem k_ok134 : k_mok k_m134 := k_mok_of (own := "SleepWork") (name := "") false rfl (fun h => by cases h) k_pok11 (by decide +kernel)
theorem k_ok135 : k_mok k_m135 := k_mok_of (own := "SleepWork") (name := "") false rfl (fun h => by cases h) k_pok11 (by decide +kernel)
theorem k_ok136 : k_mok k_m136 := k_mok_of (own := "SleepWork") (name := "") false rfl (fun h => by cases h) k_pok11 (by decide +kernel)
theorem k_ok137 : k_mok k_m137 := k_mok_of (own := "SleepWork") (name := "") false rfl (fun h => by cases h) k_pok11 (by decide +kernel)
theorem k_x138_0 : k_c138_0.all (g_chk prog_14_method_2_code true k_p12) = true := by decide +kernel
theorem k_x138_1 : k_c138_1.all (g_chk prog_14_method_2_code true k_p12) = true := by decide +kernel
theorem k_x138_2 : k_c138_2.all (g_chk prog_14_method_2_code true k_p12) = true := by decide +kernel
theorem k_x138_3 : k_c138_3.all (g_chk prog_14_method_2_code true k_p12) = true := by decide +kernel
end
section
/-! methods checked (printed by wip/gen.py) -/
theorem k_x138_4 : k_c138_4.all (g_chk prog_14_method_2_code true k_p12) = true := by decide +kernel
theorem k_x138_5 : k_c138_5.all (g_chk prog_14_method_2_code true k_p12) = true := by decide +kernel
theorem k_x138_6 : k_c138_6.all (g_chk prog_14_method_2_code true k_p12) = true := by decide +kernel
theorem k_x138_7 : k_c138_7.all (g_chk prog_14_method_2_code true k_p12) = true := by decide +kernel
theorem k_x138_8 : k_c138_8.all (g_chk prog_14_method_2_code true k_p12) = true := by decide +kernel
theorem k_ok138 : k_mok k_m138 := k_mok_of (own := "SleepWorkModel") (name := "") true rfl (fun _ => rfl) k_pok12 (by simp only [k_c138, List.all_append, k_x138_0, k_x138_1, k_x138_2, k_x138_3, k_x138_4, k_x138_5, k_x138_6, k_x138_7, k_x138_8, Bool.and_self])
end
section
/-! methods checked (printed by wip/gen.py) -/
theorem k_ok139 : k_mok k_m139 := k_mok_of (own := "SleepWorkModel") (name := "") false rfl (fun h => by cases h) k_pok12 (by decide +kernel)
theorem k_ok140 : k_mok k_m140 := k_mok_of (own := "SleepWorkModel") (name := "") false rfl (fun h => by cases h) k_pok12 (by decide +kernel)
theorem k_ok141 : k_mok k_m141 := k_mok_of (own := "SleepWorkModel") (name := "") false rfl (fun h => by cases h) k_pok12 (by decide +kernel)
theorem k_ok142 : k_mok k_m142 := k_mok_of (own := "SleepWorkModel") (name := "") false rfl (fun h => by cases h) k_pok12 (by decide +kernel)
theorem k_ok143 : k_mok k_m143 := k_mok_of (own := "SleepWorkModel") (name := "") false rfl (fun h => by cases h) k_pok12 (by decide +kernel)
theorem k_ok144 : k_mok k_m144 := k_mok_of (own := "SleepWorkModel") (name := "") false rfl (fun h => by cases h) k_pok12 (by decide +kernel)
theorem k_ok145 : k_mok k_m145 := k_mok_of (own := "SleepWorkModel") (name := "") false rfl (fun h => by cases h) k_pok12 (by decide +kernel)
theorem k_ok146 : k_mok k_m146 := k_mok_of (own := "SleepWorkModel") (name := "") false rfl (fun h => by cases h) k_pok12 (by decide +kernel)
theorem k_ok147 : k_mok k_m147 := k_mok_of (own := "SleepWorkModel") (name := "") false rfl (fun h => by cases h) k_pok12 (by decide +kernel)
theorem k_x148_0 : k_c148_0.all (g_chk prog_14_method_12_code false k_p12) = true := by decide +kernel
theorem k_x148_1 : k_c148_1.all (g_chk prog_14_method_12_code false k_p12) = true := by decide +kernel
theorem k_x148_2 : k_c148_2.all (g_chk prog_14_method_12_code false k_p12) = true := by decide +kernel
theorem k_ok148 : k_mok k_m148 := k_mok_of (own := "SleepWorkModel") (name := "") false rfl (fun h => by cases h) k_pok12 (by simp only [k_c148, List.all_append, k_x148_0, k_x148_1, k_x148_2, Bool.and_self])
theorem k_ok149 : k_mok k_m149 := k_mok_of (own := "SleepWorkModel") (name := "") false rfl (fun h => by cases h) k_pok12 (by decide +kernel)
theorem k_ok150 : k_mok k_m150 := k_mok_of (own := "SleepWorkModel") (name := "") false rfl (fun h => by cases h) k_pok12 (by decide +kernel)
theorem k_ok151 : k_mok k_m151 := k_mok_of (own := "SleepWorkModel") (name := "") false rfl (fun h => by cases h) k_pok12 (by decide +kernel)
theorem k_ok152 : k_mok k_m152 := k_mok_of (own := "SleepWorkModel") (name := "") false rfl (fun h => by cases h) k_pok12 (by decide +kernel)
theorem k_ok153 : k_mok k_m153 := k_mok_of (own := "SleepWorkModel") (name := "") false rfl (fun h => by cases h) k_pok12 (by decide +kernel)
theorem k_ok154 : k_mok k_m154 := k_mok_of (own := "SleepWorkModel") (name := "") false rfl (fun h => by cases h) k_pok12 (by decide +kernel)
theorem k_x155_0 : k_c155_0.all (g_chk prog_14_method_19_code false k_p12) = true := by decide +kernel
theorem k_x155_1 : k_c155_1.all (g_chk prog_14_method_19_code false k_p12) = true := by decide +kernel
theorem k_x155_2 : k_c155_2.all (g_chk prog_14_method_19_code false k_p12) = true := by decide +kernel
theorem k_x155_3 : k_c155_3.all (g_chk prog_14_method_19_code false k_p12) = true := by decide +kernel
theorem k_ok155 : k_mok k_m155 := k_mok_of (own := "SleepWorkModel") (name := "") false rfl (fun h => by cases h) k_pok12 (by simp only [k_c155, List.all_append, k_x155_0, k_x155_1, k_x155_2, k_x155_3, Bool.and_self])
theorem k_ok156 : k_mok k_m156 := k_mok_of (own := "SleepWorkModel") (name := "") false rfl (fun h => by cases h) k_pok12 (by decide +kernel)
theorem k_ok157 : k_mok k_m157 := k_mok_of (own := "SleepWorkModel") (name := "") false rfl (fun h => by cases h) k_pok12 (by decide +kernel)
theorem k_ok158 : k_mok k_m158 := k_mok_of (own := "SleepWorkModel") (name := "") false rfl (fun h => by cases h) k_pok12 (by decide +kernel)
theorem k_ok159 : k_mok k_m159 := k_mok_of (own := "SleepWorkModel") (name := "") false rfl (fun h => by cases h) k_pok12 (by decide +kernel)
theorem k_ok160 : k_mok k_m160 := k_mok_of (own := "SleepWorkModel") (name := "") false rfl (fun h => by cases h) k_pok12 (by decide +kernel)
end
section
/-! methods checked (printed by wip/gen.py) -/
theorem k_ok161 : k_mok k_m161 := k_mok_of (own := "SleepWorkModel") (name := "") false rfl (fun h => by cases h) k_pok12 (by decide +kernel)
theorem k_ok162 : k_mok k_m162 := k_mok_of (own := "SleepWorkModel") (name := "") false rfl (fun h => by cases h) k_pok12 (by decide +kernel)
theorem k_ok163 : k_mok k_m163 := k_mok_of (own := "SleepWorkModel") (name := "") false rfl (fun h => by cases h) k_pok12 (by decide +kernel)
theorem k_ok164 : k_mok k_m164 := k_mok_of (own := "SleepWorkModel") (name := "") false rfl (fun h => by cases h) k_pok12 (by decide +kernel)
theorem k_ok165 : k_mok k_m165 := k_mok_of (own := "SleepWorkModel") (name := "") false rfl (fun h => by cases h) k_pok12 (by decide +kernel)
theorem k_ok166 : k_mok k_m166 := k_mok_of (own := "SleepWorkModel") (name := "") false rfl (fun h => by cases h) k_pok12 (by decide +kernel)
theorem k_ok167 : k_mok k_m167 := k_mok_of (own := "SleepWorkModel") (name := "") false rfl (fun h => by cases h) k_pok12 (by decide +kernel)
theorem k_ok168 : k_mok k_m168 := k_mok_of (own := "SleepWorkModel") (name := "") false rfl (fun h => by cases h) k_pok12 (by decide +kernel)
theorem k_ok169 : k_mok k_m169 := k_mok_of (own := "SleepWorkModel") (name := "") false rfl (fun h => by cases h) k_pok12 (by decide +kernel)
theorem k_ok170 : k_mok k_m170 := k_mok_of (own := "SleepWorkModel") (name := "") false rfl (fun h => by cases h) k_pok12 (by decide +kernel)
theorem k_ok171 : k_mok k_m171 := k_mok_of (own := "SleepWorkModel") (name := "") false rfl (fun h => by cases h) k_pok12 (by decide +kernel)
theorem k_ok172 : k_mok k_m172 := k_mok_of (own := "SleepWorkModel") (name := "") false rfl (fun h => by cases h) k_pok12 (by decide +kernel)
theorem k_ok173 : k_mok k_m173 := k_mok_of (own := "SleepWorkModel") (name := "") false rfl (fun h => by cases h) k_pok12 (by decide +kernel)
theorem k_ok174 : k_mok k_m174 := k_mok_of (own := "SleepWorkModel") (name := "") false rfl (fun h => by cases h) k_pok12 (by decide +kernel)
end
section
/-! methods checked (printed by wip/gen.py) -/
theorem k_ok175 : k_mok k_m175 := k_mok_of (own := "SleepWorkModel") (name := "") false rfl (fun h => by cases h) k_pok12 (by decide +kernel)
theorem k_ok176 : k_mok k_m176 := k_mok_of (own := "SleepWorkModel") (name := "") false rfl (fun h => by cases h) k_pok12 (by decide +kernel)
theorem k_ok177 : k_mok k_m177 := k_mok_of (own := "SleepWorkModel") (name := "") false rfl (fun h => by cases h) k_pok12 (by decide +kernel)
theorem k_ok178 : k_mok k_m178 := k_mok_of (own := "SleepWorkModel") (name := "") false rfl (fun h => by cases h) k_pok12 (by decide +kernel)
theorem k_ok179 : k_mok k_m179 := k_mok_of (own := "SleepWorkModel") (name := "") false rfl (fun h => by cases h) k_pok12 (by decide +kernel)
theorem k_ok180 : k_mok k_m180 := k_mok_of (own := "SleepWorkModel") (name := "") false rfl (fun h => by cases h) k_pok12 (by decide +kernel)
theorem k_ok181 : k_mok k_m181 := k_mok_of (own := "SleepWorkModel") (name := "") false rfl (fun h => by cases h) k_pok12 (by decide +kernel)
theorem k_ok182 : k_mok k_m182 := k_mok_of (own := "SleepWorkModel") (name := "") false rfl (fun h => by cases h) k_pok12 (by decide +kernel)
theorem k_ok183 : k_mok k_m183 := k_mok_of (own := "SleepWorkModel") (name := "") false rfl (fun h => by cases h) k_pok12 (by decide +kernel)
theorem k_ok184 : k_mok k_m184 := k_mok_of (own := "SleepWorkModel") (name := "") false rfl (fun h => by cases h) k_pok12 (by decide +kernel)
theorem k_ok185 : k_mok k_m185 := k_mok_of (own := "SleepWorkModel") (name := "") false rfl (fun h => by cases h) k_pok12 (by decide +kernel)
theorem k_ok186 : k_mok k_m186 := k_mok_of (own := "SleepWorkModel") (name := "") false rfl (fun h => by cases h) k_pok12 (by decide +kernel)
theorem k_ok187 : k_mok k_m187 := k_mok_of (own := "SleepWorkModel") (name := "") false rfl (fun h => by cases h) k_pok12 (by decide +kernel)
theorem k_ok188 : k_mok k_m188 := k_mok_of (own := "SleepWorkModel") (name := "") false rfl (fun h => by cases h) k_pok12 (by decide +kernel)
theorem k_ok189 : k_mok k_m189 := k_mok_of (own := "SleepWorkModel") (name := "") false rfl (fun h => by cases h) k_pok12 (by decide +kernel)
theorem k_ok190 : k_mok k_m190 := k_mok_of (own := "SleepWorkModel") (name := "") false rfl (fun h => by cases h) k_pok12 (by decide +kernel)
theorem k_ok191 : k_mok k_m191 := k_mok_of (own := "SleepWorkModel") (name := "") false rfl (fun h => by cases h) k_pok12 (by decide +kernel)
theorem k_x192_0 : k_c192_0.all (g_chk prog_14_method_56_code false k_p12) = true := by decide +kernel
theorem k_x192_1 : k_c192_1.all (g_chk prog_14_method_56_code false k_p12) = true := by decide +kernel
theorem k_x192_2 : k_c192_2.all (g_chk prog_14_method_56_code false k_p12) = true := by decide +kernel
theorem k_ok192 : k_mok k_m192 := k_mok_of (own := "SleepWorkModel") (name := "") false rfl (fun h => by cases h) k_pok12 (by simp only [k_c192, List.all_append, k_x192_0, k_x192_1, k_x192_2, Bool.and_self])
theorem k_ok193 : k_mok k_m193 := k_mok_of (own := "SleepWorkModel") (name := "") false rfl (fun h => by cases h) k_pok12 (by decide +kernel)
theorem k_x194_0 : k_c194_0.all (g_chk prog_14_method_58_code false k_p12) = true := by decide +kernel
theorem k_x194_1 : k_c194_1.all (g_chk prog_14_method_58_code false k_p12) = true := by decide +kernel
theorem k_x194_2 : k_c194_2.all (g_chk prog_14_method_58_code false k_p12) = true := by decide +kernel
end
section
/-! methods checked (printed by wip/gen.py) -/
theorem k_ok194 : k_mok k_m194 := k_mok_of (own := "SleepWorkModel") (name := "") false rfl (fun h => by cases h) k_pok12 (by simp only [k_c194, List.all_append, k_x194_0, k_x194_1, k_x194_2, Bool.and_self])
theorem k_ok195 : k_mok k_m195 := k_mok_of (own := "SleepWorkModel") (name := "") false rfl (fun h => by cases h) k_pok12 (by decide +kernel)
theorem k_ok196 : k_mok k_m196 := k_mok_of (own := "SleepWorkModel") (name := "") false rfl (fun h => by cases h) k_pok12 (by decide +kernel)
theorem k_ok197 : k_mok k_m197 := k_mok_of (own := "SleepWorkModel") (name := "") false rfl (fun h => by cases h) k_pok12 (by decide +kernel)
theorem k_ok198 : k_mok k_m198 := k_mok_of (own := "SleepWorkModel") (name := "") false rfl (fun h => by cases h) k_pok12 (by decide +kernel)
theorem k_ok199 : k_mok k_m199 := k_mok_of (own := "SleepWorkModel") (name := "") false rfl (fun h => by cases h) k_pok12 (by decide +kernel)
theorem k_ok200 : k_mok k_m200 := k_mok_of (own := "SleepWorkModel") (name := "") false rfl (fun h => by cases h) k_pok12 (by decide +kernel)
theorem k_ok201 : k_mok k_m201 := k_mok_of (own := "SleepWorkModel") (name := "") false rfl (fun h => by cases h) k_pok12 (by decide +kernel)
theorem k_ok202 : k_mok k_m202 := k_mok_of (own := "SleepWorkModel") (name := "") false rfl (fun h => by cases h) k_pok12 (by decide +kernel)
theorem k_ok203 : k_mok k_m203 := k_mok_of (own := "SleepWorkModel") (name := "") false rfl (fun h => by cases h) k_pok12 (by decide +kernel)
theorem k_ok204 : k_mok k_m204 := k_mok_of (own := "SleepWorkModel") (name := "") false rfl (fun h => by cases h) k_pok12 (by decide +kernel)
theorem k_ok205 : k_mok k_m205 := k_mok_of (own := "SleepWorkModel") (name := "") false rfl (fun h => by cases h) k_pok12 (by decide +kernel)
theorem k_ok206 : k_mok k_m206 := k_mok_of (own := "SleepWorkModel") (name := "") false rfl (fun h => by cases h) k_pok12 (by decide +kernel)
theorem k_ok207 : k_mok k_m207 := k_mok_of (own := "SleepWorkModel") (name := "") false rfl (fun h => by cases h) k_pok12 (by decide +kernel)
theorem k_ok208 : k_mok k_m208 := k_mok_of (own := "SleepWorkModel") (name := "") false rfl (fun h => by cases h) k_pok12 (by decide +kernel)
theorem k_ok209 : k_mok k_m209 := k_mok_of (own := "SleepWorkModel") (name := "") false rfl (fun h => by cases h) k_pok12 (by decide +kernel)
theorem k_ok210 : k_mok k_m210 := k_mok_of (own := "SleepWorkModel") (name := "") false rfl (fun h => by cases h) k_pok12 (by decide +kernel)
theorem k_ok211 : k_mok k_m211 := k_mok_of (own := "SleepWorkModel") (name := "") false rfl (fun h => by cases h) k_pok12 (by decide +kernel)
theorem k_ok212 : k_mok k_m212 := k_mok_of (own := "SleepWorkModel") (name := "") false rfl (fun h => by cases h) k_pok12 (by decide +kernel)
theorem k_ok213 : k_mok k_m213 := k_mok_of (own := "SleepWorkModel") (name := "") false rfl (fun h => by cases h) k_pok12 (by decide +kernel)
theorem k_ok214 : k_mok k_m214 := k_mok_of (own := "SleepWorkModel") (name := "") false rfl (fun h => by cases h) k_pok12 (by decide +kernel)
theorem k_ok215 : k_mok k_m215 := k_mok_of (own := "SleepWorkModel") (name := "") false rfl (fun h => by cases h) k_pok12 (by decide +kernel)
theorem k_ok216 : k_mok k_m216 := k_mok_of (own := "SleepWorkModel") (name := "") false rfl (fun h => by cases h) k_pok12 (by decide +kernel)
end
section
/-! methods checked (printed by wip/gen.py) -/
theorem k_ok217 : k_mok k_m217 := k_mok_of (own := "SleepWorkModel") (name := "") false rfl (fun h => by cases h) k_pok12 (by decide +kernel)
theorem k_ok218 : k_mok k_m218 := k_mok_of (own := "SleepWorkModel") (name := "") false rfl (fun h => by cases h) k_pok12 (by decide +kernel)
theorem k_ok219 : k_mok k_m219 := k_mok_of (own := "SleepWorkModel") (name := "") false rfl (fun h => by cases h) k_pok12 (by decide +kernel)
theorem k_ok220 : k_mok k_m220 := k_mok_of (own := "SleepWorkModel") (name := "") false rfl (fun h => by cases h) k_pok12 (by decide +kernel)
theorem k_ok221 : k_mok k_m221 := k_mok_of (own := "SleepWorkModel") (name := "") false rfl (fun h => by cases h) k_pok12 (by decide +kernel)
theorem k_ok222 : k_mok k_m222 := k_mok_of (own := "SleepWorkModel") (name := "") false rfl (fun h => by cases h) k_pok12 (by decide +kernel)
theorem k_ok223 : k_mok k_m223 := k_mok_of (own := "SleepWorkModel") (name := "") false rfl (fun h => by cases h) k_pok12 (by decide +kernel)
theorem k_ok224 : k_mok k_m224 := k_mok_of (own := "SleepWorkModel") (name := "") false rfl (fun h => by cases h) k_pok12 (by decide +kernel)
theorem k_ok225 : k_mok k_m225 := k_mok_of (own := "SleepWorkModel") (name := "") false rfl (fun h => by cases h) k_pok12 (by decide +kernel)
theorem k_ok226 : k_mok k_m226 := k_mok_of (own := "SleepWorkModel") (name := "") false rfl (fun h => by cases h) k_pok12 (by decide +kernel)
theorem k_ok227 : k_mok k_m227 := k_mok_of (own := "SleepWorkModel") (name := "") false rfl (fun h => by cases h) k_pok12 (by decide +kernel)
theorem k_ok228 : k_mok k_m228 := k_mok_of (own := "SleepWorkModel") (name := "") false rfl (fun h => by cases h) k_pok12 (by decide +kernel)
theorem k_ok229 : k_mok k_m229 := k_mok_of (own := "SleepWorkModel") (name := "") false rfl (fun h => by cases h) k_pok12 (by decide +kernel)
theorem k_ok230 : k_mok k_m230 := k_mok_of (own := "SleepWorkModel") (name := "") false rfl (fun h => by cases h) k_pok12 (by decide +kernel)
theorem k_ok231 : k_mok k_m231 := k_mok_of (own := "SleepWorkModel") (name := "") false rfl (fun h => by cases h) k_pok12 (by decide +kernel)
theorem k_ok232 : k_mok k_m232 := k_mok_of (own := "SleepWorkModel") (name := "") false rfl (fun h => by cases h) k_pok12 (by decide +kernel)
theorem k_ok233 : k_mok k_m233 := k_mok_of (own := "SleepWorkModel") (name := "") false rfl (fun h => by cases h) k_pok12 (by decide +kernel)
theorem k_ok234 : k_mok k_m234 := k_mok_of (own := "SleepWorkModel") (name := "") false rfl (fun h => by cases h) k_pok12 (by decide +kernel)
theorem k_ok235 : k_mok k_m235 := k_mok_of (own := "SleepWorkModel") (name := "") false rfl (fun h => by cases h) k_pok12 (by decide +kernel)
theorem k_ok236 : k_mok k_m236 := k_mok_of (own := "SleepWorkModel") (name := "") false rfl (fun h => by cases h) k_pok12 (by decide +kernel)
theorem k_ok237 : k_mok k_m237 := k_mok_of (own := "SleepWorkModel") (name := "") false rfl (fun h => by cases h) k_pok12 (by decide +kernel)
theorem k_ok238 : k_mok k_m238 := k_mok_of (own := "SleepWorkModel") (name := "") false rfl (fun h => by cases h) k_pok12 (by decide +kernel)
theorem k_ok239 : k_mok k_m239 := k_mok_of (own := "SleepWorkModel") (name := "") false rfl (fun h => by cases h) k_pok12 (by decide +kernel)
end
section
/-! methods checked (printed by wip/gen.py) -/
theorem k_ok240 : k_mok k_m240 := k_mok_of (own := "java/lang/Character") (name := "") false rfl (fun h => by cases h) k_pok13 (by decide +kernel)
theorem k_ok241 : k_mok k_m241 := k_mok_of (own := "java/lang/Character") (name := "") false rfl (fun h => by cases h) k_pok13 (by decide +kernel)
theorem k_ok242 : k_mok k_m242 := k_mok_of (own := "java/lang/Character") (name := "") false rfl (fun h => by cases h) k_pok13 (by decide +kernel)
theorem k_ok243 : k_mok k_m243 := k_mok_of (own := "java/lang/Integer") (name := "") false rfl (fun h => by cases h) k_pok14 (by decide +kernel)
theorem k_ok244 : k_mok k_m244 := k_mok_of (own := "java/lang/Math") (name := "") false rfl (fun h => by cases h) k_pok15 (by decide +kernel)
theorem k_ok245 : k_mok k_m245 := k_mok_of (own := "java/lang/Math") (name := "") false rfl (fun h => by cases h) k_pok15 (by decide +kernel)
theorem k_ok246 : k_mok k_m246 := k_mok_of (own := "java/lang/String") (name := "") false rfl (fun h => by cases h) k_pok16 (by decide +kernel)
theorem k_ok247 : k_mok k_m247 := k_mok_of (own := "java/lang/String") (name := "") false rfl (fun h => by cases h) k_pok16 (by decide +kernel)
theorem k_ok248 : k_mok k_m248 := k_mok_of (own := "java/lang/String") (name := "") false rfl (fun h => by cases h) k_pok16 (by decide +kernel)
theorem k_ok249 : k_mok k_m249 := k_mok_of (own := "java/lang/String") (name := "") false rfl (fun h => by cases h) k_pok16 (by decide +kernel)
theorem k_ok250 : k_mok k_m250 := k_mok_of (own := "java/lang/String") (name := "") false rfl (fun h => by cases h) k_pok16 (by decide +kernel)
theorem k_ok251 : k_mok k_m251 := k_mok_of (own := "java/lang/String") (name := "") false rfl (fun h => by cases h) k_pok16 (by decide +kernel)
theorem k_ok252 : k_mok k_m252 := k_mok_of (own := "java/lang/String") (name := "") false rfl (fun h => by cases h) k_pok16 (by decide +kernel)
theorem k_ok253 : k_mok k_m253 := k_mok_of (own := "java/lang/String") (name := "") false rfl (fun h => by cases h) k_pok16 (by decide +kernel)
theorem k_ok254 : k_mok k_m254 := k_mok_of (own := "java/lang/StringLatin1") (name := "") false rfl (fun h => by cases h) k_pok17 (by decide +kernel)
theorem k_ok255 : k_mok k_m255 := k_mok_of (own := "java/lang/StringLatin1") (name := "") false rfl (fun h => by cases h) k_pok17 (by decide +kernel)
theorem k_ok256 : k_mok k_m256 := k_mok_of (own := "java/lang/StringLatin1") (name := "") false rfl (fun h => by cases h) k_pok17 (by decide +kernel)
theorem k_ok257 : k_mok k_m257 := k_mok_of (own := "java/lang/StringLatin1") (name := "") false rfl (fun h => by cases h) k_pok17 (by decide +kernel)
theorem k_ok258 : k_mok k_m258 := k_mok_of (own := "java/lang/StringUTF16") (name := "") false rfl (fun h => by cases h) k_pok18 (by decide +kernel)
theorem k_ok259 : k_mok k_m259 := k_mok_of (own := "java/lang/StringUTF16") (name := "") false rfl (fun h => by cases h) k_pok18 (by decide +kernel)
theorem k_ok260 : k_mok k_m260 := k_mok_of (own := "java/lang/StringUTF16") (name := "") false rfl (fun h => by cases h) k_pok18 (by decide +kernel)
theorem k_ok261 : k_mok k_m261 := k_mok_of (own := "java/lang/StringUTF16") (name := "") false rfl (fun h => by cases h) k_pok18 (by decide +kernel)
theorem k_ok262 : k_mok k_m262 := k_mok_of (own := "java/lang/StringUTF16") (name := "") false rfl (fun h => by cases h) k_pok18 (by decide +kernel)
theorem k_ok263 : k_mok k_m263 := k_mok_of (own := "java/lang/StringUTF16") (name := "") false rfl (fun h => by cases h) k_pok18 (by decide +kernel)
theorem k_ok264 : k_mok k_m264 := k_mok_of (own := "java/lang/StringUTF16") (name := "") false rfl (fun h => by cases h) k_pok18 (by decide +kernel)
theorem k_ok265 : k_mok k_m265 := k_mok_of (own := "java/lang/StringUTF16") (name := "") false rfl (fun h => by cases h) k_pok18 (by decide +kernel)
theorem k_ok266 : k_mok k_m266 := k_mok_of (own := "java/lang/StringUTF16") (name := "") false rfl (fun h => by cases h) k_pok18 (by decide +kernel)
theorem k_ok267 : k_mok k_m267 := k_mok_of (own := "java/util/Arrays") (name := "") false rfl (fun h => by cases h) k_pok19 (by decide +kernel)
theorem k_ok268 : k_mok k_m268 := k_mok_of (own := "java/util/Arrays") (name := "") false rfl (fun h => by cases h) k_pok19 (by decide +kernel)
theorem k_ok269 : k_mok k_m269 := k_mok_of (own := "jdk/internal/util/Preconditions") (name := "") false rfl (fun h => by cases h) k_pok20 (by decide +kernel)
theorem k_ok270 : k_mok k_m270 := k_mok_of (own := "jdk/internal/util/Preconditions") (name := "") false rfl (fun h => by cases h) k_pok20 (by decide +kernel)
theorem k_x271_0 : k_c271_0.all (g_chk code false k_p21) = true := by decide +kernel
theorem k_x271_1 : k_c271_1.all (g_chk code false k_p21) = true := by decide +kernel
theorem k_x271_2 : k_c271_2.all (g_chk code false k_p21) = true := by decide +kernel
end
section
/-! methods checked (printed by wip/gen.py) -/
theorem k_x271_3 : k_c271_3.all (g_chk code false k_p21) = true := by decide +kernel
theorem k_x271_4 : k_c271_4.all (g_chk code false k_p21) = true := by decide +kernel
theorem k_x271_5 : k_c271_5.all (g_chk code false k_p21) = true := by decide +kernel
theorem k_x271_6 : k_c271_6.all (g_chk code false k_p21) = true := by decide +kernel
theorem k_x271_7 : k_c271_7.all (g_chk code false k_p21) = true := by decide +kernel
theorem k_x271_8 : k_c271_8.all (g_chk code false k_p21) = true := by decide +kernel
end
section
/-! methods checked (printed by wip/gen.py) -/
theorem k_x271_9 : k_c271_9.all (g_chk code false k_p21) = true := by decide +kernel
theorem k_x271_10 : k_c271_10.all (g_chk code false k_p21) = true := by decide +kernel
theorem k_x271_11 : k_c271_11.all (g_chk code false k_p21) = true := by decide +kernel
theorem k_x271_12 : k_c271_12.all (g_chk code false k_p21) = true := by decide +kernel
theorem k_x271_13 : k_c271_13.all (g_chk code false k_p21) = true := by decide +kernel
theorem k_ok271 : k_mok k_m271 := k_mok_of (own := "SleepWorkLaw") (name := "") false rfl (fun h => by cases h) k_pok21 (by simp only [k_c271, List.all_append, k_x271_0, k_x271_1, k_x271_2, k_x271_3, k_x271_4, k_x271_5, k_x271_6, k_x271_7, k_x271_8, k_x271_9, k_x271_10, k_x271_11, k_x271_12, k_x271_13, Bool.and_self])
end
section
/-! methods checked (printed by wip/gen.py) -/
end
section
set_option maxRecDepth 100000 in
theorem k_all : ∀ m ∈ k_ms, k_mok m := List.forall_mem_cons.mpr ⟨k_ok0, List.forall_mem_cons.mpr ⟨k_ok1, List.forall_mem_cons.mpr ⟨k_ok2, List.forall_mem_cons.mpr ⟨k_ok3, List.forall_mem_cons.mpr ⟨k_ok4, List.forall_mem_cons.mpr ⟨k_ok5, List.forall_mem_cons.mpr ⟨k_ok6, List.forall_mem_cons.mpr ⟨k_ok7, List.forall_mem_cons.mpr ⟨k_ok8, List.forall_mem_cons.mpr ⟨k_ok9, List.forall_mem_cons.mpr ⟨k_ok10, List.forall_mem_cons.mpr ⟨k_ok11, List.forall_mem_cons.mpr ⟨k_ok12, List.forall_mem_cons.mpr ⟨k_ok13, List.forall_mem_cons.mpr ⟨k_ok14, List.forall_mem_cons.mpr ⟨k_ok15, List.forall_mem_cons.mpr ⟨k_ok16, List.forall_mem_cons.mpr ⟨k_ok17, List.forall_mem_cons.mpr ⟨k_ok18, List.forall_mem_cons.mpr ⟨k_ok19, List.forall_mem_cons.mpr ⟨k_ok20, List.forall_mem_cons.mpr ⟨k_ok21, List.forall_mem_cons.mpr ⟨k_ok22, List.forall_mem_cons.mpr ⟨k_ok23, List.forall_mem_cons.mpr ⟨k_ok24, List.forall_mem_cons.mpr ⟨k_ok25, List.forall_mem_cons.mpr ⟨k_ok26, List.forall_mem_cons.mpr ⟨k_ok27, List.forall_mem_cons.mpr ⟨k_ok28, List.forall_mem_cons.mpr ⟨k_ok29, List.forall_mem_cons.mpr ⟨k_ok30, List.forall_mem_cons.mpr ⟨k_ok31, List.forall_mem_cons.mpr ⟨k_ok32, List.forall_mem_cons.mpr ⟨k_ok33, List.forall_mem_cons.mpr ⟨k_ok34, List.forall_mem_cons.mpr ⟨k_ok35, List.forall_mem_cons.mpr ⟨k_ok36, List.forall_mem_cons.mpr ⟨k_ok37, List.forall_mem_cons.mpr ⟨k_ok38, List.forall_mem_cons.mpr ⟨k_ok39, List.forall_mem_cons.mpr ⟨k_ok40, List.forall_mem_cons.mpr ⟨k_ok41, List.forall_mem_cons.mpr ⟨k_ok42, List.forall_mem_cons.mpr ⟨k_ok43, List.forall_mem_cons.mpr ⟨k_ok44, List.forall_mem_cons.mpr ⟨k_ok45, List.forall_mem_cons.mpr ⟨k_ok46, List.forall_mem_cons.mpr ⟨k_ok47, List.forall_mem_cons.mpr ⟨k_ok48, List.forall_mem_cons.mpr ⟨k_ok49, List.forall_mem_cons.mpr ⟨k_ok50, List.forall_mem_cons.mpr ⟨k_ok51, List.forall_mem_cons.mpr ⟨k_ok52, List.forall_mem_cons.mpr ⟨k_ok53, List.forall_mem_cons.mpr ⟨k_ok54, List.forall_mem_cons.mpr ⟨k_ok55, List.forall_mem_cons.mpr ⟨k_ok56, List.forall_mem_cons.mpr ⟨k_ok57, List.forall_mem_cons.mpr ⟨k_ok58, List.forall_mem_cons.mpr ⟨k_ok59, List.forall_mem_cons.mpr ⟨k_ok60, List.forall_mem_cons.mpr ⟨k_ok61, List.forall_mem_cons.mpr ⟨k_ok62, List.forall_mem_cons.mpr ⟨k_ok63, List.forall_mem_cons.mpr ⟨k_ok64, List.forall_mem_cons.mpr ⟨k_ok65, List.forall_mem_cons.mpr ⟨k_ok66, List.forall_mem_cons.mpr ⟨k_ok67, List.forall_mem_cons.mpr ⟨k_ok68, List.forall_mem_cons.mpr ⟨k_ok69, List.forall_mem_cons.mpr ⟨k_ok70, List.forall_mem_cons.mpr ⟨k_ok71, List.forall_mem_cons.mpr ⟨k_ok72, List.forall_mem_cons.mpr ⟨k_ok73, List.forall_mem_cons.mpr ⟨k_ok74, List.forall_mem_cons.mpr ⟨k_ok75, List.forall_mem_cons.mpr ⟨k_ok76, List.forall_mem_cons.mpr ⟨k_ok77, List.forall_mem_cons.mpr ⟨k_ok78, List.forall_mem_cons.mpr ⟨k_ok79, List.forall_mem_cons.mpr ⟨k_ok80, List.forall_mem_cons.mpr ⟨k_ok81, List.forall_mem_cons.mpr ⟨k_ok82, List.forall_mem_cons.mpr ⟨k_ok83, List.forall_mem_cons.mpr ⟨k_ok84, List.forall_mem_cons.mpr ⟨k_ok85, List.forall_mem_cons.mpr ⟨k_ok86, List.forall_mem_cons.mpr ⟨k_ok87, List.forall_mem_cons.mpr ⟨k_ok88, List.forall_mem_cons.mpr ⟨k_ok89, List.forall_mem_cons.mpr ⟨k_ok90, List.forall_mem_cons.mpr ⟨k_ok91, List.forall_mem_cons.mpr ⟨k_ok92, List.forall_mem_cons.mpr ⟨k_ok93, List.forall_mem_cons.mpr ⟨k_ok94, List.forall_mem_cons.mpr ⟨k_ok95, List.forall_mem_cons.mpr ⟨k_ok96, List.forall_mem_cons.mpr ⟨k_ok97, List.forall_mem_cons.mpr ⟨k_ok98, List.forall_mem_cons.mpr ⟨k_ok99, List.forall_mem_cons.mpr ⟨k_ok100, List.forall_mem_cons.mpr ⟨k_ok101, List.forall_mem_cons.mpr ⟨k_ok102, List.forall_mem_cons.mpr ⟨k_ok103, List.forall_mem_cons.mpr ⟨k_ok104, List.forall_mem_cons.mpr ⟨k_ok105, List.forall_mem_cons.mpr ⟨k_ok106, List.forall_mem_cons.mpr ⟨k_ok107, List.forall_mem_cons.mpr ⟨k_ok108, List.forall_mem_cons.mpr ⟨k_ok109, List.forall_mem_cons.mpr ⟨k_ok110, List.forall_mem_cons.mpr ⟨k_ok111, List.forall_mem_cons.mpr ⟨k_ok112, List.forall_mem_cons.mpr ⟨k_ok113, List.forall_mem_cons.mpr ⟨k_ok114, List.forall_mem_cons.mpr ⟨k_ok115, List.forall_mem_cons.mpr ⟨k_ok116, List.forall_mem_cons.mpr ⟨k_ok117, List.forall_mem_cons.mpr ⟨k_ok118, List.forall_mem_cons.mpr ⟨k_ok119, List.forall_mem_cons.mpr ⟨k_ok120, List.forall_mem_cons.mpr ⟨k_ok121, List.forall_mem_cons.mpr ⟨k_ok122, List.forall_mem_cons.mpr ⟨k_ok123, List.forall_mem_cons.mpr ⟨k_ok124, List.forall_mem_cons.mpr ⟨k_ok125, List.forall_mem_cons.mpr ⟨k_ok126, List.forall_mem_cons.mpr ⟨k_ok127, List.forall_mem_cons.mpr ⟨k_ok128, List.forall_mem_cons.mpr ⟨k_ok129, List.forall_mem_cons.mpr ⟨k_ok130, List.forall_mem_cons.mpr ⟨k_ok131, List.forall_mem_cons.mpr ⟨k_ok132, List.forall_mem_cons.mpr ⟨k_ok133, List.forall_mem_cons.mpr ⟨k_ok134, List.forall_mem_cons.mpr ⟨k_ok135, List.forall_mem_cons.mpr ⟨k_ok136, List.forall_mem_cons.mpr ⟨k_ok137, List.forall_mem_cons.mpr ⟨k_ok138, List.forall_mem_cons.mpr ⟨k_ok139, List.forall_mem_cons.mpr ⟨k_ok140, List.forall_mem_cons.mpr ⟨k_ok141, List.forall_mem_cons.mpr ⟨k_ok142, List.forall_mem_cons.mpr ⟨k_ok143, List.forall_mem_cons.mpr ⟨k_ok144, List.forall_mem_cons.mpr ⟨k_ok145, List.forall_mem_cons.mpr ⟨k_ok146, List.forall_mem_cons.mpr ⟨k_ok147, List.forall_mem_cons.mpr ⟨k_ok148, List.forall_mem_cons.mpr ⟨k_ok149, List.forall_mem_cons.mpr ⟨k_ok150, List.forall_mem_cons.mpr ⟨k_ok151, List.forall_mem_cons.mpr ⟨k_ok152, List.forall_mem_cons.mpr ⟨k_ok153, List.forall_mem_cons.mpr ⟨k_ok154, List.forall_mem_cons.mpr ⟨k_ok155, List.forall_mem_cons.mpr ⟨k_ok156, List.forall_mem_cons.mpr ⟨k_ok157, List.forall_mem_cons.mpr ⟨k_ok158, List.forall_mem_cons.mpr ⟨k_ok159, List.forall_mem_cons.mpr ⟨k_ok160, List.forall_mem_cons.mpr ⟨k_ok161, List.forall_mem_cons.mpr ⟨k_ok162, List.forall_mem_cons.mpr ⟨k_ok163, List.forall_mem_cons.mpr ⟨k_ok164, List.forall_mem_cons.mpr ⟨k_ok165, List.forall_mem_cons.mpr ⟨k_ok166, List.forall_mem_cons.mpr ⟨k_ok167, List.forall_mem_cons.mpr ⟨k_ok168, List.forall_mem_cons.mpr ⟨k_ok169, List.forall_mem_cons.mpr ⟨k_ok170, List.forall_mem_cons.mpr ⟨k_ok171, List.forall_mem_cons.mpr ⟨k_ok172, List.forall_mem_cons.mpr ⟨k_ok173, List.forall_mem_cons.mpr ⟨k_ok174, List.forall_mem_cons.mpr ⟨k_ok175, List.forall_mem_cons.mpr ⟨k_ok176, List.forall_mem_cons.mpr ⟨k_ok177, List.forall_mem_cons.mpr ⟨k_ok178, List.forall_mem_cons.mpr ⟨k_ok179, List.forall_mem_cons.mpr ⟨k_ok180, List.forall_mem_cons.mpr ⟨k_ok181, List.forall_mem_cons.mpr ⟨k_ok182, List.forall_mem_cons.mpr ⟨k_ok183, List.forall_mem_cons.mpr ⟨k_ok184, List.forall_mem_cons.mpr ⟨k_ok185, List.forall_mem_cons.mpr ⟨k_ok186, List.forall_mem_cons.mpr ⟨k_ok187, List.forall_mem_cons.mpr ⟨k_ok188, List.forall_mem_cons.mpr ⟨k_ok189, List.forall_mem_cons.mpr ⟨k_ok190, List.forall_mem_cons.mpr ⟨k_ok191, List.forall_mem_cons.mpr ⟨k_ok192, List.forall_mem_cons.mpr ⟨k_ok193, List.forall_mem_cons.mpr ⟨k_ok194, List.forall_mem_cons.mpr ⟨k_ok195, List.forall_mem_cons.mpr ⟨k_ok196, List.forall_mem_cons.mpr ⟨k_ok197, List.forall_mem_cons.mpr ⟨k_ok198, List.forall_mem_cons.mpr ⟨k_ok199, List.forall_mem_cons.mpr ⟨k_ok200, List.forall_mem_cons.mpr ⟨k_ok201, List.forall_mem_cons.mpr ⟨k_ok202, List.forall_mem_cons.mpr ⟨k_ok203, List.forall_mem_cons.mpr ⟨k_ok204, List.forall_mem_cons.mpr ⟨k_ok205, List.forall_mem_cons.mpr ⟨k_ok206, List.forall_mem_cons.mpr ⟨k_ok207, List.forall_mem_cons.mpr ⟨k_ok208, List.forall_mem_cons.mpr ⟨k_ok209, List.forall_mem_cons.mpr ⟨k_ok210, List.forall_mem_cons.mpr ⟨k_ok211, List.forall_mem_cons.mpr ⟨k_ok212, List.forall_mem_cons.mpr ⟨k_ok213, List.forall_mem_cons.mpr ⟨k_ok214, List.forall_mem_cons.mpr ⟨k_ok215, List.forall_mem_cons.mpr ⟨k_ok216, List.forall_mem_cons.mpr ⟨k_ok217, List.forall_mem_cons.mpr ⟨k_ok218, List.forall_mem_cons.mpr ⟨k_ok219, List.forall_mem_cons.mpr ⟨k_ok220, List.forall_mem_cons.mpr ⟨k_ok221, List.forall_mem_cons.mpr ⟨k_ok222, List.forall_mem_cons.mpr ⟨k_ok223, List.forall_mem_cons.mpr ⟨k_ok224, List.forall_mem_cons.mpr ⟨k_ok225, List.forall_mem_cons.mpr ⟨k_ok226, List.forall_mem_cons.mpr ⟨k_ok227, List.forall_mem_cons.mpr ⟨k_ok228, List.forall_mem_cons.mpr ⟨k_ok229, List.forall_mem_cons.mpr ⟨k_ok230, List.forall_mem_cons.mpr ⟨k_ok231, List.forall_mem_cons.mpr ⟨k_ok232, List.forall_mem_cons.mpr ⟨k_ok233, List.forall_mem_cons.mpr ⟨k_ok234, List.forall_mem_cons.mpr ⟨k_ok235, List.forall_mem_cons.mpr ⟨k_ok236, List.forall_mem_cons.mpr ⟨k_ok237, List.forall_mem_cons.mpr ⟨k_ok238, List.forall_mem_cons.mpr ⟨k_ok239, List.forall_mem_cons.mpr ⟨k_ok240, List.forall_mem_cons.mpr ⟨k_ok241, List.forall_mem_cons.mpr ⟨k_ok242, List.forall_mem_cons.mpr ⟨k_ok243, List.forall_mem_cons.mpr ⟨k_ok244, List.forall_mem_cons.mpr ⟨k_ok245, List.forall_mem_cons.mpr ⟨k_ok246, List.forall_mem_cons.mpr ⟨k_ok247, List.forall_mem_cons.mpr ⟨k_ok248, List.forall_mem_cons.mpr ⟨k_ok249, List.forall_mem_cons.mpr ⟨k_ok250, List.forall_mem_cons.mpr ⟨k_ok251, List.forall_mem_cons.mpr ⟨k_ok252, List.forall_mem_cons.mpr ⟨k_ok253, List.forall_mem_cons.mpr ⟨k_ok254, List.forall_mem_cons.mpr ⟨k_ok255, List.forall_mem_cons.mpr ⟨k_ok256, List.forall_mem_cons.mpr ⟨k_ok257, List.forall_mem_cons.mpr ⟨k_ok258, List.forall_mem_cons.mpr ⟨k_ok259, List.forall_mem_cons.mpr ⟨k_ok260, List.forall_mem_cons.mpr ⟨k_ok261, List.forall_mem_cons.mpr ⟨k_ok262, List.forall_mem_cons.mpr ⟨k_ok263, List.forall_mem_cons.mpr ⟨k_ok264, List.forall_mem_cons.mpr ⟨k_ok265, List.forall_mem_cons.mpr ⟨k_ok266, List.forall_mem_cons.mpr ⟨k_ok267, List.forall_mem_cons.mpr ⟨k_ok268, List.forall_mem_cons.mpr ⟨k_ok269, List.forall_mem_cons.mpr ⟨k_ok270, List.forall_mem_cons.mpr ⟨k_ok271, fun _ h => absurd h List.not_mem_nil⟩⟩⟩⟩⟩⟩⟩⟩⟩⟩⟩⟩⟩⟩⟩⟩⟩⟩⟩⟩⟩⟩⟩⟩⟩⟩⟩⟩⟩⟩⟩⟩⟩⟩⟩⟩⟩⟩⟩⟩⟩⟩⟩⟩⟩⟩⟩⟩⟩⟩⟩⟩⟩⟩⟩⟩⟩⟩⟩⟩⟩⟩⟩⟩⟩⟩⟩⟩⟩⟩⟩⟩⟩⟩⟩⟩⟩⟩⟩⟩⟩⟩⟩⟩⟩⟩⟩⟩⟩⟩⟩⟩⟩⟩⟩⟩⟩⟩⟩⟩⟩⟩⟩⟩⟩⟩⟩⟩⟩⟩⟩⟩⟩⟩⟩⟩⟩⟩⟩⟩⟩⟩⟩⟩⟩⟩⟩⟩⟩⟩⟩⟩⟩⟩⟩⟩⟩⟩⟩⟩⟩⟩⟩⟩⟩⟩⟩⟩⟩⟩⟩⟩⟩⟩⟩⟩⟩⟩⟩⟩⟩⟩⟩⟩⟩⟩⟩⟩⟩⟩⟩⟩⟩⟩⟩⟩⟩⟩⟩⟩⟩⟩⟩⟩⟩⟩⟩⟩⟩⟩⟩⟩⟩⟩⟩⟩⟩⟩⟩⟩⟩⟩⟩⟩⟩⟩⟩⟩⟩⟩⟩⟩⟩⟩⟩⟩⟩⟩⟩⟩⟩⟩⟩⟩⟩⟩⟩⟩⟩⟩⟩⟩⟩⟩⟩⟩⟩⟩⟩⟩⟩⟩⟩⟩⟩⟩⟩⟩⟩⟩⟩⟩⟩⟩⟩⟩⟩⟩⟩⟩⟩⟩⟩⟩⟩⟩⟩⟩⟩⟩⟩⟩
theorem g_getD_all {α : Type} {P : α → Prop} {l : List α} {d : α} (h : ∀ a ∈ l, P a) (hd : P d) (i : Nat) : P (l.getD i d) := by
  rw [List.getD_eq_getElem?_getD]
  cases hi : l[i]? with
  | none => exact hd
  | some a => exact h a (List.mem_of_getElem? hi)
/-- the whole program keeps the tables -/
theorem k_OK (xs : Nat → Int32) (L : Nat) {fl lg : Nat → Nat} (hfl : ∀ i, fl (lg i) = i) : g_OK k_cl (k_t xs L) lw_gd k_Ns "SleepWork$State" "SleepWork" k_df k_tn fl lg k_mt :=
  ⟨k_CL xs L, k_DF xs L, hfl, k_good, fun M pc I r h => g_getD_all (P := k_mok) k_all k_ok0 M pc I r h⟩
end
section
/-! from the law's entry (the rows up to lw_At are the skeleton's, with the method's name beside them) -/
def R_law : String := "SleepWorkLaw"
def lw_P (b : Addr) (xs : List Int32) (args : Array Value) (s : State) : Prop := args = #[.ref b] ∧ s.IntsAt b xs ∧ xs.length ≤ 3072 ∧ (Jvm.Cond.and given_1 narrow_1).before args s = true
def lw_Q (_ : Array Value) (s : State) (o : Outcome) (t : State) : Prop := o = .returned (some (.int 1)) ∧ Framed s o t [] 600000 7302250
def lw_Z (below : List Frame) (a : Array Value) (s : State) : State → Prop := fun t => ∃ o, t.status = .running ∧ Ended t below o ∧ lw_Q a s o t
/-- the law's own end, with 1 on the stack, nothing written that was there before, its room as the claim has it -/
theorem lw_ret {p : Program} {l : Launch} {e : Env} {s : State} {m : MethodId} {below : List Frame} {meth : Method} {c : Code} {b : Nat} (hx : p.tables.exec = Jvm.exec) (hb : c.code = code) (hr : meth.sig.returnType = ret) (hlocks : meth.locks = false) {pc : Nat} {H : Heap} {ls : Array Slot} (hdg : decode code pc = .ok (.ireturn, 1)) : W p l e room_1 s m #[Value.ref b] below meth c H [] 600000 7302250 (lw_Z below #[Value.ref b] s) (F0 m pc ls [.int 1]) := by
  intro T hT X
  obtain ⟨fs, hret, hrun, hended, hW, hframe⟩ := X.leave (v := some (.int 1)) (hlocks := hlocks) (fun h => by rw [hr] at h; cases h)
  have hmeth' : T.vm.method? m = some meth := X.method'
  refine ⟨T.setFrames fs, ?_, .returned (some (.int 1)), hrun, hended, rfl, ⟨_, rfl⟩, hW, hframe⟩
  jvm_step X.here [X.here.top, hx, hb, hdg, hmeth', hr, ret, narrow_b1]
  (try refine ⟨rfl, ?_⟩); (try refine ⟨rfl, ?_⟩)
  first | (intro acts; rw [hret _ acts rfl rfl rfl]) | rw [hret _ _ rfl rfl rfl]
  exact Steps.refl _
/-- what holds at the law's entry: the machine, the code, the tables' words (any of lw_tbl by 'hts w (by decide +kernel)'), the script of L ints xs at the cell b, what the Statement gives of the start (any of its parts by flat_of_before) -/
def lw_At (p : Program) (s : State) (m : MethodId) (meth : Method) (c : Code) (b L : Nat) (xs : Nat → Int32) : Prop :=
  p.tables.exec = Jvm.exec ∧ c.code = code ∧ meth.sig.returnType = ret ∧ c.maxLocals = 4 ∧ s.vm.findClass R_law = some m.cls ∧ (∀ w ∈ lw_tbl, w.before #[Value.ref b] s = true) ∧ va_X b L xs s s.heap ∧ b < s.heap.size ∧ meth.locks = false ∧ meth.name = "law" ∧ (Jvm.Cond.and given_1 narrow_1).before #[Value.ref b] s = true
def k_LAW : Nat := 271
theorem k_inst : ∀ w ∈ k_cl.map (fun q => Cond.instantiable q.1 q.2.2), w ∈ lw_gd := k_bulk [306, 156, 162, 119, 421, 427, 314, 49, 32, 139, 320, 24, 1167] (by decide +kernel)
theorem k_tblOf {w : Cond} (h : w ∈ lw_gd) : w ∈ lw_tbl := (List.mem_filter.mp h).1
theorem k_in_tab {i : Nat} {w : Cond} (h : tables_1[i]? = some w) : w ∈ lw_tbl := List.mem_append_right _ (List.mem_of_getElem? h)
theorem k_known {s : State} {args : Array Value} (hts : ∀ w ∈ lw_tbl, w.before args s = true) : ∃ D : va_G, ∀ (ci : Nat) (q : vw_C), k_cl[ci]? = some q → u_Kn s q.1 q.2.1 q.2.2 (D.1 ci) (D.2 ci) := by
  have h : ∀ ci : Nat, ∃ z : ClassId × (Nat → Nat), ∀ q : vw_C, k_cl[ci]? = some q → u_Kn s q.1 q.2.1 q.2.2 z.1 z.2 := by
    intro ci
    cases hq : k_cl[ci]? with
    | none => exact ⟨(0, fun _ => 0), fun q h => by cases h⟩
    | some q =>
      obtain ⟨cC, iS, hK⟩ := u_known (C := q.1) (T := q.2.1) (N := q.2.2) (n := q.2.2) hts (fun w hw => k_tblOf (((k_CL (fun _ => 0) 0).1 ci q hq).1 w hw)) (hts _ (k_tblOf (k_inst _ (List.mem_map.mpr ⟨q, List.mem_of_getElem? hq, rfl⟩))))
      exact ⟨(cC, iS), fun q' h => by cases h; exact hK⟩
  obtain ⟨z, hz⟩ := Classical.axiomOfChoice h
  exact ⟨(fun ci => (z ci).1, fun ci => (z ci).2), fun ci q hq => hz ci q hq⟩
theorem k_over : Cond.arrayOver (.object "SleepWork$State") ∈ lw_tbl := k_in_tab (i := 125) (by decide +kernel)
theorem k_laysS : Cond.laysStatic "java/lang/String" "COMPACT_STRINGS" "Z" ∈ lw_tbl := k_in_tab (i := 442) (by decide +kernel)
theorem k_iniS : Cond.initialized "java/lang/String" ∈ lw_tbl := k_in_tab (i := 14) (by decide +kernel)
theorem k_laysF : Cond.laysStatic "jdk/internal/util/Preconditions" "SIOOBE_FORMATTER" "Ljava/util/function/BiFunction;" ∈ lw_tbl := k_in_tab (i := 458) (by decide +kernel)
theorem k_iniF : Cond.initialized "jdk/internal/util/Preconditions" ∈ lw_tbl := k_in_tab (i := 16) (by decide +kernel)
theorem k_nests : ∀ q ∈ k_Ns, Cond.methodLinkNest q.1 q.2.1 q.2.2.1 q.2.2.2 ∈ lw_tbl := List.forall_mem_cons.mpr ⟨k_in_tab (i := 33) (by decide +kernel), List.forall_mem_cons.mpr ⟨k_in_tab (i := 140) (by decide +kernel), List.forall_mem_cons.mpr ⟨k_in_tab (i := 163) (by decide +kernel), List.forall_mem_cons.mpr ⟨k_in_tab (i := 321) (by decide +kernel), fun _ h => absurd h List.not_mem_nil⟩⟩⟩⟩
theorem k_strs : ∀ j, j < 2 → Cond.stringRef (k_tn j).1 (k_tn j).2.1 (k_tn j).2.2 ∈ lw_tbl := by
  intro j hj
  rcases (show j = 0 ∨ j = 1 by omega) with rfl | rfl
  · exact k_in_tab (i := 432) (by decide +kernel)
  · exact k_in_tab (i := 639) (by decide +kernel)
abbrev k_tm (i : Nat) : Term := Term.string (k_tn i).1 (k_tn i).2.1
abbrev k_fl : List Cond := flatC (Jvm.Cond.and given_1 narrow_1)
theorem k_s1 : ∀ i, i < 2 → Cond.exactly (k_tm i) "java/lang/String" ∈ k_fl := by decide +kernel
theorem k_s2 : ∀ i, i < 2 → Cond.eq (.field (k_tm i) "java/lang/String" "coder" "B") (.int 0) ∈ k_fl := by decide +kernel
theorem k_s3 : ∀ i, i < 2 → Cond.arrayOf (.field (k_tm i) "java/lang/String" "value" "[B") .byte ∈ k_fl := by decide +kernel
theorem k_s4 : ∀ i, i < 2 → Cond.eq (.length (.field (k_tm i) "java/lang/String" "value" "[B")) (.int (Int32.ofNat ((k_tb.map List.length).getD i 0))) ∈ k_fl := by decide +kernel
theorem k_s5 : ∀ i, i < 2 → ∀ j, j < (k_tb.map List.length).getD i 0 → Cond.eq (.elem (.field (k_tm i) "java/lang/String" "value" "[B") (.int (Int32.ofNat j))) (.int ((k_tb.getD i []).getD j 0)) ∈ k_fl := by decide +kernel
theorem k_s6 : Cond.not (Cond.eq (k_tm 0) (k_tm 1)) ∈ k_fl := by decide +kernel
theorem k_s8 : Cond.isRef (.static "jdk/internal/util/Preconditions" "SIOOBE_FORMATTER" "Ljava/util/function/BiFunction;") ∈ k_fl := by decide +kernel
theorem k_s7 : Cond.eq (.static "java/lang/String" "COMPACT_STRINGS" "Z") (.int 1) ∈ k_fl := by decide +kernel
end
section
/-! the law's walk out of the logical machine's answer -/
set_option maxHeartbeats 4000000 in
theorem k_whole {p : Program} {e : Env} {s : State} {m : MethodId} {below : List Frame} {meth : Method} {c : Code} (l : Launch) {b L : Nat} {xs : Nat → Int32} (C0 : lw_At p s m meth c b L xs) {fl lg : Nat → Nat} (hfl : ∀ i, fl (lg i) = i) {n d : Nat} {h' : gH} (hd : d ≤ 1300)
    (hex : g_exec (k_t xs L) k_tb lg k_df k_mt n d k_LAW 0 [(0, .float 0)] [] ((0, 0), fun _ => []) = some (some (.int 1), h')) (hc : h'.1.1 ≤ 600000) (hs : h'.1.2 ≤ 7302250) :
    W p l e room_1 s m #[Value.ref b] below meth c s.heap [] 0 0 (lw_Z below #[Value.ref b] s) (entryFrame m ([Value.ref b] : List Value).toArray 4) := by
  obtain ⟨hx, hb, hr, hml, hown, hts, hX, hbl, hlocks, hname, hgv⟩ := id C0
  have hgd : ∀ w ∈ lw_gd, w.before #[Value.ref b] s = true := fun w hw => hts w (k_tblOf hw)
  have hfc := flat_of_before _ hgv
  obtain ⟨D, hD⟩ := k_known hts
  obtain ⟨c0, k0, q0, f0, g0, e0⟩ := Cond.arrayClass_spec (hgd _ k_ac0)
  obtain ⟨c1, k1, q1, f1, g1, e1⟩ := Cond.arrayClass_spec (hgd _ k_ac1)
  obtain ⟨c2, k2, q2, f2, g2, e2⟩ := Cond.arrayClass_spec (hgd _ k_ac2)
  obtain ⟨c3, k3, q3, f3, g3, e3⟩ := Cond.arrayClass_spec (hgd _ k_ac3)
  have hAO : va_AO "SleepWork$State" s := va_AO.of (hts _ k_over)
  obtain ⟨q4, c4, k4, f4, -, g4, e4, f5⟩ := Cond.arrayOver_spec hAO
  obtain ⟨adK, adV, hV, hev⟩ := vk_Sof (args := #[Value.ref b]) (s := s) (N := 2) (tm := k_tm) (len := k_tb.map List.length) (byt := k_tb) (A := fun q => s.heap.size ≤ q) (by decide +kernel) (fun i hi => hfc _ (k_s1 i hi)) (fun i hi => hfc _ (k_s2 i hi)) (fun i hi => hfc _ (k_s3 i hi)) (fun i hi => hfc _ (k_s4 i hi)) (fun i hi j hj => hfc _ (k_s5 i hi j hj))
    (fun i j hi hj hij => by
      rcases (show i = 0 ∨ i = 1 by omega) with rfl | rfl <;> rcases (show j = 0 ∨ j = 1 by omega) with rfl | rfl
      · exact absurd rfl hij
      · exact Or.inl (hfc _ k_s6)
      · exact Or.inr (hfc _ k_s6)
      · exact absurd rfl hij) (fun a ha => Nat.not_le.mpr ha)
  have hZ : va_Z "java/lang/String" "COMPACT_STRINGS" "Z" (.int 1) (fun q => s.heap.size ≤ q) s s.heap := va_Zof (hts _ k_laysS) (hts _ k_iniS) (va_eqt (hfc _ k_s7)) (fun a ha => Nat.not_le.mpr ha)
  have hZq : ∃ u : Nat, va_Z "jdk/internal/util/Preconditions" "SIOOBE_FORMATTER" "Ljava/util/function/BiFunction;" (va_rf (match u with | 0 => none | a + 1 => some a)) (fun q => s.heap.size ≤ q) s s.heap := by
    rcases va_Zqof (hts _ k_laysF) (hts _ k_iniF) (hfc _ k_s8) (A := fun q => s.heap.size ≤ q) (fun a ha => Nat.not_le.mpr ha) with h | ⟨a, h⟩
    · exact ⟨0, h⟩
    · exact ⟨a + 1, h⟩
  obtain ⟨u, hZ2⟩ := hZq
  obtain ⟨cst, hcst⟩ : ∃ cst : Nat → Nat, cst 0 = b ∧ cst 1 = adK 0 ∧ cst 2 = adK 1 ∧ cst 3 = adV 0 ∧ cst 4 = adV 1 ∧ cst 1000 = u := ⟨fun j => if j = 1000 then u else match j with | 0 => b | 1 => adK 0 | 2 => adK 1 | 3 => adV 0 | _ => adV 1, rfl, rfl, rfl, rfl, rfl, rfl⟩
  obtain ⟨n0, n1, n2, n3, n4, n5⟩ := hcst
  obtain ⟨cA, hA⟩ : ∃ cA : Nat → ClassId, cA 0 = c0 ∧ cA 1 = c1 ∧ cA 2 = c2 ∧ cA 3 = c3 ∧ cA 4 = c4 := ⟨fun j => match j with | 0 => c0 | 1 => c1 | 2 => c2 | 3 => c3 | _ => c4, rfl, rfl, rfl, rfl, rfl⟩
  obtain ⟨a0, a1, a2, a3, a4⟩ := hA
  have hK : va_K D k_cl (g_tys cA "SleepWork$State") s := by
    refine ⟨hD, fun k q hq => ?_⟩
    match k, hq with
    | 0, hq => cases hq; rw [a0]; exact ⟨fun n z => ⟨fun k h => (by cases h), k0, g0, q0, e0⟩, f0⟩
    | 1, hq => cases hq; rw [a1]; exact ⟨fun n z => ⟨fun k h => (by cases h), k1, g1, q1, e1⟩, f1⟩
    | 2, hq => cases hq; rw [a2]; exact ⟨fun n z => ⟨fun k h => (by cases h), k2, g2, q2, e2⟩, f2⟩
    | 3, hq => cases hq; rw [a3]; exact ⟨fun n z => ⟨fun k h => (by cases h), k3, g3, q3, e3⟩, f3⟩
    | 4, hq => cases hq; rw [a4]; exact ⟨fun n z => ⟨fun k h => (by cases h), k4, g4, q4, e4⟩, k4, q4, g4, e4, f4, f5⟩
    | k + 5, hq => simp [g_tys] at hq
  have hTX : g_TX k_tb k_tn cst s.heap s := by
    refine ⟨fun j hj => ?_, ⟨fun i hi => ?_, fun i j hi hj hij => ?_⟩, hZ, by rw [n5]; exact hZ2⟩
    · have hj2 : j < 2 := hj
      have h1 := hev j hj2
      rcases (show j = 0 ∨ j = 1 by omega) with rfl | rfl
      · rw [n1]; exact vk_R.of (hts _ (k_strs 0 (by decide))) h1
      · rw [n2]; exact vk_R.of (hts _ (k_strs 1 (by decide))) h1
    · have hi2 : i < 2 := hi
      have h1 := hV.1 i hi2
      rcases (show i = 0 ∨ i = 1 by omega) with rfl | rfl
      · dsimp only; rw [show cst (0 + 1) = adK 0 from n1, show cst (0 + 1 + k_tb.length) = adV 0 from n3]; exact h1
      · dsimp only; rw [show cst (1 + 1) = adK 1 from n2, show cst (1 + 1 + k_tb.length) = adV 1 from n4]; exact h1
    · have hi2 : i < 2 := hi
      have hj2 : j < 2 := hj
      rcases (show i = 0 ∨ i = 1 by omega) with rfl | rfl <;> rcases (show j = 0 ∨ j = 1 by omega) with rfl | rfl
      · rfl
      · exact hV.2 0 1 (by decide) (by decide) (by rw [← n1, ← n2]; exact hij)
      · exact hV.2 1 0 (by decide) (by decide) (by rw [← n1, ← n2]; exact hij)
      · rfl
  have hKK : g_KK k_Ns D k_cl cA "SleepWork$State" (k_t xs L) k_tb k_tn cst s.heap s := ⟨hK, by rw [n0]; exact hX, hTX, hAO, fun q hq => va_Nw.of rfl (hts _ (k_nests q hq))⟩
  have hl := lv_entry ([.ref b]) (n := 4) (Nat.le_of_ble_eq_true rfl)
  rw [lg_entry_eq]
  generalize (lg_sl ([.ref b]) ++ List.replicate (4 - (lg_sl ([.ref b])).length) Slot.unset).toArray = ls at hl ⊢
  have hl : lv_has ls 4 (g_shl (fun j => s.heap.size + fl j) cst [(0, .float 0)]) := by
    show lv_has ls 4 [(0, .ref (cst 0))]
    rw [n0]
    exact hl
  have hHH : g_HH D k_cl (g_tys cA "SleepWork$State") fl lg cst s.heap ((0, 0), fun _ => []) s.heap := ⟨rfl, fun _ _ => rfl, fun k e hk => by simp [g_get] at hk⟩
  refine g_sim (k_OK xs L hfl) (by rw [n0]; exact hbl) l n d k_LAW 0 [(0, .float 0)] [] ((0, 0), fun _ => []) (some (.int 1)) h' hex (R := room_1) (locs := []) (cells := 0) (slots := 0) h'.1.1 h'.1.2 hx hb hml hown hname hgd hKK hHH hl (fun q hq => by cases hq) (by show d + 1 ≤ 2048; omega) (by show 64 * (d + 1) ≤ 84000; omega) (by show 0 + h'.1.1 = h'.1.1 + 0; omega) (by show 0 + h'.1.2 = h'.1.2 + 0; omega) hc hs ?_
  intro pc I len ls st H2 locs2 r1 r2 r3 r4 r5
  refine va_forget r5 (W.widen hc hs ?_)
  have r3 : g_ret (some .boolean) I st = some (some (.int 1)) := r3
  unfold g_ret at r3
  split at r3
  · have hlen : len = 1 := r2.resolve_left (fun h => by cases h)
    subst hlen
    split at r3
    next ty x heq =>
      split at r3
      next => cases r3; exact lw_ret hx hb hr hlocks (by rw [← hb]; exact r1)
      next => cases r3
    next => cases r3
  · split at r3
    next heq => cases r3
    next => cases r3
  · split at r3
    next heq => cases heq
    next => cases r3
  · cases r3
end
section
/-! running: what the logical machine comes to, with fuel enough -/
section KR
variable {t : gT} {lg : Nat → Nat}
/-- the program comes to z -/
def k_run (t : gT) (lg : Nat → Nat) (d M pc : Nat) (loc : List (Nat × Value)) (st : List Value) (h : gH) (z : Option Value × gH) : Prop := ∃ n, g_exec t k_tb lg k_df k_mt n d M pc loc st h = some z
/-- k instructions in a row, none of them a call or a return -/
def k_blk (t : gT) (lg : Nat → Nat) : Nat → Nat → Nat → List (Nat × Value) → List Value → gH → Option (Nat × List (Nat × Value) × List Value × gH)
  | 0, _, pc, loc, st, h => some (pc, loc, st, h)
  | k + 1, M, pc, loc, st, h => match (k_mt M).2 pc with
    | none => none
    | some (I, r) => match g_step t k_tb lg k_df (k_mt M).1.2.2.1 I r pc loc st h with
      | some (pc', loc', st', h') => k_blk t lg k M pc' loc' st' h'
      | none => none
theorem k_runB {d M pc pc' : Nat} {loc loc' : List (Nat × Value)} {st st' : List Value} {h h' : gH} {z : Option Value × gH} (k : Nat) (hb : k_blk t lg k M pc loc st h = some (pc', loc', st', h')) (hr : k_run t lg d M pc' loc' st' h' z) : k_run t lg d M pc loc st h z := by
  induction k generalizing pc loc st h with
  | zero => cases hb; exact hr
  | succ k ih =>
    unfold k_blk at hb
    split at hb
    · cases hb
    next I r hI =>
      split at hb
      next hs =>
        obtain ⟨n, hn⟩ := ih hb
        refine ⟨n + 1, ?_⟩
        unfold g_exec
        rw [hI]
        dsimp only
        rw [hs]
        exact hn
      next => cases hb
/-- a return -/
theorem k_runR {d M pc : Nat} {loc : List (Nat × Value)} {st : List Value} {h : gH} {I : Instr} {r : List Nat} {v : Option Value} (hI : (k_mt M).2 pc = some (I, r)) (hs : g_step t k_tb lg k_df (k_mt M).1.2.2.1 I r pc loc st h = none) (hv : g_ret (k_mt M).1.2.2.2 I st = some v) : k_run t lg d M pc loc st h (v, h) := by
  refine ⟨1, ?_⟩
  unfold g_exec
  rw [hI]
  dsimp only
  rw [hs]
  dsimp only
  rw [hv]
/-- a call -/
theorem k_runC {d M pc M' : Nat} {loc : List (Nat × Value)} {st as rest : List Value} {h h1 : gH} {I : Instr} {r : List Nat} {v : Option Value} {z : Option Value × gH} (hI : (k_mt M).2 pc = some (I, r)) (hs : g_step t k_tb lg k_df (k_mt M).1.2.2.1 I r pc loc st h = none) (hv : g_ret (k_mt M).1.2.2.2 I st = none) (hi : g_inv k_tb.length k_mt I r st h = some (M', as, rest))
    (hc : k_run t lg d M' 0 (lv_args 0 as) [] h (v, h1)) (hr : k_run t lg (d + 1) M (pc + 3) loc (v.toList ++ rest) h1 z) : k_run t lg (d + 1) M pc loc st h z := by
  obtain ⟨n, hn⟩ := hc
  obtain ⟨k, hk⟩ := hr
  refine ⟨n + k + 1, ?_⟩
  unfold g_exec
  rw [hI]
  dsimp only
  rw [hs]
  dsimp only
  rw [hv]
  dsimp only
  rw [hi]
  dsimp only
  rw [g_exec_more n (n + k) _ _ _ _ _ _ _ (by omega) hn]
  exact g_exec_more k (n + k) _ _ _ _ _ _ _ (by omega) hk
end KR
end
section
/-! the reference's cells: its fields by their places, its rows by theirs (printed by wip/model.py)
fields: 0 thrown, 2 taped, 4 size, 10 tokens, 11 t, 12 open, 13 fault, 14 faultPlace, 15 worst, 16 worstPlace, 17 place, 18 live, 19 side, 20 names, 49 branches, 56 codes, 60 waiting, 63 isBroken, 74 undos, 76 bestGain, 77 told
rows: 1 tape[2000], 2 text[2000], 3 tKind[403], 4 tPlace[403], 5 tValue[403], 6 tName[403], 7 keys[21], 8 nameOf[32], 9 nameSort[32], 10 nameAt[32], 11 rooms[2], 12 doors[2], 13 doorOne[24], 14 doorOther[24], 15 doorMinutes[24], 16 doorShut[24], 17 tools[2], 18 toolTold[12], 19 tasks[2], 20 taskRoom[12], 21 stuffTold[12], 22 steps[12], 23 stepMinutes[72], 24 stepNeed[72], 25 stepGain[72], 26 stepSpoil[72], 27 stepTool[72], 28 stepUndoes[72], 29 men[2], 30 home[12], 31 leftTask[12], 32 leftStep[12], 33 laws[2], 34 lawFirst[12], 35 lawLast[12], 36 hasTest[100], 37 testFrom[100], 38 testMid[100], 39 testTo[100], 40 termTo[100], 41 nights[2], 42 code[840], 43 codeInt[840], 44 waits[64], 45 variables[6], 46 pile[400], 47 now[100], 48 row[100], 49 far[64], 50 state[6], 51 from[6], 52 till[6], 53 doing[6], 54 lastStep[6], 55 times0[6], 56 byEnd[6], 57 history[2000], 58 toldTask[30], 59 toldStep[30], 60 toldTimes[30], 61 isHeld[3], 62 held[300] -/
def m_cells (F : Nat → Int32) (A : Nat → Nat → Int32) (J : Nat → Nat → Int64) : List gE := [.inr (12, [.int (F 0), .ref 40961, .int (F 2), .ref 40962, .int (F 4), .ref 40963, .ref 40964, .ref 40965, .ref 40966, .ref 40967, .int (F 10), .int (F 11), .int (F 12), .int (F 13), .int (F 14), .int (F 15), .int (F 16), .int (F 17), .int (F 18), .int (F 19), .int (F 20), .ref 40968, .ref 40969, .ref 40970, .ref 40971, .ref 40972, .ref 40973, .ref 40974, .ref 40975, .ref 40976, .ref 40977, .ref 40978, .ref 40979, .ref 40980, .ref 40981, .ref 40982, .ref 40983, .ref 40984, .ref 40985, .ref 40986, .ref 40987, .ref 40988, .ref 40989, .ref 40990, .ref 40991, .ref 40992, .ref 40993, .ref 40994, .ref 40995, .int (F 49), .ref 40996, .ref 40997, .ref 40998, .ref 40999, .ref 41000, .ref 41001, .int (F 56), .ref 41002, .ref 41003, .ref 41004, .int (F 60), .ref 41005, .ref 41006, .int (F 63), .ref 41007, .ref 41008, .ref 41009, .ref 41010, .ref 41011, .ref 41012, .ref 41013, .ref 41014, .ref 41015, .ref 41016, .int (F 74), .ref 41017, .int (F 76), .int (F 77), .ref 41018, .ref 41019, .ref 41020, .ref 41021, .ref 41022]), .inl (1, 2000, .inl (A 1)), .inl (1, 2000, .inl (A 2)), .inl (0, 403, .inl (A 3)), .inl (0, 403, .inl (A 4)), .inl (0, 403, .inl (A 5)), .inl (3, 403, .inr (.inl (J 6))), .inl (3, 21, .inr (.inl (J 7))), .inl (3, 32, .inr (.inl (J 8))), .inl (0, 32, .inl (A 9)), .inl (0, 32, .inl (A 10)), .inl (0, 2, .inl (A 11)), .inl (0, 2, .inl (A 12)), .inl (0, 24, .inl (A 13)), .inl (0, 24, .inl (A 14)), .inl (0, 24, .inl (A 15)), .inl (2, 24, .inl (A 16)), .inl (0, 2, .inl (A 17)), .inl (0, 12, .inl (A 18)), .inl (0, 2, .inl (A 19)), .inl (0, 12, .inl (A 20)), .inl (0, 12, .inl (A 21)), .inl (0, 12, .inl (A 22)), .inl (0, 72, .inl (A 23)), .inl (0, 72, .inl (A 24)), .inl (0, 72, .inl (A 25)), .inl (0, 72, .inl (A 26)), .inl (0, 72, .inl (A 27)), .inl (0, 72, .inl (A 28)), .inl (0, 2, .inl (A 29)), .inl (0, 12, .inl (A 30)), .inl (0, 12, .inl (A 31)), .inl (0, 12, .inl (A 32)), .inl (0, 2, .inl (A 33)), .inl (0, 12, .inl (A 34)), .inl (0, 12, .inl (A 35)), .inl (2, 100, .inl (A 36)), .inl (0, 100, .inl (A 37)), .inl (0, 100, .inl (A 38)), .inl (0, 100, .inl (A 39)), .inl (0, 100, .inl (A 40)), .inl (0, 2, .inl (A 41)), .inl (0, 840, .inl (A 42)), .inl (0, 840, .inl (A 43)), .inl (0, 64, .inl (A 44)), .inl (0, 6, .inl (A 45)), .inl (0, 400, .inl (A 46)), .inl (0, 100, .inl (A 47)), .inl (0, 100, .inl (A 48)), .inl (0, 64, .inl (A 49)), .inl (0, 6, .inl (A 50)), .inl (0, 6, .inl (A 51)), .inl (0, 6, .inl (A 52)), .inl (0, 6, .inl (A 53)), .inl (0, 6, .inl (A 54)), .inl (0, 6, .inl (A 55)), .inl (2, 6, .inl (A 56)), .inl (0, 2000, .inl (A 57)), .inl (0, 30, .inl (A 58)), .inl (0, 30, .inl (A 59)), .inl (0, 30, .inl (A 60)), .inl (2, 3, .inl (A 61)), .inl (0, 300, .inl (A 62))]
/-- a heap that holds the reference -/
abbrev m_h (c : Nat × Nat) (B : Nat → List gE) (F : Nat → Int32) (A : Nat → Nat → Int32) (J : Nat → Nat → Int64) : gH := (c, va_up B 40 (m_cells F A J))
theorem m_hset {c : Nat × Nat} {B : Nat → List gE} {F F' : Nat → Int32} {A A' : Nat → Nat → Int32} {J J' : Nat → Nat → Int64} (j : Nat) {e : gE} (hj : j < 1024) (hs : (m_cells F A J).set j e = m_cells F' A' J') : g_set (m_h c B F A J) (40960 + j) e = m_h c B F' A' J' := by
  unfold g_set
  have h1 : (40960 + j) / 1024 = 40 := by omega
  have h2 : (40960 + j) % 1024 = j := by omega
  rw [h1, h2]
  show (c, va_up (va_up B 40 (m_cells F A J)) 40 ((va_up B 40 (m_cells F A J) 40).set j e)) = (c, va_up B 40 (m_cells F' A' J'))
  rw [bx_uu, show va_up B 40 (m_cells F A J) 40 = m_cells F A J from rfl, hs]
end
section
/-! rows of running: one instruction each that may fail, or branches -/
section KW
variable {t : gT} {lg : Nat → Nat} {d M pc : Nat} {loc : List (Nat × Value)} {st : List Value} {h : gH} {z : Option Value × gH} {r : List Nat}
theorem k_runS {I : Instr} {pc' : Nat} {loc' : List (Nat × Value)} {st' : List Value} {h' : gH} (hI : (k_mt M).2 pc = some (I, r)) (hs : g_step t k_tb lg k_df (k_mt M).1.2.2.1 I r pc loc st h = some (pc', loc', st', h')) (hr : k_run t lg d M pc' loc' st' h' z) : k_run t lg d M pc loc st h z := by
  obtain ⟨n, hn⟩ := hr
  refine ⟨n + 1, ?_⟩
  unfold g_exec
  rw [hI]
  dsimp only
  rw [hs]
  exact hn
theorem k_memS {I : Instr} {st' : List Value} {h' : gH} (hI : (k_mt M).2 pc = some (I, r)) (h1 : g_pure I st = none) (h2 : g_loc (k_mt M).1.2.2.1 I loc st = none) (h3 : g_br I r pc st = none) (hm : g_mem t I r st h = some (st', h')) (hr : k_run t lg d M (pc + g_len I) loc st' h' z) : k_run t lg d M pc loc st h z := by
  refine k_runS hI ?_ hr
  unfold g_step
  rw [h1, h2, h3, hm]
theorem k_iald {a n : Nat} {f : Nat → Int32} {i : Int32} (hI : (k_mt M).2 pc = some (.iaload, r)) (hg : g_get h a = some (.inl (0, n, .inl f))) (hin : ¬ (i < 0 ∨ n ≤ i.toNatClampNeg)) (hr : k_run t lg d M (pc + 1) loc (.int (f i.toNatClampNeg) :: st) h z) : k_run t lg d M pc loc (.int i :: .ref a :: st) h z := by
  refine k_memS hI rfl rfl rfl ?_ hr
  unfold g_mem
  simp only [hg]
  rw [if_neg hin]
theorem k_bald {a n : Nat} {f : Nat → Int32} {i : Int32} (hI : (k_mt M).2 pc = some (.baload, r)) (hg : g_get h a = some (.inl (1, n, .inl f))) (hin : ¬ (i < 0 ∨ n ≤ i.toNatClampNeg)) (hr : k_run t lg d M (pc + 1) loc (.int (f i.toNatClampNeg) :: st) h z) : k_run t lg d M pc loc (.int i :: .ref a :: st) h z := by
  refine k_memS hI rfl rfl rfl ?_ hr
  unfold g_mem
  simp only [hg]
  rw [if_neg hin]
theorem k_zald {a n : Nat} {f : Nat → Int32} {i : Int32} (hI : (k_mt M).2 pc = some (.baload, r)) (hg : g_get h a = some (.inl (2, n, .inl f))) (hin : ¬ (i < 0 ∨ n ≤ i.toNatClampNeg)) (hr : k_run t lg d M (pc + 1) loc (.int (f i.toNatClampNeg) :: st) h z) : k_run t lg d M pc loc (.int i :: .ref a :: st) h z := by
  refine k_memS hI rfl rfl rfl ?_ hr
  unfold g_mem
  simp only [hg]
  rw [if_neg hin]
theorem k_lald {a n : Nat} {f : Nat → Int64} {i : Int32} (hI : (k_mt M).2 pc = some (.laload, r)) (hg : g_get h a = some (.inl (3, n, .inr (.inl f)))) (hin : ¬ (i < 0 ∨ n ≤ i.toNatClampNeg)) (hr : k_run t lg d M (pc + 1) loc (.long (f i.toNatClampNeg) :: st) h z) : k_run t lg d M pc loc (.int i :: .ref a :: st) h z := by
  refine k_memS hI rfl rfl rfl ?_ hr
  unfold g_mem
  simp only [hg]
  rw [if_neg hin]
theorem k_iast {a n : Nat} {f : Nat → Int32} {i x : Int32} (hI : (k_mt M).2 pc = some (.iastore, r)) (hg : g_get h a = some (.inl (0, n, .inl f))) (hin : ¬ (i < 0 ∨ n ≤ i.toNatClampNeg)) {h' : gH} (hh : g_set h a (.inl (0, n, .inl (upd f i.toNatClampNeg x))) = h') (hr : k_run t lg d M (pc + 1) loc st h' z) : k_run t lg d M pc loc (.int x :: .int i :: .ref a :: st) h z := by
  subst hh
  refine k_memS hI rfl rfl rfl ?_ hr
  unfold g_mem
  simp only [hg]
  rw [if_neg hin]
theorem k_bast {a n : Nat} {f : Nat → Int32} {i x : Int32} (hI : (k_mt M).2 pc = some (.bastore, r)) (hg : g_get h a = some (.inl (1, n, .inl f))) (hin : ¬ (i < 0 ∨ n ≤ i.toNatClampNeg)) {h' : gH} (hh : g_set h a (.inl (1, n, .inl (upd f i.toNatClampNeg (vp_nar .byte x)))) = h') (hr : k_run t lg d M (pc + 1) loc st h' z) : k_run t lg d M pc loc (.int x :: .int i :: .ref a :: st) h z := by
  subst hh
  refine k_memS hI rfl rfl rfl ?_ hr
  unfold g_mem
  simp only [hg]
  rw [if_neg hin]
theorem k_zast {a n : Nat} {f : Nat → Int32} {i x : Int32} (hI : (k_mt M).2 pc = some (.bastore, r)) (hg : g_get h a = some (.inl (2, n, .inl f))) (hin : ¬ (i < 0 ∨ n ≤ i.toNatClampNeg)) {h' : gH} (hh : g_set h a (.inl (2, n, .inl (upd f i.toNatClampNeg (vp_nar .boolean x)))) = h') (hr : k_run t lg d M (pc + 1) loc st h' z) : k_run t lg d M pc loc (.int x :: .int i :: .ref a :: st) h z := by
  subst hh
  refine k_memS hI rfl rfl rfl ?_ hr
  unfold g_mem
  simp only [hg]
  rw [if_neg hin]
theorem k_last {a n : Nat} {f : Nat → Int64} {i : Int32} {x : Int64} (hI : (k_mt M).2 pc = some (.lastore, r)) (hg : g_get h a = some (.inl (3, n, .inr (.inl f)))) (hin : ¬ (i < 0 ∨ n ≤ i.toNatClampNeg)) {h' : gH} (hh : g_set h a (.inl (3, n, .inr (.inl (vp_updL f i.toNatClampNeg x)))) = h') (hr : k_run t lg d M (pc + 1) loc st h' z) : k_run t lg d M pc loc (.long x :: .int i :: .ref a :: st) h z := by
  subst hh
  refine k_memS hI rfl rfl rfl ?_ hr
  unfold g_mem
  simp only [hg]
  rw [if_neg hin]
theorem k_idiv {x y : Int32} (hI : (k_mt M).2 pc = some (.idiv, r)) (hy : ¬ y = 0) (hr : k_run t lg d M (pc + 1) loc (.int (x / y) :: st) h z) : k_run t lg d M pc loc (.int y :: .int x :: st) h z := by
  refine k_runS hI ?_ hr
  have : g_pure .idiv (.int y :: .int x :: st) = some (.int (x / y) :: st) := by
    unfold g_pure
    simp only
    rw [if_neg hy]
  unfold g_step
  rw [this]
  rfl
theorem k_irem {x y : Int32} (hI : (k_mt M).2 pc = some (.irem, r)) (hy : ¬ y = 0) (hr : k_run t lg d M (pc + 1) loc (.int (x - x / y * y) :: st) h z) : k_run t lg d M pc loc (.int y :: .int x :: st) h z := by
  refine k_runS hI ?_ hr
  have : g_pure .irem (.int y :: .int x :: st) = some (.int (x - x / y * y) :: st) := by
    unfold g_pure
    simp only
    rw [if_neg hy]
  unfold g_step
  rw [this]
  rfl
theorem k_if {cd : Jvm.ClassFile.Cond} {off : Int} {tgt : Nat} {x : Int32} (hI : (k_mt M).2 pc = some (.ifCond cd off, [tgt])) (ht : g_cnd cd x 0 = true → k_run t lg d M tgt loc st h z) (hf : g_cnd cd x 0 = false → k_run t lg d M (pc + 3) loc st h z) : k_run t lg d M pc loc (.int x :: st) h z := by
  cases hc : g_cnd cd x 0 with
  | true =>
    refine k_runS hI ?_ (ht hc)
    show some (if g_cnd cd x 0 = true then tgt else pc + 3, loc, st, h) = _
    rw [hc]
    rfl
  | false =>
    refine k_runS hI ?_ (hf hc)
    show some (if g_cnd cd x 0 = true then tgt else pc + 3, loc, st, h) = _
    rw [hc]
    rfl
theorem k_ic {cd : Jvm.ClassFile.Cond} {off : Int} {tgt : Nat} {x y : Int32} (hI : (k_mt M).2 pc = some (.if_icmp cd off, [tgt])) (ht : g_cnd cd x y = true → k_run t lg d M tgt loc st h z) (hf : g_cnd cd x y = false → k_run t lg d M (pc + 3) loc st h z) : k_run t lg d M pc loc (.int y :: .int x :: st) h z := by
  cases hc : g_cnd cd x y with
  | true =>
    refine k_runS hI ?_ (ht hc)
    show some (if g_cnd cd x y = true then tgt else pc + 3, loc, st, h) = _
    rw [hc]
    rfl
  | false =>
    refine k_runS hI ?_ (hf hc)
    show some (if g_cnd cd x y = true then tgt else pc + 3, loc, st, h) = _
    rw [hc]
    rfl
theorem k_to {z' : Option Value × gH} (hz : z' = z) (hr : k_run t lg d M pc loc st h z') : k_run t lg d M pc loc st h z := hz ▸ hr
theorem k_iret {v : Int32} (hI : (k_mt M).2 pc = some (.ireturn, r)) (ht : (k_mt M).1.2.2.2 = some .int) : k_run t lg d M pc loc [.int v] h (some (.int v), h) := by
  refine k_runR hI rfl ?_
  rw [ht]
  unfold g_ret
  simp only
  rw [if_pos (vp_nar_int v)]
theorem k_zret {v : Int32} (hI : (k_mt M).2 pc = some (.ireturn, r)) (ht : (k_mt M).1.2.2.2 = some .boolean) (hv : v = 0 ∨ v = 1) : k_run t lg d M pc loc [.int v] h (some (.int v), h) := by
  refine k_runR hI rfl ?_
  rw [ht]
  unfold g_ret
  simp only
  rw [if_pos (by rcases hv with rfl | rfl <;> decide)]
theorem k_lret {v : Int64} (hI : (k_mt M).2 pc = some (.lreturn, r)) (ht : (k_mt M).1.2.2.2 = some .long) : k_run t lg d M pc loc [.long v] h (some (.long v), h) := by
  refine k_runR hI rfl ?_
  rw [ht]
  rfl
theorem k_vret (hI : (k_mt M).2 pc = some (.return_, r)) (ht : (k_mt M).1.2.2.2 = none) : k_run t lg d M pc loc [] h (none, h) := by
  refine k_runR hI rfl ?_
  rw [ht]
  rfl
/-- a store into a field -/
theorem k_put {ix ci k a : Nat} {v : Value} {fs : List Value} {h' : gH} (hI : (k_mt M).2 pc = some (.putfield ix, [ci, k])) (hg : g_get h a = some (.inr (ci, fs))) (hk : k < fs.length) (hf : g_fit (t.1 ci k) v = true) (hh : g_set h a (.inr (ci, fs.set k v)) = h') (hr : k_run t lg d M (pc + 3) loc st h' z) : k_run t lg d M pc loc (v :: .ref a :: st) h z := by
  subst hh
  refine k_memS hI rfl rfl rfl ?_ hr
  unfold g_mem
  simp only [hg]
  rw [if_pos ⟨trivial, hk, hf⟩]
/-- a switch -/
theorem k_tab {dd lo hi : Int} {offs : Array Int} {x : Int32} {tgt : Nat} (hI : (k_mt M).2 pc = some (.tableswitch dd lo hi offs, r)) (hs : (if x.toInt < lo ∨ hi < x.toInt then r[0]? else r[(x.toInt - lo).toNat + 1]?) = some tgt) (hr : k_run t lg d M tgt loc st h z) : k_run t lg d M pc loc (.int x :: st) h z := by
  refine k_runS hI ?_ hr
  have hb : g_br (.tableswitch dd lo hi offs) r pc (.int x :: st) = some (tgt, st) := by
    unfold g_br
    simp only
    split at hs
    next hc => rw [if_pos hc, hs]; rfl
    next hc => rw [if_neg hc, hs]; rfl
  unfold g_step
  rw [show g_pure (.tableswitch dd lo hi offs) (.int x :: st) = none from rfl, show g_loc (k_mt M).1.2.2.1 (.tableswitch dd lo hi offs) loc (.int x :: st) = none from rfl, hb]
end KW
end
section
/-! what the methods' functions are made of, and their rows -/
def m_ld (f : Nat → Int32) (n : Nat) (i : Int32) : Option Int32 := if i < 0 ∨ n ≤ i.toNatClampNeg then none else some (f i.toNatClampNeg)
def m_ldJ (f : Nat → Int64) (n : Nat) (i : Int32) : Option Int64 := if i < 0 ∨ n ≤ i.toNatClampNeg then none else some (f i.toNatClampNeg)
def m_st (A : Nat → Nat → Int32) (j n : Nat) (i x : Int32) : Option (Nat → Nat → Int32) := if i < 0 ∨ n ≤ i.toNatClampNeg then none else some (va_up A j (upd (A j) i.toNatClampNeg x))
def m_stJ (J : Nat → Nat → Int64) (j n : Nat) (i : Int32) (x : Int64) : Option (Nat → Nat → Int64) := if i < 0 ∨ n ≤ i.toNatClampNeg then none else some (va_up J j (vp_updL (J j) i.toNatClampNeg x))
def m_pf (F : Nat → Int32) (k : Nat) (x : Int32) : Option (Nat → Int32) := some (upd F k x)
def m_pfz (F : Nat → Int32) (k : Nat) (x : Int32) : Option (Nat → Int32) := if x = 0 ∨ x = 1 then some (upd F k x) else none
def m_div (x y : Int32) : Option Int32 := if y = 0 then none else some (x / y)
def m_rem (x y : Int32) : Option Int32 := if y = 0 then none else some (x - x / y * y)
def m_zr (x : Int32) : Option Int32 := if x = 0 ∨ x = 1 then some x else none
theorem m_ld_ok {f : Nat → Int32} {n : Nat} {i v : Int32} (h : m_ld f n i = some v) : ¬ (i < 0 ∨ n ≤ i.toNatClampNeg) ∧ f i.toNatClampNeg = v := by
  unfold m_ld at h
  split at h
  · cases h
  next hc => exact ⟨hc, Option.some.inj h⟩
theorem m_ldJ_ok {f : Nat → Int64} {n : Nat} {i : Int32} {v : Int64} (h : m_ldJ f n i = some v) : ¬ (i < 0 ∨ n ≤ i.toNatClampNeg) ∧ f i.toNatClampNeg = v := by
  unfold m_ldJ at h
  split at h
  · cases h
  next hc => exact ⟨hc, Option.some.inj h⟩
theorem m_st_ok {A A' : Nat → Nat → Int32} {j n : Nat} {i x : Int32} (h : m_st A j n i x = some A') : ¬ (i < 0 ∨ n ≤ i.toNatClampNeg) ∧ va_up A j (upd (A j) i.toNatClampNeg x) = A' := by
  unfold m_st at h
  split at h
  · cases h
  next hc => exact ⟨hc, Option.some.inj h⟩
theorem m_stJ_ok {J J' : Nat → Nat → Int64} {j n : Nat} {i : Int32} {x : Int64} (h : m_stJ J j n i x = some J') : ¬ (i < 0 ∨ n ≤ i.toNatClampNeg) ∧ va_up J j (vp_updL (J j) i.toNatClampNeg x) = J' := by
  unfold m_stJ at h
  split at h
  · cases h
  next hc => exact ⟨hc, Option.some.inj h⟩
theorem m_zr_ok {x v : Int32} (h : m_zr x = some v) : (v = 0 ∨ v = 1) ∧ x = v := by
  unfold m_zr at h
  split at h
  next hc => cases h; exact ⟨hc, rfl⟩
  · cases h
/-! fewer locals -/
theorem g_ld_filter (ks : List Nat) (loc : List (Nat × Value)) (i : Nat) {v : Value} (h : g_ld (loc.filter fun q => ks.contains q.1) i = some v) : g_ld loc i = some v := by
  unfold g_ld at h ⊢
  induction loc with
  | nil => cases h
  | cons q l ih =>
    by_cases hk : ks.contains q.1 = true
    · rw [List.filter_cons_of_pos (p := fun q : Nat × Value => ks.contains q.1) hk] at h
      by_cases hq : (q.1 == i) = true
      · rw [List.find?_cons_of_pos (p := fun q : Nat × Value => q.1 == i) hq] at h ⊢; exact h
      · rw [List.find?_cons_of_neg (p := fun q : Nat × Value => q.1 == i) hq] at h ⊢; exact ih h
    · rw [List.filter_cons_of_neg (p := fun q : Nat × Value => ks.contains q.1) hk] at h
      have hne : ¬ (q.1 == i) = true := by
        intro hq
        have e : q.1 = i := by simpa using hq
        cases hf : (l.filter fun q => ks.contains q.1).find? (fun q => q.1 == i) with
        | none => rw [hf] at h; cases h
        | some w =>
          have h1 := List.find?_some hf
          have h2 := (List.mem_filter.mp (List.mem_of_find?_eq_some hf)).2
          have e2 : w.1 = i := by simpa using h1
          exact hk (by rw [e, ← e2]; exact h2)
      rw [List.find?_cons_of_neg (p := fun q : Nat × Value => q.1 == i) hne]
      exact ih h
/-- the same but for more locals: keys apart -/
def g_le (l l' : List (Nat × Value)) : Prop := (∀ i v, g_ld l i = some v → g_ld l' i = some v) ∧ (l.map (·.1)).Nodup ∧ (l'.map (·.1)).Nodup
theorem g_ld_ins {i j : Nat} {v : Value} : ∀ {l : List (Nat × Value)}, (∀ q ∈ l, q.1 ≠ i) → g_ld (g_ins i v l) j = if j = i then some v else g_ld l j
  | [], _ => by
    unfold g_ins g_ld
    by_cases hj : j = i
    · subst hj; simp
    · rw [if_neg hj]
      rw [List.find?_cons_of_neg (p := fun q : Nat × Value => q.1 == j) (by simpa using fun h : i = j => hj h.symm)]
  | a :: l, hl => by
    have ih := g_ld_ins (i := i) (j := j) (v := v) (l := l) (fun q hq => hl q (List.mem_cons_of_mem _ hq))
    unfold g_ins
    split
    · unfold g_ld
      by_cases hj : j = i
      · subst hj; simp
      · rw [if_neg hj, List.find?_cons_of_neg (p := fun q : Nat × Value => q.1 == j) (by simpa using fun h : i = j => hj h.symm)]
    · unfold g_ld at ih ⊢
      by_cases hq : (a.1 == j) = true
      · have e : a.1 = j := by simpa using hq
        rw [List.find?_cons_of_pos (p := fun q : Nat × Value => q.1 == j) hq, if_neg (fun h => hl a List.mem_cons_self (e.trans h)), List.find?_cons_of_pos (p := fun q : Nat × Value => q.1 == j) hq]
      · rw [List.find?_cons_of_neg (p := fun q : Nat × Value => q.1 == j) hq, List.find?_cons_of_neg (p := fun q : Nat × Value => q.1 == j) hq]
        exact ih
theorem g_ins_keys {i : Nat} {v : Value} : ∀ {l : List (Nat × Value)}, (∀ q ∈ l, q.1 ≠ i) → (l.map (·.1)).Nodup → ((g_ins i v l).map (·.1)).Nodup
  | [], _, _ => by simp [g_ins]
  | a :: l, hl, hn => by
    unfold g_ins
    split
    · rw [List.map_cons, List.nodup_cons]
      refine ⟨fun h => ?_, hn⟩
      obtain ⟨q, hq, he⟩ := List.mem_map.mp h
      exact hl q hq he
    · rw [List.map_cons, List.nodup_cons] at hn ⊢
      refine ⟨fun h => ?_, g_ins_keys (fun q hq => hl q (List.mem_cons_of_mem _ hq)) hn.2⟩
      obtain ⟨q, hq, he⟩ := List.mem_map.mp h
      rcases g_ins_mem hq with rfl | hq
      · exact hl a List.mem_cons_self he.symm
      · exact hn.1 (List.mem_map.mpr ⟨q, hq, he⟩)
/-- what is looked up behind a filter, keys apart -/
theorem g_ld_mem_iff {l : List (Nat × Value)} (hn : (l.map (·.1)).Nodup) {i : Nat} {v : Value} : g_ld l i = some v ↔ (i, v) ∈ l := by
  refine ⟨g_ld_mem, fun h => ?_⟩
  unfold g_ld
  induction l with
  | nil => cases h
  | cons a l ih =>
    rw [List.map_cons, List.nodup_cons] at hn
    rcases List.mem_cons.mp h with rfl | h
    · simp
    · have hne : ¬ (a.1 == i) = true := by
        intro hq
        have e : a.1 = i := by simpa using hq
        exact hn.1 (List.mem_map.mpr ⟨(i, v), h, e.symm⟩)
      rw [List.find?_cons_of_neg (p := fun q : Nat × Value => q.1 == i) hne]
      exact ih hn.2 h
theorem g_le_ins {l l' : List (Nat × Value)} {i : Nat} {v : Value} {p : Nat × Value → Bool} (h : g_le l l') (hp : ∀ q, p q = true → q.1 ≠ i) : g_le (g_ins i v (l.filter p)) (g_ins i v (l'.filter p)) := by
  obtain ⟨h1, h2, h3⟩ := h
  have f1 : ∀ q ∈ l.filter p, q.1 ≠ i := fun q hq => hp q (List.mem_filter.mp hq).2
  have f2 : ∀ q ∈ l'.filter p, q.1 ≠ i := fun q hq => hp q (List.mem_filter.mp hq).2
  have n1 : ((l.filter p).map (·.1)).Nodup := (List.Sublist.map (fun q : Nat × Value => q.1) List.filter_sublist).nodup h2
  have n2 : ((l'.filter p).map (·.1)).Nodup := (List.Sublist.map (fun q : Nat × Value => q.1) List.filter_sublist).nodup h3
  refine ⟨fun j w hj => ?_, g_ins_keys f1 n1, g_ins_keys f2 n2⟩
  rw [g_ld_ins f1] at hj
  rw [g_ld_ins f2]
  by_cases hji : j = i
  · rw [if_pos hji] at hj ⊢; exact hj
  · rw [if_neg hji] at hj ⊢
    obtain ⟨a1, a2⟩ := List.mem_filter.mp ((g_ld_mem_iff n1).mp hj)
    exact (g_ld_mem_iff n2).mpr (List.mem_filter.mpr ⟨(g_ld_mem_iff h3).mp (h1 _ _ ((g_ld_mem_iff h2).mpr a1)), a2⟩)
theorem g_loads_le {l l' : List (Nat × Value)} (h : g_le l l') {i a : Nat} {st : List Value} {loc1 : List (Nat × Value)} {st1 : List Value} (hs : g_loads l i st a = some (loc1, st1)) : loc1 = l ∧ g_loads l' i st a = some (l', st1) := by
  unfold g_loads at hs ⊢
  split at hs
  next x hg => cases hs; rw [h.1 _ _ hg]; exact ⟨rfl, rfl⟩
  next x hg => cases hs; rw [h.1 _ _ hg]; exact ⟨rfl, rfl⟩
  next x hg => cases hs; rw [h.1 _ _ hg]; exact ⟨rfl, rfl⟩
  next x hg => cases hs; rw [h.1 _ _ hg]; exact ⟨rfl, rfl⟩
  · cases hs
theorem g_st1_le {l l' : List (Nat × Value)} (h : g_le l l') (i : Nat) (v : Value) : g_le (g_st1 l i v) (g_st1 l' i v) := g_le_ins h (fun q hq e => by simp [e] at hq)
theorem g_st2_le {l l' : List (Nat × Value)} (h : g_le l l') (i : Nat) (v : Value) : g_le (g_st2 l i v) (g_st2 l' i v) := g_le_ins h (fun q hq e => by simp [e] at hq)
theorem g_stores_le {l l' : List (Nat × Value)} (h : g_le l l') {nL i a : Nat} {st : List Value} {loc1 : List (Nat × Value)} {st1 : List Value} (hs : g_stores nL l i st a = some (loc1, st1)) : ∃ l1', g_stores nL l' i st a = some (l1', st1) ∧ g_le loc1 l1' := by
  unfold g_stores at hs ⊢
  split at hs
  · split at hs
    next hi => cases hs; rw [if_pos hi]; exact ⟨_, rfl, g_st1_le h _ _⟩
    · cases hs
  · split at hs
    next hi => cases hs; rw [if_pos hi]; exact ⟨_, rfl, g_st2_le h _ _⟩
    · cases hs
  · split at hs
    next hi => cases hs; rw [if_pos hi]; exact ⟨_, rfl, g_st1_le h _ _⟩
    · cases hs
  · split at hs
    next hi => cases hs; rw [if_pos hi]; exact ⟨_, rfl, g_st1_le h _ _⟩
    · cases hs
  · cases hs
theorem g_loc_le {l l' : List (Nat × Value)} (h : g_le l l') {nL : Nat} {I : Instr} {st : List Value} {loc1 : List (Nat × Value)} {st1 : List Value} (hs : g_loc nL I l st = some (loc1, st1)) : ∃ l1', g_loc nL I l' st = some (l1', st1) ∧ g_le loc1 l1' := by
  unfold g_loc at hs ⊢
  split at hs
  · obtain ⟨rfl, h2⟩ := g_loads_le h hs; exact ⟨_, h2, h⟩
  · obtain ⟨rfl, h2⟩ := g_loads_le h hs; exact ⟨_, h2, h⟩
  · obtain ⟨rfl, h2⟩ := g_loads_le h hs; exact ⟨_, h2, h⟩
  · obtain ⟨rfl, h2⟩ := g_loads_le h hs; exact ⟨_, h2, h⟩
  · obtain ⟨rfl, h2⟩ := g_loads_le h hs; exact ⟨_, h2, h⟩
  · obtain ⟨rfl, h2⟩ := g_loads_le h hs; exact ⟨_, h2, h⟩
  · exact g_stores_le h hs
  · exact g_stores_le h hs
  · exact g_stores_le h hs
  · exact g_stores_le h hs
  · exact g_stores_le h hs
  · exact g_stores_le h hs
  · split at hs
    next x hg =>
      rw [h.1 _ _ hg]
      split at hs
      next hi => cases hs; dsimp only; rw [if_pos hi]; exact ⟨_, rfl, g_st1_le h _ _⟩
      · cases hs
    · cases hs
  · cases hs
theorem g_loc_dom {nL : Nat} {I : Instr} {st : List Value} {l : List (Nat × Value)} {t : gT} {tb : List (List Int32)} {lg : Nat → Nat} {df : Nat → List Value} {r : List Nat} {pc : Nat} {h : gH} (hl : g_loc nL I l st ≠ none) : g_br I r pc st = none ∧ g_mem t I r st h = none ∧ g_new lg df I r st h = none ∧ g_txt tb I r st = none ∧ g_nat I r st h = none ∧ g_pure I st = none := by
  unfold g_loc at hl
  split at hl <;> first | exact ⟨rfl, rfl, rfl, rfl, rfl, rfl⟩ | exact absurd rfl hl
theorem g_ret_dom {nL : Nat} {I : Instr} {st : List Value} {l : List (Nat × Value)} {ret : Option FieldType} {v : Option Value} (h : g_ret ret I st = some v) : g_loc nL I l st = none := by
  unfold g_ret at h
  split at h <;> first | rfl | cases h
theorem g_inv_dom {nL nt : Nat} {mt : Nat → gM} {I : Instr} {r : List Nat} {st : List Value} {l : List (Nat × Value)} {h : gH} {q : Nat × List Value × List Value} (hi : g_inv nt mt I r st h = some q) : g_loc nL I l st = none := by
  unfold g_inv at hi
  split at hi <;> first | rfl | cases hi
section GW
variable {t : gT} {tb : List (List Int32)} {lg : Nat → Nat} {df : Nat → List Value} {mt : Nat → gM}
theorem g_step_le {l l' : List (Nat × Value)} (hle : g_le l l') {nL : Nat} {I : Instr} {r : List Nat} {pc pc1 : Nat} {st st1 : List Value} {h h1 : gH} {loc1 : List (Nat × Value)} (hs : g_step t tb lg df nL I r pc l st h = some (pc1, loc1, st1, h1)) : ∃ l1', g_step t tb lg df nL I r pc l' st h = some (pc1, l1', st1, h1) ∧ g_le loc1 l1' := by
  cases hp : g_pure I st with
  | some x => unfold g_step at hs ⊢; rw [hp] at hs ⊢; cases hs; exact ⟨_, rfl, hle⟩
  | none =>
    cases hl : g_loc nL I l st with
    | some x =>
      obtain ⟨l1, s1⟩ := x
      obtain ⟨l2, h2, h3⟩ := g_loc_le hle hl
      unfold g_step at hs ⊢
      rw [hp] at hs ⊢
      dsimp only at hs ⊢
      rw [hl] at hs
      rw [h2]
      cases hs
      exact ⟨_, rfl, h3⟩
    | none =>
      have hl' : g_loc nL I l' st = none := by
        cases hc : g_loc nL I l' st with
        | none => rfl
        | some y =>
          obtain ⟨b1, b2, b3, b4, b5, -⟩ := g_loc_dom (t := t) (tb := tb) (lg := lg) (df := df) (r := r) (pc := pc) (h := h) (nL := nL) (l := l') (I := I) (st := st) (by rw [hc]; exact fun z => by cases z)
          unfold g_step at hs
          rw [hp] at hs
          dsimp only at hs
          rw [hl] at hs
          dsimp only at hs
          rw [b1] at hs
          dsimp only at hs
          rw [b2] at hs
          dsimp only at hs
          rw [b3] at hs
          dsimp only at hs
          rw [b4] at hs
          dsimp only at hs
          rw [b5] at hs
          cases hs
      unfold g_step at hs ⊢
      rw [hp] at hs ⊢
      dsimp only at hs ⊢
      rw [hl] at hs
      rw [hl']
      dsimp only at hs ⊢
      split at hs
      next hb => cases hs; exact ⟨_, rfl, hle⟩
      next hb =>
        split at hs
        next hm => cases hs; exact ⟨_, rfl, hle⟩
        next hm =>
          split at hs
          next hn => cases hs; exact ⟨_, rfl, hle⟩
          next hn =>
            split at hs
            next hx => cases hs; exact ⟨_, rfl, hle⟩
            next hx =>
              split at hs
              next ha => cases hs; exact ⟨_, rfl, hle⟩
              next ha => cases hs
theorem g_step_none {l l' : List (Nat × Value)} {nL : Nat} {I : Instr} {r : List Nat} {pc : Nat} {st : List Value} {h : gH} (hl : g_loc nL I l st = none) (hl' : g_loc nL I l' st = none) (hs : g_step t tb lg df nL I r pc l st h = none) : g_step t tb lg df nL I r pc l' st h = none := by
  unfold g_step at hs ⊢
  cases hp : g_pure I st with
  | some x => rw [hp] at hs; cases hs
  | none =>
    rw [hp] at hs
    dsimp only at hs ⊢
    rw [hl] at hs
    rw [hl']
    dsimp only at hs ⊢
    split at hs
    · cases hs
    · split at hs
      · cases hs
      · split at hs
        · cases hs
        · split at hs
          · cases hs
          · split at hs
            · cases hs
            · rfl
theorem g_exec_le : ∀ (n d M pc : Nat) (l l' : List (Nat × Value)) (st : List Value) (h : gH) (z : Option Value × gH), g_le l l' → g_exec t tb lg df mt n d M pc l st h = some z → g_exec t tb lg df mt n d M pc l' st h = some z := by
  intro n
  induction n with
  | zero => intro d M pc l l' st h z _ he; cases he
  | succ n ih =>
    intro d M pc l l' st h z hle he
    unfold g_exec at he ⊢
    cases hI : (mt M).2 pc with
    | none => rw [hI] at he; cases he
    | some q =>
      obtain ⟨I, r⟩ := q
      rw [hI] at he
      dsimp only at he ⊢
      cases hs : g_step t tb lg df (mt M).1.2.2.1 I r pc l st h with
      | some w =>
        obtain ⟨pc1, l1, s1, h1⟩ := w
        obtain ⟨l2, h2, h3⟩ := g_step_le hle hs
        rw [hs] at he
        rw [h2]
        exact ih _ _ _ _ _ _ _ _ h3 he
      | none =>
        rw [hs] at he
        dsimp only at he
        cases hr : g_ret (mt M).1.2.2.2 I st with
        | some v =>
          rw [g_step_none (g_ret_dom hr) (g_ret_dom hr) hs]
          dsimp only
          rw [hr] at he
          try rw [hr]
          exact he
        | none =>
          rw [hr] at he
          dsimp only at he
          cases hi : g_inv tb.length mt I r st h with
          | none => rw [hi] at he; cases d <;> cases he
          | some q =>
            obtain ⟨M', as, rest⟩ := q
            rw [g_step_none (g_inv_dom hi) (g_inv_dom hi) hs]
            dsimp only
            try rw [hr]
            try dsimp only
            rw [hi] at he
            try rw [hi]
            cases d with
            | zero => cases he
            | succ d =>
              dsimp only at he ⊢
              split at he
              next hc => exact ih _ _ _ _ _ _ _ _ hle he
              · cases he
end GW
theorem va_nd_nodup : ∀ {l : List Nat}, va_nd l = true → l.Nodup
  | [], _ => List.nodup_nil
  | a :: l, h => by
    simp only [va_nd, Bool.and_eq_true, decide_eq_true_eq] at h
    exact List.nodup_cons.mpr ⟨h.1, va_nd_nodup h.2⟩
section KX
variable {t : gT} {lg : Nat → Nat} {d M pc : Nat} {loc : List (Nat × Value)} {st : List Value} {h : gH} {z : Option Value × gH} {r : List Nat}
theorem k_wk (ks : List Nat) {loc' : List (Nat × Value)} (hs : (loc.filter fun q => ks.contains q.1) = loc') (hn : va_nd (loc.map (·.1)) = true) (hr : k_run t lg d M pc loc' st h z) : k_run t lg d M pc loc st h z := by
  subst hs
  obtain ⟨n, hn2⟩ := hr
  exact ⟨n, g_exec_le n d M pc _ loc st h z ⟨fun i v hv => g_ld_filter ks loc i hv, (List.Sublist.map (fun q : Nat × Value => q.1) List.filter_sublist).nodup (va_nd_nodup hn), va_nd_nodup hn⟩ hn2⟩
theorem k_ldI {a n : Nat} {f : Nat → Int32} {i v : Int32} (hI : (k_mt M).2 pc = some (.iaload, r)) (hg : g_get h a = some (.inl (0, n, .inl f))) (hv : m_ld f n i = some v) (hr : k_run t lg d M (pc + 1) loc (.int v :: st) h z) : k_run t lg d M pc loc (.int i :: .ref a :: st) h z := by
  obtain ⟨h1, rfl⟩ := m_ld_ok hv
  exact k_iald hI hg h1 hr
theorem k_ldB {a n : Nat} {f : Nat → Int32} {i v : Int32} (hI : (k_mt M).2 pc = some (.baload, r)) (hg : g_get h a = some (.inl (1, n, .inl f))) (hv : m_ld f n i = some v) (hr : k_run t lg d M (pc + 1) loc (.int v :: st) h z) : k_run t lg d M pc loc (.int i :: .ref a :: st) h z := by
  obtain ⟨h1, rfl⟩ := m_ld_ok hv
  exact k_bald hI hg h1 hr
theorem k_ldZ {a n : Nat} {f : Nat → Int32} {i v : Int32} (hI : (k_mt M).2 pc = some (.baload, r)) (hg : g_get h a = some (.inl (2, n, .inl f))) (hv : m_ld f n i = some v) (hr : k_run t lg d M (pc + 1) loc (.int v :: st) h z) : k_run t lg d M pc loc (.int i :: .ref a :: st) h z := by
  obtain ⟨h1, rfl⟩ := m_ld_ok hv
  exact k_zald hI hg h1 hr
theorem k_ldL {a n : Nat} {f : Nat → Int64} {i : Int32} {v : Int64} (hI : (k_mt M).2 pc = some (.laload, r)) (hg : g_get h a = some (.inl (3, n, .inr (.inl f)))) (hv : m_ldJ f n i = some v) (hr : k_run t lg d M (pc + 1) loc (.long v :: st) h z) : k_run t lg d M pc loc (.int i :: .ref a :: st) h z := by
  obtain ⟨h1, rfl⟩ := m_ldJ_ok hv
  exact k_lald hI hg h1 hr
theorem k_dvI {x y v : Int32} (hI : (k_mt M).2 pc = some (.idiv, r)) (hv : m_div x y = some v) (hr : k_run t lg d M (pc + 1) loc (.int v :: st) h z) : k_run t lg d M pc loc (.int y :: .int x :: st) h z := by
  unfold m_div at hv
  split at hv
  · cases hv
  next hy => cases hv; exact k_idiv hI hy hr
theorem k_rmI {x y v : Int32} (hI : (k_mt M).2 pc = some (.irem, r)) (hv : m_rem x y = some v) (hr : k_run t lg d M (pc + 1) loc (.int v :: st) h z) : k_run t lg d M pc loc (.int y :: .int x :: st) h z := by
  unfold m_rem at hv
  split at hv
  · cases hv
  next hy => cases hv; exact k_irem hI hy hr
variable {c : Nat × Nat} {B : Nat → List gE} {F F' : Nat → Int32} {A A' : Nat → Nat → Int32} {J J' : Nat → Nat → Int64}
theorem k_stI (j : Nat) {n : Nat} {i x : Int32} {a : Nat} (hI : (k_mt M).2 pc = some (.iastore, r)) (ha : (a, g_get (m_h c B F A J) a) = (40960 + j, some (.inl (0, n, .inl (A j))))) (hs : ∀ g, (m_cells F A J).set j (.inl (0, n, .inl g)) = m_cells F (va_up A j g) J) (hv : m_st A j n i x = some A') (hr : k_run t lg d M (pc + 1) loc st (m_h c B F A' J) z) (hj : j < 1024 := by decide) : k_run t lg d M pc loc (.int x :: .int i :: .ref a :: st) (m_h c B F A J) z := by
  obtain ⟨h1, rfl⟩ := m_st_ok hv
  obtain ⟨rfl, hg⟩ := Prod.mk.inj ha
  exact k_iast hI hg h1 (m_hset j hj (hs _)) hr
theorem k_stB (j : Nat) {n : Nat} {i x : Int32} {a : Nat} (hI : (k_mt M).2 pc = some (.bastore, r)) (ha : (a, g_get (m_h c B F A J) a) = (40960 + j, some (.inl (1, n, .inl (A j))))) (hs : ∀ g, (m_cells F A J).set j (.inl (1, n, .inl g)) = m_cells F (va_up A j g) J) (hv : m_st A j n i (vp_nar .byte x) = some A') (hr : k_run t lg d M (pc + 1) loc st (m_h c B F A' J) z) (hj : j < 1024 := by decide) : k_run t lg d M pc loc (.int x :: .int i :: .ref a :: st) (m_h c B F A J) z := by
  obtain ⟨h1, rfl⟩ := m_st_ok hv
  obtain ⟨rfl, hg⟩ := Prod.mk.inj ha
  exact k_bast hI hg h1 (m_hset j hj (hs _)) hr
theorem k_stZ (j : Nat) {n : Nat} {i x : Int32} {a : Nat} (hI : (k_mt M).2 pc = some (.bastore, r)) (ha : (a, g_get (m_h c B F A J) a) = (40960 + j, some (.inl (2, n, .inl (A j))))) (hs : ∀ g, (m_cells F A J).set j (.inl (2, n, .inl g)) = m_cells F (va_up A j g) J) (hv : m_st A j n i (vp_nar .boolean x) = some A') (hr : k_run t lg d M (pc + 1) loc st (m_h c B F A' J) z) (hj : j < 1024 := by decide) : k_run t lg d M pc loc (.int x :: .int i :: .ref a :: st) (m_h c B F A J) z := by
  obtain ⟨h1, rfl⟩ := m_st_ok hv
  obtain ⟨rfl, hg⟩ := Prod.mk.inj ha
  exact k_zast hI hg h1 (m_hset j hj (hs _)) hr
theorem k_stL (j : Nat) {n : Nat} {i : Int32} {x : Int64} {a : Nat} (hI : (k_mt M).2 pc = some (.lastore, r)) (ha : (a, g_get (m_h c B F A J) a) = (40960 + j, some (.inl (3, n, .inr (.inl (J j)))))) (hs : ∀ g, (m_cells F A J).set j (.inl (3, n, .inr (.inl g))) = m_cells F A (va_up J j g)) (hv : m_stJ J j n i x = some J') (hr : k_run t lg d M (pc + 1) loc st (m_h c B F A J') z) (hj : j < 1024 := by decide) : k_run t lg d M pc loc (.long x :: .int i :: .ref a :: st) (m_h c B F A J) z := by
  obtain ⟨h1, rfl⟩ := m_stJ_ok hv
  obtain ⟨rfl, hg⟩ := Prod.mk.inj ha
  exact k_last hI hg h1 (m_hset j hj (hs _)) hr
theorem k_ptI {ix k : Nat} {x : Int32} {fs : List Value} (hI : (k_mt M).2 pc = some (.putfield ix, [12, k])) (ht : t.1 12 k = k_ty 12 k) (hg : (g_get (m_h c B F A J) 40960, (m_cells F A J).set 0 (.inr (12, fs.set k (.int x)))) = (some (.inr (12, fs)), m_cells (upd F k x) A J)) (hk : (k_ty 12 k, decide (k < fs.length)) = (.int, true)) (hv : m_pf F k x = some F') (hr : k_run t lg d M (pc + 3) loc st (m_h c B F' A J) z) : k_run t lg d M pc loc (.int x :: .ref 40960 :: st) (m_h c B F A J) z := by
  cases hv
  obtain ⟨h1, h2⟩ := Prod.mk.inj hg
  obtain ⟨h3, h4⟩ := Prod.mk.inj hk
  exact k_put hI h1 (of_decide_eq_true h4) (by rw [ht, h3]; rfl) (m_hset 0 (by decide) h2) hr
theorem k_ptZ {ix k : Nat} {x : Int32} {fs : List Value} (hI : (k_mt M).2 pc = some (.putfield ix, [12, k])) (ht : t.1 12 k = k_ty 12 k) (hg : (g_get (m_h c B F A J) 40960, (m_cells F A J).set 0 (.inr (12, fs.set k (.int x)))) = (some (.inr (12, fs)), m_cells (upd F k x) A J)) (hk : (k_ty 12 k, decide (k < fs.length)) = (.boolean, true)) (hv : m_pfz F k x = some F') (hr : k_run t lg d M (pc + 3) loc st (m_h c B F' A J) z) : k_run t lg d M pc loc (.int x :: .ref 40960 :: st) (m_h c B F A J) z := by
  unfold m_pfz at hv
  split at hv
  next hx =>
    cases hv
    obtain ⟨h1, h2⟩ := Prod.mk.inj hg
    obtain ⟨h3, h4⟩ := Prod.mk.inj hk
    exact k_put hI h1 (of_decide_eq_true h4) (by rw [ht, h3]; exact decide_eq_true hx) (m_hset 0 (by decide) h2) hr
  next => cases hv
end KX
theorem m_out {x : Int32} {lo hi : Int} (ks : List Int32) (h1 : ∀ j, j < ks.length → (ks.getD j 0).toInt = lo + (j : Int)) (h2 : hi < lo + (ks.length : Int)) (h : ∀ k ∈ ks, ¬ x = k) : x.toInt < lo ∨ hi < x.toInt := by
  by_cases ha : x.toInt < lo
  · exact Or.inl ha
  · by_cases hb : hi < x.toInt
    · exact Or.inr hb
    · exfalso
      have hj : (x.toInt - lo).toNat < ks.length := by omega
      have h3 := h1 _ hj
      have h4 : ks.getD (x.toInt - lo).toNat 0 = x := by
        apply Int32.toInt_inj.mp
        rw [h3]
        omega
      rw [List.getD_eq_getElem?_getD, List.getElem?_eq_getElem hj] at h4
      exact h _ (List.getElem_mem hj) h4.symm
end
