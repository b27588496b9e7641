/-! the tables have the methods' code -/
set_option maxRecDepth 100000 in
theorem k_cw0 : Cond.code ⟨"SleepWork$Evening", "<init>", "(LSleepWork$House;LSleepWork$State;LSleepWork$Told;)V"⟩ prog_2_method_1_code 4 ((Option.none : Option FieldType)) ∈ lw_gd := k_memT (i := 309) rfl rfl
set_option maxRecDepth 100000 in
theorem k_cw1 : Cond.code ⟨"SleepWork$Evening", "enter", "(LSleepWork$House;)V"⟩ prog_2_method_2_code 2 ((Option.none : Option FieldType)) ∈ lw_gd := k_memT (i := 820) rfl rfl
set_option maxRecDepth 100000 in
theorem k_cw2 : Cond.code ⟨"SleepWork$Evening", "setStale", "()V"⟩ prog_2_method_3_code 1 ((Option.none : Option FieldType)) ∈ lw_gd := k_memT (i := 828) rfl rfl
set_option maxRecDepth 100000 in
theorem k_cw3 : Cond.code ⟨"SleepWork$Evening", "minutesBetween", "(II)I"⟩ prog_2_method_4_code 3 ((Option.some FieldType.int)) ∈ lw_gd := k_memT (i := 881) rfl rfl
set_option maxRecDepth 100000 in
theorem k_cw4 : Cond.code ⟨"SleepWork$Evening", "goBy", "()V"⟩ prog_2_method_5_code 1 ((Option.none : Option FieldType)) ∈ lw_gd := k_memT (i := 940) rfl rfl
set_option maxRecDepth 100000 in
theorem k_cw5 : Cond.code ⟨"SleepWork$Evening", "gainAsItIs", "()I"⟩ prog_2_method_6_code 1 ((Option.some FieldType.int)) ∈ lw_gd := k_memT (i := 1002) rfl rfl
set_option maxRecDepth 100000 in
theorem k_cw6 : Cond.code ⟨"SleepWork$Evening", "strokesTill", "(II)I"⟩ prog_2_method_7_code 3 ((Option.some FieldType.int)) ∈ lw_gd := k_memT (i := 1100) rfl rfl
set_option maxRecDepth 100000 in
theorem k_cw7 : Cond.code ⟨"SleepWork$Evening", "gainOfTrial", "()I"⟩ prog_2_method_8_code 1 ((Option.some FieldType.int)) ∈ lw_gd := k_memT (i := 1008) rfl rfl
set_option maxRecDepth 100000 in
theorem k_cw8 : Cond.code ⟨"SleepWork$Evening", "isAnswered", "(III)Z"⟩ prog_2_method_9_code 4 ((Option.some FieldType.boolean)) ∈ lw_gd := k_memT (i := 1020) rfl rfl
set_option maxRecDepth 100000 in
theorem k_cw9 : Cond.code ⟨"SleepWork$Evening", "offer", "(III)V"⟩ prog_2_method_10_code 4 ((Option.none : Option FieldType)) ∈ lw_gd := k_memT (i := 1029) rfl rfl
set_option maxRecDepth 100000 in
theorem k_cw10 : Cond.code ⟨"SleepWork$Evening", "seekForOne", "(I)V"⟩ prog_2_method_11_code 3 ((Option.none : Option FieldType)) ∈ lw_gd := k_memT (i := 1016) rfl rfl
set_option maxRecDepth 100000 in
theorem k_cw11 : Cond.code ⟨"SleepWork$Evening", "seekForTwo", "(II)V"⟩ prog_2_method_12_code 5 ((Option.none : Option FieldType)) ∈ lw_gd := k_memT (i := 1044) rfl rfl
set_option maxRecDepth 100000 in
theorem k_cw12 : Cond.code ⟨"SleepWork$Evening", "seekHidingPlace", "(I)V"⟩ prog_2_method_13_code 4 ((Option.none : Option FieldType)) ∈ lw_gd := k_memT (i := 1057) rfl rfl
set_option maxRecDepth 100000 in
theorem k_cw13 : Cond.code ⟨"SleepWork$Evening", "seekBars", "()V"⟩ prog_2_method_14_code 4 ((Option.none : Option FieldType)) ∈ lw_gd := k_memT (i := 1065) rfl rfl
set_option maxRecDepth 100000 in
theorem k_cw14 : Cond.code ⟨"SleepWork$Evening", "arrivals", "(I)J"⟩ prog_2_method_15_code 8 ((Option.some FieldType.long)) ∈ lw_gd := k_memT (i := 1082) rfl rfl
set_option maxRecDepth 100000 in
theorem k_cw15 : Cond.code ⟨"SleepWork$Evening", "clearSeen", "(I)V"⟩ prog_2_method_16_code 2 ((Option.none : Option FieldType)) ∈ lw_gd := k_memT (i := 1069) rfl rfl
set_option maxRecDepth 100000 in
theorem k_cw16 : Cond.code ⟨"SleepWork$Evening", "isNew", "(J)Z"⟩ prog_2_method_17_code 8 ((Option.some FieldType.boolean)) ∈ lw_gd := k_memT (i := 1087) rfl rfl
set_option maxRecDepth 100000 in
theorem k_cw17 : Cond.code ⟨"SleepWork$Evening", "seekFits", "(II)V"⟩ prog_2_method_18_code 4 ((Option.none : Option FieldType)) ∈ lw_gd := k_memT (i := 1128) rfl rfl
set_option maxRecDepth 100000 in
theorem k_cw18 : Cond.code ⟨"SleepWork$Evening", "suspectBits", "(I)I"⟩ prog_2_method_19_code 4 ((Option.some FieldType.int)) ∈ lw_gd := k_memT (i := 1140) rfl rfl
set_option maxRecDepth 100000 in
theorem k_cw19 : Cond.code ⟨"SleepWork$Evening", "isSuspect", "(II)Z"⟩ prog_2_method_20_code 4 ((Option.some FieldType.boolean)) ∈ lw_gd := k_memT (i := 1144) rfl rfl
set_option maxRecDepth 100000 in
theorem k_cw20 : Cond.code ⟨"SleepWork$Evening", "fittingPairs", "(III)I"⟩ prog_2_method_21_code 7 ((Option.some FieldType.int)) ∈ lw_gd := k_memT (i := 1152) rfl rfl
set_option maxRecDepth 100000 in
theorem k_cw21 : Cond.code ⟨"SleepWork$House", "<init>", "()V"⟩ prog_3_method_1_code 1 ((Option.none : Option FieldType)) ∈ lw_gd := k_memT (i := 159) rfl rfl
set_option maxRecDepth 100000 in
theorem k_cw22 : Cond.code ⟨"SleepWork$House", "clear", "()V"⟩ prog_3_method_2_code 1 ((Option.none : Option FieldType)) ∈ lw_gd := k_memT (i := 188) rfl rfl
set_option maxRecDepth 100000 in
theorem k_cw23 : Cond.code ⟨"SleepWork$House", "hasStep", "(II)Z"⟩ prog_3_method_3_code 3 ((Option.some FieldType.boolean)) ∈ lw_gd := k_memT (i := 853) rfl rfl
set_option maxRecDepth 100000 in
theorem k_cw24 : Cond.code ⟨"SleepWork$House", "mayBeLeft", "(I)Z"⟩ prog_3_method_4_code 2 ((Option.some FieldType.boolean)) ∈ lw_gd := k_memT (i := 1025) rfl rfl
set_option maxRecDepth 100000 in
theorem k_cw25 : Cond.code ⟨"SleepWork$House", "isEnded", "(LSleepWork$State;I)Z"⟩ prog_3_method_5_code 5 ((Option.some FieldType.boolean)) ∈ lw_gd := k_memT (i := 845) rfl rfl
set_option maxRecDepth 100000 in
theorem k_cw26 : Cond.code ⟨"SleepWork$House", "worth", "(LSleepWork$State;I)I"⟩ prog_3_method_6_code 7 ((Option.some FieldType.int)) ∈ lw_gd := k_memT (i := 840) rfl rfl
set_option maxRecDepth 100000 in
theorem k_cw27 : Cond.code ⟨"SleepWork$House", "worthOfAll", "(LSleepWork$State;)I"⟩ prog_3_method_7_code 4 ((Option.some FieldType.int)) ∈ lw_gd := k_memT (i := 935) rfl rfl
set_option maxRecDepth 100000 in
theorem k_cw28 : Cond.code ⟨"SleepWork$House", "finish", "(LSleepWork$State;II)V"⟩ prog_3_method_8_code 6 ((Option.none : Option FieldType)) ∈ lw_gd := k_memT (i := 910) rfl rfl
set_option maxRecDepth 100000 in
theorem k_cw29 : Cond.code ⟨"SleepWork$Laws", "<init>", "()V"⟩ prog_4_method_1_code 1 ((Option.none : Option FieldType)) ∈ lw_gd := k_memT (i := 165) rfl rfl
set_option maxRecDepth 100000 in
theorem k_cw30 : Cond.code ⟨"SleepWork$Laws", "clear", "()V"⟩ prog_4_method_2_code 1 ((Option.none : Option FieldType)) ∈ lw_gd := k_memT (i := 193) rfl rfl
set_option maxRecDepth 100000 in
theorem k_cw31 : Cond.code ⟨"SleepWork$Laws", "add", "(II)I"⟩ prog_4_method_3_code 3 ((Option.some FieldType.int)) ∈ lw_gd := k_memT (i := 785) rfl rfl
set_option maxRecDepth 100000 in
theorem k_cw32 : Cond.code ⟨"SleepWork$Laws", "aimHere", "(I)V"⟩ prog_4_method_4_code 2 ((Option.none : Option FieldType)) ∈ lw_gd := k_memT (i := 797) rfl rfl
set_option maxRecDepth 100000 in
theorem k_cw33 : Cond.code ⟨"SleepWork$Laws", "tellsTo", "(I[I)I"⟩ prog_4_method_5_code 8 ((Option.some FieldType.int)) ∈ lw_gd := k_memT (i := 978) rfl rfl
set_option maxRecDepth 100000 in
theorem k_cw34 : Cond.code ⟨"SleepWork$Laws", "joined", "(III)I"⟩ prog_4_method_6_code 3 ((Option.some FieldType.int)) ∈ lw_gd := k_memT (i := 981) rfl rfl
set_option maxRecDepth 100000 in
theorem k_cw35 : Cond.code ⟨"SleepWork$Past", "<init>", "()V"⟩ prog_5_method_1_code 2 ((Option.none : Option FieldType)) ∈ lw_gd := k_memT (i := 122) rfl rfl
set_option maxRecDepth 100000 in
theorem k_cw36 : Cond.code ⟨"SleepWork$Past", "push", "(LSleepWork$State;)V"⟩ prog_5_method_2_code 2 ((Option.none : Option FieldType)) ∈ lw_gd := k_memT (i := 930) rfl rfl
set_option maxRecDepth 100000 in
theorem k_cw37 : Cond.code ⟨"SleepWork$Past", "pull", "(LSleepWork$State;)Z"⟩ prog_5_method_3_code 2 ((Option.some FieldType.boolean)) ∈ lw_gd := k_memT (i := 994) rfl rfl
set_option maxRecDepth 100000 in
theorem k_cw38 : Cond.code ⟨"SleepWork$Reader", "<init>", "(LSleepWork$House;LSleepWork$State;)V"⟩ prog_6_method_1_code 3 ((Option.none : Option FieldType)) ∈ lw_gd := k_memT (i := 424) rfl rfl
set_option maxRecDepth 100000 in
theorem k_cw39 : Cond.code ⟨"SleepWork$Reader", "readText", "(LSleepWork$Tape;LSleepWork$House;LSleepWork$State;)I"⟩ prog_6_method_2_code 5 ((Option.some FieldType.int)) ∈ lw_gd := k_memT (i := 607) rfl rfl
set_option maxRecDepth 100000 in
theorem k_cw40 : Cond.code ⟨"SleepWork$Reader", "placeOfFault", "()I"⟩ prog_6_method_3_code 1 ((Option.some FieldType.int)) ∈ lw_gd := k_memT (i := 805) rfl rfl
set_option maxRecDepth 100000 in
theorem k_cw41 : Cond.code ⟨"SleepWork$Reader", "open", "(LSleepWork$Tape;LSleepWork$House;LSleepWork$State;)V"⟩ prog_6_method_4_code 4 ((Option.none : Option FieldType)) ∈ lw_gd := k_memT (i := 611) rfl rfl
set_option maxRecDepth 100000 in
theorem k_cw42 : Cond.code ⟨"SleepWork$Reader", "fail", "(II)V"⟩ prog_6_method_5_code 3 ((Option.none : Option FieldType)) ∈ lw_gd := k_memT (i := 714) rfl rfl
set_option maxRecDepth 100000 in
theorem k_cw43 : Cond.code ⟨"SleepWork$Reader", "failLate", "(I)V"⟩ prog_6_method_6_code 2 ((Option.none : Option FieldType)) ∈ lw_gd := k_memT (i := 729) rfl rfl
set_option maxRecDepth 100000 in
theorem k_cw44 : Cond.code ⟨"SleepWork$Reader", "isNext", "(I)Z"⟩ prog_6_method_7_code 2 ((Option.some FieldType.boolean)) ∈ lw_gd := k_memT (i := 702) rfl rfl
set_option maxRecDepth 100000 in
theorem k_cw45 : Cond.code ⟨"SleepWork$Reader", "take", "(I)Z"⟩ prog_6_method_8_code 2 ((Option.some FieldType.boolean)) ∈ lw_gd := k_memT (i := 718) rfl rfl
set_option maxRecDepth 100000 in
theorem k_cw46 : Cond.code ⟨"SleepWork$Reader", "takeFirst", "(III)V"⟩ prog_6_method_9_code 4 ((Option.none : Option FieldType)) ∈ lw_gd := k_memT (i := 710) rfl rfl
set_option maxRecDepth 100000 in
theorem k_cw47 : Cond.code ⟨"SleepWork$Reader", "takeNewName", "([JI)V"⟩ prog_6_method_10_code 5 ((Option.none : Option FieldType)) ∈ lw_gd := k_memT (i := 722) rfl rfl
set_option maxRecDepth 100000 in
theorem k_cw48 : Cond.code ⟨"SleepWork$Reader", "takeKnownName", "([JI)I"⟩ prog_6_method_11_code 4 ((Option.some FieldType.int)) ∈ lw_gd := k_memT (i := 737) rfl rfl
set_option maxRecDepth 100000 in
theorem k_cw49 : Cond.code ⟨"SleepWork$Reader", "find", "(J[JI)I"⟩ prog_6_method_12_code 5 ((Option.some FieldType.int)) ∈ lw_gd := k_memT (i := 725) rfl rfl
set_option maxRecDepth 100000 in
theorem k_cw50 : Cond.code ⟨"SleepWork$Reader", "takeNumber", "(II)I"⟩ prog_6_method_13_code 4 ((Option.some FieldType.int)) ∈ lw_gd := k_memT (i := 741) rfl rfl
set_option maxRecDepth 100000 in
theorem k_cw51 : Cond.code ⟨"SleepWork$Reader", "takeStepNumber", "(I)I"⟩ prog_6_method_14_code 2 ((Option.some FieldType.int)) ∈ lw_gd := k_memT (i := 761) rfl rfl
set_option maxRecDepth 100000 in
theorem k_cw52 : Cond.code ⟨"SleepWork$Reader", "readRoom", "()V"⟩ prog_6_method_15_code 1 ((Option.none : Option FieldType)) ∈ lw_gd := k_memT (i := 706) rfl rfl
set_option maxRecDepth 100000 in
theorem k_cw53 : Cond.code ⟨"SleepWork$Reader", "readDoor", "()V"⟩ prog_6_method_16_code 6 ((Option.none : Option FieldType)) ∈ lw_gd := k_memT (i := 733) rfl rfl
set_option maxRecDepth 100000 in
theorem k_cw54 : Cond.code ⟨"SleepWork$Reader", "readTool", "()V"⟩ prog_6_method_17_code 2 ((Option.none : Option FieldType)) ∈ lw_gd := k_memT (i := 745) rfl rfl
set_option maxRecDepth 100000 in
theorem k_cw55 : Cond.code ⟨"SleepWork$Reader", "readTask", "()V"⟩ prog_6_method_18_code 3 ((Option.none : Option FieldType)) ∈ lw_gd := k_memT (i := 749) rfl rfl
set_option maxRecDepth 100000 in
theorem k_cw56 : Cond.code ⟨"SleepWork$Reader", "readStep", "()V"⟩ prog_6_method_19_code 9 ((Option.none : Option FieldType)) ∈ lw_gd := k_memT (i := 753) rfl rfl
set_option maxRecDepth 100000 in
theorem k_cw57 : Cond.code ⟨"SleepWork$Reader", "takeTaskOfStep", "()I"⟩ prog_6_method_20_code 3 ((Option.some FieldType.int)) ∈ lw_gd := k_memT (i := 757) rfl rfl
set_option maxRecDepth 100000 in
theorem k_cw58 : Cond.code ⟨"SleepWork$Reader", "readMan", "()V"⟩ prog_6_method_21_code 4 ((Option.none : Option FieldType)) ∈ lw_gd := k_memT (i := 765) rfl rfl
set_option maxRecDepth 100000 in
theorem k_cw59 : Cond.code ⟨"SleepWork$Reader", "readNight", "()V"⟩ prog_6_method_22_code 1 ((Option.none : Option FieldType)) ∈ lw_gd := k_memT (i := 801) rfl rfl
set_option maxRecDepth 100000 in
theorem k_cw60 : Cond.code ⟨"SleepWork$Reader", "readLaw", "()V"⟩ prog_6_method_23_code 4 ((Option.none : Option FieldType)) ∈ lw_gd := k_memT (i := 769) rfl rfl
set_option maxRecDepth 100000 in
theorem k_cw61 : Cond.code ⟨"SleepWork$Reader", "readIf", "()V"⟩ prog_6_method_24_code 2 ((Option.none : Option FieldType)) ∈ lw_gd := k_memT (i := 773) rfl rfl
set_option maxRecDepth 100000 in
theorem k_cw62 : Cond.code ⟨"SleepWork$Reader", "readSum", "(I)V"⟩ prog_6_method_25_code 6 ((Option.none : Option FieldType)) ∈ lw_gd := k_memT (i := 777) rfl rfl
set_option maxRecDepth 100000 in
theorem k_cw63 : Cond.code ⟨"SleepWork$Reader", "addSign", "(I)V"⟩ prog_6_method_26_code 2 ((Option.none : Option FieldType)) ∈ lw_gd := k_memT (i := 789) rfl rfl
set_option maxRecDepth 100000 in
theorem k_cw64 : Cond.code ⟨"SleepWork$Reader", "takeEither", "(II)I"⟩ prog_6_method_27_code 3 ((Option.some FieldType.int)) ∈ lw_gd := k_memT (i := 793) rfl rfl
set_option maxRecDepth 100000 in
theorem k_cw65 : Cond.code ⟨"SleepWork$Reader", "readUnit", "(I)V"⟩ prog_6_method_28_code 3 ((Option.none : Option FieldType)) ∈ lw_gd := k_memT (i := 781) rfl rfl
set_option maxRecDepth 100000 in
theorem k_cw66 : Cond.code ⟨"SleepWork$Scanner", "<init>", "()V"⟩ prog_7_method_1_code 3 ((Option.none : Option FieldType)) ∈ lw_gd := k_memT (i := 430) rfl rfl
set_option maxRecDepth 100000 in
theorem k_cw67 : Cond.code ⟨"SleepWork$Scanner", "scanAll", "(LSleepWork$Tape;)V"⟩ prog_7_method_2_code 4 ((Option.none : Option FieldType)) ∈ lw_gd := k_memT (i := 617) rfl rfl
set_option maxRecDepth 100000 in
theorem k_cw68 : Cond.code ⟨"SleepWork$Scanner", "scanNext", "(ILSleepWork$Tape;)V"⟩ prog_7_method_3_code 4 ((Option.none : Option FieldType)) ∈ lw_gd := k_memT (i := 621) rfl rfl
set_option maxRecDepth 100000 in
theorem k_cw69 : Cond.code ⟨"SleepWork$Scanner", "scanLetters", "(ILSleepWork$Tape;)V"⟩ prog_7_method_4_code 7 ((Option.none : Option FieldType)) ∈ lw_gd := k_memT (i := 631) rfl rfl
set_option maxRecDepth 100000 in
theorem k_cw70 : Cond.code ⟨"SleepWork$Scanner", "scanDigits", "(ILSleepWork$Tape;)V"⟩ prog_7_method_5_code 4 ((Option.none : Option FieldType)) ∈ lw_gd := k_memT (i := 638) rfl rfl
set_option maxRecDepth 100000 in
theorem k_cw71 : Cond.code ⟨"SleepWork$Scanner", "isBlank", "(I)Z"⟩ prog_7_method_6_code 1 ((Option.some FieldType.boolean)) ∈ lw_gd := k_memT (i := 624) rfl rfl
set_option maxRecDepth 100000 in
theorem k_cw72 : Cond.code ⟨"SleepWork$Scanner", "isLetter", "(I)Z"⟩ prog_7_method_7_code 1 ((Option.some FieldType.boolean)) ∈ lw_gd := k_memT (i := 627) rfl rfl
set_option maxRecDepth 100000 in
theorem k_cw73 : Cond.code ⟨"SleepWork$Scanner", "isDigit", "(I)Z"⟩ prog_7_method_8_code 1 ((Option.some FieldType.boolean)) ∈ lw_gd := k_memT (i := 634) rfl rfl
set_option maxRecDepth 100000 in
theorem k_cw74 : Cond.code ⟨"SleepWork$Sleep", "<init>", "(LSleepWork$House;LSleepWork$State;)V"⟩ prog_8_method_1_code 3 ((Option.none : Option FieldType)) ∈ lw_gd := k_memT (i := 317) rfl rfl
set_option maxRecDepth 100000 in
theorem k_cw75 : Cond.code ⟨"SleepWork$Sleep", "goTill", "(ILSleepWork$House;LSleepWork$State;)V"⟩ prog_8_method_2_code 7 ((Option.none : Option FieldType)) ∈ lw_gd := k_memT (i := 944) rfl rfl
set_option maxRecDepth 100000 in
theorem k_cw76 : Cond.code ⟨"SleepWork$Sleep", "getUp", "()V"⟩ prog_8_method_3_code 4 ((Option.none : Option FieldType)) ∈ lw_gd := k_memT (i := 949) rfl rfl
set_option maxRecDepth 100000 in
theorem k_cw77 : Cond.code ⟨"SleepWork$Sleep", "nextMinute", "()I"⟩ prog_8_method_4_code 3 ((Option.some FieldType.int)) ∈ lw_gd := k_memT (i := 955) rfl rfl
set_option maxRecDepth 100000 in
theorem k_cw78 : Cond.code ⟨"SleepWork$Sleep", "finishAll", "(I)V"⟩ prog_8_method_5_code 6 ((Option.none : Option FieldType)) ∈ lw_gd := k_memT (i := 960) rfl rfl
set_option maxRecDepth 100000 in
theorem k_cw79 : Cond.code ⟨"SleepWork$Sleep", "begin", "(II)V"⟩ prog_8_method_6_code 8 ((Option.none : Option FieldType)) ∈ lw_gd := k_memT (i := 965) rfl rfl
set_option maxRecDepth 100000 in
theorem k_cw80 : Cond.code ⟨"SleepWork$Sleep", "lieDown", "(II)V"⟩ prog_8_method_7_code 3 ((Option.none : Option FieldType)) ∈ lw_gd := k_memT (i := 970) rfl rfl
set_option maxRecDepth 100000 in
theorem k_cw81 : Cond.code ⟨"SleepWork$Sleep", "chosenStep", "(III)I"⟩ prog_8_method_8_code 5 ((Option.some FieldType.int)) ∈ lw_gd := k_memT (i := 974) rfl rfl
set_option maxRecDepth 100000 in
theorem k_cw82 : Cond.code ⟨"SleepWork$Sleep", "wakeUp", "()V"⟩ prog_8_method_9_code 4 ((Option.none : Option FieldType)) ∈ lw_gd := k_memT (i := 986) rfl rfl
set_option maxRecDepth 100000 in
theorem k_cw83 : Cond.code ⟨"SleepWork$State", "<init>", "()V"⟩ prog_9_method_1_code 1 ((Option.none : Option FieldType)) ∈ lw_gd := k_memT (i := 52) rfl rfl
set_option maxRecDepth 100000 in
theorem k_cw84 : Cond.code ⟨"SleepWork$State", "clear", "()V"⟩ prog_9_method_2_code 1 ((Option.none : Option FieldType)) ∈ lw_gd := k_memT (i := 57) rfl rfl
set_option maxRecDepth 100000 in
theorem k_cw85 : Cond.code ⟨"SleepWork$State", "copy", "(LSleepWork$State;)V"⟩ prog_9_method_3_code 2 ((Option.none : Option FieldType)) ∈ lw_gd := k_memT (i := 813) rfl rfl
set_option maxRecDepth 100000 in
theorem k_cw86 : Cond.code ⟨"SleepWork$Tape", "<init>", "()V"⟩ prog_10_method_1_code 1 ((Option.none : Option FieldType)) ∈ lw_gd := k_memT (i := 35) rfl rfl
set_option maxRecDepth 100000 in
theorem k_cw87 : Cond.code ⟨"SleepWork$Tape", "hasSpace", "()Z"⟩ prog_10_method_2_code 1 ((Option.some FieldType.boolean)) ∈ lw_gd := k_memT (i := 591) rfl rfl
set_option maxRecDepth 100000 in
theorem k_cw88 : Cond.code ⟨"SleepWork$Tape", "addWord", "(I)V"⟩ prog_10_method_3_code 3 ((Option.none : Option FieldType)) ∈ lw_gd := k_memT (i := 595) rfl rfl
set_option maxRecDepth 100000 in
theorem k_cw89 : Cond.code ⟨"SleepWork$Told", "<init>", "()V"⟩ prog_11_method_1_code 1 ((Option.none : Option FieldType)) ∈ lw_gd := k_memT (i := 142) rfl rfl
set_option maxRecDepth 100000 in
theorem k_cw90 : Cond.code ⟨"SleepWork$Told", "isFull", "()Z"⟩ prog_11_method_2_code 1 ((Option.some FieldType.boolean)) ∈ lw_gd := k_memT (i := 1108) rfl rfl
set_option maxRecDepth 100000 in
theorem k_cw91 : Cond.code ⟨"SleepWork$Told", "add", "(II)I"⟩ prog_11_method_3_code 3 ((Option.some FieldType.int)) ∈ lw_gd := k_memT (i := 1112) rfl rfl
set_option maxRecDepth 100000 in
theorem k_cw92 : Cond.code ⟨"SleepWork$Told", "isSoIn", "(LSleepWork$State;I)Z"⟩ prog_11_method_4_code 4 ((Option.some FieldType.boolean)) ∈ lw_gd := k_memT (i := 1132) rfl rfl
set_option maxRecDepth 100000 in
theorem k_cw93 : Cond.code ⟨"SleepWork$Ways", "<init>", "()V"⟩ prog_12_method_1_code 1 ((Option.none : Option FieldType)) ∈ lw_gd := k_memT (i := 323) rfl rfl
set_option maxRecDepth 100000 in
theorem k_cw94 : Cond.code ⟨"SleepWork$Ways", "drop", "()V"⟩ prog_12_method_2_code 1 ((Option.none : Option FieldType)) ∈ lw_gd := k_memT (i := 824) rfl rfl
set_option maxRecDepth 100000 in
theorem k_cw95 : Cond.code ⟨"SleepWork$Ways", "between", "(LSleepWork$House;III)I"⟩ prog_12_method_3_code 5 ((Option.some FieldType.int)) ∈ lw_gd := k_memT (i := 885) rfl rfl
set_option maxRecDepth 100000 in
theorem k_cw96 : Cond.code ⟨"SleepWork$Ways", "takeDoors", "(LSleepWork$House;I)V"⟩ prog_12_method_4_code 7 ((Option.none : Option FieldType)) ∈ lw_gd := k_memT (i := 889) rfl rfl
set_option maxRecDepth 100000 in
theorem k_cw97 : Cond.code ⟨"SleepWork$Ways", "joinWays", "(I)V"⟩ prog_12_method_5_code 7 ((Option.none : Option FieldType)) ∈ lw_gd := k_memT (i := 896) rfl rfl
set_option maxRecDepth 100000 in
theorem k_cw98 : Cond.code ⟨"SleepWork", "<init>", "()V"⟩ prog_1_method_1_code 2 ((Option.none : Option FieldType)) ∈ lw_gd := k_memT (i := 27) rfl rfl
set_option maxRecDepth 100000 in
theorem k_cw99 : Cond.code ⟨"SleepWork", "feed", "(IIIII)I"⟩ prog_1_method_2_code 6 ((Option.some FieldType.int)) ∈ lw_gd := k_memT (i := 587) rfl rfl
set_option maxRecDepth 100000 in
theorem k_cw100 : Cond.code ⟨"SleepWork", "back", "(I)I"⟩ prog_1_method_3_code 2 ((Option.some FieldType.int)) ∈ lw_gd := k_memT (i := 599) rfl rfl
set_option maxRecDepth 100000 in
theorem k_cw101 : Cond.code ⟨"SleepWork", "read", "()I"⟩ prog_1_method_4_code 2 ((Option.some FieldType.int)) ∈ lw_gd := k_memT (i := 603) rfl rfl
set_option maxRecDepth 100000 in
theorem k_cw102 : Cond.code ⟨"SleepWork", "moveIn", "()V"⟩ prog_1_method_5_code 2 ((Option.none : Option FieldType)) ∈ lw_gd := k_memT (i := 809) rfl rfl
set_option maxRecDepth 100000 in
theorem k_cw103 : Cond.code ⟨"SleepWork", "place", "()I"⟩ prog_1_method_6_code 1 ((Option.some FieldType.int)) ∈ lw_gd := k_memT (i := 832) rfl rfl
set_option maxRecDepth 100000 in
theorem k_cw104 : Cond.code ⟨"SleepWork", "task", "(II)I"⟩ prog_1_method_7_code 3 ((Option.some FieldType.int)) ∈ lw_gd := k_memT (i := 836) rfl rfl
set_option maxRecDepth 100000 in
theorem k_cw105 : Cond.code ⟨"SleepWork", "step", "(III)I"⟩ prog_1_method_8_code 5 ((Option.some FieldType.int)) ∈ lw_gd := k_memT (i := 849) rfl rfl
set_option maxRecDepth 100000 in
theorem k_cw106 : Cond.code ⟨"SleepWork", "man", "(II)I"⟩ prog_1_method_9_code 4 ((Option.some FieldType.int)) ∈ lw_gd := k_memT (i := 857) rfl rfl
set_option maxRecDepth 100000 in
theorem k_cw107 : Cond.code ⟨"SleepWork", "isMan", "(I)Z"⟩ prog_1_method_10_code 2 ((Option.some FieldType.boolean)) ∈ lw_gd := k_memT (i := 861) rfl rfl
set_option maxRecDepth 100000 in
theorem k_cw108 : Cond.code ⟨"SleepWork", "isTool", "(I)Z"⟩ prog_1_method_11_code 2 ((Option.some FieldType.boolean)) ∈ lw_gd := k_memT (i := 869) rfl rfl
set_option maxRecDepth 100000 in
theorem k_cw109 : Cond.code ⟨"SleepWork", "isRoom", "(I)Z"⟩ prog_1_method_12_code 2 ((Option.some FieldType.boolean)) ∈ lw_gd := k_memT (i := 877) rfl rfl
set_option maxRecDepth 100000 in
theorem k_cw110 : Cond.code ⟨"SleepWork", "areTwoMen", "(II)Z"⟩ prog_1_method_13_code 3 ((Option.some FieldType.boolean)) ∈ lw_gd := k_memT (i := 1040) rfl rfl
set_option maxRecDepth 100000 in
theorem k_cw111 : Cond.code ⟨"SleepWork", "isKnownBy", "(I)Z"⟩ prog_1_method_14_code 2 ((Option.some FieldType.boolean)) ∈ lw_gd := k_memT (i := 1124) rfl rfl
set_option maxRecDepth 100000 in
theorem k_cw112 : Cond.code ⟨"SleepWork", "tool", "(I)I"⟩ prog_1_method_15_code 2 ((Option.some FieldType.int)) ∈ lw_gd := k_memT (i := 865) rfl rfl
set_option maxRecDepth 100000 in
theorem k_cw113 : Cond.code ⟨"SleepWork", "way", "(II)I"⟩ prog_1_method_16_code 4 ((Option.some FieldType.int)) ∈ lw_gd := k_memT (i := 873) rfl rfl
set_option maxRecDepth 100000 in
theorem k_cw114 : Cond.code ⟨"SleepWork", "leave", "(III)Z"⟩ prog_1_method_17_code 5 ((Option.some FieldType.boolean)) ∈ lw_gd := k_memT (i := 901) rfl rfl
set_option maxRecDepth 100000 in
theorem k_cw115 : Cond.code ⟨"SleepWork", "work", "(II)Z"⟩ prog_1_method_18_code 3 ((Option.some FieldType.boolean)) ∈ lw_gd := k_memT (i := 906) rfl rfl
set_option maxRecDepth 100000 in
theorem k_cw116 : Cond.code ⟨"SleepWork", "lay", "(II)Z"⟩ prog_1_method_19_code 3 ((Option.some FieldType.boolean)) ∈ lw_gd := k_memT (i := 914) rfl rfl
set_option maxRecDepth 100000 in
theorem k_cw117 : Cond.code ⟨"SleepWork", "give", "(II)Z"⟩ prog_1_method_20_code 3 ((Option.some FieldType.boolean)) ∈ lw_gd := k_memT (i := 918) rfl rfl
set_option maxRecDepth 100000 in
theorem k_cw118 : Cond.code ⟨"SleepWork", "bar", "(IZ)Z"⟩ prog_1_method_21_code 3 ((Option.some FieldType.boolean)) ∈ lw_gd := k_memT (i := 922) rfl rfl
set_option maxRecDepth 100000 in
theorem k_cw119 : Cond.code ⟨"SleepWork", "night", "()I"⟩ prog_1_method_22_code 2 ((Option.some FieldType.int)) ∈ lw_gd := k_memT (i := 926) rfl rfl
set_option maxRecDepth 100000 in
theorem k_cw120 : Cond.code ⟨"SleepWork", "undo", "()Z"⟩ prog_1_method_23_code 1 ((Option.some FieldType.boolean)) ∈ lw_gd := k_memT (i := 990) rfl rfl
set_option maxRecDepth 100000 in
theorem k_cw121 : Cond.code ⟨"SleepWork", "gain", "()I"⟩ prog_1_method_24_code 1 ((Option.some FieldType.int)) ∈ lw_gd := k_memT (i := 998) rfl rfl
set_option maxRecDepth 100000 in
theorem k_cw122 : Cond.code ⟨"SleepWork", "best", "(II)I"⟩ prog_1_method_25_code 3 ((Option.some FieldType.int)) ∈ lw_gd := k_memT (i := 1012) rfl rfl
set_option maxRecDepth 100000 in
theorem k_cw123 : Cond.code ⟨"SleepWork", "bestOfTwo", "(III)I"⟩ prog_1_method_26_code 4 ((Option.some FieldType.int)) ∈ lw_gd := k_memT (i := 1036) rfl rfl
set_option maxRecDepth 100000 in
theorem k_cw124 : Cond.code ⟨"SleepWork", "codeOf", "(I)I"⟩ prog_1_method_27_code 1 ((Option.some FieldType.int)) ∈ lw_gd := k_memT (i := 1032) rfl rfl
set_option maxRecDepth 100000 in
theorem k_cw125 : Cond.code ⟨"SleepWork", "hire", "(I)I"⟩ prog_1_method_28_code 2 ((Option.some FieldType.int)) ∈ lw_gd := k_memT (i := 1048) rfl rfl
set_option maxRecDepth 100000 in
theorem k_cw126 : Cond.code ⟨"SleepWork", "hide", "(II)I"⟩ prog_1_method_29_code 3 ((Option.some FieldType.int)) ∈ lw_gd := k_memT (i := 1053) rfl rfl
set_option maxRecDepth 100000 in
theorem k_cw127 : Cond.code ⟨"SleepWork", "bars", "(I)I"⟩ prog_1_method_30_code 2 ((Option.some FieldType.int)) ∈ lw_gd := k_memT (i := 1061) rfl rfl
set_option maxRecDepth 100000 in
theorem k_cw128 : Cond.code ⟨"SleepWork", "where", "(II)I"⟩ prog_1_method_31_code 6 ((Option.some FieldType.int)) ∈ lw_gd := k_memT (i := 1092) rfl rfl
set_option maxRecDepth 100000 in
theorem k_cw129 : Cond.code ⟨"SleepWork", "strokes", "(II)I"⟩ prog_1_method_32_code 3 ((Option.some FieldType.int)) ∈ lw_gd := k_memT (i := 1096) rfl rfl
set_option maxRecDepth 100000 in
theorem k_cw130 : Cond.code ⟨"SleepWork", "tell", "(III)I"⟩ prog_1_method_33_code 4 ((Option.some FieldType.int)) ∈ lw_gd := k_memT (i := 1104) rfl rfl
set_option maxRecDepth 100000 in
theorem k_cw131 : Cond.code ⟨"SleepWork", "forget", "()I"⟩ prog_1_method_34_code 2 ((Option.some FieldType.int)) ∈ lw_gd := k_memT (i := 1116) rfl rfl
set_option maxRecDepth 100000 in
theorem k_cw132 : Cond.code ⟨"SleepWork", "fits", "(III)I"⟩ prog_1_method_35_code 4 ((Option.some FieldType.int)) ∈ lw_gd := k_memT (i := 1120) rfl rfl
set_option maxRecDepth 100000 in
theorem k_cw133 : Cond.code ⟨"SleepWork", "suspects", "(I)I"⟩ prog_1_method_36_code 2 ((Option.some FieldType.int)) ∈ lw_gd := k_memT (i := 1136) rfl rfl
set_option maxRecDepth 100000 in
theorem k_cw134 : Cond.code ⟨"SleepWork", "pairs", "(III)I"⟩ prog_1_method_37_code 4 ((Option.some FieldType.int)) ∈ lw_gd := k_memT (i := 1148) rfl rfl
set_option maxRecDepth 100000 in
theorem k_cw135 : Cond.code ⟨"SleepWork", "hold", "(I)Z"⟩ prog_1_method_38_code 2 ((Option.some FieldType.boolean)) ∈ lw_gd := k_memT (i := 1156) rfl rfl
set_option maxRecDepth 100000 in
theorem k_cw136 : Cond.code ⟨"SleepWork", "restore", "(I)Z"⟩ prog_1_method_39_code 2 ((Option.some FieldType.boolean)) ∈ lw_gd := k_memT (i := 1160) rfl rfl
set_option maxRecDepth 100000 in
theorem k_cw137 : Cond.code ⟨"SleepWork", "count", "(I)I"⟩ prog_1_method_40_code 2 ((Option.some FieldType.int)) ∈ lw_gd := k_memT (i := 1164) rfl rfl
set_option maxRecDepth 100000 in
theorem k_cw138 : Cond.code ⟨"SleepWorkModel", "<init>", "()V"⟩ prog_14_method_2_code 1 ((Option.none : Option FieldType)) ∈ lw_gd := k_memT (i := 1170) rfl rfl
set_option maxRecDepth 100000 in
theorem k_cw139 : Cond.code ⟨"SleepWorkModel", "feed", "(IIIII)I"⟩ prog_14_method_3_code 6 ((Option.some FieldType.int)) ∈ lw_gd := k_memT (i := 1432) rfl rfl
set_option maxRecDepth 100000 in
theorem k_cw140 : Cond.code ⟨"SleepWorkModel", "put", "(I)V"⟩ prog_14_method_4_code 3 ((Option.none : Option FieldType)) ∈ lw_gd := k_memT (i := 1436) rfl rfl
set_option maxRecDepth 100000 in
theorem k_cw141 : Cond.code ⟨"SleepWorkModel", "back", "(I)I"⟩ prog_14_method_5_code 2 ((Option.some FieldType.int)) ∈ lw_gd := k_memT (i := 1440) rfl rfl
set_option maxRecDepth 100000 in
theorem k_cw142 : Cond.code ⟨"SleepWorkModel", "byteAt", "(I)I"⟩ prog_14_method_6_code 2 ((Option.some FieldType.int)) ∈ lw_gd := k_memT (i := 1452) rfl rfl
set_option maxRecDepth 100000 in
theorem k_cw143 : Cond.code ⟨"SleepWorkModel", "isDigit", "(I)Z"⟩ prog_14_method_7_code 1 ((Option.some FieldType.boolean)) ∈ lw_gd := k_memT (i := 1462) rfl rfl
set_option maxRecDepth 100000 in
theorem k_cw144 : Cond.code ⟨"SleepWorkModel", "isLetter", "(I)Z"⟩ prog_14_method_8_code 1 ((Option.some FieldType.boolean)) ∈ lw_gd := k_memT (i := 1459) rfl rfl
set_option maxRecDepth 100000 in
theorem k_cw145 : Cond.code ⟨"SleepWorkModel", "appends", "(JI)J"⟩ prog_14_method_9_code 3 ((Option.some FieldType.long)) ∈ lw_gd := k_memT (i := 1177) rfl rfl
set_option maxRecDepth 100000 in
theorem k_cw146 : Cond.code ⟨"SleepWorkModel", "word", "(IIIIIII)J"⟩ prog_14_method_10_code 7 ((Option.some FieldType.long)) ∈ lw_gd := k_memT (i := 1174) rfl rfl
set_option maxRecDepth 100000 in
theorem k_cw147 : Cond.code ⟨"SleepWorkModel", "token", "(IIIJ)V"⟩ prog_14_method_11_code 6 ((Option.none : Option FieldType)) ∈ lw_gd := k_memT (i := 1456) rfl rfl
set_option maxRecDepth 100000 in
theorem k_cw148 : Cond.code ⟨"SleepWorkModel", "cut", "()V"⟩ prog_14_method_12_code 8 ((Option.none : Option FieldType)) ∈ lw_gd := k_memT (i := 1448) rfl rfl
set_option maxRecDepth 100000 in
theorem k_cw149 : Cond.code ⟨"SleepWorkModel", "sign", "(III)I"⟩ prog_14_method_13_code 5 ((Option.some FieldType.int)) ∈ lw_gd := k_memT (i := 1466) rfl rfl
set_option maxRecDepth 100000 in
theorem k_cw150 : Cond.code ⟨"SleepWorkModel", "is", "(I)Z"⟩ prog_14_method_14_code 2 ((Option.some FieldType.boolean)) ∈ lw_gd := k_memT (i := 1470) rfl rfl
set_option maxRecDepth 100000 in
theorem k_cw151 : Cond.code ⟨"SleepWorkModel", "fail", "(I)V"⟩ prog_14_method_15_code 2 ((Option.none : Option FieldType)) ∈ lw_gd := k_memT (i := 1482) rfl rfl
set_option maxRecDepth 100000 in
theorem k_cw152 : Cond.code ⟨"SleepWorkModel", "wrong", "(II)V"⟩ prog_14_method_16_code 4 ((Option.none : Option FieldType)) ∈ lw_gd := k_memT (i := 1502) rfl rfl
set_option maxRecDepth 100000 in
theorem k_cw153 : Cond.code ⟨"SleepWorkModel", "goesOn", "()V"⟩ prog_14_method_17_code 1 ((Option.none : Option FieldType)) ∈ lw_gd := k_memT (i := 1486) rfl rfl
set_option maxRecDepth 100000 in
theorem k_cw154 : Cond.code ⟨"SleepWorkModel", "must", "(I)V"⟩ prog_14_method_18_code 2 ((Option.none : Option FieldType)) ∈ lw_gd := k_memT (i := 1498) rfl rfl
set_option maxRecDepth 100000 in
theorem k_cw155 : Cond.code ⟨"SleepWorkModel", "read", "()I"⟩ prog_14_method_19_code 2 ((Option.some FieldType.int)) ∈ lw_gd := k_memT (i := 1444) rfl rfl
set_option maxRecDepth 100000 in
theorem k_cw156 : Cond.code ⟨"SleepWorkModel", "place", "()I"⟩ prog_14_method_20_code 1 ((Option.some FieldType.int)) ∈ lw_gd := k_memT (i := 1578) rfl rfl
set_option maxRecDepth 100000 in
theorem k_cw157 : Cond.code ⟨"SleepWorkModel", "failAt", "(II)V"⟩ prog_14_method_21_code 3 ((Option.none : Option FieldType)) ∈ lw_gd := k_memT (i := 1534) rfl rfl
set_option maxRecDepth 100000 in
theorem k_cw158 : Cond.code ⟨"SleepWorkModel", "roomFor", "(II)V"⟩ prog_14_method_22_code 3 ((Option.none : Option FieldType)) ∈ lw_gd := k_memT (i := 1478) rfl rfl
set_option maxRecDepth 100000 in
theorem k_cw159 : Cond.code ⟨"SleepWorkModel", "tell", "()V"⟩ prog_14_method_23_code 1 ((Option.none : Option FieldType)) ∈ lw_gd := k_memT (i := 1474) rfl rfl
set_option maxRecDepth 100000 in
theorem k_cw160 : Cond.code ⟨"SleepWorkModel", "named", "()I"⟩ prog_14_method_24_code 3 ((Option.some FieldType.int)) ∈ lw_gd := k_memT (i := 1494) rfl rfl
set_option maxRecDepth 100000 in
theorem k_cw161 : Cond.code ⟨"SleepWorkModel", "notes", "(III)V"⟩ prog_14_method_25_code 4 ((Option.none : Option FieldType)) ∈ lw_gd := k_memT (i := 1506) rfl rfl
set_option maxRecDepth 100000 in
theorem k_cw162 : Cond.code ⟨"SleepWorkModel", "known", "(I)I"⟩ prog_14_method_26_code 4 ((Option.some FieldType.int)) ∈ lw_gd := k_memT (i := 1514) rfl rfl
set_option maxRecDepth 100000 in
theorem k_cw163 : Cond.code ⟨"SleepWorkModel", "bounded", "(II)I"⟩ prog_14_method_27_code 4 ((Option.some FieldType.int)) ∈ lw_gd := k_memT (i := 1518) rfl rfl
set_option maxRecDepth 100000 in
theorem k_cw164 : Cond.code ⟨"SleepWorkModel", "tellRoom", "()V"⟩ prog_14_method_28_code 2 ((Option.none : Option FieldType)) ∈ lw_gd := k_memT (i := 1490) rfl rfl
set_option maxRecDepth 100000 in
theorem k_cw165 : Cond.code ⟨"SleepWorkModel", "tellDoor", "()V"⟩ prog_14_method_29_code 3 ((Option.none : Option FieldType)) ∈ lw_gd := k_memT (i := 1510) rfl rfl
set_option maxRecDepth 100000 in
theorem k_cw166 : Cond.code ⟨"SleepWorkModel", "tellTool", "()V"⟩ prog_14_method_30_code 2 ((Option.none : Option FieldType)) ∈ lw_gd := k_memT (i := 1522) rfl rfl
set_option maxRecDepth 100000 in
theorem k_cw167 : Cond.code ⟨"SleepWorkModel", "tellTask", "()V"⟩ prog_14_method_31_code 3 ((Option.none : Option FieldType)) ∈ lw_gd := k_memT (i := 1526) rfl rfl
set_option maxRecDepth 100000 in
theorem k_cw168 : Cond.code ⟨"SleepWorkModel", "tellStep", "(I)V"⟩ prog_14_method_32_code 11 ((Option.none : Option FieldType)) ∈ lw_gd := k_memT (i := 1530) rfl rfl
set_option maxRecDepth 100000 in
theorem k_cw169 : Cond.code ⟨"SleepWorkModel", "tellMan", "()V"⟩ prog_14_method_33_code 4 ((Option.none : Option FieldType)) ∈ lw_gd := k_memT (i := 1538) rfl rfl
set_option maxRecDepth 100000 in
theorem k_cw170 : Cond.code ⟨"SleepWorkModel", "tellLaw", "()V"⟩ prog_14_method_34_code 4 ((Option.none : Option FieldType)) ∈ lw_gd := k_memT (i := 1542) rfl rfl
set_option maxRecDepth 100000 in
theorem k_cw171 : Cond.code ⟨"SleepWorkModel", "term", "()V"⟩ prog_14_method_35_code 1 ((Option.none : Option FieldType)) ∈ lw_gd := k_memT (i := 1562) rfl rfl
set_option maxRecDepth 100000 in
theorem k_cw172 : Cond.code ⟨"SleepWorkModel", "emit", "(II)V"⟩ prog_14_method_36_code 3 ((Option.none : Option FieldType)) ∈ lw_gd := k_memT (i := 1554) rfl rfl
set_option maxRecDepth 100000 in
theorem k_cw173 : Cond.code ⟨"SleepWorkModel", "comesOut", "(Z)V"⟩ prog_14_method_37_code 3 ((Option.none : Option FieldType)) ∈ lw_gd := k_memT (i := 1558) rfl rfl
set_option maxRecDepth 100000 in
theorem k_cw174 : Cond.code ⟨"SleepWorkModel", "expression", "()V"⟩ prog_14_method_38_code 3 ((Option.none : Option FieldType)) ∈ lw_gd := k_memT (i := 1546) rfl rfl
set_option maxRecDepth 100000 in
theorem k_cw175 : Cond.code ⟨"SleepWorkModel", "unit", "()V"⟩ prog_14_method_39_code 1 ((Option.none : Option FieldType)) ∈ lw_gd := k_memT (i := 1550) rfl rfl
set_option maxRecDepth 100000 in
theorem k_cw176 : Cond.code ⟨"SleepWorkModel", "termOf", "(II)I"⟩ prog_14_method_40_code 8 ((Option.some FieldType.int)) ∈ lw_gd := k_memT (i := 1717) rfl rfl
set_option maxRecDepth 100000 in
theorem k_cw177 : Cond.code ⟨"SleepWorkModel", "in", "(III)Z"⟩ prog_14_method_41_code 3 ((Option.some FieldType.boolean)) ∈ lw_gd := k_memT (i := 1589) rfl rfl
set_option maxRecDepth 100000 in
theorem k_cw178 : Cond.code ⟨"SleepWorkModel", "tasksNow", "()I"⟩ prog_14_method_42_code 1 ((Option.some FieldType.int)) ∈ lw_gd := k_memT (i := 1570) rfl rfl
set_option maxRecDepth 100000 in
theorem k_cw179 : Cond.code ⟨"SleepWorkModel", "menNow", "()I"⟩ prog_14_method_43_code 1 ((Option.some FieldType.int)) ∈ lw_gd := k_memT (i := 1574) rfl rfl
set_option maxRecDepth 100000 in
theorem k_cw180 : Cond.code ⟨"SleepWorkModel", "stepsOf", "(I)I"⟩ prog_14_method_44_code 2 ((Option.some FieldType.int)) ∈ lw_gd := k_memT (i := 1597) rfl rfl
set_option maxRecDepth 100000 in
theorem k_cw181 : Cond.code ⟨"SleepWorkModel", "stepAt", "(II)I"⟩ prog_14_method_45_code 3 ((Option.some FieldType.int)) ∈ lw_gd := k_memT (i := 1605) rfl rfl
set_option maxRecDepth 100000 in
theorem k_cw182 : Cond.code ⟨"SleepWorkModel", "isTask", "(I)Z"⟩ prog_14_method_46_code 2 ((Option.some FieldType.boolean)) ∈ lw_gd := k_memT (i := 1586) rfl rfl
set_option maxRecDepth 100000 in
theorem k_cw183 : Cond.code ⟨"SleepWorkModel", "isStep", "(II)Z"⟩ prog_14_method_47_code 3 ((Option.some FieldType.boolean)) ∈ lw_gd := k_memT (i := 1617) rfl rfl
set_option maxRecDepth 100000 in
theorem k_cw184 : Cond.code ⟨"SleepWorkModel", "isMan", "(I)Z"⟩ prog_14_method_48_code 2 ((Option.some FieldType.boolean)) ∈ lw_gd := k_memT (i := 1628) rfl rfl
set_option maxRecDepth 100000 in
theorem k_cw185 : Cond.code ⟨"SleepWorkModel", "isRoom", "(I)Z"⟩ prog_14_method_49_code 2 ((Option.some FieldType.boolean)) ∈ lw_gd := k_memT (i := 1644) rfl rfl
set_option maxRecDepth 100000 in
theorem k_cw186 : Cond.code ⟨"SleepWorkModel", "isTool", "(I)Z"⟩ prog_14_method_50_code 2 ((Option.some FieldType.boolean)) ∈ lw_gd := k_memT (i := 1636) rfl rfl
set_option maxRecDepth 100000 in
theorem k_cw187 : Cond.code ⟨"SleepWorkModel", "begins", "()V"⟩ prog_14_method_51_code 2 ((Option.none : Option FieldType)) ∈ lw_gd := k_memT (i := 1566) rfl rfl
set_option maxRecDepth 100000 in
theorem k_cw188 : Cond.code ⟨"SleepWorkModel", "takes", "()V"⟩ prog_14_method_52_code 2 ((Option.none : Option FieldType)) ∈ lw_gd := k_memT (i := 1593) rfl rfl
set_option maxRecDepth 100000 in
theorem k_cw189 : Cond.code ⟨"SleepWorkModel", "isEnded", "(I)Z"⟩ prog_14_method_53_code 3 ((Option.some FieldType.boolean)) ∈ lw_gd := k_memT (i := 1609) rfl rfl
set_option maxRecDepth 100000 in
theorem k_cw190 : Cond.code ⟨"SleepWorkModel", "worthOf", "(I)I"⟩ prog_14_method_54_code 7 ((Option.some FieldType.int)) ∈ lw_gd := k_memT (i := 1601) rfl rfl
set_option maxRecDepth 100000 in
theorem k_cw191 : Cond.code ⟨"SleepWorkModel", "worthNow", "()I"⟩ prog_14_method_55_code 3 ((Option.some FieldType.int)) ∈ lw_gd := k_memT (i := 1689) rfl rfl
set_option maxRecDepth 100000 in
theorem k_cw192 : Cond.code ⟨"SleepWorkModel", "fillsWays", "()V"⟩ prog_14_method_56_code 5 ((Option.none : Option FieldType)) ∈ lw_gd := k_memT (i := 1648) rfl rfl
set_option maxRecDepth 100000 in
theorem k_cw193 : Cond.code ⟨"SleepWorkModel", "getsUp", "(I)V"⟩ prog_14_method_57_code 4 ((Option.none : Option FieldType)) ∈ lw_gd := k_memT (i := 1697) rfl rfl
set_option maxRecDepth 100000 in
theorem k_cw194 : Cond.code ⟨"SleepWorkModel", "tells", "(II)I"⟩ prog_14_method_58_code 9 ((Option.some FieldType.int)) ∈ lw_gd := k_memT (i := 1713) rfl rfl
set_option maxRecDepth 100000 in
theorem k_cw195 : Cond.code ⟨"SleepWorkModel", "does", "(II)V"⟩ prog_14_method_59_code 4 ((Option.none : Option FieldType)) ∈ lw_gd := k_memT (i := 1665) rfl rfl
set_option maxRecDepth 100000 in
theorem k_cw196 : Cond.code ⟨"SleepWorkModel", "isOver", "(I)V"⟩ prog_14_method_60_code 2 ((Option.none : Option FieldType)) ∈ lw_gd := k_memT (i := 1701) rfl rfl
set_option maxRecDepth 100000 in
theorem k_cw197 : Cond.code ⟨"SleepWorkModel", "lies", "(II)V"⟩ prog_14_method_61_code 3 ((Option.none : Option FieldType)) ∈ lw_gd := k_memT (i := 1709) rfl rfl
set_option maxRecDepth 100000 in
theorem k_cw198 : Cond.code ⟨"SleepWorkModel", "isInUse", "(II)Z"⟩ prog_14_method_62_code 4 ((Option.some FieldType.boolean)) ∈ lw_gd := k_memT (i := 1721) rfl rfl
set_option maxRecDepth 100000 in
theorem k_cw199 : Cond.code ⟨"SleepWorkModel", "begins1", "(II)V"⟩ prog_14_method_63_code 7 ((Option.none : Option FieldType)) ∈ lw_gd := k_memT (i := 1705) rfl rfl
set_option maxRecDepth 100000 in
theorem k_cw200 : Cond.code ⟨"SleepWorkModel", "goesTill", "(I)V"⟩ prog_14_method_64_code 4 ((Option.none : Option FieldType)) ∈ lw_gd := k_memT (i := 1693) rfl rfl
set_option maxRecDepth 100000 in
theorem k_cw201 : Cond.code ⟨"SleepWorkModel", "wholeNight", "()I"⟩ prog_14_method_65_code 3 ((Option.some FieldType.int)) ∈ lw_gd := k_memT (i := 1685) rfl rfl
set_option maxRecDepth 100000 in
theorem k_cw202 : Cond.code ⟨"SleepWorkModel", "task", "(II)I"⟩ prog_14_method_66_code 3 ((Option.some FieldType.int)) ∈ lw_gd := k_memT (i := 1582) rfl rfl
set_option maxRecDepth 100000 in
theorem k_cw203 : Cond.code ⟨"SleepWorkModel", "orNone", "(I)I"⟩ prog_14_method_67_code 1 ((Option.some FieldType.int)) ∈ lw_gd := k_memT (i := 1620) rfl rfl
set_option maxRecDepth 100000 in
theorem k_cw204 : Cond.code ⟨"SleepWorkModel", "step", "(III)I"⟩ prog_14_method_68_code 5 ((Option.some FieldType.int)) ∈ lw_gd := k_memT (i := 1613) rfl rfl
set_option maxRecDepth 100000 in
theorem k_cw205 : Cond.code ⟨"SleepWorkModel", "man", "(II)I"⟩ prog_14_method_69_code 3 ((Option.some FieldType.int)) ∈ lw_gd := k_memT (i := 1624) rfl rfl
set_option maxRecDepth 100000 in
theorem k_cw206 : Cond.code ⟨"SleepWorkModel", "tool", "(I)I"⟩ prog_14_method_70_code 2 ((Option.some FieldType.int)) ∈ lw_gd := k_memT (i := 1632) rfl rfl
set_option maxRecDepth 100000 in
theorem k_cw207 : Cond.code ⟨"SleepWorkModel", "way", "(II)I"⟩ prog_14_method_71_code 3 ((Option.some FieldType.int)) ∈ lw_gd := k_memT (i := 1640) rfl rfl
set_option maxRecDepth 100000 in
theorem k_cw208 : Cond.code ⟨"SleepWorkModel", "isLeft", "(II)Z"⟩ prog_14_method_72_code 3 ((Option.some FieldType.boolean)) ∈ lw_gd := k_memT (i := 1657) rfl rfl
set_option maxRecDepth 100000 in
theorem k_cw209 : Cond.code ⟨"SleepWorkModel", "leave", "(III)Z"⟩ prog_14_method_73_code 4 ((Option.some FieldType.boolean)) ∈ lw_gd := k_memT (i := 1653) rfl rfl
set_option maxRecDepth 100000 in
theorem k_cw210 : Cond.code ⟨"SleepWorkModel", "work", "(II)Z"⟩ prog_14_method_74_code 4 ((Option.some FieldType.boolean)) ∈ lw_gd := k_memT (i := 1661) rfl rfl
set_option maxRecDepth 100000 in
theorem k_cw211 : Cond.code ⟨"SleepWorkModel", "lay", "(II)Z"⟩ prog_14_method_75_code 3 ((Option.some FieldType.boolean)) ∈ lw_gd := k_memT (i := 1669) rfl rfl
set_option maxRecDepth 100000 in
theorem k_cw212 : Cond.code ⟨"SleepWorkModel", "give", "(II)Z"⟩ prog_14_method_76_code 3 ((Option.some FieldType.boolean)) ∈ lw_gd := k_memT (i := 1673) rfl rfl
set_option maxRecDepth 100000 in
theorem k_cw213 : Cond.code ⟨"SleepWorkModel", "bar", "(IZ)Z"⟩ prog_14_method_77_code 3 ((Option.some FieldType.boolean)) ∈ lw_gd := k_memT (i := 1677) rfl rfl
set_option maxRecDepth 100000 in
theorem k_cw214 : Cond.code ⟨"SleepWorkModel", "night", "()I"⟩ prog_14_method_78_code 3 ((Option.some FieldType.int)) ∈ lw_gd := k_memT (i := 1681) rfl rfl
set_option maxRecDepth 100000 in
theorem k_cw215 : Cond.code ⟨"SleepWorkModel", "undo", "()Z"⟩ prog_14_method_79_code 2 ((Option.some FieldType.boolean)) ∈ lw_gd := k_memT (i := 1725) rfl rfl
set_option maxRecDepth 100000 in
theorem k_cw216 : Cond.code ⟨"SleepWorkModel", "gain", "()I"⟩ prog_14_method_80_code 1 ((Option.some FieldType.int)) ∈ lw_gd := k_memT (i := 1729) rfl rfl
set_option maxRecDepth 100000 in
theorem k_cw217 : Cond.code ⟨"SleepWorkModel", "leaves", "(II)Z"⟩ prog_14_method_81_code 5 ((Option.some FieldType.boolean)) ∈ lw_gd := k_memT (i := 1745) rfl rfl
set_option maxRecDepth 100000 in
theorem k_cw218 : Cond.code ⟨"SleepWorkModel", "options", "()I"⟩ prog_14_method_82_code 3 ((Option.some FieldType.int)) ∈ lw_gd := k_memT (i := 1749) rfl rfl
set_option maxRecDepth 100000 in
theorem k_cw219 : Cond.code ⟨"SleepWorkModel", "codeOf", "(II)I"⟩ prog_14_method_83_code 3 ((Option.some FieldType.int)) ∈ lw_gd := k_memT (i := 1753) rfl rfl
set_option maxRecDepth 100000 in
theorem k_cw220 : Cond.code ⟨"SleepWorkModel", "gainBy", "(II)I"⟩ prog_14_method_84_code 3 ((Option.some FieldType.int)) ∈ lw_gd := k_memT (i := 1741) rfl rfl
set_option maxRecDepth 100000 in
theorem k_cw221 : Cond.code ⟨"SleepWorkModel", "bestOption", "(I)I"⟩ prog_14_method_85_code 5 ((Option.some FieldType.int)) ∈ lw_gd := k_memT (i := 1737) rfl rfl
set_option maxRecDepth 100000 in
theorem k_cw222 : Cond.code ⟨"SleepWorkModel", "best", "(II)I"⟩ prog_14_method_86_code 4 ((Option.some FieldType.int)) ∈ lw_gd := k_memT (i := 1733) rfl rfl
set_option maxRecDepth 100000 in
theorem k_cw223 : Cond.code ⟨"SleepWorkModel", "bestOfTwo", "(III)I"⟩ prog_14_method_87_code 10 ((Option.some FieldType.int)) ∈ lw_gd := k_memT (i := 1757) rfl rfl
set_option maxRecDepth 100000 in
theorem k_cw224 : Cond.code ⟨"SleepWorkModel", "hire", "(I)I"⟩ prog_14_method_88_code 2 ((Option.some FieldType.int)) ∈ lw_gd := k_memT (i := 1761) rfl rfl
set_option maxRecDepth 100000 in
theorem k_cw225 : Cond.code ⟨"SleepWorkModel", "hide", "(II)I"⟩ prog_14_method_89_code 8 ((Option.some FieldType.int)) ∈ lw_gd := k_memT (i := 1766) rfl rfl
set_option maxRecDepth 100000 in
theorem k_cw226 : Cond.code ⟨"SleepWorkModel", "bits", "(I)I"⟩ prog_14_method_90_code 3 ((Option.some FieldType.int)) ∈ lw_gd := k_memT (i := 1773) rfl rfl
set_option maxRecDepth 100000 in
theorem k_cw227 : Cond.code ⟨"SleepWorkModel", "bars", "(I)I"⟩ prog_14_method_91_code 6 ((Option.some FieldType.int)) ∈ lw_gd := k_memT (i := 1770) rfl rfl
set_option maxRecDepth 100000 in
theorem k_cw228 : Cond.code ⟨"SleepWorkModel", "where", "(II)I"⟩ prog_14_method_92_code 5 ((Option.some FieldType.int)) ∈ lw_gd := k_memT (i := 1777) rfl rfl
set_option maxRecDepth 100000 in
theorem k_cw229 : Cond.code ⟨"SleepWorkModel", "strokes", "(II)I"⟩ prog_14_method_93_code 3 ((Option.some FieldType.int)) ∈ lw_gd := k_memT (i := 1781) rfl rfl
set_option maxRecDepth 100000 in
theorem k_cw230 : Cond.code ⟨"SleepWorkModel", "tell", "(III)I"⟩ prog_14_method_94_code 4 ((Option.some FieldType.int)) ∈ lw_gd := k_memT (i := 1785) rfl rfl
set_option maxRecDepth 100000 in
theorem k_cw231 : Cond.code ⟨"SleepWorkModel", "forget", "()I"⟩ prog_14_method_95_code 2 ((Option.some FieldType.int)) ∈ lw_gd := k_memT (i := 1789) rfl rfl
set_option maxRecDepth 100000 in
theorem k_cw232 : Cond.code ⟨"SleepWorkModel", "isSo", "(I)Z"⟩ prog_14_method_96_code 3 ((Option.some FieldType.boolean)) ∈ lw_gd := k_memT (i := 1797) rfl rfl
set_option maxRecDepth 100000 in
theorem k_cw233 : Cond.code ⟨"SleepWorkModel", "fits", "(III)I"⟩ prog_14_method_97_code 6 ((Option.some FieldType.int)) ∈ lw_gd := k_memT (i := 1793) rfl rfl
set_option maxRecDepth 100000 in
theorem k_cw234 : Cond.code ⟨"SleepWorkModel", "isSuspect", "(II)Z"⟩ prog_14_method_98_code 4 ((Option.some FieldType.boolean)) ∈ lw_gd := k_memT (i := 1805) rfl rfl
set_option maxRecDepth 100000 in
theorem k_cw235 : Cond.code ⟨"SleepWorkModel", "suspects", "(I)I"⟩ prog_14_method_99_code 4 ((Option.some FieldType.int)) ∈ lw_gd := k_memT (i := 1801) rfl rfl
set_option maxRecDepth 100000 in
theorem k_cw236 : Cond.code ⟨"SleepWorkModel", "pairs", "(III)I"⟩ prog_14_method_100_code 7 ((Option.some FieldType.int)) ∈ lw_gd := k_memT (i := 1809) rfl rfl
set_option maxRecDepth 100000 in
theorem k_cw237 : Cond.code ⟨"SleepWorkModel", "hold", "(I)Z"⟩ prog_14_method_101_code 3 ((Option.some FieldType.boolean)) ∈ lw_gd := k_memT (i := 1813) rfl rfl
set_option maxRecDepth 100000 in
theorem k_cw238 : Cond.code ⟨"SleepWorkModel", "restore", "(I)Z"⟩ prog_14_method_102_code 3 ((Option.some FieldType.boolean)) ∈ lw_gd := k_memT (i := 1817) rfl rfl
set_option maxRecDepth 100000 in
theorem k_cw239 : Cond.code ⟨"SleepWorkModel", "count", "(I)I"⟩ prog_14_method_103_code 2 ((Option.some FieldType.int)) ∈ lw_gd := k_memT (i := 1821) rfl rfl
set_option maxRecDepth 100000 in
theorem k_cw240 : Cond.code ⟨"java/lang/Character", "isValidCodePoint", "(I)Z"⟩ prog_15_method_11_code 2 ((Option.some FieldType.boolean)) ∈ lw_gd := k_memT (i := 690) rfl rfl
set_option maxRecDepth 100000 in
theorem k_cw241 : Cond.code ⟨"java/lang/Character", "highSurrogate", "(I)C"⟩ prog_15_method_28_code 1 ((Option.some FieldType.char)) ∈ lw_gd := k_memT (i := 693) rfl rfl
set_option maxRecDepth 100000 in
theorem k_cw242 : Cond.code ⟨"java/lang/Character", "lowSurrogate", "(I)C"⟩ prog_15_method_29_code 1 ((Option.some FieldType.char)) ∈ lw_gd := k_memT (i := 697) rfl rfl
set_option maxRecDepth 100000 in
theorem k_cw243 : Cond.code ⟨"java/lang/Integer", "bitCount", "(I)I"⟩ prog_16_method_49_code 1 ((Option.some FieldType.int)) ∈ lw_gd := k_memT (i := 1075) rfl rfl
set_option maxRecDepth 100000 in
theorem k_cw246 : Cond.code ⟨"java/lang/String", "length", "()I"⟩ prog_18_method_54_code 1 ((Option.some FieldType.int)) ∈ lw_gd := k_memT (i := 436) rfl rfl
set_option maxRecDepth 100000 in
theorem k_cw247 : Cond.code ⟨"java/lang/String", "charAt", "(I)C"⟩ prog_18_method_56_code 2 ((Option.some FieldType.char)) ∈ lw_gd := k_memT (i := 446) rfl rfl
set_option maxRecDepth 100000 in
theorem k_cw248 : Cond.code ⟨"java/lang/String", "indexOf", "(I)I"⟩ prog_18_method_79_code 2 ((Option.some FieldType.int)) ∈ lw_gd := k_memT (i := 643) rfl rfl
set_option maxRecDepth 100000 in
theorem k_cw249 : Cond.code ⟨"java/lang/String", "indexOf", "(II)I"⟩ prog_18_method_80_code 3 ((Option.some FieldType.int)) ∈ lw_gd := k_memT (i := 647) rfl rfl
set_option maxRecDepth 100000 in
theorem k_cw250 : Cond.code ⟨"java/lang/String", "coder", "()B"⟩ prog_18_method_152_code 1 ((Option.some FieldType.byte)) ∈ lw_gd := k_memT (i := 440) rfl rfl
set_option maxRecDepth 100000 in
theorem k_cw251 : Cond.code ⟨"java/lang/String", "isLatin1", "()Z"⟩ prog_18_method_154_code 1 ((Option.some FieldType.boolean)) ∈ lw_gd := k_memT (i := 450) rfl rfl
set_option maxRecDepth 100000 in
theorem k_cw252 : Cond.code ⟨"java/lang/String", "checkIndex", "(II)V"⟩ prog_18_method_155_code 2 ((Option.none : Option FieldType)) ∈ lw_gd := k_memT (i := 456) rfl rfl
set_option maxRecDepth 100000 in
theorem k_cw253 : Cond.code ⟨"java/lang/String", "checkBoundsBeginEnd", "(III)V"⟩ prog_18_method_158_code 3 ((Option.none : Option FieldType)) ∈ lw_gd := k_memT (i := 678) rfl rfl
set_option maxRecDepth 100000 in
theorem k_cw254 : Cond.code ⟨"java/lang/StringLatin1", "charAt", "([BI)C"⟩ prog_19_method_2_code 2 ((Option.some FieldType.char)) ∈ lw_gd := k_memT (i := 453) rfl rfl
set_option maxRecDepth 100000 in
theorem k_cw255 : Cond.code ⟨"java/lang/StringLatin1", "canEncode", "(I)Z"⟩ prog_19_method_4_code 1 ((Option.some FieldType.boolean)) ∈ lw_gd := k_memT (i := 654) rfl rfl
set_option maxRecDepth 100000 in
theorem k_cw256 : Cond.code ⟨"java/lang/StringLatin1", "indexOf", "([BIII)I"⟩ prog_19_method_22_code 4 ((Option.some FieldType.int)) ∈ lw_gd := k_memT (i := 651) rfl rfl
set_option maxRecDepth 100000 in
theorem k_cw257 : Cond.code ⟨"java/lang/StringLatin1", "indexOfChar", "([BIII)I"⟩ prog_19_method_23_code 6 ((Option.some FieldType.int)) ∈ lw_gd := k_memT (i := 663) rfl rfl
set_option maxRecDepth 100000 in
theorem k_cw258 : Cond.code ⟨"java/lang/StringUTF16", "getChar", "([BI)C"⟩ prog_20_method_5_code 2 ((Option.some FieldType.char)) ∈ lw_gd := k_memT (i := 474) rfl rfl
set_option maxRecDepth 100000 in
theorem k_cw259 : Cond.code ⟨"java/lang/StringUTF16", "length", "([B)I"⟩ prog_20_method_6_code 1 ((Option.some FieldType.int)) ∈ lw_gd := k_memT (i := 470) rfl rfl
set_option maxRecDepth 100000 in
theorem k_cw260 : Cond.code ⟨"java/lang/StringUTF16", "indexOf", "([BIII)I"⟩ prog_20_method_40_code 4 ((Option.some FieldType.int)) ∈ lw_gd := k_memT (i := 666) rfl rfl
set_option maxRecDepth 100000 in
theorem k_cw261 : Cond.code ⟨"java/lang/StringUTF16", "indexOfChar", "([BIII)I"⟩ prog_20_method_47_code 4 ((Option.some FieldType.int)) ∈ lw_gd := k_memT (i := 672) rfl rfl
set_option maxRecDepth 100000 in
theorem k_cw262 : Cond.code ⟨"java/lang/StringUTF16", "indexOfCharUnsafe", "([BIII)I"⟩ prog_20_method_48_code 5 ((Option.some FieldType.int)) ∈ lw_gd := k_memT (i := 684) rfl rfl
set_option maxRecDepth 100000 in
theorem k_cw263 : Cond.code ⟨"java/lang/StringUTF16", "indexOfSupplementary", "([BIII)I"⟩ prog_20_method_49_code 7 ((Option.some FieldType.int)) ∈ lw_gd := k_memT (i := 687) rfl rfl
set_option maxRecDepth 100000 in
theorem k_cw264 : Cond.code ⟨"java/lang/StringUTF16", "charAt", "([BI)C"⟩ prog_20_method_83_code 2 ((Option.some FieldType.char)) ∈ lw_gd := k_memT (i := 464) rfl rfl
set_option maxRecDepth 100000 in
theorem k_cw265 : Cond.code ⟨"java/lang/StringUTF16", "checkIndex", "(I[B)V"⟩ prog_20_method_91_code 2 ((Option.none : Option FieldType)) ∈ lw_gd := k_memT (i := 467) rfl rfl
set_option maxRecDepth 100000 in
theorem k_cw266 : Cond.code ⟨"java/lang/StringUTF16", "checkBoundsBeginEnd", "(II[B)V"⟩ prog_20_method_93_code 3 ((Option.none : Option FieldType)) ∈ lw_gd := k_memT (i := 675) rfl rfl
set_option maxRecDepth 100000 in
theorem k_cw267 : Cond.code ⟨"java/util/Arrays", "fill", "([JJ)V"⟩ prog_22_method_101_code 5 ((Option.none : Option FieldType)) ∈ lw_gd := k_memT (i := 1072) rfl rfl
set_option maxRecDepth 100000 in
theorem k_cw268 : Cond.code ⟨"java/util/Arrays", "fill", "([II)V"⟩ prog_22_method_103_code 4 ((Option.none : Option FieldType)) ∈ lw_gd := k_memT (i := 60) rfl rfl
set_option maxRecDepth 100000 in
theorem k_cw269 : Cond.code ⟨"jdk/internal/util/Preconditions", "checkIndex", "(IILjava/util/function/BiFunction;)I"⟩ prog_23_method_11_code 3 ((Option.some FieldType.int)) ∈ lw_gd := k_memT (i := 461) rfl rfl
set_option maxRecDepth 100000 in
theorem k_cw270 : Cond.code ⟨"jdk/internal/util/Preconditions", "checkFromToIndex", "(IIILjava/util/function/BiFunction;)I"⟩ prog_23_method_12_code 4 ((Option.some FieldType.int)) ∈ lw_gd := k_memT (i := 681) rfl rfl
