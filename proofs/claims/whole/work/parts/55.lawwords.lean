theorem wl_0 : Cond.methodLink RL 21 yX9_make ∈ TT := List.mem_filter.mpr ⟨List.mem_of_getElem? (i := 266) (by decide +kernel), by decide +kernel⟩
theorem wl_1 : Cond.instanceMethod yX9_make ∈ TT := List.mem_filter.mpr ⟨List.mem_of_getElem? (i := 267) (by decide +kernel), by decide +kernel⟩
theorem wl_2 : Cond.selects RX9 yX9_make yX9_make ∈ TT := List.mem_filter.mpr ⟨List.mem_of_getElem? (i := 268) (by decide +kernel), by decide +kernel⟩
theorem cl_L_21 : CVok RL 21 kX9_make := ⟨wl_0, wl_1, wl_2⟩
theorem wl_3 : Cond.methodLink RL 25 yX10_make ∈ TT := List.mem_filter.mpr ⟨List.mem_of_getElem? (i := 933) (by decide +kernel), by decide +kernel⟩
theorem wl_4 : Cond.instanceMethod yX10_make ∈ TT := List.mem_filter.mpr ⟨List.mem_of_getElem? (i := 934) (by decide +kernel), by decide +kernel⟩
theorem wl_5 : Cond.selects RX10 yX10_make yX10_make ∈ TT := List.mem_filter.mpr ⟨List.mem_of_getElem? (i := 935) (by decide +kernel), by decide +kernel⟩
theorem cl_L_25 : CVok RL 25 kX10_make := ⟨wl_3, wl_4, wl_5⟩
theorem wl_6 : Cond.methodLink RL 26 yX9_drop ∈ TT := List.mem_filter.mpr ⟨List.mem_of_getElem? (i := 311) (by decide +kernel), by decide +kernel⟩
theorem wl_7 : Cond.instanceMethod yX9_drop ∈ TT := List.mem_filter.mpr ⟨List.mem_of_getElem? (i := 312) (by decide +kernel), by decide +kernel⟩
theorem wl_8 : Cond.selects RX9 yX9_drop yX9_drop ∈ TT := List.mem_filter.mpr ⟨List.mem_of_getElem? (i := 313) (by decide +kernel), by decide +kernel⟩
theorem cl_L_26 : CVok RL 26 kX9_drop := ⟨wl_6, wl_7, wl_8⟩
theorem wl_9 : Cond.methodLink RL 30 yX10_drop ∈ TT := List.mem_filter.mpr ⟨List.mem_of_getElem? (i := 956) (by decide +kernel), by decide +kernel⟩
theorem wl_10 : Cond.instanceMethod yX10_drop ∈ TT := List.mem_filter.mpr ⟨List.mem_of_getElem? (i := 957) (by decide +kernel), by decide +kernel⟩
theorem wl_11 : Cond.selects RX10 yX10_drop yX10_drop ∈ TT := List.mem_filter.mpr ⟨List.mem_of_getElem? (i := 958) (by decide +kernel), by decide +kernel⟩
theorem cl_L_30 : CVok RL 30 kX10_drop := ⟨wl_9, wl_10, wl_11⟩
theorem wl_12 : Cond.methodLink RL 31 yX9_body ∈ TT := List.mem_filter.mpr ⟨List.mem_of_getElem? (i := 323) (by decide +kernel), by decide +kernel⟩
theorem wl_13 : Cond.instanceMethod yX9_body ∈ TT := List.mem_filter.mpr ⟨List.mem_of_getElem? (i := 324) (by decide +kernel), by decide +kernel⟩
theorem wl_14 : Cond.selects RX9 yX9_body yX9_body ∈ TT := List.mem_filter.mpr ⟨List.mem_of_getElem? (i := 325) (by decide +kernel), by decide +kernel⟩
theorem cl_L_31 : CVok RL 31 kX9_body := ⟨wl_12, wl_13, wl_14⟩
theorem wl_15 : Cond.methodLink RL 34 yX10_body ∈ TT := List.mem_filter.mpr ⟨List.mem_of_getElem? (i := 960) (by decide +kernel), by decide +kernel⟩
theorem wl_16 : Cond.instanceMethod yX10_body ∈ TT := List.mem_filter.mpr ⟨List.mem_of_getElem? (i := 961) (by decide +kernel), by decide +kernel⟩
theorem wl_17 : Cond.selects RX10 yX10_body yX10_body ∈ TT := List.mem_filter.mpr ⟨List.mem_of_getElem? (i := 962) (by decide +kernel), by decide +kernel⟩
theorem cl_L_34 : CVok RL 34 kX10_body := ⟨wl_15, wl_16, wl_17⟩
theorem wl_18 : Cond.methodLink RL 35 yX9_run ∈ TT := List.mem_filter.mpr ⟨List.mem_of_getElem? (i := 333) (by decide +kernel), by decide +kernel⟩
theorem wl_19 : Cond.instanceMethod yX9_run ∈ TT := List.mem_filter.mpr ⟨List.mem_of_getElem? (i := 334) (by decide +kernel), by decide +kernel⟩
theorem wl_20 : Cond.selects RX9 yX9_run yX9_run ∈ TT := List.mem_filter.mpr ⟨List.mem_of_getElem? (i := 335) (by decide +kernel), by decide +kernel⟩
theorem cl_L_35 : CVok RL 35 kX9_run := ⟨wl_18, wl_19, wl_20⟩
theorem wl_21 : Cond.methodLink RL 39 yX10_run ∈ TT := List.mem_filter.mpr ⟨List.mem_of_getElem? (i := 964) (by decide +kernel), by decide +kernel⟩
theorem wl_22 : Cond.instanceMethod yX10_run ∈ TT := List.mem_filter.mpr ⟨List.mem_of_getElem? (i := 965) (by decide +kernel), by decide +kernel⟩
theorem wl_23 : Cond.selects RX10 yX10_run yX10_run ∈ TT := List.mem_filter.mpr ⟨List.mem_of_getElem? (i := 966) (by decide +kernel), by decide +kernel⟩
theorem cl_L_39 : CVok RL 39 kX10_run := ⟨wl_21, wl_22, wl_23⟩
theorem wl_24 : Cond.methodLink RL 40 yX9_told ∈ TT := List.mem_filter.mpr ⟨List.mem_of_getElem? (i := 589) (by decide +kernel), by decide +kernel⟩
theorem wl_25 : Cond.instanceMethod yX9_told ∈ TT := List.mem_filter.mpr ⟨List.mem_of_getElem? (i := 590) (by decide +kernel), by decide +kernel⟩
theorem wl_26 : Cond.selects RX9 yX9_told yX9_told ∈ TT := List.mem_filter.mpr ⟨List.mem_of_getElem? (i := 591) (by decide +kernel), by decide +kernel⟩
theorem cl_L_40 : CVok RL 40 kX9_told := ⟨wl_24, wl_25, wl_26⟩
theorem wl_27 : Cond.methodLink RL 44 yX10_told ∈ TT := List.mem_filter.mpr ⟨List.mem_of_getElem? (i := 1060) (by decide +kernel), by decide +kernel⟩
theorem wl_28 : Cond.instanceMethod yX10_told ∈ TT := List.mem_filter.mpr ⟨List.mem_of_getElem? (i := 1061) (by decide +kernel), by decide +kernel⟩
theorem wl_29 : Cond.selects RX10 yX10_told yX10_told ∈ TT := List.mem_filter.mpr ⟨List.mem_of_getElem? (i := 1062) (by decide +kernel), by decide +kernel⟩
theorem cl_L_44 : CVok RL 44 kX10_told := ⟨wl_27, wl_28, wl_29⟩
theorem wl_30 : Cond.methodLink RL 45 yX9_marks ∈ TT := List.mem_filter.mpr ⟨List.mem_of_getElem? (i := 613) (by decide +kernel), by decide +kernel⟩
theorem wl_31 : Cond.instanceMethod yX9_marks ∈ TT := List.mem_filter.mpr ⟨List.mem_of_getElem? (i := 614) (by decide +kernel), by decide +kernel⟩
theorem wl_32 : Cond.selects RX9 yX9_marks yX9_marks ∈ TT := List.mem_filter.mpr ⟨List.mem_of_getElem? (i := 615) (by decide +kernel), by decide +kernel⟩
theorem cl_L_45 : CVok RL 45 kX9_marks := ⟨wl_30, wl_31, wl_32⟩
theorem wl_33 : Cond.methodLink RL 48 yX10_marks ∈ TT := List.mem_filter.mpr ⟨List.mem_of_getElem? (i := 1064) (by decide +kernel), by decide +kernel⟩
theorem wl_34 : Cond.instanceMethod yX10_marks ∈ TT := List.mem_filter.mpr ⟨List.mem_of_getElem? (i := 1065) (by decide +kernel), by decide +kernel⟩
theorem wl_35 : Cond.selects RX10 yX10_marks yX10_marks ∈ TT := List.mem_filter.mpr ⟨List.mem_of_getElem? (i := 1066) (by decide +kernel), by decide +kernel⟩
theorem cl_L_48 : CVok RL 48 kX10_marks := ⟨wl_33, wl_34, wl_35⟩
theorem wl_36 : Cond.methodLink RL 49 yX9_began ∈ TT := List.mem_filter.mpr ⟨List.mem_of_getElem? (i := 621) (by decide +kernel), by decide +kernel⟩
theorem wl_37 : Cond.instanceMethod yX9_began ∈ TT := List.mem_filter.mpr ⟨List.mem_of_getElem? (i := 622) (by decide +kernel), by decide +kernel⟩
theorem wl_38 : Cond.selects RX9 yX9_began yX9_began ∈ TT := List.mem_filter.mpr ⟨List.mem_of_getElem? (i := 623) (by decide +kernel), by decide +kernel⟩
theorem cl_L_49 : CVok RL 49 kX9_began := ⟨wl_36, wl_37, wl_38⟩
theorem wl_39 : Cond.methodLink RL 52 yX10_began ∈ TT := List.mem_filter.mpr ⟨List.mem_of_getElem? (i := 1068) (by decide +kernel), by decide +kernel⟩
theorem wl_40 : Cond.instanceMethod yX10_began ∈ TT := List.mem_filter.mpr ⟨List.mem_of_getElem? (i := 1069) (by decide +kernel), by decide +kernel⟩
theorem wl_41 : Cond.selects RX10 yX10_began yX10_began ∈ TT := List.mem_filter.mpr ⟨List.mem_of_getElem? (i := 1070) (by decide +kernel), by decide +kernel⟩
theorem cl_L_52 : CVok RL 52 kX10_began := ⟨wl_39, wl_40, wl_41⟩
theorem wl_42 : Cond.methodLink RL 53 yX9_variable ∈ TT := List.mem_filter.mpr ⟨List.mem_of_getElem? (i := 629) (by decide +kernel), by decide +kernel⟩
theorem wl_43 : Cond.instanceMethod yX9_variable ∈ TT := List.mem_filter.mpr ⟨List.mem_of_getElem? (i := 630) (by decide +kernel), by decide +kernel⟩
theorem wl_44 : Cond.selects RX9 yX9_variable yX9_variable ∈ TT := List.mem_filter.mpr ⟨List.mem_of_getElem? (i := 631) (by decide +kernel), by decide +kernel⟩
theorem cl_L_53 : CVok RL 53 kX9_variable := ⟨wl_42, wl_43, wl_44⟩
theorem wl_45 : Cond.methodLink RL 56 yX10_variable ∈ TT := List.mem_filter.mpr ⟨List.mem_of_getElem? (i := 1072) (by decide +kernel), by decide +kernel⟩
theorem wl_46 : Cond.instanceMethod yX10_variable ∈ TT := List.mem_filter.mpr ⟨List.mem_of_getElem? (i := 1073) (by decide +kernel), by decide +kernel⟩
theorem wl_47 : Cond.selects RX10 yX10_variable yX10_variable ∈ TT := List.mem_filter.mpr ⟨List.mem_of_getElem? (i := 1074) (by decide +kernel), by decide +kernel⟩
theorem cl_L_56 : CVok RL 56 kX10_variable := ⟨wl_45, wl_46, wl_47⟩
theorem wl_48 : Cond.methodLink RL 57 yX9_size ∈ TT := List.mem_filter.mpr ⟨List.mem_of_getElem? (i := 634) (by decide +kernel), by decide +kernel⟩
theorem wl_49 : Cond.instanceMethod yX9_size ∈ TT := List.mem_filter.mpr ⟨List.mem_of_getElem? (i := 635) (by decide +kernel), by decide +kernel⟩
theorem wl_50 : Cond.selects RX9 yX9_size yX9_size ∈ TT := List.mem_filter.mpr ⟨List.mem_of_getElem? (i := 636) (by decide +kernel), by decide +kernel⟩
theorem cl_L_57 : CVok RL 57 kX9_size := ⟨wl_48, wl_49, wl_50⟩
theorem wl_51 : Cond.methodLink RL 60 yX10_size ∈ TT := List.mem_filter.mpr ⟨List.mem_of_getElem? (i := 1076) (by decide +kernel), by decide +kernel⟩
theorem wl_52 : Cond.instanceMethod yX10_size ∈ TT := List.mem_filter.mpr ⟨List.mem_of_getElem? (i := 1077) (by decide +kernel), by decide +kernel⟩
theorem wl_53 : Cond.selects RX10 yX10_size yX10_size ∈ TT := List.mem_filter.mpr ⟨List.mem_of_getElem? (i := 1078) (by decide +kernel), by decide +kernel⟩
theorem cl_L_60 : CVok RL 60 kX10_size := ⟨wl_51, wl_52, wl_53⟩
theorem wl_54 : Cond.methodLink RL 66 yX10_item ∈ TT := List.mem_filter.mpr ⟨List.mem_of_getElem? (i := 1080) (by decide +kernel), by decide +kernel⟩
theorem wl_55 : Cond.instanceMethod yX10_item ∈ TT := List.mem_filter.mpr ⟨List.mem_of_getElem? (i := 1081) (by decide +kernel), by decide +kernel⟩
theorem wl_56 : Cond.selects RX10 yX10_item yX10_item ∈ TT := List.mem_filter.mpr ⟨List.mem_of_getElem? (i := 1082) (by decide +kernel), by decide +kernel⟩
theorem cl_L_66 : CVok RL 66 kX10_item := ⟨wl_54, wl_55, wl_56⟩
theorem wl_57 : Cond.methodLink RL 67 yX10_thrown ∈ TT := List.mem_filter.mpr ⟨List.mem_of_getElem? (i := 799) (by decide +kernel), by decide +kernel⟩
theorem wl_58 : Cond.instanceMethod yX10_thrown ∈ TT := List.mem_filter.mpr ⟨List.mem_of_getElem? (i := 800) (by decide +kernel), by decide +kernel⟩
theorem wl_59 : Cond.selects RX10 yX10_thrown yX10_thrown ∈ TT := List.mem_filter.mpr ⟨List.mem_of_getElem? (i := 801) (by decide +kernel), by decide +kernel⟩
theorem cl_L_67 : CVok RL 67 kX10_thrown := ⟨wl_57, wl_58, wl_59⟩
theorem wl_60 : Cond.methodLink RL 70 yX9_same ∈ TT := List.mem_filter.mpr ⟨List.mem_of_getElem? (i := 639) (by decide +kernel), by decide +kernel⟩
theorem wl_61 : Cond.instanceMethod yX9_same ∈ TT := List.mem_filter.mpr ⟨List.mem_of_getElem? (i := 640) (by decide +kernel), by decide +kernel⟩
theorem wl_62 : Cond.selects RX9 yX9_same yX9_same ∈ TT := List.mem_filter.mpr ⟨List.mem_of_getElem? (i := 641) (by decide +kernel), by decide +kernel⟩
theorem cl_L_70 : CVok RL 70 kX9_same := ⟨wl_60, wl_61, wl_62⟩
theorem wl_63 : Cond.methodLink RL 73 yX10_same ∈ TT := List.mem_filter.mpr ⟨List.mem_of_getElem? (i := 1088) (by decide +kernel), by decide +kernel⟩
theorem wl_64 : Cond.instanceMethod yX10_same ∈ TT := List.mem_filter.mpr ⟨List.mem_of_getElem? (i := 1089) (by decide +kernel), by decide +kernel⟩
theorem wl_65 : Cond.selects RX10 yX10_same yX10_same ∈ TT := List.mem_filter.mpr ⟨List.mem_of_getElem? (i := 1090) (by decide +kernel), by decide +kernel⟩
theorem cl_L_73 : CVok RL 73 kX10_same := ⟨wl_63, wl_64, wl_65⟩
theorem wl_66 : Cond.methodLink RL 74 yX9_count ∈ TT := List.mem_filter.mpr ⟨List.mem_of_getElem? (i := 658) (by decide +kernel), by decide +kernel⟩
theorem wl_67 : Cond.instanceMethod yX9_count ∈ TT := List.mem_filter.mpr ⟨List.mem_of_getElem? (i := 659) (by decide +kernel), by decide +kernel⟩
theorem wl_68 : Cond.selects RX9 yX9_count yX9_count ∈ TT := List.mem_filter.mpr ⟨List.mem_of_getElem? (i := 660) (by decide +kernel), by decide +kernel⟩
theorem cl_L_74 : CVok RL 74 kX9_count := ⟨wl_66, wl_67, wl_68⟩
theorem wl_69 : Cond.methodLink RL 77 yX10_count ∈ TT := List.mem_filter.mpr ⟨List.mem_of_getElem? (i := 1094) (by decide +kernel), by decide +kernel⟩
theorem wl_70 : Cond.instanceMethod yX10_count ∈ TT := List.mem_filter.mpr ⟨List.mem_of_getElem? (i := 1095) (by decide +kernel), by decide +kernel⟩
theorem wl_71 : Cond.selects RX10 yX10_count yX10_count ∈ TT := List.mem_filter.mpr ⟨List.mem_of_getElem? (i := 1096) (by decide +kernel), by decide +kernel⟩
theorem cl_L_77 : CVok RL 77 kX10_count := ⟨wl_69, wl_70, wl_71⟩
theorem wl_72 : Cond.methodLink RL 61 yL_item ∈ TT := List.mem_filter.mpr ⟨List.mem_of_getElem? (i := 670) (by decide +kernel), by decide +kernel⟩
theorem wl_73 : Cond.static yL_item ∈ TT := List.mem_filter.mpr ⟨List.mem_of_getElem? (i := 671) (by decide +kernel), by decide +kernel⟩
theorem wl_74 : Cond.initialized RL ∈ TT := List.mem_filter.mpr ⟨List.mem_of_getElem? (i := 57) (by decide +kernel), by decide +kernel⟩
theorem wl_75 : Cond.codeWith yL_item cL_item 5 (some .int) hhL ∈ TT := List.mem_filter.mpr ⟨List.mem_of_getElem? (i := 672) (by decide +kernel), by decide +kernel⟩
theorem dL_law_0 : decode code 0 = .ok (.new 8, 3) := by decide +kernel
theorem dL_law_3 : decode code 3 = .ok (.dup, 1) := by decide +kernel
theorem dL_law_4 : decode code 4 = .ok (.invokespecial 17, 3) := by decide +kernel
theorem dL_law_7 : decode code 7 = .ok (.astore_n 1, 1) := by decide +kernel
theorem dL_law_8 : decode code 8 = .ok (.new 18, 3) := by decide +kernel
theorem dL_law_11 : decode code 11 = .ok (.dup, 1) := by decide +kernel
theorem dL_law_12 : decode code 12 = .ok (.invokespecial 20, 3) := by decide +kernel
theorem dL_law_15 : decode code 15 = .ok (.astore_n 2, 1) := by decide +kernel
theorem dL_law_16 : decode code 16 = .ok (.iconst 1, 1) := by decide +kernel
theorem dL_law_17 : decode code 17 = .ok (.newarray .long, 2) := by decide +kernel
theorem dL_law_19 : decode code 19 = .ok (.astore_n 3, 1) := by decide +kernel
theorem dL_law_20 : decode code 20 = .ok (.iconst 0, 1) := by decide +kernel
theorem dL_law_21 : decode code 21 = .ok (.istore 4, 2) := by decide +kernel
theorem dL_law_23 : decode code 23 = .ok (.iload 4, 2) := by decide +kernel
theorem dL_law_25 : decode code 25 = .ok (.aload_n 0, 1) := by decide +kernel
theorem dL_law_26 : decode code 26 = .ok (.arraylength, 1) := by decide +kernel
theorem dL_law_27 : decode code 27 = .ok (.iconst 5, 1) := by decide +kernel
theorem dL_law_28 : decode code 28 = .ok (.isub, 1) := by decide +kernel
theorem dL_law_29 : decode code 29 = .ok (.if_icmp .gt 516, 3) := by decide +kernel
theorem dL_law_32 : decode code 32 = .ok (.aload_n 0, 1) := by decide +kernel
theorem dL_law_33 : decode code 33 = .ok (.iload 4, 2) := by decide +kernel
theorem dL_law_35 : decode code 35 = .ok (.iaload, 1) := by decide +kernel
theorem dL_law_36 : decode code 36 = .ok (.bipush 15, 2) := by decide +kernel
theorem dL_law_38 : decode code 38 = .ok (.iand, 1) := by decide +kernel
theorem dL_law_39 : decode code 39 = .ok (.tableswitch 500 0 11 #[61, 122, 135, 172, 221, 246, 271, 296, 321, 346, 414, 475], 61) := by decide +kernel
theorem dL_law_100 : decode code 100 = .ok (.aload_n 1, 1) := by decide +kernel
theorem dL_law_101 : decode code 101 = .ok (.aload_n 0, 1) := by decide +kernel
theorem dL_law_102 : decode code 102 = .ok (.iload 4, 2) := by decide +kernel
theorem dL_law_104 : decode code 104 = .ok (.iconst 1, 1) := by decide +kernel
theorem dL_law_105 : decode code 105 = .ok (.iadd, 1) := by decide +kernel
theorem dL_law_106 : decode code 106 = .ok (.iaload, 1) := by decide +kernel
theorem dL_law_107 : decode code 107 = .ok (.aload_n 0, 1) := by decide +kernel
theorem dL_law_108 : decode code 108 = .ok (.iload 4, 2) := by decide +kernel
theorem dL_law_110 : decode code 110 = .ok (.iconst 2, 1) := by decide +kernel
theorem dL_law_111 : decode code 111 = .ok (.iadd, 1) := by decide +kernel
theorem dL_law_112 : decode code 112 = .ok (.iaload, 1) := by decide +kernel
theorem dL_law_113 : decode code 113 = .ok (.aload_n 0, 1) := by decide +kernel
theorem dL_law_114 : decode code 114 = .ok (.iload 4, 2) := by decide +kernel
theorem dL_law_116 : decode code 116 = .ok (.iconst 3, 1) := by decide +kernel
theorem dL_law_117 : decode code 117 = .ok (.iadd, 1) := by decide +kernel
theorem dL_law_118 : decode code 118 = .ok (.iaload, 1) := by decide +kernel
theorem dL_law_119 : decode code 119 = .ok (.aload_n 0, 1) := by decide +kernel
theorem dL_law_120 : decode code 120 = .ok (.iload 4, 2) := by decide +kernel
theorem dL_law_122 : decode code 122 = .ok (.iconst 4, 1) := by decide +kernel
theorem dL_law_123 : decode code 123 = .ok (.iadd, 1) := by decide +kernel
theorem dL_law_124 : decode code 124 = .ok (.iaload, 1) := by decide +kernel
theorem dL_law_125 : decode code 125 = .ok (.invokevirtual 21, 3) := by decide +kernel
theorem dL_law_128 : decode code 128 = .ok (.aload_n 2, 1) := by decide +kernel
theorem dL_law_129 : decode code 129 = .ok (.aload_n 0, 1) := by decide +kernel
theorem dL_law_130 : decode code 130 = .ok (.iload 4, 2) := by decide +kernel
theorem dL_law_132 : decode code 132 = .ok (.iconst 1, 1) := by decide +kernel
theorem dL_law_133 : decode code 133 = .ok (.iadd, 1) := by decide +kernel
theorem dL_law_134 : decode code 134 = .ok (.iaload, 1) := by decide +kernel
theorem dL_law_135 : decode code 135 = .ok (.aload_n 0, 1) := by decide +kernel
theorem dL_law_136 : decode code 136 = .ok (.iload 4, 2) := by decide +kernel
theorem dL_law_138 : decode code 138 = .ok (.iconst 2, 1) := by decide +kernel
theorem dL_law_139 : decode code 139 = .ok (.iadd, 1) := by decide +kernel
theorem dL_law_140 : decode code 140 = .ok (.iaload, 1) := by decide +kernel
theorem dL_law_141 : decode code 141 = .ok (.aload_n 0, 1) := by decide +kernel
theorem dL_law_142 : decode code 142 = .ok (.iload 4, 2) := by decide +kernel
theorem dL_law_144 : decode code 144 = .ok (.iconst 3, 1) := by decide +kernel
theorem dL_law_145 : decode code 145 = .ok (.iadd, 1) := by decide +kernel
theorem dL_law_146 : decode code 146 = .ok (.iaload, 1) := by decide +kernel
theorem dL_law_147 : decode code 147 = .ok (.aload_n 0, 1) := by decide +kernel
theorem dL_law_148 : decode code 148 = .ok (.iload 4, 2) := by decide +kernel
theorem dL_law_150 : decode code 150 = .ok (.iconst 4, 1) := by decide +kernel
theorem dL_law_151 : decode code 151 = .ok (.iadd, 1) := by decide +kernel
theorem dL_law_152 : decode code 152 = .ok (.iaload, 1) := by decide +kernel
theorem dL_law_153 : decode code 153 = .ok (.invokevirtual 25, 3) := by decide +kernel
theorem dL_law_156 : decode code 156 = .ok (.if_icmp .eq 383, 3) := by decide +kernel
theorem dL_law_159 : decode code 159 = .ok (.iconst 0, 1) := by decide +kernel
theorem dL_law_160 : decode code 160 = .ok (.ireturn, 1) := by decide +kernel
theorem dL_law_161 : decode code 161 = .ok (.aload_n 1, 1) := by decide +kernel
theorem dL_law_162 : decode code 162 = .ok (.invokevirtual 26, 3) := by decide +kernel
theorem dL_law_165 : decode code 165 = .ok (.aload_n 2, 1) := by decide +kernel
theorem dL_law_166 : decode code 166 = .ok (.invokevirtual 30, 3) := by decide +kernel
theorem dL_law_169 : decode code 169 = .ok (.if_icmp .eq 370, 3) := by decide +kernel
theorem dL_law_172 : decode code 172 = .ok (.iconst 0, 1) := by decide +kernel
theorem dL_law_173 : decode code 173 = .ok (.ireturn, 1) := by decide +kernel
theorem dL_law_174 : decode code 174 = .ok (.aload_n 1, 1) := by decide +kernel
theorem dL_law_175 : decode code 175 = .ok (.aload_n 0, 1) := by decide +kernel
theorem dL_law_176 : decode code 176 = .ok (.iload 4, 2) := by decide +kernel
theorem dL_law_178 : decode code 178 = .ok (.iconst 1, 1) := by decide +kernel
theorem dL_law_179 : decode code 179 = .ok (.iadd, 1) := by decide +kernel
theorem dL_law_180 : decode code 180 = .ok (.iaload, 1) := by decide +kernel
theorem dL_law_181 : decode code 181 = .ok (.aload_n 0, 1) := by decide +kernel
theorem dL_law_182 : decode code 182 = .ok (.iload 4, 2) := by decide +kernel
theorem dL_law_184 : decode code 184 = .ok (.iconst 2, 1) := by decide +kernel
theorem dL_law_185 : decode code 185 = .ok (.iadd, 1) := by decide +kernel
theorem dL_law_186 : decode code 186 = .ok (.iaload, 1) := by decide +kernel
theorem dL_law_187 : decode code 187 = .ok (.invokevirtual 31, 3) := by decide +kernel
theorem dL_law_190 : decode code 190 = .ok (.aload_n 2, 1) := by decide +kernel
theorem dL_law_191 : decode code 191 = .ok (.aload_n 0, 1) := by decide +kernel
theorem dL_law_192 : decode code 192 = .ok (.iload 4, 2) := by decide +kernel
theorem dL_law_194 : decode code 194 = .ok (.iconst 1, 1) := by decide +kernel
theorem dL_law_195 : decode code 195 = .ok (.iadd, 1) := by decide +kernel
theorem dL_law_196 : decode code 196 = .ok (.iaload, 1) := by decide +kernel
theorem dL_law_197 : decode code 197 = .ok (.aload_n 0, 1) := by decide +kernel
theorem dL_law_198 : decode code 198 = .ok (.iload 4, 2) := by decide +kernel
theorem dL_law_200 : decode code 200 = .ok (.iconst 2, 1) := by decide +kernel
theorem dL_law_201 : decode code 201 = .ok (.iadd, 1) := by decide +kernel
theorem dL_law_202 : decode code 202 = .ok (.iaload, 1) := by decide +kernel
theorem dL_law_203 : decode code 203 = .ok (.invokevirtual 34, 3) := by decide +kernel
theorem dL_law_206 : decode code 206 = .ok (.if_icmp .eq 333, 3) := by decide +kernel
theorem dL_law_209 : decode code 209 = .ok (.iconst 0, 1) := by decide +kernel
theorem dL_law_210 : decode code 210 = .ok (.ireturn, 1) := by decide +kernel
theorem dL_law_211 : decode code 211 = .ok (.aload_n 1, 1) := by decide +kernel
theorem dL_law_212 : decode code 212 = .ok (.aload_n 0, 1) := by decide +kernel
theorem dL_law_213 : decode code 213 = .ok (.iload 4, 2) := by decide +kernel
theorem dL_law_215 : decode code 215 = .ok (.iconst 1, 1) := by decide +kernel
theorem dL_law_216 : decode code 216 = .ok (.iadd, 1) := by decide +kernel
theorem dL_law_217 : decode code 217 = .ok (.iaload, 1) := by decide +kernel
theorem dL_law_218 : decode code 218 = .ok (.aload_n 0, 1) := by decide +kernel
theorem dL_law_219 : decode code 219 = .ok (.iload 4, 2) := by decide +kernel
theorem dL_law_221 : decode code 221 = .ok (.iconst 2, 1) := by decide +kernel
theorem dL_law_222 : decode code 222 = .ok (.iadd, 1) := by decide +kernel
theorem dL_law_223 : decode code 223 = .ok (.iaload, 1) := by decide +kernel
theorem dL_law_224 : decode code 224 = .ok (.aload_n 0, 1) := by decide +kernel
theorem dL_law_225 : decode code 225 = .ok (.iload 4, 2) := by decide +kernel
theorem dL_law_227 : decode code 227 = .ok (.iconst 3, 1) := by decide +kernel
theorem dL_law_228 : decode code 228 = .ok (.iadd, 1) := by decide +kernel
theorem dL_law_229 : decode code 229 = .ok (.iaload, 1) := by decide +kernel
theorem dL_law_230 : decode code 230 = .ok (.invokevirtual 35, 3) := by decide +kernel
theorem dL_law_233 : decode code 233 = .ok (.aload_n 2, 1) := by decide +kernel
theorem dL_law_234 : decode code 234 = .ok (.aload_n 0, 1) := by decide +kernel
theorem dL_law_235 : decode code 235 = .ok (.iload 4, 2) := by decide +kernel
theorem dL_law_237 : decode code 237 = .ok (.iconst 1, 1) := by decide +kernel
theorem dL_law_238 : decode code 238 = .ok (.iadd, 1) := by decide +kernel
theorem dL_law_239 : decode code 239 = .ok (.iaload, 1) := by decide +kernel
theorem dL_law_240 : decode code 240 = .ok (.aload_n 0, 1) := by decide +kernel
theorem dL_law_241 : decode code 241 = .ok (.iload 4, 2) := by decide +kernel
theorem dL_law_243 : decode code 243 = .ok (.iconst 2, 1) := by decide +kernel
theorem dL_law_244 : decode code 244 = .ok (.iadd, 1) := by decide +kernel
theorem dL_law_245 : decode code 245 = .ok (.iaload, 1) := by decide +kernel
theorem dL_law_246 : decode code 246 = .ok (.aload_n 0, 1) := by decide +kernel
theorem dL_law_247 : decode code 247 = .ok (.iload 4, 2) := by decide +kernel
theorem dL_law_249 : decode code 249 = .ok (.iconst 3, 1) := by decide +kernel
theorem dL_law_250 : decode code 250 = .ok (.iadd, 1) := by decide +kernel
theorem dL_law_251 : decode code 251 = .ok (.iaload, 1) := by decide +kernel
theorem dL_law_252 : decode code 252 = .ok (.invokevirtual 39, 3) := by decide +kernel
theorem dL_law_255 : decode code 255 = .ok (.if_icmp .eq 284, 3) := by decide +kernel
theorem dL_law_258 : decode code 258 = .ok (.iconst 0, 1) := by decide +kernel
theorem dL_law_259 : decode code 259 = .ok (.ireturn, 1) := by decide +kernel
theorem dL_law_260 : decode code 260 = .ok (.aload_n 1, 1) := by decide +kernel
theorem dL_law_261 : decode code 261 = .ok (.aload_n 0, 1) := by decide +kernel
theorem dL_law_262 : decode code 262 = .ok (.iload 4, 2) := by decide +kernel
theorem dL_law_264 : decode code 264 = .ok (.iconst 1, 1) := by decide +kernel
theorem dL_law_265 : decode code 265 = .ok (.iadd, 1) := by decide +kernel
theorem dL_law_266 : decode code 266 = .ok (.iaload, 1) := by decide +kernel
theorem dL_law_267 : decode code 267 = .ok (.invokevirtual 40, 3) := by decide +kernel
theorem dL_law_270 : decode code 270 = .ok (.aload_n 2, 1) := by decide +kernel
theorem dL_law_271 : decode code 271 = .ok (.aload_n 0, 1) := by decide +kernel
theorem dL_law_272 : decode code 272 = .ok (.iload 4, 2) := by decide +kernel
theorem dL_law_274 : decode code 274 = .ok (.iconst 1, 1) := by decide +kernel
theorem dL_law_275 : decode code 275 = .ok (.iadd, 1) := by decide +kernel
theorem dL_law_276 : decode code 276 = .ok (.iaload, 1) := by decide +kernel
theorem dL_law_277 : decode code 277 = .ok (.invokevirtual 44, 3) := by decide +kernel
theorem dL_law_280 : decode code 280 = .ok (.if_icmp .eq 259, 3) := by decide +kernel
theorem dL_law_283 : decode code 283 = .ok (.iconst 0, 1) := by decide +kernel
theorem dL_law_284 : decode code 284 = .ok (.ireturn, 1) := by decide +kernel
theorem dL_law_285 : decode code 285 = .ok (.aload_n 1, 1) := by decide +kernel
theorem dL_law_286 : decode code 286 = .ok (.aload_n 0, 1) := by decide +kernel
theorem dL_law_287 : decode code 287 = .ok (.iload 4, 2) := by decide +kernel
theorem dL_law_289 : decode code 289 = .ok (.iconst 1, 1) := by decide +kernel
theorem dL_law_290 : decode code 290 = .ok (.iadd, 1) := by decide +kernel
theorem dL_law_291 : decode code 291 = .ok (.iaload, 1) := by decide +kernel
theorem dL_law_292 : decode code 292 = .ok (.invokevirtual 45, 3) := by decide +kernel
theorem dL_law_295 : decode code 295 = .ok (.aload_n 2, 1) := by decide +kernel
theorem dL_law_296 : decode code 296 = .ok (.aload_n 0, 1) := by decide +kernel
theorem dL_law_297 : decode code 297 = .ok (.iload 4, 2) := by decide +kernel
theorem dL_law_299 : decode code 299 = .ok (.iconst 1, 1) := by decide +kernel
theorem dL_law_300 : decode code 300 = .ok (.iadd, 1) := by decide +kernel
theorem dL_law_301 : decode code 301 = .ok (.iaload, 1) := by decide +kernel
theorem dL_law_302 : decode code 302 = .ok (.invokevirtual 48, 3) := by decide +kernel
theorem dL_law_305 : decode code 305 = .ok (.if_icmp .eq 234, 3) := by decide +kernel
theorem dL_law_308 : decode code 308 = .ok (.iconst 0, 1) := by decide +kernel
theorem dL_law_309 : decode code 309 = .ok (.ireturn, 1) := by decide +kernel
theorem dL_law_310 : decode code 310 = .ok (.aload_n 1, 1) := by decide +kernel
theorem dL_law_311 : decode code 311 = .ok (.aload_n 0, 1) := by decide +kernel
theorem dL_law_312 : decode code 312 = .ok (.iload 4, 2) := by decide +kernel
theorem dL_law_314 : decode code 314 = .ok (.iconst 1, 1) := by decide +kernel
theorem dL_law_315 : decode code 315 = .ok (.iadd, 1) := by decide +kernel
theorem dL_law_316 : decode code 316 = .ok (.iaload, 1) := by decide +kernel
theorem dL_law_317 : decode code 317 = .ok (.invokevirtual 49, 3) := by decide +kernel
theorem dL_law_320 : decode code 320 = .ok (.aload_n 2, 1) := by decide +kernel
theorem dL_law_321 : decode code 321 = .ok (.aload_n 0, 1) := by decide +kernel
theorem dL_law_322 : decode code 322 = .ok (.iload 4, 2) := by decide +kernel
theorem dL_law_324 : decode code 324 = .ok (.iconst 1, 1) := by decide +kernel
theorem dL_law_325 : decode code 325 = .ok (.iadd, 1) := by decide +kernel
theorem dL_law_326 : decode code 326 = .ok (.iaload, 1) := by decide +kernel
theorem dL_law_327 : decode code 327 = .ok (.invokevirtual 52, 3) := by decide +kernel
theorem dL_law_330 : decode code 330 = .ok (.if_icmp .eq 209, 3) := by decide +kernel
theorem dL_law_333 : decode code 333 = .ok (.iconst 0, 1) := by decide +kernel
theorem dL_law_334 : decode code 334 = .ok (.ireturn, 1) := by decide +kernel
theorem dL_law_335 : decode code 335 = .ok (.aload_n 1, 1) := by decide +kernel
theorem dL_law_336 : decode code 336 = .ok (.aload_n 0, 1) := by decide +kernel
theorem dL_law_337 : decode code 337 = .ok (.iload 4, 2) := by decide +kernel
theorem dL_law_339 : decode code 339 = .ok (.iconst 1, 1) := by decide +kernel
theorem dL_law_340 : decode code 340 = .ok (.iadd, 1) := by decide +kernel
theorem dL_law_341 : decode code 341 = .ok (.iaload, 1) := by decide +kernel
theorem dL_law_342 : decode code 342 = .ok (.invokevirtual 53, 3) := by decide +kernel
theorem dL_law_345 : decode code 345 = .ok (.aload_n 2, 1) := by decide +kernel
theorem dL_law_346 : decode code 346 = .ok (.aload_n 0, 1) := by decide +kernel
theorem dL_law_347 : decode code 347 = .ok (.iload 4, 2) := by decide +kernel
theorem dL_law_349 : decode code 349 = .ok (.iconst 1, 1) := by decide +kernel
theorem dL_law_350 : decode code 350 = .ok (.iadd, 1) := by decide +kernel
theorem dL_law_351 : decode code 351 = .ok (.iaload, 1) := by decide +kernel
theorem dL_law_352 : decode code 352 = .ok (.invokevirtual 56, 3) := by decide +kernel
theorem dL_law_355 : decode code 355 = .ok (.if_icmp .eq 184, 3) := by decide +kernel
theorem dL_law_358 : decode code 358 = .ok (.iconst 0, 1) := by decide +kernel
theorem dL_law_359 : decode code 359 = .ok (.ireturn, 1) := by decide +kernel
theorem dL_law_360 : decode code 360 = .ok (.aload_n 1, 1) := by decide +kernel
theorem dL_law_361 : decode code 361 = .ok (.aload_n 0, 1) := by decide +kernel
theorem dL_law_362 : decode code 362 = .ok (.iload 4, 2) := by decide +kernel
theorem dL_law_364 : decode code 364 = .ok (.iconst 1, 1) := by decide +kernel
theorem dL_law_365 : decode code 365 = .ok (.iadd, 1) := by decide +kernel
theorem dL_law_366 : decode code 366 = .ok (.iaload, 1) := by decide +kernel
theorem dL_law_367 : decode code 367 = .ok (.invokevirtual 57, 3) := by decide +kernel
theorem dL_law_370 : decode code 370 = .ok (.aload_n 2, 1) := by decide +kernel
theorem dL_law_371 : decode code 371 = .ok (.aload_n 0, 1) := by decide +kernel
theorem dL_law_372 : decode code 372 = .ok (.iload 4, 2) := by decide +kernel
theorem dL_law_374 : decode code 374 = .ok (.iconst 1, 1) := by decide +kernel
theorem dL_law_375 : decode code 375 = .ok (.iadd, 1) := by decide +kernel
theorem dL_law_376 : decode code 376 = .ok (.iaload, 1) := by decide +kernel
theorem dL_law_377 : decode code 377 = .ok (.invokevirtual 60, 3) := by decide +kernel
theorem dL_law_380 : decode code 380 = .ok (.if_icmp .eq 159, 3) := by decide +kernel
theorem dL_law_383 : decode code 383 = .ok (.iconst 0, 1) := by decide +kernel
theorem dL_law_384 : decode code 384 = .ok (.ireturn, 1) := by decide +kernel
theorem dL_law_385 : decode code 385 = .ok (.aload_n 1, 1) := by decide +kernel
theorem dL_law_386 : decode code 386 = .ok (.aload_n 0, 1) := by decide +kernel
theorem dL_law_387 : decode code 387 = .ok (.iload 4, 2) := by decide +kernel
theorem dL_law_389 : decode code 389 = .ok (.iconst 1, 1) := by decide +kernel
theorem dL_law_390 : decode code 390 = .ok (.iadd, 1) := by decide +kernel
theorem dL_law_391 : decode code 391 = .ok (.iaload, 1) := by decide +kernel
theorem dL_law_392 : decode code 392 = .ok (.aload_n 0, 1) := by decide +kernel
theorem dL_law_393 : decode code 393 = .ok (.iload 4, 2) := by decide +kernel
theorem dL_law_395 : decode code 395 = .ok (.iconst 2, 1) := by decide +kernel
theorem dL_law_396 : decode code 396 = .ok (.iadd, 1) := by decide +kernel
theorem dL_law_397 : decode code 397 = .ok (.iaload, 1) := by decide +kernel
theorem dL_law_398 : decode code 398 = .ok (.aload_n 3, 1) := by decide +kernel
theorem dL_law_399 : decode code 399 = .ok (.invokestatic 61, 3) := by decide +kernel
theorem dL_law_402 : decode code 402 = .ok (.istore 5, 2) := by decide +kernel
theorem dL_law_404 : decode code 404 = .ok (.aload_n 2, 1) := by decide +kernel
theorem dL_law_405 : decode code 405 = .ok (.aload_n 0, 1) := by decide +kernel
theorem dL_law_406 : decode code 406 = .ok (.iload 4, 2) := by decide +kernel
theorem dL_law_408 : decode code 408 = .ok (.iconst 1, 1) := by decide +kernel
theorem dL_law_409 : decode code 409 = .ok (.iadd, 1) := by decide +kernel
theorem dL_law_410 : decode code 410 = .ok (.iaload, 1) := by decide +kernel
theorem dL_law_411 : decode code 411 = .ok (.aload_n 0, 1) := by decide +kernel
theorem dL_law_412 : decode code 412 = .ok (.iload 4, 2) := by decide +kernel
theorem dL_law_414 : decode code 414 = .ok (.iconst 2, 1) := by decide +kernel
theorem dL_law_415 : decode code 415 = .ok (.iadd, 1) := by decide +kernel
theorem dL_law_416 : decode code 416 = .ok (.iaload, 1) := by decide +kernel
theorem dL_law_417 : decode code 417 = .ok (.invokevirtual 66, 3) := by decide +kernel
theorem dL_law_420 : decode code 420 = .ok (.istore 6, 2) := by decide +kernel
theorem dL_law_422 : decode code 422 = .ok (.aload_n 2, 1) := by decide +kernel
theorem dL_law_423 : decode code 423 = .ok (.invokevirtual 67, 3) := by decide +kernel
theorem dL_law_426 : decode code 426 = .ok (.iload 5, 2) := by decide +kernel
theorem dL_law_428 : decode code 428 = .ok (.if_icmp .eq 5, 3) := by decide +kernel
theorem dL_law_431 : decode code 431 = .ok (.iconst 0, 1) := by decide +kernel
theorem dL_law_432 : decode code 432 = .ok (.ireturn, 1) := by decide +kernel
theorem dL_law_433 : decode code 433 = .ok (.iload 5, 2) := by decide +kernel
theorem dL_law_435 : decode code 435 = .ok (.ifCond .ne 15, 3) := by decide +kernel
theorem dL_law_438 : decode code 438 = .ok (.aload_n 3, 1) := by decide +kernel
theorem dL_law_439 : decode code 439 = .ok (.iconst 0, 1) := by decide +kernel
theorem dL_law_440 : decode code 440 = .ok (.laload, 1) := by decide +kernel
theorem dL_law_441 : decode code 441 = .ok (.iload 6, 2) := by decide +kernel
theorem dL_law_443 : decode code 443 = .ok (.i2l, 1) := by decide +kernel
theorem dL_law_444 : decode code 444 = .ok (.lcmp, 1) := by decide +kernel
theorem dL_law_445 : decode code 445 = .ok (.ifCond .eq 5, 3) := by decide +kernel
theorem dL_law_448 : decode code 448 = .ok (.iconst 0, 1) := by decide +kernel
theorem dL_law_449 : decode code 449 = .ok (.ireturn, 1) := by decide +kernel
theorem dL_law_450 : decode code 450 = .ok (.goto 89, 3) := by decide +kernel
theorem dL_law_453 : decode code 453 = .ok (.aload_n 1, 1) := by decide +kernel
theorem dL_law_454 : decode code 454 = .ok (.aload_n 0, 1) := by decide +kernel
theorem dL_law_455 : decode code 455 = .ok (.iload 4, 2) := by decide +kernel
theorem dL_law_457 : decode code 457 = .ok (.iconst 1, 1) := by decide +kernel
theorem dL_law_458 : decode code 458 = .ok (.iadd, 1) := by decide +kernel
theorem dL_law_459 : decode code 459 = .ok (.iaload, 1) := by decide +kernel
theorem dL_law_460 : decode code 460 = .ok (.aload_n 0, 1) := by decide +kernel
theorem dL_law_461 : decode code 461 = .ok (.iload 4, 2) := by decide +kernel
theorem dL_law_463 : decode code 463 = .ok (.iconst 2, 1) := by decide +kernel
theorem dL_law_464 : decode code 464 = .ok (.iadd, 1) := by decide +kernel
theorem dL_law_465 : decode code 465 = .ok (.iaload, 1) := by decide +kernel
theorem dL_law_466 : decode code 466 = .ok (.aload_n 0, 1) := by decide +kernel
theorem dL_law_467 : decode code 467 = .ok (.iload 4, 2) := by decide +kernel
theorem dL_law_469 : decode code 469 = .ok (.iconst 3, 1) := by decide +kernel
theorem dL_law_470 : decode code 470 = .ok (.iadd, 1) := by decide +kernel
theorem dL_law_471 : decode code 471 = .ok (.iaload, 1) := by decide +kernel
theorem dL_law_472 : decode code 472 = .ok (.aload_n 0, 1) := by decide +kernel
theorem dL_law_473 : decode code 473 = .ok (.iload 4, 2) := by decide +kernel
theorem dL_law_475 : decode code 475 = .ok (.iconst 4, 1) := by decide +kernel
theorem dL_law_476 : decode code 476 = .ok (.iadd, 1) := by decide +kernel
theorem dL_law_477 : decode code 477 = .ok (.iaload, 1) := by decide +kernel
theorem dL_law_478 : decode code 478 = .ok (.invokevirtual 70, 3) := by decide +kernel
theorem dL_law_481 : decode code 481 = .ok (.aload_n 2, 1) := by decide +kernel
theorem dL_law_482 : decode code 482 = .ok (.aload_n 0, 1) := by decide +kernel
theorem dL_law_483 : decode code 483 = .ok (.iload 4, 2) := by decide +kernel
theorem dL_law_485 : decode code 485 = .ok (.iconst 1, 1) := by decide +kernel
theorem dL_law_486 : decode code 486 = .ok (.iadd, 1) := by decide +kernel
theorem dL_law_487 : decode code 487 = .ok (.iaload, 1) := by decide +kernel
theorem dL_law_488 : decode code 488 = .ok (.aload_n 0, 1) := by decide +kernel
theorem dL_law_489 : decode code 489 = .ok (.iload 4, 2) := by decide +kernel
theorem dL_law_491 : decode code 491 = .ok (.iconst 2, 1) := by decide +kernel
theorem dL_law_492 : decode code 492 = .ok (.iadd, 1) := by decide +kernel
theorem dL_law_493 : decode code 493 = .ok (.iaload, 1) := by decide +kernel
theorem dL_law_494 : decode code 494 = .ok (.aload_n 0, 1) := by decide +kernel
theorem dL_law_495 : decode code 495 = .ok (.iload 4, 2) := by decide +kernel
theorem dL_law_497 : decode code 497 = .ok (.iconst 3, 1) := by decide +kernel
theorem dL_law_498 : decode code 498 = .ok (.iadd, 1) := by decide +kernel
theorem dL_law_499 : decode code 499 = .ok (.iaload, 1) := by decide +kernel
theorem dL_law_500 : decode code 500 = .ok (.aload_n 0, 1) := by decide +kernel
theorem dL_law_501 : decode code 501 = .ok (.iload 4, 2) := by decide +kernel
theorem dL_law_503 : decode code 503 = .ok (.iconst 4, 1) := by decide +kernel
theorem dL_law_504 : decode code 504 = .ok (.iadd, 1) := by decide +kernel
theorem dL_law_505 : decode code 505 = .ok (.iaload, 1) := by decide +kernel
theorem dL_law_506 : decode code 506 = .ok (.invokevirtual 73, 3) := by decide +kernel
theorem dL_law_509 : decode code 509 = .ok (.if_icmp .eq 30, 3) := by decide +kernel
theorem dL_law_512 : decode code 512 = .ok (.iconst 0, 1) := by decide +kernel
theorem dL_law_513 : decode code 513 = .ok (.ireturn, 1) := by decide +kernel
theorem dL_law_514 : decode code 514 = .ok (.aload_n 1, 1) := by decide +kernel
theorem dL_law_515 : decode code 515 = .ok (.aload_n 0, 1) := by decide +kernel
theorem dL_law_516 : decode code 516 = .ok (.iload 4, 2) := by decide +kernel
theorem dL_law_518 : decode code 518 = .ok (.iconst 1, 1) := by decide +kernel
theorem dL_law_519 : decode code 519 = .ok (.iadd, 1) := by decide +kernel
theorem dL_law_520 : decode code 520 = .ok (.iaload, 1) := by decide +kernel
theorem dL_law_521 : decode code 521 = .ok (.invokevirtual 74, 3) := by decide +kernel
theorem dL_law_524 : decode code 524 = .ok (.aload_n 2, 1) := by decide +kernel
theorem dL_law_525 : decode code 525 = .ok (.aload_n 0, 1) := by decide +kernel
theorem dL_law_526 : decode code 526 = .ok (.iload 4, 2) := by decide +kernel
theorem dL_law_528 : decode code 528 = .ok (.iconst 1, 1) := by decide +kernel
theorem dL_law_529 : decode code 529 = .ok (.iadd, 1) := by decide +kernel
theorem dL_law_530 : decode code 530 = .ok (.iaload, 1) := by decide +kernel
theorem dL_law_531 : decode code 531 = .ok (.invokevirtual 77, 3) := by decide +kernel
theorem dL_law_534 : decode code 534 = .ok (.if_icmp .eq 5, 3) := by decide +kernel
theorem dL_law_537 : decode code 537 = .ok (.iconst 0, 1) := by decide +kernel
theorem dL_law_538 : decode code 538 = .ok (.ireturn, 1) := by decide +kernel
theorem dL_law_539 : decode code 539 = .ok (.iinc 4 5, 3) := by decide +kernel
theorem dL_law_542 : decode code 542 = .ok (.goto (-519), 3) := by decide +kernel
theorem dL_law_545 : decode code 545 = .ok (.iconst 1, 1) := by decide +kernel
theorem dL_law_546 : decode code 546 = .ok (.ireturn, 1) := by decide +kernel
