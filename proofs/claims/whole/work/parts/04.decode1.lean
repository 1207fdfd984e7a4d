theorem dX6_begunAt_8 : decode cX6_begunAt 8 = .ok (.ifCond .eq 12, 3) := by decide +kernel
theorem dX6_begunAt_11 : decode cX6_begunAt 11 = .ok (.aload_n 0, 1) := by decide +kernel
theorem dX6_begunAt_12 : decode cX6_begunAt 12 = .ok (.getfield 17, 3) := by decide +kernel
theorem dX6_begunAt_15 : decode cX6_begunAt 15 = .ok (.iload_n 1, 1) := by decide +kernel
theorem dX6_begunAt_16 : decode cX6_begunAt 16 = .ok (.iaload, 1) := by decide +kernel
theorem dX6_begunAt_17 : decode cX6_begunAt 17 = .ok (.goto 4, 3) := by decide +kernel
theorem dX6_begunAt_20 : decode cX6_begunAt 20 = .ok (.iconst (-1), 1) := by decide +kernel
theorem dX6_begunAt_21 : decode cX6_begunAt 21 = .ok (.ireturn, 1) := by decide +kernel
theorem dX6_marksOf_0 : decode cX6_marksOf 0 = .ok (.iload_n 1, 1) := by decide +kernel
theorem dX6_marksOf_1 : decode cX6_marksOf 1 = .ok (.iconst 5, 1) := by decide +kernel
theorem dX6_marksOf_2 : decode cX6_marksOf 2 = .ok (.invokestatic 46, 3) := by decide +kernel
theorem dX6_marksOf_5 : decode cX6_marksOf 5 = .ok (.ifCond .eq 12, 3) := by decide +kernel
theorem dX6_marksOf_8 : decode cX6_marksOf 8 = .ok (.aload_n 0, 1) := by decide +kernel
theorem dX6_marksOf_9 : decode cX6_marksOf 9 = .ok (.getfield 11, 3) := by decide +kernel
theorem dX6_marksOf_12 : decode cX6_marksOf 12 = .ok (.iload_n 1, 1) := by decide +kernel
theorem dX6_marksOf_13 : decode cX6_marksOf 13 = .ok (.iaload, 1) := by decide +kernel
theorem dX6_marksOf_14 : decode cX6_marksOf 14 = .ok (.goto 4, 3) := by decide +kernel
theorem dX6_marksOf_17 : decode cX6_marksOf 17 = .ok (.iconst 0, 1) := by decide +kernel
theorem dX6_marksOf_18 : decode cX6_marksOf 18 = .ok (.ireturn, 1) := by decide +kernel
theorem dX6_spentOfBudget_0 : decode cX6_spentOfBudget 0 = .ok (.aload_n 0, 1) := by decide +kernel
theorem dX6_spentOfBudget_1 : decode cX6_spentOfBudget 1 = .ok (.getfield 36, 3) := by decide +kernel
theorem dX6_spentOfBudget_4 : decode cX6_spentOfBudget 4 = .ok (.ireturn, 1) := by decide +kernel
theorem dX6_spentOfReserve_0 : decode cX6_spentOfReserve 0 = .ok (.aload_n 0, 1) := by decide +kernel
theorem dX6_spentOfReserve_1 : decode cX6_spentOfReserve 1 = .ok (.getfield 39, 3) := by decide +kernel
theorem dX6_spentOfReserve_4 : decode cX6_spentOfReserve 4 = .ok (.ireturn, 1) := by decide +kernel
theorem dX7_perform_0 : decode cX7_perform 0 = .ok (.aload_n 0, 1) := by decide +kernel
theorem dX7_perform_1 : decode cX7_perform 1 = .ok (.iload_n 2, 1) := by decide +kernel
theorem dX7_perform_2 : decode cX7_perform 2 = .ok (.iload_n 3, 1) := by decide +kernel
theorem dX7_perform_3 : decode cX7_perform 3 = .ok (.invokevirtual 47, 3) := by decide +kernel
theorem dX7_perform_6 : decode cX7_perform 6 = .ok (.aload_n 0, 1) := by decide +kernel
theorem dX7_perform_7 : decode cX7_perform 7 = .ok (.getfield 21, 3) := by decide +kernel
theorem dX7_perform_10 : decode cX7_perform 10 = .ok (.iconst 1, 1) := by decide +kernel
theorem dX7_perform_11 : decode cX7_perform 11 = .ok (.iconst 2, 1) := by decide +kernel
theorem dX7_perform_12 : decode cX7_perform 12 = .ok (.invokevirtual 53, 3) := by decide +kernel
theorem dX7_perform_15 : decode cX7_perform 15 = .ok (.ifCond .eq 11, 3) := by decide +kernel
theorem dX7_perform_18 : decode cX7_perform 18 = .ok (.aload_n 0, 1) := by decide +kernel
theorem dX7_perform_19 : decode cX7_perform 19 = .ok (.iload_n 1, 1) := by decide +kernel
theorem dX7_perform_20 : decode cX7_perform 20 = .ok (.invokevirtual 57, 3) := by decide +kernel
theorem dX7_perform_23 : decode cX7_perform 23 = .ok (.goto 8, 3) := by decide +kernel
theorem dX7_perform_26 : decode cX7_perform 26 = .ok (.aload_n 0, 1) := by decide +kernel
theorem dX7_perform_27 : decode cX7_perform 27 = .ok (.iconst 3, 1) := by decide +kernel
theorem dX7_perform_28 : decode cX7_perform 28 = .ok (.putfield 61, 3) := by decide +kernel
theorem dX7_perform_31 : decode cX7_perform 31 = .ok (.iconst 0, 1) := by decide +kernel
theorem dX7_perform_32 : decode cX7_perform 32 = .ok (.istore 4, 2) := by decide +kernel
theorem dX7_perform_34 : decode cX7_perform 34 = .ok (.iload 4, 2) := by decide +kernel
theorem dX7_perform_36 : decode cX7_perform 36 = .ok (.ldc 64, 2) := by decide +kernel
theorem dX7_perform_38 : decode cX7_perform 38 = .ok (.if_icmp .ge 53, 3) := by decide +kernel
theorem dX7_perform_41 : decode cX7_perform 41 = .ok (.aload_n 0, 1) := by decide +kernel
theorem dX7_perform_42 : decode cX7_perform 42 = .ok (.getfield 35, 3) := by decide +kernel
theorem dX7_perform_45 : decode cX7_perform 45 = .ok (.invokevirtual 65, 3) := by decide +kernel
theorem dX7_perform_48 : decode cX7_perform 48 = .ok (.ifCond .ne 43, 3) := by decide +kernel
theorem dX7_perform_51 : decode cX7_perform 51 = .ok (.aload_n 0, 1) := by decide +kernel
theorem dX7_perform_52 : decode cX7_perform 52 = .ok (.getfield 35, 3) := by decide +kernel
theorem dX7_perform_55 : decode cX7_perform 55 = .ok (.invokevirtual 69, 3) := by decide +kernel
theorem dX7_perform_58 : decode cX7_perform 58 = .ok (.istore 5, 2) := by decide +kernel
theorem dX7_perform_60 : decode cX7_perform 60 = .ok (.aload_n 0, 1) := by decide +kernel
theorem dX7_perform_61 : decode cX7_perform 61 = .ok (.getfield 35, 3) := by decide +kernel
theorem dX7_perform_64 : decode cX7_perform 64 = .ok (.invokevirtual 73, 3) := by decide +kernel
theorem dX7_perform_67 : decode cX7_perform 67 = .ok (.ifCond .ne 12, 3) := by decide +kernel
theorem dX7_perform_70 : decode cX7_perform 70 = .ok (.aload_n 0, 1) := by decide +kernel
theorem dX7_perform_71 : decode cX7_perform 71 = .ok (.iload 5, 2) := by decide +kernel
theorem dX7_perform_73 : decode cX7_perform 73 = .ok (.invokevirtual 76, 3) := by decide +kernel
theorem dX7_perform_76 : decode cX7_perform 76 = .ok (.goto 9, 3) := by decide +kernel
theorem dX7_perform_79 : decode cX7_perform 79 = .ok (.aload_n 0, 1) := by decide +kernel
theorem dX7_perform_80 : decode cX7_perform 80 = .ok (.iload 5, 2) := by decide +kernel
theorem dX7_perform_82 : decode cX7_perform 82 = .ok (.invokevirtual 79, 3) := by decide +kernel
theorem dX7_perform_85 : decode cX7_perform 85 = .ok (.iinc 4 1, 3) := by decide +kernel
theorem dX7_perform_88 : decode cX7_perform 88 = .ok (.goto (-54), 3) := by decide +kernel
theorem dX7_perform_91 : decode cX7_perform 91 = .ok (.aload_n 0, 1) := by decide +kernel
theorem dX7_perform_92 : decode cX7_perform 92 = .ok (.aload_n 0, 1) := by decide +kernel
theorem dX7_perform_93 : decode cX7_perform 93 = .ok (.getfield 61, 3) := by decide +kernel
theorem dX7_perform_96 : decode cX7_perform 96 = .ok (.putfield 39, 3) := by decide +kernel
theorem dX7_perform_99 : decode cX7_perform 99 = .ok (.aload_n 0, 1) := by decide +kernel
theorem dX7_perform_100 : decode cX7_perform 100 = .ok (.getfield 39, 3) := by decide +kernel
theorem dX7_perform_103 : decode cX7_perform 103 = .ok (.ireturn, 1) := by decide +kernel
theorem dX7_tell_0 : decode cX7_tell 0 = .ok (.iload_n 1, 1) := by decide +kernel
theorem dX7_tell_1 : decode cX7_tell 1 = .ok (.tableswitch 135 0 8 #[51, 56, 73, 90, 98, 106, 114, 119, 127], 51) := by decide +kernel
theorem dX7_tell_52 : decode cX7_tell 52 = .ok (.aload_n 0, 1) := by decide +kernel
theorem dX7_tell_53 : decode cX7_tell 53 = .ok (.getfield 39, 3) := by decide +kernel
theorem dX7_tell_56 : decode cX7_tell 56 = .ok (.ireturn, 1) := by decide +kernel
theorem dX7_tell_57 : decode cX7_tell 57 = .ok (.aload_n 0, 1) := by decide +kernel
theorem dX7_tell_58 : decode cX7_tell 58 = .ok (.getfield 39, 3) := by decide +kernel
theorem dX7_tell_61 : decode cX7_tell 61 = .ok (.iconst 2, 1) := by decide +kernel
theorem dX7_tell_62 : decode cX7_tell 62 = .ok (.if_icmp .ne 10, 3) := by decide +kernel
theorem dX7_tell_65 : decode cX7_tell 65 = .ok (.aload_n 0, 1) := by decide +kernel
theorem dX7_tell_66 : decode cX7_tell 66 = .ok (.getfield 82, 3) := by decide +kernel
theorem dX7_tell_69 : decode cX7_tell 69 = .ok (.goto 4, 3) := by decide +kernel
theorem dX7_tell_72 : decode cX7_tell 72 = .ok (.iconst 0, 1) := by decide +kernel
theorem dX7_tell_73 : decode cX7_tell 73 = .ok (.ireturn, 1) := by decide +kernel
theorem dX7_tell_74 : decode cX7_tell 74 = .ok (.aload_n 0, 1) := by decide +kernel
theorem dX7_tell_75 : decode cX7_tell 75 = .ok (.getfield 39, 3) := by decide +kernel
theorem dX7_tell_78 : decode cX7_tell 78 = .ok (.iconst 2, 1) := by decide +kernel
theorem dX7_tell_79 : decode cX7_tell 79 = .ok (.if_icmp .ne 10, 3) := by decide +kernel
theorem dX7_tell_82 : decode cX7_tell 82 = .ok (.aload_n 0, 1) := by decide +kernel
theorem dX7_tell_83 : decode cX7_tell 83 = .ok (.getfield 85, 3) := by decide +kernel
theorem dX7_tell_86 : decode cX7_tell 86 = .ok (.goto 4, 3) := by decide +kernel
theorem dX7_tell_89 : decode cX7_tell 89 = .ok (.iconst 0, 1) := by decide +kernel
theorem dX7_tell_90 : decode cX7_tell 90 = .ok (.ireturn, 1) := by decide +kernel
theorem dX7_tell_91 : decode cX7_tell 91 = .ok (.aload_n 0, 1) := by decide +kernel
theorem dX7_tell_92 : decode cX7_tell 92 = .ok (.getfield 12, 3) := by decide +kernel
theorem dX7_tell_95 : decode cX7_tell 95 = .ok (.invokevirtual 88, 3) := by decide +kernel
theorem dX7_tell_98 : decode cX7_tell 98 = .ok (.ireturn, 1) := by decide +kernel
theorem dX7_tell_99 : decode cX7_tell 99 = .ok (.aload_n 0, 1) := by decide +kernel
theorem dX7_tell_100 : decode cX7_tell 100 = .ok (.getfield 21, 3) := by decide +kernel
theorem dX7_tell_103 : decode cX7_tell 103 = .ok (.invokevirtual 91, 3) := by decide +kernel
theorem dX7_tell_106 : decode cX7_tell 106 = .ok (.ireturn, 1) := by decide +kernel
theorem dX7_tell_107 : decode cX7_tell 107 = .ok (.aload_n 0, 1) := by decide +kernel
theorem dX7_tell_108 : decode cX7_tell 108 = .ok (.getfield 21, 3) := by decide +kernel
theorem dX7_tell_111 : decode cX7_tell 111 = .ok (.invokevirtual 94, 3) := by decide +kernel
theorem dX7_tell_114 : decode cX7_tell 114 = .ok (.ireturn, 1) := by decide +kernel
theorem dX7_tell_115 : decode cX7_tell 115 = .ok (.aload_n 0, 1) := by decide +kernel
theorem dX7_tell_116 : decode cX7_tell 116 = .ok (.getfield 97, 3) := by decide +kernel
theorem dX7_tell_119 : decode cX7_tell 119 = .ok (.ireturn, 1) := by decide +kernel
theorem dX7_tell_120 : decode cX7_tell 120 = .ok (.aload_n 0, 1) := by decide +kernel
theorem dX7_tell_121 : decode cX7_tell 121 = .ok (.getfield 28, 3) := by decide +kernel
theorem dX7_tell_124 : decode cX7_tell 124 = .ok (.invokevirtual 100, 3) := by decide +kernel
theorem dX7_tell_127 : decode cX7_tell 127 = .ok (.ireturn, 1) := by decide +kernel
theorem dX7_tell_128 : decode cX7_tell 128 = .ok (.aload_n 0, 1) := by decide +kernel
theorem dX7_tell_129 : decode cX7_tell 129 = .ok (.getfield 28, 3) := by decide +kernel
theorem dX7_tell_132 : decode cX7_tell 132 = .ok (.invokevirtual 103, 3) := by decide +kernel
theorem dX7_tell_135 : decode cX7_tell 135 = .ok (.ireturn, 1) := by decide +kernel
theorem dX7_tell_136 : decode cX7_tell 136 = .ok (.bipush (-2), 2) := by decide +kernel
theorem dX7_tell_138 : decode cX7_tell 138 = .ok (.ireturn, 1) := by decide +kernel
theorem dX7_tellsTheSameAs_0 : decode cX7_tellsTheSameAs 0 = .ok (.aload_n 1, 1) := by decide +kernel
theorem dX7_tellsTheSameAs_1 : decode cX7_tellsTheSameAs 1 = .ok (.ifnonnull 5, 3) := by decide +kernel
theorem dX7_tellsTheSameAs_4 : decode cX7_tellsTheSameAs 4 = .ok (.iconst 0, 1) := by decide +kernel
theorem dX7_tellsTheSameAs_5 : decode cX7_tellsTheSameAs 5 = .ok (.ireturn, 1) := by decide +kernel
theorem dX7_tellsTheSameAs_6 : decode cX7_tellsTheSameAs 6 = .ok (.iconst 0, 1) := by decide +kernel
theorem dX7_tellsTheSameAs_7 : decode cX7_tellsTheSameAs 7 = .ok (.istore_n 2, 1) := by decide +kernel
theorem dX7_tellsTheSameAs_8 : decode cX7_tellsTheSameAs 8 = .ok (.iload_n 2, 1) := by decide +kernel
theorem dX7_tellsTheSameAs_9 : decode cX7_tellsTheSameAs 9 = .ok (.iconst 2, 1) := by decide +kernel
theorem dX7_tellsTheSameAs_10 : decode cX7_tellsTheSameAs 10 = .ok (.if_icmp .gt 24, 3) := by decide +kernel
theorem dX7_tellsTheSameAs_13 : decode cX7_tellsTheSameAs 13 = .ok (.aload_n 0, 1) := by decide +kernel
theorem dX7_tellsTheSameAs_14 : decode cX7_tellsTheSameAs 14 = .ok (.iload_n 2, 1) := by decide +kernel
theorem dX7_tellsTheSameAs_15 : decode cX7_tellsTheSameAs 15 = .ok (.invokevirtual 106, 3) := by decide +kernel
theorem dX7_tellsTheSameAs_18 : decode cX7_tellsTheSameAs 18 = .ok (.aload_n 1, 1) := by decide +kernel
theorem dX7_tellsTheSameAs_19 : decode cX7_tellsTheSameAs 19 = .ok (.iload_n 2, 1) := by decide +kernel
theorem dX7_tellsTheSameAs_20 : decode cX7_tellsTheSameAs 20 = .ok (.invokevirtual 106, 3) := by decide +kernel
theorem dX7_tellsTheSameAs_23 : decode cX7_tellsTheSameAs 23 = .ok (.if_icmp .eq 5, 3) := by decide +kernel
theorem dX7_tellsTheSameAs_26 : decode cX7_tellsTheSameAs 26 = .ok (.iconst 0, 1) := by decide +kernel
theorem dX7_tellsTheSameAs_27 : decode cX7_tellsTheSameAs 27 = .ok (.ireturn, 1) := by decide +kernel
theorem dX7_tellsTheSameAs_28 : decode cX7_tellsTheSameAs 28 = .ok (.iinc 2 1, 3) := by decide +kernel
theorem dX7_tellsTheSameAs_31 : decode cX7_tellsTheSameAs 31 = .ok (.goto (-23), 3) := by decide +kernel
theorem dX7_tellsTheSameAs_34 : decode cX7_tellsTheSameAs 34 = .ok (.aload_n 0, 1) := by decide +kernel
theorem dX7_tellsTheSameAs_35 : decode cX7_tellsTheSameAs 35 = .ok (.getfield 12, 3) := by decide +kernel
theorem dX7_tellsTheSameAs_38 : decode cX7_tellsTheSameAs 38 = .ok (.aload_n 1, 1) := by decide +kernel
theorem dX7_tellsTheSameAs_39 : decode cX7_tellsTheSameAs 39 = .ok (.getfield 12, 3) := by decide +kernel
theorem dX7_tellsTheSameAs_42 : decode cX7_tellsTheSameAs 42 = .ok (.invokevirtual 110, 3) := by decide +kernel
theorem dX7_tellsTheSameAs_45 : decode cX7_tellsTheSameAs 45 = .ok (.ireturn, 1) := by decide +kernel
theorem dX7_clear_0 : decode cX7_clear 0 = .ok (.aload_n 0, 1) := by decide +kernel
theorem dX7_clear_1 : decode cX7_clear 1 = .ok (.getfield 12, 3) := by decide +kernel
theorem dX7_clear_4 : decode cX7_clear 4 = .ok (.invokevirtual 114, 3) := by decide +kernel
theorem dX7_clear_7 : decode cX7_clear 7 = .ok (.aload_n 0, 1) := by decide +kernel
theorem dX7_clear_8 : decode cX7_clear 8 = .ok (.getfield 12, 3) := by decide +kernel
theorem dX7_clear_11 : decode cX7_clear 11 = .ok (.iconst 0, 1) := by decide +kernel
theorem dX7_clear_12 : decode cX7_clear 12 = .ok (.iload_n 1, 1) := by decide +kernel
theorem dX7_clear_13 : decode cX7_clear 13 = .ok (.invokevirtual 116, 3) := by decide +kernel
theorem dX7_clear_16 : decode cX7_clear 16 = .ok (.aload_n 0, 1) := by decide +kernel
theorem dX7_clear_17 : decode cX7_clear 17 = .ok (.getfield 21, 3) := by decide +kernel
theorem dX7_clear_20 : decode cX7_clear 20 = .ok (.iload_n 2, 1) := by decide +kernel
theorem dX7_clear_21 : decode cX7_clear 21 = .ok (.invokevirtual 119, 3) := by decide +kernel
theorem dX7_clear_24 : decode cX7_clear 24 = .ok (.aload_n 0, 1) := by decide +kernel
theorem dX7_clear_25 : decode cX7_clear 25 = .ok (.getfield 28, 3) := by decide +kernel
theorem dX7_clear_28 : decode cX7_clear 28 = .ok (.invokevirtual 122, 3) := by decide +kernel
theorem dX7_clear_31 : decode cX7_clear 31 = .ok (.aload_n 0, 1) := by decide +kernel
theorem dX7_clear_32 : decode cX7_clear 32 = .ok (.getfield 35, 3) := by decide +kernel
theorem dX7_clear_35 : decode cX7_clear 35 = .ok (.invokevirtual 123, 3) := by decide +kernel
theorem dX7_clear_38 : decode cX7_clear 38 = .ok (.aload_n 0, 1) := by decide +kernel
theorem dX7_clear_39 : decode cX7_clear 39 = .ok (.iconst 0, 1) := by decide +kernel
theorem dX7_clear_40 : decode cX7_clear 40 = .ok (.putfield 124, 3) := by decide +kernel
theorem dX7_clear_43 : decode cX7_clear 43 = .ok (.aload_n 0, 1) := by decide +kernel
theorem dX7_clear_44 : decode cX7_clear 44 = .ok (.iconst 0, 1) := by decide +kernel
theorem dX7_clear_45 : decode cX7_clear 45 = .ok (.putfield 97, 3) := by decide +kernel
theorem dX7_clear_48 : decode cX7_clear 48 = .ok (.aload_n 0, 1) := by decide +kernel
theorem dX7_clear_49 : decode cX7_clear 49 = .ok (.iconst 0, 1) := by decide +kernel
theorem dX7_clear_50 : decode cX7_clear 50 = .ok (.putfield 61, 3) := by decide +kernel
theorem dX7_clear_53 : decode cX7_clear 53 = .ok (.aload_n 0, 1) := by decide +kernel
theorem dX7_clear_54 : decode cX7_clear 54 = .ok (.iconst 0, 1) := by decide +kernel
theorem dX7_clear_55 : decode cX7_clear 55 = .ok (.putfield 82, 3) := by decide +kernel
theorem dX7_clear_58 : decode cX7_clear 58 = .ok (.aload_n 0, 1) := by decide +kernel
theorem dX7_clear_59 : decode cX7_clear 59 = .ok (.iconst 0, 1) := by decide +kernel
theorem dX7_clear_60 : decode cX7_clear 60 = .ok (.putfield 85, 3) := by decide +kernel
theorem dX7_clear_63 : decode cX7_clear 63 = .ok (.return_, 1) := by decide +kernel
theorem dX7_begin_0 : decode cX7_begin 0 = .ok (.aload_n 0, 1) := by decide +kernel
theorem dX7_begin_1 : decode cX7_begin 1 = .ok (.getfield 43, 3) := by decide +kernel
theorem dX7_begin_4 : decode cX7_begin 4 = .ok (.iload_n 1, 1) := by decide +kernel
theorem dX7_begin_5 : decode cX7_begin 5 = .ok (.invokevirtual 127, 3) := by decide +kernel
theorem dX7_begin_8 : decode cX7_begin 8 = .ok (.istore_n 2, 1) := by decide +kernel
theorem dX7_begin_9 : decode cX7_begin 9 = .ok (.aload_n 0, 1) := by decide +kernel
theorem dX7_begin_10 : decode cX7_begin 10 = .ok (.getfield 43, 3) := by decide +kernel
theorem dX7_begin_13 : decode cX7_begin 13 = .ok (.iload_n 1, 1) := by decide +kernel
theorem dX7_begin_14 : decode cX7_begin 14 = .ok (.invokevirtual 132, 3) := by decide +kernel
theorem dX7_begin_17 : decode cX7_begin 17 = .ok (.istore_n 3, 1) := by decide +kernel
theorem dX7_begin_18 : decode cX7_begin 18 = .ok (.aload_n 0, 1) := by decide +kernel
theorem dX7_begin_19 : decode cX7_begin 19 = .ok (.getfield 43, 3) := by decide +kernel
theorem dX7_begin_22 : decode cX7_begin 22 = .ok (.iload_n 1, 1) := by decide +kernel
theorem dX7_begin_23 : decode cX7_begin 23 = .ok (.invokevirtual 135, 3) := by decide +kernel
theorem dX7_begin_26 : decode cX7_begin 26 = .ok (.istore 4, 2) := by decide +kernel
theorem dX7_begin_28 : decode cX7_begin 28 = .ok (.aload_n 0, 1) := by decide +kernel
theorem dX7_begin_29 : decode cX7_begin 29 = .ok (.getfield 43, 3) := by decide +kernel
theorem dX7_begin_32 : decode cX7_begin 32 = .ok (.iload_n 1, 1) := by decide +kernel
theorem dX7_begin_33 : decode cX7_begin 33 = .ok (.invokevirtual 138, 3) := by decide +kernel
theorem dX7_begin_36 : decode cX7_begin 36 = .ok (.istore 5, 2) := by decide +kernel
theorem dX7_begin_38 : decode cX7_begin 38 = .ok (.iload 5, 2) := by decide +kernel
theorem dX7_begin_40 : decode cX7_begin 40 = .ok (.tableswitch 125 12 20 #[52, 61, 86, 100, 125, 125, 52, 52, 108], 52) := by decide +kernel
theorem dX7_begin_92 : decode cX7_begin 92 = .ok (.aload_n 0, 1) := by decide +kernel
theorem dX7_begin_93 : decode cX7_begin 93 = .ok (.iconst 1, 1) := by decide +kernel
theorem dX7_begin_94 : decode cX7_begin 94 = .ok (.iload_n 2, 1) := by decide +kernel
theorem dX7_begin_95 : decode cX7_begin 95 = .ok (.invokevirtual 141, 3) := by decide +kernel
theorem dX7_begin_98 : decode cX7_begin 98 = .ok (.goto 77, 3) := by decide +kernel
theorem dX7_begin_101 : decode cX7_begin 101 = .ok (.aload_n 0, 1) := by decide +kernel
theorem dX7_begin_102 : decode cX7_begin 102 = .ok (.iconst 1, 1) := by decide +kernel
theorem dX7_begin_103 : decode cX7_begin 103 = .ok (.aload_n 0, 1) := by decide +kernel
theorem dX7_begin_104 : decode cX7_begin 104 = .ok (.getfield 12, 3) := by decide +kernel
theorem dX7_begin_107 : decode cX7_begin 107 = .ok (.iload_n 2, 1) := by decide +kernel
theorem dX7_begin_108 : decode cX7_begin 108 = .ok (.invokevirtual 144, 3) := by decide +kernel
theorem dX7_begin_111 : decode cX7_begin 111 = .ok (.ifCond .eq 7, 3) := by decide +kernel
theorem dX7_begin_114 : decode cX7_begin 114 = .ok (.iload_n 3, 1) := by decide +kernel
theorem dX7_begin_115 : decode cX7_begin 115 = .ok (.goto 5, 3) := by decide +kernel
theorem dX7_begin_118 : decode cX7_begin 118 = .ok (.iload 4, 2) := by decide +kernel
theorem dX7_begin_120 : decode cX7_begin 120 = .ok (.invokevirtual 141, 3) := by decide +kernel
theorem dX7_begin_123 : decode cX7_begin 123 = .ok (.goto 52, 3) := by decide +kernel
theorem dX7_begin_126 : decode cX7_begin 126 = .ok (.aload_n 0, 1) := by decide +kernel
theorem dX7_begin_127 : decode cX7_begin 127 = .ok (.iconst 0, 1) := by decide +kernel
theorem dX7_begin_128 : decode cX7_begin 128 = .ok (.putfield 61, 3) := by decide +kernel
theorem dX7_begin_131 : decode cX7_begin 131 = .ok (.aload_n 0, 1) := by decide +kernel
theorem dX7_begin_132 : decode cX7_begin 132 = .ok (.iload_n 2, 1) := by decide +kernel
theorem dX7_begin_133 : decode cX7_begin 133 = .ok (.iload_n 3, 1) := by decide +kernel
theorem dX7_begin_134 : decode cX7_begin 134 = .ok (.invokevirtual 147, 3) := by decide +kernel
theorem dX7_begin_137 : decode cX7_begin 137 = .ok (.goto 38, 3) := by decide +kernel
theorem dX7_begin_140 : decode cX7_begin 140 = .ok (.aload_n 0, 1) := by decide +kernel
theorem dX7_begin_141 : decode cX7_begin 141 = .ok (.iload_n 2, 1) := by decide +kernel
theorem dX7_begin_142 : decode cX7_begin 142 = .ok (.invokevirtual 150, 3) := by decide +kernel
theorem dX7_begin_145 : decode cX7_begin 145 = .ok (.goto 30, 3) := by decide +kernel
theorem dX7_begin_148 : decode cX7_begin 148 = .ok (.aload_n 0, 1) := by decide +kernel
theorem dX7_begin_149 : decode cX7_begin 149 = .ok (.getfield 28, 3) := by decide +kernel
theorem dX7_begin_152 : decode cX7_begin 152 = .ok (.iload_n 2, 1) := by decide +kernel
theorem dX7_begin_153 : decode cX7_begin 153 = .ok (.invokevirtual 153, 3) := by decide +kernel
theorem dX7_begin_156 : decode cX7_begin 156 = .ok (.aload_n 0, 1) := by decide +kernel
theorem dX7_begin_157 : decode cX7_begin 157 = .ok (.iconst 1, 1) := by decide +kernel
theorem dX7_begin_158 : decode cX7_begin 158 = .ok (.iload_n 3, 1) := by decide +kernel
theorem dX7_begin_159 : decode cX7_begin 159 = .ok (.invokevirtual 141, 3) := by decide +kernel
theorem dX7_begin_162 : decode cX7_begin 162 = .ok (.goto 13, 3) := by decide +kernel
theorem dX7_begin_165 : decode cX7_begin 165 = .ok (.aload_n 0, 1) := by decide +kernel
theorem dX7_begin_166 : decode cX7_begin 166 = .ok (.iload 5, 2) := by decide +kernel
theorem dX7_begin_168 : decode cX7_begin 168 = .ok (.iload_n 2, 1) := by decide +kernel
theorem dX7_begin_169 : decode cX7_begin 169 = .ok (.iload_n 3, 1) := by decide +kernel
theorem dX7_begin_170 : decode cX7_begin 170 = .ok (.iload 4, 2) := by decide +kernel
theorem dX7_begin_172 : decode cX7_begin 172 = .ok (.invokevirtual 156, 3) := by decide +kernel
theorem dX7_begin_175 : decode cX7_begin 175 = .ok (.return_, 1) := by decide +kernel
theorem dX7_goOn_0 : decode cX7_goOn 0 = .ok (.aload_n 0, 1) := by decide +kernel
theorem dX7_goOn_1 : decode cX7_goOn 1 = .ok (.getfield 43, 3) := by decide +kernel
theorem dX7_goOn_4 : decode cX7_goOn 4 = .ok (.iload_n 1, 1) := by decide +kernel
theorem dX7_goOn_5 : decode cX7_goOn 5 = .ok (.invokevirtual 138, 3) := by decide +kernel
theorem dX7_goOn_8 : decode cX7_goOn 8 = .ok (.tableswitch 160 12 20 #[52, 160, 60, 68, 160, 160, 101, 109, 135], 52) := by decide +kernel
theorem dX7_goOn_60 : decode cX7_goOn 60 = .ok (.aload_n 0, 1) := by decide +kernel
theorem dX7_goOn_61 : decode cX7_goOn 61 = .ok (.iload_n 1, 1) := by decide +kernel
theorem dX7_goOn_62 : decode cX7_goOn 62 = .ok (.invokevirtual 160, 3) := by decide +kernel
theorem dX7_goOn_65 : decode cX7_goOn 65 = .ok (.goto 110, 3) := by decide +kernel
theorem dX7_goOn_68 : decode cX7_goOn 68 = .ok (.aload_n 0, 1) := by decide +kernel
theorem dX7_goOn_69 : decode cX7_goOn 69 = .ok (.iload_n 1, 1) := by decide +kernel
theorem dX7_goOn_70 : decode cX7_goOn 70 = .ok (.invokevirtual 163, 3) := by decide +kernel
theorem dX7_goOn_73 : decode cX7_goOn 73 = .ok (.goto 102, 3) := by decide +kernel
theorem dX7_goOn_76 : decode cX7_goOn 76 = .ok (.aload_n 0, 1) := by decide +kernel
theorem dX7_goOn_77 : decode cX7_goOn 77 = .ok (.dup, 1) := by decide +kernel
theorem dX7_goOn_78 : decode cX7_goOn 78 = .ok (.getfield 124, 3) := by decide +kernel
theorem dX7_goOn_81 : decode cX7_goOn 81 = .ok (.iconst 1, 1) := by decide +kernel
theorem dX7_goOn_82 : decode cX7_goOn 82 = .ok (.isub, 1) := by decide +kernel
theorem dX7_goOn_83 : decode cX7_goOn 83 = .ok (.putfield 124, 3) := by decide +kernel
theorem dX7_goOn_86 : decode cX7_goOn 86 = .ok (.aload_n 0, 1) := by decide +kernel
theorem dX7_goOn_87 : decode cX7_goOn 87 = .ok (.aload_n 0, 1) := by decide +kernel
theorem dX7_goOn_88 : decode cX7_goOn 88 = .ok (.getfield 61, 3) := by decide +kernel
theorem dX7_goOn_91 : decode cX7_goOn 91 = .ok (.iconst 1, 1) := by decide +kernel
theorem dX7_goOn_92 : decode cX7_goOn 92 = .ok (.if_icmp .ne 7, 3) := by decide +kernel
theorem dX7_goOn_95 : decode cX7_goOn 95 = .ok (.iconst 0, 1) := by decide +kernel
theorem dX7_goOn_96 : decode cX7_goOn 96 = .ok (.goto 7, 3) := by decide +kernel
theorem dX7_goOn_99 : decode cX7_goOn 99 = .ok (.aload_n 0, 1) := by decide +kernel
theorem dX7_goOn_100 : decode cX7_goOn 100 = .ok (.getfield 61, 3) := by decide +kernel
theorem dX7_goOn_103 : decode cX7_goOn 103 = .ok (.invokevirtual 166, 3) := by decide +kernel
theorem dX7_goOn_106 : decode cX7_goOn 106 = .ok (.goto 69, 3) := by decide +kernel
theorem dX7_goOn_109 : decode cX7_goOn 109 = .ok (.aload_n 0, 1) := by decide +kernel
theorem dX7_goOn_110 : decode cX7_goOn 110 = .ok (.iload_n 1, 1) := by decide +kernel
theorem dX7_goOn_111 : decode cX7_goOn 111 = .ok (.invokevirtual 169, 3) := by decide +kernel
theorem dX7_goOn_114 : decode cX7_goOn 114 = .ok (.goto 61, 3) := by decide +kernel
theorem dX7_goOn_117 : decode cX7_goOn 117 = .ok (.aload_n 0, 1) := by decide +kernel
theorem dX7_goOn_118 : decode cX7_goOn 118 = .ok (.getfield 35, 3) := by decide +kernel
theorem dX7_goOn_121 : decode cX7_goOn 121 = .ok (.invokevirtual 73, 3) := by decide +kernel
theorem dX7_goOn_124 : decode cX7_goOn 124 = .ok (.iconst 1, 1) := by decide +kernel
theorem dX7_goOn_125 : decode cX7_goOn 125 = .ok (.if_icmp .ne 11, 3) := by decide +kernel
theorem dX7_goOn_128 : decode cX7_goOn 128 = .ok (.aload_n 0, 1) := by decide +kernel
theorem dX7_goOn_129 : decode cX7_goOn 129 = .ok (.iload_n 1, 1) := by decide +kernel
theorem dX7_goOn_130 : decode cX7_goOn 130 = .ok (.invokevirtual 172, 3) := by decide +kernel
theorem dX7_goOn_133 : decode cX7_goOn 133 = .ok (.goto 42, 3) := by decide +kernel
theorem dX7_goOn_136 : decode cX7_goOn 136 = .ok (.aload_n 0, 1) := by decide +kernel
theorem dX7_goOn_137 : decode cX7_goOn 137 = .ok (.invokevirtual 175, 3) := by decide +kernel
theorem dX7_goOn_140 : decode cX7_goOn 140 = .ok (.goto 35, 3) := by decide +kernel
theorem dX7_goOn_143 : decode cX7_goOn 143 = .ok (.aload_n 0, 1) := by decide +kernel
theorem dX7_goOn_144 : decode cX7_goOn 144 = .ok (.getfield 28, 3) := by decide +kernel
theorem dX7_goOn_147 : decode cX7_goOn 147 = .ok (.aload_n 0, 1) := by decide +kernel
theorem dX7_goOn_148 : decode cX7_goOn 148 = .ok (.getfield 43, 3) := by decide +kernel
theorem dX7_goOn_151 : decode cX7_goOn 151 = .ok (.iload_n 1, 1) := by decide +kernel
theorem dX7_goOn_152 : decode cX7_goOn 152 = .ok (.invokevirtual 127, 3) := by decide +kernel
theorem dX7_goOn_155 : decode cX7_goOn 155 = .ok (.invokevirtual 178, 3) := by decide +kernel
theorem dX7_goOn_158 : decode cX7_goOn 158 = .ok (.aload_n 0, 1) := by decide +kernel
theorem dX7_goOn_159 : decode cX7_goOn 159 = .ok (.getfield 35, 3) := by decide +kernel
theorem dX7_goOn_162 : decode cX7_goOn 162 = .ok (.invokevirtual 181, 3) := by decide +kernel
theorem dX7_goOn_165 : decode cX7_goOn 165 = .ok (.goto 10, 3) := by decide +kernel
theorem dX7_goOn_168 : decode cX7_goOn 168 = .ok (.aload_n 0, 1) := by decide +kernel
theorem dX7_goOn_169 : decode cX7_goOn 169 = .ok (.getfield 35, 3) := by decide +kernel
theorem dX7_goOn_172 : decode cX7_goOn 172 = .ok (.invokevirtual 181, 3) := by decide +kernel
theorem dX7_goOn_175 : decode cX7_goOn 175 = .ok (.return_, 1) := by decide +kernel
theorem dX7_goOnWithBoth_0 : decode cX7_goOnWithBoth 0 = .ok (.aload_n 0, 1) := by decide +kernel
theorem dX7_goOnWithBoth_1 : decode cX7_goOnWithBoth 1 = .ok (.getfield 35, 3) := by decide +kernel
theorem dX7_goOnWithBoth_4 : decode cX7_goOnWithBoth 4 = .ok (.invokevirtual 73, 3) := by decide +kernel
theorem dX7_goOnWithBoth_7 : decode cX7_goOnWithBoth 7 = .ok (.iconst 1, 1) := by decide +kernel
theorem dX7_goOnWithBoth_8 : decode cX7_goOnWithBoth 8 = .ok (.if_icmp .ne 26, 3) := by decide +kernel
theorem dX7_goOnWithBoth_11 : decode cX7_goOnWithBoth 11 = .ok (.aload_n 0, 1) := by decide +kernel
theorem dX7_goOnWithBoth_12 : decode cX7_goOnWithBoth 12 = .ok (.getfield 61, 3) := by decide +kernel
theorem dX7_goOnWithBoth_15 : decode cX7_goOnWithBoth 15 = .ok (.ifCond .ne 19, 3) := by decide +kernel
theorem dX7_goOnWithBoth_18 : decode cX7_goOnWithBoth 18 = .ok (.aload_n 0, 1) := by decide +kernel
theorem dX7_goOnWithBoth_19 : decode cX7_goOnWithBoth 19 = .ok (.iconst 2, 1) := by decide +kernel
theorem dX7_goOnWithBoth_20 : decode cX7_goOnWithBoth 20 = .ok (.aload_n 0, 1) := by decide +kernel
theorem dX7_goOnWithBoth_21 : decode cX7_goOnWithBoth 21 = .ok (.getfield 43, 3) := by decide +kernel
theorem dX7_goOnWithBoth_24 : decode cX7_goOnWithBoth 24 = .ok (.iload_n 1, 1) := by decide +kernel
theorem dX7_goOnWithBoth_25 : decode cX7_goOnWithBoth 25 = .ok (.invokevirtual 132, 3) := by decide +kernel
theorem dX7_goOnWithBoth_28 : decode cX7_goOnWithBoth 28 = .ok (.invokevirtual 141, 3) := by decide +kernel
theorem dX7_goOnWithBoth_31 : decode cX7_goOnWithBoth 31 = .ok (.goto 10, 3) := by decide +kernel
theorem dX7_goOnWithBoth_34 : decode cX7_goOnWithBoth 34 = .ok (.aload_n 0, 1) := by decide +kernel
theorem dX7_goOnWithBoth_35 : decode cX7_goOnWithBoth 35 = .ok (.getfield 35, 3) := by decide +kernel
theorem dX7_goOnWithBoth_38 : decode cX7_goOnWithBoth 38 = .ok (.invokevirtual 181, 3) := by decide +kernel
theorem dX7_goOnWithBoth_41 : decode cX7_goOnWithBoth 41 = .ok (.return_, 1) := by decide +kernel
theorem dX7_goOnWithLoop_0 : decode cX7_goOnWithLoop 0 = .ok (.aload_n 0, 1) := by decide +kernel
theorem dX7_goOnWithLoop_1 : decode cX7_goOnWithLoop 1 = .ok (.getfield 61, 3) := by decide +kernel
theorem dX7_goOnWithLoop_4 : decode cX7_goOnWithLoop 4 = .ok (.ifCond .eq 13, 3) := by decide +kernel
theorem dX7_goOnWithLoop_7 : decode cX7_goOnWithLoop 7 = .ok (.aload_n 0, 1) := by decide +kernel
theorem dX7_goOnWithLoop_8 : decode cX7_goOnWithLoop 8 = .ok (.getfield 35, 3) := by decide +kernel
theorem dX7_goOnWithLoop_11 : decode cX7_goOnWithLoop 11 = .ok (.invokevirtual 181, 3) := by decide +kernel
theorem dX7_goOnWithLoop_14 : decode cX7_goOnWithLoop 14 = .ok (.goto 43, 3) := by decide +kernel
theorem dX7_goOnWithLoop_17 : decode cX7_goOnWithLoop 17 = .ok (.aload_n 0, 1) := by decide +kernel
theorem dX7_goOnWithLoop_18 : decode cX7_goOnWithLoop 18 = .ok (.getfield 21, 3) := by decide +kernel
theorem dX7_goOnWithLoop_21 : decode cX7_goOnWithLoop 21 = .ok (.iconst 0, 1) := by decide +kernel
theorem dX7_goOnWithLoop_22 : decode cX7_goOnWithLoop 22 = .ok (.iconst 1, 1) := by decide +kernel
theorem dX7_goOnWithLoop_23 : decode cX7_goOnWithLoop 23 = .ok (.invokevirtual 53, 3) := by decide +kernel
theorem dX7_goOnWithLoop_26 : decode cX7_goOnWithLoop 26 = .ok (.ifCond .eq 26, 3) := by decide +kernel
theorem dX7_goOnWithLoop_29 : decode cX7_goOnWithLoop 29 = .ok (.aload_n 0, 1) := by decide +kernel
theorem dX7_goOnWithLoop_30 : decode cX7_goOnWithLoop 30 = .ok (.aload_n 0, 1) := by decide +kernel
theorem dX7_goOnWithLoop_31 : decode cX7_goOnWithLoop 31 = .ok (.getfield 43, 3) := by decide +kernel
theorem dX7_goOnWithLoop_34 : decode cX7_goOnWithLoop 34 = .ok (.iload_n 1, 1) := by decide +kernel
theorem dX7_goOnWithLoop_35 : decode cX7_goOnWithLoop 35 = .ok (.invokevirtual 127, 3) := by decide +kernel
theorem dX7_goOnWithLoop_38 : decode cX7_goOnWithLoop 38 = .ok (.aload_n 0, 1) := by decide +kernel
theorem dX7_goOnWithLoop_39 : decode cX7_goOnWithLoop 39 = .ok (.getfield 43, 3) := by decide +kernel
theorem dX7_goOnWithLoop_42 : decode cX7_goOnWithLoop 42 = .ok (.iload_n 1, 1) := by decide +kernel
theorem dX7_goOnWithLoop_43 : decode cX7_goOnWithLoop 43 = .ok (.invokevirtual 132, 3) := by decide +kernel
theorem dX7_goOnWithLoop_46 : decode cX7_goOnWithLoop 46 = .ok (.invokevirtual 147, 3) := by decide +kernel
theorem dX7_goOnWithLoop_49 : decode cX7_goOnWithLoop 49 = .ok (.goto 8, 3) := by decide +kernel
theorem dX7_goOnWithLoop_52 : decode cX7_goOnWithLoop 52 = .ok (.aload_n 0, 1) := by decide +kernel
theorem dX7_goOnWithLoop_53 : decode cX7_goOnWithLoop 53 = .ok (.iconst 3, 1) := by decide +kernel
theorem dX7_goOnWithLoop_54 : decode cX7_goOnWithLoop 54 = .ok (.invokevirtual 166, 3) := by decide +kernel
theorem dX7_goOnWithLoop_57 : decode cX7_goOnWithLoop 57 = .ok (.return_, 1) := by decide +kernel
theorem dX7_goOnWithTry_0 : decode cX7_goOnWithTry 0 = .ok (.aload_n 0, 1) := by decide +kernel
theorem dX7_goOnWithTry_1 : decode cX7_goOnWithTry 1 = .ok (.getfield 61, 3) := by decide +kernel
theorem dX7_goOnWithTry_4 : decode cX7_goOnWithTry 4 = .ok (.iconst 2, 1) := by decide +kernel
theorem dX7_goOnWithTry_5 : decode cX7_goOnWithTry 5 = .ok (.if_icmp .ne 26, 3) := by decide +kernel
theorem dX7_goOnWithTry_8 : decode cX7_goOnWithTry 8 = .ok (.aload_n 0, 1) := by decide +kernel
theorem dX7_goOnWithTry_9 : decode cX7_goOnWithTry 9 = .ok (.getfield 43, 3) := by decide +kernel
theorem dX7_goOnWithTry_12 : decode cX7_goOnWithTry 12 = .ok (.iload_n 1, 1) := by decide +kernel
theorem dX7_goOnWithTry_13 : decode cX7_goOnWithTry 13 = .ok (.invokevirtual 132, 3) := by decide +kernel
theorem dX7_goOnWithTry_16 : decode cX7_goOnWithTry 16 = .ok (.aload_n 0, 1) := by decide +kernel
theorem dX7_goOnWithTry_17 : decode cX7_goOnWithTry 17 = .ok (.getfield 82, 3) := by decide +kernel
theorem dX7_goOnWithTry_20 : decode cX7_goOnWithTry 20 = .ok (.ishr, 1) := by decide +kernel
theorem dX7_goOnWithTry_21 : decode cX7_goOnWithTry 21 = .ok (.iconst 1, 1) := by decide +kernel
theorem dX7_goOnWithTry_22 : decode cX7_goOnWithTry 22 = .ok (.iand, 1) := by decide +kernel
theorem dX7_goOnWithTry_23 : decode cX7_goOnWithTry 23 = .ok (.iconst 1, 1) := by decide +kernel
theorem dX7_goOnWithTry_24 : decode cX7_goOnWithTry 24 = .ok (.if_icmp .ne 7, 3) := by decide +kernel
theorem dX7_goOnWithTry_27 : decode cX7_goOnWithTry 27 = .ok (.iconst 1, 1) := by decide +kernel
theorem dX7_goOnWithTry_28 : decode cX7_goOnWithTry 28 = .ok (.goto 4, 3) := by decide +kernel
theorem dX7_goOnWithTry_31 : decode cX7_goOnWithTry 31 = .ok (.iconst 0, 1) := by decide +kernel
theorem dX7_goOnWithTry_32 : decode cX7_goOnWithTry 32 = .ok (.istore_n 2, 1) := by decide +kernel
theorem dX7_goOnWithTry_33 : decode cX7_goOnWithTry 33 = .ok (.aload_n 0, 1) := by decide +kernel
theorem dX7_goOnWithTry_34 : decode cX7_goOnWithTry 34 = .ok (.getfield 35, 3) := by decide +kernel
theorem dX7_goOnWithTry_37 : decode cX7_goOnWithTry 37 = .ok (.invokevirtual 73, 3) := by decide +kernel
theorem dX7_goOnWithTry_40 : decode cX7_goOnWithTry 40 = .ok (.iconst 1, 1) := by decide +kernel
theorem dX7_goOnWithTry_41 : decode cX7_goOnWithTry 41 = .ok (.if_icmp .ne 7, 3) := by decide +kernel
theorem dX7_goOnWithTry_44 : decode cX7_goOnWithTry 44 = .ok (.iload_n 2, 1) := by decide +kernel
theorem dX7_goOnWithTry_45 : decode cX7_goOnWithTry 45 = .ok (.ifCond .ne 13, 3) := by decide +kernel
theorem dX7_goOnWithTry_48 : decode cX7_goOnWithTry 48 = .ok (.aload_n 0, 1) := by decide +kernel
theorem dX7_goOnWithTry_49 : decode cX7_goOnWithTry 49 = .ok (.getfield 35, 3) := by decide +kernel
theorem dX7_goOnWithTry_52 : decode cX7_goOnWithTry 52 = .ok (.invokevirtual 181, 3) := by decide +kernel
theorem dX7_goOnWithTry_55 : decode cX7_goOnWithTry 55 = .ok (.goto 76, 3) := by decide +kernel
theorem dX7_goOnWithTry_58 : decode cX7_goOnWithTry 58 = .ok (.aload_n 0, 1) := by decide +kernel
theorem dX7_goOnWithTry_59 : decode cX7_goOnWithTry 59 = .ok (.getfield 21, 3) := by decide +kernel
theorem dX7_goOnWithTry_62 : decode cX7_goOnWithTry 62 = .ok (.iconst 2, 1) := by decide +kernel
theorem dX7_goOnWithTry_63 : decode cX7_goOnWithTry 63 = .ok (.bipush 10, 2) := by decide +kernel
theorem dX7_goOnWithTry_65 : decode cX7_goOnWithTry 65 = .ok (.invokevirtual 53, 3) := by decide +kernel
theorem dX7_goOnWithTry_68 : decode cX7_goOnWithTry 68 = .ok (.ifCond .eq 58, 3) := by decide +kernel
theorem dX7_goOnWithTry_71 : decode cX7_goOnWithTry 71 = .ok (.aload_n 0, 1) := by decide +kernel
theorem dX7_goOnWithTry_72 : decode cX7_goOnWithTry 72 = .ok (.getfield 21, 3) := by decide +kernel
theorem dX7_goOnWithTry_75 : decode cX7_goOnWithTry 75 = .ok (.iload_n 1, 1) := by decide +kernel
theorem dX7_goOnWithTry_76 : decode cX7_goOnWithTry 76 = .ok (.invokevirtual 184, 3) := by decide +kernel
theorem dX7_goOnWithTry_79 : decode cX7_goOnWithTry 79 = .ok (.aload_n 0, 1) := by decide +kernel
theorem dX7_goOnWithTry_80 : decode cX7_goOnWithTry 80 = .ok (.getfield 12, 3) := by decide +kernel
theorem dX7_goOnWithTry_83 : decode cX7_goOnWithTry 83 = .ok (.bipush 7, 2) := by decide +kernel
theorem dX7_goOnWithTry_85 : decode cX7_goOnWithTry 85 = .ok (.aload_n 0, 1) := by decide +kernel
theorem dX7_goOnWithTry_86 : decode cX7_goOnWithTry 86 = .ok (.getfield 82, 3) := by decide +kernel
theorem dX7_goOnWithTry_89 : decode cX7_goOnWithTry 89 = .ok (.iconst 5, 1) := by decide +kernel
theorem dX7_goOnWithTry_90 : decode cX7_goOnWithTry 90 = .ok (.if_icmp .ne 13, 3) := by decide +kernel
theorem dX7_goOnWithTry_93 : decode cX7_goOnWithTry 93 = .ok (.bipush 100, 2) := by decide +kernel
theorem dX7_goOnWithTry_95 : decode cX7_goOnWithTry 95 = .ok (.aload_n 0, 1) := by decide +kernel
theorem dX7_goOnWithTry_96 : decode cX7_goOnWithTry 96 = .ok (.getfield 85, 3) := by decide +kernel
theorem dX7_goOnWithTry_99 : decode cX7_goOnWithTry 99 = .ok (.iadd, 1) := by decide +kernel
theorem dX7_goOnWithTry_100 : decode cX7_goOnWithTry 100 = .ok (.goto 7, 3) := by decide +kernel
theorem dX7_goOnWithTry_103 : decode cX7_goOnWithTry 103 = .ok (.aload_n 0, 1) := by decide +kernel
theorem dX7_goOnWithTry_104 : decode cX7_goOnWithTry 104 = .ok (.getfield 82, 3) := by decide +kernel
theorem dX7_goOnWithTry_107 : decode cX7_goOnWithTry 107 = .ok (.invokevirtual 116, 3) := by decide +kernel
theorem dX7_goOnWithTry_110 : decode cX7_goOnWithTry 110 = .ok (.aload_n 0, 1) := by decide +kernel
theorem dX7_goOnWithTry_111 : decode cX7_goOnWithTry 111 = .ok (.iconst 2, 1) := by decide +kernel
theorem dX7_goOnWithTry_112 : decode cX7_goOnWithTry 112 = .ok (.aload_n 0, 1) := by decide +kernel
theorem dX7_goOnWithTry_113 : decode cX7_goOnWithTry 113 = .ok (.getfield 43, 3) := by decide +kernel
theorem dX7_goOnWithTry_116 : decode cX7_goOnWithTry 116 = .ok (.iload_n 1, 1) := by decide +kernel
theorem dX7_goOnWithTry_117 : decode cX7_goOnWithTry 117 = .ok (.invokevirtual 135, 3) := by decide +kernel
theorem dX7_goOnWithTry_120 : decode cX7_goOnWithTry 120 = .ok (.invokevirtual 141, 3) := by decide +kernel
theorem dX7_goOnWithTry_123 : decode cX7_goOnWithTry 123 = .ok (.goto 8, 3) := by decide +kernel
theorem dX7_goOnWithTry_126 : decode cX7_goOnWithTry 126 = .ok (.aload_n 0, 1) := by decide +kernel
theorem dX7_goOnWithTry_127 : decode cX7_goOnWithTry 127 = .ok (.iconst 3, 1) := by decide +kernel
theorem dX7_goOnWithTry_128 : decode cX7_goOnWithTry 128 = .ok (.invokevirtual 166, 3) := by decide +kernel
theorem dX7_goOnWithTry_131 : decode cX7_goOnWithTry 131 = .ok (.return_, 1) := by decide +kernel
theorem dX7_beginLastPart_0 : decode cX7_beginLastPart 0 = .ok (.aload_n 0, 1) := by decide +kernel
theorem dX7_beginLastPart_1 : decode cX7_beginLastPart 1 = .ok (.invokevirtual 189, 3) := by decide +kernel
theorem dX7_beginLastPart_4 : decode cX7_beginLastPart 4 = .ok (.istore_n 2, 1) := by decide +kernel
theorem dX7_beginLastPart_5 : decode cX7_beginLastPart 5 = .ok (.iload_n 2, 1) := by decide +kernel
theorem dX7_beginLastPart_6 : decode cX7_beginLastPart 6 = .ok (.iconst (-1), 1) := by decide +kernel
theorem dX7_beginLastPart_7 : decode cX7_beginLastPart 7 = .ok (.if_icmp .ne 11, 3) := by decide +kernel
theorem dX7_beginLastPart_10 : decode cX7_beginLastPart 10 = .ok (.aload_n 0, 1) := by decide +kernel
theorem dX7_beginLastPart_11 : decode cX7_beginLastPart 11 = .ok (.iconst 3, 1) := by decide +kernel
theorem dX7_beginLastPart_12 : decode cX7_beginLastPart 12 = .ok (.invokevirtual 166, 3) := by decide +kernel
theorem dX7_beginLastPart_15 : decode cX7_beginLastPart 15 = .ok (.goto 43, 3) := by decide +kernel
theorem dX7_beginLastPart_18 : decode cX7_beginLastPart 18 = .ok (.aload_n 0, 1) := by decide +kernel
theorem dX7_beginLastPart_19 : decode cX7_beginLastPart 19 = .ok (.getfield 35, 3) := by decide +kernel
theorem dX7_beginLastPart_22 : decode cX7_beginLastPart 22 = .ok (.aload_n 0, 1) := by decide +kernel
theorem dX7_beginLastPart_23 : decode cX7_beginLastPart 23 = .ok (.getfield 61, 3) := by decide +kernel
theorem dX7_beginLastPart_26 : decode cX7_beginLastPart 26 = .ok (.aload_n 0, 1) := by decide +kernel
theorem dX7_beginLastPart_27 : decode cX7_beginLastPart 27 = .ok (.getfield 82, 3) := by decide +kernel
theorem dX7_beginLastPart_30 : decode cX7_beginLastPart 30 = .ok (.aload_n 0, 1) := by decide +kernel
theorem dX7_beginLastPart_31 : decode cX7_beginLastPart 31 = .ok (.getfield 85, 3) := by decide +kernel
theorem dX7_beginLastPart_34 : decode cX7_beginLastPart 34 = .ok (.invokevirtual 192, 3) := by decide +kernel
theorem dX7_beginLastPart_37 : decode cX7_beginLastPart 37 = .ok (.aload_n 0, 1) := by decide +kernel
theorem dX7_beginLastPart_38 : decode cX7_beginLastPart 38 = .ok (.getfield 21, 3) := by decide +kernel
theorem dX7_beginLastPart_41 : decode cX7_beginLastPart 41 = .ok (.iload_n 1, 1) := by decide +kernel
theorem dX7_beginLastPart_42 : decode cX7_beginLastPart 42 = .ok (.invokevirtual 184, 3) := by decide +kernel
theorem dX7_beginLastPart_45 : decode cX7_beginLastPart 45 = .ok (.aload_n 0, 1) := by decide +kernel
theorem dX7_beginLastPart_46 : decode cX7_beginLastPart 46 = .ok (.iload_n 2, 1) := by decide +kernel
theorem dX7_beginLastPart_47 : decode cX7_beginLastPart 47 = .ok (.aload_n 0, 1) := by decide +kernel
theorem dX7_beginLastPart_48 : decode cX7_beginLastPart 48 = .ok (.getfield 43, 3) := by decide +kernel
theorem dX7_beginLastPart_51 : decode cX7_beginLastPart 51 = .ok (.iload_n 1, 1) := by decide +kernel
theorem dX7_beginLastPart_52 : decode cX7_beginLastPart 52 = .ok (.invokevirtual 132, 3) := by decide +kernel
theorem dX7_beginLastPart_55 : decode cX7_beginLastPart 55 = .ok (.invokevirtual 141, 3) := by decide +kernel
theorem dX7_beginLastPart_58 : decode cX7_beginLastPart 58 = .ok (.return_, 1) := by decide +kernel
theorem dX7_payForLastPart_0 : decode cX7_payForLastPart 0 = .ok (.aload_n 0, 1) := by decide +kernel
theorem dX7_payForLastPart_1 : decode cX7_payForLastPart 1 = .ok (.getfield 61, 3) := by decide +kernel
theorem dX7_payForLastPart_4 : decode cX7_payForLastPart 4 = .ok (.iconst 3, 1) := by decide +kernel
theorem dX7_payForLastPart_5 : decode cX7_payForLastPart 5 = .ok (.if_icmp .eq 18, 3) := by decide +kernel
theorem dX7_payForLastPart_8 : decode cX7_payForLastPart 8 = .ok (.aload_n 0, 1) := by decide +kernel
theorem dX7_payForLastPart_9 : decode cX7_payForLastPart 9 = .ok (.getfield 21, 3) := by decide +kernel
theorem dX7_payForLastPart_12 : decode cX7_payForLastPart 12 = .ok (.iconst 3, 1) := by decide +kernel
theorem dX7_payForLastPart_13 : decode cX7_payForLastPart 13 = .ok (.bipush 10, 2) := by decide +kernel
theorem dX7_payForLastPart_15 : decode cX7_payForLastPart 15 = .ok (.invokevirtual 53, 3) := by decide +kernel
theorem dX7_payForLastPart_18 : decode cX7_payForLastPart 18 = .ok (.ifCond .eq 5, 3) := by decide +kernel
theorem dX7_payForLastPart_21 : decode cX7_payForLastPart 21 = .ok (.iconst 2, 1) := by decide +kernel
theorem dX7_payForLastPart_22 : decode cX7_payForLastPart 22 = .ok (.ireturn, 1) := by decide +kernel
theorem dX7_payForLastPart_23 : decode cX7_payForLastPart 23 = .ok (.aload_n 0, 1) := by decide +kernel
theorem dX7_payForLastPart_24 : decode cX7_payForLastPart 24 = .ok (.getfield 21, 3) := by decide +kernel
theorem dX7_payForLastPart_27 : decode cX7_payForLastPart 27 = .ok (.invokevirtual 196, 3) := by decide +kernel
theorem dX7_payForLastPart_30 : decode cX7_payForLastPart 30 = .ok (.ifCond .eq 5, 3) := by decide +kernel
theorem dX7_payForLastPart_33 : decode cX7_payForLastPart 33 = .ok (.iconst (-1), 1) := by decide +kernel
theorem dX7_payForLastPart_34 : decode cX7_payForLastPart 34 = .ok (.ireturn, 1) := by decide +kernel
theorem dX7_payForLastPart_35 : decode cX7_payForLastPart 35 = .ok (.aload_n 0, 1) := by decide +kernel
theorem dX7_payForLastPart_36 : decode cX7_payForLastPart 36 = .ok (.getfield 21, 3) := by decide +kernel
theorem dX7_payForLastPart_39 : decode cX7_payForLastPart 39 = .ok (.iconst 1, 1) := by decide +kernel
theorem dX7_payForLastPart_40 : decode cX7_payForLastPart 40 = .ok (.invokevirtual 199, 3) := by decide +kernel
theorem dX7_payForLastPart_43 : decode cX7_payForLastPart 43 = .ok (.aload_n 0, 1) := by decide +kernel
theorem dX7_payForLastPart_44 : decode cX7_payForLastPart 44 = .ok (.getfield 21, 3) := by decide +kernel
theorem dX7_payForLastPart_47 : decode cX7_payForLastPart 47 = .ok (.iconst 3, 1) := by decide +kernel
theorem dX7_payForLastPart_48 : decode cX7_payForLastPart 48 = .ok (.bipush 10, 2) := by decide +kernel
theorem dX7_payForLastPart_50 : decode cX7_payForLastPart 50 = .ok (.invokevirtual 53, 3) := by decide +kernel
theorem dX7_payForLastPart_53 : decode cX7_payForLastPart 53 = .ok (.ifCond .eq 5, 3) := by decide +kernel
theorem dX7_payForLastPart_56 : decode cX7_payForLastPart 56 = .ok (.iconst 3, 1) := by decide +kernel
theorem dX7_payForLastPart_57 : decode cX7_payForLastPart 57 = .ok (.ireturn, 1) := by decide +kernel
theorem dX7_payForLastPart_58 : decode cX7_payForLastPart 58 = .ok (.aload_n 0, 1) := by decide +kernel
theorem dX7_payForLastPart_59 : decode cX7_payForLastPart 59 = .ok (.getfield 21, 3) := by decide +kernel
theorem dX7_payForLastPart_62 : decode cX7_payForLastPart 62 = .ok (.iconst 0, 1) := by decide +kernel
theorem dX7_payForLastPart_63 : decode cX7_payForLastPart 63 = .ok (.invokevirtual 199, 3) := by decide +kernel
theorem dX7_payForLastPart_66 : decode cX7_payForLastPart 66 = .ok (.iconst (-1), 1) := by decide +kernel
theorem dX7_payForLastPart_67 : decode cX7_payForLastPart 67 = .ok (.ireturn, 1) := by decide +kernel
theorem dX7_endLastPart_0 : decode cX7_endLastPart 0 = .ok (.aload_n 0, 1) := by decide +kernel
theorem dX7_endLastPart_1 : decode cX7_endLastPart 1 = .ok (.getfield 35, 3) := by decide +kernel
theorem dX7_endLastPart_4 : decode cX7_endLastPart 4 = .ok (.invokevirtual 73, 3) := by decide +kernel
theorem dX7_endLastPart_7 : decode cX7_endLastPart 7 = .ok (.iconst 3, 1) := by decide +kernel
theorem dX7_endLastPart_8 : decode cX7_endLastPart 8 = .ok (.if_icmp .ne 19, 3) := by decide +kernel
theorem dX7_endLastPart_11 : decode cX7_endLastPart 11 = .ok (.aload_n 0, 1) := by decide +kernel
theorem dX7_endLastPart_12 : decode cX7_endLastPart 12 = .ok (.getfield 21, 3) := by decide +kernel
theorem dX7_endLastPart_15 : decode cX7_endLastPart 15 = .ok (.iconst 0, 1) := by decide +kernel
theorem dX7_endLastPart_16 : decode cX7_endLastPart 16 = .ok (.invokevirtual 199, 3) := by decide +kernel
theorem dX7_endLastPart_19 : decode cX7_endLastPart 19 = .ok (.aload_n 0, 1) := by decide +kernel
theorem dX7_endLastPart_20 : decode cX7_endLastPart 20 = .ok (.iconst 3, 1) := by decide +kernel
theorem dX7_endLastPart_21 : decode cX7_endLastPart 21 = .ok (.putfield 61, 3) := by decide +kernel
theorem dX7_endLastPart_24 : decode cX7_endLastPart 24 = .ok (.goto 43, 3) := by decide +kernel
theorem dX7_endLastPart_27 : decode cX7_endLastPart 27 = .ok (.aload_n 0, 1) := by decide +kernel
theorem dX7_endLastPart_28 : decode cX7_endLastPart 28 = .ok (.getfield 61, 3) := by decide +kernel
theorem dX7_endLastPart_31 : decode cX7_endLastPart 31 = .ok (.ifCond .ne 36, 3) := by decide +kernel
theorem dX7_endLastPart_34 : decode cX7_endLastPart 34 = .ok (.aload_n 0, 1) := by decide +kernel
theorem dX7_endLastPart_35 : decode cX7_endLastPart 35 = .ok (.aload_n 0, 1) := by decide +kernel
theorem dX7_endLastPart_36 : decode cX7_endLastPart 36 = .ok (.getfield 35, 3) := by decide +kernel
theorem dX7_endLastPart_39 : decode cX7_endLastPart 39 = .ok (.invokevirtual 203, 3) := by decide +kernel
theorem dX7_endLastPart_42 : decode cX7_endLastPart 42 = .ok (.putfield 61, 3) := by decide +kernel
theorem dX7_endLastPart_45 : decode cX7_endLastPart 45 = .ok (.aload_n 0, 1) := by decide +kernel
theorem dX7_endLastPart_46 : decode cX7_endLastPart 46 = .ok (.aload_n 0, 1) := by decide +kernel
theorem dX7_endLastPart_47 : decode cX7_endLastPart 47 = .ok (.getfield 35, 3) := by decide +kernel
theorem dX7_endLastPart_50 : decode cX7_endLastPart 50 = .ok (.invokevirtual 206, 3) := by decide +kernel
theorem dX7_endLastPart_53 : decode cX7_endLastPart 53 = .ok (.putfield 82, 3) := by decide +kernel
theorem dX7_endLastPart_56 : decode cX7_endLastPart 56 = .ok (.aload_n 0, 1) := by decide +kernel
theorem dX7_endLastPart_57 : decode cX7_endLastPart 57 = .ok (.aload_n 0, 1) := by decide +kernel
theorem dX7_endLastPart_58 : decode cX7_endLastPart 58 = .ok (.getfield 35, 3) := by decide +kernel
theorem dX7_endLastPart_61 : decode cX7_endLastPart 61 = .ok (.invokevirtual 209, 3) := by decide +kernel
theorem dX7_endLastPart_64 : decode cX7_endLastPart 64 = .ok (.putfield 85, 3) := by decide +kernel
theorem dX7_endLastPart_67 : decode cX7_endLastPart 67 = .ok (.aload_n 0, 1) := by decide +kernel
theorem dX7_endLastPart_68 : decode cX7_endLastPart 68 = .ok (.getfield 35, 3) := by decide +kernel
theorem dX7_endLastPart_71 : decode cX7_endLastPart 71 = .ok (.invokevirtual 181, 3) := by decide +kernel
theorem dX7_endLastPart_74 : decode cX7_endLastPart 74 = .ok (.return_, 1) := by decide +kernel
theorem dX7_loopOrEnd_0 : decode cX7_loopOrEnd 0 = .ok (.aload_n 0, 1) := by decide +kernel
theorem dX7_loopOrEnd_1 : decode cX7_loopOrEnd 1 = .ok (.getfield 12, 3) := by decide +kernel
theorem dX7_loopOrEnd_4 : decode cX7_loopOrEnd 4 = .ok (.iload_n 1, 1) := by decide +kernel
theorem dX7_loopOrEnd_5 : decode cX7_loopOrEnd 5 = .ok (.invokevirtual 144, 3) := by decide +kernel
theorem dX7_loopOrEnd_8 : decode cX7_loopOrEnd 8 = .ok (.ifCond .eq 12, 3) := by decide +kernel
theorem dX7_loopOrEnd_11 : decode cX7_loopOrEnd 11 = .ok (.aload_n 0, 1) := by decide +kernel
theorem dX7_loopOrEnd_12 : decode cX7_loopOrEnd 12 = .ok (.iconst 1, 1) := by decide +kernel
theorem dX7_loopOrEnd_13 : decode cX7_loopOrEnd 13 = .ok (.iload_n 2, 1) := by decide +kernel
theorem dX7_loopOrEnd_14 : decode cX7_loopOrEnd 14 = .ok (.invokevirtual 141, 3) := by decide +kernel
theorem dX7_loopOrEnd_17 : decode cX7_loopOrEnd 17 = .ok (.goto 10, 3) := by decide +kernel
theorem dX7_loopOrEnd_20 : decode cX7_loopOrEnd 20 = .ok (.aload_n 0, 1) := by decide +kernel
theorem dX7_loopOrEnd_21 : decode cX7_loopOrEnd 21 = .ok (.getfield 35, 3) := by decide +kernel
theorem dX7_loopOrEnd_24 : decode cX7_loopOrEnd 24 = .ok (.invokevirtual 181, 3) := by decide +kernel
theorem dX7_loopOrEnd_27 : decode cX7_loopOrEnd 27 = .ok (.return_, 1) := by decide +kernel
theorem dX7_call_0 : decode cX7_call 0 = .ok (.aload_n 0, 1) := by decide +kernel
theorem dX7_call_1 : decode cX7_call 1 = .ok (.getfield 43, 3) := by decide +kernel
theorem dX7_call_4 : decode cX7_call 4 = .ok (.iload_n 1, 1) := by decide +kernel
theorem dX7_call_5 : decode cX7_call 5 = .ok (.invokevirtual 212, 3) := by decide +kernel
theorem dX7_call_8 : decode cX7_call 8 = .ok (.istore_n 2, 1) := by decide +kernel
theorem dX7_call_9 : decode cX7_call 9 = .ok (.aload_n 0, 1) := by decide +kernel
theorem dX7_call_10 : decode cX7_call 10 = .ok (.getfield 124, 3) := by decide +kernel
theorem dX7_call_13 : decode cX7_call 13 = .ok (.bipush 8, 2) := by decide +kernel
theorem dX7_call_15 : decode cX7_call 15 = .ok (.if_icmp .lt 20, 3) := by decide +kernel
theorem dX7_call_18 : decode cX7_call 18 = .ok (.aload_n 0, 1) := by decide +kernel
theorem dX7_call_19 : decode cX7_call 19 = .ok (.bipush 6, 2) := by decide +kernel
theorem dX7_call_21 : decode cX7_call 21 = .ok (.iconst 0, 1) := by decide +kernel
theorem dX7_call_22 : decode cX7_call 22 = .ok (.invokevirtual 215, 3) := by decide +kernel
theorem dX7_call_25 : decode cX7_call 25 = .ok (.aload_n 0, 1) := by decide +kernel
theorem dX7_call_26 : decode cX7_call 26 = .ok (.getfield 35, 3) := by decide +kernel
theorem dX7_call_29 : decode cX7_call 29 = .ok (.invokevirtual 181, 3) := by decide +kernel
theorem dX7_call_32 : decode cX7_call 32 = .ok (.goto 57, 3) := by decide +kernel
theorem dX7_call_35 : decode cX7_call 35 = .ok (.iload_n 2, 1) := by decide +kernel
theorem dX7_call_36 : decode cX7_call 36 = .ok (.iconst (-1), 1) := by decide +kernel
theorem dX7_call_37 : decode cX7_call 37 = .ok (.if_icmp .ne 19, 3) := by decide +kernel
theorem dX7_call_40 : decode cX7_call 40 = .ok (.aload_n 0, 1) := by decide +kernel
theorem dX7_call_41 : decode cX7_call 41 = .ok (.iconst 1, 1) := by decide +kernel
theorem dX7_call_42 : decode cX7_call 42 = .ok (.iconst 0, 1) := by decide +kernel
theorem dX7_call_43 : decode cX7_call 43 = .ok (.invokevirtual 215, 3) := by decide +kernel
theorem dX7_call_46 : decode cX7_call 46 = .ok (.aload_n 0, 1) := by decide +kernel
theorem dX7_call_47 : decode cX7_call 47 = .ok (.getfield 35, 3) := by decide +kernel
theorem dX7_call_50 : decode cX7_call 50 = .ok (.invokevirtual 181, 3) := by decide +kernel
theorem dX7_call_53 : decode cX7_call 53 = .ok (.goto 36, 3) := by decide +kernel
theorem dX7_call_56 : decode cX7_call 56 = .ok (.aload_n 0, 1) := by decide +kernel
theorem dX7_call_57 : decode cX7_call 57 = .ok (.getfield 21, 3) := by decide +kernel
theorem dX7_call_60 : decode cX7_call 60 = .ok (.iconst 1, 1) := by decide +kernel
theorem dX7_call_61 : decode cX7_call 61 = .ok (.iconst 2, 1) := by decide +kernel
theorem dX7_call_62 : decode cX7_call 62 = .ok (.invokevirtual 53, 3) := by decide +kernel
theorem dX7_call_65 : decode cX7_call 65 = .ok (.ifCond .eq 19, 3) := by decide +kernel
theorem dX7_call_68 : decode cX7_call 68 = .ok (.aload_n 0, 1) := by decide +kernel
theorem dX7_call_69 : decode cX7_call 69 = .ok (.getfield 35, 3) := by decide +kernel
theorem dX7_call_72 : decode cX7_call 72 = .ok (.iconst 1, 1) := by decide +kernel
theorem dX7_call_73 : decode cX7_call 73 = .ok (.invokevirtual 218, 3) := by decide +kernel
theorem dX7_call_76 : decode cX7_call 76 = .ok (.aload_n 0, 1) := by decide +kernel
theorem dX7_call_77 : decode cX7_call 77 = .ok (.iload_n 2, 1) := by decide +kernel
theorem dX7_call_78 : decode cX7_call 78 = .ok (.invokevirtual 57, 3) := by decide +kernel
theorem dX7_call_81 : decode cX7_call 81 = .ok (.goto 8, 3) := by decide +kernel
theorem dX7_call_84 : decode cX7_call 84 = .ok (.aload_n 0, 1) := by decide +kernel
theorem dX7_call_85 : decode cX7_call 85 = .ok (.iconst 3, 1) := by decide +kernel
theorem dX7_call_86 : decode cX7_call 86 = .ok (.invokevirtual 166, 3) := by decide +kernel
theorem dX7_call_89 : decode cX7_call 89 = .ok (.return_, 1) := by decide +kernel
theorem dX7_enter_0 : decode cX7_enter 0 = .ok (.aload_n 0, 1) := by decide +kernel
theorem dX7_enter_1 : decode cX7_enter 1 = .ok (.dup, 1) := by decide +kernel
theorem dX7_enter_2 : decode cX7_enter 2 = .ok (.getfield 124, 3) := by decide +kernel
theorem dX7_enter_5 : decode cX7_enter 5 = .ok (.iconst 1, 1) := by decide +kernel
theorem dX7_enter_6 : decode cX7_enter 6 = .ok (.iadd, 1) := by decide +kernel
theorem dX7_enter_7 : decode cX7_enter 7 = .ok (.putfield 124, 3) := by decide +kernel
theorem dX7_enter_10 : decode cX7_enter 10 = .ok (.aload_n 0, 1) := by decide +kernel
theorem dX7_enter_11 : decode cX7_enter 11 = .ok (.aload_n 0, 1) := by decide +kernel
theorem dX7_enter_12 : decode cX7_enter 12 = .ok (.getfield 97, 3) := by decide +kernel
theorem dX7_enter_15 : decode cX7_enter 15 = .ok (.aload_n 0, 1) := by decide +kernel
theorem dX7_enter_16 : decode cX7_enter 16 = .ok (.getfield 124, 3) := by decide +kernel
theorem dX7_enter_19 : decode cX7_enter 19 = .ok (.invokestatic 221, 3) := by decide +kernel
theorem dX7_enter_22 : decode cX7_enter 22 = .ok (.putfield 97, 3) := by decide +kernel
theorem dX7_enter_25 : decode cX7_enter 25 = .ok (.aload_n 0, 1) := by decide +kernel
theorem dX7_enter_26 : decode cX7_enter 26 = .ok (.getfield 35, 3) := by decide +kernel
theorem dX7_enter_29 : decode cX7_enter 29 = .ok (.iload_n 1, 1) := by decide +kernel
theorem dX7_enter_30 : decode cX7_enter 30 = .ok (.invokevirtual 227, 3) := by decide +kernel
theorem dX7_enter_33 : decode cX7_enter 33 = .ok (.return_, 1) := by decide +kernel
theorem dX7_doPart_0 : decode cX7_doPart 0 = .ok (.aload_n 0, 1) := by decide +kernel
theorem dX7_doPart_1 : decode cX7_doPart 1 = .ok (.getfield 35, 3) := by decide +kernel
theorem dX7_doPart_4 : decode cX7_doPart 4 = .ok (.iload_n 1, 1) := by decide +kernel
theorem dX7_doPart_5 : decode cX7_doPart 5 = .ok (.invokevirtual 218, 3) := by decide +kernel
theorem dX7_doPart_8 : decode cX7_doPart 8 = .ok (.aload_n 0, 1) := by decide +kernel
theorem dX7_doPart_9 : decode cX7_doPart 9 = .ok (.getfield 35, 3) := by decide +kernel
theorem dX7_doPart_12 : decode cX7_doPart 12 = .ok (.iload_n 2, 1) := by decide +kernel
theorem dX7_doPart_13 : decode cX7_doPart 13 = .ok (.invokevirtual 227, 3) := by decide +kernel
theorem dX7_doPart_16 : decode cX7_doPart 16 = .ok (.return_, 1) := by decide +kernel
theorem dX7_end_0 : decode cX7_end 0 = .ok (.aload_n 0, 1) := by decide +kernel
theorem dX7_end_1 : decode cX7_end 1 = .ok (.iload_n 1, 1) := by decide +kernel
theorem dX7_end_2 : decode cX7_end 2 = .ok (.putfield 61, 3) := by decide +kernel
theorem dX7_end_5 : decode cX7_end 5 = .ok (.aload_n 0, 1) := by decide +kernel
theorem dX7_end_6 : decode cX7_end 6 = .ok (.getfield 35, 3) := by decide +kernel
theorem dX7_end_9 : decode cX7_end 9 = .ok (.invokevirtual 181, 3) := by decide +kernel
theorem dX7_end_12 : decode cX7_end 12 = .ok (.return_, 1) := by decide +kernel
theorem dX7_raise_0 : decode cX7_raise 0 = .ok (.aload_n 0, 1) := by decide +kernel
theorem dX7_raise_1 : decode cX7_raise 1 = .ok (.iconst 2, 1) := by decide +kernel
theorem dX7_raise_2 : decode cX7_raise 2 = .ok (.putfield 61, 3) := by decide +kernel
theorem dX7_raise_5 : decode cX7_raise 5 = .ok (.aload_n 0, 1) := by decide +kernel
theorem dX7_raise_6 : decode cX7_raise 6 = .ok (.iload_n 1, 1) := by decide +kernel
theorem dX7_raise_7 : decode cX7_raise 7 = .ok (.putfield 82, 3) := by decide +kernel
theorem dX7_raise_10 : decode cX7_raise 10 = .ok (.aload_n 0, 1) := by decide +kernel
theorem dX7_raise_11 : decode cX7_raise 11 = .ok (.iload_n 2, 1) := by decide +kernel
theorem dX7_raise_12 : decode cX7_raise 12 = .ok (.putfield 85, 3) := by decide +kernel
theorem dX7_raise_15 : decode cX7_raise 15 = .ok (.return_, 1) := by decide +kernel
theorem dX7_doAtOnce_0 : decode cX7_doAtOnce 0 = .ok (.aload_n 0, 1) := by decide +kernel
theorem dX7_doAtOnce_1 : decode cX7_doAtOnce 1 = .ok (.iconst 0, 1) := by decide +kernel
theorem dX7_doAtOnce_2 : decode cX7_doAtOnce 2 = .ok (.putfield 61, 3) := by decide +kernel
theorem dX7_doAtOnce_5 : decode cX7_doAtOnce 5 = .ok (.iload_n 1, 1) := by decide +kernel
theorem dX7_doAtOnce_6 : decode cX7_doAtOnce 6 = .ok (.iconst 5, 1) := by decide +kernel
theorem dX7_doAtOnce_7 : decode cX7_doAtOnce 7 = .ok (.if_icmp .gt 15, 3) := by decide +kernel
theorem dX7_doAtOnce_10 : decode cX7_doAtOnce 10 = .ok (.aload_n 0, 1) := by decide +kernel
theorem dX7_doAtOnce_11 : decode cX7_doAtOnce 11 = .ok (.iload_n 1, 1) := by decide +kernel
theorem dX7_doAtOnce_12 : decode cX7_doAtOnce 12 = .ok (.iload_n 2, 1) := by decide +kernel
theorem dX7_doAtOnce_13 : decode cX7_doAtOnce 13 = .ok (.iload_n 3, 1) := by decide +kernel
theorem dX7_doAtOnce_14 : decode cX7_doAtOnce 14 = .ok (.iload 4, 2) := by decide +kernel
theorem dX7_doAtOnce_16 : decode cX7_doAtOnce 16 = .ok (.invokevirtual 232, 3) := by decide +kernel
theorem dX7_doAtOnce_19 : decode cX7_doAtOnce 19 = .ok (.goto 93, 3) := by decide +kernel
theorem dX7_doAtOnce_22 : decode cX7_doAtOnce 22 = .ok (.iload_n 1, 1) := by decide +kernel
theorem dX7_doAtOnce_23 : decode cX7_doAtOnce 23 = .ok (.bipush 11, 2) := by decide +kernel
theorem dX7_doAtOnce_25 : decode cX7_doAtOnce 25 = .ok (.if_icmp .gt 15, 3) := by decide +kernel
theorem dX7_doAtOnce_28 : decode cX7_doAtOnce 28 = .ok (.aload_n 0, 1) := by decide +kernel
theorem dX7_doAtOnce_29 : decode cX7_doAtOnce 29 = .ok (.iload_n 1, 1) := by decide +kernel
theorem dX7_doAtOnce_30 : decode cX7_doAtOnce 30 = .ok (.iload_n 2, 1) := by decide +kernel
theorem dX7_doAtOnce_31 : decode cX7_doAtOnce 31 = .ok (.iload_n 3, 1) := by decide +kernel
theorem dX7_doAtOnce_32 : decode cX7_doAtOnce 32 = .ok (.iload 4, 2) := by decide +kernel
theorem dX7_doAtOnce_34 : decode cX7_doAtOnce 34 = .ok (.invokevirtual 235, 3) := by decide +kernel
theorem dX7_doAtOnce_37 : decode cX7_doAtOnce 37 = .ok (.goto 75, 3) := by decide +kernel
theorem dX7_doAtOnce_40 : decode cX7_doAtOnce 40 = .ok (.iload_n 1, 1) := by decide +kernel
theorem dX7_doAtOnce_41 : decode cX7_doAtOnce 41 = .ok (.bipush 16, 2) := by decide +kernel
theorem dX7_doAtOnce_43 : decode cX7_doAtOnce 43 = .ok (.if_icmp .ne 26, 3) := by decide +kernel
theorem dX7_doAtOnce_46 : decode cX7_doAtOnce 46 = .ok (.aload_n 0, 1) := by decide +kernel
theorem dX7_doAtOnce_47 : decode cX7_doAtOnce 47 = .ok (.getfield 12, 3) := by decide +kernel
theorem dX7_doAtOnce_50 : decode cX7_doAtOnce 50 = .ok (.aload_n 0, 1) := by decide +kernel
theorem dX7_doAtOnce_51 : decode cX7_doAtOnce 51 = .ok (.getfield 12, 3) := by decide +kernel
theorem dX7_doAtOnce_54 : decode cX7_doAtOnce 54 = .ok (.iload_n 2, 1) := by decide +kernel
theorem dX7_doAtOnce_55 : decode cX7_doAtOnce 55 = .ok (.invokevirtual 144, 3) := by decide +kernel
theorem dX7_doAtOnce_58 : decode cX7_doAtOnce 58 = .ok (.invokevirtual 238, 3) := by decide +kernel
theorem dX7_doAtOnce_61 : decode cX7_doAtOnce 61 = .ok (.aload_n 0, 1) := by decide +kernel
theorem dX7_doAtOnce_62 : decode cX7_doAtOnce 62 = .ok (.iconst 1, 1) := by decide +kernel
theorem dX7_doAtOnce_63 : decode cX7_doAtOnce 63 = .ok (.putfield 61, 3) := by decide +kernel
theorem dX7_doAtOnce_66 : decode cX7_doAtOnce 66 = .ok (.goto 46, 3) := by decide +kernel
theorem dX7_doAtOnce_69 : decode cX7_doAtOnce 69 = .ok (.iload_n 1, 1) := by decide +kernel
theorem dX7_doAtOnce_70 : decode cX7_doAtOnce 70 = .ok (.bipush 17, 2) := by decide +kernel
theorem dX7_doAtOnce_72 : decode cX7_doAtOnce 72 = .ok (.if_icmp .ne 19, 3) := by decide +kernel
theorem dX7_doAtOnce_75 : decode cX7_doAtOnce 75 = .ok (.aload_n 0, 1) := by decide +kernel
theorem dX7_doAtOnce_76 : decode cX7_doAtOnce 76 = .ok (.iconst 5, 1) := by decide +kernel
theorem dX7_doAtOnce_77 : decode cX7_doAtOnce 77 = .ok (.aload_n 0, 1) := by decide +kernel
theorem dX7_doAtOnce_78 : decode cX7_doAtOnce 78 = .ok (.getfield 12, 3) := by decide +kernel
theorem dX7_doAtOnce_81 : decode cX7_doAtOnce 81 = .ok (.iload_n 2, 1) := by decide +kernel
theorem dX7_doAtOnce_82 : decode cX7_doAtOnce 82 = .ok (.invokevirtual 144, 3) := by decide +kernel
theorem dX7_doAtOnce_85 : decode cX7_doAtOnce 85 = .ok (.invokevirtual 215, 3) := by decide +kernel
theorem dX7_doAtOnce_88 : decode cX7_doAtOnce 88 = .ok (.goto 24, 3) := by decide +kernel
theorem dX7_doAtOnce_91 : decode cX7_doAtOnce 91 = .ok (.iload_n 1, 1) := by decide +kernel
theorem dX7_doAtOnce_92 : decode cX7_doAtOnce 92 = .ok (.bipush 21, 2) := by decide +kernel
theorem dX7_doAtOnce_94 : decode cX7_doAtOnce 94 = .ok (.if_icmp .ne 18, 3) := by decide +kernel
theorem dX7_doAtOnce_97 : decode cX7_doAtOnce 97 = .ok (.aload_n 0, 1) := by decide +kernel
theorem dX7_doAtOnce_98 : decode cX7_doAtOnce 98 = .ok (.getfield 12, 3) := by decide +kernel
theorem dX7_doAtOnce_101 : decode cX7_doAtOnce 101 = .ok (.iload_n 2, 1) := by decide +kernel
theorem dX7_doAtOnce_102 : decode cX7_doAtOnce 102 = .ok (.aload_n 0, 1) := by decide +kernel
theorem dX7_doAtOnce_103 : decode cX7_doAtOnce 103 = .ok (.getfield 12, 3) := by decide +kernel
theorem dX7_doAtOnce_106 : decode cX7_doAtOnce 106 = .ok (.invokevirtual 88, 3) := by decide +kernel
theorem dX7_doAtOnce_109 : decode cX7_doAtOnce 109 = .ok (.invokevirtual 116, 3) := by decide +kernel
theorem dX7_doAtOnce_112 : decode cX7_doAtOnce 112 = .ok (.aload_n 0, 1) := by decide +kernel
theorem dX7_doAtOnce_113 : decode cX7_doAtOnce 113 = .ok (.getfield 35, 3) := by decide +kernel
theorem dX7_doAtOnce_116 : decode cX7_doAtOnce 116 = .ok (.invokevirtual 181, 3) := by decide +kernel
theorem dX7_doAtOnce_119 : decode cX7_doAtOnce 119 = .ok (.return_, 1) := by decide +kernel
theorem dX7_calculate_0 : decode cX7_calculate 0 = .ok (.aload_n 0, 1) := by decide +kernel
theorem dX7_calculate_1 : decode cX7_calculate 1 = .ok (.getfield 12, 3) := by decide +kernel
theorem dX7_calculate_4 : decode cX7_calculate 4 = .ok (.iload_n 3, 1) := by decide +kernel
theorem dX7_calculate_5 : decode cX7_calculate 5 = .ok (.invokevirtual 144, 3) := by decide +kernel
theorem dX7_calculate_8 : decode cX7_calculate 8 = .ok (.istore 5, 2) := by decide +kernel
theorem dX7_calculate_10 : decode cX7_calculate 10 = .ok (.aload_n 0, 1) := by decide +kernel
theorem dX7_calculate_11 : decode cX7_calculate 11 = .ok (.getfield 12, 3) := by decide +kernel
theorem dX7_calculate_14 : decode cX7_calculate 14 = .ok (.iload 4, 2) := by decide +kernel
theorem dX7_calculate_16 : decode cX7_calculate 16 = .ok (.invokevirtual 144, 3) := by decide +kernel
theorem dX7_calculate_19 : decode cX7_calculate 19 = .ok (.istore 6, 2) := by decide +kernel
theorem dX7_calculate_21 : decode cX7_calculate 21 = .ok (.iload_n 1, 1) := by decide +kernel
theorem dX7_calculate_22 : decode cX7_calculate 22 = .ok (.tableswitch 90 0 3 #[30, 42, 58, 74], 30) := by decide +kernel
theorem dX7_calculate_52 : decode cX7_calculate 52 = .ok (.aload_n 0, 1) := by decide +kernel
theorem dX7_calculate_53 : decode cX7_calculate 53 = .ok (.getfield 12, 3) := by decide +kernel
theorem dX7_calculate_56 : decode cX7_calculate 56 = .ok (.iload_n 2, 1) := by decide +kernel
theorem dX7_calculate_57 : decode cX7_calculate 57 = .ok (.iload_n 3, 1) := by decide +kernel
theorem dX7_calculate_58 : decode cX7_calculate 58 = .ok (.invokevirtual 116, 3) := by decide +kernel
theorem dX7_calculate_61 : decode cX7_calculate 61 = .ok (.goto 61, 3) := by decide +kernel
theorem dX7_calculate_64 : decode cX7_calculate 64 = .ok (.aload_n 0, 1) := by decide +kernel
theorem dX7_calculate_65 : decode cX7_calculate 65 = .ok (.getfield 12, 3) := by decide +kernel
theorem dX7_calculate_68 : decode cX7_calculate 68 = .ok (.iload_n 2, 1) := by decide +kernel
theorem dX7_calculate_69 : decode cX7_calculate 69 = .ok (.iload 5, 2) := by decide +kernel
theorem dX7_calculate_71 : decode cX7_calculate 71 = .ok (.iload 6, 2) := by decide +kernel
theorem dX7_calculate_73 : decode cX7_calculate 73 = .ok (.iadd, 1) := by decide +kernel
theorem dX7_calculate_74 : decode cX7_calculate 74 = .ok (.invokevirtual 116, 3) := by decide +kernel
theorem dX7_calculate_77 : decode cX7_calculate 77 = .ok (.goto 45, 3) := by decide +kernel
theorem dX7_calculate_80 : decode cX7_calculate 80 = .ok (.aload_n 0, 1) := by decide +kernel
theorem dX7_calculate_81 : decode cX7_calculate 81 = .ok (.getfield 12, 3) := by decide +kernel
theorem dX7_calculate_84 : decode cX7_calculate 84 = .ok (.iload_n 2, 1) := by decide +kernel
theorem dX7_calculate_85 : decode cX7_calculate 85 = .ok (.iload 5, 2) := by decide +kernel
theorem dX7_calculate_87 : decode cX7_calculate 87 = .ok (.iload 6, 2) := by decide +kernel
theorem dX7_calculate_89 : decode cX7_calculate 89 = .ok (.isub, 1) := by decide +kernel
theorem dX7_calculate_90 : decode cX7_calculate 90 = .ok (.invokevirtual 116, 3) := by decide +kernel
theorem dX7_calculate_93 : decode cX7_calculate 93 = .ok (.goto 29, 3) := by decide +kernel
theorem dX7_calculate_96 : decode cX7_calculate 96 = .ok (.aload_n 0, 1) := by decide +kernel
theorem dX7_calculate_97 : decode cX7_calculate 97 = .ok (.getfield 12, 3) := by decide +kernel
theorem dX7_calculate_100 : decode cX7_calculate 100 = .ok (.iload_n 2, 1) := by decide +kernel
theorem dX7_calculate_101 : decode cX7_calculate 101 = .ok (.iload 5, 2) := by decide +kernel
theorem dX7_calculate_103 : decode cX7_calculate 103 = .ok (.iload 6, 2) := by decide +kernel
theorem dX7_calculate_105 : decode cX7_calculate 105 = .ok (.imul, 1) := by decide +kernel
theorem dX7_calculate_106 : decode cX7_calculate 106 = .ok (.invokevirtual 116, 3) := by decide +kernel
theorem dX7_calculate_109 : decode cX7_calculate 109 = .ok (.goto 13, 3) := by decide +kernel
theorem dX7_calculate_112 : decode cX7_calculate 112 = .ok (.aload_n 0, 1) := by decide +kernel
theorem dX7_calculate_113 : decode cX7_calculate 113 = .ok (.iload_n 1, 1) := by decide +kernel
theorem dX7_calculate_114 : decode cX7_calculate 114 = .ok (.iload_n 2, 1) := by decide +kernel
theorem dX7_calculate_115 : decode cX7_calculate 115 = .ok (.iload 5, 2) := by decide +kernel
theorem dX7_calculate_117 : decode cX7_calculate 117 = .ok (.iload 6, 2) := by decide +kernel
theorem dX7_calculate_119 : decode cX7_calculate 119 = .ok (.invokevirtual 241, 3) := by decide +kernel
theorem dX7_calculate_122 : decode cX7_calculate 122 = .ok (.return_, 1) := by decide +kernel
theorem dX7_divide_0 : decode cX7_divide 0 = .ok (.iload 4, 2) := by decide +kernel
theorem dX7_divide_2 : decode cX7_divide 2 = .ok (.ifCond .ne 12, 3) := by decide +kernel
theorem dX7_divide_5 : decode cX7_divide 5 = .ok (.aload_n 0, 1) := by decide +kernel
theorem dX7_divide_6 : decode cX7_divide 6 = .ok (.iconst 4, 1) := by decide +kernel
theorem dX7_divide_7 : decode cX7_divide 7 = .ok (.iconst 0, 1) := by decide +kernel
theorem dX7_divide_8 : decode cX7_divide 8 = .ok (.invokevirtual 215, 3) := by decide +kernel
theorem dX7_divide_11 : decode cX7_divide 11 = .ok (.goto 27, 3) := by decide +kernel
theorem dX7_divide_14 : decode cX7_divide 14 = .ok (.aload_n 0, 1) := by decide +kernel
theorem dX7_divide_15 : decode cX7_divide 15 = .ok (.getfield 12, 3) := by decide +kernel
theorem dX7_divide_18 : decode cX7_divide 18 = .ok (.iload_n 2, 1) := by decide +kernel
theorem dX7_divide_19 : decode cX7_divide 19 = .ok (.iload_n 1, 1) := by decide +kernel
theorem dX7_divide_20 : decode cX7_divide 20 = .ok (.iconst 4, 1) := by decide +kernel
theorem dX7_divide_21 : decode cX7_divide 21 = .ok (.if_icmp .ne 10, 3) := by decide +kernel
theorem dX7_divide_24 : decode cX7_divide 24 = .ok (.iload_n 3, 1) := by decide +kernel
theorem dX7_divide_25 : decode cX7_divide 25 = .ok (.iload 4, 2) := by decide +kernel
theorem dX7_divide_27 : decode cX7_divide 27 = .ok (.idiv, 1) := by decide +kernel
theorem dX7_divide_28 : decode cX7_divide 28 = .ok (.goto 7, 3) := by decide +kernel
theorem dX7_divide_31 : decode cX7_divide 31 = .ok (.iload_n 3, 1) := by decide +kernel
theorem dX7_divide_32 : decode cX7_divide 32 = .ok (.iload 4, 2) := by decide +kernel
theorem dX7_divide_34 : decode cX7_divide 34 = .ok (.irem, 1) := by decide +kernel
theorem dX7_divide_35 : decode cX7_divide 35 = .ok (.invokevirtual 116, 3) := by decide +kernel
theorem dX7_divide_38 : decode cX7_divide 38 = .ok (.return_, 1) := by decide +kernel
theorem dX7_doWithRow_0 : decode cX7_doWithRow 0 = .ok (.iload_n 1, 1) := by decide +kernel
theorem dX7_doWithRow_1 : decode cX7_doWithRow 1 = .ok (.tableswitch 160 6 10 #[35, 51, 96, 140, 149], 35) := by decide +kernel
theorem dX7_doWithRow_36 : decode cX7_doWithRow 36 = .ok (.aload_n 0, 1) := by decide +kernel
theorem dX7_doWithRow_37 : decode cX7_doWithRow 37 = .ok (.iload_n 2, 1) := by decide +kernel
theorem dX7_doWithRow_38 : decode cX7_doWithRow 38 = .ok (.aload_n 0, 1) := by decide +kernel
theorem dX7_doWithRow_39 : decode cX7_doWithRow 39 = .ok (.getfield 12, 3) := by decide +kernel
theorem dX7_doWithRow_42 : decode cX7_doWithRow 42 = .ok (.iload_n 3, 1) := by decide +kernel
theorem dX7_doWithRow_43 : decode cX7_doWithRow 43 = .ok (.invokevirtual 144, 3) := by decide +kernel
theorem dX7_doWithRow_46 : decode cX7_doWithRow 46 = .ok (.invokevirtual 244, 3) := by decide +kernel
theorem dX7_doWithRow_49 : decode cX7_doWithRow 49 = .ok (.goto 121, 3) := by decide +kernel
theorem dX7_doWithRow_52 : decode cX7_doWithRow 52 = .ok (.aload_n 0, 1) := by decide +kernel
theorem dX7_doWithRow_53 : decode cX7_doWithRow 53 = .ok (.iload_n 3, 1) := by decide +kernel
theorem dX7_doWithRow_54 : decode cX7_doWithRow 54 = .ok (.aload_n 0, 1) := by decide +kernel
theorem dX7_doWithRow_55 : decode cX7_doWithRow 55 = .ok (.getfield 12, 3) := by decide +kernel
theorem dX7_doWithRow_58 : decode cX7_doWithRow 58 = .ok (.iload 4, 2) := by decide +kernel
theorem dX7_doWithRow_60 : decode cX7_doWithRow 60 = .ok (.invokevirtual 144, 3) := by decide +kernel
theorem dX7_doWithRow_63 : decode cX7_doWithRow 63 = .ok (.invokevirtual 247, 3) := by decide +kernel
theorem dX7_doWithRow_66 : decode cX7_doWithRow 66 = .ok (.ifCond .eq 104, 3) := by decide +kernel
theorem dX7_doWithRow_69 : decode cX7_doWithRow 69 = .ok (.aload_n 0, 1) := by decide +kernel
theorem dX7_doWithRow_70 : decode cX7_doWithRow 70 = .ok (.getfield 12, 3) := by decide +kernel
theorem dX7_doWithRow_73 : decode cX7_doWithRow 73 = .ok (.iload_n 2, 1) := by decide +kernel
theorem dX7_doWithRow_74 : decode cX7_doWithRow 74 = .ok (.aload_n 0, 1) := by decide +kernel
theorem dX7_doWithRow_75 : decode cX7_doWithRow 75 = .ok (.getfield 12, 3) := by decide +kernel
theorem dX7_doWithRow_78 : decode cX7_doWithRow 78 = .ok (.iload_n 3, 1) := by decide +kernel
theorem dX7_doWithRow_79 : decode cX7_doWithRow 79 = .ok (.aload_n 0, 1) := by decide +kernel
theorem dX7_doWithRow_80 : decode cX7_doWithRow 80 = .ok (.getfield 12, 3) := by decide +kernel
theorem dX7_doWithRow_83 : decode cX7_doWithRow 83 = .ok (.iload 4, 2) := by decide +kernel
theorem dX7_doWithRow_85 : decode cX7_doWithRow 85 = .ok (.invokevirtual 144, 3) := by decide +kernel
theorem dX7_doWithRow_88 : decode cX7_doWithRow 88 = .ok (.invokevirtual 250, 3) := by decide +kernel
theorem dX7_doWithRow_91 : decode cX7_doWithRow 91 = .ok (.invokevirtual 116, 3) := by decide +kernel
theorem dX7_doWithRow_94 : decode cX7_doWithRow 94 = .ok (.goto 76, 3) := by decide +kernel
theorem dX7_doWithRow_97 : decode cX7_doWithRow 97 = .ok (.aload_n 0, 1) := by decide +kernel
theorem dX7_doWithRow_98 : decode cX7_doWithRow 98 = .ok (.iload_n 2, 1) := by decide +kernel
theorem dX7_doWithRow_99 : decode cX7_doWithRow 99 = .ok (.aload_n 0, 1) := by decide +kernel
theorem dX7_doWithRow_100 : decode cX7_doWithRow 100 = .ok (.getfield 12, 3) := by decide +kernel
theorem dX7_doWithRow_103 : decode cX7_doWithRow 103 = .ok (.iload_n 3, 1) := by decide +kernel
theorem dX7_doWithRow_104 : decode cX7_doWithRow 104 = .ok (.invokevirtual 144, 3) := by decide +kernel
theorem dX7_doWithRow_107 : decode cX7_doWithRow 107 = .ok (.invokevirtual 247, 3) := by decide +kernel
theorem dX7_doWithRow_110 : decode cX7_doWithRow 110 = .ok (.ifCond .eq 60, 3) := by decide +kernel
theorem dX7_doWithRow_113 : decode cX7_doWithRow 113 = .ok (.aload_n 0, 1) := by decide +kernel
theorem dX7_doWithRow_114 : decode cX7_doWithRow 114 = .ok (.getfield 12, 3) := by decide +kernel
theorem dX7_doWithRow_117 : decode cX7_doWithRow 117 = .ok (.iload_n 2, 1) := by decide +kernel
theorem dX7_doWithRow_118 : decode cX7_doWithRow 118 = .ok (.aload_n 0, 1) := by decide +kernel
theorem dX7_doWithRow_119 : decode cX7_doWithRow 119 = .ok (.getfield 12, 3) := by decide +kernel
theorem dX7_doWithRow_122 : decode cX7_doWithRow 122 = .ok (.iload_n 3, 1) := by decide +kernel
theorem dX7_doWithRow_123 : decode cX7_doWithRow 123 = .ok (.invokevirtual 144, 3) := by decide +kernel
theorem dX7_doWithRow_126 : decode cX7_doWithRow 126 = .ok (.aload_n 0, 1) := by decide +kernel
theorem dX7_doWithRow_127 : decode cX7_doWithRow 127 = .ok (.getfield 12, 3) := by decide +kernel
theorem dX7_doWithRow_130 : decode cX7_doWithRow 130 = .ok (.iload 4, 2) := by decide +kernel
theorem dX7_doWithRow_132 : decode cX7_doWithRow 132 = .ok (.invokevirtual 144, 3) := by decide +kernel
theorem dX7_doWithRow_135 : decode cX7_doWithRow 135 = .ok (.invokevirtual 253, 3) := by decide +kernel
theorem dX7_doWithRow_138 : decode cX7_doWithRow 138 = .ok (.goto 32, 3) := by decide +kernel
theorem dX7_doWithRow_141 : decode cX7_doWithRow 141 = .ok (.aload_n 0, 1) := by decide +kernel
theorem dX7_doWithRow_142 : decode cX7_doWithRow 142 = .ok (.iload_n 2, 1) := by decide +kernel
theorem dX7_doWithRow_143 : decode cX7_doWithRow 143 = .ok (.iload_n 3, 1) := by decide +kernel
theorem dX7_doWithRow_144 : decode cX7_doWithRow 144 = .ok (.invokevirtual 256, 3) := by decide +kernel
theorem dX7_doWithRow_147 : decode cX7_doWithRow 147 = .ok (.goto 23, 3) := by decide +kernel
theorem dX7_doWithRow_150 : decode cX7_doWithRow 150 = .ok (.aload_n 0, 1) := by decide +kernel
theorem dX7_doWithRow_151 : decode cX7_doWithRow 151 = .ok (.getfield 12, 3) := by decide +kernel
theorem dX7_doWithRow_154 : decode cX7_doWithRow 154 = .ok (.iload_n 2, 1) := by decide +kernel
theorem dX7_doWithRow_155 : decode cX7_doWithRow 155 = .ok (.invokevirtual 259, 3) := by decide +kernel
theorem dX7_doWithRow_158 : decode cX7_doWithRow 158 = .ok (.goto 12, 3) := by decide +kernel
theorem dX7_doWithRow_161 : decode cX7_doWithRow 161 = .ok (.aload_n 0, 1) := by decide +kernel
theorem dX7_doWithRow_162 : decode cX7_doWithRow 162 = .ok (.getfield 12, 3) := by decide +kernel
theorem dX7_doWithRow_165 : decode cX7_doWithRow 165 = .ok (.iload_n 2, 1) := by decide +kernel
theorem dX7_doWithRow_166 : decode cX7_doWithRow 166 = .ok (.iload_n 3, 1) := by decide +kernel
theorem dX7_doWithRow_167 : decode cX7_doWithRow 167 = .ok (.invokevirtual 262, 3) := by decide +kernel
theorem dX7_doWithRow_170 : decode cX7_doWithRow 170 = .ok (.return_, 1) := by decide +kernel
theorem dX7_makeRow_0 : decode cX7_makeRow 0 = .ok (.aload_n 0, 1) := by decide +kernel
theorem dX7_makeRow_1 : decode cX7_makeRow 1 = .ok (.getfield 21, 3) := by decide +kernel
theorem dX7_makeRow_4 : decode cX7_makeRow 4 = .ok (.iconst 4, 1) := by decide +kernel
theorem dX7_makeRow_5 : decode cX7_makeRow 5 = .ok (.iload_n 2, 1) := by decide +kernel
theorem dX7_makeRow_6 : decode cX7_makeRow 6 = .ok (.invokestatic 265, 3) := by decide +kernel
theorem dX7_makeRow_9 : decode cX7_makeRow 9 = .ok (.invokevirtual 53, 3) := by decide +kernel
theorem dX7_makeRow_12 : decode cX7_makeRow 12 = .ok (.ifCond .ne 11, 3) := by decide +kernel
theorem dX7_makeRow_15 : decode cX7_makeRow 15 = .ok (.aload_n 0, 1) := by decide +kernel
theorem dX7_makeRow_16 : decode cX7_makeRow 16 = .ok (.iconst 3, 1) := by decide +kernel
theorem dX7_makeRow_17 : decode cX7_makeRow 17 = .ok (.putfield 61, 3) := by decide +kernel
theorem dX7_makeRow_20 : decode cX7_makeRow 20 = .ok (.goto 25, 3) := by decide +kernel
theorem dX7_makeRow_23 : decode cX7_makeRow 23 = .ok (.iload_n 2, 1) := by decide +kernel
theorem dX7_makeRow_24 : decode cX7_makeRow 24 = .ok (.ifCond .ge 12, 3) := by decide +kernel
theorem dX7_makeRow_27 : decode cX7_makeRow 27 = .ok (.aload_n 0, 1) := by decide +kernel
theorem dX7_makeRow_28 : decode cX7_makeRow 28 = .ok (.iconst 3, 1) := by decide +kernel
theorem dX7_makeRow_29 : decode cX7_makeRow 29 = .ok (.iconst 0, 1) := by decide +kernel
theorem dX7_makeRow_30 : decode cX7_makeRow 30 = .ok (.invokevirtual 215, 3) := by decide +kernel
theorem dX7_makeRow_33 : decode cX7_makeRow 33 = .ok (.goto 12, 3) := by decide +kernel
theorem dX7_makeRow_36 : decode cX7_makeRow 36 = .ok (.aload_n 0, 1) := by decide +kernel
theorem dX7_makeRow_37 : decode cX7_makeRow 37 = .ok (.getfield 12, 3) := by decide +kernel
theorem dX7_makeRow_40 : decode cX7_makeRow 40 = .ok (.iload_n 1, 1) := by decide +kernel
theorem dX7_makeRow_41 : decode cX7_makeRow 41 = .ok (.iload_n 2, 1) := by decide +kernel
theorem dX7_makeRow_42 : decode cX7_makeRow 42 = .ok (.invokevirtual 268, 3) := by decide +kernel
theorem dX7_makeRow_45 : decode cX7_makeRow 45 = .ok (.return_, 1) := by decide +kernel
theorem dX7_measureRow_0 : decode cX7_measureRow 0 = .ok (.aload_n 0, 1) := by decide +kernel
theorem dX7_measureRow_1 : decode cX7_measureRow 1 = .ok (.getfield 12, 3) := by decide +kernel
theorem dX7_measureRow_4 : decode cX7_measureRow 4 = .ok (.iload_n 2, 1) := by decide +kernel
theorem dX7_measureRow_5 : decode cX7_measureRow 5 = .ok (.invokevirtual 269, 3) := by decide +kernel
theorem dX7_measureRow_8 : decode cX7_measureRow 8 = .ok (.istore_n 3, 1) := by decide +kernel
theorem dX7_measureRow_9 : decode cX7_measureRow 9 = .ok (.iload_n 3, 1) := by decide +kernel
theorem dX7_measureRow_10 : decode cX7_measureRow 10 = .ok (.iconst (-1), 1) := by decide +kernel
theorem dX7_measureRow_11 : decode cX7_measureRow 11 = .ok (.if_icmp .ne 12, 3) := by decide +kernel
theorem dX7_measureRow_14 : decode cX7_measureRow 14 = .ok (.aload_n 0, 1) := by decide +kernel
theorem dX7_measureRow_15 : decode cX7_measureRow 15 = .ok (.iconst 1, 1) := by decide +kernel
theorem dX7_measureRow_16 : decode cX7_measureRow 16 = .ok (.iconst 0, 1) := by decide +kernel
theorem dX7_measureRow_17 : decode cX7_measureRow 17 = .ok (.invokevirtual 215, 3) := by decide +kernel
theorem dX7_measureRow_20 : decode cX7_measureRow 20 = .ok (.goto 12, 3) := by decide +kernel
theorem dX7_measureRow_23 : decode cX7_measureRow 23 = .ok (.aload_n 0, 1) := by decide +kernel
theorem dX7_measureRow_24 : decode cX7_measureRow 24 = .ok (.getfield 12, 3) := by decide +kernel
theorem dX7_measureRow_27 : decode cX7_measureRow 27 = .ok (.iload_n 1, 1) := by decide +kernel
theorem dX7_measureRow_28 : decode cX7_measureRow 28 = .ok (.iload_n 3, 1) := by decide +kernel
theorem dX7_measureRow_29 : decode cX7_measureRow 29 = .ok (.invokevirtual 116, 3) := by decide +kernel
theorem dX7_measureRow_32 : decode cX7_measureRow 32 = .ok (.return_, 1) := by decide +kernel
theorem dX7_reaches_0 : decode cX7_reaches 0 = .ok (.aload_n 0, 1) := by decide +kernel
theorem dX7_reaches_1 : decode cX7_reaches 1 = .ok (.getfield 12, 3) := by decide +kernel
theorem dX7_reaches_4 : decode cX7_reaches 4 = .ok (.iload_n 1, 1) := by decide +kernel
theorem dX7_reaches_5 : decode cX7_reaches 5 = .ok (.invokevirtual 269, 3) := by decide +kernel
theorem dX7_reaches_8 : decode cX7_reaches 8 = .ok (.istore_n 3, 1) := by decide +kernel
theorem dX7_reaches_9 : decode cX7_reaches 9 = .ok (.iload_n 3, 1) := by decide +kernel
theorem dX7_reaches_10 : decode cX7_reaches 10 = .ok (.iconst (-1), 1) := by decide +kernel
theorem dX7_reaches_11 : decode cX7_reaches 11 = .ok (.if_icmp .ne 11, 3) := by decide +kernel
theorem dX7_reaches_14 : decode cX7_reaches 14 = .ok (.aload_n 0, 1) := by decide +kernel
theorem dX7_reaches_15 : decode cX7_reaches 15 = .ok (.iconst 1, 1) := by decide +kernel
theorem dX7_reaches_16 : decode cX7_reaches 16 = .ok (.iconst 0, 1) := by decide +kernel
theorem dX7_reaches_17 : decode cX7_reaches 17 = .ok (.invokevirtual 215, 3) := by decide +kernel
theorem dX7_reaches_20 : decode cX7_reaches 20 = .ok (.iconst 0, 1) := by decide +kernel
theorem dX7_reaches_21 : decode cX7_reaches 21 = .ok (.ireturn, 1) := by decide +kernel
theorem dX7_reaches_22 : decode cX7_reaches 22 = .ok (.iload_n 2, 1) := by decide +kernel
theorem dX7_reaches_23 : decode cX7_reaches 23 = .ok (.iload_n 3, 1) := by decide +kernel
theorem dX7_reaches_24 : decode cX7_reaches 24 = .ok (.invokestatic 272, 3) := by decide +kernel
theorem dX7_reaches_27 : decode cX7_reaches 27 = .ok (.ifCond .ne 11, 3) := by decide +kernel
theorem dX7_reaches_30 : decode cX7_reaches 30 = .ok (.aload_n 0, 1) := by decide +kernel
theorem dX7_reaches_31 : decode cX7_reaches 31 = .ok (.iconst 2, 1) := by decide +kernel
theorem dX7_reaches_32 : decode cX7_reaches 32 = .ok (.iconst 0, 1) := by decide +kernel
theorem dX7_reaches_33 : decode cX7_reaches 33 = .ok (.invokevirtual 215, 3) := by decide +kernel
theorem dX7_reaches_36 : decode cX7_reaches 36 = .ok (.iconst 0, 1) := by decide +kernel
theorem dX7_reaches_37 : decode cX7_reaches 37 = .ok (.ireturn, 1) := by decide +kernel
theorem dX7_reaches_38 : decode cX7_reaches 38 = .ok (.iconst 1, 1) := by decide +kernel
theorem dX7_reaches_39 : decode cX7_reaches 39 = .ok (.ireturn, 1) := by decide +kernel
theorem dX9_make_0 : decode cX9_make 0 = .ok (.aload_n 0, 1) := by decide +kernel
theorem dX9_make_1 : decode cX9_make 1 = .ok (.getfield 10, 3) := by decide +kernel
theorem dX9_make_4 : decode cX9_make 4 = .ok (.iload_n 1, 1) := by decide +kernel
theorem dX9_make_5 : decode cX9_make 5 = .ok (.iload_n 2, 1) := by decide +kernel
theorem dX9_make_6 : decode cX9_make 6 = .ok (.iload_n 3, 1) := by decide +kernel
theorem dX9_make_7 : decode cX9_make 7 = .ok (.iload 4, 2) := by decide +kernel
theorem dX9_make_9 : decode cX9_make 9 = .ok (.invokevirtual 32, 3) := by decide +kernel
theorem dX9_make_12 : decode cX9_make 12 = .ok (.ifCond .ne 6, 3) := by decide +kernel
theorem dX9_make_15 : decode cX9_make 15 = .ok (.bipush (-2), 2) := by decide +kernel
theorem dX9_make_17 : decode cX9_make 17 = .ok (.ireturn, 1) := by decide +kernel
theorem dX9_make_18 : decode cX9_make 18 = .ok (.aload_n 0, 1) := by decide +kernel
theorem dX9_make_19 : decode cX9_make 19 = .ok (.getfield 10, 3) := by decide +kernel
theorem dX9_make_22 : decode cX9_make 22 = .ok (.invokevirtual 36, 3) := by decide +kernel
theorem dX9_make_25 : decode cX9_make 25 = .ok (.ifCond .eq 8, 3) := by decide +kernel
theorem dX9_make_28 : decode cX9_make 28 = .ok (.bipush (-3), 2) := by decide +kernel
theorem dX9_make_30 : decode cX9_make 30 = .ok (.goto 15, 3) := by decide +kernel
theorem dX9_make_33 : decode cX9_make 33 = .ok (.aload_n 0, 1) := by decide +kernel
theorem dX9_make_34 : decode cX9_make 34 = .ok (.getfield 10, 3) := by decide +kernel
theorem dX9_make_37 : decode cX9_make 37 = .ok (.iload_n 1, 1) := by decide +kernel
theorem dX9_make_38 : decode cX9_make 38 = .ok (.iload_n 2, 1) := by decide +kernel
theorem dX9_make_39 : decode cX9_make 39 = .ok (.iload_n 3, 1) := by decide +kernel
theorem dX9_make_40 : decode cX9_make 40 = .ok (.iload 4, 2) := by decide +kernel
theorem dX9_make_42 : decode cX9_make 42 = .ok (.invokevirtual 40, 3) := by decide +kernel
theorem dX9_make_45 : decode cX9_make 45 = .ok (.ireturn, 1) := by decide +kernel
theorem dX9_drop_0 : decode cX9_drop 0 = .ok (.aload_n 0, 1) := by decide +kernel
theorem dX9_drop_1 : decode cX9_drop 1 = .ok (.getfield 10, 3) := by decide +kernel
theorem dX9_drop_4 : decode cX9_drop 4 = .ok (.invokevirtual 44, 3) := by decide +kernel
theorem dX9_drop_7 : decode cX9_drop 7 = .ok (.ifCond .eq 13, 3) := by decide +kernel
theorem dX9_drop_10 : decode cX9_drop 10 = .ok (.aload_n 0, 1) := by decide +kernel
theorem dX9_drop_11 : decode cX9_drop 11 = .ok (.getfield 10, 3) := by decide +kernel
theorem dX9_drop_14 : decode cX9_drop 14 = .ok (.invokevirtual 47, 3) := by decide +kernel
theorem dX9_drop_17 : decode cX9_drop 17 = .ok (.goto 5, 3) := by decide +kernel
theorem dX9_drop_20 : decode cX9_drop 20 = .ok (.bipush (-2), 2) := by decide +kernel
theorem dX9_drop_22 : decode cX9_drop 22 = .ok (.ireturn, 1) := by decide +kernel
theorem dX9_body_0 : decode cX9_body 0 = .ok (.iload_n 2, 1) := by decide +kernel
theorem dX9_body_1 : decode cX9_body 1 = .ok (.iconst (-1), 1) := by decide +kernel
theorem dX9_body_2 : decode cX9_body 2 = .ok (.if_icmp .eq 14, 3) := by decide +kernel
theorem dX9_body_5 : decode cX9_body 5 = .ok (.aload_n 0, 1) := by decide +kernel
theorem dX9_body_6 : decode cX9_body 6 = .ok (.getfield 10, 3) := by decide +kernel
theorem dX9_body_9 : decode cX9_body 9 = .ok (.iload_n 2, 1) := by decide +kernel
theorem dX9_body_10 : decode cX9_body 10 = .ok (.invokevirtual 51, 3) := by decide +kernel
theorem dX9_body_13 : decode cX9_body 13 = .ok (.ifCond .eq 7, 3) := by decide +kernel
theorem dX9_body_16 : decode cX9_body 16 = .ok (.iconst 1, 1) := by decide +kernel
theorem dX9_body_17 : decode cX9_body 17 = .ok (.goto 4, 3) := by decide +kernel
theorem dX9_body_20 : decode cX9_body 20 = .ok (.iconst 0, 1) := by decide +kernel
theorem dX9_body_21 : decode cX9_body 21 = .ok (.istore_n 3, 1) := by decide +kernel
theorem dX9_body_22 : decode cX9_body 22 = .ok (.iload_n 1, 1) := by decide +kernel
theorem dX9_body_23 : decode cX9_body 23 = .ok (.bipush 8, 2) := by decide +kernel
theorem dX9_body_25 : decode cX9_body 25 = .ok (.invokestatic 55, 3) := by decide +kernel
theorem dX9_body_28 : decode cX9_body 28 = .ok (.ifCond .eq 7, 3) := by decide +kernel
theorem dX9_body_31 : decode cX9_body 31 = .ok (.iload_n 3, 1) := by decide +kernel
theorem dX9_body_32 : decode cX9_body 32 = .ok (.ifCond .ne 6, 3) := by decide +kernel
theorem dX9_body_35 : decode cX9_body 35 = .ok (.bipush (-2), 2) := by decide +kernel
theorem dX9_body_37 : decode cX9_body 37 = .ok (.ireturn, 1) := by decide +kernel
theorem dX9_body_38 : decode cX9_body 38 = .ok (.aload_n 0, 1) := by decide +kernel
theorem dX9_body_39 : decode cX9_body 39 = .ok (.getfield 10, 3) := by decide +kernel
theorem dX9_body_42 : decode cX9_body 42 = .ok (.iload_n 1, 1) := by decide +kernel
theorem dX9_body_43 : decode cX9_body 43 = .ok (.iload_n 2, 1) := by decide +kernel
theorem dX9_body_44 : decode cX9_body 44 = .ok (.invokevirtual 59, 3) := by decide +kernel
theorem dX9_body_47 : decode cX9_body 47 = .ok (.iconst 1, 1) := by decide +kernel
theorem dX9_body_48 : decode cX9_body 48 = .ok (.ireturn, 1) := by decide +kernel
theorem dX9_run_0 : decode cX9_run 0 = .ok (.aload_n 0, 1) := by decide +kernel
theorem dX9_run_1 : decode cX9_run 1 = .ok (.getfield 10, 3) := by decide +kernel
theorem dX9_run_4 : decode cX9_run 4 = .ok (.iload_n 1, 1) := by decide +kernel
theorem dX9_run_5 : decode cX9_run 5 = .ok (.invokevirtual 63, 3) := by decide +kernel
theorem dX9_run_8 : decode cX9_run 8 = .ok (.iconst (-1), 1) := by decide +kernel
theorem dX9_run_9 : decode cX9_run 9 = .ok (.if_icmp .eq 10, 3) := by decide +kernel
theorem dX9_run_12 : decode cX9_run 12 = .ok (.iload_n 3, 1) := by decide +kernel
theorem dX9_run_13 : decode cX9_run 13 = .ok (.invokestatic 67, 3) := by decide +kernel
theorem dX9_run_16 : decode cX9_run 16 = .ok (.ifCond .ne 6, 3) := by decide +kernel
theorem dX9_run_19 : decode cX9_run 19 = .ok (.bipush (-2), 2) := by decide +kernel
theorem dX9_run_21 : decode cX9_run 21 = .ok (.ireturn, 1) := by decide +kernel
theorem dX9_run_22 : decode cX9_run 22 = .ok (.aload_n 0, 1) := by decide +kernel
theorem dX9_run_23 : decode cX9_run 23 = .ok (.aload_n 0, 1) := by decide +kernel
theorem dX9_run_24 : decode cX9_run 24 = .ok (.getfield 25, 3) := by decide +kernel
theorem dX9_run_27 : decode cX9_run 27 = .ok (.aload_n 0, 1) := by decide +kernel
theorem dX9_run_28 : decode cX9_run 28 = .ok (.getfield 10, 3) := by decide +kernel
theorem dX9_run_31 : decode cX9_run 31 = .ok (.iload_n 1, 1) := by decide +kernel
theorem dX9_run_32 : decode cX9_run 32 = .ok (.invokevirtual 63, 3) := by decide +kernel
theorem dX9_run_35 : decode cX9_run 35 = .ok (.iload_n 2, 1) := by decide +kernel
theorem dX9_run_36 : decode cX9_run 36 = .ok (.iload_n 3, 1) := by decide +kernel
theorem dX9_run_37 : decode cX9_run 37 = .ok (.invokevirtual 70, 3) := by decide +kernel
theorem dX9_run_40 : decode cX9_run 40 = .ok (.invokevirtual 74, 3) := by decide +kernel
theorem dX9_run_43 : decode cX9_run 43 = .ok (.ireturn, 1) := by decide +kernel
theorem dX9_told_0 : decode cX9_told 0 = .ok (.aload_n 0, 1) := by decide +kernel
theorem dX9_told_1 : decode cX9_told 1 = .ok (.getfield 25, 3) := by decide +kernel
theorem dX9_told_4 : decode cX9_told 4 = .ok (.iload_n 1, 1) := by decide +kernel
theorem dX9_told_5 : decode cX9_told 5 = .ok (.invokevirtual 77, 3) := by decide +kernel
theorem dX9_told_8 : decode cX9_told 8 = .ok (.ireturn, 1) := by decide +kernel
theorem dX9_marks_0 : decode cX9_marks 0 = .ok (.iload_n 1, 1) := by decide +kernel
theorem dX9_marks_1 : decode cX9_marks 1 = .ok (.iconst 5, 1) := by decide +kernel
theorem dX9_marks_2 : decode cX9_marks 2 = .ok (.invokestatic 55, 3) := by decide +kernel
theorem dX9_marks_5 : decode cX9_marks 5 = .ok (.ifCond .eq 17, 3) := by decide +kernel
theorem dX9_marks_8 : decode cX9_marks 8 = .ok (.aload_n 0, 1) := by decide +kernel
theorem dX9_marks_9 : decode cX9_marks 9 = .ok (.getfield 25, 3) := by decide +kernel
theorem dX9_marks_12 : decode cX9_marks 12 = .ok (.getfield 82, 3) := by decide +kernel
theorem dX9_marks_15 : decode cX9_marks 15 = .ok (.iload_n 1, 1) := by decide +kernel
theorem dX9_marks_16 : decode cX9_marks 16 = .ok (.invokevirtual 86, 3) := by decide +kernel
