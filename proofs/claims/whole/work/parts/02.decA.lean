theorem dX0_init_0 : decode cX0_init 0 = .ok (.aload_n 0, 1) := by decide +kernel
theorem dX0_init_1 : decode cX0_init 1 = .ok (.invokespecial 3, 3) := by decide +kernel
theorem dX0_init_4 : decode cX0_init 4 = .ok (.aload_n 0, 1) := by decide +kernel
theorem dX0_init_5 : decode cX0_init 5 = .ok (.bipush 100, 2) := by decide +kernel
theorem dX0_init_7 : decode cX0_init 7 = .ok (.newarray .int, 2) := by decide +kernel
theorem dX0_init_9 : decode cX0_init 9 = .ok (.putfield 9, 3) := by decide +kernel
theorem dX0_init_12 : decode cX0_init 12 = .ok (.aload_n 0, 1) := by decide +kernel
theorem dX0_init_13 : decode cX0_init 13 = .ok (.bipush 100, 2) := by decide +kernel
theorem dX0_init_15 : decode cX0_init 15 = .ok (.newarray .int, 2) := by decide +kernel
theorem dX0_init_17 : decode cX0_init 17 = .ok (.putfield 15, 3) := by decide +kernel
theorem dX0_init_20 : decode cX0_init 20 = .ok (.aload_n 0, 1) := by decide +kernel
theorem dX0_init_21 : decode cX0_init 21 = .ok (.bipush 100, 2) := by decide +kernel
theorem dX0_init_23 : decode cX0_init 23 = .ok (.newarray .int, 2) := by decide +kernel
theorem dX0_init_25 : decode cX0_init 25 = .ok (.putfield 18, 3) := by decide +kernel
theorem dX0_init_28 : decode cX0_init 28 = .ok (.aload_n 0, 1) := by decide +kernel
theorem dX0_init_29 : decode cX0_init 29 = .ok (.bipush 100, 2) := by decide +kernel
theorem dX0_init_31 : decode cX0_init 31 = .ok (.newarray .int, 2) := by decide +kernel
theorem dX0_init_33 : decode cX0_init 33 = .ok (.putfield 21, 3) := by decide +kernel
theorem dX0_init_36 : decode cX0_init 36 = .ok (.aload_n 0, 1) := by decide +kernel
theorem dX0_init_37 : decode cX0_init 37 = .ok (.bipush 100, 2) := by decide +kernel
theorem dX0_init_39 : decode cX0_init 39 = .ok (.newarray .int, 2) := by decide +kernel
theorem dX0_init_41 : decode cX0_init 41 = .ok (.putfield 24, 3) := by decide +kernel
theorem dX0_init_44 : decode cX0_init 44 = .ok (.aload_n 0, 1) := by decide +kernel
theorem dX0_init_45 : decode cX0_init 45 = .ok (.bipush 100, 2) := by decide +kernel
theorem dX0_init_47 : decode cX0_init 47 = .ok (.newarray .int, 2) := by decide +kernel
theorem dX0_init_49 : decode cX0_init 49 = .ok (.putfield 27, 3) := by decide +kernel
theorem dX0_init_52 : decode cX0_init 52 = .ok (.aload_n 0, 1) := by decide +kernel
theorem dX0_init_53 : decode cX0_init 53 = .ok (.bipush 100, 2) := by decide +kernel
theorem dX0_init_55 : decode cX0_init 55 = .ok (.newarray .int, 2) := by decide +kernel
theorem dX0_init_57 : decode cX0_init 57 = .ok (.putfield 30, 3) := by decide +kernel
theorem dX0_init_60 : decode cX0_init 60 = .ok (.aload_n 0, 1) := by decide +kernel
theorem dX0_init_61 : decode cX0_init 61 = .ok (.bipush 100, 2) := by decide +kernel
theorem dX0_init_63 : decode cX0_init 63 = .ok (.newarray .int, 2) := by decide +kernel
theorem dX0_init_65 : decode cX0_init 65 = .ok (.putfield 33, 3) := by decide +kernel
theorem dX0_init_68 : decode cX0_init 68 = .ok (.aload_n 0, 1) := by decide +kernel
theorem dX0_init_69 : decode cX0_init 69 = .ok (.bipush 100, 2) := by decide +kernel
theorem dX0_init_71 : decode cX0_init 71 = .ok (.newarray .boolean, 2) := by decide +kernel
theorem dX0_init_73 : decode cX0_init 73 = .ok (.putfield 36, 3) := by decide +kernel
theorem dX0_init_76 : decode cX0_init 76 = .ok (.aload_n 0, 1) := by decide +kernel
theorem dX0_init_77 : decode cX0_init 77 = .ok (.iconst 0, 1) := by decide +kernel
theorem dX0_init_78 : decode cX0_init 78 = .ok (.putfield 40, 3) := by decide +kernel
theorem dX0_init_81 : decode cX0_init 81 = .ok (.aload_n 0, 1) := by decide +kernel
theorem dX0_init_82 : decode cX0_init 82 = .ok (.iconst 0, 1) := by decide +kernel
theorem dX0_init_83 : decode cX0_init 83 = .ok (.putfield 44, 3) := by decide +kernel
theorem dX0_init_86 : decode cX0_init 86 = .ok (.return_, 1) := by decide +kernel
theorem dX0_add_0 : decode cX0_add 0 = .ok (.aload_n 0, 1) := by decide +kernel
theorem dX0_add_1 : decode cX0_add 1 = .ok (.getfield 40, 3) := by decide +kernel
theorem dX0_add_4 : decode cX0_add 4 = .ok (.istore 8, 2) := by decide +kernel
theorem dX0_add_6 : decode cX0_add 6 = .ok (.aload_n 0, 1) := by decide +kernel
theorem dX0_add_7 : decode cX0_add 7 = .ok (.getfield 9, 3) := by decide +kernel
theorem dX0_add_10 : decode cX0_add 10 = .ok (.iload 8, 2) := by decide +kernel
theorem dX0_add_12 : decode cX0_add 12 = .ok (.iload_n 1, 1) := by decide +kernel
theorem dX0_add_13 : decode cX0_add 13 = .ok (.iastore, 1) := by decide +kernel
theorem dX0_add_14 : decode cX0_add 14 = .ok (.aload_n 0, 1) := by decide +kernel
theorem dX0_add_15 : decode cX0_add 15 = .ok (.getfield 15, 3) := by decide +kernel
theorem dX0_add_18 : decode cX0_add 18 = .ok (.iload 8, 2) := by decide +kernel
theorem dX0_add_20 : decode cX0_add 20 = .ok (.iload_n 2, 1) := by decide +kernel
theorem dX0_add_21 : decode cX0_add 21 = .ok (.iastore, 1) := by decide +kernel
theorem dX0_add_22 : decode cX0_add 22 = .ok (.aload_n 0, 1) := by decide +kernel
theorem dX0_add_23 : decode cX0_add 23 = .ok (.getfield 18, 3) := by decide +kernel
theorem dX0_add_26 : decode cX0_add 26 = .ok (.iload 8, 2) := by decide +kernel
theorem dX0_add_28 : decode cX0_add 28 = .ok (.iload_n 3, 1) := by decide +kernel
theorem dX0_add_29 : decode cX0_add 29 = .ok (.iastore, 1) := by decide +kernel
theorem dX0_add_30 : decode cX0_add 30 = .ok (.aload_n 0, 1) := by decide +kernel
theorem dX0_add_31 : decode cX0_add 31 = .ok (.getfield 21, 3) := by decide +kernel
theorem dX0_add_34 : decode cX0_add 34 = .ok (.iload 8, 2) := by decide +kernel
theorem dX0_add_36 : decode cX0_add 36 = .ok (.iload 4, 2) := by decide +kernel
theorem dX0_add_38 : decode cX0_add 38 = .ok (.iastore, 1) := by decide +kernel
theorem dX0_add_39 : decode cX0_add 39 = .ok (.aload_n 0, 1) := by decide +kernel
theorem dX0_add_40 : decode cX0_add 40 = .ok (.getfield 24, 3) := by decide +kernel
theorem dX0_add_43 : decode cX0_add 43 = .ok (.iload 8, 2) := by decide +kernel
theorem dX0_add_45 : decode cX0_add 45 = .ok (.iload 5, 2) := by decide +kernel
theorem dX0_add_47 : decode cX0_add 47 = .ok (.iastore, 1) := by decide +kernel
theorem dX0_add_48 : decode cX0_add 48 = .ok (.aload_n 0, 1) := by decide +kernel
theorem dX0_add_49 : decode cX0_add 49 = .ok (.getfield 27, 3) := by decide +kernel
theorem dX0_add_52 : decode cX0_add 52 = .ok (.iload 8, 2) := by decide +kernel
theorem dX0_add_54 : decode cX0_add 54 = .ok (.iload 6, 2) := by decide +kernel
theorem dX0_add_56 : decode cX0_add 56 = .ok (.iastore, 1) := by decide +kernel
theorem dX0_add_57 : decode cX0_add 57 = .ok (.aload_n 0, 1) := by decide +kernel
theorem dX0_add_58 : decode cX0_add 58 = .ok (.getfield 30, 3) := by decide +kernel
theorem dX0_add_61 : decode cX0_add 61 = .ok (.iload 8, 2) := by decide +kernel
theorem dX0_add_63 : decode cX0_add 63 = .ok (.iload 7, 2) := by decide +kernel
theorem dX0_add_65 : decode cX0_add 65 = .ok (.iastore, 1) := by decide +kernel
theorem dX0_add_66 : decode cX0_add 66 = .ok (.aload_n 0, 1) := by decide +kernel
theorem dX0_add_67 : decode cX0_add 67 = .ok (.getfield 33, 3) := by decide +kernel
theorem dX0_add_70 : decode cX0_add 70 = .ok (.iload 8, 2) := by decide +kernel
theorem dX0_add_72 : decode cX0_add 72 = .ok (.aload_n 0, 1) := by decide +kernel
theorem dX0_add_73 : decode cX0_add 73 = .ok (.getfield 44, 3) := by decide +kernel
theorem dX0_add_76 : decode cX0_add 76 = .ok (.iastore, 1) := by decide +kernel
theorem dX0_add_77 : decode cX0_add 77 = .ok (.aload_n 0, 1) := by decide +kernel
theorem dX0_add_78 : decode cX0_add 78 = .ok (.getfield 36, 3) := by decide +kernel
theorem dX0_add_81 : decode cX0_add 81 = .ok (.iload 8, 2) := by decide +kernel
theorem dX0_add_83 : decode cX0_add 83 = .ok (.iconst 0, 1) := by decide +kernel
theorem dX0_add_84 : decode cX0_add 84 = .ok (.bastore, 1) := by decide +kernel
theorem dX0_add_85 : decode cX0_add 85 = .ok (.aload_n 0, 1) := by decide +kernel
theorem dX0_add_86 : decode cX0_add 86 = .ok (.dup, 1) := by decide +kernel
theorem dX0_add_87 : decode cX0_add 87 = .ok (.getfield 40, 3) := by decide +kernel
theorem dX0_add_90 : decode cX0_add 90 = .ok (.iconst 1, 1) := by decide +kernel
theorem dX0_add_91 : decode cX0_add 91 = .ok (.iadd, 1) := by decide +kernel
theorem dX0_add_92 : decode cX0_add 92 = .ok (.putfield 40, 3) := by decide +kernel
theorem dX0_add_95 : decode cX0_add 95 = .ok (.aload_n 0, 1) := by decide +kernel
theorem dX0_add_96 : decode cX0_add 96 = .ok (.dup, 1) := by decide +kernel
theorem dX0_add_97 : decode cX0_add 97 = .ok (.getfield 44, 3) := by decide +kernel
theorem dX0_add_100 : decode cX0_add 100 = .ok (.iload 6, 2) := by decide +kernel
theorem dX0_add_102 : decode cX0_add 102 = .ok (.iadd, 1) := by decide +kernel
theorem dX0_add_103 : decode cX0_add 103 = .ok (.putfield 44, 3) := by decide +kernel
theorem dX0_add_106 : decode cX0_add 106 = .ok (.iload 8, 2) := by decide +kernel
theorem dX0_add_108 : decode cX0_add 108 = .ok (.ireturn, 1) := by decide +kernel
theorem dX0_removeLatest_0 : decode cX0_removeLatest 0 = .ok (.aload_n 0, 1) := by decide +kernel
theorem dX0_removeLatest_1 : decode cX0_removeLatest 1 = .ok (.getfield 40, 3) := by decide +kernel
theorem dX0_removeLatest_4 : decode cX0_removeLatest 4 = .ok (.ifCond .le 31, 3) := by decide +kernel
theorem dX0_removeLatest_7 : decode cX0_removeLatest 7 = .ok (.aload_n 0, 1) := by decide +kernel
theorem dX0_removeLatest_8 : decode cX0_removeLatest 8 = .ok (.dup, 1) := by decide +kernel
theorem dX0_removeLatest_9 : decode cX0_removeLatest 9 = .ok (.getfield 40, 3) := by decide +kernel
theorem dX0_removeLatest_12 : decode cX0_removeLatest 12 = .ok (.iconst 1, 1) := by decide +kernel
theorem dX0_removeLatest_13 : decode cX0_removeLatest 13 = .ok (.isub, 1) := by decide +kernel
theorem dX0_removeLatest_14 : decode cX0_removeLatest 14 = .ok (.putfield 40, 3) := by decide +kernel
theorem dX0_removeLatest_17 : decode cX0_removeLatest 17 = .ok (.aload_n 0, 1) := by decide +kernel
theorem dX0_removeLatest_18 : decode cX0_removeLatest 18 = .ok (.dup, 1) := by decide +kernel
theorem dX0_removeLatest_19 : decode cX0_removeLatest 19 = .ok (.getfield 44, 3) := by decide +kernel
theorem dX0_removeLatest_22 : decode cX0_removeLatest 22 = .ok (.aload_n 0, 1) := by decide +kernel
theorem dX0_removeLatest_23 : decode cX0_removeLatest 23 = .ok (.getfield 27, 3) := by decide +kernel
theorem dX0_removeLatest_26 : decode cX0_removeLatest 26 = .ok (.aload_n 0, 1) := by decide +kernel
theorem dX0_removeLatest_27 : decode cX0_removeLatest 27 = .ok (.getfield 40, 3) := by decide +kernel
theorem dX0_removeLatest_30 : decode cX0_removeLatest 30 = .ok (.iaload, 1) := by decide +kernel
theorem dX0_removeLatest_31 : decode cX0_removeLatest 31 = .ok (.isub, 1) := by decide +kernel
theorem dX0_removeLatest_32 : decode cX0_removeLatest 32 = .ok (.putfield 44, 3) := by decide +kernel
theorem dX0_removeLatest_35 : decode cX0_removeLatest 35 = .ok (.return_, 1) := by decide +kernel
theorem dX0_tell_0 : decode cX0_tell 0 = .ok (.iload_n 2, 1) := by decide +kernel
theorem dX0_tell_1 : decode cX0_tell 1 = .ok (.tableswitch 92 0 6 #[43, 50, 57, 64, 71, 78, 85], 43) := by decide +kernel
theorem dX0_tell_44 : decode cX0_tell 44 = .ok (.aload_n 0, 1) := by decide +kernel
theorem dX0_tell_45 : decode cX0_tell 45 = .ok (.getfield 9, 3) := by decide +kernel
theorem dX0_tell_48 : decode cX0_tell 48 = .ok (.iload_n 1, 1) := by decide +kernel
theorem dX0_tell_49 : decode cX0_tell 49 = .ok (.iaload, 1) := by decide +kernel
theorem dX0_tell_50 : decode cX0_tell 50 = .ok (.ireturn, 1) := by decide +kernel
theorem dX0_tell_51 : decode cX0_tell 51 = .ok (.aload_n 0, 1) := by decide +kernel
theorem dX0_tell_52 : decode cX0_tell 52 = .ok (.getfield 15, 3) := by decide +kernel
theorem dX0_tell_55 : decode cX0_tell 55 = .ok (.iload_n 1, 1) := by decide +kernel
theorem dX0_tell_56 : decode cX0_tell 56 = .ok (.iaload, 1) := by decide +kernel
theorem dX0_tell_57 : decode cX0_tell 57 = .ok (.ireturn, 1) := by decide +kernel
theorem dX0_tell_58 : decode cX0_tell 58 = .ok (.aload_n 0, 1) := by decide +kernel
theorem dX0_tell_59 : decode cX0_tell 59 = .ok (.getfield 18, 3) := by decide +kernel
theorem dX0_tell_62 : decode cX0_tell 62 = .ok (.iload_n 1, 1) := by decide +kernel
theorem dX0_tell_63 : decode cX0_tell 63 = .ok (.iaload, 1) := by decide +kernel
theorem dX0_tell_64 : decode cX0_tell 64 = .ok (.ireturn, 1) := by decide +kernel
theorem dX0_tell_65 : decode cX0_tell 65 = .ok (.aload_n 0, 1) := by decide +kernel
theorem dX0_tell_66 : decode cX0_tell 66 = .ok (.getfield 21, 3) := by decide +kernel
theorem dX0_tell_69 : decode cX0_tell 69 = .ok (.iload_n 1, 1) := by decide +kernel
theorem dX0_tell_70 : decode cX0_tell 70 = .ok (.iaload, 1) := by decide +kernel
theorem dX0_tell_71 : decode cX0_tell 71 = .ok (.ireturn, 1) := by decide +kernel
theorem dX0_tell_72 : decode cX0_tell 72 = .ok (.aload_n 0, 1) := by decide +kernel
theorem dX0_tell_73 : decode cX0_tell 73 = .ok (.getfield 24, 3) := by decide +kernel
theorem dX0_tell_76 : decode cX0_tell 76 = .ok (.iload_n 1, 1) := by decide +kernel
theorem dX0_tell_77 : decode cX0_tell 77 = .ok (.iaload, 1) := by decide +kernel
theorem dX0_tell_78 : decode cX0_tell 78 = .ok (.ireturn, 1) := by decide +kernel
theorem dX0_tell_79 : decode cX0_tell 79 = .ok (.aload_n 0, 1) := by decide +kernel
theorem dX0_tell_80 : decode cX0_tell 80 = .ok (.getfield 27, 3) := by decide +kernel
theorem dX0_tell_83 : decode cX0_tell 83 = .ok (.iload_n 1, 1) := by decide +kernel
theorem dX0_tell_84 : decode cX0_tell 84 = .ok (.iaload, 1) := by decide +kernel
theorem dX0_tell_85 : decode cX0_tell 85 = .ok (.ireturn, 1) := by decide +kernel
theorem dX0_tell_86 : decode cX0_tell 86 = .ok (.aload_n 0, 1) := by decide +kernel
theorem dX0_tell_87 : decode cX0_tell 87 = .ok (.getfield 30, 3) := by decide +kernel
theorem dX0_tell_90 : decode cX0_tell 90 = .ok (.iload_n 1, 1) := by decide +kernel
theorem dX0_tell_91 : decode cX0_tell 91 = .ok (.iaload, 1) := by decide +kernel
theorem dX0_tell_92 : decode cX0_tell 92 = .ok (.ireturn, 1) := by decide +kernel
theorem dX0_tell_93 : decode cX0_tell 93 = .ok (.aload_n 0, 1) := by decide +kernel
theorem dX0_tell_94 : decode cX0_tell 94 = .ok (.getfield 36, 3) := by decide +kernel
theorem dX0_tell_97 : decode cX0_tell 97 = .ok (.iload_n 1, 1) := by decide +kernel
theorem dX0_tell_98 : decode cX0_tell 98 = .ok (.baload, 1) := by decide +kernel
theorem dX0_tell_99 : decode cX0_tell 99 = .ok (.ifCond .eq 7, 3) := by decide +kernel
theorem dX0_tell_102 : decode cX0_tell 102 = .ok (.iconst 1, 1) := by decide +kernel
theorem dX0_tell_103 : decode cX0_tell 103 = .ok (.goto 4, 3) := by decide +kernel
theorem dX0_tell_106 : decode cX0_tell 106 = .ok (.iconst 0, 1) := by decide +kernel
theorem dX0_tell_107 : decode cX0_tell 107 = .ok (.ireturn, 1) := by decide +kernel
theorem dX0_plannedLeaving_0 : decode cX0_plannedLeaving 0 = .ok (.aload_n 0, 1) := by decide +kernel
theorem dX0_plannedLeaving_1 : decode cX0_plannedLeaving 1 = .ok (.getfield 18, 3) := by decide +kernel
theorem dX0_plannedLeaving_4 : decode cX0_plannedLeaving 4 = .ok (.iload_n 1, 1) := by decide +kernel
theorem dX0_plannedLeaving_5 : decode cX0_plannedLeaving 5 = .ok (.iaload, 1) := by decide +kernel
theorem dX0_plannedLeaving_6 : decode cX0_plannedLeaving 6 = .ok (.iconst 2, 1) := by decide +kernel
theorem dX0_plannedLeaving_7 : decode cX0_plannedLeaving 7 = .ok (.if_icmp .ne 7, 3) := by decide +kernel
theorem dX0_plannedLeaving_10 : decode cX0_plannedLeaving 10 = .ok (.iconst 1, 1) := by decide +kernel
theorem dX0_plannedLeaving_11 : decode cX0_plannedLeaving 11 = .ok (.goto 9, 3) := by decide +kernel
theorem dX0_plannedLeaving_14 : decode cX0_plannedLeaving 14 = .ok (.aload_n 0, 1) := by decide +kernel
theorem dX0_plannedLeaving_15 : decode cX0_plannedLeaving 15 = .ok (.getfield 30, 3) := by decide +kernel
theorem dX0_plannedLeaving_18 : decode cX0_plannedLeaving 18 = .ok (.iload_n 1, 1) := by decide +kernel
theorem dX0_plannedLeaving_19 : decode cX0_plannedLeaving 19 = .ok (.iaload, 1) := by decide +kernel
theorem dX0_plannedLeaving_20 : decode cX0_plannedLeaving 20 = .ok (.istore_n 3, 1) := by decide +kernel
theorem dX0_plannedLeaving_21 : decode cX0_plannedLeaving 21 = .ok (.aload_n 0, 1) := by decide +kernel
theorem dX0_plannedLeaving_22 : decode cX0_plannedLeaving 22 = .ok (.getfield 21, 3) := by decide +kernel
theorem dX0_plannedLeaving_25 : decode cX0_plannedLeaving 25 = .ok (.iload_n 1, 1) := by decide +kernel
theorem dX0_plannedLeaving_26 : decode cX0_plannedLeaving 26 = .ok (.iaload, 1) := by decide +kernel
theorem dX0_plannedLeaving_27 : decode cX0_plannedLeaving 27 = .ok (.iload_n 2, 1) := by decide +kernel
theorem dX0_plannedLeaving_28 : decode cX0_plannedLeaving 28 = .ok (.iload_n 3, 1) := by decide +kernel
theorem dX0_plannedLeaving_29 : decode cX0_plannedLeaving 29 = .ok (.imul, 1) := by decide +kernel
theorem dX0_plannedLeaving_30 : decode cX0_plannedLeaving 30 = .ok (.iadd, 1) := by decide +kernel
theorem dX0_plannedLeaving_31 : decode cX0_plannedLeaving 31 = .ok (.ireturn, 1) := by decide +kernel
theorem dX1_init_0 : decode cX1_init 0 = .ok (.aload_n 0, 1) := by decide +kernel
theorem dX1_init_1 : decode cX1_init 1 = .ok (.invokespecial 3, 3) := by decide +kernel
theorem dX1_init_4 : decode cX1_init 4 = .ok (.aload_n 0, 1) := by decide +kernel
theorem dX1_init_5 : decode cX1_init 5 = .ok (.sipush 400, 3) := by decide +kernel
theorem dX1_init_8 : decode cX1_init 8 = .ok (.newarray .int, 2) := by decide +kernel
theorem dX1_init_10 : decode cX1_init 10 = .ok (.putfield 9, 3) := by decide +kernel
theorem dX1_init_13 : decode cX1_init 13 = .ok (.aload_n 0, 1) := by decide +kernel
theorem dX1_init_14 : decode cX1_init 14 = .ok (.sipush 400, 3) := by decide +kernel
theorem dX1_init_17 : decode cX1_init 17 = .ok (.newarray .int, 2) := by decide +kernel
theorem dX1_init_19 : decode cX1_init 19 = .ok (.putfield 15, 3) := by decide +kernel
theorem dX1_init_22 : decode cX1_init 22 = .ok (.aload_n 0, 1) := by decide +kernel
theorem dX1_init_23 : decode cX1_init 23 = .ok (.sipush 400, 3) := by decide +kernel
theorem dX1_init_26 : decode cX1_init 26 = .ok (.newarray .int, 2) := by decide +kernel
theorem dX1_init_28 : decode cX1_init 28 = .ok (.putfield 18, 3) := by decide +kernel
theorem dX1_init_31 : decode cX1_init 31 = .ok (.aload_n 0, 1) := by decide +kernel
theorem dX1_init_32 : decode cX1_init 32 = .ok (.sipush 400, 3) := by decide +kernel
theorem dX1_init_35 : decode cX1_init 35 = .ok (.newarray .int, 2) := by decide +kernel
theorem dX1_init_37 : decode cX1_init 37 = .ok (.putfield 21, 3) := by decide +kernel
theorem dX1_init_40 : decode cX1_init 40 = .ok (.aload_n 0, 1) := by decide +kernel
theorem dX1_init_41 : decode cX1_init 41 = .ok (.iconst 0, 1) := by decide +kernel
theorem dX1_init_42 : decode cX1_init 42 = .ok (.putfield 24, 3) := by decide +kernel
theorem dX1_init_45 : decode cX1_init 45 = .ok (.aload_n 0, 1) := by decide +kernel
theorem dX1_init_46 : decode cX1_init 46 = .ok (.iconst 0, 1) := by decide +kernel
theorem dX1_init_47 : decode cX1_init 47 = .ok (.putfield 28, 3) := by decide +kernel
theorem dX1_init_50 : decode cX1_init 50 = .ok (.return_, 1) := by decide +kernel
theorem dX1_isFull_0 : decode cX1_isFull 0 = .ok (.aload_n 0, 1) := by decide +kernel
theorem dX1_isFull_1 : decode cX1_isFull 1 = .ok (.getfield 24, 3) := by decide +kernel
theorem dX1_isFull_4 : decode cX1_isFull 4 = .ok (.sipush 400, 3) := by decide +kernel
theorem dX1_isFull_7 : decode cX1_isFull 7 = .ok (.if_icmp .lt 7, 3) := by decide +kernel
theorem dX1_isFull_10 : decode cX1_isFull 10 = .ok (.iconst 1, 1) := by decide +kernel
theorem dX1_isFull_11 : decode cX1_isFull 11 = .ok (.goto 4, 3) := by decide +kernel
theorem dX1_isFull_14 : decode cX1_isFull 14 = .ok (.iconst 0, 1) := by decide +kernel
theorem dX1_isFull_15 : decode cX1_isFull 15 = .ok (.ireturn, 1) := by decide +kernel
theorem dX1_add_0 : decode cX1_add 0 = .ok (.aload_n 0, 1) := by decide +kernel
theorem dX1_add_1 : decode cX1_add 1 = .ok (.getfield 9, 3) := by decide +kernel
theorem dX1_add_4 : decode cX1_add 4 = .ok (.aload_n 0, 1) := by decide +kernel
theorem dX1_add_5 : decode cX1_add 5 = .ok (.getfield 24, 3) := by decide +kernel
theorem dX1_add_8 : decode cX1_add 8 = .ok (.iload_n 1, 1) := by decide +kernel
theorem dX1_add_9 : decode cX1_add 9 = .ok (.iastore, 1) := by decide +kernel
theorem dX1_add_10 : decode cX1_add 10 = .ok (.aload_n 0, 1) := by decide +kernel
theorem dX1_add_11 : decode cX1_add 11 = .ok (.getfield 15, 3) := by decide +kernel
theorem dX1_add_14 : decode cX1_add 14 = .ok (.aload_n 0, 1) := by decide +kernel
theorem dX1_add_15 : decode cX1_add 15 = .ok (.getfield 24, 3) := by decide +kernel
theorem dX1_add_18 : decode cX1_add 18 = .ok (.iload_n 2, 1) := by decide +kernel
theorem dX1_add_19 : decode cX1_add 19 = .ok (.iastore, 1) := by decide +kernel
theorem dX1_add_20 : decode cX1_add 20 = .ok (.aload_n 0, 1) := by decide +kernel
theorem dX1_add_21 : decode cX1_add 21 = .ok (.getfield 18, 3) := by decide +kernel
theorem dX1_add_24 : decode cX1_add 24 = .ok (.aload_n 0, 1) := by decide +kernel
theorem dX1_add_25 : decode cX1_add 25 = .ok (.getfield 24, 3) := by decide +kernel
theorem dX1_add_28 : decode cX1_add 28 = .ok (.iload_n 3, 1) := by decide +kernel
theorem dX1_add_29 : decode cX1_add 29 = .ok (.iastore, 1) := by decide +kernel
theorem dX1_add_30 : decode cX1_add 30 = .ok (.aload_n 0, 1) := by decide +kernel
theorem dX1_add_31 : decode cX1_add 31 = .ok (.getfield 21, 3) := by decide +kernel
theorem dX1_add_34 : decode cX1_add 34 = .ok (.aload_n 0, 1) := by decide +kernel
theorem dX1_add_35 : decode cX1_add 35 = .ok (.getfield 24, 3) := by decide +kernel
theorem dX1_add_38 : decode cX1_add 38 = .ok (.iload 4, 2) := by decide +kernel
theorem dX1_add_40 : decode cX1_add 40 = .ok (.iastore, 1) := by decide +kernel
theorem dX1_add_41 : decode cX1_add 41 = .ok (.aload_n 0, 1) := by decide +kernel
theorem dX1_add_42 : decode cX1_add 42 = .ok (.dup, 1) := by decide +kernel
theorem dX1_add_43 : decode cX1_add 43 = .ok (.getfield 24, 3) := by decide +kernel
theorem dX1_add_46 : decode cX1_add 46 = .ok (.iconst 1, 1) := by decide +kernel
theorem dX1_add_47 : decode cX1_add 47 = .ok (.iadd, 1) := by decide +kernel
theorem dX1_add_48 : decode cX1_add 48 = .ok (.putfield 24, 3) := by decide +kernel
theorem dX1_add_51 : decode cX1_add 51 = .ok (.iload_n 1, 1) := by decide +kernel
theorem dX1_add_52 : decode cX1_add 52 = .ok (.iconst 3, 1) := by decide +kernel
theorem dX1_add_53 : decode cX1_add 53 = .ok (.if_icmp .ne 13, 3) := by decide +kernel
theorem dX1_add_56 : decode cX1_add 56 = .ok (.aload_n 0, 1) := by decide +kernel
theorem dX1_add_57 : decode cX1_add 57 = .ok (.dup, 1) := by decide +kernel
theorem dX1_add_58 : decode cX1_add 58 = .ok (.getfield 28, 3) := by decide +kernel
theorem dX1_add_61 : decode cX1_add 61 = .ok (.iconst 1, 1) := by decide +kernel
theorem dX1_add_62 : decode cX1_add 62 = .ok (.iadd, 1) := by decide +kernel
theorem dX1_add_63 : decode cX1_add 63 = .ok (.putfield 28, 3) := by decide +kernel
theorem dX1_add_66 : decode cX1_add 66 = .ok (.return_, 1) := by decide +kernel
theorem dX1_removeLatest_0 : decode cX1_removeLatest 0 = .ok (.aload_n 0, 1) := by decide +kernel
theorem dX1_removeLatest_1 : decode cX1_removeLatest 1 = .ok (.getfield 24, 3) := by decide +kernel
theorem dX1_removeLatest_4 : decode cX1_removeLatest 4 = .ok (.ifCond .le 36, 3) := by decide +kernel
theorem dX1_removeLatest_7 : decode cX1_removeLatest 7 = .ok (.aload_n 0, 1) := by decide +kernel
theorem dX1_removeLatest_8 : decode cX1_removeLatest 8 = .ok (.dup, 1) := by decide +kernel
theorem dX1_removeLatest_9 : decode cX1_removeLatest 9 = .ok (.getfield 24, 3) := by decide +kernel
theorem dX1_removeLatest_12 : decode cX1_removeLatest 12 = .ok (.iconst 1, 1) := by decide +kernel
theorem dX1_removeLatest_13 : decode cX1_removeLatest 13 = .ok (.isub, 1) := by decide +kernel
theorem dX1_removeLatest_14 : decode cX1_removeLatest 14 = .ok (.putfield 24, 3) := by decide +kernel
theorem dX1_removeLatest_17 : decode cX1_removeLatest 17 = .ok (.aload_n 0, 1) := by decide +kernel
theorem dX1_removeLatest_18 : decode cX1_removeLatest 18 = .ok (.getfield 9, 3) := by decide +kernel
theorem dX1_removeLatest_21 : decode cX1_removeLatest 21 = .ok (.aload_n 0, 1) := by decide +kernel
theorem dX1_removeLatest_22 : decode cX1_removeLatest 22 = .ok (.getfield 24, 3) := by decide +kernel
theorem dX1_removeLatest_25 : decode cX1_removeLatest 25 = .ok (.iaload, 1) := by decide +kernel
theorem dX1_removeLatest_26 : decode cX1_removeLatest 26 = .ok (.iconst 3, 1) := by decide +kernel
theorem dX1_removeLatest_27 : decode cX1_removeLatest 27 = .ok (.if_icmp .ne 13, 3) := by decide +kernel
theorem dX1_removeLatest_30 : decode cX1_removeLatest 30 = .ok (.aload_n 0, 1) := by decide +kernel
theorem dX1_removeLatest_31 : decode cX1_removeLatest 31 = .ok (.dup, 1) := by decide +kernel
theorem dX1_removeLatest_32 : decode cX1_removeLatest 32 = .ok (.getfield 28, 3) := by decide +kernel
theorem dX1_removeLatest_35 : decode cX1_removeLatest 35 = .ok (.iconst 1, 1) := by decide +kernel
theorem dX1_removeLatest_36 : decode cX1_removeLatest 36 = .ok (.isub, 1) := by decide +kernel
theorem dX1_removeLatest_37 : decode cX1_removeLatest 37 = .ok (.putfield 28, 3) := by decide +kernel
theorem dX1_removeLatest_40 : decode cX1_removeLatest 40 = .ok (.return_, 1) := by decide +kernel
theorem dX1_isClosing_0 : decode cX1_isClosing 0 = .ok (.aload_n 0, 1) := by decide +kernel
theorem dX1_isClosing_1 : decode cX1_isClosing 1 = .ok (.getfield 15, 3) := by decide +kernel
theorem dX1_isClosing_4 : decode cX1_isClosing 4 = .ok (.iload_n 1, 1) := by decide +kernel
theorem dX1_isClosing_5 : decode cX1_isClosing 5 = .ok (.iaload, 1) := by decide +kernel
theorem dX1_isClosing_6 : decode cX1_isClosing 6 = .ok (.iload_n 2, 1) := by decide +kernel
theorem dX1_isClosing_7 : decode cX1_isClosing 7 = .ok (.if_icmp .ne 27, 3) := by decide +kernel
theorem dX1_isClosing_10 : decode cX1_isClosing 10 = .ok (.aload_n 0, 1) := by decide +kernel
theorem dX1_isClosing_11 : decode cX1_isClosing 11 = .ok (.getfield 18, 3) := by decide +kernel
theorem dX1_isClosing_14 : decode cX1_isClosing 14 = .ok (.iload_n 1, 1) := by decide +kernel
theorem dX1_isClosing_15 : decode cX1_isClosing 15 = .ok (.iaload, 1) := by decide +kernel
theorem dX1_isClosing_16 : decode cX1_isClosing 16 = .ok (.iload_n 3, 1) := by decide +kernel
theorem dX1_isClosing_17 : decode cX1_isClosing 17 = .ok (.if_icmp .gt 17, 3) := by decide +kernel
theorem dX1_isClosing_20 : decode cX1_isClosing 20 = .ok (.iload_n 3, 1) := by decide +kernel
theorem dX1_isClosing_21 : decode cX1_isClosing 21 = .ok (.aload_n 0, 1) := by decide +kernel
theorem dX1_isClosing_22 : decode cX1_isClosing 22 = .ok (.getfield 21, 3) := by decide +kernel
theorem dX1_isClosing_25 : decode cX1_isClosing 25 = .ok (.iload_n 1, 1) := by decide +kernel
theorem dX1_isClosing_26 : decode cX1_isClosing 26 = .ok (.iaload, 1) := by decide +kernel
theorem dX1_isClosing_27 : decode cX1_isClosing 27 = .ok (.if_icmp .gt 7, 3) := by decide +kernel
theorem dX1_isClosing_30 : decode cX1_isClosing 30 = .ok (.iconst 1, 1) := by decide +kernel
theorem dX1_isClosing_31 : decode cX1_isClosing 31 = .ok (.goto 4, 3) := by decide +kernel
theorem dX1_isClosing_34 : decode cX1_isClosing 34 = .ok (.iconst 0, 1) := by decide +kernel
theorem dX1_isClosing_35 : decode cX1_isClosing 35 = .ok (.ireturn, 1) := by decide +kernel
theorem dX2_init_0 : decode cX2_init 0 = .ok (.aload_n 0, 1) := by decide +kernel
theorem dX2_init_1 : decode cX2_init 1 = .ok (.invokespecial 3, 3) := by decide +kernel
theorem dX2_init_4 : decode cX2_init 4 = .ok (.aload_n 0, 1) := by decide +kernel
theorem dX2_init_5 : decode cX2_init 5 = .ok (.bipush 24, 2) := by decide +kernel
theorem dX2_init_7 : decode cX2_init 7 = .ok (.newarray .int, 2) := by decide +kernel
theorem dX2_init_9 : decode cX2_init 9 = .ok (.putfield 9, 3) := by decide +kernel
theorem dX2_init_12 : decode cX2_init 12 = .ok (.aload_n 0, 1) := by decide +kernel
theorem dX2_init_13 : decode cX2_init 13 = .ok (.bipush 24, 2) := by decide +kernel
theorem dX2_init_15 : decode cX2_init 15 = .ok (.newarray .int, 2) := by decide +kernel
theorem dX2_init_17 : decode cX2_init 17 = .ok (.putfield 15, 3) := by decide +kernel
theorem dX2_init_20 : decode cX2_init 20 = .ok (.aload_n 0, 1) := by decide +kernel
theorem dX2_init_21 : decode cX2_init 21 = .ok (.iconst 0, 1) := by decide +kernel
theorem dX2_init_22 : decode cX2_init 22 = .ok (.putfield 18, 3) := by decide +kernel
theorem dX2_init_25 : decode cX2_init 25 = .ok (.return_, 1) := by decide +kernel
theorem dX2_add_0 : decode cX2_add 0 = .ok (.aload_n 0, 1) := by decide +kernel
theorem dX2_add_1 : decode cX2_add 1 = .ok (.aload_n 0, 1) := by decide +kernel
theorem dX2_add_2 : decode cX2_add 2 = .ok (.getfield 18, 3) := by decide +kernel
theorem dX2_add_5 : decode cX2_add 5 = .ok (.iload_n 1, 1) := by decide +kernel
theorem dX2_add_6 : decode cX2_add 6 = .ok (.iload_n 2, 1) := by decide +kernel
theorem dX2_add_7 : decode cX2_add 7 = .ok (.invokevirtual 22, 3) := by decide +kernel
theorem dX2_add_10 : decode cX2_add 10 = .ok (.aload_n 0, 1) := by decide +kernel
theorem dX2_add_11 : decode cX2_add 11 = .ok (.dup, 1) := by decide +kernel
theorem dX2_add_12 : decode cX2_add 12 = .ok (.getfield 18, 3) := by decide +kernel
theorem dX2_add_15 : decode cX2_add 15 = .ok (.iconst 1, 1) := by decide +kernel
theorem dX2_add_16 : decode cX2_add 16 = .ok (.iadd, 1) := by decide +kernel
theorem dX2_add_17 : decode cX2_add 17 = .ok (.putfield 18, 3) := by decide +kernel
theorem dX2_add_20 : decode cX2_add 20 = .ok (.aload_n 0, 1) := by decide +kernel
theorem dX2_add_21 : decode cX2_add 21 = .ok (.getfield 18, 3) := by decide +kernel
theorem dX2_add_24 : decode cX2_add 24 = .ok (.iconst 1, 1) := by decide +kernel
theorem dX2_add_25 : decode cX2_add 25 = .ok (.isub, 1) := by decide +kernel
theorem dX2_add_26 : decode cX2_add 26 = .ok (.ireturn, 1) := by decide +kernel
theorem dX2_set_0 : decode cX2_set 0 = .ok (.aload_n 0, 1) := by decide +kernel
theorem dX2_set_1 : decode cX2_set 1 = .ok (.getfield 9, 3) := by decide +kernel
theorem dX2_set_4 : decode cX2_set 4 = .ok (.iload_n 1, 1) := by decide +kernel
theorem dX2_set_5 : decode cX2_set 5 = .ok (.iload_n 2, 1) := by decide +kernel
theorem dX2_set_6 : decode cX2_set 6 = .ok (.iastore, 1) := by decide +kernel
theorem dX2_set_7 : decode cX2_set 7 = .ok (.aload_n 0, 1) := by decide +kernel
theorem dX2_set_8 : decode cX2_set 8 = .ok (.getfield 15, 3) := by decide +kernel
theorem dX2_set_11 : decode cX2_set 11 = .ok (.iload_n 1, 1) := by decide +kernel
theorem dX2_set_12 : decode cX2_set 12 = .ok (.iload_n 3, 1) := by decide +kernel
theorem dX2_set_13 : decode cX2_set 13 = .ok (.iastore, 1) := by decide +kernel
theorem dX2_set_14 : decode cX2_set 14 = .ok (.return_, 1) := by decide +kernel
theorem dX2_latestComing_0 : decode cX2_latestComing 0 = .ok (.iload_n 2, 1) := by decide +kernel
theorem dX2_latestComing_1 : decode cX2_latestComing 1 = .ok (.aload_n 0, 1) := by decide +kernel
theorem dX2_latestComing_2 : decode cX2_latestComing 2 = .ok (.getfield 9, 3) := by decide +kernel
theorem dX2_latestComing_5 : decode cX2_latestComing 5 = .ok (.iload_n 1, 1) := by decide +kernel
theorem dX2_latestComing_6 : decode cX2_latestComing 6 = .ok (.iaload, 1) := by decide +kernel
theorem dX2_latestComing_7 : decode cX2_latestComing 7 = .ok (.isub, 1) := by decide +kernel
theorem dX2_latestComing_8 : decode cX2_latestComing 8 = .ok (.ireturn, 1) := by decide +kernel
theorem dX2_soonestComing_0 : decode cX2_soonestComing 0 = .ok (.aload_n 0, 1) := by decide +kernel
theorem dX2_soonestComing_1 : decode cX2_soonestComing 1 = .ok (.getfield 15, 3) := by decide +kernel
theorem dX2_soonestComing_4 : decode cX2_soonestComing 4 = .ok (.iload_n 1, 1) := by decide +kernel
theorem dX2_soonestComing_5 : decode cX2_soonestComing 5 = .ok (.iaload, 1) := by decide +kernel
theorem dX2_soonestComing_6 : decode cX2_soonestComing 6 = .ok (.iconst (-1), 1) := by decide +kernel
theorem dX2_soonestComing_7 : decode cX2_soonestComing 7 = .ok (.if_icmp .ne 7, 3) := by decide +kernel
theorem dX2_soonestComing_10 : decode cX2_soonestComing 10 = .ok (.iconst 0, 1) := by decide +kernel
theorem dX2_soonestComing_11 : decode cX2_soonestComing 11 = .ok (.goto 11, 3) := by decide +kernel
theorem dX2_soonestComing_14 : decode cX2_soonestComing 14 = .ok (.iload_n 2, 1) := by decide +kernel
theorem dX2_soonestComing_15 : decode cX2_soonestComing 15 = .ok (.aload_n 0, 1) := by decide +kernel
theorem dX2_soonestComing_16 : decode cX2_soonestComing 16 = .ok (.getfield 15, 3) := by decide +kernel
theorem dX2_soonestComing_19 : decode cX2_soonestComing 19 = .ok (.iload_n 1, 1) := by decide +kernel
theorem dX2_soonestComing_20 : decode cX2_soonestComing 20 = .ok (.iaload, 1) := by decide +kernel
theorem dX2_soonestComing_21 : decode cX2_soonestComing 21 = .ok (.isub, 1) := by decide +kernel
theorem dX2_soonestComing_22 : decode cX2_soonestComing 22 = .ok (.ireturn, 1) := by decide +kernel
theorem dX3_init_0 : decode cX3_init 0 = .ok (.aload_n 0, 1) := by decide +kernel
theorem dX3_init_1 : decode cX3_init 1 = .ok (.invokespecial 3, 3) := by decide +kernel
theorem dX3_init_4 : decode cX3_init 4 = .ok (.aload_n 0, 1) := by decide +kernel
theorem dX3_init_5 : decode cX3_init 5 = .ok (.sipush 1200, 3) := by decide +kernel
theorem dX3_init_8 : decode cX3_init 8 = .ok (.newarray .int, 2) := by decide +kernel
theorem dX3_init_10 : decode cX3_init 10 = .ok (.putfield 9, 3) := by decide +kernel
theorem dX3_init_13 : decode cX3_init 13 = .ok (.aload_n 0, 1) := by decide +kernel
theorem dX3_init_14 : decode cX3_init 14 = .ok (.sipush 1200, 3) := by decide +kernel
theorem dX3_init_17 : decode cX3_init 17 = .ok (.newarray .int, 2) := by decide +kernel
theorem dX3_init_19 : decode cX3_init 19 = .ok (.putfield 15, 3) := by decide +kernel
theorem dX3_init_22 : decode cX3_init 22 = .ok (.aload_n 0, 1) := by decide +kernel
theorem dX3_init_23 : decode cX3_init 23 = .ok (.bipush 24, 2) := by decide +kernel
theorem dX3_init_25 : decode cX3_init 25 = .ok (.newarray .int, 2) := by decide +kernel
theorem dX3_init_27 : decode cX3_init 27 = .ok (.putfield 18, 3) := by decide +kernel
theorem dX3_init_30 : decode cX3_init 30 = .ok (.aload_n 0, 1) := by decide +kernel
theorem dX3_init_31 : decode cX3_init 31 = .ok (.bipush 24, 2) := by decide +kernel
theorem dX3_init_33 : decode cX3_init 33 = .ok (.newarray .int, 2) := by decide +kernel
theorem dX3_init_35 : decode cX3_init 35 = .ok (.putfield 21, 3) := by decide +kernel
theorem dX3_init_38 : decode cX3_init 38 = .ok (.aload_n 0, 1) := by decide +kernel
theorem dX3_init_39 : decode cX3_init 39 = .ok (.bipush 24, 2) := by decide +kernel
theorem dX3_init_41 : decode cX3_init 41 = .ok (.newarray .int, 2) := by decide +kernel
theorem dX3_init_43 : decode cX3_init 43 = .ok (.putfield 24, 3) := by decide +kernel
theorem dX3_init_46 : decode cX3_init 46 = .ok (.aload_n 0, 1) := by decide +kernel
theorem dX3_init_47 : decode cX3_init 47 = .ok (.sipush 1200, 3) := by decide +kernel
theorem dX3_init_50 : decode cX3_init 50 = .ok (.newarray .int, 2) := by decide +kernel
theorem dX3_init_52 : decode cX3_init 52 = .ok (.putfield 27, 3) := by decide +kernel
theorem dX3_init_55 : decode cX3_init 55 = .ok (.aload_n 0, 1) := by decide +kernel
theorem dX3_init_56 : decode cX3_init 56 = .ok (.iconst 0, 1) := by decide +kernel
theorem dX3_init_57 : decode cX3_init 57 = .ok (.putfield 30, 3) := by decide +kernel
theorem dX3_init_60 : decode cX3_init 60 = .ok (.aload_n 0, 1) := by decide +kernel
theorem dX3_init_61 : decode cX3_init 61 = .ok (.aload_n 1, 1) := by decide +kernel
theorem dX3_init_62 : decode cX3_init 62 = .ok (.putfield 34, 3) := by decide +kernel
theorem dX3_init_65 : decode cX3_init 65 = .ok (.aload_n 0, 1) := by decide +kernel
theorem dX3_init_66 : decode cX3_init 66 = .ok (.aload_n 2, 1) := by decide +kernel
theorem dX3_init_67 : decode cX3_init 67 = .ok (.putfield 38, 3) := by decide +kernel
theorem dX3_init_70 : decode cX3_init 70 = .ok (.return_, 1) := by decide +kernel
theorem dX3_spread_0 : decode cX3_spread 0 = .ok (.aload_n 0, 1) := by decide +kernel
theorem dX3_spread_1 : decode cX3_spread 1 = .ok (.iload 4, 2) := by decide +kernel
theorem dX3_spread_3 : decode cX3_spread 3 = .ok (.putfield 30, 3) := by decide +kernel
theorem dX3_spread_6 : decode cX3_spread 6 = .ok (.aload_n 0, 1) := by decide +kernel
theorem dX3_spread_7 : decode cX3_spread 7 = .ok (.invokevirtual 42, 3) := by decide +kernel
theorem dX3_spread_10 : decode cX3_spread 10 = .ok (.iconst 0, 1) := by decide +kernel
theorem dX3_spread_11 : decode cX3_spread 11 = .ok (.istore 5, 2) := by decide +kernel
theorem dX3_spread_13 : decode cX3_spread 13 = .ok (.iload 5, 2) := by decide +kernel
theorem dX3_spread_15 : decode cX3_spread 15 = .ok (.aload_n 0, 1) := by decide +kernel
theorem dX3_spread_16 : decode cX3_spread 16 = .ok (.getfield 38, 3) := by decide +kernel
theorem dX3_spread_19 : decode cX3_spread 19 = .ok (.getfield 45, 3) := by decide +kernel
theorem dX3_spread_22 : decode cX3_spread 22 = .ok (.if_icmp .ge 115, 3) := by decide +kernel
theorem dX3_spread_25 : decode cX3_spread 25 = .ok (.aload_n 0, 1) := by decide +kernel
theorem dX3_spread_26 : decode cX3_spread 26 = .ok (.getfield 38, 3) := by decide +kernel
theorem dX3_spread_29 : decode cX3_spread 29 = .ok (.getfield 51, 3) := by decide +kernel
theorem dX3_spread_32 : decode cX3_spread 32 = .ok (.iload 5, 2) := by decide +kernel
theorem dX3_spread_34 : decode cX3_spread 34 = .ok (.iaload, 1) := by decide +kernel
theorem dX3_spread_35 : decode cX3_spread 35 = .ok (.istore 6, 2) := by decide +kernel
theorem dX3_spread_37 : decode cX3_spread 37 = .ok (.aload_n 0, 1) := by decide +kernel
theorem dX3_spread_38 : decode cX3_spread 38 = .ok (.getfield 38, 3) := by decide +kernel
theorem dX3_spread_41 : decode cX3_spread 41 = .ok (.getfield 54, 3) := by decide +kernel
theorem dX3_spread_44 : decode cX3_spread 44 = .ok (.iload 6, 2) := by decide +kernel
theorem dX3_spread_46 : decode cX3_spread 46 = .ok (.iaload, 1) := by decide +kernel
theorem dX3_spread_47 : decode cX3_spread 47 = .ok (.iload_n 3, 1) := by decide +kernel
theorem dX3_spread_48 : decode cX3_spread 48 = .ok (.if_icmp .ne 14, 3) := by decide +kernel
theorem dX3_spread_51 : decode cX3_spread 51 = .ok (.aload_n 0, 1) := by decide +kernel
theorem dX3_spread_52 : decode cX3_spread 52 = .ok (.getfield 9, 3) := by decide +kernel
theorem dX3_spread_55 : decode cX3_spread 55 = .ok (.iload 6, 2) := by decide +kernel
theorem dX3_spread_57 : decode cX3_spread 57 = .ok (.iconst (-1), 1) := by decide +kernel
theorem dX3_spread_58 : decode cX3_spread 58 = .ok (.iastore, 1) := by decide +kernel
theorem dX3_spread_59 : decode cX3_spread 59 = .ok (.goto 72, 3) := by decide +kernel
theorem dX3_spread_62 : decode cX3_spread 62 = .ok (.aload_n 0, 1) := by decide +kernel
theorem dX3_spread_63 : decode cX3_spread 63 = .ok (.getfield 38, 3) := by decide +kernel
theorem dX3_spread_66 : decode cX3_spread 66 = .ok (.iload 6, 2) := by decide +kernel
theorem dX3_spread_68 : decode cX3_spread 68 = .ok (.invokevirtual 57, 3) := by decide +kernel
theorem dX3_spread_71 : decode cX3_spread 71 = .ok (.iload_n 1, 1) := by decide +kernel
theorem dX3_spread_72 : decode cX3_spread 72 = .ok (.if_icmp .ne 46, 3) := by decide +kernel
theorem dX3_spread_75 : decode cX3_spread 75 = .ok (.aload_n 0, 1) := by decide +kernel
theorem dX3_spread_76 : decode cX3_spread 76 = .ok (.getfield 38, 3) := by decide +kernel
theorem dX3_spread_79 : decode cX3_spread 79 = .ok (.getfield 61, 3) := by decide +kernel
theorem dX3_spread_82 : decode cX3_spread 82 = .ok (.iload 6, 2) := by decide +kernel
theorem dX3_spread_84 : decode cX3_spread 84 = .ok (.iaload, 1) := by decide +kernel
theorem dX3_spread_85 : decode cX3_spread 85 = .ok (.iload_n 2, 1) := by decide +kernel
theorem dX3_spread_86 : decode cX3_spread 86 = .ok (.if_icmp .lt 32, 3) := by decide +kernel
theorem dX3_spread_89 : decode cX3_spread 89 = .ok (.aload_n 0, 1) := by decide +kernel
theorem dX3_spread_90 : decode cX3_spread 90 = .ok (.getfield 9, 3) := by decide +kernel
theorem dX3_spread_93 : decode cX3_spread 93 = .ok (.iload 6, 2) := by decide +kernel
theorem dX3_spread_95 : decode cX3_spread 95 = .ok (.iload 4, 2) := by decide +kernel
theorem dX3_spread_97 : decode cX3_spread 97 = .ok (.ifCond .eq 7, 3) := by decide +kernel
theorem dX3_spread_100 : decode cX3_spread 100 = .ok (.iconst 1, 1) := by decide +kernel
theorem dX3_spread_101 : decode cX3_spread 101 = .ok (.goto 13, 3) := by decide +kernel
theorem dX3_spread_104 : decode cX3_spread 104 = .ok (.aload_n 0, 1) := by decide +kernel
theorem dX3_spread_105 : decode cX3_spread 105 = .ok (.getfield 38, 3) := by decide +kernel
theorem dX3_spread_108 : decode cX3_spread 108 = .ok (.getfield 61, 3) := by decide +kernel
theorem dX3_spread_111 : decode cX3_spread 111 = .ok (.iload 6, 2) := by decide +kernel
theorem dX3_spread_113 : decode cX3_spread 113 = .ok (.iaload, 1) := by decide +kernel
theorem dX3_spread_114 : decode cX3_spread 114 = .ok (.iastore, 1) := by decide +kernel
theorem dX3_spread_115 : decode cX3_spread 115 = .ok (.goto 16, 3) := by decide +kernel
theorem dX3_spread_118 : decode cX3_spread 118 = .ok (.aload_n 0, 1) := by decide +kernel
theorem dX3_spread_119 : decode cX3_spread 119 = .ok (.getfield 9, 3) := by decide +kernel
theorem dX3_spread_122 : decode cX3_spread 122 = .ok (.iload 6, 2) := by decide +kernel
theorem dX3_spread_124 : decode cX3_spread 124 = .ok (.aload_n 0, 1) := by decide +kernel
theorem dX3_spread_125 : decode cX3_spread 125 = .ok (.iload 6, 2) := by decide +kernel
theorem dX3_spread_127 : decode cX3_spread 127 = .ok (.invokevirtual 64, 3) := by decide +kernel
theorem dX3_spread_130 : decode cX3_spread 130 = .ok (.iastore, 1) := by decide +kernel
theorem dX3_spread_131 : decode cX3_spread 131 = .ok (.iinc 5 1, 3) := by decide +kernel
theorem dX3_spread_134 : decode cX3_spread 134 = .ok (.goto (-121), 3) := by decide +kernel
theorem dX3_spread_137 : decode cX3_spread 137 = .ok (.return_, 1) := by decide +kernel
theorem dX3_emptyQueues_0 : decode cX3_emptyQueues 0 = .ok (.iconst 0, 1) := by decide +kernel
theorem dX3_emptyQueues_1 : decode cX3_emptyQueues 1 = .ok (.istore_n 1, 1) := by decide +kernel
theorem dX3_emptyQueues_2 : decode cX3_emptyQueues 2 = .ok (.iload_n 1, 1) := by decide +kernel
theorem dX3_emptyQueues_3 : decode cX3_emptyQueues 3 = .ok (.bipush 24, 2) := by decide +kernel
theorem dX3_emptyQueues_5 : decode cX3_emptyQueues 5 = .ok (.if_icmp .ge 39, 3) := by decide +kernel
theorem dX3_emptyQueues_8 : decode cX3_emptyQueues 8 = .ok (.aload_n 0, 1) := by decide +kernel
theorem dX3_emptyQueues_9 : decode cX3_emptyQueues 9 = .ok (.getfield 38, 3) := by decide +kernel
theorem dX3_emptyQueues_12 : decode cX3_emptyQueues 12 = .ok (.iload_n 1, 1) := by decide +kernel
theorem dX3_emptyQueues_13 : decode cX3_emptyQueues 13 = .ok (.invokevirtual 67, 3) := by decide +kernel
theorem dX3_emptyQueues_16 : decode cX3_emptyQueues 16 = .ok (.istore_n 2, 1) := by decide +kernel
theorem dX3_emptyQueues_17 : decode cX3_emptyQueues 17 = .ok (.aload_n 0, 1) := by decide +kernel
theorem dX3_emptyQueues_18 : decode cX3_emptyQueues 18 = .ok (.getfield 18, 3) := by decide +kernel
theorem dX3_emptyQueues_21 : decode cX3_emptyQueues 21 = .ok (.iload_n 1, 1) := by decide +kernel
theorem dX3_emptyQueues_22 : decode cX3_emptyQueues 22 = .ok (.iload_n 2, 1) := by decide +kernel
theorem dX3_emptyQueues_23 : decode cX3_emptyQueues 23 = .ok (.iastore, 1) := by decide +kernel
theorem dX3_emptyQueues_24 : decode cX3_emptyQueues 24 = .ok (.aload_n 0, 1) := by decide +kernel
theorem dX3_emptyQueues_25 : decode cX3_emptyQueues 25 = .ok (.getfield 21, 3) := by decide +kernel
theorem dX3_emptyQueues_28 : decode cX3_emptyQueues 28 = .ok (.iload_n 1, 1) := by decide +kernel
theorem dX3_emptyQueues_29 : decode cX3_emptyQueues 29 = .ok (.iload_n 2, 1) := by decide +kernel
theorem dX3_emptyQueues_30 : decode cX3_emptyQueues 30 = .ok (.iastore, 1) := by decide +kernel
theorem dX3_emptyQueues_31 : decode cX3_emptyQueues 31 = .ok (.aload_n 0, 1) := by decide +kernel
theorem dX3_emptyQueues_32 : decode cX3_emptyQueues 32 = .ok (.getfield 24, 3) := by decide +kernel
theorem dX3_emptyQueues_35 : decode cX3_emptyQueues 35 = .ok (.iload_n 1, 1) := by decide +kernel
theorem dX3_emptyQueues_36 : decode cX3_emptyQueues 36 = .ok (.iload_n 2, 1) := by decide +kernel
theorem dX3_emptyQueues_37 : decode cX3_emptyQueues 37 = .ok (.iastore, 1) := by decide +kernel
theorem dX3_emptyQueues_38 : decode cX3_emptyQueues 38 = .ok (.iinc 1 1, 3) := by decide +kernel
theorem dX3_emptyQueues_41 : decode cX3_emptyQueues 41 = .ok (.goto (-39), 3) := by decide +kernel
theorem dX3_emptyQueues_44 : decode cX3_emptyQueues 44 = .ok (.return_, 1) := by decide +kernel
theorem dX3_worthBehindOthers_0 : decode cX3_worthBehindOthers 0 = .ok (.aload_n 0, 1) := by decide +kernel
theorem dX3_worthBehindOthers_1 : decode cX3_worthBehindOthers 1 = .ok (.getfield 38, 3) := by decide +kernel
theorem dX3_worthBehindOthers_4 : decode cX3_worthBehindOthers 4 = .ok (.iload_n 1, 1) := by decide +kernel
theorem dX3_worthBehindOthers_5 : decode cX3_worthBehindOthers 5 = .ok (.invokevirtual 57, 3) := by decide +kernel
theorem dX3_worthBehindOthers_8 : decode cX3_worthBehindOthers 8 = .ok (.istore_n 2, 1) := by decide +kernel
theorem dX3_worthBehindOthers_9 : decode cX3_worthBehindOthers 9 = .ok (.aload_n 0, 1) := by decide +kernel
theorem dX3_worthBehindOthers_10 : decode cX3_worthBehindOthers 10 = .ok (.getfield 38, 3) := by decide +kernel
theorem dX3_worthBehindOthers_13 : decode cX3_worthBehindOthers 13 = .ok (.getfield 61, 3) := by decide +kernel
theorem dX3_worthBehindOthers_16 : decode cX3_worthBehindOthers 16 = .ok (.iload_n 1, 1) := by decide +kernel
theorem dX3_worthBehindOthers_17 : decode cX3_worthBehindOthers 17 = .ok (.iaload, 1) := by decide +kernel
theorem dX3_worthBehindOthers_18 : decode cX3_worthBehindOthers 18 = .ok (.istore_n 3, 1) := by decide +kernel
theorem dX3_worthBehindOthers_19 : decode cX3_worthBehindOthers 19 = .ok (.aload_n 0, 1) := by decide +kernel
theorem dX3_worthBehindOthers_20 : decode cX3_worthBehindOthers 20 = .ok (.iload_n 2, 1) := by decide +kernel
theorem dX3_worthBehindOthers_21 : decode cX3_worthBehindOthers 21 = .ok (.aload_n 0, 1) := by decide +kernel
theorem dX3_worthBehindOthers_22 : decode cX3_worthBehindOthers 22 = .ok (.getfield 34, 3) := by decide +kernel
theorem dX3_worthBehindOthers_25 : decode cX3_worthBehindOthers 25 = .ok (.iload_n 2, 1) := by decide +kernel
theorem dX3_worthBehindOthers_26 : decode cX3_worthBehindOthers 26 = .ok (.iload_n 3, 1) := by decide +kernel
theorem dX3_worthBehindOthers_27 : decode cX3_worthBehindOthers 27 = .ok (.invokevirtual 70, 3) := by decide +kernel
theorem dX3_worthBehindOthers_30 : decode cX3_worthBehindOthers 30 = .ok (.invokevirtual 76, 3) := by decide +kernel
theorem dX3_worthBehindOthers_33 : decode cX3_worthBehindOthers 33 = .ok (.aload_n 0, 1) := by decide +kernel
theorem dX3_worthBehindOthers_34 : decode cX3_worthBehindOthers 34 = .ok (.iload_n 2, 1) := by decide +kernel
theorem dX3_worthBehindOthers_35 : decode cX3_worthBehindOthers 35 = .ok (.aload_n 0, 1) := by decide +kernel
theorem dX3_worthBehindOthers_36 : decode cX3_worthBehindOthers 36 = .ok (.getfield 34, 3) := by decide +kernel
theorem dX3_worthBehindOthers_39 : decode cX3_worthBehindOthers 39 = .ok (.iload_n 2, 1) := by decide +kernel
theorem dX3_worthBehindOthers_40 : decode cX3_worthBehindOthers 40 = .ok (.iload_n 3, 1) := by decide +kernel
theorem dX3_worthBehindOthers_41 : decode cX3_worthBehindOthers 41 = .ok (.invokevirtual 80, 3) := by decide +kernel
theorem dX3_worthBehindOthers_44 : decode cX3_worthBehindOthers 44 = .ok (.invokevirtual 83, 3) := by decide +kernel
theorem dX3_worthBehindOthers_47 : decode cX3_worthBehindOthers 47 = .ok (.aload_n 0, 1) := by decide +kernel
theorem dX3_worthBehindOthers_48 : decode cX3_worthBehindOthers 48 = .ok (.getfield 18, 3) := by decide +kernel
theorem dX3_worthBehindOthers_51 : decode cX3_worthBehindOthers 51 = .ok (.iload_n 2, 1) := by decide +kernel
theorem dX3_worthBehindOthers_52 : decode cX3_worthBehindOthers 52 = .ok (.iaload, 1) := by decide +kernel
theorem dX3_worthBehindOthers_53 : decode cX3_worthBehindOthers 53 = .ok (.aload_n 0, 1) := by decide +kernel
theorem dX3_worthBehindOthers_54 : decode cX3_worthBehindOthers 54 = .ok (.getfield 21, 3) := by decide +kernel
theorem dX3_worthBehindOthers_57 : decode cX3_worthBehindOthers 57 = .ok (.iload_n 2, 1) := by decide +kernel
theorem dX3_worthBehindOthers_58 : decode cX3_worthBehindOthers 58 = .ok (.iaload, 1) := by decide +kernel
theorem dX3_worthBehindOthers_59 : decode cX3_worthBehindOthers 59 = .ok (.if_icmp .lt 5, 3) := by decide +kernel
theorem dX3_worthBehindOthers_62 : decode cX3_worthBehindOthers 62 = .ok (.iconst (-1), 1) := by decide +kernel
theorem dX3_worthBehindOthers_63 : decode cX3_worthBehindOthers 63 = .ok (.ireturn, 1) := by decide +kernel
theorem dX3_worthBehindOthers_64 : decode cX3_worthBehindOthers 64 = .ok (.aload_n 0, 1) := by decide +kernel
theorem dX3_worthBehindOthers_65 : decode cX3_worthBehindOthers 65 = .ok (.getfield 9, 3) := by decide +kernel
theorem dX3_worthBehindOthers_68 : decode cX3_worthBehindOthers 68 = .ok (.aload_n 0, 1) := by decide +kernel
theorem dX3_worthBehindOthers_69 : decode cX3_worthBehindOthers 69 = .ok (.getfield 15, 3) := by decide +kernel
theorem dX3_worthBehindOthers_72 : decode cX3_worthBehindOthers 72 = .ok (.aload_n 0, 1) := by decide +kernel
theorem dX3_worthBehindOthers_73 : decode cX3_worthBehindOthers 73 = .ok (.getfield 18, 3) := by decide +kernel
theorem dX3_worthBehindOthers_76 : decode cX3_worthBehindOthers 76 = .ok (.iload_n 2, 1) := by decide +kernel
theorem dX3_worthBehindOthers_77 : decode cX3_worthBehindOthers 77 = .ok (.iaload, 1) := by decide +kernel
theorem dX3_worthBehindOthers_78 : decode cX3_worthBehindOthers 78 = .ok (.iaload, 1) := by decide +kernel
theorem dX3_worthBehindOthers_79 : decode cX3_worthBehindOthers 79 = .ok (.iaload, 1) := by decide +kernel
theorem dX3_worthBehindOthers_80 : decode cX3_worthBehindOthers 80 = .ok (.istore 4, 2) := by decide +kernel
theorem dX3_worthBehindOthers_82 : decode cX3_worthBehindOthers 82 = .ok (.aload_n 0, 1) := by decide +kernel
theorem dX3_worthBehindOthers_83 : decode cX3_worthBehindOthers 83 = .ok (.getfield 30, 3) := by decide +kernel
theorem dX3_worthBehindOthers_86 : decode cX3_worthBehindOthers 86 = .ok (.ifCond .eq 10, 3) := by decide +kernel
theorem dX3_worthBehindOthers_89 : decode cX3_worthBehindOthers 89 = .ok (.iload 4, 2) := by decide +kernel
theorem dX3_worthBehindOthers_91 : decode cX3_worthBehindOthers 91 = .ok (.iconst 1, 1) := by decide +kernel
theorem dX3_worthBehindOthers_92 : decode cX3_worthBehindOthers 92 = .ok (.iadd, 1) := by decide +kernel
theorem dX3_worthBehindOthers_93 : decode cX3_worthBehindOthers 93 = .ok (.goto 5, 3) := by decide +kernel
theorem dX3_worthBehindOthers_96 : decode cX3_worthBehindOthers 96 = .ok (.iload 4, 2) := by decide +kernel
theorem dX3_worthBehindOthers_98 : decode cX3_worthBehindOthers 98 = .ok (.ireturn, 1) := by decide +kernel
theorem dX3_takeIn_0 : decode cX3_takeIn 0 = .ok (.aload_n 0, 1) := by decide +kernel
theorem dX3_takeIn_1 : decode cX3_takeIn 1 = .ok (.getfield 24, 3) := by decide +kernel
theorem dX3_takeIn_4 : decode cX3_takeIn 4 = .ok (.iload_n 1, 1) := by decide +kernel
theorem dX3_takeIn_5 : decode cX3_takeIn 5 = .ok (.iaload, 1) := by decide +kernel
theorem dX3_takeIn_6 : decode cX3_takeIn 6 = .ok (.istore_n 3, 1) := by decide +kernel
theorem dX3_takeIn_7 : decode cX3_takeIn 7 = .ok (.iload_n 3, 1) := by decide +kernel
theorem dX3_takeIn_8 : decode cX3_takeIn 8 = .ok (.aload_n 0, 1) := by decide +kernel
theorem dX3_takeIn_9 : decode cX3_takeIn 9 = .ok (.getfield 38, 3) := by decide +kernel
theorem dX3_takeIn_12 : decode cX3_takeIn 12 = .ok (.getfield 86, 3) := by decide +kernel
theorem dX3_takeIn_15 : decode cX3_takeIn 15 = .ok (.iload_n 1, 1) := by decide +kernel
theorem dX3_takeIn_16 : decode cX3_takeIn 16 = .ok (.iaload, 1) := by decide +kernel
theorem dX3_takeIn_17 : decode cX3_takeIn 17 = .ok (.if_icmp .ge 62, 3) := by decide +kernel
theorem dX3_takeIn_20 : decode cX3_takeIn 20 = .ok (.aload_n 0, 1) := by decide +kernel
theorem dX3_takeIn_21 : decode cX3_takeIn 21 = .ok (.getfield 38, 3) := by decide +kernel
theorem dX3_takeIn_24 : decode cX3_takeIn 24 = .ok (.getfield 89, 3) := by decide +kernel
theorem dX3_takeIn_27 : decode cX3_takeIn 27 = .ok (.aload_n 0, 1) := by decide +kernel
theorem dX3_takeIn_28 : decode cX3_takeIn 28 = .ok (.getfield 38, 3) := by decide +kernel
theorem dX3_takeIn_31 : decode cX3_takeIn 31 = .ok (.getfield 92, 3) := by decide +kernel
theorem dX3_takeIn_34 : decode cX3_takeIn 34 = .ok (.iload_n 3, 1) := by decide +kernel
theorem dX3_takeIn_35 : decode cX3_takeIn 35 = .ok (.iaload, 1) := by decide +kernel
theorem dX3_takeIn_36 : decode cX3_takeIn 36 = .ok (.iaload, 1) := by decide +kernel
theorem dX3_takeIn_37 : decode cX3_takeIn 37 = .ok (.iload_n 2, 1) := by decide +kernel
theorem dX3_takeIn_38 : decode cX3_takeIn 38 = .ok (.if_icmp .gt 41, 3) := by decide +kernel
theorem dX3_takeIn_41 : decode cX3_takeIn 41 = .ok (.aload_n 0, 1) := by decide +kernel
theorem dX3_takeIn_42 : decode cX3_takeIn 42 = .ok (.getfield 9, 3) := by decide +kernel
theorem dX3_takeIn_45 : decode cX3_takeIn 45 = .ok (.aload_n 0, 1) := by decide +kernel
theorem dX3_takeIn_46 : decode cX3_takeIn 46 = .ok (.getfield 38, 3) := by decide +kernel
theorem dX3_takeIn_49 : decode cX3_takeIn 49 = .ok (.getfield 92, 3) := by decide +kernel
theorem dX3_takeIn_52 : decode cX3_takeIn 52 = .ok (.iload_n 3, 1) := by decide +kernel
theorem dX3_takeIn_53 : decode cX3_takeIn 53 = .ok (.iaload, 1) := by decide +kernel
theorem dX3_takeIn_54 : decode cX3_takeIn 54 = .ok (.iaload, 1) := by decide +kernel
theorem dX3_takeIn_55 : decode cX3_takeIn 55 = .ok (.iconst (-1), 1) := by decide +kernel
theorem dX3_takeIn_56 : decode cX3_takeIn 56 = .ok (.if_icmp .eq 17, 3) := by decide +kernel
theorem dX3_takeIn_59 : decode cX3_takeIn 59 = .ok (.aload_n 0, 1) := by decide +kernel
theorem dX3_takeIn_60 : decode cX3_takeIn 60 = .ok (.iload_n 1, 1) := by decide +kernel
theorem dX3_takeIn_61 : decode cX3_takeIn 61 = .ok (.aload_n 0, 1) := by decide +kernel
theorem dX3_takeIn_62 : decode cX3_takeIn 62 = .ok (.getfield 38, 3) := by decide +kernel
theorem dX3_takeIn_65 : decode cX3_takeIn 65 = .ok (.getfield 92, 3) := by decide +kernel
theorem dX3_takeIn_68 : decode cX3_takeIn 68 = .ok (.iload_n 3, 1) := by decide +kernel
theorem dX3_takeIn_69 : decode cX3_takeIn 69 = .ok (.iaload, 1) := by decide +kernel
theorem dX3_takeIn_70 : decode cX3_takeIn 70 = .ok (.invokevirtual 95, 3) := by decide +kernel
theorem dX3_takeIn_73 : decode cX3_takeIn 73 = .ok (.iinc 3 1, 3) := by decide +kernel
theorem dX3_takeIn_76 : decode cX3_takeIn 76 = .ok (.goto (-69), 3) := by decide +kernel
theorem dX3_takeIn_79 : decode cX3_takeIn 79 = .ok (.aload_n 0, 1) := by decide +kernel
theorem dX3_takeIn_80 : decode cX3_takeIn 80 = .ok (.getfield 24, 3) := by decide +kernel
theorem dX3_takeIn_83 : decode cX3_takeIn 83 = .ok (.iload_n 1, 1) := by decide +kernel
theorem dX3_takeIn_84 : decode cX3_takeIn 84 = .ok (.iload_n 3, 1) := by decide +kernel
theorem dX3_takeIn_85 : decode cX3_takeIn 85 = .ok (.iastore, 1) := by decide +kernel
theorem dX3_takeIn_86 : decode cX3_takeIn 86 = .ok (.return_, 1) := by decide +kernel
theorem dX3_join_0 : decode cX3_join 0 = .ok (.aload_n 0, 1) := by decide +kernel
theorem dX3_join_1 : decode cX3_join 1 = .ok (.getfield 21, 3) := by decide +kernel
theorem dX3_join_4 : decode cX3_join 4 = .ok (.iload_n 1, 1) := by decide +kernel
theorem dX3_join_5 : decode cX3_join 5 = .ok (.iaload, 1) := by decide +kernel
theorem dX3_join_6 : decode cX3_join 6 = .ok (.istore_n 3, 1) := by decide +kernel
theorem dX3_join_7 : decode cX3_join 7 = .ok (.iload_n 3, 1) := by decide +kernel
theorem dX3_join_8 : decode cX3_join 8 = .ok (.aload_n 0, 1) := by decide +kernel
theorem dX3_join_9 : decode cX3_join 9 = .ok (.getfield 18, 3) := by decide +kernel
theorem dX3_join_12 : decode cX3_join 12 = .ok (.iload_n 1, 1) := by decide +kernel
theorem dX3_join_13 : decode cX3_join 13 = .ok (.iaload, 1) := by decide +kernel
theorem dX3_join_14 : decode cX3_join 14 = .ok (.if_icmp .le 35, 3) := by decide +kernel
theorem dX3_join_17 : decode cX3_join 17 = .ok (.aload_n 0, 1) := by decide +kernel
theorem dX3_join_18 : decode cX3_join 18 = .ok (.aload_n 0, 1) := by decide +kernel
theorem dX3_join_19 : decode cX3_join 19 = .ok (.getfield 9, 3) := by decide +kernel
theorem dX3_join_22 : decode cX3_join 22 = .ok (.aload_n 0, 1) := by decide +kernel
theorem dX3_join_23 : decode cX3_join 23 = .ok (.getfield 15, 3) := by decide +kernel
theorem dX3_join_26 : decode cX3_join 26 = .ok (.iload_n 3, 1) := by decide +kernel
theorem dX3_join_27 : decode cX3_join 27 = .ok (.iconst 1, 1) := by decide +kernel
theorem dX3_join_28 : decode cX3_join 28 = .ok (.isub, 1) := by decide +kernel
theorem dX3_join_29 : decode cX3_join 29 = .ok (.iaload, 1) := by decide +kernel
theorem dX3_join_30 : decode cX3_join 30 = .ok (.iaload, 1) := by decide +kernel
theorem dX3_join_31 : decode cX3_join 31 = .ok (.aload_n 0, 1) := by decide +kernel
theorem dX3_join_32 : decode cX3_join 32 = .ok (.getfield 9, 3) := by decide +kernel
theorem dX3_join_35 : decode cX3_join 35 = .ok (.iload_n 2, 1) := by decide +kernel
theorem dX3_join_36 : decode cX3_join 36 = .ok (.iaload, 1) := by decide +kernel
theorem dX3_join_37 : decode cX3_join 37 = .ok (.invokevirtual 98, 3) := by decide +kernel
theorem dX3_join_40 : decode cX3_join 40 = .ok (.ifCond .ne 9, 3) := by decide +kernel
theorem dX3_join_43 : decode cX3_join 43 = .ok (.iinc 3 (-1), 3) := by decide +kernel
theorem dX3_join_46 : decode cX3_join 46 = .ok (.goto (-39), 3) := by decide +kernel
theorem dX3_join_49 : decode cX3_join 49 = .ok (.aload_n 0, 1) := by decide +kernel
theorem dX3_join_50 : decode cX3_join 50 = .ok (.getfield 15, 3) := by decide +kernel
theorem dX3_join_53 : decode cX3_join 53 = .ok (.iload_n 3, 1) := by decide +kernel
theorem dX3_join_54 : decode cX3_join 54 = .ok (.iload_n 2, 1) := by decide +kernel
theorem dX3_join_55 : decode cX3_join 55 = .ok (.iastore, 1) := by decide +kernel
theorem dX3_join_56 : decode cX3_join 56 = .ok (.aload_n 0, 1) := by decide +kernel
theorem dX3_join_57 : decode cX3_join 57 = .ok (.getfield 21, 3) := by decide +kernel
theorem dX3_join_60 : decode cX3_join 60 = .ok (.iload_n 1, 1) := by decide +kernel
theorem dX3_join_61 : decode cX3_join 61 = .ok (.iload_n 3, 1) := by decide +kernel
theorem dX3_join_62 : decode cX3_join 62 = .ok (.iconst 1, 1) := by decide +kernel
theorem dX3_join_63 : decode cX3_join 63 = .ok (.iadd, 1) := by decide +kernel
theorem dX3_join_64 : decode cX3_join 64 = .ok (.iastore, 1) := by decide +kernel
theorem dX3_join_65 : decode cX3_join 65 = .ok (.return_, 1) := by decide +kernel
theorem dX3_dropOld_0 : decode cX3_dropOld 0 = .ok (.aload_n 0, 1) := by decide +kernel
theorem dX3_dropOld_1 : decode cX3_dropOld 1 = .ok (.getfield 18, 3) := by decide +kernel
theorem dX3_dropOld_4 : decode cX3_dropOld 4 = .ok (.iload_n 1, 1) := by decide +kernel
theorem dX3_dropOld_5 : decode cX3_dropOld 5 = .ok (.iaload, 1) := by decide +kernel
theorem dX3_dropOld_6 : decode cX3_dropOld 6 = .ok (.istore_n 3, 1) := by decide +kernel
theorem dX3_dropOld_7 : decode cX3_dropOld 7 = .ok (.iload_n 3, 1) := by decide +kernel
theorem dX3_dropOld_8 : decode cX3_dropOld 8 = .ok (.aload_n 0, 1) := by decide +kernel
theorem dX3_dropOld_9 : decode cX3_dropOld 9 = .ok (.getfield 21, 3) := by decide +kernel
theorem dX3_dropOld_12 : decode cX3_dropOld 12 = .ok (.iload_n 1, 1) := by decide +kernel
theorem dX3_dropOld_13 : decode cX3_dropOld 13 = .ok (.iaload, 1) := by decide +kernel
theorem dX3_dropOld_14 : decode cX3_dropOld 14 = .ok (.if_icmp .ge 27, 3) := by decide +kernel
theorem dX3_dropOld_17 : decode cX3_dropOld 17 = .ok (.aload_n 0, 1) := by decide +kernel
theorem dX3_dropOld_18 : decode cX3_dropOld 18 = .ok (.getfield 38, 3) := by decide +kernel
theorem dX3_dropOld_21 : decode cX3_dropOld 21 = .ok (.getfield 89, 3) := by decide +kernel
theorem dX3_dropOld_24 : decode cX3_dropOld 24 = .ok (.aload_n 0, 1) := by decide +kernel
theorem dX3_dropOld_25 : decode cX3_dropOld 25 = .ok (.getfield 15, 3) := by decide +kernel
theorem dX3_dropOld_28 : decode cX3_dropOld 28 = .ok (.iload_n 3, 1) := by decide +kernel
theorem dX3_dropOld_29 : decode cX3_dropOld 29 = .ok (.iaload, 1) := by decide +kernel
theorem dX3_dropOld_30 : decode cX3_dropOld 30 = .ok (.iaload, 1) := by decide +kernel
theorem dX3_dropOld_31 : decode cX3_dropOld 31 = .ok (.iload_n 2, 1) := by decide +kernel
theorem dX3_dropOld_32 : decode cX3_dropOld 32 = .ok (.if_icmp .ge 9, 3) := by decide +kernel
theorem dX3_dropOld_35 : decode cX3_dropOld 35 = .ok (.iinc 3 1, 3) := by decide +kernel
theorem dX3_dropOld_38 : decode cX3_dropOld 38 = .ok (.goto (-31), 3) := by decide +kernel
theorem dX3_dropOld_41 : decode cX3_dropOld 41 = .ok (.aload_n 0, 1) := by decide +kernel
theorem dX3_dropOld_42 : decode cX3_dropOld 42 = .ok (.getfield 18, 3) := by decide +kernel
theorem dX3_dropOld_45 : decode cX3_dropOld 45 = .ok (.iload_n 1, 1) := by decide +kernel
theorem dX3_dropOld_46 : decode cX3_dropOld 46 = .ok (.iload_n 3, 1) := by decide +kernel
theorem dX3_dropOld_47 : decode cX3_dropOld 47 = .ok (.iastore, 1) := by decide +kernel
theorem dX3_dropOld_48 : decode cX3_dropOld 48 = .ok (.return_, 1) := by decide +kernel
theorem dX3_isBetter_0 : decode cX3_isBetter 0 = .ok (.aload_n 0, 1) := by decide +kernel
theorem dX3_isBetter_1 : decode cX3_isBetter 1 = .ok (.getfield 30, 3) := by decide +kernel
theorem dX3_isBetter_4 : decode cX3_isBetter 4 = .ok (.ifCond .eq 16, 3) := by decide +kernel
theorem dX3_isBetter_7 : decode cX3_isBetter 7 = .ok (.iload_n 1, 1) := by decide +kernel
theorem dX3_isBetter_8 : decode cX3_isBetter 8 = .ok (.iload_n 2, 1) := by decide +kernel
theorem dX3_isBetter_9 : decode cX3_isBetter 9 = .ok (.if_icmp .ge 7, 3) := by decide +kernel
theorem dX3_isBetter_12 : decode cX3_isBetter 12 = .ok (.iconst 1, 1) := by decide +kernel
theorem dX3_isBetter_13 : decode cX3_isBetter 13 = .ok (.goto 17, 3) := by decide +kernel
theorem dX3_isBetter_16 : decode cX3_isBetter 16 = .ok (.iconst 0, 1) := by decide +kernel
theorem dX3_isBetter_17 : decode cX3_isBetter 17 = .ok (.goto 13, 3) := by decide +kernel
theorem dX3_isBetter_20 : decode cX3_isBetter 20 = .ok (.iload_n 1, 1) := by decide +kernel
theorem dX3_isBetter_21 : decode cX3_isBetter 21 = .ok (.iload_n 2, 1) := by decide +kernel
theorem dX3_isBetter_22 : decode cX3_isBetter 22 = .ok (.if_icmp .le 7, 3) := by decide +kernel
theorem dX3_isBetter_25 : decode cX3_isBetter 25 = .ok (.iconst 1, 1) := by decide +kernel
theorem dX3_isBetter_26 : decode cX3_isBetter 26 = .ok (.goto 4, 3) := by decide +kernel
theorem dX3_isBetter_29 : decode cX3_isBetter 29 = .ok (.iconst 0, 1) := by decide +kernel
theorem dX3_isBetter_30 : decode cX3_isBetter 30 = .ok (.ireturn, 1) := by decide +kernel
theorem dX3_firstComing_0 : decode cX3_firstComing 0 = .ok (.aload_n 0, 1) := by decide +kernel
theorem dX3_firstComing_1 : decode cX3_firstComing 1 = .ok (.getfield 38, 3) := by decide +kernel
theorem dX3_firstComing_4 : decode cX3_firstComing 4 = .ok (.iload_n 1, 1) := by decide +kernel
theorem dX3_firstComing_5 : decode cX3_firstComing 5 = .ok (.invokevirtual 67, 3) := by decide +kernel
theorem dX3_firstComing_8 : decode cX3_firstComing 8 = .ok (.istore_n 2, 1) := by decide +kernel
theorem dX3_firstComing_9 : decode cX3_firstComing 9 = .ok (.iload_n 2, 1) := by decide +kernel
theorem dX3_firstComing_10 : decode cX3_firstComing 10 = .ok (.aload_n 0, 1) := by decide +kernel
theorem dX3_firstComing_11 : decode cX3_firstComing 11 = .ok (.getfield 38, 3) := by decide +kernel
theorem dX3_firstComing_14 : decode cX3_firstComing 14 = .ok (.getfield 86, 3) := by decide +kernel
theorem dX3_firstComing_17 : decode cX3_firstComing 17 = .ok (.iload_n 1, 1) := by decide +kernel
theorem dX3_firstComing_18 : decode cX3_firstComing 18 = .ok (.iaload, 1) := by decide +kernel
theorem dX3_firstComing_19 : decode cX3_firstComing 19 = .ok (.if_icmp .ge 45, 3) := by decide +kernel
theorem dX3_firstComing_22 : decode cX3_firstComing 22 = .ok (.aload_n 0, 1) := by decide +kernel
theorem dX3_firstComing_23 : decode cX3_firstComing 23 = .ok (.getfield 9, 3) := by decide +kernel
theorem dX3_firstComing_26 : decode cX3_firstComing 26 = .ok (.aload_n 0, 1) := by decide +kernel
theorem dX3_firstComing_27 : decode cX3_firstComing 27 = .ok (.getfield 38, 3) := by decide +kernel
theorem dX3_firstComing_30 : decode cX3_firstComing 30 = .ok (.getfield 92, 3) := by decide +kernel
theorem dX3_firstComing_33 : decode cX3_firstComing 33 = .ok (.iload_n 2, 1) := by decide +kernel
theorem dX3_firstComing_34 : decode cX3_firstComing 34 = .ok (.iaload, 1) := by decide +kernel
theorem dX3_firstComing_35 : decode cX3_firstComing 35 = .ok (.iaload, 1) := by decide +kernel
theorem dX3_firstComing_36 : decode cX3_firstComing 36 = .ok (.iconst (-1), 1) := by decide +kernel
theorem dX3_firstComing_37 : decode cX3_firstComing 37 = .ok (.if_icmp .eq 21, 3) := by decide +kernel
theorem dX3_firstComing_40 : decode cX3_firstComing 40 = .ok (.aload_n 0, 1) := by decide +kernel
theorem dX3_firstComing_41 : decode cX3_firstComing 41 = .ok (.getfield 38, 3) := by decide +kernel
theorem dX3_firstComing_44 : decode cX3_firstComing 44 = .ok (.getfield 89, 3) := by decide +kernel
theorem dX3_firstComing_47 : decode cX3_firstComing 47 = .ok (.aload_n 0, 1) := by decide +kernel
theorem dX3_firstComing_48 : decode cX3_firstComing 48 = .ok (.getfield 38, 3) := by decide +kernel
theorem dX3_firstComing_51 : decode cX3_firstComing 51 = .ok (.getfield 92, 3) := by decide +kernel
theorem dX3_firstComing_54 : decode cX3_firstComing 54 = .ok (.iload_n 2, 1) := by decide +kernel
theorem dX3_firstComing_55 : decode cX3_firstComing 55 = .ok (.iaload, 1) := by decide +kernel
theorem dX3_firstComing_56 : decode cX3_firstComing 56 = .ok (.iaload, 1) := by decide +kernel
theorem dX3_firstComing_57 : decode cX3_firstComing 57 = .ok (.ireturn, 1) := by decide +kernel
theorem dX3_firstComing_58 : decode cX3_firstComing 58 = .ok (.iinc 2 1, 3) := by decide +kernel
theorem dX3_firstComing_61 : decode cX3_firstComing 61 = .ok (.goto (-52), 3) := by decide +kernel
theorem dX3_firstComing_64 : decode cX3_firstComing 64 = .ok (.iconst (-1), 1) := by decide +kernel
theorem dX3_firstComing_65 : decode cX3_firstComing 65 = .ok (.ireturn, 1) := by decide +kernel
theorem dX3_isComing_0 : decode cX3_isComing 0 = .ok (.aload_n 0, 1) := by decide +kernel
theorem dX3_isComing_1 : decode cX3_isComing 1 = .ok (.iload_n 1, 1) := by decide +kernel
theorem dX3_isComing_2 : decode cX3_isComing 2 = .ok (.invokevirtual 102, 3) := by decide +kernel
theorem dX3_isComing_5 : decode cX3_isComing 5 = .ok (.istore_n 3, 1) := by decide +kernel
theorem dX3_isComing_6 : decode cX3_isComing 6 = .ok (.iload_n 3, 1) := by decide +kernel
theorem dX3_isComing_7 : decode cX3_isComing 7 = .ok (.iconst (-1), 1) := by decide +kernel
theorem dX3_isComing_8 : decode cX3_isComing 8 = .ok (.if_icmp .eq 12, 3) := by decide +kernel
theorem dX3_isComing_11 : decode cX3_isComing 11 = .ok (.iload_n 3, 1) := by decide +kernel
theorem dX3_isComing_12 : decode cX3_isComing 12 = .ok (.iload_n 2, 1) := by decide +kernel
theorem dX3_isComing_13 : decode cX3_isComing 13 = .ok (.if_icmp .gt 7, 3) := by decide +kernel
theorem dX3_isComing_16 : decode cX3_isComing 16 = .ok (.iconst 1, 1) := by decide +kernel
theorem dX3_isComing_17 : decode cX3_isComing 17 = .ok (.goto 4, 3) := by decide +kernel
theorem dX3_isComing_20 : decode cX3_isComing 20 = .ok (.iconst 0, 1) := by decide +kernel
theorem dX3_isComing_21 : decode cX3_isComing 21 = .ok (.ireturn, 1) := by decide +kernel
theorem dX3_isEnd_0 : decode cX3_isEnd 0 = .ok (.aload_n 0, 1) := by decide +kernel
theorem dX3_isEnd_1 : decode cX3_isEnd 1 = .ok (.getfield 9, 3) := by decide +kernel
theorem dX3_isEnd_4 : decode cX3_isEnd 4 = .ok (.iload_n 1, 1) := by decide +kernel
theorem dX3_isEnd_5 : decode cX3_isEnd 5 = .ok (.iaload, 1) := by decide +kernel
theorem dX3_isEnd_6 : decode cX3_isEnd 6 = .ok (.iconst (-1), 1) := by decide +kernel
theorem dX3_isEnd_7 : decode cX3_isEnd 7 = .ok (.if_icmp .eq 20, 3) := by decide +kernel
theorem dX3_isEnd_10 : decode cX3_isEnd 10 = .ok (.aload_n 0, 1) := by decide +kernel
theorem dX3_isEnd_11 : decode cX3_isEnd 11 = .ok (.getfield 38, 3) := by decide +kernel
theorem dX3_isEnd_14 : decode cX3_isEnd 14 = .ok (.getfield 89, 3) := by decide +kernel
theorem dX3_isEnd_17 : decode cX3_isEnd 17 = .ok (.iload_n 1, 1) := by decide +kernel
theorem dX3_isEnd_18 : decode cX3_isEnd 18 = .ok (.iaload, 1) := by decide +kernel
theorem dX3_isEnd_19 : decode cX3_isEnd 19 = .ok (.iload_n 2, 1) := by decide +kernel
theorem dX3_isEnd_20 : decode cX3_isEnd 20 = .ok (.if_icmp .gt 7, 3) := by decide +kernel
theorem dX3_isEnd_23 : decode cX3_isEnd 23 = .ok (.iconst 1, 1) := by decide +kernel
theorem dX3_isEnd_24 : decode cX3_isEnd 24 = .ok (.goto 4, 3) := by decide +kernel
theorem dX3_isEnd_27 : decode cX3_isEnd 27 = .ok (.iconst 0, 1) := by decide +kernel
theorem dX3_isEnd_28 : decode cX3_isEnd 28 = .ok (.ireturn, 1) := by decide +kernel
theorem dX3_lastLeaving_0 : decode cX3_lastLeaving 0 = .ok (.iconst (-1), 1) := by decide +kernel
theorem dX3_lastLeaving_1 : decode cX3_lastLeaving 1 = .ok (.istore_n 3, 1) := by decide +kernel
theorem dX3_lastLeaving_2 : decode cX3_lastLeaving 2 = .ok (.aload_n 0, 1) := by decide +kernel
theorem dX3_lastLeaving_3 : decode cX3_lastLeaving 3 = .ok (.getfield 38, 3) := by decide +kernel
theorem dX3_lastLeaving_6 : decode cX3_lastLeaving 6 = .ok (.iload_n 1, 1) := by decide +kernel
theorem dX3_lastLeaving_7 : decode cX3_lastLeaving 7 = .ok (.invokevirtual 67, 3) := by decide +kernel
theorem dX3_lastLeaving_10 : decode cX3_lastLeaving 10 = .ok (.istore 4, 2) := by decide +kernel
theorem dX3_lastLeaving_12 : decode cX3_lastLeaving 12 = .ok (.iload 4, 2) := by decide +kernel
theorem dX3_lastLeaving_14 : decode cX3_lastLeaving 14 = .ok (.aload_n 0, 1) := by decide +kernel
theorem dX3_lastLeaving_15 : decode cX3_lastLeaving 15 = .ok (.getfield 38, 3) := by decide +kernel
theorem dX3_lastLeaving_18 : decode cX3_lastLeaving 18 = .ok (.getfield 86, 3) := by decide +kernel
theorem dX3_lastLeaving_21 : decode cX3_lastLeaving 21 = .ok (.iload_n 1, 1) := by decide +kernel
theorem dX3_lastLeaving_22 : decode cX3_lastLeaving 22 = .ok (.iaload, 1) := by decide +kernel
theorem dX3_lastLeaving_23 : decode cX3_lastLeaving 23 = .ok (.if_icmp .ge 43, 3) := by decide +kernel
theorem dX3_lastLeaving_26 : decode cX3_lastLeaving 26 = .ok (.aload_n 0, 1) := by decide +kernel
theorem dX3_lastLeaving_27 : decode cX3_lastLeaving 27 = .ok (.getfield 38, 3) := by decide +kernel
theorem dX3_lastLeaving_30 : decode cX3_lastLeaving 30 = .ok (.getfield 92, 3) := by decide +kernel
theorem dX3_lastLeaving_33 : decode cX3_lastLeaving 33 = .ok (.iload 4, 2) := by decide +kernel
theorem dX3_lastLeaving_35 : decode cX3_lastLeaving 35 = .ok (.iaload, 1) := by decide +kernel
theorem dX3_lastLeaving_36 : decode cX3_lastLeaving 36 = .ok (.istore 5, 2) := by decide +kernel
theorem dX3_lastLeaving_38 : decode cX3_lastLeaving 38 = .ok (.aload_n 0, 1) := by decide +kernel
theorem dX3_lastLeaving_39 : decode cX3_lastLeaving 39 = .ok (.iload 5, 2) := by decide +kernel
theorem dX3_lastLeaving_41 : decode cX3_lastLeaving 41 = .ok (.iload_n 2, 1) := by decide +kernel
theorem dX3_lastLeaving_42 : decode cX3_lastLeaving 42 = .ok (.invokevirtual 105, 3) := by decide +kernel
theorem dX3_lastLeaving_45 : decode cX3_lastLeaving 45 = .ok (.ifCond .eq 15, 3) := by decide +kernel
theorem dX3_lastLeaving_48 : decode cX3_lastLeaving 48 = .ok (.iload_n 3, 1) := by decide +kernel
theorem dX3_lastLeaving_49 : decode cX3_lastLeaving 49 = .ok (.aload_n 0, 1) := by decide +kernel
theorem dX3_lastLeaving_50 : decode cX3_lastLeaving 50 = .ok (.getfield 9, 3) := by decide +kernel
theorem dX3_lastLeaving_53 : decode cX3_lastLeaving 53 = .ok (.iload 5, 2) := by decide +kernel
theorem dX3_lastLeaving_55 : decode cX3_lastLeaving 55 = .ok (.iaload, 1) := by decide +kernel
theorem dX3_lastLeaving_56 : decode cX3_lastLeaving 56 = .ok (.invokestatic 108, 3) := by decide +kernel
theorem dX3_lastLeaving_59 : decode cX3_lastLeaving 59 = .ok (.istore_n 3, 1) := by decide +kernel
theorem dX3_lastLeaving_60 : decode cX3_lastLeaving 60 = .ok (.iinc 4 1, 3) := by decide +kernel
theorem dX3_lastLeaving_63 : decode cX3_lastLeaving 63 = .ok (.goto (-51), 3) := by decide +kernel
theorem dX3_lastLeaving_66 : decode cX3_lastLeaving 66 = .ok (.iload_n 3, 1) := by decide +kernel
theorem dX3_lastLeaving_67 : decode cX3_lastLeaving 67 = .ok (.ireturn, 1) := by decide +kernel
theorem dX3_leastTicks_0 : decode cX3_leastTicks 0 = .ok (.iconst (-1), 1) := by decide +kernel
theorem dX3_leastTicks_1 : decode cX3_leastTicks 1 = .ok (.istore_n 3, 1) := by decide +kernel
theorem dX3_leastTicks_2 : decode cX3_leastTicks 2 = .ok (.aload_n 0, 1) := by decide +kernel
theorem dX3_leastTicks_3 : decode cX3_leastTicks 3 = .ok (.getfield 38, 3) := by decide +kernel
theorem dX3_leastTicks_6 : decode cX3_leastTicks 6 = .ok (.iload_n 1, 1) := by decide +kernel
theorem dX3_leastTicks_7 : decode cX3_leastTicks 7 = .ok (.invokevirtual 67, 3) := by decide +kernel
theorem dX3_leastTicks_10 : decode cX3_leastTicks 10 = .ok (.istore 4, 2) := by decide +kernel
theorem dX3_leastTicks_12 : decode cX3_leastTicks 12 = .ok (.iload 4, 2) := by decide +kernel
theorem dX3_leastTicks_14 : decode cX3_leastTicks 14 = .ok (.aload_n 0, 1) := by decide +kernel
theorem dX3_leastTicks_15 : decode cX3_leastTicks 15 = .ok (.getfield 38, 3) := by decide +kernel
theorem dX3_leastTicks_18 : decode cX3_leastTicks 18 = .ok (.getfield 86, 3) := by decide +kernel
theorem dX3_leastTicks_21 : decode cX3_leastTicks 21 = .ok (.iload_n 1, 1) := by decide +kernel
theorem dX3_leastTicks_22 : decode cX3_leastTicks 22 = .ok (.iaload, 1) := by decide +kernel
theorem dX3_leastTicks_23 : decode cX3_leastTicks 23 = .ok (.if_icmp .ge 65, 3) := by decide +kernel
theorem dX3_leastTicks_26 : decode cX3_leastTicks 26 = .ok (.aload_n 0, 1) := by decide +kernel
theorem dX3_leastTicks_27 : decode cX3_leastTicks 27 = .ok (.getfield 38, 3) := by decide +kernel
theorem dX3_leastTicks_30 : decode cX3_leastTicks 30 = .ok (.getfield 92, 3) := by decide +kernel
theorem dX3_leastTicks_33 : decode cX3_leastTicks 33 = .ok (.iload 4, 2) := by decide +kernel
theorem dX3_leastTicks_35 : decode cX3_leastTicks 35 = .ok (.iaload, 1) := by decide +kernel
theorem dX3_leastTicks_36 : decode cX3_leastTicks 36 = .ok (.istore 5, 2) := by decide +kernel
theorem dX3_leastTicks_38 : decode cX3_leastTicks 38 = .ok (.aload_n 0, 1) := by decide +kernel
theorem dX3_leastTicks_39 : decode cX3_leastTicks 39 = .ok (.getfield 38, 3) := by decide +kernel
theorem dX3_leastTicks_42 : decode cX3_leastTicks 42 = .ok (.getfield 89, 3) := by decide +kernel
theorem dX3_leastTicks_45 : decode cX3_leastTicks 45 = .ok (.iload 5, 2) := by decide +kernel
theorem dX3_leastTicks_47 : decode cX3_leastTicks 47 = .ok (.iaload, 1) := by decide +kernel
theorem dX3_leastTicks_48 : decode cX3_leastTicks 48 = .ok (.aload_n 0, 1) := by decide +kernel
theorem dX3_leastTicks_49 : decode cX3_leastTicks 49 = .ok (.getfield 9, 3) := by decide +kernel
theorem dX3_leastTicks_52 : decode cX3_leastTicks 52 = .ok (.iload 5, 2) := by decide +kernel
theorem dX3_leastTicks_54 : decode cX3_leastTicks 54 = .ok (.iaload, 1) := by decide +kernel
theorem dX3_leastTicks_55 : decode cX3_leastTicks 55 = .ok (.isub, 1) := by decide +kernel
theorem dX3_leastTicks_56 : decode cX3_leastTicks 56 = .ok (.istore 6, 2) := by decide +kernel
theorem dX3_leastTicks_58 : decode cX3_leastTicks 58 = .ok (.aload_n 0, 1) := by decide +kernel
theorem dX3_leastTicks_59 : decode cX3_leastTicks 59 = .ok (.iload 5, 2) := by decide +kernel
theorem dX3_leastTicks_61 : decode cX3_leastTicks 61 = .ok (.iload_n 2, 1) := by decide +kernel
theorem dX3_leastTicks_62 : decode cX3_leastTicks 62 = .ok (.invokevirtual 105, 3) := by decide +kernel
theorem dX3_leastTicks_65 : decode cX3_leastTicks 65 = .ok (.ifCond .eq 17, 3) := by decide +kernel
theorem dX3_leastTicks_68 : decode cX3_leastTicks 68 = .ok (.iload_n 3, 1) := by decide +kernel
theorem dX3_leastTicks_69 : decode cX3_leastTicks 69 = .ok (.iconst (-1), 1) := by decide +kernel
theorem dX3_leastTicks_70 : decode cX3_leastTicks 70 = .ok (.if_icmp .eq 9, 3) := by decide +kernel
theorem dX3_leastTicks_73 : decode cX3_leastTicks 73 = .ok (.iload 6, 2) := by decide +kernel
theorem dX3_leastTicks_75 : decode cX3_leastTicks 75 = .ok (.iload_n 3, 1) := by decide +kernel
theorem dX3_leastTicks_76 : decode cX3_leastTicks 76 = .ok (.if_icmp .ge 6, 3) := by decide +kernel
theorem dX3_leastTicks_79 : decode cX3_leastTicks 79 = .ok (.iload 6, 2) := by decide +kernel
theorem dX3_leastTicks_81 : decode cX3_leastTicks 81 = .ok (.istore_n 3, 1) := by decide +kernel
theorem dX3_leastTicks_82 : decode cX3_leastTicks 82 = .ok (.iinc 4 1, 3) := by decide +kernel
theorem dX3_leastTicks_85 : decode cX3_leastTicks 85 = .ok (.goto (-73), 3) := by decide +kernel
theorem dX3_leastTicks_88 : decode cX3_leastTicks 88 = .ok (.iload_n 3, 1) := by decide +kernel
theorem dX3_leastTicks_89 : decode cX3_leastTicks 89 = .ok (.ireturn, 1) := by decide +kernel
theorem dX3_leastRuns_0 : decode cX3_leastRuns 0 = .ok (.iconst (-1), 1) := by decide +kernel
theorem dX3_leastRuns_1 : decode cX3_leastRuns 1 = .ok (.istore_n 3, 1) := by decide +kernel
theorem dX3_leastRuns_2 : decode cX3_leastRuns 2 = .ok (.aload_n 0, 1) := by decide +kernel
theorem dX3_leastRuns_3 : decode cX3_leastRuns 3 = .ok (.getfield 38, 3) := by decide +kernel
theorem dX3_leastRuns_6 : decode cX3_leastRuns 6 = .ok (.iload_n 1, 1) := by decide +kernel
theorem dX3_leastRuns_7 : decode cX3_leastRuns 7 = .ok (.invokevirtual 67, 3) := by decide +kernel
theorem dX3_leastRuns_10 : decode cX3_leastRuns 10 = .ok (.istore 4, 2) := by decide +kernel
theorem dX3_leastRuns_12 : decode cX3_leastRuns 12 = .ok (.iload 4, 2) := by decide +kernel
theorem dX3_leastRuns_14 : decode cX3_leastRuns 14 = .ok (.aload_n 0, 1) := by decide +kernel
theorem dX3_leastRuns_15 : decode cX3_leastRuns 15 = .ok (.getfield 38, 3) := by decide +kernel
theorem dX3_leastRuns_18 : decode cX3_leastRuns 18 = .ok (.getfield 86, 3) := by decide +kernel
theorem dX3_leastRuns_21 : decode cX3_leastRuns 21 = .ok (.iload_n 1, 1) := by decide +kernel
theorem dX3_leastRuns_22 : decode cX3_leastRuns 22 = .ok (.iaload, 1) := by decide +kernel
theorem dX3_leastRuns_23 : decode cX3_leastRuns 23 = .ok (.if_icmp .ge 55, 3) := by decide +kernel
theorem dX3_leastRuns_26 : decode cX3_leastRuns 26 = .ok (.aload_n 0, 1) := by decide +kernel
theorem dX3_leastRuns_27 : decode cX3_leastRuns 27 = .ok (.getfield 38, 3) := by decide +kernel
theorem dX3_leastRuns_30 : decode cX3_leastRuns 30 = .ok (.getfield 92, 3) := by decide +kernel
theorem dX3_leastRuns_33 : decode cX3_leastRuns 33 = .ok (.iload 4, 2) := by decide +kernel
theorem dX3_leastRuns_35 : decode cX3_leastRuns 35 = .ok (.iaload, 1) := by decide +kernel
theorem dX3_leastRuns_36 : decode cX3_leastRuns 36 = .ok (.istore 5, 2) := by decide +kernel
theorem dX3_leastRuns_38 : decode cX3_leastRuns 38 = .ok (.aload_n 0, 1) := by decide +kernel
theorem dX3_leastRuns_39 : decode cX3_leastRuns 39 = .ok (.iload 5, 2) := by decide +kernel
theorem dX3_leastRuns_41 : decode cX3_leastRuns 41 = .ok (.iload_n 2, 1) := by decide +kernel
theorem dX3_leastRuns_42 : decode cX3_leastRuns 42 = .ok (.invokevirtual 105, 3) := by decide +kernel
theorem dX3_leastRuns_45 : decode cX3_leastRuns 45 = .ok (.ifCond .eq 27, 3) := by decide +kernel
theorem dX3_leastRuns_48 : decode cX3_leastRuns 48 = .ok (.iload_n 3, 1) := by decide +kernel
theorem dX3_leastRuns_49 : decode cX3_leastRuns 49 = .ok (.iconst (-1), 1) := by decide +kernel
theorem dX3_leastRuns_50 : decode cX3_leastRuns 50 = .ok (.if_icmp .eq 14, 3) := by decide +kernel
theorem dX3_leastRuns_53 : decode cX3_leastRuns 53 = .ok (.aload_n 0, 1) := by decide +kernel
theorem dX3_leastRuns_54 : decode cX3_leastRuns 54 = .ok (.getfield 9, 3) := by decide +kernel
theorem dX3_leastRuns_57 : decode cX3_leastRuns 57 = .ok (.iload 5, 2) := by decide +kernel
theorem dX3_leastRuns_59 : decode cX3_leastRuns 59 = .ok (.iaload, 1) := by decide +kernel
theorem dX3_leastRuns_60 : decode cX3_leastRuns 60 = .ok (.iload_n 3, 1) := by decide +kernel
theorem dX3_leastRuns_61 : decode cX3_leastRuns 61 = .ok (.if_icmp .ge 11, 3) := by decide +kernel
theorem dX3_leastRuns_64 : decode cX3_leastRuns 64 = .ok (.aload_n 0, 1) := by decide +kernel
theorem dX3_leastRuns_65 : decode cX3_leastRuns 65 = .ok (.getfield 9, 3) := by decide +kernel
theorem dX3_leastRuns_68 : decode cX3_leastRuns 68 = .ok (.iload 5, 2) := by decide +kernel
theorem dX3_leastRuns_70 : decode cX3_leastRuns 70 = .ok (.iaload, 1) := by decide +kernel
theorem dX3_leastRuns_71 : decode cX3_leastRuns 71 = .ok (.istore_n 3, 1) := by decide +kernel
theorem dX3_leastRuns_72 : decode cX3_leastRuns 72 = .ok (.iinc 4 1, 3) := by decide +kernel
theorem dX3_leastRuns_75 : decode cX3_leastRuns 75 = .ok (.goto (-63), 3) := by decide +kernel
theorem dX3_leastRuns_78 : decode cX3_leastRuns 78 = .ok (.iload_n 3, 1) := by decide +kernel
theorem dX3_leastRuns_79 : decode cX3_leastRuns 79 = .ok (.ireturn, 1) := by decide +kernel
theorem dX3_findBestPairs_0 : decode cX3_findBestPairs 0 = .ok (.iconst 0, 1) := by decide +kernel
theorem dX3_findBestPairs_1 : decode cX3_findBestPairs 1 = .ok (.istore_n 2, 1) := by decide +kernel
theorem dX3_findBestPairs_2 : decode cX3_findBestPairs 2 = .ok (.iconst (-1), 1) := by decide +kernel
theorem dX3_findBestPairs_3 : decode cX3_findBestPairs 3 = .ok (.istore_n 3, 1) := by decide +kernel
theorem dX3_findBestPairs_4 : decode cX3_findBestPairs 4 = .ok (.aload_n 0, 1) := by decide +kernel
theorem dX3_findBestPairs_5 : decode cX3_findBestPairs 5 = .ok (.getfield 38, 3) := by decide +kernel
theorem dX3_findBestPairs_8 : decode cX3_findBestPairs 8 = .ok (.iload_n 1, 1) := by decide +kernel
theorem dX3_findBestPairs_9 : decode cX3_findBestPairs 9 = .ok (.invokevirtual 67, 3) := by decide +kernel
theorem dX3_findBestPairs_12 : decode cX3_findBestPairs 12 = .ok (.istore 4, 2) := by decide +kernel
theorem dX3_findBestPairs_14 : decode cX3_findBestPairs 14 = .ok (.iload 4, 2) := by decide +kernel
theorem dX3_findBestPairs_16 : decode cX3_findBestPairs 16 = .ok (.aload_n 0, 1) := by decide +kernel
theorem dX3_findBestPairs_17 : decode cX3_findBestPairs 17 = .ok (.getfield 38, 3) := by decide +kernel
theorem dX3_findBestPairs_20 : decode cX3_findBestPairs 20 = .ok (.getfield 86, 3) := by decide +kernel
theorem dX3_findBestPairs_23 : decode cX3_findBestPairs 23 = .ok (.iload_n 1, 1) := by decide +kernel
theorem dX3_findBestPairs_24 : decode cX3_findBestPairs 24 = .ok (.iaload, 1) := by decide +kernel
theorem dX3_findBestPairs_25 : decode cX3_findBestPairs 25 = .ok (.if_icmp .ge 78, 3) := by decide +kernel
theorem dX3_findBestPairs_28 : decode cX3_findBestPairs 28 = .ok (.aload_n 0, 1) := by decide +kernel
theorem dX3_findBestPairs_29 : decode cX3_findBestPairs 29 = .ok (.getfield 38, 3) := by decide +kernel
theorem dX3_findBestPairs_32 : decode cX3_findBestPairs 32 = .ok (.getfield 92, 3) := by decide +kernel
theorem dX3_findBestPairs_35 : decode cX3_findBestPairs 35 = .ok (.iload 4, 2) := by decide +kernel
theorem dX3_findBestPairs_37 : decode cX3_findBestPairs 37 = .ok (.iaload, 1) := by decide +kernel
theorem dX3_findBestPairs_38 : decode cX3_findBestPairs 38 = .ok (.istore 5, 2) := by decide +kernel
theorem dX3_findBestPairs_40 : decode cX3_findBestPairs 40 = .ok (.aload_n 0, 1) := by decide +kernel
theorem dX3_findBestPairs_41 : decode cX3_findBestPairs 41 = .ok (.getfield 9, 3) := by decide +kernel
theorem dX3_findBestPairs_44 : decode cX3_findBestPairs 44 = .ok (.iload 5, 2) := by decide +kernel
theorem dX3_findBestPairs_46 : decode cX3_findBestPairs 46 = .ok (.iaload, 1) := by decide +kernel
theorem dX3_findBestPairs_47 : decode cX3_findBestPairs 47 = .ok (.iload_n 3, 1) := by decide +kernel
theorem dX3_findBestPairs_48 : decode cX3_findBestPairs 48 = .ok (.if_icmp .le 49, 3) := by decide +kernel
theorem dX3_findBestPairs_51 : decode cX3_findBestPairs 51 = .ok (.aload_n 0, 1) := by decide +kernel
theorem dX3_findBestPairs_52 : decode cX3_findBestPairs 52 = .ok (.getfield 9, 3) := by decide +kernel
theorem dX3_findBestPairs_55 : decode cX3_findBestPairs 55 = .ok (.iload 5, 2) := by decide +kernel
theorem dX3_findBestPairs_57 : decode cX3_findBestPairs 57 = .ok (.iaload, 1) := by decide +kernel
theorem dX3_findBestPairs_58 : decode cX3_findBestPairs 58 = .ok (.istore_n 3, 1) := by decide +kernel
theorem dX3_findBestPairs_59 : decode cX3_findBestPairs 59 = .ok (.iload_n 2, 1) := by decide +kernel
theorem dX3_findBestPairs_60 : decode cX3_findBestPairs 60 = .ok (.ifCond .le 26, 3) := by decide +kernel
theorem dX3_findBestPairs_63 : decode cX3_findBestPairs 63 = .ok (.aload_n 0, 1) := by decide +kernel
theorem dX3_findBestPairs_64 : decode cX3_findBestPairs 64 = .ok (.iload_n 2, 1) := by decide +kernel
theorem dX3_findBestPairs_65 : decode cX3_findBestPairs 65 = .ok (.iconst 1, 1) := by decide +kernel
theorem dX3_findBestPairs_66 : decode cX3_findBestPairs 66 = .ok (.isub, 1) := by decide +kernel
theorem dX3_findBestPairs_67 : decode cX3_findBestPairs 67 = .ok (.invokevirtual 113, 3) := by decide +kernel
theorem dX3_findBestPairs_70 : decode cX3_findBestPairs 70 = .ok (.aload_n 0, 1) := by decide +kernel
theorem dX3_findBestPairs_71 : decode cX3_findBestPairs 71 = .ok (.getfield 38, 3) := by decide +kernel
theorem dX3_findBestPairs_74 : decode cX3_findBestPairs 74 = .ok (.getfield 89, 3) := by decide +kernel
theorem dX3_findBestPairs_77 : decode cX3_findBestPairs 77 = .ok (.iload 5, 2) := by decide +kernel
theorem dX3_findBestPairs_79 : decode cX3_findBestPairs 79 = .ok (.iaload, 1) := by decide +kernel
theorem dX3_findBestPairs_80 : decode cX3_findBestPairs 80 = .ok (.if_icmp .ne 6, 3) := by decide +kernel
theorem dX3_findBestPairs_83 : decode cX3_findBestPairs 83 = .ok (.iinc 2 (-1), 3) := by decide +kernel
theorem dX3_findBestPairs_86 : decode cX3_findBestPairs 86 = .ok (.aload_n 0, 1) := by decide +kernel
theorem dX3_findBestPairs_87 : decode cX3_findBestPairs 87 = .ok (.getfield 27, 3) := by decide +kernel
theorem dX3_findBestPairs_90 : decode cX3_findBestPairs 90 = .ok (.iload_n 2, 1) := by decide +kernel
theorem dX3_findBestPairs_91 : decode cX3_findBestPairs 91 = .ok (.iload 5, 2) := by decide +kernel
theorem dX3_findBestPairs_93 : decode cX3_findBestPairs 93 = .ok (.iastore, 1) := by decide +kernel
theorem dX3_findBestPairs_94 : decode cX3_findBestPairs 94 = .ok (.iinc 2 1, 3) := by decide +kernel
theorem dX3_findBestPairs_97 : decode cX3_findBestPairs 97 = .ok (.iinc 4 1, 3) := by decide +kernel
theorem dX3_findBestPairs_100 : decode cX3_findBestPairs 100 = .ok (.goto (-86), 3) := by decide +kernel
theorem dX3_findBestPairs_103 : decode cX3_findBestPairs 103 = .ok (.iload_n 2, 1) := by decide +kernel
theorem dX3_findBestPairs_104 : decode cX3_findBestPairs 104 = .ok (.ireturn, 1) := by decide +kernel
theorem dX3_pairLeaving_0 : decode cX3_pairLeaving 0 = .ok (.aload_n 0, 1) := by decide +kernel
theorem dX3_pairLeaving_1 : decode cX3_pairLeaving 1 = .ok (.getfield 9, 3) := by decide +kernel
theorem dX3_pairLeaving_4 : decode cX3_pairLeaving 4 = .ok (.aload_n 0, 1) := by decide +kernel
theorem dX3_pairLeaving_5 : decode cX3_pairLeaving 5 = .ok (.getfield 27, 3) := by decide +kernel
theorem dX3_pairLeaving_8 : decode cX3_pairLeaving 8 = .ok (.iload_n 1, 1) := by decide +kernel
theorem dX3_pairLeaving_9 : decode cX3_pairLeaving 9 = .ok (.iaload, 1) := by decide +kernel
theorem dX3_pairLeaving_10 : decode cX3_pairLeaving 10 = .ok (.iaload, 1) := by decide +kernel
theorem dX3_pairLeaving_11 : decode cX3_pairLeaving 11 = .ok (.ireturn, 1) := by decide +kernel
theorem dX3_pairComing_0 : decode cX3_pairComing 0 = .ok (.aload_n 0, 1) := by decide +kernel
theorem dX3_pairComing_1 : decode cX3_pairComing 1 = .ok (.getfield 38, 3) := by decide +kernel
theorem dX3_pairComing_4 : decode cX3_pairComing 4 = .ok (.getfield 89, 3) := by decide +kernel
theorem dX3_pairComing_7 : decode cX3_pairComing 7 = .ok (.aload_n 0, 1) := by decide +kernel
theorem dX3_pairComing_8 : decode cX3_pairComing 8 = .ok (.getfield 27, 3) := by decide +kernel
theorem dX3_pairComing_11 : decode cX3_pairComing 11 = .ok (.iload_n 1, 1) := by decide +kernel
theorem dX3_pairComing_12 : decode cX3_pairComing 12 = .ok (.iaload, 1) := by decide +kernel
theorem dX3_pairComing_13 : decode cX3_pairComing 13 = .ok (.iaload, 1) := by decide +kernel
theorem dX3_pairComing_14 : decode cX3_pairComing 14 = .ok (.ireturn, 1) := by decide +kernel
theorem dX3_trace_0 : decode cX3_trace 0 = .ok (.aload_n 0, 1) := by decide +kernel
theorem dX3_trace_1 : decode cX3_trace 1 = .ok (.iload_n 1, 1) := by decide +kernel
theorem dX3_trace_2 : decode cX3_trace 2 = .ok (.invokevirtual 116, 3) := by decide +kernel
theorem dX3_trace_5 : decode cX3_trace 5 = .ok (.istore_n 3, 1) := by decide +kernel
theorem dX3_trace_6 : decode cX3_trace 6 = .ok (.iload_n 3, 1) := by decide +kernel
theorem dX3_trace_7 : decode cX3_trace 7 = .ok (.iconst (-1), 1) := by decide +kernel
theorem dX3_trace_8 : decode cX3_trace 8 = .ok (.if_icmp .ne 5, 3) := by decide +kernel
theorem dX3_trace_11 : decode cX3_trace 11 = .ok (.iconst (-1), 1) := by decide +kernel
theorem dX3_trace_12 : decode cX3_trace 12 = .ok (.ireturn, 1) := by decide +kernel
theorem dX3_trace_13 : decode cX3_trace 13 = .ok (.aload_n 0, 1) := by decide +kernel
theorem dX3_trace_14 : decode cX3_trace 14 = .ok (.getfield 9, 3) := by decide +kernel
theorem dX3_trace_17 : decode cX3_trace 17 = .ok (.iload_n 3, 1) := by decide +kernel
theorem dX3_trace_18 : decode cX3_trace 18 = .ok (.iaload, 1) := by decide +kernel
theorem dX3_trace_19 : decode cX3_trace 19 = .ok (.istore 4, 2) := by decide +kernel
theorem dX3_trace_21 : decode cX3_trace 21 = .ok (.iload 4, 2) := by decide +kernel
theorem dX3_trace_23 : decode cX3_trace 23 = .ok (.iconst 1, 1) := by decide +kernel
theorem dX3_trace_24 : decode cX3_trace 24 = .ok (.isub, 1) := by decide +kernel
theorem dX3_trace_25 : decode cX3_trace 25 = .ok (.istore 5, 2) := by decide +kernel
theorem dX3_trace_27 : decode cX3_trace 27 = .ok (.iload 5, 2) := by decide +kernel
theorem dX3_trace_29 : decode cX3_trace 29 = .ok (.ifCond .lt 51, 3) := by decide +kernel
theorem dX3_trace_32 : decode cX3_trace 32 = .ok (.iload_n 3, 1) := by decide +kernel
theorem dX3_trace_33 : decode cX3_trace 33 = .ok (.iconst (-1), 1) := by decide +kernel
theorem dX3_trace_34 : decode cX3_trace 34 = .ok (.if_icmp .eq 46, 3) := by decide +kernel
theorem dX3_trace_37 : decode cX3_trace 37 = .ok (.aload_n 2, 1) := by decide +kernel
theorem dX3_trace_38 : decode cX3_trace 38 = .ok (.iconst 2, 1) := by decide +kernel
theorem dX3_trace_39 : decode cX3_trace 39 = .ok (.iload 5, 2) := by decide +kernel
theorem dX3_trace_41 : decode cX3_trace 41 = .ok (.imul, 1) := by decide +kernel
theorem dX3_trace_42 : decode cX3_trace 42 = .ok (.aload_n 0, 1) := by decide +kernel
theorem dX3_trace_43 : decode cX3_trace 43 = .ok (.getfield 38, 3) := by decide +kernel
theorem dX3_trace_46 : decode cX3_trace 46 = .ok (.getfield 54, 3) := by decide +kernel
theorem dX3_trace_49 : decode cX3_trace 49 = .ok (.iload_n 3, 1) := by decide +kernel
theorem dX3_trace_50 : decode cX3_trace 50 = .ok (.iaload, 1) := by decide +kernel
theorem dX3_trace_51 : decode cX3_trace 51 = .ok (.iastore, 1) := by decide +kernel
theorem dX3_trace_52 : decode cX3_trace 52 = .ok (.aload_n 2, 1) := by decide +kernel
theorem dX3_trace_53 : decode cX3_trace 53 = .ok (.iconst 2, 1) := by decide +kernel
theorem dX3_trace_54 : decode cX3_trace 54 = .ok (.iload 5, 2) := by decide +kernel
theorem dX3_trace_56 : decode cX3_trace 56 = .ok (.imul, 1) := by decide +kernel
theorem dX3_trace_57 : decode cX3_trace 57 = .ok (.iconst 1, 1) := by decide +kernel
theorem dX3_trace_58 : decode cX3_trace 58 = .ok (.iadd, 1) := by decide +kernel
theorem dX3_trace_59 : decode cX3_trace 59 = .ok (.aload_n 0, 1) := by decide +kernel
theorem dX3_trace_60 : decode cX3_trace 60 = .ok (.getfield 38, 3) := by decide +kernel
theorem dX3_trace_63 : decode cX3_trace 63 = .ok (.iload_n 3, 1) := by decide +kernel
theorem dX3_trace_64 : decode cX3_trace 64 = .ok (.invokevirtual 119, 3) := by decide +kernel
theorem dX3_trace_67 : decode cX3_trace 67 = .ok (.iastore, 1) := by decide +kernel
theorem dX3_trace_68 : decode cX3_trace 68 = .ok (.aload_n 0, 1) := by decide +kernel
theorem dX3_trace_69 : decode cX3_trace 69 = .ok (.iload_n 3, 1) := by decide +kernel
theorem dX3_trace_70 : decode cX3_trace 70 = .ok (.invokevirtual 122, 3) := by decide +kernel
theorem dX3_trace_73 : decode cX3_trace 73 = .ok (.istore_n 3, 1) := by decide +kernel
theorem dX3_trace_74 : decode cX3_trace 74 = .ok (.iinc 5 (-1), 3) := by decide +kernel
theorem dX3_trace_77 : decode cX3_trace 77 = .ok (.goto (-50), 3) := by decide +kernel
theorem dX3_trace_80 : decode cX3_trace 80 = .ok (.iload 4, 2) := by decide +kernel
theorem dX3_trace_82 : decode cX3_trace 82 = .ok (.ireturn, 1) := by decide +kernel
theorem dX3_lastOfWay_0 : decode cX3_lastOfWay 0 = .ok (.aload_n 0, 1) := by decide +kernel
theorem dX3_lastOfWay_1 : decode cX3_lastOfWay 1 = .ok (.iload_n 1, 1) := by decide +kernel
theorem dX3_lastOfWay_2 : decode cX3_lastOfWay 2 = .ok (.invokevirtual 102, 3) := by decide +kernel
theorem dX3_lastOfWay_5 : decode cX3_lastOfWay 5 = .ok (.istore_n 2, 1) := by decide +kernel
theorem dX3_lastOfWay_6 : decode cX3_lastOfWay 6 = .ok (.iconst (-1), 1) := by decide +kernel
theorem dX3_lastOfWay_7 : decode cX3_lastOfWay 7 = .ok (.istore_n 3, 1) := by decide +kernel
theorem dX3_lastOfWay_8 : decode cX3_lastOfWay 8 = .ok (.aload_n 0, 1) := by decide +kernel
theorem dX3_lastOfWay_9 : decode cX3_lastOfWay 9 = .ok (.getfield 38, 3) := by decide +kernel
theorem dX3_lastOfWay_12 : decode cX3_lastOfWay 12 = .ok (.iload_n 1, 1) := by decide +kernel
theorem dX3_lastOfWay_13 : decode cX3_lastOfWay 13 = .ok (.invokevirtual 67, 3) := by decide +kernel
theorem dX3_lastOfWay_16 : decode cX3_lastOfWay 16 = .ok (.istore 4, 2) := by decide +kernel
theorem dX3_lastOfWay_18 : decode cX3_lastOfWay 18 = .ok (.iload 4, 2) := by decide +kernel
theorem dX3_lastOfWay_20 : decode cX3_lastOfWay 20 = .ok (.aload_n 0, 1) := by decide +kernel
theorem dX3_lastOfWay_21 : decode cX3_lastOfWay 21 = .ok (.getfield 38, 3) := by decide +kernel
theorem dX3_lastOfWay_24 : decode cX3_lastOfWay 24 = .ok (.getfield 86, 3) := by decide +kernel
theorem dX3_lastOfWay_27 : decode cX3_lastOfWay 27 = .ok (.iload_n 1, 1) := by decide +kernel
theorem dX3_lastOfWay_28 : decode cX3_lastOfWay 28 = .ok (.iaload, 1) := by decide +kernel
theorem dX3_lastOfWay_29 : decode cX3_lastOfWay 29 = .ok (.if_icmp .ge 49, 3) := by decide +kernel
theorem dX3_lastOfWay_32 : decode cX3_lastOfWay 32 = .ok (.aload_n 0, 1) := by decide +kernel
theorem dX3_lastOfWay_33 : decode cX3_lastOfWay 33 = .ok (.getfield 38, 3) := by decide +kernel
theorem dX3_lastOfWay_36 : decode cX3_lastOfWay 36 = .ok (.getfield 92, 3) := by decide +kernel
theorem dX3_lastOfWay_39 : decode cX3_lastOfWay 39 = .ok (.iload 4, 2) := by decide +kernel
theorem dX3_lastOfWay_41 : decode cX3_lastOfWay 41 = .ok (.iaload, 1) := by decide +kernel
theorem dX3_lastOfWay_42 : decode cX3_lastOfWay 42 = .ok (.istore 5, 2) := by decide +kernel
theorem dX3_lastOfWay_44 : decode cX3_lastOfWay 44 = .ok (.aload_n 0, 1) := by decide +kernel
theorem dX3_lastOfWay_45 : decode cX3_lastOfWay 45 = .ok (.iload 5, 2) := by decide +kernel
theorem dX3_lastOfWay_47 : decode cX3_lastOfWay 47 = .ok (.iload_n 2, 1) := by decide +kernel
theorem dX3_lastOfWay_48 : decode cX3_lastOfWay 48 = .ok (.invokevirtual 105, 3) := by decide +kernel
theorem dX3_lastOfWay_51 : decode cX3_lastOfWay 51 = .ok (.ifCond .eq 21, 3) := by decide +kernel
theorem dX3_lastOfWay_54 : decode cX3_lastOfWay 54 = .ok (.iload_n 3, 1) := by decide +kernel
theorem dX3_lastOfWay_55 : decode cX3_lastOfWay 55 = .ok (.iconst (-1), 1) := by decide +kernel
theorem dX3_lastOfWay_56 : decode cX3_lastOfWay 56 = .ok (.if_icmp .eq 13, 3) := by decide +kernel
theorem dX3_lastOfWay_59 : decode cX3_lastOfWay 59 = .ok (.aload_n 0, 1) := by decide +kernel
theorem dX3_lastOfWay_60 : decode cX3_lastOfWay 60 = .ok (.iload 5, 2) := by decide +kernel
theorem dX3_lastOfWay_62 : decode cX3_lastOfWay 62 = .ok (.iload_n 3, 1) := by decide +kernel
theorem dX3_lastOfWay_63 : decode cX3_lastOfWay 63 = .ok (.invokevirtual 125, 3) := by decide +kernel
theorem dX3_lastOfWay_66 : decode cX3_lastOfWay 66 = .ok (.ifCond .eq 6, 3) := by decide +kernel
theorem dX3_lastOfWay_69 : decode cX3_lastOfWay 69 = .ok (.iload 5, 2) := by decide +kernel
theorem dX3_lastOfWay_71 : decode cX3_lastOfWay 71 = .ok (.istore_n 3, 1) := by decide +kernel
theorem dX3_lastOfWay_72 : decode cX3_lastOfWay 72 = .ok (.iinc 4 1, 3) := by decide +kernel
theorem dX3_lastOfWay_75 : decode cX3_lastOfWay 75 = .ok (.goto (-57), 3) := by decide +kernel
theorem dX3_lastOfWay_78 : decode cX3_lastOfWay 78 = .ok (.iload_n 3, 1) := by decide +kernel
theorem dX3_lastOfWay_79 : decode cX3_lastOfWay 79 = .ok (.ireturn, 1) := by decide +kernel
theorem dX3_isLesserEnd_0 : decode cX3_isLesserEnd 0 = .ok (.aload_n 0, 1) := by decide +kernel
theorem dX3_isLesserEnd_1 : decode cX3_isLesserEnd 1 = .ok (.getfield 9, 3) := by decide +kernel
theorem dX3_isLesserEnd_4 : decode cX3_isLesserEnd 4 = .ok (.iload_n 1, 1) := by decide +kernel
theorem dX3_isLesserEnd_5 : decode cX3_isLesserEnd 5 = .ok (.iaload, 1) := by decide +kernel
theorem dX3_isLesserEnd_6 : decode cX3_isLesserEnd 6 = .ok (.aload_n 0, 1) := by decide +kernel
theorem dX3_isLesserEnd_7 : decode cX3_isLesserEnd 7 = .ok (.getfield 9, 3) := by decide +kernel
theorem dX3_isLesserEnd_10 : decode cX3_isLesserEnd 10 = .ok (.iload_n 2, 1) := by decide +kernel
theorem dX3_isLesserEnd_11 : decode cX3_isLesserEnd 11 = .ok (.iaload, 1) := by decide +kernel
theorem dX3_isLesserEnd_12 : decode cX3_isLesserEnd 12 = .ok (.if_icmp .lt 23, 3) := by decide +kernel
theorem dX3_isLesserEnd_15 : decode cX3_isLesserEnd 15 = .ok (.aload_n 0, 1) := by decide +kernel
theorem dX3_isLesserEnd_16 : decode cX3_isLesserEnd 16 = .ok (.getfield 9, 3) := by decide +kernel
theorem dX3_isLesserEnd_19 : decode cX3_isLesserEnd 19 = .ok (.iload_n 1, 1) := by decide +kernel
theorem dX3_isLesserEnd_20 : decode cX3_isLesserEnd 20 = .ok (.iaload, 1) := by decide +kernel
theorem dX3_isLesserEnd_21 : decode cX3_isLesserEnd 21 = .ok (.aload_n 0, 1) := by decide +kernel
theorem dX3_isLesserEnd_22 : decode cX3_isLesserEnd 22 = .ok (.getfield 9, 3) := by decide +kernel
theorem dX3_isLesserEnd_25 : decode cX3_isLesserEnd 25 = .ok (.iload_n 2, 1) := by decide +kernel
theorem dX3_isLesserEnd_26 : decode cX3_isLesserEnd 26 = .ok (.iaload, 1) := by decide +kernel
theorem dX3_isLesserEnd_27 : decode cX3_isLesserEnd 27 = .ok (.if_icmp .ne 12, 3) := by decide +kernel
theorem dX3_isLesserEnd_30 : decode cX3_isLesserEnd 30 = .ok (.iload_n 1, 1) := by decide +kernel
theorem dX3_isLesserEnd_31 : decode cX3_isLesserEnd 31 = .ok (.iload_n 2, 1) := by decide +kernel
theorem dX3_isLesserEnd_32 : decode cX3_isLesserEnd 32 = .ok (.if_icmp .ge 7, 3) := by decide +kernel
theorem dX3_isLesserEnd_35 : decode cX3_isLesserEnd 35 = .ok (.iconst 1, 1) := by decide +kernel
theorem dX3_isLesserEnd_36 : decode cX3_isLesserEnd 36 = .ok (.goto 4, 3) := by decide +kernel
theorem dX3_isLesserEnd_39 : decode cX3_isLesserEnd 39 = .ok (.iconst 0, 1) := by decide +kernel
theorem dX3_isLesserEnd_40 : decode cX3_isLesserEnd 40 = .ok (.ireturn, 1) := by decide +kernel
theorem dX3_oneAhead_0 : decode cX3_oneAhead 0 = .ok (.aload_n 0, 1) := by decide +kernel
theorem dX3_oneAhead_1 : decode cX3_oneAhead 1 = .ok (.getfield 38, 3) := by decide +kernel
theorem dX3_oneAhead_4 : decode cX3_oneAhead 4 = .ok (.iload_n 1, 1) := by decide +kernel
theorem dX3_oneAhead_5 : decode cX3_oneAhead 5 = .ok (.invokevirtual 57, 3) := by decide +kernel
theorem dX3_oneAhead_8 : decode cX3_oneAhead 8 = .ok (.istore_n 2, 1) := by decide +kernel
theorem dX3_oneAhead_9 : decode cX3_oneAhead 9 = .ok (.aload_n 0, 1) := by decide +kernel
theorem dX3_oneAhead_10 : decode cX3_oneAhead 10 = .ok (.getfield 34, 3) := by decide +kernel
theorem dX3_oneAhead_13 : decode cX3_oneAhead 13 = .ok (.iload_n 2, 1) := by decide +kernel
theorem dX3_oneAhead_14 : decode cX3_oneAhead 14 = .ok (.aload_n 0, 1) := by decide +kernel
theorem dX3_oneAhead_15 : decode cX3_oneAhead 15 = .ok (.getfield 38, 3) := by decide +kernel
theorem dX3_oneAhead_18 : decode cX3_oneAhead 18 = .ok (.getfield 61, 3) := by decide +kernel
theorem dX3_oneAhead_21 : decode cX3_oneAhead 21 = .ok (.iload_n 1, 1) := by decide +kernel
theorem dX3_oneAhead_22 : decode cX3_oneAhead 22 = .ok (.iaload, 1) := by decide +kernel
theorem dX3_oneAhead_23 : decode cX3_oneAhead 23 = .ok (.invokevirtual 80, 3) := by decide +kernel
theorem dX3_oneAhead_26 : decode cX3_oneAhead 26 = .ok (.istore_n 3, 1) := by decide +kernel
theorem dX3_oneAhead_27 : decode cX3_oneAhead 27 = .ok (.aload_n 0, 1) := by decide +kernel
theorem dX3_oneAhead_28 : decode cX3_oneAhead 28 = .ok (.getfield 34, 3) := by decide +kernel
theorem dX3_oneAhead_31 : decode cX3_oneAhead 31 = .ok (.iload_n 2, 1) := by decide +kernel
theorem dX3_oneAhead_32 : decode cX3_oneAhead 32 = .ok (.aload_n 0, 1) := by decide +kernel
theorem dX3_oneAhead_33 : decode cX3_oneAhead 33 = .ok (.getfield 38, 3) := by decide +kernel
theorem dX3_oneAhead_36 : decode cX3_oneAhead 36 = .ok (.getfield 61, 3) := by decide +kernel
theorem dX3_oneAhead_39 : decode cX3_oneAhead 39 = .ok (.iload_n 1, 1) := by decide +kernel
theorem dX3_oneAhead_40 : decode cX3_oneAhead 40 = .ok (.iaload, 1) := by decide +kernel
theorem dX3_oneAhead_41 : decode cX3_oneAhead 41 = .ok (.invokevirtual 70, 3) := by decide +kernel
theorem dX3_oneAhead_44 : decode cX3_oneAhead 44 = .ok (.istore 4, 2) := by decide +kernel
theorem dX3_oneAhead_46 : decode cX3_oneAhead 46 = .ok (.iconst (-1), 1) := by decide +kernel
theorem dX3_oneAhead_47 : decode cX3_oneAhead 47 = .ok (.istore 5, 2) := by decide +kernel
theorem dX3_oneAhead_49 : decode cX3_oneAhead 49 = .ok (.aload_n 0, 1) := by decide +kernel
theorem dX3_oneAhead_50 : decode cX3_oneAhead 50 = .ok (.getfield 38, 3) := by decide +kernel
theorem dX3_oneAhead_53 : decode cX3_oneAhead 53 = .ok (.iload_n 2, 1) := by decide +kernel
theorem dX3_oneAhead_54 : decode cX3_oneAhead 54 = .ok (.invokevirtual 67, 3) := by decide +kernel
theorem dX3_oneAhead_57 : decode cX3_oneAhead 57 = .ok (.istore 6, 2) := by decide +kernel
theorem dX3_oneAhead_59 : decode cX3_oneAhead 59 = .ok (.iload 6, 2) := by decide +kernel
theorem dX3_oneAhead_61 : decode cX3_oneAhead 61 = .ok (.aload_n 0, 1) := by decide +kernel
theorem dX3_oneAhead_62 : decode cX3_oneAhead 62 = .ok (.getfield 38, 3) := by decide +kernel
theorem dX3_oneAhead_65 : decode cX3_oneAhead 65 = .ok (.getfield 86, 3) := by decide +kernel
theorem dX3_oneAhead_68 : decode cX3_oneAhead 68 = .ok (.iload_n 2, 1) := by decide +kernel
theorem dX3_oneAhead_69 : decode cX3_oneAhead 69 = .ok (.iaload, 1) := by decide +kernel
theorem dX3_oneAhead_70 : decode cX3_oneAhead 70 = .ok (.if_icmp .ge 87, 3) := by decide +kernel
theorem dX3_oneAhead_73 : decode cX3_oneAhead 73 = .ok (.aload_n 0, 1) := by decide +kernel
theorem dX3_oneAhead_74 : decode cX3_oneAhead 74 = .ok (.getfield 38, 3) := by decide +kernel
theorem dX3_oneAhead_77 : decode cX3_oneAhead 77 = .ok (.getfield 92, 3) := by decide +kernel
theorem dX3_oneAhead_80 : decode cX3_oneAhead 80 = .ok (.iload 6, 2) := by decide +kernel
theorem dX3_oneAhead_82 : decode cX3_oneAhead 82 = .ok (.iaload, 1) := by decide +kernel
theorem dX3_oneAhead_83 : decode cX3_oneAhead 83 = .ok (.istore 7, 2) := by decide +kernel
theorem dX3_oneAhead_85 : decode cX3_oneAhead 85 = .ok (.aload_n 0, 1) := by decide +kernel
theorem dX3_oneAhead_86 : decode cX3_oneAhead 86 = .ok (.getfield 9, 3) := by decide +kernel
theorem dX3_oneAhead_89 : decode cX3_oneAhead 89 = .ok (.iload 7, 2) := by decide +kernel
theorem dX3_oneAhead_91 : decode cX3_oneAhead 91 = .ok (.iaload, 1) := by decide +kernel
theorem dX3_oneAhead_92 : decode cX3_oneAhead 92 = .ok (.aload_n 0, 1) := by decide +kernel
theorem dX3_oneAhead_93 : decode cX3_oneAhead 93 = .ok (.getfield 9, 3) := by decide +kernel
theorem dX3_oneAhead_96 : decode cX3_oneAhead 96 = .ok (.iload_n 1, 1) := by decide +kernel
theorem dX3_oneAhead_97 : decode cX3_oneAhead 97 = .ok (.iaload, 1) := by decide +kernel
theorem dX3_oneAhead_98 : decode cX3_oneAhead 98 = .ok (.iconst 1, 1) := by decide +kernel
theorem dX3_oneAhead_99 : decode cX3_oneAhead 99 = .ok (.isub, 1) := by decide +kernel
theorem dX3_oneAhead_100 : decode cX3_oneAhead 100 = .ok (.if_icmp .ne 26, 3) := by decide +kernel
theorem dX3_oneAhead_103 : decode cX3_oneAhead 103 = .ok (.aload_n 0, 1) := by decide +kernel
theorem dX3_oneAhead_104 : decode cX3_oneAhead 104 = .ok (.getfield 38, 3) := by decide +kernel
theorem dX3_oneAhead_107 : decode cX3_oneAhead 107 = .ok (.getfield 89, 3) := by decide +kernel
theorem dX3_oneAhead_110 : decode cX3_oneAhead 110 = .ok (.iload 7, 2) := by decide +kernel
theorem dX3_oneAhead_112 : decode cX3_oneAhead 112 = .ok (.iaload, 1) := by decide +kernel
theorem dX3_oneAhead_113 : decode cX3_oneAhead 113 = .ok (.iload_n 3, 1) := by decide +kernel
theorem dX3_oneAhead_114 : decode cX3_oneAhead 114 = .ok (.iload 4, 2) := by decide +kernel
theorem dX3_oneAhead_116 : decode cX3_oneAhead 116 = .ok (.invokestatic 128, 3) := by decide +kernel
theorem dX3_oneAhead_119 : decode cX3_oneAhead 119 = .ok (.ifCond .eq 7, 3) := by decide +kernel
theorem dX3_oneAhead_122 : decode cX3_oneAhead 122 = .ok (.iconst 1, 1) := by decide +kernel
theorem dX3_oneAhead_123 : decode cX3_oneAhead 123 = .ok (.goto 4, 3) := by decide +kernel
theorem dX3_oneAhead_126 : decode cX3_oneAhead 126 = .ok (.iconst 0, 1) := by decide +kernel
theorem dX3_oneAhead_127 : decode cX3_oneAhead 127 = .ok (.istore 8, 2) := by decide +kernel
theorem dX3_oneAhead_129 : decode cX3_oneAhead 129 = .ok (.iload 8, 2) := by decide +kernel
theorem dX3_oneAhead_131 : decode cX3_oneAhead 131 = .ok (.ifCond .eq 20, 3) := by decide +kernel
theorem dX3_oneAhead_134 : decode cX3_oneAhead 134 = .ok (.iload 5, 2) := by decide +kernel
theorem dX3_oneAhead_136 : decode cX3_oneAhead 136 = .ok (.iconst (-1), 1) := by decide +kernel
theorem dX3_oneAhead_137 : decode cX3_oneAhead 137 = .ok (.if_icmp .eq 10, 3) := by decide +kernel
theorem dX3_oneAhead_140 : decode cX3_oneAhead 140 = .ok (.iload 7, 2) := by decide +kernel
theorem dX3_oneAhead_142 : decode cX3_oneAhead 142 = .ok (.iload 5, 2) := by decide +kernel
theorem dX3_oneAhead_144 : decode cX3_oneAhead 144 = .ok (.if_icmp .ge 7, 3) := by decide +kernel
theorem dX3_oneAhead_147 : decode cX3_oneAhead 147 = .ok (.iload 7, 2) := by decide +kernel
theorem dX3_oneAhead_149 : decode cX3_oneAhead 149 = .ok (.istore 5, 2) := by decide +kernel
theorem dX3_oneAhead_151 : decode cX3_oneAhead 151 = .ok (.iinc 6 1, 3) := by decide +kernel
theorem dX3_oneAhead_154 : decode cX3_oneAhead 154 = .ok (.goto (-95), 3) := by decide +kernel
theorem dX3_oneAhead_157 : decode cX3_oneAhead 157 = .ok (.iload 5, 2) := by decide +kernel
theorem dX3_oneAhead_159 : decode cX3_oneAhead 159 = .ok (.ireturn, 1) := by decide +kernel
theorem dX4_init_0 : decode cX4_init 0 = .ok (.aload_n 0, 1) := by decide +kernel
theorem dX4_init_1 : decode cX4_init 1 = .ok (.invokespecial 3, 3) := by decide +kernel
theorem dX4_init_4 : decode cX4_init 4 = .ok (.aload_n 0, 1) := by decide +kernel
theorem dX4_init_5 : decode cX4_init 5 = .ok (.sipush 1200, 3) := by decide +kernel
theorem dX4_init_8 : decode cX4_init 8 = .ok (.newarray .int, 2) := by decide +kernel
theorem dX4_init_10 : decode cX4_init 10 = .ok (.putfield 9, 3) := by decide +kernel
theorem dX4_init_13 : decode cX4_init 13 = .ok (.return_, 1) := by decide +kernel
theorem dX4_sort_0 : decode cX4_sort 0 = .ok (.iconst 1, 1) := by decide +kernel
theorem dX4_sort_1 : decode cX4_sort 1 = .ok (.istore 4, 2) := by decide +kernel
theorem dX4_sort_3 : decode cX4_sort 3 = .ok (.iload 4, 2) := by decide +kernel
theorem dX4_sort_5 : decode cX4_sort 5 = .ok (.iload_n 2, 1) := by decide +kernel
theorem dX4_sort_6 : decode cX4_sort 6 = .ok (.if_icmp .ge 89, 3) := by decide +kernel
theorem dX4_sort_9 : decode cX4_sort 9 = .ok (.iconst 0, 1) := by decide +kernel
theorem dX4_sort_10 : decode cX4_sort 10 = .ok (.istore 5, 2) := by decide +kernel
theorem dX4_sort_12 : decode cX4_sort 12 = .ok (.iload 5, 2) := by decide +kernel
theorem dX4_sort_14 : decode cX4_sort 14 = .ok (.iload_n 2, 1) := by decide +kernel
theorem dX4_sort_15 : decode cX4_sort 15 = .ok (.if_icmp .ge 45, 3) := by decide +kernel
theorem dX4_sort_18 : decode cX4_sort 18 = .ok (.iload 5, 2) := by decide +kernel
theorem dX4_sort_20 : decode cX4_sort 20 = .ok (.iload 4, 2) := by decide +kernel
theorem dX4_sort_22 : decode cX4_sort 22 = .ok (.iadd, 1) := by decide +kernel
theorem dX4_sort_23 : decode cX4_sort 23 = .ok (.iload_n 2, 1) := by decide +kernel
theorem dX4_sort_24 : decode cX4_sort 24 = .ok (.invokestatic 15, 3) := by decide +kernel
theorem dX4_sort_27 : decode cX4_sort 27 = .ok (.istore 6, 2) := by decide +kernel
theorem dX4_sort_29 : decode cX4_sort 29 = .ok (.aload_n 0, 1) := by decide +kernel
theorem dX4_sort_30 : decode cX4_sort 30 = .ok (.aload_n 1, 1) := by decide +kernel
theorem dX4_sort_31 : decode cX4_sort 31 = .ok (.aload_n 3, 1) := by decide +kernel
theorem dX4_sort_32 : decode cX4_sort 32 = .ok (.iload 5, 2) := by decide +kernel
theorem dX4_sort_34 : decode cX4_sort 34 = .ok (.iload 6, 2) := by decide +kernel
theorem dX4_sort_36 : decode cX4_sort 36 = .ok (.iload 6, 2) := by decide +kernel
theorem dX4_sort_38 : decode cX4_sort 38 = .ok (.iload 4, 2) := by decide +kernel
theorem dX4_sort_40 : decode cX4_sort 40 = .ok (.iadd, 1) := by decide +kernel
theorem dX4_sort_41 : decode cX4_sort 41 = .ok (.iload_n 2, 1) := by decide +kernel
theorem dX4_sort_42 : decode cX4_sort 42 = .ok (.invokestatic 15, 3) := by decide +kernel
theorem dX4_sort_45 : decode cX4_sort 45 = .ok (.invokevirtual 21, 3) := by decide +kernel
theorem dX4_sort_48 : decode cX4_sort 48 = .ok (.iload 5, 2) := by decide +kernel
theorem dX4_sort_50 : decode cX4_sort 50 = .ok (.iconst 2, 1) := by decide +kernel
theorem dX4_sort_51 : decode cX4_sort 51 = .ok (.iload 4, 2) := by decide +kernel
theorem dX4_sort_53 : decode cX4_sort 53 = .ok (.imul, 1) := by decide +kernel
theorem dX4_sort_54 : decode cX4_sort 54 = .ok (.iadd, 1) := by decide +kernel
theorem dX4_sort_55 : decode cX4_sort 55 = .ok (.istore 5, 2) := by decide +kernel
theorem dX4_sort_57 : decode cX4_sort 57 = .ok (.goto (-45), 3) := by decide +kernel
theorem dX4_sort_60 : decode cX4_sort 60 = .ok (.iconst 0, 1) := by decide +kernel
theorem dX4_sort_61 : decode cX4_sort 61 = .ok (.istore 5, 2) := by decide +kernel
theorem dX4_sort_63 : decode cX4_sort 63 = .ok (.iload 5, 2) := by decide +kernel
theorem dX4_sort_65 : decode cX4_sort 65 = .ok (.iload_n 2, 1) := by decide +kernel
theorem dX4_sort_66 : decode cX4_sort 66 = .ok (.if_icmp .ge 20, 3) := by decide +kernel
theorem dX4_sort_69 : decode cX4_sort 69 = .ok (.aload_n 1, 1) := by decide +kernel
theorem dX4_sort_70 : decode cX4_sort 70 = .ok (.iload 5, 2) := by decide +kernel
theorem dX4_sort_72 : decode cX4_sort 72 = .ok (.aload_n 0, 1) := by decide +kernel
theorem dX4_sort_73 : decode cX4_sort 73 = .ok (.getfield 9, 3) := by decide +kernel
theorem dX4_sort_76 : decode cX4_sort 76 = .ok (.iload 5, 2) := by decide +kernel
theorem dX4_sort_78 : decode cX4_sort 78 = .ok (.iaload, 1) := by decide +kernel
theorem dX4_sort_79 : decode cX4_sort 79 = .ok (.iastore, 1) := by decide +kernel
theorem dX4_sort_80 : decode cX4_sort 80 = .ok (.iinc 5 1, 3) := by decide +kernel
theorem dX4_sort_83 : decode cX4_sort 83 = .ok (.goto (-20), 3) := by decide +kernel
theorem dX4_sort_86 : decode cX4_sort 86 = .ok (.iload 4, 2) := by decide +kernel
theorem dX4_sort_88 : decode cX4_sort 88 = .ok (.iconst 2, 1) := by decide +kernel
theorem dX4_sort_89 : decode cX4_sort 89 = .ok (.imul, 1) := by decide +kernel
theorem dX4_sort_90 : decode cX4_sort 90 = .ok (.istore 4, 2) := by decide +kernel
theorem dX4_sort_92 : decode cX4_sort 92 = .ok (.goto (-89), 3) := by decide +kernel
theorem dX4_sort_95 : decode cX4_sort 95 = .ok (.return_, 1) := by decide +kernel
theorem dX4_merge_0 : decode cX4_merge 0 = .ok (.iload_n 3, 1) := by decide +kernel
theorem dX4_merge_1 : decode cX4_merge 1 = .ok (.istore 6, 2) := by decide +kernel
theorem dX4_merge_3 : decode cX4_merge 3 = .ok (.iload 4, 2) := by decide +kernel
theorem dX4_merge_5 : decode cX4_merge 5 = .ok (.istore 7, 2) := by decide +kernel
theorem dX4_merge_7 : decode cX4_merge 7 = .ok (.iload_n 3, 1) := by decide +kernel
theorem dX4_merge_8 : decode cX4_merge 8 = .ok (.istore 8, 2) := by decide +kernel
theorem dX4_merge_10 : decode cX4_merge 10 = .ok (.iload 8, 2) := by decide +kernel
theorem dX4_merge_12 : decode cX4_merge 12 = .ok (.iload 5, 2) := by decide +kernel
theorem dX4_merge_14 : decode cX4_merge 14 = .ok (.if_icmp .ge 81, 3) := by decide +kernel
theorem dX4_merge_17 : decode cX4_merge 17 = .ok (.iload 7, 2) := by decide +kernel
theorem dX4_merge_19 : decode cX4_merge 19 = .ok (.iload 5, 2) := by decide +kernel
theorem dX4_merge_21 : decode cX4_merge 21 = .ok (.if_icmp .ge 25, 3) := by decide +kernel
theorem dX4_merge_24 : decode cX4_merge 24 = .ok (.iload 6, 2) := by decide +kernel
theorem dX4_merge_26 : decode cX4_merge 26 = .ok (.iload 4, 2) := by decide +kernel
theorem dX4_merge_28 : decode cX4_merge 28 = .ok (.if_icmp .ge 22, 3) := by decide +kernel
theorem dX4_merge_31 : decode cX4_merge 31 = .ok (.aload_n 2, 1) := by decide +kernel
theorem dX4_merge_32 : decode cX4_merge 32 = .ok (.aload_n 1, 1) := by decide +kernel
theorem dX4_merge_33 : decode cX4_merge 33 = .ok (.iload 6, 2) := by decide +kernel
theorem dX4_merge_35 : decode cX4_merge 35 = .ok (.iaload, 1) := by decide +kernel
theorem dX4_merge_36 : decode cX4_merge 36 = .ok (.iaload, 1) := by decide +kernel
theorem dX4_merge_37 : decode cX4_merge 37 = .ok (.aload_n 2, 1) := by decide +kernel
theorem dX4_merge_38 : decode cX4_merge 38 = .ok (.aload_n 1, 1) := by decide +kernel
theorem dX4_merge_39 : decode cX4_merge 39 = .ok (.iload 7, 2) := by decide +kernel
theorem dX4_merge_41 : decode cX4_merge 41 = .ok (.iaload, 1) := by decide +kernel
theorem dX4_merge_42 : decode cX4_merge 42 = .ok (.iaload, 1) := by decide +kernel
theorem dX4_merge_43 : decode cX4_merge 43 = .ok (.if_icmp .gt 7, 3) := by decide +kernel
theorem dX4_merge_46 : decode cX4_merge 46 = .ok (.iconst 1, 1) := by decide +kernel
theorem dX4_merge_47 : decode cX4_merge 47 = .ok (.goto 4, 3) := by decide +kernel
theorem dX4_merge_50 : decode cX4_merge 50 = .ok (.iconst 0, 1) := by decide +kernel
theorem dX4_merge_51 : decode cX4_merge 51 = .ok (.istore 9, 2) := by decide +kernel
theorem dX4_merge_53 : decode cX4_merge 53 = .ok (.iload 9, 2) := by decide +kernel
theorem dX4_merge_55 : decode cX4_merge 55 = .ok (.ifCond .eq 20, 3) := by decide +kernel
theorem dX4_merge_58 : decode cX4_merge 58 = .ok (.aload_n 0, 1) := by decide +kernel
theorem dX4_merge_59 : decode cX4_merge 59 = .ok (.getfield 9, 3) := by decide +kernel
theorem dX4_merge_62 : decode cX4_merge 62 = .ok (.iload 8, 2) := by decide +kernel
theorem dX4_merge_64 : decode cX4_merge 64 = .ok (.aload_n 1, 1) := by decide +kernel
theorem dX4_merge_65 : decode cX4_merge 65 = .ok (.iload 6, 2) := by decide +kernel
theorem dX4_merge_67 : decode cX4_merge 67 = .ok (.iaload, 1) := by decide +kernel
theorem dX4_merge_68 : decode cX4_merge 68 = .ok (.iastore, 1) := by decide +kernel
theorem dX4_merge_69 : decode cX4_merge 69 = .ok (.iinc 6 1, 3) := by decide +kernel
theorem dX4_merge_72 : decode cX4_merge 72 = .ok (.goto 17, 3) := by decide +kernel
theorem dX4_merge_75 : decode cX4_merge 75 = .ok (.aload_n 0, 1) := by decide +kernel
theorem dX4_merge_76 : decode cX4_merge 76 = .ok (.getfield 9, 3) := by decide +kernel
theorem dX4_merge_79 : decode cX4_merge 79 = .ok (.iload 8, 2) := by decide +kernel
theorem dX4_merge_81 : decode cX4_merge 81 = .ok (.aload_n 1, 1) := by decide +kernel
theorem dX4_merge_82 : decode cX4_merge 82 = .ok (.iload 7, 2) := by decide +kernel
theorem dX4_merge_84 : decode cX4_merge 84 = .ok (.iaload, 1) := by decide +kernel
theorem dX4_merge_85 : decode cX4_merge 85 = .ok (.iastore, 1) := by decide +kernel
theorem dX4_merge_86 : decode cX4_merge 86 = .ok (.iinc 7 1, 3) := by decide +kernel
theorem dX4_merge_89 : decode cX4_merge 89 = .ok (.iinc 8 1, 3) := by decide +kernel
theorem dX4_merge_92 : decode cX4_merge 92 = .ok (.goto (-82), 3) := by decide +kernel
theorem dX4_merge_95 : decode cX4_merge 95 = .ok (.return_, 1) := by decide +kernel
theorem dX5_init_0 : decode cX5_init 0 = .ok (.aload_n 0, 1) := by decide +kernel
theorem dX5_init_1 : decode cX5_init 1 = .ok (.invokespecial 3, 3) := by decide +kernel
theorem dX5_init_4 : decode cX5_init 4 = .ok (.aload_n 0, 1) := by decide +kernel
theorem dX5_init_5 : decode cX5_init 5 = .ok (.new 9, 3) := by decide +kernel
theorem dX5_init_8 : decode cX5_init 8 = .ok (.dup, 1) := by decide +kernel
theorem dX5_init_9 : decode cX5_init 9 = .ok (.invokespecial 11, 3) := by decide +kernel
theorem dX5_init_12 : decode cX5_init 12 = .ok (.putfield 12, 3) := by decide +kernel
theorem dX5_init_15 : decode cX5_init 15 = .ok (.aload_n 0, 1) := by decide +kernel
theorem dX5_init_16 : decode cX5_init 16 = .ok (.bipush 100, 2) := by decide +kernel
theorem dX5_init_18 : decode cX5_init 18 = .ok (.newarray .boolean, 2) := by decide +kernel
theorem dX5_init_20 : decode cX5_init 20 = .ok (.putfield 18, 3) := by decide +kernel
theorem dX5_init_23 : decode cX5_init 23 = .ok (.aload_n 0, 1) := by decide +kernel
theorem dX5_init_24 : decode cX5_init 24 = .ok (.bipush 60, 2) := by decide +kernel
theorem dX5_init_26 : decode cX5_init 26 = .ok (.newarray .int, 2) := by decide +kernel
theorem dX5_init_28 : decode cX5_init 28 = .ok (.putfield 22, 3) := by decide +kernel
theorem dX5_init_31 : decode cX5_init 31 = .ok (.aload_n 0, 1) := by decide +kernel
theorem dX5_init_32 : decode cX5_init 32 = .ok (.sipush 1200, 3) := by decide +kernel
theorem dX5_init_35 : decode cX5_init 35 = .ok (.newarray .int, 2) := by decide +kernel
theorem dX5_init_37 : decode cX5_init 37 = .ok (.putfield 26, 3) := by decide +kernel
theorem dX5_init_40 : decode cX5_init 40 = .ok (.aload_n 0, 1) := by decide +kernel
theorem dX5_init_41 : decode cX5_init 41 = .ok (.sipush 1200, 3) := by decide +kernel
theorem dX5_init_44 : decode cX5_init 44 = .ok (.newarray .int, 2) := by decide +kernel
theorem dX5_init_46 : decode cX5_init 46 = .ok (.putfield 29, 3) := by decide +kernel
theorem dX5_init_49 : decode cX5_init 49 = .ok (.aload_n 0, 1) := by decide +kernel
theorem dX5_init_50 : decode cX5_init 50 = .ok (.sipush 1200, 3) := by decide +kernel
theorem dX5_init_53 : decode cX5_init 53 = .ok (.newarray .int, 2) := by decide +kernel
theorem dX5_init_55 : decode cX5_init 55 = .ok (.putfield 32, 3) := by decide +kernel
theorem dX5_init_58 : decode cX5_init 58 = .ok (.aload_n 0, 1) := by decide +kernel
theorem dX5_init_59 : decode cX5_init 59 = .ok (.sipush 1200, 3) := by decide +kernel
theorem dX5_init_62 : decode cX5_init 62 = .ok (.newarray .int, 2) := by decide +kernel
theorem dX5_init_64 : decode cX5_init 64 = .ok (.putfield 35, 3) := by decide +kernel
theorem dX5_init_67 : decode cX5_init 67 = .ok (.aload_n 0, 1) := by decide +kernel
theorem dX5_init_68 : decode cX5_init 68 = .ok (.sipush 1200, 3) := by decide +kernel
theorem dX5_init_71 : decode cX5_init 71 = .ok (.newarray .boolean, 2) := by decide +kernel
theorem dX5_init_73 : decode cX5_init 73 = .ok (.putfield 38, 3) := by decide +kernel
theorem dX5_init_76 : decode cX5_init 76 = .ok (.aload_n 0, 1) := by decide +kernel
theorem dX5_init_77 : decode cX5_init 77 = .ok (.sipush 1200, 3) := by decide +kernel
theorem dX5_init_80 : decode cX5_init 80 = .ok (.newarray .int, 2) := by decide +kernel
theorem dX5_init_82 : decode cX5_init 82 = .ok (.putfield 41, 3) := by decide +kernel
theorem dX5_init_85 : decode cX5_init 85 = .ok (.aload_n 0, 1) := by decide +kernel
theorem dX5_init_86 : decode cX5_init 86 = .ok (.sipush 1200, 3) := by decide +kernel
theorem dX5_init_89 : decode cX5_init 89 = .ok (.newarray .int, 2) := by decide +kernel
theorem dX5_init_91 : decode cX5_init 91 = .ok (.putfield 44, 3) := by decide +kernel
theorem dX5_init_94 : decode cX5_init 94 = .ok (.aload_n 0, 1) := by decide +kernel
theorem dX5_init_95 : decode cX5_init 95 = .ok (.sipush 1200, 3) := by decide +kernel
theorem dX5_init_98 : decode cX5_init 98 = .ok (.newarray .int, 2) := by decide +kernel
theorem dX5_init_100 : decode cX5_init 100 = .ok (.putfield 47, 3) := by decide +kernel
theorem dX5_init_103 : decode cX5_init 103 = .ok (.aload_n 0, 1) := by decide +kernel
theorem dX5_init_104 : decode cX5_init 104 = .ok (.bipush 24, 2) := by decide +kernel
theorem dX5_init_106 : decode cX5_init 106 = .ok (.newarray .int, 2) := by decide +kernel
theorem dX5_init_108 : decode cX5_init 108 = .ok (.putfield 50, 3) := by decide +kernel
theorem dX5_init_111 : decode cX5_init 111 = .ok (.aload_n 0, 1) := by decide +kernel
theorem dX5_init_112 : decode cX5_init 112 = .ok (.iconst 0, 1) := by decide +kernel
theorem dX5_init_113 : decode cX5_init 113 = .ok (.putfield 53, 3) := by decide +kernel
theorem dX5_init_116 : decode cX5_init 116 = .ok (.aload_n 0, 1) := by decide +kernel
theorem dX5_init_117 : decode cX5_init 117 = .ok (.iconst 0, 1) := by decide +kernel
theorem dX5_init_118 : decode cX5_init 118 = .ok (.putfield 57, 3) := by decide +kernel
theorem dX5_init_121 : decode cX5_init 121 = .ok (.aload_n 0, 1) := by decide +kernel
theorem dX5_init_122 : decode cX5_init 122 = .ok (.iconst 0, 1) := by decide +kernel
theorem dX5_init_123 : decode cX5_init 123 = .ok (.putfield 60, 3) := by decide +kernel
theorem dX5_init_126 : decode cX5_init 126 = .ok (.aload_n 0, 1) := by decide +kernel
theorem dX5_init_127 : decode cX5_init 127 = .ok (.iconst (-1), 1) := by decide +kernel
theorem dX5_init_128 : decode cX5_init 128 = .ok (.putfield 63, 3) := by decide +kernel
theorem dX5_init_131 : decode cX5_init 131 = .ok (.aload_n 0, 1) := by decide +kernel
theorem dX5_init_132 : decode cX5_init 132 = .ok (.aload_n 1, 1) := by decide +kernel
theorem dX5_init_133 : decode cX5_init 133 = .ok (.putfield 66, 3) := by decide +kernel
theorem dX5_init_136 : decode cX5_init 136 = .ok (.aload_n 0, 1) := by decide +kernel
theorem dX5_init_137 : decode cX5_init 137 = .ok (.aload_n 2, 1) := by decide +kernel
theorem dX5_init_138 : decode cX5_init 138 = .ok (.putfield 70, 3) := by decide +kernel
theorem dX5_init_141 : decode cX5_init 141 = .ok (.return_, 1) := by decide +kernel
theorem dX5_forget_0 : decode cX5_forget 0 = .ok (.aload_n 0, 1) := by decide +kernel
theorem dX5_forget_1 : decode cX5_forget 1 = .ok (.iconst (-1), 1) := by decide +kernel
theorem dX5_forget_2 : decode cX5_forget 2 = .ok (.putfield 63, 3) := by decide +kernel
theorem dX5_forget_5 : decode cX5_forget 5 = .ok (.return_, 1) := by decide +kernel
theorem dX5_show_0 : decode cX5_show 0 = .ok (.aload_n 0, 1) := by decide +kernel
theorem dX5_show_1 : decode cX5_show 1 = .ok (.getfield 63, 3) := by decide +kernel
theorem dX5_show_4 : decode cX5_show 4 = .ok (.iload_n 1, 1) := by decide +kernel
theorem dX5_show_5 : decode cX5_show 5 = .ok (.if_icmp .eq 21, 3) := by decide +kernel
theorem dX5_show_8 : decode cX5_show 8 = .ok (.aload_n 0, 1) := by decide +kernel
theorem dX5_show_9 : decode cX5_show 9 = .ok (.iload_n 1, 1) := by decide +kernel
theorem dX5_show_10 : decode cX5_show 10 = .ok (.invokevirtual 74, 3) := by decide +kernel
theorem dX5_show_13 : decode cX5_show 13 = .ok (.aload_n 0, 1) := by decide +kernel
theorem dX5_show_14 : decode cX5_show 14 = .ok (.invokevirtual 78, 3) := by decide +kernel
theorem dX5_show_17 : decode cX5_show 17 = .ok (.aload_n 0, 1) := by decide +kernel
theorem dX5_show_18 : decode cX5_show 18 = .ok (.invokevirtual 81, 3) := by decide +kernel
theorem dX5_show_21 : decode cX5_show 21 = .ok (.aload_n 0, 1) := by decide +kernel
theorem dX5_show_22 : decode cX5_show 22 = .ok (.iload_n 1, 1) := by decide +kernel
theorem dX5_show_23 : decode cX5_show 23 = .ok (.putfield 63, 3) := by decide +kernel
theorem dX5_show_26 : decode cX5_show 26 = .ok (.return_, 1) := by decide +kernel
theorem dX5_replay_0 : decode cX5_replay 0 = .ok (.iconst 0, 1) := by decide +kernel
theorem dX5_replay_1 : decode cX5_replay 1 = .ok (.istore_n 2, 1) := by decide +kernel
theorem dX5_replay_2 : decode cX5_replay 2 = .ok (.iload_n 2, 1) := by decide +kernel
theorem dX5_replay_3 : decode cX5_replay 3 = .ok (.aload_n 0, 1) := by decide +kernel
theorem dX5_replay_4 : decode cX5_replay 4 = .ok (.getfield 66, 3) := by decide +kernel
theorem dX5_replay_7 : decode cX5_replay 7 = .ok (.getfield 84, 3) := by decide +kernel
theorem dX5_replay_10 : decode cX5_replay 10 = .ok (.if_icmp .ge 16, 3) := by decide +kernel
theorem dX5_replay_13 : decode cX5_replay 13 = .ok (.aload_n 0, 1) := by decide +kernel
theorem dX5_replay_14 : decode cX5_replay 14 = .ok (.getfield 18, 3) := by decide +kernel
theorem dX5_replay_17 : decode cX5_replay 17 = .ok (.iload_n 2, 1) := by decide +kernel
theorem dX5_replay_18 : decode cX5_replay 18 = .ok (.iconst 0, 1) := by decide +kernel
theorem dX5_replay_19 : decode cX5_replay 19 = .ok (.bastore, 1) := by decide +kernel
theorem dX5_replay_20 : decode cX5_replay 20 = .ok (.iinc 2 1, 3) := by decide +kernel
theorem dX5_replay_23 : decode cX5_replay 23 = .ok (.goto (-21), 3) := by decide +kernel
theorem dX5_replay_26 : decode cX5_replay 26 = .ok (.iconst 0, 1) := by decide +kernel
theorem dX5_replay_27 : decode cX5_replay 27 = .ok (.istore_n 2, 1) := by decide +kernel
theorem dX5_replay_28 : decode cX5_replay 28 = .ok (.iload_n 2, 1) := by decide +kernel
theorem dX5_replay_29 : decode cX5_replay 29 = .ok (.aload_n 0, 1) := by decide +kernel
theorem dX5_replay_30 : decode cX5_replay 30 = .ok (.getfield 66, 3) := by decide +kernel
theorem dX5_replay_33 : decode cX5_replay 33 = .ok (.getfield 87, 3) := by decide +kernel
theorem dX5_replay_36 : decode cX5_replay 36 = .ok (.if_icmp .ge 16, 3) := by decide +kernel
theorem dX5_replay_39 : decode cX5_replay 39 = .ok (.aload_n 0, 1) := by decide +kernel
theorem dX5_replay_40 : decode cX5_replay 40 = .ok (.getfield 26, 3) := by decide +kernel
theorem dX5_replay_43 : decode cX5_replay 43 = .ok (.iload_n 2, 1) := by decide +kernel
theorem dX5_replay_44 : decode cX5_replay 44 = .ok (.iconst 0, 1) := by decide +kernel
theorem dX5_replay_45 : decode cX5_replay 45 = .ok (.iastore, 1) := by decide +kernel
theorem dX5_replay_46 : decode cX5_replay 46 = .ok (.iinc 2 1, 3) := by decide +kernel
theorem dX5_replay_49 : decode cX5_replay 49 = .ok (.goto (-21), 3) := by decide +kernel
theorem dX5_replay_52 : decode cX5_replay 52 = .ok (.aload_n 0, 1) := by decide +kernel
theorem dX5_replay_53 : decode cX5_replay 53 = .ok (.iconst 0, 1) := by decide +kernel
theorem dX5_replay_54 : decode cX5_replay 54 = .ok (.putfield 57, 3) := by decide +kernel
theorem dX5_replay_57 : decode cX5_replay 57 = .ok (.aload_n 0, 1) := by decide +kernel
theorem dX5_replay_58 : decode cX5_replay 58 = .ok (.iconst 0, 1) := by decide +kernel
theorem dX5_replay_59 : decode cX5_replay 59 = .ok (.putfield 53, 3) := by decide +kernel
theorem dX5_replay_62 : decode cX5_replay 62 = .ok (.iconst 0, 1) := by decide +kernel
theorem dX5_replay_63 : decode cX5_replay 63 = .ok (.istore_n 2, 1) := by decide +kernel
theorem dX5_replay_64 : decode cX5_replay 64 = .ok (.iload_n 2, 1) := by decide +kernel
theorem dX5_replay_65 : decode cX5_replay 65 = .ok (.iload_n 1, 1) := by decide +kernel
theorem dX5_replay_66 : decode cX5_replay 66 = .ok (.if_icmp .ge 14, 3) := by decide +kernel
theorem dX5_replay_69 : decode cX5_replay 69 = .ok (.aload_n 0, 1) := by decide +kernel
theorem dX5_replay_70 : decode cX5_replay 70 = .ok (.iload_n 2, 1) := by decide +kernel
theorem dX5_replay_71 : decode cX5_replay 71 = .ok (.invokevirtual 90, 3) := by decide +kernel
theorem dX5_replay_74 : decode cX5_replay 74 = .ok (.iinc 2 1, 3) := by decide +kernel
theorem dX5_replay_77 : decode cX5_replay 77 = .ok (.goto (-13), 3) := by decide +kernel
theorem dX5_replay_80 : decode cX5_replay 80 = .ok (.return_, 1) := by decide +kernel
theorem dX5_repeat_0 : decode cX5_repeat 0 = .ok (.aload_n 0, 1) := by decide +kernel
theorem dX5_repeat_1 : decode cX5_repeat 1 = .ok (.getfield 70, 3) := by decide +kernel
theorem dX5_repeat_4 : decode cX5_repeat 4 = .ok (.getfield 93, 3) := by decide +kernel
theorem dX5_repeat_7 : decode cX5_repeat 7 = .ok (.iload_n 1, 1) := by decide +kernel
theorem dX5_repeat_8 : decode cX5_repeat 8 = .ok (.iaload, 1) := by decide +kernel
theorem dX5_repeat_9 : decode cX5_repeat 9 = .ok (.istore_n 2, 1) := by decide +kernel
theorem dX5_repeat_10 : decode cX5_repeat 10 = .ok (.aload_n 0, 1) := by decide +kernel
theorem dX5_repeat_11 : decode cX5_repeat 11 = .ok (.getfield 70, 3) := by decide +kernel
theorem dX5_repeat_14 : decode cX5_repeat 14 = .ok (.getfield 98, 3) := by decide +kernel
theorem dX5_repeat_17 : decode cX5_repeat 17 = .ok (.iload_n 1, 1) := by decide +kernel
theorem dX5_repeat_18 : decode cX5_repeat 18 = .ok (.iaload, 1) := by decide +kernel
theorem dX5_repeat_19 : decode cX5_repeat 19 = .ok (.tableswitch 66 0 2 #[25, 38, 48], 25) := by decide +kernel
theorem dX5_repeat_44 : decode cX5_repeat 44 = .ok (.aload_n 0, 1) := by decide +kernel
theorem dX5_repeat_45 : decode cX5_repeat 45 = .ok (.dup, 1) := by decide +kernel
theorem dX5_repeat_46 : decode cX5_repeat 46 = .ok (.getfield 57, 3) := by decide +kernel
theorem dX5_repeat_49 : decode cX5_repeat 49 = .ok (.iconst 1, 1) := by decide +kernel
theorem dX5_repeat_50 : decode cX5_repeat 50 = .ok (.iadd, 1) := by decide +kernel
theorem dX5_repeat_51 : decode cX5_repeat 51 = .ok (.putfield 57, 3) := by decide +kernel
theorem dX5_repeat_54 : decode cX5_repeat 54 = .ok (.goto 51, 3) := by decide +kernel
theorem dX5_repeat_57 : decode cX5_repeat 57 = .ok (.aload_n 0, 1) := by decide +kernel
theorem dX5_repeat_58 : decode cX5_repeat 58 = .ok (.getfield 18, 3) := by decide +kernel
theorem dX5_repeat_61 : decode cX5_repeat 61 = .ok (.iload_n 2, 1) := by decide +kernel
theorem dX5_repeat_62 : decode cX5_repeat 62 = .ok (.iconst 1, 1) := by decide +kernel
theorem dX5_repeat_63 : decode cX5_repeat 63 = .ok (.bastore, 1) := by decide +kernel
theorem dX5_repeat_64 : decode cX5_repeat 64 = .ok (.goto 41, 3) := by decide +kernel
theorem dX5_repeat_67 : decode cX5_repeat 67 = .ok (.aload_n 0, 1) := by decide +kernel
theorem dX5_repeat_68 : decode cX5_repeat 68 = .ok (.getfield 26, 3) := by decide +kernel
theorem dX5_repeat_71 : decode cX5_repeat 71 = .ok (.iload_n 2, 1) := by decide +kernel
theorem dX5_repeat_72 : decode cX5_repeat 72 = .ok (.aload_n 0, 1) := by decide +kernel
theorem dX5_repeat_73 : decode cX5_repeat 73 = .ok (.getfield 70, 3) := by decide +kernel
theorem dX5_repeat_76 : decode cX5_repeat 76 = .ok (.getfield 101, 3) := by decide +kernel
theorem dX5_repeat_79 : decode cX5_repeat 79 = .ok (.iload_n 1, 1) := by decide +kernel
theorem dX5_repeat_80 : decode cX5_repeat 80 = .ok (.iaload, 1) := by decide +kernel
theorem dX5_repeat_81 : decode cX5_repeat 81 = .ok (.iastore, 1) := by decide +kernel
theorem dX5_repeat_82 : decode cX5_repeat 82 = .ok (.goto 23, 3) := by decide +kernel
theorem dX5_repeat_85 : decode cX5_repeat 85 = .ok (.aload_n 0, 1) := by decide +kernel
theorem dX5_repeat_86 : decode cX5_repeat 86 = .ok (.getfield 22, 3) := by decide +kernel
theorem dX5_repeat_89 : decode cX5_repeat 89 = .ok (.aload_n 0, 1) := by decide +kernel
theorem dX5_repeat_90 : decode cX5_repeat 90 = .ok (.getfield 53, 3) := by decide +kernel
theorem dX5_repeat_93 : decode cX5_repeat 93 = .ok (.iload_n 1, 1) := by decide +kernel
theorem dX5_repeat_94 : decode cX5_repeat 94 = .ok (.iastore, 1) := by decide +kernel
theorem dX5_repeat_95 : decode cX5_repeat 95 = .ok (.aload_n 0, 1) := by decide +kernel
theorem dX5_repeat_96 : decode cX5_repeat 96 = .ok (.dup, 1) := by decide +kernel
theorem dX5_repeat_97 : decode cX5_repeat 97 = .ok (.getfield 53, 3) := by decide +kernel
theorem dX5_repeat_100 : decode cX5_repeat 100 = .ok (.iconst 1, 1) := by decide +kernel
theorem dX5_repeat_101 : decode cX5_repeat 101 = .ok (.iadd, 1) := by decide +kernel
theorem dX5_repeat_102 : decode cX5_repeat 102 = .ok (.putfield 53, 3) := by decide +kernel
theorem dX5_repeat_105 : decode cX5_repeat 105 = .ok (.return_, 1) := by decide +kernel
theorem dX5_timeRuns_0 : decode cX5_timeRuns 0 = .ok (.aload_n 0, 1) := by decide +kernel
theorem dX5_timeRuns_1 : decode cX5_timeRuns 1 = .ok (.iconst 0, 1) := by decide +kernel
theorem dX5_timeRuns_2 : decode cX5_timeRuns 2 = .ok (.putfield 60, 3) := by decide +kernel
theorem dX5_timeRuns_5 : decode cX5_timeRuns 5 = .ok (.iconst 0, 1) := by decide +kernel
theorem dX5_timeRuns_6 : decode cX5_timeRuns 6 = .ok (.istore_n 1, 1) := by decide +kernel
theorem dX5_timeRuns_7 : decode cX5_timeRuns 7 = .ok (.iload_n 1, 1) := by decide +kernel
theorem dX5_timeRuns_8 : decode cX5_timeRuns 8 = .ok (.aload_n 0, 1) := by decide +kernel
theorem dX5_timeRuns_9 : decode cX5_timeRuns 9 = .ok (.getfield 57, 3) := by decide +kernel
theorem dX5_timeRuns_12 : decode cX5_timeRuns 12 = .ok (.if_icmp .ge 36, 3) := by decide +kernel
theorem dX5_timeRuns_15 : decode cX5_timeRuns 15 = .ok (.iconst 0, 1) := by decide +kernel
theorem dX5_timeRuns_16 : decode cX5_timeRuns 16 = .ok (.istore_n 2, 1) := by decide +kernel
theorem dX5_timeRuns_17 : decode cX5_timeRuns 17 = .ok (.iload_n 2, 1) := by decide +kernel
theorem dX5_timeRuns_18 : decode cX5_timeRuns 18 = .ok (.aload_n 0, 1) := by decide +kernel
theorem dX5_timeRuns_19 : decode cX5_timeRuns 19 = .ok (.getfield 66, 3) := by decide +kernel
theorem dX5_timeRuns_22 : decode cX5_timeRuns 22 = .ok (.getfield 104, 3) := by decide +kernel
theorem dX5_timeRuns_25 : decode cX5_timeRuns 25 = .ok (.iload_n 1, 1) := by decide +kernel
theorem dX5_timeRuns_26 : decode cX5_timeRuns 26 = .ok (.iaload, 1) := by decide +kernel
theorem dX5_timeRuns_27 : decode cX5_timeRuns 27 = .ok (.if_icmp .ge 15, 3) := by decide +kernel
theorem dX5_timeRuns_30 : decode cX5_timeRuns 30 = .ok (.aload_n 0, 1) := by decide +kernel
theorem dX5_timeRuns_31 : decode cX5_timeRuns 31 = .ok (.iload_n 1, 1) := by decide +kernel
theorem dX5_timeRuns_32 : decode cX5_timeRuns 32 = .ok (.iload_n 2, 1) := by decide +kernel
theorem dX5_timeRuns_33 : decode cX5_timeRuns 33 = .ok (.invokevirtual 107, 3) := by decide +kernel
theorem dX5_timeRuns_36 : decode cX5_timeRuns 36 = .ok (.iinc 2 1, 3) := by decide +kernel
theorem dX5_timeRuns_39 : decode cX5_timeRuns 39 = .ok (.goto (-22), 3) := by decide +kernel
theorem dX5_timeRuns_42 : decode cX5_timeRuns 42 = .ok (.iinc 1 1, 3) := by decide +kernel
theorem dX5_timeRuns_45 : decode cX5_timeRuns 45 = .ok (.goto (-38), 3) := by decide +kernel
theorem dX5_timeRuns_48 : decode cX5_timeRuns 48 = .ok (.return_, 1) := by decide +kernel
theorem dX5_timeRun_0 : decode cX5_timeRun 0 = .ok (.aload_n 0, 1) := by decide +kernel
theorem dX5_timeRun_1 : decode cX5_timeRun 1 = .ok (.getfield 66, 3) := by decide +kernel
theorem dX5_timeRun_4 : decode cX5_timeRun 4 = .ok (.getfield 111, 3) := by decide +kernel
theorem dX5_timeRun_7 : decode cX5_timeRun 7 = .ok (.iload_n 1, 1) := by decide +kernel
theorem dX5_timeRun_8 : decode cX5_timeRun 8 = .ok (.iaload, 1) := by decide +kernel
theorem dX5_timeRun_9 : decode cX5_timeRun 9 = .ok (.iload_n 2, 1) := by decide +kernel
theorem dX5_timeRun_10 : decode cX5_timeRun 10 = .ok (.iadd, 1) := by decide +kernel
theorem dX5_timeRun_11 : decode cX5_timeRun 11 = .ok (.istore_n 3, 1) := by decide +kernel
theorem dX5_timeRun_12 : decode cX5_timeRun 12 = .ok (.aload_n 0, 1) := by decide +kernel
theorem dX5_timeRun_13 : decode cX5_timeRun 13 = .ok (.getfield 29, 3) := by decide +kernel
theorem dX5_timeRun_16 : decode cX5_timeRun 16 = .ok (.iload_n 3, 1) := by decide +kernel
theorem dX5_timeRun_17 : decode cX5_timeRun 17 = .ok (.iload_n 1, 1) := by decide +kernel
theorem dX5_timeRun_18 : decode cX5_timeRun 18 = .ok (.iastore, 1) := by decide +kernel
theorem dX5_timeRun_19 : decode cX5_timeRun 19 = .ok (.aload_n 0, 1) := by decide +kernel
theorem dX5_timeRun_20 : decode cX5_timeRun 20 = .ok (.getfield 32, 3) := by decide +kernel
theorem dX5_timeRun_23 : decode cX5_timeRun 23 = .ok (.iload_n 3, 1) := by decide +kernel
theorem dX5_timeRun_24 : decode cX5_timeRun 24 = .ok (.aload_n 0, 1) := by decide +kernel
theorem dX5_timeRun_25 : decode cX5_timeRun 25 = .ok (.getfield 66, 3) := by decide +kernel
theorem dX5_timeRun_28 : decode cX5_timeRun 28 = .ok (.iload_n 1, 1) := by decide +kernel
theorem dX5_timeRun_29 : decode cX5_timeRun 29 = .ok (.iload_n 2, 1) := by decide +kernel
theorem dX5_timeRun_30 : decode cX5_timeRun 30 = .ok (.invokevirtual 114, 3) := by decide +kernel
theorem dX5_timeRun_33 : decode cX5_timeRun 33 = .ok (.aload_n 0, 1) := by decide +kernel
theorem dX5_timeRun_34 : decode cX5_timeRun 34 = .ok (.getfield 26, 3) := by decide +kernel
theorem dX5_timeRun_37 : decode cX5_timeRun 37 = .ok (.iload_n 3, 1) := by decide +kernel
theorem dX5_timeRun_38 : decode cX5_timeRun 38 = .ok (.iaload, 1) := by decide +kernel
theorem dX5_timeRun_39 : decode cX5_timeRun 39 = .ok (.iadd, 1) := by decide +kernel
theorem dX5_timeRun_40 : decode cX5_timeRun 40 = .ok (.iastore, 1) := by decide +kernel
theorem dX5_timeRun_41 : decode cX5_timeRun 41 = .ok (.aload_n 0, 1) := by decide +kernel
theorem dX5_timeRun_42 : decode cX5_timeRun 42 = .ok (.getfield 35, 3) := by decide +kernel
theorem dX5_timeRun_45 : decode cX5_timeRun 45 = .ok (.iload_n 3, 1) := by decide +kernel
theorem dX5_timeRun_46 : decode cX5_timeRun 46 = .ok (.aload_n 0, 1) := by decide +kernel
theorem dX5_timeRun_47 : decode cX5_timeRun 47 = .ok (.getfield 32, 3) := by decide +kernel
theorem dX5_timeRun_50 : decode cX5_timeRun 50 = .ok (.iload_n 3, 1) := by decide +kernel
theorem dX5_timeRun_51 : decode cX5_timeRun 51 = .ok (.iaload, 1) := by decide +kernel
theorem dX5_timeRun_52 : decode cX5_timeRun 52 = .ok (.aload_n 0, 1) := by decide +kernel
theorem dX5_timeRun_53 : decode cX5_timeRun 53 = .ok (.getfield 66, 3) := by decide +kernel
theorem dX5_timeRun_56 : decode cX5_timeRun 56 = .ok (.getfield 118, 3) := by decide +kernel
theorem dX5_timeRun_59 : decode cX5_timeRun 59 = .ok (.iload_n 1, 1) := by decide +kernel
theorem dX5_timeRun_60 : decode cX5_timeRun 60 = .ok (.iaload, 1) := by decide +kernel
theorem dX5_timeRun_61 : decode cX5_timeRun 61 = .ok (.iadd, 1) := by decide +kernel
theorem dX5_timeRun_62 : decode cX5_timeRun 62 = .ok (.iastore, 1) := by decide +kernel
theorem dX5_timeRun_63 : decode cX5_timeRun 63 = .ok (.aload_n 0, 1) := by decide +kernel
theorem dX5_timeRun_64 : decode cX5_timeRun 64 = .ok (.getfield 38, 3) := by decide +kernel
theorem dX5_timeRun_67 : decode cX5_timeRun 67 = .ok (.iload_n 3, 1) := by decide +kernel
theorem dX5_timeRun_68 : decode cX5_timeRun 68 = .ok (.aload_n 0, 1) := by decide +kernel
theorem dX5_timeRun_69 : decode cX5_timeRun 69 = .ok (.getfield 18, 3) := by decide +kernel
theorem dX5_timeRun_72 : decode cX5_timeRun 72 = .ok (.iload_n 1, 1) := by decide +kernel
theorem dX5_timeRun_73 : decode cX5_timeRun 73 = .ok (.baload, 1) := by decide +kernel
theorem dX5_timeRun_74 : decode cX5_timeRun 74 = .ok (.ifCond .ne 63, 3) := by decide +kernel
theorem dX5_timeRun_77 : decode cX5_timeRun 77 = .ok (.aload_n 0, 1) := by decide +kernel
theorem dX5_timeRun_78 : decode cX5_timeRun 78 = .ok (.getfield 35, 3) := by decide +kernel
theorem dX5_timeRun_81 : decode cX5_timeRun 81 = .ok (.iload_n 3, 1) := by decide +kernel
theorem dX5_timeRun_82 : decode cX5_timeRun 82 = .ok (.iaload, 1) := by decide +kernel
theorem dX5_timeRun_83 : decode cX5_timeRun 83 = .ok (.sipush 5000, 3) := by decide +kernel
theorem dX5_timeRun_86 : decode cX5_timeRun 86 = .ok (.if_icmp .gt 51, 3) := by decide +kernel
theorem dX5_timeRun_89 : decode cX5_timeRun 89 = .ok (.aload_n 0, 1) := by decide +kernel
theorem dX5_timeRun_90 : decode cX5_timeRun 90 = .ok (.aload_n 0, 1) := by decide +kernel
theorem dX5_timeRun_91 : decode cX5_timeRun 91 = .ok (.getfield 66, 3) := by decide +kernel
theorem dX5_timeRun_94 : decode cX5_timeRun 94 = .ok (.getfield 121, 3) := by decide +kernel
theorem dX5_timeRun_97 : decode cX5_timeRun 97 = .ok (.iload_n 1, 1) := by decide +kernel
theorem dX5_timeRun_98 : decode cX5_timeRun 98 = .ok (.iaload, 1) := by decide +kernel
theorem dX5_timeRun_99 : decode cX5_timeRun 99 = .ok (.aload_n 0, 1) := by decide +kernel
theorem dX5_timeRun_100 : decode cX5_timeRun 100 = .ok (.getfield 32, 3) := by decide +kernel
theorem dX5_timeRun_103 : decode cX5_timeRun 103 = .ok (.iload_n 3, 1) := by decide +kernel
theorem dX5_timeRun_104 : decode cX5_timeRun 104 = .ok (.iaload, 1) := by decide +kernel
theorem dX5_timeRun_105 : decode cX5_timeRun 105 = .ok (.invokevirtual 124, 3) := by decide +kernel
theorem dX5_timeRun_108 : decode cX5_timeRun 108 = .ok (.ifCond .ne 29, 3) := by decide +kernel
theorem dX5_timeRun_111 : decode cX5_timeRun 111 = .ok (.aload_n 0, 1) := by decide +kernel
theorem dX5_timeRun_112 : decode cX5_timeRun 112 = .ok (.aload_n 0, 1) := by decide +kernel
theorem dX5_timeRun_113 : decode cX5_timeRun 113 = .ok (.getfield 66, 3) := by decide +kernel
theorem dX5_timeRun_116 : decode cX5_timeRun 116 = .ok (.getfield 128, 3) := by decide +kernel
theorem dX5_timeRun_119 : decode cX5_timeRun 119 = .ok (.iload_n 1, 1) := by decide +kernel
theorem dX5_timeRun_120 : decode cX5_timeRun 120 = .ok (.iaload, 1) := by decide +kernel
theorem dX5_timeRun_121 : decode cX5_timeRun 121 = .ok (.aload_n 0, 1) := by decide +kernel
theorem dX5_timeRun_122 : decode cX5_timeRun 122 = .ok (.getfield 35, 3) := by decide +kernel
theorem dX5_timeRun_125 : decode cX5_timeRun 125 = .ok (.iload_n 3, 1) := by decide +kernel
theorem dX5_timeRun_126 : decode cX5_timeRun 126 = .ok (.iaload, 1) := by decide +kernel
theorem dX5_timeRun_127 : decode cX5_timeRun 127 = .ok (.invokevirtual 124, 3) := by decide +kernel
theorem dX5_timeRun_130 : decode cX5_timeRun 130 = .ok (.ifCond .ne 7, 3) := by decide +kernel
theorem dX5_timeRun_133 : decode cX5_timeRun 133 = .ok (.iconst 1, 1) := by decide +kernel
theorem dX5_timeRun_134 : decode cX5_timeRun 134 = .ok (.goto 4, 3) := by decide +kernel
theorem dX5_timeRun_137 : decode cX5_timeRun 137 = .ok (.iconst 0, 1) := by decide +kernel
theorem dX5_timeRun_138 : decode cX5_timeRun 138 = .ok (.bastore, 1) := by decide +kernel
theorem dX5_timeRun_139 : decode cX5_timeRun 139 = .ok (.aload_n 0, 1) := by decide +kernel
theorem dX5_timeRun_140 : decode cX5_timeRun 140 = .ok (.getfield 38, 3) := by decide +kernel
theorem dX5_timeRun_143 : decode cX5_timeRun 143 = .ok (.iload_n 3, 1) := by decide +kernel
theorem dX5_timeRun_144 : decode cX5_timeRun 144 = .ok (.baload, 1) := by decide +kernel
theorem dX5_timeRun_145 : decode cX5_timeRun 145 = .ok (.ifCond .eq 59, 3) := by decide +kernel
theorem dX5_timeRun_148 : decode cX5_timeRun 148 = .ok (.aload_n 0, 1) := by decide +kernel
theorem dX5_timeRun_149 : decode cX5_timeRun 149 = .ok (.getfield 47, 3) := by decide +kernel
theorem dX5_timeRun_152 : decode cX5_timeRun 152 = .ok (.iload_n 3, 1) := by decide +kernel
theorem dX5_timeRun_153 : decode cX5_timeRun 153 = .ok (.aload_n 0, 1) := by decide +kernel
theorem dX5_timeRun_154 : decode cX5_timeRun 154 = .ok (.getfield 66, 3) := by decide +kernel
theorem dX5_timeRun_157 : decode cX5_timeRun 157 = .ok (.getfield 128, 3) := by decide +kernel
theorem dX5_timeRun_160 : decode cX5_timeRun 160 = .ok (.iload_n 1, 1) := by decide +kernel
theorem dX5_timeRun_161 : decode cX5_timeRun 161 = .ok (.iaload, 1) := by decide +kernel
theorem dX5_timeRun_162 : decode cX5_timeRun 162 = .ok (.sipush 5001, 3) := by decide +kernel
theorem dX5_timeRun_165 : decode cX5_timeRun 165 = .ok (.imul, 1) := by decide +kernel
theorem dX5_timeRun_166 : decode cX5_timeRun 166 = .ok (.aload_n 0, 1) := by decide +kernel
theorem dX5_timeRun_167 : decode cX5_timeRun 167 = .ok (.getfield 35, 3) := by decide +kernel
theorem dX5_timeRun_170 : decode cX5_timeRun 170 = .ok (.iload_n 3, 1) := by decide +kernel
theorem dX5_timeRun_171 : decode cX5_timeRun 171 = .ok (.iaload, 1) := by decide +kernel
theorem dX5_timeRun_172 : decode cX5_timeRun 172 = .ok (.iadd, 1) := by decide +kernel
theorem dX5_timeRun_173 : decode cX5_timeRun 173 = .ok (.iastore, 1) := by decide +kernel
theorem dX5_timeRun_174 : decode cX5_timeRun 174 = .ok (.aload_n 0, 1) := by decide +kernel
theorem dX5_timeRun_175 : decode cX5_timeRun 175 = .ok (.getfield 41, 3) := by decide +kernel
theorem dX5_timeRun_178 : decode cX5_timeRun 178 = .ok (.aload_n 0, 1) := by decide +kernel
theorem dX5_timeRun_179 : decode cX5_timeRun 179 = .ok (.getfield 60, 3) := by decide +kernel
theorem dX5_timeRun_182 : decode cX5_timeRun 182 = .ok (.iload_n 3, 1) := by decide +kernel
theorem dX5_timeRun_183 : decode cX5_timeRun 183 = .ok (.iastore, 1) := by decide +kernel
theorem dX5_timeRun_184 : decode cX5_timeRun 184 = .ok (.aload_n 0, 1) := by decide +kernel
theorem dX5_timeRun_185 : decode cX5_timeRun 185 = .ok (.getfield 44, 3) := by decide +kernel
theorem dX5_timeRun_188 : decode cX5_timeRun 188 = .ok (.aload_n 0, 1) := by decide +kernel
theorem dX5_timeRun_189 : decode cX5_timeRun 189 = .ok (.getfield 60, 3) := by decide +kernel
theorem dX5_timeRun_192 : decode cX5_timeRun 192 = .ok (.iload_n 3, 1) := by decide +kernel
theorem dX5_timeRun_193 : decode cX5_timeRun 193 = .ok (.iastore, 1) := by decide +kernel
theorem dX5_timeRun_194 : decode cX5_timeRun 194 = .ok (.aload_n 0, 1) := by decide +kernel
theorem dX5_timeRun_195 : decode cX5_timeRun 195 = .ok (.dup, 1) := by decide +kernel
theorem dX5_timeRun_196 : decode cX5_timeRun 196 = .ok (.getfield 60, 3) := by decide +kernel
theorem dX5_timeRun_199 : decode cX5_timeRun 199 = .ok (.iconst 1, 1) := by decide +kernel
theorem dX5_timeRun_200 : decode cX5_timeRun 200 = .ok (.iadd, 1) := by decide +kernel
theorem dX5_timeRun_201 : decode cX5_timeRun 201 = .ok (.putfield 60, 3) := by decide +kernel
theorem dX5_timeRun_204 : decode cX5_timeRun 204 = .ok (.return_, 1) := by decide +kernel
theorem dX5_isClosed_0 : decode cX5_isClosed 0 = .ok (.iconst 0, 1) := by decide +kernel
theorem dX5_isClosed_1 : decode cX5_isClosed 1 = .ok (.istore_n 3, 1) := by decide +kernel
theorem dX5_isClosed_2 : decode cX5_isClosed 2 = .ok (.iload_n 3, 1) := by decide +kernel
theorem dX5_isClosed_3 : decode cX5_isClosed 3 = .ok (.aload_n 0, 1) := by decide +kernel
theorem dX5_isClosed_4 : decode cX5_isClosed 4 = .ok (.getfield 53, 3) := by decide +kernel
theorem dX5_isClosed_7 : decode cX5_isClosed 7 = .ok (.if_icmp .ge 29, 3) := by decide +kernel
theorem dX5_isClosed_10 : decode cX5_isClosed 10 = .ok (.aload_n 0, 1) := by decide +kernel
theorem dX5_isClosed_11 : decode cX5_isClosed 11 = .ok (.getfield 70, 3) := by decide +kernel
theorem dX5_isClosed_14 : decode cX5_isClosed 14 = .ok (.aload_n 0, 1) := by decide +kernel
theorem dX5_isClosed_15 : decode cX5_isClosed 15 = .ok (.getfield 22, 3) := by decide +kernel
theorem dX5_isClosed_18 : decode cX5_isClosed 18 = .ok (.iload_n 3, 1) := by decide +kernel
theorem dX5_isClosed_19 : decode cX5_isClosed 19 = .ok (.iaload, 1) := by decide +kernel
theorem dX5_isClosed_20 : decode cX5_isClosed 20 = .ok (.iload_n 1, 1) := by decide +kernel
theorem dX5_isClosed_21 : decode cX5_isClosed 21 = .ok (.iload_n 2, 1) := by decide +kernel
theorem dX5_isClosed_22 : decode cX5_isClosed 22 = .ok (.invokevirtual 131, 3) := by decide +kernel
theorem dX5_isClosed_25 : decode cX5_isClosed 25 = .ok (.ifCond .eq 5, 3) := by decide +kernel
theorem dX5_isClosed_28 : decode cX5_isClosed 28 = .ok (.iconst 1, 1) := by decide +kernel
theorem dX5_isClosed_29 : decode cX5_isClosed 29 = .ok (.ireturn, 1) := by decide +kernel
theorem dX5_isClosed_30 : decode cX5_isClosed 30 = .ok (.iinc 3 1, 3) := by decide +kernel
theorem dX5_isClosed_33 : decode cX5_isClosed 33 = .ok (.goto (-31), 3) := by decide +kernel
theorem dX5_isClosed_36 : decode cX5_isClosed 36 = .ok (.iconst 0, 1) := by decide +kernel
theorem dX5_isClosed_37 : decode cX5_isClosed 37 = .ok (.ireturn, 1) := by decide +kernel
theorem dX5_orderRuns_0 : decode cX5_orderRuns 0 = .ok (.aload_n 0, 1) := by decide +kernel
theorem dX5_orderRuns_1 : decode cX5_orderRuns 1 = .ok (.getfield 12, 3) := by decide +kernel
theorem dX5_orderRuns_4 : decode cX5_orderRuns 4 = .ok (.aload_n 0, 1) := by decide +kernel
theorem dX5_orderRuns_5 : decode cX5_orderRuns 5 = .ok (.getfield 41, 3) := by decide +kernel
theorem dX5_orderRuns_8 : decode cX5_orderRuns 8 = .ok (.aload_n 0, 1) := by decide +kernel
theorem dX5_orderRuns_9 : decode cX5_orderRuns 9 = .ok (.getfield 60, 3) := by decide +kernel
theorem dX5_orderRuns_12 : decode cX5_orderRuns 12 = .ok (.aload_n 0, 1) := by decide +kernel
theorem dX5_orderRuns_13 : decode cX5_orderRuns 13 = .ok (.getfield 32, 3) := by decide +kernel
theorem dX5_orderRuns_16 : decode cX5_orderRuns 16 = .ok (.invokevirtual 135, 3) := by decide +kernel
theorem dX5_orderRuns_19 : decode cX5_orderRuns 19 = .ok (.aload_n 0, 1) := by decide +kernel
theorem dX5_orderRuns_20 : decode cX5_orderRuns 20 = .ok (.getfield 12, 3) := by decide +kernel
theorem dX5_orderRuns_23 : decode cX5_orderRuns 23 = .ok (.aload_n 0, 1) := by decide +kernel
theorem dX5_orderRuns_24 : decode cX5_orderRuns 24 = .ok (.getfield 44, 3) := by decide +kernel
theorem dX5_orderRuns_27 : decode cX5_orderRuns 27 = .ok (.aload_n 0, 1) := by decide +kernel
theorem dX5_orderRuns_28 : decode cX5_orderRuns 28 = .ok (.getfield 60, 3) := by decide +kernel
theorem dX5_orderRuns_31 : decode cX5_orderRuns 31 = .ok (.aload_n 0, 1) := by decide +kernel
theorem dX5_orderRuns_32 : decode cX5_orderRuns 32 = .ok (.getfield 47, 3) := by decide +kernel
theorem dX5_orderRuns_35 : decode cX5_orderRuns 35 = .ok (.invokevirtual 135, 3) := by decide +kernel
theorem dX5_orderRuns_38 : decode cX5_orderRuns 38 = .ok (.iconst 0, 1) := by decide +kernel
theorem dX5_orderRuns_39 : decode cX5_orderRuns 39 = .ok (.istore_n 1, 1) := by decide +kernel
theorem dX5_orderRuns_40 : decode cX5_orderRuns 40 = .ok (.iconst 0, 1) := by decide +kernel
theorem dX5_orderRuns_41 : decode cX5_orderRuns 41 = .ok (.istore_n 2, 1) := by decide +kernel
theorem dX5_orderRuns_42 : decode cX5_orderRuns 42 = .ok (.iload_n 2, 1) := by decide +kernel
theorem dX5_orderRuns_43 : decode cX5_orderRuns 43 = .ok (.bipush 24, 2) := by decide +kernel
theorem dX5_orderRuns_45 : decode cX5_orderRuns 45 = .ok (.if_icmp .ge 44, 3) := by decide +kernel
theorem dX5_orderRuns_48 : decode cX5_orderRuns 48 = .ok (.iload_n 1, 1) := by decide +kernel
theorem dX5_orderRuns_49 : decode cX5_orderRuns 49 = .ok (.aload_n 0, 1) := by decide +kernel
theorem dX5_orderRuns_50 : decode cX5_orderRuns 50 = .ok (.getfield 60, 3) := by decide +kernel
theorem dX5_orderRuns_53 : decode cX5_orderRuns 53 = .ok (.if_icmp .ge 23, 3) := by decide +kernel
theorem dX5_orderRuns_56 : decode cX5_orderRuns 56 = .ok (.aload_n 0, 1) := by decide +kernel
theorem dX5_orderRuns_57 : decode cX5_orderRuns 57 = .ok (.aload_n 0, 1) := by decide +kernel
theorem dX5_orderRuns_58 : decode cX5_orderRuns 58 = .ok (.getfield 44, 3) := by decide +kernel
theorem dX5_orderRuns_61 : decode cX5_orderRuns 61 = .ok (.iload_n 1, 1) := by decide +kernel
theorem dX5_orderRuns_62 : decode cX5_orderRuns 62 = .ok (.iaload, 1) := by decide +kernel
theorem dX5_orderRuns_63 : decode cX5_orderRuns 63 = .ok (.invokevirtual 139, 3) := by decide +kernel
theorem dX5_orderRuns_66 : decode cX5_orderRuns 66 = .ok (.iload_n 2, 1) := by decide +kernel
theorem dX5_orderRuns_67 : decode cX5_orderRuns 67 = .ok (.if_icmp .ne 9, 3) := by decide +kernel
theorem dX5_orderRuns_70 : decode cX5_orderRuns 70 = .ok (.iinc 1 1, 3) := by decide +kernel
theorem dX5_orderRuns_73 : decode cX5_orderRuns 73 = .ok (.goto (-25), 3) := by decide +kernel
theorem dX5_orderRuns_76 : decode cX5_orderRuns 76 = .ok (.aload_n 0, 1) := by decide +kernel
theorem dX5_orderRuns_77 : decode cX5_orderRuns 77 = .ok (.getfield 50, 3) := by decide +kernel
theorem dX5_orderRuns_80 : decode cX5_orderRuns 80 = .ok (.iload_n 2, 1) := by decide +kernel
theorem dX5_orderRuns_81 : decode cX5_orderRuns 81 = .ok (.iload_n 1, 1) := by decide +kernel
theorem dX5_orderRuns_82 : decode cX5_orderRuns 82 = .ok (.iastore, 1) := by decide +kernel
theorem dX5_orderRuns_83 : decode cX5_orderRuns 83 = .ok (.iinc 2 1, 3) := by decide +kernel
theorem dX5_orderRuns_86 : decode cX5_orderRuns 86 = .ok (.goto (-44), 3) := by decide +kernel
theorem dX5_orderRuns_89 : decode cX5_orderRuns 89 = .ok (.return_, 1) := by decide +kernel
theorem dX5_startOf_0 : decode cX5_startOf 0 = .ok (.aload_n 0, 1) := by decide +kernel
theorem dX5_startOf_1 : decode cX5_startOf 1 = .ok (.getfield 66, 3) := by decide +kernel
theorem dX5_startOf_4 : decode cX5_startOf 4 = .ok (.getfield 121, 3) := by decide +kernel
theorem dX5_startOf_7 : decode cX5_startOf 7 = .ok (.aload_n 0, 1) := by decide +kernel
theorem dX5_startOf_8 : decode cX5_startOf 8 = .ok (.getfield 29, 3) := by decide +kernel
theorem dX5_startOf_11 : decode cX5_startOf 11 = .ok (.iload_n 1, 1) := by decide +kernel
theorem dX5_startOf_12 : decode cX5_startOf 12 = .ok (.iaload, 1) := by decide +kernel
theorem dX5_startOf_13 : decode cX5_startOf 13 = .ok (.iaload, 1) := by decide +kernel
theorem dX5_startOf_14 : decode cX5_startOf 14 = .ok (.ireturn, 1) := by decide +kernel
theorem dX5_goalOf_0 : decode cX5_goalOf 0 = .ok (.aload_n 0, 1) := by decide +kernel
theorem dX5_goalOf_1 : decode cX5_goalOf 1 = .ok (.getfield 66, 3) := by decide +kernel
theorem dX5_goalOf_4 : decode cX5_goalOf 4 = .ok (.getfield 128, 3) := by decide +kernel
theorem dX5_goalOf_7 : decode cX5_goalOf 7 = .ok (.aload_n 0, 1) := by decide +kernel
theorem dX5_goalOf_8 : decode cX5_goalOf 8 = .ok (.getfield 29, 3) := by decide +kernel
theorem dX5_goalOf_11 : decode cX5_goalOf 11 = .ok (.iload_n 1, 1) := by decide +kernel
theorem dX5_goalOf_12 : decode cX5_goalOf 12 = .ok (.iaload, 1) := by decide +kernel
theorem dX5_goalOf_13 : decode cX5_goalOf 13 = .ok (.iaload, 1) := by decide +kernel
theorem dX5_goalOf_14 : decode cX5_goalOf 14 = .ok (.ireturn, 1) := by decide +kernel
theorem dX5_placeOf_0 : decode cX5_placeOf 0 = .ok (.iload_n 1, 1) := by decide +kernel
theorem dX5_placeOf_1 : decode cX5_placeOf 1 = .ok (.aload_n 0, 1) := by decide +kernel
theorem dX5_placeOf_2 : decode cX5_placeOf 2 = .ok (.getfield 66, 3) := by decide +kernel
theorem dX5_placeOf_5 : decode cX5_placeOf 5 = .ok (.getfield 111, 3) := by decide +kernel
theorem dX5_placeOf_8 : decode cX5_placeOf 8 = .ok (.aload_n 0, 1) := by decide +kernel
theorem dX5_placeOf_9 : decode cX5_placeOf 9 = .ok (.getfield 29, 3) := by decide +kernel
theorem dX5_placeOf_12 : decode cX5_placeOf 12 = .ok (.iload_n 1, 1) := by decide +kernel
theorem dX5_placeOf_13 : decode cX5_placeOf 13 = .ok (.iaload, 1) := by decide +kernel
theorem dX5_placeOf_14 : decode cX5_placeOf 14 = .ok (.iaload, 1) := by decide +kernel
theorem dX5_placeOf_15 : decode cX5_placeOf 15 = .ok (.isub, 1) := by decide +kernel
theorem dX5_placeOf_16 : decode cX5_placeOf 16 = .ok (.ireturn, 1) := by decide +kernel
theorem dX5_goalBegin_0 : decode cX5_goalBegin 0 = .ok (.iload_n 1, 1) := by decide +kernel
theorem dX5_goalBegin_1 : decode cX5_goalBegin 1 = .ok (.ifCond .ne 7, 3) := by decide +kernel
theorem dX5_goalBegin_4 : decode cX5_goalBegin 4 = .ok (.iconst 0, 1) := by decide +kernel
theorem dX5_goalBegin_5 : decode cX5_goalBegin 5 = .ok (.goto 11, 3) := by decide +kernel
theorem dX5_goalBegin_8 : decode cX5_goalBegin 8 = .ok (.aload_n 0, 1) := by decide +kernel
theorem dX5_goalBegin_9 : decode cX5_goalBegin 9 = .ok (.getfield 50, 3) := by decide +kernel
theorem dX5_goalBegin_12 : decode cX5_goalBegin 12 = .ok (.iload_n 1, 1) := by decide +kernel
theorem dX5_goalBegin_13 : decode cX5_goalBegin 13 = .ok (.iconst 1, 1) := by decide +kernel
theorem dX5_goalBegin_14 : decode cX5_goalBegin 14 = .ok (.isub, 1) := by decide +kernel
theorem dX5_goalBegin_15 : decode cX5_goalBegin 15 = .ok (.iaload, 1) := by decide +kernel
theorem dX5_goalBegin_16 : decode cX5_goalBegin 16 = .ok (.ireturn, 1) := by decide +kernel
theorem dX5_tell_0 : decode cX5_tell 0 = .ok (.iload_n 2, 1) := by decide +kernel
theorem dX5_tell_1 : decode cX5_tell 1 = .ok (.ifCond .ne 10, 3) := by decide +kernel
theorem dX5_tell_4 : decode cX5_tell 4 = .ok (.aload_n 0, 1) := by decide +kernel
theorem dX5_tell_5 : decode cX5_tell 5 = .ok (.getfield 32, 3) := by decide +kernel
theorem dX5_tell_8 : decode cX5_tell 8 = .ok (.iload_n 1, 1) := by decide +kernel
theorem dX5_tell_9 : decode cX5_tell 9 = .ok (.iaload, 1) := by decide +kernel
theorem dX5_tell_10 : decode cX5_tell 10 = .ok (.ireturn, 1) := by decide +kernel
theorem dX5_tell_11 : decode cX5_tell 11 = .ok (.iload_n 2, 1) := by decide +kernel
theorem dX5_tell_12 : decode cX5_tell 12 = .ok (.iconst 1, 1) := by decide +kernel
theorem dX5_tell_13 : decode cX5_tell 13 = .ok (.if_icmp .ne 10, 3) := by decide +kernel
theorem dX5_tell_16 : decode cX5_tell 16 = .ok (.aload_n 0, 1) := by decide +kernel
theorem dX5_tell_17 : decode cX5_tell 17 = .ok (.getfield 35, 3) := by decide +kernel
theorem dX5_tell_20 : decode cX5_tell 20 = .ok (.iload_n 1, 1) := by decide +kernel
theorem dX5_tell_21 : decode cX5_tell 21 = .ok (.iaload, 1) := by decide +kernel
theorem dX5_tell_22 : decode cX5_tell 22 = .ok (.ireturn, 1) := by decide +kernel
theorem dX5_tell_23 : decode cX5_tell 23 = .ok (.aload_n 0, 1) := by decide +kernel
theorem dX5_tell_24 : decode cX5_tell 24 = .ok (.getfield 38, 3) := by decide +kernel
theorem dX5_tell_27 : decode cX5_tell 27 = .ok (.iload_n 1, 1) := by decide +kernel
theorem dX5_tell_28 : decode cX5_tell 28 = .ok (.baload, 1) := by decide +kernel
theorem dX5_tell_29 : decode cX5_tell 29 = .ok (.ifCond .eq 7, 3) := by decide +kernel
theorem dX5_tell_32 : decode cX5_tell 32 = .ok (.iconst 1, 1) := by decide +kernel
theorem dX5_tell_33 : decode cX5_tell 33 = .ok (.goto 4, 3) := by decide +kernel
theorem dX5_tell_36 : decode cX5_tell 36 = .ok (.iconst 0, 1) := by decide +kernel
theorem dX5_tell_37 : decode cX5_tell 37 = .ok (.ireturn, 1) := by decide +kernel
theorem dX6_init_0 : decode cX6_init 0 = .ok (.aload_n 0, 1) := by decide +kernel
theorem dX6_init_1 : decode cX6_init 1 = .ok (.invokespecial 3, 3) := by decide +kernel
theorem dX6_init_4 : decode cX6_init 4 = .ok (.aload_n 0, 1) := by decide +kernel
theorem dX6_init_5 : decode cX6_init 5 = .ok (.new 9, 3) := by decide +kernel
theorem dX6_init_8 : decode cX6_init 8 = .ok (.dup, 1) := by decide +kernel
theorem dX6_init_9 : decode cX6_init 9 = .ok (.invokespecial 11, 3) := by decide +kernel
theorem dX6_init_12 : decode cX6_init 12 = .ok (.putfield 12, 3) := by decide +kernel
theorem dX6_init_15 : decode cX6_init 15 = .ok (.aload_n 0, 1) := by decide +kernel
theorem dX6_init_16 : decode cX6_init 16 = .ok (.new 16, 3) := by decide +kernel
theorem dX6_init_19 : decode cX6_init 19 = .ok (.dup, 1) := by decide +kernel
theorem dX6_init_20 : decode cX6_init 20 = .ok (.invokespecial 18, 3) := by decide +kernel
theorem dX6_init_23 : decode cX6_init 23 = .ok (.putfield 19, 3) := by decide +kernel
theorem dX6_init_26 : decode cX6_init 26 = .ok (.aload_n 0, 1) := by decide +kernel
theorem dX6_init_27 : decode cX6_init 27 = .ok (.new 23, 3) := by decide +kernel
theorem dX6_init_30 : decode cX6_init 30 = .ok (.dup, 1) := by decide +kernel
theorem dX6_init_31 : decode cX6_init 31 = .ok (.invokespecial 25, 3) := by decide +kernel
theorem dX6_init_34 : decode cX6_init 34 = .ok (.putfield 26, 3) := by decide +kernel
theorem dX6_init_37 : decode cX6_init 37 = .ok (.aload_n 0, 1) := by decide +kernel
theorem dX6_init_38 : decode cX6_init 38 = .ok (.new 30, 3) := by decide +kernel
theorem dX6_init_41 : decode cX6_init 41 = .ok (.dup, 1) := by decide +kernel
theorem dX6_init_42 : decode cX6_init 42 = .ok (.aload_n 0, 1) := by decide +kernel
theorem dX6_init_43 : decode cX6_init 43 = .ok (.getfield 19, 3) := by decide +kernel
theorem dX6_init_46 : decode cX6_init 46 = .ok (.aload_n 0, 1) := by decide +kernel
theorem dX6_init_47 : decode cX6_init 47 = .ok (.getfield 26, 3) := by decide +kernel
theorem dX6_init_50 : decode cX6_init 50 = .ok (.invokespecial 32, 3) := by decide +kernel
theorem dX6_init_53 : decode cX6_init 53 = .ok (.putfield 35, 3) := by decide +kernel
theorem dX6_init_56 : decode cX6_init 56 = .ok (.aload_n 0, 1) := by decide +kernel
theorem dX6_init_57 : decode cX6_init 57 = .ok (.new 39, 3) := by decide +kernel
theorem dX6_init_60 : decode cX6_init 60 = .ok (.dup, 1) := by decide +kernel
theorem dX6_init_61 : decode cX6_init 61 = .ok (.aload_n 0, 1) := by decide +kernel
theorem dX6_init_62 : decode cX6_init 62 = .ok (.getfield 12, 3) := by decide +kernel
theorem dX6_init_65 : decode cX6_init 65 = .ok (.aload_n 0, 1) := by decide +kernel
theorem dX6_init_66 : decode cX6_init 66 = .ok (.getfield 35, 3) := by decide +kernel
theorem dX6_init_69 : decode cX6_init 69 = .ok (.invokespecial 41, 3) := by decide +kernel
theorem dX6_init_72 : decode cX6_init 72 = .ok (.putfield 44, 3) := by decide +kernel
theorem dX6_init_75 : decode cX6_init 75 = .ok (.aload_n 0, 1) := by decide +kernel
theorem dX6_init_76 : decode cX6_init 76 = .ok (.sipush 2400, 3) := by decide +kernel
theorem dX6_init_79 : decode cX6_init 79 = .ok (.newarray .int, 2) := by decide +kernel
theorem dX6_init_81 : decode cX6_init 81 = .ok (.putfield 48, 3) := by decide +kernel
theorem dX6_init_84 : decode cX6_init 84 = .ok (.aload_n 0, 1) := by decide +kernel
theorem dX6_init_85 : decode cX6_init 85 = .ok (.sipush 2400, 3) := by decide +kernel
theorem dX6_init_88 : decode cX6_init 88 = .ok (.newarray .int, 2) := by decide +kernel
theorem dX6_init_90 : decode cX6_init 90 = .ok (.putfield 52, 3) := by decide +kernel
theorem dX6_init_93 : decode cX6_init 93 = .ok (.aload_n 0, 1) := by decide +kernel
theorem dX6_init_94 : decode cX6_init 94 = .ok (.iconst 0, 1) := by decide +kernel
theorem dX6_init_95 : decode cX6_init 95 = .ok (.putfield 55, 3) := by decide +kernel
theorem dX6_init_98 : decode cX6_init 98 = .ok (.aload_n 0, 1) := by decide +kernel
theorem dX6_init_99 : decode cX6_init 99 = .ok (.iconst 0, 1) := by decide +kernel
theorem dX6_init_100 : decode cX6_init 100 = .ok (.putfield 59, 3) := by decide +kernel
theorem dX6_init_103 : decode cX6_init 103 = .ok (.return_, 1) := by decide +kernel
theorem dX6_status_0 : decode cX6_status 0 = .ok (.aload_n 0, 1) := by decide +kernel
theorem dX6_status_1 : decode cX6_status 1 = .ok (.getfield 59, 3) := by decide +kernel
theorem dX6_status_4 : decode cX6_status 4 = .ok (.ireturn, 1) := by decide +kernel
theorem dX6_node_0 : decode cX6_node 0 = .ok (.iload_n 1, 1) := by decide +kernel
theorem dX6_node_1 : decode cX6_node 1 = .ok (.iload_n 2, 1) := by decide +kernel
theorem dX6_node_2 : decode cX6_node 2 = .ok (.invokestatic 62, 3) := by decide +kernel
theorem dX6_node_5 : decode cX6_node 5 = .ok (.ifCond .ne 9, 3) := by decide +kernel
theorem dX6_node_8 : decode cX6_node 8 = .ok (.aload_n 0, 1) := by decide +kernel
theorem dX6_node_9 : decode cX6_node 9 = .ok (.iconst 2, 1) := by decide +kernel
theorem dX6_node_10 : decode cX6_node 10 = .ok (.invokevirtual 66, 3) := by decide +kernel
theorem dX6_node_13 : decode cX6_node 13 = .ok (.ireturn, 1) := by decide +kernel
theorem dX6_node_14 : decode cX6_node 14 = .ok (.aload_n 0, 1) := by decide +kernel
theorem dX6_node_15 : decode cX6_node 15 = .ok (.getfield 12, 3) := by decide +kernel
theorem dX6_node_18 : decode cX6_node 18 = .ok (.getfield 70, 3) := by decide +kernel
theorem dX6_node_21 : decode cX6_node 21 = .ok (.bipush 24, 2) := by decide +kernel
theorem dX6_node_23 : decode cX6_node 23 = .ok (.if_icmp .lt 9, 3) := by decide +kernel
theorem dX6_node_26 : decode cX6_node 26 = .ok (.aload_n 0, 1) := by decide +kernel
theorem dX6_node_27 : decode cX6_node 27 = .ok (.iconst 3, 1) := by decide +kernel
theorem dX6_node_28 : decode cX6_node 28 = .ok (.invokevirtual 66, 3) := by decide +kernel
theorem dX6_node_31 : decode cX6_node 31 = .ok (.ireturn, 1) := by decide +kernel
theorem dX6_node_32 : decode cX6_node 32 = .ok (.aload_n 0, 1) := by decide +kernel
theorem dX6_node_33 : decode cX6_node 33 = .ok (.aload_n 0, 1) := by decide +kernel
theorem dX6_node_34 : decode cX6_node 34 = .ok (.getfield 12, 3) := by decide +kernel
theorem dX6_node_37 : decode cX6_node 37 = .ok (.iload_n 1, 1) := by decide +kernel
theorem dX6_node_38 : decode cX6_node 38 = .ok (.iload_n 2, 1) := by decide +kernel
theorem dX6_node_39 : decode cX6_node 39 = .ok (.invokevirtual 73, 3) := by decide +kernel
theorem dX6_node_42 : decode cX6_node 42 = .ok (.invokevirtual 77, 3) := by decide +kernel
theorem dX6_node_45 : decode cX6_node 45 = .ok (.ireturn, 1) := by decide +kernel
theorem dX6_waits_0 : decode cX6_waits 0 = .ok (.aload_n 0, 1) := by decide +kernel
theorem dX6_waits_1 : decode cX6_waits 1 = .ok (.iload_n 1, 1) := by decide +kernel
theorem dX6_waits_2 : decode cX6_waits 2 = .ok (.invokevirtual 80, 3) := by decide +kernel
theorem dX6_waits_5 : decode cX6_waits 5 = .ok (.ifCond .ne 9, 3) := by decide +kernel
theorem dX6_waits_8 : decode cX6_waits 8 = .ok (.aload_n 0, 1) := by decide +kernel
theorem dX6_waits_9 : decode cX6_waits 9 = .ok (.iconst 1, 1) := by decide +kernel
theorem dX6_waits_10 : decode cX6_waits 10 = .ok (.invokevirtual 84, 3) := by decide +kernel
theorem dX6_waits_13 : decode cX6_waits 13 = .ok (.ireturn, 1) := by decide +kernel
theorem dX6_waits_14 : decode cX6_waits 14 = .ok (.iload_n 2, 1) := by decide +kernel
theorem dX6_waits_15 : decode cX6_waits 15 = .ok (.iload_n 3, 1) := by decide +kernel
theorem dX6_waits_16 : decode cX6_waits 16 = .ok (.invokestatic 62, 3) := by decide +kernel
theorem dX6_waits_19 : decode cX6_waits 19 = .ok (.ifCond .ne 9, 3) := by decide +kernel
theorem dX6_waits_22 : decode cX6_waits 22 = .ok (.aload_n 0, 1) := by decide +kernel
theorem dX6_waits_23 : decode cX6_waits 23 = .ok (.iconst 2, 1) := by decide +kernel
theorem dX6_waits_24 : decode cX6_waits 24 = .ok (.invokevirtual 84, 3) := by decide +kernel
theorem dX6_waits_27 : decode cX6_waits 27 = .ok (.ireturn, 1) := by decide +kernel
theorem dX6_waits_28 : decode cX6_waits 28 = .ok (.aload_n 0, 1) := by decide +kernel
theorem dX6_waits_29 : decode cX6_waits 29 = .ok (.getfield 12, 3) := by decide +kernel
theorem dX6_waits_32 : decode cX6_waits 32 = .ok (.iload_n 1, 1) := by decide +kernel
theorem dX6_waits_33 : decode cX6_waits 33 = .ok (.iload_n 2, 1) := by decide +kernel
theorem dX6_waits_34 : decode cX6_waits 34 = .ok (.iload_n 3, 1) := by decide +kernel
theorem dX6_waits_35 : decode cX6_waits 35 = .ok (.invokevirtual 87, 3) := by decide +kernel
theorem dX6_waits_38 : decode cX6_waits 38 = .ok (.aload_n 0, 1) := by decide +kernel
theorem dX6_waits_39 : decode cX6_waits 39 = .ok (.invokevirtual 91, 3) := by decide +kernel
theorem dX6_waits_42 : decode cX6_waits 42 = .ok (.ireturn, 1) := by decide +kernel
theorem dX6_line_0 : decode cX6_line 0 = .ok (.aload_n 0, 1) := by decide +kernel
theorem dX6_line_1 : decode cX6_line 1 = .ok (.iload_n 1, 1) := by decide +kernel
theorem dX6_line_2 : decode cX6_line 2 = .ok (.iload_n 2, 1) := by decide +kernel
theorem dX6_line_3 : decode cX6_line 3 = .ok (.invokevirtual 95, 3) := by decide +kernel
theorem dX6_line_6 : decode cX6_line 6 = .ok (.ifCond .ne 9, 3) := by decide +kernel
theorem dX6_line_9 : decode cX6_line 9 = .ok (.aload_n 0, 1) := by decide +kernel
theorem dX6_line_10 : decode cX6_line 10 = .ok (.iconst 1, 1) := by decide +kernel
theorem dX6_line_11 : decode cX6_line 11 = .ok (.invokevirtual 66, 3) := by decide +kernel
theorem dX6_line_14 : decode cX6_line 14 = .ok (.ireturn, 1) := by decide +kernel
theorem dX6_line_15 : decode cX6_line 15 = .ok (.iload 4, 2) := by decide +kernel
theorem dX6_line_17 : decode cX6_line 17 = .ok (.iconst 0, 1) := by decide +kernel
theorem dX6_line_18 : decode cX6_line 18 = .ok (.sipush 5000, 3) := by decide +kernel
theorem dX6_line_21 : decode cX6_line 21 = .ok (.invokestatic 98, 3) := by decide +kernel
theorem dX6_line_24 : decode cX6_line 24 = .ok (.ifCond .eq 26, 3) := by decide +kernel
theorem dX6_line_27 : decode cX6_line 27 = .ok (.iload 5, 2) := by decide +kernel
theorem dX6_line_29 : decode cX6_line 29 = .ok (.iconst 1, 1) := by decide +kernel
theorem dX6_line_30 : decode cX6_line 30 = .ok (.sipush 500, 3) := by decide +kernel
theorem dX6_line_33 : decode cX6_line 33 = .ok (.invokestatic 98, 3) := by decide +kernel
theorem dX6_line_36 : decode cX6_line 36 = .ok (.ifCond .eq 14, 3) := by decide +kernel
theorem dX6_line_39 : decode cX6_line 39 = .ok (.iload_n 3, 1) := by decide +kernel
theorem dX6_line_40 : decode cX6_line 40 = .ok (.iload 6, 2) := by decide +kernel
theorem dX6_line_42 : decode cX6_line 42 = .ok (.iload 7, 2) := by decide +kernel
theorem dX6_line_44 : decode cX6_line 44 = .ok (.invokestatic 102, 3) := by decide +kernel
theorem dX6_line_47 : decode cX6_line 47 = .ok (.ifCond .ne 9, 3) := by decide +kernel
theorem dX6_line_50 : decode cX6_line 50 = .ok (.aload_n 0, 1) := by decide +kernel
theorem dX6_line_51 : decode cX6_line 51 = .ok (.iconst 2, 1) := by decide +kernel
theorem dX6_line_52 : decode cX6_line 52 = .ok (.invokevirtual 66, 3) := by decide +kernel
theorem dX6_line_55 : decode cX6_line 55 = .ok (.ireturn, 1) := by decide +kernel
theorem dX6_line_56 : decode cX6_line 56 = .ok (.iload_n 3, 1) := by decide +kernel
theorem dX6_line_57 : decode cX6_line 57 = .ok (.ifCond .ne 7, 3) := by decide +kernel
theorem dX6_line_60 : decode cX6_line 60 = .ok (.iconst 1, 1) := by decide +kernel
theorem dX6_line_61 : decode cX6_line 61 = .ok (.goto 5, 3) := by decide +kernel
theorem dX6_line_64 : decode cX6_line 64 = .ok (.iload 6, 2) := by decide +kernel
theorem dX6_line_66 : decode cX6_line 66 = .ok (.istore 8, 2) := by decide +kernel
theorem dX6_line_68 : decode cX6_line 68 = .ok (.aload_n 0, 1) := by decide +kernel
theorem dX6_line_69 : decode cX6_line 69 = .ok (.getfield 19, 3) := by decide +kernel
theorem dX6_line_72 : decode cX6_line 72 = .ok (.getfield 105, 3) := by decide +kernel
theorem dX6_line_75 : decode cX6_line 75 = .ok (.bipush 100, 2) := by decide +kernel
theorem dX6_line_77 : decode cX6_line 77 = .ok (.if_icmp .ge 29, 3) := by decide +kernel
theorem dX6_line_80 : decode cX6_line 80 = .ok (.aload_n 0, 1) := by decide +kernel
theorem dX6_line_81 : decode cX6_line 81 = .ok (.getfield 19, 3) := by decide +kernel
theorem dX6_line_84 : decode cX6_line 84 = .ok (.getfield 106, 3) := by decide +kernel
theorem dX6_line_87 : decode cX6_line 87 = .ok (.iload 8, 2) := by decide +kernel
theorem dX6_line_89 : decode cX6_line 89 = .ok (.iadd, 1) := by decide +kernel
theorem dX6_line_90 : decode cX6_line 90 = .ok (.sipush 1200, 3) := by decide +kernel
theorem dX6_line_93 : decode cX6_line 93 = .ok (.if_icmp .gt 13, 3) := by decide +kernel
theorem dX6_line_96 : decode cX6_line 96 = .ok (.aload_n 0, 1) := by decide +kernel
theorem dX6_line_97 : decode cX6_line 97 = .ok (.getfield 26, 3) := by decide +kernel
theorem dX6_line_100 : decode cX6_line 100 = .ok (.invokevirtual 109, 3) := by decide +kernel
theorem dX6_line_103 : decode cX6_line 103 = .ok (.ifCond .eq 9, 3) := by decide +kernel
theorem dX6_line_106 : decode cX6_line 106 = .ok (.aload_n 0, 1) := by decide +kernel
theorem dX6_line_107 : decode cX6_line 107 = .ok (.iconst 3, 1) := by decide +kernel
theorem dX6_line_108 : decode cX6_line 108 = .ok (.invokevirtual 66, 3) := by decide +kernel
theorem dX6_line_111 : decode cX6_line 111 = .ok (.ireturn, 1) := by decide +kernel
theorem dX6_line_112 : decode cX6_line 112 = .ok (.aload_n 0, 1) := by decide +kernel
theorem dX6_line_113 : decode cX6_line 113 = .ok (.getfield 19, 3) := by decide +kernel
theorem dX6_line_116 : decode cX6_line 116 = .ok (.iload_n 1, 1) := by decide +kernel
theorem dX6_line_117 : decode cX6_line 117 = .ok (.iload_n 2, 1) := by decide +kernel
theorem dX6_line_118 : decode cX6_line 118 = .ok (.iload_n 3, 1) := by decide +kernel
theorem dX6_line_119 : decode cX6_line 119 = .ok (.iload 4, 2) := by decide +kernel
theorem dX6_line_121 : decode cX6_line 121 = .ok (.iload 5, 2) := by decide +kernel
theorem dX6_line_123 : decode cX6_line 123 = .ok (.iload 8, 2) := by decide +kernel
theorem dX6_line_125 : decode cX6_line 125 = .ok (.iload_n 3, 1) := by decide +kernel
theorem dX6_line_126 : decode cX6_line 126 = .ok (.iconst 1, 1) := by decide +kernel
theorem dX6_line_127 : decode cX6_line 127 = .ok (.if_icmp .ne 8, 3) := by decide +kernel
theorem dX6_line_130 : decode cX6_line 130 = .ok (.iload 7, 2) := by decide +kernel
theorem dX6_line_132 : decode cX6_line 132 = .ok (.goto 4, 3) := by decide +kernel
theorem dX6_line_135 : decode cX6_line 135 = .ok (.iconst 0, 1) := by decide +kernel
theorem dX6_line_136 : decode cX6_line 136 = .ok (.invokevirtual 112, 3) := by decide +kernel
theorem dX6_line_139 : decode cX6_line 139 = .ok (.istore 9, 2) := by decide +kernel
theorem dX6_line_141 : decode cX6_line 141 = .ok (.aload_n 0, 1) := by decide +kernel
theorem dX6_line_142 : decode cX6_line 142 = .ok (.getfield 26, 3) := by decide +kernel
theorem dX6_line_145 : decode cX6_line 145 = .ok (.iconst 0, 1) := by decide +kernel
theorem dX6_line_146 : decode cX6_line 146 = .ok (.iload 9, 2) := by decide +kernel
theorem dX6_line_148 : decode cX6_line 148 = .ok (.iconst 0, 1) := by decide +kernel
theorem dX6_line_149 : decode cX6_line 149 = .ok (.iconst 0, 1) := by decide +kernel
theorem dX6_line_150 : decode cX6_line 150 = .ok (.invokevirtual 115, 3) := by decide +kernel
theorem dX6_line_153 : decode cX6_line 153 = .ok (.aload_n 0, 1) := by decide +kernel
theorem dX6_line_154 : decode cX6_line 154 = .ok (.iload 9, 2) := by decide +kernel
theorem dX6_line_156 : decode cX6_line 156 = .ok (.invokevirtual 77, 3) := by decide +kernel
theorem dX6_line_159 : decode cX6_line 159 = .ok (.ireturn, 1) := by decide +kernel
theorem dX6_strike_0 : decode cX6_strike 0 = .ok (.aload_n 0, 1) := by decide +kernel
theorem dX6_strike_1 : decode cX6_strike 1 = .ok (.iload_n 1, 1) := by decide +kernel
theorem dX6_strike_2 : decode cX6_strike 2 = .ok (.invokevirtual 118, 3) := by decide +kernel
theorem dX6_strike_5 : decode cX6_strike 5 = .ok (.ifCond .ne 9, 3) := by decide +kernel
theorem dX6_strike_8 : decode cX6_strike 8 = .ok (.aload_n 0, 1) := by decide +kernel
theorem dX6_strike_9 : decode cX6_strike 9 = .ok (.iconst 1, 1) := by decide +kernel
theorem dX6_strike_10 : decode cX6_strike 10 = .ok (.invokevirtual 84, 3) := by decide +kernel
theorem dX6_strike_13 : decode cX6_strike 13 = .ok (.ireturn, 1) := by decide +kernel
theorem dX6_strike_14 : decode cX6_strike 14 = .ok (.aload_n 0, 1) := by decide +kernel
theorem dX6_strike_15 : decode cX6_strike 15 = .ok (.getfield 26, 3) := by decide +kernel
theorem dX6_strike_18 : decode cX6_strike 18 = .ok (.invokevirtual 109, 3) := by decide +kernel
theorem dX6_strike_21 : decode cX6_strike 21 = .ok (.ifCond .eq 9, 3) := by decide +kernel
theorem dX6_strike_24 : decode cX6_strike 24 = .ok (.aload_n 0, 1) := by decide +kernel
theorem dX6_strike_25 : decode cX6_strike 25 = .ok (.iconst 3, 1) := by decide +kernel
theorem dX6_strike_26 : decode cX6_strike 26 = .ok (.invokevirtual 84, 3) := by decide +kernel
theorem dX6_strike_29 : decode cX6_strike 29 = .ok (.ireturn, 1) := by decide +kernel
theorem dX6_strike_30 : decode cX6_strike 30 = .ok (.aload_n 0, 1) := by decide +kernel
theorem dX6_strike_31 : decode cX6_strike 31 = .ok (.getfield 19, 3) := by decide +kernel
theorem dX6_strike_34 : decode cX6_strike 34 = .ok (.getfield 121, 3) := by decide +kernel
theorem dX6_strike_37 : decode cX6_strike 37 = .ok (.iload_n 1, 1) := by decide +kernel
theorem dX6_strike_38 : decode cX6_strike 38 = .ok (.baload, 1) := by decide +kernel
theorem dX6_strike_39 : decode cX6_strike 39 = .ok (.ifCond .eq 9, 3) := by decide +kernel
theorem dX6_strike_42 : decode cX6_strike 42 = .ok (.aload_n 0, 1) := by decide +kernel
theorem dX6_strike_43 : decode cX6_strike 43 = .ok (.iconst 4, 1) := by decide +kernel
theorem dX6_strike_44 : decode cX6_strike 44 = .ok (.invokevirtual 84, 3) := by decide +kernel
theorem dX6_strike_47 : decode cX6_strike 47 = .ok (.ireturn, 1) := by decide +kernel
theorem dX6_strike_48 : decode cX6_strike 48 = .ok (.aload_n 0, 1) := by decide +kernel
theorem dX6_strike_49 : decode cX6_strike 49 = .ok (.getfield 19, 3) := by decide +kernel
theorem dX6_strike_52 : decode cX6_strike 52 = .ok (.getfield 121, 3) := by decide +kernel
theorem dX6_strike_55 : decode cX6_strike 55 = .ok (.iload_n 1, 1) := by decide +kernel
theorem dX6_strike_56 : decode cX6_strike 56 = .ok (.iconst 1, 1) := by decide +kernel
theorem dX6_strike_57 : decode cX6_strike 57 = .ok (.bastore, 1) := by decide +kernel
theorem dX6_strike_58 : decode cX6_strike 58 = .ok (.aload_n 0, 1) := by decide +kernel
theorem dX6_strike_59 : decode cX6_strike 59 = .ok (.getfield 26, 3) := by decide +kernel
theorem dX6_strike_62 : decode cX6_strike 62 = .ok (.iconst 1, 1) := by decide +kernel
theorem dX6_strike_63 : decode cX6_strike 63 = .ok (.iload_n 1, 1) := by decide +kernel
theorem dX6_strike_64 : decode cX6_strike 64 = .ok (.iconst 0, 1) := by decide +kernel
theorem dX6_strike_65 : decode cX6_strike 65 = .ok (.iconst 0, 1) := by decide +kernel
theorem dX6_strike_66 : decode cX6_strike 66 = .ok (.invokevirtual 115, 3) := by decide +kernel
theorem dX6_strike_69 : decode cX6_strike 69 = .ok (.aload_n 0, 1) := by decide +kernel
theorem dX6_strike_70 : decode cX6_strike 70 = .ok (.invokevirtual 91, 3) := by decide +kernel
theorem dX6_strike_73 : decode cX6_strike 73 = .ok (.ireturn, 1) := by decide +kernel
theorem dX6_delay_0 : decode cX6_delay 0 = .ok (.aload_n 0, 1) := by decide +kernel
theorem dX6_delay_1 : decode cX6_delay 1 = .ok (.iload_n 1, 1) := by decide +kernel
theorem dX6_delay_2 : decode cX6_delay 2 = .ok (.invokevirtual 118, 3) := by decide +kernel
theorem dX6_delay_5 : decode cX6_delay 5 = .ok (.ifCond .eq 22, 3) := by decide +kernel
theorem dX6_delay_8 : decode cX6_delay 8 = .ok (.iload_n 2, 1) := by decide +kernel
theorem dX6_delay_9 : decode cX6_delay 9 = .ok (.iconst 0, 1) := by decide +kernel
theorem dX6_delay_10 : decode cX6_delay 10 = .ok (.aload_n 0, 1) := by decide +kernel
theorem dX6_delay_11 : decode cX6_delay 11 = .ok (.getfield 19, 3) := by decide +kernel
theorem dX6_delay_14 : decode cX6_delay 14 = .ok (.getfield 125, 3) := by decide +kernel
theorem dX6_delay_17 : decode cX6_delay 17 = .ok (.iload_n 1, 1) := by decide +kernel
theorem dX6_delay_18 : decode cX6_delay 18 = .ok (.iaload, 1) := by decide +kernel
theorem dX6_delay_19 : decode cX6_delay 19 = .ok (.iconst 1, 1) := by decide +kernel
theorem dX6_delay_20 : decode cX6_delay 20 = .ok (.isub, 1) := by decide +kernel
theorem dX6_delay_21 : decode cX6_delay 21 = .ok (.invokestatic 98, 3) := by decide +kernel
theorem dX6_delay_24 : decode cX6_delay 24 = .ok (.ifCond .ne 9, 3) := by decide +kernel
theorem dX6_delay_27 : decode cX6_delay 27 = .ok (.aload_n 0, 1) := by decide +kernel
theorem dX6_delay_28 : decode cX6_delay 28 = .ok (.iconst 1, 1) := by decide +kernel
theorem dX6_delay_29 : decode cX6_delay 29 = .ok (.invokevirtual 84, 3) := by decide +kernel
theorem dX6_delay_32 : decode cX6_delay 32 = .ok (.ireturn, 1) := by decide +kernel
theorem dX6_delay_33 : decode cX6_delay 33 = .ok (.iload_n 3, 1) := by decide +kernel
theorem dX6_delay_34 : decode cX6_delay 34 = .ok (.iconst 0, 1) := by decide +kernel
theorem dX6_delay_35 : decode cX6_delay 35 = .ok (.sipush 500, 3) := by decide +kernel
theorem dX6_delay_38 : decode cX6_delay 38 = .ok (.invokestatic 98, 3) := by decide +kernel
theorem dX6_delay_41 : decode cX6_delay 41 = .ok (.ifCond .ne 9, 3) := by decide +kernel
theorem dX6_delay_44 : decode cX6_delay 44 = .ok (.aload_n 0, 1) := by decide +kernel
theorem dX6_delay_45 : decode cX6_delay 45 = .ok (.iconst 2, 1) := by decide +kernel
theorem dX6_delay_46 : decode cX6_delay 46 = .ok (.invokevirtual 84, 3) := by decide +kernel
theorem dX6_delay_49 : decode cX6_delay 49 = .ok (.ireturn, 1) := by decide +kernel
theorem dX6_delay_50 : decode cX6_delay 50 = .ok (.aload_n 0, 1) := by decide +kernel
theorem dX6_delay_51 : decode cX6_delay 51 = .ok (.getfield 26, 3) := by decide +kernel
theorem dX6_delay_54 : decode cX6_delay 54 = .ok (.invokevirtual 109, 3) := by decide +kernel
theorem dX6_delay_57 : decode cX6_delay 57 = .ok (.ifCond .eq 9, 3) := by decide +kernel
theorem dX6_delay_60 : decode cX6_delay 60 = .ok (.aload_n 0, 1) := by decide +kernel
theorem dX6_delay_61 : decode cX6_delay 61 = .ok (.iconst 3, 1) := by decide +kernel
theorem dX6_delay_62 : decode cX6_delay 62 = .ok (.invokevirtual 84, 3) := by decide +kernel
theorem dX6_delay_65 : decode cX6_delay 65 = .ok (.ireturn, 1) := by decide +kernel
theorem dX6_delay_66 : decode cX6_delay 66 = .ok (.aload_n 0, 1) := by decide +kernel
theorem dX6_delay_67 : decode cX6_delay 67 = .ok (.getfield 19, 3) := by decide +kernel
theorem dX6_delay_70 : decode cX6_delay 70 = .ok (.getfield 121, 3) := by decide +kernel
theorem dX6_delay_73 : decode cX6_delay 73 = .ok (.iload_n 1, 1) := by decide +kernel
theorem dX6_delay_74 : decode cX6_delay 74 = .ok (.baload, 1) := by decide +kernel
theorem dX6_delay_75 : decode cX6_delay 75 = .ok (.ifCond .eq 9, 3) := by decide +kernel
theorem dX6_delay_78 : decode cX6_delay 78 = .ok (.aload_n 0, 1) := by decide +kernel
theorem dX6_delay_79 : decode cX6_delay 79 = .ok (.iconst 4, 1) := by decide +kernel
theorem dX6_delay_80 : decode cX6_delay 80 = .ok (.invokevirtual 84, 3) := by decide +kernel
theorem dX6_delay_83 : decode cX6_delay 83 = .ok (.ireturn, 1) := by decide +kernel
theorem dX6_delay_84 : decode cX6_delay 84 = .ok (.aload_n 0, 1) := by decide +kernel
theorem dX6_delay_85 : decode cX6_delay 85 = .ok (.getfield 26, 3) := by decide +kernel
theorem dX6_delay_88 : decode cX6_delay 88 = .ok (.iconst 2, 1) := by decide +kernel
theorem dX6_delay_89 : decode cX6_delay 89 = .ok (.aload_n 0, 1) := by decide +kernel
theorem dX6_delay_90 : decode cX6_delay 90 = .ok (.getfield 19, 3) := by decide +kernel
theorem dX6_delay_93 : decode cX6_delay 93 = .ok (.getfield 128, 3) := by decide +kernel
theorem dX6_delay_96 : decode cX6_delay 96 = .ok (.iload_n 1, 1) := by decide +kernel
theorem dX6_delay_97 : decode cX6_delay 97 = .ok (.iaload, 1) := by decide +kernel
theorem dX6_delay_98 : decode cX6_delay 98 = .ok (.iload_n 2, 1) := by decide +kernel
theorem dX6_delay_99 : decode cX6_delay 99 = .ok (.iadd, 1) := by decide +kernel
theorem dX6_delay_100 : decode cX6_delay 100 = .ok (.iload_n 3, 1) := by decide +kernel
theorem dX6_delay_101 : decode cX6_delay 101 = .ok (.iconst 0, 1) := by decide +kernel
theorem dX6_delay_102 : decode cX6_delay 102 = .ok (.invokevirtual 115, 3) := by decide +kernel
theorem dX6_delay_105 : decode cX6_delay 105 = .ok (.aload_n 0, 1) := by decide +kernel
theorem dX6_delay_106 : decode cX6_delay 106 = .ok (.invokevirtual 91, 3) := by decide +kernel
theorem dX6_delay_109 : decode cX6_delay 109 = .ok (.ireturn, 1) := by decide +kernel
theorem dX6_close_0 : decode cX6_close 0 = .ok (.aload_n 0, 1) := by decide +kernel
theorem dX6_close_1 : decode cX6_close 1 = .ok (.iload_n 1, 1) := by decide +kernel
theorem dX6_close_2 : decode cX6_close 2 = .ok (.invokevirtual 80, 3) := by decide +kernel
theorem dX6_close_5 : decode cX6_close 5 = .ok (.ifCond .ne 9, 3) := by decide +kernel
theorem dX6_close_8 : decode cX6_close 8 = .ok (.aload_n 0, 1) := by decide +kernel
theorem dX6_close_9 : decode cX6_close 9 = .ok (.iconst 1, 1) := by decide +kernel
theorem dX6_close_10 : decode cX6_close 10 = .ok (.invokevirtual 84, 3) := by decide +kernel
theorem dX6_close_13 : decode cX6_close 13 = .ok (.ireturn, 1) := by decide +kernel
theorem dX6_close_14 : decode cX6_close 14 = .ok (.iload_n 2, 1) := by decide +kernel
theorem dX6_close_15 : decode cX6_close 15 = .ok (.invokestatic 131, 3) := by decide +kernel
theorem dX6_close_18 : decode cX6_close 18 = .ok (.ifCond .eq 15, 3) := by decide +kernel
theorem dX6_close_21 : decode cX6_close 21 = .ok (.iload_n 3, 1) := by decide +kernel
theorem dX6_close_22 : decode cX6_close 22 = .ok (.invokestatic 131, 3) := by decide +kernel
theorem dX6_close_25 : decode cX6_close 25 = .ok (.ifCond .eq 8, 3) := by decide +kernel
theorem dX6_close_28 : decode cX6_close 28 = .ok (.iload_n 2, 1) := by decide +kernel
theorem dX6_close_29 : decode cX6_close 29 = .ok (.iload_n 3, 1) := by decide +kernel
theorem dX6_close_30 : decode cX6_close 30 = .ok (.if_icmp .le 9, 3) := by decide +kernel
theorem dX6_close_33 : decode cX6_close 33 = .ok (.aload_n 0, 1) := by decide +kernel
theorem dX6_close_34 : decode cX6_close 34 = .ok (.iconst 2, 1) := by decide +kernel
theorem dX6_close_35 : decode cX6_close 35 = .ok (.invokevirtual 84, 3) := by decide +kernel
theorem dX6_close_38 : decode cX6_close 38 = .ok (.ireturn, 1) := by decide +kernel
theorem dX6_close_39 : decode cX6_close 39 = .ok (.aload_n 0, 1) := by decide +kernel
theorem dX6_close_40 : decode cX6_close 40 = .ok (.getfield 26, 3) := by decide +kernel
theorem dX6_close_43 : decode cX6_close 43 = .ok (.getfield 134, 3) := by decide +kernel
theorem dX6_close_46 : decode cX6_close 46 = .ok (.bipush 60, 2) := by decide +kernel
theorem dX6_close_48 : decode cX6_close 48 = .ok (.if_icmp .ge 13, 3) := by decide +kernel
theorem dX6_close_51 : decode cX6_close 51 = .ok (.aload_n 0, 1) := by decide +kernel
theorem dX6_close_52 : decode cX6_close 52 = .ok (.getfield 26, 3) := by decide +kernel
theorem dX6_close_55 : decode cX6_close 55 = .ok (.invokevirtual 109, 3) := by decide +kernel
theorem dX6_close_58 : decode cX6_close 58 = .ok (.ifCond .eq 9, 3) := by decide +kernel
theorem dX6_close_61 : decode cX6_close 61 = .ok (.aload_n 0, 1) := by decide +kernel
theorem dX6_close_62 : decode cX6_close 62 = .ok (.iconst 3, 1) := by decide +kernel
theorem dX6_close_63 : decode cX6_close 63 = .ok (.invokevirtual 84, 3) := by decide +kernel
theorem dX6_close_66 : decode cX6_close 66 = .ok (.ireturn, 1) := by decide +kernel
theorem dX6_close_67 : decode cX6_close 67 = .ok (.aload_n 0, 1) := by decide +kernel
theorem dX6_close_68 : decode cX6_close 68 = .ok (.getfield 26, 3) := by decide +kernel
theorem dX6_close_71 : decode cX6_close 71 = .ok (.iconst 3, 1) := by decide +kernel
theorem dX6_close_72 : decode cX6_close 72 = .ok (.iload_n 1, 1) := by decide +kernel
theorem dX6_close_73 : decode cX6_close 73 = .ok (.iload_n 2, 1) := by decide +kernel
theorem dX6_close_74 : decode cX6_close 74 = .ok (.iload_n 3, 1) := by decide +kernel
theorem dX6_close_75 : decode cX6_close 75 = .ok (.invokevirtual 115, 3) := by decide +kernel
theorem dX6_close_78 : decode cX6_close 78 = .ok (.aload_n 0, 1) := by decide +kernel
theorem dX6_close_79 : decode cX6_close 79 = .ok (.invokevirtual 91, 3) := by decide +kernel
theorem dX6_close_82 : decode cX6_close 82 = .ok (.ireturn, 1) := by decide +kernel
theorem dX6_changes_0 : decode cX6_changes 0 = .ok (.aload_n 0, 1) := by decide +kernel
theorem dX6_changes_1 : decode cX6_changes 1 = .ok (.aload_n 0, 1) := by decide +kernel
theorem dX6_changes_2 : decode cX6_changes 2 = .ok (.getfield 26, 3) := by decide +kernel
theorem dX6_changes_5 : decode cX6_changes 5 = .ok (.getfield 137, 3) := by decide +kernel
theorem dX6_changes_8 : decode cX6_changes 8 = .ok (.invokevirtual 77, 3) := by decide +kernel
theorem dX6_changes_11 : decode cX6_changes 11 = .ok (.ireturn, 1) := by decide +kernel
theorem dX6_undo_0 : decode cX6_undo 0 = .ok (.aload_n 0, 1) := by decide +kernel
theorem dX6_undo_1 : decode cX6_undo 1 = .ok (.getfield 26, 3) := by decide +kernel
theorem dX6_undo_4 : decode cX6_undo 4 = .ok (.getfield 137, 3) := by decide +kernel
theorem dX6_undo_7 : decode cX6_undo 7 = .ok (.ifCond .ne 10, 3) := by decide +kernel
theorem dX6_undo_10 : decode cX6_undo 10 = .ok (.aload_n 0, 1) := by decide +kernel
theorem dX6_undo_11 : decode cX6_undo 11 = .ok (.bipush 6, 2) := by decide +kernel
theorem dX6_undo_13 : decode cX6_undo 13 = .ok (.invokevirtual 84, 3) := by decide +kernel
theorem dX6_undo_16 : decode cX6_undo 16 = .ok (.ireturn, 1) := by decide +kernel
theorem dX6_undo_17 : decode cX6_undo 17 = .ok (.aload_n 0, 1) := by decide +kernel
theorem dX6_undo_18 : decode cX6_undo 18 = .ok (.getfield 26, 3) := by decide +kernel
theorem dX6_undo_21 : decode cX6_undo 21 = .ok (.getfield 138, 3) := by decide +kernel
theorem dX6_undo_24 : decode cX6_undo 24 = .ok (.aload_n 0, 1) := by decide +kernel
theorem dX6_undo_25 : decode cX6_undo 25 = .ok (.getfield 26, 3) := by decide +kernel
theorem dX6_undo_28 : decode cX6_undo 28 = .ok (.getfield 137, 3) := by decide +kernel
theorem dX6_undo_31 : decode cX6_undo 31 = .ok (.iconst 1, 1) := by decide +kernel
theorem dX6_undo_32 : decode cX6_undo 32 = .ok (.isub, 1) := by decide +kernel
theorem dX6_undo_33 : decode cX6_undo 33 = .ok (.iaload, 1) := by decide +kernel
theorem dX6_undo_34 : decode cX6_undo 34 = .ok (.istore_n 1, 1) := by decide +kernel
theorem dX6_undo_35 : decode cX6_undo 35 = .ok (.aload_n 0, 1) := by decide +kernel
theorem dX6_undo_36 : decode cX6_undo 36 = .ok (.getfield 26, 3) := by decide +kernel
theorem dX6_undo_39 : decode cX6_undo 39 = .ok (.getfield 141, 3) := by decide +kernel
theorem dX6_undo_42 : decode cX6_undo 42 = .ok (.aload_n 0, 1) := by decide +kernel
theorem dX6_undo_43 : decode cX6_undo 43 = .ok (.getfield 26, 3) := by decide +kernel
theorem dX6_undo_46 : decode cX6_undo 46 = .ok (.getfield 137, 3) := by decide +kernel
theorem dX6_undo_49 : decode cX6_undo 49 = .ok (.iconst 1, 1) := by decide +kernel
theorem dX6_undo_50 : decode cX6_undo 50 = .ok (.isub, 1) := by decide +kernel
theorem dX6_undo_51 : decode cX6_undo 51 = .ok (.iaload, 1) := by decide +kernel
theorem dX6_undo_52 : decode cX6_undo 52 = .ok (.istore_n 2, 1) := by decide +kernel
theorem dX6_undo_53 : decode cX6_undo 53 = .ok (.aload_n 0, 1) := by decide +kernel
theorem dX6_undo_54 : decode cX6_undo 54 = .ok (.getfield 26, 3) := by decide +kernel
theorem dX6_undo_57 : decode cX6_undo 57 = .ok (.invokevirtual 144, 3) := by decide +kernel
theorem dX6_undo_60 : decode cX6_undo 60 = .ok (.iload_n 1, 1) := by decide +kernel
theorem dX6_undo_61 : decode cX6_undo 61 = .ok (.ifCond .ne 13, 3) := by decide +kernel
theorem dX6_undo_64 : decode cX6_undo 64 = .ok (.aload_n 0, 1) := by decide +kernel
theorem dX6_undo_65 : decode cX6_undo 65 = .ok (.getfield 19, 3) := by decide +kernel
theorem dX6_undo_68 : decode cX6_undo 68 = .ok (.invokevirtual 147, 3) := by decide +kernel
theorem dX6_undo_71 : decode cX6_undo 71 = .ok (.goto 18, 3) := by decide +kernel
theorem dX6_undo_74 : decode cX6_undo 74 = .ok (.iload_n 1, 1) := by decide +kernel
theorem dX6_undo_75 : decode cX6_undo 75 = .ok (.iconst 1, 1) := by decide +kernel
theorem dX6_undo_76 : decode cX6_undo 76 = .ok (.if_icmp .ne 13, 3) := by decide +kernel
theorem dX6_undo_79 : decode cX6_undo 79 = .ok (.aload_n 0, 1) := by decide +kernel
theorem dX6_undo_80 : decode cX6_undo 80 = .ok (.getfield 19, 3) := by decide +kernel
theorem dX6_undo_83 : decode cX6_undo 83 = .ok (.getfield 121, 3) := by decide +kernel
theorem dX6_undo_86 : decode cX6_undo 86 = .ok (.iload_n 2, 1) := by decide +kernel
theorem dX6_undo_87 : decode cX6_undo 87 = .ok (.iconst 0, 1) := by decide +kernel
theorem dX6_undo_88 : decode cX6_undo 88 = .ok (.bastore, 1) := by decide +kernel
theorem dX6_undo_89 : decode cX6_undo 89 = .ok (.aload_n 0, 1) := by decide +kernel
theorem dX6_undo_90 : decode cX6_undo 90 = .ok (.getfield 35, 3) := by decide +kernel
theorem dX6_undo_93 : decode cX6_undo 93 = .ok (.invokevirtual 148, 3) := by decide +kernel
theorem dX6_undo_96 : decode cX6_undo 96 = .ok (.aload_n 0, 1) := by decide +kernel
theorem dX6_undo_97 : decode cX6_undo 97 = .ok (.invokevirtual 91, 3) := by decide +kernel
theorem dX6_undo_100 : decode cX6_undo 100 = .ok (.ireturn, 1) := by decide +kernel
theorem dX6_told_0 : decode cX6_told 0 = .ok (.aload_n 0, 1) := by decide +kernel
theorem dX6_told_1 : decode cX6_told 1 = .ok (.iload_n 1, 1) := by decide +kernel
theorem dX6_told_2 : decode cX6_told 2 = .ok (.invokevirtual 118, 3) := by decide +kernel
theorem dX6_told_5 : decode cX6_told 5 = .ok (.ifCond .ne 9, 3) := by decide +kernel
theorem dX6_told_8 : decode cX6_told 8 = .ok (.aload_n 0, 1) := by decide +kernel
theorem dX6_told_9 : decode cX6_told 9 = .ok (.iconst 1, 1) := by decide +kernel
theorem dX6_told_10 : decode cX6_told 10 = .ok (.invokevirtual 66, 3) := by decide +kernel
theorem dX6_told_13 : decode cX6_told 13 = .ok (.ireturn, 1) := by decide +kernel
theorem dX6_told_14 : decode cX6_told 14 = .ok (.iload_n 2, 1) := by decide +kernel
theorem dX6_told_15 : decode cX6_told 15 = .ok (.iconst 0, 1) := by decide +kernel
theorem dX6_told_16 : decode cX6_told 16 = .ok (.bipush 7, 2) := by decide +kernel
theorem dX6_told_18 : decode cX6_told 18 = .ok (.invokestatic 98, 3) := by decide +kernel
theorem dX6_told_21 : decode cX6_told 21 = .ok (.ifCond .ne 9, 3) := by decide +kernel
theorem dX6_told_24 : decode cX6_told 24 = .ok (.aload_n 0, 1) := by decide +kernel
theorem dX6_told_25 : decode cX6_told 25 = .ok (.iconst 2, 1) := by decide +kernel
theorem dX6_told_26 : decode cX6_told 26 = .ok (.invokevirtual 66, 3) := by decide +kernel
theorem dX6_told_29 : decode cX6_told 29 = .ok (.ireturn, 1) := by decide +kernel
theorem dX6_told_30 : decode cX6_told 30 = .ok (.aload_n 0, 1) := by decide +kernel
theorem dX6_told_31 : decode cX6_told 31 = .ok (.aload_n 0, 1) := by decide +kernel
theorem dX6_told_32 : decode cX6_told 32 = .ok (.getfield 19, 3) := by decide +kernel
theorem dX6_told_35 : decode cX6_told 35 = .ok (.iload_n 1, 1) := by decide +kernel
theorem dX6_told_36 : decode cX6_told 36 = .ok (.iload_n 2, 1) := by decide +kernel
theorem dX6_told_37 : decode cX6_told 37 = .ok (.invokevirtual 151, 3) := by decide +kernel
theorem dX6_told_40 : decode cX6_told 40 = .ok (.invokevirtual 77, 3) := by decide +kernel
theorem dX6_told_43 : decode cX6_told 43 = .ok (.ireturn, 1) := by decide +kernel
theorem dX6_run_0 : decode cX6_run 0 = .ok (.aload_n 0, 1) := by decide +kernel
theorem dX6_run_1 : decode cX6_run 1 = .ok (.iload_n 3, 1) := by decide +kernel
theorem dX6_run_2 : decode cX6_run 2 = .ok (.invokevirtual 154, 3) := by decide +kernel
theorem dX6_run_5 : decode cX6_run 5 = .ok (.ifCond .ne 10, 3) := by decide +kernel
theorem dX6_run_8 : decode cX6_run 8 = .ok (.aload_n 0, 1) := by decide +kernel
theorem dX6_run_9 : decode cX6_run 9 = .ok (.bipush 6, 2) := by decide +kernel
theorem dX6_run_11 : decode cX6_run 11 = .ok (.invokevirtual 66, 3) := by decide +kernel
theorem dX6_run_14 : decode cX6_run 14 = .ok (.ireturn, 1) := by decide +kernel
theorem dX6_run_15 : decode cX6_run 15 = .ok (.aload_n 0, 1) := by decide +kernel
theorem dX6_run_16 : decode cX6_run 16 = .ok (.getfield 35, 3) := by decide +kernel
theorem dX6_run_19 : decode cX6_run 19 = .ok (.iload_n 3, 1) := by decide +kernel
theorem dX6_run_20 : decode cX6_run 20 = .ok (.invokevirtual 157, 3) := by decide +kernel
theorem dX6_run_23 : decode cX6_run 23 = .ok (.iload_n 1, 1) := by decide +kernel
theorem dX6_run_24 : decode cX6_run 24 = .ok (.iconst 0, 1) := by decide +kernel
theorem dX6_run_25 : decode cX6_run 25 = .ok (.aload_n 0, 1) := by decide +kernel
theorem dX6_run_26 : decode cX6_run 26 = .ok (.getfield 35, 3) := by decide +kernel
theorem dX6_run_29 : decode cX6_run 29 = .ok (.getfield 161, 3) := by decide +kernel
theorem dX6_run_32 : decode cX6_run 32 = .ok (.iconst 1, 1) := by decide +kernel
theorem dX6_run_33 : decode cX6_run 33 = .ok (.isub, 1) := by decide +kernel
theorem dX6_run_34 : decode cX6_run 34 = .ok (.invokestatic 98, 3) := by decide +kernel
theorem dX6_run_37 : decode cX6_run 37 = .ok (.ifCond .eq 22, 3) := by decide +kernel
theorem dX6_run_40 : decode cX6_run 40 = .ok (.iload_n 2, 1) := by decide +kernel
theorem dX6_run_41 : decode cX6_run 41 = .ok (.iconst 0, 1) := by decide +kernel
theorem dX6_run_42 : decode cX6_run 42 = .ok (.aload_n 0, 1) := by decide +kernel
theorem dX6_run_43 : decode cX6_run 43 = .ok (.getfield 19, 3) := by decide +kernel
theorem dX6_run_46 : decode cX6_run 46 = .ok (.getfield 125, 3) := by decide +kernel
theorem dX6_run_49 : decode cX6_run 49 = .ok (.iload_n 1, 1) := by decide +kernel
theorem dX6_run_50 : decode cX6_run 50 = .ok (.iaload, 1) := by decide +kernel
theorem dX6_run_51 : decode cX6_run 51 = .ok (.iconst 1, 1) := by decide +kernel
theorem dX6_run_52 : decode cX6_run 52 = .ok (.isub, 1) := by decide +kernel
theorem dX6_run_53 : decode cX6_run 53 = .ok (.invokestatic 98, 3) := by decide +kernel
theorem dX6_run_56 : decode cX6_run 56 = .ok (.ifCond .ne 9, 3) := by decide +kernel
theorem dX6_run_59 : decode cX6_run 59 = .ok (.aload_n 0, 1) := by decide +kernel
theorem dX6_run_60 : decode cX6_run 60 = .ok (.iconst 1, 1) := by decide +kernel
theorem dX6_run_61 : decode cX6_run 61 = .ok (.invokevirtual 66, 3) := by decide +kernel
theorem dX6_run_64 : decode cX6_run 64 = .ok (.ireturn, 1) := by decide +kernel
theorem dX6_run_65 : decode cX6_run 65 = .ok (.iload 4, 2) := by decide +kernel
theorem dX6_run_67 : decode cX6_run 67 = .ok (.iconst 0, 1) := by decide +kernel
theorem dX6_run_68 : decode cX6_run 68 = .ok (.iconst 2, 1) := by decide +kernel
theorem dX6_run_69 : decode cX6_run 69 = .ok (.invokestatic 98, 3) := by decide +kernel
theorem dX6_run_72 : decode cX6_run 72 = .ok (.ifCond .ne 9, 3) := by decide +kernel
theorem dX6_run_75 : decode cX6_run 75 = .ok (.aload_n 0, 1) := by decide +kernel
theorem dX6_run_76 : decode cX6_run 76 = .ok (.iconst 2, 1) := by decide +kernel
theorem dX6_run_77 : decode cX6_run 77 = .ok (.invokevirtual 66, 3) := by decide +kernel
theorem dX6_run_80 : decode cX6_run 80 = .ok (.ireturn, 1) := by decide +kernel
theorem dX6_run_81 : decode cX6_run 81 = .ok (.aload_n 0, 1) := by decide +kernel
theorem dX6_run_82 : decode cX6_run 82 = .ok (.aload_n 0, 1) := by decide +kernel
theorem dX6_run_83 : decode cX6_run 83 = .ok (.getfield 35, 3) := by decide +kernel
theorem dX6_run_86 : decode cX6_run 86 = .ok (.aload_n 0, 1) := by decide +kernel
theorem dX6_run_87 : decode cX6_run 87 = .ok (.getfield 19, 3) := by decide +kernel
theorem dX6_run_90 : decode cX6_run 90 = .ok (.getfield 128, 3) := by decide +kernel
theorem dX6_run_93 : decode cX6_run 93 = .ok (.iload_n 1, 1) := by decide +kernel
theorem dX6_run_94 : decode cX6_run 94 = .ok (.iaload, 1) := by decide +kernel
theorem dX6_run_95 : decode cX6_run 95 = .ok (.iload_n 2, 1) := by decide +kernel
theorem dX6_run_96 : decode cX6_run 96 = .ok (.iadd, 1) := by decide +kernel
theorem dX6_run_97 : decode cX6_run 97 = .ok (.iload 4, 2) := by decide +kernel
theorem dX6_run_99 : decode cX6_run 99 = .ok (.invokevirtual 164, 3) := by decide +kernel
theorem dX6_run_102 : decode cX6_run 102 = .ok (.invokevirtual 77, 3) := by decide +kernel
theorem dX6_run_105 : decode cX6_run 105 = .ok (.ireturn, 1) := by decide +kernel
theorem dX6_first_0 : decode cX6_first 0 = .ok (.aload_n 0, 1) := by decide +kernel
theorem dX6_first_1 : decode cX6_first 1 = .ok (.iload_n 1, 1) := by decide +kernel
theorem dX6_first_2 : decode cX6_first 2 = .ok (.iload_n 2, 1) := by decide +kernel
theorem dX6_first_3 : decode cX6_first 3 = .ok (.iload_n 3, 1) := by decide +kernel
theorem dX6_first_4 : decode cX6_first 4 = .ok (.iload_n 3, 1) := by decide +kernel
theorem dX6_first_5 : decode cX6_first 5 = .ok (.iload 4, 2) := by decide +kernel
theorem dX6_first_7 : decode cX6_first 7 = .ok (.invokevirtual 165, 3) := by decide +kernel
theorem dX6_first_10 : decode cX6_first 10 = .ok (.istore 5, 2) := by decide +kernel
theorem dX6_first_12 : decode cX6_first 12 = .ok (.iload 5, 2) := by decide +kernel
theorem dX6_first_14 : decode cX6_first 14 = .ok (.ifCond .eq 10, 3) := by decide +kernel
theorem dX6_first_17 : decode cX6_first 17 = .ok (.aload_n 0, 1) := by decide +kernel
theorem dX6_first_18 : decode cX6_first 18 = .ok (.iload 5, 2) := by decide +kernel
theorem dX6_first_20 : decode cX6_first 20 = .ok (.invokevirtual 66, 3) := by decide +kernel
theorem dX6_first_23 : decode cX6_first 23 = .ok (.ireturn, 1) := by decide +kernel
theorem dX6_first_24 : decode cX6_first 24 = .ok (.aload_n 0, 1) := by decide +kernel
theorem dX6_first_25 : decode cX6_first 25 = .ok (.iload_n 1, 1) := by decide +kernel
theorem dX6_first_26 : decode cX6_first 26 = .ok (.iload_n 3, 1) := by decide +kernel
theorem dX6_first_27 : decode cX6_first 27 = .ok (.iload 4, 2) := by decide +kernel
theorem dX6_first_29 : decode cX6_first 29 = .ok (.iconst 0, 1) := by decide +kernel
theorem dX6_first_30 : decode cX6_first 30 = .ok (.invokevirtual 169, 3) := by decide +kernel
theorem dX6_first_33 : decode cX6_first 33 = .ok (.aload_n 0, 1) := by decide +kernel
theorem dX6_first_34 : decode cX6_first 34 = .ok (.aload_n 0, 1) := by decide +kernel
theorem dX6_first_35 : decode cX6_first 35 = .ok (.getfield 44, 3) := by decide +kernel
theorem dX6_first_38 : decode cX6_first 38 = .ok (.iload_n 2, 1) := by decide +kernel
theorem dX6_first_39 : decode cX6_first 39 = .ok (.invokevirtual 173, 3) := by decide +kernel
theorem dX6_first_42 : decode cX6_first 42 = .ok (.invokevirtual 176, 3) := by decide +kernel
theorem dX6_first_45 : decode cX6_first 45 = .ok (.ireturn, 1) := by decide +kernel
theorem dX6_last_0 : decode cX6_last 0 = .ok (.aload_n 0, 1) := by decide +kernel
theorem dX6_last_1 : decode cX6_last 1 = .ok (.iload_n 1, 1) := by decide +kernel
theorem dX6_last_2 : decode cX6_last 2 = .ok (.iload_n 2, 1) := by decide +kernel
theorem dX6_last_3 : decode cX6_last 3 = .ok (.iload_n 3, 1) := by decide +kernel
theorem dX6_last_4 : decode cX6_last 4 = .ok (.iload_n 3, 1) := by decide +kernel
theorem dX6_last_5 : decode cX6_last 5 = .ok (.iload 4, 2) := by decide +kernel
theorem dX6_last_7 : decode cX6_last 7 = .ok (.invokevirtual 165, 3) := by decide +kernel
theorem dX6_last_10 : decode cX6_last 10 = .ok (.istore 5, 2) := by decide +kernel
theorem dX6_last_12 : decode cX6_last 12 = .ok (.iload 5, 2) := by decide +kernel
theorem dX6_last_14 : decode cX6_last 14 = .ok (.ifCond .eq 10, 3) := by decide +kernel
theorem dX6_last_17 : decode cX6_last 17 = .ok (.aload_n 0, 1) := by decide +kernel
theorem dX6_last_18 : decode cX6_last 18 = .ok (.iload 5, 2) := by decide +kernel
theorem dX6_last_20 : decode cX6_last 20 = .ok (.invokevirtual 66, 3) := by decide +kernel
theorem dX6_last_23 : decode cX6_last 23 = .ok (.ireturn, 1) := by decide +kernel
theorem dX6_last_24 : decode cX6_last 24 = .ok (.aload_n 0, 1) := by decide +kernel
theorem dX6_last_25 : decode cX6_last 25 = .ok (.iload_n 1, 1) := by decide +kernel
theorem dX6_last_26 : decode cX6_last 26 = .ok (.iconst 0, 1) := by decide +kernel
theorem dX6_last_27 : decode cX6_last 27 = .ok (.iload 4, 2) := by decide +kernel
theorem dX6_last_29 : decode cX6_last 29 = .ok (.iconst 0, 1) := by decide +kernel
theorem dX6_last_30 : decode cX6_last 30 = .ok (.invokevirtual 169, 3) := by decide +kernel
theorem dX6_last_33 : decode cX6_last 33 = .ok (.aload_n 0, 1) := by decide +kernel
theorem dX6_last_34 : decode cX6_last 34 = .ok (.aload_n 0, 1) := by decide +kernel
theorem dX6_last_35 : decode cX6_last 35 = .ok (.getfield 44, 3) := by decide +kernel
theorem dX6_last_38 : decode cX6_last 38 = .ok (.iload_n 2, 1) := by decide +kernel
theorem dX6_last_39 : decode cX6_last 39 = .ok (.iload_n 3, 1) := by decide +kernel
theorem dX6_last_40 : decode cX6_last 40 = .ok (.invokevirtual 179, 3) := by decide +kernel
theorem dX6_last_43 : decode cX6_last 43 = .ok (.invokevirtual 176, 3) := by decide +kernel
theorem dX6_last_46 : decode cX6_last 46 = .ok (.ireturn, 1) := by decide +kernel
theorem dX6_quickest_0 : decode cX6_quickest 0 = .ok (.aload_n 0, 1) := by decide +kernel
theorem dX6_quickest_1 : decode cX6_quickest 1 = .ok (.iload_n 1, 1) := by decide +kernel
theorem dX6_quickest_2 : decode cX6_quickest 2 = .ok (.iload_n 2, 1) := by decide +kernel
theorem dX6_quickest_3 : decode cX6_quickest 3 = .ok (.iload_n 3, 1) := by decide +kernel
theorem dX6_quickest_4 : decode cX6_quickest 4 = .ok (.iload 4, 2) := by decide +kernel
theorem dX6_quickest_6 : decode cX6_quickest 6 = .ok (.iload 5, 2) := by decide +kernel
theorem dX6_quickest_8 : decode cX6_quickest 8 = .ok (.invokevirtual 165, 3) := by decide +kernel
theorem dX6_quickest_11 : decode cX6_quickest 11 = .ok (.istore 6, 2) := by decide +kernel
theorem dX6_quickest_13 : decode cX6_quickest 13 = .ok (.iload 6, 2) := by decide +kernel
theorem dX6_quickest_15 : decode cX6_quickest 15 = .ok (.ifCond .eq 10, 3) := by decide +kernel
theorem dX6_quickest_18 : decode cX6_quickest 18 = .ok (.aload_n 0, 1) := by decide +kernel
theorem dX6_quickest_19 : decode cX6_quickest 19 = .ok (.iload 6, 2) := by decide +kernel
theorem dX6_quickest_21 : decode cX6_quickest 21 = .ok (.invokevirtual 66, 3) := by decide +kernel
theorem dX6_quickest_24 : decode cX6_quickest 24 = .ok (.ireturn, 1) := by decide +kernel
theorem dX6_quickest_25 : decode cX6_quickest 25 = .ok (.aload_n 0, 1) := by decide +kernel
theorem dX6_quickest_26 : decode cX6_quickest 26 = .ok (.iload_n 1, 1) := by decide +kernel
theorem dX6_quickest_27 : decode cX6_quickest 27 = .ok (.iload_n 3, 1) := by decide +kernel
theorem dX6_quickest_28 : decode cX6_quickest 28 = .ok (.iload 5, 2) := by decide +kernel
theorem dX6_quickest_30 : decode cX6_quickest 30 = .ok (.iconst 0, 1) := by decide +kernel
theorem dX6_quickest_31 : decode cX6_quickest 31 = .ok (.invokevirtual 169, 3) := by decide +kernel
theorem dX6_quickest_34 : decode cX6_quickest 34 = .ok (.aload_n 0, 1) := by decide +kernel
theorem dX6_quickest_35 : decode cX6_quickest 35 = .ok (.aload_n 0, 1) := by decide +kernel
theorem dX6_quickest_36 : decode cX6_quickest 36 = .ok (.getfield 44, 3) := by decide +kernel
theorem dX6_quickest_39 : decode cX6_quickest 39 = .ok (.iload_n 2, 1) := by decide +kernel
theorem dX6_quickest_40 : decode cX6_quickest 40 = .ok (.iload 4, 2) := by decide +kernel
theorem dX6_quickest_42 : decode cX6_quickest 42 = .ok (.invokevirtual 182, 3) := by decide +kernel
theorem dX6_quickest_45 : decode cX6_quickest 45 = .ok (.invokevirtual 176, 3) := by decide +kernel
theorem dX6_quickest_48 : decode cX6_quickest 48 = .ok (.ireturn, 1) := by decide +kernel
theorem dX6_fewest_0 : decode cX6_fewest 0 = .ok (.aload_n 0, 1) := by decide +kernel
theorem dX6_fewest_1 : decode cX6_fewest 1 = .ok (.iload_n 1, 1) := by decide +kernel
theorem dX6_fewest_2 : decode cX6_fewest 2 = .ok (.iload_n 2, 1) := by decide +kernel
theorem dX6_fewest_3 : decode cX6_fewest 3 = .ok (.iload_n 3, 1) := by decide +kernel
theorem dX6_fewest_4 : decode cX6_fewest 4 = .ok (.iload 4, 2) := by decide +kernel
theorem dX6_fewest_6 : decode cX6_fewest 6 = .ok (.iload 5, 2) := by decide +kernel
theorem dX6_fewest_8 : decode cX6_fewest 8 = .ok (.invokevirtual 165, 3) := by decide +kernel
theorem dX6_fewest_11 : decode cX6_fewest 11 = .ok (.istore 6, 2) := by decide +kernel
theorem dX6_fewest_13 : decode cX6_fewest 13 = .ok (.iload 6, 2) := by decide +kernel
theorem dX6_fewest_15 : decode cX6_fewest 15 = .ok (.ifCond .eq 10, 3) := by decide +kernel
theorem dX6_fewest_18 : decode cX6_fewest 18 = .ok (.aload_n 0, 1) := by decide +kernel
theorem dX6_fewest_19 : decode cX6_fewest 19 = .ok (.iload 6, 2) := by decide +kernel
theorem dX6_fewest_21 : decode cX6_fewest 21 = .ok (.invokevirtual 66, 3) := by decide +kernel
theorem dX6_fewest_24 : decode cX6_fewest 24 = .ok (.ireturn, 1) := by decide +kernel
theorem dX6_fewest_25 : decode cX6_fewest 25 = .ok (.aload_n 0, 1) := by decide +kernel
theorem dX6_fewest_26 : decode cX6_fewest 26 = .ok (.iload_n 1, 1) := by decide +kernel
theorem dX6_fewest_27 : decode cX6_fewest 27 = .ok (.iload_n 3, 1) := by decide +kernel
theorem dX6_fewest_28 : decode cX6_fewest 28 = .ok (.iload 5, 2) := by decide +kernel
theorem dX6_fewest_30 : decode cX6_fewest 30 = .ok (.iconst 1, 1) := by decide +kernel
theorem dX6_fewest_31 : decode cX6_fewest 31 = .ok (.invokevirtual 169, 3) := by decide +kernel
theorem dX6_fewest_34 : decode cX6_fewest 34 = .ok (.aload_n 0, 1) := by decide +kernel
theorem dX6_fewest_35 : decode cX6_fewest 35 = .ok (.aload_n 0, 1) := by decide +kernel
theorem dX6_fewest_36 : decode cX6_fewest 36 = .ok (.getfield 44, 3) := by decide +kernel
theorem dX6_fewest_39 : decode cX6_fewest 39 = .ok (.iload_n 2, 1) := by decide +kernel
theorem dX6_fewest_40 : decode cX6_fewest 40 = .ok (.iload 4, 2) := by decide +kernel
theorem dX6_fewest_42 : decode cX6_fewest 42 = .ok (.invokevirtual 185, 3) := by decide +kernel
theorem dX6_fewest_45 : decode cX6_fewest 45 = .ok (.invokevirtual 176, 3) := by decide +kernel
theorem dX6_fewest_48 : decode cX6_fewest 48 = .ok (.ireturn, 1) := by decide +kernel
theorem dX6_way_0 : decode cX6_way 0 = .ok (.aload_n 0, 1) := by decide +kernel
theorem dX6_way_1 : decode cX6_way 1 = .ok (.iload_n 1, 1) := by decide +kernel
theorem dX6_way_2 : decode cX6_way 2 = .ok (.iload_n 2, 1) := by decide +kernel
theorem dX6_way_3 : decode cX6_way 3 = .ok (.iload_n 3, 1) := by decide +kernel
theorem dX6_way_4 : decode cX6_way 4 = .ok (.iload_n 3, 1) := by decide +kernel
theorem dX6_way_5 : decode cX6_way 5 = .ok (.iload 4, 2) := by decide +kernel
theorem dX6_way_7 : decode cX6_way 7 = .ok (.invokevirtual 165, 3) := by decide +kernel
theorem dX6_way_10 : decode cX6_way 10 = .ok (.istore 5, 2) := by decide +kernel
theorem dX6_way_12 : decode cX6_way 12 = .ok (.iload 5, 2) := by decide +kernel
theorem dX6_way_14 : decode cX6_way 14 = .ok (.ifCond .eq 10, 3) := by decide +kernel
theorem dX6_way_17 : decode cX6_way 17 = .ok (.aload_n 0, 1) := by decide +kernel
theorem dX6_way_18 : decode cX6_way 18 = .ok (.iload 5, 2) := by decide +kernel
theorem dX6_way_20 : decode cX6_way 20 = .ok (.invokevirtual 66, 3) := by decide +kernel
theorem dX6_way_23 : decode cX6_way 23 = .ok (.ireturn, 1) := by decide +kernel
theorem dX6_way_24 : decode cX6_way 24 = .ok (.aload_n 0, 1) := by decide +kernel
theorem dX6_way_25 : decode cX6_way 25 = .ok (.iload_n 1, 1) := by decide +kernel
theorem dX6_way_26 : decode cX6_way 26 = .ok (.iload_n 3, 1) := by decide +kernel
theorem dX6_way_27 : decode cX6_way 27 = .ok (.iload 4, 2) := by decide +kernel
theorem dX6_way_29 : decode cX6_way 29 = .ok (.iconst 1, 1) := by decide +kernel
theorem dX6_way_30 : decode cX6_way 30 = .ok (.invokevirtual 169, 3) := by decide +kernel
theorem dX6_way_33 : decode cX6_way 33 = .ok (.aload_n 0, 1) := by decide +kernel
theorem dX6_way_34 : decode cX6_way 34 = .ok (.getfield 44, 3) := by decide +kernel
theorem dX6_way_37 : decode cX6_way 37 = .ok (.iload_n 2, 1) := by decide +kernel
theorem dX6_way_38 : decode cX6_way 38 = .ok (.aload_n 0, 1) := by decide +kernel
theorem dX6_way_39 : decode cX6_way 39 = .ok (.getfield 48, 3) := by decide +kernel
theorem dX6_way_42 : decode cX6_way 42 = .ok (.invokevirtual 188, 3) := by decide +kernel
theorem dX6_way_45 : decode cX6_way 45 = .ok (.istore 6, 2) := by decide +kernel
theorem dX6_way_47 : decode cX6_way 47 = .ok (.iload 6, 2) := by decide +kernel
theorem dX6_way_49 : decode cX6_way 49 = .ok (.iconst (-1), 1) := by decide +kernel
theorem dX6_way_50 : decode cX6_way 50 = .ok (.if_icmp .eq 11, 3) := by decide +kernel
theorem dX6_way_53 : decode cX6_way 53 = .ok (.aload_n 0, 1) := by decide +kernel
theorem dX6_way_54 : decode cX6_way 54 = .ok (.iconst 2, 1) := by decide +kernel
theorem dX6_way_55 : decode cX6_way 55 = .ok (.iload 6, 2) := by decide +kernel
theorem dX6_way_57 : decode cX6_way 57 = .ok (.imul, 1) := by decide +kernel
theorem dX6_way_58 : decode cX6_way 58 = .ok (.putfield 55, 3) := by decide +kernel
theorem dX6_way_61 : decode cX6_way 61 = .ok (.aload_n 0, 1) := by decide +kernel
theorem dX6_way_62 : decode cX6_way 62 = .ok (.iload 6, 2) := by decide +kernel
theorem dX6_way_64 : decode cX6_way 64 = .ok (.invokevirtual 176, 3) := by decide +kernel
theorem dX6_way_67 : decode cX6_way 67 = .ok (.ireturn, 1) := by decide +kernel
theorem dX6_out_0 : decode cX6_out 0 = .ok (.iload_n 1, 1) := by decide +kernel
theorem dX6_out_1 : decode cX6_out 1 = .ok (.iconst 0, 1) := by decide +kernel
theorem dX6_out_2 : decode cX6_out 2 = .ok (.aload_n 0, 1) := by decide +kernel
theorem dX6_out_3 : decode cX6_out 3 = .ok (.getfield 55, 3) := by decide +kernel
theorem dX6_out_6 : decode cX6_out 6 = .ok (.iconst 1, 1) := by decide +kernel
theorem dX6_out_7 : decode cX6_out 7 = .ok (.isub, 1) := by decide +kernel
theorem dX6_out_8 : decode cX6_out 8 = .ok (.invokestatic 98, 3) := by decide +kernel
theorem dX6_out_11 : decode cX6_out 11 = .ok (.ifCond .eq 12, 3) := by decide +kernel
theorem dX6_out_14 : decode cX6_out 14 = .ok (.aload_n 0, 1) := by decide +kernel
theorem dX6_out_15 : decode cX6_out 15 = .ok (.getfield 48, 3) := by decide +kernel
theorem dX6_out_18 : decode cX6_out 18 = .ok (.iload_n 1, 1) := by decide +kernel
theorem dX6_out_19 : decode cX6_out 19 = .ok (.iaload, 1) := by decide +kernel
theorem dX6_out_20 : decode cX6_out 20 = .ok (.goto 4, 3) := by decide +kernel
theorem dX6_out_23 : decode cX6_out 23 = .ok (.iconst (-1), 1) := by decide +kernel
theorem dX6_out_24 : decode cX6_out 24 = .ok (.ireturn, 1) := by decide +kernel
theorem dX6_pairs_0 : decode cX6_pairs 0 = .ok (.aload_n 0, 1) := by decide +kernel
theorem dX6_pairs_1 : decode cX6_pairs 1 = .ok (.iload_n 1, 1) := by decide +kernel
theorem dX6_pairs_2 : decode cX6_pairs 2 = .ok (.iload_n 2, 1) := by decide +kernel
theorem dX6_pairs_3 : decode cX6_pairs 3 = .ok (.iconst 0, 1) := by decide +kernel
theorem dX6_pairs_4 : decode cX6_pairs 4 = .ok (.iconst 0, 1) := by decide +kernel
theorem dX6_pairs_5 : decode cX6_pairs 5 = .ok (.iload_n 3, 1) := by decide +kernel
theorem dX6_pairs_6 : decode cX6_pairs 6 = .ok (.invokevirtual 165, 3) := by decide +kernel
theorem dX6_pairs_9 : decode cX6_pairs 9 = .ok (.istore 4, 2) := by decide +kernel
theorem dX6_pairs_11 : decode cX6_pairs 11 = .ok (.iload 4, 2) := by decide +kernel
theorem dX6_pairs_13 : decode cX6_pairs 13 = .ok (.ifCond .eq 10, 3) := by decide +kernel
theorem dX6_pairs_16 : decode cX6_pairs 16 = .ok (.aload_n 0, 1) := by decide +kernel
theorem dX6_pairs_17 : decode cX6_pairs 17 = .ok (.iload 4, 2) := by decide +kernel
theorem dX6_pairs_19 : decode cX6_pairs 19 = .ok (.invokevirtual 66, 3) := by decide +kernel
theorem dX6_pairs_22 : decode cX6_pairs 22 = .ok (.ireturn, 1) := by decide +kernel
theorem dX6_pairs_23 : decode cX6_pairs 23 = .ok (.aload_n 0, 1) := by decide +kernel
theorem dX6_pairs_24 : decode cX6_pairs 24 = .ok (.iload_n 1, 1) := by decide +kernel
theorem dX6_pairs_25 : decode cX6_pairs 25 = .ok (.iconst 0, 1) := by decide +kernel
theorem dX6_pairs_26 : decode cX6_pairs 26 = .ok (.iload_n 3, 1) := by decide +kernel
theorem dX6_pairs_27 : decode cX6_pairs 27 = .ok (.iconst 0, 1) := by decide +kernel
theorem dX6_pairs_28 : decode cX6_pairs 28 = .ok (.invokevirtual 169, 3) := by decide +kernel
theorem dX6_pairs_31 : decode cX6_pairs 31 = .ok (.aload_n 0, 1) := by decide +kernel
theorem dX6_pairs_32 : decode cX6_pairs 32 = .ok (.aload_n 0, 1) := by decide +kernel
theorem dX6_pairs_33 : decode cX6_pairs 33 = .ok (.getfield 44, 3) := by decide +kernel
theorem dX6_pairs_36 : decode cX6_pairs 36 = .ok (.iload_n 2, 1) := by decide +kernel
theorem dX6_pairs_37 : decode cX6_pairs 37 = .ok (.invokevirtual 192, 3) := by decide +kernel
theorem dX6_pairs_40 : decode cX6_pairs 40 = .ok (.invokevirtual 77, 3) := by decide +kernel
theorem dX6_pairs_43 : decode cX6_pairs 43 = .ok (.ireturn, 1) := by decide +kernel
theorem dX6_pair_0 : decode cX6_pair 0 = .ok (.aload_n 0, 1) := by decide +kernel
theorem dX6_pair_1 : decode cX6_pair 1 = .ok (.iload_n 1, 1) := by decide +kernel
theorem dX6_pair_2 : decode cX6_pair 2 = .ok (.iload_n 2, 1) := by decide +kernel
theorem dX6_pair_3 : decode cX6_pair 3 = .ok (.iconst 0, 1) := by decide +kernel
theorem dX6_pair_4 : decode cX6_pair 4 = .ok (.iconst 0, 1) := by decide +kernel
theorem dX6_pair_5 : decode cX6_pair 5 = .ok (.iload_n 3, 1) := by decide +kernel
theorem dX6_pair_6 : decode cX6_pair 6 = .ok (.invokevirtual 165, 3) := by decide +kernel
theorem dX6_pair_9 : decode cX6_pair 9 = .ok (.istore 6, 2) := by decide +kernel
theorem dX6_pair_11 : decode cX6_pair 11 = .ok (.iload 6, 2) := by decide +kernel
theorem dX6_pair_13 : decode cX6_pair 13 = .ok (.ifCond .eq 10, 3) := by decide +kernel
theorem dX6_pair_16 : decode cX6_pair 16 = .ok (.aload_n 0, 1) := by decide +kernel
theorem dX6_pair_17 : decode cX6_pair 17 = .ok (.iload 6, 2) := by decide +kernel
theorem dX6_pair_19 : decode cX6_pair 19 = .ok (.invokevirtual 66, 3) := by decide +kernel
theorem dX6_pair_22 : decode cX6_pair 22 = .ok (.ireturn, 1) := by decide +kernel
theorem dX6_pair_23 : decode cX6_pair 23 = .ok (.aload_n 0, 1) := by decide +kernel
theorem dX6_pair_24 : decode cX6_pair 24 = .ok (.iload_n 1, 1) := by decide +kernel
theorem dX6_pair_25 : decode cX6_pair 25 = .ok (.iconst 0, 1) := by decide +kernel
theorem dX6_pair_26 : decode cX6_pair 26 = .ok (.iload_n 3, 1) := by decide +kernel
theorem dX6_pair_27 : decode cX6_pair 27 = .ok (.iconst 0, 1) := by decide +kernel
theorem dX6_pair_28 : decode cX6_pair 28 = .ok (.invokevirtual 169, 3) := by decide +kernel
theorem dX6_pair_31 : decode cX6_pair 31 = .ok (.iload 4, 2) := by decide +kernel
theorem dX6_pair_33 : decode cX6_pair 33 = .ok (.iconst 0, 1) := by decide +kernel
theorem dX6_pair_34 : decode cX6_pair 34 = .ok (.aload_n 0, 1) := by decide +kernel
theorem dX6_pair_35 : decode cX6_pair 35 = .ok (.getfield 44, 3) := by decide +kernel
theorem dX6_pair_38 : decode cX6_pair 38 = .ok (.iload_n 2, 1) := by decide +kernel
theorem dX6_pair_39 : decode cX6_pair 39 = .ok (.invokevirtual 192, 3) := by decide +kernel
theorem dX6_pair_42 : decode cX6_pair 42 = .ok (.iconst 1, 1) := by decide +kernel
theorem dX6_pair_43 : decode cX6_pair 43 = .ok (.isub, 1) := by decide +kernel
theorem dX6_pair_44 : decode cX6_pair 44 = .ok (.invokestatic 98, 3) := by decide +kernel
theorem dX6_pair_47 : decode cX6_pair 47 = .ok (.ifCond .ne 10, 3) := by decide +kernel
theorem dX6_pair_50 : decode cX6_pair 50 = .ok (.aload_n 0, 1) := by decide +kernel
theorem dX6_pair_51 : decode cX6_pair 51 = .ok (.bipush 7, 2) := by decide +kernel
theorem dX6_pair_53 : decode cX6_pair 53 = .ok (.invokevirtual 66, 3) := by decide +kernel
theorem dX6_pair_56 : decode cX6_pair 56 = .ok (.ireturn, 1) := by decide +kernel
theorem dX6_pair_57 : decode cX6_pair 57 = .ok (.aload_n 0, 1) := by decide +kernel
theorem dX6_pair_58 : decode cX6_pair 58 = .ok (.iload 5, 2) := by decide +kernel
theorem dX6_pair_60 : decode cX6_pair 60 = .ok (.ifCond .eq 15, 3) := by decide +kernel
theorem dX6_pair_63 : decode cX6_pair 63 = .ok (.aload_n 0, 1) := by decide +kernel
theorem dX6_pair_64 : decode cX6_pair 64 = .ok (.getfield 44, 3) := by decide +kernel
theorem dX6_pair_67 : decode cX6_pair 67 = .ok (.iload 4, 2) := by decide +kernel
theorem dX6_pair_69 : decode cX6_pair 69 = .ok (.invokevirtual 195, 3) := by decide +kernel
theorem dX6_pair_72 : decode cX6_pair 72 = .ok (.goto 12, 3) := by decide +kernel
theorem dX6_pair_75 : decode cX6_pair 75 = .ok (.aload_n 0, 1) := by decide +kernel
theorem dX6_pair_76 : decode cX6_pair 76 = .ok (.getfield 44, 3) := by decide +kernel
theorem dX6_pair_79 : decode cX6_pair 79 = .ok (.iload 4, 2) := by decide +kernel
theorem dX6_pair_81 : decode cX6_pair 81 = .ok (.invokevirtual 198, 3) := by decide +kernel
theorem dX6_pair_84 : decode cX6_pair 84 = .ok (.invokevirtual 77, 3) := by decide +kernel
theorem dX6_pair_87 : decode cX6_pair 87 = .ok (.ireturn, 1) := by decide +kernel
theorem dX6_reached_0 : decode cX6_reached 0 = .ok (.aload_n 0, 1) := by decide +kernel
theorem dX6_reached_1 : decode cX6_reached 1 = .ok (.iload_n 1, 1) := by decide +kernel
theorem dX6_reached_2 : decode cX6_reached 2 = .ok (.iload_n 1, 1) := by decide +kernel
theorem dX6_reached_3 : decode cX6_reached 3 = .ok (.iload_n 2, 1) := by decide +kernel
theorem dX6_reached_4 : decode cX6_reached 4 = .ok (.iload_n 3, 1) := by decide +kernel
theorem dX6_reached_5 : decode cX6_reached 5 = .ok (.iload 4, 2) := by decide +kernel
theorem dX6_reached_7 : decode cX6_reached 7 = .ok (.invokevirtual 201, 3) := by decide +kernel
theorem dX6_reached_10 : decode cX6_reached 10 = .ok (.istore 5, 2) := by decide +kernel
theorem dX6_reached_12 : decode cX6_reached 12 = .ok (.iload 5, 2) := by decide +kernel
theorem dX6_reached_14 : decode cX6_reached 14 = .ok (.ifCond .eq 10, 3) := by decide +kernel
theorem dX6_reached_17 : decode cX6_reached 17 = .ok (.aload_n 0, 1) := by decide +kernel
theorem dX6_reached_18 : decode cX6_reached 18 = .ok (.iload 5, 2) := by decide +kernel
theorem dX6_reached_20 : decode cX6_reached 20 = .ok (.invokevirtual 66, 3) := by decide +kernel
theorem dX6_reached_23 : decode cX6_reached 23 = .ok (.ireturn, 1) := by decide +kernel
theorem dX6_reached_24 : decode cX6_reached 24 = .ok (.aload_n 0, 1) := by decide +kernel
theorem dX6_reached_25 : decode cX6_reached 25 = .ok (.iload_n 1, 1) := by decide +kernel
theorem dX6_reached_26 : decode cX6_reached 26 = .ok (.iload_n 2, 1) := by decide +kernel
theorem dX6_reached_27 : decode cX6_reached 27 = .ok (.iload 4, 2) := by decide +kernel
theorem dX6_reached_29 : decode cX6_reached 29 = .ok (.iconst 0, 1) := by decide +kernel
theorem dX6_reached_30 : decode cX6_reached 30 = .ok (.invokevirtual 169, 3) := by decide +kernel
theorem dX6_reached_33 : decode cX6_reached 33 = .ok (.iconst 0, 1) := by decide +kernel
theorem dX6_reached_34 : decode cX6_reached 34 = .ok (.istore 6, 2) := by decide +kernel
theorem dX6_reached_36 : decode cX6_reached 36 = .ok (.iconst 0, 1) := by decide +kernel
theorem dX6_reached_37 : decode cX6_reached 37 = .ok (.istore 7, 2) := by decide +kernel
theorem dX6_reached_39 : decode cX6_reached 39 = .ok (.iload 7, 2) := by decide +kernel
theorem dX6_reached_41 : decode cX6_reached 41 = .ok (.aload_n 0, 1) := by decide +kernel
theorem dX6_reached_42 : decode cX6_reached 42 = .ok (.getfield 12, 3) := by decide +kernel
theorem dX6_reached_45 : decode cX6_reached 45 = .ok (.getfield 70, 3) := by decide +kernel
theorem dX6_reached_48 : decode cX6_reached 48 = .ok (.if_icmp .ge 23, 3) := by decide +kernel
theorem dX6_reached_51 : decode cX6_reached 51 = .ok (.aload_n 0, 1) := by decide +kernel
theorem dX6_reached_52 : decode cX6_reached 52 = .ok (.iload_n 1, 1) := by decide +kernel
theorem dX6_reached_53 : decode cX6_reached 53 = .ok (.iload 7, 2) := by decide +kernel
theorem dX6_reached_55 : decode cX6_reached 55 = .ok (.iload_n 3, 1) := by decide +kernel
theorem dX6_reached_56 : decode cX6_reached 56 = .ok (.invokevirtual 204, 3) := by decide +kernel
theorem dX6_reached_59 : decode cX6_reached 59 = .ok (.ifCond .eq 6, 3) := by decide +kernel
theorem dX6_reached_62 : decode cX6_reached 62 = .ok (.iinc 6 1, 3) := by decide +kernel
theorem dX6_reached_65 : decode cX6_reached 65 = .ok (.iinc 7 1, 3) := by decide +kernel
theorem dX6_reached_68 : decode cX6_reached 68 = .ok (.goto (-29), 3) := by decide +kernel
theorem dX6_reached_71 : decode cX6_reached 71 = .ok (.aload_n 0, 1) := by decide +kernel
theorem dX6_reached_72 : decode cX6_reached 72 = .ok (.iload 6, 2) := by decide +kernel
theorem dX6_reached_74 : decode cX6_reached 74 = .ok (.invokevirtual 77, 3) := by decide +kernel
theorem dX6_reached_77 : decode cX6_reached 77 = .ok (.ireturn, 1) := by decide +kernel
theorem dX6_isReached_0 : decode cX6_isReached 0 = .ok (.aload_n 0, 1) := by decide +kernel
theorem dX6_isReached_1 : decode cX6_isReached 1 = .ok (.iload_n 1, 1) := by decide +kernel
theorem dX6_isReached_2 : decode cX6_isReached 2 = .ok (.iload_n 2, 1) := by decide +kernel
theorem dX6_isReached_3 : decode cX6_isReached 3 = .ok (.iload_n 3, 1) := by decide +kernel
theorem dX6_isReached_4 : decode cX6_isReached 4 = .ok (.iload 4, 2) := by decide +kernel
theorem dX6_isReached_6 : decode cX6_isReached 6 = .ok (.iload 5, 2) := by decide +kernel
theorem dX6_isReached_8 : decode cX6_isReached 8 = .ok (.invokevirtual 201, 3) := by decide +kernel
theorem dX6_isReached_11 : decode cX6_isReached 11 = .ok (.istore 6, 2) := by decide +kernel
theorem dX6_isReached_13 : decode cX6_isReached 13 = .ok (.iload 6, 2) := by decide +kernel
theorem dX6_isReached_15 : decode cX6_isReached 15 = .ok (.ifCond .eq 10, 3) := by decide +kernel
theorem dX6_isReached_18 : decode cX6_isReached 18 = .ok (.aload_n 0, 1) := by decide +kernel
theorem dX6_isReached_19 : decode cX6_isReached 19 = .ok (.iload 6, 2) := by decide +kernel
theorem dX6_isReached_21 : decode cX6_isReached 21 = .ok (.invokevirtual 66, 3) := by decide +kernel
theorem dX6_isReached_24 : decode cX6_isReached 24 = .ok (.ireturn, 1) := by decide +kernel
theorem dX6_isReached_25 : decode cX6_isReached 25 = .ok (.aload_n 0, 1) := by decide +kernel
theorem dX6_isReached_26 : decode cX6_isReached 26 = .ok (.iload_n 1, 1) := by decide +kernel
theorem dX6_isReached_27 : decode cX6_isReached 27 = .ok (.iload_n 3, 1) := by decide +kernel
theorem dX6_isReached_28 : decode cX6_isReached 28 = .ok (.iload 5, 2) := by decide +kernel
theorem dX6_isReached_30 : decode cX6_isReached 30 = .ok (.iconst 0, 1) := by decide +kernel
theorem dX6_isReached_31 : decode cX6_isReached 31 = .ok (.invokevirtual 169, 3) := by decide +kernel
theorem dX6_isReached_34 : decode cX6_isReached 34 = .ok (.aload_n 0, 1) := by decide +kernel
theorem dX6_isReached_35 : decode cX6_isReached 35 = .ok (.aload_n 0, 1) := by decide +kernel
theorem dX6_isReached_36 : decode cX6_isReached 36 = .ok (.iload_n 1, 1) := by decide +kernel
theorem dX6_isReached_37 : decode cX6_isReached 37 = .ok (.iload_n 2, 1) := by decide +kernel
theorem dX6_isReached_38 : decode cX6_isReached 38 = .ok (.iload 4, 2) := by decide +kernel
theorem dX6_isReached_40 : decode cX6_isReached 40 = .ok (.invokevirtual 204, 3) := by decide +kernel
theorem dX6_isReached_43 : decode cX6_isReached 43 = .ok (.ifCond .eq 7, 3) := by decide +kernel
theorem dX6_isReached_46 : decode cX6_isReached 46 = .ok (.iconst 1, 1) := by decide +kernel
theorem dX6_isReached_47 : decode cX6_isReached 47 = .ok (.goto 4, 3) := by decide +kernel
theorem dX6_isReached_50 : decode cX6_isReached 50 = .ok (.iconst 0, 1) := by decide +kernel
theorem dX6_isReached_51 : decode cX6_isReached 51 = .ok (.invokevirtual 77, 3) := by decide +kernel
theorem dX6_isReached_54 : decode cX6_isReached 54 = .ok (.ireturn, 1) := by decide +kernel
theorem dX6_without_0 : decode cX6_without 0 = .ok (.aload_n 0, 1) := by decide +kernel
theorem dX6_without_1 : decode cX6_without 1 = .ok (.iload_n 1, 1) := by decide +kernel
theorem dX6_without_2 : decode cX6_without 2 = .ok (.iload_n 2, 1) := by decide +kernel
theorem dX6_without_3 : decode cX6_without 3 = .ok (.invokevirtual 95, 3) := by decide +kernel
theorem dX6_without_6 : decode cX6_without 6 = .ok (.ifCond .eq 12, 3) := by decide +kernel
theorem dX6_without_9 : decode cX6_without 9 = .ok (.aload_n 0, 1) := by decide +kernel
theorem dX6_without_10 : decode cX6_without 10 = .ok (.iload 4, 2) := by decide +kernel
theorem dX6_without_12 : decode cX6_without 12 = .ok (.invokevirtual 118, 3) := by decide +kernel
theorem dX6_without_15 : decode cX6_without 15 = .ok (.ifCond .ne 9, 3) := by decide +kernel
theorem dX6_without_18 : decode cX6_without 18 = .ok (.aload_n 0, 1) := by decide +kernel
theorem dX6_without_19 : decode cX6_without 19 = .ok (.iconst 1, 1) := by decide +kernel
theorem dX6_without_20 : decode cX6_without 20 = .ok (.invokevirtual 66, 3) := by decide +kernel
theorem dX6_without_23 : decode cX6_without 23 = .ok (.ireturn, 1) := by decide +kernel
theorem dX6_without_24 : decode cX6_without 24 = .ok (.iload_n 3, 1) := by decide +kernel
theorem dX6_without_25 : decode cX6_without 25 = .ok (.invokestatic 131, 3) := by decide +kernel
theorem dX6_without_28 : decode cX6_without 28 = .ok (.ifCond .ne 9, 3) := by decide +kernel
theorem dX6_without_31 : decode cX6_without 31 = .ok (.aload_n 0, 1) := by decide +kernel
theorem dX6_without_32 : decode cX6_without 32 = .ok (.iconst 2, 1) := by decide +kernel
theorem dX6_without_33 : decode cX6_without 33 = .ok (.invokevirtual 66, 3) := by decide +kernel
theorem dX6_without_36 : decode cX6_without 36 = .ok (.ireturn, 1) := by decide +kernel
theorem dX6_without_37 : decode cX6_without 37 = .ok (.aload_n 0, 1) := by decide +kernel
theorem dX6_without_38 : decode cX6_without 38 = .ok (.iload_n 1, 1) := by decide +kernel
theorem dX6_without_39 : decode cX6_without 39 = .ok (.iload_n 2, 1) := by decide +kernel
theorem dX6_without_40 : decode cX6_without 40 = .ok (.iload_n 3, 1) := by decide +kernel
theorem dX6_without_41 : decode cX6_without 41 = .ok (.iload 4, 2) := by decide +kernel
theorem dX6_without_43 : decode cX6_without 43 = .ok (.invokevirtual 207, 3) := by decide +kernel
theorem dX6_without_46 : decode cX6_without 46 = .ok (.istore 5, 2) := by decide +kernel
theorem dX6_without_48 : decode cX6_without 48 = .ok (.iload 5, 2) := by decide +kernel
theorem dX6_without_50 : decode cX6_without 50 = .ok (.sipush 5001, 3) := by decide +kernel
theorem dX6_without_53 : decode cX6_without 53 = .ok (.if_icmp .ne 11, 3) := by decide +kernel
theorem dX6_without_56 : decode cX6_without 56 = .ok (.aload_n 0, 1) := by decide +kernel
theorem dX6_without_57 : decode cX6_without 57 = .ok (.iconst 5, 1) := by decide +kernel
theorem dX6_without_58 : decode cX6_without 58 = .ok (.invokevirtual 66, 3) := by decide +kernel
theorem dX6_without_61 : decode cX6_without 61 = .ok (.goto 9, 3) := by decide +kernel
theorem dX6_without_64 : decode cX6_without 64 = .ok (.aload_n 0, 1) := by decide +kernel
theorem dX6_without_65 : decode cX6_without 65 = .ok (.iload 5, 2) := by decide +kernel
theorem dX6_without_67 : decode cX6_without 67 = .ok (.invokevirtual 77, 3) := by decide +kernel
theorem dX6_without_70 : decode cX6_without 70 = .ok (.ireturn, 1) := by decide +kernel
theorem dX6_weakest_0 : decode cX6_weakest 0 = .ok (.aload_n 0, 1) := by decide +kernel
theorem dX6_weakest_1 : decode cX6_weakest 1 = .ok (.iload_n 1, 1) := by decide +kernel
theorem dX6_weakest_2 : decode cX6_weakest 2 = .ok (.iload_n 2, 1) := by decide +kernel
theorem dX6_weakest_3 : decode cX6_weakest 3 = .ok (.iload_n 3, 1) := by decide +kernel
theorem dX6_weakest_4 : decode cX6_weakest 4 = .ok (.iload_n 3, 1) := by decide +kernel
theorem dX6_weakest_5 : decode cX6_weakest 5 = .ok (.aload_n 0, 1) := by decide +kernel
theorem dX6_weakest_6 : decode cX6_weakest 6 = .ok (.getfield 26, 3) := by decide +kernel
theorem dX6_weakest_9 : decode cX6_weakest 9 = .ok (.getfield 137, 3) := by decide +kernel
theorem dX6_weakest_12 : decode cX6_weakest 12 = .ok (.invokevirtual 165, 3) := by decide +kernel
theorem dX6_weakest_15 : decode cX6_weakest 15 = .ok (.istore 4, 2) := by decide +kernel
theorem dX6_weakest_17 : decode cX6_weakest 17 = .ok (.iload 4, 2) := by decide +kernel
theorem dX6_weakest_19 : decode cX6_weakest 19 = .ok (.ifCond .eq 10, 3) := by decide +kernel
theorem dX6_weakest_22 : decode cX6_weakest 22 = .ok (.aload_n 0, 1) := by decide +kernel
theorem dX6_weakest_23 : decode cX6_weakest 23 = .ok (.iload 4, 2) := by decide +kernel
theorem dX6_weakest_25 : decode cX6_weakest 25 = .ok (.invokevirtual 66, 3) := by decide +kernel
theorem dX6_weakest_28 : decode cX6_weakest 28 = .ok (.ireturn, 1) := by decide +kernel
theorem dX6_weakest_29 : decode cX6_weakest 29 = .ok (.aload_n 0, 1) := by decide +kernel
theorem dX6_weakest_30 : decode cX6_weakest 30 = .ok (.iload_n 1, 1) := by decide +kernel
theorem dX6_weakest_31 : decode cX6_weakest 31 = .ok (.iload_n 3, 1) := by decide +kernel
theorem dX6_weakest_32 : decode cX6_weakest 32 = .ok (.aload_n 0, 1) := by decide +kernel
theorem dX6_weakest_33 : decode cX6_weakest 33 = .ok (.getfield 26, 3) := by decide +kernel
theorem dX6_weakest_36 : decode cX6_weakest 36 = .ok (.getfield 137, 3) := by decide +kernel
theorem dX6_weakest_39 : decode cX6_weakest 39 = .ok (.iconst 1, 1) := by decide +kernel
theorem dX6_weakest_40 : decode cX6_weakest 40 = .ok (.invokevirtual 169, 3) := by decide +kernel
theorem dX6_weakest_43 : decode cX6_weakest 43 = .ok (.aload_n 0, 1) := by decide +kernel
theorem dX6_weakest_44 : decode cX6_weakest 44 = .ok (.getfield 44, 3) := by decide +kernel
theorem dX6_weakest_47 : decode cX6_weakest 47 = .ok (.iload_n 2, 1) := by decide +kernel
theorem dX6_weakest_48 : decode cX6_weakest 48 = .ok (.aload_n 0, 1) := by decide +kernel
theorem dX6_weakest_49 : decode cX6_weakest 49 = .ok (.getfield 52, 3) := by decide +kernel
theorem dX6_weakest_52 : decode cX6_weakest 52 = .ok (.invokevirtual 188, 3) := by decide +kernel
theorem dX6_weakest_55 : decode cX6_weakest 55 = .ok (.istore 5, 2) := by decide +kernel
theorem dX6_weakest_57 : decode cX6_weakest 57 = .ok (.iconst (-1), 1) := by decide +kernel
theorem dX6_weakest_58 : decode cX6_weakest 58 = .ok (.istore 6, 2) := by decide +kernel
theorem dX6_weakest_60 : decode cX6_weakest 60 = .ok (.iconst (-1), 1) := by decide +kernel
theorem dX6_weakest_61 : decode cX6_weakest 61 = .ok (.istore 7, 2) := by decide +kernel
theorem dX6_weakest_63 : decode cX6_weakest 63 = .ok (.iconst 0, 1) := by decide +kernel
theorem dX6_weakest_64 : decode cX6_weakest 64 = .ok (.istore 8, 2) := by decide +kernel
theorem dX6_weakest_66 : decode cX6_weakest 66 = .ok (.iload 8, 2) := by decide +kernel
theorem dX6_weakest_68 : decode cX6_weakest 68 = .ok (.aload_n 0, 1) := by decide +kernel
theorem dX6_weakest_69 : decode cX6_weakest 69 = .ok (.getfield 19, 3) := by decide +kernel
theorem dX6_weakest_72 : decode cX6_weakest 72 = .ok (.getfield 105, 3) := by decide +kernel
theorem dX6_weakest_75 : decode cX6_weakest 75 = .ok (.if_icmp .ge 50, 3) := by decide +kernel
theorem dX6_weakest_78 : decode cX6_weakest 78 = .ok (.aload_n 0, 1) := by decide +kernel
theorem dX6_weakest_79 : decode cX6_weakest 79 = .ok (.iload 8, 2) := by decide +kernel
theorem dX6_weakest_81 : decode cX6_weakest 81 = .ok (.iload 5, 2) := by decide +kernel
theorem dX6_weakest_83 : decode cX6_weakest 83 = .ok (.invokevirtual 211, 3) := by decide +kernel
theorem dX6_weakest_86 : decode cX6_weakest 86 = .ok (.ifCond .eq 15, 3) := by decide +kernel
theorem dX6_weakest_89 : decode cX6_weakest 89 = .ok (.aload_n 0, 1) := by decide +kernel
theorem dX6_weakest_90 : decode cX6_weakest 90 = .ok (.iload_n 1, 1) := by decide +kernel
theorem dX6_weakest_91 : decode cX6_weakest 91 = .ok (.iload_n 2, 1) := by decide +kernel
theorem dX6_weakest_92 : decode cX6_weakest 92 = .ok (.iload_n 3, 1) := by decide +kernel
theorem dX6_weakest_93 : decode cX6_weakest 93 = .ok (.iload 8, 2) := by decide +kernel
theorem dX6_weakest_95 : decode cX6_weakest 95 = .ok (.invokevirtual 207, 3) := by decide +kernel
theorem dX6_weakest_98 : decode cX6_weakest 98 = .ok (.goto 4, 3) := by decide +kernel
theorem dX6_weakest_101 : decode cX6_weakest 101 = .ok (.iconst (-1), 1) := by decide +kernel
theorem dX6_weakest_102 : decode cX6_weakest 102 = .ok (.istore 9, 2) := by decide +kernel
theorem dX6_weakest_104 : decode cX6_weakest 104 = .ok (.iload 9, 2) := by decide +kernel
theorem dX6_weakest_106 : decode cX6_weakest 106 = .ok (.iload 7, 2) := by decide +kernel
theorem dX6_weakest_108 : decode cX6_weakest 108 = .ok (.if_icmp .le 11, 3) := by decide +kernel
theorem dX6_weakest_111 : decode cX6_weakest 111 = .ok (.iload 9, 2) := by decide +kernel
theorem dX6_weakest_113 : decode cX6_weakest 113 = .ok (.istore 7, 2) := by decide +kernel
theorem dX6_weakest_115 : decode cX6_weakest 115 = .ok (.iload 8, 2) := by decide +kernel
theorem dX6_weakest_117 : decode cX6_weakest 117 = .ok (.istore 6, 2) := by decide +kernel
theorem dX6_weakest_119 : decode cX6_weakest 119 = .ok (.iinc 8 1, 3) := by decide +kernel
theorem dX6_weakest_122 : decode cX6_weakest 122 = .ok (.goto (-56), 3) := by decide +kernel
theorem dX6_weakest_125 : decode cX6_weakest 125 = .ok (.aload_n 0, 1) := by decide +kernel
theorem dX6_weakest_126 : decode cX6_weakest 126 = .ok (.iload 6, 2) := by decide +kernel
theorem dX6_weakest_128 : decode cX6_weakest 128 = .ok (.invokevirtual 176, 3) := by decide +kernel
theorem dX6_weakest_131 : decode cX6_weakest 131 = .ok (.ireturn, 1) := by decide +kernel
theorem dX6_stand_0 : decode cX6_stand 0 = .ok (.aload_n 0, 1) := by decide +kernel
theorem dX6_stand_1 : decode cX6_stand 1 = .ok (.iload_n 1, 1) := by decide +kernel
theorem dX6_stand_2 : decode cX6_stand 2 = .ok (.invokevirtual 154, 3) := by decide +kernel
theorem dX6_stand_5 : decode cX6_stand 5 = .ok (.ifCond .ne 10, 3) := by decide +kernel
theorem dX6_stand_8 : decode cX6_stand 8 = .ok (.aload_n 0, 1) := by decide +kernel
theorem dX6_stand_9 : decode cX6_stand 9 = .ok (.bipush 6, 2) := by decide +kernel
theorem dX6_stand_11 : decode cX6_stand 11 = .ok (.invokevirtual 66, 3) := by decide +kernel
theorem dX6_stand_14 : decode cX6_stand 14 = .ok (.ireturn, 1) := by decide +kernel
theorem dX6_stand_15 : decode cX6_stand 15 = .ok (.aload_n 0, 1) := by decide +kernel
theorem dX6_stand_16 : decode cX6_stand 16 = .ok (.getfield 35, 3) := by decide +kernel
theorem dX6_stand_19 : decode cX6_stand 19 = .ok (.iload_n 1, 1) := by decide +kernel
theorem dX6_stand_20 : decode cX6_stand 20 = .ok (.invokevirtual 157, 3) := by decide +kernel
theorem dX6_stand_23 : decode cX6_stand 23 = .ok (.aload_n 0, 1) := by decide +kernel
theorem dX6_stand_24 : decode cX6_stand 24 = .ok (.aload_n 0, 1) := by decide +kernel
theorem dX6_stand_25 : decode cX6_stand 25 = .ok (.getfield 35, 3) := by decide +kernel
theorem dX6_stand_28 : decode cX6_stand 28 = .ok (.getfield 214, 3) := by decide +kernel
theorem dX6_stand_31 : decode cX6_stand 31 = .ok (.invokevirtual 77, 3) := by decide +kernel
theorem dX6_stand_34 : decode cX6_stand 34 = .ok (.ireturn, 1) := by decide +kernel
theorem dX6_answer_0 : decode cX6_answer 0 = .ok (.aload_n 0, 1) := by decide +kernel
theorem dX6_answer_1 : decode cX6_answer 1 = .ok (.iconst 0, 1) := by decide +kernel
theorem dX6_answer_2 : decode cX6_answer 2 = .ok (.putfield 59, 3) := by decide +kernel
theorem dX6_answer_5 : decode cX6_answer 5 = .ok (.iload_n 1, 1) := by decide +kernel
theorem dX6_answer_6 : decode cX6_answer 6 = .ok (.ireturn, 1) := by decide +kernel
theorem dX6_refuse_0 : decode cX6_refuse 0 = .ok (.aload_n 0, 1) := by decide +kernel
theorem dX6_refuse_1 : decode cX6_refuse 1 = .ok (.iload_n 1, 1) := by decide +kernel
theorem dX6_refuse_2 : decode cX6_refuse 2 = .ok (.putfield 59, 3) := by decide +kernel
theorem dX6_refuse_5 : decode cX6_refuse 5 = .ok (.iconst (-1), 1) := by decide +kernel
theorem dX6_refuse_6 : decode cX6_refuse 6 = .ok (.ireturn, 1) := by decide +kernel
theorem dX6_answerOfWay_0 : decode cX6_answerOfWay 0 = .ok (.iload_n 1, 1) := by decide +kernel
theorem dX6_answerOfWay_1 : decode cX6_answerOfWay 1 = .ok (.iconst (-1), 1) := by decide +kernel
theorem dX6_answerOfWay_2 : decode cX6_answerOfWay 2 = .ok (.if_icmp .ne 11, 3) := by decide +kernel
theorem dX6_answerOfWay_5 : decode cX6_answerOfWay 5 = .ok (.aload_n 0, 1) := by decide +kernel
theorem dX6_answerOfWay_6 : decode cX6_answerOfWay 6 = .ok (.iconst 5, 1) := by decide +kernel
theorem dX6_answerOfWay_7 : decode cX6_answerOfWay 7 = .ok (.invokevirtual 66, 3) := by decide +kernel
theorem dX6_answerOfWay_10 : decode cX6_answerOfWay 10 = .ok (.goto 8, 3) := by decide +kernel
theorem dX6_answerOfWay_13 : decode cX6_answerOfWay 13 = .ok (.aload_n 0, 1) := by decide +kernel
theorem dX6_answerOfWay_14 : decode cX6_answerOfWay 14 = .ok (.iload_n 1, 1) := by decide +kernel
theorem dX6_answerOfWay_15 : decode cX6_answerOfWay 15 = .ok (.invokevirtual 77, 3) := by decide +kernel
theorem dX6_answerOfWay_18 : decode cX6_answerOfWay 18 = .ok (.ireturn, 1) := by decide +kernel
theorem dX6_agree_0 : decode cX6_agree 0 = .ok (.aload_n 0, 1) := by decide +kernel
theorem dX6_agree_1 : decode cX6_agree 1 = .ok (.iconst 0, 1) := by decide +kernel
theorem dX6_agree_2 : decode cX6_agree 2 = .ok (.putfield 59, 3) := by decide +kernel
theorem dX6_agree_5 : decode cX6_agree 5 = .ok (.iconst 1, 1) := by decide +kernel
theorem dX6_agree_6 : decode cX6_agree 6 = .ok (.ireturn, 1) := by decide +kernel
theorem dX6_deny_0 : decode cX6_deny 0 = .ok (.aload_n 0, 1) := by decide +kernel
theorem dX6_deny_1 : decode cX6_deny 1 = .ok (.iload_n 1, 1) := by decide +kernel
theorem dX6_deny_2 : decode cX6_deny 2 = .ok (.putfield 59, 3) := by decide +kernel
theorem dX6_deny_5 : decode cX6_deny 5 = .ok (.iconst 0, 1) := by decide +kernel
theorem dX6_deny_6 : decode cX6_deny 6 = .ok (.ireturn, 1) := by decide +kernel
theorem dX6_explore_0 : decode cX6_explore 0 = .ok (.aload_n 0, 1) := by decide +kernel
theorem dX6_explore_1 : decode cX6_explore 1 = .ok (.getfield 35, 3) := by decide +kernel
theorem dX6_explore_4 : decode cX6_explore 4 = .ok (.iload_n 3, 1) := by decide +kernel
theorem dX6_explore_5 : decode cX6_explore 5 = .ok (.invokevirtual 157, 3) := by decide +kernel
theorem dX6_explore_8 : decode cX6_explore 8 = .ok (.aload_n 0, 1) := by decide +kernel
theorem dX6_explore_9 : decode cX6_explore 9 = .ok (.getfield 44, 3) := by decide +kernel
theorem dX6_explore_12 : decode cX6_explore 12 = .ok (.iload_n 1, 1) := by decide +kernel
theorem dX6_explore_13 : decode cX6_explore 13 = .ok (.iload_n 2, 1) := by decide +kernel
theorem dX6_explore_14 : decode cX6_explore 14 = .ok (.iconst (-1), 1) := by decide +kernel
theorem dX6_explore_15 : decode cX6_explore 15 = .ok (.iload 4, 2) := by decide +kernel
theorem dX6_explore_17 : decode cX6_explore 17 = .ok (.invokevirtual 215, 3) := by decide +kernel
theorem dX6_explore_20 : decode cX6_explore 20 = .ok (.return_, 1) := by decide +kernel
theorem dX6_isFound_0 : decode cX6_isFound 0 = .ok (.iload_n 1, 1) := by decide +kernel
theorem dX6_isFound_1 : decode cX6_isFound 1 = .ok (.iload_n 2, 1) := by decide +kernel
theorem dX6_isFound_2 : decode cX6_isFound 2 = .ok (.if_icmp .eq 15, 3) := by decide +kernel
theorem dX6_isFound_5 : decode cX6_isFound 5 = .ok (.aload_n 0, 1) := by decide +kernel
theorem dX6_isFound_6 : decode cX6_isFound 6 = .ok (.getfield 44, 3) := by decide +kernel
theorem dX6_isFound_9 : decode cX6_isFound 9 = .ok (.iload_n 2, 1) := by decide +kernel
theorem dX6_isFound_10 : decode cX6_isFound 10 = .ok (.iload_n 3, 1) := by decide +kernel
theorem dX6_isFound_11 : decode cX6_isFound 11 = .ok (.invokevirtual 218, 3) := by decide +kernel
theorem dX6_isFound_14 : decode cX6_isFound 14 = .ok (.ifCond .eq 7, 3) := by decide +kernel
theorem dX6_isFound_17 : decode cX6_isFound 17 = .ok (.iconst 1, 1) := by decide +kernel
theorem dX6_isFound_18 : decode cX6_isFound 18 = .ok (.goto 4, 3) := by decide +kernel
theorem dX6_isFound_21 : decode cX6_isFound 21 = .ok (.iconst 0, 1) := by decide +kernel
theorem dX6_isFound_22 : decode cX6_isFound 22 = .ok (.ireturn, 1) := by decide +kernel
theorem dX6_comingWithout_0 : decode cX6_comingWithout 0 = .ok (.aload_n 0, 1) := by decide +kernel
theorem dX6_comingWithout_1 : decode cX6_comingWithout 1 = .ok (.getfield 35, 3) := by decide +kernel
theorem dX6_comingWithout_4 : decode cX6_comingWithout 4 = .ok (.aload_n 0, 1) := by decide +kernel
theorem dX6_comingWithout_5 : decode cX6_comingWithout 5 = .ok (.getfield 26, 3) := by decide +kernel
theorem dX6_comingWithout_8 : decode cX6_comingWithout 8 = .ok (.getfield 137, 3) := by decide +kernel
theorem dX6_comingWithout_11 : decode cX6_comingWithout 11 = .ok (.invokevirtual 157, 3) := by decide +kernel
theorem dX6_comingWithout_14 : decode cX6_comingWithout 14 = .ok (.aload_n 0, 1) := by decide +kernel
theorem dX6_comingWithout_15 : decode cX6_comingWithout 15 = .ok (.getfield 44, 3) := by decide +kernel
theorem dX6_comingWithout_18 : decode cX6_comingWithout 18 = .ok (.iload_n 1, 1) := by decide +kernel
theorem dX6_comingWithout_19 : decode cX6_comingWithout 19 = .ok (.iload_n 3, 1) := by decide +kernel
theorem dX6_comingWithout_20 : decode cX6_comingWithout 20 = .ok (.iload 4, 2) := by decide +kernel
theorem dX6_comingWithout_22 : decode cX6_comingWithout 22 = .ok (.iconst 0, 1) := by decide +kernel
theorem dX6_comingWithout_23 : decode cX6_comingWithout 23 = .ok (.invokevirtual 215, 3) := by decide +kernel
theorem dX6_comingWithout_26 : decode cX6_comingWithout 26 = .ok (.aload_n 0, 1) := by decide +kernel
theorem dX6_comingWithout_27 : decode cX6_comingWithout 27 = .ok (.getfield 44, 3) := by decide +kernel
theorem dX6_comingWithout_30 : decode cX6_comingWithout 30 = .ok (.iload_n 2, 1) := by decide +kernel
theorem dX6_comingWithout_31 : decode cX6_comingWithout 31 = .ok (.invokevirtual 173, 3) := by decide +kernel
theorem dX6_comingWithout_34 : decode cX6_comingWithout 34 = .ok (.istore 5, 2) := by decide +kernel
theorem dX6_comingWithout_36 : decode cX6_comingWithout 36 = .ok (.iload 5, 2) := by decide +kernel
theorem dX6_comingWithout_38 : decode cX6_comingWithout 38 = .ok (.iconst (-1), 1) := by decide +kernel
theorem dX6_comingWithout_39 : decode cX6_comingWithout 39 = .ok (.if_icmp .ne 9, 3) := by decide +kernel
theorem dX6_comingWithout_42 : decode cX6_comingWithout 42 = .ok (.sipush 5001, 3) := by decide +kernel
theorem dX6_comingWithout_45 : decode cX6_comingWithout 45 = .ok (.goto 5, 3) := by decide +kernel
theorem dX6_comingWithout_48 : decode cX6_comingWithout 48 = .ok (.iload 5, 2) := by decide +kernel
theorem dX6_comingWithout_50 : decode cX6_comingWithout 50 = .ok (.ireturn, 1) := by decide +kernel
theorem dX6_isInSpareRow_0 : decode cX6_isInSpareRow 0 = .ok (.iconst 0, 1) := by decide +kernel
theorem dX6_isInSpareRow_1 : decode cX6_isInSpareRow 1 = .ok (.istore_n 3, 1) := by decide +kernel
theorem dX6_isInSpareRow_2 : decode cX6_isInSpareRow 2 = .ok (.iload_n 3, 1) := by decide +kernel
theorem dX6_isInSpareRow_3 : decode cX6_isInSpareRow 3 = .ok (.iload_n 2, 1) := by decide +kernel
theorem dX6_isInSpareRow_4 : decode cX6_isInSpareRow 4 = .ok (.if_icmp .ge 23, 3) := by decide +kernel
theorem dX6_isInSpareRow_7 : decode cX6_isInSpareRow 7 = .ok (.aload_n 0, 1) := by decide +kernel
theorem dX6_isInSpareRow_8 : decode cX6_isInSpareRow 8 = .ok (.getfield 52, 3) := by decide +kernel
theorem dX6_isInSpareRow_11 : decode cX6_isInSpareRow 11 = .ok (.iconst 2, 1) := by decide +kernel
theorem dX6_isInSpareRow_12 : decode cX6_isInSpareRow 12 = .ok (.iload_n 3, 1) := by decide +kernel
theorem dX6_isInSpareRow_13 : decode cX6_isInSpareRow 13 = .ok (.imul, 1) := by decide +kernel
theorem dX6_isInSpareRow_14 : decode cX6_isInSpareRow 14 = .ok (.iaload, 1) := by decide +kernel
theorem dX6_isInSpareRow_15 : decode cX6_isInSpareRow 15 = .ok (.iload_n 1, 1) := by decide +kernel
theorem dX6_isInSpareRow_16 : decode cX6_isInSpareRow 16 = .ok (.if_icmp .ne 5, 3) := by decide +kernel
theorem dX6_isInSpareRow_19 : decode cX6_isInSpareRow 19 = .ok (.iconst 1, 1) := by decide +kernel
theorem dX6_isInSpareRow_20 : decode cX6_isInSpareRow 20 = .ok (.ireturn, 1) := by decide +kernel
theorem dX6_isInSpareRow_21 : decode cX6_isInSpareRow 21 = .ok (.iinc 3 1, 3) := by decide +kernel
theorem dX6_isInSpareRow_24 : decode cX6_isInSpareRow 24 = .ok (.goto (-22), 3) := by decide +kernel
theorem dX6_isInSpareRow_27 : decode cX6_isInSpareRow 27 = .ok (.iconst 0, 1) := by decide +kernel
theorem dX6_isInSpareRow_28 : decode cX6_isInSpareRow 28 = .ok (.ireturn, 1) := by decide +kernel
theorem dX6_wayFault_0 : decode cX6_wayFault 0 = .ok (.aload_n 0, 1) := by decide +kernel
theorem dX6_wayFault_1 : decode cX6_wayFault 1 = .ok (.iload_n 1, 1) := by decide +kernel
theorem dX6_wayFault_2 : decode cX6_wayFault 2 = .ok (.iload_n 2, 1) := by decide +kernel
theorem dX6_wayFault_3 : decode cX6_wayFault 3 = .ok (.invokevirtual 95, 3) := by decide +kernel
theorem dX6_wayFault_6 : decode cX6_wayFault 6 = .ok (.ifCond .eq 17, 3) := by decide +kernel
theorem dX6_wayFault_9 : decode cX6_wayFault 9 = .ok (.aload_n 0, 1) := by decide +kernel
theorem dX6_wayFault_10 : decode cX6_wayFault 10 = .ok (.iload_n 1, 1) := by decide +kernel
theorem dX6_wayFault_11 : decode cX6_wayFault 11 = .ok (.iload_n 2, 1) := by decide +kernel
theorem dX6_wayFault_12 : decode cX6_wayFault 12 = .ok (.iload_n 3, 1) := by decide +kernel
theorem dX6_wayFault_13 : decode cX6_wayFault 13 = .ok (.iload 4, 2) := by decide +kernel
theorem dX6_wayFault_15 : decode cX6_wayFault 15 = .ok (.iload 5, 2) := by decide +kernel
theorem dX6_wayFault_17 : decode cX6_wayFault 17 = .ok (.invokevirtual 201, 3) := by decide +kernel
theorem dX6_wayFault_20 : decode cX6_wayFault 20 = .ok (.goto 4, 3) := by decide +kernel
theorem dX6_wayFault_23 : decode cX6_wayFault 23 = .ok (.iconst 1, 1) := by decide +kernel
theorem dX6_wayFault_24 : decode cX6_wayFault 24 = .ok (.ireturn, 1) := by decide +kernel
theorem dX6_reachFault_0 : decode cX6_reachFault 0 = .ok (.aload_n 0, 1) := by decide +kernel
theorem dX6_reachFault_1 : decode cX6_reachFault 1 = .ok (.iload_n 1, 1) := by decide +kernel
theorem dX6_reachFault_2 : decode cX6_reachFault 2 = .ok (.invokevirtual 80, 3) := by decide +kernel
theorem dX6_reachFault_5 : decode cX6_reachFault 5 = .ok (.ifCond .eq 11, 3) := by decide +kernel
theorem dX6_reachFault_8 : decode cX6_reachFault 8 = .ok (.aload_n 0, 1) := by decide +kernel
theorem dX6_reachFault_9 : decode cX6_reachFault 9 = .ok (.iload_n 2, 1) := by decide +kernel
theorem dX6_reachFault_10 : decode cX6_reachFault 10 = .ok (.invokevirtual 80, 3) := by decide +kernel
theorem dX6_reachFault_13 : decode cX6_reachFault 13 = .ok (.ifCond .ne 5, 3) := by decide +kernel
theorem dX6_reachFault_16 : decode cX6_reachFault 16 = .ok (.iconst 1, 1) := by decide +kernel
theorem dX6_reachFault_17 : decode cX6_reachFault 17 = .ok (.ireturn, 1) := by decide +kernel
theorem dX6_reachFault_18 : decode cX6_reachFault 18 = .ok (.iload_n 3, 1) := by decide +kernel
theorem dX6_reachFault_19 : decode cX6_reachFault 19 = .ok (.invokestatic 131, 3) := by decide +kernel
theorem dX6_reachFault_22 : decode cX6_reachFault 22 = .ok (.ifCond .eq 11, 3) := by decide +kernel
theorem dX6_reachFault_25 : decode cX6_reachFault 25 = .ok (.iload 4, 2) := by decide +kernel
theorem dX6_reachFault_27 : decode cX6_reachFault 27 = .ok (.invokestatic 131, 3) := by decide +kernel
theorem dX6_reachFault_30 : decode cX6_reachFault 30 = .ok (.ifCond .ne 5, 3) := by decide +kernel
theorem dX6_reachFault_33 : decode cX6_reachFault 33 = .ok (.iconst 2, 1) := by decide +kernel
theorem dX6_reachFault_34 : decode cX6_reachFault 34 = .ok (.ireturn, 1) := by decide +kernel
theorem dX6_reachFault_35 : decode cX6_reachFault 35 = .ok (.aload_n 0, 1) := by decide +kernel
theorem dX6_reachFault_36 : decode cX6_reachFault 36 = .ok (.iload 5, 2) := by decide +kernel
theorem dX6_reachFault_38 : decode cX6_reachFault 38 = .ok (.invokevirtual 154, 3) := by decide +kernel
theorem dX6_reachFault_41 : decode cX6_reachFault 41 = .ok (.ifCond .eq 7, 3) := by decide +kernel
theorem dX6_reachFault_44 : decode cX6_reachFault 44 = .ok (.iconst 0, 1) := by decide +kernel
theorem dX6_reachFault_45 : decode cX6_reachFault 45 = .ok (.goto 5, 3) := by decide +kernel
theorem dX6_reachFault_48 : decode cX6_reachFault 48 = .ok (.bipush 6, 2) := by decide +kernel
theorem dX6_reachFault_50 : decode cX6_reachFault 50 = .ok (.ireturn, 1) := by decide +kernel
theorem dX6_isNode_0 : decode cX6_isNode 0 = .ok (.iload_n 1, 1) := by decide +kernel
theorem dX6_isNode_1 : decode cX6_isNode 1 = .ok (.iconst 0, 1) := by decide +kernel
theorem dX6_isNode_2 : decode cX6_isNode 2 = .ok (.aload_n 0, 1) := by decide +kernel
theorem dX6_isNode_3 : decode cX6_isNode 3 = .ok (.getfield 12, 3) := by decide +kernel
theorem dX6_isNode_6 : decode cX6_isNode 6 = .ok (.getfield 70, 3) := by decide +kernel
theorem dX6_isNode_9 : decode cX6_isNode 9 = .ok (.iconst 1, 1) := by decide +kernel
theorem dX6_isNode_10 : decode cX6_isNode 10 = .ok (.isub, 1) := by decide +kernel
theorem dX6_isNode_11 : decode cX6_isNode 11 = .ok (.invokestatic 98, 3) := by decide +kernel
theorem dX6_isNode_14 : decode cX6_isNode 14 = .ok (.ireturn, 1) := by decide +kernel
theorem dX6_areEnds_0 : decode cX6_areEnds 0 = .ok (.aload_n 0, 1) := by decide +kernel
theorem dX6_areEnds_1 : decode cX6_areEnds 1 = .ok (.iload_n 1, 1) := by decide +kernel
theorem dX6_areEnds_2 : decode cX6_areEnds 2 = .ok (.invokevirtual 80, 3) := by decide +kernel
theorem dX6_areEnds_5 : decode cX6_areEnds 5 = .ok (.ifCond .eq 20, 3) := by decide +kernel
theorem dX6_areEnds_8 : decode cX6_areEnds 8 = .ok (.aload_n 0, 1) := by decide +kernel
theorem dX6_areEnds_9 : decode cX6_areEnds 9 = .ok (.iload_n 2, 1) := by decide +kernel
theorem dX6_areEnds_10 : decode cX6_areEnds 10 = .ok (.invokevirtual 80, 3) := by decide +kernel
theorem dX6_areEnds_13 : decode cX6_areEnds 13 = .ok (.ifCond .eq 12, 3) := by decide +kernel
theorem dX6_areEnds_16 : decode cX6_areEnds 16 = .ok (.iload_n 1, 1) := by decide +kernel
theorem dX6_areEnds_17 : decode cX6_areEnds 17 = .ok (.iload_n 2, 1) := by decide +kernel
theorem dX6_areEnds_18 : decode cX6_areEnds 18 = .ok (.if_icmp .eq 7, 3) := by decide +kernel
theorem dX6_areEnds_21 : decode cX6_areEnds 21 = .ok (.iconst 1, 1) := by decide +kernel
theorem dX6_areEnds_22 : decode cX6_areEnds 22 = .ok (.goto 4, 3) := by decide +kernel
theorem dX6_areEnds_25 : decode cX6_areEnds 25 = .ok (.iconst 0, 1) := by decide +kernel
theorem dX6_areEnds_26 : decode cX6_areEnds 26 = .ok (.ireturn, 1) := by decide +kernel
theorem dX6_isLine_0 : decode cX6_isLine 0 = .ok (.iload_n 1, 1) := by decide +kernel
theorem dX6_isLine_1 : decode cX6_isLine 1 = .ok (.iconst 0, 1) := by decide +kernel
theorem dX6_isLine_2 : decode cX6_isLine 2 = .ok (.aload_n 0, 1) := by decide +kernel
theorem dX6_isLine_3 : decode cX6_isLine 3 = .ok (.getfield 19, 3) := by decide +kernel
theorem dX6_isLine_6 : decode cX6_isLine 6 = .ok (.getfield 105, 3) := by decide +kernel
theorem dX6_isLine_9 : decode cX6_isLine 9 = .ok (.iconst 1, 1) := by decide +kernel
theorem dX6_isLine_10 : decode cX6_isLine 10 = .ok (.isub, 1) := by decide +kernel
theorem dX6_isLine_11 : decode cX6_isLine 11 = .ok (.invokestatic 98, 3) := by decide +kernel
theorem dX6_isLine_14 : decode cX6_isLine 14 = .ok (.ireturn, 1) := by decide +kernel
theorem dX6_isChange_0 : decode cX6_isChange 0 = .ok (.iload_n 1, 1) := by decide +kernel
theorem dX6_isChange_1 : decode cX6_isChange 1 = .ok (.iconst 0, 1) := by decide +kernel
theorem dX6_isChange_2 : decode cX6_isChange 2 = .ok (.aload_n 0, 1) := by decide +kernel
theorem dX6_isChange_3 : decode cX6_isChange 3 = .ok (.getfield 26, 3) := by decide +kernel
theorem dX6_isChange_6 : decode cX6_isChange 6 = .ok (.getfield 137, 3) := by decide +kernel
theorem dX6_isChange_9 : decode cX6_isChange 9 = .ok (.invokestatic 98, 3) := by decide +kernel
theorem dX6_isChange_12 : decode cX6_isChange 12 = .ok (.ireturn, 1) := by decide +kernel
theorem dX6_isBetween_0 : decode cX6_isBetween 0 = .ok (.iload_n 0, 1) := by decide +kernel
theorem dX6_isBetween_1 : decode cX6_isBetween 1 = .ok (.iload_n 1, 1) := by decide +kernel
theorem dX6_isBetween_2 : decode cX6_isBetween 2 = .ok (.if_icmp .lt 12, 3) := by decide +kernel
theorem dX6_isBetween_5 : decode cX6_isBetween 5 = .ok (.iload_n 0, 1) := by decide +kernel
theorem dX6_isBetween_6 : decode cX6_isBetween 6 = .ok (.iload_n 2, 1) := by decide +kernel
theorem dX6_isBetween_7 : decode cX6_isBetween 7 = .ok (.if_icmp .gt 7, 3) := by decide +kernel
theorem dX6_isBetween_10 : decode cX6_isBetween 10 = .ok (.iconst 1, 1) := by decide +kernel
theorem dX6_isBetween_11 : decode cX6_isBetween 11 = .ok (.goto 4, 3) := by decide +kernel
theorem dX6_isBetween_14 : decode cX6_isBetween 14 = .ok (.iconst 0, 1) := by decide +kernel
theorem dX6_isBetween_15 : decode cX6_isBetween 15 = .ok (.ireturn, 1) := by decide +kernel
theorem dX6_isTick_0 : decode cX6_isTick 0 = .ok (.iload_n 0, 1) := by decide +kernel
theorem dX6_isTick_1 : decode cX6_isTick 1 = .ok (.iconst 0, 1) := by decide +kernel
theorem dX6_isTick_2 : decode cX6_isTick 2 = .ok (.sipush 5000, 3) := by decide +kernel
theorem dX6_isTick_5 : decode cX6_isTick 5 = .ok (.invokestatic 98, 3) := by decide +kernel
theorem dX6_isTick_8 : decode cX6_isTick 8 = .ok (.ireturn, 1) := by decide +kernel
theorem dX6_areWaits_0 : decode cX6_areWaits 0 = .ok (.iload_n 0, 1) := by decide +kernel
theorem dX6_areWaits_1 : decode cX6_areWaits 1 = .ok (.iconst 0, 1) := by decide +kernel
theorem dX6_areWaits_2 : decode cX6_areWaits 2 = .ok (.sipush 200, 3) := by decide +kernel
theorem dX6_areWaits_5 : decode cX6_areWaits 5 = .ok (.invokestatic 98, 3) := by decide +kernel
theorem dX6_areWaits_8 : decode cX6_areWaits 8 = .ok (.ifCond .eq 23, 3) := by decide +kernel
theorem dX6_areWaits_11 : decode cX6_areWaits 11 = .ok (.iload_n 1, 1) := by decide +kernel
theorem dX6_areWaits_12 : decode cX6_areWaits 12 = .ok (.iconst (-1), 1) := by decide +kernel
theorem dX6_areWaits_13 : decode cX6_areWaits 13 = .ok (.if_icmp .eq 14, 3) := by decide +kernel
theorem dX6_areWaits_16 : decode cX6_areWaits 16 = .ok (.iload_n 1, 1) := by decide +kernel
theorem dX6_areWaits_17 : decode cX6_areWaits 17 = .ok (.iload_n 0, 1) := by decide +kernel
theorem dX6_areWaits_18 : decode cX6_areWaits 18 = .ok (.sipush 5000, 3) := by decide +kernel
theorem dX6_areWaits_21 : decode cX6_areWaits 21 = .ok (.invokestatic 98, 3) := by decide +kernel
theorem dX6_areWaits_24 : decode cX6_areWaits 24 = .ok (.ifCond .eq 7, 3) := by decide +kernel
theorem dX6_areWaits_27 : decode cX6_areWaits 27 = .ok (.iconst 1, 1) := by decide +kernel
theorem dX6_areWaits_28 : decode cX6_areWaits 28 = .ok (.goto 4, 3) := by decide +kernel
theorem dX6_areWaits_31 : decode cX6_areWaits 31 = .ok (.iconst 0, 1) := by decide +kernel
theorem dX6_areWaits_32 : decode cX6_areWaits 32 = .ok (.ireturn, 1) := by decide +kernel
theorem dX6_isPlan_0 : decode cX6_isPlan 0 = .ok (.iload_n 0, 1) := by decide +kernel
theorem dX6_isPlan_1 : decode cX6_isPlan 1 = .ok (.ifCond .ne 5, 3) := by decide +kernel
theorem dX6_isPlan_4 : decode cX6_isPlan 4 = .ok (.iconst 1, 1) := by decide +kernel
theorem dX6_isPlan_5 : decode cX6_isPlan 5 = .ok (.ireturn, 1) := by decide +kernel
theorem dX6_isPlan_6 : decode cX6_isPlan 6 = .ok (.iload_n 0, 1) := by decide +kernel
theorem dX6_isPlan_7 : decode cX6_isPlan 7 = .ok (.iconst 1, 1) := by decide +kernel
theorem dX6_isPlan_8 : decode cX6_isPlan 8 = .ok (.if_icmp .eq 10, 3) := by decide +kernel
theorem dX6_isPlan_11 : decode cX6_isPlan 11 = .ok (.iload_n 0, 1) := by decide +kernel
theorem dX6_isPlan_12 : decode cX6_isPlan 12 = .ok (.iconst 2, 1) := by decide +kernel
theorem dX6_isPlan_13 : decode cX6_isPlan 13 = .ok (.if_icmp .eq 5, 3) := by decide +kernel
theorem dX6_isPlan_16 : decode cX6_isPlan 16 = .ok (.iconst 0, 1) := by decide +kernel
theorem dX6_isPlan_17 : decode cX6_isPlan 17 = .ok (.ireturn, 1) := by decide +kernel
theorem dX6_isPlan_18 : decode cX6_isPlan 18 = .ok (.iload_n 1, 1) := by decide +kernel
theorem dX6_isPlan_19 : decode cX6_isPlan 19 = .ok (.iconst 2, 1) := by decide +kernel
theorem dX6_isPlan_20 : decode cX6_isPlan 20 = .ok (.bipush 60, 2) := by decide +kernel
theorem dX6_isPlan_22 : decode cX6_isPlan 22 = .ok (.invokestatic 98, 3) := by decide +kernel
theorem dX6_isPlan_25 : decode cX6_isPlan 25 = .ok (.ifCond .eq 23, 3) := by decide +kernel
theorem dX6_isPlan_28 : decode cX6_isPlan 28 = .ok (.iload_n 0, 1) := by decide +kernel
theorem dX6_isPlan_29 : decode cX6_isPlan 29 = .ok (.iconst 2, 1) := by decide +kernel
theorem dX6_isPlan_30 : decode cX6_isPlan 30 = .ok (.if_icmp .eq 14, 3) := by decide +kernel
theorem dX6_isPlan_33 : decode cX6_isPlan 33 = .ok (.iload_n 2, 1) := by decide +kernel
theorem dX6_isPlan_34 : decode cX6_isPlan 34 = .ok (.iconst 1, 1) := by decide +kernel
theorem dX6_isPlan_35 : decode cX6_isPlan 35 = .ok (.sipush 500, 3) := by decide +kernel
theorem dX6_isPlan_38 : decode cX6_isPlan 38 = .ok (.invokestatic 98, 3) := by decide +kernel
theorem dX6_isPlan_41 : decode cX6_isPlan 41 = .ok (.ifCond .eq 7, 3) := by decide +kernel
theorem dX6_isPlan_44 : decode cX6_isPlan 44 = .ok (.iconst 1, 1) := by decide +kernel
theorem dX6_isPlan_45 : decode cX6_isPlan 45 = .ok (.goto 4, 3) := by decide +kernel
theorem dX6_isPlan_48 : decode cX6_isPlan 48 = .ok (.iconst 0, 1) := by decide +kernel
theorem dX6_isPlan_49 : decode cX6_isPlan 49 = .ok (.ireturn, 1) := by decide +kernel
