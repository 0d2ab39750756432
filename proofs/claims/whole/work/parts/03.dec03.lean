theorem dX9_isOpening_20 : decode cX9_isOpening 20 = .ok (.irem, 1) := by decide +kernel
theorem dX9_isOpening_21 : decode cX9_isOpening 21 = .ok (.if_icmp .ge 7, 3) := by decide +kernel
theorem dX9_isOpening_24 : decode cX9_isOpening 24 = .ok (.iconst 1, 1) := by decide +kernel
theorem dX9_isOpening_25 : decode cX9_isOpening 25 = .ok (.goto 4, 3) := by decide +kernel
theorem dX9_isOpening_28 : decode cX9_isOpening 28 = .ok (.iconst 0, 1) := by decide +kernel
theorem dX9_isOpening_29 : decode cX9_isOpening 29 = .ok (.ireturn, 1) := by decide +kernel
theorem dX9_isClock_0 : decode cX9_isClock 0 = .ok (.iload_n 0, 1) := by decide +kernel
theorem dX9_isClock_1 : decode cX9_isClock 1 = .ok (.ifCond .lt 13, 3) := by decide +kernel
theorem dX9_isClock_4 : decode cX9_isClock 4 = .ok (.iload_n 0, 1) := by decide +kernel
theorem dX9_isClock_5 : decode cX9_isClock 5 = .ok (.bipush 24, 2) := by decide +kernel
theorem dX9_isClock_7 : decode cX9_isClock 7 = .ok (.if_icmp .ge 7, 3) := by decide +kernel
theorem dX9_isClock_10 : decode cX9_isClock 10 = .ok (.iconst 1, 1) := by decide +kernel
theorem dX9_isClock_11 : decode cX9_isClock 11 = .ok (.goto 4, 3) := by decide +kernel
theorem dX9_isClock_14 : decode cX9_isClock 14 = .ok (.iconst 0, 1) := by decide +kernel
theorem dX9_isClock_15 : decode cX9_isClock 15 = .ok (.ireturn, 1) := by decide +kernel
theorem dX9_isHour_0 : decode cX9_isHour 0 = .ok (.iload_n 0, 1) := by decide +kernel
theorem dX9_isHour_1 : decode cX9_isHour 1 = .ok (.ifCond .lt 14, 3) := by decide +kernel
theorem dX9_isHour_4 : decode cX9_isHour 4 = .ok (.iload_n 0, 1) := by decide +kernel
theorem dX9_isHour_5 : decode cX9_isHour 5 = .ok (.sipush 9000, 3) := by decide +kernel
theorem dX9_isHour_8 : decode cX9_isHour 8 = .ok (.if_icmp .gt 7, 3) := by decide +kernel
theorem dX9_isHour_11 : decode cX9_isHour 11 = .ok (.iconst 1, 1) := by decide +kernel
theorem dX9_isHour_12 : decode cX9_isHour 12 = .ok (.goto 4, 3) := by decide +kernel
theorem dX9_isHour_15 : decode cX9_isHour 15 = .ok (.iconst 0, 1) := by decide +kernel
theorem dX9_isHour_16 : decode cX9_isHour 16 = .ok (.ireturn, 1) := by decide +kernel
theorem dX9_isPence_0 : decode cX9_isPence 0 = .ok (.iload_n 0, 1) := by decide +kernel
theorem dX9_isPence_1 : decode cX9_isPence 1 = .ok (.iconst 1, 1) := by decide +kernel
theorem dX9_isPence_2 : decode cX9_isPence 2 = .ok (.if_icmp .lt 14, 3) := by decide +kernel
theorem dX9_isPence_5 : decode cX9_isPence 5 = .ok (.iload_n 0, 1) := by decide +kernel
theorem dX9_isPence_6 : decode cX9_isPence 6 = .ok (.sipush 9999, 3) := by decide +kernel
theorem dX9_isPence_9 : decode cX9_isPence 9 = .ok (.if_icmp .gt 7, 3) := by decide +kernel
theorem dX9_isPence_12 : decode cX9_isPence 12 = .ok (.iconst 1, 1) := by decide +kernel
theorem dX9_isPence_13 : decode cX9_isPence 13 = .ok (.goto 4, 3) := by decide +kernel
theorem dX9_isPence_16 : decode cX9_isPence 16 = .ok (.iconst 0, 1) := by decide +kernel
theorem dX9_isPence_17 : decode cX9_isPence 17 = .ok (.ireturn, 1) := by decide +kernel
theorem dX9_isPart_0 : decode cX9_isPart 0 = .ok (.iload_n 0, 1) := by decide +kernel
theorem dX9_isPart_1 : decode cX9_isPart 1 = .ok (.ifCond .lt 14, 3) := by decide +kernel
theorem dX9_isPart_4 : decode cX9_isPart 4 = .ok (.iload_n 0, 1) := by decide +kernel
theorem dX9_isPart_5 : decode cX9_isPart 5 = .ok (.sipush 200, 3) := by decide +kernel
theorem dX9_isPart_8 : decode cX9_isPart 8 = .ok (.if_icmp .gt 7, 3) := by decide +kernel
theorem dX9_isPart_11 : decode cX9_isPart 11 = .ok (.iconst 1, 1) := by decide +kernel
theorem dX9_isPart_12 : decode cX9_isPart 12 = .ok (.goto 4, 3) := by decide +kernel
theorem dX9_isPart_15 : decode cX9_isPart 15 = .ok (.iconst 0, 1) := by decide +kernel
theorem dX9_isPart_16 : decode cX9_isPart 16 = .ok (.ireturn, 1) := by decide +kernel
theorem dX9_isUse_0 : decode cX9_isUse 0 = .ok (.iload_n 0, 1) := by decide +kernel
theorem dX9_isUse_1 : decode cX9_isUse 1 = .ok (.ifCond .lt 12, 3) := by decide +kernel
theorem dX9_isUse_4 : decode cX9_isUse 4 = .ok (.iload_n 0, 1) := by decide +kernel
theorem dX9_isUse_5 : decode cX9_isUse 5 = .ok (.iconst 4, 1) := by decide +kernel
theorem dX9_isUse_6 : decode cX9_isUse 6 = .ok (.if_icmp .ge 7, 3) := by decide +kernel
theorem dX9_isUse_9 : decode cX9_isUse 9 = .ok (.iconst 1, 1) := by decide +kernel
theorem dX9_isUse_10 : decode cX9_isUse 10 = .ok (.goto 4, 3) := by decide +kernel
theorem dX9_isUse_13 : decode cX9_isUse 13 = .ok (.iconst 0, 1) := by decide +kernel
theorem dX9_isUse_14 : decode cX9_isUse 14 = .ok (.ireturn, 1) := by decide +kernel
theorem dX9_isReach_0 : decode cX9_isReach 0 = .ok (.iload_n 0, 1) := by decide +kernel
theorem dX9_isReach_1 : decode cX9_isReach 1 = .ok (.ifCond .lt 13, 3) := by decide +kernel
theorem dX9_isReach_4 : decode cX9_isReach 4 = .ok (.iload_n 0, 1) := by decide +kernel
theorem dX9_isReach_5 : decode cX9_isReach 5 = .ok (.bipush 60, 2) := by decide +kernel
theorem dX9_isReach_7 : decode cX9_isReach 7 = .ok (.if_icmp .gt 7, 3) := by decide +kernel
theorem dX9_isReach_10 : decode cX9_isReach 10 = .ok (.iconst 1, 1) := by decide +kernel
theorem dX9_isReach_11 : decode cX9_isReach 11 = .ok (.goto 4, 3) := by decide +kernel
theorem dX9_isReach_14 : decode cX9_isReach 14 = .ok (.iconst 0, 1) := by decide +kernel
theorem dX9_isReach_15 : decode cX9_isReach 15 = .ok (.ireturn, 1) := by decide +kernel
theorem dX9_isSheet_0 : decode cX9_isSheet 0 = .ok (.iload_n 0, 1) := by decide +kernel
theorem dX9_isSheet_1 : decode cX9_isSheet 1 = .ok (.ifCond .lt 12, 3) := by decide +kernel
theorem dX9_isSheet_4 : decode cX9_isSheet 4 = .ok (.iload_n 0, 1) := by decide +kernel
theorem dX9_isSheet_5 : decode cX9_isSheet 5 = .ok (.iconst 4, 1) := by decide +kernel
theorem dX9_isSheet_6 : decode cX9_isSheet 6 = .ok (.if_icmp .ge 7, 3) := by decide +kernel
theorem dX9_isSheet_9 : decode cX9_isSheet 9 = .ok (.iconst 1, 1) := by decide +kernel
theorem dX9_isSheet_10 : decode cX9_isSheet 10 = .ok (.goto 4, 3) := by decide +kernel
theorem dX9_isSheet_13 : decode cX9_isSheet 13 = .ok (.iconst 0, 1) := by decide +kernel
theorem dX9_isSheet_14 : decode cX9_isSheet 14 = .ok (.ireturn, 1) := by decide +kernel
theorem dX9_isFriendly_0 : decode cX9_isFriendly 0 = .ok (.iload_n 0, 1) := by decide +kernel
theorem dX9_isFriendly_1 : decode cX9_isFriendly 1 = .ok (.bipush 24, 2) := by decide +kernel
theorem dX9_isFriendly_3 : decode cX9_isFriendly 3 = .ok (.irem, 1) := by decide +kernel
theorem dX9_isFriendly_4 : decode cX9_isFriendly 4 = .ok (.istore_n 1, 1) := by decide +kernel
theorem dX9_isFriendly_5 : decode cX9_isFriendly 5 = .ok (.iload_n 1, 1) := by decide +kernel
theorem dX9_isFriendly_6 : decode cX9_isFriendly 6 = .ok (.bipush 18, 2) := by decide +kernel
theorem dX9_isFriendly_8 : decode cX9_isFriendly 8 = .ok (.if_icmp .ge 20, 3) := by decide +kernel
theorem dX9_isFriendly_11 : decode cX9_isFriendly 11 = .ok (.iload_n 1, 1) := by decide +kernel
theorem dX9_isFriendly_12 : decode cX9_isFriendly 12 = .ok (.bipush 9, 2) := by decide +kernel
theorem dX9_isFriendly_14 : decode cX9_isFriendly 14 = .ok (.if_icmp .lt 14, 3) := by decide +kernel
theorem dX9_isFriendly_17 : decode cX9_isFriendly 17 = .ok (.iload_n 0, 1) := by decide +kernel
theorem dX9_isFriendly_18 : decode cX9_isFriendly 18 = .ok (.bipush 24, 2) := by decide +kernel
theorem dX9_isFriendly_20 : decode cX9_isFriendly 20 = .ok (.idiv, 1) := by decide +kernel
theorem dX9_isFriendly_21 : decode cX9_isFriendly 21 = .ok (.bipush 7, 2) := by decide +kernel
theorem dX9_isFriendly_23 : decode cX9_isFriendly 23 = .ok (.irem, 1) := by decide +kernel
theorem dX9_isFriendly_24 : decode cX9_isFriendly 24 = .ok (.iconst 5, 1) := by decide +kernel
theorem dX9_isFriendly_25 : decode cX9_isFriendly 25 = .ok (.if_icmp .lt 7, 3) := by decide +kernel
theorem dX9_isFriendly_28 : decode cX9_isFriendly 28 = .ok (.iconst 1, 1) := by decide +kernel
theorem dX9_isFriendly_29 : decode cX9_isFriendly 29 = .ok (.goto 4, 3) := by decide +kernel
theorem dX9_isFriendly_32 : decode cX9_isFriendly 32 = .ok (.iconst 0, 1) := by decide +kernel
theorem dX9_isFriendly_33 : decode cX9_isFriendly 33 = .ok (.ireturn, 1) := by decide +kernel
theorem dX9_within_0 : decode cX9_within 0 = .ok (.iload_n 0, 1) := by decide +kernel
theorem dX9_within_1 : decode cX9_within 1 = .ok (.iload_n 1, 1) := by decide +kernel
theorem dX9_within_2 : decode cX9_within 2 = .ok (.iload_n 2, 1) := by decide +kernel
theorem dX9_within_3 : decode cX9_within 3 = .ok (.invokestatic 345, 3) := by decide +kernel
theorem dX9_within_6 : decode cX9_within 6 = .ok (.invokestatic 146, 3) := by decide +kernel
theorem dX9_within_9 : decode cX9_within 9 = .ok (.ireturn, 1) := by decide +kernel
theorem dX10_init_0 : decode cX10_init 0 = .ok (.aload_n 0, 1) := by decide +kernel
theorem dX10_init_1 : decode cX10_init 1 = .ok (.invokespecial 1, 3) := by decide +kernel
theorem dX10_init_4 : decode cX10_init 4 = .ok (.aload_n 0, 1) := by decide +kernel
theorem dX10_init_5 : decode cX10_init 5 = .ok (.sipush 1944, 3) := by decide +kernel
theorem dX10_init_8 : decode cX10_init 8 = .ok (.newarray .int, 2) := by decide +kernel
theorem dX10_init_10 : decode cX10_init 10 = .ok (.putfield 7, 3) := by decide +kernel
theorem dX10_init_13 : decode cX10_init 13 = .ok (.aload_n 0, 1) := by decide +kernel
theorem dX10_init_14 : decode cX10_init 14 = .ok (.sipush 1944, 3) := by decide +kernel
theorem dX10_init_17 : decode cX10_init 17 = .ok (.newarray .int, 2) := by decide +kernel
theorem dX10_init_19 : decode cX10_init 19 = .ok (.putfield 13, 3) := by decide +kernel
theorem dX10_init_22 : decode cX10_init 22 = .ok (.aload_n 0, 1) := by decide +kernel
theorem dX10_init_23 : decode cX10_init 23 = .ok (.sipush 1944, 3) := by decide +kernel
theorem dX10_init_26 : decode cX10_init 26 = .ok (.newarray .int, 2) := by decide +kernel
theorem dX10_init_28 : decode cX10_init 28 = .ok (.putfield 16, 3) := by decide +kernel
theorem dX10_init_31 : decode cX10_init 31 = .ok (.aload_n 0, 1) := by decide +kernel
theorem dX10_init_32 : decode cX10_init 32 = .ok (.bipush 6, 2) := by decide +kernel
theorem dX10_init_34 : decode cX10_init 34 = .ok (.newarray .int, 2) := by decide +kernel
theorem dX10_init_36 : decode cX10_init 36 = .ok (.putfield 19, 3) := by decide +kernel
theorem dX10_init_39 : decode cX10_init 39 = .ok (.aload_n 0, 1) := by decide +kernel
theorem dX10_init_40 : decode cX10_init 40 = .ok (.bipush 7, 2) := by decide +kernel
theorem dX10_init_42 : decode cX10_init 42 = .ok (.newarray .int, 2) := by decide +kernel
theorem dX10_init_44 : decode cX10_init 44 = .ok (.putfield 22, 3) := by decide +kernel
theorem dX10_init_47 : decode cX10_init 47 = .ok (.aload_n 0, 1) := by decide +kernel
theorem dX10_init_48 : decode cX10_init 48 = .ok (.bipush 7, 2) := by decide +kernel
theorem dX10_init_50 : decode cX10_init 50 = .ok (.newarray .int, 2) := by decide +kernel
theorem dX10_init_52 : decode cX10_init 52 = .ok (.dup, 1) := by decide +kernel
theorem dX10_init_53 : decode cX10_init 53 = .ok (.iconst 0, 1) := by decide +kernel
theorem dX10_init_54 : decode cX10_init 54 = .ok (.bipush 104, 2) := by decide +kernel
theorem dX10_init_56 : decode cX10_init 56 = .ok (.iastore, 1) := by decide +kernel
theorem dX10_init_57 : decode cX10_init 57 = .ok (.dup, 1) := by decide +kernel
theorem dX10_init_58 : decode cX10_init 58 = .ok (.iconst 1, 1) := by decide +kernel
theorem dX10_init_59 : decode cX10_init 59 = .ok (.bipush 100, 2) := by decide +kernel
theorem dX10_init_61 : decode cX10_init 61 = .ok (.iastore, 1) := by decide +kernel
theorem dX10_init_62 : decode cX10_init 62 = .ok (.dup, 1) := by decide +kernel
theorem dX10_init_63 : decode cX10_init 63 = .ok (.iconst 2, 1) := by decide +kernel
theorem dX10_init_64 : decode cX10_init 64 = .ok (.bipush 117, 2) := by decide +kernel
theorem dX10_init_66 : decode cX10_init 66 = .ok (.iastore, 1) := by decide +kernel
theorem dX10_init_67 : decode cX10_init 67 = .ok (.dup, 1) := by decide +kernel
theorem dX10_init_68 : decode cX10_init 68 = .ok (.iconst 3, 1) := by decide +kernel
theorem dX10_init_69 : decode cX10_init 69 = .ok (.bipush 107, 2) := by decide +kernel
theorem dX10_init_71 : decode cX10_init 71 = .ok (.iastore, 1) := by decide +kernel
theorem dX10_init_72 : decode cX10_init 72 = .ok (.dup, 1) := by decide +kernel
theorem dX10_init_73 : decode cX10_init 73 = .ok (.iconst 4, 1) := by decide +kernel
theorem dX10_init_74 : decode cX10_init 74 = .ok (.bipush 111, 2) := by decide +kernel
theorem dX10_init_76 : decode cX10_init 76 = .ok (.iastore, 1) := by decide +kernel
theorem dX10_init_77 : decode cX10_init 77 = .ok (.dup, 1) := by decide +kernel
theorem dX10_init_78 : decode cX10_init 78 = .ok (.iconst 5, 1) := by decide +kernel
theorem dX10_init_79 : decode cX10_init 79 = .ok (.bipush 99, 2) := by decide +kernel
theorem dX10_init_81 : decode cX10_init 81 = .ok (.iastore, 1) := by decide +kernel
theorem dX10_init_82 : decode cX10_init 82 = .ok (.dup, 1) := by decide +kernel
theorem dX10_init_83 : decode cX10_init 83 = .ok (.bipush 6, 2) := by decide +kernel
theorem dX10_init_85 : decode cX10_init 85 = .ok (.bipush 110, 2) := by decide +kernel
theorem dX10_init_87 : decode cX10_init 87 = .ok (.iastore, 1) := by decide +kernel
theorem dX10_init_88 : decode cX10_init 88 = .ok (.putfield 25, 3) := by decide +kernel
theorem dX10_init_91 : decode cX10_init 91 = .ok (.aload_n 0, 1) := by decide +kernel
theorem dX10_init_92 : decode cX10_init 92 = .ok (.bipush 40, 2) := by decide +kernel
theorem dX10_init_94 : decode cX10_init 94 = .ok (.newarray .int, 2) := by decide +kernel
theorem dX10_init_96 : decode cX10_init 96 = .ok (.putfield 28, 3) := by decide +kernel
theorem dX10_init_99 : decode cX10_init 99 = .ok (.aload_n 0, 1) := by decide +kernel
theorem dX10_init_100 : decode cX10_init 100 = .ok (.iconst 4, 1) := by decide +kernel
theorem dX10_init_101 : decode cX10_init 101 = .ok (.newarray .int, 2) := by decide +kernel
theorem dX10_init_103 : decode cX10_init 103 = .ok (.putfield 31, 3) := by decide +kernel
theorem dX10_init_106 : decode cX10_init 106 = .ok (.aload_n 0, 1) := by decide +kernel
theorem dX10_init_107 : decode cX10_init 107 = .ok (.iconst 4, 1) := by decide +kernel
theorem dX10_init_108 : decode cX10_init 108 = .ok (.newarray .int, 2) := by decide +kernel
theorem dX10_init_110 : decode cX10_init 110 = .ok (.putfield 34, 3) := by decide +kernel
theorem dX10_init_113 : decode cX10_init 113 = .ok (.aload_n 0, 1) := by decide +kernel
theorem dX10_init_114 : decode cX10_init 114 = .ok (.bipush 96, 2) := by decide +kernel
theorem dX10_init_116 : decode cX10_init 116 = .ok (.newarray .int, 2) := by decide +kernel
theorem dX10_init_118 : decode cX10_init 118 = .ok (.putfield 37, 3) := by decide +kernel
theorem dX10_init_121 : decode cX10_init 121 = .ok (.aload_n 0, 1) := by decide +kernel
theorem dX10_init_122 : decode cX10_init 122 = .ok (.bipush 24, 2) := by decide +kernel
theorem dX10_init_124 : decode cX10_init 124 = .ok (.newarray .int, 2) := by decide +kernel
theorem dX10_init_126 : decode cX10_init 126 = .ok (.putfield 40, 3) := by decide +kernel
theorem dX10_init_129 : decode cX10_init 129 = .ok (.return_, 1) := by decide +kernel
theorem dX10_finding_0 : decode cX10_finding 0 = .ok (.aload_n 0, 1) := by decide +kernel
theorem dX10_finding_1 : decode cX10_finding 1 = .ok (.getfield 19, 3) := by decide +kernel
theorem dX10_finding_4 : decode cX10_finding 4 = .ok (.iload_n 1, 1) := by decide +kernel
theorem dX10_finding_5 : decode cX10_finding 5 = .ok (.dup2, 1) := by decide +kernel
theorem dX10_finding_6 : decode cX10_finding 6 = .ok (.iaload, 1) := by decide +kernel
theorem dX10_finding_7 : decode cX10_finding 7 = .ok (.iconst 1, 1) := by decide +kernel
theorem dX10_finding_8 : decode cX10_finding 8 = .ok (.iadd, 1) := by decide +kernel
theorem dX10_finding_9 : decode cX10_finding 9 = .ok (.iastore, 1) := by decide +kernel
theorem dX10_finding_10 : decode cX10_finding 10 = .ok (.ldc 43, 2) := by decide +kernel
theorem dX10_finding_12 : decode cX10_finding 12 = .ok (.iload_n 1, 1) := by decide +kernel
theorem dX10_finding_13 : decode cX10_finding 13 = .ok (.isub, 1) := by decide +kernel
theorem dX10_finding_14 : decode cX10_finding 14 = .ok (.ireturn, 1) := by decide +kernel
theorem dX10_in_0 : decode cX10_in 0 = .ok (.iload_n 0, 1) := by decide +kernel
theorem dX10_in_1 : decode cX10_in 1 = .ok (.iload_n 1, 1) := by decide +kernel
theorem dX10_in_2 : decode cX10_in 2 = .ok (.if_icmp .lt 12, 3) := by decide +kernel
theorem dX10_in_5 : decode cX10_in 5 = .ok (.iload_n 0, 1) := by decide +kernel
theorem dX10_in_6 : decode cX10_in 6 = .ok (.iload_n 2, 1) := by decide +kernel
theorem dX10_in_7 : decode cX10_in 7 = .ok (.if_icmp .gt 7, 3) := by decide +kernel
theorem dX10_in_10 : decode cX10_in 10 = .ok (.iconst 1, 1) := by decide +kernel
theorem dX10_in_11 : decode cX10_in 11 = .ok (.goto 4, 3) := by decide +kernel
theorem dX10_in_14 : decode cX10_in 14 = .ok (.iconst 0, 1) := by decide +kernel
theorem dX10_in_15 : decode cX10_in 15 = .ok (.ireturn, 1) := by decide +kernel
theorem dX10_within_0 : decode cX10_within 0 = .ok (.iload_n 0, 1) := by decide +kernel
theorem dX10_within_1 : decode cX10_within 1 = .ok (.iload_n 1, 1) := by decide +kernel
theorem dX10_within_2 : decode cX10_within 2 = .ok (.if_icmp .ge 7, 3) := by decide +kernel
theorem dX10_within_5 : decode cX10_within 5 = .ok (.iload_n 1, 1) := by decide +kernel
theorem dX10_within_6 : decode cX10_within 6 = .ok (.goto 13, 3) := by decide +kernel
theorem dX10_within_9 : decode cX10_within 9 = .ok (.iload_n 0, 1) := by decide +kernel
theorem dX10_within_10 : decode cX10_within 10 = .ok (.iload_n 2, 1) := by decide +kernel
theorem dX10_within_11 : decode cX10_within 11 = .ok (.if_icmp .le 7, 3) := by decide +kernel
theorem dX10_within_14 : decode cX10_within 14 = .ok (.iload_n 2, 1) := by decide +kernel
theorem dX10_within_15 : decode cX10_within 15 = .ok (.goto 4, 3) := by decide +kernel
theorem dX10_within_18 : decode cX10_within 18 = .ok (.iload_n 0, 1) := by decide +kernel
theorem dX10_within_19 : decode cX10_within 19 = .ok (.ireturn, 1) := by decide +kernel
theorem dX10_isMeter_0 : decode cX10_isMeter 0 = .ok (.iload_n 1, 1) := by decide +kernel
theorem dX10_isMeter_1 : decode cX10_isMeter 1 = .ok (.iconst 0, 1) := by decide +kernel
theorem dX10_isMeter_2 : decode cX10_isMeter 2 = .ok (.aload_n 0, 1) := by decide +kernel
theorem dX10_isMeter_3 : decode cX10_isMeter 3 = .ok (.getfield 7, 3) := by decide +kernel
theorem dX10_isMeter_6 : decode cX10_isMeter 6 = .ok (.iconst 1, 1) := by decide +kernel
theorem dX10_isMeter_7 : decode cX10_isMeter 7 = .ok (.iaload, 1) := by decide +kernel
theorem dX10_isMeter_8 : decode cX10_isMeter 8 = .ok (.iconst 1, 1) := by decide +kernel
theorem dX10_isMeter_9 : decode cX10_isMeter 9 = .ok (.isub, 1) := by decide +kernel
theorem dX10_isMeter_10 : decode cX10_isMeter 10 = .ok (.invokestatic 44, 3) := by decide +kernel
theorem dX10_isMeter_13 : decode cX10_isMeter 13 = .ok (.ireturn, 1) := by decide +kernel
theorem dX10_of_0 : decode cX10_of 0 = .ok (.aload_n 0, 1) := by decide +kernel
theorem dX10_of_1 : decode cX10_of 1 = .ok (.getfield 7, 3) := by decide +kernel
theorem dX10_of_4 : decode cX10_of 4 = .ok (.bipush 16, 2) := by decide +kernel
theorem dX10_of_6 : decode cX10_of 6 = .ok (.bipush 40, 2) := by decide +kernel
theorem dX10_of_8 : decode cX10_of 8 = .ok (.iload_n 1, 1) := by decide +kernel
theorem dX10_of_9 : decode cX10_of 9 = .ok (.imul, 1) := by decide +kernel
theorem dX10_of_10 : decode cX10_of 10 = .ok (.iadd, 1) := by decide +kernel
theorem dX10_of_11 : decode cX10_of 11 = .ok (.iload_n 2, 1) := by decide +kernel
theorem dX10_of_12 : decode cX10_of 12 = .ok (.iadd, 1) := by decide +kernel
theorem dX10_of_13 : decode cX10_of 13 = .ok (.iaload, 1) := by decide +kernel
theorem dX10_of_14 : decode cX10_of 14 = .ok (.ireturn, 1) := by decide +kernel
theorem dX10_set_0 : decode cX10_set 0 = .ok (.aload_n 0, 1) := by decide +kernel
theorem dX10_set_1 : decode cX10_set 1 = .ok (.getfield 7, 3) := by decide +kernel
theorem dX10_set_4 : decode cX10_set 4 = .ok (.bipush 16, 2) := by decide +kernel
theorem dX10_set_6 : decode cX10_set 6 = .ok (.bipush 40, 2) := by decide +kernel
theorem dX10_set_8 : decode cX10_set 8 = .ok (.iload_n 1, 1) := by decide +kernel
theorem dX10_set_9 : decode cX10_set 9 = .ok (.imul, 1) := by decide +kernel
theorem dX10_set_10 : decode cX10_set 10 = .ok (.iadd, 1) := by decide +kernel
theorem dX10_set_11 : decode cX10_set 11 = .ok (.iload_n 2, 1) := by decide +kernel
theorem dX10_set_12 : decode cX10_set 12 = .ok (.iadd, 1) := by decide +kernel
theorem dX10_set_13 : decode cX10_set 13 = .ok (.iload_n 3, 1) := by decide +kernel
theorem dX10_set_14 : decode cX10_set 14 = .ok (.iastore, 1) := by decide +kernel
theorem dX10_set_15 : decode cX10_set 15 = .ok (.return_, 1) := by decide +kernel
theorem dX10_more_0 : decode cX10_more 0 = .ok (.aload_n 0, 1) := by decide +kernel
theorem dX10_more_1 : decode cX10_more 1 = .ok (.getfield 7, 3) := by decide +kernel
theorem dX10_more_4 : decode cX10_more 4 = .ok (.bipush 16, 2) := by decide +kernel
theorem dX10_more_6 : decode cX10_more 6 = .ok (.bipush 40, 2) := by decide +kernel
theorem dX10_more_8 : decode cX10_more 8 = .ok (.iload_n 1, 1) := by decide +kernel
theorem dX10_more_9 : decode cX10_more 9 = .ok (.imul, 1) := by decide +kernel
theorem dX10_more_10 : decode cX10_more 10 = .ok (.iadd, 1) := by decide +kernel
theorem dX10_more_11 : decode cX10_more 11 = .ok (.iload_n 2, 1) := by decide +kernel
theorem dX10_more_12 : decode cX10_more 12 = .ok (.iadd, 1) := by decide +kernel
theorem dX10_more_13 : decode cX10_more 13 = .ok (.dup2, 1) := by decide +kernel
theorem dX10_more_14 : decode cX10_more 14 = .ok (.iaload, 1) := by decide +kernel
theorem dX10_more_15 : decode cX10_more 15 = .ok (.iload_n 3, 1) := by decide +kernel
theorem dX10_more_16 : decode cX10_more 16 = .ok (.iadd, 1) := by decide +kernel
theorem dX10_more_17 : decode cX10_more 17 = .ok (.iastore, 1) := by decide +kernel
theorem dX10_more_18 : decode cX10_more 18 = .ok (.return_, 1) := by decide +kernel
theorem dX10_isSmart_0 : decode cX10_isSmart 0 = .ok (.aload_n 0, 1) := by decide +kernel
theorem dX10_isSmart_1 : decode cX10_isSmart 1 = .ok (.iload_n 1, 1) := by decide +kernel
theorem dX10_isSmart_2 : decode cX10_isSmart 2 = .ok (.iconst 0, 1) := by decide +kernel
theorem dX10_isSmart_3 : decode cX10_isSmart 3 = .ok (.invokevirtual 48, 3) := by decide +kernel
theorem dX10_isSmart_6 : decode cX10_isSmart 6 = .ok (.iconst 2, 1) := by decide +kernel
theorem dX10_isSmart_7 : decode cX10_isSmart 7 = .ok (.if_icmp .eq 13, 3) := by decide +kernel
theorem dX10_isSmart_10 : decode cX10_isSmart 10 = .ok (.aload_n 0, 1) := by decide +kernel
theorem dX10_isSmart_11 : decode cX10_isSmart 11 = .ok (.iload_n 1, 1) := by decide +kernel
theorem dX10_isSmart_12 : decode cX10_isSmart 12 = .ok (.iconst 0, 1) := by decide +kernel
theorem dX10_isSmart_13 : decode cX10_isSmart 13 = .ok (.invokevirtual 48, 3) := by decide +kernel
theorem dX10_isSmart_16 : decode cX10_isSmart 16 = .ok (.iconst 4, 1) := by decide +kernel
theorem dX10_isSmart_17 : decode cX10_isSmart 17 = .ok (.if_icmp .ne 7, 3) := by decide +kernel
theorem dX10_isSmart_20 : decode cX10_isSmart 20 = .ok (.iconst 1, 1) := by decide +kernel
theorem dX10_isSmart_21 : decode cX10_isSmart 21 = .ok (.goto 4, 3) := by decide +kernel
theorem dX10_isSmart_24 : decode cX10_isSmart 24 = .ok (.iconst 0, 1) := by decide +kernel
theorem dX10_isSmart_25 : decode cX10_isSmart 25 = .ok (.ireturn, 1) := by decide +kernel
theorem dX10_limit_0 : decode cX10_limit 0 = .ok (.aload_n 0, 1) := by decide +kernel
theorem dX10_limit_1 : decode cX10_limit 1 = .ok (.iload_n 1, 1) := by decide +kernel
theorem dX10_limit_2 : decode cX10_limit 2 = .ok (.bipush 7, 2) := by decide +kernel
theorem dX10_limit_4 : decode cX10_limit 4 = .ok (.invokevirtual 48, 3) := by decide +kernel
theorem dX10_limit_7 : decode cX10_limit 7 = .ok (.iconst 1, 1) := by decide +kernel
theorem dX10_limit_8 : decode cX10_limit 8 = .ok (.if_icmp .ne 9, 3) := by decide +kernel
theorem dX10_limit_11 : decode cX10_limit 11 = .ok (.sipush (-500), 3) := by decide +kernel
theorem dX10_limit_14 : decode cX10_limit 14 = .ok (.goto 4, 3) := by decide +kernel
theorem dX10_limit_17 : decode cX10_limit 17 = .ok (.iconst 0, 1) := by decide +kernel
theorem dX10_limit_18 : decode cX10_limit 18 = .ok (.aload_n 0, 1) := by decide +kernel
theorem dX10_limit_19 : decode cX10_limit 19 = .ok (.iload_n 1, 1) := by decide +kernel
theorem dX10_limit_20 : decode cX10_limit 20 = .ok (.iconst 0, 1) := by decide +kernel
theorem dX10_limit_21 : decode cX10_limit 21 = .ok (.invokevirtual 48, 3) := by decide +kernel
theorem dX10_limit_24 : decode cX10_limit 24 = .ok (.iconst 5, 1) := by decide +kernel
theorem dX10_limit_25 : decode cX10_limit 25 = .ok (.if_icmp .ne 9, 3) := by decide +kernel
theorem dX10_limit_28 : decode cX10_limit 28 = .ok (.sipush 200, 3) := by decide +kernel
theorem dX10_limit_31 : decode cX10_limit 31 = .ok (.goto 4, 3) := by decide +kernel
theorem dX10_limit_34 : decode cX10_limit 34 = .ok (.iconst 0, 1) := by decide +kernel
theorem dX10_limit_35 : decode cX10_limit 35 = .ok (.isub, 1) := by decide +kernel
theorem dX10_limit_36 : decode cX10_limit 36 = .ok (.ireturn, 1) := by decide +kernel
theorem dX10_isFriendly_0 : decode cX10_isFriendly 0 = .ok (.iload_n 0, 1) := by decide +kernel
theorem dX10_isFriendly_1 : decode cX10_isFriendly 1 = .ok (.bipush 24, 2) := by decide +kernel
theorem dX10_isFriendly_3 : decode cX10_isFriendly 3 = .ok (.idiv, 1) := by decide +kernel
theorem dX10_isFriendly_4 : decode cX10_isFriendly 4 = .ok (.bipush 7, 2) := by decide +kernel
theorem dX10_isFriendly_6 : decode cX10_isFriendly 6 = .ok (.irem, 1) := by decide +kernel
theorem dX10_isFriendly_7 : decode cX10_isFriendly 7 = .ok (.istore_n 1, 1) := by decide +kernel
theorem dX10_isFriendly_8 : decode cX10_isFriendly 8 = .ok (.iload_n 0, 1) := by decide +kernel
theorem dX10_isFriendly_9 : decode cX10_isFriendly 9 = .ok (.bipush 24, 2) := by decide +kernel
theorem dX10_isFriendly_11 : decode cX10_isFriendly 11 = .ok (.irem, 1) := by decide +kernel
theorem dX10_isFriendly_12 : decode cX10_isFriendly 12 = .ok (.bipush 18, 2) := by decide +kernel
theorem dX10_isFriendly_14 : decode cX10_isFriendly 14 = .ok (.if_icmp .ge 23, 3) := by decide +kernel
theorem dX10_isFriendly_17 : decode cX10_isFriendly 17 = .ok (.iload_n 0, 1) := by decide +kernel
theorem dX10_isFriendly_18 : decode cX10_isFriendly 18 = .ok (.bipush 24, 2) := by decide +kernel
theorem dX10_isFriendly_20 : decode cX10_isFriendly 20 = .ok (.irem, 1) := by decide +kernel
theorem dX10_isFriendly_21 : decode cX10_isFriendly 21 = .ok (.bipush 9, 2) := by decide +kernel
theorem dX10_isFriendly_23 : decode cX10_isFriendly 23 = .ok (.if_icmp .lt 14, 3) := by decide +kernel
theorem dX10_isFriendly_26 : decode cX10_isFriendly 26 = .ok (.iload_n 1, 1) := by decide +kernel
theorem dX10_isFriendly_27 : decode cX10_isFriendly 27 = .ok (.iconst 5, 1) := by decide +kernel
theorem dX10_isFriendly_28 : decode cX10_isFriendly 28 = .ok (.if_icmp .eq 9, 3) := by decide +kernel
theorem dX10_isFriendly_31 : decode cX10_isFriendly 31 = .ok (.iload_n 1, 1) := by decide +kernel
theorem dX10_isFriendly_32 : decode cX10_isFriendly 32 = .ok (.bipush 6, 2) := by decide +kernel
theorem dX10_isFriendly_34 : decode cX10_isFriendly 34 = .ok (.if_icmp .ne 7, 3) := by decide +kernel
theorem dX10_isFriendly_37 : decode cX10_isFriendly 37 = .ok (.iconst 1, 1) := by decide +kernel
theorem dX10_isFriendly_38 : decode cX10_isFriendly 38 = .ok (.goto 4, 3) := by decide +kernel
theorem dX10_isFriendly_41 : decode cX10_isFriendly 41 = .ok (.iconst 0, 1) := by decide +kernel
theorem dX10_isFriendly_42 : decode cX10_isFriendly 42 = .ok (.ireturn, 1) := by decide +kernel
theorem dX10_byteAt_0 : decode cX10_byteAt 0 = .ok (.aload_n 0, 1) := by decide +kernel
theorem dX10_byteAt_1 : decode cX10_byteAt 1 = .ok (.getfield 52, 3) := by decide +kernel
theorem dX10_byteAt_4 : decode cX10_byteAt 4 = .ok (.ifCond .ne 14, 3) := by decide +kernel
theorem dX10_byteAt_7 : decode cX10_byteAt 7 = .ok (.aload_n 0, 1) := by decide +kernel
theorem dX10_byteAt_8 : decode cX10_byteAt 8 = .ok (.getfield 56, 3) := by decide +kernel
theorem dX10_byteAt_11 : decode cX10_byteAt 11 = .ok (.aload_n 0, 1) := by decide +kernel
theorem dX10_byteAt_12 : decode cX10_byteAt 12 = .ok (.getfield 60, 3) := by decide +kernel
theorem dX10_byteAt_15 : decode cX10_byteAt 15 = .ok (.if_icmp .lt 7, 3) := by decide +kernel
theorem dX10_byteAt_18 : decode cX10_byteAt 18 = .ok (.iconst (-1), 1) := by decide +kernel
theorem dX10_byteAt_19 : decode cX10_byteAt 19 = .ok (.goto 17, 3) := by decide +kernel
theorem dX10_byteAt_22 : decode cX10_byteAt 22 = .ok (.aload_n 0, 1) := by decide +kernel
theorem dX10_byteAt_23 : decode cX10_byteAt 23 = .ok (.getfield 7, 3) := by decide +kernel
theorem dX10_byteAt_26 : decode cX10_byteAt 26 = .ok (.aload_n 0, 1) := by decide +kernel
theorem dX10_byteAt_27 : decode cX10_byteAt 27 = .ok (.getfield 63, 3) := by decide +kernel
theorem dX10_byteAt_30 : decode cX10_byteAt 30 = .ok (.aload_n 0, 1) := by decide +kernel
theorem dX10_byteAt_31 : decode cX10_byteAt 31 = .ok (.getfield 56, 3) := by decide +kernel
theorem dX10_byteAt_34 : decode cX10_byteAt 34 = .ok (.iadd, 1) := by decide +kernel
theorem dX10_byteAt_35 : decode cX10_byteAt 35 = .ok (.iaload, 1) := by decide +kernel
theorem dX10_byteAt_36 : decode cX10_byteAt 36 = .ok (.ireturn, 1) := by decide +kernel
theorem dX10_eats_0 : decode cX10_eats 0 = .ok (.aload_n 0, 1) := by decide +kernel
theorem dX10_eats_1 : decode cX10_eats 1 = .ok (.invokevirtual 66, 3) := by decide +kernel
theorem dX10_eats_4 : decode cX10_eats 4 = .ok (.iload_n 1, 1) := by decide +kernel
theorem dX10_eats_5 : decode cX10_eats 5 = .ok (.if_icmp .ne 7, 3) := by decide +kernel
theorem dX10_eats_8 : decode cX10_eats 8 = .ok (.iconst 1, 1) := by decide +kernel
theorem dX10_eats_9 : decode cX10_eats 9 = .ok (.goto 4, 3) := by decide +kernel
theorem dX10_eats_12 : decode cX10_eats 12 = .ok (.iconst 0, 1) := by decide +kernel
theorem dX10_eats_13 : decode cX10_eats 13 = .ok (.istore_n 2, 1) := by decide +kernel
theorem dX10_eats_14 : decode cX10_eats 14 = .ok (.aload_n 0, 1) := by decide +kernel
theorem dX10_eats_15 : decode cX10_eats 15 = .ok (.dup, 1) := by decide +kernel
theorem dX10_eats_16 : decode cX10_eats 16 = .ok (.getfield 56, 3) := by decide +kernel
theorem dX10_eats_19 : decode cX10_eats 19 = .ok (.iload_n 2, 1) := by decide +kernel
theorem dX10_eats_20 : decode cX10_eats 20 = .ok (.ifCond .eq 7, 3) := by decide +kernel
theorem dX10_eats_23 : decode cX10_eats 23 = .ok (.iconst 1, 1) := by decide +kernel
theorem dX10_eats_24 : decode cX10_eats 24 = .ok (.goto 4, 3) := by decide +kernel
theorem dX10_eats_27 : decode cX10_eats 27 = .ok (.iconst 0, 1) := by decide +kernel
theorem dX10_eats_28 : decode cX10_eats 28 = .ok (.iadd, 1) := by decide +kernel
theorem dX10_eats_29 : decode cX10_eats 29 = .ok (.putfield 56, 3) := by decide +kernel
theorem dX10_eats_32 : decode cX10_eats 32 = .ok (.iload_n 2, 1) := by decide +kernel
theorem dX10_eats_33 : decode cX10_eats 33 = .ok (.ireturn, 1) := by decide +kernel
theorem dX10_either_0 : decode cX10_either 0 = .ok (.aload_n 0, 1) := by decide +kernel
theorem dX10_either_1 : decode cX10_either 1 = .ok (.invokevirtual 70, 3) := by decide +kernel
theorem dX10_either_4 : decode cX10_either 4 = .ok (.istore_n 1, 1) := by decide +kernel
theorem dX10_either_5 : decode cX10_either 5 = .ok (.aload_n 0, 1) := by decide +kernel
theorem dX10_either_6 : decode cX10_either 6 = .ok (.bipush 124, 2) := by decide +kernel
theorem dX10_either_8 : decode cX10_either 8 = .ok (.invokevirtual 73, 3) := by decide +kernel
theorem dX10_either_11 : decode cX10_either 11 = .ok (.ifCond .eq 25, 3) := by decide +kernel
theorem dX10_either_14 : decode cX10_either 14 = .ok (.aload_n 0, 1) := by decide +kernel
theorem dX10_either_15 : decode cX10_either 15 = .ok (.invokevirtual 70, 3) := by decide +kernel
theorem dX10_either_18 : decode cX10_either 18 = .ok (.istore_n 2, 1) := by decide +kernel
theorem dX10_either_19 : decode cX10_either 19 = .ok (.iload_n 1, 1) := by decide +kernel
theorem dX10_either_20 : decode cX10_either 20 = .ok (.ifCond .ne 7, 3) := by decide +kernel
theorem dX10_either_23 : decode cX10_either 23 = .ok (.iload_n 2, 1) := by decide +kernel
theorem dX10_either_24 : decode cX10_either 24 = .ok (.ifCond .eq 7, 3) := by decide +kernel
theorem dX10_either_27 : decode cX10_either 27 = .ok (.iconst 1, 1) := by decide +kernel
theorem dX10_either_28 : decode cX10_either 28 = .ok (.goto 4, 3) := by decide +kernel
theorem dX10_either_31 : decode cX10_either 31 = .ok (.iconst 0, 1) := by decide +kernel
theorem dX10_either_32 : decode cX10_either 32 = .ok (.istore_n 1, 1) := by decide +kernel
theorem dX10_either_33 : decode cX10_either 33 = .ok (.goto (-28), 3) := by decide +kernel
theorem dX10_either_36 : decode cX10_either 36 = .ok (.iload_n 1, 1) := by decide +kernel
theorem dX10_either_37 : decode cX10_either 37 = .ok (.ireturn, 1) := by decide +kernel
theorem dX10_both_0 : decode cX10_both 0 = .ok (.aload_n 0, 1) := by decide +kernel
theorem dX10_both_1 : decode cX10_both 1 = .ok (.invokevirtual 77, 3) := by decide +kernel
theorem dX10_both_4 : decode cX10_both 4 = .ok (.istore_n 1, 1) := by decide +kernel
theorem dX10_both_5 : decode cX10_both 5 = .ok (.aload_n 0, 1) := by decide +kernel
theorem dX10_both_6 : decode cX10_both 6 = .ok (.bipush 38, 2) := by decide +kernel
theorem dX10_both_8 : decode cX10_both 8 = .ok (.invokevirtual 73, 3) := by decide +kernel
theorem dX10_both_11 : decode cX10_both 11 = .ok (.ifCond .eq 25, 3) := by decide +kernel
theorem dX10_both_14 : decode cX10_both 14 = .ok (.aload_n 0, 1) := by decide +kernel
theorem dX10_both_15 : decode cX10_both 15 = .ok (.invokevirtual 77, 3) := by decide +kernel
theorem dX10_both_18 : decode cX10_both 18 = .ok (.istore_n 2, 1) := by decide +kernel
theorem dX10_both_19 : decode cX10_both 19 = .ok (.iload_n 1, 1) := by decide +kernel
theorem dX10_both_20 : decode cX10_both 20 = .ok (.ifCond .eq 11, 3) := by decide +kernel
theorem dX10_both_23 : decode cX10_both 23 = .ok (.iload_n 2, 1) := by decide +kernel
theorem dX10_both_24 : decode cX10_both 24 = .ok (.ifCond .eq 7, 3) := by decide +kernel
theorem dX10_both_27 : decode cX10_both 27 = .ok (.iconst 1, 1) := by decide +kernel
theorem dX10_both_28 : decode cX10_both 28 = .ok (.goto 4, 3) := by decide +kernel
theorem dX10_both_31 : decode cX10_both 31 = .ok (.iconst 0, 1) := by decide +kernel
theorem dX10_both_32 : decode cX10_both 32 = .ok (.istore_n 1, 1) := by decide +kernel
theorem dX10_both_33 : decode cX10_both 33 = .ok (.goto (-28), 3) := by decide +kernel
theorem dX10_both_36 : decode cX10_both 36 = .ok (.iload_n 1, 1) := by decide +kernel
theorem dX10_both_37 : decode cX10_both 37 = .ok (.ireturn, 1) := by decide +kernel
theorem dX10_relation_0 : decode cX10_relation 0 = .ok (.aload_n 0, 1) := by decide +kernel
theorem dX10_relation_1 : decode cX10_relation 1 = .ok (.invokevirtual 80, 3) := by decide +kernel
theorem dX10_relation_4 : decode cX10_relation 4 = .ok (.istore_n 1, 1) := by decide +kernel
theorem dX10_relation_5 : decode cX10_relation 5 = .ok (.aload_n 0, 1) := by decide +kernel
theorem dX10_relation_6 : decode cX10_relation 6 = .ok (.invokevirtual 66, 3) := by decide +kernel
theorem dX10_relation_9 : decode cX10_relation 9 = .ok (.istore_n 2, 1) := by decide +kernel
theorem dX10_relation_10 : decode cX10_relation 10 = .ok (.iload_n 2, 1) := by decide +kernel
theorem dX10_relation_11 : decode cX10_relation 11 = .ok (.bipush 60, 2) := by decide +kernel
theorem dX10_relation_13 : decode cX10_relation 13 = .ok (.if_icmp .eq 17, 3) := by decide +kernel
theorem dX10_relation_16 : decode cX10_relation 16 = .ok (.iload_n 2, 1) := by decide +kernel
theorem dX10_relation_17 : decode cX10_relation 17 = .ok (.bipush 61, 2) := by decide +kernel
theorem dX10_relation_19 : decode cX10_relation 19 = .ok (.if_icmp .eq 11, 3) := by decide +kernel
theorem dX10_relation_22 : decode cX10_relation 22 = .ok (.iload_n 2, 1) := by decide +kernel
theorem dX10_relation_23 : decode cX10_relation 23 = .ok (.bipush 62, 2) := by decide +kernel
theorem dX10_relation_25 : decode cX10_relation 25 = .ok (.if_icmp .eq 5, 3) := by decide +kernel
theorem dX10_relation_28 : decode cX10_relation 28 = .ok (.iload_n 1, 1) := by decide +kernel
theorem dX10_relation_29 : decode cX10_relation 29 = .ok (.ireturn, 1) := by decide +kernel
theorem dX10_relation_30 : decode cX10_relation 30 = .ok (.aload_n 0, 1) := by decide +kernel
theorem dX10_relation_31 : decode cX10_relation 31 = .ok (.dup, 1) := by decide +kernel
theorem dX10_relation_32 : decode cX10_relation 32 = .ok (.getfield 56, 3) := by decide +kernel
theorem dX10_relation_35 : decode cX10_relation 35 = .ok (.iconst 1, 1) := by decide +kernel
theorem dX10_relation_36 : decode cX10_relation 36 = .ok (.iadd, 1) := by decide +kernel
theorem dX10_relation_37 : decode cX10_relation 37 = .ok (.putfield 56, 3) := by decide +kernel
theorem dX10_relation_40 : decode cX10_relation 40 = .ok (.aload_n 0, 1) := by decide +kernel
theorem dX10_relation_41 : decode cX10_relation 41 = .ok (.invokevirtual 80, 3) := by decide +kernel
theorem dX10_relation_44 : decode cX10_relation 44 = .ok (.istore_n 3, 1) := by decide +kernel
theorem dX10_relation_45 : decode cX10_relation 45 = .ok (.iload_n 2, 1) := by decide +kernel
theorem dX10_relation_46 : decode cX10_relation 46 = .ok (.bipush 60, 2) := by decide +kernel
theorem dX10_relation_48 : decode cX10_relation 48 = .ok (.if_icmp .ne 11, 3) := by decide +kernel
theorem dX10_relation_51 : decode cX10_relation 51 = .ok (.iload_n 1, 1) := by decide +kernel
theorem dX10_relation_52 : decode cX10_relation 52 = .ok (.iload_n 3, 1) := by decide +kernel
theorem dX10_relation_53 : decode cX10_relation 53 = .ok (.if_icmp .ge 29, 3) := by decide +kernel
theorem dX10_relation_56 : decode cX10_relation 56 = .ok (.goto 22, 3) := by decide +kernel
theorem dX10_relation_59 : decode cX10_relation 59 = .ok (.iload_n 2, 1) := by decide +kernel
theorem dX10_relation_60 : decode cX10_relation 60 = .ok (.bipush 61, 2) := by decide +kernel
theorem dX10_relation_62 : decode cX10_relation 62 = .ok (.if_icmp .ne 11, 3) := by decide +kernel
theorem dX10_relation_65 : decode cX10_relation 65 = .ok (.iload_n 1, 1) := by decide +kernel
theorem dX10_relation_66 : decode cX10_relation 66 = .ok (.iload_n 3, 1) := by decide +kernel
theorem dX10_relation_67 : decode cX10_relation 67 = .ok (.if_icmp .ne 15, 3) := by decide +kernel
theorem dX10_relation_70 : decode cX10_relation 70 = .ok (.goto 8, 3) := by decide +kernel
theorem dX10_relation_73 : decode cX10_relation 73 = .ok (.iload_n 1, 1) := by decide +kernel
theorem dX10_relation_74 : decode cX10_relation 74 = .ok (.iload_n 3, 1) := by decide +kernel
theorem dX10_relation_75 : decode cX10_relation 75 = .ok (.if_icmp .le 7, 3) := by decide +kernel
theorem dX10_relation_78 : decode cX10_relation 78 = .ok (.iconst 1, 1) := by decide +kernel
theorem dX10_relation_79 : decode cX10_relation 79 = .ok (.goto 4, 3) := by decide +kernel
theorem dX10_relation_82 : decode cX10_relation 82 = .ok (.iconst 0, 1) := by decide +kernel
theorem dX10_relation_83 : decode cX10_relation 83 = .ok (.ireturn, 1) := by decide +kernel
theorem dX10_added_0 : decode cX10_added 0 = .ok (.aload_n 0, 1) := by decide +kernel
theorem dX10_added_1 : decode cX10_added 1 = .ok (.invokevirtual 83, 3) := by decide +kernel
theorem dX10_added_4 : decode cX10_added 4 = .ok (.istore_n 1, 1) := by decide +kernel
theorem dX10_added_5 : decode cX10_added 5 = .ok (.aload_n 0, 1) := by decide +kernel
theorem dX10_added_6 : decode cX10_added 6 = .ok (.invokevirtual 66, 3) := by decide +kernel
theorem dX10_added_9 : decode cX10_added 9 = .ok (.istore_n 2, 1) := by decide +kernel
theorem dX10_added_10 : decode cX10_added 10 = .ok (.iload_n 2, 1) := by decide +kernel
theorem dX10_added_11 : decode cX10_added 11 = .ok (.bipush 43, 2) := by decide +kernel
theorem dX10_added_13 : decode cX10_added 13 = .ok (.if_icmp .eq 9, 3) := by decide +kernel
theorem dX10_added_16 : decode cX10_added 16 = .ok (.iload_n 2, 1) := by decide +kernel
theorem dX10_added_17 : decode cX10_added 17 = .ok (.bipush 45, 2) := by decide +kernel
theorem dX10_added_19 : decode cX10_added 19 = .ok (.if_icmp .ne 42, 3) := by decide +kernel
theorem dX10_added_22 : decode cX10_added 22 = .ok (.aload_n 0, 1) := by decide +kernel
theorem dX10_added_23 : decode cX10_added 23 = .ok (.dup, 1) := by decide +kernel
theorem dX10_added_24 : decode cX10_added 24 = .ok (.getfield 56, 3) := by decide +kernel
theorem dX10_added_27 : decode cX10_added 27 = .ok (.iconst 1, 1) := by decide +kernel
theorem dX10_added_28 : decode cX10_added 28 = .ok (.iadd, 1) := by decide +kernel
theorem dX10_added_29 : decode cX10_added 29 = .ok (.putfield 56, 3) := by decide +kernel
theorem dX10_added_32 : decode cX10_added 32 = .ok (.aload_n 0, 1) := by decide +kernel
theorem dX10_added_33 : decode cX10_added 33 = .ok (.invokevirtual 83, 3) := by decide +kernel
theorem dX10_added_36 : decode cX10_added 36 = .ok (.istore_n 3, 1) := by decide +kernel
theorem dX10_added_37 : decode cX10_added 37 = .ok (.iload_n 2, 1) := by decide +kernel
theorem dX10_added_38 : decode cX10_added 38 = .ok (.bipush 43, 2) := by decide +kernel
theorem dX10_added_40 : decode cX10_added 40 = .ok (.if_icmp .ne 9, 3) := by decide +kernel
theorem dX10_added_43 : decode cX10_added 43 = .ok (.iload_n 1, 1) := by decide +kernel
theorem dX10_added_44 : decode cX10_added 44 = .ok (.iload_n 3, 1) := by decide +kernel
theorem dX10_added_45 : decode cX10_added 45 = .ok (.iadd, 1) := by decide +kernel
theorem dX10_added_46 : decode cX10_added 46 = .ok (.goto 6, 3) := by decide +kernel
theorem dX10_added_49 : decode cX10_added 49 = .ok (.iload_n 1, 1) := by decide +kernel
theorem dX10_added_50 : decode cX10_added 50 = .ok (.iload_n 3, 1) := by decide +kernel
theorem dX10_added_51 : decode cX10_added 51 = .ok (.isub, 1) := by decide +kernel
theorem dX10_added_52 : decode cX10_added 52 = .ok (.istore_n 1, 1) := by decide +kernel
theorem dX10_added_53 : decode cX10_added 53 = .ok (.aload_n 0, 1) := by decide +kernel
theorem dX10_added_54 : decode cX10_added 54 = .ok (.invokevirtual 66, 3) := by decide +kernel
theorem dX10_added_57 : decode cX10_added 57 = .ok (.istore_n 2, 1) := by decide +kernel
theorem dX10_added_58 : decode cX10_added 58 = .ok (.goto (-48), 3) := by decide +kernel
theorem dX10_added_61 : decode cX10_added 61 = .ok (.iload_n 1, 1) := by decide +kernel
theorem dX10_added_62 : decode cX10_added 62 = .ok (.ireturn, 1) := by decide +kernel
theorem dX10_term_0 : decode cX10_term 0 = .ok (.aload_n 0, 1) := by decide +kernel
theorem dX10_term_1 : decode cX10_term 1 = .ok (.invokevirtual 86, 3) := by decide +kernel
theorem dX10_term_4 : decode cX10_term 4 = .ok (.istore_n 1, 1) := by decide +kernel
theorem dX10_term_5 : decode cX10_term 5 = .ok (.aload_n 0, 1) := by decide +kernel
theorem dX10_term_6 : decode cX10_term 6 = .ok (.invokevirtual 66, 3) := by decide +kernel
theorem dX10_term_9 : decode cX10_term 9 = .ok (.istore_n 2, 1) := by decide +kernel
theorem dX10_term_10 : decode cX10_term 10 = .ok (.iload_n 2, 1) := by decide +kernel
theorem dX10_term_11 : decode cX10_term 11 = .ok (.bipush 42, 2) := by decide +kernel
theorem dX10_term_13 : decode cX10_term 13 = .ok (.if_icmp .eq 9, 3) := by decide +kernel
theorem dX10_term_16 : decode cX10_term 16 = .ok (.iload_n 2, 1) := by decide +kernel
theorem dX10_term_17 : decode cX10_term 17 = .ok (.bipush 47, 2) := by decide +kernel
theorem dX10_term_19 : decode cX10_term 19 = .ok (.if_icmp .ne 60, 3) := by decide +kernel
theorem dX10_term_22 : decode cX10_term 22 = .ok (.aload_n 0, 1) := by decide +kernel
theorem dX10_term_23 : decode cX10_term 23 = .ok (.dup, 1) := by decide +kernel
theorem dX10_term_24 : decode cX10_term 24 = .ok (.getfield 56, 3) := by decide +kernel
theorem dX10_term_27 : decode cX10_term 27 = .ok (.iconst 1, 1) := by decide +kernel
theorem dX10_term_28 : decode cX10_term 28 = .ok (.iadd, 1) := by decide +kernel
theorem dX10_term_29 : decode cX10_term 29 = .ok (.putfield 56, 3) := by decide +kernel
theorem dX10_term_32 : decode cX10_term 32 = .ok (.aload_n 0, 1) := by decide +kernel
theorem dX10_term_33 : decode cX10_term 33 = .ok (.invokevirtual 86, 3) := by decide +kernel
theorem dX10_term_36 : decode cX10_term 36 = .ok (.istore_n 3, 1) := by decide +kernel
theorem dX10_term_37 : decode cX10_term 37 = .ok (.iload_n 2, 1) := by decide +kernel
theorem dX10_term_38 : decode cX10_term 38 = .ok (.bipush 42, 2) := by decide +kernel
theorem dX10_term_40 : decode cX10_term 40 = .ok (.if_icmp .ne 9, 3) := by decide +kernel
theorem dX10_term_43 : decode cX10_term 43 = .ok (.iload_n 1, 1) := by decide +kernel
theorem dX10_term_44 : decode cX10_term 44 = .ok (.iload_n 3, 1) := by decide +kernel
theorem dX10_term_45 : decode cX10_term 45 = .ok (.imul, 1) := by decide +kernel
theorem dX10_term_46 : decode cX10_term 46 = .ok (.goto 24, 3) := by decide +kernel
theorem dX10_term_49 : decode cX10_term 49 = .ok (.iload_n 3, 1) := by decide +kernel
theorem dX10_term_50 : decode cX10_term 50 = .ok (.ifCond .ne 7, 3) := by decide +kernel
theorem dX10_term_53 : decode cX10_term 53 = .ok (.iconst 0, 1) := by decide +kernel
theorem dX10_term_54 : decode cX10_term 54 = .ok (.goto 16, 3) := by decide +kernel
theorem dX10_term_57 : decode cX10_term 57 = .ok (.iload_n 3, 1) := by decide +kernel
theorem dX10_term_58 : decode cX10_term 58 = .ok (.iconst (-1), 1) := by decide +kernel
theorem dX10_term_59 : decode cX10_term 59 = .ok (.if_icmp .ne 8, 3) := by decide +kernel
theorem dX10_term_62 : decode cX10_term 62 = .ok (.iload_n 1, 1) := by decide +kernel
theorem dX10_term_63 : decode cX10_term 63 = .ok (.ineg, 1) := by decide +kernel
theorem dX10_term_64 : decode cX10_term 64 = .ok (.goto 6, 3) := by decide +kernel
theorem dX10_term_67 : decode cX10_term 67 = .ok (.iload_n 1, 1) := by decide +kernel
theorem dX10_term_68 : decode cX10_term 68 = .ok (.iload_n 3, 1) := by decide +kernel
theorem dX10_term_69 : decode cX10_term 69 = .ok (.idiv, 1) := by decide +kernel
theorem dX10_term_70 : decode cX10_term 70 = .ok (.istore_n 1, 1) := by decide +kernel
theorem dX10_term_71 : decode cX10_term 71 = .ok (.aload_n 0, 1) := by decide +kernel
theorem dX10_term_72 : decode cX10_term 72 = .ok (.invokevirtual 66, 3) := by decide +kernel
theorem dX10_term_75 : decode cX10_term 75 = .ok (.istore_n 2, 1) := by decide +kernel
theorem dX10_term_76 : decode cX10_term 76 = .ok (.goto (-66), 3) := by decide +kernel
theorem dX10_term_79 : decode cX10_term 79 = .ok (.iload_n 1, 1) := by decide +kernel
theorem dX10_term_80 : decode cX10_term 80 = .ok (.ireturn, 1) := by decide +kernel
theorem dX10_single_0 : decode cX10_single 0 = .ok (.aload_n 0, 1) := by decide +kernel
theorem dX10_single_1 : decode cX10_single 1 = .ok (.invokevirtual 66, 3) := by decide +kernel
theorem dX10_single_4 : decode cX10_single 4 = .ok (.istore_n 1, 1) := by decide +kernel
theorem dX10_single_5 : decode cX10_single 5 = .ok (.iload_n 1, 1) := by decide +kernel
theorem dX10_single_6 : decode cX10_single 6 = .ok (.bipush 48, 2) := by decide +kernel
theorem dX10_single_8 : decode cX10_single 8 = .ok (.bipush 57, 2) := by decide +kernel
theorem dX10_single_10 : decode cX10_single 10 = .ok (.invokestatic 44, 3) := by decide +kernel
theorem dX10_single_13 : decode cX10_single 13 = .ok (.ifCond .eq 87, 3) := by decide +kernel
theorem dX10_single_16 : decode cX10_single 16 = .ok (.iconst 0, 1) := by decide +kernel
theorem dX10_single_17 : decode cX10_single 17 = .ok (.istore_n 2, 1) := by decide +kernel
theorem dX10_single_18 : decode cX10_single 18 = .ok (.iconst 0, 1) := by decide +kernel
theorem dX10_single_19 : decode cX10_single 19 = .ok (.istore_n 3, 1) := by decide +kernel
theorem dX10_single_20 : decode cX10_single 20 = .ok (.iload_n 3, 1) := by decide +kernel
theorem dX10_single_21 : decode cX10_single 21 = .ok (.iconst 4, 1) := by decide +kernel
theorem dX10_single_22 : decode cX10_single 22 = .ok (.if_icmp .ge 46, 3) := by decide +kernel
theorem dX10_single_25 : decode cX10_single 25 = .ok (.aload_n 0, 1) := by decide +kernel
theorem dX10_single_26 : decode cX10_single 26 = .ok (.invokevirtual 66, 3) := by decide +kernel
theorem dX10_single_29 : decode cX10_single 29 = .ok (.bipush 48, 2) := by decide +kernel
theorem dX10_single_31 : decode cX10_single 31 = .ok (.bipush 57, 2) := by decide +kernel
theorem dX10_single_33 : decode cX10_single 33 = .ok (.invokestatic 44, 3) := by decide +kernel
theorem dX10_single_36 : decode cX10_single 36 = .ok (.ifCond .eq 32, 3) := by decide +kernel
theorem dX10_single_39 : decode cX10_single 39 = .ok (.bipush 10, 2) := by decide +kernel
theorem dX10_single_41 : decode cX10_single 41 = .ok (.iload_n 2, 1) := by decide +kernel
theorem dX10_single_42 : decode cX10_single 42 = .ok (.imul, 1) := by decide +kernel
theorem dX10_single_43 : decode cX10_single 43 = .ok (.aload_n 0, 1) := by decide +kernel
theorem dX10_single_44 : decode cX10_single 44 = .ok (.invokevirtual 66, 3) := by decide +kernel
theorem dX10_single_47 : decode cX10_single 47 = .ok (.iadd, 1) := by decide +kernel
theorem dX10_single_48 : decode cX10_single 48 = .ok (.bipush 48, 2) := by decide +kernel
theorem dX10_single_50 : decode cX10_single 50 = .ok (.isub, 1) := by decide +kernel
theorem dX10_single_51 : decode cX10_single 51 = .ok (.istore_n 2, 1) := by decide +kernel
theorem dX10_single_52 : decode cX10_single 52 = .ok (.aload_n 0, 1) := by decide +kernel
theorem dX10_single_53 : decode cX10_single 53 = .ok (.dup, 1) := by decide +kernel
theorem dX10_single_54 : decode cX10_single 54 = .ok (.getfield 56, 3) := by decide +kernel
theorem dX10_single_57 : decode cX10_single 57 = .ok (.iconst 1, 1) := by decide +kernel
theorem dX10_single_58 : decode cX10_single 58 = .ok (.iadd, 1) := by decide +kernel
theorem dX10_single_59 : decode cX10_single 59 = .ok (.putfield 56, 3) := by decide +kernel
theorem dX10_single_62 : decode cX10_single 62 = .ok (.iinc 3 1, 3) := by decide +kernel
theorem dX10_single_65 : decode cX10_single 65 = .ok (.goto (-45), 3) := by decide +kernel
theorem dX10_single_68 : decode cX10_single 68 = .ok (.aload_n 0, 1) := by decide +kernel
theorem dX10_single_69 : decode cX10_single 69 = .ok (.aload_n 0, 1) := by decide +kernel
theorem dX10_single_70 : decode cX10_single 70 = .ok (.getfield 52, 3) := by decide +kernel
theorem dX10_single_73 : decode cX10_single 73 = .ok (.ifCond .ne 17, 3) := by decide +kernel
theorem dX10_single_76 : decode cX10_single 76 = .ok (.aload_n 0, 1) := by decide +kernel
theorem dX10_single_77 : decode cX10_single 77 = .ok (.invokevirtual 66, 3) := by decide +kernel
theorem dX10_single_80 : decode cX10_single 80 = .ok (.bipush 48, 2) := by decide +kernel
theorem dX10_single_82 : decode cX10_single 82 = .ok (.bipush 57, 2) := by decide +kernel
theorem dX10_single_84 : decode cX10_single 84 = .ok (.invokestatic 44, 3) := by decide +kernel
theorem dX10_single_87 : decode cX10_single 87 = .ok (.ifCond .eq 7, 3) := by decide +kernel
theorem dX10_single_90 : decode cX10_single 90 = .ok (.iconst 1, 1) := by decide +kernel
theorem dX10_single_91 : decode cX10_single 91 = .ok (.goto 4, 3) := by decide +kernel
theorem dX10_single_94 : decode cX10_single 94 = .ok (.iconst 0, 1) := by decide +kernel
theorem dX10_single_95 : decode cX10_single 95 = .ok (.putfield 52, 3) := by decide +kernel
theorem dX10_single_98 : decode cX10_single 98 = .ok (.iload_n 2, 1) := by decide +kernel
theorem dX10_single_99 : decode cX10_single 99 = .ok (.ireturn, 1) := by decide +kernel
theorem dX10_single_100 : decode cX10_single 100 = .ok (.iconst 0, 1) := by decide +kernel
theorem dX10_single_101 : decode cX10_single 101 = .ok (.istore_n 2, 1) := by decide +kernel
theorem dX10_single_102 : decode cX10_single 102 = .ok (.iload_n 2, 1) := by decide +kernel
theorem dX10_single_103 : decode cX10_single 103 = .ok (.bipush 7, 2) := by decide +kernel
theorem dX10_single_105 : decode cX10_single 105 = .ok (.if_icmp .ge 36, 3) := by decide +kernel
theorem dX10_single_108 : decode cX10_single 108 = .ok (.iload_n 1, 1) := by decide +kernel
theorem dX10_single_109 : decode cX10_single 109 = .ok (.aload_n 0, 1) := by decide +kernel
theorem dX10_single_110 : decode cX10_single 110 = .ok (.getfield 25, 3) := by decide +kernel
theorem dX10_single_113 : decode cX10_single 113 = .ok (.iload_n 2, 1) := by decide +kernel
theorem dX10_single_114 : decode cX10_single 114 = .ok (.iaload, 1) := by decide +kernel
theorem dX10_single_115 : decode cX10_single 115 = .ok (.if_icmp .ne 20, 3) := by decide +kernel
theorem dX10_single_118 : decode cX10_single 118 = .ok (.aload_n 0, 1) := by decide +kernel
theorem dX10_single_119 : decode cX10_single 119 = .ok (.dup, 1) := by decide +kernel
theorem dX10_single_120 : decode cX10_single 120 = .ok (.getfield 56, 3) := by decide +kernel
theorem dX10_single_123 : decode cX10_single 123 = .ok (.iconst 1, 1) := by decide +kernel
theorem dX10_single_124 : decode cX10_single 124 = .ok (.iadd, 1) := by decide +kernel
theorem dX10_single_125 : decode cX10_single 125 = .ok (.putfield 56, 3) := by decide +kernel
theorem dX10_single_128 : decode cX10_single 128 = .ok (.aload_n 0, 1) := by decide +kernel
theorem dX10_single_129 : decode cX10_single 129 = .ok (.getfield 22, 3) := by decide +kernel
theorem dX10_single_132 : decode cX10_single 132 = .ok (.iload_n 2, 1) := by decide +kernel
theorem dX10_single_133 : decode cX10_single 133 = .ok (.iaload, 1) := by decide +kernel
theorem dX10_single_134 : decode cX10_single 134 = .ok (.ireturn, 1) := by decide +kernel
theorem dX10_single_135 : decode cX10_single 135 = .ok (.iinc 2 1, 3) := by decide +kernel
theorem dX10_single_138 : decode cX10_single 138 = .ok (.goto (-36), 3) := by decide +kernel
theorem dX10_single_141 : decode cX10_single 141 = .ok (.iload_n 1, 1) := by decide +kernel
theorem dX10_single_142 : decode cX10_single 142 = .ok (.bipush 33, 2) := by decide +kernel
theorem dX10_single_144 : decode cX10_single 144 = .ok (.if_icmp .eq 9, 3) := by decide +kernel
theorem dX10_single_147 : decode cX10_single 147 = .ok (.iload_n 1, 1) := by decide +kernel
theorem dX10_single_148 : decode cX10_single 148 = .ok (.bipush 40, 2) := by decide +kernel
theorem dX10_single_150 : decode cX10_single 150 = .ok (.if_icmp .ne 11, 3) := by decide +kernel
theorem dX10_single_153 : decode cX10_single 153 = .ok (.aload_n 0, 1) := by decide +kernel
theorem dX10_single_154 : decode cX10_single 154 = .ok (.getfield 89, 3) := by decide +kernel
theorem dX10_single_157 : decode cX10_single 157 = .ok (.iconst 5, 1) := by decide +kernel
theorem dX10_single_158 : decode cX10_single 158 = .ok (.if_icmp .ne 10, 3) := by decide +kernel
theorem dX10_single_161 : decode cX10_single 161 = .ok (.aload_n 0, 1) := by decide +kernel
theorem dX10_single_162 : decode cX10_single 162 = .ok (.iconst 1, 1) := by decide +kernel
theorem dX10_single_163 : decode cX10_single 163 = .ok (.putfield 52, 3) := by decide +kernel
theorem dX10_single_166 : decode cX10_single 166 = .ok (.iconst 0, 1) := by decide +kernel
theorem dX10_single_167 : decode cX10_single 167 = .ok (.ireturn, 1) := by decide +kernel
theorem dX10_single_168 : decode cX10_single 168 = .ok (.aload_n 0, 1) := by decide +kernel
theorem dX10_single_169 : decode cX10_single 169 = .ok (.dup, 1) := by decide +kernel
theorem dX10_single_170 : decode cX10_single 170 = .ok (.getfield 56, 3) := by decide +kernel
theorem dX10_single_173 : decode cX10_single 173 = .ok (.iconst 1, 1) := by decide +kernel
theorem dX10_single_174 : decode cX10_single 174 = .ok (.iadd, 1) := by decide +kernel
theorem dX10_single_175 : decode cX10_single 175 = .ok (.putfield 56, 3) := by decide +kernel
theorem dX10_single_178 : decode cX10_single 178 = .ok (.aload_n 0, 1) := by decide +kernel
theorem dX10_single_179 : decode cX10_single 179 = .ok (.dup, 1) := by decide +kernel
theorem dX10_single_180 : decode cX10_single 180 = .ok (.getfield 89, 3) := by decide +kernel
theorem dX10_single_183 : decode cX10_single 183 = .ok (.iconst 1, 1) := by decide +kernel
theorem dX10_single_184 : decode cX10_single 184 = .ok (.iadd, 1) := by decide +kernel
theorem dX10_single_185 : decode cX10_single 185 = .ok (.putfield 89, 3) := by decide +kernel
theorem dX10_single_188 : decode cX10_single 188 = .ok (.iload_n 1, 1) := by decide +kernel
theorem dX10_single_189 : decode cX10_single 189 = .ok (.bipush 40, 2) := by decide +kernel
theorem dX10_single_191 : decode cX10_single 191 = .ok (.if_icmp .ne 10, 3) := by decide +kernel
theorem dX10_single_194 : decode cX10_single 194 = .ok (.aload_n 0, 1) := by decide +kernel
theorem dX10_single_195 : decode cX10_single 195 = .ok (.invokevirtual 92, 3) := by decide +kernel
theorem dX10_single_198 : decode cX10_single 198 = .ok (.goto 15, 3) := by decide +kernel
theorem dX10_single_201 : decode cX10_single 201 = .ok (.aload_n 0, 1) := by decide +kernel
theorem dX10_single_202 : decode cX10_single 202 = .ok (.invokevirtual 86, 3) := by decide +kernel
theorem dX10_single_205 : decode cX10_single 205 = .ok (.ifCond .ne 7, 3) := by decide +kernel
theorem dX10_single_208 : decode cX10_single 208 = .ok (.iconst 1, 1) := by decide +kernel
theorem dX10_single_209 : decode cX10_single 209 = .ok (.goto 4, 3) := by decide +kernel
theorem dX10_single_212 : decode cX10_single 212 = .ok (.iconst 0, 1) := by decide +kernel
theorem dX10_single_213 : decode cX10_single 213 = .ok (.istore_n 2, 1) := by decide +kernel
theorem dX10_single_214 : decode cX10_single 214 = .ok (.iload_n 1, 1) := by decide +kernel
theorem dX10_single_215 : decode cX10_single 215 = .ok (.bipush 40, 2) := by decide +kernel
theorem dX10_single_217 : decode cX10_single 217 = .ok (.if_icmp .ne 17, 3) := by decide +kernel
theorem dX10_single_220 : decode cX10_single 220 = .ok (.aload_n 0, 1) := by decide +kernel
theorem dX10_single_221 : decode cX10_single 221 = .ok (.bipush 41, 2) := by decide +kernel
theorem dX10_single_223 : decode cX10_single 223 = .ok (.invokevirtual 73, 3) := by decide +kernel
theorem dX10_single_226 : decode cX10_single 226 = .ok (.ifCond .ne 8, 3) := by decide +kernel
theorem dX10_single_229 : decode cX10_single 229 = .ok (.aload_n 0, 1) := by decide +kernel
theorem dX10_single_230 : decode cX10_single 230 = .ok (.iconst 1, 1) := by decide +kernel
theorem dX10_single_231 : decode cX10_single 231 = .ok (.putfield 52, 3) := by decide +kernel
theorem dX10_single_234 : decode cX10_single 234 = .ok (.aload_n 0, 1) := by decide +kernel
theorem dX10_single_235 : decode cX10_single 235 = .ok (.dup, 1) := by decide +kernel
theorem dX10_single_236 : decode cX10_single 236 = .ok (.getfield 89, 3) := by decide +kernel
theorem dX10_single_239 : decode cX10_single 239 = .ok (.iconst 1, 1) := by decide +kernel
theorem dX10_single_240 : decode cX10_single 240 = .ok (.isub, 1) := by decide +kernel
theorem dX10_single_241 : decode cX10_single 241 = .ok (.putfield 89, 3) := by decide +kernel
theorem dX10_single_244 : decode cX10_single 244 = .ok (.iload_n 2, 1) := by decide +kernel
theorem dX10_single_245 : decode cX10_single 245 = .ok (.ireturn, 1) := by decide +kernel
theorem dX10_reads_0 : decode cX10_reads 0 = .ok (.aload_n 0, 1) := by decide +kernel
theorem dX10_reads_1 : decode cX10_reads 1 = .ok (.iload_n 1, 1) := by decide +kernel
theorem dX10_reads_2 : decode cX10_reads 2 = .ok (.putfield 63, 3) := by decide +kernel
theorem dX10_reads_5 : decode cX10_reads 5 = .ok (.aload_n 0, 1) := by decide +kernel
theorem dX10_reads_6 : decode cX10_reads 6 = .ok (.iload_n 2, 1) := by decide +kernel
theorem dX10_reads_7 : decode cX10_reads 7 = .ok (.putfield 60, 3) := by decide +kernel
theorem dX10_reads_10 : decode cX10_reads 10 = .ok (.aload_n 0, 1) := by decide +kernel
theorem dX10_reads_11 : decode cX10_reads 11 = .ok (.iconst 0, 1) := by decide +kernel
theorem dX10_reads_12 : decode cX10_reads 12 = .ok (.putfield 56, 3) := by decide +kernel
theorem dX10_reads_15 : decode cX10_reads 15 = .ok (.aload_n 0, 1) := by decide +kernel
theorem dX10_reads_16 : decode cX10_reads 16 = .ok (.iconst 0, 1) := by decide +kernel
theorem dX10_reads_17 : decode cX10_reads 17 = .ok (.putfield 89, 3) := by decide +kernel
theorem dX10_reads_20 : decode cX10_reads 20 = .ok (.aload_n 0, 1) := by decide +kernel
theorem dX10_reads_21 : decode cX10_reads 21 = .ok (.iconst 0, 1) := by decide +kernel
theorem dX10_reads_22 : decode cX10_reads 22 = .ok (.putfield 52, 3) := by decide +kernel
theorem dX10_reads_25 : decode cX10_reads 25 = .ok (.aload_n 0, 1) := by decide +kernel
theorem dX10_reads_26 : decode cX10_reads 26 = .ok (.invokevirtual 92, 3) := by decide +kernel
theorem dX10_reads_29 : decode cX10_reads 29 = .ok (.istore_n 3, 1) := by decide +kernel
theorem dX10_reads_30 : decode cX10_reads 30 = .ok (.aload_n 0, 1) := by decide +kernel
theorem dX10_reads_31 : decode cX10_reads 31 = .ok (.aload_n 0, 1) := by decide +kernel
theorem dX10_reads_32 : decode cX10_reads 32 = .ok (.getfield 52, 3) := by decide +kernel
theorem dX10_reads_35 : decode cX10_reads 35 = .ok (.ifCond .ne 14, 3) := by decide +kernel
theorem dX10_reads_38 : decode cX10_reads 38 = .ok (.aload_n 0, 1) := by decide +kernel
theorem dX10_reads_39 : decode cX10_reads 39 = .ok (.getfield 56, 3) := by decide +kernel
theorem dX10_reads_42 : decode cX10_reads 42 = .ok (.aload_n 0, 1) := by decide +kernel
theorem dX10_reads_43 : decode cX10_reads 43 = .ok (.getfield 60, 3) := by decide +kernel
theorem dX10_reads_46 : decode cX10_reads 46 = .ok (.if_icmp .ge 7, 3) := by decide +kernel
theorem dX10_reads_49 : decode cX10_reads 49 = .ok (.iconst 1, 1) := by decide +kernel
theorem dX10_reads_50 : decode cX10_reads 50 = .ok (.goto 4, 3) := by decide +kernel
theorem dX10_reads_53 : decode cX10_reads 53 = .ok (.iconst 0, 1) := by decide +kernel
theorem dX10_reads_54 : decode cX10_reads 54 = .ok (.putfield 52, 3) := by decide +kernel
theorem dX10_reads_57 : decode cX10_reads 57 = .ok (.iload_n 3, 1) := by decide +kernel
theorem dX10_reads_58 : decode cX10_reads 58 = .ok (.ireturn, 1) := by decide +kernel
theorem dX10_saysOf_0 : decode cX10_saysOf 0 = .ok (.aload_n 0, 1) := by decide +kernel
theorem dX10_saysOf_1 : decode cX10_saysOf 1 = .ok (.getfield 22, 3) := by decide +kernel
theorem dX10_saysOf_4 : decode cX10_saysOf 4 = .ok (.iconst 0, 1) := by decide +kernel
theorem dX10_saysOf_5 : decode cX10_saysOf 5 = .ok (.iload_n 3, 1) := by decide +kernel
theorem dX10_saysOf_6 : decode cX10_saysOf 6 = .ok (.bipush 24, 2) := by decide +kernel
theorem dX10_saysOf_8 : decode cX10_saysOf 8 = .ok (.irem, 1) := by decide +kernel
theorem dX10_saysOf_9 : decode cX10_saysOf 9 = .ok (.iastore, 1) := by decide +kernel
theorem dX10_saysOf_10 : decode cX10_saysOf 10 = .ok (.aload_n 0, 1) := by decide +kernel
theorem dX10_saysOf_11 : decode cX10_saysOf 11 = .ok (.getfield 22, 3) := by decide +kernel
theorem dX10_saysOf_14 : decode cX10_saysOf 14 = .ok (.iconst 1, 1) := by decide +kernel
theorem dX10_saysOf_15 : decode cX10_saysOf 15 = .ok (.iload_n 3, 1) := by decide +kernel
theorem dX10_saysOf_16 : decode cX10_saysOf 16 = .ok (.bipush 24, 2) := by decide +kernel
theorem dX10_saysOf_18 : decode cX10_saysOf 18 = .ok (.idiv, 1) := by decide +kernel
theorem dX10_saysOf_19 : decode cX10_saysOf 19 = .ok (.bipush 7, 2) := by decide +kernel
theorem dX10_saysOf_21 : decode cX10_saysOf 21 = .ok (.irem, 1) := by decide +kernel
theorem dX10_saysOf_22 : decode cX10_saysOf 22 = .ok (.iastore, 1) := by decide +kernel
theorem dX10_saysOf_23 : decode cX10_saysOf 23 = .ok (.aload_n 0, 1) := by decide +kernel
theorem dX10_saysOf_24 : decode cX10_saysOf 24 = .ok (.getfield 22, 3) := by decide +kernel
theorem dX10_saysOf_27 : decode cX10_saysOf 27 = .ok (.iconst 2, 1) := by decide +kernel
theorem dX10_saysOf_28 : decode cX10_saysOf 28 = .ok (.aload_n 0, 1) := by decide +kernel
theorem dX10_saysOf_29 : decode cX10_saysOf 29 = .ok (.iload_n 2, 1) := by decide +kernel
theorem dX10_saysOf_30 : decode cX10_saysOf 30 = .ok (.bipush 9, 2) := by decide +kernel
theorem dX10_saysOf_32 : decode cX10_saysOf 32 = .ok (.invokevirtual 48, 3) := by decide +kernel
theorem dX10_saysOf_35 : decode cX10_saysOf 35 = .ok (.iastore, 1) := by decide +kernel
theorem dX10_saysOf_36 : decode cX10_saysOf 36 = .ok (.aload_n 0, 1) := by decide +kernel
theorem dX10_saysOf_37 : decode cX10_saysOf 37 = .ok (.getfield 22, 3) := by decide +kernel
theorem dX10_saysOf_40 : decode cX10_saysOf 40 = .ok (.iconst 3, 1) := by decide +kernel
theorem dX10_saysOf_41 : decode cX10_saysOf 41 = .ok (.aload_n 0, 1) := by decide +kernel
theorem dX10_saysOf_42 : decode cX10_saysOf 42 = .ok (.iload_n 2, 1) := by decide +kernel
theorem dX10_saysOf_43 : decode cX10_saysOf 43 = .ok (.iconst 0, 1) := by decide +kernel
theorem dX10_saysOf_44 : decode cX10_saysOf 44 = .ok (.invokevirtual 48, 3) := by decide +kernel
theorem dX10_saysOf_47 : decode cX10_saysOf 47 = .ok (.iastore, 1) := by decide +kernel
theorem dX10_saysOf_48 : decode cX10_saysOf 48 = .ok (.aload_n 0, 1) := by decide +kernel
theorem dX10_saysOf_49 : decode cX10_saysOf 49 = .ok (.getfield 22, 3) := by decide +kernel
theorem dX10_saysOf_52 : decode cX10_saysOf 52 = .ok (.iconst 4, 1) := by decide +kernel
theorem dX10_saysOf_53 : decode cX10_saysOf 53 = .ok (.aload_n 0, 1) := by decide +kernel
theorem dX10_saysOf_54 : decode cX10_saysOf 54 = .ok (.iload_n 2, 1) := by decide +kernel
theorem dX10_saysOf_55 : decode cX10_saysOf 55 = .ok (.iconst 4, 1) := by decide +kernel
theorem dX10_saysOf_56 : decode cX10_saysOf 56 = .ok (.invokevirtual 48, 3) := by decide +kernel
theorem dX10_saysOf_59 : decode cX10_saysOf 59 = .ok (.iastore, 1) := by decide +kernel
theorem dX10_saysOf_60 : decode cX10_saysOf 60 = .ok (.aload_n 0, 1) := by decide +kernel
theorem dX10_saysOf_61 : decode cX10_saysOf 61 = .ok (.getfield 22, 3) := by decide +kernel
theorem dX10_saysOf_64 : decode cX10_saysOf 64 = .ok (.iconst 5, 1) := by decide +kernel
theorem dX10_saysOf_65 : decode cX10_saysOf 65 = .ok (.aload_n 0, 1) := by decide +kernel
theorem dX10_saysOf_66 : decode cX10_saysOf 66 = .ok (.iload_n 2, 1) := by decide +kernel
theorem dX10_saysOf_67 : decode cX10_saysOf 67 = .ok (.iconst 3, 1) := by decide +kernel
theorem dX10_saysOf_68 : decode cX10_saysOf 68 = .ok (.invokevirtual 48, 3) := by decide +kernel
theorem dX10_saysOf_71 : decode cX10_saysOf 71 = .ok (.iastore, 1) := by decide +kernel
theorem dX10_saysOf_72 : decode cX10_saysOf 72 = .ok (.aload_n 0, 1) := by decide +kernel
theorem dX10_saysOf_73 : decode cX10_saysOf 73 = .ok (.getfield 22, 3) := by decide +kernel
theorem dX10_saysOf_76 : decode cX10_saysOf 76 = .ok (.bipush 6, 2) := by decide +kernel
theorem dX10_saysOf_78 : decode cX10_saysOf 78 = .ok (.iload 4, 2) := by decide +kernel
theorem dX10_saysOf_80 : decode cX10_saysOf 80 = .ok (.iastore, 1) := by decide +kernel
theorem dX10_saysOf_81 : decode cX10_saysOf 81 = .ok (.aload_n 0, 1) := by decide +kernel
theorem dX10_saysOf_82 : decode cX10_saysOf 82 = .ok (.sipush 404, 3) := by decide +kernel
theorem dX10_saysOf_85 : decode cX10_saysOf 85 = .ok (.bipush 60, 2) := by decide +kernel
theorem dX10_saysOf_87 : decode cX10_saysOf 87 = .ok (.iload_n 1, 1) := by decide +kernel
theorem dX10_saysOf_88 : decode cX10_saysOf 88 = .ok (.imul, 1) := by decide +kernel
theorem dX10_saysOf_89 : decode cX10_saysOf 89 = .ok (.iadd, 1) := by decide +kernel
theorem dX10_saysOf_90 : decode cX10_saysOf 90 = .ok (.aload_n 0, 1) := by decide +kernel
theorem dX10_saysOf_91 : decode cX10_saysOf 91 = .ok (.getfield 7, 3) := by decide +kernel
theorem dX10_saysOf_94 : decode cX10_saysOf 94 = .ok (.sipush 392, 3) := by decide +kernel
theorem dX10_saysOf_97 : decode cX10_saysOf 97 = .ok (.iload_n 1, 1) := by decide +kernel
theorem dX10_saysOf_98 : decode cX10_saysOf 98 = .ok (.iadd, 1) := by decide +kernel
theorem dX10_saysOf_99 : decode cX10_saysOf 99 = .ok (.iaload, 1) := by decide +kernel
theorem dX10_saysOf_100 : decode cX10_saysOf 100 = .ok (.invokevirtual 95, 3) := by decide +kernel
theorem dX10_saysOf_103 : decode cX10_saysOf 103 = .ok (.ireturn, 1) := by decide +kernel
theorem dX10_forceIn_0 : decode cX10_forceIn 0 = .ok (.iconst (-1), 1) := by decide +kernel
theorem dX10_forceIn_1 : decode cX10_forceIn 1 = .ok (.istore_n 3, 1) := by decide +kernel
theorem dX10_forceIn_2 : decode cX10_forceIn 2 = .ok (.iconst 0, 1) := by decide +kernel
theorem dX10_forceIn_3 : decode cX10_forceIn 3 = .ok (.istore 4, 2) := by decide +kernel
theorem dX10_forceIn_5 : decode cX10_forceIn 5 = .ok (.iload 4, 2) := by decide +kernel
theorem dX10_forceIn_7 : decode cX10_forceIn 7 = .ok (.aload_n 0, 1) := by decide +kernel
theorem dX10_forceIn_8 : decode cX10_forceIn 8 = .ok (.getfield 7, 3) := by decide +kernel
theorem dX10_forceIn_11 : decode cX10_forceIn 11 = .ok (.iconst 3, 1) := by decide +kernel
theorem dX10_forceIn_12 : decode cX10_forceIn 12 = .ok (.iaload, 1) := by decide +kernel
theorem dX10_forceIn_13 : decode cX10_forceIn 13 = .ok (.if_icmp .ge 46, 3) := by decide +kernel
theorem dX10_forceIn_16 : decode cX10_forceIn 16 = .ok (.aload_n 0, 1) := by decide +kernel
theorem dX10_forceIn_17 : decode cX10_forceIn 17 = .ok (.getfield 7, 3) := by decide +kernel
theorem dX10_forceIn_20 : decode cX10_forceIn 20 = .ok (.sipush 368, 3) := by decide +kernel
theorem dX10_forceIn_23 : decode cX10_forceIn 23 = .ok (.iload 4, 2) := by decide +kernel
theorem dX10_forceIn_25 : decode cX10_forceIn 25 = .ok (.iadd, 1) := by decide +kernel
theorem dX10_forceIn_26 : decode cX10_forceIn 26 = .ok (.iaload, 1) := by decide +kernel
theorem dX10_forceIn_27 : decode cX10_forceIn 27 = .ok (.iload_n 1, 1) := by decide +kernel
theorem dX10_forceIn_28 : decode cX10_forceIn 28 = .ok (.if_icmp .ne 23, 3) := by decide +kernel
theorem dX10_forceIn_31 : decode cX10_forceIn 31 = .ok (.aload_n 0, 1) := by decide +kernel
theorem dX10_forceIn_32 : decode cX10_forceIn 32 = .ok (.getfield 7, 3) := by decide +kernel
theorem dX10_forceIn_35 : decode cX10_forceIn 35 = .ok (.sipush 380, 3) := by decide +kernel
theorem dX10_forceIn_38 : decode cX10_forceIn 38 = .ok (.iload 4, 2) := by decide +kernel
theorem dX10_forceIn_40 : decode cX10_forceIn 40 = .ok (.iadd, 1) := by decide +kernel
theorem dX10_forceIn_41 : decode cX10_forceIn 41 = .ok (.iaload, 1) := by decide +kernel
theorem dX10_forceIn_42 : decode cX10_forceIn 42 = .ok (.iload_n 2, 1) := by decide +kernel
theorem dX10_forceIn_43 : decode cX10_forceIn 43 = .ok (.if_icmp .gt 8, 3) := by decide +kernel
theorem dX10_forceIn_46 : decode cX10_forceIn 46 = .ok (.iload 4, 2) := by decide +kernel
theorem dX10_forceIn_48 : decode cX10_forceIn 48 = .ok (.goto 4, 3) := by decide +kernel
theorem dX10_forceIn_51 : decode cX10_forceIn 51 = .ok (.iload_n 3, 1) := by decide +kernel
theorem dX10_forceIn_52 : decode cX10_forceIn 52 = .ok (.istore_n 3, 1) := by decide +kernel
theorem dX10_forceIn_53 : decode cX10_forceIn 53 = .ok (.iinc 4 1, 3) := by decide +kernel
theorem dX10_forceIn_56 : decode cX10_forceIn 56 = .ok (.goto (-51), 3) := by decide +kernel
theorem dX10_forceIn_59 : decode cX10_forceIn 59 = .ok (.iload_n 3, 1) := by decide +kernel
theorem dX10_forceIn_60 : decode cX10_forceIn 60 = .ok (.ireturn, 1) := by decide +kernel
theorem dX10_rateBy_0 : decode cX10_rateBy 0 = .ok (.iload_n 1, 1) := by decide +kernel
theorem dX10_rateBy_1 : decode cX10_rateBy 1 = .ok (.ifCond .ge 8, 3) := by decide +kernel
theorem dX10_rateBy_4 : decode cX10_rateBy 4 = .ok (.bipush 20, 2) := by decide +kernel
theorem dX10_rateBy_6 : decode cX10_rateBy 6 = .ok (.goto 22, 3) := by decide +kernel
theorem dX10_rateBy_9 : decode cX10_rateBy 9 = .ok (.aload_n 0, 1) := by decide +kernel
theorem dX10_rateBy_10 : decode cX10_rateBy 10 = .ok (.iload_n 1, 1) := by decide +kernel
theorem dX10_rateBy_11 : decode cX10_rateBy 11 = .ok (.iload_n 2, 1) := by decide +kernel
theorem dX10_rateBy_12 : decode cX10_rateBy 12 = .ok (.aload_n 0, 1) := by decide +kernel
theorem dX10_rateBy_13 : decode cX10_rateBy 13 = .ok (.getfield 7, 3) := by decide +kernel
theorem dX10_rateBy_16 : decode cX10_rateBy 16 = .ok (.iconst 0, 1) := by decide +kernel
theorem dX10_rateBy_17 : decode cX10_rateBy 17 = .ok (.iaload, 1) := by decide +kernel
theorem dX10_rateBy_18 : decode cX10_rateBy 18 = .ok (.iconst 0, 1) := by decide +kernel
theorem dX10_rateBy_19 : decode cX10_rateBy 19 = .ok (.invokevirtual 98, 3) := by decide +kernel
theorem dX10_rateBy_22 : decode cX10_rateBy 22 = .ok (.iconst 0, 1) := by decide +kernel
theorem dX10_rateBy_23 : decode cX10_rateBy 23 = .ok (.bipush 99, 2) := by decide +kernel
theorem dX10_rateBy_25 : decode cX10_rateBy 25 = .ok (.invokestatic 102, 3) := by decide +kernel
theorem dX10_rateBy_28 : decode cX10_rateBy 28 = .ok (.ireturn, 1) := by decide +kernel
theorem dX10_loadedOf_0 : decode cX10_loadedOf 0 = .ok (.aload_n 0, 1) := by decide +kernel
theorem dX10_loadedOf_1 : decode cX10_loadedOf 1 = .ok (.iload_n 1, 1) := by decide +kernel
theorem dX10_loadedOf_2 : decode cX10_loadedOf 2 = .ok (.invokevirtual 106, 3) := by decide +kernel
theorem dX10_loadedOf_5 : decode cX10_loadedOf 5 = .ok (.ifCond .eq 17, 3) := by decide +kernel
theorem dX10_loadedOf_8 : decode cX10_loadedOf 8 = .ok (.aload_n 0, 1) := by decide +kernel
theorem dX10_loadedOf_9 : decode cX10_loadedOf 9 = .ok (.iconst 0, 1) := by decide +kernel
theorem dX10_loadedOf_10 : decode cX10_loadedOf 10 = .ok (.aload_n 0, 1) := by decide +kernel
theorem dX10_loadedOf_11 : decode cX10_loadedOf 11 = .ok (.getfield 7, 3) := by decide +kernel
theorem dX10_loadedOf_14 : decode cX10_loadedOf 14 = .ok (.iconst 0, 1) := by decide +kernel
theorem dX10_loadedOf_15 : decode cX10_loadedOf 15 = .ok (.iaload, 1) := by decide +kernel
theorem dX10_loadedOf_16 : decode cX10_loadedOf 16 = .ok (.invokevirtual 109, 3) := by decide +kernel
theorem dX10_loadedOf_19 : decode cX10_loadedOf 19 = .ok (.goto 10, 3) := by decide +kernel
theorem dX10_loadedOf_22 : decode cX10_loadedOf 22 = .ok (.aload_n 0, 1) := by decide +kernel
theorem dX10_loadedOf_23 : decode cX10_loadedOf 23 = .ok (.iload_n 1, 1) := by decide +kernel
theorem dX10_loadedOf_24 : decode cX10_loadedOf 24 = .ok (.bipush 12, 2) := by decide +kernel
theorem dX10_loadedOf_26 : decode cX10_loadedOf 26 = .ok (.invokevirtual 48, 3) := by decide +kernel
theorem dX10_loadedOf_29 : decode cX10_loadedOf 29 = .ok (.ireturn, 1) := by decide +kernel
theorem dX10_standingOf_0 : decode cX10_standingOf 0 = .ok (.aload_n 0, 1) := by decide +kernel
theorem dX10_standingOf_1 : decode cX10_standingOf 1 = .ok (.iconst 1, 1) := by decide +kernel
theorem dX10_standingOf_2 : decode cX10_standingOf 2 = .ok (.aload_n 0, 1) := by decide +kernel
theorem dX10_standingOf_3 : decode cX10_standingOf 3 = .ok (.getfield 7, 3) := by decide +kernel
theorem dX10_standingOf_6 : decode cX10_standingOf 6 = .ok (.iconst 0, 1) := by decide +kernel
theorem dX10_standingOf_7 : decode cX10_standingOf 7 = .ok (.iaload, 1) := by decide +kernel
theorem dX10_standingOf_8 : decode cX10_standingOf 8 = .ok (.invokevirtual 109, 3) := by decide +kernel
theorem dX10_standingOf_11 : decode cX10_standingOf 11 = .ok (.istore_n 2, 1) := by decide +kernel
theorem dX10_standingOf_12 : decode cX10_standingOf 12 = .ok (.iload_n 2, 1) := by decide +kernel
theorem dX10_standingOf_13 : decode cX10_standingOf 13 = .ok (.ifCond .ge 8, 3) := by decide +kernel
theorem dX10_standingOf_16 : decode cX10_standingOf 16 = .ok (.bipush 30, 2) := by decide +kernel
theorem dX10_standingOf_18 : decode cX10_standingOf 18 = .ok (.goto 23, 3) := by decide +kernel
theorem dX10_standingOf_21 : decode cX10_standingOf 21 = .ok (.aload_n 0, 1) := by decide +kernel
theorem dX10_standingOf_22 : decode cX10_standingOf 22 = .ok (.iload_n 2, 1) := by decide +kernel
theorem dX10_standingOf_23 : decode cX10_standingOf 23 = .ok (.iload_n 1, 1) := by decide +kernel
theorem dX10_standingOf_24 : decode cX10_standingOf 24 = .ok (.aload_n 0, 1) := by decide +kernel
theorem dX10_standingOf_25 : decode cX10_standingOf 25 = .ok (.getfield 7, 3) := by decide +kernel
theorem dX10_standingOf_28 : decode cX10_standingOf 28 = .ok (.iconst 0, 1) := by decide +kernel
theorem dX10_standingOf_29 : decode cX10_standingOf 29 = .ok (.iaload, 1) := by decide +kernel
theorem dX10_standingOf_30 : decode cX10_standingOf 30 = .ok (.iconst 0, 1) := by decide +kernel
theorem dX10_standingOf_31 : decode cX10_standingOf 31 = .ok (.invokevirtual 98, 3) := by decide +kernel
theorem dX10_standingOf_34 : decode cX10_standingOf 34 = .ok (.iconst 0, 1) := by decide +kernel
theorem dX10_standingOf_35 : decode cX10_standingOf 35 = .ok (.sipush 999, 3) := by decide +kernel
theorem dX10_standingOf_38 : decode cX10_standingOf 38 = .ok (.invokestatic 102, 3) := by decide +kernel
theorem dX10_standingOf_41 : decode cX10_standingOf 41 = .ok (.ireturn, 1) := by decide +kernel
theorem dX10_isPlace_0 : decode cX10_isPlace 0 = .ok (.iload_n 0, 1) := by decide +kernel
theorem dX10_isPlace_1 : decode cX10_isPlace 1 = .ok (.ifCond .lt 25, 3) := by decide +kernel
theorem dX10_isPlace_4 : decode cX10_isPlace 4 = .ok (.iload_n 0, 1) := by decide +kernel
theorem dX10_isPlace_5 : decode cX10_isPlace 5 = .ok (.bipush 100, 2) := by decide +kernel
theorem dX10_isPlace_7 : decode cX10_isPlace 7 = .ok (.idiv, 1) := by decide +kernel
theorem dX10_isPlace_8 : decode cX10_isPlace 8 = .ok (.bipush 30, 2) := by decide +kernel
theorem dX10_isPlace_10 : decode cX10_isPlace 10 = .ok (.if_icmp .gt 16, 3) := by decide +kernel
theorem dX10_isPlace_13 : decode cX10_isPlace 13 = .ok (.iload_n 0, 1) := by decide +kernel
theorem dX10_isPlace_14 : decode cX10_isPlace 14 = .ok (.bipush 100, 2) := by decide +kernel
theorem dX10_isPlace_16 : decode cX10_isPlace 16 = .ok (.irem, 1) := by decide +kernel
theorem dX10_isPlace_17 : decode cX10_isPlace 17 = .ok (.bipush 30, 2) := by decide +kernel
theorem dX10_isPlace_19 : decode cX10_isPlace 19 = .ok (.if_icmp .gt 7, 3) := by decide +kernel
theorem dX10_isPlace_22 : decode cX10_isPlace 22 = .ok (.iconst 1, 1) := by decide +kernel
theorem dX10_isPlace_23 : decode cX10_isPlace 23 = .ok (.goto 4, 3) := by decide +kernel
theorem dX10_isPlace_26 : decode cX10_isPlace 26 = .ok (.iconst 0, 1) := by decide +kernel
theorem dX10_isPlace_27 : decode cX10_isPlace 27 = .ok (.ireturn, 1) := by decide +kernel
theorem dX10_meter_0 : decode cX10_meter 0 = .ok (.iload_n 1, 1) := by decide +kernel
theorem dX10_meter_1 : decode cX10_meter 1 = .ok (.iconst 0, 1) := by decide +kernel
theorem dX10_meter_2 : decode cX10_meter 2 = .ok (.iconst 5, 1) := by decide +kernel
theorem dX10_meter_3 : decode cX10_meter 3 = .ok (.invokestatic 44, 3) := by decide +kernel
theorem dX10_meter_6 : decode cX10_meter 6 = .ok (.ifCond .eq 10, 3) := by decide +kernel
theorem dX10_meter_9 : decode cX10_meter 9 = .ok (.iload_n 2, 1) := by decide +kernel
theorem dX10_meter_10 : decode cX10_meter 10 = .ok (.invokestatic 112, 3) := by decide +kernel
theorem dX10_meter_13 : decode cX10_meter 13 = .ok (.ifCond .ne 9, 3) := by decide +kernel
theorem dX10_meter_16 : decode cX10_meter 16 = .ok (.aload_n 0, 1) := by decide +kernel
theorem dX10_meter_17 : decode cX10_meter 17 = .ok (.iconst 1, 1) := by decide +kernel
theorem dX10_meter_18 : decode cX10_meter 18 = .ok (.invokevirtual 115, 3) := by decide +kernel
theorem dX10_meter_21 : decode cX10_meter 21 = .ok (.ireturn, 1) := by decide +kernel
theorem dX10_meter_22 : decode cX10_meter 22 = .ok (.aload_n 0, 1) := by decide +kernel
theorem dX10_meter_23 : decode cX10_meter 23 = .ok (.getfield 7, 3) := by decide +kernel
theorem dX10_meter_26 : decode cX10_meter 26 = .ok (.iconst 1, 1) := by decide +kernel
theorem dX10_meter_27 : decode cX10_meter 27 = .ok (.iaload, 1) := by decide +kernel
theorem dX10_meter_28 : decode cX10_meter 28 = .ok (.bipush 8, 2) := by decide +kernel
theorem dX10_meter_30 : decode cX10_meter 30 = .ok (.if_icmp .ne 9, 3) := by decide +kernel
theorem dX10_meter_33 : decode cX10_meter 33 = .ok (.aload_n 0, 1) := by decide +kernel
theorem dX10_meter_34 : decode cX10_meter 34 = .ok (.iconst 4, 1) := by decide +kernel
theorem dX10_meter_35 : decode cX10_meter 35 = .ok (.invokevirtual 115, 3) := by decide +kernel
theorem dX10_meter_38 : decode cX10_meter 38 = .ok (.ireturn, 1) := by decide +kernel
theorem dX10_meter_39 : decode cX10_meter 39 = .ok (.aload_n 0, 1) := by decide +kernel
theorem dX10_meter_40 : decode cX10_meter 40 = .ok (.getfield 7, 3) := by decide +kernel
theorem dX10_meter_43 : decode cX10_meter 43 = .ok (.iconst 1, 1) := by decide +kernel
theorem dX10_meter_44 : decode cX10_meter 44 = .ok (.iaload, 1) := by decide +kernel
theorem dX10_meter_45 : decode cX10_meter 45 = .ok (.istore_n 3, 1) := by decide +kernel
theorem dX10_meter_46 : decode cX10_meter 46 = .ok (.iconst 0, 1) := by decide +kernel
theorem dX10_meter_47 : decode cX10_meter 47 = .ok (.istore 4, 2) := by decide +kernel
theorem dX10_meter_49 : decode cX10_meter 49 = .ok (.iload 4, 2) := by decide +kernel
theorem dX10_meter_51 : decode cX10_meter 51 = .ok (.bipush 40, 2) := by decide +kernel
theorem dX10_meter_53 : decode cX10_meter 53 = .ok (.if_icmp .ge 35, 3) := by decide +kernel
theorem dX10_meter_56 : decode cX10_meter 56 = .ok (.aload_n 0, 1) := by decide +kernel
theorem dX10_meter_57 : decode cX10_meter 57 = .ok (.iload_n 3, 1) := by decide +kernel
theorem dX10_meter_58 : decode cX10_meter 58 = .ok (.iload 4, 2) := by decide +kernel
theorem dX10_meter_60 : decode cX10_meter 60 = .ok (.iload 4, 2) := by decide +kernel
theorem dX10_meter_62 : decode cX10_meter 62 = .ok (.bipush 13, 2) := by decide +kernel
theorem dX10_meter_64 : decode cX10_meter 64 = .ok (.if_icmp .lt 14, 3) := by decide +kernel
theorem dX10_meter_67 : decode cX10_meter 67 = .ok (.iload 4, 2) := by decide +kernel
theorem dX10_meter_69 : decode cX10_meter 69 = .ok (.bipush 37, 2) := by decide +kernel
theorem dX10_meter_71 : decode cX10_meter 71 = .ok (.if_icmp .ge 7, 3) := by decide +kernel
theorem dX10_meter_74 : decode cX10_meter 74 = .ok (.iconst 1, 1) := by decide +kernel
theorem dX10_meter_75 : decode cX10_meter 75 = .ok (.goto 4, 3) := by decide +kernel
theorem dX10_meter_78 : decode cX10_meter 78 = .ok (.iconst 0, 1) := by decide +kernel
theorem dX10_meter_79 : decode cX10_meter 79 = .ok (.invokevirtual 119, 3) := by decide +kernel
theorem dX10_meter_82 : decode cX10_meter 82 = .ok (.iinc 4 1, 3) := by decide +kernel
theorem dX10_meter_85 : decode cX10_meter 85 = .ok (.goto (-36), 3) := by decide +kernel
theorem dX10_meter_88 : decode cX10_meter 88 = .ok (.aload_n 0, 1) := by decide +kernel
theorem dX10_meter_89 : decode cX10_meter 89 = .ok (.iload_n 3, 1) := by decide +kernel
theorem dX10_meter_90 : decode cX10_meter 90 = .ok (.iconst 0, 1) := by decide +kernel
theorem dX10_meter_91 : decode cX10_meter 91 = .ok (.iload_n 1, 1) := by decide +kernel
theorem dX10_meter_92 : decode cX10_meter 92 = .ok (.invokevirtual 119, 3) := by decide +kernel
theorem dX10_meter_95 : decode cX10_meter 95 = .ok (.aload_n 0, 1) := by decide +kernel
theorem dX10_meter_96 : decode cX10_meter 96 = .ok (.iload_n 3, 1) := by decide +kernel
theorem dX10_meter_97 : decode cX10_meter 97 = .ok (.iconst 1, 1) := by decide +kernel
theorem dX10_meter_98 : decode cX10_meter 98 = .ok (.iload_n 2, 1) := by decide +kernel
theorem dX10_meter_99 : decode cX10_meter 99 = .ok (.bipush 100, 2) := by decide +kernel
theorem dX10_meter_101 : decode cX10_meter 101 = .ok (.idiv, 1) := by decide +kernel
theorem dX10_meter_102 : decode cX10_meter 102 = .ok (.invokevirtual 119, 3) := by decide +kernel
theorem dX10_meter_105 : decode cX10_meter 105 = .ok (.aload_n 0, 1) := by decide +kernel
theorem dX10_meter_106 : decode cX10_meter 106 = .ok (.iload_n 3, 1) := by decide +kernel
theorem dX10_meter_107 : decode cX10_meter 107 = .ok (.iconst 2, 1) := by decide +kernel
theorem dX10_meter_108 : decode cX10_meter 108 = .ok (.iload_n 2, 1) := by decide +kernel
theorem dX10_meter_109 : decode cX10_meter 109 = .ok (.bipush 100, 2) := by decide +kernel
theorem dX10_meter_111 : decode cX10_meter 111 = .ok (.irem, 1) := by decide +kernel
theorem dX10_meter_112 : decode cX10_meter 112 = .ok (.invokevirtual 119, 3) := by decide +kernel
theorem dX10_meter_115 : decode cX10_meter 115 = .ok (.aload_n 0, 1) := by decide +kernel
theorem dX10_meter_116 : decode cX10_meter 116 = .ok (.iload_n 3, 1) := by decide +kernel
theorem dX10_meter_117 : decode cX10_meter 117 = .ok (.bipush 6, 2) := by decide +kernel
theorem dX10_meter_119 : decode cX10_meter 119 = .ok (.iconst 1, 1) := by decide +kernel
theorem dX10_meter_120 : decode cX10_meter 120 = .ok (.invokevirtual 119, 3) := by decide +kernel
theorem dX10_meter_123 : decode cX10_meter 123 = .ok (.aload_n 0, 1) := by decide +kernel
theorem dX10_meter_124 : decode cX10_meter 124 = .ok (.iload_n 3, 1) := by decide +kernel
theorem dX10_meter_125 : decode cX10_meter 125 = .ok (.bipush 12, 2) := by decide +kernel
theorem dX10_meter_127 : decode cX10_meter 127 = .ok (.aload_n 0, 1) := by decide +kernel
theorem dX10_meter_128 : decode cX10_meter 128 = .ok (.iconst 0, 1) := by decide +kernel
theorem dX10_meter_129 : decode cX10_meter 129 = .ok (.aload_n 0, 1) := by decide +kernel
theorem dX10_meter_130 : decode cX10_meter 130 = .ok (.getfield 7, 3) := by decide +kernel
theorem dX10_meter_133 : decode cX10_meter 133 = .ok (.iconst 0, 1) := by decide +kernel
theorem dX10_meter_134 : decode cX10_meter 134 = .ok (.iaload, 1) := by decide +kernel
theorem dX10_meter_135 : decode cX10_meter 135 = .ok (.invokevirtual 109, 3) := by decide +kernel
theorem dX10_meter_138 : decode cX10_meter 138 = .ok (.invokevirtual 119, 3) := by decide +kernel
theorem dX10_meter_141 : decode cX10_meter 141 = .ok (.aload_n 0, 1) := by decide +kernel
theorem dX10_meter_142 : decode cX10_meter 142 = .ok (.getfield 7, 3) := by decide +kernel
theorem dX10_meter_145 : decode cX10_meter 145 = .ok (.iconst 1, 1) := by decide +kernel
theorem dX10_meter_146 : decode cX10_meter 146 = .ok (.dup2, 1) := by decide +kernel
theorem dX10_meter_147 : decode cX10_meter 147 = .ok (.iaload, 1) := by decide +kernel
theorem dX10_meter_148 : decode cX10_meter 148 = .ok (.iconst 1, 1) := by decide +kernel
theorem dX10_meter_149 : decode cX10_meter 149 = .ok (.iadd, 1) := by decide +kernel
theorem dX10_meter_150 : decode cX10_meter 150 = .ok (.iastore, 1) := by decide +kernel
theorem dX10_meter_151 : decode cX10_meter 151 = .ok (.iload_n 3, 1) := by decide +kernel
theorem dX10_meter_152 : decode cX10_meter 152 = .ok (.ireturn, 1) := by decide +kernel
theorem dX10_as_0 : decode cX10_as 0 = .ok (.aload_n 0, 1) := by decide +kernel
theorem dX10_as_1 : decode cX10_as 1 = .ok (.iload_n 1, 1) := by decide +kernel
theorem dX10_as_2 : decode cX10_as 2 = .ok (.invokevirtual 123, 3) := by decide +kernel
theorem dX10_as_5 : decode cX10_as 5 = .ok (.ifCond .eq 12, 3) := by decide +kernel
theorem dX10_as_8 : decode cX10_as 8 = .ok (.iload_n 2, 1) := by decide +kernel
theorem dX10_as_9 : decode cX10_as 9 = .ok (.iconst 0, 1) := by decide +kernel
theorem dX10_as_10 : decode cX10_as 10 = .ok (.iconst 5, 1) := by decide +kernel
theorem dX10_as_11 : decode cX10_as 11 = .ok (.invokestatic 44, 3) := by decide +kernel
theorem dX10_as_14 : decode cX10_as 14 = .ok (.ifCond .ne 9, 3) := by decide +kernel
theorem dX10_as_17 : decode cX10_as 17 = .ok (.aload_n 0, 1) := by decide +kernel
theorem dX10_as_18 : decode cX10_as 18 = .ok (.iconst 1, 1) := by decide +kernel
theorem dX10_as_19 : decode cX10_as 19 = .ok (.invokevirtual 115, 3) := by decide +kernel
theorem dX10_as_22 : decode cX10_as 22 = .ok (.ireturn, 1) := by decide +kernel
theorem dX10_as_23 : decode cX10_as 23 = .ok (.aload_n 0, 1) := by decide +kernel
theorem dX10_as_24 : decode cX10_as 24 = .ok (.iload_n 1, 1) := by decide +kernel
theorem dX10_as_25 : decode cX10_as 25 = .ok (.iconst 0, 1) := by decide +kernel
theorem dX10_as_26 : decode cX10_as 26 = .ok (.invokevirtual 48, 3) := by decide +kernel
theorem dX10_as_29 : decode cX10_as 29 = .ok (.istore_n 3, 1) := by decide +kernel
theorem dX10_as_30 : decode cX10_as 30 = .ok (.iload_n 2, 1) := by decide +kernel
theorem dX10_as_31 : decode cX10_as 31 = .ok (.ifCond .eq 33, 3) := by decide +kernel
theorem dX10_as_34 : decode cX10_as 34 = .ok (.iload_n 3, 1) := by decide +kernel
theorem dX10_as_35 : decode cX10_as 35 = .ok (.iload_n 2, 1) := by decide +kernel
theorem dX10_as_36 : decode cX10_as 36 = .ok (.if_icmp .eq 28, 3) := by decide +kernel
theorem dX10_as_39 : decode cX10_as 39 = .ok (.iload_n 2, 1) := by decide +kernel
theorem dX10_as_40 : decode cX10_as 40 = .ok (.iconst 1, 1) := by decide +kernel
theorem dX10_as_41 : decode cX10_as 41 = .ok (.if_icmp .ne 13, 3) := by decide +kernel
theorem dX10_as_44 : decode cX10_as 44 = .ok (.iload_n 3, 1) := by decide +kernel
theorem dX10_as_45 : decode cX10_as 45 = .ok (.iconst 3, 1) := by decide +kernel
theorem dX10_as_46 : decode cX10_as 46 = .ok (.if_icmp .eq 18, 3) := by decide +kernel
theorem dX10_as_49 : decode cX10_as 49 = .ok (.iload_n 3, 1) := by decide +kernel
theorem dX10_as_50 : decode cX10_as 50 = .ok (.iconst 5, 1) := by decide +kernel
theorem dX10_as_51 : decode cX10_as 51 = .ok (.if_icmp .eq 13, 3) := by decide +kernel
theorem dX10_as_54 : decode cX10_as 54 = .ok (.iload_n 2, 1) := by decide +kernel
theorem dX10_as_55 : decode cX10_as 55 = .ok (.iconst 2, 1) := by decide +kernel
theorem dX10_as_56 : decode cX10_as 56 = .ok (.if_icmp .ne 12, 3) := by decide +kernel
theorem dX10_as_59 : decode cX10_as 59 = .ok (.iload_n 3, 1) := by decide +kernel
theorem dX10_as_60 : decode cX10_as 60 = .ok (.iconst 4, 1) := by decide +kernel
theorem dX10_as_61 : decode cX10_as 61 = .ok (.if_icmp .ne 7, 3) := by decide +kernel
theorem dX10_as_64 : decode cX10_as 64 = .ok (.iconst 1, 1) := by decide +kernel
theorem dX10_as_65 : decode cX10_as 65 = .ok (.goto 4, 3) := by decide +kernel
theorem dX10_as_68 : decode cX10_as 68 = .ok (.iconst 0, 1) := by decide +kernel
theorem dX10_as_69 : decode cX10_as 69 = .ok (.istore 4, 2) := by decide +kernel
theorem dX10_as_71 : decode cX10_as 71 = .ok (.iload 4, 2) := by decide +kernel
theorem dX10_as_73 : decode cX10_as 73 = .ok (.ifCond .eq 12, 3) := by decide +kernel
theorem dX10_as_76 : decode cX10_as 76 = .ok (.aload_n 0, 1) := by decide +kernel
theorem dX10_as_77 : decode cX10_as 77 = .ok (.iload_n 1, 1) := by decide +kernel
theorem dX10_as_78 : decode cX10_as 78 = .ok (.iconst 3, 1) := by decide +kernel
theorem dX10_as_79 : decode cX10_as 79 = .ok (.invokevirtual 48, 3) := by decide +kernel
theorem dX10_as_82 : decode cX10_as 82 = .ok (.goto 8, 3) := by decide +kernel
theorem dX10_as_85 : decode cX10_as 85 = .ok (.aload_n 0, 1) := by decide +kernel
theorem dX10_as_86 : decode cX10_as 86 = .ok (.iconst 5, 1) := by decide +kernel
theorem dX10_as_87 : decode cX10_as 87 = .ok (.invokevirtual 115, 3) := by decide +kernel
theorem dX10_as_90 : decode cX10_as 90 = .ok (.ireturn, 1) := by decide +kernel
theorem dX10_meterIs_0 : decode cX10_meterIs 0 = .ok (.aload_n 0, 1) := by decide +kernel
theorem dX10_meterIs_1 : decode cX10_meterIs 1 = .ok (.iload_n 1, 1) := by decide +kernel
theorem dX10_meterIs_2 : decode cX10_meterIs 2 = .ok (.invokevirtual 123, 3) := by decide +kernel
theorem dX10_meterIs_5 : decode cX10_meterIs 5 = .ok (.ifCond .eq 13, 3) := by decide +kernel
theorem dX10_meterIs_8 : decode cX10_meterIs 8 = .ok (.iload_n 2, 1) := by decide +kernel
theorem dX10_meterIs_9 : decode cX10_meterIs 9 = .ok (.iconst 0, 1) := by decide +kernel
theorem dX10_meterIs_10 : decode cX10_meterIs 10 = .ok (.bipush 11, 2) := by decide +kernel
theorem dX10_meterIs_12 : decode cX10_meterIs 12 = .ok (.invokestatic 44, 3) := by decide +kernel
theorem dX10_meterIs_15 : decode cX10_meterIs 15 = .ok (.ifCond .ne 9, 3) := by decide +kernel
theorem dX10_meterIs_18 : decode cX10_meterIs 18 = .ok (.aload_n 0, 1) := by decide +kernel
theorem dX10_meterIs_19 : decode cX10_meterIs 19 = .ok (.iconst 1, 1) := by decide +kernel
theorem dX10_meterIs_20 : decode cX10_meterIs 20 = .ok (.invokevirtual 115, 3) := by decide +kernel
theorem dX10_meterIs_23 : decode cX10_meterIs 23 = .ok (.ireturn, 1) := by decide +kernel
theorem dX10_meterIs_24 : decode cX10_meterIs 24 = .ok (.iload_n 2, 1) := by decide +kernel
theorem dX10_meterIs_25 : decode cX10_meterIs 25 = .ok (.tableswitch 141 0 10 #[59, 66, 73, 80, 87, 95, 103, 111, 119, 127, 135], 59) := by decide +kernel
theorem dX10_meterIs_84 : decode cX10_meterIs 84 = .ok (.aload_n 0, 1) := by decide +kernel
theorem dX10_meterIs_85 : decode cX10_meterIs 85 = .ok (.iload_n 1, 1) := by decide +kernel
theorem dX10_meterIs_86 : decode cX10_meterIs 86 = .ok (.iconst 0, 1) := by decide +kernel
theorem dX10_meterIs_87 : decode cX10_meterIs 87 = .ok (.invokevirtual 48, 3) := by decide +kernel
theorem dX10_meterIs_90 : decode cX10_meterIs 90 = .ok (.ireturn, 1) := by decide +kernel
theorem dX10_meterIs_91 : decode cX10_meterIs 91 = .ok (.aload_n 0, 1) := by decide +kernel
theorem dX10_meterIs_92 : decode cX10_meterIs 92 = .ok (.iload_n 1, 1) := by decide +kernel
theorem dX10_meterIs_93 : decode cX10_meterIs 93 = .ok (.iconst 3, 1) := by decide +kernel
theorem dX10_meterIs_94 : decode cX10_meterIs 94 = .ok (.invokevirtual 48, 3) := by decide +kernel
theorem dX10_meterIs_97 : decode cX10_meterIs 97 = .ok (.ireturn, 1) := by decide +kernel
theorem dX10_meterIs_98 : decode cX10_meterIs 98 = .ok (.aload_n 0, 1) := by decide +kernel
theorem dX10_meterIs_99 : decode cX10_meterIs 99 = .ok (.iload_n 1, 1) := by decide +kernel
theorem dX10_meterIs_100 : decode cX10_meterIs 100 = .ok (.iconst 4, 1) := by decide +kernel
theorem dX10_meterIs_101 : decode cX10_meterIs 101 = .ok (.invokevirtual 48, 3) := by decide +kernel
theorem dX10_meterIs_104 : decode cX10_meterIs 104 = .ok (.ireturn, 1) := by decide +kernel
theorem dX10_meterIs_105 : decode cX10_meterIs 105 = .ok (.aload_n 0, 1) := by decide +kernel
theorem dX10_meterIs_106 : decode cX10_meterIs 106 = .ok (.iload_n 1, 1) := by decide +kernel
theorem dX10_meterIs_107 : decode cX10_meterIs 107 = .ok (.iconst 5, 1) := by decide +kernel
theorem dX10_meterIs_108 : decode cX10_meterIs 108 = .ok (.invokevirtual 48, 3) := by decide +kernel
theorem dX10_meterIs_111 : decode cX10_meterIs 111 = .ok (.ireturn, 1) := by decide +kernel
theorem dX10_meterIs_112 : decode cX10_meterIs 112 = .ok (.aload_n 0, 1) := by decide +kernel
theorem dX10_meterIs_113 : decode cX10_meterIs 113 = .ok (.iload_n 1, 1) := by decide +kernel
theorem dX10_meterIs_114 : decode cX10_meterIs 114 = .ok (.bipush 6, 2) := by decide +kernel
theorem dX10_meterIs_116 : decode cX10_meterIs 116 = .ok (.invokevirtual 48, 3) := by decide +kernel
theorem dX10_meterIs_119 : decode cX10_meterIs 119 = .ok (.ireturn, 1) := by decide +kernel
theorem dX10_meterIs_120 : decode cX10_meterIs 120 = .ok (.aload_n 0, 1) := by decide +kernel
theorem dX10_meterIs_121 : decode cX10_meterIs 121 = .ok (.iload_n 1, 1) := by decide +kernel
theorem dX10_meterIs_122 : decode cX10_meterIs 122 = .ok (.bipush 7, 2) := by decide +kernel
theorem dX10_meterIs_124 : decode cX10_meterIs 124 = .ok (.invokevirtual 48, 3) := by decide +kernel
theorem dX10_meterIs_127 : decode cX10_meterIs 127 = .ok (.ireturn, 1) := by decide +kernel
theorem dX10_meterIs_128 : decode cX10_meterIs 128 = .ok (.aload_n 0, 1) := by decide +kernel
theorem dX10_meterIs_129 : decode cX10_meterIs 129 = .ok (.iload_n 1, 1) := by decide +kernel
theorem dX10_meterIs_130 : decode cX10_meterIs 130 = .ok (.bipush 8, 2) := by decide +kernel
theorem dX10_meterIs_132 : decode cX10_meterIs 132 = .ok (.invokevirtual 48, 3) := by decide +kernel
theorem dX10_meterIs_135 : decode cX10_meterIs 135 = .ok (.ireturn, 1) := by decide +kernel
theorem dX10_meterIs_136 : decode cX10_meterIs 136 = .ok (.aload_n 0, 1) := by decide +kernel
theorem dX10_meterIs_137 : decode cX10_meterIs 137 = .ok (.iload_n 1, 1) := by decide +kernel
theorem dX10_meterIs_138 : decode cX10_meterIs 138 = .ok (.bipush 9, 2) := by decide +kernel
theorem dX10_meterIs_140 : decode cX10_meterIs 140 = .ok (.invokevirtual 48, 3) := by decide +kernel
theorem dX10_meterIs_143 : decode cX10_meterIs 143 = .ok (.ireturn, 1) := by decide +kernel
theorem dX10_meterIs_144 : decode cX10_meterIs 144 = .ok (.aload_n 0, 1) := by decide +kernel
theorem dX10_meterIs_145 : decode cX10_meterIs 145 = .ok (.iload_n 1, 1) := by decide +kernel
theorem dX10_meterIs_146 : decode cX10_meterIs 146 = .ok (.bipush 10, 2) := by decide +kernel
theorem dX10_meterIs_148 : decode cX10_meterIs 148 = .ok (.invokevirtual 48, 3) := by decide +kernel
theorem dX10_meterIs_151 : decode cX10_meterIs 151 = .ok (.ireturn, 1) := by decide +kernel
theorem dX10_meterIs_152 : decode cX10_meterIs 152 = .ok (.aload_n 0, 1) := by decide +kernel
theorem dX10_meterIs_153 : decode cX10_meterIs 153 = .ok (.iload_n 1, 1) := by decide +kernel
theorem dX10_meterIs_154 : decode cX10_meterIs 154 = .ok (.bipush 11, 2) := by decide +kernel
theorem dX10_meterIs_156 : decode cX10_meterIs 156 = .ok (.invokevirtual 48, 3) := by decide +kernel
theorem dX10_meterIs_159 : decode cX10_meterIs 159 = .ok (.ireturn, 1) := by decide +kernel
theorem dX10_meterIs_160 : decode cX10_meterIs 160 = .ok (.aload_n 0, 1) := by decide +kernel
theorem dX10_meterIs_161 : decode cX10_meterIs 161 = .ok (.iload_n 1, 1) := by decide +kernel
theorem dX10_meterIs_162 : decode cX10_meterIs 162 = .ok (.invokevirtual 126, 3) := by decide +kernel
theorem dX10_meterIs_165 : decode cX10_meterIs 165 = .ok (.ireturn, 1) := by decide +kernel
theorem dX10_meterIs_166 : decode cX10_meterIs 166 = .ok (.aload_n 0, 1) := by decide +kernel
theorem dX10_meterIs_167 : decode cX10_meterIs 167 = .ok (.iload_n 1, 1) := by decide +kernel
theorem dX10_meterIs_168 : decode cX10_meterIs 168 = .ok (.invokevirtual 129, 3) := by decide +kernel
theorem dX10_meterIs_171 : decode cX10_meterIs 171 = .ok (.ireturn, 1) := by decide +kernel
theorem dX10_load_0 : decode cX10_load 0 = .ok (.aload_n 0, 1) := by decide +kernel
theorem dX10_load_1 : decode cX10_load 1 = .ok (.iload_n 1, 1) := by decide +kernel
theorem dX10_load_2 : decode cX10_load 2 = .ok (.invokevirtual 123, 3) := by decide +kernel
theorem dX10_load_5 : decode cX10_load 5 = .ok (.ifCond .eq 23, 3) := by decide +kernel
theorem dX10_load_8 : decode cX10_load 8 = .ok (.iload_n 2, 1) := by decide +kernel
theorem dX10_load_9 : decode cX10_load 9 = .ok (.iconst 0, 1) := by decide +kernel
theorem dX10_load_10 : decode cX10_load 10 = .ok (.bipush 23, 2) := by decide +kernel
theorem dX10_load_12 : decode cX10_load 12 = .ok (.invokestatic 44, 3) := by decide +kernel
theorem dX10_load_15 : decode cX10_load 15 = .ok (.ifCond .eq 13, 3) := by decide +kernel
theorem dX10_load_18 : decode cX10_load 18 = .ok (.iload_n 3, 1) := by decide +kernel
theorem dX10_load_19 : decode cX10_load 19 = .ok (.iconst 0, 1) := by decide +kernel
theorem dX10_load_20 : decode cX10_load 20 = .ok (.bipush 9, 2) := by decide +kernel
theorem dX10_load_22 : decode cX10_load 22 = .ok (.invokestatic 44, 3) := by decide +kernel
theorem dX10_load_25 : decode cX10_load 25 = .ok (.ifCond .ne 9, 3) := by decide +kernel
theorem dX10_load_28 : decode cX10_load 28 = .ok (.aload_n 0, 1) := by decide +kernel
theorem dX10_load_29 : decode cX10_load 29 = .ok (.iconst 1, 1) := by decide +kernel
theorem dX10_load_30 : decode cX10_load 30 = .ok (.invokevirtual 115, 3) := by decide +kernel
theorem dX10_load_33 : decode cX10_load 33 = .ok (.ireturn, 1) := by decide +kernel
theorem dX10_load_34 : decode cX10_load 34 = .ok (.aload_n 0, 1) := by decide +kernel
theorem dX10_load_35 : decode cX10_load 35 = .ok (.iload_n 1, 1) := by decide +kernel
theorem dX10_load_36 : decode cX10_load 36 = .ok (.bipush 13, 2) := by decide +kernel
theorem dX10_load_38 : decode cX10_load 38 = .ok (.iload_n 2, 1) := by decide +kernel
theorem dX10_load_39 : decode cX10_load 39 = .ok (.iadd, 1) := by decide +kernel
theorem dX10_load_40 : decode cX10_load 40 = .ok (.invokevirtual 48, 3) := by decide +kernel
theorem dX10_load_43 : decode cX10_load 43 = .ok (.istore 4, 2) := by decide +kernel
theorem dX10_load_45 : decode cX10_load 45 = .ok (.aload_n 0, 1) := by decide +kernel
theorem dX10_load_46 : decode cX10_load 46 = .ok (.iload_n 1, 1) := by decide +kernel
theorem dX10_load_47 : decode cX10_load 47 = .ok (.bipush 13, 2) := by decide +kernel
theorem dX10_load_49 : decode cX10_load 49 = .ok (.iload_n 2, 1) := by decide +kernel
theorem dX10_load_50 : decode cX10_load 50 = .ok (.iadd, 1) := by decide +kernel
theorem dX10_load_51 : decode cX10_load 51 = .ok (.iload_n 3, 1) := by decide +kernel
theorem dX10_load_52 : decode cX10_load 52 = .ok (.invokevirtual 119, 3) := by decide +kernel
theorem dX10_load_55 : decode cX10_load 55 = .ok (.iload 4, 2) := by decide +kernel
theorem dX10_load_57 : decode cX10_load 57 = .ok (.ireturn, 1) := by decide +kernel
theorem dX10_owe_0 : decode cX10_owe 0 = .ok (.aload_n 0, 1) := by decide +kernel
theorem dX10_owe_1 : decode cX10_owe 1 = .ok (.iload_n 1, 1) := by decide +kernel
theorem dX10_owe_2 : decode cX10_owe 2 = .ok (.invokevirtual 123, 3) := by decide +kernel
theorem dX10_owe_5 : decode cX10_owe 5 = .ok (.ifCond .eq 14, 3) := by decide +kernel
theorem dX10_owe_8 : decode cX10_owe 8 = .ok (.iload_n 2, 1) := by decide +kernel
theorem dX10_owe_9 : decode cX10_owe 9 = .ok (.iconst 1, 1) := by decide +kernel
theorem dX10_owe_10 : decode cX10_owe 10 = .ok (.sipush 9999, 3) := by decide +kernel
theorem dX10_owe_13 : decode cX10_owe 13 = .ok (.invokestatic 44, 3) := by decide +kernel
theorem dX10_owe_16 : decode cX10_owe 16 = .ok (.ifCond .ne 9, 3) := by decide +kernel
theorem dX10_owe_19 : decode cX10_owe 19 = .ok (.aload_n 0, 1) := by decide +kernel
theorem dX10_owe_20 : decode cX10_owe 20 = .ok (.iconst 1, 1) := by decide +kernel
theorem dX10_owe_21 : decode cX10_owe 21 = .ok (.invokevirtual 115, 3) := by decide +kernel
theorem dX10_owe_24 : decode cX10_owe 24 = .ok (.ireturn, 1) := by decide +kernel
theorem dX10_owe_25 : decode cX10_owe 25 = .ok (.aload_n 0, 1) := by decide +kernel
theorem dX10_owe_26 : decode cX10_owe 26 = .ok (.iload_n 1, 1) := by decide +kernel
theorem dX10_owe_27 : decode cX10_owe 27 = .ok (.iconst 4, 1) := by decide +kernel
theorem dX10_owe_28 : decode cX10_owe 28 = .ok (.invokevirtual 48, 3) := by decide +kernel
theorem dX10_owe_31 : decode cX10_owe 31 = .ok (.iload_n 2, 1) := by decide +kernel
theorem dX10_owe_32 : decode cX10_owe 32 = .ok (.iadd, 1) := by decide +kernel
theorem dX10_owe_33 : decode cX10_owe 33 = .ok (.ldc 132, 2) := by decide +kernel
theorem dX10_owe_35 : decode cX10_owe 35 = .ok (.if_icmp .le 9, 3) := by decide +kernel
theorem dX10_owe_38 : decode cX10_owe 38 = .ok (.aload_n 0, 1) := by decide +kernel
theorem dX10_owe_39 : decode cX10_owe 39 = .ok (.iconst 4, 1) := by decide +kernel
theorem dX10_owe_40 : decode cX10_owe 40 = .ok (.invokevirtual 115, 3) := by decide +kernel
theorem dX10_owe_43 : decode cX10_owe 43 = .ok (.ireturn, 1) := by decide +kernel
theorem dX10_owe_44 : decode cX10_owe 44 = .ok (.aload_n 0, 1) := by decide +kernel
theorem dX10_owe_45 : decode cX10_owe 45 = .ok (.iload_n 1, 1) := by decide +kernel
theorem dX10_owe_46 : decode cX10_owe 46 = .ok (.iconst 4, 1) := by decide +kernel
theorem dX10_owe_47 : decode cX10_owe 47 = .ok (.iload_n 2, 1) := by decide +kernel
theorem dX10_owe_48 : decode cX10_owe 48 = .ok (.invokevirtual 133, 3) := by decide +kernel
theorem dX10_owe_51 : decode cX10_owe 51 = .ok (.aload_n 0, 1) := by decide +kernel
theorem dX10_owe_52 : decode cX10_owe 52 = .ok (.iload_n 1, 1) := by decide +kernel
theorem dX10_owe_53 : decode cX10_owe 53 = .ok (.iconst 4, 1) := by decide +kernel
theorem dX10_owe_54 : decode cX10_owe 54 = .ok (.invokevirtual 48, 3) := by decide +kernel
theorem dX10_owe_57 : decode cX10_owe 57 = .ok (.ireturn, 1) := by decide +kernel
theorem dX10_part_0 : decode cX10_part 0 = .ok (.aload_n 0, 1) := by decide +kernel
theorem dX10_part_1 : decode cX10_part 1 = .ok (.iload_n 1, 1) := by decide +kernel
theorem dX10_part_2 : decode cX10_part 2 = .ok (.invokevirtual 123, 3) := by decide +kernel
theorem dX10_part_5 : decode cX10_part 5 = .ok (.ifCond .eq 14, 3) := by decide +kernel
theorem dX10_part_8 : decode cX10_part 8 = .ok (.iload_n 2, 1) := by decide +kernel
theorem dX10_part_9 : decode cX10_part 9 = .ok (.iconst 0, 1) := by decide +kernel
theorem dX10_part_10 : decode cX10_part 10 = .ok (.sipush 200, 3) := by decide +kernel
theorem dX10_part_13 : decode cX10_part 13 = .ok (.invokestatic 44, 3) := by decide +kernel
theorem dX10_part_16 : decode cX10_part 16 = .ok (.ifCond .ne 9, 3) := by decide +kernel
theorem dX10_part_19 : decode cX10_part 19 = .ok (.aload_n 0, 1) := by decide +kernel
theorem dX10_part_20 : decode cX10_part 20 = .ok (.iconst 1, 1) := by decide +kernel
theorem dX10_part_21 : decode cX10_part 21 = .ok (.invokevirtual 115, 3) := by decide +kernel
theorem dX10_part_24 : decode cX10_part 24 = .ok (.ireturn, 1) := by decide +kernel
theorem dX10_part_25 : decode cX10_part 25 = .ok (.aload_n 0, 1) := by decide +kernel
theorem dX10_part_26 : decode cX10_part 26 = .ok (.iload_n 1, 1) := by decide +kernel
theorem dX10_part_27 : decode cX10_part 27 = .ok (.iconst 5, 1) := by decide +kernel
theorem dX10_part_28 : decode cX10_part 28 = .ok (.invokevirtual 48, 3) := by decide +kernel
theorem dX10_part_31 : decode cX10_part 31 = .ok (.istore_n 3, 1) := by decide +kernel
theorem dX10_part_32 : decode cX10_part 32 = .ok (.aload_n 0, 1) := by decide +kernel
theorem dX10_part_33 : decode cX10_part 33 = .ok (.iload_n 1, 1) := by decide +kernel
theorem dX10_part_34 : decode cX10_part 34 = .ok (.iconst 5, 1) := by decide +kernel
theorem dX10_part_35 : decode cX10_part 35 = .ok (.iload_n 2, 1) := by decide +kernel
theorem dX10_part_36 : decode cX10_part 36 = .ok (.invokevirtual 119, 3) := by decide +kernel
theorem dX10_part_39 : decode cX10_part 39 = .ok (.iload_n 3, 1) := by decide +kernel
theorem dX10_part_40 : decode cX10_part 40 = .ok (.ireturn, 1) := by decide +kernel
theorem dX10_moveIn_0 : decode cX10_moveIn 0 = .ok (.aload_n 0, 1) := by decide +kernel
theorem dX10_moveIn_1 : decode cX10_moveIn 1 = .ok (.iload_n 1, 1) := by decide +kernel
theorem dX10_moveIn_2 : decode cX10_moveIn 2 = .ok (.invokevirtual 123, 3) := by decide +kernel
theorem dX10_moveIn_5 : decode cX10_moveIn 5 = .ok (.ifCond .ne 9, 3) := by decide +kernel
theorem dX10_moveIn_8 : decode cX10_moveIn 8 = .ok (.aload_n 0, 1) := by decide +kernel
theorem dX10_moveIn_9 : decode cX10_moveIn 9 = .ok (.iconst 1, 1) := by decide +kernel
theorem dX10_moveIn_10 : decode cX10_moveIn 10 = .ok (.invokevirtual 115, 3) := by decide +kernel
theorem dX10_moveIn_13 : decode cX10_moveIn 13 = .ok (.ireturn, 1) := by decide +kernel
theorem dX10_moveIn_14 : decode cX10_moveIn 14 = .ok (.aload_n 0, 1) := by decide +kernel
theorem dX10_moveIn_15 : decode cX10_moveIn 15 = .ok (.iload_n 1, 1) := by decide +kernel
theorem dX10_moveIn_16 : decode cX10_moveIn 16 = .ok (.iconst 4, 1) := by decide +kernel
theorem dX10_moveIn_17 : decode cX10_moveIn 17 = .ok (.invokevirtual 48, 3) := by decide +kernel
theorem dX10_moveIn_20 : decode cX10_moveIn 20 = .ok (.istore_n 2, 1) := by decide +kernel
theorem dX10_moveIn_21 : decode cX10_moveIn 21 = .ok (.aload_n 0, 1) := by decide +kernel
theorem dX10_moveIn_22 : decode cX10_moveIn 22 = .ok (.iload_n 1, 1) := by decide +kernel
theorem dX10_moveIn_23 : decode cX10_moveIn 23 = .ok (.iconst 4, 1) := by decide +kernel
theorem dX10_moveIn_24 : decode cX10_moveIn 24 = .ok (.iconst 0, 1) := by decide +kernel
theorem dX10_moveIn_25 : decode cX10_moveIn 25 = .ok (.invokevirtual 119, 3) := by decide +kernel
theorem dX10_moveIn_28 : decode cX10_moveIn 28 = .ok (.aload_n 0, 1) := by decide +kernel
theorem dX10_moveIn_29 : decode cX10_moveIn 29 = .ok (.iload_n 1, 1) := by decide +kernel
theorem dX10_moveIn_30 : decode cX10_moveIn 30 = .ok (.iconst 3, 1) := by decide +kernel
theorem dX10_moveIn_31 : decode cX10_moveIn 31 = .ok (.aload_n 0, 1) := by decide +kernel
theorem dX10_moveIn_32 : decode cX10_moveIn 32 = .ok (.iload_n 1, 1) := by decide +kernel
theorem dX10_moveIn_33 : decode cX10_moveIn 33 = .ok (.iconst 3, 1) := by decide +kernel
theorem dX10_moveIn_34 : decode cX10_moveIn 34 = .ok (.invokevirtual 48, 3) := by decide +kernel
theorem dX10_moveIn_37 : decode cX10_moveIn 37 = .ok (.ifCond .ge 7, 3) := by decide +kernel
theorem dX10_moveIn_40 : decode cX10_moveIn 40 = .ok (.iconst 0, 1) := by decide +kernel
theorem dX10_moveIn_41 : decode cX10_moveIn 41 = .ok (.goto 9, 3) := by decide +kernel
theorem dX10_moveIn_44 : decode cX10_moveIn 44 = .ok (.aload_n 0, 1) := by decide +kernel
theorem dX10_moveIn_45 : decode cX10_moveIn 45 = .ok (.iload_n 1, 1) := by decide +kernel
theorem dX10_moveIn_46 : decode cX10_moveIn 46 = .ok (.iconst 3, 1) := by decide +kernel
theorem dX10_moveIn_47 : decode cX10_moveIn 47 = .ok (.invokevirtual 48, 3) := by decide +kernel
theorem dX10_moveIn_50 : decode cX10_moveIn 50 = .ok (.invokevirtual 119, 3) := by decide +kernel
theorem dX10_moveIn_53 : decode cX10_moveIn 53 = .ok (.aload_n 0, 1) := by decide +kernel
theorem dX10_moveIn_54 : decode cX10_moveIn 54 = .ok (.iload_n 1, 1) := by decide +kernel
theorem dX10_moveIn_55 : decode cX10_moveIn 55 = .ok (.bipush 11, 2) := by decide +kernel
theorem dX10_moveIn_57 : decode cX10_moveIn 57 = .ok (.iconst 0, 1) := by decide +kernel
theorem dX10_moveIn_58 : decode cX10_moveIn 58 = .ok (.invokevirtual 119, 3) := by decide +kernel
theorem dX10_moveIn_61 : decode cX10_moveIn 61 = .ok (.iload_n 2, 1) := by decide +kernel
theorem dX10_moveIn_62 : decode cX10_moveIn 62 = .ok (.ireturn, 1) := by decide +kernel
theorem dX10_force_0 : decode cX10_force 0 = .ok (.aload_n 0, 1) := by decide +kernel
theorem dX10_force_1 : decode cX10_force 1 = .ok (.iload_n 1, 1) := by decide +kernel
theorem dX10_force_2 : decode cX10_force 2 = .ok (.invokevirtual 123, 3) := by decide +kernel
theorem dX10_force_5 : decode cX10_force 5 = .ok (.ifCond .ne 9, 3) := by decide +kernel
theorem dX10_force_8 : decode cX10_force 8 = .ok (.aload_n 0, 1) := by decide +kernel
theorem dX10_force_9 : decode cX10_force 9 = .ok (.iconst 1, 1) := by decide +kernel
theorem dX10_force_10 : decode cX10_force 10 = .ok (.invokevirtual 115, 3) := by decide +kernel
theorem dX10_force_13 : decode cX10_force 13 = .ok (.ireturn, 1) := by decide +kernel
theorem dX10_force_14 : decode cX10_force 14 = .ok (.aload_n 0, 1) := by decide +kernel
theorem dX10_force_15 : decode cX10_force 15 = .ok (.iload_n 1, 1) := by decide +kernel
theorem dX10_force_16 : decode cX10_force 16 = .ok (.iconst 0, 1) := by decide +kernel
theorem dX10_force_17 : decode cX10_force 17 = .ok (.invokevirtual 48, 3) := by decide +kernel
theorem dX10_force_20 : decode cX10_force 20 = .ok (.iconst 1, 1) := by decide +kernel
theorem dX10_force_21 : decode cX10_force 21 = .ok (.if_icmp .eq 9, 3) := by decide +kernel
theorem dX10_force_24 : decode cX10_force 24 = .ok (.aload_n 0, 1) := by decide +kernel
theorem dX10_force_25 : decode cX10_force 25 = .ok (.iconst 5, 1) := by decide +kernel
theorem dX10_force_26 : decode cX10_force 26 = .ok (.invokevirtual 115, 3) := by decide +kernel
theorem dX10_force_29 : decode cX10_force 29 = .ok (.ireturn, 1) := by decide +kernel
theorem dX10_force_30 : decode cX10_force 30 = .ok (.aload_n 0, 1) := by decide +kernel
theorem dX10_force_31 : decode cX10_force 31 = .ok (.iconst 3, 1) := by decide +kernel
theorem dX10_force_32 : decode cX10_force 32 = .ok (.aload_n 0, 1) := by decide +kernel
theorem dX10_force_33 : decode cX10_force 33 = .ok (.getfield 7, 3) := by decide +kernel
theorem dX10_force_36 : decode cX10_force 36 = .ok (.iconst 0, 1) := by decide +kernel
theorem dX10_force_37 : decode cX10_force 37 = .ok (.iaload, 1) := by decide +kernel
theorem dX10_force_38 : decode cX10_force 38 = .ok (.invokevirtual 109, 3) := by decide +kernel
theorem dX10_force_41 : decode cX10_force 41 = .ok (.istore_n 2, 1) := by decide +kernel
theorem dX10_force_42 : decode cX10_force 42 = .ok (.iload_n 2, 1) := by decide +kernel
theorem dX10_force_43 : decode cX10_force 43 = .ok (.ifCond .ge 23, 3) := by decide +kernel
theorem dX10_force_46 : decode cX10_force 46 = .ok (.aload_n 0, 1) := by decide +kernel
theorem dX10_force_47 : decode cX10_force 47 = .ok (.iload_n 1, 1) := by decide +kernel
theorem dX10_force_48 : decode cX10_force 48 = .ok (.iconst 4, 1) := by decide +kernel
theorem dX10_force_49 : decode cX10_force 49 = .ok (.invokevirtual 48, 3) := by decide +kernel
theorem dX10_force_52 : decode cX10_force 52 = .ok (.sipush 10000, 3) := by decide +kernel
theorem dX10_force_55 : decode cX10_force 55 = .ok (.if_icmp .le 7, 3) := by decide +kernel
theorem dX10_force_58 : decode cX10_force 58 = .ok (.iconst 1, 1) := by decide +kernel
theorem dX10_force_59 : decode cX10_force 59 = .ok (.goto 37, 3) := by decide +kernel
theorem dX10_force_62 : decode cX10_force 62 = .ok (.iconst 0, 1) := by decide +kernel
theorem dX10_force_63 : decode cX10_force 63 = .ok (.goto 33, 3) := by decide +kernel
theorem dX10_force_66 : decode cX10_force 66 = .ok (.aload_n 0, 1) := by decide +kernel
theorem dX10_force_67 : decode cX10_force 67 = .ok (.iload_n 2, 1) := by decide +kernel
theorem dX10_force_68 : decode cX10_force 68 = .ok (.iload_n 1, 1) := by decide +kernel
theorem dX10_force_69 : decode cX10_force 69 = .ok (.aload_n 0, 1) := by decide +kernel
theorem dX10_force_70 : decode cX10_force 70 = .ok (.getfield 7, 3) := by decide +kernel
theorem dX10_force_73 : decode cX10_force 73 = .ok (.iconst 0, 1) := by decide +kernel
theorem dX10_force_74 : decode cX10_force 74 = .ok (.iaload, 1) := by decide +kernel
theorem dX10_force_75 : decode cX10_force 75 = .ok (.iconst 0, 1) := by decide +kernel
theorem dX10_force_76 : decode cX10_force 76 = .ok (.invokevirtual 98, 3) := by decide +kernel
theorem dX10_force_79 : decode cX10_force 79 = .ok (.ifCond .eq 16, 3) := by decide +kernel
theorem dX10_force_82 : decode cX10_force 82 = .ok (.aload_n 0, 1) := by decide +kernel
theorem dX10_force_83 : decode cX10_force 83 = .ok (.iload_n 1, 1) := by decide +kernel
theorem dX10_force_84 : decode cX10_force 84 = .ok (.iconst 4, 1) := by decide +kernel
theorem dX10_force_85 : decode cX10_force 85 = .ok (.invokevirtual 48, 3) := by decide +kernel
theorem dX10_force_88 : decode cX10_force 88 = .ok (.ifCond .le 7, 3) := by decide +kernel
theorem dX10_force_91 : decode cX10_force 91 = .ok (.iconst 1, 1) := by decide +kernel
theorem dX10_force_92 : decode cX10_force 92 = .ok (.goto 4, 3) := by decide +kernel
theorem dX10_force_95 : decode cX10_force 95 = .ok (.iconst 0, 1) := by decide +kernel
theorem dX10_force_96 : decode cX10_force 96 = .ok (.istore_n 3, 1) := by decide +kernel
theorem dX10_force_97 : decode cX10_force 97 = .ok (.iload_n 3, 1) := by decide +kernel
theorem dX10_force_98 : decode cX10_force 98 = .ok (.ifCond .ne 9, 3) := by decide +kernel
theorem dX10_force_101 : decode cX10_force 101 = .ok (.aload_n 0, 1) := by decide +kernel
theorem dX10_force_102 : decode cX10_force 102 = .ok (.iconst 3, 1) := by decide +kernel
theorem dX10_force_103 : decode cX10_force 103 = .ok (.invokevirtual 115, 3) := by decide +kernel
theorem dX10_force_106 : decode cX10_force 106 = .ok (.ireturn, 1) := by decide +kernel
theorem dX10_force_107 : decode cX10_force 107 = .ok (.aload_n 0, 1) := by decide +kernel
theorem dX10_force_108 : decode cX10_force 108 = .ok (.iload_n 1, 1) := by decide +kernel
theorem dX10_force_109 : decode cX10_force 109 = .ok (.iconst 0, 1) := by decide +kernel
theorem dX10_force_110 : decode cX10_force 110 = .ok (.iconst 3, 1) := by decide +kernel
theorem dX10_force_111 : decode cX10_force 111 = .ok (.invokevirtual 119, 3) := by decide +kernel
theorem dX10_force_114 : decode cX10_force 114 = .ok (.aload_n 0, 1) := by decide +kernel
theorem dX10_force_115 : decode cX10_force 115 = .ok (.iload_n 1, 1) := by decide +kernel
theorem dX10_force_116 : decode cX10_force 116 = .ok (.bipush 7, 2) := by decide +kernel
theorem dX10_force_118 : decode cX10_force 118 = .ok (.iconst 0, 1) := by decide +kernel
theorem dX10_force_119 : decode cX10_force 119 = .ok (.invokevirtual 119, 3) := by decide +kernel
