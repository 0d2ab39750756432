theorem dX10_holds_63 : decode cX10_holds 63 = .ok (.bipush 24, 2) := by decide +kernel
theorem dX10_holds_65 : decode cX10_holds 65 = .ok (.iload_n 2, 1) := by decide +kernel
theorem dX10_holds_66 : decode cX10_holds 66 = .ok (.imul, 1) := by decide +kernel
theorem dX10_holds_67 : decode cX10_holds 67 = .ok (.iload 6, 2) := by decide +kernel
theorem dX10_holds_69 : decode cX10_holds 69 = .ok (.bipush 24, 2) := by decide +kernel
theorem dX10_holds_71 : decode cX10_holds 71 = .ok (.idiv, 1) := by decide +kernel
theorem dX10_holds_72 : decode cX10_holds 72 = .ok (.iadd, 1) := by decide +kernel
theorem dX10_holds_73 : decode cX10_holds 73 = .ok (.iaload, 1) := by decide +kernel
theorem dX10_holds_74 : decode cX10_holds 74 = .ok (.goto 4, 3) := by decide +kernel
theorem dX10_holds_77 : decode cX10_holds 77 = .ok (.iconst 0, 1) := by decide +kernel
theorem dX10_holds_78 : decode cX10_holds 78 = .ok (.istore 7, 2) := by decide +kernel
theorem dX10_holds_80 : decode cX10_holds 80 = .ok (.iload 7, 2) := by decide +kernel
theorem dX10_holds_82 : decode cX10_holds 82 = .ok (.ifCond .le 26, 3) := by decide +kernel
theorem dX10_holds_85 : decode cX10_holds 85 = .ok (.aload_n 0, 1) := by decide +kernel
theorem dX10_holds_86 : decode cX10_holds 86 = .ok (.iload_n 1, 1) := by decide +kernel
theorem dX10_holds_87 : decode cX10_holds 87 = .ok (.iload 7, 2) := by decide +kernel
theorem dX10_holds_89 : decode cX10_holds 89 = .ok (.sipush 9999, 3) := by decide +kernel
theorem dX10_holds_92 : decode cX10_holds 92 = .ok (.if_icmp .le 9, 3) := by decide +kernel
theorem dX10_holds_95 : decode cX10_holds 95 = .ok (.sipush 9999, 3) := by decide +kernel
theorem dX10_holds_98 : decode cX10_holds 98 = .ok (.goto 5, 3) := by decide +kernel
theorem dX10_holds_101 : decode cX10_holds 101 = .ok (.iload 7, 2) := by decide +kernel
theorem dX10_holds_103 : decode cX10_holds 103 = .ok (.invokevirtual 147, 3) := by decide +kernel
theorem dX10_holds_106 : decode cX10_holds 106 = .ok (.istore 8, 2) := by decide +kernel
theorem dX10_holds_108 : decode cX10_holds 108 = .ok (.aload_n 0, 1) := by decide +kernel
theorem dX10_holds_109 : decode cX10_holds 109 = .ok (.iload_n 1, 1) := by decide +kernel
theorem dX10_holds_110 : decode cX10_holds 110 = .ok (.invokevirtual 164, 3) := by decide +kernel
theorem dX10_holds_113 : decode cX10_holds 113 = .ok (.istore 8, 2) := by decide +kernel
theorem dX10_holds_115 : decode cX10_holds 115 = .ok (.aload_n 0, 1) := by decide +kernel
theorem dX10_holds_116 : decode cX10_holds 116 = .ok (.getfield 7, 3) := by decide +kernel
theorem dX10_holds_119 : decode cX10_holds 119 = .ok (.iconst 0, 1) := by decide +kernel
theorem dX10_holds_120 : decode cX10_holds 120 = .ok (.dup2, 1) := by decide +kernel
theorem dX10_holds_121 : decode cX10_holds 121 = .ok (.iaload, 1) := by decide +kernel
theorem dX10_holds_122 : decode cX10_holds 122 = .ok (.iconst 1, 1) := by decide +kernel
theorem dX10_holds_123 : decode cX10_holds 123 = .ok (.iadd, 1) := by decide +kernel
theorem dX10_holds_124 : decode cX10_holds 124 = .ok (.iastore, 1) := by decide +kernel
theorem dX10_holds_125 : decode cX10_holds 125 = .ok (.iinc 6 1, 3) := by decide +kernel
theorem dX10_holds_128 : decode cX10_holds 128 = .ok (.goto (-100), 3) := by decide +kernel
theorem dX10_holds_131 : decode cX10_holds 131 = .ok (.aload_n 0, 1) := by decide +kernel
theorem dX10_holds_132 : decode cX10_holds 132 = .ok (.iload_n 1, 1) := by decide +kernel
theorem dX10_holds_133 : decode cX10_holds 133 = .ok (.bipush 10, 2) := by decide +kernel
theorem dX10_holds_135 : decode cX10_holds 135 = .ok (.invokevirtual 48, 3) := by decide +kernel
theorem dX10_holds_138 : decode cX10_holds 138 = .ok (.iload 5, 2) := by decide +kernel
theorem dX10_holds_140 : decode cX10_holds 140 = .ok (.isub, 1) := by decide +kernel
theorem dX10_holds_141 : decode cX10_holds 141 = .ok (.istore 6, 2) := by decide +kernel
theorem dX10_holds_143 : decode cX10_holds 143 = .ok (.aload_n 0, 1) := by decide +kernel
theorem dX10_holds_144 : decode cX10_holds 144 = .ok (.aload_n 0, 1) := by decide +kernel
theorem dX10_holds_145 : decode cX10_holds 145 = .ok (.getfield 16, 3) := by decide +kernel
theorem dX10_holds_148 : decode cX10_holds 148 = .ok (.invokevirtual 172, 3) := by decide +kernel
theorem dX10_holds_151 : decode cX10_holds 151 = .ok (.iload 6, 2) := by decide +kernel
theorem dX10_holds_153 : decode cX10_holds 153 = .ok (.ireturn, 1) := by decide +kernel
theorem dX10_isHolding_0 : decode cX10_isHolding 0 = .ok (.aload_n 0, 1) := by decide +kernel
theorem dX10_isHolding_1 : decode cX10_isHolding 1 = .ok (.iload_n 1, 1) := by decide +kernel
theorem dX10_isHolding_2 : decode cX10_isHolding 2 = .ok (.invokevirtual 123, 3) := by decide +kernel
theorem dX10_isHolding_5 : decode cX10_isHolding 5 = .ok (.ifCond .eq 55, 3) := by decide +kernel
theorem dX10_isHolding_8 : decode cX10_isHolding 8 = .ok (.iload_n 2, 1) := by decide +kernel
theorem dX10_isHolding_9 : decode cX10_isHolding 9 = .ok (.iconst 0, 1) := by decide +kernel
theorem dX10_isHolding_10 : decode cX10_isHolding 10 = .ok (.iconst 3, 1) := by decide +kernel
theorem dX10_isHolding_11 : decode cX10_isHolding 11 = .ok (.invokestatic 44, 3) := by decide +kernel
theorem dX10_isHolding_14 : decode cX10_isHolding 14 = .ok (.ifCond .eq 46, 3) := by decide +kernel
theorem dX10_isHolding_17 : decode cX10_isHolding 17 = .ok (.iload_n 3, 1) := by decide +kernel
theorem dX10_isHolding_18 : decode cX10_isHolding 18 = .ok (.iconst 1, 1) := by decide +kernel
theorem dX10_isHolding_19 : decode cX10_isHolding 19 = .ok (.bipush 7, 2) := by decide +kernel
theorem dX10_isHolding_21 : decode cX10_isHolding 21 = .ok (.invokestatic 44, 3) := by decide +kernel
theorem dX10_isHolding_24 : decode cX10_isHolding 24 = .ok (.ifCond .eq 36, 3) := by decide +kernel
theorem dX10_isHolding_27 : decode cX10_isHolding 27 = .ok (.iload 4, 2) := by decide +kernel
theorem dX10_isHolding_29 : decode cX10_isHolding 29 = .ok (.iconst 0, 1) := by decide +kernel
theorem dX10_isHolding_30 : decode cX10_isHolding 30 = .ok (.sipush 200, 3) := by decide +kernel
theorem dX10_isHolding_33 : decode cX10_isHolding 33 = .ok (.invokestatic 44, 3) := by decide +kernel
theorem dX10_isHolding_36 : decode cX10_isHolding 36 = .ok (.ifCond .eq 24, 3) := by decide +kernel
theorem dX10_isHolding_39 : decode cX10_isHolding 39 = .ok (.aload_n 0, 1) := by decide +kernel
theorem dX10_isHolding_40 : decode cX10_isHolding 40 = .ok (.getfield 7, 3) := by decide +kernel
theorem dX10_isHolding_43 : decode cX10_isHolding 43 = .ok (.iconst 0, 1) := by decide +kernel
theorem dX10_isHolding_44 : decode cX10_isHolding 44 = .ok (.iaload, 1) := by decide +kernel
theorem dX10_isHolding_45 : decode cX10_isHolding 45 = .ok (.bipush 24, 2) := by decide +kernel
theorem dX10_isHolding_47 : decode cX10_isHolding 47 = .ok (.iload_n 3, 1) := by decide +kernel
theorem dX10_isHolding_48 : decode cX10_isHolding 48 = .ok (.imul, 1) := by decide +kernel
theorem dX10_isHolding_49 : decode cX10_isHolding 49 = .ok (.iadd, 1) := by decide +kernel
theorem dX10_isHolding_50 : decode cX10_isHolding 50 = .ok (.sipush 9000, 3) := by decide +kernel
theorem dX10_isHolding_53 : decode cX10_isHolding 53 = .ok (.if_icmp .gt 7, 3) := by decide +kernel
theorem dX10_isHolding_56 : decode cX10_isHolding 56 = .ok (.iconst 1, 1) := by decide +kernel
theorem dX10_isHolding_57 : decode cX10_isHolding 57 = .ok (.goto 4, 3) := by decide +kernel
theorem dX10_isHolding_60 : decode cX10_isHolding 60 = .ok (.iconst 0, 1) := by decide +kernel
theorem dX10_isHolding_61 : decode cX10_isHolding 61 = .ok (.ireturn, 1) := by decide +kernel
theorem dX10_hold_0 : decode cX10_hold 0 = .ok (.aload_n 0, 1) := by decide +kernel
theorem dX10_hold_1 : decode cX10_hold 1 = .ok (.iload_n 1, 1) := by decide +kernel
theorem dX10_hold_2 : decode cX10_hold 2 = .ok (.iload_n 2, 1) := by decide +kernel
theorem dX10_hold_3 : decode cX10_hold 3 = .ok (.iload_n 3, 1) := by decide +kernel
theorem dX10_hold_4 : decode cX10_hold 4 = .ok (.iload 4, 2) := by decide +kernel
theorem dX10_hold_6 : decode cX10_hold 6 = .ok (.invokevirtual 175, 3) := by decide +kernel
theorem dX10_hold_9 : decode cX10_hold 9 = .ok (.ifCond .ne 9, 3) := by decide +kernel
theorem dX10_hold_12 : decode cX10_hold 12 = .ok (.aload_n 0, 1) := by decide +kernel
theorem dX10_hold_13 : decode cX10_hold 13 = .ok (.iconst 1, 1) := by decide +kernel
theorem dX10_hold_14 : decode cX10_hold 14 = .ok (.invokevirtual 115, 3) := by decide +kernel
theorem dX10_hold_17 : decode cX10_hold 17 = .ok (.ireturn, 1) := by decide +kernel
theorem dX10_hold_18 : decode cX10_hold 18 = .ok (.aload_n 0, 1) := by decide +kernel
theorem dX10_hold_19 : decode cX10_hold 19 = .ok (.getfield 31, 3) := by decide +kernel
theorem dX10_hold_22 : decode cX10_hold 22 = .ok (.iload_n 2, 1) := by decide +kernel
theorem dX10_hold_23 : decode cX10_hold 23 = .ok (.iaload, 1) := by decide +kernel
theorem dX10_hold_24 : decode cX10_hold 24 = .ok (.ifCond .ne 11, 3) := by decide +kernel
theorem dX10_hold_27 : decode cX10_hold 27 = .ok (.aload_n 0, 1) := by decide +kernel
theorem dX10_hold_28 : decode cX10_hold 28 = .ok (.iconst 2, 1) := by decide +kernel
theorem dX10_hold_29 : decode cX10_hold 29 = .ok (.invokevirtual 115, 3) := by decide +kernel
theorem dX10_hold_32 : decode cX10_hold 32 = .ok (.goto 12, 3) := by decide +kernel
theorem dX10_hold_35 : decode cX10_hold 35 = .ok (.aload_n 0, 1) := by decide +kernel
theorem dX10_hold_36 : decode cX10_hold 36 = .ok (.iload_n 1, 1) := by decide +kernel
theorem dX10_hold_37 : decode cX10_hold 37 = .ok (.iload_n 2, 1) := by decide +kernel
theorem dX10_hold_38 : decode cX10_hold 38 = .ok (.iload_n 3, 1) := by decide +kernel
theorem dX10_hold_39 : decode cX10_hold 39 = .ok (.iload 4, 2) := by decide +kernel
theorem dX10_hold_41 : decode cX10_hold 41 = .ok (.invokevirtual 179, 3) := by decide +kernel
theorem dX10_hold_44 : decode cX10_hold 44 = .ok (.ireturn, 1) := by decide +kernel
theorem dX10_greatest_0 : decode cX10_greatest 0 = .ok (.aload_n 0, 1) := by decide +kernel
theorem dX10_greatest_1 : decode cX10_greatest 1 = .ok (.iload_n 1, 1) := by decide +kernel
theorem dX10_greatest_2 : decode cX10_greatest 2 = .ok (.iload_n 2, 1) := by decide +kernel
theorem dX10_greatest_3 : decode cX10_greatest 3 = .ok (.iload_n 3, 1) := by decide +kernel
theorem dX10_greatest_4 : decode cX10_greatest 4 = .ok (.iconst 0, 1) := by decide +kernel
theorem dX10_greatest_5 : decode cX10_greatest 5 = .ok (.invokevirtual 175, 3) := by decide +kernel
theorem dX10_greatest_8 : decode cX10_greatest 8 = .ok (.ifCond .ne 9, 3) := by decide +kernel
theorem dX10_greatest_11 : decode cX10_greatest 11 = .ok (.aload_n 0, 1) := by decide +kernel
theorem dX10_greatest_12 : decode cX10_greatest 12 = .ok (.iconst 1, 1) := by decide +kernel
theorem dX10_greatest_13 : decode cX10_greatest 13 = .ok (.invokevirtual 115, 3) := by decide +kernel
theorem dX10_greatest_16 : decode cX10_greatest 16 = .ok (.ireturn, 1) := by decide +kernel
theorem dX10_greatest_17 : decode cX10_greatest 17 = .ok (.aload_n 0, 1) := by decide +kernel
theorem dX10_greatest_18 : decode cX10_greatest 18 = .ok (.getfield 31, 3) := by decide +kernel
theorem dX10_greatest_21 : decode cX10_greatest 21 = .ok (.iload_n 2, 1) := by decide +kernel
theorem dX10_greatest_22 : decode cX10_greatest 22 = .ok (.iaload, 1) := by decide +kernel
theorem dX10_greatest_23 : decode cX10_greatest 23 = .ok (.ifCond .ne 9, 3) := by decide +kernel
theorem dX10_greatest_26 : decode cX10_greatest 26 = .ok (.aload_n 0, 1) := by decide +kernel
theorem dX10_greatest_27 : decode cX10_greatest 27 = .ok (.iconst 2, 1) := by decide +kernel
theorem dX10_greatest_28 : decode cX10_greatest 28 = .ok (.invokevirtual 115, 3) := by decide +kernel
theorem dX10_greatest_31 : decode cX10_greatest 31 = .ok (.ireturn, 1) := by decide +kernel
theorem dX10_greatest_32 : decode cX10_greatest 32 = .ok (.sipush 200, 3) := by decide +kernel
theorem dX10_greatest_35 : decode cX10_greatest 35 = .ok (.istore 4, 2) := by decide +kernel
theorem dX10_greatest_37 : decode cX10_greatest 37 = .ok (.iload 4, 2) := by decide +kernel
theorem dX10_greatest_39 : decode cX10_greatest 39 = .ok (.ifCond .lt 24, 3) := by decide +kernel
theorem dX10_greatest_42 : decode cX10_greatest 42 = .ok (.aload_n 0, 1) := by decide +kernel
theorem dX10_greatest_43 : decode cX10_greatest 43 = .ok (.iload_n 1, 1) := by decide +kernel
theorem dX10_greatest_44 : decode cX10_greatest 44 = .ok (.iload_n 2, 1) := by decide +kernel
theorem dX10_greatest_45 : decode cX10_greatest 45 = .ok (.iload_n 3, 1) := by decide +kernel
theorem dX10_greatest_46 : decode cX10_greatest 46 = .ok (.iload 4, 2) := by decide +kernel
theorem dX10_greatest_48 : decode cX10_greatest 48 = .ok (.invokevirtual 179, 3) := by decide +kernel
theorem dX10_greatest_51 : decode cX10_greatest 51 = .ok (.ifCond .ne 6, 3) := by decide +kernel
theorem dX10_greatest_54 : decode cX10_greatest 54 = .ok (.iload 4, 2) := by decide +kernel
theorem dX10_greatest_56 : decode cX10_greatest 56 = .ok (.ireturn, 1) := by decide +kernel
theorem dX10_greatest_57 : decode cX10_greatest 57 = .ok (.iinc 4 (-1), 3) := by decide +kernel
theorem dX10_greatest_60 : decode cX10_greatest 60 = .ok (.goto (-23), 3) := by decide +kernel
theorem dX10_greatest_63 : decode cX10_greatest 63 = .ok (.aload_n 0, 1) := by decide +kernel
theorem dX10_greatest_64 : decode cX10_greatest 64 = .ok (.iconst 3, 1) := by decide +kernel
theorem dX10_greatest_65 : decode cX10_greatest 65 = .ok (.invokevirtual 115, 3) := by decide +kernel
theorem dX10_greatest_68 : decode cX10_greatest 68 = .ok (.ireturn, 1) := by decide +kernel
theorem dX10_reaches_0 : decode cX10_reaches 0 = .ok (.iconst 0, 1) := by decide +kernel
theorem dX10_reaches_1 : decode cX10_reaches 1 = .ok (.istore 5, 2) := by decide +kernel
theorem dX10_reaches_3 : decode cX10_reaches 3 = .ok (.iconst 0, 1) := by decide +kernel
theorem dX10_reaches_4 : decode cX10_reaches 4 = .ok (.istore 6, 2) := by decide +kernel
theorem dX10_reaches_6 : decode cX10_reaches 6 = .ok (.iload 6, 2) := by decide +kernel
theorem dX10_reaches_8 : decode cX10_reaches 8 = .ok (.aload_n 0, 1) := by decide +kernel
theorem dX10_reaches_9 : decode cX10_reaches 9 = .ok (.getfield 7, 3) := by decide +kernel
theorem dX10_reaches_12 : decode cX10_reaches 12 = .ok (.iconst 2, 1) := by decide +kernel
theorem dX10_reaches_13 : decode cX10_reaches 13 = .ok (.iaload, 1) := by decide +kernel
theorem dX10_reaches_14 : decode cX10_reaches 14 = .ok (.if_icmp .ge 51, 3) := by decide +kernel
theorem dX10_reaches_17 : decode cX10_reaches 17 = .ok (.iload 5, 2) := by decide +kernel
theorem dX10_reaches_19 : decode cX10_reaches 19 = .ok (.iload 4, 2) := by decide +kernel
theorem dX10_reaches_21 : decode cX10_reaches 21 = .ok (.iload 6, 2) := by decide +kernel
theorem dX10_reaches_23 : decode cX10_reaches 23 = .ok (.ishr, 1) := by decide +kernel
theorem dX10_reaches_24 : decode cX10_reaches 24 = .ok (.iconst 1, 1) := by decide +kernel
theorem dX10_reaches_25 : decode cX10_reaches 25 = .ok (.iand, 1) := by decide +kernel
theorem dX10_reaches_26 : decode cX10_reaches 26 = .ok (.iconst 1, 1) := by decide +kernel
theorem dX10_reaches_27 : decode cX10_reaches 27 = .ok (.if_icmp .ne 28, 3) := by decide +kernel
theorem dX10_reaches_30 : decode cX10_reaches 30 = .ok (.aload_n 0, 1) := by decide +kernel
theorem dX10_reaches_31 : decode cX10_reaches 31 = .ok (.iload 6, 2) := by decide +kernel
theorem dX10_reaches_33 : decode cX10_reaches 33 = .ok (.iload_n 3, 1) := by decide +kernel
theorem dX10_reaches_34 : decode cX10_reaches 34 = .ok (.invokevirtual 140, 3) := by decide +kernel
theorem dX10_reaches_37 : decode cX10_reaches 37 = .ok (.ifCond .eq 18, 3) := by decide +kernel
theorem dX10_reaches_40 : decode cX10_reaches 40 = .ok (.aload_n 0, 1) := by decide +kernel
theorem dX10_reaches_41 : decode cX10_reaches 41 = .ok (.iload_n 1, 1) := by decide +kernel
theorem dX10_reaches_42 : decode cX10_reaches 42 = .ok (.iload 6, 2) := by decide +kernel
theorem dX10_reaches_44 : decode cX10_reaches 44 = .ok (.invokevirtual 144, 3) := by decide +kernel
theorem dX10_reaches_47 : decode cX10_reaches 47 = .ok (.iload_n 2, 1) := by decide +kernel
theorem dX10_reaches_48 : decode cX10_reaches 48 = .ok (.if_icmp .gt 7, 3) := by decide +kernel
theorem dX10_reaches_51 : decode cX10_reaches 51 = .ok (.iconst 1, 1) := by decide +kernel
theorem dX10_reaches_52 : decode cX10_reaches 52 = .ok (.goto 4, 3) := by decide +kernel
theorem dX10_reaches_55 : decode cX10_reaches 55 = .ok (.iconst 0, 1) := by decide +kernel
theorem dX10_reaches_56 : decode cX10_reaches 56 = .ok (.ior, 1) := by decide +kernel
theorem dX10_reaches_57 : decode cX10_reaches 57 = .ok (.istore 5, 2) := by decide +kernel
theorem dX10_reaches_59 : decode cX10_reaches 59 = .ok (.iinc 6 1, 3) := by decide +kernel
theorem dX10_reaches_62 : decode cX10_reaches 62 = .ok (.goto (-56), 3) := by decide +kernel
theorem dX10_reaches_65 : decode cX10_reaches 65 = .ok (.iload 5, 2) := by decide +kernel
theorem dX10_reaches_67 : decode cX10_reaches 67 = .ok (.ireturn, 1) := by decide +kernel
theorem dX10_lacks_0 : decode cX10_lacks 0 = .ok (.iconst 0, 1) := by decide +kernel
theorem dX10_lacks_1 : decode cX10_lacks 1 = .ok (.istore 4, 2) := by decide +kernel
theorem dX10_lacks_3 : decode cX10_lacks 3 = .ok (.iconst 0, 1) := by decide +kernel
theorem dX10_lacks_4 : decode cX10_lacks 4 = .ok (.istore 5, 2) := by decide +kernel
theorem dX10_lacks_6 : decode cX10_lacks 6 = .ok (.iload 5, 2) := by decide +kernel
theorem dX10_lacks_8 : decode cX10_lacks 8 = .ok (.aload_n 0, 1) := by decide +kernel
theorem dX10_lacks_9 : decode cX10_lacks 9 = .ok (.getfield 7, 3) := by decide +kernel
theorem dX10_lacks_12 : decode cX10_lacks 12 = .ok (.iconst 1, 1) := by decide +kernel
theorem dX10_lacks_13 : decode cX10_lacks 13 = .ok (.iaload, 1) := by decide +kernel
theorem dX10_lacks_14 : decode cX10_lacks 14 = .ok (.if_icmp .ge 34, 3) := by decide +kernel
theorem dX10_lacks_17 : decode cX10_lacks 17 = .ok (.iload 4, 2) := by decide +kernel
theorem dX10_lacks_19 : decode cX10_lacks 19 = .ok (.aload_n 0, 1) := by decide +kernel
theorem dX10_lacks_20 : decode cX10_lacks 20 = .ok (.iload 5, 2) := by decide +kernel
theorem dX10_lacks_22 : decode cX10_lacks 22 = .ok (.iload_n 1, 1) := by decide +kernel
theorem dX10_lacks_23 : decode cX10_lacks 23 = .ok (.iload_n 2, 1) := by decide +kernel
theorem dX10_lacks_24 : decode cX10_lacks 24 = .ok (.iload_n 3, 1) := by decide +kernel
theorem dX10_lacks_25 : decode cX10_lacks 25 = .ok (.invokevirtual 182, 3) := by decide +kernel
theorem dX10_lacks_28 : decode cX10_lacks 28 = .ok (.ifCond .eq 7, 3) := by decide +kernel
theorem dX10_lacks_31 : decode cX10_lacks 31 = .ok (.iconst 0, 1) := by decide +kernel
theorem dX10_lacks_32 : decode cX10_lacks 32 = .ok (.goto 7, 3) := by decide +kernel
theorem dX10_lacks_35 : decode cX10_lacks 35 = .ok (.iconst 1, 1) := by decide +kernel
theorem dX10_lacks_36 : decode cX10_lacks 36 = .ok (.iload 5, 2) := by decide +kernel
theorem dX10_lacks_38 : decode cX10_lacks 38 = .ok (.ishl, 1) := by decide +kernel
theorem dX10_lacks_39 : decode cX10_lacks 39 = .ok (.ior, 1) := by decide +kernel
theorem dX10_lacks_40 : decode cX10_lacks 40 = .ok (.istore 4, 2) := by decide +kernel
theorem dX10_lacks_42 : decode cX10_lacks 42 = .ok (.iinc 5 1, 3) := by decide +kernel
theorem dX10_lacks_45 : decode cX10_lacks 45 = .ok (.goto (-39), 3) := by decide +kernel
theorem dX10_lacks_48 : decode cX10_lacks 48 = .ok (.iload 4, 2) := by decide +kernel
theorem dX10_lacks_50 : decode cX10_lacks 50 = .ok (.ireturn, 1) := by decide +kernel
theorem dX10_ones_0 : decode cX10_ones 0 = .ok (.iconst 0, 1) := by decide +kernel
theorem dX10_ones_1 : decode cX10_ones 1 = .ok (.istore_n 1, 1) := by decide +kernel
theorem dX10_ones_2 : decode cX10_ones 2 = .ok (.iconst 0, 1) := by decide +kernel
theorem dX10_ones_3 : decode cX10_ones 3 = .ok (.istore_n 2, 1) := by decide +kernel
theorem dX10_ones_4 : decode cX10_ones 4 = .ok (.iload_n 2, 1) := by decide +kernel
theorem dX10_ones_5 : decode cX10_ones 5 = .ok (.bipush 10, 2) := by decide +kernel
theorem dX10_ones_7 : decode cX10_ones 7 = .ok (.if_icmp .ge 17, 3) := by decide +kernel
theorem dX10_ones_10 : decode cX10_ones 10 = .ok (.iload_n 1, 1) := by decide +kernel
theorem dX10_ones_11 : decode cX10_ones 11 = .ok (.iload_n 0, 1) := by decide +kernel
theorem dX10_ones_12 : decode cX10_ones 12 = .ok (.iload_n 2, 1) := by decide +kernel
theorem dX10_ones_13 : decode cX10_ones 13 = .ok (.ishr, 1) := by decide +kernel
theorem dX10_ones_14 : decode cX10_ones 14 = .ok (.iconst 1, 1) := by decide +kernel
theorem dX10_ones_15 : decode cX10_ones 15 = .ok (.iand, 1) := by decide +kernel
theorem dX10_ones_16 : decode cX10_ones 16 = .ok (.iadd, 1) := by decide +kernel
theorem dX10_ones_17 : decode cX10_ones 17 = .ok (.istore_n 1, 1) := by decide +kernel
theorem dX10_ones_18 : decode cX10_ones 18 = .ok (.iinc 2 1, 3) := by decide +kernel
theorem dX10_ones_21 : decode cX10_ones 21 = .ok (.goto (-17), 3) := by decide +kernel
theorem dX10_ones_24 : decode cX10_ones 24 = .ok (.iload_n 1, 1) := by decide +kernel
theorem dX10_ones_25 : decode cX10_ones 25 = .ok (.ireturn, 1) := by decide +kernel
theorem dX10_fewest_0 : decode cX10_fewest 0 = .ok (.iload_n 1, 1) := by decide +kernel
theorem dX10_fewest_1 : decode cX10_fewest 1 = .ok (.iconst 0, 1) := by decide +kernel
theorem dX10_fewest_2 : decode cX10_fewest 2 = .ok (.bipush 60, 2) := by decide +kernel
theorem dX10_fewest_4 : decode cX10_fewest 4 = .ok (.invokestatic 44, 3) := by decide +kernel
theorem dX10_fewest_7 : decode cX10_fewest 7 = .ok (.ifCond .eq 13, 3) := by decide +kernel
theorem dX10_fewest_10 : decode cX10_fewest 10 = .ok (.iload_n 2, 1) := by decide +kernel
theorem dX10_fewest_11 : decode cX10_fewest 11 = .ok (.iconst 0, 1) := by decide +kernel
theorem dX10_fewest_12 : decode cX10_fewest 12 = .ok (.bipush 23, 2) := by decide +kernel
theorem dX10_fewest_14 : decode cX10_fewest 14 = .ok (.invokestatic 44, 3) := by decide +kernel
theorem dX10_fewest_17 : decode cX10_fewest 17 = .ok (.ifCond .ne 9, 3) := by decide +kernel
theorem dX10_fewest_20 : decode cX10_fewest 20 = .ok (.aload_n 0, 1) := by decide +kernel
theorem dX10_fewest_21 : decode cX10_fewest 21 = .ok (.iconst 1, 1) := by decide +kernel
theorem dX10_fewest_22 : decode cX10_fewest 22 = .ok (.invokevirtual 115, 3) := by decide +kernel
theorem dX10_fewest_25 : decode cX10_fewest 25 = .ok (.ireturn, 1) := by decide +kernel
theorem dX10_fewest_26 : decode cX10_fewest 26 = .ok (.aload_n 0, 1) := by decide +kernel
theorem dX10_fewest_27 : decode cX10_fewest 27 = .ok (.iload_n 1, 1) := by decide +kernel
theorem dX10_fewest_28 : decode cX10_fewest 28 = .ok (.iload_n 2, 1) := by decide +kernel
theorem dX10_fewest_29 : decode cX10_fewest 29 = .ok (.sipush 255, 3) := by decide +kernel
theorem dX10_fewest_32 : decode cX10_fewest 32 = .ok (.invokevirtual 185, 3) := by decide +kernel
theorem dX10_fewest_35 : decode cX10_fewest 35 = .ok (.istore_n 3, 1) := by decide +kernel
theorem dX10_fewest_36 : decode cX10_fewest 36 = .ok (.sipush 255, 3) := by decide +kernel
theorem dX10_fewest_39 : decode cX10_fewest 39 = .ok (.istore 4, 2) := by decide +kernel
theorem dX10_fewest_41 : decode cX10_fewest 41 = .ok (.iconst 0, 1) := by decide +kernel
theorem dX10_fewest_42 : decode cX10_fewest 42 = .ok (.istore 5, 2) := by decide +kernel
theorem dX10_fewest_44 : decode cX10_fewest 44 = .ok (.iload 5, 2) := by decide +kernel
theorem dX10_fewest_46 : decode cX10_fewest 46 = .ok (.sipush 256, 3) := by decide +kernel
theorem dX10_fewest_49 : decode cX10_fewest 49 = .ok (.if_icmp .ge 43, 3) := by decide +kernel
theorem dX10_fewest_52 : decode cX10_fewest 52 = .ok (.iload 5, 2) := by decide +kernel
theorem dX10_fewest_54 : decode cX10_fewest 54 = .ok (.invokestatic 188, 3) := by decide +kernel
theorem dX10_fewest_57 : decode cX10_fewest 57 = .ok (.iload 4, 2) := by decide +kernel
theorem dX10_fewest_59 : decode cX10_fewest 59 = .ok (.invokestatic 188, 3) := by decide +kernel
theorem dX10_fewest_62 : decode cX10_fewest 62 = .ok (.if_icmp .ge 20, 3) := by decide +kernel
theorem dX10_fewest_65 : decode cX10_fewest 65 = .ok (.aload_n 0, 1) := by decide +kernel
theorem dX10_fewest_66 : decode cX10_fewest 66 = .ok (.iload_n 1, 1) := by decide +kernel
theorem dX10_fewest_67 : decode cX10_fewest 67 = .ok (.iload_n 2, 1) := by decide +kernel
theorem dX10_fewest_68 : decode cX10_fewest 68 = .ok (.iload 5, 2) := by decide +kernel
theorem dX10_fewest_70 : decode cX10_fewest 70 = .ok (.invokevirtual 185, 3) := by decide +kernel
theorem dX10_fewest_73 : decode cX10_fewest 73 = .ok (.iload_n 3, 1) := by decide +kernel
theorem dX10_fewest_74 : decode cX10_fewest 74 = .ok (.if_icmp .ne 8, 3) := by decide +kernel
theorem dX10_fewest_77 : decode cX10_fewest 77 = .ok (.iload 5, 2) := by decide +kernel
theorem dX10_fewest_79 : decode cX10_fewest 79 = .ok (.goto 5, 3) := by decide +kernel
theorem dX10_fewest_82 : decode cX10_fewest 82 = .ok (.iload 4, 2) := by decide +kernel
theorem dX10_fewest_84 : decode cX10_fewest 84 = .ok (.istore 4, 2) := by decide +kernel
theorem dX10_fewest_86 : decode cX10_fewest 86 = .ok (.iinc 5 1, 3) := by decide +kernel
theorem dX10_fewest_89 : decode cX10_fewest 89 = .ok (.goto (-45), 3) := by decide +kernel
theorem dX10_fewest_92 : decode cX10_fewest 92 = .ok (.iload 4, 2) := by decide +kernel
theorem dX10_fewest_94 : decode cX10_fewest 94 = .ok (.ireturn, 1) := by decide +kernel
theorem dX10_far_0 : decode cX10_far 0 = .ok (.iload_n 1, 1) := by decide +kernel
theorem dX10_far_1 : decode cX10_far 1 = .ok (.iconst 0, 1) := by decide +kernel
theorem dX10_far_2 : decode cX10_far 2 = .ok (.bipush 60, 2) := by decide +kernel
theorem dX10_far_4 : decode cX10_far 4 = .ok (.invokestatic 44, 3) := by decide +kernel
theorem dX10_far_7 : decode cX10_far 7 = .ok (.ifCond .eq 23, 3) := by decide +kernel
theorem dX10_far_10 : decode cX10_far 10 = .ok (.iload_n 2, 1) := by decide +kernel
theorem dX10_far_11 : decode cX10_far 11 = .ok (.iconst 0, 1) := by decide +kernel
theorem dX10_far_12 : decode cX10_far 12 = .ok (.bipush 23, 2) := by decide +kernel
theorem dX10_far_14 : decode cX10_far 14 = .ok (.invokestatic 44, 3) := by decide +kernel
theorem dX10_far_17 : decode cX10_far 17 = .ok (.ifCond .eq 13, 3) := by decide +kernel
theorem dX10_far_20 : decode cX10_far 20 = .ok (.aload_n 0, 1) := by decide +kernel
theorem dX10_far_21 : decode cX10_far 21 = .ok (.iload_n 1, 1) := by decide +kernel
theorem dX10_far_22 : decode cX10_far 22 = .ok (.iload_n 2, 1) := by decide +kernel
theorem dX10_far_23 : decode cX10_far 23 = .ok (.iload_n 3, 1) := by decide +kernel
theorem dX10_far_24 : decode cX10_far 24 = .ok (.invokevirtual 185, 3) := by decide +kernel
theorem dX10_far_27 : decode cX10_far 27 = .ok (.goto 8, 3) := by decide +kernel
theorem dX10_far_30 : decode cX10_far 30 = .ok (.aload_n 0, 1) := by decide +kernel
theorem dX10_far_31 : decode cX10_far 31 = .ok (.iconst 1, 1) := by decide +kernel
theorem dX10_far_32 : decode cX10_far 32 = .ok (.invokevirtual 115, 3) := by decide +kernel
theorem dX10_far_35 : decode cX10_far 35 = .ok (.ireturn, 1) := by decide +kernel
theorem dX10_begins_0 : decode cX10_begins 0 = .ok (.aload_n 0, 1) := by decide +kernel
theorem dX10_begins_1 : decode cX10_begins 1 = .ok (.getfield 191, 3) := by decide +kernel
theorem dX10_begins_4 : decode cX10_begins 4 = .ok (.bipush 40, 2) := by decide +kernel
theorem dX10_begins_6 : decode cX10_begins 6 = .ok (.if_icmp .ge 23, 3) := by decide +kernel
theorem dX10_begins_9 : decode cX10_begins 9 = .ok (.aload_n 0, 1) := by decide +kernel
theorem dX10_begins_10 : decode cX10_begins 10 = .ok (.getfield 28, 3) := by decide +kernel
theorem dX10_begins_13 : decode cX10_begins 13 = .ok (.aload_n 0, 1) := by decide +kernel
theorem dX10_begins_14 : decode cX10_begins 14 = .ok (.getfield 191, 3) := by decide +kernel
theorem dX10_begins_17 : decode cX10_begins 17 = .ok (.iload_n 1, 1) := by decide +kernel
theorem dX10_begins_18 : decode cX10_begins 18 = .ok (.iastore, 1) := by decide +kernel
theorem dX10_begins_19 : decode cX10_begins 19 = .ok (.aload_n 0, 1) := by decide +kernel
theorem dX10_begins_20 : decode cX10_begins 20 = .ok (.dup, 1) := by decide +kernel
theorem dX10_begins_21 : decode cX10_begins 21 = .ok (.getfield 191, 3) := by decide +kernel
theorem dX10_begins_24 : decode cX10_begins 24 = .ok (.iconst 1, 1) := by decide +kernel
theorem dX10_begins_25 : decode cX10_begins 25 = .ok (.iadd, 1) := by decide +kernel
theorem dX10_begins_26 : decode cX10_begins 26 = .ok (.putfield 191, 3) := by decide +kernel
theorem dX10_begins_29 : decode cX10_begins 29 = .ok (.return_, 1) := by decide +kernel
theorem dX10_meterTick_0 : decode cX10_meterTick 0 = .ok (.aload_n 0, 1) := by decide +kernel
theorem dX10_meterTick_1 : decode cX10_meterTick 1 = .ok (.bipush 10, 2) := by decide +kernel
theorem dX10_meterTick_3 : decode cX10_meterTick 3 = .ok (.invokevirtual 194, 3) := by decide +kernel
theorem dX10_meterTick_6 : decode cX10_meterTick 6 = .ok (.iload_n 1, 1) := by decide +kernel
theorem dX10_meterTick_7 : decode cX10_meterTick 7 = .ok (.aload_n 0, 1) := by decide +kernel
theorem dX10_meterTick_8 : decode cX10_meterTick 8 = .ok (.getfield 197, 3) := by decide +kernel
theorem dX10_meterTick_11 : decode cX10_meterTick 11 = .ok (.iadd, 1) := by decide +kernel
theorem dX10_meterTick_12 : decode cX10_meterTick 12 = .ok (.ireturn, 1) := by decide +kernel
theorem dX10_keyedTick_0 : decode cX10_keyedTick 0 = .ok (.aload_n 0, 1) := by decide +kernel
theorem dX10_keyedTick_1 : decode cX10_keyedTick 1 = .ok (.bipush 20, 2) := by decide +kernel
theorem dX10_keyedTick_3 : decode cX10_keyedTick 3 = .ok (.invokevirtual 194, 3) := by decide +kernel
theorem dX10_keyedTick_6 : decode cX10_keyedTick 6 = .ok (.aload_n 0, 1) := by decide +kernel
theorem dX10_keyedTick_7 : decode cX10_keyedTick 7 = .ok (.iload_n 1, 1) := by decide +kernel
theorem dX10_keyedTick_8 : decode cX10_keyedTick 8 = .ok (.invokevirtual 200, 3) := by decide +kernel
theorem dX10_keyedTick_11 : decode cX10_keyedTick 11 = .ok (.aload_n 0, 1) := by decide +kernel
theorem dX10_keyedTick_12 : decode cX10_keyedTick 12 = .ok (.getfield 203, 3) := by decide +kernel
theorem dX10_keyedTick_15 : decode cX10_keyedTick 15 = .ok (.isub, 1) := by decide +kernel
theorem dX10_keyedTick_16 : decode cX10_keyedTick 16 = .ok (.ireturn, 1) := by decide +kernel
theorem dX10_tick_0 : decode cX10_tick 0 = .ok (.aload_n 0, 1) := by decide +kernel
theorem dX10_tick_1 : decode cX10_tick 1 = .ok (.getfield 206, 3) := by decide +kernel
theorem dX10_tick_4 : decode cX10_tick 4 = .ok (.iconst 3, 1) := by decide +kernel
theorem dX10_tick_5 : decode cX10_tick 5 = .ok (.if_icmp .ne 20, 3) := by decide +kernel
theorem dX10_tick_8 : decode cX10_tick 8 = .ok (.aload_n 0, 1) := by decide +kernel
theorem dX10_tick_9 : decode cX10_tick 9 = .ok (.bipush 41, 2) := by decide +kernel
theorem dX10_tick_11 : decode cX10_tick 11 = .ok (.invokevirtual 194, 3) := by decide +kernel
theorem dX10_tick_14 : decode cX10_tick 14 = .ok (.aload_n 0, 1) := by decide +kernel
theorem dX10_tick_15 : decode cX10_tick 15 = .ok (.iload_n 1, 1) := by decide +kernel
theorem dX10_tick_16 : decode cX10_tick 16 = .ok (.aload_n 0, 1) := by decide +kernel
theorem dX10_tick_17 : decode cX10_tick 17 = .ok (.getfield 197, 3) := by decide +kernel
theorem dX10_tick_20 : decode cX10_tick 20 = .ok (.iadd, 1) := by decide +kernel
theorem dX10_tick_21 : decode cX10_tick 21 = .ok (.invokevirtual 209, 3) := by decide +kernel
theorem dX10_tick_24 : decode cX10_tick 24 = .ok (.ireturn, 1) := by decide +kernel
theorem dX10_tick_25 : decode cX10_tick 25 = .ok (.aload_n 0, 1) := by decide +kernel
theorem dX10_tick_26 : decode cX10_tick 26 = .ok (.getfield 206, 3) := by decide +kernel
theorem dX10_tick_29 : decode cX10_tick 29 = .ok (.iconst 1, 1) := by decide +kernel
theorem dX10_tick_30 : decode cX10_tick 30 = .ok (.if_icmp .eq 11, 3) := by decide +kernel
theorem dX10_tick_33 : decode cX10_tick 33 = .ok (.aload_n 0, 1) := by decide +kernel
theorem dX10_tick_34 : decode cX10_tick 34 = .ok (.getfield 206, 3) := by decide +kernel
theorem dX10_tick_37 : decode cX10_tick 37 = .ok (.iconst 5, 1) := by decide +kernel
theorem dX10_tick_38 : decode cX10_tick 38 = .ok (.if_icmp .ne 11, 3) := by decide +kernel
theorem dX10_tick_41 : decode cX10_tick 41 = .ok (.aload_n 0, 1) := by decide +kernel
theorem dX10_tick_42 : decode cX10_tick 42 = .ok (.iload_n 1, 1) := by decide +kernel
theorem dX10_tick_43 : decode cX10_tick 43 = .ok (.invokevirtual 209, 3) := by decide +kernel
theorem dX10_tick_46 : decode cX10_tick 46 = .ok (.goto 8, 3) := by decide +kernel
theorem dX10_tick_49 : decode cX10_tick 49 = .ok (.aload_n 0, 1) := by decide +kernel
theorem dX10_tick_50 : decode cX10_tick 50 = .ok (.iload_n 1, 1) := by decide +kernel
theorem dX10_tick_51 : decode cX10_tick 51 = .ok (.invokevirtual 200, 3) := by decide +kernel
theorem dX10_tick_54 : decode cX10_tick 54 = .ok (.ireturn, 1) := by decide +kernel
theorem dX10_meterHum_0 : decode cX10_meterHum 0 = .ok (.aload_n 0, 1) := by decide +kernel
theorem dX10_meterHum_1 : decode cX10_meterHum 1 = .ok (.bipush 11, 2) := by decide +kernel
theorem dX10_meterHum_3 : decode cX10_meterHum 3 = .ok (.invokevirtual 194, 3) := by decide +kernel
theorem dX10_meterHum_6 : decode cX10_meterHum 6 = .ok (.aload_n 0, 1) := by decide +kernel
theorem dX10_meterHum_7 : decode cX10_meterHum 7 = .ok (.iload_n 1, 1) := by decide +kernel
theorem dX10_meterHum_8 : decode cX10_meterHum 8 = .ok (.invokevirtual 212, 3) := by decide +kernel
theorem dX10_meterHum_11 : decode cX10_meterHum 11 = .ok (.iconst 2, 1) := by decide +kernel
theorem dX10_meterHum_12 : decode cX10_meterHum 12 = .ok (.imul, 1) := by decide +kernel
theorem dX10_meterHum_13 : decode cX10_meterHum 13 = .ok (.ireturn, 1) := by decide +kernel
theorem dX10_smartHum_0 : decode cX10_smartHum 0 = .ok (.aload_n 0, 1) := by decide +kernel
theorem dX10_smartHum_1 : decode cX10_smartHum 1 = .ok (.bipush 30, 2) := by decide +kernel
theorem dX10_smartHum_3 : decode cX10_smartHum 3 = .ok (.invokevirtual 194, 3) := by decide +kernel
theorem dX10_smartHum_6 : decode cX10_smartHum 6 = .ok (.aload_n 0, 1) := by decide +kernel
theorem dX10_smartHum_7 : decode cX10_smartHum 7 = .ok (.iload_n 1, 1) := by decide +kernel
theorem dX10_smartHum_8 : decode cX10_smartHum 8 = .ok (.invokevirtual 215, 3) := by decide +kernel
theorem dX10_smartHum_11 : decode cX10_smartHum 11 = .ok (.istore_n 2, 1) := by decide +kernel
theorem dX10_smartHum_12 : decode cX10_smartHum 12 = .ok (.iload_n 2, 1) := by decide +kernel
theorem dX10_smartHum_13 : decode cX10_smartHum 13 = .ok (.aload_n 0, 1) := by decide +kernel
theorem dX10_smartHum_14 : decode cX10_smartHum 14 = .ok (.iload_n 1, 1) := by decide +kernel
theorem dX10_smartHum_15 : decode cX10_smartHum 15 = .ok (.invokevirtual 218, 3) := by decide +kernel
theorem dX10_smartHum_18 : decode cX10_smartHum 18 = .ok (.iadd, 1) := by decide +kernel
theorem dX10_smartHum_19 : decode cX10_smartHum 19 = .ok (.ireturn, 1) := by decide +kernel
theorem dX10_hum_0 : decode cX10_hum 0 = .ok (.aload_n 0, 1) := by decide +kernel
theorem dX10_hum_1 : decode cX10_hum 1 = .ok (.getfield 206, 3) := by decide +kernel
theorem dX10_hum_4 : decode cX10_hum 4 = .ok (.iconst 4, 1) := by decide +kernel
theorem dX10_hum_5 : decode cX10_hum 5 = .ok (.if_icmp .ne 23, 3) := by decide +kernel
theorem dX10_hum_8 : decode cX10_hum 8 = .ok (.aload_n 0, 1) := by decide +kernel
theorem dX10_hum_9 : decode cX10_hum 9 = .ok (.bipush 51, 2) := by decide +kernel
theorem dX10_hum_11 : decode cX10_hum 11 = .ok (.invokevirtual 194, 3) := by decide +kernel
theorem dX10_hum_14 : decode cX10_hum 14 = .ok (.aload_n 0, 1) := by decide +kernel
theorem dX10_hum_15 : decode cX10_hum 15 = .ok (.iload_n 1, 1) := by decide +kernel
theorem dX10_hum_16 : decode cX10_hum 16 = .ok (.invokevirtual 221, 3) := by decide +kernel
theorem dX10_hum_19 : decode cX10_hum 19 = .ok (.istore_n 2, 1) := by decide +kernel
theorem dX10_hum_20 : decode cX10_hum 20 = .ok (.iload_n 2, 1) := by decide +kernel
theorem dX10_hum_21 : decode cX10_hum 21 = .ok (.aload_n 0, 1) := by decide +kernel
theorem dX10_hum_22 : decode cX10_hum 22 = .ok (.iload_n 1, 1) := by decide +kernel
theorem dX10_hum_23 : decode cX10_hum 23 = .ok (.invokevirtual 212, 3) := by decide +kernel
theorem dX10_hum_26 : decode cX10_hum 26 = .ok (.ixor, 1) := by decide +kernel
theorem dX10_hum_27 : decode cX10_hum 27 = .ok (.ireturn, 1) := by decide +kernel
theorem dX10_hum_28 : decode cX10_hum 28 = .ok (.aload_n 0, 1) := by decide +kernel
theorem dX10_hum_29 : decode cX10_hum 29 = .ok (.getfield 206, 3) := by decide +kernel
theorem dX10_hum_32 : decode cX10_hum 32 = .ok (.iconst 2, 1) := by decide +kernel
theorem dX10_hum_33 : decode cX10_hum 33 = .ok (.if_icmp .ne 11, 3) := by decide +kernel
theorem dX10_hum_36 : decode cX10_hum 36 = .ok (.aload_n 0, 1) := by decide +kernel
theorem dX10_hum_37 : decode cX10_hum 37 = .ok (.iload_n 1, 1) := by decide +kernel
theorem dX10_hum_38 : decode cX10_hum 38 = .ok (.invokevirtual 221, 3) := by decide +kernel
theorem dX10_hum_41 : decode cX10_hum 41 = .ok (.goto 8, 3) := by decide +kernel
theorem dX10_hum_44 : decode cX10_hum 44 = .ok (.aload_n 0, 1) := by decide +kernel
theorem dX10_hum_45 : decode cX10_hum 45 = .ok (.iload_n 1, 1) := by decide +kernel
theorem dX10_hum_46 : decode cX10_hum 46 = .ok (.invokevirtual 215, 3) := by decide +kernel
theorem dX10_hum_49 : decode cX10_hum 49 = .ok (.ireturn, 1) := by decide +kernel
theorem dX10_meterClick_0 : decode cX10_meterClick 0 = .ok (.aload_n 0, 1) := by decide +kernel
theorem dX10_meterClick_1 : decode cX10_meterClick 1 = .ok (.bipush 12, 2) := by decide +kernel
theorem dX10_meterClick_3 : decode cX10_meterClick 3 = .ok (.invokevirtual 194, 3) := by decide +kernel
theorem dX10_meterClick_6 : decode cX10_meterClick 6 = .ok (.iload_n 1, 1) := by decide +kernel
theorem dX10_meterClick_7 : decode cX10_meterClick 7 = .ok (.aload_n 0, 1) := by decide +kernel
theorem dX10_meterClick_8 : decode cX10_meterClick 8 = .ok (.getfield 203, 3) := by decide +kernel
theorem dX10_meterClick_11 : decode cX10_meterClick 11 = .ok (.isub, 1) := by decide +kernel
theorem dX10_meterClick_12 : decode cX10_meterClick 12 = .ok (.ireturn, 1) := by decide +kernel
theorem dX10_click_0 : decode cX10_click 0 = .ok (.aload_n 0, 1) := by decide +kernel
theorem dX10_click_1 : decode cX10_click 1 = .ok (.getfield 206, 3) := by decide +kernel
theorem dX10_click_4 : decode cX10_click 4 = .ok (.iconst 3, 1) := by decide +kernel
theorem dX10_click_5 : decode cX10_click 5 = .ok (.if_icmp .ne 17, 3) := by decide +kernel
theorem dX10_click_8 : decode cX10_click 8 = .ok (.aload_n 0, 1) := by decide +kernel
theorem dX10_click_9 : decode cX10_click 9 = .ok (.bipush 40, 2) := by decide +kernel
theorem dX10_click_11 : decode cX10_click 11 = .ok (.invokevirtual 194, 3) := by decide +kernel
theorem dX10_click_14 : decode cX10_click 14 = .ok (.aload_n 0, 1) := by decide +kernel
theorem dX10_click_15 : decode cX10_click 15 = .ok (.iload_n 1, 1) := by decide +kernel
theorem dX10_click_16 : decode cX10_click 16 = .ok (.invokevirtual 224, 3) := by decide +kernel
theorem dX10_click_19 : decode cX10_click 19 = .ok (.iconst 3, 1) := by decide +kernel
theorem dX10_click_20 : decode cX10_click 20 = .ok (.imul, 1) := by decide +kernel
theorem dX10_click_21 : decode cX10_click 21 = .ok (.ireturn, 1) := by decide +kernel
theorem dX10_click_22 : decode cX10_click 22 = .ok (.aload_n 0, 1) := by decide +kernel
theorem dX10_click_23 : decode cX10_click 23 = .ok (.getfield 206, 3) := by decide +kernel
theorem dX10_click_26 : decode cX10_click 26 = .ok (.iconst 5, 1) := by decide +kernel
theorem dX10_click_27 : decode cX10_click 27 = .ok (.if_icmp .ne 20, 3) := by decide +kernel
theorem dX10_click_30 : decode cX10_click 30 = .ok (.aload_n 0, 1) := by decide +kernel
theorem dX10_click_31 : decode cX10_click 31 = .ok (.bipush 60, 2) := by decide +kernel
theorem dX10_click_33 : decode cX10_click 33 = .ok (.invokevirtual 194, 3) := by decide +kernel
theorem dX10_click_36 : decode cX10_click 36 = .ok (.aload_n 0, 1) := by decide +kernel
theorem dX10_click_37 : decode cX10_click 37 = .ok (.iload_n 1, 1) := by decide +kernel
theorem dX10_click_38 : decode cX10_click 38 = .ok (.aload_n 0, 1) := by decide +kernel
theorem dX10_click_39 : decode cX10_click 39 = .ok (.getfield 197, 3) := by decide +kernel
theorem dX10_click_42 : decode cX10_click 42 = .ok (.isub, 1) := by decide +kernel
theorem dX10_click_43 : decode cX10_click 43 = .ok (.invokevirtual 224, 3) := by decide +kernel
theorem dX10_click_46 : decode cX10_click 46 = .ok (.ireturn, 1) := by decide +kernel
theorem dX10_click_47 : decode cX10_click 47 = .ok (.aload_n 0, 1) := by decide +kernel
theorem dX10_click_48 : decode cX10_click 48 = .ok (.iload_n 1, 1) := by decide +kernel
theorem dX10_click_49 : decode cX10_click 49 = .ok (.invokevirtual 224, 3) := by decide +kernel
theorem dX10_click_52 : decode cX10_click 52 = .ok (.ireturn, 1) := by decide +kernel
theorem dX10_meterTell_0 : decode cX10_meterTell 0 = .ok (.aload_n 0, 1) := by decide +kernel
theorem dX10_meterTell_1 : decode cX10_meterTell 1 = .ok (.bipush 13, 2) := by decide +kernel
theorem dX10_meterTell_3 : decode cX10_meterTell 3 = .ok (.invokevirtual 194, 3) := by decide +kernel
theorem dX10_meterTell_6 : decode cX10_meterTell 6 = .ok (.aload_n 0, 1) := by decide +kernel
theorem dX10_meterTell_7 : decode cX10_meterTell 7 = .ok (.iload_n 1, 1) := by decide +kernel
theorem dX10_meterTell_8 : decode cX10_meterTell 8 = .ok (.invokevirtual 227, 3) := by decide +kernel
theorem dX10_meterTell_11 : decode cX10_meterTell 11 = .ok (.istore_n 2, 1) := by decide +kernel
theorem dX10_meterTell_12 : decode cX10_meterTell 12 = .ok (.iload_n 2, 1) := by decide +kernel
theorem dX10_meterTell_13 : decode cX10_meterTell 13 = .ok (.aload_n 0, 1) := by decide +kernel
theorem dX10_meterTell_14 : decode cX10_meterTell 14 = .ok (.iload_n 1, 1) := by decide +kernel
theorem dX10_meterTell_15 : decode cX10_meterTell 15 = .ok (.invokevirtual 218, 3) := by decide +kernel
theorem dX10_meterTell_18 : decode cX10_meterTell 18 = .ok (.ixor, 1) := by decide +kernel
theorem dX10_meterTell_19 : decode cX10_meterTell 19 = .ok (.ireturn, 1) := by decide +kernel
theorem dX10_tell_0 : decode cX10_tell 0 = .ok (.aload_n 0, 1) := by decide +kernel
theorem dX10_tell_1 : decode cX10_tell 1 = .ok (.getfield 206, 3) := by decide +kernel
theorem dX10_tell_4 : decode cX10_tell 4 = .ok (.iconst 1, 1) := by decide +kernel
theorem dX10_tell_5 : decode cX10_tell 5 = .ok (.if_icmp .eq 19, 3) := by decide +kernel
theorem dX10_tell_8 : decode cX10_tell 8 = .ok (.aload_n 0, 1) := by decide +kernel
theorem dX10_tell_9 : decode cX10_tell 9 = .ok (.getfield 206, 3) := by decide +kernel
theorem dX10_tell_12 : decode cX10_tell 12 = .ok (.iconst 3, 1) := by decide +kernel
theorem dX10_tell_13 : decode cX10_tell 13 = .ok (.if_icmp .eq 11, 3) := by decide +kernel
theorem dX10_tell_16 : decode cX10_tell 16 = .ok (.aload_n 0, 1) := by decide +kernel
theorem dX10_tell_17 : decode cX10_tell 17 = .ok (.getfield 206, 3) := by decide +kernel
theorem dX10_tell_20 : decode cX10_tell 20 = .ok (.iconst 5, 1) := by decide +kernel
theorem dX10_tell_21 : decode cX10_tell 21 = .ok (.if_icmp .ne 17, 3) := by decide +kernel
theorem dX10_tell_24 : decode cX10_tell 24 = .ok (.aload_n 0, 1) := by decide +kernel
theorem dX10_tell_25 : decode cX10_tell 25 = .ok (.bipush 21, 2) := by decide +kernel
theorem dX10_tell_27 : decode cX10_tell 27 = .ok (.invokevirtual 194, 3) := by decide +kernel
theorem dX10_tell_30 : decode cX10_tell 30 = .ok (.aload_n 0, 1) := by decide +kernel
theorem dX10_tell_31 : decode cX10_tell 31 = .ok (.iload_n 1, 1) := by decide +kernel
theorem dX10_tell_32 : decode cX10_tell 32 = .ok (.iconst 1, 1) := by decide +kernel
theorem dX10_tell_33 : decode cX10_tell 33 = .ok (.iadd, 1) := by decide +kernel
theorem dX10_tell_34 : decode cX10_tell 34 = .ok (.invokevirtual 230, 3) := by decide +kernel
theorem dX10_tell_37 : decode cX10_tell 37 = .ok (.ireturn, 1) := by decide +kernel
theorem dX10_tell_38 : decode cX10_tell 38 = .ok (.aload_n 0, 1) := by decide +kernel
theorem dX10_tell_39 : decode cX10_tell 39 = .ok (.getfield 206, 3) := by decide +kernel
theorem dX10_tell_42 : decode cX10_tell 42 = .ok (.iconst 4, 1) := by decide +kernel
theorem dX10_tell_43 : decode cX10_tell 43 = .ok (.if_icmp .ne 23, 3) := by decide +kernel
theorem dX10_tell_46 : decode cX10_tell 46 = .ok (.aload_n 0, 1) := by decide +kernel
theorem dX10_tell_47 : decode cX10_tell 47 = .ok (.bipush 50, 2) := by decide +kernel
theorem dX10_tell_49 : decode cX10_tell 49 = .ok (.invokevirtual 194, 3) := by decide +kernel
theorem dX10_tell_52 : decode cX10_tell 52 = .ok (.aload_n 0, 1) := by decide +kernel
theorem dX10_tell_53 : decode cX10_tell 53 = .ok (.iload_n 1, 1) := by decide +kernel
theorem dX10_tell_54 : decode cX10_tell 54 = .ok (.invokevirtual 218, 3) := by decide +kernel
theorem dX10_tell_57 : decode cX10_tell 57 = .ok (.istore_n 2, 1) := by decide +kernel
theorem dX10_tell_58 : decode cX10_tell 58 = .ok (.iload_n 2, 1) := by decide +kernel
theorem dX10_tell_59 : decode cX10_tell 59 = .ok (.aload_n 0, 1) := by decide +kernel
theorem dX10_tell_60 : decode cX10_tell 60 = .ok (.iload_n 1, 1) := by decide +kernel
theorem dX10_tell_61 : decode cX10_tell 61 = .ok (.invokevirtual 230, 3) := by decide +kernel
theorem dX10_tell_64 : decode cX10_tell 64 = .ok (.isub, 1) := by decide +kernel
theorem dX10_tell_65 : decode cX10_tell 65 = .ok (.ireturn, 1) := by decide +kernel
theorem dX10_tell_66 : decode cX10_tell 66 = .ok (.aload_n 0, 1) := by decide +kernel
theorem dX10_tell_67 : decode cX10_tell 67 = .ok (.iload_n 1, 1) := by decide +kernel
theorem dX10_tell_68 : decode cX10_tell 68 = .ok (.invokevirtual 230, 3) := by decide +kernel
theorem dX10_tell_71 : decode cX10_tell 71 = .ok (.ireturn, 1) := by decide +kernel
theorem dX10_voice_0 : decode cX10_voice 0 = .ok (.aload_n 0, 1) := by decide +kernel
theorem dX10_voice_1 : decode cX10_voice 1 = .ok (.iload_n 1, 1) := by decide +kernel
theorem dX10_voice_2 : decode cX10_voice 2 = .ok (.invokevirtual 123, 3) := by decide +kernel
theorem dX10_voice_5 : decode cX10_voice 5 = .ok (.ifCond .eq 12, 3) := by decide +kernel
theorem dX10_voice_8 : decode cX10_voice 8 = .ok (.iload_n 2, 1) := by decide +kernel
theorem dX10_voice_9 : decode cX10_voice 9 = .ok (.iconst 0, 1) := by decide +kernel
theorem dX10_voice_10 : decode cX10_voice 10 = .ok (.iconst 3, 1) := by decide +kernel
theorem dX10_voice_11 : decode cX10_voice 11 = .ok (.invokestatic 44, 3) := by decide +kernel
theorem dX10_voice_14 : decode cX10_voice 14 = .ok (.ifCond .ne 9, 3) := by decide +kernel
theorem dX10_voice_17 : decode cX10_voice 17 = .ok (.aload_n 0, 1) := by decide +kernel
theorem dX10_voice_18 : decode cX10_voice 18 = .ok (.iconst 1, 1) := by decide +kernel
theorem dX10_voice_19 : decode cX10_voice 19 = .ok (.invokevirtual 115, 3) := by decide +kernel
theorem dX10_voice_22 : decode cX10_voice 22 = .ok (.ireturn, 1) := by decide +kernel
theorem dX10_voice_23 : decode cX10_voice 23 = .ok (.aload_n 0, 1) := by decide +kernel
theorem dX10_voice_24 : decode cX10_voice 24 = .ok (.iconst 0, 1) := by decide +kernel
theorem dX10_voice_25 : decode cX10_voice 25 = .ok (.putfield 191, 3) := by decide +kernel
theorem dX10_voice_28 : decode cX10_voice 28 = .ok (.aload_n 0, 1) := by decide +kernel
theorem dX10_voice_29 : decode cX10_voice 29 = .ok (.iload_n 1, 1) := by decide +kernel
theorem dX10_voice_30 : decode cX10_voice 30 = .ok (.putfield 203, 3) := by decide +kernel
theorem dX10_voice_33 : decode cX10_voice 33 = .ok (.aload_n 0, 1) := by decide +kernel
theorem dX10_voice_34 : decode cX10_voice 34 = .ok (.aload_n 0, 1) := by decide +kernel
theorem dX10_voice_35 : decode cX10_voice 35 = .ok (.iload_n 1, 1) := by decide +kernel
theorem dX10_voice_36 : decode cX10_voice 36 = .ok (.iconst 1, 1) := by decide +kernel
theorem dX10_voice_37 : decode cX10_voice 37 = .ok (.invokevirtual 48, 3) := by decide +kernel
theorem dX10_voice_40 : decode cX10_voice 40 = .ok (.aload_n 0, 1) := by decide +kernel
theorem dX10_voice_41 : decode cX10_voice 41 = .ok (.iload_n 1, 1) := by decide +kernel
theorem dX10_voice_42 : decode cX10_voice 42 = .ok (.iconst 2, 1) := by decide +kernel
theorem dX10_voice_43 : decode cX10_voice 43 = .ok (.invokevirtual 48, 3) := by decide +kernel
theorem dX10_voice_46 : decode cX10_voice 46 = .ok (.iadd, 1) := by decide +kernel
theorem dX10_voice_47 : decode cX10_voice 47 = .ok (.putfield 197, 3) := by decide +kernel
theorem dX10_voice_50 : decode cX10_voice 50 = .ok (.aload_n 0, 1) := by decide +kernel
theorem dX10_voice_51 : decode cX10_voice 51 = .ok (.aload_n 0, 1) := by decide +kernel
theorem dX10_voice_52 : decode cX10_voice 52 = .ok (.iload_n 1, 1) := by decide +kernel
theorem dX10_voice_53 : decode cX10_voice 53 = .ok (.iconst 0, 1) := by decide +kernel
theorem dX10_voice_54 : decode cX10_voice 54 = .ok (.invokevirtual 48, 3) := by decide +kernel
theorem dX10_voice_57 : decode cX10_voice 57 = .ok (.putfield 206, 3) := by decide +kernel
theorem dX10_voice_60 : decode cX10_voice 60 = .ok (.iload_n 2, 1) := by decide +kernel
theorem dX10_voice_61 : decode cX10_voice 61 = .ok (.ifCond .ne 11, 3) := by decide +kernel
theorem dX10_voice_64 : decode cX10_voice 64 = .ok (.aload_n 0, 1) := by decide +kernel
theorem dX10_voice_65 : decode cX10_voice 65 = .ok (.iload_n 3, 1) := by decide +kernel
theorem dX10_voice_66 : decode cX10_voice 66 = .ok (.invokevirtual 212, 3) := by decide +kernel
theorem dX10_voice_69 : decode cX10_voice 69 = .ok (.goto 34, 3) := by decide +kernel
theorem dX10_voice_72 : decode cX10_voice 72 = .ok (.iload_n 2, 1) := by decide +kernel
theorem dX10_voice_73 : decode cX10_voice 73 = .ok (.iconst 1, 1) := by decide +kernel
theorem dX10_voice_74 : decode cX10_voice 74 = .ok (.if_icmp .ne 11, 3) := by decide +kernel
theorem dX10_voice_77 : decode cX10_voice 77 = .ok (.aload_n 0, 1) := by decide +kernel
theorem dX10_voice_78 : decode cX10_voice 78 = .ok (.iload_n 3, 1) := by decide +kernel
theorem dX10_voice_79 : decode cX10_voice 79 = .ok (.invokevirtual 227, 3) := by decide +kernel
theorem dX10_voice_82 : decode cX10_voice 82 = .ok (.goto 21, 3) := by decide +kernel
theorem dX10_voice_85 : decode cX10_voice 85 = .ok (.iload_n 2, 1) := by decide +kernel
theorem dX10_voice_86 : decode cX10_voice 86 = .ok (.iconst 2, 1) := by decide +kernel
theorem dX10_voice_87 : decode cX10_voice 87 = .ok (.if_icmp .ne 11, 3) := by decide +kernel
theorem dX10_voice_90 : decode cX10_voice 90 = .ok (.aload_n 0, 1) := by decide +kernel
theorem dX10_voice_91 : decode cX10_voice 91 = .ok (.iload_n 3, 1) := by decide +kernel
theorem dX10_voice_92 : decode cX10_voice 92 = .ok (.invokevirtual 218, 3) := by decide +kernel
theorem dX10_voice_95 : decode cX10_voice 95 = .ok (.goto 8, 3) := by decide +kernel
theorem dX10_voice_98 : decode cX10_voice 98 = .ok (.aload_n 0, 1) := by decide +kernel
theorem dX10_voice_99 : decode cX10_voice 99 = .ok (.iload_n 3, 1) := by decide +kernel
theorem dX10_voice_100 : decode cX10_voice 100 = .ok (.invokevirtual 233, 3) := by decide +kernel
theorem dX10_voice_103 : decode cX10_voice 103 = .ok (.ireturn, 1) := by decide +kernel
theorem dX10_trace_0 : decode cX10_trace 0 = .ok (.iload_n 1, 1) := by decide +kernel
theorem dX10_trace_1 : decode cX10_trace 1 = .ok (.iconst 0, 1) := by decide +kernel
theorem dX10_trace_2 : decode cX10_trace 2 = .ok (.aload_n 0, 1) := by decide +kernel
theorem dX10_trace_3 : decode cX10_trace 3 = .ok (.getfield 191, 3) := by decide +kernel
theorem dX10_trace_6 : decode cX10_trace 6 = .ok (.iconst 1, 1) := by decide +kernel
theorem dX10_trace_7 : decode cX10_trace 7 = .ok (.isub, 1) := by decide +kernel
theorem dX10_trace_8 : decode cX10_trace 8 = .ok (.invokestatic 44, 3) := by decide +kernel
theorem dX10_trace_11 : decode cX10_trace 11 = .ok (.ifCond .eq 12, 3) := by decide +kernel
theorem dX10_trace_14 : decode cX10_trace 14 = .ok (.aload_n 0, 1) := by decide +kernel
theorem dX10_trace_15 : decode cX10_trace 15 = .ok (.getfield 28, 3) := by decide +kernel
theorem dX10_trace_18 : decode cX10_trace 18 = .ok (.iload_n 1, 1) := by decide +kernel
theorem dX10_trace_19 : decode cX10_trace 19 = .ok (.iaload, 1) := by decide +kernel
theorem dX10_trace_20 : decode cX10_trace 20 = .ok (.goto 8, 3) := by decide +kernel
theorem dX10_trace_23 : decode cX10_trace 23 = .ok (.aload_n 0, 1) := by decide +kernel
theorem dX10_trace_24 : decode cX10_trace 24 = .ok (.iconst 2, 1) := by decide +kernel
theorem dX10_trace_25 : decode cX10_trace 25 = .ok (.invokevirtual 115, 3) := by decide +kernel
theorem dX10_trace_28 : decode cX10_trace 28 = .ok (.ireturn, 1) := by decide +kernel
theorem dX10_sheet_0 : decode cX10_sheet 0 = .ok (.iload_n 1, 1) := by decide +kernel
theorem dX10_sheet_1 : decode cX10_sheet 1 = .ok (.iconst 0, 1) := by decide +kernel
theorem dX10_sheet_2 : decode cX10_sheet 2 = .ok (.iconst 3, 1) := by decide +kernel
theorem dX10_sheet_3 : decode cX10_sheet 3 = .ok (.invokestatic 44, 3) := by decide +kernel
theorem dX10_sheet_6 : decode cX10_sheet 6 = .ok (.ifCond .eq 25, 3) := by decide +kernel
theorem dX10_sheet_9 : decode cX10_sheet 9 = .ok (.iload_n 2, 1) := by decide +kernel
theorem dX10_sheet_10 : decode cX10_sheet 10 = .ok (.ifCond .eq 27, 3) := by decide +kernel
theorem dX10_sheet_13 : decode cX10_sheet 13 = .ok (.iload_n 2, 1) := by decide +kernel
theorem dX10_sheet_14 : decode cX10_sheet 14 = .ok (.bipush 8, 2) := by decide +kernel
theorem dX10_sheet_16 : decode cX10_sheet 16 = .ok (.if_icmp .eq 21, 3) := by decide +kernel
theorem dX10_sheet_19 : decode cX10_sheet 19 = .ok (.iload_n 2, 1) := by decide +kernel
theorem dX10_sheet_20 : decode cX10_sheet 20 = .ok (.bipush 16, 2) := by decide +kernel
theorem dX10_sheet_22 : decode cX10_sheet 22 = .ok (.if_icmp .eq 15, 3) := by decide +kernel
theorem dX10_sheet_25 : decode cX10_sheet 25 = .ok (.iload_n 2, 1) := by decide +kernel
theorem dX10_sheet_26 : decode cX10_sheet 26 = .ok (.bipush 32, 2) := by decide +kernel
theorem dX10_sheet_28 : decode cX10_sheet 28 = .ok (.if_icmp .eq 9, 3) := by decide +kernel
theorem dX10_sheet_31 : decode cX10_sheet 31 = .ok (.aload_n 0, 1) := by decide +kernel
theorem dX10_sheet_32 : decode cX10_sheet 32 = .ok (.iconst 1, 1) := by decide +kernel
theorem dX10_sheet_33 : decode cX10_sheet 33 = .ok (.invokevirtual 115, 3) := by decide +kernel
theorem dX10_sheet_36 : decode cX10_sheet 36 = .ok (.ireturn, 1) := by decide +kernel
theorem dX10_sheet_37 : decode cX10_sheet 37 = .ok (.iload_n 2, 1) := by decide +kernel
theorem dX10_sheet_38 : decode cX10_sheet 38 = .ok (.ifCond .ne 12, 3) := by decide +kernel
theorem dX10_sheet_41 : decode cX10_sheet 41 = .ok (.aload_n 0, 1) := by decide +kernel
theorem dX10_sheet_42 : decode cX10_sheet 42 = .ok (.getfield 31, 3) := by decide +kernel
theorem dX10_sheet_45 : decode cX10_sheet 45 = .ok (.iload_n 1, 1) := by decide +kernel
theorem dX10_sheet_46 : decode cX10_sheet 46 = .ok (.iconst 0, 1) := by decide +kernel
theorem dX10_sheet_47 : decode cX10_sheet 47 = .ok (.iastore, 1) := by decide +kernel
theorem dX10_sheet_48 : decode cX10_sheet 48 = .ok (.iconst 1, 1) := by decide +kernel
theorem dX10_sheet_49 : decode cX10_sheet 49 = .ok (.ireturn, 1) := by decide +kernel
theorem dX10_sheet_50 : decode cX10_sheet 50 = .ok (.iload_n 3, 1) := by decide +kernel
theorem dX10_sheet_51 : decode cX10_sheet 51 = .ok (.ifCond .ge 9, 3) := by decide +kernel
theorem dX10_sheet_54 : decode cX10_sheet 54 = .ok (.aload_n 0, 1) := by decide +kernel
theorem dX10_sheet_55 : decode cX10_sheet 55 = .ok (.iconst 3, 1) := by decide +kernel
theorem dX10_sheet_56 : decode cX10_sheet 56 = .ok (.invokevirtual 115, 3) := by decide +kernel
theorem dX10_sheet_59 : decode cX10_sheet 59 = .ok (.ireturn, 1) := by decide +kernel
theorem dX10_sheet_60 : decode cX10_sheet 60 = .ok (.iload_n 3, 1) := by decide +kernel
theorem dX10_sheet_61 : decode cX10_sheet 61 = .ok (.bipush 24, 2) := by decide +kernel
theorem dX10_sheet_63 : decode cX10_sheet 63 = .ok (.if_icmp .le 9, 3) := by decide +kernel
theorem dX10_sheet_66 : decode cX10_sheet 66 = .ok (.aload_n 0, 1) := by decide +kernel
theorem dX10_sheet_67 : decode cX10_sheet 67 = .ok (.iconst 1, 1) := by decide +kernel
theorem dX10_sheet_68 : decode cX10_sheet 68 = .ok (.invokevirtual 115, 3) := by decide +kernel
theorem dX10_sheet_71 : decode cX10_sheet 71 = .ok (.ireturn, 1) := by decide +kernel
theorem dX10_sheet_72 : decode cX10_sheet 72 = .ok (.aload_n 0, 1) := by decide +kernel
theorem dX10_sheet_73 : decode cX10_sheet 73 = .ok (.getfield 31, 3) := by decide +kernel
theorem dX10_sheet_76 : decode cX10_sheet 76 = .ok (.iload_n 1, 1) := by decide +kernel
theorem dX10_sheet_77 : decode cX10_sheet 77 = .ok (.iload_n 2, 1) := by decide +kernel
theorem dX10_sheet_78 : decode cX10_sheet 78 = .ok (.iastore, 1) := by decide +kernel
theorem dX10_sheet_79 : decode cX10_sheet 79 = .ok (.aload_n 0, 1) := by decide +kernel
theorem dX10_sheet_80 : decode cX10_sheet 80 = .ok (.getfield 34, 3) := by decide +kernel
theorem dX10_sheet_83 : decode cX10_sheet 83 = .ok (.iload_n 1, 1) := by decide +kernel
theorem dX10_sheet_84 : decode cX10_sheet 84 = .ok (.iload_n 3, 1) := by decide +kernel
theorem dX10_sheet_85 : decode cX10_sheet 85 = .ok (.iastore, 1) := by decide +kernel
theorem dX10_sheet_86 : decode cX10_sheet 86 = .ok (.iconst 0, 1) := by decide +kernel
theorem dX10_sheet_87 : decode cX10_sheet 87 = .ok (.istore 4, 2) := by decide +kernel
theorem dX10_sheet_89 : decode cX10_sheet 89 = .ok (.iload 4, 2) := by decide +kernel
theorem dX10_sheet_91 : decode cX10_sheet 91 = .ok (.bipush 24, 2) := by decide +kernel
theorem dX10_sheet_93 : decode cX10_sheet 93 = .ok (.if_icmp .ge 22, 3) := by decide +kernel
theorem dX10_sheet_96 : decode cX10_sheet 96 = .ok (.aload_n 0, 1) := by decide +kernel
theorem dX10_sheet_97 : decode cX10_sheet 97 = .ok (.getfield 37, 3) := by decide +kernel
theorem dX10_sheet_100 : decode cX10_sheet 100 = .ok (.bipush 24, 2) := by decide +kernel
theorem dX10_sheet_102 : decode cX10_sheet 102 = .ok (.iload_n 1, 1) := by decide +kernel
theorem dX10_sheet_103 : decode cX10_sheet 103 = .ok (.imul, 1) := by decide +kernel
theorem dX10_sheet_104 : decode cX10_sheet 104 = .ok (.iload 4, 2) := by decide +kernel
theorem dX10_sheet_106 : decode cX10_sheet 106 = .ok (.iadd, 1) := by decide +kernel
theorem dX10_sheet_107 : decode cX10_sheet 107 = .ok (.iconst 0, 1) := by decide +kernel
theorem dX10_sheet_108 : decode cX10_sheet 108 = .ok (.iastore, 1) := by decide +kernel
theorem dX10_sheet_109 : decode cX10_sheet 109 = .ok (.iinc 4 1, 3) := by decide +kernel
theorem dX10_sheet_112 : decode cX10_sheet 112 = .ok (.goto (-23), 3) := by decide +kernel
theorem dX10_sheet_115 : decode cX10_sheet 115 = .ok (.iconst 1, 1) := by decide +kernel
theorem dX10_sheet_116 : decode cX10_sheet 116 = .ok (.ireturn, 1) := by decide +kernel
theorem dX10_put_0 : decode cX10_put 0 = .ok (.iload_n 1, 1) := by decide +kernel
theorem dX10_put_1 : decode cX10_put 1 = .ok (.iconst 0, 1) := by decide +kernel
theorem dX10_put_2 : decode cX10_put 2 = .ok (.iconst 3, 1) := by decide +kernel
theorem dX10_put_3 : decode cX10_put 3 = .ok (.invokestatic 44, 3) := by decide +kernel
theorem dX10_put_6 : decode cX10_put 6 = .ok (.ifCond .ne 9, 3) := by decide +kernel
theorem dX10_put_9 : decode cX10_put 9 = .ok (.aload_n 0, 1) := by decide +kernel
theorem dX10_put_10 : decode cX10_put 10 = .ok (.iconst 1, 1) := by decide +kernel
theorem dX10_put_11 : decode cX10_put 11 = .ok (.invokevirtual 115, 3) := by decide +kernel
theorem dX10_put_14 : decode cX10_put 14 = .ok (.ireturn, 1) := by decide +kernel
theorem dX10_put_15 : decode cX10_put 15 = .ok (.aload_n 0, 1) := by decide +kernel
theorem dX10_put_16 : decode cX10_put 16 = .ok (.getfield 31, 3) := by decide +kernel
theorem dX10_put_19 : decode cX10_put 19 = .ok (.iload_n 1, 1) := by decide +kernel
theorem dX10_put_20 : decode cX10_put 20 = .ok (.iaload, 1) := by decide +kernel
theorem dX10_put_21 : decode cX10_put 21 = .ok (.ifCond .ne 9, 3) := by decide +kernel
theorem dX10_put_24 : decode cX10_put 24 = .ok (.aload_n 0, 1) := by decide +kernel
theorem dX10_put_25 : decode cX10_put 25 = .ok (.iconst 2, 1) := by decide +kernel
theorem dX10_put_26 : decode cX10_put 26 = .ok (.invokevirtual 115, 3) := by decide +kernel
theorem dX10_put_29 : decode cX10_put 29 = .ok (.ireturn, 1) := by decide +kernel
theorem dX10_put_30 : decode cX10_put 30 = .ok (.iload_n 2, 1) := by decide +kernel
theorem dX10_put_31 : decode cX10_put 31 = .ok (.iconst 0, 1) := by decide +kernel
theorem dX10_put_32 : decode cX10_put 32 = .ok (.aload_n 0, 1) := by decide +kernel
theorem dX10_put_33 : decode cX10_put 33 = .ok (.getfield 34, 3) := by decide +kernel
theorem dX10_put_36 : decode cX10_put 36 = .ok (.iload_n 1, 1) := by decide +kernel
theorem dX10_put_37 : decode cX10_put 37 = .ok (.iaload, 1) := by decide +kernel
theorem dX10_put_38 : decode cX10_put 38 = .ok (.iconst 1, 1) := by decide +kernel
theorem dX10_put_39 : decode cX10_put 39 = .ok (.isub, 1) := by decide +kernel
theorem dX10_put_40 : decode cX10_put 40 = .ok (.invokestatic 44, 3) := by decide +kernel
theorem dX10_put_43 : decode cX10_put 43 = .ok (.ifCond .ne 9, 3) := by decide +kernel
theorem dX10_put_46 : decode cX10_put 46 = .ok (.aload_n 0, 1) := by decide +kernel
theorem dX10_put_47 : decode cX10_put 47 = .ok (.iconst 1, 1) := by decide +kernel
theorem dX10_put_48 : decode cX10_put 48 = .ok (.invokevirtual 115, 3) := by decide +kernel
theorem dX10_put_51 : decode cX10_put 51 = .ok (.ireturn, 1) := by decide +kernel
theorem dX10_put_52 : decode cX10_put 52 = .ok (.aload_n 0, 1) := by decide +kernel
theorem dX10_put_53 : decode cX10_put 53 = .ok (.getfield 37, 3) := by decide +kernel
theorem dX10_put_56 : decode cX10_put 56 = .ok (.bipush 24, 2) := by decide +kernel
theorem dX10_put_58 : decode cX10_put 58 = .ok (.iload_n 1, 1) := by decide +kernel
theorem dX10_put_59 : decode cX10_put 59 = .ok (.imul, 1) := by decide +kernel
theorem dX10_put_60 : decode cX10_put 60 = .ok (.iload_n 2, 1) := by decide +kernel
theorem dX10_put_61 : decode cX10_put 61 = .ok (.iadd, 1) := by decide +kernel
theorem dX10_put_62 : decode cX10_put 62 = .ok (.aload_n 0, 1) := by decide +kernel
theorem dX10_put_63 : decode cX10_put 63 = .ok (.getfield 31, 3) := by decide +kernel
theorem dX10_put_66 : decode cX10_put 66 = .ok (.iload_n 1, 1) := by decide +kernel
theorem dX10_put_67 : decode cX10_put 67 = .ok (.iaload, 1) := by decide +kernel
theorem dX10_put_68 : decode cX10_put 68 = .ok (.bipush 8, 2) := by decide +kernel
theorem dX10_put_70 : decode cX10_put 70 = .ok (.if_icmp .ne 8, 3) := by decide +kernel
theorem dX10_put_73 : decode cX10_put 73 = .ok (.iload_n 3, 1) := by decide +kernel
theorem dX10_put_74 : decode cX10_put 74 = .ok (.i2b, 1) := by decide +kernel
theorem dX10_put_75 : decode cX10_put 75 = .ok (.goto 20, 3) := by decide +kernel
theorem dX10_put_78 : decode cX10_put 78 = .ok (.aload_n 0, 1) := by decide +kernel
theorem dX10_put_79 : decode cX10_put 79 = .ok (.getfield 31, 3) := by decide +kernel
theorem dX10_put_82 : decode cX10_put 82 = .ok (.iload_n 1, 1) := by decide +kernel
theorem dX10_put_83 : decode cX10_put 83 = .ok (.iaload, 1) := by decide +kernel
theorem dX10_put_84 : decode cX10_put 84 = .ok (.bipush 16, 2) := by decide +kernel
theorem dX10_put_86 : decode cX10_put 86 = .ok (.if_icmp .ne 8, 3) := by decide +kernel
theorem dX10_put_89 : decode cX10_put 89 = .ok (.iload_n 3, 1) := by decide +kernel
theorem dX10_put_90 : decode cX10_put 90 = .ok (.i2s, 1) := by decide +kernel
theorem dX10_put_91 : decode cX10_put 91 = .ok (.goto 4, 3) := by decide +kernel
theorem dX10_put_94 : decode cX10_put 94 = .ok (.iload_n 3, 1) := by decide +kernel
theorem dX10_put_95 : decode cX10_put 95 = .ok (.iastore, 1) := by decide +kernel
theorem dX10_put_96 : decode cX10_put 96 = .ok (.iconst 1, 1) := by decide +kernel
theorem dX10_put_97 : decode cX10_put 97 = .ok (.ireturn, 1) := by decide +kernel
theorem dX10_has_0 : decode cX10_has 0 = .ok (.iload_n 2, 1) := by decide +kernel
theorem dX10_has_1 : decode cX10_has 1 = .ok (.ifCond .lt 33, 3) := by decide +kernel
theorem dX10_has_4 : decode cX10_has 4 = .ok (.iload_n 3, 1) := by decide +kernel
theorem dX10_has_5 : decode cX10_has 5 = .ok (.ifCond .lt 29, 3) := by decide +kernel
theorem dX10_has_8 : decode cX10_has 8 = .ok (.iload_n 3, 1) := by decide +kernel
theorem dX10_has_9 : decode cX10_has 9 = .ok (.aload_n 0, 1) := by decide +kernel
theorem dX10_has_10 : decode cX10_has 10 = .ok (.getfield 34, 3) := by decide +kernel
theorem dX10_has_13 : decode cX10_has 13 = .ok (.iload_n 1, 1) := by decide +kernel
theorem dX10_has_14 : decode cX10_has 14 = .ok (.iaload, 1) := by decide +kernel
theorem dX10_has_15 : decode cX10_has 15 = .ok (.if_icmp .gt 19, 3) := by decide +kernel
theorem dX10_has_18 : decode cX10_has 18 = .ok (.iload_n 2, 1) := by decide +kernel
theorem dX10_has_19 : decode cX10_has 19 = .ok (.aload_n 0, 1) := by decide +kernel
theorem dX10_has_20 : decode cX10_has 20 = .ok (.getfield 34, 3) := by decide +kernel
theorem dX10_has_23 : decode cX10_has 23 = .ok (.iload_n 1, 1) := by decide +kernel
theorem dX10_has_24 : decode cX10_has 24 = .ok (.iaload, 1) := by decide +kernel
theorem dX10_has_25 : decode cX10_has 25 = .ok (.iload_n 3, 1) := by decide +kernel
theorem dX10_has_26 : decode cX10_has 26 = .ok (.isub, 1) := by decide +kernel
theorem dX10_has_27 : decode cX10_has 27 = .ok (.if_icmp .gt 7, 3) := by decide +kernel
theorem dX10_has_30 : decode cX10_has 30 = .ok (.iconst 1, 1) := by decide +kernel
theorem dX10_has_31 : decode cX10_has 31 = .ok (.goto 4, 3) := by decide +kernel
theorem dX10_has_34 : decode cX10_has 34 = .ok (.iconst 0, 1) := by decide +kernel
theorem dX10_has_35 : decode cX10_has 35 = .ok (.ireturn, 1) := by decide +kernel
theorem dX10_move_0 : decode cX10_move 0 = .ok (.iload_n 1, 1) := by decide +kernel
theorem dX10_move_1 : decode cX10_move 1 = .ok (.iconst 0, 1) := by decide +kernel
theorem dX10_move_2 : decode cX10_move 2 = .ok (.iconst 3, 1) := by decide +kernel
theorem dX10_move_3 : decode cX10_move 3 = .ok (.invokestatic 44, 3) := by decide +kernel
theorem dX10_move_6 : decode cX10_move 6 = .ok (.ifCond .eq 12, 3) := by decide +kernel
theorem dX10_move_9 : decode cX10_move 9 = .ok (.iload_n 3, 1) := by decide +kernel
theorem dX10_move_10 : decode cX10_move 10 = .ok (.iconst 0, 1) := by decide +kernel
theorem dX10_move_11 : decode cX10_move 11 = .ok (.iconst 3, 1) := by decide +kernel
theorem dX10_move_12 : decode cX10_move 12 = .ok (.invokestatic 44, 3) := by decide +kernel
theorem dX10_move_15 : decode cX10_move 15 = .ok (.ifCond .ne 9, 3) := by decide +kernel
theorem dX10_move_18 : decode cX10_move 18 = .ok (.aload_n 0, 1) := by decide +kernel
theorem dX10_move_19 : decode cX10_move 19 = .ok (.iconst 1, 1) := by decide +kernel
theorem dX10_move_20 : decode cX10_move 20 = .ok (.invokevirtual 115, 3) := by decide +kernel
theorem dX10_move_23 : decode cX10_move 23 = .ok (.ireturn, 1) := by decide +kernel
theorem dX10_move_24 : decode cX10_move 24 = .ok (.aload_n 0, 1) := by decide +kernel
theorem dX10_move_25 : decode cX10_move 25 = .ok (.getfield 31, 3) := by decide +kernel
theorem dX10_move_28 : decode cX10_move 28 = .ok (.iload_n 1, 1) := by decide +kernel
theorem dX10_move_29 : decode cX10_move 29 = .ok (.iaload, 1) := by decide +kernel
theorem dX10_move_30 : decode cX10_move 30 = .ok (.ifCond .eq 12, 3) := by decide +kernel
theorem dX10_move_33 : decode cX10_move 33 = .ok (.aload_n 0, 1) := by decide +kernel
theorem dX10_move_34 : decode cX10_move 34 = .ok (.getfield 31, 3) := by decide +kernel
theorem dX10_move_37 : decode cX10_move 37 = .ok (.iload_n 3, 1) := by decide +kernel
theorem dX10_move_38 : decode cX10_move 38 = .ok (.iaload, 1) := by decide +kernel
theorem dX10_move_39 : decode cX10_move 39 = .ok (.ifCond .ne 9, 3) := by decide +kernel
theorem dX10_move_42 : decode cX10_move 42 = .ok (.aload_n 0, 1) := by decide +kernel
theorem dX10_move_43 : decode cX10_move 43 = .ok (.iconst 2, 1) := by decide +kernel
theorem dX10_move_44 : decode cX10_move 44 = .ok (.invokevirtual 115, 3) := by decide +kernel
theorem dX10_move_47 : decode cX10_move 47 = .ok (.ireturn, 1) := by decide +kernel
theorem dX10_move_48 : decode cX10_move 48 = .ok (.aload_n 0, 1) := by decide +kernel
theorem dX10_move_49 : decode cX10_move 49 = .ok (.getfield 31, 3) := by decide +kernel
theorem dX10_move_52 : decode cX10_move 52 = .ok (.iload_n 1, 1) := by decide +kernel
theorem dX10_move_53 : decode cX10_move 53 = .ok (.iaload, 1) := by decide +kernel
theorem dX10_move_54 : decode cX10_move 54 = .ok (.aload_n 0, 1) := by decide +kernel
theorem dX10_move_55 : decode cX10_move 55 = .ok (.getfield 31, 3) := by decide +kernel
theorem dX10_move_58 : decode cX10_move 58 = .ok (.iload_n 3, 1) := by decide +kernel
theorem dX10_move_59 : decode cX10_move 59 = .ok (.iaload, 1) := by decide +kernel
theorem dX10_move_60 : decode cX10_move 60 = .ok (.if_icmp .eq 9, 3) := by decide +kernel
theorem dX10_move_63 : decode cX10_move 63 = .ok (.aload_n 0, 1) := by decide +kernel
theorem dX10_move_64 : decode cX10_move 64 = .ok (.iconst 5, 1) := by decide +kernel
theorem dX10_move_65 : decode cX10_move 65 = .ok (.invokevirtual 115, 3) := by decide +kernel
theorem dX10_move_68 : decode cX10_move 68 = .ok (.ireturn, 1) := by decide +kernel
theorem dX10_move_69 : decode cX10_move 69 = .ok (.aload_n 0, 1) := by decide +kernel
theorem dX10_move_70 : decode cX10_move 70 = .ok (.iload_n 1, 1) := by decide +kernel
theorem dX10_move_71 : decode cX10_move 71 = .ok (.iload_n 2, 1) := by decide +kernel
theorem dX10_move_72 : decode cX10_move 72 = .ok (.iload 5, 2) := by decide +kernel
theorem dX10_move_74 : decode cX10_move 74 = .ok (.invokevirtual 236, 3) := by decide +kernel
theorem dX10_move_77 : decode cX10_move 77 = .ok (.ifCond .eq 15, 3) := by decide +kernel
theorem dX10_move_80 : decode cX10_move 80 = .ok (.aload_n 0, 1) := by decide +kernel
theorem dX10_move_81 : decode cX10_move 81 = .ok (.iload_n 3, 1) := by decide +kernel
theorem dX10_move_82 : decode cX10_move 82 = .ok (.iload 4, 2) := by decide +kernel
theorem dX10_move_84 : decode cX10_move 84 = .ok (.iload 5, 2) := by decide +kernel
theorem dX10_move_86 : decode cX10_move 86 = .ok (.invokevirtual 236, 3) := by decide +kernel
theorem dX10_move_89 : decode cX10_move 89 = .ok (.ifCond .ne 9, 3) := by decide +kernel
theorem dX10_move_92 : decode cX10_move 92 = .ok (.aload_n 0, 1) := by decide +kernel
theorem dX10_move_93 : decode cX10_move 93 = .ok (.iconst 1, 1) := by decide +kernel
theorem dX10_move_94 : decode cX10_move 94 = .ok (.invokevirtual 115, 3) := by decide +kernel
theorem dX10_move_97 : decode cX10_move 97 = .ok (.ireturn, 1) := by decide +kernel
theorem dX10_move_98 : decode cX10_move 98 = .ok (.iconst 0, 1) := by decide +kernel
theorem dX10_move_99 : decode cX10_move 99 = .ok (.istore 6, 2) := by decide +kernel
theorem dX10_move_101 : decode cX10_move 101 = .ok (.iload 6, 2) := by decide +kernel
theorem dX10_move_103 : decode cX10_move 103 = .ok (.iload 5, 2) := by decide +kernel
theorem dX10_move_105 : decode cX10_move 105 = .ok (.if_icmp .ge 30, 3) := by decide +kernel
theorem dX10_move_108 : decode cX10_move 108 = .ok (.aload_n 0, 1) := by decide +kernel
theorem dX10_move_109 : decode cX10_move 109 = .ok (.getfield 40, 3) := by decide +kernel
theorem dX10_move_112 : decode cX10_move 112 = .ok (.iload 6, 2) := by decide +kernel
theorem dX10_move_114 : decode cX10_move 114 = .ok (.aload_n 0, 1) := by decide +kernel
theorem dX10_move_115 : decode cX10_move 115 = .ok (.getfield 37, 3) := by decide +kernel
theorem dX10_move_118 : decode cX10_move 118 = .ok (.bipush 24, 2) := by decide +kernel
theorem dX10_move_120 : decode cX10_move 120 = .ok (.iload_n 1, 1) := by decide +kernel
theorem dX10_move_121 : decode cX10_move 121 = .ok (.imul, 1) := by decide +kernel
theorem dX10_move_122 : decode cX10_move 122 = .ok (.iload_n 2, 1) := by decide +kernel
theorem dX10_move_123 : decode cX10_move 123 = .ok (.iadd, 1) := by decide +kernel
theorem dX10_move_124 : decode cX10_move 124 = .ok (.iload 6, 2) := by decide +kernel
theorem dX10_move_126 : decode cX10_move 126 = .ok (.iadd, 1) := by decide +kernel
theorem dX10_move_127 : decode cX10_move 127 = .ok (.iaload, 1) := by decide +kernel
theorem dX10_move_128 : decode cX10_move 128 = .ok (.iastore, 1) := by decide +kernel
theorem dX10_move_129 : decode cX10_move 129 = .ok (.iinc 6 1, 3) := by decide +kernel
theorem dX10_move_132 : decode cX10_move 132 = .ok (.goto (-31), 3) := by decide +kernel
theorem dX10_move_135 : decode cX10_move 135 = .ok (.iconst 0, 1) := by decide +kernel
theorem dX10_move_136 : decode cX10_move 136 = .ok (.istore 6, 2) := by decide +kernel
theorem dX10_move_138 : decode cX10_move 138 = .ok (.iload 6, 2) := by decide +kernel
theorem dX10_move_140 : decode cX10_move 140 = .ok (.iload 5, 2) := by decide +kernel
theorem dX10_move_142 : decode cX10_move 142 = .ok (.if_icmp .ge 31, 3) := by decide +kernel
theorem dX10_move_145 : decode cX10_move 145 = .ok (.aload_n 0, 1) := by decide +kernel
theorem dX10_move_146 : decode cX10_move 146 = .ok (.getfield 37, 3) := by decide +kernel
theorem dX10_move_149 : decode cX10_move 149 = .ok (.bipush 24, 2) := by decide +kernel
theorem dX10_move_151 : decode cX10_move 151 = .ok (.iload_n 3, 1) := by decide +kernel
theorem dX10_move_152 : decode cX10_move 152 = .ok (.imul, 1) := by decide +kernel
theorem dX10_move_153 : decode cX10_move 153 = .ok (.iload 4, 2) := by decide +kernel
theorem dX10_move_155 : decode cX10_move 155 = .ok (.iadd, 1) := by decide +kernel
theorem dX10_move_156 : decode cX10_move 156 = .ok (.iload 6, 2) := by decide +kernel
theorem dX10_move_158 : decode cX10_move 158 = .ok (.iadd, 1) := by decide +kernel
theorem dX10_move_159 : decode cX10_move 159 = .ok (.aload_n 0, 1) := by decide +kernel
theorem dX10_move_160 : decode cX10_move 160 = .ok (.getfield 40, 3) := by decide +kernel
theorem dX10_move_163 : decode cX10_move 163 = .ok (.iload 6, 2) := by decide +kernel
theorem dX10_move_165 : decode cX10_move 165 = .ok (.iaload, 1) := by decide +kernel
theorem dX10_move_166 : decode cX10_move 166 = .ok (.iastore, 1) := by decide +kernel
theorem dX10_move_167 : decode cX10_move 167 = .ok (.iinc 6 1, 3) := by decide +kernel
theorem dX10_move_170 : decode cX10_move 170 = .ok (.goto (-32), 3) := by decide +kernel
theorem dX10_move_173 : decode cX10_move 173 = .ok (.iload 5, 2) := by decide +kernel
theorem dX10_move_175 : decode cX10_move 175 = .ok (.ireturn, 1) := by decide +kernel
theorem dX10_image_0 : decode cX10_image 0 = .ok (.aload_n 0, 1) := by decide +kernel
theorem dX10_image_1 : decode cX10_image 1 = .ok (.aload_n 0, 1) := by decide +kernel
theorem dX10_image_2 : decode cX10_image 2 = .ok (.getfield 13, 3) := by decide +kernel
theorem dX10_image_5 : decode cX10_image 5 = .ok (.invokevirtual 168, 3) := by decide +kernel
theorem dX10_image_8 : decode cX10_image 8 = .ok (.aload_n 0, 1) := by decide +kernel
theorem dX10_image_9 : decode cX10_image 9 = .ok (.iconst 1, 1) := by decide +kernel
theorem dX10_image_10 : decode cX10_image 10 = .ok (.putfield 239, 3) := by decide +kernel
theorem dX10_image_13 : decode cX10_image 13 = .ok (.aload_n 0, 1) := by decide +kernel
theorem dX10_image_14 : decode cX10_image 14 = .ok (.dup, 1) := by decide +kernel
theorem dX10_image_15 : decode cX10_image 15 = .ok (.getfield 242, 3) := by decide +kernel
theorem dX10_image_18 : decode cX10_image 18 = .ok (.iconst 1, 1) := by decide +kernel
theorem dX10_image_19 : decode cX10_image 19 = .ok (.iadd, 1) := by decide +kernel
theorem dX10_image_20 : decode cX10_image 20 = .ok (.putfield 242, 3) := by decide +kernel
theorem dX10_image_23 : decode cX10_image 23 = .ok (.aload_n 0, 1) := by decide +kernel
theorem dX10_image_24 : decode cX10_image 24 = .ok (.getfield 242, 3) := by decide +kernel
theorem dX10_image_27 : decode cX10_image 27 = .ok (.ireturn, 1) := by decide +kernel
theorem dX10_restore_0 : decode cX10_restore 0 = .ok (.aload_n 0, 1) := by decide +kernel
theorem dX10_restore_1 : decode cX10_restore 1 = .ok (.getfield 239, 3) := by decide +kernel
theorem dX10_restore_4 : decode cX10_restore 4 = .ok (.ifCond .ne 9, 3) := by decide +kernel
theorem dX10_restore_7 : decode cX10_restore 7 = .ok (.aload_n 0, 1) := by decide +kernel
theorem dX10_restore_8 : decode cX10_restore 8 = .ok (.iconst 2, 1) := by decide +kernel
theorem dX10_restore_9 : decode cX10_restore 9 = .ok (.invokevirtual 115, 3) := by decide +kernel
theorem dX10_restore_12 : decode cX10_restore 12 = .ok (.ireturn, 1) := by decide +kernel
theorem dX10_restore_13 : decode cX10_restore 13 = .ok (.aload_n 0, 1) := by decide +kernel
theorem dX10_restore_14 : decode cX10_restore 14 = .ok (.aload_n 0, 1) := by decide +kernel
theorem dX10_restore_15 : decode cX10_restore 15 = .ok (.getfield 13, 3) := by decide +kernel
theorem dX10_restore_18 : decode cX10_restore 18 = .ok (.invokevirtual 172, 3) := by decide +kernel
theorem dX10_restore_21 : decode cX10_restore 21 = .ok (.aload_n 0, 1) := by decide +kernel
theorem dX10_restore_22 : decode cX10_restore 22 = .ok (.getfield 7, 3) := by decide +kernel
theorem dX10_restore_25 : decode cX10_restore 25 = .ok (.iconst 0, 1) := by decide +kernel
theorem dX10_restore_26 : decode cX10_restore 26 = .ok (.iaload, 1) := by decide +kernel
theorem dX10_restore_27 : decode cX10_restore 27 = .ok (.ireturn, 1) := by decide +kernel
theorem dX10_told_0 : decode cX10_told 0 = .ok (.iconst 0, 1) := by decide +kernel
theorem dX10_told_1 : decode cX10_told 1 = .ok (.istore_n 2, 1) := by decide +kernel
theorem dX10_told_2 : decode cX10_told 2 = .ok (.iconst 0, 1) := by decide +kernel
theorem dX10_told_3 : decode cX10_told 3 = .ok (.istore_n 3, 1) := by decide +kernel
theorem dX10_told_4 : decode cX10_told 4 = .ok (.iconst 0, 1) := by decide +kernel
theorem dX10_told_5 : decode cX10_told 5 = .ok (.istore 4, 2) := by decide +kernel
theorem dX10_told_7 : decode cX10_told 7 = .ok (.iload 4, 2) := by decide +kernel
theorem dX10_told_9 : decode cX10_told 9 = .ok (.aload_n 0, 1) := by decide +kernel
theorem dX10_told_10 : decode cX10_told 10 = .ok (.getfield 7, 3) := by decide +kernel
theorem dX10_told_13 : decode cX10_told 13 = .ok (.iconst 1, 1) := by decide +kernel
theorem dX10_told_14 : decode cX10_told 14 = .ok (.iaload, 1) := by decide +kernel
theorem dX10_told_15 : decode cX10_told 15 = .ok (.if_icmp .ge 38, 3) := by decide +kernel
theorem dX10_told_18 : decode cX10_told 18 = .ok (.iload_n 2, 1) := by decide +kernel
theorem dX10_told_19 : decode cX10_told 19 = .ok (.aload_n 0, 1) := by decide +kernel
theorem dX10_told_20 : decode cX10_told 20 = .ok (.iload 4, 2) := by decide +kernel
theorem dX10_told_22 : decode cX10_told 22 = .ok (.bipush 6, 2) := by decide +kernel
theorem dX10_told_24 : decode cX10_told 24 = .ok (.invokevirtual 48, 3) := by decide +kernel
theorem dX10_told_27 : decode cX10_told 27 = .ok (.ifCond .ne 7, 3) := by decide +kernel
theorem dX10_told_30 : decode cX10_told 30 = .ok (.iconst 1, 1) := by decide +kernel
theorem dX10_told_31 : decode cX10_told 31 = .ok (.goto 4, 3) := by decide +kernel
theorem dX10_told_34 : decode cX10_told 34 = .ok (.iconst 0, 1) := by decide +kernel
theorem dX10_told_35 : decode cX10_told 35 = .ok (.iadd, 1) := by decide +kernel
theorem dX10_told_36 : decode cX10_told 36 = .ok (.istore_n 2, 1) := by decide +kernel
theorem dX10_told_37 : decode cX10_told 37 = .ok (.iload_n 3, 1) := by decide +kernel
theorem dX10_told_38 : decode cX10_told 38 = .ok (.aload_n 0, 1) := by decide +kernel
theorem dX10_told_39 : decode cX10_told 39 = .ok (.iload 4, 2) := by decide +kernel
theorem dX10_told_41 : decode cX10_told 41 = .ok (.iconst 4, 1) := by decide +kernel
theorem dX10_told_42 : decode cX10_told 42 = .ok (.invokevirtual 48, 3) := by decide +kernel
theorem dX10_told_45 : decode cX10_told 45 = .ok (.iadd, 1) := by decide +kernel
theorem dX10_told_46 : decode cX10_told 46 = .ok (.istore_n 3, 1) := by decide +kernel
theorem dX10_told_47 : decode cX10_told 47 = .ok (.iinc 4 1, 3) := by decide +kernel
theorem dX10_told_50 : decode cX10_told 50 = .ok (.goto (-43), 3) := by decide +kernel
theorem dX10_told_53 : decode cX10_told 53 = .ok (.iload_n 1, 1) := by decide +kernel
theorem dX10_told_54 : decode cX10_told 54 = .ok (.tableswitch 137 0 11 #[62, 69, 76, 83, 90, 98, 105, 112, 120, 128, 130, 132], 62) := by decide +kernel
theorem dX10_told_116 : decode cX10_told 116 = .ok (.aload_n 0, 1) := by decide +kernel
theorem dX10_told_117 : decode cX10_told 117 = .ok (.getfield 7, 3) := by decide +kernel
theorem dX10_told_120 : decode cX10_told 120 = .ok (.iconst 1, 1) := by decide +kernel
theorem dX10_told_121 : decode cX10_told 121 = .ok (.iaload, 1) := by decide +kernel
theorem dX10_told_122 : decode cX10_told 122 = .ok (.ireturn, 1) := by decide +kernel
theorem dX10_told_123 : decode cX10_told 123 = .ok (.aload_n 0, 1) := by decide +kernel
theorem dX10_told_124 : decode cX10_told 124 = .ok (.getfield 7, 3) := by decide +kernel
theorem dX10_told_127 : decode cX10_told 127 = .ok (.iconst 2, 1) := by decide +kernel
theorem dX10_told_128 : decode cX10_told 128 = .ok (.iaload, 1) := by decide +kernel
theorem dX10_told_129 : decode cX10_told 129 = .ok (.ireturn, 1) := by decide +kernel
theorem dX10_told_130 : decode cX10_told 130 = .ok (.aload_n 0, 1) := by decide +kernel
theorem dX10_told_131 : decode cX10_told 131 = .ok (.getfield 7, 3) := by decide +kernel
theorem dX10_told_134 : decode cX10_told 134 = .ok (.iconst 3, 1) := by decide +kernel
theorem dX10_told_135 : decode cX10_told 135 = .ok (.iaload, 1) := by decide +kernel
theorem dX10_told_136 : decode cX10_told 136 = .ok (.ireturn, 1) := by decide +kernel
theorem dX10_told_137 : decode cX10_told 137 = .ok (.aload_n 0, 1) := by decide +kernel
theorem dX10_told_138 : decode cX10_told 138 = .ok (.getfield 7, 3) := by decide +kernel
theorem dX10_told_141 : decode cX10_told 141 = .ok (.iconst 0, 1) := by decide +kernel
theorem dX10_told_142 : decode cX10_told 142 = .ok (.iaload, 1) := by decide +kernel
theorem dX10_told_143 : decode cX10_told 143 = .ok (.ireturn, 1) := by decide +kernel
theorem dX10_told_144 : decode cX10_told 144 = .ok (.aload_n 0, 1) := by decide +kernel
theorem dX10_told_145 : decode cX10_told 145 = .ok (.getfield 7, 3) := by decide +kernel
theorem dX10_told_148 : decode cX10_told 148 = .ok (.bipush 6, 2) := by decide +kernel
theorem dX10_told_150 : decode cX10_told 150 = .ok (.iaload, 1) := by decide +kernel
theorem dX10_told_151 : decode cX10_told 151 = .ok (.ireturn, 1) := by decide +kernel
theorem dX10_told_152 : decode cX10_told 152 = .ok (.aload_n 0, 1) := by decide +kernel
theorem dX10_told_153 : decode cX10_told 153 = .ok (.getfield 7, 3) := by decide +kernel
theorem dX10_told_156 : decode cX10_told 156 = .ok (.iconst 4, 1) := by decide +kernel
theorem dX10_told_157 : decode cX10_told 157 = .ok (.iaload, 1) := by decide +kernel
theorem dX10_told_158 : decode cX10_told 158 = .ok (.ireturn, 1) := by decide +kernel
theorem dX10_told_159 : decode cX10_told 159 = .ok (.aload_n 0, 1) := by decide +kernel
theorem dX10_told_160 : decode cX10_told 160 = .ok (.getfield 7, 3) := by decide +kernel
theorem dX10_told_163 : decode cX10_told 163 = .ok (.iconst 5, 1) := by decide +kernel
theorem dX10_told_164 : decode cX10_told 164 = .ok (.iaload, 1) := by decide +kernel
theorem dX10_told_165 : decode cX10_told 165 = .ok (.ireturn, 1) := by decide +kernel
theorem dX10_told_166 : decode cX10_told 166 = .ok (.aload_n 0, 1) := by decide +kernel
theorem dX10_told_167 : decode cX10_told 167 = .ok (.getfield 7, 3) := by decide +kernel
theorem dX10_told_170 : decode cX10_told 170 = .ok (.bipush 7, 2) := by decide +kernel
theorem dX10_told_172 : decode cX10_told 172 = .ok (.iaload, 1) := by decide +kernel
theorem dX10_told_173 : decode cX10_told 173 = .ok (.ireturn, 1) := by decide +kernel
theorem dX10_told_174 : decode cX10_told 174 = .ok (.aload_n 0, 1) := by decide +kernel
theorem dX10_told_175 : decode cX10_told 175 = .ok (.getfield 7, 3) := by decide +kernel
theorem dX10_told_178 : decode cX10_told 178 = .ok (.bipush 8, 2) := by decide +kernel
theorem dX10_told_180 : decode cX10_told 180 = .ok (.iaload, 1) := by decide +kernel
theorem dX10_told_181 : decode cX10_told 181 = .ok (.ireturn, 1) := by decide +kernel
theorem dX10_told_182 : decode cX10_told 182 = .ok (.iload_n 2, 1) := by decide +kernel
theorem dX10_told_183 : decode cX10_told 183 = .ok (.ireturn, 1) := by decide +kernel
theorem dX10_told_184 : decode cX10_told 184 = .ok (.iload_n 3, 1) := by decide +kernel
theorem dX10_told_185 : decode cX10_told 185 = .ok (.ireturn, 1) := by decide +kernel
theorem dX10_told_186 : decode cX10_told 186 = .ok (.aload_n 0, 1) := by decide +kernel
theorem dX10_told_187 : decode cX10_told 187 = .ok (.getfield 191, 3) := by decide +kernel
theorem dX10_told_190 : decode cX10_told 190 = .ok (.ireturn, 1) := by decide +kernel
theorem dX10_told_191 : decode cX10_told 191 = .ok (.aload_n 0, 1) := by decide +kernel
theorem dX10_told_192 : decode cX10_told 192 = .ok (.iconst 1, 1) := by decide +kernel
theorem dX10_told_193 : decode cX10_told 193 = .ok (.invokevirtual 115, 3) := by decide +kernel
theorem dX10_told_196 : decode cX10_told 196 = .ok (.ireturn, 1) := by decide +kernel
theorem dX10_found_0 : decode cX10_found 0 = .ok (.iload_n 1, 1) := by decide +kernel
theorem dX10_found_1 : decode cX10_found 1 = .ok (.iconst 1, 1) := by decide +kernel
theorem dX10_found_2 : decode cX10_found 2 = .ok (.iconst 5, 1) := by decide +kernel
theorem dX10_found_3 : decode cX10_found 3 = .ok (.invokestatic 44, 3) := by decide +kernel
theorem dX10_found_6 : decode cX10_found 6 = .ok (.ifCond .eq 12, 3) := by decide +kernel
theorem dX10_found_9 : decode cX10_found 9 = .ok (.aload_n 0, 1) := by decide +kernel
theorem dX10_found_10 : decode cX10_found 10 = .ok (.getfield 19, 3) := by decide +kernel
theorem dX10_found_13 : decode cX10_found 13 = .ok (.iload_n 1, 1) := by decide +kernel
theorem dX10_found_14 : decode cX10_found 14 = .ok (.iaload, 1) := by decide +kernel
theorem dX10_found_15 : decode cX10_found 15 = .ok (.goto 8, 3) := by decide +kernel
theorem dX10_found_18 : decode cX10_found 18 = .ok (.aload_n 0, 1) := by decide +kernel
theorem dX10_found_19 : decode cX10_found 19 = .ok (.iconst 1, 1) := by decide +kernel
theorem dX10_found_20 : decode cX10_found 20 = .ok (.invokevirtual 115, 3) := by decide +kernel
theorem dX10_found_23 : decode cX10_found 23 = .ok (.ireturn, 1) := by decide +kernel
theorem dJ6_bitCount_0f7a4_0 : decode cJ6_bitCount_0f7a4 0 = .ok (.iload_n 0, 1) := by decide +kernel
theorem dJ6_bitCount_0f7a4_1 : decode cJ6_bitCount_0f7a4 1 = .ok (.iload_n 0, 1) := by decide +kernel
theorem dJ6_bitCount_0f7a4_2 : decode cJ6_bitCount_0f7a4 2 = .ok (.iconst 1, 1) := by decide +kernel
theorem dJ6_bitCount_0f7a4_3 : decode cJ6_bitCount_0f7a4 3 = .ok (.iushr, 1) := by decide +kernel
theorem dJ6_bitCount_0f7a4_4 : decode cJ6_bitCount_0f7a4 4 = .ok (.ldc_w 265, 3) := by decide +kernel
theorem dJ6_bitCount_0f7a4_7 : decode cJ6_bitCount_0f7a4 7 = .ok (.iand, 1) := by decide +kernel
theorem dJ6_bitCount_0f7a4_8 : decode cJ6_bitCount_0f7a4 8 = .ok (.isub, 1) := by decide +kernel
theorem dJ6_bitCount_0f7a4_9 : decode cJ6_bitCount_0f7a4 9 = .ok (.istore_n 0, 1) := by decide +kernel
theorem dJ6_bitCount_0f7a4_10 : decode cJ6_bitCount_0f7a4 10 = .ok (.iload_n 0, 1) := by decide +kernel
theorem dJ6_bitCount_0f7a4_11 : decode cJ6_bitCount_0f7a4 11 = .ok (.ldc_w 266, 3) := by decide +kernel
theorem dJ6_bitCount_0f7a4_14 : decode cJ6_bitCount_0f7a4 14 = .ok (.iand, 1) := by decide +kernel
theorem dJ6_bitCount_0f7a4_15 : decode cJ6_bitCount_0f7a4 15 = .ok (.iload_n 0, 1) := by decide +kernel
theorem dJ6_bitCount_0f7a4_16 : decode cJ6_bitCount_0f7a4 16 = .ok (.iconst 2, 1) := by decide +kernel
theorem dJ6_bitCount_0f7a4_17 : decode cJ6_bitCount_0f7a4 17 = .ok (.iushr, 1) := by decide +kernel
theorem dJ6_bitCount_0f7a4_18 : decode cJ6_bitCount_0f7a4 18 = .ok (.ldc_w 266, 3) := by decide +kernel
theorem dJ6_bitCount_0f7a4_21 : decode cJ6_bitCount_0f7a4 21 = .ok (.iand, 1) := by decide +kernel
theorem dJ6_bitCount_0f7a4_22 : decode cJ6_bitCount_0f7a4 22 = .ok (.iadd, 1) := by decide +kernel
theorem dJ6_bitCount_0f7a4_23 : decode cJ6_bitCount_0f7a4 23 = .ok (.istore_n 0, 1) := by decide +kernel
theorem dJ6_bitCount_0f7a4_24 : decode cJ6_bitCount_0f7a4 24 = .ok (.iload_n 0, 1) := by decide +kernel
theorem dJ6_bitCount_0f7a4_25 : decode cJ6_bitCount_0f7a4 25 = .ok (.iload_n 0, 1) := by decide +kernel
theorem dJ6_bitCount_0f7a4_26 : decode cJ6_bitCount_0f7a4 26 = .ok (.iconst 4, 1) := by decide +kernel
theorem dJ6_bitCount_0f7a4_27 : decode cJ6_bitCount_0f7a4 27 = .ok (.iushr, 1) := by decide +kernel
theorem dJ6_bitCount_0f7a4_28 : decode cJ6_bitCount_0f7a4 28 = .ok (.iadd, 1) := by decide +kernel
theorem dJ6_bitCount_0f7a4_29 : decode cJ6_bitCount_0f7a4 29 = .ok (.ldc_w 267, 3) := by decide +kernel
theorem dJ6_bitCount_0f7a4_32 : decode cJ6_bitCount_0f7a4 32 = .ok (.iand, 1) := by decide +kernel
theorem dJ6_bitCount_0f7a4_33 : decode cJ6_bitCount_0f7a4 33 = .ok (.istore_n 0, 1) := by decide +kernel
theorem dJ6_bitCount_0f7a4_34 : decode cJ6_bitCount_0f7a4 34 = .ok (.iload_n 0, 1) := by decide +kernel
theorem dJ6_bitCount_0f7a4_35 : decode cJ6_bitCount_0f7a4 35 = .ok (.iload_n 0, 1) := by decide +kernel
theorem dJ6_bitCount_0f7a4_36 : decode cJ6_bitCount_0f7a4 36 = .ok (.bipush 8, 2) := by decide +kernel
theorem dJ6_bitCount_0f7a4_38 : decode cJ6_bitCount_0f7a4 38 = .ok (.iushr, 1) := by decide +kernel
theorem dJ6_bitCount_0f7a4_39 : decode cJ6_bitCount_0f7a4 39 = .ok (.iadd, 1) := by decide +kernel
theorem dJ6_bitCount_0f7a4_40 : decode cJ6_bitCount_0f7a4 40 = .ok (.istore_n 0, 1) := by decide +kernel
theorem dJ6_bitCount_0f7a4_41 : decode cJ6_bitCount_0f7a4 41 = .ok (.iload_n 0, 1) := by decide +kernel
theorem dJ6_bitCount_0f7a4_42 : decode cJ6_bitCount_0f7a4 42 = .ok (.iload_n 0, 1) := by decide +kernel
theorem dJ6_bitCount_0f7a4_43 : decode cJ6_bitCount_0f7a4 43 = .ok (.bipush 16, 2) := by decide +kernel
theorem dJ6_bitCount_0f7a4_45 : decode cJ6_bitCount_0f7a4 45 = .ok (.iushr, 1) := by decide +kernel
theorem dJ6_bitCount_0f7a4_46 : decode cJ6_bitCount_0f7a4 46 = .ok (.iadd, 1) := by decide +kernel
theorem dJ6_bitCount_0f7a4_47 : decode cJ6_bitCount_0f7a4 47 = .ok (.istore_n 0, 1) := by decide +kernel
theorem dJ6_bitCount_0f7a4_48 : decode cJ6_bitCount_0f7a4 48 = .ok (.iload_n 0, 1) := by decide +kernel
theorem dJ6_bitCount_0f7a4_49 : decode cJ6_bitCount_0f7a4 49 = .ok (.bipush 63, 2) := by decide +kernel
theorem dJ6_bitCount_0f7a4_51 : decode cJ6_bitCount_0f7a4 51 = .ok (.iand, 1) := by decide +kernel
theorem dJ6_bitCount_0f7a4_52 : decode cJ6_bitCount_0f7a4 52 = .ok (.ireturn, 1) := by decide +kernel
theorem dJ9_abs_0f7a4_0 : decode cJ9_abs_0f7a4 0 = .ok (.iload_n 0, 1) := by decide +kernel
theorem dJ9_abs_0f7a4_1 : decode cJ9_abs_0f7a4 1 = .ok (.ifCond .ge 8, 3) := by decide +kernel
theorem dJ9_abs_0f7a4_4 : decode cJ9_abs_0f7a4 4 = .ok (.iload_n 0, 1) := by decide +kernel
theorem dJ9_abs_0f7a4_5 : decode cJ9_abs_0f7a4 5 = .ok (.ineg, 1) := by decide +kernel
theorem dJ9_abs_0f7a4_6 : decode cJ9_abs_0f7a4 6 = .ok (.goto 4, 3) := by decide +kernel
theorem dJ9_abs_0f7a4_9 : decode cJ9_abs_0f7a4 9 = .ok (.iload_n 0, 1) := by decide +kernel
theorem dJ9_abs_0f7a4_10 : decode cJ9_abs_0f7a4 10 = .ok (.ireturn, 1) := by decide +kernel
theorem dJ9_max_7cf53_0 : decode cJ9_max_7cf53 0 = .ok (.iload_n 0, 1) := by decide +kernel
theorem dJ9_max_7cf53_1 : decode cJ9_max_7cf53 1 = .ok (.iload_n 1, 1) := by decide +kernel
theorem dJ9_max_7cf53_2 : decode cJ9_max_7cf53 2 = .ok (.if_icmp .lt 7, 3) := by decide +kernel
theorem dJ9_max_7cf53_5 : decode cJ9_max_7cf53 5 = .ok (.iload_n 0, 1) := by decide +kernel
theorem dJ9_max_7cf53_6 : decode cJ9_max_7cf53 6 = .ok (.goto 4, 3) := by decide +kernel
theorem dJ9_max_7cf53_9 : decode cJ9_max_7cf53 9 = .ok (.iload_n 1, 1) := by decide +kernel
theorem dJ9_max_7cf53_10 : decode cJ9_max_7cf53 10 = .ok (.ireturn, 1) := by decide +kernel
theorem dJ9_min_7cf53_0 : decode cJ9_min_7cf53 0 = .ok (.iload_n 0, 1) := by decide +kernel
theorem dJ9_min_7cf53_1 : decode cJ9_min_7cf53 1 = .ok (.iload_n 1, 1) := by decide +kernel
theorem dJ9_min_7cf53_2 : decode cJ9_min_7cf53 2 = .ok (.if_icmp .gt 7, 3) := by decide +kernel
theorem dJ9_min_7cf53_5 : decode cJ9_min_7cf53 5 = .ok (.iload_n 0, 1) := by decide +kernel
theorem dJ9_min_7cf53_6 : decode cJ9_min_7cf53 6 = .ok (.goto 4, 3) := by decide +kernel
theorem dJ9_min_7cf53_9 : decode cJ9_min_7cf53 9 = .ok (.iload_n 1, 1) := by decide +kernel
theorem dJ9_min_7cf53_10 : decode cJ9_min_7cf53 10 = .ok (.ireturn, 1) := by decide +kernel
