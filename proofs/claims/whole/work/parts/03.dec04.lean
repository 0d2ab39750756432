theorem dX10_force_122 : decode cX10_force 122 = .ok (.iconst 1, 1) := by decide +kernel
theorem dX10_force_123 : decode cX10_force 123 = .ok (.ireturn, 1) := by decide +kernel
theorem dX10_connects_0 : decode cX10_connects 0 = .ok (.aload_n 0, 1) := by decide +kernel
theorem dX10_connects_1 : decode cX10_connects 1 = .ok (.iload_n 1, 1) := by decide +kernel
theorem dX10_connects_2 : decode cX10_connects 2 = .ok (.iconst 3, 1) := by decide +kernel
theorem dX10_connects_3 : decode cX10_connects 3 = .ok (.invokevirtual 48, 3) := by decide +kernel
theorem dX10_connects_6 : decode cX10_connects 6 = .ok (.aload_n 0, 1) := by decide +kernel
theorem dX10_connects_7 : decode cX10_connects 7 = .ok (.iload_n 1, 1) := by decide +kernel
theorem dX10_connects_8 : decode cX10_connects 8 = .ok (.invokevirtual 129, 3) := by decide +kernel
theorem dX10_connects_11 : decode cX10_connects 11 = .ok (.if_icmp .lt 11, 3) := by decide +kernel
theorem dX10_connects_14 : decode cX10_connects 14 = .ok (.aload_n 0, 1) := by decide +kernel
theorem dX10_connects_15 : decode cX10_connects 15 = .ok (.iload_n 1, 1) := by decide +kernel
theorem dX10_connects_16 : decode cX10_connects 16 = .ok (.bipush 6, 2) := by decide +kernel
theorem dX10_connects_18 : decode cX10_connects 18 = .ok (.iconst 1, 1) := by decide +kernel
theorem dX10_connects_19 : decode cX10_connects 19 = .ok (.invokevirtual 119, 3) := by decide +kernel
theorem dX10_connects_22 : decode cX10_connects 22 = .ok (.return_, 1) := by decide +kernel
theorem dX10_press_0 : decode cX10_press 0 = .ok (.aload_n 0, 1) := by decide +kernel
theorem dX10_press_1 : decode cX10_press 1 = .ok (.iload_n 1, 1) := by decide +kernel
theorem dX10_press_2 : decode cX10_press 2 = .ok (.invokevirtual 123, 3) := by decide +kernel
theorem dX10_press_5 : decode cX10_press 5 = .ok (.ifCond .ne 9, 3) := by decide +kernel
theorem dX10_press_8 : decode cX10_press 8 = .ok (.aload_n 0, 1) := by decide +kernel
theorem dX10_press_9 : decode cX10_press 9 = .ok (.iconst 1, 1) := by decide +kernel
theorem dX10_press_10 : decode cX10_press 10 = .ok (.invokevirtual 115, 3) := by decide +kernel
theorem dX10_press_13 : decode cX10_press 13 = .ok (.ireturn, 1) := by decide +kernel
theorem dX10_press_14 : decode cX10_press 14 = .ok (.aload_n 0, 1) := by decide +kernel
theorem dX10_press_15 : decode cX10_press 15 = .ok (.iload_n 1, 1) := by decide +kernel
theorem dX10_press_16 : decode cX10_press 16 = .ok (.iconst 0, 1) := by decide +kernel
theorem dX10_press_17 : decode cX10_press 17 = .ok (.invokevirtual 48, 3) := by decide +kernel
theorem dX10_press_20 : decode cX10_press 20 = .ok (.iconst 3, 1) := by decide +kernel
theorem dX10_press_21 : decode cX10_press 21 = .ok (.if_icmp .ne 9, 3) := by decide +kernel
theorem dX10_press_24 : decode cX10_press 24 = .ok (.aload_n 0, 1) := by decide +kernel
theorem dX10_press_25 : decode cX10_press 25 = .ok (.iconst 5, 1) := by decide +kernel
theorem dX10_press_26 : decode cX10_press 26 = .ok (.invokevirtual 115, 3) := by decide +kernel
theorem dX10_press_29 : decode cX10_press 29 = .ok (.ireturn, 1) := by decide +kernel
theorem dX10_press_30 : decode cX10_press 30 = .ok (.aload_n 0, 1) := by decide +kernel
theorem dX10_press_31 : decode cX10_press 31 = .ok (.iload_n 1, 1) := by decide +kernel
theorem dX10_press_32 : decode cX10_press 32 = .ok (.bipush 7, 2) := by decide +kernel
theorem dX10_press_34 : decode cX10_press 34 = .ok (.invokevirtual 48, 3) := by decide +kernel
theorem dX10_press_37 : decode cX10_press 37 = .ok (.iconst 1, 1) := by decide +kernel
theorem dX10_press_38 : decode cX10_press 38 = .ok (.if_icmp .eq 14, 3) := by decide +kernel
theorem dX10_press_41 : decode cX10_press 41 = .ok (.aload_n 0, 1) := by decide +kernel
theorem dX10_press_42 : decode cX10_press 42 = .ok (.iload_n 1, 1) := by decide +kernel
theorem dX10_press_43 : decode cX10_press 43 = .ok (.iconst 3, 1) := by decide +kernel
theorem dX10_press_44 : decode cX10_press 44 = .ok (.invokevirtual 48, 3) := by decide +kernel
theorem dX10_press_47 : decode cX10_press 47 = .ok (.bipush 100, 2) := by decide +kernel
theorem dX10_press_49 : decode cX10_press 49 = .ok (.if_icmp .le 9, 3) := by decide +kernel
theorem dX10_press_52 : decode cX10_press 52 = .ok (.aload_n 0, 1) := by decide +kernel
theorem dX10_press_53 : decode cX10_press 53 = .ok (.iconst 3, 1) := by decide +kernel
theorem dX10_press_54 : decode cX10_press 54 = .ok (.invokevirtual 115, 3) := by decide +kernel
theorem dX10_press_57 : decode cX10_press 57 = .ok (.ireturn, 1) := by decide +kernel
theorem dX10_press_58 : decode cX10_press 58 = .ok (.aload_n 0, 1) := by decide +kernel
theorem dX10_press_59 : decode cX10_press 59 = .ok (.iload_n 1, 1) := by decide +kernel
theorem dX10_press_60 : decode cX10_press 60 = .ok (.bipush 7, 2) := by decide +kernel
theorem dX10_press_62 : decode cX10_press 62 = .ok (.iconst 1, 1) := by decide +kernel
theorem dX10_press_63 : decode cX10_press 63 = .ok (.invokevirtual 119, 3) := by decide +kernel
theorem dX10_press_66 : decode cX10_press 66 = .ok (.aload_n 0, 1) := by decide +kernel
theorem dX10_press_67 : decode cX10_press 67 = .ok (.iload_n 1, 1) := by decide +kernel
theorem dX10_press_68 : decode cX10_press 68 = .ok (.invokevirtual 136, 3) := by decide +kernel
theorem dX10_press_71 : decode cX10_press 71 = .ok (.aload_n 0, 1) := by decide +kernel
theorem dX10_press_72 : decode cX10_press 72 = .ok (.iload_n 1, 1) := by decide +kernel
theorem dX10_press_73 : decode cX10_press 73 = .ok (.invokevirtual 129, 3) := by decide +kernel
theorem dX10_press_76 : decode cX10_press 76 = .ok (.ireturn, 1) := by decide +kernel
theorem dX10_shop_0 : decode cX10_shop 0 = .ok (.iload_n 1, 1) := by decide +kernel
theorem dX10_shop_1 : decode cX10_shop 1 = .ok (.invokestatic 112, 3) := by decide +kernel
theorem dX10_shop_4 : decode cX10_shop 4 = .ok (.ifCond .eq 32, 3) := by decide +kernel
theorem dX10_shop_7 : decode cX10_shop 7 = .ok (.iload_n 2, 1) := by decide +kernel
theorem dX10_shop_8 : decode cX10_shop 8 = .ok (.iconst 0, 1) := by decide +kernel
theorem dX10_shop_9 : decode cX10_shop 9 = .ok (.sipush 2399, 3) := by decide +kernel
theorem dX10_shop_12 : decode cX10_shop 12 = .ok (.invokestatic 44, 3) := by decide +kernel
theorem dX10_shop_15 : decode cX10_shop 15 = .ok (.ifCond .eq 21, 3) := by decide +kernel
theorem dX10_shop_18 : decode cX10_shop 18 = .ok (.iload_n 2, 1) := by decide +kernel
theorem dX10_shop_19 : decode cX10_shop 19 = .ok (.bipush 100, 2) := by decide +kernel
theorem dX10_shop_21 : decode cX10_shop 21 = .ok (.irem, 1) := by decide +kernel
theorem dX10_shop_22 : decode cX10_shop 22 = .ok (.iload_n 2, 1) := by decide +kernel
theorem dX10_shop_23 : decode cX10_shop 23 = .ok (.bipush 100, 2) := by decide +kernel
theorem dX10_shop_25 : decode cX10_shop 25 = .ok (.idiv, 1) := by decide +kernel
theorem dX10_shop_26 : decode cX10_shop 26 = .ok (.iconst 1, 1) := by decide +kernel
theorem dX10_shop_27 : decode cX10_shop 27 = .ok (.iadd, 1) := by decide +kernel
theorem dX10_shop_28 : decode cX10_shop 28 = .ok (.bipush 24, 2) := by decide +kernel
theorem dX10_shop_30 : decode cX10_shop 30 = .ok (.invokestatic 44, 3) := by decide +kernel
theorem dX10_shop_33 : decode cX10_shop 33 = .ok (.ifCond .ne 9, 3) := by decide +kernel
theorem dX10_shop_36 : decode cX10_shop 36 = .ok (.aload_n 0, 1) := by decide +kernel
theorem dX10_shop_37 : decode cX10_shop 37 = .ok (.iconst 1, 1) := by decide +kernel
theorem dX10_shop_38 : decode cX10_shop 38 = .ok (.invokevirtual 115, 3) := by decide +kernel
theorem dX10_shop_41 : decode cX10_shop 41 = .ok (.ireturn, 1) := by decide +kernel
theorem dX10_shop_42 : decode cX10_shop 42 = .ok (.aload_n 0, 1) := by decide +kernel
theorem dX10_shop_43 : decode cX10_shop 43 = .ok (.getfield 7, 3) := by decide +kernel
theorem dX10_shop_46 : decode cX10_shop 46 = .ok (.iconst 2, 1) := by decide +kernel
theorem dX10_shop_47 : decode cX10_shop 47 = .ok (.iaload, 1) := by decide +kernel
theorem dX10_shop_48 : decode cX10_shop 48 = .ok (.bipush 8, 2) := by decide +kernel
theorem dX10_shop_50 : decode cX10_shop 50 = .ok (.if_icmp .ne 9, 3) := by decide +kernel
theorem dX10_shop_53 : decode cX10_shop 53 = .ok (.aload_n 0, 1) := by decide +kernel
theorem dX10_shop_54 : decode cX10_shop 54 = .ok (.iconst 4, 1) := by decide +kernel
theorem dX10_shop_55 : decode cX10_shop 55 = .ok (.invokevirtual 115, 3) := by decide +kernel
theorem dX10_shop_58 : decode cX10_shop 58 = .ok (.ireturn, 1) := by decide +kernel
theorem dX10_shop_59 : decode cX10_shop 59 = .ok (.sipush 336, 3) := by decide +kernel
theorem dX10_shop_62 : decode cX10_shop 62 = .ok (.iconst 4, 1) := by decide +kernel
theorem dX10_shop_63 : decode cX10_shop 63 = .ok (.aload_n 0, 1) := by decide +kernel
theorem dX10_shop_64 : decode cX10_shop 64 = .ok (.getfield 7, 3) := by decide +kernel
theorem dX10_shop_67 : decode cX10_shop 67 = .ok (.iconst 2, 1) := by decide +kernel
theorem dX10_shop_68 : decode cX10_shop 68 = .ok (.iaload, 1) := by decide +kernel
theorem dX10_shop_69 : decode cX10_shop 69 = .ok (.imul, 1) := by decide +kernel
theorem dX10_shop_70 : decode cX10_shop 70 = .ok (.iadd, 1) := by decide +kernel
theorem dX10_shop_71 : decode cX10_shop 71 = .ok (.istore_n 3, 1) := by decide +kernel
theorem dX10_shop_72 : decode cX10_shop 72 = .ok (.aload_n 0, 1) := by decide +kernel
theorem dX10_shop_73 : decode cX10_shop 73 = .ok (.getfield 7, 3) := by decide +kernel
theorem dX10_shop_76 : decode cX10_shop 76 = .ok (.iload_n 3, 1) := by decide +kernel
theorem dX10_shop_77 : decode cX10_shop 77 = .ok (.iload_n 1, 1) := by decide +kernel
theorem dX10_shop_78 : decode cX10_shop 78 = .ok (.bipush 100, 2) := by decide +kernel
theorem dX10_shop_80 : decode cX10_shop 80 = .ok (.idiv, 1) := by decide +kernel
theorem dX10_shop_81 : decode cX10_shop 81 = .ok (.iastore, 1) := by decide +kernel
theorem dX10_shop_82 : decode cX10_shop 82 = .ok (.aload_n 0, 1) := by decide +kernel
theorem dX10_shop_83 : decode cX10_shop 83 = .ok (.getfield 7, 3) := by decide +kernel
theorem dX10_shop_86 : decode cX10_shop 86 = .ok (.iload_n 3, 1) := by decide +kernel
theorem dX10_shop_87 : decode cX10_shop 87 = .ok (.iconst 1, 1) := by decide +kernel
theorem dX10_shop_88 : decode cX10_shop 88 = .ok (.iadd, 1) := by decide +kernel
theorem dX10_shop_89 : decode cX10_shop 89 = .ok (.iload_n 1, 1) := by decide +kernel
theorem dX10_shop_90 : decode cX10_shop 90 = .ok (.bipush 100, 2) := by decide +kernel
theorem dX10_shop_92 : decode cX10_shop 92 = .ok (.irem, 1) := by decide +kernel
theorem dX10_shop_93 : decode cX10_shop 93 = .ok (.iastore, 1) := by decide +kernel
theorem dX10_shop_94 : decode cX10_shop 94 = .ok (.aload_n 0, 1) := by decide +kernel
theorem dX10_shop_95 : decode cX10_shop 95 = .ok (.getfield 7, 3) := by decide +kernel
theorem dX10_shop_98 : decode cX10_shop 98 = .ok (.iload_n 3, 1) := by decide +kernel
theorem dX10_shop_99 : decode cX10_shop 99 = .ok (.iconst 2, 1) := by decide +kernel
theorem dX10_shop_100 : decode cX10_shop 100 = .ok (.iadd, 1) := by decide +kernel
theorem dX10_shop_101 : decode cX10_shop 101 = .ok (.iload_n 2, 1) := by decide +kernel
theorem dX10_shop_102 : decode cX10_shop 102 = .ok (.bipush 100, 2) := by decide +kernel
theorem dX10_shop_104 : decode cX10_shop 104 = .ok (.idiv, 1) := by decide +kernel
theorem dX10_shop_105 : decode cX10_shop 105 = .ok (.iastore, 1) := by decide +kernel
theorem dX10_shop_106 : decode cX10_shop 106 = .ok (.aload_n 0, 1) := by decide +kernel
theorem dX10_shop_107 : decode cX10_shop 107 = .ok (.getfield 7, 3) := by decide +kernel
theorem dX10_shop_110 : decode cX10_shop 110 = .ok (.iload_n 3, 1) := by decide +kernel
theorem dX10_shop_111 : decode cX10_shop 111 = .ok (.iconst 3, 1) := by decide +kernel
theorem dX10_shop_112 : decode cX10_shop 112 = .ok (.iadd, 1) := by decide +kernel
theorem dX10_shop_113 : decode cX10_shop 113 = .ok (.iload_n 2, 1) := by decide +kernel
theorem dX10_shop_114 : decode cX10_shop 114 = .ok (.bipush 100, 2) := by decide +kernel
theorem dX10_shop_116 : decode cX10_shop 116 = .ok (.irem, 1) := by decide +kernel
theorem dX10_shop_117 : decode cX10_shop 117 = .ok (.iastore, 1) := by decide +kernel
theorem dX10_shop_118 : decode cX10_shop 118 = .ok (.aload_n 0, 1) := by decide +kernel
theorem dX10_shop_119 : decode cX10_shop 119 = .ok (.getfield 7, 3) := by decide +kernel
theorem dX10_shop_122 : decode cX10_shop 122 = .ok (.iconst 2, 1) := by decide +kernel
theorem dX10_shop_123 : decode cX10_shop 123 = .ok (.dup2, 1) := by decide +kernel
theorem dX10_shop_124 : decode cX10_shop 124 = .ok (.iaload, 1) := by decide +kernel
theorem dX10_shop_125 : decode cX10_shop 125 = .ok (.iconst 1, 1) := by decide +kernel
theorem dX10_shop_126 : decode cX10_shop 126 = .ok (.iadd, 1) := by decide +kernel
theorem dX10_shop_127 : decode cX10_shop 127 = .ok (.iastore, 1) := by decide +kernel
theorem dX10_shop_128 : decode cX10_shop 128 = .ok (.aload_n 0, 1) := by decide +kernel
theorem dX10_shop_129 : decode cX10_shop 129 = .ok (.getfield 7, 3) := by decide +kernel
theorem dX10_shop_132 : decode cX10_shop 132 = .ok (.iconst 2, 1) := by decide +kernel
theorem dX10_shop_133 : decode cX10_shop 133 = .ok (.iaload, 1) := by decide +kernel
theorem dX10_shop_134 : decode cX10_shop 134 = .ok (.iconst 1, 1) := by decide +kernel
theorem dX10_shop_135 : decode cX10_shop 135 = .ok (.isub, 1) := by decide +kernel
theorem dX10_shop_136 : decode cX10_shop 136 = .ok (.ireturn, 1) := by decide +kernel
theorem dX10_isOpen_0 : decode cX10_isOpen 0 = .ok (.iload_n 2, 1) := by decide +kernel
theorem dX10_isOpen_1 : decode cX10_isOpen 1 = .ok (.aload_n 0, 1) := by decide +kernel
theorem dX10_isOpen_2 : decode cX10_isOpen 2 = .ok (.getfield 7, 3) := by decide +kernel
theorem dX10_isOpen_5 : decode cX10_isOpen 5 = .ok (.sipush 336, 3) := by decide +kernel
theorem dX10_isOpen_8 : decode cX10_isOpen 8 = .ok (.iconst 4, 1) := by decide +kernel
theorem dX10_isOpen_9 : decode cX10_isOpen 9 = .ok (.iload_n 1, 1) := by decide +kernel
theorem dX10_isOpen_10 : decode cX10_isOpen 10 = .ok (.imul, 1) := by decide +kernel
theorem dX10_isOpen_11 : decode cX10_isOpen 11 = .ok (.iadd, 1) := by decide +kernel
theorem dX10_isOpen_12 : decode cX10_isOpen 12 = .ok (.iconst 2, 1) := by decide +kernel
theorem dX10_isOpen_13 : decode cX10_isOpen 13 = .ok (.iadd, 1) := by decide +kernel
theorem dX10_isOpen_14 : decode cX10_isOpen 14 = .ok (.iaload, 1) := by decide +kernel
theorem dX10_isOpen_15 : decode cX10_isOpen 15 = .ok (.if_icmp .lt 25, 3) := by decide +kernel
theorem dX10_isOpen_18 : decode cX10_isOpen 18 = .ok (.iload_n 2, 1) := by decide +kernel
theorem dX10_isOpen_19 : decode cX10_isOpen 19 = .ok (.aload_n 0, 1) := by decide +kernel
theorem dX10_isOpen_20 : decode cX10_isOpen 20 = .ok (.getfield 7, 3) := by decide +kernel
theorem dX10_isOpen_23 : decode cX10_isOpen 23 = .ok (.sipush 336, 3) := by decide +kernel
theorem dX10_isOpen_26 : decode cX10_isOpen 26 = .ok (.iconst 4, 1) := by decide +kernel
theorem dX10_isOpen_27 : decode cX10_isOpen 27 = .ok (.iload_n 1, 1) := by decide +kernel
theorem dX10_isOpen_28 : decode cX10_isOpen 28 = .ok (.imul, 1) := by decide +kernel
theorem dX10_isOpen_29 : decode cX10_isOpen 29 = .ok (.iadd, 1) := by decide +kernel
theorem dX10_isOpen_30 : decode cX10_isOpen 30 = .ok (.iconst 3, 1) := by decide +kernel
theorem dX10_isOpen_31 : decode cX10_isOpen 31 = .ok (.iadd, 1) := by decide +kernel
theorem dX10_isOpen_32 : decode cX10_isOpen 32 = .ok (.iaload, 1) := by decide +kernel
theorem dX10_isOpen_33 : decode cX10_isOpen 33 = .ok (.if_icmp .ge 7, 3) := by decide +kernel
theorem dX10_isOpen_36 : decode cX10_isOpen 36 = .ok (.iconst 1, 1) := by decide +kernel
theorem dX10_isOpen_37 : decode cX10_isOpen 37 = .ok (.goto 4, 3) := by decide +kernel
theorem dX10_isOpen_40 : decode cX10_isOpen 40 = .ok (.iconst 0, 1) := by decide +kernel
theorem dX10_isOpen_41 : decode cX10_isOpen 41 = .ok (.ireturn, 1) := by decide +kernel
theorem dX10_farOf_0 : decode cX10_farOf 0 = .ok (.aload_n 0, 1) := by decide +kernel
theorem dX10_farOf_1 : decode cX10_farOf 1 = .ok (.iload_n 1, 1) := by decide +kernel
theorem dX10_farOf_2 : decode cX10_farOf 2 = .ok (.iconst 1, 1) := by decide +kernel
theorem dX10_farOf_3 : decode cX10_farOf 3 = .ok (.invokevirtual 48, 3) := by decide +kernel
theorem dX10_farOf_6 : decode cX10_farOf 6 = .ok (.aload_n 0, 1) := by decide +kernel
theorem dX10_farOf_7 : decode cX10_farOf 7 = .ok (.getfield 7, 3) := by decide +kernel
theorem dX10_farOf_10 : decode cX10_farOf 10 = .ok (.sipush 336, 3) := by decide +kernel
theorem dX10_farOf_13 : decode cX10_farOf 13 = .ok (.iconst 4, 1) := by decide +kernel
theorem dX10_farOf_14 : decode cX10_farOf 14 = .ok (.iload_n 2, 1) := by decide +kernel
theorem dX10_farOf_15 : decode cX10_farOf 15 = .ok (.imul, 1) := by decide +kernel
theorem dX10_farOf_16 : decode cX10_farOf 16 = .ok (.iadd, 1) := by decide +kernel
theorem dX10_farOf_17 : decode cX10_farOf 17 = .ok (.iaload, 1) := by decide +kernel
theorem dX10_farOf_18 : decode cX10_farOf 18 = .ok (.isub, 1) := by decide +kernel
theorem dX10_farOf_19 : decode cX10_farOf 19 = .ok (.istore_n 3, 1) := by decide +kernel
theorem dX10_farOf_20 : decode cX10_farOf 20 = .ok (.aload_n 0, 1) := by decide +kernel
theorem dX10_farOf_21 : decode cX10_farOf 21 = .ok (.iload_n 1, 1) := by decide +kernel
theorem dX10_farOf_22 : decode cX10_farOf 22 = .ok (.iconst 2, 1) := by decide +kernel
theorem dX10_farOf_23 : decode cX10_farOf 23 = .ok (.invokevirtual 48, 3) := by decide +kernel
theorem dX10_farOf_26 : decode cX10_farOf 26 = .ok (.aload_n 0, 1) := by decide +kernel
theorem dX10_farOf_27 : decode cX10_farOf 27 = .ok (.getfield 7, 3) := by decide +kernel
theorem dX10_farOf_30 : decode cX10_farOf 30 = .ok (.sipush 336, 3) := by decide +kernel
theorem dX10_farOf_33 : decode cX10_farOf 33 = .ok (.iconst 4, 1) := by decide +kernel
theorem dX10_farOf_34 : decode cX10_farOf 34 = .ok (.iload_n 2, 1) := by decide +kernel
theorem dX10_farOf_35 : decode cX10_farOf 35 = .ok (.imul, 1) := by decide +kernel
theorem dX10_farOf_36 : decode cX10_farOf 36 = .ok (.iadd, 1) := by decide +kernel
theorem dX10_farOf_37 : decode cX10_farOf 37 = .ok (.iconst 1, 1) := by decide +kernel
theorem dX10_farOf_38 : decode cX10_farOf 38 = .ok (.iadd, 1) := by decide +kernel
theorem dX10_farOf_39 : decode cX10_farOf 39 = .ok (.iaload, 1) := by decide +kernel
theorem dX10_farOf_40 : decode cX10_farOf 40 = .ok (.isub, 1) := by decide +kernel
theorem dX10_farOf_41 : decode cX10_farOf 41 = .ok (.istore 4, 2) := by decide +kernel
theorem dX10_farOf_43 : decode cX10_farOf 43 = .ok (.iload_n 3, 1) := by decide +kernel
theorem dX10_farOf_44 : decode cX10_farOf 44 = .ok (.ifCond .ge 8, 3) := by decide +kernel
theorem dX10_farOf_47 : decode cX10_farOf 47 = .ok (.iload_n 3, 1) := by decide +kernel
theorem dX10_farOf_48 : decode cX10_farOf 48 = .ok (.ineg, 1) := by decide +kernel
theorem dX10_farOf_49 : decode cX10_farOf 49 = .ok (.goto 4, 3) := by decide +kernel
theorem dX10_farOf_52 : decode cX10_farOf 52 = .ok (.iload_n 3, 1) := by decide +kernel
theorem dX10_farOf_53 : decode cX10_farOf 53 = .ok (.iload 4, 2) := by decide +kernel
theorem dX10_farOf_55 : decode cX10_farOf 55 = .ok (.ifCond .ge 9, 3) := by decide +kernel
theorem dX10_farOf_58 : decode cX10_farOf 58 = .ok (.iload 4, 2) := by decide +kernel
theorem dX10_farOf_60 : decode cX10_farOf 60 = .ok (.ineg, 1) := by decide +kernel
theorem dX10_farOf_61 : decode cX10_farOf 61 = .ok (.goto 5, 3) := by decide +kernel
theorem dX10_farOf_64 : decode cX10_farOf 64 = .ok (.iload 4, 2) := by decide +kernel
theorem dX10_farOf_66 : decode cX10_farOf 66 = .ok (.iadd, 1) := by decide +kernel
theorem dX10_farOf_67 : decode cX10_farOf 67 = .ok (.ireturn, 1) := by decide +kernel
theorem dX10_nearest_0 : decode cX10_nearest 0 = .ok (.aload_n 0, 1) := by decide +kernel
theorem dX10_nearest_1 : decode cX10_nearest 1 = .ok (.iload_n 1, 1) := by decide +kernel
theorem dX10_nearest_2 : decode cX10_nearest 2 = .ok (.invokevirtual 123, 3) := by decide +kernel
theorem dX10_nearest_5 : decode cX10_nearest 5 = .ok (.ifCond .eq 13, 3) := by decide +kernel
theorem dX10_nearest_8 : decode cX10_nearest 8 = .ok (.iload_n 2, 1) := by decide +kernel
theorem dX10_nearest_9 : decode cX10_nearest 9 = .ok (.iconst 0, 1) := by decide +kernel
theorem dX10_nearest_10 : decode cX10_nearest 10 = .ok (.bipush 23, 2) := by decide +kernel
theorem dX10_nearest_12 : decode cX10_nearest 12 = .ok (.invokestatic 44, 3) := by decide +kernel
theorem dX10_nearest_15 : decode cX10_nearest 15 = .ok (.ifCond .ne 9, 3) := by decide +kernel
theorem dX10_nearest_18 : decode cX10_nearest 18 = .ok (.aload_n 0, 1) := by decide +kernel
theorem dX10_nearest_19 : decode cX10_nearest 19 = .ok (.iconst 1, 1) := by decide +kernel
theorem dX10_nearest_20 : decode cX10_nearest 20 = .ok (.invokevirtual 115, 3) := by decide +kernel
theorem dX10_nearest_23 : decode cX10_nearest 23 = .ok (.ireturn, 1) := by decide +kernel
theorem dX10_nearest_24 : decode cX10_nearest 24 = .ok (.iconst (-1), 1) := by decide +kernel
theorem dX10_nearest_25 : decode cX10_nearest 25 = .ok (.istore_n 3, 1) := by decide +kernel
theorem dX10_nearest_26 : decode cX10_nearest 26 = .ok (.iconst 0, 1) := by decide +kernel
theorem dX10_nearest_27 : decode cX10_nearest 27 = .ok (.istore 4, 2) := by decide +kernel
theorem dX10_nearest_29 : decode cX10_nearest 29 = .ok (.iload 4, 2) := by decide +kernel
theorem dX10_nearest_31 : decode cX10_nearest 31 = .ok (.aload_n 0, 1) := by decide +kernel
theorem dX10_nearest_32 : decode cX10_nearest 32 = .ok (.getfield 7, 3) := by decide +kernel
theorem dX10_nearest_35 : decode cX10_nearest 35 = .ok (.iconst 2, 1) := by decide +kernel
theorem dX10_nearest_36 : decode cX10_nearest 36 = .ok (.iaload, 1) := by decide +kernel
theorem dX10_nearest_37 : decode cX10_nearest 37 = .ok (.if_icmp .ge 46, 3) := by decide +kernel
theorem dX10_nearest_40 : decode cX10_nearest 40 = .ok (.aload_n 0, 1) := by decide +kernel
theorem dX10_nearest_41 : decode cX10_nearest 41 = .ok (.iload 4, 2) := by decide +kernel
theorem dX10_nearest_43 : decode cX10_nearest 43 = .ok (.iload_n 2, 1) := by decide +kernel
theorem dX10_nearest_44 : decode cX10_nearest 44 = .ok (.invokevirtual 140, 3) := by decide +kernel
theorem dX10_nearest_47 : decode cX10_nearest 47 = .ok (.ifCond .eq 28, 3) := by decide +kernel
theorem dX10_nearest_50 : decode cX10_nearest 50 = .ok (.iload_n 3, 1) := by decide +kernel
theorem dX10_nearest_51 : decode cX10_nearest 51 = .ok (.ifCond .lt 19, 3) := by decide +kernel
theorem dX10_nearest_54 : decode cX10_nearest 54 = .ok (.aload_n 0, 1) := by decide +kernel
theorem dX10_nearest_55 : decode cX10_nearest 55 = .ok (.iload_n 1, 1) := by decide +kernel
theorem dX10_nearest_56 : decode cX10_nearest 56 = .ok (.iload 4, 2) := by decide +kernel
theorem dX10_nearest_58 : decode cX10_nearest 58 = .ok (.invokevirtual 144, 3) := by decide +kernel
theorem dX10_nearest_61 : decode cX10_nearest 61 = .ok (.aload_n 0, 1) := by decide +kernel
theorem dX10_nearest_62 : decode cX10_nearest 62 = .ok (.iload_n 1, 1) := by decide +kernel
theorem dX10_nearest_63 : decode cX10_nearest 63 = .ok (.iload_n 3, 1) := by decide +kernel
theorem dX10_nearest_64 : decode cX10_nearest 64 = .ok (.invokevirtual 144, 3) := by decide +kernel
theorem dX10_nearest_67 : decode cX10_nearest 67 = .ok (.if_icmp .ge 8, 3) := by decide +kernel
theorem dX10_nearest_70 : decode cX10_nearest 70 = .ok (.iload 4, 2) := by decide +kernel
theorem dX10_nearest_72 : decode cX10_nearest 72 = .ok (.goto 4, 3) := by decide +kernel
theorem dX10_nearest_75 : decode cX10_nearest 75 = .ok (.iload_n 3, 1) := by decide +kernel
theorem dX10_nearest_76 : decode cX10_nearest 76 = .ok (.istore_n 3, 1) := by decide +kernel
theorem dX10_nearest_77 : decode cX10_nearest 77 = .ok (.iinc 4 1, 3) := by decide +kernel
theorem dX10_nearest_80 : decode cX10_nearest 80 = .ok (.goto (-51), 3) := by decide +kernel
theorem dX10_nearest_83 : decode cX10_nearest 83 = .ok (.iload_n 3, 1) := by decide +kernel
theorem dX10_nearest_84 : decode cX10_nearest 84 = .ok (.ifCond .ge 11, 3) := by decide +kernel
theorem dX10_nearest_87 : decode cX10_nearest 87 = .ok (.aload_n 0, 1) := by decide +kernel
theorem dX10_nearest_88 : decode cX10_nearest 88 = .ok (.iconst 2, 1) := by decide +kernel
theorem dX10_nearest_89 : decode cX10_nearest 89 = .ok (.invokevirtual 115, 3) := by decide +kernel
theorem dX10_nearest_92 : decode cX10_nearest 92 = .ok (.goto 4, 3) := by decide +kernel
theorem dX10_nearest_95 : decode cX10_nearest 95 = .ok (.iload_n 3, 1) := by decide +kernel
theorem dX10_nearest_96 : decode cX10_nearest 96 = .ok (.ireturn, 1) := by decide +kernel
theorem dX10_tops_0 : decode cX10_tops 0 = .ok (.aload_n 0, 1) := by decide +kernel
theorem dX10_tops_1 : decode cX10_tops 1 = .ok (.iconst 2, 1) := by decide +kernel
theorem dX10_tops_2 : decode cX10_tops 2 = .ok (.aload_n 0, 1) := by decide +kernel
theorem dX10_tops_3 : decode cX10_tops 3 = .ok (.getfield 7, 3) := by decide +kernel
theorem dX10_tops_6 : decode cX10_tops 6 = .ok (.iconst 0, 1) := by decide +kernel
theorem dX10_tops_7 : decode cX10_tops 7 = .ok (.iaload, 1) := by decide +kernel
theorem dX10_tops_8 : decode cX10_tops 8 = .ok (.invokevirtual 109, 3) := by decide +kernel
theorem dX10_tops_11 : decode cX10_tops 11 = .ok (.istore_n 3, 1) := by decide +kernel
theorem dX10_tops_12 : decode cX10_tops 12 = .ok (.iload_n 3, 1) := by decide +kernel
theorem dX10_tops_13 : decode cX10_tops 13 = .ok (.ifCond .ge 7, 3) := by decide +kernel
theorem dX10_tops_16 : decode cX10_tops 16 = .ok (.iconst 0, 1) := by decide +kernel
theorem dX10_tops_17 : decode cX10_tops 17 = .ok (.goto 21, 3) := by decide +kernel
theorem dX10_tops_20 : decode cX10_tops 20 = .ok (.aload_n 0, 1) := by decide +kernel
theorem dX10_tops_21 : decode cX10_tops 21 = .ok (.iload_n 3, 1) := by decide +kernel
theorem dX10_tops_22 : decode cX10_tops 22 = .ok (.iload_n 1, 1) := by decide +kernel
theorem dX10_tops_23 : decode cX10_tops 23 = .ok (.aload_n 0, 1) := by decide +kernel
theorem dX10_tops_24 : decode cX10_tops 24 = .ok (.getfield 7, 3) := by decide +kernel
theorem dX10_tops_27 : decode cX10_tops 27 = .ok (.iconst 0, 1) := by decide +kernel
theorem dX10_tops_28 : decode cX10_tops 28 = .ok (.iaload, 1) := by decide +kernel
theorem dX10_tops_29 : decode cX10_tops 29 = .ok (.iload_n 2, 1) := by decide +kernel
theorem dX10_tops_30 : decode cX10_tops 30 = .ok (.invokevirtual 98, 3) := by decide +kernel
theorem dX10_tops_33 : decode cX10_tops 33 = .ok (.iconst 0, 1) := by decide +kernel
theorem dX10_tops_34 : decode cX10_tops 34 = .ok (.iload_n 2, 1) := by decide +kernel
theorem dX10_tops_35 : decode cX10_tops 35 = .ok (.invokestatic 102, 3) := by decide +kernel
theorem dX10_tops_38 : decode cX10_tops 38 = .ok (.istore 4, 2) := by decide +kernel
theorem dX10_tops_40 : decode cX10_tops 40 = .ok (.iload 4, 2) := by decide +kernel
theorem dX10_tops_42 : decode cX10_tops 42 = .ok (.aload_n 0, 1) := by decide +kernel
theorem dX10_tops_43 : decode cX10_tops 43 = .ok (.iload_n 1, 1) := by decide +kernel
theorem dX10_tops_44 : decode cX10_tops 44 = .ok (.iconst 4, 1) := by decide +kernel
theorem dX10_tops_45 : decode cX10_tops 45 = .ok (.invokevirtual 48, 3) := by decide +kernel
theorem dX10_tops_48 : decode cX10_tops 48 = .ok (.if_icmp .ge 8, 3) := by decide +kernel
theorem dX10_tops_51 : decode cX10_tops 51 = .ok (.iload 4, 2) := by decide +kernel
theorem dX10_tops_53 : decode cX10_tops 53 = .ok (.goto 9, 3) := by decide +kernel
theorem dX10_tops_56 : decode cX10_tops 56 = .ok (.aload_n 0, 1) := by decide +kernel
theorem dX10_tops_57 : decode cX10_tops 57 = .ok (.iload_n 1, 1) := by decide +kernel
theorem dX10_tops_58 : decode cX10_tops 58 = .ok (.iconst 4, 1) := by decide +kernel
theorem dX10_tops_59 : decode cX10_tops 59 = .ok (.invokevirtual 48, 3) := by decide +kernel
theorem dX10_tops_62 : decode cX10_tops 62 = .ok (.istore 4, 2) := by decide +kernel
theorem dX10_tops_64 : decode cX10_tops 64 = .ok (.aload_n 0, 1) := by decide +kernel
theorem dX10_tops_65 : decode cX10_tops 65 = .ok (.iload_n 1, 1) := by decide +kernel
theorem dX10_tops_66 : decode cX10_tops 66 = .ok (.iconst 4, 1) := by decide +kernel
theorem dX10_tops_67 : decode cX10_tops 67 = .ok (.iload 4, 2) := by decide +kernel
theorem dX10_tops_69 : decode cX10_tops 69 = .ok (.ineg, 1) := by decide +kernel
theorem dX10_tops_70 : decode cX10_tops 70 = .ok (.invokevirtual 133, 3) := by decide +kernel
theorem dX10_tops_73 : decode cX10_tops 73 = .ok (.aload_n 0, 1) := by decide +kernel
theorem dX10_tops_74 : decode cX10_tops 74 = .ok (.iload_n 1, 1) := by decide +kernel
theorem dX10_tops_75 : decode cX10_tops 75 = .ok (.iconst 3, 1) := by decide +kernel
theorem dX10_tops_76 : decode cX10_tops 76 = .ok (.iload_n 2, 1) := by decide +kernel
theorem dX10_tops_77 : decode cX10_tops 77 = .ok (.iload 4, 2) := by decide +kernel
theorem dX10_tops_79 : decode cX10_tops 79 = .ok (.isub, 1) := by decide +kernel
theorem dX10_tops_80 : decode cX10_tops 80 = .ok (.invokevirtual 133, 3) := by decide +kernel
theorem dX10_tops_83 : decode cX10_tops 83 = .ok (.aload_n 0, 1) := by decide +kernel
theorem dX10_tops_84 : decode cX10_tops 84 = .ok (.iload_n 1, 1) := by decide +kernel
theorem dX10_tops_85 : decode cX10_tops 85 = .ok (.invokevirtual 106, 3) := by decide +kernel
theorem dX10_tops_88 : decode cX10_tops 88 = .ok (.ifCond .ne 21, 3) := by decide +kernel
theorem dX10_tops_91 : decode cX10_tops 91 = .ok (.aload_n 0, 1) := by decide +kernel
theorem dX10_tops_92 : decode cX10_tops 92 = .ok (.iload_n 1, 1) := by decide +kernel
theorem dX10_tops_93 : decode cX10_tops 93 = .ok (.bipush 12, 2) := by decide +kernel
theorem dX10_tops_95 : decode cX10_tops 95 = .ok (.aload_n 0, 1) := by decide +kernel
theorem dX10_tops_96 : decode cX10_tops 96 = .ok (.iconst 0, 1) := by decide +kernel
theorem dX10_tops_97 : decode cX10_tops 97 = .ok (.aload_n 0, 1) := by decide +kernel
theorem dX10_tops_98 : decode cX10_tops 98 = .ok (.getfield 7, 3) := by decide +kernel
theorem dX10_tops_101 : decode cX10_tops 101 = .ok (.iconst 0, 1) := by decide +kernel
theorem dX10_tops_102 : decode cX10_tops 102 = .ok (.iaload, 1) := by decide +kernel
theorem dX10_tops_103 : decode cX10_tops 103 = .ok (.invokevirtual 109, 3) := by decide +kernel
theorem dX10_tops_106 : decode cX10_tops 106 = .ok (.invokevirtual 119, 3) := by decide +kernel
theorem dX10_tops_109 : decode cX10_tops 109 = .ok (.aload_n 0, 1) := by decide +kernel
theorem dX10_tops_110 : decode cX10_tops 110 = .ok (.iload_n 1, 1) := by decide +kernel
theorem dX10_tops_111 : decode cX10_tops 111 = .ok (.iconst 3, 1) := by decide +kernel
theorem dX10_tops_112 : decode cX10_tops 112 = .ok (.invokevirtual 48, 3) := by decide +kernel
theorem dX10_tops_115 : decode cX10_tops 115 = .ok (.ifCond .lt 11, 3) := by decide +kernel
theorem dX10_tops_118 : decode cX10_tops 118 = .ok (.aload_n 0, 1) := by decide +kernel
theorem dX10_tops_119 : decode cX10_tops 119 = .ok (.iload_n 1, 1) := by decide +kernel
theorem dX10_tops_120 : decode cX10_tops 120 = .ok (.bipush 7, 2) := by decide +kernel
theorem dX10_tops_122 : decode cX10_tops 122 = .ok (.iconst 0, 1) := by decide +kernel
theorem dX10_tops_123 : decode cX10_tops 123 = .ok (.invokevirtual 119, 3) := by decide +kernel
theorem dX10_tops_126 : decode cX10_tops 126 = .ok (.aload_n 0, 1) := by decide +kernel
theorem dX10_tops_127 : decode cX10_tops 127 = .ok (.iload_n 1, 1) := by decide +kernel
theorem dX10_tops_128 : decode cX10_tops 128 = .ok (.invokevirtual 136, 3) := by decide +kernel
theorem dX10_tops_131 : decode cX10_tops 131 = .ok (.iload 4, 2) := by decide +kernel
theorem dX10_tops_133 : decode cX10_tops 133 = .ok (.ireturn, 1) := by decide +kernel
theorem dX10_top_0 : decode cX10_top 0 = .ok (.aload_n 0, 1) := by decide +kernel
theorem dX10_top_1 : decode cX10_top 1 = .ok (.iload_n 1, 1) := by decide +kernel
theorem dX10_top_2 : decode cX10_top 2 = .ok (.invokevirtual 123, 3) := by decide +kernel
theorem dX10_top_5 : decode cX10_top 5 = .ok (.ifCond .eq 35, 3) := by decide +kernel
theorem dX10_top_8 : decode cX10_top 8 = .ok (.iload_n 2, 1) := by decide +kernel
theorem dX10_top_9 : decode cX10_top 9 = .ok (.iconst (-1), 1) := by decide +kernel
theorem dX10_top_10 : decode cX10_top 10 = .ok (.if_icmp .eq 19, 3) := by decide +kernel
theorem dX10_top_13 : decode cX10_top 13 = .ok (.iload_n 2, 1) := by decide +kernel
theorem dX10_top_14 : decode cX10_top 14 = .ok (.iconst 0, 1) := by decide +kernel
theorem dX10_top_15 : decode cX10_top 15 = .ok (.aload_n 0, 1) := by decide +kernel
theorem dX10_top_16 : decode cX10_top 16 = .ok (.getfield 7, 3) := by decide +kernel
theorem dX10_top_19 : decode cX10_top 19 = .ok (.iconst 2, 1) := by decide +kernel
theorem dX10_top_20 : decode cX10_top 20 = .ok (.iaload, 1) := by decide +kernel
theorem dX10_top_21 : decode cX10_top 21 = .ok (.iconst 1, 1) := by decide +kernel
theorem dX10_top_22 : decode cX10_top 22 = .ok (.isub, 1) := by decide +kernel
theorem dX10_top_23 : decode cX10_top 23 = .ok (.invokestatic 44, 3) := by decide +kernel
theorem dX10_top_26 : decode cX10_top 26 = .ok (.ifCond .eq 14, 3) := by decide +kernel
theorem dX10_top_29 : decode cX10_top 29 = .ok (.iload_n 3, 1) := by decide +kernel
theorem dX10_top_30 : decode cX10_top 30 = .ok (.iconst 1, 1) := by decide +kernel
theorem dX10_top_31 : decode cX10_top 31 = .ok (.sipush 9999, 3) := by decide +kernel
theorem dX10_top_34 : decode cX10_top 34 = .ok (.invokestatic 44, 3) := by decide +kernel
theorem dX10_top_37 : decode cX10_top 37 = .ok (.ifCond .ne 9, 3) := by decide +kernel
theorem dX10_top_40 : decode cX10_top 40 = .ok (.aload_n 0, 1) := by decide +kernel
theorem dX10_top_41 : decode cX10_top 41 = .ok (.iconst 1, 1) := by decide +kernel
theorem dX10_top_42 : decode cX10_top 42 = .ok (.invokevirtual 115, 3) := by decide +kernel
theorem dX10_top_45 : decode cX10_top 45 = .ok (.ireturn, 1) := by decide +kernel
theorem dX10_top_46 : decode cX10_top 46 = .ok (.iload_n 2, 1) := by decide +kernel
theorem dX10_top_47 : decode cX10_top 47 = .ok (.iconst (-1), 1) := by decide +kernel
theorem dX10_top_48 : decode cX10_top 48 = .ok (.if_icmp .ne 17, 3) := by decide +kernel
theorem dX10_top_51 : decode cX10_top 51 = .ok (.aload_n 0, 1) := by decide +kernel
theorem dX10_top_52 : decode cX10_top 52 = .ok (.iload_n 1, 1) := by decide +kernel
theorem dX10_top_53 : decode cX10_top 53 = .ok (.invokevirtual 106, 3) := by decide +kernel
theorem dX10_top_56 : decode cX10_top 56 = .ok (.ifCond .ne 9, 3) := by decide +kernel
theorem dX10_top_59 : decode cX10_top 59 = .ok (.aload_n 0, 1) := by decide +kernel
theorem dX10_top_60 : decode cX10_top 60 = .ok (.iconst 5, 1) := by decide +kernel
theorem dX10_top_61 : decode cX10_top 61 = .ok (.invokevirtual 115, 3) := by decide +kernel
theorem dX10_top_64 : decode cX10_top 64 = .ok (.ireturn, 1) := by decide +kernel
theorem dX10_top_65 : decode cX10_top 65 = .ok (.iload_n 2, 1) := by decide +kernel
theorem dX10_top_66 : decode cX10_top 66 = .ok (.ifCond .lt 26, 3) := by decide +kernel
theorem dX10_top_69 : decode cX10_top 69 = .ok (.aload_n 0, 1) := by decide +kernel
theorem dX10_top_70 : decode cX10_top 70 = .ok (.iload_n 2, 1) := by decide +kernel
theorem dX10_top_71 : decode cX10_top 71 = .ok (.aload_n 0, 1) := by decide +kernel
theorem dX10_top_72 : decode cX10_top 72 = .ok (.getfield 7, 3) := by decide +kernel
theorem dX10_top_75 : decode cX10_top 75 = .ok (.iconst 0, 1) := by decide +kernel
theorem dX10_top_76 : decode cX10_top 76 = .ok (.iaload, 1) := by decide +kernel
theorem dX10_top_77 : decode cX10_top 77 = .ok (.bipush 24, 2) := by decide +kernel
theorem dX10_top_79 : decode cX10_top 79 = .ok (.irem, 1) := by decide +kernel
theorem dX10_top_80 : decode cX10_top 80 = .ok (.invokevirtual 140, 3) := by decide +kernel
theorem dX10_top_83 : decode cX10_top 83 = .ok (.ifCond .ne 9, 3) := by decide +kernel
theorem dX10_top_86 : decode cX10_top 86 = .ok (.aload_n 0, 1) := by decide +kernel
theorem dX10_top_87 : decode cX10_top 87 = .ok (.iconst 3, 1) := by decide +kernel
theorem dX10_top_88 : decode cX10_top 88 = .ok (.invokevirtual 115, 3) := by decide +kernel
theorem dX10_top_91 : decode cX10_top 91 = .ok (.ireturn, 1) := by decide +kernel
theorem dX10_top_92 : decode cX10_top 92 = .ok (.aload_n 0, 1) := by decide +kernel
theorem dX10_top_93 : decode cX10_top 93 = .ok (.iload_n 1, 1) := by decide +kernel
theorem dX10_top_94 : decode cX10_top 94 = .ok (.iload_n 3, 1) := by decide +kernel
theorem dX10_top_95 : decode cX10_top 95 = .ok (.invokevirtual 147, 3) := by decide +kernel
theorem dX10_top_98 : decode cX10_top 98 = .ok (.istore 4, 2) := by decide +kernel
theorem dX10_top_100 : decode cX10_top 100 = .ok (.aload_n 0, 1) := by decide +kernel
theorem dX10_top_101 : decode cX10_top 101 = .ok (.getfield 7, 3) := by decide +kernel
theorem dX10_top_104 : decode cX10_top 104 = .ok (.iconst 5, 1) := by decide +kernel
theorem dX10_top_105 : decode cX10_top 105 = .ok (.iaload, 1) := by decide +kernel
theorem dX10_top_106 : decode cX10_top 106 = .ok (.sipush 200, 3) := by decide +kernel
theorem dX10_top_109 : decode cX10_top 109 = .ok (.if_icmp .ge 63, 3) := by decide +kernel
theorem dX10_top_112 : decode cX10_top 112 = .ok (.sipush 1284, 3) := by decide +kernel
theorem dX10_top_115 : decode cX10_top 115 = .ok (.iconst 3, 1) := by decide +kernel
theorem dX10_top_116 : decode cX10_top 116 = .ok (.aload_n 0, 1) := by decide +kernel
theorem dX10_top_117 : decode cX10_top 117 = .ok (.getfield 7, 3) := by decide +kernel
theorem dX10_top_120 : decode cX10_top 120 = .ok (.iconst 5, 1) := by decide +kernel
theorem dX10_top_121 : decode cX10_top 121 = .ok (.iaload, 1) := by decide +kernel
theorem dX10_top_122 : decode cX10_top 122 = .ok (.imul, 1) := by decide +kernel
theorem dX10_top_123 : decode cX10_top 123 = .ok (.iadd, 1) := by decide +kernel
theorem dX10_top_124 : decode cX10_top 124 = .ok (.istore 5, 2) := by decide +kernel
theorem dX10_top_126 : decode cX10_top 126 = .ok (.aload_n 0, 1) := by decide +kernel
theorem dX10_top_127 : decode cX10_top 127 = .ok (.getfield 7, 3) := by decide +kernel
theorem dX10_top_130 : decode cX10_top 130 = .ok (.iload 5, 2) := by decide +kernel
theorem dX10_top_132 : decode cX10_top 132 = .ok (.iload_n 1, 1) := by decide +kernel
theorem dX10_top_133 : decode cX10_top 133 = .ok (.iastore, 1) := by decide +kernel
theorem dX10_top_134 : decode cX10_top 134 = .ok (.aload_n 0, 1) := by decide +kernel
theorem dX10_top_135 : decode cX10_top 135 = .ok (.getfield 7, 3) := by decide +kernel
theorem dX10_top_138 : decode cX10_top 138 = .ok (.iload 5, 2) := by decide +kernel
theorem dX10_top_140 : decode cX10_top 140 = .ok (.iconst 1, 1) := by decide +kernel
theorem dX10_top_141 : decode cX10_top 141 = .ok (.iadd, 1) := by decide +kernel
theorem dX10_top_142 : decode cX10_top 142 = .ok (.aload_n 0, 1) := by decide +kernel
theorem dX10_top_143 : decode cX10_top 143 = .ok (.getfield 7, 3) := by decide +kernel
theorem dX10_top_146 : decode cX10_top 146 = .ok (.iconst 0, 1) := by decide +kernel
theorem dX10_top_147 : decode cX10_top 147 = .ok (.iaload, 1) := by decide +kernel
theorem dX10_top_148 : decode cX10_top 148 = .ok (.iastore, 1) := by decide +kernel
theorem dX10_top_149 : decode cX10_top 149 = .ok (.aload_n 0, 1) := by decide +kernel
theorem dX10_top_150 : decode cX10_top 150 = .ok (.getfield 7, 3) := by decide +kernel
theorem dX10_top_153 : decode cX10_top 153 = .ok (.iload 5, 2) := by decide +kernel
theorem dX10_top_155 : decode cX10_top 155 = .ok (.iconst 2, 1) := by decide +kernel
theorem dX10_top_156 : decode cX10_top 156 = .ok (.iadd, 1) := by decide +kernel
theorem dX10_top_157 : decode cX10_top 157 = .ok (.iload_n 3, 1) := by decide +kernel
theorem dX10_top_158 : decode cX10_top 158 = .ok (.iload 4, 2) := by decide +kernel
theorem dX10_top_160 : decode cX10_top 160 = .ok (.isub, 1) := by decide +kernel
theorem dX10_top_161 : decode cX10_top 161 = .ok (.iastore, 1) := by decide +kernel
theorem dX10_top_162 : decode cX10_top 162 = .ok (.aload_n 0, 1) := by decide +kernel
theorem dX10_top_163 : decode cX10_top 163 = .ok (.getfield 7, 3) := by decide +kernel
theorem dX10_top_166 : decode cX10_top 166 = .ok (.iconst 5, 1) := by decide +kernel
theorem dX10_top_167 : decode cX10_top 167 = .ok (.dup2, 1) := by decide +kernel
theorem dX10_top_168 : decode cX10_top 168 = .ok (.iaload, 1) := by decide +kernel
theorem dX10_top_169 : decode cX10_top 169 = .ok (.iconst 1, 1) := by decide +kernel
theorem dX10_top_170 : decode cX10_top 170 = .ok (.iadd, 1) := by decide +kernel
theorem dX10_top_171 : decode cX10_top 171 = .ok (.iastore, 1) := by decide +kernel
theorem dX10_top_172 : decode cX10_top 172 = .ok (.aload_n 0, 1) := by decide +kernel
theorem dX10_top_173 : decode cX10_top 173 = .ok (.getfield 7, 3) := by decide +kernel
theorem dX10_top_176 : decode cX10_top 176 = .ok (.bipush 7, 2) := by decide +kernel
theorem dX10_top_178 : decode cX10_top 178 = .ok (.dup2, 1) := by decide +kernel
theorem dX10_top_179 : decode cX10_top 179 = .ok (.iaload, 1) := by decide +kernel
theorem dX10_top_180 : decode cX10_top 180 = .ok (.iload_n 3, 1) := by decide +kernel
theorem dX10_top_181 : decode cX10_top 181 = .ok (.iadd, 1) := by decide +kernel
theorem dX10_top_182 : decode cX10_top 182 = .ok (.iastore, 1) := by decide +kernel
theorem dX10_top_183 : decode cX10_top 183 = .ok (.aload_n 0, 1) := by decide +kernel
theorem dX10_top_184 : decode cX10_top 184 = .ok (.getfield 7, 3) := by decide +kernel
theorem dX10_top_187 : decode cX10_top 187 = .ok (.bipush 8, 2) := by decide +kernel
theorem dX10_top_189 : decode cX10_top 189 = .ok (.dup2, 1) := by decide +kernel
theorem dX10_top_190 : decode cX10_top 190 = .ok (.iaload, 1) := by decide +kernel
theorem dX10_top_191 : decode cX10_top 191 = .ok (.iload 4, 2) := by decide +kernel
theorem dX10_top_193 : decode cX10_top 193 = .ok (.iadd, 1) := by decide +kernel
theorem dX10_top_194 : decode cX10_top 194 = .ok (.iastore, 1) := by decide +kernel
theorem dX10_top_195 : decode cX10_top 195 = .ok (.iload 4, 2) := by decide +kernel
theorem dX10_top_197 : decode cX10_top 197 = .ok (.ireturn, 1) := by decide +kernel
theorem dX10_feed_0 : decode cX10_feed 0 = .ok (.iload_n 3, 1) := by decide +kernel
theorem dX10_feed_1 : decode cX10_feed 1 = .ok (.iconst 1, 1) := by decide +kernel
theorem dX10_feed_2 : decode cX10_feed 2 = .ok (.bipush 8, 2) := by decide +kernel
theorem dX10_feed_4 : decode cX10_feed 4 = .ok (.invokestatic 44, 3) := by decide +kernel
theorem dX10_feed_7 : decode cX10_feed 7 = .ok (.ifCond .ne 9, 3) := by decide +kernel
theorem dX10_feed_10 : decode cX10_feed 10 = .ok (.aload_n 0, 1) := by decide +kernel
theorem dX10_feed_11 : decode cX10_feed 11 = .ok (.iconst 1, 1) := by decide +kernel
theorem dX10_feed_12 : decode cX10_feed 12 = .ok (.invokevirtual 115, 3) := by decide +kernel
theorem dX10_feed_15 : decode cX10_feed 15 = .ok (.ireturn, 1) := by decide +kernel
theorem dX10_feed_16 : decode cX10_feed 16 = .ok (.aload_n 0, 1) := by decide +kernel
theorem dX10_feed_17 : decode cX10_feed 17 = .ok (.getfield 7, 3) := by decide +kernel
theorem dX10_feed_20 : decode cX10_feed 20 = .ok (.bipush 6, 2) := by decide +kernel
theorem dX10_feed_22 : decode cX10_feed 22 = .ok (.iaload, 1) := by decide +kernel
theorem dX10_feed_23 : decode cX10_feed 23 = .ok (.iload_n 3, 1) := by decide +kernel
theorem dX10_feed_24 : decode cX10_feed 24 = .ok (.iadd, 1) := by decide +kernel
theorem dX10_feed_25 : decode cX10_feed 25 = .ok (.bipush 60, 2) := by decide +kernel
theorem dX10_feed_27 : decode cX10_feed 27 = .ok (.if_icmp .le 9, 3) := by decide +kernel
theorem dX10_feed_30 : decode cX10_feed 30 = .ok (.aload_n 0, 1) := by decide +kernel
theorem dX10_feed_31 : decode cX10_feed 31 = .ok (.iconst 4, 1) := by decide +kernel
theorem dX10_feed_32 : decode cX10_feed 32 = .ok (.invokevirtual 115, 3) := by decide +kernel
theorem dX10_feed_35 : decode cX10_feed 35 = .ok (.ireturn, 1) := by decide +kernel
theorem dX10_feed_36 : decode cX10_feed 36 = .ok (.iconst 0, 1) := by decide +kernel
theorem dX10_feed_37 : decode cX10_feed 37 = .ok (.istore 4, 2) := by decide +kernel
theorem dX10_feed_39 : decode cX10_feed 39 = .ok (.iload 4, 2) := by decide +kernel
theorem dX10_feed_41 : decode cX10_feed 41 = .ok (.iload_n 3, 1) := by decide +kernel
theorem dX10_feed_42 : decode cX10_feed 42 = .ok (.if_icmp .ge 48, 3) := by decide +kernel
theorem dX10_feed_45 : decode cX10_feed 45 = .ok (.aload_n 0, 1) := by decide +kernel
theorem dX10_feed_46 : decode cX10_feed 46 = .ok (.getfield 7, 3) := by decide +kernel
theorem dX10_feed_49 : decode cX10_feed 49 = .ok (.sipush 1884, 3) := by decide +kernel
theorem dX10_feed_52 : decode cX10_feed 52 = .ok (.aload_n 0, 1) := by decide +kernel
theorem dX10_feed_53 : decode cX10_feed 53 = .ok (.getfield 7, 3) := by decide +kernel
theorem dX10_feed_56 : decode cX10_feed 56 = .ok (.bipush 6, 2) := by decide +kernel
theorem dX10_feed_58 : decode cX10_feed 58 = .ok (.iaload, 1) := by decide +kernel
theorem dX10_feed_59 : decode cX10_feed 59 = .ok (.iadd, 1) := by decide +kernel
theorem dX10_feed_60 : decode cX10_feed 60 = .ok (.lload_n 1, 1) := by decide +kernel
theorem dX10_feed_61 : decode cX10_feed 61 = .ok (.bipush 8, 2) := by decide +kernel
theorem dX10_feed_63 : decode cX10_feed 63 = .ok (.iload 4, 2) := by decide +kernel
theorem dX10_feed_65 : decode cX10_feed 65 = .ok (.imul, 1) := by decide +kernel
theorem dX10_feed_66 : decode cX10_feed 66 = .ok (.lshr, 1) := by decide +kernel
theorem dX10_feed_67 : decode cX10_feed 67 = .ok (.ldc2_w 150, 3) := by decide +kernel
theorem dX10_feed_70 : decode cX10_feed 70 = .ok (.land, 1) := by decide +kernel
theorem dX10_feed_71 : decode cX10_feed 71 = .ok (.l2i, 1) := by decide +kernel
theorem dX10_feed_72 : decode cX10_feed 72 = .ok (.iastore, 1) := by decide +kernel
theorem dX10_feed_73 : decode cX10_feed 73 = .ok (.aload_n 0, 1) := by decide +kernel
theorem dX10_feed_74 : decode cX10_feed 74 = .ok (.getfield 7, 3) := by decide +kernel
theorem dX10_feed_77 : decode cX10_feed 77 = .ok (.bipush 6, 2) := by decide +kernel
theorem dX10_feed_79 : decode cX10_feed 79 = .ok (.dup2, 1) := by decide +kernel
theorem dX10_feed_80 : decode cX10_feed 80 = .ok (.iaload, 1) := by decide +kernel
theorem dX10_feed_81 : decode cX10_feed 81 = .ok (.iconst 1, 1) := by decide +kernel
theorem dX10_feed_82 : decode cX10_feed 82 = .ok (.iadd, 1) := by decide +kernel
theorem dX10_feed_83 : decode cX10_feed 83 = .ok (.iastore, 1) := by decide +kernel
theorem dX10_feed_84 : decode cX10_feed 84 = .ok (.iinc 4 1, 3) := by decide +kernel
theorem dX10_feed_87 : decode cX10_feed 87 = .ok (.goto (-48), 3) := by decide +kernel
theorem dX10_feed_90 : decode cX10_feed 90 = .ok (.aload_n 0, 1) := by decide +kernel
theorem dX10_feed_91 : decode cX10_feed 91 = .ok (.getfield 7, 3) := by decide +kernel
theorem dX10_feed_94 : decode cX10_feed 94 = .ok (.bipush 6, 2) := by decide +kernel
theorem dX10_feed_96 : decode cX10_feed 96 = .ok (.iaload, 1) := by decide +kernel
theorem dX10_feed_97 : decode cX10_feed 97 = .ok (.ireturn, 1) := by decide +kernel
theorem dX10_isUse_0 : decode cX10_isUse 0 = .ok (.iload_n 0, 1) := by decide +kernel
theorem dX10_isUse_1 : decode cX10_isUse 1 = .ok (.iconst 0, 1) := by decide +kernel
theorem dX10_isUse_2 : decode cX10_isUse 2 = .ok (.iconst 3, 1) := by decide +kernel
theorem dX10_isUse_3 : decode cX10_isUse 3 = .ok (.invokestatic 44, 3) := by decide +kernel
theorem dX10_isUse_6 : decode cX10_isUse 6 = .ok (.ireturn, 1) := by decide +kernel
theorem dX10_law_0 : decode cX10_law 0 = .ok (.iload_n 1, 1) := by decide +kernel
theorem dX10_law_1 : decode cX10_law 1 = .ok (.invokestatic 152, 3) := by decide +kernel
theorem dX10_law_4 : decode cX10_law 4 = .ok (.ifCond .eq 14, 3) := by decide +kernel
theorem dX10_law_7 : decode cX10_law 7 = .ok (.iload_n 2, 1) := by decide +kernel
theorem dX10_law_8 : decode cX10_law 8 = .ok (.iconst 0, 1) := by decide +kernel
theorem dX10_law_9 : decode cX10_law 9 = .ok (.sipush 9000, 3) := by decide +kernel
theorem dX10_law_12 : decode cX10_law 12 = .ok (.invokestatic 44, 3) := by decide +kernel
theorem dX10_law_15 : decode cX10_law 15 = .ok (.ifCond .ne 9, 3) := by decide +kernel
theorem dX10_law_18 : decode cX10_law 18 = .ok (.aload_n 0, 1) := by decide +kernel
theorem dX10_law_19 : decode cX10_law 19 = .ok (.iconst 1, 1) := by decide +kernel
theorem dX10_law_20 : decode cX10_law 20 = .ok (.invokevirtual 115, 3) := by decide +kernel
theorem dX10_law_23 : decode cX10_law 23 = .ok (.ireturn, 1) := by decide +kernel
theorem dX10_law_24 : decode cX10_law 24 = .ok (.aload_n 0, 1) := by decide +kernel
theorem dX10_law_25 : decode cX10_law 25 = .ok (.getfield 7, 3) := by decide +kernel
theorem dX10_law_28 : decode cX10_law 28 = .ok (.iconst 3, 1) := by decide +kernel
theorem dX10_law_29 : decode cX10_law 29 = .ok (.iaload, 1) := by decide +kernel
theorem dX10_law_30 : decode cX10_law 30 = .ok (.bipush 12, 2) := by decide +kernel
theorem dX10_law_32 : decode cX10_law 32 = .ok (.if_icmp .ne 9, 3) := by decide +kernel
theorem dX10_law_35 : decode cX10_law 35 = .ok (.aload_n 0, 1) := by decide +kernel
theorem dX10_law_36 : decode cX10_law 36 = .ok (.iconst 4, 1) := by decide +kernel
theorem dX10_law_37 : decode cX10_law 37 = .ok (.invokevirtual 115, 3) := by decide +kernel
theorem dX10_law_40 : decode cX10_law 40 = .ok (.ireturn, 1) := by decide +kernel
theorem dX10_law_41 : decode cX10_law 41 = .ok (.aload_n 0, 1) := by decide +kernel
theorem dX10_law_42 : decode cX10_law 42 = .ok (.getfield 7, 3) := by decide +kernel
theorem dX10_law_45 : decode cX10_law 45 = .ok (.bipush 6, 2) := by decide +kernel
theorem dX10_law_47 : decode cX10_law 47 = .ok (.iaload, 1) := by decide +kernel
theorem dX10_law_48 : decode cX10_law 48 = .ok (.istore_n 3, 1) := by decide +kernel
theorem dX10_law_49 : decode cX10_law 49 = .ok (.aload_n 0, 1) := by decide +kernel
theorem dX10_law_50 : decode cX10_law 50 = .ok (.getfield 7, 3) := by decide +kernel
theorem dX10_law_53 : decode cX10_law 53 = .ok (.bipush 6, 2) := by decide +kernel
theorem dX10_law_55 : decode cX10_law 55 = .ok (.iconst 0, 1) := by decide +kernel
theorem dX10_law_56 : decode cX10_law 56 = .ok (.iastore, 1) := by decide +kernel
theorem dX10_law_57 : decode cX10_law 57 = .ok (.aload_n 0, 1) := by decide +kernel
theorem dX10_law_58 : decode cX10_law 58 = .ok (.sipush 1884, 3) := by decide +kernel
theorem dX10_law_61 : decode cX10_law 61 = .ok (.iload_n 3, 1) := by decide +kernel
theorem dX10_law_62 : decode cX10_law 62 = .ok (.invokevirtual 95, 3) := by decide +kernel
theorem dX10_law_65 : decode cX10_law 65 = .ok (.istore 4, 2) := by decide +kernel
theorem dX10_law_67 : decode cX10_law 67 = .ok (.aload_n 0, 1) := by decide +kernel
theorem dX10_law_68 : decode cX10_law 68 = .ok (.getfield 52, 3) := by decide +kernel
theorem dX10_law_71 : decode cX10_law 71 = .ok (.ifCond .eq 11, 3) := by decide +kernel
theorem dX10_law_74 : decode cX10_law 74 = .ok (.bipush (-10), 2) := by decide +kernel
theorem dX10_law_76 : decode cX10_law 76 = .ok (.aload_n 0, 1) := by decide +kernel
theorem dX10_law_77 : decode cX10_law 77 = .ok (.getfield 56, 3) := by decide +kernel
theorem dX10_law_80 : decode cX10_law 80 = .ok (.isub, 1) := by decide +kernel
theorem dX10_law_81 : decode cX10_law 81 = .ok (.ireturn, 1) := by decide +kernel
theorem dX10_law_82 : decode cX10_law 82 = .ok (.aload_n 0, 1) := by decide +kernel
theorem dX10_law_83 : decode cX10_law 83 = .ok (.getfield 7, 3) := by decide +kernel
theorem dX10_law_86 : decode cX10_law 86 = .ok (.iconst 3, 1) := by decide +kernel
theorem dX10_law_87 : decode cX10_law 87 = .ok (.iaload, 1) := by decide +kernel
theorem dX10_law_88 : decode cX10_law 88 = .ok (.istore 5, 2) := by decide +kernel
theorem dX10_law_90 : decode cX10_law 90 = .ok (.aload_n 0, 1) := by decide +kernel
theorem dX10_law_91 : decode cX10_law 91 = .ok (.getfield 7, 3) := by decide +kernel
theorem dX10_law_94 : decode cX10_law 94 = .ok (.sipush 368, 3) := by decide +kernel
theorem dX10_law_97 : decode cX10_law 97 = .ok (.iload 5, 2) := by decide +kernel
theorem dX10_law_99 : decode cX10_law 99 = .ok (.iadd, 1) := by decide +kernel
theorem dX10_law_100 : decode cX10_law 100 = .ok (.iload_n 1, 1) := by decide +kernel
theorem dX10_law_101 : decode cX10_law 101 = .ok (.iastore, 1) := by decide +kernel
theorem dX10_law_102 : decode cX10_law 102 = .ok (.aload_n 0, 1) := by decide +kernel
theorem dX10_law_103 : decode cX10_law 103 = .ok (.getfield 7, 3) := by decide +kernel
theorem dX10_law_106 : decode cX10_law 106 = .ok (.sipush 380, 3) := by decide +kernel
theorem dX10_law_109 : decode cX10_law 109 = .ok (.iload 5, 2) := by decide +kernel
theorem dX10_law_111 : decode cX10_law 111 = .ok (.iadd, 1) := by decide +kernel
theorem dX10_law_112 : decode cX10_law 112 = .ok (.iload_n 2, 1) := by decide +kernel
theorem dX10_law_113 : decode cX10_law 113 = .ok (.iastore, 1) := by decide +kernel
theorem dX10_law_114 : decode cX10_law 114 = .ok (.aload_n 0, 1) := by decide +kernel
theorem dX10_law_115 : decode cX10_law 115 = .ok (.getfield 7, 3) := by decide +kernel
theorem dX10_law_118 : decode cX10_law 118 = .ok (.sipush 392, 3) := by decide +kernel
theorem dX10_law_121 : decode cX10_law 121 = .ok (.iload 5, 2) := by decide +kernel
theorem dX10_law_123 : decode cX10_law 123 = .ok (.iadd, 1) := by decide +kernel
theorem dX10_law_124 : decode cX10_law 124 = .ok (.iload_n 3, 1) := by decide +kernel
theorem dX10_law_125 : decode cX10_law 125 = .ok (.iastore, 1) := by decide +kernel
theorem dX10_law_126 : decode cX10_law 126 = .ok (.iconst 0, 1) := by decide +kernel
theorem dX10_law_127 : decode cX10_law 127 = .ok (.istore 6, 2) := by decide +kernel
theorem dX10_law_129 : decode cX10_law 129 = .ok (.iload 6, 2) := by decide +kernel
theorem dX10_law_131 : decode cX10_law 131 = .ok (.iload_n 3, 1) := by decide +kernel
theorem dX10_law_132 : decode cX10_law 132 = .ok (.if_icmp .ge 37, 3) := by decide +kernel
theorem dX10_law_135 : decode cX10_law 135 = .ok (.aload_n 0, 1) := by decide +kernel
theorem dX10_law_136 : decode cX10_law 136 = .ok (.getfield 7, 3) := by decide +kernel
theorem dX10_law_139 : decode cX10_law 139 = .ok (.sipush 404, 3) := by decide +kernel
theorem dX10_law_142 : decode cX10_law 142 = .ok (.bipush 60, 2) := by decide +kernel
theorem dX10_law_144 : decode cX10_law 144 = .ok (.iload 5, 2) := by decide +kernel
theorem dX10_law_146 : decode cX10_law 146 = .ok (.imul, 1) := by decide +kernel
theorem dX10_law_147 : decode cX10_law 147 = .ok (.iadd, 1) := by decide +kernel
theorem dX10_law_148 : decode cX10_law 148 = .ok (.iload 6, 2) := by decide +kernel
theorem dX10_law_150 : decode cX10_law 150 = .ok (.iadd, 1) := by decide +kernel
theorem dX10_law_151 : decode cX10_law 151 = .ok (.aload_n 0, 1) := by decide +kernel
theorem dX10_law_152 : decode cX10_law 152 = .ok (.getfield 7, 3) := by decide +kernel
theorem dX10_law_155 : decode cX10_law 155 = .ok (.sipush 1884, 3) := by decide +kernel
theorem dX10_law_158 : decode cX10_law 158 = .ok (.iload 6, 2) := by decide +kernel
theorem dX10_law_160 : decode cX10_law 160 = .ok (.iadd, 1) := by decide +kernel
theorem dX10_law_161 : decode cX10_law 161 = .ok (.iaload, 1) := by decide +kernel
theorem dX10_law_162 : decode cX10_law 162 = .ok (.iastore, 1) := by decide +kernel
theorem dX10_law_163 : decode cX10_law 163 = .ok (.iinc 6 1, 3) := by decide +kernel
theorem dX10_law_166 : decode cX10_law 166 = .ok (.goto (-37), 3) := by decide +kernel
theorem dX10_law_169 : decode cX10_law 169 = .ok (.aload_n 0, 1) := by decide +kernel
theorem dX10_law_170 : decode cX10_law 170 = .ok (.getfield 7, 3) := by decide +kernel
theorem dX10_law_173 : decode cX10_law 173 = .ok (.iconst 3, 1) := by decide +kernel
theorem dX10_law_174 : decode cX10_law 174 = .ok (.dup2, 1) := by decide +kernel
theorem dX10_law_175 : decode cX10_law 175 = .ok (.iaload, 1) := by decide +kernel
theorem dX10_law_176 : decode cX10_law 176 = .ok (.iconst 1, 1) := by decide +kernel
theorem dX10_law_177 : decode cX10_law 177 = .ok (.iadd, 1) := by decide +kernel
theorem dX10_law_178 : decode cX10_law 178 = .ok (.iastore, 1) := by decide +kernel
theorem dX10_law_179 : decode cX10_law 179 = .ok (.iload 5, 2) := by decide +kernel
theorem dX10_law_181 : decode cX10_law 181 = .ok (.ireturn, 1) := by decide +kernel
theorem dX10_inForce_0 : decode cX10_inForce 0 = .ok (.iload_n 1, 1) := by decide +kernel
theorem dX10_inForce_1 : decode cX10_inForce 1 = .ok (.invokestatic 152, 3) := by decide +kernel
theorem dX10_inForce_4 : decode cX10_inForce 4 = .ok (.ifCond .eq 14, 3) := by decide +kernel
theorem dX10_inForce_7 : decode cX10_inForce 7 = .ok (.iload_n 2, 1) := by decide +kernel
theorem dX10_inForce_8 : decode cX10_inForce 8 = .ok (.iconst 0, 1) := by decide +kernel
theorem dX10_inForce_9 : decode cX10_inForce 9 = .ok (.sipush 9000, 3) := by decide +kernel
theorem dX10_inForce_12 : decode cX10_inForce 12 = .ok (.invokestatic 44, 3) := by decide +kernel
theorem dX10_inForce_15 : decode cX10_inForce 15 = .ok (.ifCond .ne 9, 3) := by decide +kernel
theorem dX10_inForce_18 : decode cX10_inForce 18 = .ok (.aload_n 0, 1) := by decide +kernel
theorem dX10_inForce_19 : decode cX10_inForce 19 = .ok (.iconst 1, 1) := by decide +kernel
theorem dX10_inForce_20 : decode cX10_inForce 20 = .ok (.invokevirtual 115, 3) := by decide +kernel
theorem dX10_inForce_23 : decode cX10_inForce 23 = .ok (.ireturn, 1) := by decide +kernel
theorem dX10_inForce_24 : decode cX10_inForce 24 = .ok (.aload_n 0, 1) := by decide +kernel
theorem dX10_inForce_25 : decode cX10_inForce 25 = .ok (.iload_n 1, 1) := by decide +kernel
theorem dX10_inForce_26 : decode cX10_inForce 26 = .ok (.iload_n 2, 1) := by decide +kernel
theorem dX10_inForce_27 : decode cX10_inForce 27 = .ok (.invokevirtual 109, 3) := by decide +kernel
theorem dX10_inForce_30 : decode cX10_inForce 30 = .ok (.istore_n 3, 1) := by decide +kernel
theorem dX10_inForce_31 : decode cX10_inForce 31 = .ok (.iload_n 3, 1) := by decide +kernel
theorem dX10_inForce_32 : decode cX10_inForce 32 = .ok (.ifCond .ge 11, 3) := by decide +kernel
theorem dX10_inForce_35 : decode cX10_inForce 35 = .ok (.aload_n 0, 1) := by decide +kernel
theorem dX10_inForce_36 : decode cX10_inForce 36 = .ok (.iconst 2, 1) := by decide +kernel
theorem dX10_inForce_37 : decode cX10_inForce 37 = .ok (.invokevirtual 115, 3) := by decide +kernel
theorem dX10_inForce_40 : decode cX10_inForce 40 = .ok (.goto 4, 3) := by decide +kernel
theorem dX10_inForce_43 : decode cX10_inForce 43 = .ok (.iload_n 3, 1) := by decide +kernel
theorem dX10_inForce_44 : decode cX10_inForce 44 = .ok (.ireturn, 1) := by decide +kernel
theorem dX10_says_0 : decode cX10_says 0 = .ok (.iload_n 1, 1) := by decide +kernel
theorem dX10_says_1 : decode cX10_says 1 = .ok (.iconst 0, 1) := by decide +kernel
theorem dX10_says_2 : decode cX10_says 2 = .ok (.aload_n 0, 1) := by decide +kernel
theorem dX10_says_3 : decode cX10_says 3 = .ok (.getfield 7, 3) := by decide +kernel
theorem dX10_says_6 : decode cX10_says 6 = .ok (.iconst 3, 1) := by decide +kernel
theorem dX10_says_7 : decode cX10_says 7 = .ok (.iaload, 1) := by decide +kernel
theorem dX10_says_8 : decode cX10_says 8 = .ok (.iconst 1, 1) := by decide +kernel
theorem dX10_says_9 : decode cX10_says 9 = .ok (.isub, 1) := by decide +kernel
theorem dX10_says_10 : decode cX10_says 10 = .ok (.invokestatic 44, 3) := by decide +kernel
theorem dX10_says_13 : decode cX10_says 13 = .ok (.ifCond .eq 27, 3) := by decide +kernel
theorem dX10_says_16 : decode cX10_says 16 = .ok (.aload_n 0, 1) := by decide +kernel
theorem dX10_says_17 : decode cX10_says 17 = .ok (.iload_n 2, 1) := by decide +kernel
theorem dX10_says_18 : decode cX10_says 18 = .ok (.invokevirtual 123, 3) := by decide +kernel
theorem dX10_says_21 : decode cX10_says 21 = .ok (.ifCond .eq 19, 3) := by decide +kernel
theorem dX10_says_24 : decode cX10_says 24 = .ok (.aload_n 0, 1) := by decide +kernel
theorem dX10_says_25 : decode cX10_says 25 = .ok (.iload_n 1, 1) := by decide +kernel
theorem dX10_says_26 : decode cX10_says 26 = .ok (.iload_n 2, 1) := by decide +kernel
theorem dX10_says_27 : decode cX10_says 27 = .ok (.aload_n 0, 1) := by decide +kernel
theorem dX10_says_28 : decode cX10_says 28 = .ok (.getfield 7, 3) := by decide +kernel
theorem dX10_says_31 : decode cX10_says 31 = .ok (.iconst 0, 1) := by decide +kernel
theorem dX10_says_32 : decode cX10_says 32 = .ok (.iaload, 1) := by decide +kernel
theorem dX10_says_33 : decode cX10_says 33 = .ok (.iload_n 3, 1) := by decide +kernel
theorem dX10_says_34 : decode cX10_says 34 = .ok (.invokevirtual 98, 3) := by decide +kernel
theorem dX10_says_37 : decode cX10_says 37 = .ok (.goto 8, 3) := by decide +kernel
theorem dX10_says_40 : decode cX10_says 40 = .ok (.aload_n 0, 1) := by decide +kernel
theorem dX10_says_41 : decode cX10_says 41 = .ok (.iconst 1, 1) := by decide +kernel
theorem dX10_says_42 : decode cX10_says 42 = .ok (.invokevirtual 115, 3) := by decide +kernel
theorem dX10_says_45 : decode cX10_says 45 = .ok (.ireturn, 1) := by decide +kernel
theorem dX10_rate_0 : decode cX10_rate 0 = .ok (.aload_n 0, 1) := by decide +kernel
theorem dX10_rate_1 : decode cX10_rate 1 = .ok (.iload_n 1, 1) := by decide +kernel
theorem dX10_rate_2 : decode cX10_rate 2 = .ok (.invokevirtual 123, 3) := by decide +kernel
theorem dX10_rate_5 : decode cX10_rate 5 = .ok (.ifCond .eq 12, 3) := by decide +kernel
theorem dX10_rate_8 : decode cX10_rate 8 = .ok (.iload_n 2, 1) := by decide +kernel
theorem dX10_rate_9 : decode cX10_rate 9 = .ok (.iconst 0, 1) := by decide +kernel
theorem dX10_rate_10 : decode cX10_rate 10 = .ok (.iconst 2, 1) := by decide +kernel
theorem dX10_rate_11 : decode cX10_rate 11 = .ok (.invokestatic 44, 3) := by decide +kernel
theorem dX10_rate_14 : decode cX10_rate 14 = .ok (.ifCond .ne 9, 3) := by decide +kernel
theorem dX10_rate_17 : decode cX10_rate 17 = .ok (.aload_n 0, 1) := by decide +kernel
theorem dX10_rate_18 : decode cX10_rate 18 = .ok (.iconst 1, 1) := by decide +kernel
theorem dX10_rate_19 : decode cX10_rate 19 = .ok (.invokevirtual 115, 3) := by decide +kernel
theorem dX10_rate_22 : decode cX10_rate 22 = .ok (.ireturn, 1) := by decide +kernel
theorem dX10_rate_23 : decode cX10_rate 23 = .ok (.iload_n 2, 1) := by decide +kernel
theorem dX10_rate_24 : decode cX10_rate 24 = .ok (.ifCond .ne 22, 3) := by decide +kernel
theorem dX10_rate_27 : decode cX10_rate 27 = .ok (.aload_n 0, 1) := by decide +kernel
theorem dX10_rate_28 : decode cX10_rate 28 = .ok (.aload_n 0, 1) := by decide +kernel
theorem dX10_rate_29 : decode cX10_rate 29 = .ok (.iconst 0, 1) := by decide +kernel
theorem dX10_rate_30 : decode cX10_rate 30 = .ok (.aload_n 0, 1) := by decide +kernel
theorem dX10_rate_31 : decode cX10_rate 31 = .ok (.getfield 7, 3) := by decide +kernel
theorem dX10_rate_34 : decode cX10_rate 34 = .ok (.iconst 0, 1) := by decide +kernel
theorem dX10_rate_35 : decode cX10_rate 35 = .ok (.iaload, 1) := by decide +kernel
theorem dX10_rate_36 : decode cX10_rate 36 = .ok (.invokevirtual 109, 3) := by decide +kernel
theorem dX10_rate_39 : decode cX10_rate 39 = .ok (.iload_n 1, 1) := by decide +kernel
theorem dX10_rate_40 : decode cX10_rate 40 = .ok (.invokevirtual 155, 3) := by decide +kernel
theorem dX10_rate_43 : decode cX10_rate 43 = .ok (.goto 26, 3) := by decide +kernel
theorem dX10_rate_46 : decode cX10_rate 46 = .ok (.iload_n 2, 1) := by decide +kernel
theorem dX10_rate_47 : decode cX10_rate 47 = .ok (.iconst 1, 1) := by decide +kernel
theorem dX10_rate_48 : decode cX10_rate 48 = .ok (.if_icmp .ne 16, 3) := by decide +kernel
theorem dX10_rate_51 : decode cX10_rate 51 = .ok (.aload_n 0, 1) := by decide +kernel
theorem dX10_rate_52 : decode cX10_rate 52 = .ok (.aload_n 0, 1) := by decide +kernel
theorem dX10_rate_53 : decode cX10_rate 53 = .ok (.iload_n 1, 1) := by decide +kernel
theorem dX10_rate_54 : decode cX10_rate 54 = .ok (.invokevirtual 126, 3) := by decide +kernel
theorem dX10_rate_57 : decode cX10_rate 57 = .ok (.iload_n 1, 1) := by decide +kernel
theorem dX10_rate_58 : decode cX10_rate 58 = .ok (.invokevirtual 155, 3) := by decide +kernel
theorem dX10_rate_61 : decode cX10_rate 61 = .ok (.goto 8, 3) := by decide +kernel
theorem dX10_rate_64 : decode cX10_rate 64 = .ok (.aload_n 0, 1) := by decide +kernel
theorem dX10_rate_65 : decode cX10_rate 65 = .ok (.iload_n 1, 1) := by decide +kernel
theorem dX10_rate_66 : decode cX10_rate 66 = .ok (.invokevirtual 158, 3) := by decide +kernel
theorem dX10_rate_69 : decode cX10_rate 69 = .ok (.ireturn, 1) := by decide +kernel
theorem dX10_passes_0 : decode cX10_passes 0 = .ok (.aload_n 0, 1) := by decide +kernel
theorem dX10_passes_1 : decode cX10_passes 1 = .ok (.getfield 7, 3) := by decide +kernel
theorem dX10_passes_4 : decode cX10_passes 4 = .ok (.iconst 0, 1) := by decide +kernel
theorem dX10_passes_5 : decode cX10_passes 5 = .ok (.iaload, 1) := by decide +kernel
theorem dX10_passes_6 : decode cX10_passes 6 = .ok (.bipush 24, 2) := by decide +kernel
theorem dX10_passes_8 : decode cX10_passes 8 = .ok (.irem, 1) := by decide +kernel
theorem dX10_passes_9 : decode cX10_passes 9 = .ok (.istore_n 2, 1) := by decide +kernel
theorem dX10_passes_10 : decode cX10_passes 10 = .ok (.iload_n 2, 1) := by decide +kernel
theorem dX10_passes_11 : decode cX10_passes 11 = .ok (.ifCond .ne 81, 3) := by decide +kernel
theorem dX10_passes_14 : decode cX10_passes 14 = .ok (.aload_n 0, 1) := by decide +kernel
theorem dX10_passes_15 : decode cX10_passes 15 = .ok (.iload_n 1, 1) := by decide +kernel
theorem dX10_passes_16 : decode cX10_passes 16 = .ok (.iconst 3, 1) := by decide +kernel
theorem dX10_passes_17 : decode cX10_passes 17 = .ok (.aload_n 0, 1) := by decide +kernel
theorem dX10_passes_18 : decode cX10_passes 18 = .ok (.iload_n 1, 1) := by decide +kernel
theorem dX10_passes_19 : decode cX10_passes 19 = .ok (.invokevirtual 158, 3) := by decide +kernel
theorem dX10_passes_22 : decode cX10_passes 22 = .ok (.ineg, 1) := by decide +kernel
theorem dX10_passes_23 : decode cX10_passes 23 = .ok (.invokevirtual 133, 3) := by decide +kernel
theorem dX10_passes_26 : decode cX10_passes 26 = .ok (.aload_n 0, 1) := by decide +kernel
theorem dX10_passes_27 : decode cX10_passes 27 = .ok (.iload_n 1, 1) := by decide +kernel
theorem dX10_passes_28 : decode cX10_passes 28 = .ok (.bipush 6, 2) := by decide +kernel
theorem dX10_passes_30 : decode cX10_passes 30 = .ok (.invokevirtual 48, 3) := by decide +kernel
theorem dX10_passes_33 : decode cX10_passes 33 = .ok (.iconst 1, 1) := by decide +kernel
theorem dX10_passes_34 : decode cX10_passes 34 = .ok (.if_icmp .ne 50, 3) := by decide +kernel
theorem dX10_passes_37 : decode cX10_passes 37 = .ok (.aload_n 0, 1) := by decide +kernel
theorem dX10_passes_38 : decode cX10_passes 38 = .ok (.iload_n 1, 1) := by decide +kernel
theorem dX10_passes_39 : decode cX10_passes 39 = .ok (.iconst 5, 1) := by decide +kernel
theorem dX10_passes_40 : decode cX10_passes 40 = .ok (.invokevirtual 48, 3) := by decide +kernel
theorem dX10_passes_43 : decode cX10_passes 43 = .ok (.aload_n 0, 1) := by decide +kernel
theorem dX10_passes_44 : decode cX10_passes 44 = .ok (.iload_n 1, 1) := by decide +kernel
theorem dX10_passes_45 : decode cX10_passes 45 = .ok (.iconst 4, 1) := by decide +kernel
theorem dX10_passes_46 : decode cX10_passes 46 = .ok (.invokevirtual 48, 3) := by decide +kernel
theorem dX10_passes_49 : decode cX10_passes 49 = .ok (.if_icmp .ge 12, 3) := by decide +kernel
theorem dX10_passes_52 : decode cX10_passes 52 = .ok (.aload_n 0, 1) := by decide +kernel
theorem dX10_passes_53 : decode cX10_passes 53 = .ok (.iload_n 1, 1) := by decide +kernel
theorem dX10_passes_54 : decode cX10_passes 54 = .ok (.iconst 5, 1) := by decide +kernel
theorem dX10_passes_55 : decode cX10_passes 55 = .ok (.invokevirtual 48, 3) := by decide +kernel
theorem dX10_passes_58 : decode cX10_passes 58 = .ok (.goto 9, 3) := by decide +kernel
theorem dX10_passes_61 : decode cX10_passes 61 = .ok (.aload_n 0, 1) := by decide +kernel
theorem dX10_passes_62 : decode cX10_passes 62 = .ok (.iload_n 1, 1) := by decide +kernel
theorem dX10_passes_63 : decode cX10_passes 63 = .ok (.iconst 4, 1) := by decide +kernel
theorem dX10_passes_64 : decode cX10_passes 64 = .ok (.invokevirtual 48, 3) := by decide +kernel
theorem dX10_passes_67 : decode cX10_passes 67 = .ok (.istore_n 3, 1) := by decide +kernel
theorem dX10_passes_68 : decode cX10_passes 68 = .ok (.aload_n 0, 1) := by decide +kernel
theorem dX10_passes_69 : decode cX10_passes 69 = .ok (.iload_n 1, 1) := by decide +kernel
theorem dX10_passes_70 : decode cX10_passes 70 = .ok (.iconst 3, 1) := by decide +kernel
theorem dX10_passes_71 : decode cX10_passes 71 = .ok (.iload_n 3, 1) := by decide +kernel
theorem dX10_passes_72 : decode cX10_passes 72 = .ok (.ineg, 1) := by decide +kernel
theorem dX10_passes_73 : decode cX10_passes 73 = .ok (.invokevirtual 133, 3) := by decide +kernel
theorem dX10_passes_76 : decode cX10_passes 76 = .ok (.aload_n 0, 1) := by decide +kernel
theorem dX10_passes_77 : decode cX10_passes 77 = .ok (.iload_n 1, 1) := by decide +kernel
theorem dX10_passes_78 : decode cX10_passes 78 = .ok (.iconst 4, 1) := by decide +kernel
theorem dX10_passes_79 : decode cX10_passes 79 = .ok (.iload_n 3, 1) := by decide +kernel
theorem dX10_passes_80 : decode cX10_passes 80 = .ok (.ineg, 1) := by decide +kernel
theorem dX10_passes_81 : decode cX10_passes 81 = .ok (.invokevirtual 133, 3) := by decide +kernel
theorem dX10_passes_84 : decode cX10_passes 84 = .ok (.aload_n 0, 1) := by decide +kernel
theorem dX10_passes_85 : decode cX10_passes 85 = .ok (.iload_n 1, 1) := by decide +kernel
theorem dX10_passes_86 : decode cX10_passes 86 = .ok (.bipush 9, 2) := by decide +kernel
theorem dX10_passes_88 : decode cX10_passes 88 = .ok (.iconst 0, 1) := by decide +kernel
theorem dX10_passes_89 : decode cX10_passes 89 = .ok (.invokevirtual 119, 3) := by decide +kernel
theorem dX10_passes_92 : decode cX10_passes 92 = .ok (.aload_n 0, 1) := by decide +kernel
theorem dX10_passes_93 : decode cX10_passes 93 = .ok (.iload_n 1, 1) := by decide +kernel
theorem dX10_passes_94 : decode cX10_passes 94 = .ok (.bipush 6, 2) := by decide +kernel
theorem dX10_passes_96 : decode cX10_passes 96 = .ok (.invokevirtual 48, 3) := by decide +kernel
theorem dX10_passes_99 : decode cX10_passes 99 = .ok (.ifCond .ne 13, 3) := by decide +kernel
theorem dX10_passes_102 : decode cX10_passes 102 = .ok (.aload_n 0, 1) := by decide +kernel
theorem dX10_passes_103 : decode cX10_passes 103 = .ok (.iload_n 1, 1) := by decide +kernel
theorem dX10_passes_104 : decode cX10_passes 104 = .ok (.bipush 10, 2) := by decide +kernel
theorem dX10_passes_106 : decode cX10_passes 106 = .ok (.iconst 1, 1) := by decide +kernel
theorem dX10_passes_107 : decode cX10_passes 107 = .ok (.invokevirtual 133, 3) := by decide +kernel
theorem dX10_passes_110 : decode cX10_passes 110 = .ok (.iconst 0, 1) := by decide +kernel
theorem dX10_passes_111 : decode cX10_passes 111 = .ok (.ireturn, 1) := by decide +kernel
theorem dX10_passes_112 : decode cX10_passes 112 = .ok (.aload_n 0, 1) := by decide +kernel
theorem dX10_passes_113 : decode cX10_passes 113 = .ok (.iload_n 1, 1) := by decide +kernel
theorem dX10_passes_114 : decode cX10_passes 114 = .ok (.bipush 13, 2) := by decide +kernel
theorem dX10_passes_116 : decode cX10_passes 116 = .ok (.iload_n 2, 1) := by decide +kernel
theorem dX10_passes_117 : decode cX10_passes 117 = .ok (.iadd, 1) := by decide +kernel
theorem dX10_passes_118 : decode cX10_passes 118 = .ok (.invokevirtual 48, 3) := by decide +kernel
theorem dX10_passes_121 : decode cX10_passes 121 = .ok (.istore_n 3, 1) := by decide +kernel
theorem dX10_passes_122 : decode cX10_passes 122 = .ok (.aload_n 0, 1) := by decide +kernel
theorem dX10_passes_123 : decode cX10_passes 123 = .ok (.aload_n 0, 1) := by decide +kernel
theorem dX10_passes_124 : decode cX10_passes 124 = .ok (.iload_n 1, 1) := by decide +kernel
theorem dX10_passes_125 : decode cX10_passes 125 = .ok (.invokevirtual 126, 3) := by decide +kernel
theorem dX10_passes_128 : decode cX10_passes 128 = .ok (.iload_n 1, 1) := by decide +kernel
theorem dX10_passes_129 : decode cX10_passes 129 = .ok (.invokevirtual 155, 3) := by decide +kernel
theorem dX10_passes_132 : decode cX10_passes 132 = .ok (.istore 4, 2) := by decide +kernel
theorem dX10_passes_134 : decode cX10_passes 134 = .ok (.aload_n 0, 1) := by decide +kernel
theorem dX10_passes_135 : decode cX10_passes 135 = .ok (.aload_n 0, 1) := by decide +kernel
theorem dX10_passes_136 : decode cX10_passes 136 = .ok (.iconst 0, 1) := by decide +kernel
theorem dX10_passes_137 : decode cX10_passes 137 = .ok (.aload_n 0, 1) := by decide +kernel
theorem dX10_passes_138 : decode cX10_passes 138 = .ok (.getfield 7, 3) := by decide +kernel
theorem dX10_passes_141 : decode cX10_passes 141 = .ok (.iconst 0, 1) := by decide +kernel
theorem dX10_passes_142 : decode cX10_passes 142 = .ok (.iaload, 1) := by decide +kernel
theorem dX10_passes_143 : decode cX10_passes 143 = .ok (.invokevirtual 109, 3) := by decide +kernel
theorem dX10_passes_146 : decode cX10_passes 146 = .ok (.iload_n 1, 1) := by decide +kernel
theorem dX10_passes_147 : decode cX10_passes 147 = .ok (.invokevirtual 155, 3) := by decide +kernel
theorem dX10_passes_150 : decode cX10_passes 150 = .ok (.istore 5, 2) := by decide +kernel
theorem dX10_passes_152 : decode cX10_passes 152 = .ok (.aload_n 0, 1) := by decide +kernel
theorem dX10_passes_153 : decode cX10_passes 153 = .ok (.iload_n 1, 1) := by decide +kernel
theorem dX10_passes_154 : decode cX10_passes 154 = .ok (.iconst 3, 1) := by decide +kernel
theorem dX10_passes_155 : decode cX10_passes 155 = .ok (.iload_n 3, 1) := by decide +kernel
theorem dX10_passes_156 : decode cX10_passes 156 = .ok (.ineg, 1) := by decide +kernel
theorem dX10_passes_157 : decode cX10_passes 157 = .ok (.iload 4, 2) := by decide +kernel
theorem dX10_passes_159 : decode cX10_passes 159 = .ok (.imul, 1) := by decide +kernel
theorem dX10_passes_160 : decode cX10_passes 160 = .ok (.invokevirtual 133, 3) := by decide +kernel
theorem dX10_passes_163 : decode cX10_passes 163 = .ok (.aload_n 0, 1) := by decide +kernel
theorem dX10_passes_164 : decode cX10_passes 164 = .ok (.iload_n 1, 1) := by decide +kernel
theorem dX10_passes_165 : decode cX10_passes 165 = .ok (.bipush 11, 2) := by decide +kernel
theorem dX10_passes_167 : decode cX10_passes 167 = .ok (.iload_n 3, 1) := by decide +kernel
theorem dX10_passes_168 : decode cX10_passes 168 = .ok (.iload 5, 2) := by decide +kernel
theorem dX10_passes_170 : decode cX10_passes 170 = .ok (.iload 4, 2) := by decide +kernel
theorem dX10_passes_172 : decode cX10_passes 172 = .ok (.isub, 1) := by decide +kernel
theorem dX10_passes_173 : decode cX10_passes 173 = .ok (.imul, 1) := by decide +kernel
theorem dX10_passes_174 : decode cX10_passes 174 = .ok (.invokevirtual 133, 3) := by decide +kernel
theorem dX10_passes_177 : decode cX10_passes 177 = .ok (.aload_n 0, 1) := by decide +kernel
theorem dX10_passes_178 : decode cX10_passes 178 = .ok (.iload_n 1, 1) := by decide +kernel
theorem dX10_passes_179 : decode cX10_passes 179 = .ok (.bipush 9, 2) := by decide +kernel
theorem dX10_passes_181 : decode cX10_passes 181 = .ok (.iload_n 3, 1) := by decide +kernel
theorem dX10_passes_182 : decode cX10_passes 182 = .ok (.invokevirtual 133, 3) := by decide +kernel
theorem dX10_passes_185 : decode cX10_passes 185 = .ok (.aload_n 0, 1) := by decide +kernel
theorem dX10_passes_186 : decode cX10_passes 186 = .ok (.iload_n 1, 1) := by decide +kernel
theorem dX10_passes_187 : decode cX10_passes 187 = .ok (.bipush 8, 2) := by decide +kernel
theorem dX10_passes_189 : decode cX10_passes 189 = .ok (.iload_n 3, 1) := by decide +kernel
theorem dX10_passes_190 : decode cX10_passes 190 = .ok (.invokevirtual 133, 3) := by decide +kernel
theorem dX10_passes_193 : decode cX10_passes 193 = .ok (.aload_n 0, 1) := by decide +kernel
theorem dX10_passes_194 : decode cX10_passes 194 = .ok (.iload_n 1, 1) := by decide +kernel
theorem dX10_passes_195 : decode cX10_passes 195 = .ok (.iconst 0, 1) := by decide +kernel
theorem dX10_passes_196 : decode cX10_passes 196 = .ok (.invokevirtual 48, 3) := by decide +kernel
theorem dX10_passes_199 : decode cX10_passes 199 = .ok (.iconst 4, 1) := by decide +kernel
theorem dX10_passes_200 : decode cX10_passes 200 = .ok (.if_icmp .eq 35, 3) := by decide +kernel
theorem dX10_passes_203 : decode cX10_passes 203 = .ok (.aload_n 0, 1) := by decide +kernel
theorem dX10_passes_204 : decode cX10_passes 204 = .ok (.iload_n 1, 1) := by decide +kernel
theorem dX10_passes_205 : decode cX10_passes 205 = .ok (.iconst 3, 1) := by decide +kernel
theorem dX10_passes_206 : decode cX10_passes 206 = .ok (.invokevirtual 48, 3) := by decide +kernel
theorem dX10_passes_209 : decode cX10_passes 209 = .ok (.aload_n 0, 1) := by decide +kernel
theorem dX10_passes_210 : decode cX10_passes 210 = .ok (.iload_n 1, 1) := by decide +kernel
theorem dX10_passes_211 : decode cX10_passes 211 = .ok (.invokevirtual 129, 3) := by decide +kernel
theorem dX10_passes_214 : decode cX10_passes 214 = .ok (.if_icmp .ge 21, 3) := by decide +kernel
theorem dX10_passes_217 : decode cX10_passes 217 = .ok (.aload_n 0, 1) := by decide +kernel
theorem dX10_passes_218 : decode cX10_passes 218 = .ok (.getfield 7, 3) := by decide +kernel
theorem dX10_passes_221 : decode cX10_passes 221 = .ok (.iconst 0, 1) := by decide +kernel
theorem dX10_passes_222 : decode cX10_passes 222 = .ok (.iaload, 1) := by decide +kernel
theorem dX10_passes_223 : decode cX10_passes 223 = .ok (.iconst 1, 1) := by decide +kernel
theorem dX10_passes_224 : decode cX10_passes 224 = .ok (.iadd, 1) := by decide +kernel
theorem dX10_passes_225 : decode cX10_passes 225 = .ok (.invokestatic 161, 3) := by decide +kernel
theorem dX10_passes_228 : decode cX10_passes 228 = .ok (.ifCond .ne 7, 3) := by decide +kernel
theorem dX10_passes_231 : decode cX10_passes 231 = .ok (.iconst 1, 1) := by decide +kernel
theorem dX10_passes_232 : decode cX10_passes 232 = .ok (.goto 4, 3) := by decide +kernel
theorem dX10_passes_235 : decode cX10_passes 235 = .ok (.iconst 0, 1) := by decide +kernel
theorem dX10_passes_236 : decode cX10_passes 236 = .ok (.istore 6, 2) := by decide +kernel
theorem dX10_passes_238 : decode cX10_passes 238 = .ok (.aload_n 0, 1) := by decide +kernel
theorem dX10_passes_239 : decode cX10_passes 239 = .ok (.iload_n 1, 1) := by decide +kernel
theorem dX10_passes_240 : decode cX10_passes 240 = .ok (.bipush 6, 2) := by decide +kernel
theorem dX10_passes_242 : decode cX10_passes 242 = .ok (.iload 6, 2) := by decide +kernel
theorem dX10_passes_244 : decode cX10_passes 244 = .ok (.ifCond .eq 7, 3) := by decide +kernel
theorem dX10_passes_247 : decode cX10_passes 247 = .ok (.iconst 0, 1) := by decide +kernel
theorem dX10_passes_248 : decode cX10_passes 248 = .ok (.goto 4, 3) := by decide +kernel
theorem dX10_passes_251 : decode cX10_passes 251 = .ok (.iconst 1, 1) := by decide +kernel
theorem dX10_passes_252 : decode cX10_passes 252 = .ok (.invokevirtual 119, 3) := by decide +kernel
theorem dX10_passes_255 : decode cX10_passes 255 = .ok (.iload 6, 2) := by decide +kernel
theorem dX10_passes_257 : decode cX10_passes 257 = .ok (.ireturn, 1) := by decide +kernel
theorem dX10_go_0 : decode cX10_go 0 = .ok (.iload_n 1, 1) := by decide +kernel
theorem dX10_go_1 : decode cX10_go 1 = .ok (.iconst 1, 1) := by decide +kernel
theorem dX10_go_2 : decode cX10_go 2 = .ok (.sipush 240, 3) := by decide +kernel
theorem dX10_go_5 : decode cX10_go 5 = .ok (.invokestatic 44, 3) := by decide +kernel
theorem dX10_go_8 : decode cX10_go 8 = .ok (.ifCond .eq 17, 3) := by decide +kernel
theorem dX10_go_11 : decode cX10_go 11 = .ok (.aload_n 0, 1) := by decide +kernel
theorem dX10_go_12 : decode cX10_go 12 = .ok (.getfield 7, 3) := by decide +kernel
theorem dX10_go_15 : decode cX10_go 15 = .ok (.iconst 0, 1) := by decide +kernel
theorem dX10_go_16 : decode cX10_go 16 = .ok (.iaload, 1) := by decide +kernel
theorem dX10_go_17 : decode cX10_go 17 = .ok (.iload_n 1, 1) := by decide +kernel
theorem dX10_go_18 : decode cX10_go 18 = .ok (.iadd, 1) := by decide +kernel
theorem dX10_go_19 : decode cX10_go 19 = .ok (.sipush 9000, 3) := by decide +kernel
theorem dX10_go_22 : decode cX10_go 22 = .ok (.if_icmp .le 9, 3) := by decide +kernel
theorem dX10_go_25 : decode cX10_go 25 = .ok (.aload_n 0, 1) := by decide +kernel
theorem dX10_go_26 : decode cX10_go 26 = .ok (.iconst 1, 1) := by decide +kernel
theorem dX10_go_27 : decode cX10_go 27 = .ok (.invokevirtual 115, 3) := by decide +kernel
theorem dX10_go_30 : decode cX10_go 30 = .ok (.ireturn, 1) := by decide +kernel
theorem dX10_go_31 : decode cX10_go 31 = .ok (.iconst 0, 1) := by decide +kernel
theorem dX10_go_32 : decode cX10_go 32 = .ok (.istore_n 2, 1) := by decide +kernel
theorem dX10_go_33 : decode cX10_go 33 = .ok (.iconst 0, 1) := by decide +kernel
theorem dX10_go_34 : decode cX10_go 34 = .ok (.istore_n 3, 1) := by decide +kernel
theorem dX10_go_35 : decode cX10_go 35 = .ok (.iload_n 3, 1) := by decide +kernel
theorem dX10_go_36 : decode cX10_go 36 = .ok (.iload_n 1, 1) := by decide +kernel
theorem dX10_go_37 : decode cX10_go 37 = .ok (.if_icmp .ge 56, 3) := by decide +kernel
theorem dX10_go_40 : decode cX10_go 40 = .ok (.iconst 0, 1) := by decide +kernel
theorem dX10_go_41 : decode cX10_go 41 = .ok (.istore 4, 2) := by decide +kernel
theorem dX10_go_43 : decode cX10_go 43 = .ok (.iload 4, 2) := by decide +kernel
theorem dX10_go_45 : decode cX10_go 45 = .ok (.aload_n 0, 1) := by decide +kernel
theorem dX10_go_46 : decode cX10_go 46 = .ok (.getfield 7, 3) := by decide +kernel
theorem dX10_go_49 : decode cX10_go 49 = .ok (.iconst 1, 1) := by decide +kernel
theorem dX10_go_50 : decode cX10_go 50 = .ok (.iaload, 1) := by decide +kernel
theorem dX10_go_51 : decode cX10_go 51 = .ok (.if_icmp .ge 26, 3) := by decide +kernel
theorem dX10_go_54 : decode cX10_go 54 = .ok (.iload_n 2, 1) := by decide +kernel
theorem dX10_go_55 : decode cX10_go 55 = .ok (.aload_n 0, 1) := by decide +kernel
theorem dX10_go_56 : decode cX10_go 56 = .ok (.iload 4, 2) := by decide +kernel
theorem dX10_go_58 : decode cX10_go 58 = .ok (.invokevirtual 164, 3) := by decide +kernel
theorem dX10_go_61 : decode cX10_go 61 = .ok (.ifCond .eq 7, 3) := by decide +kernel
theorem dX10_go_64 : decode cX10_go 64 = .ok (.iconst 1, 1) := by decide +kernel
theorem dX10_go_65 : decode cX10_go 65 = .ok (.goto 4, 3) := by decide +kernel
theorem dX10_go_68 : decode cX10_go 68 = .ok (.iconst 0, 1) := by decide +kernel
theorem dX10_go_69 : decode cX10_go 69 = .ok (.iadd, 1) := by decide +kernel
theorem dX10_go_70 : decode cX10_go 70 = .ok (.istore_n 2, 1) := by decide +kernel
theorem dX10_go_71 : decode cX10_go 71 = .ok (.iinc 4 1, 3) := by decide +kernel
theorem dX10_go_74 : decode cX10_go 74 = .ok (.goto (-31), 3) := by decide +kernel
theorem dX10_go_77 : decode cX10_go 77 = .ok (.aload_n 0, 1) := by decide +kernel
theorem dX10_go_78 : decode cX10_go 78 = .ok (.getfield 7, 3) := by decide +kernel
theorem dX10_go_81 : decode cX10_go 81 = .ok (.iconst 0, 1) := by decide +kernel
theorem dX10_go_82 : decode cX10_go 82 = .ok (.dup2, 1) := by decide +kernel
theorem dX10_go_83 : decode cX10_go 83 = .ok (.iaload, 1) := by decide +kernel
theorem dX10_go_84 : decode cX10_go 84 = .ok (.iconst 1, 1) := by decide +kernel
theorem dX10_go_85 : decode cX10_go 85 = .ok (.iadd, 1) := by decide +kernel
theorem dX10_go_86 : decode cX10_go 86 = .ok (.iastore, 1) := by decide +kernel
theorem dX10_go_87 : decode cX10_go 87 = .ok (.iinc 3 1, 3) := by decide +kernel
theorem dX10_go_90 : decode cX10_go 90 = .ok (.goto (-55), 3) := by decide +kernel
theorem dX10_go_93 : decode cX10_go 93 = .ok (.iload_n 2, 1) := by decide +kernel
theorem dX10_go_94 : decode cX10_go 94 = .ok (.ireturn, 1) := by decide +kernel
theorem dX10_read_0 : decode cX10_read 0 = .ok (.aload_n 0, 1) := by decide +kernel
theorem dX10_read_1 : decode cX10_read 1 = .ok (.iload_n 1, 1) := by decide +kernel
theorem dX10_read_2 : decode cX10_read 2 = .ok (.invokevirtual 123, 3) := by decide +kernel
theorem dX10_read_5 : decode cX10_read 5 = .ok (.ifCond .eq 30, 3) := by decide +kernel
theorem dX10_read_8 : decode cX10_read 8 = .ok (.iload_n 2, 1) := by decide +kernel
theorem dX10_read_9 : decode cX10_read 9 = .ok (.iconst 0, 1) := by decide +kernel
theorem dX10_read_10 : decode cX10_read 10 = .ok (.aload_n 0, 1) := by decide +kernel
theorem dX10_read_11 : decode cX10_read 11 = .ok (.getfield 7, 3) := by decide +kernel
theorem dX10_read_14 : decode cX10_read 14 = .ok (.iconst 0, 1) := by decide +kernel
theorem dX10_read_15 : decode cX10_read 15 = .ok (.iaload, 1) := by decide +kernel
theorem dX10_read_16 : decode cX10_read 16 = .ok (.invokestatic 44, 3) := by decide +kernel
theorem dX10_read_19 : decode cX10_read 19 = .ok (.ifCond .eq 16, 3) := by decide +kernel
theorem dX10_read_22 : decode cX10_read 22 = .ok (.iload_n 3, 1) := by decide +kernel
theorem dX10_read_23 : decode cX10_read 23 = .ok (.sipush (-9999), 3) := by decide +kernel
theorem dX10_read_26 : decode cX10_read 26 = .ok (.sipush 9999, 3) := by decide +kernel
theorem dX10_read_29 : decode cX10_read 29 = .ok (.invokestatic 44, 3) := by decide +kernel
theorem dX10_read_32 : decode cX10_read 32 = .ok (.ifCond .ne 9, 3) := by decide +kernel
theorem dX10_read_35 : decode cX10_read 35 = .ok (.aload_n 0, 1) := by decide +kernel
theorem dX10_read_36 : decode cX10_read 36 = .ok (.iconst 1, 1) := by decide +kernel
theorem dX10_read_37 : decode cX10_read 37 = .ok (.invokevirtual 115, 3) := by decide +kernel
theorem dX10_read_40 : decode cX10_read 40 = .ok (.ireturn, 1) := by decide +kernel
theorem dX10_read_41 : decode cX10_read 41 = .ok (.aload_n 0, 1) := by decide +kernel
theorem dX10_read_42 : decode cX10_read 42 = .ok (.getfield 7, 3) := by decide +kernel
theorem dX10_read_45 : decode cX10_read 45 = .ok (.iconst 4, 1) := by decide +kernel
theorem dX10_read_46 : decode cX10_read 46 = .ok (.iaload, 1) := by decide +kernel
theorem dX10_read_47 : decode cX10_read 47 = .ok (.bipush 40, 2) := by decide +kernel
theorem dX10_read_49 : decode cX10_read 49 = .ok (.if_icmp .ne 9, 3) := by decide +kernel
theorem dX10_read_52 : decode cX10_read 52 = .ok (.aload_n 0, 1) := by decide +kernel
theorem dX10_read_53 : decode cX10_read 53 = .ok (.iconst 4, 1) := by decide +kernel
theorem dX10_read_54 : decode cX10_read 54 = .ok (.invokevirtual 115, 3) := by decide +kernel
theorem dX10_read_57 : decode cX10_read 57 = .ok (.ireturn, 1) := by decide +kernel
theorem dX10_read_58 : decode cX10_read 58 = .ok (.sipush 1124, 3) := by decide +kernel
theorem dX10_read_61 : decode cX10_read 61 = .ok (.iconst 4, 1) := by decide +kernel
theorem dX10_read_62 : decode cX10_read 62 = .ok (.aload_n 0, 1) := by decide +kernel
theorem dX10_read_63 : decode cX10_read 63 = .ok (.getfield 7, 3) := by decide +kernel
theorem dX10_read_66 : decode cX10_read 66 = .ok (.iconst 4, 1) := by decide +kernel
theorem dX10_read_67 : decode cX10_read 67 = .ok (.iaload, 1) := by decide +kernel
theorem dX10_read_68 : decode cX10_read 68 = .ok (.imul, 1) := by decide +kernel
theorem dX10_read_69 : decode cX10_read 69 = .ok (.iadd, 1) := by decide +kernel
theorem dX10_read_70 : decode cX10_read 70 = .ok (.istore 4, 2) := by decide +kernel
theorem dX10_read_72 : decode cX10_read 72 = .ok (.aload_n 0, 1) := by decide +kernel
theorem dX10_read_73 : decode cX10_read 73 = .ok (.getfield 7, 3) := by decide +kernel
theorem dX10_read_76 : decode cX10_read 76 = .ok (.iload 4, 2) := by decide +kernel
theorem dX10_read_78 : decode cX10_read 78 = .ok (.iload_n 1, 1) := by decide +kernel
theorem dX10_read_79 : decode cX10_read 79 = .ok (.iastore, 1) := by decide +kernel
theorem dX10_read_80 : decode cX10_read 80 = .ok (.aload_n 0, 1) := by decide +kernel
theorem dX10_read_81 : decode cX10_read 81 = .ok (.getfield 7, 3) := by decide +kernel
theorem dX10_read_84 : decode cX10_read 84 = .ok (.iload 4, 2) := by decide +kernel
theorem dX10_read_86 : decode cX10_read 86 = .ok (.iconst 1, 1) := by decide +kernel
theorem dX10_read_87 : decode cX10_read 87 = .ok (.iadd, 1) := by decide +kernel
theorem dX10_read_88 : decode cX10_read 88 = .ok (.iload_n 2, 1) := by decide +kernel
theorem dX10_read_89 : decode cX10_read 89 = .ok (.iastore, 1) := by decide +kernel
theorem dX10_read_90 : decode cX10_read 90 = .ok (.aload_n 0, 1) := by decide +kernel
theorem dX10_read_91 : decode cX10_read 91 = .ok (.getfield 7, 3) := by decide +kernel
theorem dX10_read_94 : decode cX10_read 94 = .ok (.iload 4, 2) := by decide +kernel
theorem dX10_read_96 : decode cX10_read 96 = .ok (.iconst 2, 1) := by decide +kernel
theorem dX10_read_97 : decode cX10_read 97 = .ok (.iadd, 1) := by decide +kernel
theorem dX10_read_98 : decode cX10_read 98 = .ok (.iload_n 3, 1) := by decide +kernel
theorem dX10_read_99 : decode cX10_read 99 = .ok (.iastore, 1) := by decide +kernel
theorem dX10_read_100 : decode cX10_read 100 = .ok (.aload_n 0, 1) := by decide +kernel
theorem dX10_read_101 : decode cX10_read 101 = .ok (.getfield 7, 3) := by decide +kernel
theorem dX10_read_104 : decode cX10_read 104 = .ok (.iload 4, 2) := by decide +kernel
theorem dX10_read_106 : decode cX10_read 106 = .ok (.iconst 3, 1) := by decide +kernel
theorem dX10_read_107 : decode cX10_read 107 = .ok (.iadd, 1) := by decide +kernel
theorem dX10_read_108 : decode cX10_read 108 = .ok (.aload_n 0, 1) := by decide +kernel
theorem dX10_read_109 : decode cX10_read 109 = .ok (.getfield 7, 3) := by decide +kernel
theorem dX10_read_112 : decode cX10_read 112 = .ok (.iconst 0, 1) := by decide +kernel
theorem dX10_read_113 : decode cX10_read 113 = .ok (.iaload, 1) := by decide +kernel
theorem dX10_read_114 : decode cX10_read 114 = .ok (.iastore, 1) := by decide +kernel
theorem dX10_read_115 : decode cX10_read 115 = .ok (.aload_n 0, 1) := by decide +kernel
theorem dX10_read_116 : decode cX10_read 116 = .ok (.getfield 7, 3) := by decide +kernel
theorem dX10_read_119 : decode cX10_read 119 = .ok (.iconst 4, 1) := by decide +kernel
theorem dX10_read_120 : decode cX10_read 120 = .ok (.dup2, 1) := by decide +kernel
theorem dX10_read_121 : decode cX10_read 121 = .ok (.iaload, 1) := by decide +kernel
theorem dX10_read_122 : decode cX10_read 122 = .ok (.iconst 1, 1) := by decide +kernel
theorem dX10_read_123 : decode cX10_read 123 = .ok (.iadd, 1) := by decide +kernel
theorem dX10_read_124 : decode cX10_read 124 = .ok (.iastore, 1) := by decide +kernel
theorem dX10_read_125 : decode cX10_read 125 = .ok (.aload_n 0, 1) := by decide +kernel
theorem dX10_read_126 : decode cX10_read 126 = .ok (.getfield 7, 3) := by decide +kernel
theorem dX10_read_129 : decode cX10_read 129 = .ok (.iconst 4, 1) := by decide +kernel
theorem dX10_read_130 : decode cX10_read 130 = .ok (.iaload, 1) := by decide +kernel
theorem dX10_read_131 : decode cX10_read 131 = .ok (.iconst 1, 1) := by decide +kernel
theorem dX10_read_132 : decode cX10_read 132 = .ok (.isub, 1) := by decide +kernel
theorem dX10_read_133 : decode cX10_read 133 = .ok (.ireturn, 1) := by decide +kernel
theorem dX10_dark_0 : decode cX10_dark 0 = .ok (.aload_n 0, 1) := by decide +kernel
theorem dX10_dark_1 : decode cX10_dark 1 = .ok (.iload_n 1, 1) := by decide +kernel
theorem dX10_dark_2 : decode cX10_dark 2 = .ok (.invokevirtual 123, 3) := by decide +kernel
theorem dX10_dark_5 : decode cX10_dark 5 = .ok (.ifCond .eq 51, 3) := by decide +kernel
theorem dX10_dark_8 : decode cX10_dark 8 = .ok (.iload_n 2, 1) := by decide +kernel
theorem dX10_dark_9 : decode cX10_dark 9 = .ok (.iconst 0, 1) := by decide +kernel
theorem dX10_dark_10 : decode cX10_dark 10 = .ok (.sipush 9000, 3) := by decide +kernel
theorem dX10_dark_13 : decode cX10_dark 13 = .ok (.invokestatic 44, 3) := by decide +kernel
theorem dX10_dark_16 : decode cX10_dark 16 = .ok (.ifCond .eq 40, 3) := by decide +kernel
theorem dX10_dark_19 : decode cX10_dark 19 = .ok (.iload_n 3, 1) := by decide +kernel
theorem dX10_dark_20 : decode cX10_dark 20 = .ok (.iconst 0, 1) := by decide +kernel
theorem dX10_dark_21 : decode cX10_dark 21 = .ok (.sipush 9000, 3) := by decide +kernel
theorem dX10_dark_24 : decode cX10_dark 24 = .ok (.invokestatic 44, 3) := by decide +kernel
theorem dX10_dark_27 : decode cX10_dark 27 = .ok (.ifCond .eq 29, 3) := by decide +kernel
theorem dX10_dark_30 : decode cX10_dark 30 = .ok (.iload 4, 2) := by decide +kernel
theorem dX10_dark_32 : decode cX10_dark 32 = .ok (.iconst 0, 1) := by decide +kernel
theorem dX10_dark_33 : decode cX10_dark 33 = .ok (.ldc 167, 2) := by decide +kernel
theorem dX10_dark_35 : decode cX10_dark 35 = .ok (.invokestatic 44, 3) := by decide +kernel
theorem dX10_dark_38 : decode cX10_dark 38 = .ok (.ifCond .eq 18, 3) := by decide +kernel
theorem dX10_dark_41 : decode cX10_dark 41 = .ok (.iload 4, 2) := by decide +kernel
theorem dX10_dark_43 : decode cX10_dark 43 = .ok (.sipush 1000, 3) := by decide +kernel
theorem dX10_dark_46 : decode cX10_dark 46 = .ok (.idiv, 1) := by decide +kernel
theorem dX10_dark_47 : decode cX10_dark 47 = .ok (.iload 4, 2) := by decide +kernel
theorem dX10_dark_49 : decode cX10_dark 49 = .ok (.sipush 1000, 3) := by decide +kernel
theorem dX10_dark_52 : decode cX10_dark 52 = .ok (.irem, 1) := by decide +kernel
theorem dX10_dark_53 : decode cX10_dark 53 = .ok (.if_icmp .le 9, 3) := by decide +kernel
theorem dX10_dark_56 : decode cX10_dark 56 = .ok (.aload_n 0, 1) := by decide +kernel
theorem dX10_dark_57 : decode cX10_dark 57 = .ok (.iconst 1, 1) := by decide +kernel
theorem dX10_dark_58 : decode cX10_dark 58 = .ok (.invokevirtual 115, 3) := by decide +kernel
theorem dX10_dark_61 : decode cX10_dark 61 = .ok (.ireturn, 1) := by decide +kernel
theorem dX10_dark_62 : decode cX10_dark 62 = .ok (.iconst (-1), 1) := by decide +kernel
theorem dX10_dark_63 : decode cX10_dark 63 = .ok (.istore 5, 2) := by decide +kernel
theorem dX10_dark_65 : decode cX10_dark 65 = .ok (.iconst 0, 1) := by decide +kernel
theorem dX10_dark_66 : decode cX10_dark 66 = .ok (.istore 6, 2) := by decide +kernel
theorem dX10_dark_68 : decode cX10_dark 68 = .ok (.iload 6, 2) := by decide +kernel
theorem dX10_dark_70 : decode cX10_dark 70 = .ok (.aload_n 0, 1) := by decide +kernel
theorem dX10_dark_71 : decode cX10_dark 71 = .ok (.getfield 7, 3) := by decide +kernel
theorem dX10_dark_74 : decode cX10_dark 74 = .ok (.iconst 4, 1) := by decide +kernel
theorem dX10_dark_75 : decode cX10_dark 75 = .ok (.iaload, 1) := by decide +kernel
theorem dX10_dark_76 : decode cX10_dark 76 = .ok (.if_icmp .ge 103, 3) := by decide +kernel
theorem dX10_dark_79 : decode cX10_dark 79 = .ok (.sipush 1124, 3) := by decide +kernel
theorem dX10_dark_82 : decode cX10_dark 82 = .ok (.iconst 4, 1) := by decide +kernel
theorem dX10_dark_83 : decode cX10_dark 83 = .ok (.iload 6, 2) := by decide +kernel
theorem dX10_dark_85 : decode cX10_dark 85 = .ok (.imul, 1) := by decide +kernel
theorem dX10_dark_86 : decode cX10_dark 86 = .ok (.iadd, 1) := by decide +kernel
theorem dX10_dark_87 : decode cX10_dark 87 = .ok (.istore 7, 2) := by decide +kernel
theorem dX10_dark_89 : decode cX10_dark 89 = .ok (.aload_n 0, 1) := by decide +kernel
theorem dX10_dark_90 : decode cX10_dark 90 = .ok (.getfield 7, 3) := by decide +kernel
theorem dX10_dark_93 : decode cX10_dark 93 = .ok (.iload 7, 2) := by decide +kernel
theorem dX10_dark_95 : decode cX10_dark 95 = .ok (.iaload, 1) := by decide +kernel
theorem dX10_dark_96 : decode cX10_dark 96 = .ok (.iload_n 1, 1) := by decide +kernel
theorem dX10_dark_97 : decode cX10_dark 97 = .ok (.if_icmp .ne 33, 3) := by decide +kernel
theorem dX10_dark_100 : decode cX10_dark 100 = .ok (.aload_n 0, 1) := by decide +kernel
theorem dX10_dark_101 : decode cX10_dark 101 = .ok (.getfield 7, 3) := by decide +kernel
theorem dX10_dark_104 : decode cX10_dark 104 = .ok (.iload 7, 2) := by decide +kernel
theorem dX10_dark_106 : decode cX10_dark 106 = .ok (.iconst 1, 1) := by decide +kernel
theorem dX10_dark_107 : decode cX10_dark 107 = .ok (.iadd, 1) := by decide +kernel
theorem dX10_dark_108 : decode cX10_dark 108 = .ok (.iaload, 1) := by decide +kernel
theorem dX10_dark_109 : decode cX10_dark 109 = .ok (.iload_n 2, 1) := by decide +kernel
theorem dX10_dark_110 : decode cX10_dark 110 = .ok (.if_icmp .gt 20, 3) := by decide +kernel
theorem dX10_dark_113 : decode cX10_dark 113 = .ok (.aload_n 0, 1) := by decide +kernel
theorem dX10_dark_114 : decode cX10_dark 114 = .ok (.getfield 7, 3) := by decide +kernel
theorem dX10_dark_117 : decode cX10_dark 117 = .ok (.iload 7, 2) := by decide +kernel
theorem dX10_dark_119 : decode cX10_dark 119 = .ok (.iconst 3, 1) := by decide +kernel
theorem dX10_dark_120 : decode cX10_dark 120 = .ok (.iadd, 1) := by decide +kernel
theorem dX10_dark_121 : decode cX10_dark 121 = .ok (.iaload, 1) := by decide +kernel
theorem dX10_dark_122 : decode cX10_dark 122 = .ok (.iload_n 3, 1) := by decide +kernel
theorem dX10_dark_123 : decode cX10_dark 123 = .ok (.if_icmp .gt 7, 3) := by decide +kernel
theorem dX10_dark_126 : decode cX10_dark 126 = .ok (.iconst 1, 1) := by decide +kernel
theorem dX10_dark_127 : decode cX10_dark 127 = .ok (.goto 4, 3) := by decide +kernel
theorem dX10_dark_130 : decode cX10_dark 130 = .ok (.iconst 0, 1) := by decide +kernel
theorem dX10_dark_131 : decode cX10_dark 131 = .ok (.istore 8, 2) := by decide +kernel
theorem dX10_dark_133 : decode cX10_dark 133 = .ok (.iload 8, 2) := by decide +kernel
theorem dX10_dark_135 : decode cX10_dark 135 = .ok (.ifCond .eq 34, 3) := by decide +kernel
theorem dX10_dark_138 : decode cX10_dark 138 = .ok (.iload 5, 2) := by decide +kernel
theorem dX10_dark_140 : decode cX10_dark 140 = .ok (.ifCond .lt 24, 3) := by decide +kernel
theorem dX10_dark_143 : decode cX10_dark 143 = .ok (.aload_n 0, 1) := by decide +kernel
theorem dX10_dark_144 : decode cX10_dark 144 = .ok (.getfield 7, 3) := by decide +kernel
theorem dX10_dark_147 : decode cX10_dark 147 = .ok (.iload 7, 2) := by decide +kernel
theorem dX10_dark_149 : decode cX10_dark 149 = .ok (.iconst 1, 1) := by decide +kernel
theorem dX10_dark_150 : decode cX10_dark 150 = .ok (.iadd, 1) := by decide +kernel
theorem dX10_dark_151 : decode cX10_dark 151 = .ok (.iaload, 1) := by decide +kernel
theorem dX10_dark_152 : decode cX10_dark 152 = .ok (.aload_n 0, 1) := by decide +kernel
theorem dX10_dark_153 : decode cX10_dark 153 = .ok (.getfield 7, 3) := by decide +kernel
theorem dX10_dark_156 : decode cX10_dark 156 = .ok (.iload 5, 2) := by decide +kernel
theorem dX10_dark_158 : decode cX10_dark 158 = .ok (.iconst 1, 1) := by decide +kernel
theorem dX10_dark_159 : decode cX10_dark 159 = .ok (.iadd, 1) := by decide +kernel
theorem dX10_dark_160 : decode cX10_dark 160 = .ok (.iaload, 1) := by decide +kernel
theorem dX10_dark_161 : decode cX10_dark 161 = .ok (.if_icmp .lt 8, 3) := by decide +kernel
theorem dX10_dark_164 : decode cX10_dark 164 = .ok (.iload 7, 2) := by decide +kernel
theorem dX10_dark_166 : decode cX10_dark 166 = .ok (.goto 5, 3) := by decide +kernel
theorem dX10_dark_169 : decode cX10_dark 169 = .ok (.iload 5, 2) := by decide +kernel
theorem dX10_dark_171 : decode cX10_dark 171 = .ok (.istore 5, 2) := by decide +kernel
theorem dX10_dark_173 : decode cX10_dark 173 = .ok (.iinc 6 1, 3) := by decide +kernel
theorem dX10_dark_176 : decode cX10_dark 176 = .ok (.goto (-108), 3) := by decide +kernel
theorem dX10_dark_179 : decode cX10_dark 179 = .ok (.iload 5, 2) := by decide +kernel
theorem dX10_dark_181 : decode cX10_dark 181 = .ok (.ifCond .ge 9, 3) := by decide +kernel
theorem dX10_dark_184 : decode cX10_dark 184 = .ok (.aload_n 0, 1) := by decide +kernel
theorem dX10_dark_185 : decode cX10_dark 185 = .ok (.iconst 2, 1) := by decide +kernel
theorem dX10_dark_186 : decode cX10_dark 186 = .ok (.invokevirtual 115, 3) := by decide +kernel
theorem dX10_dark_189 : decode cX10_dark 189 = .ok (.ireturn, 1) := by decide +kernel
theorem dX10_dark_190 : decode cX10_dark 190 = .ok (.aload_n 0, 1) := by decide +kernel
theorem dX10_dark_191 : decode cX10_dark 191 = .ok (.getfield 7, 3) := by decide +kernel
theorem dX10_dark_194 : decode cX10_dark 194 = .ok (.iload 5, 2) := by decide +kernel
theorem dX10_dark_196 : decode cX10_dark 196 = .ok (.iconst 2, 1) := by decide +kernel
theorem dX10_dark_197 : decode cX10_dark 197 = .ok (.iadd, 1) := by decide +kernel
theorem dX10_dark_198 : decode cX10_dark 198 = .ok (.iaload, 1) := by decide +kernel
theorem dX10_dark_199 : decode cX10_dark 199 = .ok (.istore 6, 2) := by decide +kernel
theorem dX10_dark_201 : decode cX10_dark 201 = .ok (.iconst 0, 1) := by decide +kernel
theorem dX10_dark_202 : decode cX10_dark 202 = .ok (.istore 7, 2) := by decide +kernel
theorem dX10_dark_204 : decode cX10_dark 204 = .ok (.iload 7, 2) := by decide +kernel
theorem dX10_dark_206 : decode cX10_dark 206 = .ok (.aload_n 0, 1) := by decide +kernel
theorem dX10_dark_207 : decode cX10_dark 207 = .ok (.getfield 7, 3) := by decide +kernel
theorem dX10_dark_210 : decode cX10_dark 210 = .ok (.iconst 5, 1) := by decide +kernel
theorem dX10_dark_211 : decode cX10_dark 211 = .ok (.iaload, 1) := by decide +kernel
theorem dX10_dark_212 : decode cX10_dark 212 = .ok (.if_icmp .ge 82, 3) := by decide +kernel
theorem dX10_dark_215 : decode cX10_dark 215 = .ok (.sipush 1284, 3) := by decide +kernel
theorem dX10_dark_218 : decode cX10_dark 218 = .ok (.iconst 3, 1) := by decide +kernel
theorem dX10_dark_219 : decode cX10_dark 219 = .ok (.iload 7, 2) := by decide +kernel
theorem dX10_dark_221 : decode cX10_dark 221 = .ok (.imul, 1) := by decide +kernel
theorem dX10_dark_222 : decode cX10_dark 222 = .ok (.iadd, 1) := by decide +kernel
theorem dX10_dark_223 : decode cX10_dark 223 = .ok (.istore 8, 2) := by decide +kernel
theorem dX10_dark_225 : decode cX10_dark 225 = .ok (.iload 6, 2) := by decide +kernel
theorem dX10_dark_227 : decode cX10_dark 227 = .ok (.aload_n 0, 1) := by decide +kernel
theorem dX10_dark_228 : decode cX10_dark 228 = .ok (.getfield 7, 3) := by decide +kernel
theorem dX10_dark_231 : decode cX10_dark 231 = .ok (.iload 8, 2) := by decide +kernel
theorem dX10_dark_233 : decode cX10_dark 233 = .ok (.iaload, 1) := by decide +kernel
theorem dX10_dark_234 : decode cX10_dark 234 = .ok (.iload_n 1, 1) := by decide +kernel
theorem dX10_dark_235 : decode cX10_dark 235 = .ok (.if_icmp .ne 49, 3) := by decide +kernel
theorem dX10_dark_238 : decode cX10_dark 238 = .ok (.aload_n 0, 1) := by decide +kernel
theorem dX10_dark_239 : decode cX10_dark 239 = .ok (.getfield 7, 3) := by decide +kernel
theorem dX10_dark_242 : decode cX10_dark 242 = .ok (.iload 8, 2) := by decide +kernel
theorem dX10_dark_244 : decode cX10_dark 244 = .ok (.iconst 1, 1) := by decide +kernel
theorem dX10_dark_245 : decode cX10_dark 245 = .ok (.iadd, 1) := by decide +kernel
theorem dX10_dark_246 : decode cX10_dark 246 = .ok (.iaload, 1) := by decide +kernel
theorem dX10_dark_247 : decode cX10_dark 247 = .ok (.aload_n 0, 1) := by decide +kernel
theorem dX10_dark_248 : decode cX10_dark 248 = .ok (.getfield 7, 3) := by decide +kernel
theorem dX10_dark_251 : decode cX10_dark 251 = .ok (.iload 5, 2) := by decide +kernel
theorem dX10_dark_253 : decode cX10_dark 253 = .ok (.iconst 1, 1) := by decide +kernel
theorem dX10_dark_254 : decode cX10_dark 254 = .ok (.iadd, 1) := by decide +kernel
theorem dX10_dark_255 : decode cX10_dark 255 = .ok (.iaload, 1) := by decide +kernel
theorem dX10_dark_256 : decode cX10_dark 256 = .ok (.if_icmp .lt 28, 3) := by decide +kernel
theorem dX10_dark_259 : decode cX10_dark 259 = .ok (.aload_n 0, 1) := by decide +kernel
theorem dX10_dark_260 : decode cX10_dark 260 = .ok (.getfield 7, 3) := by decide +kernel
theorem dX10_dark_263 : decode cX10_dark 263 = .ok (.iload 8, 2) := by decide +kernel
theorem dX10_dark_265 : decode cX10_dark 265 = .ok (.iconst 1, 1) := by decide +kernel
theorem dX10_dark_266 : decode cX10_dark 266 = .ok (.iadd, 1) := by decide +kernel
theorem dX10_dark_267 : decode cX10_dark 267 = .ok (.iaload, 1) := by decide +kernel
theorem dX10_dark_268 : decode cX10_dark 268 = .ok (.iload_n 2, 1) := by decide +kernel
theorem dX10_dark_269 : decode cX10_dark 269 = .ok (.if_icmp .ge 15, 3) := by decide +kernel
theorem dX10_dark_272 : decode cX10_dark 272 = .ok (.aload_n 0, 1) := by decide +kernel
theorem dX10_dark_273 : decode cX10_dark 273 = .ok (.getfield 7, 3) := by decide +kernel
theorem dX10_dark_276 : decode cX10_dark 276 = .ok (.iload 8, 2) := by decide +kernel
theorem dX10_dark_278 : decode cX10_dark 278 = .ok (.iconst 2, 1) := by decide +kernel
theorem dX10_dark_279 : decode cX10_dark 279 = .ok (.iadd, 1) := by decide +kernel
theorem dX10_dark_280 : decode cX10_dark 280 = .ok (.iaload, 1) := by decide +kernel
theorem dX10_dark_281 : decode cX10_dark 281 = .ok (.goto 4, 3) := by decide +kernel
theorem dX10_dark_284 : decode cX10_dark 284 = .ok (.iconst 0, 1) := by decide +kernel
theorem dX10_dark_285 : decode cX10_dark 285 = .ok (.iadd, 1) := by decide +kernel
theorem dX10_dark_286 : decode cX10_dark 286 = .ok (.istore 6, 2) := by decide +kernel
theorem dX10_dark_288 : decode cX10_dark 288 = .ok (.iinc 7 1, 3) := by decide +kernel
theorem dX10_dark_291 : decode cX10_dark 291 = .ok (.goto (-87), 3) := by decide +kernel
theorem dX10_dark_294 : decode cX10_dark 294 = .ok (.iload_n 2, 1) := by decide +kernel
theorem dX10_dark_295 : decode cX10_dark 295 = .ok (.aload_n 0, 1) := by decide +kernel
theorem dX10_dark_296 : decode cX10_dark 296 = .ok (.getfield 7, 3) := by decide +kernel
theorem dX10_dark_299 : decode cX10_dark 299 = .ok (.iload 5, 2) := by decide +kernel
theorem dX10_dark_301 : decode cX10_dark 301 = .ok (.iconst 1, 1) := by decide +kernel
theorem dX10_dark_302 : decode cX10_dark 302 = .ok (.iadd, 1) := by decide +kernel
theorem dX10_dark_303 : decode cX10_dark 303 = .ok (.iaload, 1) := by decide +kernel
theorem dX10_dark_304 : decode cX10_dark 304 = .ok (.isub, 1) := by decide +kernel
theorem dX10_dark_305 : decode cX10_dark 305 = .ok (.istore 7, 2) := by decide +kernel
theorem dX10_dark_307 : decode cX10_dark 307 = .ok (.iload 6, 2) := by decide +kernel
theorem dX10_dark_309 : decode cX10_dark 309 = .ok (.iload 7, 2) := by decide +kernel
theorem dX10_dark_311 : decode cX10_dark 311 = .ok (.iload 4, 2) := by decide +kernel
theorem dX10_dark_313 : decode cX10_dark 313 = .ok (.sipush 1000, 3) := by decide +kernel
theorem dX10_dark_316 : decode cX10_dark 316 = .ok (.idiv, 1) := by decide +kernel
theorem dX10_dark_317 : decode cX10_dark 317 = .ok (.imul, 1) := by decide +kernel
theorem dX10_dark_318 : decode cX10_dark 318 = .ok (.isub, 1) := by decide +kernel
theorem dX10_dark_319 : decode cX10_dark 319 = .ok (.ifCond .ge 7, 3) := by decide +kernel
theorem dX10_dark_322 : decode cX10_dark 322 = .ok (.iconst 2, 1) := by decide +kernel
theorem dX10_dark_323 : decode cX10_dark 323 = .ok (.goto 23, 3) := by decide +kernel
theorem dX10_dark_326 : decode cX10_dark 326 = .ok (.iload 6, 2) := by decide +kernel
theorem dX10_dark_328 : decode cX10_dark 328 = .ok (.iload 7, 2) := by decide +kernel
theorem dX10_dark_330 : decode cX10_dark 330 = .ok (.iload 4, 2) := by decide +kernel
theorem dX10_dark_332 : decode cX10_dark 332 = .ok (.sipush 1000, 3) := by decide +kernel
theorem dX10_dark_335 : decode cX10_dark 335 = .ok (.irem, 1) := by decide +kernel
theorem dX10_dark_336 : decode cX10_dark 336 = .ok (.imul, 1) := by decide +kernel
theorem dX10_dark_337 : decode cX10_dark 337 = .ok (.isub, 1) := by decide +kernel
theorem dX10_dark_338 : decode cX10_dark 338 = .ok (.ifCond .ge 7, 3) := by decide +kernel
theorem dX10_dark_341 : decode cX10_dark 341 = .ok (.iconst 1, 1) := by decide +kernel
theorem dX10_dark_342 : decode cX10_dark 342 = .ok (.goto 4, 3) := by decide +kernel
theorem dX10_dark_345 : decode cX10_dark 345 = .ok (.iconst 0, 1) := by decide +kernel
theorem dX10_dark_346 : decode cX10_dark 346 = .ok (.ireturn, 1) := by decide +kernel
theorem dX10_keeps_0 : decode cX10_keeps 0 = .ok (.iconst 0, 1) := by decide +kernel
theorem dX10_keeps_1 : decode cX10_keeps 1 = .ok (.istore_n 2, 1) := by decide +kernel
theorem dX10_keeps_2 : decode cX10_keeps 2 = .ok (.iload_n 2, 1) := by decide +kernel
theorem dX10_keeps_3 : decode cX10_keeps 3 = .ok (.sipush 1944, 3) := by decide +kernel
theorem dX10_keeps_6 : decode cX10_keeps 6 = .ok (.if_icmp .ge 18, 3) := by decide +kernel
theorem dX10_keeps_9 : decode cX10_keeps 9 = .ok (.aload_n 1, 1) := by decide +kernel
theorem dX10_keeps_10 : decode cX10_keeps 10 = .ok (.iload_n 2, 1) := by decide +kernel
theorem dX10_keeps_11 : decode cX10_keeps 11 = .ok (.aload_n 0, 1) := by decide +kernel
theorem dX10_keeps_12 : decode cX10_keeps 12 = .ok (.getfield 7, 3) := by decide +kernel
theorem dX10_keeps_15 : decode cX10_keeps 15 = .ok (.iload_n 2, 1) := by decide +kernel
theorem dX10_keeps_16 : decode cX10_keeps 16 = .ok (.iaload, 1) := by decide +kernel
theorem dX10_keeps_17 : decode cX10_keeps 17 = .ok (.iastore, 1) := by decide +kernel
theorem dX10_keeps_18 : decode cX10_keeps 18 = .ok (.iinc 2 1, 3) := by decide +kernel
theorem dX10_keeps_21 : decode cX10_keeps 21 = .ok (.goto (-19), 3) := by decide +kernel
theorem dX10_keeps_24 : decode cX10_keeps 24 = .ok (.return_, 1) := by decide +kernel
theorem dX10_takes_0 : decode cX10_takes 0 = .ok (.iconst 0, 1) := by decide +kernel
theorem dX10_takes_1 : decode cX10_takes 1 = .ok (.istore_n 2, 1) := by decide +kernel
theorem dX10_takes_2 : decode cX10_takes 2 = .ok (.iload_n 2, 1) := by decide +kernel
theorem dX10_takes_3 : decode cX10_takes 3 = .ok (.sipush 1944, 3) := by decide +kernel
theorem dX10_takes_6 : decode cX10_takes 6 = .ok (.if_icmp .ge 18, 3) := by decide +kernel
theorem dX10_takes_9 : decode cX10_takes 9 = .ok (.aload_n 0, 1) := by decide +kernel
theorem dX10_takes_10 : decode cX10_takes 10 = .ok (.getfield 7, 3) := by decide +kernel
theorem dX10_takes_13 : decode cX10_takes 13 = .ok (.iload_n 2, 1) := by decide +kernel
theorem dX10_takes_14 : decode cX10_takes 14 = .ok (.aload_n 1, 1) := by decide +kernel
theorem dX10_takes_15 : decode cX10_takes 15 = .ok (.iload_n 2, 1) := by decide +kernel
theorem dX10_takes_16 : decode cX10_takes 16 = .ok (.iaload, 1) := by decide +kernel
theorem dX10_takes_17 : decode cX10_takes 17 = .ok (.iastore, 1) := by decide +kernel
theorem dX10_takes_18 : decode cX10_takes 18 = .ok (.iinc 2 1, 3) := by decide +kernel
theorem dX10_takes_21 : decode cX10_takes 21 = .ok (.goto (-19), 3) := by decide +kernel
theorem dX10_takes_24 : decode cX10_takes 24 = .ok (.return_, 1) := by decide +kernel
theorem dX10_holds_0 : decode cX10_holds 0 = .ok (.aload_n 0, 1) := by decide +kernel
theorem dX10_holds_1 : decode cX10_holds 1 = .ok (.aload_n 0, 1) := by decide +kernel
theorem dX10_holds_2 : decode cX10_holds 2 = .ok (.getfield 16, 3) := by decide +kernel
theorem dX10_holds_5 : decode cX10_holds 5 = .ok (.invokevirtual 168, 3) := by decide +kernel
theorem dX10_holds_8 : decode cX10_holds 8 = .ok (.aload_n 0, 1) := by decide +kernel
theorem dX10_holds_9 : decode cX10_holds 9 = .ok (.iload_n 1, 1) := by decide +kernel
theorem dX10_holds_10 : decode cX10_holds 10 = .ok (.bipush 10, 2) := by decide +kernel
theorem dX10_holds_12 : decode cX10_holds 12 = .ok (.invokevirtual 48, 3) := by decide +kernel
theorem dX10_holds_15 : decode cX10_holds 15 = .ok (.istore 5, 2) := by decide +kernel
theorem dX10_holds_17 : decode cX10_holds 17 = .ok (.aload_n 0, 1) := by decide +kernel
theorem dX10_holds_18 : decode cX10_holds 18 = .ok (.iload_n 1, 1) := by decide +kernel
theorem dX10_holds_19 : decode cX10_holds 19 = .ok (.iconst 5, 1) := by decide +kernel
theorem dX10_holds_20 : decode cX10_holds 20 = .ok (.iload 4, 2) := by decide +kernel
theorem dX10_holds_22 : decode cX10_holds 22 = .ok (.invokevirtual 119, 3) := by decide +kernel
theorem dX10_holds_25 : decode cX10_holds 25 = .ok (.iconst 0, 1) := by decide +kernel
theorem dX10_holds_26 : decode cX10_holds 26 = .ok (.istore 6, 2) := by decide +kernel
theorem dX10_holds_28 : decode cX10_holds 28 = .ok (.iload 6, 2) := by decide +kernel
theorem dX10_holds_30 : decode cX10_holds 30 = .ok (.bipush 24, 2) := by decide +kernel
theorem dX10_holds_32 : decode cX10_holds 32 = .ok (.iload_n 3, 1) := by decide +kernel
theorem dX10_holds_33 : decode cX10_holds 33 = .ok (.imul, 1) := by decide +kernel
theorem dX10_holds_34 : decode cX10_holds 34 = .ok (.if_icmp .ge 97, 3) := by decide +kernel
theorem dX10_holds_37 : decode cX10_holds 37 = .ok (.iload 6, 2) := by decide +kernel
theorem dX10_holds_39 : decode cX10_holds 39 = .ok (.bipush 24, 2) := by decide +kernel
theorem dX10_holds_41 : decode cX10_holds 41 = .ok (.irem, 1) := by decide +kernel
theorem dX10_holds_42 : decode cX10_holds 42 = .ok (.ifCond .ne 35, 3) := by decide +kernel
theorem dX10_holds_45 : decode cX10_holds 45 = .ok (.iload 6, 2) := by decide +kernel
theorem dX10_holds_47 : decode cX10_holds 47 = .ok (.bipush 24, 2) := by decide +kernel
theorem dX10_holds_49 : decode cX10_holds 49 = .ok (.idiv, 1) := by decide +kernel
theorem dX10_holds_50 : decode cX10_holds 50 = .ok (.aload_n 0, 1) := by decide +kernel
theorem dX10_holds_51 : decode cX10_holds 51 = .ok (.getfield 34, 3) := by decide +kernel
theorem dX10_holds_54 : decode cX10_holds 54 = .ok (.iload_n 2, 1) := by decide +kernel
theorem dX10_holds_55 : decode cX10_holds 55 = .ok (.iaload, 1) := by decide +kernel
theorem dX10_holds_56 : decode cX10_holds 56 = .ok (.if_icmp .ge 21, 3) := by decide +kernel
theorem dX10_holds_59 : decode cX10_holds 59 = .ok (.aload_n 0, 1) := by decide +kernel
theorem dX10_holds_60 : decode cX10_holds 60 = .ok (.getfield 37, 3) := by decide +kernel
