theorem dX9_moveIn_50 : decode cX9_moveIn 50 = .ok (.iconst 0, 1) := by decide +kernel
theorem dX9_moveIn_51 : decode cX9_moveIn 51 = .ok (.putfield 111, 3) := by decide +kernel
theorem dX9_moveIn_54 : decode cX9_moveIn 54 = .ok (.iload_n 3, 1) := by decide +kernel
theorem dX9_moveIn_55 : decode cX9_moveIn 55 = .ok (.ireturn, 1) := by decide +kernel
theorem dX9_force_0 : decode cX9_force 0 = .ok (.aload_n 0, 1) := by decide +kernel
theorem dX9_force_1 : decode cX9_force 1 = .ok (.getfield 10, 3) := by decide +kernel
theorem dX9_force_4 : decode cX9_force 4 = .ok (.iload_n 1, 1) := by decide +kernel
theorem dX9_force_5 : decode cX9_force 5 = .ok (.invokevirtual 73, 3) := by decide +kernel
theorem dX9_force_8 : decode cX9_force 8 = .ok (.ifCond .ne 9, 3) := by decide +kernel
theorem dX9_force_11 : decode cX9_force 11 = .ok (.aload_n 0, 1) := by decide +kernel
theorem dX9_force_12 : decode cX9_force 12 = .ok (.iconst 1, 1) := by decide +kernel
theorem dX9_force_13 : decode cX9_force 13 = .ok (.invokevirtual 61, 3) := by decide +kernel
theorem dX9_force_16 : decode cX9_force 16 = .ok (.ireturn, 1) := by decide +kernel
theorem dX9_force_17 : decode cX9_force 17 = .ok (.aload_n 0, 1) := by decide +kernel
theorem dX9_force_18 : decode cX9_force 18 = .ok (.getfield 10, 3) := by decide +kernel
theorem dX9_force_21 : decode cX9_force 21 = .ok (.getfield 76, 3) := by decide +kernel
theorem dX9_force_24 : decode cX9_force 24 = .ok (.iload_n 1, 1) := by decide +kernel
theorem dX9_force_25 : decode cX9_force 25 = .ok (.aaload, 1) := by decide +kernel
theorem dX9_force_26 : decode cX9_force 26 = .ok (.astore_n 2, 1) := by decide +kernel
theorem dX9_force_27 : decode cX9_force 27 = .ok (.aload_n 2, 1) := by decide +kernel
theorem dX9_force_28 : decode cX9_force 28 = .ok (.getfield 86, 3) := by decide +kernel
theorem dX9_force_31 : decode cX9_force 31 = .ok (.iconst 1, 1) := by decide +kernel
theorem dX9_force_32 : decode cX9_force 32 = .ok (.if_icmp .eq 9, 3) := by decide +kernel
theorem dX9_force_35 : decode cX9_force 35 = .ok (.aload_n 0, 1) := by decide +kernel
theorem dX9_force_36 : decode cX9_force 36 = .ok (.iconst 5, 1) := by decide +kernel
theorem dX9_force_37 : decode cX9_force 37 = .ok (.invokevirtual 61, 3) := by decide +kernel
theorem dX9_force_40 : decode cX9_force 40 = .ok (.ireturn, 1) := by decide +kernel
theorem dX9_force_41 : decode cX9_force 41 = .ok (.aload_n 0, 1) := by decide +kernel
theorem dX9_force_42 : decode cX9_force 42 = .ok (.getfield 10, 3) := by decide +kernel
theorem dX9_force_45 : decode cX9_force 45 = .ok (.getfield 114, 3) := by decide +kernel
theorem dX9_force_48 : decode cX9_force 48 = .ok (.aload_n 2, 1) := by decide +kernel
theorem dX9_force_49 : decode cX9_force 49 = .ok (.aload_n 0, 1) := by decide +kernel
theorem dX9_force_50 : decode cX9_force 50 = .ok (.getfield 10, 3) := by decide +kernel
theorem dX9_force_53 : decode cX9_force 53 = .ok (.getfield 118, 3) := by decide +kernel
theorem dX9_force_56 : decode cX9_force 56 = .ok (.invokevirtual 151, 3) := by decide +kernel
theorem dX9_force_59 : decode cX9_force 59 = .ok (.ifCond .ne 9, 3) := by decide +kernel
theorem dX9_force_62 : decode cX9_force 62 = .ok (.aload_n 0, 1) := by decide +kernel
theorem dX9_force_63 : decode cX9_force 63 = .ok (.iconst 3, 1) := by decide +kernel
theorem dX9_force_64 : decode cX9_force 64 = .ok (.invokevirtual 61, 3) := by decide +kernel
theorem dX9_force_67 : decode cX9_force 67 = .ok (.ireturn, 1) := by decide +kernel
theorem dX9_force_68 : decode cX9_force 68 = .ok (.aload_n 2, 1) := by decide +kernel
theorem dX9_force_69 : decode cX9_force 69 = .ok (.iconst 3, 1) := by decide +kernel
theorem dX9_force_70 : decode cX9_force 70 = .ok (.putfield 86, 3) := by decide +kernel
theorem dX9_force_73 : decode cX9_force 73 = .ok (.aload_n 2, 1) := by decide +kernel
theorem dX9_force_74 : decode cX9_force 74 = .ok (.iconst 0, 1) := by decide +kernel
theorem dX9_force_75 : decode cX9_force 75 = .ok (.putfield 99, 3) := by decide +kernel
theorem dX9_force_78 : decode cX9_force 78 = .ok (.iconst 1, 1) := by decide +kernel
theorem dX9_force_79 : decode cX9_force 79 = .ok (.ireturn, 1) := by decide +kernel
theorem dX9_press_0 : decode cX9_press 0 = .ok (.aload_n 0, 1) := by decide +kernel
theorem dX9_press_1 : decode cX9_press 1 = .ok (.getfield 10, 3) := by decide +kernel
theorem dX9_press_4 : decode cX9_press 4 = .ok (.iload_n 1, 1) := by decide +kernel
theorem dX9_press_5 : decode cX9_press 5 = .ok (.invokevirtual 73, 3) := by decide +kernel
theorem dX9_press_8 : decode cX9_press 8 = .ok (.ifCond .ne 9, 3) := by decide +kernel
theorem dX9_press_11 : decode cX9_press 11 = .ok (.aload_n 0, 1) := by decide +kernel
theorem dX9_press_12 : decode cX9_press 12 = .ok (.iconst 1, 1) := by decide +kernel
theorem dX9_press_13 : decode cX9_press 13 = .ok (.invokevirtual 61, 3) := by decide +kernel
theorem dX9_press_16 : decode cX9_press 16 = .ok (.ireturn, 1) := by decide +kernel
theorem dX9_press_17 : decode cX9_press 17 = .ok (.aload_n 0, 1) := by decide +kernel
theorem dX9_press_18 : decode cX9_press 18 = .ok (.getfield 10, 3) := by decide +kernel
theorem dX9_press_21 : decode cX9_press 21 = .ok (.getfield 76, 3) := by decide +kernel
theorem dX9_press_24 : decode cX9_press 24 = .ok (.iload_n 1, 1) := by decide +kernel
theorem dX9_press_25 : decode cX9_press 25 = .ok (.aaload, 1) := by decide +kernel
theorem dX9_press_26 : decode cX9_press 26 = .ok (.astore_n 2, 1) := by decide +kernel
theorem dX9_press_27 : decode cX9_press 27 = .ok (.aload_n 2, 1) := by decide +kernel
theorem dX9_press_28 : decode cX9_press 28 = .ok (.getfield 86, 3) := by decide +kernel
theorem dX9_press_31 : decode cX9_press 31 = .ok (.iconst 3, 1) := by decide +kernel
theorem dX9_press_32 : decode cX9_press 32 = .ok (.if_icmp .ne 9, 3) := by decide +kernel
theorem dX9_press_35 : decode cX9_press 35 = .ok (.aload_n 0, 1) := by decide +kernel
theorem dX9_press_36 : decode cX9_press 36 = .ok (.iconst 5, 1) := by decide +kernel
theorem dX9_press_37 : decode cX9_press 37 = .ok (.invokevirtual 61, 3) := by decide +kernel
theorem dX9_press_40 : decode cX9_press 40 = .ok (.ireturn, 1) := by decide +kernel
theorem dX9_press_41 : decode cX9_press 41 = .ok (.aload_n 2, 1) := by decide +kernel
theorem dX9_press_42 : decode cX9_press 42 = .ok (.getfield 99, 3) := by decide +kernel
theorem dX9_press_45 : decode cX9_press 45 = .ok (.ifCond .ne 12, 3) := by decide +kernel
theorem dX9_press_48 : decode cX9_press 48 = .ok (.aload_n 2, 1) := by decide +kernel
theorem dX9_press_49 : decode cX9_press 49 = .ok (.getfield 83, 3) := by decide +kernel
theorem dX9_press_52 : decode cX9_press 52 = .ok (.bipush 100, 2) := by decide +kernel
theorem dX9_press_54 : decode cX9_press 54 = .ok (.if_icmp .le 9, 3) := by decide +kernel
theorem dX9_press_57 : decode cX9_press 57 = .ok (.aload_n 0, 1) := by decide +kernel
theorem dX9_press_58 : decode cX9_press 58 = .ok (.iconst 3, 1) := by decide +kernel
theorem dX9_press_59 : decode cX9_press 59 = .ok (.invokevirtual 61, 3) := by decide +kernel
theorem dX9_press_62 : decode cX9_press 62 = .ok (.ireturn, 1) := by decide +kernel
theorem dX9_press_63 : decode cX9_press 63 = .ok (.aload_n 2, 1) := by decide +kernel
theorem dX9_press_64 : decode cX9_press 64 = .ok (.iconst 1, 1) := by decide +kernel
theorem dX9_press_65 : decode cX9_press 65 = .ok (.putfield 99, 3) := by decide +kernel
theorem dX9_press_68 : decode cX9_press 68 = .ok (.aload_n 2, 1) := by decide +kernel
theorem dX9_press_69 : decode cX9_press 69 = .ok (.invokevirtual 155, 3) := by decide +kernel
theorem dX9_press_72 : decode cX9_press 72 = .ok (.aload_n 2, 1) := by decide +kernel
theorem dX9_press_73 : decode cX9_press 73 = .ok (.invokevirtual 129, 3) := by decide +kernel
theorem dX9_press_76 : decode cX9_press 76 = .ok (.ireturn, 1) := by decide +kernel
theorem dX9_shop_0 : decode cX9_shop 0 = .ok (.iload_n 1, 1) := by decide +kernel
theorem dX9_shop_1 : decode cX9_shop 1 = .ok (.invokestatic 58, 3) := by decide +kernel
theorem dX9_shop_4 : decode cX9_shop 4 = .ok (.ifCond .eq 10, 3) := by decide +kernel
theorem dX9_shop_7 : decode cX9_shop 7 = .ok (.iload_n 2, 1) := by decide +kernel
theorem dX9_shop_8 : decode cX9_shop 8 = .ok (.invokestatic 158, 3) := by decide +kernel
theorem dX9_shop_11 : decode cX9_shop 11 = .ok (.ifCond .ne 9, 3) := by decide +kernel
theorem dX9_shop_14 : decode cX9_shop 14 = .ok (.aload_n 0, 1) := by decide +kernel
theorem dX9_shop_15 : decode cX9_shop 15 = .ok (.iconst 1, 1) := by decide +kernel
theorem dX9_shop_16 : decode cX9_shop 16 = .ok (.invokevirtual 61, 3) := by decide +kernel
theorem dX9_shop_19 : decode cX9_shop 19 = .ok (.ireturn, 1) := by decide +kernel
theorem dX9_shop_20 : decode cX9_shop 20 = .ok (.aload_n 0, 1) := by decide +kernel
theorem dX9_shop_21 : decode cX9_shop 21 = .ok (.getfield 10, 3) := by decide +kernel
theorem dX9_shop_24 : decode cX9_shop 24 = .ok (.getfield 161, 3) := by decide +kernel
theorem dX9_shop_27 : decode cX9_shop 27 = .ok (.getfield 165, 3) := by decide +kernel
theorem dX9_shop_30 : decode cX9_shop 30 = .ok (.bipush 8, 2) := by decide +kernel
theorem dX9_shop_32 : decode cX9_shop 32 = .ok (.if_icmp .lt 9, 3) := by decide +kernel
theorem dX9_shop_35 : decode cX9_shop 35 = .ok (.aload_n 0, 1) := by decide +kernel
theorem dX9_shop_36 : decode cX9_shop 36 = .ok (.iconst 4, 1) := by decide +kernel
theorem dX9_shop_37 : decode cX9_shop 37 = .ok (.invokevirtual 61, 3) := by decide +kernel
theorem dX9_shop_40 : decode cX9_shop 40 = .ok (.ireturn, 1) := by decide +kernel
theorem dX9_shop_41 : decode cX9_shop 41 = .ok (.aload_n 0, 1) := by decide +kernel
theorem dX9_shop_42 : decode cX9_shop 42 = .ok (.getfield 10, 3) := by decide +kernel
theorem dX9_shop_45 : decode cX9_shop 45 = .ok (.getfield 161, 3) := by decide +kernel
theorem dX9_shop_48 : decode cX9_shop 48 = .ok (.iload_n 1, 1) := by decide +kernel
theorem dX9_shop_49 : decode cX9_shop 49 = .ok (.iload_n 2, 1) := by decide +kernel
theorem dX9_shop_50 : decode cX9_shop 50 = .ok (.invokevirtual 170, 3) := by decide +kernel
theorem dX9_shop_53 : decode cX9_shop 53 = .ok (.ireturn, 1) := by decide +kernel
theorem dX9_nearest_0 : decode cX9_nearest 0 = .ok (.aload_n 0, 1) := by decide +kernel
theorem dX9_nearest_1 : decode cX9_nearest 1 = .ok (.getfield 10, 3) := by decide +kernel
theorem dX9_nearest_4 : decode cX9_nearest 4 = .ok (.iload_n 1, 1) := by decide +kernel
theorem dX9_nearest_5 : decode cX9_nearest 5 = .ok (.invokevirtual 73, 3) := by decide +kernel
theorem dX9_nearest_8 : decode cX9_nearest 8 = .ok (.ifCond .eq 10, 3) := by decide +kernel
theorem dX9_nearest_11 : decode cX9_nearest 11 = .ok (.iload_n 2, 1) := by decide +kernel
theorem dX9_nearest_12 : decode cX9_nearest 12 = .ok (.invokestatic 133, 3) := by decide +kernel
theorem dX9_nearest_15 : decode cX9_nearest 15 = .ok (.ifCond .ne 9, 3) := by decide +kernel
theorem dX9_nearest_18 : decode cX9_nearest 18 = .ok (.aload_n 0, 1) := by decide +kernel
theorem dX9_nearest_19 : decode cX9_nearest 19 = .ok (.iconst 1, 1) := by decide +kernel
theorem dX9_nearest_20 : decode cX9_nearest 20 = .ok (.invokevirtual 61, 3) := by decide +kernel
theorem dX9_nearest_23 : decode cX9_nearest 23 = .ok (.ireturn, 1) := by decide +kernel
theorem dX9_nearest_24 : decode cX9_nearest 24 = .ok (.aload_n 0, 1) := by decide +kernel
theorem dX9_nearest_25 : decode cX9_nearest 25 = .ok (.getfield 10, 3) := by decide +kernel
theorem dX9_nearest_28 : decode cX9_nearest 28 = .ok (.getfield 161, 3) := by decide +kernel
theorem dX9_nearest_31 : decode cX9_nearest 31 = .ok (.aload_n 0, 1) := by decide +kernel
theorem dX9_nearest_32 : decode cX9_nearest 32 = .ok (.getfield 10, 3) := by decide +kernel
theorem dX9_nearest_35 : decode cX9_nearest 35 = .ok (.getfield 76, 3) := by decide +kernel
theorem dX9_nearest_38 : decode cX9_nearest 38 = .ok (.iload_n 1, 1) := by decide +kernel
theorem dX9_nearest_39 : decode cX9_nearest 39 = .ok (.aaload, 1) := by decide +kernel
theorem dX9_nearest_40 : decode cX9_nearest 40 = .ok (.iload_n 2, 1) := by decide +kernel
theorem dX9_nearest_41 : decode cX9_nearest 41 = .ok (.invokevirtual 173, 3) := by decide +kernel
theorem dX9_nearest_44 : decode cX9_nearest 44 = .ok (.istore_n 3, 1) := by decide +kernel
theorem dX9_nearest_45 : decode cX9_nearest 45 = .ok (.iload_n 3, 1) := by decide +kernel
theorem dX9_nearest_46 : decode cX9_nearest 46 = .ok (.ifCond .ge 11, 3) := by decide +kernel
theorem dX9_nearest_49 : decode cX9_nearest 49 = .ok (.aload_n 0, 1) := by decide +kernel
theorem dX9_nearest_50 : decode cX9_nearest 50 = .ok (.iconst 2, 1) := by decide +kernel
theorem dX9_nearest_51 : decode cX9_nearest 51 = .ok (.invokevirtual 61, 3) := by decide +kernel
theorem dX9_nearest_54 : decode cX9_nearest 54 = .ok (.goto 4, 3) := by decide +kernel
theorem dX9_nearest_57 : decode cX9_nearest 57 = .ok (.iload_n 3, 1) := by decide +kernel
theorem dX9_nearest_58 : decode cX9_nearest 58 = .ok (.ireturn, 1) := by decide +kernel
theorem dX9_top_0 : decode cX9_top 0 = .ok (.aload_n 0, 1) := by decide +kernel
theorem dX9_top_1 : decode cX9_top 1 = .ok (.getfield 10, 3) := by decide +kernel
theorem dX9_top_4 : decode cX9_top 4 = .ok (.iload_n 1, 1) := by decide +kernel
theorem dX9_top_5 : decode cX9_top 5 = .ok (.invokevirtual 73, 3) := by decide +kernel
theorem dX9_top_8 : decode cX9_top 8 = .ok (.ifCond .eq 29, 3) := by decide +kernel
theorem dX9_top_11 : decode cX9_top 11 = .ok (.iload_n 2, 1) := by decide +kernel
theorem dX9_top_12 : decode cX9_top 12 = .ok (.iconst (-1), 1) := by decide +kernel
theorem dX9_top_13 : decode cX9_top 13 = .ok (.if_icmp .eq 17, 3) := by decide +kernel
theorem dX9_top_16 : decode cX9_top 16 = .ok (.aload_n 0, 1) := by decide +kernel
theorem dX9_top_17 : decode cX9_top 17 = .ok (.getfield 10, 3) := by decide +kernel
theorem dX9_top_20 : decode cX9_top 20 = .ok (.getfield 161, 3) := by decide +kernel
theorem dX9_top_23 : decode cX9_top 23 = .ok (.iload_n 2, 1) := by decide +kernel
theorem dX9_top_24 : decode cX9_top 24 = .ok (.invokevirtual 177, 3) := by decide +kernel
theorem dX9_top_27 : decode cX9_top 27 = .ok (.ifCond .eq 10, 3) := by decide +kernel
theorem dX9_top_30 : decode cX9_top 30 = .ok (.iload_n 3, 1) := by decide +kernel
theorem dX9_top_31 : decode cX9_top 31 = .ok (.invokestatic 139, 3) := by decide +kernel
theorem dX9_top_34 : decode cX9_top 34 = .ok (.ifCond .ne 9, 3) := by decide +kernel
theorem dX9_top_37 : decode cX9_top 37 = .ok (.aload_n 0, 1) := by decide +kernel
theorem dX9_top_38 : decode cX9_top 38 = .ok (.iconst 1, 1) := by decide +kernel
theorem dX9_top_39 : decode cX9_top 39 = .ok (.invokevirtual 61, 3) := by decide +kernel
theorem dX9_top_42 : decode cX9_top 42 = .ok (.ireturn, 1) := by decide +kernel
theorem dX9_top_43 : decode cX9_top 43 = .ok (.aload_n 0, 1) := by decide +kernel
theorem dX9_top_44 : decode cX9_top 44 = .ok (.getfield 10, 3) := by decide +kernel
theorem dX9_top_47 : decode cX9_top 47 = .ok (.getfield 76, 3) := by decide +kernel
theorem dX9_top_50 : decode cX9_top 50 = .ok (.iload_n 1, 1) := by decide +kernel
theorem dX9_top_51 : decode cX9_top 51 = .ok (.aaload, 1) := by decide +kernel
theorem dX9_top_52 : decode cX9_top 52 = .ok (.astore 4, 2) := by decide +kernel
theorem dX9_top_54 : decode cX9_top 54 = .ok (.iload_n 2, 1) := by decide +kernel
theorem dX9_top_55 : decode cX9_top 55 = .ok (.iconst (-1), 1) := by decide +kernel
theorem dX9_top_56 : decode cX9_top 56 = .ok (.if_icmp .ne 17, 3) := by decide +kernel
theorem dX9_top_59 : decode cX9_top 59 = .ok (.aload 4, 2) := by decide +kernel
theorem dX9_top_61 : decode cX9_top 61 = .ok (.invokevirtual 180, 3) := by decide +kernel
theorem dX9_top_64 : decode cX9_top 64 = .ok (.ifCond .ne 9, 3) := by decide +kernel
theorem dX9_top_67 : decode cX9_top 67 = .ok (.aload_n 0, 1) := by decide +kernel
theorem dX9_top_68 : decode cX9_top 68 = .ok (.iconst 5, 1) := by decide +kernel
theorem dX9_top_69 : decode cX9_top 69 = .ok (.invokevirtual 61, 3) := by decide +kernel
theorem dX9_top_72 : decode cX9_top 72 = .ok (.ireturn, 1) := by decide +kernel
theorem dX9_top_73 : decode cX9_top 73 = .ok (.iload_n 2, 1) := by decide +kernel
theorem dX9_top_74 : decode cX9_top 74 = .ok (.iconst (-1), 1) := by decide +kernel
theorem dX9_top_75 : decode cX9_top 75 = .ok (.if_icmp .eq 33, 3) := by decide +kernel
theorem dX9_top_78 : decode cX9_top 78 = .ok (.aload_n 0, 1) := by decide +kernel
theorem dX9_top_79 : decode cX9_top 79 = .ok (.getfield 10, 3) := by decide +kernel
theorem dX9_top_82 : decode cX9_top 82 = .ok (.getfield 161, 3) := by decide +kernel
theorem dX9_top_85 : decode cX9_top 85 = .ok (.iload_n 2, 1) := by decide +kernel
theorem dX9_top_86 : decode cX9_top 86 = .ok (.aload_n 0, 1) := by decide +kernel
theorem dX9_top_87 : decode cX9_top 87 = .ok (.getfield 10, 3) := by decide +kernel
theorem dX9_top_90 : decode cX9_top 90 = .ok (.getfield 118, 3) := by decide +kernel
theorem dX9_top_93 : decode cX9_top 93 = .ok (.bipush 24, 2) := by decide +kernel
theorem dX9_top_95 : decode cX9_top 95 = .ok (.irem, 1) := by decide +kernel
theorem dX9_top_96 : decode cX9_top 96 = .ok (.invokevirtual 184, 3) := by decide +kernel
theorem dX9_top_99 : decode cX9_top 99 = .ok (.ifCond .ne 9, 3) := by decide +kernel
theorem dX9_top_102 : decode cX9_top 102 = .ok (.aload_n 0, 1) := by decide +kernel
theorem dX9_top_103 : decode cX9_top 103 = .ok (.iconst 3, 1) := by decide +kernel
theorem dX9_top_104 : decode cX9_top 104 = .ok (.invokevirtual 61, 3) := by decide +kernel
theorem dX9_top_107 : decode cX9_top 107 = .ok (.ireturn, 1) := by decide +kernel
theorem dX9_top_108 : decode cX9_top 108 = .ok (.aload_n 0, 1) := by decide +kernel
theorem dX9_top_109 : decode cX9_top 109 = .ok (.getfield 10, 3) := by decide +kernel
theorem dX9_top_112 : decode cX9_top 112 = .ok (.aload 4, 2) := by decide +kernel
theorem dX9_top_114 : decode cX9_top 114 = .ok (.aload_n 0, 1) := by decide +kernel
theorem dX9_top_115 : decode cX9_top 115 = .ok (.getfield 10, 3) := by decide +kernel
theorem dX9_top_118 : decode cX9_top 118 = .ok (.getfield 118, 3) := by decide +kernel
theorem dX9_top_121 : decode cX9_top 121 = .ok (.iload_n 3, 1) := by decide +kernel
theorem dX9_top_122 : decode cX9_top 122 = .ok (.invokevirtual 188, 3) := by decide +kernel
theorem dX9_top_125 : decode cX9_top 125 = .ok (.istore 5, 2) := by decide +kernel
theorem dX9_top_127 : decode cX9_top 127 = .ok (.aload_n 0, 1) := by decide +kernel
theorem dX9_top_128 : decode cX9_top 128 = .ok (.getfield 10, 3) := by decide +kernel
theorem dX9_top_131 : decode cX9_top 131 = .ok (.getfield 192, 3) := by decide +kernel
theorem dX9_top_134 : decode cX9_top 134 = .ok (.iload_n 1, 1) := by decide +kernel
theorem dX9_top_135 : decode cX9_top 135 = .ok (.aload_n 0, 1) := by decide +kernel
theorem dX9_top_136 : decode cX9_top 136 = .ok (.getfield 10, 3) := by decide +kernel
theorem dX9_top_139 : decode cX9_top 139 = .ok (.getfield 118, 3) := by decide +kernel
theorem dX9_top_142 : decode cX9_top 142 = .ok (.iload_n 3, 1) := by decide +kernel
theorem dX9_top_143 : decode cX9_top 143 = .ok (.iload 5, 2) := by decide +kernel
theorem dX9_top_145 : decode cX9_top 145 = .ok (.invokevirtual 196, 3) := by decide +kernel
theorem dX9_top_148 : decode cX9_top 148 = .ok (.iload 5, 2) := by decide +kernel
theorem dX9_top_150 : decode cX9_top 150 = .ok (.ireturn, 1) := by decide +kernel
theorem dX9_feed_0 : decode cX9_feed 0 = .ok (.iload_n 3, 1) := by decide +kernel
theorem dX9_feed_1 : decode cX9_feed 1 = .ok (.iconst 1, 1) := by decide +kernel
theorem dX9_feed_2 : decode cX9_feed 2 = .ok (.if_icmp .lt 9, 3) := by decide +kernel
theorem dX9_feed_5 : decode cX9_feed 5 = .ok (.iload_n 3, 1) := by decide +kernel
theorem dX9_feed_6 : decode cX9_feed 6 = .ok (.bipush 8, 2) := by decide +kernel
theorem dX9_feed_8 : decode cX9_feed 8 = .ok (.if_icmp .le 9, 3) := by decide +kernel
theorem dX9_feed_11 : decode cX9_feed 11 = .ok (.aload_n 0, 1) := by decide +kernel
theorem dX9_feed_12 : decode cX9_feed 12 = .ok (.iconst 1, 1) := by decide +kernel
theorem dX9_feed_13 : decode cX9_feed 13 = .ok (.invokevirtual 61, 3) := by decide +kernel
theorem dX9_feed_16 : decode cX9_feed 16 = .ok (.ireturn, 1) := by decide +kernel
theorem dX9_feed_17 : decode cX9_feed 17 = .ok (.aload_n 0, 1) := by decide +kernel
theorem dX9_feed_18 : decode cX9_feed 18 = .ok (.getfield 10, 3) := by decide +kernel
theorem dX9_feed_21 : decode cX9_feed 21 = .ok (.getfield 201, 3) := by decide +kernel
theorem dX9_feed_24 : decode cX9_feed 24 = .ok (.iload_n 3, 1) := by decide +kernel
theorem dX9_feed_25 : decode cX9_feed 25 = .ok (.iadd, 1) := by decide +kernel
theorem dX9_feed_26 : decode cX9_feed 26 = .ok (.bipush 60, 2) := by decide +kernel
theorem dX9_feed_28 : decode cX9_feed 28 = .ok (.if_icmp .le 9, 3) := by decide +kernel
theorem dX9_feed_31 : decode cX9_feed 31 = .ok (.aload_n 0, 1) := by decide +kernel
theorem dX9_feed_32 : decode cX9_feed 32 = .ok (.iconst 4, 1) := by decide +kernel
theorem dX9_feed_33 : decode cX9_feed 33 = .ok (.invokevirtual 61, 3) := by decide +kernel
theorem dX9_feed_36 : decode cX9_feed 36 = .ok (.ireturn, 1) := by decide +kernel
theorem dX9_feed_37 : decode cX9_feed 37 = .ok (.iconst 0, 1) := by decide +kernel
theorem dX9_feed_38 : decode cX9_feed 38 = .ok (.istore 4, 2) := by decide +kernel
theorem dX9_feed_40 : decode cX9_feed 40 = .ok (.iload 4, 2) := by decide +kernel
theorem dX9_feed_42 : decode cX9_feed 42 = .ok (.iload_n 3, 1) := by decide +kernel
theorem dX9_feed_43 : decode cX9_feed 43 = .ok (.if_icmp .ge 36, 3) := by decide +kernel
theorem dX9_feed_46 : decode cX9_feed 46 = .ok (.aload_n 0, 1) := by decide +kernel
theorem dX9_feed_47 : decode cX9_feed 47 = .ok (.getfield 10, 3) := by decide +kernel
theorem dX9_feed_50 : decode cX9_feed 50 = .ok (.getfield 204, 3) := by decide +kernel
theorem dX9_feed_53 : decode cX9_feed 53 = .ok (.aload_n 0, 1) := by decide +kernel
theorem dX9_feed_54 : decode cX9_feed 54 = .ok (.getfield 10, 3) := by decide +kernel
theorem dX9_feed_57 : decode cX9_feed 57 = .ok (.getfield 201, 3) := by decide +kernel
theorem dX9_feed_60 : decode cX9_feed 60 = .ok (.iload 4, 2) := by decide +kernel
theorem dX9_feed_62 : decode cX9_feed 62 = .ok (.iadd, 1) := by decide +kernel
theorem dX9_feed_63 : decode cX9_feed 63 = .ok (.lload_n 1, 1) := by decide +kernel
theorem dX9_feed_64 : decode cX9_feed 64 = .ok (.bipush 8, 2) := by decide +kernel
theorem dX9_feed_66 : decode cX9_feed 66 = .ok (.iload 4, 2) := by decide +kernel
theorem dX9_feed_68 : decode cX9_feed 68 = .ok (.imul, 1) := by decide +kernel
theorem dX9_feed_69 : decode cX9_feed 69 = .ok (.lshr, 1) := by decide +kernel
theorem dX9_feed_70 : decode cX9_feed 70 = .ok (.l2i, 1) := by decide +kernel
theorem dX9_feed_71 : decode cX9_feed 71 = .ok (.i2b, 1) := by decide +kernel
theorem dX9_feed_72 : decode cX9_feed 72 = .ok (.bastore, 1) := by decide +kernel
theorem dX9_feed_73 : decode cX9_feed 73 = .ok (.iinc 4 1, 3) := by decide +kernel
theorem dX9_feed_76 : decode cX9_feed 76 = .ok (.goto (-36), 3) := by decide +kernel
theorem dX9_feed_79 : decode cX9_feed 79 = .ok (.aload_n 0, 1) := by decide +kernel
theorem dX9_feed_80 : decode cX9_feed 80 = .ok (.getfield 10, 3) := by decide +kernel
theorem dX9_feed_83 : decode cX9_feed 83 = .ok (.dup, 1) := by decide +kernel
theorem dX9_feed_84 : decode cX9_feed 84 = .ok (.getfield 201, 3) := by decide +kernel
theorem dX9_feed_87 : decode cX9_feed 87 = .ok (.iload_n 3, 1) := by decide +kernel
theorem dX9_feed_88 : decode cX9_feed 88 = .ok (.iadd, 1) := by decide +kernel
theorem dX9_feed_89 : decode cX9_feed 89 = .ok (.putfield 201, 3) := by decide +kernel
theorem dX9_feed_92 : decode cX9_feed 92 = .ok (.aload_n 0, 1) := by decide +kernel
theorem dX9_feed_93 : decode cX9_feed 93 = .ok (.getfield 10, 3) := by decide +kernel
theorem dX9_feed_96 : decode cX9_feed 96 = .ok (.getfield 201, 3) := by decide +kernel
theorem dX9_feed_99 : decode cX9_feed 99 = .ok (.ireturn, 1) := by decide +kernel
theorem dX9_law_0 : decode cX9_law 0 = .ok (.iload_n 1, 1) := by decide +kernel
theorem dX9_law_1 : decode cX9_law 1 = .ok (.invokestatic 208, 3) := by decide +kernel
theorem dX9_law_4 : decode cX9_law 4 = .ok (.ifCond .eq 10, 3) := by decide +kernel
theorem dX9_law_7 : decode cX9_law 7 = .ok (.iload_n 2, 1) := by decide +kernel
theorem dX9_law_8 : decode cX9_law 8 = .ok (.invokestatic 211, 3) := by decide +kernel
theorem dX9_law_11 : decode cX9_law 11 = .ok (.ifCond .ne 9, 3) := by decide +kernel
theorem dX9_law_14 : decode cX9_law 14 = .ok (.aload_n 0, 1) := by decide +kernel
theorem dX9_law_15 : decode cX9_law 15 = .ok (.iconst 1, 1) := by decide +kernel
theorem dX9_law_16 : decode cX9_law 16 = .ok (.invokevirtual 61, 3) := by decide +kernel
theorem dX9_law_19 : decode cX9_law 19 = .ok (.ireturn, 1) := by decide +kernel
theorem dX9_law_20 : decode cX9_law 20 = .ok (.aload_n 0, 1) := by decide +kernel
theorem dX9_law_21 : decode cX9_law 21 = .ok (.getfield 10, 3) := by decide +kernel
theorem dX9_law_24 : decode cX9_law 24 = .ok (.getfield 114, 3) := by decide +kernel
theorem dX9_law_27 : decode cX9_law 27 = .ok (.getfield 214, 3) := by decide +kernel
theorem dX9_law_30 : decode cX9_law 30 = .ok (.bipush 12, 2) := by decide +kernel
theorem dX9_law_32 : decode cX9_law 32 = .ok (.if_icmp .lt 9, 3) := by decide +kernel
theorem dX9_law_35 : decode cX9_law 35 = .ok (.aload_n 0, 1) := by decide +kernel
theorem dX9_law_36 : decode cX9_law 36 = .ok (.iconst 4, 1) := by decide +kernel
theorem dX9_law_37 : decode cX9_law 37 = .ok (.invokevirtual 61, 3) := by decide +kernel
theorem dX9_law_40 : decode cX9_law 40 = .ok (.ireturn, 1) := by decide +kernel
theorem dX9_law_41 : decode cX9_law 41 = .ok (.aload_n 0, 1) := by decide +kernel
theorem dX9_law_42 : decode cX9_law 42 = .ok (.getfield 29, 3) := by decide +kernel
theorem dX9_law_45 : decode cX9_law 45 = .ok (.aload_n 0, 1) := by decide +kernel
theorem dX9_law_46 : decode cX9_law 46 = .ok (.getfield 10, 3) := by decide +kernel
theorem dX9_law_49 : decode cX9_law 49 = .ok (.getfield 204, 3) := by decide +kernel
theorem dX9_law_52 : decode cX9_law 52 = .ok (.aload_n 0, 1) := by decide +kernel
theorem dX9_law_53 : decode cX9_law 53 = .ok (.getfield 10, 3) := by decide +kernel
theorem dX9_law_56 : decode cX9_law 56 = .ok (.getfield 201, 3) := by decide +kernel
theorem dX9_law_59 : decode cX9_law 59 = .ok (.invokevirtual 215, 3) := by decide +kernel
theorem dX9_law_62 : decode cX9_law 62 = .ok (.istore_n 3, 1) := by decide +kernel
theorem dX9_law_63 : decode cX9_law 63 = .ok (.aload_n 0, 1) := by decide +kernel
theorem dX9_law_64 : decode cX9_law 64 = .ok (.getfield 10, 3) := by decide +kernel
theorem dX9_law_67 : decode cX9_law 67 = .ok (.iconst 0, 1) := by decide +kernel
theorem dX9_law_68 : decode cX9_law 68 = .ok (.putfield 201, 3) := by decide +kernel
theorem dX9_law_71 : decode cX9_law 71 = .ok (.iload_n 3, 1) := by decide +kernel
theorem dX9_law_72 : decode cX9_law 72 = .ok (.ifCond .lt 10, 3) := by decide +kernel
theorem dX9_law_75 : decode cX9_law 75 = .ok (.bipush (-10), 2) := by decide +kernel
theorem dX9_law_77 : decode cX9_law 77 = .ok (.iload_n 3, 1) := by decide +kernel
theorem dX9_law_78 : decode cX9_law 78 = .ok (.isub, 1) := by decide +kernel
theorem dX9_law_79 : decode cX9_law 79 = .ok (.goto 19, 3) := by decide +kernel
theorem dX9_law_82 : decode cX9_law 82 = .ok (.aload_n 0, 1) := by decide +kernel
theorem dX9_law_83 : decode cX9_law 83 = .ok (.getfield 10, 3) := by decide +kernel
theorem dX9_law_86 : decode cX9_law 86 = .ok (.getfield 114, 3) := by decide +kernel
theorem dX9_law_89 : decode cX9_law 89 = .ok (.iload_n 1, 1) := by decide +kernel
theorem dX9_law_90 : decode cX9_law 90 = .ok (.iload_n 2, 1) := by decide +kernel
theorem dX9_law_91 : decode cX9_law 91 = .ok (.aload_n 0, 1) := by decide +kernel
theorem dX9_law_92 : decode cX9_law 92 = .ok (.getfield 29, 3) := by decide +kernel
theorem dX9_law_95 : decode cX9_law 95 = .ok (.invokevirtual 219, 3) := by decide +kernel
theorem dX9_law_98 : decode cX9_law 98 = .ok (.ireturn, 1) := by decide +kernel
theorem dX9_inForce_0 : decode cX9_inForce 0 = .ok (.iload_n 1, 1) := by decide +kernel
theorem dX9_inForce_1 : decode cX9_inForce 1 = .ok (.invokestatic 208, 3) := by decide +kernel
theorem dX9_inForce_4 : decode cX9_inForce 4 = .ok (.ifCond .eq 10, 3) := by decide +kernel
theorem dX9_inForce_7 : decode cX9_inForce 7 = .ok (.iload_n 2, 1) := by decide +kernel
theorem dX9_inForce_8 : decode cX9_inForce 8 = .ok (.invokestatic 211, 3) := by decide +kernel
theorem dX9_inForce_11 : decode cX9_inForce 11 = .ok (.ifCond .ne 9, 3) := by decide +kernel
theorem dX9_inForce_14 : decode cX9_inForce 14 = .ok (.aload_n 0, 1) := by decide +kernel
theorem dX9_inForce_15 : decode cX9_inForce 15 = .ok (.iconst 1, 1) := by decide +kernel
theorem dX9_inForce_16 : decode cX9_inForce 16 = .ok (.invokevirtual 61, 3) := by decide +kernel
theorem dX9_inForce_19 : decode cX9_inForce 19 = .ok (.ireturn, 1) := by decide +kernel
theorem dX9_inForce_20 : decode cX9_inForce 20 = .ok (.aload_n 0, 1) := by decide +kernel
theorem dX9_inForce_21 : decode cX9_inForce 21 = .ok (.getfield 10, 3) := by decide +kernel
theorem dX9_inForce_24 : decode cX9_inForce 24 = .ok (.getfield 114, 3) := by decide +kernel
theorem dX9_inForce_27 : decode cX9_inForce 27 = .ok (.iload_n 1, 1) := by decide +kernel
theorem dX9_inForce_28 : decode cX9_inForce 28 = .ok (.iload_n 2, 1) := by decide +kernel
theorem dX9_inForce_29 : decode cX9_inForce 29 = .ok (.invokevirtual 121, 3) := by decide +kernel
theorem dX9_inForce_32 : decode cX9_inForce 32 = .ok (.istore_n 3, 1) := by decide +kernel
theorem dX9_inForce_33 : decode cX9_inForce 33 = .ok (.iload_n 3, 1) := by decide +kernel
theorem dX9_inForce_34 : decode cX9_inForce 34 = .ok (.ifCond .ge 11, 3) := by decide +kernel
theorem dX9_inForce_37 : decode cX9_inForce 37 = .ok (.aload_n 0, 1) := by decide +kernel
theorem dX9_inForce_38 : decode cX9_inForce 38 = .ok (.iconst 2, 1) := by decide +kernel
theorem dX9_inForce_39 : decode cX9_inForce 39 = .ok (.invokevirtual 61, 3) := by decide +kernel
theorem dX9_inForce_42 : decode cX9_inForce 42 = .ok (.goto 4, 3) := by decide +kernel
theorem dX9_inForce_45 : decode cX9_inForce 45 = .ok (.iload_n 3, 1) := by decide +kernel
theorem dX9_inForce_46 : decode cX9_inForce 46 = .ok (.ireturn, 1) := by decide +kernel
theorem dX9_says_0 : decode cX9_says 0 = .ok (.aload_n 0, 1) := by decide +kernel
theorem dX9_says_1 : decode cX9_says 1 = .ok (.getfield 10, 3) := by decide +kernel
theorem dX9_says_4 : decode cX9_says 4 = .ok (.getfield 114, 3) := by decide +kernel
theorem dX9_says_7 : decode cX9_says 7 = .ok (.iload_n 1, 1) := by decide +kernel
theorem dX9_says_8 : decode cX9_says 8 = .ok (.invokevirtual 222, 3) := by decide +kernel
theorem dX9_says_11 : decode cX9_says 11 = .ok (.ifCond .eq 14, 3) := by decide +kernel
theorem dX9_says_14 : decode cX9_says 14 = .ok (.aload_n 0, 1) := by decide +kernel
theorem dX9_says_15 : decode cX9_says 15 = .ok (.getfield 10, 3) := by decide +kernel
theorem dX9_says_18 : decode cX9_says 18 = .ok (.iload_n 2, 1) := by decide +kernel
theorem dX9_says_19 : decode cX9_says 19 = .ok (.invokevirtual 73, 3) := by decide +kernel
theorem dX9_says_22 : decode cX9_says 22 = .ok (.ifCond .ne 9, 3) := by decide +kernel
theorem dX9_says_25 : decode cX9_says 25 = .ok (.aload_n 0, 1) := by decide +kernel
theorem dX9_says_26 : decode cX9_says 26 = .ok (.iconst 1, 1) := by decide +kernel
theorem dX9_says_27 : decode cX9_says 27 = .ok (.invokevirtual 61, 3) := by decide +kernel
theorem dX9_says_30 : decode cX9_says 30 = .ok (.ireturn, 1) := by decide +kernel
theorem dX9_says_31 : decode cX9_says 31 = .ok (.aload_n 0, 1) := by decide +kernel
theorem dX9_says_32 : decode cX9_says 32 = .ok (.getfield 10, 3) := by decide +kernel
theorem dX9_says_35 : decode cX9_says 35 = .ok (.getfield 114, 3) := by decide +kernel
theorem dX9_says_38 : decode cX9_says 38 = .ok (.iload_n 1, 1) := by decide +kernel
theorem dX9_says_39 : decode cX9_says 39 = .ok (.aload_n 0, 1) := by decide +kernel
theorem dX9_says_40 : decode cX9_says 40 = .ok (.getfield 10, 3) := by decide +kernel
theorem dX9_says_43 : decode cX9_says 43 = .ok (.getfield 76, 3) := by decide +kernel
theorem dX9_says_46 : decode cX9_says 46 = .ok (.iload_n 2, 1) := by decide +kernel
theorem dX9_says_47 : decode cX9_says 47 = .ok (.aaload, 1) := by decide +kernel
theorem dX9_says_48 : decode cX9_says 48 = .ok (.aload_n 0, 1) := by decide +kernel
theorem dX9_says_49 : decode cX9_says 49 = .ok (.getfield 10, 3) := by decide +kernel
theorem dX9_says_52 : decode cX9_says 52 = .ok (.getfield 118, 3) := by decide +kernel
theorem dX9_says_55 : decode cX9_says 55 = .ok (.iload_n 3, 1) := by decide +kernel
theorem dX9_says_56 : decode cX9_says 56 = .ok (.invokevirtual 223, 3) := by decide +kernel
theorem dX9_says_59 : decode cX9_says 59 = .ok (.ireturn, 1) := by decide +kernel
theorem dX9_rate_0 : decode cX9_rate 0 = .ok (.aload_n 0, 1) := by decide +kernel
theorem dX9_rate_1 : decode cX9_rate 1 = .ok (.getfield 10, 3) := by decide +kernel
theorem dX9_rate_4 : decode cX9_rate 4 = .ok (.iload_n 1, 1) := by decide +kernel
theorem dX9_rate_5 : decode cX9_rate 5 = .ok (.invokevirtual 73, 3) := by decide +kernel
theorem dX9_rate_8 : decode cX9_rate 8 = .ok (.ifCond .ne 9, 3) := by decide +kernel
theorem dX9_rate_11 : decode cX9_rate 11 = .ok (.aload_n 0, 1) := by decide +kernel
theorem dX9_rate_12 : decode cX9_rate 12 = .ok (.iconst 1, 1) := by decide +kernel
theorem dX9_rate_13 : decode cX9_rate 13 = .ok (.invokevirtual 61, 3) := by decide +kernel
theorem dX9_rate_16 : decode cX9_rate 16 = .ok (.ireturn, 1) := by decide +kernel
theorem dX9_rate_17 : decode cX9_rate 17 = .ok (.aload_n 0, 1) := by decide +kernel
theorem dX9_rate_18 : decode cX9_rate 18 = .ok (.getfield 10, 3) := by decide +kernel
theorem dX9_rate_21 : decode cX9_rate 21 = .ok (.getfield 76, 3) := by decide +kernel
theorem dX9_rate_24 : decode cX9_rate 24 = .ok (.iload_n 1, 1) := by decide +kernel
theorem dX9_rate_25 : decode cX9_rate 25 = .ok (.aaload, 1) := by decide +kernel
theorem dX9_rate_26 : decode cX9_rate 26 = .ok (.astore_n 3, 1) := by decide +kernel
theorem dX9_rate_27 : decode cX9_rate 27 = .ok (.aload_n 0, 1) := by decide +kernel
theorem dX9_rate_28 : decode cX9_rate 28 = .ok (.getfield 10, 3) := by decide +kernel
theorem dX9_rate_31 : decode cX9_rate 31 = .ok (.getfield 114, 3) := by decide +kernel
theorem dX9_rate_34 : decode cX9_rate 34 = .ok (.iconst 0, 1) := by decide +kernel
theorem dX9_rate_35 : decode cX9_rate 35 = .ok (.aload_n 0, 1) := by decide +kernel
theorem dX9_rate_36 : decode cX9_rate 36 = .ok (.getfield 10, 3) := by decide +kernel
theorem dX9_rate_39 : decode cX9_rate 39 = .ok (.getfield 118, 3) := by decide +kernel
theorem dX9_rate_42 : decode cX9_rate 42 = .ok (.invokevirtual 121, 3) := by decide +kernel
theorem dX9_rate_45 : decode cX9_rate 45 = .ok (.istore 4, 2) := by decide +kernel
theorem dX9_rate_47 : decode cX9_rate 47 = .ok (.iload_n 2, 1) := by decide +kernel
theorem dX9_rate_48 : decode cX9_rate 48 = .ok (.tableswitch 93 0 2 #[28, 49, 74], 28) := by decide +kernel
theorem dX9_rate_76 : decode cX9_rate 76 = .ok (.aload_n 0, 1) := by decide +kernel
theorem dX9_rate_77 : decode cX9_rate 77 = .ok (.getfield 10, 3) := by decide +kernel
theorem dX9_rate_80 : decode cX9_rate 80 = .ok (.getfield 114, 3) := by decide +kernel
theorem dX9_rate_83 : decode cX9_rate 83 = .ok (.iload 4, 2) := by decide +kernel
theorem dX9_rate_85 : decode cX9_rate 85 = .ok (.aload_n 3, 1) := by decide +kernel
theorem dX9_rate_86 : decode cX9_rate 86 = .ok (.aload_n 0, 1) := by decide +kernel
theorem dX9_rate_87 : decode cX9_rate 87 = .ok (.getfield 10, 3) := by decide +kernel
theorem dX9_rate_90 : decode cX9_rate 90 = .ok (.getfield 118, 3) := by decide +kernel
theorem dX9_rate_93 : decode cX9_rate 93 = .ok (.invokevirtual 227, 3) := by decide +kernel
theorem dX9_rate_96 : decode cX9_rate 96 = .ok (.ireturn, 1) := by decide +kernel
theorem dX9_rate_97 : decode cX9_rate 97 = .ok (.aload_n 0, 1) := by decide +kernel
theorem dX9_rate_98 : decode cX9_rate 98 = .ok (.getfield 10, 3) := by decide +kernel
theorem dX9_rate_101 : decode cX9_rate 101 = .ok (.getfield 114, 3) := by decide +kernel
theorem dX9_rate_104 : decode cX9_rate 104 = .ok (.aload_n 3, 1) := by decide +kernel
theorem dX9_rate_105 : decode cX9_rate 105 = .ok (.iload 4, 2) := by decide +kernel
theorem dX9_rate_107 : decode cX9_rate 107 = .ok (.invokevirtual 126, 3) := by decide +kernel
theorem dX9_rate_110 : decode cX9_rate 110 = .ok (.aload_n 3, 1) := by decide +kernel
theorem dX9_rate_111 : decode cX9_rate 111 = .ok (.aload_n 0, 1) := by decide +kernel
theorem dX9_rate_112 : decode cX9_rate 112 = .ok (.getfield 10, 3) := by decide +kernel
theorem dX9_rate_115 : decode cX9_rate 115 = .ok (.getfield 118, 3) := by decide +kernel
theorem dX9_rate_118 : decode cX9_rate 118 = .ok (.invokevirtual 227, 3) := by decide +kernel
theorem dX9_rate_121 : decode cX9_rate 121 = .ok (.ireturn, 1) := by decide +kernel
theorem dX9_rate_122 : decode cX9_rate 122 = .ok (.aload_n 0, 1) := by decide +kernel
theorem dX9_rate_123 : decode cX9_rate 123 = .ok (.getfield 10, 3) := by decide +kernel
theorem dX9_rate_126 : decode cX9_rate 126 = .ok (.getfield 114, 3) := by decide +kernel
theorem dX9_rate_129 : decode cX9_rate 129 = .ok (.aload_n 3, 1) := by decide +kernel
theorem dX9_rate_130 : decode cX9_rate 130 = .ok (.aload_n 0, 1) := by decide +kernel
theorem dX9_rate_131 : decode cX9_rate 131 = .ok (.getfield 10, 3) := by decide +kernel
theorem dX9_rate_134 : decode cX9_rate 134 = .ok (.getfield 118, 3) := by decide +kernel
theorem dX9_rate_137 : decode cX9_rate 137 = .ok (.invokevirtual 231, 3) := by decide +kernel
theorem dX9_rate_140 : decode cX9_rate 140 = .ok (.ireturn, 1) := by decide +kernel
theorem dX9_rate_141 : decode cX9_rate 141 = .ok (.aload_n 0, 1) := by decide +kernel
theorem dX9_rate_142 : decode cX9_rate 142 = .ok (.iconst 1, 1) := by decide +kernel
theorem dX9_rate_143 : decode cX9_rate 143 = .ok (.invokevirtual 61, 3) := by decide +kernel
theorem dX9_rate_146 : decode cX9_rate 146 = .ok (.ireturn, 1) := by decide +kernel
theorem dX9_go_0 : decode cX9_go 0 = .ok (.iload_n 1, 1) := by decide +kernel
theorem dX9_go_1 : decode cX9_go 1 = .ok (.iconst 1, 1) := by decide +kernel
theorem dX9_go_2 : decode cX9_go 2 = .ok (.if_icmp .lt 25, 3) := by decide +kernel
theorem dX9_go_5 : decode cX9_go 5 = .ok (.iload_n 1, 1) := by decide +kernel
theorem dX9_go_6 : decode cX9_go 6 = .ok (.sipush 240, 3) := by decide +kernel
theorem dX9_go_9 : decode cX9_go 9 = .ok (.if_icmp .gt 18, 3) := by decide +kernel
theorem dX9_go_12 : decode cX9_go 12 = .ok (.aload_n 0, 1) := by decide +kernel
theorem dX9_go_13 : decode cX9_go 13 = .ok (.getfield 10, 3) := by decide +kernel
theorem dX9_go_16 : decode cX9_go 16 = .ok (.getfield 118, 3) := by decide +kernel
theorem dX9_go_19 : decode cX9_go 19 = .ok (.iload_n 1, 1) := by decide +kernel
theorem dX9_go_20 : decode cX9_go 20 = .ok (.iadd, 1) := by decide +kernel
theorem dX9_go_21 : decode cX9_go 21 = .ok (.sipush 9000, 3) := by decide +kernel
theorem dX9_go_24 : decode cX9_go 24 = .ok (.if_icmp .le 9, 3) := by decide +kernel
theorem dX9_go_27 : decode cX9_go 27 = .ok (.aload_n 0, 1) := by decide +kernel
theorem dX9_go_28 : decode cX9_go 28 = .ok (.iconst 1, 1) := by decide +kernel
theorem dX9_go_29 : decode cX9_go 29 = .ok (.invokevirtual 61, 3) := by decide +kernel
theorem dX9_go_32 : decode cX9_go 32 = .ok (.ireturn, 1) := by decide +kernel
theorem dX9_go_33 : decode cX9_go 33 = .ok (.iconst 0, 1) := by decide +kernel
theorem dX9_go_34 : decode cX9_go 34 = .ok (.istore_n 2, 1) := by decide +kernel
theorem dX9_go_35 : decode cX9_go 35 = .ok (.iconst 0, 1) := by decide +kernel
theorem dX9_go_36 : decode cX9_go 36 = .ok (.istore_n 3, 1) := by decide +kernel
theorem dX9_go_37 : decode cX9_go 37 = .ok (.iload_n 3, 1) := by decide +kernel
theorem dX9_go_38 : decode cX9_go 38 = .ok (.iload_n 1, 1) := by decide +kernel
theorem dX9_go_39 : decode cX9_go 39 = .ok (.if_icmp .ge 19, 3) := by decide +kernel
theorem dX9_go_42 : decode cX9_go 42 = .ok (.iload_n 2, 1) := by decide +kernel
theorem dX9_go_43 : decode cX9_go 43 = .ok (.aload_n 0, 1) := by decide +kernel
theorem dX9_go_44 : decode cX9_go 44 = .ok (.getfield 10, 3) := by decide +kernel
theorem dX9_go_47 : decode cX9_go 47 = .ok (.invokevirtual 234, 3) := by decide +kernel
theorem dX9_go_50 : decode cX9_go 50 = .ok (.iadd, 1) := by decide +kernel
theorem dX9_go_51 : decode cX9_go 51 = .ok (.istore_n 2, 1) := by decide +kernel
theorem dX9_go_52 : decode cX9_go 52 = .ok (.iinc 3 1, 3) := by decide +kernel
theorem dX9_go_55 : decode cX9_go 55 = .ok (.goto (-18), 3) := by decide +kernel
theorem dX9_go_58 : decode cX9_go 58 = .ok (.iload_n 2, 1) := by decide +kernel
theorem dX9_go_59 : decode cX9_go 59 = .ok (.ireturn, 1) := by decide +kernel
theorem dX9_read_0 : decode cX9_read 0 = .ok (.aload_n 0, 1) := by decide +kernel
theorem dX9_read_1 : decode cX9_read 1 = .ok (.getfield 10, 3) := by decide +kernel
theorem dX9_read_4 : decode cX9_read 4 = .ok (.iload_n 1, 1) := by decide +kernel
theorem dX9_read_5 : decode cX9_read 5 = .ok (.invokevirtual 73, 3) := by decide +kernel
theorem dX9_read_8 : decode cX9_read 8 = .ok (.ifCond .eq 18, 3) := by decide +kernel
theorem dX9_read_11 : decode cX9_read 11 = .ok (.iload_n 2, 1) := by decide +kernel
theorem dX9_read_12 : decode cX9_read 12 = .ok (.ifCond .lt 14, 3) := by decide +kernel
theorem dX9_read_15 : decode cX9_read 15 = .ok (.iload_n 2, 1) := by decide +kernel
theorem dX9_read_16 : decode cX9_read 16 = .ok (.aload_n 0, 1) := by decide +kernel
theorem dX9_read_17 : decode cX9_read 17 = .ok (.getfield 10, 3) := by decide +kernel
theorem dX9_read_20 : decode cX9_read 20 = .ok (.getfield 118, 3) := by decide +kernel
theorem dX9_read_23 : decode cX9_read 23 = .ok (.if_icmp .le 9, 3) := by decide +kernel
theorem dX9_read_26 : decode cX9_read 26 = .ok (.aload_n 0, 1) := by decide +kernel
theorem dX9_read_27 : decode cX9_read 27 = .ok (.iconst 1, 1) := by decide +kernel
theorem dX9_read_28 : decode cX9_read 28 = .ok (.invokevirtual 61, 3) := by decide +kernel
theorem dX9_read_31 : decode cX9_read 31 = .ok (.ireturn, 1) := by decide +kernel
theorem dX9_read_32 : decode cX9_read 32 = .ok (.iload_n 3, 1) := by decide +kernel
theorem dX9_read_33 : decode cX9_read 33 = .ok (.sipush (-9999), 3) := by decide +kernel
theorem dX9_read_36 : decode cX9_read 36 = .ok (.if_icmp .lt 10, 3) := by decide +kernel
theorem dX9_read_39 : decode cX9_read 39 = .ok (.iload_n 3, 1) := by decide +kernel
theorem dX9_read_40 : decode cX9_read 40 = .ok (.sipush 9999, 3) := by decide +kernel
theorem dX9_read_43 : decode cX9_read 43 = .ok (.if_icmp .le 9, 3) := by decide +kernel
theorem dX9_read_46 : decode cX9_read 46 = .ok (.aload_n 0, 1) := by decide +kernel
theorem dX9_read_47 : decode cX9_read 47 = .ok (.iconst 1, 1) := by decide +kernel
theorem dX9_read_48 : decode cX9_read 48 = .ok (.invokevirtual 61, 3) := by decide +kernel
theorem dX9_read_51 : decode cX9_read 51 = .ok (.ireturn, 1) := by decide +kernel
theorem dX9_read_52 : decode cX9_read 52 = .ok (.aload_n 0, 1) := by decide +kernel
theorem dX9_read_53 : decode cX9_read 53 = .ok (.getfield 10, 3) := by decide +kernel
theorem dX9_read_56 : decode cX9_read 56 = .ok (.getfield 237, 3) := by decide +kernel
theorem dX9_read_59 : decode cX9_read 59 = .ok (.getfield 241, 3) := by decide +kernel
theorem dX9_read_62 : decode cX9_read 62 = .ok (.bipush 40, 2) := by decide +kernel
theorem dX9_read_64 : decode cX9_read 64 = .ok (.if_icmp .lt 9, 3) := by decide +kernel
theorem dX9_read_67 : decode cX9_read 67 = .ok (.aload_n 0, 1) := by decide +kernel
theorem dX9_read_68 : decode cX9_read 68 = .ok (.iconst 4, 1) := by decide +kernel
theorem dX9_read_69 : decode cX9_read 69 = .ok (.invokevirtual 61, 3) := by decide +kernel
theorem dX9_read_72 : decode cX9_read 72 = .ok (.ireturn, 1) := by decide +kernel
theorem dX9_read_73 : decode cX9_read 73 = .ok (.aload_n 0, 1) := by decide +kernel
theorem dX9_read_74 : decode cX9_read 74 = .ok (.getfield 10, 3) := by decide +kernel
theorem dX9_read_77 : decode cX9_read 77 = .ok (.getfield 237, 3) := by decide +kernel
theorem dX9_read_80 : decode cX9_read 80 = .ok (.iload_n 1, 1) := by decide +kernel
theorem dX9_read_81 : decode cX9_read 81 = .ok (.iload_n 2, 1) := by decide +kernel
theorem dX9_read_82 : decode cX9_read 82 = .ok (.iload_n 3, 1) := by decide +kernel
theorem dX9_read_83 : decode cX9_read 83 = .ok (.aload_n 0, 1) := by decide +kernel
theorem dX9_read_84 : decode cX9_read 84 = .ok (.getfield 10, 3) := by decide +kernel
theorem dX9_read_87 : decode cX9_read 87 = .ok (.getfield 118, 3) := by decide +kernel
theorem dX9_read_90 : decode cX9_read 90 = .ok (.invokevirtual 244, 3) := by decide +kernel
theorem dX9_read_93 : decode cX9_read 93 = .ok (.ireturn, 1) := by decide +kernel
theorem dX9_dark_0 : decode cX9_dark 0 = .ok (.aload_n 0, 1) := by decide +kernel
theorem dX9_dark_1 : decode cX9_dark 1 = .ok (.getfield 10, 3) := by decide +kernel
theorem dX9_dark_4 : decode cX9_dark 4 = .ok (.iload_n 1, 1) := by decide +kernel
theorem dX9_dark_5 : decode cX9_dark 5 = .ok (.invokevirtual 73, 3) := by decide +kernel
theorem dX9_dark_8 : decode cX9_dark 8 = .ok (.ifCond .eq 29, 3) := by decide +kernel
theorem dX9_dark_11 : decode cX9_dark 11 = .ok (.iload_n 2, 1) := by decide +kernel
theorem dX9_dark_12 : decode cX9_dark 12 = .ok (.invokestatic 211, 3) := by decide +kernel
theorem dX9_dark_15 : decode cX9_dark 15 = .ok (.ifCond .eq 22, 3) := by decide +kernel
theorem dX9_dark_18 : decode cX9_dark 18 = .ok (.iload_n 3, 1) := by decide +kernel
theorem dX9_dark_19 : decode cX9_dark 19 = .ok (.invokestatic 211, 3) := by decide +kernel
theorem dX9_dark_22 : decode cX9_dark 22 = .ok (.ifCond .eq 15, 3) := by decide +kernel
theorem dX9_dark_25 : decode cX9_dark 25 = .ok (.iload 4, 2) := by decide +kernel
theorem dX9_dark_27 : decode cX9_dark 27 = .ok (.ifCond .lt 10, 3) := by decide +kernel
theorem dX9_dark_30 : decode cX9_dark 30 = .ok (.iload 4, 2) := by decide +kernel
theorem dX9_dark_32 : decode cX9_dark 32 = .ok (.ldc 247, 2) := by decide +kernel
theorem dX9_dark_34 : decode cX9_dark 34 = .ok (.if_icmp .le 9, 3) := by decide +kernel
theorem dX9_dark_37 : decode cX9_dark 37 = .ok (.aload_n 0, 1) := by decide +kernel
theorem dX9_dark_38 : decode cX9_dark 38 = .ok (.iconst 1, 1) := by decide +kernel
theorem dX9_dark_39 : decode cX9_dark 39 = .ok (.invokevirtual 61, 3) := by decide +kernel
theorem dX9_dark_42 : decode cX9_dark 42 = .ok (.ireturn, 1) := by decide +kernel
theorem dX9_dark_43 : decode cX9_dark 43 = .ok (.iload 4, 2) := by decide +kernel
theorem dX9_dark_45 : decode cX9_dark 45 = .ok (.sipush 1000, 3) := by decide +kernel
theorem dX9_dark_48 : decode cX9_dark 48 = .ok (.idiv, 1) := by decide +kernel
theorem dX9_dark_49 : decode cX9_dark 49 = .ok (.istore 5, 2) := by decide +kernel
theorem dX9_dark_51 : decode cX9_dark 51 = .ok (.iload 4, 2) := by decide +kernel
theorem dX9_dark_53 : decode cX9_dark 53 = .ok (.sipush 1000, 3) := by decide +kernel
theorem dX9_dark_56 : decode cX9_dark 56 = .ok (.irem, 1) := by decide +kernel
theorem dX9_dark_57 : decode cX9_dark 57 = .ok (.istore 6, 2) := by decide +kernel
theorem dX9_dark_59 : decode cX9_dark 59 = .ok (.iload 5, 2) := by decide +kernel
theorem dX9_dark_61 : decode cX9_dark 61 = .ok (.iload 6, 2) := by decide +kernel
theorem dX9_dark_63 : decode cX9_dark 63 = .ok (.if_icmp .le 9, 3) := by decide +kernel
theorem dX9_dark_66 : decode cX9_dark 66 = .ok (.aload_n 0, 1) := by decide +kernel
theorem dX9_dark_67 : decode cX9_dark 67 = .ok (.iconst 1, 1) := by decide +kernel
theorem dX9_dark_68 : decode cX9_dark 68 = .ok (.invokevirtual 61, 3) := by decide +kernel
theorem dX9_dark_71 : decode cX9_dark 71 = .ok (.ireturn, 1) := by decide +kernel
theorem dX9_dark_72 : decode cX9_dark 72 = .ok (.aload_n 0, 1) := by decide +kernel
theorem dX9_dark_73 : decode cX9_dark 73 = .ok (.getfield 10, 3) := by decide +kernel
theorem dX9_dark_76 : decode cX9_dark 76 = .ok (.getfield 237, 3) := by decide +kernel
theorem dX9_dark_79 : decode cX9_dark 79 = .ok (.iload_n 1, 1) := by decide +kernel
theorem dX9_dark_80 : decode cX9_dark 80 = .ok (.iload_n 2, 1) := by decide +kernel
theorem dX9_dark_81 : decode cX9_dark 81 = .ok (.iload_n 3, 1) := by decide +kernel
theorem dX9_dark_82 : decode cX9_dark 82 = .ok (.invokevirtual 248, 3) := by decide +kernel
theorem dX9_dark_85 : decode cX9_dark 85 = .ok (.istore 7, 2) := by decide +kernel
theorem dX9_dark_87 : decode cX9_dark 87 = .ok (.aload_n 0, 1) := by decide +kernel
theorem dX9_dark_88 : decode cX9_dark 88 = .ok (.getfield 10, 3) := by decide +kernel
theorem dX9_dark_91 : decode cX9_dark 91 = .ok (.getfield 237, 3) := by decide +kernel
theorem dX9_dark_94 : decode cX9_dark 94 = .ok (.iload 7, 2) := by decide +kernel
theorem dX9_dark_96 : decode cX9_dark 96 = .ok (.invokevirtual 252, 3) := by decide +kernel
theorem dX9_dark_99 : decode cX9_dark 99 = .ok (.ifCond .ne 9, 3) := by decide +kernel
theorem dX9_dark_102 : decode cX9_dark 102 = .ok (.aload_n 0, 1) := by decide +kernel
theorem dX9_dark_103 : decode cX9_dark 103 = .ok (.iconst 2, 1) := by decide +kernel
theorem dX9_dark_104 : decode cX9_dark 104 = .ok (.invokevirtual 61, 3) := by decide +kernel
theorem dX9_dark_107 : decode cX9_dark 107 = .ok (.ireturn, 1) := by decide +kernel
theorem dX9_dark_108 : decode cX9_dark 108 = .ok (.aload_n 0, 1) := by decide +kernel
theorem dX9_dark_109 : decode cX9_dark 109 = .ok (.getfield 10, 3) := by decide +kernel
theorem dX9_dark_112 : decode cX9_dark 112 = .ok (.getfield 237, 3) := by decide +kernel
theorem dX9_dark_115 : decode cX9_dark 115 = .ok (.getfield 253, 3) := by decide +kernel
theorem dX9_dark_118 : decode cX9_dark 118 = .ok (.iload 7, 2) := by decide +kernel
theorem dX9_dark_120 : decode cX9_dark 120 = .ok (.iaload, 1) := by decide +kernel
theorem dX9_dark_121 : decode cX9_dark 121 = .ok (.istore 8, 2) := by decide +kernel
theorem dX9_dark_123 : decode cX9_dark 123 = .ok (.aload_n 0, 1) := by decide +kernel
theorem dX9_dark_124 : decode cX9_dark 124 = .ok (.getfield 10, 3) := by decide +kernel
theorem dX9_dark_127 : decode cX9_dark 127 = .ok (.getfield 237, 3) := by decide +kernel
theorem dX9_dark_130 : decode cX9_dark 130 = .ok (.getfield 255, 3) := by decide +kernel
theorem dX9_dark_133 : decode cX9_dark 133 = .ok (.iload 7, 2) := by decide +kernel
theorem dX9_dark_135 : decode cX9_dark 135 = .ok (.iaload, 1) := by decide +kernel
theorem dX9_dark_136 : decode cX9_dark 136 = .ok (.aload_n 0, 1) := by decide +kernel
theorem dX9_dark_137 : decode cX9_dark 137 = .ok (.getfield 10, 3) := by decide +kernel
theorem dX9_dark_140 : decode cX9_dark 140 = .ok (.getfield 192, 3) := by decide +kernel
theorem dX9_dark_143 : decode cX9_dark 143 = .ok (.iload_n 1, 1) := by decide +kernel
theorem dX9_dark_144 : decode cX9_dark 144 = .ok (.iload 8, 2) := by decide +kernel
theorem dX9_dark_146 : decode cX9_dark 146 = .ok (.iload_n 2, 1) := by decide +kernel
theorem dX9_dark_147 : decode cX9_dark 147 = .ok (.invokevirtual 257, 3) := by decide +kernel
theorem dX9_dark_150 : decode cX9_dark 150 = .ok (.iadd, 1) := by decide +kernel
theorem dX9_dark_151 : decode cX9_dark 151 = .ok (.istore 9, 2) := by decide +kernel
theorem dX9_dark_153 : decode cX9_dark 153 = .ok (.iload_n 2, 1) := by decide +kernel
theorem dX9_dark_154 : decode cX9_dark 154 = .ok (.iload 8, 2) := by decide +kernel
theorem dX9_dark_156 : decode cX9_dark 156 = .ok (.isub, 1) := by decide +kernel
theorem dX9_dark_157 : decode cX9_dark 157 = .ok (.istore 10, 2) := by decide +kernel
theorem dX9_dark_159 : decode cX9_dark 159 = .ok (.iload 9, 2) := by decide +kernel
theorem dX9_dark_161 : decode cX9_dark 161 = .ok (.iload 5, 2) := by decide +kernel
theorem dX9_dark_163 : decode cX9_dark 163 = .ok (.iload 10, 2) := by decide +kernel
theorem dX9_dark_165 : decode cX9_dark 165 = .ok (.imul, 1) := by decide +kernel
theorem dX9_dark_166 : decode cX9_dark 166 = .ok (.isub, 1) := by decide +kernel
theorem dX9_dark_167 : decode cX9_dark 167 = .ok (.ifCond .ge 5, 3) := by decide +kernel
theorem dX9_dark_170 : decode cX9_dark 170 = .ok (.iconst 2, 1) := by decide +kernel
theorem dX9_dark_171 : decode cX9_dark 171 = .ok (.ireturn, 1) := by decide +kernel
theorem dX9_dark_172 : decode cX9_dark 172 = .ok (.iload 9, 2) := by decide +kernel
theorem dX9_dark_174 : decode cX9_dark 174 = .ok (.iload 6, 2) := by decide +kernel
theorem dX9_dark_176 : decode cX9_dark 176 = .ok (.iload 10, 2) := by decide +kernel
theorem dX9_dark_178 : decode cX9_dark 178 = .ok (.imul, 1) := by decide +kernel
theorem dX9_dark_179 : decode cX9_dark 179 = .ok (.isub, 1) := by decide +kernel
theorem dX9_dark_180 : decode cX9_dark 180 = .ok (.ifCond .ge 7, 3) := by decide +kernel
theorem dX9_dark_183 : decode cX9_dark 183 = .ok (.iconst 1, 1) := by decide +kernel
theorem dX9_dark_184 : decode cX9_dark 184 = .ok (.goto 4, 3) := by decide +kernel
theorem dX9_dark_187 : decode cX9_dark 187 = .ok (.iconst 0, 1) := by decide +kernel
theorem dX9_dark_188 : decode cX9_dark 188 = .ok (.ireturn, 1) := by decide +kernel
theorem dX9_hold_0 : decode cX9_hold 0 = .ok (.aload_n 0, 1) := by decide +kernel
theorem dX9_hold_1 : decode cX9_hold 1 = .ok (.iload_n 1, 1) := by decide +kernel
theorem dX9_hold_2 : decode cX9_hold 2 = .ok (.iload_n 2, 1) := by decide +kernel
theorem dX9_hold_3 : decode cX9_hold 3 = .ok (.iload_n 3, 1) := by decide +kernel
theorem dX9_hold_4 : decode cX9_hold 4 = .ok (.invokevirtual 260, 3) := by decide +kernel
theorem dX9_hold_7 : decode cX9_hold 7 = .ok (.ifCond .eq 11, 3) := by decide +kernel
theorem dX9_hold_10 : decode cX9_hold 10 = .ok (.iload 4, 2) := by decide +kernel
theorem dX9_hold_12 : decode cX9_hold 12 = .ok (.invokestatic 143, 3) := by decide +kernel
theorem dX9_hold_15 : decode cX9_hold 15 = .ok (.ifCond .ne 9, 3) := by decide +kernel
theorem dX9_hold_18 : decode cX9_hold 18 = .ok (.aload_n 0, 1) := by decide +kernel
theorem dX9_hold_19 : decode cX9_hold 19 = .ok (.iconst 1, 1) := by decide +kernel
theorem dX9_hold_20 : decode cX9_hold 20 = .ok (.invokevirtual 61, 3) := by decide +kernel
theorem dX9_hold_23 : decode cX9_hold 23 = .ok (.ireturn, 1) := by decide +kernel
theorem dX9_hold_24 : decode cX9_hold 24 = .ok (.aload_n 0, 1) := by decide +kernel
theorem dX9_hold_25 : decode cX9_hold 25 = .ok (.getfield 42, 3) := by decide +kernel
theorem dX9_hold_28 : decode cX9_hold 28 = .ok (.iload_n 2, 1) := by decide +kernel
theorem dX9_hold_29 : decode cX9_hold 29 = .ok (.aaload, 1) := by decide +kernel
theorem dX9_hold_30 : decode cX9_hold 30 = .ok (.invokevirtual 264, 3) := by decide +kernel
theorem dX9_hold_33 : decode cX9_hold 33 = .ok (.ifCond .eq 9, 3) := by decide +kernel
theorem dX9_hold_36 : decode cX9_hold 36 = .ok (.aload_n 0, 1) := by decide +kernel
theorem dX9_hold_37 : decode cX9_hold 37 = .ok (.iconst 2, 1) := by decide +kernel
theorem dX9_hold_38 : decode cX9_hold 38 = .ok (.invokevirtual 61, 3) := by decide +kernel
theorem dX9_hold_41 : decode cX9_hold 41 = .ok (.ireturn, 1) := by decide +kernel
theorem dX9_hold_42 : decode cX9_hold 42 = .ok (.aload_n 0, 1) := by decide +kernel
theorem dX9_hold_43 : decode cX9_hold 43 = .ok (.aload_n 0, 1) := by decide +kernel
theorem dX9_hold_44 : decode cX9_hold 44 = .ok (.getfield 10, 3) := by decide +kernel
theorem dX9_hold_47 : decode cX9_hold 47 = .ok (.getfield 76, 3) := by decide +kernel
theorem dX9_hold_50 : decode cX9_hold 50 = .ok (.iload_n 1, 1) := by decide +kernel
theorem dX9_hold_51 : decode cX9_hold 51 = .ok (.aaload, 1) := by decide +kernel
theorem dX9_hold_52 : decode cX9_hold 52 = .ok (.aload_n 0, 1) := by decide +kernel
theorem dX9_hold_53 : decode cX9_hold 53 = .ok (.getfield 42, 3) := by decide +kernel
theorem dX9_hold_56 : decode cX9_hold 56 = .ok (.iload_n 2, 1) := by decide +kernel
theorem dX9_hold_57 : decode cX9_hold 57 = .ok (.aaload, 1) := by decide +kernel
theorem dX9_hold_58 : decode cX9_hold 58 = .ok (.iload_n 3, 1) := by decide +kernel
theorem dX9_hold_59 : decode cX9_hold 59 = .ok (.iload 4, 2) := by decide +kernel
theorem dX9_hold_61 : decode cX9_hold 61 = .ok (.sipush 9000, 3) := by decide +kernel
theorem dX9_hold_64 : decode cX9_hold 64 = .ok (.invokevirtual 267, 3) := by decide +kernel
theorem dX9_hold_67 : decode cX9_hold 67 = .ok (.ireturn, 1) := by decide +kernel
theorem dX9_greatest_0 : decode cX9_greatest 0 = .ok (.aload_n 0, 1) := by decide +kernel
theorem dX9_greatest_1 : decode cX9_greatest 1 = .ok (.iload_n 1, 1) := by decide +kernel
theorem dX9_greatest_2 : decode cX9_greatest 2 = .ok (.iload_n 2, 1) := by decide +kernel
theorem dX9_greatest_3 : decode cX9_greatest 3 = .ok (.iload_n 3, 1) := by decide +kernel
theorem dX9_greatest_4 : decode cX9_greatest 4 = .ok (.invokevirtual 260, 3) := by decide +kernel
theorem dX9_greatest_7 : decode cX9_greatest 7 = .ok (.ifCond .ne 9, 3) := by decide +kernel
theorem dX9_greatest_10 : decode cX9_greatest 10 = .ok (.aload_n 0, 1) := by decide +kernel
theorem dX9_greatest_11 : decode cX9_greatest 11 = .ok (.iconst 1, 1) := by decide +kernel
theorem dX9_greatest_12 : decode cX9_greatest 12 = .ok (.invokevirtual 61, 3) := by decide +kernel
theorem dX9_greatest_15 : decode cX9_greatest 15 = .ok (.ireturn, 1) := by decide +kernel
theorem dX9_greatest_16 : decode cX9_greatest 16 = .ok (.aload_n 0, 1) := by decide +kernel
theorem dX9_greatest_17 : decode cX9_greatest 17 = .ok (.getfield 42, 3) := by decide +kernel
theorem dX9_greatest_20 : decode cX9_greatest 20 = .ok (.iload_n 2, 1) := by decide +kernel
theorem dX9_greatest_21 : decode cX9_greatest 21 = .ok (.aaload, 1) := by decide +kernel
theorem dX9_greatest_22 : decode cX9_greatest 22 = .ok (.invokevirtual 264, 3) := by decide +kernel
theorem dX9_greatest_25 : decode cX9_greatest 25 = .ok (.ifCond .eq 9, 3) := by decide +kernel
theorem dX9_greatest_28 : decode cX9_greatest 28 = .ok (.aload_n 0, 1) := by decide +kernel
theorem dX9_greatest_29 : decode cX9_greatest 29 = .ok (.iconst 2, 1) := by decide +kernel
theorem dX9_greatest_30 : decode cX9_greatest 30 = .ok (.invokevirtual 61, 3) := by decide +kernel
theorem dX9_greatest_33 : decode cX9_greatest 33 = .ok (.ireturn, 1) := by decide +kernel
theorem dX9_greatest_34 : decode cX9_greatest 34 = .ok (.aload_n 0, 1) := by decide +kernel
theorem dX9_greatest_35 : decode cX9_greatest 35 = .ok (.getfield 10, 3) := by decide +kernel
theorem dX9_greatest_38 : decode cX9_greatest 38 = .ok (.getfield 76, 3) := by decide +kernel
theorem dX9_greatest_41 : decode cX9_greatest 41 = .ok (.iload_n 1, 1) := by decide +kernel
theorem dX9_greatest_42 : decode cX9_greatest 42 = .ok (.aaload, 1) := by decide +kernel
theorem dX9_greatest_43 : decode cX9_greatest 43 = .ok (.astore 4, 2) := by decide +kernel
theorem dX9_greatest_45 : decode cX9_greatest 45 = .ok (.sipush 200, 3) := by decide +kernel
theorem dX9_greatest_48 : decode cX9_greatest 48 = .ok (.istore 5, 2) := by decide +kernel
theorem dX9_greatest_50 : decode cX9_greatest 50 = .ok (.iload 5, 2) := by decide +kernel
theorem dX9_greatest_52 : decode cX9_greatest 52 = .ok (.ifCond .lt 61, 3) := by decide +kernel
theorem dX9_greatest_55 : decode cX9_greatest 55 = .ok (.iload 5, 2) := by decide +kernel
theorem dX9_greatest_57 : decode cX9_greatest 57 = .ok (.sipush 200, 3) := by decide +kernel
theorem dX9_greatest_60 : decode cX9_greatest 60 = .ok (.if_icmp .ge 17, 3) := by decide +kernel
theorem dX9_greatest_63 : decode cX9_greatest 63 = .ok (.iload 5, 2) := by decide +kernel
theorem dX9_greatest_65 : decode cX9_greatest 65 = .ok (.aload 4, 2) := by decide +kernel
theorem dX9_greatest_67 : decode cX9_greatest 67 = .ok (.getfield 89, 3) := by decide +kernel
theorem dX9_greatest_70 : decode cX9_greatest 70 = .ok (.if_icmp .lt 7, 3) := by decide +kernel
theorem dX9_greatest_73 : decode cX9_greatest 73 = .ok (.iconst 1, 1) := by decide +kernel
theorem dX9_greatest_74 : decode cX9_greatest 74 = .ok (.goto 4, 3) := by decide +kernel
theorem dX9_greatest_77 : decode cX9_greatest 77 = .ok (.iconst 0, 1) := by decide +kernel
theorem dX9_greatest_78 : decode cX9_greatest 78 = .ok (.istore 6, 2) := by decide +kernel
theorem dX9_greatest_80 : decode cX9_greatest 80 = .ok (.iload 6, 2) := by decide +kernel
theorem dX9_greatest_82 : decode cX9_greatest 82 = .ok (.ifCond .ne 25, 3) := by decide +kernel
theorem dX9_greatest_85 : decode cX9_greatest 85 = .ok (.aload_n 0, 1) := by decide +kernel
theorem dX9_greatest_86 : decode cX9_greatest 86 = .ok (.aload 4, 2) := by decide +kernel
theorem dX9_greatest_88 : decode cX9_greatest 88 = .ok (.aload_n 0, 1) := by decide +kernel
theorem dX9_greatest_89 : decode cX9_greatest 89 = .ok (.getfield 42, 3) := by decide +kernel
theorem dX9_greatest_92 : decode cX9_greatest 92 = .ok (.iload_n 2, 1) := by decide +kernel
theorem dX9_greatest_93 : decode cX9_greatest 93 = .ok (.aaload, 1) := by decide +kernel
theorem dX9_greatest_94 : decode cX9_greatest 94 = .ok (.iload_n 3, 1) := by decide +kernel
theorem dX9_greatest_95 : decode cX9_greatest 95 = .ok (.iload 5, 2) := by decide +kernel
theorem dX9_greatest_97 : decode cX9_greatest 97 = .ok (.iconst 1, 1) := by decide +kernel
theorem dX9_greatest_98 : decode cX9_greatest 98 = .ok (.invokevirtual 267, 3) := by decide +kernel
theorem dX9_greatest_101 : decode cX9_greatest 101 = .ok (.ifCond .ne 6, 3) := by decide +kernel
theorem dX9_greatest_104 : decode cX9_greatest 104 = .ok (.iload 5, 2) := by decide +kernel
theorem dX9_greatest_106 : decode cX9_greatest 106 = .ok (.ireturn, 1) := by decide +kernel
theorem dX9_greatest_107 : decode cX9_greatest 107 = .ok (.iinc 5 (-1), 3) := by decide +kernel
theorem dX9_greatest_110 : decode cX9_greatest 110 = .ok (.goto (-60), 3) := by decide +kernel
theorem dX9_greatest_113 : decode cX9_greatest 113 = .ok (.aload_n 0, 1) := by decide +kernel
theorem dX9_greatest_114 : decode cX9_greatest 114 = .ok (.iconst 3, 1) := by decide +kernel
theorem dX9_greatest_115 : decode cX9_greatest 115 = .ok (.invokevirtual 61, 3) := by decide +kernel
theorem dX9_greatest_118 : decode cX9_greatest 118 = .ok (.ireturn, 1) := by decide +kernel
theorem dX9_fewest_0 : decode cX9_fewest 0 = .ok (.iload_n 1, 1) := by decide +kernel
theorem dX9_fewest_1 : decode cX9_fewest 1 = .ok (.invokestatic 271, 3) := by decide +kernel
theorem dX9_fewest_4 : decode cX9_fewest 4 = .ok (.ifCond .eq 10, 3) := by decide +kernel
theorem dX9_fewest_7 : decode cX9_fewest 7 = .ok (.iload_n 2, 1) := by decide +kernel
theorem dX9_fewest_8 : decode cX9_fewest 8 = .ok (.invokestatic 133, 3) := by decide +kernel
theorem dX9_fewest_11 : decode cX9_fewest 11 = .ok (.ifCond .ne 9, 3) := by decide +kernel
theorem dX9_fewest_14 : decode cX9_fewest 14 = .ok (.aload_n 0, 1) := by decide +kernel
theorem dX9_fewest_15 : decode cX9_fewest 15 = .ok (.iconst 1, 1) := by decide +kernel
theorem dX9_fewest_16 : decode cX9_fewest 16 = .ok (.invokevirtual 61, 3) := by decide +kernel
theorem dX9_fewest_19 : decode cX9_fewest 19 = .ok (.ireturn, 1) := by decide +kernel
theorem dX9_fewest_20 : decode cX9_fewest 20 = .ok (.aload_n 0, 1) := by decide +kernel
theorem dX9_fewest_21 : decode cX9_fewest 21 = .ok (.iload_n 1, 1) := by decide +kernel
theorem dX9_fewest_22 : decode cX9_fewest 22 = .ok (.iload_n 2, 1) := by decide +kernel
theorem dX9_fewest_23 : decode cX9_fewest 23 = .ok (.invokevirtual 274, 3) := by decide +kernel
theorem dX9_fewest_26 : decode cX9_fewest 26 = .ok (.iconst 0, 1) := by decide +kernel
theorem dX9_fewest_27 : decode cX9_fewest 27 = .ok (.istore_n 3, 1) := by decide +kernel
theorem dX9_fewest_28 : decode cX9_fewest 28 = .ok (.bipush 9, 2) := by decide +kernel
theorem dX9_fewest_30 : decode cX9_fewest 30 = .ok (.istore 4, 2) := by decide +kernel
theorem dX9_fewest_32 : decode cX9_fewest 32 = .ok (.iconst 0, 1) := by decide +kernel
theorem dX9_fewest_33 : decode cX9_fewest 33 = .ok (.istore 5, 2) := by decide +kernel
theorem dX9_fewest_35 : decode cX9_fewest 35 = .ok (.iload 5, 2) := by decide +kernel
theorem dX9_fewest_37 : decode cX9_fewest 37 = .ok (.iconst 1, 1) := by decide +kernel
theorem dX9_fewest_38 : decode cX9_fewest 38 = .ok (.aload_n 0, 1) := by decide +kernel
theorem dX9_fewest_39 : decode cX9_fewest 39 = .ok (.getfield 10, 3) := by decide +kernel
theorem dX9_fewest_42 : decode cX9_fewest 42 = .ok (.getfield 161, 3) := by decide +kernel
theorem dX9_fewest_45 : decode cX9_fewest 45 = .ok (.getfield 165, 3) := by decide +kernel
theorem dX9_fewest_48 : decode cX9_fewest 48 = .ok (.ishl, 1) := by decide +kernel
theorem dX9_fewest_49 : decode cX9_fewest 49 = .ok (.if_icmp .ge 38, 3) := by decide +kernel
theorem dX9_fewest_52 : decode cX9_fewest 52 = .ok (.iload 5, 2) := by decide +kernel
theorem dX9_fewest_54 : decode cX9_fewest 54 = .ok (.invokestatic 278, 3) := by decide +kernel
theorem dX9_fewest_57 : decode cX9_fewest 57 = .ok (.iload 4, 2) := by decide +kernel
theorem dX9_fewest_59 : decode cX9_fewest 59 = .ok (.if_icmp .ge 22, 3) := by decide +kernel
theorem dX9_fewest_62 : decode cX9_fewest 62 = .ok (.aload_n 0, 1) := by decide +kernel
theorem dX9_fewest_63 : decode cX9_fewest 63 = .ok (.iload 5, 2) := by decide +kernel
theorem dX9_fewest_65 : decode cX9_fewest 65 = .ok (.invokevirtual 283, 3) := by decide +kernel
theorem dX9_fewest_68 : decode cX9_fewest 68 = .ok (.ifCond .eq 13, 3) := by decide +kernel
theorem dX9_fewest_71 : decode cX9_fewest 71 = .ok (.iload 5, 2) := by decide +kernel
theorem dX9_fewest_73 : decode cX9_fewest 73 = .ok (.istore_n 3, 1) := by decide +kernel
theorem dX9_fewest_74 : decode cX9_fewest 74 = .ok (.iload 5, 2) := by decide +kernel
theorem dX9_fewest_76 : decode cX9_fewest 76 = .ok (.invokestatic 278, 3) := by decide +kernel
theorem dX9_fewest_79 : decode cX9_fewest 79 = .ok (.istore 4, 2) := by decide +kernel
theorem dX9_fewest_81 : decode cX9_fewest 81 = .ok (.iinc 5 1, 3) := by decide +kernel
theorem dX9_fewest_84 : decode cX9_fewest 84 = .ok (.goto (-49), 3) := by decide +kernel
theorem dX9_fewest_87 : decode cX9_fewest 87 = .ok (.iload_n 3, 1) := by decide +kernel
theorem dX9_fewest_88 : decode cX9_fewest 88 = .ok (.ireturn, 1) := by decide +kernel
theorem dX9_far_0 : decode cX9_far 0 = .ok (.iload_n 1, 1) := by decide +kernel
theorem dX9_far_1 : decode cX9_far 1 = .ok (.invokestatic 271, 3) := by decide +kernel
theorem dX9_far_4 : decode cX9_far 4 = .ok (.ifCond .eq 10, 3) := by decide +kernel
theorem dX9_far_7 : decode cX9_far 7 = .ok (.iload_n 2, 1) := by decide +kernel
theorem dX9_far_8 : decode cX9_far 8 = .ok (.invokestatic 133, 3) := by decide +kernel
theorem dX9_far_11 : decode cX9_far 11 = .ok (.ifCond .ne 9, 3) := by decide +kernel
theorem dX9_far_14 : decode cX9_far 14 = .ok (.aload_n 0, 1) := by decide +kernel
theorem dX9_far_15 : decode cX9_far 15 = .ok (.iconst 1, 1) := by decide +kernel
theorem dX9_far_16 : decode cX9_far 16 = .ok (.invokevirtual 61, 3) := by decide +kernel
theorem dX9_far_19 : decode cX9_far 19 = .ok (.ireturn, 1) := by decide +kernel
theorem dX9_far_20 : decode cX9_far 20 = .ok (.aload_n 0, 1) := by decide +kernel
theorem dX9_far_21 : decode cX9_far 21 = .ok (.iload_n 1, 1) := by decide +kernel
theorem dX9_far_22 : decode cX9_far 22 = .ok (.iload_n 2, 1) := by decide +kernel
theorem dX9_far_23 : decode cX9_far 23 = .ok (.invokevirtual 274, 3) := by decide +kernel
theorem dX9_far_26 : decode cX9_far 26 = .ok (.iconst 0, 1) := by decide +kernel
theorem dX9_far_27 : decode cX9_far 27 = .ok (.istore 4, 2) := by decide +kernel
theorem dX9_far_29 : decode cX9_far 29 = .ok (.iconst 0, 1) := by decide +kernel
theorem dX9_far_30 : decode cX9_far 30 = .ok (.istore 5, 2) := by decide +kernel
theorem dX9_far_32 : decode cX9_far 32 = .ok (.iload 5, 2) := by decide +kernel
theorem dX9_far_34 : decode cX9_far 34 = .ok (.aload_n 0, 1) := by decide +kernel
theorem dX9_far_35 : decode cX9_far 35 = .ok (.getfield 10, 3) := by decide +kernel
theorem dX9_far_38 : decode cX9_far 38 = .ok (.getfield 65, 3) := by decide +kernel
theorem dX9_far_41 : decode cX9_far 41 = .ok (.if_icmp .ge 30, 3) := by decide +kernel
theorem dX9_far_44 : decode cX9_far 44 = .ok (.aload_n 0, 1) := by decide +kernel
theorem dX9_far_45 : decode cX9_far 45 = .ok (.getfield 50, 3) := by decide +kernel
theorem dX9_far_48 : decode cX9_far 48 = .ok (.iload 5, 2) := by decide +kernel
theorem dX9_far_50 : decode cX9_far 50 = .ok (.iaload, 1) := by decide +kernel
theorem dX9_far_51 : decode cX9_far 51 = .ok (.iload_n 3, 1) := by decide +kernel
theorem dX9_far_52 : decode cX9_far 52 = .ok (.iand, 1) := by decide +kernel
theorem dX9_far_53 : decode cX9_far 53 = .ok (.ifCond .ne 12, 3) := by decide +kernel
theorem dX9_far_56 : decode cX9_far 56 = .ok (.iload 4, 2) := by decide +kernel
theorem dX9_far_58 : decode cX9_far 58 = .ok (.iconst 1, 1) := by decide +kernel
theorem dX9_far_59 : decode cX9_far 59 = .ok (.iload 5, 2) := by decide +kernel
theorem dX9_far_61 : decode cX9_far 61 = .ok (.ishl, 1) := by decide +kernel
theorem dX9_far_62 : decode cX9_far 62 = .ok (.ior, 1) := by decide +kernel
theorem dX9_far_63 : decode cX9_far 63 = .ok (.istore 4, 2) := by decide +kernel
theorem dX9_far_65 : decode cX9_far 65 = .ok (.iinc 5 1, 3) := by decide +kernel
theorem dX9_far_68 : decode cX9_far 68 = .ok (.goto (-36), 3) := by decide +kernel
theorem dX9_far_71 : decode cX9_far 71 = .ok (.iload 4, 2) := by decide +kernel
theorem dX9_far_73 : decode cX9_far 73 = .ok (.ireturn, 1) := by decide +kernel
theorem dX9_voice_0 : decode cX9_voice 0 = .ok (.aload_n 0, 1) := by decide +kernel
theorem dX9_voice_1 : decode cX9_voice 1 = .ok (.getfield 10, 3) := by decide +kernel
theorem dX9_voice_4 : decode cX9_voice 4 = .ok (.iload_n 1, 1) := by decide +kernel
theorem dX9_voice_5 : decode cX9_voice 5 = .ok (.invokevirtual 73, 3) := by decide +kernel
theorem dX9_voice_8 : decode cX9_voice 8 = .ok (.ifCond .eq 12, 3) := by decide +kernel
theorem dX9_voice_11 : decode cX9_voice 11 = .ok (.iload_n 2, 1) := by decide +kernel
theorem dX9_voice_12 : decode cX9_voice 12 = .ok (.ifCond .lt 8, 3) := by decide +kernel
theorem dX9_voice_15 : decode cX9_voice 15 = .ok (.iload_n 2, 1) := by decide +kernel
theorem dX9_voice_16 : decode cX9_voice 16 = .ok (.iconst 4, 1) := by decide +kernel
theorem dX9_voice_17 : decode cX9_voice 17 = .ok (.if_icmp .lt 9, 3) := by decide +kernel
theorem dX9_voice_20 : decode cX9_voice 20 = .ok (.aload_n 0, 1) := by decide +kernel
theorem dX9_voice_21 : decode cX9_voice 21 = .ok (.iconst 1, 1) := by decide +kernel
theorem dX9_voice_22 : decode cX9_voice 22 = .ok (.invokevirtual 61, 3) := by decide +kernel
theorem dX9_voice_25 : decode cX9_voice 25 = .ok (.ireturn, 1) := by decide +kernel
theorem dX9_voice_26 : decode cX9_voice 26 = .ok (.aload_n 0, 1) := by decide +kernel
theorem dX9_voice_27 : decode cX9_voice 27 = .ok (.getfield 36, 3) := by decide +kernel
theorem dX9_voice_30 : decode cX9_voice 30 = .ok (.aload_n 0, 1) := by decide +kernel
theorem dX9_voice_31 : decode cX9_voice 31 = .ok (.getfield 10, 3) := by decide +kernel
theorem dX9_voice_34 : decode cX9_voice 34 = .ok (.getfield 76, 3) := by decide +kernel
theorem dX9_voice_37 : decode cX9_voice 37 = .ok (.iload_n 1, 1) := by decide +kernel
theorem dX9_voice_38 : decode cX9_voice 38 = .ok (.aaload, 1) := by decide +kernel
theorem dX9_voice_39 : decode cX9_voice 39 = .ok (.iload_n 2, 1) := by decide +kernel
theorem dX9_voice_40 : decode cX9_voice 40 = .ok (.iload_n 3, 1) := by decide +kernel
theorem dX9_voice_41 : decode cX9_voice 41 = .ok (.invokevirtual 286, 3) := by decide +kernel
theorem dX9_voice_44 : decode cX9_voice 44 = .ok (.ireturn, 1) := by decide +kernel
theorem dX9_trace_0 : decode cX9_trace 0 = .ok (.iload_n 1, 1) := by decide +kernel
theorem dX9_trace_1 : decode cX9_trace 1 = .ok (.ifCond .lt 14, 3) := by decide +kernel
theorem dX9_trace_4 : decode cX9_trace 4 = .ok (.iload_n 1, 1) := by decide +kernel
theorem dX9_trace_5 : decode cX9_trace 5 = .ok (.aload_n 0, 1) := by decide +kernel
theorem dX9_trace_6 : decode cX9_trace 6 = .ok (.getfield 36, 3) := by decide +kernel
theorem dX9_trace_9 : decode cX9_trace 9 = .ok (.getfield 289, 3) := by decide +kernel
theorem dX9_trace_12 : decode cX9_trace 12 = .ok (.if_icmp .lt 9, 3) := by decide +kernel
theorem dX9_trace_15 : decode cX9_trace 15 = .ok (.aload_n 0, 1) := by decide +kernel
theorem dX9_trace_16 : decode cX9_trace 16 = .ok (.iconst 2, 1) := by decide +kernel
theorem dX9_trace_17 : decode cX9_trace 17 = .ok (.invokevirtual 61, 3) := by decide +kernel
theorem dX9_trace_20 : decode cX9_trace 20 = .ok (.ireturn, 1) := by decide +kernel
theorem dX9_trace_21 : decode cX9_trace 21 = .ok (.aload_n 0, 1) := by decide +kernel
theorem dX9_trace_22 : decode cX9_trace 22 = .ok (.getfield 36, 3) := by decide +kernel
theorem dX9_trace_25 : decode cX9_trace 25 = .ok (.getfield 290, 3) := by decide +kernel
theorem dX9_trace_28 : decode cX9_trace 28 = .ok (.iload_n 1, 1) := by decide +kernel
theorem dX9_trace_29 : decode cX9_trace 29 = .ok (.iaload, 1) := by decide +kernel
theorem dX9_trace_30 : decode cX9_trace 30 = .ok (.ireturn, 1) := by decide +kernel
theorem dX9_sheet_0 : decode cX9_sheet 0 = .ok (.iload_n 1, 1) := by decide +kernel
theorem dX9_sheet_1 : decode cX9_sheet 1 = .ok (.invokestatic 293, 3) := by decide +kernel
theorem dX9_sheet_4 : decode cX9_sheet 4 = .ok (.ifCond .eq 25, 3) := by decide +kernel
theorem dX9_sheet_7 : decode cX9_sheet 7 = .ok (.iload_n 2, 1) := by decide +kernel
theorem dX9_sheet_8 : decode cX9_sheet 8 = .ok (.ifCond .eq 27, 3) := by decide +kernel
theorem dX9_sheet_11 : decode cX9_sheet 11 = .ok (.iload_n 2, 1) := by decide +kernel
theorem dX9_sheet_12 : decode cX9_sheet 12 = .ok (.bipush 8, 2) := by decide +kernel
theorem dX9_sheet_14 : decode cX9_sheet 14 = .ok (.if_icmp .eq 21, 3) := by decide +kernel
theorem dX9_sheet_17 : decode cX9_sheet 17 = .ok (.iload_n 2, 1) := by decide +kernel
theorem dX9_sheet_18 : decode cX9_sheet 18 = .ok (.bipush 16, 2) := by decide +kernel
theorem dX9_sheet_20 : decode cX9_sheet 20 = .ok (.if_icmp .eq 15, 3) := by decide +kernel
theorem dX9_sheet_23 : decode cX9_sheet 23 = .ok (.iload_n 2, 1) := by decide +kernel
theorem dX9_sheet_24 : decode cX9_sheet 24 = .ok (.bipush 32, 2) := by decide +kernel
theorem dX9_sheet_26 : decode cX9_sheet 26 = .ok (.if_icmp .eq 9, 3) := by decide +kernel
theorem dX9_sheet_29 : decode cX9_sheet 29 = .ok (.aload_n 0, 1) := by decide +kernel
theorem dX9_sheet_30 : decode cX9_sheet 30 = .ok (.iconst 1, 1) := by decide +kernel
theorem dX9_sheet_31 : decode cX9_sheet 31 = .ok (.invokevirtual 61, 3) := by decide +kernel
theorem dX9_sheet_34 : decode cX9_sheet 34 = .ok (.ireturn, 1) := by decide +kernel
theorem dX9_sheet_35 : decode cX9_sheet 35 = .ok (.iload_n 2, 1) := by decide +kernel
theorem dX9_sheet_36 : decode cX9_sheet 36 = .ok (.ifCond .eq 13, 3) := by decide +kernel
theorem dX9_sheet_39 : decode cX9_sheet 39 = .ok (.iload_n 3, 1) := by decide +kernel
theorem dX9_sheet_40 : decode cX9_sheet 40 = .ok (.ifCond .ge 9, 3) := by decide +kernel
theorem dX9_sheet_43 : decode cX9_sheet 43 = .ok (.aload_n 0, 1) := by decide +kernel
theorem dX9_sheet_44 : decode cX9_sheet 44 = .ok (.iconst 3, 1) := by decide +kernel
theorem dX9_sheet_45 : decode cX9_sheet 45 = .ok (.invokevirtual 61, 3) := by decide +kernel
theorem dX9_sheet_48 : decode cX9_sheet 48 = .ok (.ireturn, 1) := by decide +kernel
theorem dX9_sheet_49 : decode cX9_sheet 49 = .ok (.iload_n 2, 1) := by decide +kernel
theorem dX9_sheet_50 : decode cX9_sheet 50 = .ok (.ifCond .eq 15, 3) := by decide +kernel
theorem dX9_sheet_53 : decode cX9_sheet 53 = .ok (.iload_n 3, 1) := by decide +kernel
theorem dX9_sheet_54 : decode cX9_sheet 54 = .ok (.bipush 24, 2) := by decide +kernel
theorem dX9_sheet_56 : decode cX9_sheet 56 = .ok (.if_icmp .le 9, 3) := by decide +kernel
theorem dX9_sheet_59 : decode cX9_sheet 59 = .ok (.aload_n 0, 1) := by decide +kernel
theorem dX9_sheet_60 : decode cX9_sheet 60 = .ok (.iconst 1, 1) := by decide +kernel
theorem dX9_sheet_61 : decode cX9_sheet 61 = .ok (.invokevirtual 61, 3) := by decide +kernel
theorem dX9_sheet_64 : decode cX9_sheet 64 = .ok (.ireturn, 1) := by decide +kernel
theorem dX9_sheet_65 : decode cX9_sheet 65 = .ok (.aload_n 0, 1) := by decide +kernel
theorem dX9_sheet_66 : decode cX9_sheet 66 = .ok (.getfield 42, 3) := by decide +kernel
theorem dX9_sheet_69 : decode cX9_sheet 69 = .ok (.iload_n 1, 1) := by decide +kernel
theorem dX9_sheet_70 : decode cX9_sheet 70 = .ok (.aaload, 1) := by decide +kernel
theorem dX9_sheet_71 : decode cX9_sheet 71 = .ok (.iload_n 2, 1) := by decide +kernel
theorem dX9_sheet_72 : decode cX9_sheet 72 = .ok (.iload_n 3, 1) := by decide +kernel
theorem dX9_sheet_73 : decode cX9_sheet 73 = .ok (.invokevirtual 296, 3) := by decide +kernel
theorem dX9_sheet_76 : decode cX9_sheet 76 = .ok (.iconst 1, 1) := by decide +kernel
theorem dX9_sheet_77 : decode cX9_sheet 77 = .ok (.ireturn, 1) := by decide +kernel
theorem dX9_put_0 : decode cX9_put 0 = .ok (.iload_n 1, 1) := by decide +kernel
theorem dX9_put_1 : decode cX9_put 1 = .ok (.invokestatic 293, 3) := by decide +kernel
theorem dX9_put_4 : decode cX9_put 4 = .ok (.ifCond .ne 9, 3) := by decide +kernel
theorem dX9_put_7 : decode cX9_put 7 = .ok (.aload_n 0, 1) := by decide +kernel
theorem dX9_put_8 : decode cX9_put 8 = .ok (.iconst 1, 1) := by decide +kernel
theorem dX9_put_9 : decode cX9_put 9 = .ok (.invokevirtual 61, 3) := by decide +kernel
theorem dX9_put_12 : decode cX9_put 12 = .ok (.ireturn, 1) := by decide +kernel
theorem dX9_put_13 : decode cX9_put 13 = .ok (.aload_n 0, 1) := by decide +kernel
theorem dX9_put_14 : decode cX9_put 14 = .ok (.getfield 42, 3) := by decide +kernel
theorem dX9_put_17 : decode cX9_put 17 = .ok (.iload_n 1, 1) := by decide +kernel
theorem dX9_put_18 : decode cX9_put 18 = .ok (.aaload, 1) := by decide +kernel
theorem dX9_put_19 : decode cX9_put 19 = .ok (.astore 4, 2) := by decide +kernel
theorem dX9_put_21 : decode cX9_put 21 = .ok (.aload 4, 2) := by decide +kernel
theorem dX9_put_23 : decode cX9_put 23 = .ok (.invokevirtual 264, 3) := by decide +kernel
theorem dX9_put_26 : decode cX9_put 26 = .ok (.ifCond .eq 9, 3) := by decide +kernel
theorem dX9_put_29 : decode cX9_put 29 = .ok (.aload_n 0, 1) := by decide +kernel
theorem dX9_put_30 : decode cX9_put 30 = .ok (.iconst 2, 1) := by decide +kernel
theorem dX9_put_31 : decode cX9_put 31 = .ok (.invokevirtual 61, 3) := by decide +kernel
theorem dX9_put_34 : decode cX9_put 34 = .ok (.ireturn, 1) := by decide +kernel
theorem dX9_put_35 : decode cX9_put 35 = .ok (.iload_n 2, 1) := by decide +kernel
theorem dX9_put_36 : decode cX9_put 36 = .ok (.ifCond .lt 12, 3) := by decide +kernel
theorem dX9_put_39 : decode cX9_put 39 = .ok (.iload_n 2, 1) := by decide +kernel
theorem dX9_put_40 : decode cX9_put 40 = .ok (.aload 4, 2) := by decide +kernel
theorem dX9_put_42 : decode cX9_put 42 = .ok (.getfield 299, 3) := by decide +kernel
theorem dX9_put_45 : decode cX9_put 45 = .ok (.if_icmp .lt 9, 3) := by decide +kernel
theorem dX9_put_48 : decode cX9_put 48 = .ok (.aload_n 0, 1) := by decide +kernel
theorem dX9_put_49 : decode cX9_put 49 = .ok (.iconst 1, 1) := by decide +kernel
theorem dX9_put_50 : decode cX9_put 50 = .ok (.invokevirtual 61, 3) := by decide +kernel
theorem dX9_put_53 : decode cX9_put 53 = .ok (.ireturn, 1) := by decide +kernel
theorem dX9_put_54 : decode cX9_put 54 = .ok (.aload 4, 2) := by decide +kernel
theorem dX9_put_56 : decode cX9_put 56 = .ok (.iload_n 2, 1) := by decide +kernel
theorem dX9_put_57 : decode cX9_put 57 = .ok (.iload_n 3, 1) := by decide +kernel
theorem dX9_put_58 : decode cX9_put 58 = .ok (.invokevirtual 300, 3) := by decide +kernel
theorem dX9_put_61 : decode cX9_put 61 = .ok (.iconst 1, 1) := by decide +kernel
theorem dX9_put_62 : decode cX9_put 62 = .ok (.ireturn, 1) := by decide +kernel
theorem dX9_move_0 : decode cX9_move 0 = .ok (.iload_n 1, 1) := by decide +kernel
theorem dX9_move_1 : decode cX9_move 1 = .ok (.invokestatic 293, 3) := by decide +kernel
theorem dX9_move_4 : decode cX9_move 4 = .ok (.ifCond .eq 10, 3) := by decide +kernel
theorem dX9_move_7 : decode cX9_move 7 = .ok (.iload_n 3, 1) := by decide +kernel
theorem dX9_move_8 : decode cX9_move 8 = .ok (.invokestatic 293, 3) := by decide +kernel
theorem dX9_move_11 : decode cX9_move 11 = .ok (.ifCond .ne 9, 3) := by decide +kernel
theorem dX9_move_14 : decode cX9_move 14 = .ok (.aload_n 0, 1) := by decide +kernel
theorem dX9_move_15 : decode cX9_move 15 = .ok (.iconst 1, 1) := by decide +kernel
theorem dX9_move_16 : decode cX9_move 16 = .ok (.invokevirtual 61, 3) := by decide +kernel
theorem dX9_move_19 : decode cX9_move 19 = .ok (.ireturn, 1) := by decide +kernel
theorem dX9_move_20 : decode cX9_move 20 = .ok (.aload_n 0, 1) := by decide +kernel
theorem dX9_move_21 : decode cX9_move 21 = .ok (.getfield 42, 3) := by decide +kernel
theorem dX9_move_24 : decode cX9_move 24 = .ok (.iload_n 1, 1) := by decide +kernel
theorem dX9_move_25 : decode cX9_move 25 = .ok (.aaload, 1) := by decide +kernel
theorem dX9_move_26 : decode cX9_move 26 = .ok (.astore 6, 2) := by decide +kernel
theorem dX9_move_28 : decode cX9_move 28 = .ok (.aload_n 0, 1) := by decide +kernel
theorem dX9_move_29 : decode cX9_move 29 = .ok (.getfield 42, 3) := by decide +kernel
theorem dX9_move_32 : decode cX9_move 32 = .ok (.iload_n 3, 1) := by decide +kernel
theorem dX9_move_33 : decode cX9_move 33 = .ok (.aaload, 1) := by decide +kernel
theorem dX9_move_34 : decode cX9_move 34 = .ok (.astore 7, 2) := by decide +kernel
theorem dX9_move_36 : decode cX9_move 36 = .ok (.aload 6, 2) := by decide +kernel
theorem dX9_move_38 : decode cX9_move 38 = .ok (.invokevirtual 264, 3) := by decide +kernel
theorem dX9_move_41 : decode cX9_move 41 = .ok (.ifCond .ne 11, 3) := by decide +kernel
theorem dX9_move_44 : decode cX9_move 44 = .ok (.aload 7, 2) := by decide +kernel
theorem dX9_move_46 : decode cX9_move 46 = .ok (.invokevirtual 264, 3) := by decide +kernel
theorem dX9_move_49 : decode cX9_move 49 = .ok (.ifCond .eq 9, 3) := by decide +kernel
theorem dX9_move_52 : decode cX9_move 52 = .ok (.aload_n 0, 1) := by decide +kernel
theorem dX9_move_53 : decode cX9_move 53 = .ok (.iconst 2, 1) := by decide +kernel
theorem dX9_move_54 : decode cX9_move 54 = .ok (.invokevirtual 61, 3) := by decide +kernel
theorem dX9_move_57 : decode cX9_move 57 = .ok (.ireturn, 1) := by decide +kernel
theorem dX9_move_58 : decode cX9_move 58 = .ok (.aload 6, 2) := by decide +kernel
theorem dX9_move_60 : decode cX9_move 60 = .ok (.getfield 303, 3) := by decide +kernel
theorem dX9_move_63 : decode cX9_move 63 = .ok (.aload 7, 2) := by decide +kernel
theorem dX9_move_65 : decode cX9_move 65 = .ok (.getfield 303, 3) := by decide +kernel
theorem dX9_move_68 : decode cX9_move 68 = .ok (.if_icmp .eq 9, 3) := by decide +kernel
theorem dX9_move_71 : decode cX9_move 71 = .ok (.aload_n 0, 1) := by decide +kernel
theorem dX9_move_72 : decode cX9_move 72 = .ok (.iconst 5, 1) := by decide +kernel
theorem dX9_move_73 : decode cX9_move 73 = .ok (.invokevirtual 61, 3) := by decide +kernel
theorem dX9_move_76 : decode cX9_move 76 = .ok (.ireturn, 1) := by decide +kernel
theorem dX9_move_77 : decode cX9_move 77 = .ok (.aload 6, 2) := by decide +kernel
theorem dX9_move_79 : decode cX9_move 79 = .ok (.iload_n 2, 1) := by decide +kernel
theorem dX9_move_80 : decode cX9_move 80 = .ok (.iload 5, 2) := by decide +kernel
theorem dX9_move_82 : decode cX9_move 82 = .ok (.invokevirtual 306, 3) := by decide +kernel
theorem dX9_move_85 : decode cX9_move 85 = .ok (.ifCond .eq 15, 3) := by decide +kernel
theorem dX9_move_88 : decode cX9_move 88 = .ok (.aload 7, 2) := by decide +kernel
theorem dX9_move_90 : decode cX9_move 90 = .ok (.iload 4, 2) := by decide +kernel
theorem dX9_move_92 : decode cX9_move 92 = .ok (.iload 5, 2) := by decide +kernel
theorem dX9_move_94 : decode cX9_move 94 = .ok (.invokevirtual 306, 3) := by decide +kernel
theorem dX9_move_97 : decode cX9_move 97 = .ok (.ifCond .ne 9, 3) := by decide +kernel
theorem dX9_move_100 : decode cX9_move 100 = .ok (.aload_n 0, 1) := by decide +kernel
theorem dX9_move_101 : decode cX9_move 101 = .ok (.iconst 1, 1) := by decide +kernel
theorem dX9_move_102 : decode cX9_move 102 = .ok (.invokevirtual 61, 3) := by decide +kernel
theorem dX9_move_105 : decode cX9_move 105 = .ok (.ireturn, 1) := by decide +kernel
theorem dX9_move_106 : decode cX9_move 106 = .ok (.aload 6, 2) := by decide +kernel
theorem dX9_move_108 : decode cX9_move 108 = .ok (.getfield 309, 3) := by decide +kernel
theorem dX9_move_111 : decode cX9_move 111 = .ok (.iload_n 2, 1) := by decide +kernel
theorem dX9_move_112 : decode cX9_move 112 = .ok (.aload 7, 2) := by decide +kernel
theorem dX9_move_114 : decode cX9_move 114 = .ok (.getfield 309, 3) := by decide +kernel
theorem dX9_move_117 : decode cX9_move 117 = .ok (.iload 4, 2) := by decide +kernel
theorem dX9_move_119 : decode cX9_move 119 = .ok (.iload 5, 2) := by decide +kernel
theorem dX9_move_121 : decode cX9_move 121 = .ok (.invokestatic 312, 3) := by decide +kernel
theorem dX9_move_124 : decode cX9_move 124 = .ok (.iload 5, 2) := by decide +kernel
theorem dX9_move_126 : decode cX9_move 126 = .ok (.ireturn, 1) := by decide +kernel
theorem dX9_image_0 : decode cX9_image 0 = .ok (.aload_n 0, 1) := by decide +kernel
theorem dX9_image_1 : decode cX9_image 1 = .ok (.getfield 16, 3) := by decide +kernel
theorem dX9_image_4 : decode cX9_image 4 = .ok (.aload_n 0, 1) := by decide +kernel
theorem dX9_image_5 : decode cX9_image 5 = .ok (.getfield 10, 3) := by decide +kernel
theorem dX9_image_8 : decode cX9_image 8 = .ok (.invokevirtual 318, 3) := by decide +kernel
theorem dX9_image_11 : decode cX9_image 11 = .ok (.aload_n 0, 1) := by decide +kernel
theorem dX9_image_12 : decode cX9_image 12 = .ok (.dup, 1) := by decide +kernel
theorem dX9_image_13 : decode cX9_image 13 = .ok (.getfield 322, 3) := by decide +kernel
theorem dX9_image_16 : decode cX9_image 16 = .ok (.iconst 1, 1) := by decide +kernel
theorem dX9_image_17 : decode cX9_image 17 = .ok (.iadd, 1) := by decide +kernel
theorem dX9_image_18 : decode cX9_image 18 = .ok (.putfield 322, 3) := by decide +kernel
theorem dX9_image_21 : decode cX9_image 21 = .ok (.aload_n 0, 1) := by decide +kernel
theorem dX9_image_22 : decode cX9_image 22 = .ok (.getfield 322, 3) := by decide +kernel
theorem dX9_image_25 : decode cX9_image 25 = .ok (.ireturn, 1) := by decide +kernel
theorem dX9_restore_0 : decode cX9_restore 0 = .ok (.aload_n 0, 1) := by decide +kernel
theorem dX9_restore_1 : decode cX9_restore 1 = .ok (.getfield 322, 3) := by decide +kernel
theorem dX9_restore_4 : decode cX9_restore 4 = .ok (.ifCond .ne 9, 3) := by decide +kernel
theorem dX9_restore_7 : decode cX9_restore 7 = .ok (.aload_n 0, 1) := by decide +kernel
theorem dX9_restore_8 : decode cX9_restore 8 = .ok (.iconst 2, 1) := by decide +kernel
theorem dX9_restore_9 : decode cX9_restore 9 = .ok (.invokevirtual 61, 3) := by decide +kernel
theorem dX9_restore_12 : decode cX9_restore 12 = .ok (.ireturn, 1) := by decide +kernel
theorem dX9_restore_13 : decode cX9_restore 13 = .ok (.aload_n 0, 1) := by decide +kernel
theorem dX9_restore_14 : decode cX9_restore 14 = .ok (.getfield 10, 3) := by decide +kernel
theorem dX9_restore_17 : decode cX9_restore 17 = .ok (.aload_n 0, 1) := by decide +kernel
theorem dX9_restore_18 : decode cX9_restore 18 = .ok (.getfield 16, 3) := by decide +kernel
theorem dX9_restore_21 : decode cX9_restore 21 = .ok (.invokevirtual 318, 3) := by decide +kernel
theorem dX9_restore_24 : decode cX9_restore 24 = .ok (.aload_n 0, 1) := by decide +kernel
theorem dX9_restore_25 : decode cX9_restore 25 = .ok (.getfield 10, 3) := by decide +kernel
theorem dX9_restore_28 : decode cX9_restore 28 = .ok (.getfield 118, 3) := by decide +kernel
theorem dX9_restore_31 : decode cX9_restore 31 = .ok (.ireturn, 1) := by decide +kernel
theorem dX9_told_0 : decode cX9_told 0 = .ok (.iload_n 1, 1) := by decide +kernel
theorem dX9_told_1 : decode cX9_told 1 = .ok (.tableswitch 177 0 11 #[63, 71, 82, 93, 101, 109, 120, 131, 142, 153, 161, 169], 63) := by decide +kernel
theorem dX9_told_64 : decode cX9_told 64 = .ok (.aload_n 0, 1) := by decide +kernel
theorem dX9_told_65 : decode cX9_told 65 = .ok (.getfield 10, 3) := by decide +kernel
theorem dX9_told_68 : decode cX9_told 68 = .ok (.getfield 65, 3) := by decide +kernel
theorem dX9_told_71 : decode cX9_told 71 = .ok (.ireturn, 1) := by decide +kernel
theorem dX9_told_72 : decode cX9_told 72 = .ok (.aload_n 0, 1) := by decide +kernel
theorem dX9_told_73 : decode cX9_told 73 = .ok (.getfield 10, 3) := by decide +kernel
theorem dX9_told_76 : decode cX9_told 76 = .ok (.getfield 161, 3) := by decide +kernel
theorem dX9_told_79 : decode cX9_told 79 = .ok (.getfield 165, 3) := by decide +kernel
theorem dX9_told_82 : decode cX9_told 82 = .ok (.ireturn, 1) := by decide +kernel
theorem dX9_told_83 : decode cX9_told 83 = .ok (.aload_n 0, 1) := by decide +kernel
theorem dX9_told_84 : decode cX9_told 84 = .ok (.getfield 10, 3) := by decide +kernel
theorem dX9_told_87 : decode cX9_told 87 = .ok (.getfield 114, 3) := by decide +kernel
theorem dX9_told_90 : decode cX9_told 90 = .ok (.getfield 214, 3) := by decide +kernel
theorem dX9_told_93 : decode cX9_told 93 = .ok (.ireturn, 1) := by decide +kernel
theorem dX9_told_94 : decode cX9_told 94 = .ok (.aload_n 0, 1) := by decide +kernel
theorem dX9_told_95 : decode cX9_told 95 = .ok (.getfield 10, 3) := by decide +kernel
theorem dX9_told_98 : decode cX9_told 98 = .ok (.getfield 118, 3) := by decide +kernel
theorem dX9_told_101 : decode cX9_told 101 = .ok (.ireturn, 1) := by decide +kernel
theorem dX9_told_102 : decode cX9_told 102 = .ok (.aload_n 0, 1) := by decide +kernel
theorem dX9_told_103 : decode cX9_told 103 = .ok (.getfield 10, 3) := by decide +kernel
theorem dX9_told_106 : decode cX9_told 106 = .ok (.getfield 201, 3) := by decide +kernel
theorem dX9_told_109 : decode cX9_told 109 = .ok (.ireturn, 1) := by decide +kernel
theorem dX9_told_110 : decode cX9_told 110 = .ok (.aload_n 0, 1) := by decide +kernel
theorem dX9_told_111 : decode cX9_told 111 = .ok (.getfield 10, 3) := by decide +kernel
theorem dX9_told_114 : decode cX9_told 114 = .ok (.getfield 237, 3) := by decide +kernel
theorem dX9_told_117 : decode cX9_told 117 = .ok (.getfield 241, 3) := by decide +kernel
theorem dX9_told_120 : decode cX9_told 120 = .ok (.ireturn, 1) := by decide +kernel
theorem dX9_told_121 : decode cX9_told 121 = .ok (.aload_n 0, 1) := by decide +kernel
theorem dX9_told_122 : decode cX9_told 122 = .ok (.getfield 10, 3) := by decide +kernel
theorem dX9_told_125 : decode cX9_told 125 = .ok (.getfield 192, 3) := by decide +kernel
theorem dX9_told_128 : decode cX9_told 128 = .ok (.getfield 325, 3) := by decide +kernel
theorem dX9_told_131 : decode cX9_told 131 = .ok (.ireturn, 1) := by decide +kernel
theorem dX9_told_132 : decode cX9_told 132 = .ok (.aload_n 0, 1) := by decide +kernel
theorem dX9_told_133 : decode cX9_told 133 = .ok (.getfield 10, 3) := by decide +kernel
theorem dX9_told_136 : decode cX9_told 136 = .ok (.getfield 192, 3) := by decide +kernel
theorem dX9_told_139 : decode cX9_told 139 = .ok (.getfield 326, 3) := by decide +kernel
theorem dX9_told_142 : decode cX9_told 142 = .ok (.ireturn, 1) := by decide +kernel
theorem dX9_told_143 : decode cX9_told 143 = .ok (.aload_n 0, 1) := by decide +kernel
theorem dX9_told_144 : decode cX9_told 144 = .ok (.getfield 10, 3) := by decide +kernel
theorem dX9_told_147 : decode cX9_told 147 = .ok (.getfield 192, 3) := by decide +kernel
theorem dX9_told_150 : decode cX9_told 150 = .ok (.getfield 329, 3) := by decide +kernel
theorem dX9_told_153 : decode cX9_told 153 = .ok (.ireturn, 1) := by decide +kernel
theorem dX9_told_154 : decode cX9_told 154 = .ok (.aload_n 0, 1) := by decide +kernel
theorem dX9_told_155 : decode cX9_told 155 = .ok (.getfield 10, 3) := by decide +kernel
theorem dX9_told_158 : decode cX9_told 158 = .ok (.invokevirtual 332, 3) := by decide +kernel
theorem dX9_told_161 : decode cX9_told 161 = .ok (.ireturn, 1) := by decide +kernel
theorem dX9_told_162 : decode cX9_told 162 = .ok (.aload_n 0, 1) := by decide +kernel
theorem dX9_told_163 : decode cX9_told 163 = .ok (.getfield 10, 3) := by decide +kernel
theorem dX9_told_166 : decode cX9_told 166 = .ok (.invokevirtual 335, 3) := by decide +kernel
theorem dX9_told_169 : decode cX9_told 169 = .ok (.ireturn, 1) := by decide +kernel
theorem dX9_told_170 : decode cX9_told 170 = .ok (.aload_n 0, 1) := by decide +kernel
theorem dX9_told_171 : decode cX9_told 171 = .ok (.getfield 36, 3) := by decide +kernel
theorem dX9_told_174 : decode cX9_told 174 = .ok (.getfield 289, 3) := by decide +kernel
theorem dX9_told_177 : decode cX9_told 177 = .ok (.ireturn, 1) := by decide +kernel
theorem dX9_told_178 : decode cX9_told 178 = .ok (.aload_n 0, 1) := by decide +kernel
theorem dX9_told_179 : decode cX9_told 179 = .ok (.iconst 1, 1) := by decide +kernel
theorem dX9_told_180 : decode cX9_told 180 = .ok (.invokevirtual 61, 3) := by decide +kernel
theorem dX9_told_183 : decode cX9_told 183 = .ok (.ireturn, 1) := by decide +kernel
theorem dX9_found_0 : decode cX9_found 0 = .ok (.iload_n 1, 1) := by decide +kernel
theorem dX9_found_1 : decode cX9_found 1 = .ok (.iconst 1, 1) := by decide +kernel
theorem dX9_found_2 : decode cX9_found 2 = .ok (.if_icmp .lt 8, 3) := by decide +kernel
theorem dX9_found_5 : decode cX9_found 5 = .ok (.iload_n 1, 1) := by decide +kernel
theorem dX9_found_6 : decode cX9_found 6 = .ok (.iconst 5, 1) := by decide +kernel
theorem dX9_found_7 : decode cX9_found 7 = .ok (.if_icmp .le 9, 3) := by decide +kernel
theorem dX9_found_10 : decode cX9_found 10 = .ok (.aload_n 0, 1) := by decide +kernel
theorem dX9_found_11 : decode cX9_found 11 = .ok (.iconst 1, 1) := by decide +kernel
theorem dX9_found_12 : decode cX9_found 12 = .ok (.invokevirtual 61, 3) := by decide +kernel
theorem dX9_found_15 : decode cX9_found 15 = .ok (.ireturn, 1) := by decide +kernel
theorem dX9_found_16 : decode cX9_found 16 = .ok (.aload_n 0, 1) := by decide +kernel
theorem dX9_found_17 : decode cX9_found 17 = .ok (.getfield 46, 3) := by decide +kernel
theorem dX9_found_20 : decode cX9_found 20 = .ok (.iload_n 1, 1) := by decide +kernel
theorem dX9_found_21 : decode cX9_found 21 = .ok (.iaload, 1) := by decide +kernel
theorem dX9_found_22 : decode cX9_found 22 = .ok (.ireturn, 1) := by decide +kernel
theorem dX9_finding_0 : decode cX9_finding 0 = .ok (.iload_n 1, 1) := by decide +kernel
theorem dX9_finding_1 : decode cX9_finding 1 = .ok (.ifCond .lt 22, 3) := by decide +kernel
theorem dX9_finding_4 : decode cX9_finding 4 = .ok (.iload_n 1, 1) := by decide +kernel
theorem dX9_finding_5 : decode cX9_finding 5 = .ok (.aload_n 0, 1) := by decide +kernel
theorem dX9_finding_6 : decode cX9_finding 6 = .ok (.getfield 46, 3) := by decide +kernel
theorem dX9_finding_9 : decode cX9_finding 9 = .ok (.arraylength, 1) := by decide +kernel
theorem dX9_finding_10 : decode cX9_finding 10 = .ok (.if_icmp .ge 13, 3) := by decide +kernel
theorem dX9_finding_13 : decode cX9_finding 13 = .ok (.aload_n 0, 1) := by decide +kernel
theorem dX9_finding_14 : decode cX9_finding 14 = .ok (.getfield 46, 3) := by decide +kernel
theorem dX9_finding_17 : decode cX9_finding 17 = .ok (.iload_n 1, 1) := by decide +kernel
theorem dX9_finding_18 : decode cX9_finding 18 = .ok (.dup2, 1) := by decide +kernel
theorem dX9_finding_19 : decode cX9_finding 19 = .ok (.iaload, 1) := by decide +kernel
theorem dX9_finding_20 : decode cX9_finding 20 = .ok (.iconst 1, 1) := by decide +kernel
theorem dX9_finding_21 : decode cX9_finding 21 = .ok (.iadd, 1) := by decide +kernel
theorem dX9_finding_22 : decode cX9_finding 22 = .ok (.iastore, 1) := by decide +kernel
theorem dX9_finding_23 : decode cX9_finding 23 = .ok (.ldc_w 338, 3) := by decide +kernel
theorem dX9_finding_26 : decode cX9_finding 26 = .ok (.iload_n 1, 1) := by decide +kernel
theorem dX9_finding_27 : decode cX9_finding 27 = .ok (.isub, 1) := by decide +kernel
theorem dX9_finding_28 : decode cX9_finding 28 = .ok (.ireturn, 1) := by decide +kernel
theorem dX9_isHolding_0 : decode cX9_isHolding 0 = .ok (.aload_n 0, 1) := by decide +kernel
theorem dX9_isHolding_1 : decode cX9_isHolding 1 = .ok (.getfield 10, 3) := by decide +kernel
theorem dX9_isHolding_4 : decode cX9_isHolding 4 = .ok (.iload_n 1, 1) := by decide +kernel
theorem dX9_isHolding_5 : decode cX9_isHolding 5 = .ok (.invokevirtual 73, 3) := by decide +kernel
theorem dX9_isHolding_8 : decode cX9_isHolding 8 = .ok (.ifCond .eq 43, 3) := by decide +kernel
theorem dX9_isHolding_11 : decode cX9_isHolding 11 = .ok (.iload_n 2, 1) := by decide +kernel
theorem dX9_isHolding_12 : decode cX9_isHolding 12 = .ok (.invokestatic 293, 3) := by decide +kernel
theorem dX9_isHolding_15 : decode cX9_isHolding 15 = .ok (.ifCond .eq 36, 3) := by decide +kernel
theorem dX9_isHolding_18 : decode cX9_isHolding 18 = .ok (.iload_n 3, 1) := by decide +kernel
theorem dX9_isHolding_19 : decode cX9_isHolding 19 = .ok (.iconst 1, 1) := by decide +kernel
theorem dX9_isHolding_20 : decode cX9_isHolding 20 = .ok (.if_icmp .lt 31, 3) := by decide +kernel
theorem dX9_isHolding_23 : decode cX9_isHolding 23 = .ok (.iload_n 3, 1) := by decide +kernel
theorem dX9_isHolding_24 : decode cX9_isHolding 24 = .ok (.bipush 7, 2) := by decide +kernel
theorem dX9_isHolding_26 : decode cX9_isHolding 26 = .ok (.if_icmp .gt 25, 3) := by decide +kernel
theorem dX9_isHolding_29 : decode cX9_isHolding 29 = .ok (.aload_n 0, 1) := by decide +kernel
theorem dX9_isHolding_30 : decode cX9_isHolding 30 = .ok (.getfield 10, 3) := by decide +kernel
theorem dX9_isHolding_33 : decode cX9_isHolding 33 = .ok (.getfield 118, 3) := by decide +kernel
theorem dX9_isHolding_36 : decode cX9_isHolding 36 = .ok (.bipush 24, 2) := by decide +kernel
theorem dX9_isHolding_38 : decode cX9_isHolding 38 = .ok (.iload_n 3, 1) := by decide +kernel
theorem dX9_isHolding_39 : decode cX9_isHolding 39 = .ok (.imul, 1) := by decide +kernel
theorem dX9_isHolding_40 : decode cX9_isHolding 40 = .ok (.iadd, 1) := by decide +kernel
theorem dX9_isHolding_41 : decode cX9_isHolding 41 = .ok (.sipush 9000, 3) := by decide +kernel
theorem dX9_isHolding_44 : decode cX9_isHolding 44 = .ok (.if_icmp .gt 7, 3) := by decide +kernel
theorem dX9_isHolding_47 : decode cX9_isHolding 47 = .ok (.iconst 1, 1) := by decide +kernel
theorem dX9_isHolding_48 : decode cX9_isHolding 48 = .ok (.goto 4, 3) := by decide +kernel
theorem dX9_isHolding_51 : decode cX9_isHolding 51 = .ok (.iconst 0, 1) := by decide +kernel
theorem dX9_isHolding_52 : decode cX9_isHolding 52 = .ok (.ireturn, 1) := by decide +kernel
theorem dX9_darkMore_0 : decode cX9_darkMore 0 = .ok (.aload_n 0, 1) := by decide +kernel
theorem dX9_darkMore_1 : decode cX9_darkMore 1 = .ok (.getfield 22, 3) := by decide +kernel
theorem dX9_darkMore_4 : decode cX9_darkMore 4 = .ok (.aload_n 1, 1) := by decide +kernel
theorem dX9_darkMore_5 : decode cX9_darkMore 5 = .ok (.invokevirtual 339, 3) := by decide +kernel
theorem dX9_darkMore_8 : decode cX9_darkMore 8 = .ok (.aload_n 0, 1) := by decide +kernel
theorem dX9_darkMore_9 : decode cX9_darkMore 9 = .ok (.getfield 22, 3) := by decide +kernel
theorem dX9_darkMore_12 : decode cX9_darkMore 12 = .ok (.iload 4, 2) := by decide +kernel
theorem dX9_darkMore_14 : decode cX9_darkMore 14 = .ok (.putfield 92, 3) := by decide +kernel
theorem dX9_darkMore_17 : decode cX9_darkMore 17 = .ok (.iconst 0, 1) := by decide +kernel
theorem dX9_darkMore_18 : decode cX9_darkMore 18 = .ok (.istore 6, 2) := by decide +kernel
theorem dX9_darkMore_20 : decode cX9_darkMore 20 = .ok (.iload 6, 2) := by decide +kernel
theorem dX9_darkMore_22 : decode cX9_darkMore 22 = .ok (.bipush 24, 2) := by decide +kernel
theorem dX9_darkMore_24 : decode cX9_darkMore 24 = .ok (.iload_n 3, 1) := by decide +kernel
theorem dX9_darkMore_25 : decode cX9_darkMore 25 = .ok (.imul, 1) := by decide +kernel
theorem dX9_darkMore_26 : decode cX9_darkMore 26 = .ok (.if_icmp .ge 106, 3) := by decide +kernel
theorem dX9_darkMore_29 : decode cX9_darkMore 29 = .ok (.aload_n 0, 1) := by decide +kernel
theorem dX9_darkMore_30 : decode cX9_darkMore 30 = .ok (.getfield 22, 3) := by decide +kernel
theorem dX9_darkMore_33 : decode cX9_darkMore 33 = .ok (.getfield 108, 3) := by decide +kernel
theorem dX9_darkMore_36 : decode cX9_darkMore 36 = .ok (.aload_n 1, 1) := by decide +kernel
theorem dX9_darkMore_37 : decode cX9_darkMore 37 = .ok (.getfield 108, 3) := by decide +kernel
theorem dX9_darkMore_40 : decode cX9_darkMore 40 = .ok (.isub, 1) := by decide +kernel
theorem dX9_darkMore_41 : decode cX9_darkMore 41 = .ok (.iload 5, 2) := by decide +kernel
theorem dX9_darkMore_43 : decode cX9_darkMore 43 = .ok (.if_icmp .ge 89, 3) := by decide +kernel
theorem dX9_darkMore_46 : decode cX9_darkMore 46 = .ok (.iload 6, 2) := by decide +kernel
theorem dX9_darkMore_48 : decode cX9_darkMore 48 = .ok (.bipush 24, 2) := by decide +kernel
theorem dX9_darkMore_50 : decode cX9_darkMore 50 = .ok (.idiv, 1) := by decide +kernel
theorem dX9_darkMore_51 : decode cX9_darkMore 51 = .ok (.istore 7, 2) := by decide +kernel
theorem dX9_darkMore_53 : decode cX9_darkMore 53 = .ok (.iload 6, 2) := by decide +kernel
theorem dX9_darkMore_55 : decode cX9_darkMore 55 = .ok (.bipush 24, 2) := by decide +kernel
theorem dX9_darkMore_57 : decode cX9_darkMore 57 = .ok (.irem, 1) := by decide +kernel
theorem dX9_darkMore_58 : decode cX9_darkMore 58 = .ok (.ifCond .ne 46, 3) := by decide +kernel
theorem dX9_darkMore_61 : decode cX9_darkMore 61 = .ok (.aload_n 2, 1) := by decide +kernel
theorem dX9_darkMore_62 : decode cX9_darkMore 62 = .ok (.iload 7, 2) := by decide +kernel
theorem dX9_darkMore_64 : decode cX9_darkMore 64 = .ok (.invokevirtual 342, 3) := by decide +kernel
theorem dX9_darkMore_67 : decode cX9_darkMore 67 = .ok (.ifCond .le 37, 3) := by decide +kernel
theorem dX9_darkMore_70 : decode cX9_darkMore 70 = .ok (.aload_n 0, 1) := by decide +kernel
theorem dX9_darkMore_71 : decode cX9_darkMore 71 = .ok (.getfield 10, 3) := by decide +kernel
theorem dX9_darkMore_74 : decode cX9_darkMore 74 = .ok (.aload_n 0, 1) := by decide +kernel
theorem dX9_darkMore_75 : decode cX9_darkMore 75 = .ok (.getfield 22, 3) := by decide +kernel
theorem dX9_darkMore_78 : decode cX9_darkMore 78 = .ok (.aload_n 0, 1) := by decide +kernel
theorem dX9_darkMore_79 : decode cX9_darkMore 79 = .ok (.getfield 10, 3) := by decide +kernel
theorem dX9_darkMore_82 : decode cX9_darkMore 82 = .ok (.getfield 118, 3) := by decide +kernel
theorem dX9_darkMore_85 : decode cX9_darkMore 85 = .ok (.iload 6, 2) := by decide +kernel
theorem dX9_darkMore_87 : decode cX9_darkMore 87 = .ok (.iadd, 1) := by decide +kernel
theorem dX9_darkMore_88 : decode cX9_darkMore 88 = .ok (.aload_n 2, 1) := by decide +kernel
theorem dX9_darkMore_89 : decode cX9_darkMore 89 = .ok (.iload 7, 2) := by decide +kernel
theorem dX9_darkMore_91 : decode cX9_darkMore 91 = .ok (.invokevirtual 342, 3) := by decide +kernel
theorem dX9_darkMore_94 : decode cX9_darkMore 94 = .ok (.sipush 9999, 3) := by decide +kernel
theorem dX9_darkMore_97 : decode cX9_darkMore 97 = .ok (.invokestatic 345, 3) := by decide +kernel
theorem dX9_darkMore_100 : decode cX9_darkMore 100 = .ok (.invokevirtual 188, 3) := by decide +kernel
theorem dX9_darkMore_103 : decode cX9_darkMore 103 = .ok (.pop, 1) := by decide +kernel
theorem dX9_darkMore_104 : decode cX9_darkMore 104 = .ok (.aload_n 0, 1) := by decide +kernel
theorem dX9_darkMore_105 : decode cX9_darkMore 105 = .ok (.getfield 10, 3) := by decide +kernel
theorem dX9_darkMore_108 : decode cX9_darkMore 108 = .ok (.aload_n 0, 1) := by decide +kernel
theorem dX9_darkMore_109 : decode cX9_darkMore 109 = .ok (.getfield 22, 3) := by decide +kernel
theorem dX9_darkMore_112 : decode cX9_darkMore 112 = .ok (.aload_n 0, 1) := by decide +kernel
theorem dX9_darkMore_113 : decode cX9_darkMore 113 = .ok (.getfield 10, 3) := by decide +kernel
theorem dX9_darkMore_116 : decode cX9_darkMore 116 = .ok (.getfield 118, 3) := by decide +kernel
theorem dX9_darkMore_119 : decode cX9_darkMore 119 = .ok (.iload 6, 2) := by decide +kernel
theorem dX9_darkMore_121 : decode cX9_darkMore 121 = .ok (.iadd, 1) := by decide +kernel
theorem dX9_darkMore_122 : decode cX9_darkMore 122 = .ok (.invokevirtual 348, 3) := by decide +kernel
theorem dX9_darkMore_125 : decode cX9_darkMore 125 = .ok (.pop, 1) := by decide +kernel
theorem dX9_darkMore_126 : decode cX9_darkMore 126 = .ok (.iinc 6 1, 3) := by decide +kernel
theorem dX9_darkMore_129 : decode cX9_darkMore 129 = .ok (.goto (-109), 3) := by decide +kernel
theorem dX9_darkMore_132 : decode cX9_darkMore 132 = .ok (.aload_n 0, 1) := by decide +kernel
theorem dX9_darkMore_133 : decode cX9_darkMore 133 = .ok (.getfield 22, 3) := by decide +kernel
theorem dX9_darkMore_136 : decode cX9_darkMore 136 = .ok (.getfield 108, 3) := by decide +kernel
theorem dX9_darkMore_139 : decode cX9_darkMore 139 = .ok (.aload_n 1, 1) := by decide +kernel
theorem dX9_darkMore_140 : decode cX9_darkMore 140 = .ok (.getfield 108, 3) := by decide +kernel
theorem dX9_darkMore_143 : decode cX9_darkMore 143 = .ok (.isub, 1) := by decide +kernel
theorem dX9_darkMore_144 : decode cX9_darkMore 144 = .ok (.ireturn, 1) := by decide +kernel
theorem dX9_findNear_0 : decode cX9_findNear 0 = .ok (.iconst 0, 1) := by decide +kernel
theorem dX9_findNear_1 : decode cX9_findNear 1 = .ok (.istore_n 3, 1) := by decide +kernel
theorem dX9_findNear_2 : decode cX9_findNear 2 = .ok (.iload_n 3, 1) := by decide +kernel
theorem dX9_findNear_3 : decode cX9_findNear 3 = .ok (.aload_n 0, 1) := by decide +kernel
theorem dX9_findNear_4 : decode cX9_findNear 4 = .ok (.getfield 10, 3) := by decide +kernel
theorem dX9_findNear_7 : decode cX9_findNear 7 = .ok (.getfield 65, 3) := by decide +kernel
theorem dX9_findNear_10 : decode cX9_findNear 10 = .ok (.if_icmp .ge 36, 3) := by decide +kernel
theorem dX9_findNear_13 : decode cX9_findNear 13 = .ok (.aload_n 0, 1) := by decide +kernel
theorem dX9_findNear_14 : decode cX9_findNear 14 = .ok (.getfield 50, 3) := by decide +kernel
theorem dX9_findNear_17 : decode cX9_findNear 17 = .ok (.iload_n 3, 1) := by decide +kernel
theorem dX9_findNear_18 : decode cX9_findNear 18 = .ok (.aload_n 0, 1) := by decide +kernel
theorem dX9_findNear_19 : decode cX9_findNear 19 = .ok (.getfield 10, 3) := by decide +kernel
theorem dX9_findNear_22 : decode cX9_findNear 22 = .ok (.getfield 161, 3) := by decide +kernel
theorem dX9_findNear_25 : decode cX9_findNear 25 = .ok (.aload_n 0, 1) := by decide +kernel
theorem dX9_findNear_26 : decode cX9_findNear 26 = .ok (.getfield 10, 3) := by decide +kernel
theorem dX9_findNear_29 : decode cX9_findNear 29 = .ok (.getfield 76, 3) := by decide +kernel
theorem dX9_findNear_32 : decode cX9_findNear 32 = .ok (.iload_n 3, 1) := by decide +kernel
theorem dX9_findNear_33 : decode cX9_findNear 33 = .ok (.aaload, 1) := by decide +kernel
theorem dX9_findNear_34 : decode cX9_findNear 34 = .ok (.iload_n 1, 1) := by decide +kernel
theorem dX9_findNear_35 : decode cX9_findNear 35 = .ok (.iload_n 2, 1) := by decide +kernel
theorem dX9_findNear_36 : decode cX9_findNear 36 = .ok (.invokevirtual 351, 3) := by decide +kernel
theorem dX9_findNear_39 : decode cX9_findNear 39 = .ok (.iastore, 1) := by decide +kernel
theorem dX9_findNear_40 : decode cX9_findNear 40 = .ok (.iinc 3 1, 3) := by decide +kernel
theorem dX9_findNear_43 : decode cX9_findNear 43 = .ok (.goto (-41), 3) := by decide +kernel
theorem dX9_findNear_46 : decode cX9_findNear 46 = .ok (.return_, 1) := by decide +kernel
theorem dX9_servesAll_0 : decode cX9_servesAll 0 = .ok (.iconst 0, 1) := by decide +kernel
theorem dX9_servesAll_1 : decode cX9_servesAll 1 = .ok (.istore_n 2, 1) := by decide +kernel
theorem dX9_servesAll_2 : decode cX9_servesAll 2 = .ok (.iload_n 2, 1) := by decide +kernel
theorem dX9_servesAll_3 : decode cX9_servesAll 3 = .ok (.aload_n 0, 1) := by decide +kernel
theorem dX9_servesAll_4 : decode cX9_servesAll 4 = .ok (.getfield 10, 3) := by decide +kernel
theorem dX9_servesAll_7 : decode cX9_servesAll 7 = .ok (.getfield 65, 3) := by decide +kernel
theorem dX9_servesAll_10 : decode cX9_servesAll 10 = .ok (.if_icmp .ge 31, 3) := by decide +kernel
theorem dX9_servesAll_13 : decode cX9_servesAll 13 = .ok (.aload_n 0, 1) := by decide +kernel
theorem dX9_servesAll_14 : decode cX9_servesAll 14 = .ok (.getfield 50, 3) := by decide +kernel
theorem dX9_servesAll_17 : decode cX9_servesAll 17 = .ok (.iload_n 2, 1) := by decide +kernel
theorem dX9_servesAll_18 : decode cX9_servesAll 18 = .ok (.iaload, 1) := by decide +kernel
theorem dX9_servesAll_19 : decode cX9_servesAll 19 = .ok (.ifCond .eq 16, 3) := by decide +kernel
theorem dX9_servesAll_22 : decode cX9_servesAll 22 = .ok (.aload_n 0, 1) := by decide +kernel
theorem dX9_servesAll_23 : decode cX9_servesAll 23 = .ok (.getfield 50, 3) := by decide +kernel
theorem dX9_servesAll_26 : decode cX9_servesAll 26 = .ok (.iload_n 2, 1) := by decide +kernel
theorem dX9_servesAll_27 : decode cX9_servesAll 27 = .ok (.iaload, 1) := by decide +kernel
theorem dX9_servesAll_28 : decode cX9_servesAll 28 = .ok (.iload_n 1, 1) := by decide +kernel
theorem dX9_servesAll_29 : decode cX9_servesAll 29 = .ok (.iand, 1) := by decide +kernel
theorem dX9_servesAll_30 : decode cX9_servesAll 30 = .ok (.ifCond .ne 5, 3) := by decide +kernel
theorem dX9_servesAll_33 : decode cX9_servesAll 33 = .ok (.iconst 0, 1) := by decide +kernel
theorem dX9_servesAll_34 : decode cX9_servesAll 34 = .ok (.ireturn, 1) := by decide +kernel
theorem dX9_servesAll_35 : decode cX9_servesAll 35 = .ok (.iinc 2 1, 3) := by decide +kernel
theorem dX9_servesAll_38 : decode cX9_servesAll 38 = .ok (.goto (-36), 3) := by decide +kernel
theorem dX9_servesAll_41 : decode cX9_servesAll 41 = .ok (.iconst 1, 1) := by decide +kernel
theorem dX9_servesAll_42 : decode cX9_servesAll 42 = .ok (.ireturn, 1) := by decide +kernel
theorem dX9_isKind_0 : decode cX9_isKind 0 = .ok (.iload_n 0, 1) := by decide +kernel
theorem dX9_isKind_1 : decode cX9_isKind 1 = .ok (.ifCond .lt 13, 3) := by decide +kernel
theorem dX9_isKind_4 : decode cX9_isKind 4 = .ok (.iload_n 0, 1) := by decide +kernel
theorem dX9_isKind_5 : decode cX9_isKind 5 = .ok (.bipush 6, 2) := by decide +kernel
theorem dX9_isKind_7 : decode cX9_isKind 7 = .ok (.if_icmp .ge 7, 3) := by decide +kernel
theorem dX9_isKind_10 : decode cX9_isKind 10 = .ok (.iconst 1, 1) := by decide +kernel
theorem dX9_isKind_11 : decode cX9_isKind 11 = .ok (.goto 4, 3) := by decide +kernel
theorem dX9_isKind_14 : decode cX9_isKind 14 = .ok (.iconst 0, 1) := by decide +kernel
theorem dX9_isKind_15 : decode cX9_isKind 15 = .ok (.ireturn, 1) := by decide +kernel
theorem dX9_isPlace_0 : decode cX9_isPlace 0 = .ok (.iload_n 0, 1) := by decide +kernel
theorem dX9_isPlace_1 : decode cX9_isPlace 1 = .ok (.ifCond .lt 25, 3) := by decide +kernel
theorem dX9_isPlace_4 : decode cX9_isPlace 4 = .ok (.iload_n 0, 1) := by decide +kernel
theorem dX9_isPlace_5 : decode cX9_isPlace 5 = .ok (.bipush 100, 2) := by decide +kernel
theorem dX9_isPlace_7 : decode cX9_isPlace 7 = .ok (.idiv, 1) := by decide +kernel
theorem dX9_isPlace_8 : decode cX9_isPlace 8 = .ok (.bipush 30, 2) := by decide +kernel
theorem dX9_isPlace_10 : decode cX9_isPlace 10 = .ok (.if_icmp .gt 16, 3) := by decide +kernel
theorem dX9_isPlace_13 : decode cX9_isPlace 13 = .ok (.iload_n 0, 1) := by decide +kernel
theorem dX9_isPlace_14 : decode cX9_isPlace 14 = .ok (.bipush 100, 2) := by decide +kernel
theorem dX9_isPlace_16 : decode cX9_isPlace 16 = .ok (.irem, 1) := by decide +kernel
theorem dX9_isPlace_17 : decode cX9_isPlace 17 = .ok (.bipush 30, 2) := by decide +kernel
theorem dX9_isPlace_19 : decode cX9_isPlace 19 = .ok (.if_icmp .gt 7, 3) := by decide +kernel
theorem dX9_isPlace_22 : decode cX9_isPlace 22 = .ok (.iconst 1, 1) := by decide +kernel
theorem dX9_isPlace_23 : decode cX9_isPlace 23 = .ok (.goto 4, 3) := by decide +kernel
theorem dX9_isPlace_26 : decode cX9_isPlace 26 = .ok (.iconst 0, 1) := by decide +kernel
theorem dX9_isPlace_27 : decode cX9_isPlace 27 = .ok (.ireturn, 1) := by decide +kernel
theorem dX9_isOpening_0 : decode cX9_isOpening 0 = .ok (.iload_n 0, 1) := by decide +kernel
theorem dX9_isOpening_1 : decode cX9_isOpening 1 = .ok (.ifCond .lt 27, 3) := by decide +kernel
theorem dX9_isOpening_4 : decode cX9_isOpening 4 = .ok (.iload_n 0, 1) := by decide +kernel
theorem dX9_isOpening_5 : decode cX9_isOpening 5 = .ok (.bipush 100, 2) := by decide +kernel
theorem dX9_isOpening_7 : decode cX9_isOpening 7 = .ok (.irem, 1) := by decide +kernel
theorem dX9_isOpening_8 : decode cX9_isOpening 8 = .ok (.bipush 24, 2) := by decide +kernel
theorem dX9_isOpening_10 : decode cX9_isOpening 10 = .ok (.if_icmp .gt 18, 3) := by decide +kernel
theorem dX9_isOpening_13 : decode cX9_isOpening 13 = .ok (.iload_n 0, 1) := by decide +kernel
theorem dX9_isOpening_14 : decode cX9_isOpening 14 = .ok (.bipush 100, 2) := by decide +kernel
theorem dX9_isOpening_16 : decode cX9_isOpening 16 = .ok (.idiv, 1) := by decide +kernel
theorem dX9_isOpening_17 : decode cX9_isOpening 17 = .ok (.iload_n 0, 1) := by decide +kernel
theorem dX9_isOpening_18 : decode cX9_isOpening 18 = .ok (.bipush 100, 2) := by decide +kernel
