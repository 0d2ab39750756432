theorem dX5_init_31 : decode cX5_init 31 = .ok (.newarray .int, 2) := by decide +kernel
theorem dX5_init_33 : decode cX5_init 33 = .ok (.putfield 21, 3) := by decide +kernel
theorem dX5_init_36 : decode cX5_init 36 = .ok (.return_, 1) := by decide +kernel
theorem dX5_has_0 : decode cX5_has 0 = .ok (.iload_n 1, 1) := by decide +kernel
theorem dX5_has_1 : decode cX5_has 1 = .ok (.ifCond .lt 15, 3) := by decide +kernel
theorem dX5_has_4 : decode cX5_has 4 = .ok (.iload_n 1, 1) := by decide +kernel
theorem dX5_has_5 : decode cX5_has 5 = .ok (.aload_n 0, 1) := by decide +kernel
theorem dX5_has_6 : decode cX5_has 6 = .ok (.getfield 24, 3) := by decide +kernel
theorem dX5_has_9 : decode cX5_has 9 = .ok (.if_icmp .ge 7, 3) := by decide +kernel
theorem dX5_has_12 : decode cX5_has 12 = .ok (.iconst 1, 1) := by decide +kernel
theorem dX5_has_13 : decode cX5_has 13 = .ok (.goto 4, 3) := by decide +kernel
theorem dX5_has_16 : decode cX5_has 16 = .ok (.iconst 0, 1) := by decide +kernel
theorem dX5_has_17 : decode cX5_has 17 = .ok (.ireturn, 1) := by decide +kernel
theorem dX5_add_0 : decode cX5_add 0 = .ok (.aload_n 0, 1) := by decide +kernel
theorem dX5_add_1 : decode cX5_add 1 = .ok (.getfield 24, 3) := by decide +kernel
theorem dX5_add_4 : decode cX5_add 4 = .ok (.bipush 8, 2) := by decide +kernel
theorem dX5_add_6 : decode cX5_add 6 = .ok (.if_icmp .lt 5, 3) := by decide +kernel
theorem dX5_add_9 : decode cX5_add 9 = .ok (.iconst (-1), 1) := by decide +kernel
theorem dX5_add_10 : decode cX5_add 10 = .ok (.ireturn, 1) := by decide +kernel
theorem dX5_add_11 : decode cX5_add 11 = .ok (.aload_n 0, 1) := by decide +kernel
theorem dX5_add_12 : decode cX5_add 12 = .ok (.getfield 9, 3) := by decide +kernel
theorem dX5_add_15 : decode cX5_add 15 = .ok (.aload_n 0, 1) := by decide +kernel
theorem dX5_add_16 : decode cX5_add 16 = .ok (.getfield 24, 3) := by decide +kernel
theorem dX5_add_19 : decode cX5_add 19 = .ok (.iload_n 1, 1) := by decide +kernel
theorem dX5_add_20 : decode cX5_add 20 = .ok (.bipush 100, 2) := by decide +kernel
theorem dX5_add_22 : decode cX5_add 22 = .ok (.idiv, 1) := by decide +kernel
theorem dX5_add_23 : decode cX5_add 23 = .ok (.iastore, 1) := by decide +kernel
theorem dX5_add_24 : decode cX5_add 24 = .ok (.aload_n 0, 1) := by decide +kernel
theorem dX5_add_25 : decode cX5_add 25 = .ok (.getfield 15, 3) := by decide +kernel
theorem dX5_add_28 : decode cX5_add 28 = .ok (.aload_n 0, 1) := by decide +kernel
theorem dX5_add_29 : decode cX5_add 29 = .ok (.getfield 24, 3) := by decide +kernel
theorem dX5_add_32 : decode cX5_add 32 = .ok (.iload_n 1, 1) := by decide +kernel
theorem dX5_add_33 : decode cX5_add 33 = .ok (.bipush 100, 2) := by decide +kernel
theorem dX5_add_35 : decode cX5_add 35 = .ok (.irem, 1) := by decide +kernel
theorem dX5_add_36 : decode cX5_add 36 = .ok (.iastore, 1) := by decide +kernel
theorem dX5_add_37 : decode cX5_add 37 = .ok (.aload_n 0, 1) := by decide +kernel
theorem dX5_add_38 : decode cX5_add 38 = .ok (.getfield 18, 3) := by decide +kernel
theorem dX5_add_41 : decode cX5_add 41 = .ok (.aload_n 0, 1) := by decide +kernel
theorem dX5_add_42 : decode cX5_add 42 = .ok (.getfield 24, 3) := by decide +kernel
theorem dX5_add_45 : decode cX5_add 45 = .ok (.iload_n 2, 1) := by decide +kernel
theorem dX5_add_46 : decode cX5_add 46 = .ok (.bipush 100, 2) := by decide +kernel
theorem dX5_add_48 : decode cX5_add 48 = .ok (.idiv, 1) := by decide +kernel
theorem dX5_add_49 : decode cX5_add 49 = .ok (.iastore, 1) := by decide +kernel
theorem dX5_add_50 : decode cX5_add 50 = .ok (.aload_n 0, 1) := by decide +kernel
theorem dX5_add_51 : decode cX5_add 51 = .ok (.getfield 21, 3) := by decide +kernel
theorem dX5_add_54 : decode cX5_add 54 = .ok (.aload_n 0, 1) := by decide +kernel
theorem dX5_add_55 : decode cX5_add 55 = .ok (.getfield 24, 3) := by decide +kernel
theorem dX5_add_58 : decode cX5_add 58 = .ok (.iload_n 2, 1) := by decide +kernel
theorem dX5_add_59 : decode cX5_add 59 = .ok (.bipush 100, 2) := by decide +kernel
theorem dX5_add_61 : decode cX5_add 61 = .ok (.irem, 1) := by decide +kernel
theorem dX5_add_62 : decode cX5_add 62 = .ok (.iastore, 1) := by decide +kernel
theorem dX5_add_63 : decode cX5_add 63 = .ok (.aload_n 0, 1) := by decide +kernel
theorem dX5_add_64 : decode cX5_add 64 = .ok (.dup, 1) := by decide +kernel
theorem dX5_add_65 : decode cX5_add 65 = .ok (.getfield 24, 3) := by decide +kernel
theorem dX5_add_68 : decode cX5_add 68 = .ok (.iconst 1, 1) := by decide +kernel
theorem dX5_add_69 : decode cX5_add 69 = .ok (.iadd, 1) := by decide +kernel
theorem dX5_add_70 : decode cX5_add 70 = .ok (.putfield 24, 3) := by decide +kernel
theorem dX5_add_73 : decode cX5_add 73 = .ok (.aload_n 0, 1) := by decide +kernel
theorem dX5_add_74 : decode cX5_add 74 = .ok (.getfield 24, 3) := by decide +kernel
theorem dX5_add_77 : decode cX5_add 77 = .ok (.iconst 1, 1) := by decide +kernel
theorem dX5_add_78 : decode cX5_add 78 = .ok (.isub, 1) := by decide +kernel
theorem dX5_add_79 : decode cX5_add 79 = .ok (.ireturn, 1) := by decide +kernel
theorem dX5_isOpen_0 : decode cX5_isOpen 0 = .ok (.aload_n 0, 1) := by decide +kernel
theorem dX5_isOpen_1 : decode cX5_isOpen 1 = .ok (.iload_n 1, 1) := by decide +kernel
theorem dX5_isOpen_2 : decode cX5_isOpen 2 = .ok (.invokevirtual 28, 3) := by decide +kernel
theorem dX5_isOpen_5 : decode cX5_isOpen 5 = .ok (.ifCond .eq 27, 3) := by decide +kernel
theorem dX5_isOpen_8 : decode cX5_isOpen 8 = .ok (.iload_n 2, 1) := by decide +kernel
theorem dX5_isOpen_9 : decode cX5_isOpen 9 = .ok (.aload_n 0, 1) := by decide +kernel
theorem dX5_isOpen_10 : decode cX5_isOpen 10 = .ok (.getfield 18, 3) := by decide +kernel
theorem dX5_isOpen_13 : decode cX5_isOpen 13 = .ok (.iload_n 1, 1) := by decide +kernel
theorem dX5_isOpen_14 : decode cX5_isOpen 14 = .ok (.iaload, 1) := by decide +kernel
theorem dX5_isOpen_15 : decode cX5_isOpen 15 = .ok (.if_icmp .lt 17, 3) := by decide +kernel
theorem dX5_isOpen_18 : decode cX5_isOpen 18 = .ok (.iload_n 2, 1) := by decide +kernel
theorem dX5_isOpen_19 : decode cX5_isOpen 19 = .ok (.aload_n 0, 1) := by decide +kernel
theorem dX5_isOpen_20 : decode cX5_isOpen 20 = .ok (.getfield 21, 3) := by decide +kernel
theorem dX5_isOpen_23 : decode cX5_isOpen 23 = .ok (.iload_n 1, 1) := by decide +kernel
theorem dX5_isOpen_24 : decode cX5_isOpen 24 = .ok (.iaload, 1) := by decide +kernel
theorem dX5_isOpen_25 : decode cX5_isOpen 25 = .ok (.if_icmp .ge 7, 3) := by decide +kernel
theorem dX5_isOpen_28 : decode cX5_isOpen 28 = .ok (.iconst 1, 1) := by decide +kernel
theorem dX5_isOpen_29 : decode cX5_isOpen 29 = .ok (.goto 4, 3) := by decide +kernel
theorem dX5_isOpen_32 : decode cX5_isOpen 32 = .ok (.iconst 0, 1) := by decide +kernel
theorem dX5_isOpen_33 : decode cX5_isOpen 33 = .ok (.ireturn, 1) := by decide +kernel
theorem dX5_farFrom_0 : decode cX5_farFrom 0 = .ok (.aload_n 0, 1) := by decide +kernel
theorem dX5_farFrom_1 : decode cX5_farFrom 1 = .ok (.iload_n 1, 1) := by decide +kernel
theorem dX5_farFrom_2 : decode cX5_farFrom 2 = .ok (.invokevirtual 28, 3) := by decide +kernel
theorem dX5_farFrom_5 : decode cX5_farFrom 5 = .ok (.ifCond .eq 35, 3) := by decide +kernel
theorem dX5_farFrom_8 : decode cX5_farFrom 8 = .ok (.aload_n 0, 1) := by decide +kernel
theorem dX5_farFrom_9 : decode cX5_farFrom 9 = .ok (.getfield 9, 3) := by decide +kernel
theorem dX5_farFrom_12 : decode cX5_farFrom 12 = .ok (.iload_n 1, 1) := by decide +kernel
theorem dX5_farFrom_13 : decode cX5_farFrom 13 = .ok (.iaload, 1) := by decide +kernel
theorem dX5_farFrom_14 : decode cX5_farFrom 14 = .ok (.aload_n 2, 1) := by decide +kernel
theorem dX5_farFrom_15 : decode cX5_farFrom 15 = .ok (.getfield 32, 3) := by decide +kernel
theorem dX5_farFrom_18 : decode cX5_farFrom 18 = .ok (.isub, 1) := by decide +kernel
theorem dX5_farFrom_19 : decode cX5_farFrom 19 = .ok (.invokestatic 36, 3) := by decide +kernel
theorem dX5_farFrom_22 : decode cX5_farFrom 22 = .ok (.aload_n 0, 1) := by decide +kernel
theorem dX5_farFrom_23 : decode cX5_farFrom 23 = .ok (.getfield 15, 3) := by decide +kernel
theorem dX5_farFrom_26 : decode cX5_farFrom 26 = .ok (.iload_n 1, 1) := by decide +kernel
theorem dX5_farFrom_27 : decode cX5_farFrom 27 = .ok (.iaload, 1) := by decide +kernel
theorem dX5_farFrom_28 : decode cX5_farFrom 28 = .ok (.aload_n 2, 1) := by decide +kernel
theorem dX5_farFrom_29 : decode cX5_farFrom 29 = .ok (.getfield 42, 3) := by decide +kernel
theorem dX5_farFrom_32 : decode cX5_farFrom 32 = .ok (.isub, 1) := by decide +kernel
theorem dX5_farFrom_33 : decode cX5_farFrom 33 = .ok (.invokestatic 36, 3) := by decide +kernel
theorem dX5_farFrom_36 : decode cX5_farFrom 36 = .ok (.iadd, 1) := by decide +kernel
theorem dX5_farFrom_37 : decode cX5_farFrom 37 = .ok (.goto 6, 3) := by decide +kernel
theorem dX5_farFrom_40 : decode cX5_farFrom 40 = .ok (.sipush 9000, 3) := by decide +kernel
theorem dX5_farFrom_43 : decode cX5_farFrom 43 = .ok (.ireturn, 1) := by decide +kernel
theorem dX5_leastFar_0 : decode cX5_leastFar 0 = .ok (.iconst (-1), 1) := by decide +kernel
theorem dX5_leastFar_1 : decode cX5_leastFar 1 = .ok (.istore_n 3, 1) := by decide +kernel
theorem dX5_leastFar_2 : decode cX5_leastFar 2 = .ok (.iconst 0, 1) := by decide +kernel
theorem dX5_leastFar_3 : decode cX5_leastFar 3 = .ok (.istore 4, 2) := by decide +kernel
theorem dX5_leastFar_5 : decode cX5_leastFar 5 = .ok (.iload 4, 2) := by decide +kernel
theorem dX5_leastFar_7 : decode cX5_leastFar 7 = .ok (.aload_n 0, 1) := by decide +kernel
theorem dX5_leastFar_8 : decode cX5_leastFar 8 = .ok (.getfield 24, 3) := by decide +kernel
theorem dX5_leastFar_11 : decode cX5_leastFar 11 = .ok (.if_icmp .ge 42, 3) := by decide +kernel
theorem dX5_leastFar_14 : decode cX5_leastFar 14 = .ok (.aload_n 0, 1) := by decide +kernel
theorem dX5_leastFar_15 : decode cX5_leastFar 15 = .ok (.iload 4, 2) := by decide +kernel
theorem dX5_leastFar_17 : decode cX5_leastFar 17 = .ok (.iload_n 2, 1) := by decide +kernel
theorem dX5_leastFar_18 : decode cX5_leastFar 18 = .ok (.invokevirtual 44, 3) := by decide +kernel
theorem dX5_leastFar_21 : decode cX5_leastFar 21 = .ok (.ifCond .eq 26, 3) := by decide +kernel
theorem dX5_leastFar_24 : decode cX5_leastFar 24 = .ok (.iload_n 3, 1) := by decide +kernel
theorem dX5_leastFar_25 : decode cX5_leastFar 25 = .ok (.ifCond .lt 19, 3) := by decide +kernel
theorem dX5_leastFar_28 : decode cX5_leastFar 28 = .ok (.aload_n 0, 1) := by decide +kernel
theorem dX5_leastFar_29 : decode cX5_leastFar 29 = .ok (.iload 4, 2) := by decide +kernel
theorem dX5_leastFar_31 : decode cX5_leastFar 31 = .ok (.aload_n 1, 1) := by decide +kernel
theorem dX5_leastFar_32 : decode cX5_leastFar 32 = .ok (.invokevirtual 48, 3) := by decide +kernel
theorem dX5_leastFar_35 : decode cX5_leastFar 35 = .ok (.aload_n 0, 1) := by decide +kernel
theorem dX5_leastFar_36 : decode cX5_leastFar 36 = .ok (.iload_n 3, 1) := by decide +kernel
theorem dX5_leastFar_37 : decode cX5_leastFar 37 = .ok (.aload_n 1, 1) := by decide +kernel
theorem dX5_leastFar_38 : decode cX5_leastFar 38 = .ok (.invokevirtual 48, 3) := by decide +kernel
theorem dX5_leastFar_41 : decode cX5_leastFar 41 = .ok (.if_icmp .ge 6, 3) := by decide +kernel
theorem dX5_leastFar_44 : decode cX5_leastFar 44 = .ok (.iload 4, 2) := by decide +kernel
theorem dX5_leastFar_46 : decode cX5_leastFar 46 = .ok (.istore_n 3, 1) := by decide +kernel
theorem dX5_leastFar_47 : decode cX5_leastFar 47 = .ok (.iinc 4 1, 3) := by decide +kernel
theorem dX5_leastFar_50 : decode cX5_leastFar 50 = .ok (.goto (-45), 3) := by decide +kernel
theorem dX5_leastFar_53 : decode cX5_leastFar 53 = .ok (.iload_n 3, 1) := by decide +kernel
theorem dX5_leastFar_54 : decode cX5_leastFar 54 = .ok (.ireturn, 1) := by decide +kernel
theorem dX5_openWithin_0 : decode cX5_openWithin 0 = .ok (.iconst 0, 1) := by decide +kernel
theorem dX5_openWithin_1 : decode cX5_openWithin 1 = .ok (.istore 4, 2) := by decide +kernel
theorem dX5_openWithin_3 : decode cX5_openWithin 3 = .ok (.iconst 0, 1) := by decide +kernel
theorem dX5_openWithin_4 : decode cX5_openWithin 4 = .ok (.istore 5, 2) := by decide +kernel
theorem dX5_openWithin_6 : decode cX5_openWithin 6 = .ok (.iload 5, 2) := by decide +kernel
theorem dX5_openWithin_8 : decode cX5_openWithin 8 = .ok (.aload_n 0, 1) := by decide +kernel
theorem dX5_openWithin_9 : decode cX5_openWithin 9 = .ok (.getfield 24, 3) := by decide +kernel
theorem dX5_openWithin_12 : decode cX5_openWithin 12 = .ok (.if_icmp .ge 39, 3) := by decide +kernel
theorem dX5_openWithin_15 : decode cX5_openWithin 15 = .ok (.aload_n 0, 1) := by decide +kernel
theorem dX5_openWithin_16 : decode cX5_openWithin 16 = .ok (.iload 5, 2) := by decide +kernel
theorem dX5_openWithin_18 : decode cX5_openWithin 18 = .ok (.iload_n 3, 1) := by decide +kernel
theorem dX5_openWithin_19 : decode cX5_openWithin 19 = .ok (.invokevirtual 44, 3) := by decide +kernel
theorem dX5_openWithin_22 : decode cX5_openWithin 22 = .ok (.ifCond .eq 23, 3) := by decide +kernel
theorem dX5_openWithin_25 : decode cX5_openWithin 25 = .ok (.aload_n 0, 1) := by decide +kernel
theorem dX5_openWithin_26 : decode cX5_openWithin 26 = .ok (.iload 5, 2) := by decide +kernel
theorem dX5_openWithin_28 : decode cX5_openWithin 28 = .ok (.aload_n 1, 1) := by decide +kernel
theorem dX5_openWithin_29 : decode cX5_openWithin 29 = .ok (.invokevirtual 48, 3) := by decide +kernel
theorem dX5_openWithin_32 : decode cX5_openWithin 32 = .ok (.iload_n 2, 1) := by decide +kernel
theorem dX5_openWithin_33 : decode cX5_openWithin 33 = .ok (.if_icmp .gt 12, 3) := by decide +kernel
theorem dX5_openWithin_36 : decode cX5_openWithin 36 = .ok (.iload 4, 2) := by decide +kernel
theorem dX5_openWithin_38 : decode cX5_openWithin 38 = .ok (.iconst 1, 1) := by decide +kernel
theorem dX5_openWithin_39 : decode cX5_openWithin 39 = .ok (.iload 5, 2) := by decide +kernel
theorem dX5_openWithin_41 : decode cX5_openWithin 41 = .ok (.ishl, 1) := by decide +kernel
theorem dX5_openWithin_42 : decode cX5_openWithin 42 = .ok (.ior, 1) := by decide +kernel
theorem dX5_openWithin_43 : decode cX5_openWithin 43 = .ok (.istore 4, 2) := by decide +kernel
theorem dX5_openWithin_45 : decode cX5_openWithin 45 = .ok (.iinc 5 1, 3) := by decide +kernel
theorem dX5_openWithin_48 : decode cX5_openWithin 48 = .ok (.goto (-42), 3) := by decide +kernel
theorem dX5_openWithin_51 : decode cX5_openWithin 51 = .ok (.iload 4, 2) := by decide +kernel
theorem dX5_openWithin_53 : decode cX5_openWithin 53 = .ok (.ireturn, 1) := by decide +kernel
theorem dX5_copyFrom_0 : decode cX5_copyFrom 0 = .ok (.aload_n 0, 1) := by decide +kernel
theorem dX5_copyFrom_1 : decode cX5_copyFrom 1 = .ok (.aload_n 1, 1) := by decide +kernel
theorem dX5_copyFrom_2 : decode cX5_copyFrom 2 = .ok (.getfield 24, 3) := by decide +kernel
theorem dX5_copyFrom_5 : decode cX5_copyFrom 5 = .ok (.putfield 24, 3) := by decide +kernel
theorem dX5_copyFrom_8 : decode cX5_copyFrom 8 = .ok (.aload_n 1, 1) := by decide +kernel
theorem dX5_copyFrom_9 : decode cX5_copyFrom 9 = .ok (.getfield 9, 3) := by decide +kernel
theorem dX5_copyFrom_12 : decode cX5_copyFrom 12 = .ok (.iconst 0, 1) := by decide +kernel
theorem dX5_copyFrom_13 : decode cX5_copyFrom 13 = .ok (.aload_n 0, 1) := by decide +kernel
theorem dX5_copyFrom_14 : decode cX5_copyFrom 14 = .ok (.getfield 9, 3) := by decide +kernel
theorem dX5_copyFrom_17 : decode cX5_copyFrom 17 = .ok (.iconst 0, 1) := by decide +kernel
theorem dX5_copyFrom_18 : decode cX5_copyFrom 18 = .ok (.bipush 8, 2) := by decide +kernel
theorem dX5_copyFrom_20 : decode cX5_copyFrom 20 = .ok (.invokestatic 52, 3) := by decide +kernel
theorem dX5_copyFrom_23 : decode cX5_copyFrom 23 = .ok (.aload_n 1, 1) := by decide +kernel
theorem dX5_copyFrom_24 : decode cX5_copyFrom 24 = .ok (.getfield 15, 3) := by decide +kernel
theorem dX5_copyFrom_27 : decode cX5_copyFrom 27 = .ok (.iconst 0, 1) := by decide +kernel
theorem dX5_copyFrom_28 : decode cX5_copyFrom 28 = .ok (.aload_n 0, 1) := by decide +kernel
theorem dX5_copyFrom_29 : decode cX5_copyFrom 29 = .ok (.getfield 15, 3) := by decide +kernel
theorem dX5_copyFrom_32 : decode cX5_copyFrom 32 = .ok (.iconst 0, 1) := by decide +kernel
theorem dX5_copyFrom_33 : decode cX5_copyFrom 33 = .ok (.bipush 8, 2) := by decide +kernel
theorem dX5_copyFrom_35 : decode cX5_copyFrom 35 = .ok (.invokestatic 52, 3) := by decide +kernel
theorem dX5_copyFrom_38 : decode cX5_copyFrom 38 = .ok (.aload_n 1, 1) := by decide +kernel
theorem dX5_copyFrom_39 : decode cX5_copyFrom 39 = .ok (.getfield 18, 3) := by decide +kernel
theorem dX5_copyFrom_42 : decode cX5_copyFrom 42 = .ok (.iconst 0, 1) := by decide +kernel
theorem dX5_copyFrom_43 : decode cX5_copyFrom 43 = .ok (.aload_n 0, 1) := by decide +kernel
theorem dX5_copyFrom_44 : decode cX5_copyFrom 44 = .ok (.getfield 18, 3) := by decide +kernel
theorem dX5_copyFrom_47 : decode cX5_copyFrom 47 = .ok (.iconst 0, 1) := by decide +kernel
theorem dX5_copyFrom_48 : decode cX5_copyFrom 48 = .ok (.bipush 8, 2) := by decide +kernel
theorem dX5_copyFrom_50 : decode cX5_copyFrom 50 = .ok (.invokestatic 52, 3) := by decide +kernel
theorem dX5_copyFrom_53 : decode cX5_copyFrom 53 = .ok (.aload_n 1, 1) := by decide +kernel
theorem dX5_copyFrom_54 : decode cX5_copyFrom 54 = .ok (.getfield 21, 3) := by decide +kernel
theorem dX5_copyFrom_57 : decode cX5_copyFrom 57 = .ok (.iconst 0, 1) := by decide +kernel
theorem dX5_copyFrom_58 : decode cX5_copyFrom 58 = .ok (.aload_n 0, 1) := by decide +kernel
theorem dX5_copyFrom_59 : decode cX5_copyFrom 59 = .ok (.getfield 21, 3) := by decide +kernel
theorem dX5_copyFrom_62 : decode cX5_copyFrom 62 = .ok (.iconst 0, 1) := by decide +kernel
theorem dX5_copyFrom_63 : decode cX5_copyFrom 63 = .ok (.bipush 8, 2) := by decide +kernel
theorem dX5_copyFrom_65 : decode cX5_copyFrom 65 = .ok (.invokestatic 52, 3) := by decide +kernel
theorem dX5_copyFrom_68 : decode cX5_copyFrom 68 = .ok (.return_, 1) := by decide +kernel
theorem dX6_init_0 : decode cX6_init 0 = .ok (.aload_n 0, 1) := by decide +kernel
theorem dX6_init_1 : decode cX6_init 1 = .ok (.invokespecial 3, 3) := by decide +kernel
theorem dX6_init_4 : decode cX6_init 4 = .ok (.aload_n 0, 1) := by decide +kernel
theorem dX6_init_5 : decode cX6_init 5 = .ok (.sipush 200, 3) := by decide +kernel
theorem dX6_init_8 : decode cX6_init 8 = .ok (.newarray .int, 2) := by decide +kernel
theorem dX6_init_10 : decode cX6_init 10 = .ok (.putfield 9, 3) := by decide +kernel
theorem dX6_init_13 : decode cX6_init 13 = .ok (.aload_n 0, 1) := by decide +kernel
theorem dX6_init_14 : decode cX6_init 14 = .ok (.sipush 200, 3) := by decide +kernel
theorem dX6_init_17 : decode cX6_init 17 = .ok (.newarray .int, 2) := by decide +kernel
theorem dX6_init_19 : decode cX6_init 19 = .ok (.putfield 15, 3) := by decide +kernel
theorem dX6_init_22 : decode cX6_init 22 = .ok (.aload_n 0, 1) := by decide +kernel
theorem dX6_init_23 : decode cX6_init 23 = .ok (.sipush 200, 3) := by decide +kernel
theorem dX6_init_26 : decode cX6_init 26 = .ok (.newarray .int, 2) := by decide +kernel
theorem dX6_init_28 : decode cX6_init 28 = .ok (.putfield 18, 3) := by decide +kernel
theorem dX6_init_31 : decode cX6_init 31 = .ok (.return_, 1) := by decide +kernel
theorem dX6_add_0 : decode cX6_add 0 = .ok (.aload_n 0, 1) := by decide +kernel
theorem dX6_add_1 : decode cX6_add 1 = .ok (.dup, 1) := by decide +kernel
theorem dX6_add_2 : decode cX6_add 2 = .ok (.getfield 21, 3) := by decide +kernel
theorem dX6_add_5 : decode cX6_add 5 = .ok (.iload_n 3, 1) := by decide +kernel
theorem dX6_add_6 : decode cX6_add 6 = .ok (.iadd, 1) := by decide +kernel
theorem dX6_add_7 : decode cX6_add 7 = .ok (.putfield 21, 3) := by decide +kernel
theorem dX6_add_10 : decode cX6_add 10 = .ok (.aload_n 0, 1) := by decide +kernel
theorem dX6_add_11 : decode cX6_add 11 = .ok (.dup, 1) := by decide +kernel
theorem dX6_add_12 : decode cX6_add 12 = .ok (.getfield 25, 3) := by decide +kernel
theorem dX6_add_15 : decode cX6_add 15 = .ok (.iload 4, 2) := by decide +kernel
theorem dX6_add_17 : decode cX6_add 17 = .ok (.iadd, 1) := by decide +kernel
theorem dX6_add_18 : decode cX6_add 18 = .ok (.putfield 25, 3) := by decide +kernel
theorem dX6_add_21 : decode cX6_add 21 = .ok (.aload_n 0, 1) := by decide +kernel
theorem dX6_add_22 : decode cX6_add 22 = .ok (.getfield 28, 3) := by decide +kernel
theorem dX6_add_25 : decode cX6_add 25 = .ok (.sipush 200, 3) := by decide +kernel
theorem dX6_add_28 : decode cX6_add 28 = .ok (.if_icmp .ge 46, 3) := by decide +kernel
theorem dX6_add_31 : decode cX6_add 31 = .ok (.aload_n 0, 1) := by decide +kernel
theorem dX6_add_32 : decode cX6_add 32 = .ok (.getfield 9, 3) := by decide +kernel
theorem dX6_add_35 : decode cX6_add 35 = .ok (.aload_n 0, 1) := by decide +kernel
theorem dX6_add_36 : decode cX6_add 36 = .ok (.getfield 28, 3) := by decide +kernel
theorem dX6_add_39 : decode cX6_add 39 = .ok (.iload_n 1, 1) := by decide +kernel
theorem dX6_add_40 : decode cX6_add 40 = .ok (.iastore, 1) := by decide +kernel
theorem dX6_add_41 : decode cX6_add 41 = .ok (.aload_n 0, 1) := by decide +kernel
theorem dX6_add_42 : decode cX6_add 42 = .ok (.getfield 15, 3) := by decide +kernel
theorem dX6_add_45 : decode cX6_add 45 = .ok (.aload_n 0, 1) := by decide +kernel
theorem dX6_add_46 : decode cX6_add 46 = .ok (.getfield 28, 3) := by decide +kernel
theorem dX6_add_49 : decode cX6_add 49 = .ok (.iload_n 2, 1) := by decide +kernel
theorem dX6_add_50 : decode cX6_add 50 = .ok (.iastore, 1) := by decide +kernel
theorem dX6_add_51 : decode cX6_add 51 = .ok (.aload_n 0, 1) := by decide +kernel
theorem dX6_add_52 : decode cX6_add 52 = .ok (.getfield 18, 3) := by decide +kernel
theorem dX6_add_55 : decode cX6_add 55 = .ok (.aload_n 0, 1) := by decide +kernel
theorem dX6_add_56 : decode cX6_add 56 = .ok (.getfield 28, 3) := by decide +kernel
theorem dX6_add_59 : decode cX6_add 59 = .ok (.iload_n 3, 1) := by decide +kernel
theorem dX6_add_60 : decode cX6_add 60 = .ok (.iload 4, 2) := by decide +kernel
theorem dX6_add_62 : decode cX6_add 62 = .ok (.isub, 1) := by decide +kernel
theorem dX6_add_63 : decode cX6_add 63 = .ok (.iastore, 1) := by decide +kernel
theorem dX6_add_64 : decode cX6_add 64 = .ok (.aload_n 0, 1) := by decide +kernel
theorem dX6_add_65 : decode cX6_add 65 = .ok (.dup, 1) := by decide +kernel
theorem dX6_add_66 : decode cX6_add 66 = .ok (.getfield 28, 3) := by decide +kernel
theorem dX6_add_69 : decode cX6_add 69 = .ok (.iconst 1, 1) := by decide +kernel
theorem dX6_add_70 : decode cX6_add 70 = .ok (.iadd, 1) := by decide +kernel
theorem dX6_add_71 : decode cX6_add 71 = .ok (.putfield 28, 3) := by decide +kernel
theorem dX6_add_74 : decode cX6_add 74 = .ok (.return_, 1) := by decide +kernel
theorem dX6_restBetween_0 : decode cX6_restBetween 0 = .ok (.iconst 0, 1) := by decide +kernel
theorem dX6_restBetween_1 : decode cX6_restBetween 1 = .ok (.istore 4, 2) := by decide +kernel
theorem dX6_restBetween_3 : decode cX6_restBetween 3 = .ok (.iconst 0, 1) := by decide +kernel
theorem dX6_restBetween_4 : decode cX6_restBetween 4 = .ok (.istore 5, 2) := by decide +kernel
theorem dX6_restBetween_6 : decode cX6_restBetween 6 = .ok (.iload 5, 2) := by decide +kernel
theorem dX6_restBetween_8 : decode cX6_restBetween 8 = .ok (.aload_n 0, 1) := by decide +kernel
theorem dX6_restBetween_9 : decode cX6_restBetween 9 = .ok (.getfield 28, 3) := by decide +kernel
theorem dX6_restBetween_12 : decode cX6_restBetween 12 = .ok (.if_icmp .ge 54, 3) := by decide +kernel
theorem dX6_restBetween_15 : decode cX6_restBetween 15 = .ok (.aload_n 0, 1) := by decide +kernel
theorem dX6_restBetween_16 : decode cX6_restBetween 16 = .ok (.getfield 9, 3) := by decide +kernel
theorem dX6_restBetween_19 : decode cX6_restBetween 19 = .ok (.iload 5, 2) := by decide +kernel
theorem dX6_restBetween_21 : decode cX6_restBetween 21 = .ok (.iaload, 1) := by decide +kernel
theorem dX6_restBetween_22 : decode cX6_restBetween 22 = .ok (.iload_n 1, 1) := by decide +kernel
theorem dX6_restBetween_23 : decode cX6_restBetween 23 = .ok (.if_icmp .ne 37, 3) := by decide +kernel
theorem dX6_restBetween_26 : decode cX6_restBetween 26 = .ok (.aload_n 0, 1) := by decide +kernel
theorem dX6_restBetween_27 : decode cX6_restBetween 27 = .ok (.getfield 15, 3) := by decide +kernel
theorem dX6_restBetween_30 : decode cX6_restBetween 30 = .ok (.iload 5, 2) := by decide +kernel
theorem dX6_restBetween_32 : decode cX6_restBetween 32 = .ok (.iaload, 1) := by decide +kernel
theorem dX6_restBetween_33 : decode cX6_restBetween 33 = .ok (.iload_n 2, 1) := by decide +kernel
theorem dX6_restBetween_34 : decode cX6_restBetween 34 = .ok (.if_icmp .lt 26, 3) := by decide +kernel
theorem dX6_restBetween_37 : decode cX6_restBetween 37 = .ok (.aload_n 0, 1) := by decide +kernel
theorem dX6_restBetween_38 : decode cX6_restBetween 38 = .ok (.getfield 15, 3) := by decide +kernel
theorem dX6_restBetween_41 : decode cX6_restBetween 41 = .ok (.iload 5, 2) := by decide +kernel
theorem dX6_restBetween_43 : decode cX6_restBetween 43 = .ok (.iaload, 1) := by decide +kernel
theorem dX6_restBetween_44 : decode cX6_restBetween 44 = .ok (.iload_n 3, 1) := by decide +kernel
theorem dX6_restBetween_45 : decode cX6_restBetween 45 = .ok (.if_icmp .ge 15, 3) := by decide +kernel
theorem dX6_restBetween_48 : decode cX6_restBetween 48 = .ok (.iload 4, 2) := by decide +kernel
theorem dX6_restBetween_50 : decode cX6_restBetween 50 = .ok (.aload_n 0, 1) := by decide +kernel
theorem dX6_restBetween_51 : decode cX6_restBetween 51 = .ok (.getfield 18, 3) := by decide +kernel
theorem dX6_restBetween_54 : decode cX6_restBetween 54 = .ok (.iload 5, 2) := by decide +kernel
theorem dX6_restBetween_56 : decode cX6_restBetween 56 = .ok (.iaload, 1) := by decide +kernel
theorem dX6_restBetween_57 : decode cX6_restBetween 57 = .ok (.iadd, 1) := by decide +kernel
theorem dX6_restBetween_58 : decode cX6_restBetween 58 = .ok (.istore 4, 2) := by decide +kernel
theorem dX6_restBetween_60 : decode cX6_restBetween 60 = .ok (.iinc 5 1, 3) := by decide +kernel
theorem dX6_restBetween_63 : decode cX6_restBetween 63 = .ok (.goto (-57), 3) := by decide +kernel
theorem dX6_restBetween_66 : decode cX6_restBetween 66 = .ok (.iload 4, 2) := by decide +kernel
theorem dX6_restBetween_68 : decode cX6_restBetween 68 = .ok (.ireturn, 1) := by decide +kernel
theorem dX6_copyFrom_0 : decode cX6_copyFrom 0 = .ok (.aload_n 0, 1) := by decide +kernel
theorem dX6_copyFrom_1 : decode cX6_copyFrom 1 = .ok (.aload_n 1, 1) := by decide +kernel
theorem dX6_copyFrom_2 : decode cX6_copyFrom 2 = .ok (.getfield 28, 3) := by decide +kernel
theorem dX6_copyFrom_5 : decode cX6_copyFrom 5 = .ok (.putfield 28, 3) := by decide +kernel
theorem dX6_copyFrom_8 : decode cX6_copyFrom 8 = .ok (.aload_n 0, 1) := by decide +kernel
theorem dX6_copyFrom_9 : decode cX6_copyFrom 9 = .ok (.aload_n 1, 1) := by decide +kernel
theorem dX6_copyFrom_10 : decode cX6_copyFrom 10 = .ok (.getfield 21, 3) := by decide +kernel
theorem dX6_copyFrom_13 : decode cX6_copyFrom 13 = .ok (.putfield 21, 3) := by decide +kernel
theorem dX6_copyFrom_16 : decode cX6_copyFrom 16 = .ok (.aload_n 0, 1) := by decide +kernel
theorem dX6_copyFrom_17 : decode cX6_copyFrom 17 = .ok (.aload_n 1, 1) := by decide +kernel
theorem dX6_copyFrom_18 : decode cX6_copyFrom 18 = .ok (.getfield 25, 3) := by decide +kernel
theorem dX6_copyFrom_21 : decode cX6_copyFrom 21 = .ok (.putfield 25, 3) := by decide +kernel
theorem dX6_copyFrom_24 : decode cX6_copyFrom 24 = .ok (.aload_n 1, 1) := by decide +kernel
theorem dX6_copyFrom_25 : decode cX6_copyFrom 25 = .ok (.getfield 9, 3) := by decide +kernel
theorem dX6_copyFrom_28 : decode cX6_copyFrom 28 = .ok (.iconst 0, 1) := by decide +kernel
theorem dX6_copyFrom_29 : decode cX6_copyFrom 29 = .ok (.aload_n 0, 1) := by decide +kernel
theorem dX6_copyFrom_30 : decode cX6_copyFrom 30 = .ok (.getfield 9, 3) := by decide +kernel
theorem dX6_copyFrom_33 : decode cX6_copyFrom 33 = .ok (.iconst 0, 1) := by decide +kernel
theorem dX6_copyFrom_34 : decode cX6_copyFrom 34 = .ok (.sipush 200, 3) := by decide +kernel
theorem dX6_copyFrom_37 : decode cX6_copyFrom 37 = .ok (.invokestatic 31, 3) := by decide +kernel
theorem dX6_copyFrom_40 : decode cX6_copyFrom 40 = .ok (.aload_n 1, 1) := by decide +kernel
theorem dX6_copyFrom_41 : decode cX6_copyFrom 41 = .ok (.getfield 15, 3) := by decide +kernel
theorem dX6_copyFrom_44 : decode cX6_copyFrom 44 = .ok (.iconst 0, 1) := by decide +kernel
theorem dX6_copyFrom_45 : decode cX6_copyFrom 45 = .ok (.aload_n 0, 1) := by decide +kernel
theorem dX6_copyFrom_46 : decode cX6_copyFrom 46 = .ok (.getfield 15, 3) := by decide +kernel
theorem dX6_copyFrom_49 : decode cX6_copyFrom 49 = .ok (.iconst 0, 1) := by decide +kernel
theorem dX6_copyFrom_50 : decode cX6_copyFrom 50 = .ok (.sipush 200, 3) := by decide +kernel
theorem dX6_copyFrom_53 : decode cX6_copyFrom 53 = .ok (.invokestatic 31, 3) := by decide +kernel
theorem dX6_copyFrom_56 : decode cX6_copyFrom 56 = .ok (.aload_n 1, 1) := by decide +kernel
theorem dX6_copyFrom_57 : decode cX6_copyFrom 57 = .ok (.getfield 18, 3) := by decide +kernel
theorem dX6_copyFrom_60 : decode cX6_copyFrom 60 = .ok (.iconst 0, 1) := by decide +kernel
theorem dX6_copyFrom_61 : decode cX6_copyFrom 61 = .ok (.aload_n 0, 1) := by decide +kernel
theorem dX6_copyFrom_62 : decode cX6_copyFrom 62 = .ok (.getfield 18, 3) := by decide +kernel
theorem dX6_copyFrom_65 : decode cX6_copyFrom 65 = .ok (.iconst 0, 1) := by decide +kernel
theorem dX6_copyFrom_66 : decode cX6_copyFrom 66 = .ok (.sipush 200, 3) := by decide +kernel
theorem dX6_copyFrom_69 : decode cX6_copyFrom 69 = .ok (.invokestatic 31, 3) := by decide +kernel
theorem dX6_copyFrom_72 : decode cX6_copyFrom 72 = .ok (.return_, 1) := by decide +kernel
theorem dX7_init_0 : decode cX7_init 0 = .ok (.aload_n 0, 1) := by decide +kernel
theorem dX7_init_1 : decode cX7_init 1 = .ok (.invokespecial 3, 3) := by decide +kernel
theorem dX7_init_4 : decode cX7_init 4 = .ok (.aload_n 0, 1) := by decide +kernel
theorem dX7_init_5 : decode cX7_init 5 = .ok (.bipush 8, 2) := by decide +kernel
theorem dX7_init_7 : decode cX7_init 7 = .ok (.anewarray 9, 3) := by decide +kernel
theorem dX7_init_10 : decode cX7_init 10 = .ok (.putfield 11, 3) := by decide +kernel
theorem dX7_init_13 : decode cX7_init 13 = .ok (.aload_n 0, 1) := by decide +kernel
theorem dX7_init_14 : decode cX7_init 14 = .ok (.new 17, 3) := by decide +kernel
theorem dX7_init_17 : decode cX7_init 17 = .ok (.dup, 1) := by decide +kernel
theorem dX7_init_18 : decode cX7_init 18 = .ok (.invokespecial 19, 3) := by decide +kernel
theorem dX7_init_21 : decode cX7_init 21 = .ok (.putfield 20, 3) := by decide +kernel
theorem dX7_init_24 : decode cX7_init 24 = .ok (.aload_n 0, 1) := by decide +kernel
theorem dX7_init_25 : decode cX7_init 25 = .ok (.new 24, 3) := by decide +kernel
theorem dX7_init_28 : decode cX7_init 28 = .ok (.dup, 1) := by decide +kernel
theorem dX7_init_29 : decode cX7_init 29 = .ok (.invokespecial 26, 3) := by decide +kernel
theorem dX7_init_32 : decode cX7_init 32 = .ok (.putfield 27, 3) := by decide +kernel
theorem dX7_init_35 : decode cX7_init 35 = .ok (.aload_n 0, 1) := by decide +kernel
theorem dX7_init_36 : decode cX7_init 36 = .ok (.new 31, 3) := by decide +kernel
theorem dX7_init_39 : decode cX7_init 39 = .ok (.dup, 1) := by decide +kernel
theorem dX7_init_40 : decode cX7_init 40 = .ok (.invokespecial 33, 3) := by decide +kernel
theorem dX7_init_43 : decode cX7_init 43 = .ok (.putfield 34, 3) := by decide +kernel
theorem dX7_init_46 : decode cX7_init 46 = .ok (.aload_n 0, 1) := by decide +kernel
theorem dX7_init_47 : decode cX7_init 47 = .ok (.new 38, 3) := by decide +kernel
theorem dX7_init_50 : decode cX7_init 50 = .ok (.dup, 1) := by decide +kernel
theorem dX7_init_51 : decode cX7_init 51 = .ok (.invokespecial 40, 3) := by decide +kernel
theorem dX7_init_54 : decode cX7_init 54 = .ok (.putfield 41, 3) := by decide +kernel
theorem dX7_init_57 : decode cX7_init 57 = .ok (.aload_n 0, 1) := by decide +kernel
theorem dX7_init_58 : decode cX7_init 58 = .ok (.bipush 60, 2) := by decide +kernel
theorem dX7_init_60 : decode cX7_init 60 = .ok (.newarray .byte, 2) := by decide +kernel
theorem dX7_init_62 : decode cX7_init 62 = .ok (.putfield 45, 3) := by decide +kernel
theorem dX7_init_65 : decode cX7_init 65 = .ok (.iconst 0, 1) := by decide +kernel
theorem dX7_init_66 : decode cX7_init 66 = .ok (.istore_n 1, 1) := by decide +kernel
theorem dX7_init_67 : decode cX7_init 67 = .ok (.iload_n 1, 1) := by decide +kernel
theorem dX7_init_68 : decode cX7_init 68 = .ok (.bipush 8, 2) := by decide +kernel
theorem dX7_init_70 : decode cX7_init 70 = .ok (.if_icmp .ge 22, 3) := by decide +kernel
theorem dX7_init_73 : decode cX7_init 73 = .ok (.aload_n 0, 1) := by decide +kernel
theorem dX7_init_74 : decode cX7_init 74 = .ok (.getfield 11, 3) := by decide +kernel
theorem dX7_init_77 : decode cX7_init 77 = .ok (.iload_n 1, 1) := by decide +kernel
theorem dX7_init_78 : decode cX7_init 78 = .ok (.new 9, 3) := by decide +kernel
theorem dX7_init_81 : decode cX7_init 81 = .ok (.dup, 1) := by decide +kernel
theorem dX7_init_82 : decode cX7_init 82 = .ok (.invokespecial 49, 3) := by decide +kernel
theorem dX7_init_85 : decode cX7_init 85 = .ok (.aastore, 1) := by decide +kernel
theorem dX7_init_86 : decode cX7_init 86 = .ok (.iinc 1 1, 3) := by decide +kernel
theorem dX7_init_89 : decode cX7_init 89 = .ok (.goto (-22), 3) := by decide +kernel
theorem dX7_init_92 : decode cX7_init 92 = .ok (.return_, 1) := by decide +kernel
theorem dX7_hasMeter_0 : decode cX7_hasMeter 0 = .ok (.iload_n 1, 1) := by decide +kernel
theorem dX7_hasMeter_1 : decode cX7_hasMeter 1 = .ok (.ifCond .lt 15, 3) := by decide +kernel
theorem dX7_hasMeter_4 : decode cX7_hasMeter 4 = .ok (.iload_n 1, 1) := by decide +kernel
theorem dX7_hasMeter_5 : decode cX7_hasMeter 5 = .ok (.aload_n 0, 1) := by decide +kernel
theorem dX7_hasMeter_6 : decode cX7_hasMeter 6 = .ok (.getfield 50, 3) := by decide +kernel
theorem dX7_hasMeter_9 : decode cX7_hasMeter 9 = .ok (.if_icmp .ge 7, 3) := by decide +kernel
theorem dX7_hasMeter_12 : decode cX7_hasMeter 12 = .ok (.iconst 1, 1) := by decide +kernel
theorem dX7_hasMeter_13 : decode cX7_hasMeter 13 = .ok (.goto 4, 3) := by decide +kernel
theorem dX7_hasMeter_16 : decode cX7_hasMeter 16 = .ok (.iconst 0, 1) := by decide +kernel
theorem dX7_hasMeter_17 : decode cX7_hasMeter 17 = .ok (.ireturn, 1) := by decide +kernel
theorem dX7_addMeter_0 : decode cX7_addMeter 0 = .ok (.aload_n 0, 1) := by decide +kernel
theorem dX7_addMeter_1 : decode cX7_addMeter 1 = .ok (.getfield 50, 3) := by decide +kernel
theorem dX7_addMeter_4 : decode cX7_addMeter 4 = .ok (.bipush 8, 2) := by decide +kernel
theorem dX7_addMeter_6 : decode cX7_addMeter 6 = .ok (.if_icmp .lt 5, 3) := by decide +kernel
theorem dX7_addMeter_9 : decode cX7_addMeter 9 = .ok (.iconst (-1), 1) := by decide +kernel
theorem dX7_addMeter_10 : decode cX7_addMeter 10 = .ok (.ireturn, 1) := by decide +kernel
theorem dX7_addMeter_11 : decode cX7_addMeter 11 = .ok (.aload_n 0, 1) := by decide +kernel
theorem dX7_addMeter_12 : decode cX7_addMeter 12 = .ok (.getfield 11, 3) := by decide +kernel
theorem dX7_addMeter_15 : decode cX7_addMeter 15 = .ok (.aload_n 0, 1) := by decide +kernel
theorem dX7_addMeter_16 : decode cX7_addMeter 16 = .ok (.getfield 50, 3) := by decide +kernel
theorem dX7_addMeter_19 : decode cX7_addMeter 19 = .ok (.aaload, 1) := by decide +kernel
theorem dX7_addMeter_20 : decode cX7_addMeter 20 = .ok (.astore_n 3, 1) := by decide +kernel
theorem dX7_addMeter_21 : decode cX7_addMeter 21 = .ok (.aload_n 3, 1) := by decide +kernel
theorem dX7_addMeter_22 : decode cX7_addMeter 22 = .ok (.aload_n 0, 1) := by decide +kernel
theorem dX7_addMeter_23 : decode cX7_addMeter 23 = .ok (.getfield 50, 3) := by decide +kernel
theorem dX7_addMeter_26 : decode cX7_addMeter 26 = .ok (.iload_n 1, 1) := by decide +kernel
theorem dX7_addMeter_27 : decode cX7_addMeter 27 = .ok (.iload_n 2, 1) := by decide +kernel
theorem dX7_addMeter_28 : decode cX7_addMeter 28 = .ok (.invokevirtual 54, 3) := by decide +kernel
theorem dX7_addMeter_31 : decode cX7_addMeter 31 = .ok (.aload_n 3, 1) := by decide +kernel
theorem dX7_addMeter_32 : decode cX7_addMeter 32 = .ok (.aload_n 0, 1) := by decide +kernel
theorem dX7_addMeter_33 : decode cX7_addMeter 33 = .ok (.getfield 27, 3) := by decide +kernel
theorem dX7_addMeter_36 : decode cX7_addMeter 36 = .ok (.iconst 0, 1) := by decide +kernel
theorem dX7_addMeter_37 : decode cX7_addMeter 37 = .ok (.aload_n 0, 1) := by decide +kernel
theorem dX7_addMeter_38 : decode cX7_addMeter 38 = .ok (.getfield 58, 3) := by decide +kernel
theorem dX7_addMeter_41 : decode cX7_addMeter 41 = .ok (.invokevirtual 61, 3) := by decide +kernel
theorem dX7_addMeter_44 : decode cX7_addMeter 44 = .ok (.putfield 65, 3) := by decide +kernel
theorem dX7_addMeter_47 : decode cX7_addMeter 47 = .ok (.aload_n 0, 1) := by decide +kernel
theorem dX7_addMeter_48 : decode cX7_addMeter 48 = .ok (.dup, 1) := by decide +kernel
theorem dX7_addMeter_49 : decode cX7_addMeter 49 = .ok (.getfield 50, 3) := by decide +kernel
theorem dX7_addMeter_52 : decode cX7_addMeter 52 = .ok (.iconst 1, 1) := by decide +kernel
theorem dX7_addMeter_53 : decode cX7_addMeter 53 = .ok (.iadd, 1) := by decide +kernel
theorem dX7_addMeter_54 : decode cX7_addMeter 54 = .ok (.putfield 50, 3) := by decide +kernel
theorem dX7_addMeter_57 : decode cX7_addMeter 57 = .ok (.aload_n 3, 1) := by decide +kernel
theorem dX7_addMeter_58 : decode cX7_addMeter 58 = .ok (.getfield 68, 3) := by decide +kernel
theorem dX7_addMeter_61 : decode cX7_addMeter 61 = .ok (.ireturn, 1) := by decide +kernel
theorem dX7_topUp_0 : decode cX7_topUp 0 = .ok (.aload_n 0, 1) := by decide +kernel
theorem dX7_topUp_1 : decode cX7_topUp 1 = .ok (.getfield 27, 3) := by decide +kernel
theorem dX7_topUp_4 : decode cX7_topUp 4 = .ok (.aload_n 1, 1) := by decide +kernel
theorem dX7_topUp_5 : decode cX7_topUp 5 = .ok (.iload_n 2, 1) := by decide +kernel
theorem dX7_topUp_6 : decode cX7_topUp 6 = .ok (.iload_n 3, 1) := by decide +kernel
theorem dX7_topUp_7 : decode cX7_topUp 7 = .ok (.invokevirtual 71, 3) := by decide +kernel
theorem dX7_topUp_10 : decode cX7_topUp 10 = .ok (.istore 4, 2) := by decide +kernel
theorem dX7_topUp_12 : decode cX7_topUp 12 = .ok (.aload_n 1, 1) := by decide +kernel
theorem dX7_topUp_13 : decode cX7_topUp 13 = .ok (.dup, 1) := by decide +kernel
theorem dX7_topUp_14 : decode cX7_topUp 14 = .ok (.getfield 75, 3) := by decide +kernel
theorem dX7_topUp_17 : decode cX7_topUp 17 = .ok (.iload 4, 2) := by decide +kernel
theorem dX7_topUp_19 : decode cX7_topUp 19 = .ok (.isub, 1) := by decide +kernel
theorem dX7_topUp_20 : decode cX7_topUp 20 = .ok (.putfield 75, 3) := by decide +kernel
theorem dX7_topUp_23 : decode cX7_topUp 23 = .ok (.aload_n 1, 1) := by decide +kernel
theorem dX7_topUp_24 : decode cX7_topUp 24 = .ok (.dup, 1) := by decide +kernel
theorem dX7_topUp_25 : decode cX7_topUp 25 = .ok (.getfield 78, 3) := by decide +kernel
theorem dX7_topUp_28 : decode cX7_topUp 28 = .ok (.iload_n 3, 1) := by decide +kernel
theorem dX7_topUp_29 : decode cX7_topUp 29 = .ok (.iload 4, 2) := by decide +kernel
theorem dX7_topUp_31 : decode cX7_topUp 31 = .ok (.isub, 1) := by decide +kernel
theorem dX7_topUp_32 : decode cX7_topUp 32 = .ok (.iadd, 1) := by decide +kernel
theorem dX7_topUp_33 : decode cX7_topUp 33 = .ok (.putfield 78, 3) := by decide +kernel
theorem dX7_topUp_36 : decode cX7_topUp 36 = .ok (.aload_n 1, 1) := by decide +kernel
theorem dX7_topUp_37 : decode cX7_topUp 37 = .ok (.aload_n 0, 1) := by decide +kernel
theorem dX7_topUp_38 : decode cX7_topUp 38 = .ok (.getfield 27, 3) := by decide +kernel
theorem dX7_topUp_41 : decode cX7_topUp 41 = .ok (.iconst 0, 1) := by decide +kernel
theorem dX7_topUp_42 : decode cX7_topUp 42 = .ok (.iload_n 2, 1) := by decide +kernel
theorem dX7_topUp_43 : decode cX7_topUp 43 = .ok (.invokevirtual 61, 3) := by decide +kernel
theorem dX7_topUp_46 : decode cX7_topUp 46 = .ok (.putfield 65, 3) := by decide +kernel
theorem dX7_topUp_49 : decode cX7_topUp 49 = .ok (.aload_n 1, 1) := by decide +kernel
theorem dX7_topUp_50 : decode cX7_topUp 50 = .ok (.getfield 78, 3) := by decide +kernel
theorem dX7_topUp_53 : decode cX7_topUp 53 = .ok (.ifCond .lt 8, 3) := by decide +kernel
theorem dX7_topUp_56 : decode cX7_topUp 56 = .ok (.aload_n 1, 1) := by decide +kernel
theorem dX7_topUp_57 : decode cX7_topUp 57 = .ok (.iconst 0, 1) := by decide +kernel
theorem dX7_topUp_58 : decode cX7_topUp 58 = .ok (.putfield 81, 3) := by decide +kernel
theorem dX7_topUp_61 : decode cX7_topUp 61 = .ok (.aload_n 1, 1) := by decide +kernel
theorem dX7_topUp_62 : decode cX7_topUp 62 = .ok (.invokevirtual 85, 3) := by decide +kernel
theorem dX7_topUp_65 : decode cX7_topUp 65 = .ok (.iload 4, 2) := by decide +kernel
theorem dX7_topUp_67 : decode cX7_topUp 67 = .ok (.ireturn, 1) := by decide +kernel
theorem dX7_endHourForAll_0 : decode cX7_endHourForAll 0 = .ok (.iconst 0, 1) := by decide +kernel
theorem dX7_endHourForAll_1 : decode cX7_endHourForAll 1 = .ok (.istore_n 1, 1) := by decide +kernel
theorem dX7_endHourForAll_2 : decode cX7_endHourForAll 2 = .ok (.iconst 0, 1) := by decide +kernel
theorem dX7_endHourForAll_3 : decode cX7_endHourForAll 3 = .ok (.istore_n 2, 1) := by decide +kernel
theorem dX7_endHourForAll_4 : decode cX7_endHourForAll 4 = .ok (.iload_n 2, 1) := by decide +kernel
theorem dX7_endHourForAll_5 : decode cX7_endHourForAll 5 = .ok (.aload_n 0, 1) := by decide +kernel
theorem dX7_endHourForAll_6 : decode cX7_endHourForAll 6 = .ok (.getfield 50, 3) := by decide +kernel
theorem dX7_endHourForAll_9 : decode cX7_endHourForAll 9 = .ok (.if_icmp .ge 29, 3) := by decide +kernel
theorem dX7_endHourForAll_12 : decode cX7_endHourForAll 12 = .ok (.aload_n 0, 1) := by decide +kernel
theorem dX7_endHourForAll_13 : decode cX7_endHourForAll 13 = .ok (.aload_n 0, 1) := by decide +kernel
theorem dX7_endHourForAll_14 : decode cX7_endHourForAll 14 = .ok (.getfield 11, 3) := by decide +kernel
theorem dX7_endHourForAll_17 : decode cX7_endHourForAll 17 = .ok (.iload_n 2, 1) := by decide +kernel
theorem dX7_endHourForAll_18 : decode cX7_endHourForAll 18 = .ok (.aaload, 1) := by decide +kernel
theorem dX7_endHourForAll_19 : decode cX7_endHourForAll 19 = .ok (.aload_n 0, 1) := by decide +kernel
theorem dX7_endHourForAll_20 : decode cX7_endHourForAll 20 = .ok (.getfield 58, 3) := by decide +kernel
theorem dX7_endHourForAll_23 : decode cX7_endHourForAll 23 = .ok (.invokevirtual 88, 3) := by decide +kernel
theorem dX7_endHourForAll_26 : decode cX7_endHourForAll 26 = .ok (.ifCond .eq 6, 3) := by decide +kernel
theorem dX7_endHourForAll_29 : decode cX7_endHourForAll 29 = .ok (.iinc 1 1, 3) := by decide +kernel
theorem dX7_endHourForAll_32 : decode cX7_endHourForAll 32 = .ok (.iinc 2 1, 3) := by decide +kernel
theorem dX7_endHourForAll_35 : decode cX7_endHourForAll 35 = .ok (.goto (-31), 3) := by decide +kernel
theorem dX7_endHourForAll_38 : decode cX7_endHourForAll 38 = .ok (.aload_n 0, 1) := by decide +kernel
theorem dX7_endHourForAll_39 : decode cX7_endHourForAll 39 = .ok (.dup, 1) := by decide +kernel
theorem dX7_endHourForAll_40 : decode cX7_endHourForAll 40 = .ok (.getfield 58, 3) := by decide +kernel
theorem dX7_endHourForAll_43 : decode cX7_endHourForAll 43 = .ok (.iconst 1, 1) := by decide +kernel
theorem dX7_endHourForAll_44 : decode cX7_endHourForAll 44 = .ok (.iadd, 1) := by decide +kernel
theorem dX7_endHourForAll_45 : decode cX7_endHourForAll 45 = .ok (.putfield 58, 3) := by decide +kernel
theorem dX7_endHourForAll_48 : decode cX7_endHourForAll 48 = .ok (.iload_n 1, 1) := by decide +kernel
theorem dX7_endHourForAll_49 : decode cX7_endHourForAll 49 = .ok (.ireturn, 1) := by decide +kernel
theorem dX7_endHour_0 : decode cX7_endHour 0 = .ok (.iload_n 2, 1) := by decide +kernel
theorem dX7_endHour_1 : decode cX7_endHour 1 = .ok (.bipush 24, 2) := by decide +kernel
theorem dX7_endHour_3 : decode cX7_endHour 3 = .ok (.irem, 1) := by decide +kernel
theorem dX7_endHour_4 : decode cX7_endHour 4 = .ok (.ifCond .ne 9, 3) := by decide +kernel
theorem dX7_endHour_7 : decode cX7_endHour 7 = .ok (.aload_n 0, 1) := by decide +kernel
theorem dX7_endHour_8 : decode cX7_endHour 8 = .ok (.aload_n 1, 1) := by decide +kernel
theorem dX7_endHour_9 : decode cX7_endHour 9 = .ok (.iload_n 2, 1) := by decide +kernel
theorem dX7_endHour_10 : decode cX7_endHour 10 = .ok (.invokevirtual 92, 3) := by decide +kernel
theorem dX7_endHour_13 : decode cX7_endHour 13 = .ok (.aload_n 1, 1) := by decide +kernel
theorem dX7_endHour_14 : decode cX7_endHour 14 = .ok (.getfield 96, 3) := by decide +kernel
theorem dX7_endHour_17 : decode cX7_endHour 17 = .ok (.ifCond .eq 12, 3) := by decide +kernel
theorem dX7_endHour_20 : decode cX7_endHour 20 = .ok (.aload_n 0, 1) := by decide +kernel
theorem dX7_endHour_21 : decode cX7_endHour 21 = .ok (.aload_n 1, 1) := by decide +kernel
theorem dX7_endHour_22 : decode cX7_endHour 22 = .ok (.iload_n 2, 1) := by decide +kernel
theorem dX7_endHour_23 : decode cX7_endHour 23 = .ok (.invokevirtual 99, 3) := by decide +kernel
theorem dX7_endHour_26 : decode cX7_endHour 26 = .ok (.goto 13, 3) := by decide +kernel
theorem dX7_endHour_29 : decode cX7_endHour 29 = .ok (.aload_n 1, 1) := by decide +kernel
theorem dX7_endHour_30 : decode cX7_endHour 30 = .ok (.dup, 1) := by decide +kernel
theorem dX7_endHour_31 : decode cX7_endHour 31 = .ok (.getfield 102, 3) := by decide +kernel
theorem dX7_endHour_34 : decode cX7_endHour 34 = .ok (.iconst 1, 1) := by decide +kernel
theorem dX7_endHour_35 : decode cX7_endHour 35 = .ok (.iadd, 1) := by decide +kernel
theorem dX7_endHour_36 : decode cX7_endHour 36 = .ok (.putfield 102, 3) := by decide +kernel
theorem dX7_endHour_39 : decode cX7_endHour 39 = .ok (.aload_n 1, 1) := by decide +kernel
theorem dX7_endHour_40 : decode cX7_endHour 40 = .ok (.getfield 96, 3) := by decide +kernel
theorem dX7_endHour_43 : decode cX7_endHour 43 = .ok (.ifCond .eq 35, 3) := by decide +kernel
theorem dX7_endHour_46 : decode cX7_endHour 46 = .ok (.aload_n 1, 1) := by decide +kernel
theorem dX7_endHour_47 : decode cX7_endHour 47 = .ok (.getfield 105, 3) := by decide +kernel
theorem dX7_endHour_50 : decode cX7_endHour 50 = .ok (.iconst 4, 1) := by decide +kernel
theorem dX7_endHour_51 : decode cX7_endHour 51 = .ok (.if_icmp .eq 27, 3) := by decide +kernel
theorem dX7_endHour_54 : decode cX7_endHour 54 = .ok (.aload_n 1, 1) := by decide +kernel
theorem dX7_endHour_55 : decode cX7_endHour 55 = .ok (.getfield 78, 3) := by decide +kernel
theorem dX7_endHour_58 : decode cX7_endHour 58 = .ok (.aload_n 1, 1) := by decide +kernel
theorem dX7_endHour_59 : decode cX7_endHour 59 = .ok (.invokevirtual 108, 3) := by decide +kernel
theorem dX7_endHour_62 : decode cX7_endHour 62 = .ok (.if_icmp .ge 16, 3) := by decide +kernel
theorem dX7_endHour_65 : decode cX7_endHour 65 = .ok (.iload_n 2, 1) := by decide +kernel
theorem dX7_endHour_66 : decode cX7_endHour 66 = .ok (.iconst 1, 1) := by decide +kernel
theorem dX7_endHour_67 : decode cX7_endHour 67 = .ok (.iadd, 1) := by decide +kernel
theorem dX7_endHour_68 : decode cX7_endHour 68 = .ok (.invokestatic 112, 3) := by decide +kernel
theorem dX7_endHour_71 : decode cX7_endHour 71 = .ok (.ifCond .ne 7, 3) := by decide +kernel
theorem dX7_endHour_74 : decode cX7_endHour 74 = .ok (.iconst 1, 1) := by decide +kernel
theorem dX7_endHour_75 : decode cX7_endHour 75 = .ok (.goto 4, 3) := by decide +kernel
theorem dX7_endHour_78 : decode cX7_endHour 78 = .ok (.iconst 0, 1) := by decide +kernel
theorem dX7_endHour_79 : decode cX7_endHour 79 = .ok (.istore_n 3, 1) := by decide +kernel
theorem dX7_endHour_80 : decode cX7_endHour 80 = .ok (.iload_n 3, 1) := by decide +kernel
theorem dX7_endHour_81 : decode cX7_endHour 81 = .ok (.ifCond .eq 8, 3) := by decide +kernel
theorem dX7_endHour_84 : decode cX7_endHour 84 = .ok (.aload_n 1, 1) := by decide +kernel
theorem dX7_endHour_85 : decode cX7_endHour 85 = .ok (.iconst 0, 1) := by decide +kernel
theorem dX7_endHour_86 : decode cX7_endHour 86 = .ok (.putfield 96, 3) := by decide +kernel
theorem dX7_endHour_89 : decode cX7_endHour 89 = .ok (.iload_n 3, 1) := by decide +kernel
theorem dX7_endHour_90 : decode cX7_endHour 90 = .ok (.ireturn, 1) := by decide +kernel
theorem dX7_beginDay_0 : decode cX7_beginDay 0 = .ok (.aload_n 1, 1) := by decide +kernel
theorem dX7_beginDay_1 : decode cX7_beginDay 1 = .ok (.dup, 1) := by decide +kernel
theorem dX7_beginDay_2 : decode cX7_beginDay 2 = .ok (.getfield 78, 3) := by decide +kernel
theorem dX7_beginDay_5 : decode cX7_beginDay 5 = .ok (.aload_n 0, 1) := by decide +kernel
theorem dX7_beginDay_6 : decode cX7_beginDay 6 = .ok (.getfield 27, 3) := by decide +kernel
theorem dX7_beginDay_9 : decode cX7_beginDay 9 = .ok (.aload_n 1, 1) := by decide +kernel
theorem dX7_beginDay_10 : decode cX7_beginDay 10 = .ok (.iload_n 2, 1) := by decide +kernel
theorem dX7_beginDay_11 : decode cX7_beginDay 11 = .ok (.invokevirtual 116, 3) := by decide +kernel
theorem dX7_beginDay_14 : decode cX7_beginDay 14 = .ok (.isub, 1) := by decide +kernel
theorem dX7_beginDay_15 : decode cX7_beginDay 15 = .ok (.putfield 78, 3) := by decide +kernel
theorem dX7_beginDay_18 : decode cX7_beginDay 18 = .ok (.aload_n 1, 1) := by decide +kernel
theorem dX7_beginDay_19 : decode cX7_beginDay 19 = .ok (.getfield 96, 3) := by decide +kernel
theorem dX7_beginDay_22 : decode cX7_beginDay 22 = .ok (.ifCond .eq 35, 3) := by decide +kernel
theorem dX7_beginDay_25 : decode cX7_beginDay 25 = .ok (.aload_n 1, 1) := by decide +kernel
theorem dX7_beginDay_26 : decode cX7_beginDay 26 = .ok (.getfield 120, 3) := by decide +kernel
theorem dX7_beginDay_29 : decode cX7_beginDay 29 = .ok (.aload_n 1, 1) := by decide +kernel
theorem dX7_beginDay_30 : decode cX7_beginDay 30 = .ok (.getfield 75, 3) := by decide +kernel
theorem dX7_beginDay_33 : decode cX7_beginDay 33 = .ok (.invokestatic 123, 3) := by decide +kernel
theorem dX7_beginDay_36 : decode cX7_beginDay 36 = .ok (.istore_n 3, 1) := by decide +kernel
theorem dX7_beginDay_37 : decode cX7_beginDay 37 = .ok (.aload_n 1, 1) := by decide +kernel
theorem dX7_beginDay_38 : decode cX7_beginDay 38 = .ok (.dup, 1) := by decide +kernel
theorem dX7_beginDay_39 : decode cX7_beginDay 39 = .ok (.getfield 78, 3) := by decide +kernel
theorem dX7_beginDay_42 : decode cX7_beginDay 42 = .ok (.iload_n 3, 1) := by decide +kernel
theorem dX7_beginDay_43 : decode cX7_beginDay 43 = .ok (.isub, 1) := by decide +kernel
theorem dX7_beginDay_44 : decode cX7_beginDay 44 = .ok (.putfield 78, 3) := by decide +kernel
theorem dX7_beginDay_47 : decode cX7_beginDay 47 = .ok (.aload_n 1, 1) := by decide +kernel
theorem dX7_beginDay_48 : decode cX7_beginDay 48 = .ok (.dup, 1) := by decide +kernel
theorem dX7_beginDay_49 : decode cX7_beginDay 49 = .ok (.getfield 75, 3) := by decide +kernel
theorem dX7_beginDay_52 : decode cX7_beginDay 52 = .ok (.iload_n 3, 1) := by decide +kernel
theorem dX7_beginDay_53 : decode cX7_beginDay 53 = .ok (.isub, 1) := by decide +kernel
theorem dX7_beginDay_54 : decode cX7_beginDay 54 = .ok (.putfield 75, 3) := by decide +kernel
theorem dX7_beginDay_57 : decode cX7_beginDay 57 = .ok (.aload_n 1, 1) := by decide +kernel
theorem dX7_beginDay_58 : decode cX7_beginDay 58 = .ok (.iconst 0, 1) := by decide +kernel
theorem dX7_beginDay_59 : decode cX7_beginDay 59 = .ok (.putfield 128, 3) := by decide +kernel
theorem dX7_beginDay_62 : decode cX7_beginDay 62 = .ok (.return_, 1) := by decide +kernel
theorem dX7_useLoad_0 : decode cX7_useLoad 0 = .ok (.aload_n 1, 1) := by decide +kernel
theorem dX7_useLoad_1 : decode cX7_useLoad 1 = .ok (.getfield 131, 3) := by decide +kernel
theorem dX7_useLoad_4 : decode cX7_useLoad 4 = .ok (.iload_n 2, 1) := by decide +kernel
theorem dX7_useLoad_5 : decode cX7_useLoad 5 = .ok (.bipush 24, 2) := by decide +kernel
theorem dX7_useLoad_7 : decode cX7_useLoad 7 = .ok (.irem, 1) := by decide +kernel
theorem dX7_useLoad_8 : decode cX7_useLoad 8 = .ok (.iaload, 1) := by decide +kernel
theorem dX7_useLoad_9 : decode cX7_useLoad 9 = .ok (.istore_n 3, 1) := by decide +kernel
theorem dX7_useLoad_10 : decode cX7_useLoad 10 = .ok (.aload_n 0, 1) := by decide +kernel
theorem dX7_useLoad_11 : decode cX7_useLoad 11 = .ok (.getfield 27, 3) := by decide +kernel
theorem dX7_useLoad_14 : decode cX7_useLoad 14 = .ok (.iconst 0, 1) := by decide +kernel
theorem dX7_useLoad_15 : decode cX7_useLoad 15 = .ok (.iload_n 2, 1) := by decide +kernel
theorem dX7_useLoad_16 : decode cX7_useLoad 16 = .ok (.invokevirtual 61, 3) := by decide +kernel
theorem dX7_useLoad_19 : decode cX7_useLoad 19 = .ok (.istore 4, 2) := by decide +kernel
theorem dX7_useLoad_21 : decode cX7_useLoad 21 = .ok (.aload_n 1, 1) := by decide +kernel
theorem dX7_useLoad_22 : decode cX7_useLoad 22 = .ok (.iload 4, 2) := by decide +kernel
theorem dX7_useLoad_24 : decode cX7_useLoad 24 = .ok (.invokevirtual 135, 3) := by decide +kernel
theorem dX7_useLoad_27 : decode cX7_useLoad 27 = .ok (.istore 5, 2) := by decide +kernel
theorem dX7_useLoad_29 : decode cX7_useLoad 29 = .ok (.aload_n 0, 1) := by decide +kernel
theorem dX7_useLoad_30 : decode cX7_useLoad 30 = .ok (.getfield 27, 3) := by decide +kernel
theorem dX7_useLoad_33 : decode cX7_useLoad 33 = .ok (.iload 5, 2) := by decide +kernel
theorem dX7_useLoad_35 : decode cX7_useLoad 35 = .ok (.aload_n 1, 1) := by decide +kernel
theorem dX7_useLoad_36 : decode cX7_useLoad 36 = .ok (.iload_n 2, 1) := by decide +kernel
theorem dX7_useLoad_37 : decode cX7_useLoad 37 = .ok (.invokevirtual 139, 3) := by decide +kernel
theorem dX7_useLoad_40 : decode cX7_useLoad 40 = .ok (.istore 6, 2) := by decide +kernel
theorem dX7_useLoad_42 : decode cX7_useLoad 42 = .ok (.iload 4, 2) := by decide +kernel
theorem dX7_useLoad_44 : decode cX7_useLoad 44 = .ok (.iload 5, 2) := by decide +kernel
theorem dX7_useLoad_46 : decode cX7_useLoad 46 = .ok (.if_icmp .ne 8, 3) := by decide +kernel
theorem dX7_useLoad_49 : decode cX7_useLoad 49 = .ok (.iload 6, 2) := by decide +kernel
theorem dX7_useLoad_51 : decode cX7_useLoad 51 = .ok (.goto 14, 3) := by decide +kernel
theorem dX7_useLoad_54 : decode cX7_useLoad 54 = .ok (.aload_n 0, 1) := by decide +kernel
theorem dX7_useLoad_55 : decode cX7_useLoad 55 = .ok (.getfield 27, 3) := by decide +kernel
theorem dX7_useLoad_58 : decode cX7_useLoad 58 = .ok (.iload 4, 2) := by decide +kernel
theorem dX7_useLoad_60 : decode cX7_useLoad 60 = .ok (.aload_n 1, 1) := by decide +kernel
theorem dX7_useLoad_61 : decode cX7_useLoad 61 = .ok (.iload_n 2, 1) := by decide +kernel
theorem dX7_useLoad_62 : decode cX7_useLoad 62 = .ok (.invokevirtual 139, 3) := by decide +kernel
theorem dX7_useLoad_65 : decode cX7_useLoad 65 = .ok (.istore 7, 2) := by decide +kernel
theorem dX7_useLoad_67 : decode cX7_useLoad 67 = .ok (.aload_n 1, 1) := by decide +kernel
theorem dX7_useLoad_68 : decode cX7_useLoad 68 = .ok (.dup, 1) := by decide +kernel
theorem dX7_useLoad_69 : decode cX7_useLoad 69 = .ok (.getfield 78, 3) := by decide +kernel
theorem dX7_useLoad_72 : decode cX7_useLoad 72 = .ok (.iload_n 3, 1) := by decide +kernel
theorem dX7_useLoad_73 : decode cX7_useLoad 73 = .ok (.iload 6, 2) := by decide +kernel
theorem dX7_useLoad_75 : decode cX7_useLoad 75 = .ok (.imul, 1) := by decide +kernel
theorem dX7_useLoad_76 : decode cX7_useLoad 76 = .ok (.isub, 1) := by decide +kernel
theorem dX7_useLoad_77 : decode cX7_useLoad 77 = .ok (.putfield 78, 3) := by decide +kernel
theorem dX7_useLoad_80 : decode cX7_useLoad 80 = .ok (.aload_n 1, 1) := by decide +kernel
theorem dX7_useLoad_81 : decode cX7_useLoad 81 = .ok (.dup, 1) := by decide +kernel
theorem dX7_useLoad_82 : decode cX7_useLoad 82 = .ok (.getfield 143, 3) := by decide +kernel
theorem dX7_useLoad_85 : decode cX7_useLoad 85 = .ok (.iload_n 3, 1) := by decide +kernel
theorem dX7_useLoad_86 : decode cX7_useLoad 86 = .ok (.iload 7, 2) := by decide +kernel
theorem dX7_useLoad_88 : decode cX7_useLoad 88 = .ok (.iload 6, 2) := by decide +kernel
theorem dX7_useLoad_90 : decode cX7_useLoad 90 = .ok (.isub, 1) := by decide +kernel
theorem dX7_useLoad_91 : decode cX7_useLoad 91 = .ok (.imul, 1) := by decide +kernel
theorem dX7_useLoad_92 : decode cX7_useLoad 92 = .ok (.iadd, 1) := by decide +kernel
theorem dX7_useLoad_93 : decode cX7_useLoad 93 = .ok (.putfield 143, 3) := by decide +kernel
theorem dX7_useLoad_96 : decode cX7_useLoad 96 = .ok (.aload_n 1, 1) := by decide +kernel
theorem dX7_useLoad_97 : decode cX7_useLoad 97 = .ok (.dup, 1) := by decide +kernel
theorem dX7_useLoad_98 : decode cX7_useLoad 98 = .ok (.getfield 128, 3) := by decide +kernel
theorem dX7_useLoad_101 : decode cX7_useLoad 101 = .ok (.iload_n 3, 1) := by decide +kernel
theorem dX7_useLoad_102 : decode cX7_useLoad 102 = .ok (.iadd, 1) := by decide +kernel
theorem dX7_useLoad_103 : decode cX7_useLoad 103 = .ok (.putfield 128, 3) := by decide +kernel
theorem dX7_useLoad_106 : decode cX7_useLoad 106 = .ok (.aload_n 1, 1) := by decide +kernel
theorem dX7_useLoad_107 : decode cX7_useLoad 107 = .ok (.dup, 1) := by decide +kernel
theorem dX7_useLoad_108 : decode cX7_useLoad 108 = .ok (.getfield 146, 3) := by decide +kernel
theorem dX7_useLoad_111 : decode cX7_useLoad 111 = .ok (.iload_n 3, 1) := by decide +kernel
theorem dX7_useLoad_112 : decode cX7_useLoad 112 = .ok (.iadd, 1) := by decide +kernel
theorem dX7_useLoad_113 : decode cX7_useLoad 113 = .ok (.putfield 146, 3) := by decide +kernel
theorem dX7_useLoad_116 : decode cX7_useLoad 116 = .ok (.return_, 1) := by decide +kernel
theorem dX7_countCut_0 : decode cX7_countCut 0 = .ok (.iconst 0, 1) := by decide +kernel
theorem dX7_countCut_1 : decode cX7_countCut 1 = .ok (.istore_n 1, 1) := by decide +kernel
theorem dX7_countCut_2 : decode cX7_countCut 2 = .ok (.iconst 0, 1) := by decide +kernel
theorem dX7_countCut_3 : decode cX7_countCut 3 = .ok (.istore_n 2, 1) := by decide +kernel
theorem dX7_countCut_4 : decode cX7_countCut 4 = .ok (.iload_n 2, 1) := by decide +kernel
theorem dX7_countCut_5 : decode cX7_countCut 5 = .ok (.aload_n 0, 1) := by decide +kernel
theorem dX7_countCut_6 : decode cX7_countCut 6 = .ok (.getfield 50, 3) := by decide +kernel
theorem dX7_countCut_9 : decode cX7_countCut 9 = .ok (.if_icmp .ge 29, 3) := by decide +kernel
theorem dX7_countCut_12 : decode cX7_countCut 12 = .ok (.iload_n 1, 1) := by decide +kernel
theorem dX7_countCut_13 : decode cX7_countCut 13 = .ok (.aload_n 0, 1) := by decide +kernel
theorem dX7_countCut_14 : decode cX7_countCut 14 = .ok (.getfield 11, 3) := by decide +kernel
theorem dX7_countCut_17 : decode cX7_countCut 17 = .ok (.iload_n 2, 1) := by decide +kernel
theorem dX7_countCut_18 : decode cX7_countCut 18 = .ok (.aaload, 1) := by decide +kernel
theorem dX7_countCut_19 : decode cX7_countCut 19 = .ok (.getfield 96, 3) := by decide +kernel
theorem dX7_countCut_22 : decode cX7_countCut 22 = .ok (.ifCond .eq 7, 3) := by decide +kernel
theorem dX7_countCut_25 : decode cX7_countCut 25 = .ok (.iconst 0, 1) := by decide +kernel
theorem dX7_countCut_26 : decode cX7_countCut 26 = .ok (.goto 4, 3) := by decide +kernel
theorem dX7_countCut_29 : decode cX7_countCut 29 = .ok (.iconst 1, 1) := by decide +kernel
theorem dX7_countCut_30 : decode cX7_countCut 30 = .ok (.iadd, 1) := by decide +kernel
theorem dX7_countCut_31 : decode cX7_countCut 31 = .ok (.istore_n 1, 1) := by decide +kernel
theorem dX7_countCut_32 : decode cX7_countCut 32 = .ok (.iinc 2 1, 3) := by decide +kernel
theorem dX7_countCut_35 : decode cX7_countCut 35 = .ok (.goto (-31), 3) := by decide +kernel
theorem dX7_countCut_38 : decode cX7_countCut 38 = .ok (.iload_n 1, 1) := by decide +kernel
theorem dX7_countCut_39 : decode cX7_countCut 39 = .ok (.ireturn, 1) := by decide +kernel
theorem dX7_allDebt_0 : decode cX7_allDebt 0 = .ok (.iconst 0, 1) := by decide +kernel
theorem dX7_allDebt_1 : decode cX7_allDebt 1 = .ok (.istore_n 1, 1) := by decide +kernel
theorem dX7_allDebt_2 : decode cX7_allDebt 2 = .ok (.iconst 0, 1) := by decide +kernel
theorem dX7_allDebt_3 : decode cX7_allDebt 3 = .ok (.istore_n 2, 1) := by decide +kernel
theorem dX7_allDebt_4 : decode cX7_allDebt 4 = .ok (.iload_n 2, 1) := by decide +kernel
theorem dX7_allDebt_5 : decode cX7_allDebt 5 = .ok (.aload_n 0, 1) := by decide +kernel
theorem dX7_allDebt_6 : decode cX7_allDebt 6 = .ok (.getfield 50, 3) := by decide +kernel
theorem dX7_allDebt_9 : decode cX7_allDebt 9 = .ok (.if_icmp .ge 21, 3) := by decide +kernel
theorem dX7_allDebt_12 : decode cX7_allDebt 12 = .ok (.iload_n 1, 1) := by decide +kernel
theorem dX7_allDebt_13 : decode cX7_allDebt 13 = .ok (.aload_n 0, 1) := by decide +kernel
theorem dX7_allDebt_14 : decode cX7_allDebt 14 = .ok (.getfield 11, 3) := by decide +kernel
theorem dX7_allDebt_17 : decode cX7_allDebt 17 = .ok (.iload_n 2, 1) := by decide +kernel
theorem dX7_allDebt_18 : decode cX7_allDebt 18 = .ok (.aaload, 1) := by decide +kernel
theorem dX7_allDebt_19 : decode cX7_allDebt 19 = .ok (.getfield 75, 3) := by decide +kernel
theorem dX7_allDebt_22 : decode cX7_allDebt 22 = .ok (.iadd, 1) := by decide +kernel
theorem dX7_allDebt_23 : decode cX7_allDebt 23 = .ok (.istore_n 1, 1) := by decide +kernel
theorem dX7_allDebt_24 : decode cX7_allDebt 24 = .ok (.iinc 2 1, 3) := by decide +kernel
theorem dX7_allDebt_27 : decode cX7_allDebt 27 = .ok (.goto (-23), 3) := by decide +kernel
theorem dX7_allDebt_30 : decode cX7_allDebt 30 = .ok (.iload_n 1, 1) := by decide +kernel
theorem dX7_allDebt_31 : decode cX7_allDebt 31 = .ok (.ireturn, 1) := by decide +kernel
theorem dX7_copyFrom_0 : decode cX7_copyFrom 0 = .ok (.iconst 0, 1) := by decide +kernel
theorem dX7_copyFrom_1 : decode cX7_copyFrom 1 = .ok (.istore_n 2, 1) := by decide +kernel
theorem dX7_copyFrom_2 : decode cX7_copyFrom 2 = .ok (.iload_n 2, 1) := by decide +kernel
theorem dX7_copyFrom_3 : decode cX7_copyFrom 3 = .ok (.aload_n 1, 1) := by decide +kernel
theorem dX7_copyFrom_4 : decode cX7_copyFrom 4 = .ok (.getfield 50, 3) := by decide +kernel
theorem dX7_copyFrom_7 : decode cX7_copyFrom 7 = .ok (.if_icmp .ge 24, 3) := by decide +kernel
theorem dX7_copyFrom_10 : decode cX7_copyFrom 10 = .ok (.aload_n 0, 1) := by decide +kernel
theorem dX7_copyFrom_11 : decode cX7_copyFrom 11 = .ok (.getfield 11, 3) := by decide +kernel
theorem dX7_copyFrom_14 : decode cX7_copyFrom 14 = .ok (.iload_n 2, 1) := by decide +kernel
theorem dX7_copyFrom_15 : decode cX7_copyFrom 15 = .ok (.aaload, 1) := by decide +kernel
theorem dX7_copyFrom_16 : decode cX7_copyFrom 16 = .ok (.aload_n 1, 1) := by decide +kernel
theorem dX7_copyFrom_17 : decode cX7_copyFrom 17 = .ok (.getfield 11, 3) := by decide +kernel
theorem dX7_copyFrom_20 : decode cX7_copyFrom 20 = .ok (.iload_n 2, 1) := by decide +kernel
theorem dX7_copyFrom_21 : decode cX7_copyFrom 21 = .ok (.aaload, 1) := by decide +kernel
theorem dX7_copyFrom_22 : decode cX7_copyFrom 22 = .ok (.invokevirtual 149, 3) := by decide +kernel
theorem dX7_copyFrom_25 : decode cX7_copyFrom 25 = .ok (.iinc 2 1, 3) := by decide +kernel
theorem dX7_copyFrom_28 : decode cX7_copyFrom 28 = .ok (.goto (-26), 3) := by decide +kernel
theorem dX7_copyFrom_31 : decode cX7_copyFrom 31 = .ok (.aload_n 0, 1) := by decide +kernel
theorem dX7_copyFrom_32 : decode cX7_copyFrom 32 = .ok (.getfield 20, 3) := by decide +kernel
theorem dX7_copyFrom_35 : decode cX7_copyFrom 35 = .ok (.aload_n 1, 1) := by decide +kernel
theorem dX7_copyFrom_36 : decode cX7_copyFrom 36 = .ok (.getfield 20, 3) := by decide +kernel
theorem dX7_copyFrom_39 : decode cX7_copyFrom 39 = .ok (.invokevirtual 153, 3) := by decide +kernel
theorem dX7_copyFrom_42 : decode cX7_copyFrom 42 = .ok (.aload_n 0, 1) := by decide +kernel
theorem dX7_copyFrom_43 : decode cX7_copyFrom 43 = .ok (.getfield 27, 3) := by decide +kernel
theorem dX7_copyFrom_46 : decode cX7_copyFrom 46 = .ok (.aload_n 1, 1) := by decide +kernel
theorem dX7_copyFrom_47 : decode cX7_copyFrom 47 = .ok (.getfield 27, 3) := by decide +kernel
theorem dX7_copyFrom_50 : decode cX7_copyFrom 50 = .ok (.invokevirtual 156, 3) := by decide +kernel
theorem dX7_copyFrom_53 : decode cX7_copyFrom 53 = .ok (.aload_n 0, 1) := by decide +kernel
theorem dX7_copyFrom_54 : decode cX7_copyFrom 54 = .ok (.getfield 34, 3) := by decide +kernel
theorem dX7_copyFrom_57 : decode cX7_copyFrom 57 = .ok (.aload_n 1, 1) := by decide +kernel
theorem dX7_copyFrom_58 : decode cX7_copyFrom 58 = .ok (.getfield 34, 3) := by decide +kernel
theorem dX7_copyFrom_61 : decode cX7_copyFrom 61 = .ok (.invokevirtual 159, 3) := by decide +kernel
theorem dX7_copyFrom_64 : decode cX7_copyFrom 64 = .ok (.aload_n 0, 1) := by decide +kernel
theorem dX7_copyFrom_65 : decode cX7_copyFrom 65 = .ok (.getfield 41, 3) := by decide +kernel
theorem dX7_copyFrom_68 : decode cX7_copyFrom 68 = .ok (.aload_n 1, 1) := by decide +kernel
theorem dX7_copyFrom_69 : decode cX7_copyFrom 69 = .ok (.getfield 41, 3) := by decide +kernel
theorem dX7_copyFrom_72 : decode cX7_copyFrom 72 = .ok (.invokevirtual 162, 3) := by decide +kernel
theorem dX7_copyFrom_75 : decode cX7_copyFrom 75 = .ok (.aload_n 1, 1) := by decide +kernel
theorem dX7_copyFrom_76 : decode cX7_copyFrom 76 = .ok (.getfield 45, 3) := by decide +kernel
theorem dX7_copyFrom_79 : decode cX7_copyFrom 79 = .ok (.iconst 0, 1) := by decide +kernel
theorem dX7_copyFrom_80 : decode cX7_copyFrom 80 = .ok (.aload_n 0, 1) := by decide +kernel
theorem dX7_copyFrom_81 : decode cX7_copyFrom 81 = .ok (.getfield 45, 3) := by decide +kernel
theorem dX7_copyFrom_84 : decode cX7_copyFrom 84 = .ok (.iconst 0, 1) := by decide +kernel
theorem dX7_copyFrom_85 : decode cX7_copyFrom 85 = .ok (.bipush 60, 2) := by decide +kernel
theorem dX7_copyFrom_87 : decode cX7_copyFrom 87 = .ok (.invokestatic 165, 3) := by decide +kernel
theorem dX7_copyFrom_90 : decode cX7_copyFrom 90 = .ok (.aload_n 0, 1) := by decide +kernel
theorem dX7_copyFrom_91 : decode cX7_copyFrom 91 = .ok (.aload_n 1, 1) := by decide +kernel
theorem dX7_copyFrom_92 : decode cX7_copyFrom 92 = .ok (.getfield 50, 3) := by decide +kernel
theorem dX7_copyFrom_95 : decode cX7_copyFrom 95 = .ok (.putfield 50, 3) := by decide +kernel
theorem dX7_copyFrom_98 : decode cX7_copyFrom 98 = .ok (.aload_n 0, 1) := by decide +kernel
theorem dX7_copyFrom_99 : decode cX7_copyFrom 99 = .ok (.aload_n 1, 1) := by decide +kernel
theorem dX7_copyFrom_100 : decode cX7_copyFrom 100 = .ok (.getfield 171, 3) := by decide +kernel
theorem dX7_copyFrom_103 : decode cX7_copyFrom 103 = .ok (.putfield 171, 3) := by decide +kernel
theorem dX7_copyFrom_106 : decode cX7_copyFrom 106 = .ok (.aload_n 0, 1) := by decide +kernel
theorem dX7_copyFrom_107 : decode cX7_copyFrom 107 = .ok (.aload_n 1, 1) := by decide +kernel
theorem dX7_copyFrom_108 : decode cX7_copyFrom 108 = .ok (.getfield 58, 3) := by decide +kernel
theorem dX7_copyFrom_111 : decode cX7_copyFrom 111 = .ok (.putfield 58, 3) := by decide +kernel
theorem dX7_copyFrom_114 : decode cX7_copyFrom 114 = .ok (.return_, 1) := by decide +kernel
theorem dX8_init_0 : decode cX8_init 0 = .ok (.aload_n 0, 1) := by decide +kernel
theorem dX8_init_1 : decode cX8_init 1 = .ok (.invokespecial 3, 3) := by decide +kernel
theorem dX8_init_4 : decode cX8_init 4 = .ok (.aload_n 0, 1) := by decide +kernel
theorem dX8_init_5 : decode cX8_init 5 = .ok (.bipush 40, 2) := by decide +kernel
theorem dX8_init_7 : decode cX8_init 7 = .ok (.newarray .int, 2) := by decide +kernel
theorem dX8_init_9 : decode cX8_init 9 = .ok (.putfield 11, 3) := by decide +kernel
theorem dX8_init_12 : decode cX8_init 12 = .ok (.return_, 1) := by decide +kernel
theorem dX8_speak_0 : decode cX8_speak 0 = .ok (.aload_n 0, 1) := by decide +kernel
theorem dX8_speak_1 : decode cX8_speak 1 = .ok (.iconst 0, 1) := by decide +kernel
theorem dX8_speak_2 : decode cX8_speak 2 = .ok (.putfield 15, 3) := by decide +kernel
theorem dX8_speak_5 : decode cX8_speak 5 = .ok (.aload_n 0, 1) := by decide +kernel
theorem dX8_speak_6 : decode cX8_speak 6 = .ok (.aload_n 1, 1) := by decide +kernel
theorem dX8_speak_7 : decode cX8_speak 7 = .ok (.aload_n 1, 1) := by decide +kernel
theorem dX8_speak_8 : decode cX8_speak 8 = .ok (.getfield 19, 3) := by decide +kernel
theorem dX8_speak_11 : decode cX8_speak 11 = .ok (.iload_n 2, 1) := by decide +kernel
theorem dX8_speak_12 : decode cX8_speak 12 = .ok (.iload_n 3, 1) := by decide +kernel
theorem dX8_speak_13 : decode cX8_speak 13 = .ok (.iconst 0, 1) := by decide +kernel
theorem dX8_speak_14 : decode cX8_speak 14 = .ok (.invokevirtual 24, 3) := by decide +kernel
theorem dX8_speak_17 : decode cX8_speak 17 = .ok (.ireturn, 1) := by decide +kernel
theorem dX8_say_0 : decode cX8_say 0 = .ok (.iload_n 2, 1) := by decide +kernel
theorem dX8_say_1 : decode cX8_say 1 = .ok (.iload_n 3, 1) := by decide +kernel
theorem dX8_say_2 : decode cX8_say 2 = .ok (.invokestatic 28, 3) := by decide +kernel
theorem dX8_say_5 : decode cX8_say 5 = .ok (.istore 6, 2) := by decide +kernel
theorem dX8_say_7 : decode cX8_say 7 = .ok (.iload 6, 2) := by decide +kernel
theorem dX8_say_9 : decode cX8_say 9 = .ok (.invokestatic 32, 3) := by decide +kernel
theorem dX8_say_12 : decode cX8_say 12 = .ok (.ifCond .eq 10, 3) := by decide +kernel
theorem dX8_say_15 : decode cX8_say 15 = .ok (.iload 5, 2) := by decide +kernel
theorem dX8_say_17 : decode cX8_say 17 = .ok (.bipush 20, 2) := by decide +kernel
theorem dX8_say_19 : decode cX8_say 19 = .ok (.if_icmp .le 5, 3) := by decide +kernel
theorem dX8_say_22 : decode cX8_say 22 = .ok (.iconst 0, 1) := by decide +kernel
theorem dX8_say_23 : decode cX8_say 23 = .ok (.ireturn, 1) := by decide +kernel
theorem dX8_say_24 : decode cX8_say 24 = .ok (.getstatic 36, 3) := by decide +kernel
theorem dX8_say_27 : decode cX8_say 27 = .ok (.iload 6, 2) := by decide +kernel
theorem dX8_say_29 : decode cX8_say 29 = .ok (.iconst 4, 1) := by decide +kernel
theorem dX8_say_30 : decode cX8_say 30 = .ok (.imul, 1) := by decide +kernel
theorem dX8_say_31 : decode cX8_say 31 = .ok (.iload_n 3, 1) := by decide +kernel
theorem dX8_say_32 : decode cX8_say 32 = .ok (.iadd, 1) := by decide +kernel
theorem dX8_say_33 : decode cX8_say 33 = .ok (.iaload, 1) := by decide +kernel
theorem dX8_say_34 : decode cX8_say 34 = .ok (.istore 7, 2) := by decide +kernel
theorem dX8_say_36 : decode cX8_say 36 = .ok (.getstatic 39, 3) := by decide +kernel
theorem dX8_say_39 : decode cX8_say 39 = .ok (.iload 6, 2) := by decide +kernel
theorem dX8_say_41 : decode cX8_say 41 = .ok (.iaload, 1) := by decide +kernel
theorem dX8_say_42 : decode cX8_say 42 = .ok (.istore 8, 2) := by decide +kernel
theorem dX8_say_44 : decode cX8_say 44 = .ok (.iload 5, 2) := by decide +kernel
theorem dX8_say_46 : decode cX8_say 46 = .ok (.iconst 1, 1) := by decide +kernel
theorem dX8_say_47 : decode cX8_say 47 = .ok (.iadd, 1) := by decide +kernel
theorem dX8_say_48 : decode cX8_say 48 = .ok (.istore 9, 2) := by decide +kernel
theorem dX8_say_50 : decode cX8_say 50 = .ok (.aload_n 1, 1) := by decide +kernel
theorem dX8_say_51 : decode cX8_say 51 = .ok (.getfield 42, 3) := by decide +kernel
theorem dX8_say_54 : decode cX8_say 54 = .ok (.aload_n 1, 1) := by decide +kernel
theorem dX8_say_55 : decode cX8_say 55 = .ok (.getfield 45, 3) := by decide +kernel
theorem dX8_say_58 : decode cX8_say 58 = .ok (.iadd, 1) := by decide +kernel
theorem dX8_say_59 : decode cX8_say 59 = .ok (.istore 10, 2) := by decide +kernel
theorem dX8_say_61 : decode cX8_say 61 = .ok (.aload_n 0, 1) := by decide +kernel
theorem dX8_say_62 : decode cX8_say 62 = .ok (.iload 7, 2) := by decide +kernel
theorem dX8_say_64 : decode cX8_say 64 = .ok (.invokevirtual 48, 3) := by decide +kernel
theorem dX8_say_67 : decode cX8_say 67 = .ok (.iload 7, 2) := by decide +kernel
theorem dX8_say_69 : decode cX8_say 69 = .ok (.lookupswitch 332 #[(10, 107), (11, 113), (12, 130), (13, 138), (20, 168), (21, 186), (30, 201), (40, 229), (41, 244), (50, 260), (51, 288), (60, 316)], 107) := by decide +kernel
theorem dX8_say_176 : decode cX8_say 176 = .ok (.iload 4, 2) := by decide +kernel
theorem dX8_say_178 : decode cX8_say 178 = .ok (.iload 10, 2) := by decide +kernel
theorem dX8_say_180 : decode cX8_say 180 = .ok (.iadd, 1) := by decide +kernel
theorem dX8_say_181 : decode cX8_say 181 = .ok (.ireturn, 1) := by decide +kernel
theorem dX8_say_182 : decode cX8_say 182 = .ok (.aload_n 0, 1) := by decide +kernel
theorem dX8_say_183 : decode cX8_say 183 = .ok (.aload_n 1, 1) := by decide +kernel
theorem dX8_say_184 : decode cX8_say 184 = .ok (.aload_n 1, 1) := by decide +kernel
theorem dX8_say_185 : decode cX8_say 185 = .ok (.getfield 19, 3) := by decide +kernel
theorem dX8_say_188 : decode cX8_say 188 = .ok (.iconst 0, 1) := by decide +kernel
theorem dX8_say_189 : decode cX8_say 189 = .ok (.iload 4, 2) := by decide +kernel
theorem dX8_say_191 : decode cX8_say 191 = .ok (.iload 9, 2) := by decide +kernel
theorem dX8_say_193 : decode cX8_say 193 = .ok (.invokevirtual 24, 3) := by decide +kernel
theorem dX8_say_196 : decode cX8_say 196 = .ok (.iconst 2, 1) := by decide +kernel
theorem dX8_say_197 : decode cX8_say 197 = .ok (.imul, 1) := by decide +kernel
theorem dX8_say_198 : decode cX8_say 198 = .ok (.ireturn, 1) := by decide +kernel
theorem dX8_say_199 : decode cX8_say 199 = .ok (.iload 4, 2) := by decide +kernel
theorem dX8_say_201 : decode cX8_say 201 = .ok (.aload_n 1, 1) := by decide +kernel
theorem dX8_say_202 : decode cX8_say 202 = .ok (.getfield 52, 3) := by decide +kernel
theorem dX8_say_205 : decode cX8_say 205 = .ok (.isub, 1) := by decide +kernel
theorem dX8_say_206 : decode cX8_say 206 = .ok (.ireturn, 1) := by decide +kernel
theorem dX8_say_207 : decode cX8_say 207 = .ok (.aload_n 0, 1) := by decide +kernel
theorem dX8_say_208 : decode cX8_say 208 = .ok (.aload_n 1, 1) := by decide +kernel
theorem dX8_say_209 : decode cX8_say 209 = .ok (.aload_n 1, 1) := by decide +kernel
theorem dX8_say_210 : decode cX8_say 210 = .ok (.getfield 19, 3) := by decide +kernel
theorem dX8_say_213 : decode cX8_say 213 = .ok (.iconst 1, 1) := by decide +kernel
theorem dX8_say_214 : decode cX8_say 214 = .ok (.iload 4, 2) := by decide +kernel
theorem dX8_say_216 : decode cX8_say 216 = .ok (.iload 9, 2) := by decide +kernel
theorem dX8_say_218 : decode cX8_say 218 = .ok (.invokevirtual 24, 3) := by decide +kernel
theorem dX8_say_221 : decode cX8_say 221 = .ok (.aload_n 0, 1) := by decide +kernel
theorem dX8_say_222 : decode cX8_say 222 = .ok (.aload_n 1, 1) := by decide +kernel
theorem dX8_say_223 : decode cX8_say 223 = .ok (.aload_n 1, 1) := by decide +kernel
theorem dX8_say_224 : decode cX8_say 224 = .ok (.getfield 19, 3) := by decide +kernel
theorem dX8_say_227 : decode cX8_say 227 = .ok (.iconst 2, 1) := by decide +kernel
theorem dX8_say_228 : decode cX8_say 228 = .ok (.iload 4, 2) := by decide +kernel
theorem dX8_say_230 : decode cX8_say 230 = .ok (.iload 9, 2) := by decide +kernel
theorem dX8_say_232 : decode cX8_say 232 = .ok (.invokevirtual 24, 3) := by decide +kernel
theorem dX8_say_235 : decode cX8_say 235 = .ok (.ixor, 1) := by decide +kernel
theorem dX8_say_236 : decode cX8_say 236 = .ok (.ireturn, 1) := by decide +kernel
theorem dX8_say_237 : decode cX8_say 237 = .ok (.aload_n 0, 1) := by decide +kernel
theorem dX8_say_238 : decode cX8_say 238 = .ok (.aload_n 1, 1) := by decide +kernel
theorem dX8_say_239 : decode cX8_say 239 = .ok (.iload 8, 2) := by decide +kernel
theorem dX8_say_241 : decode cX8_say 241 = .ok (.iconst 0, 1) := by decide +kernel
theorem dX8_say_242 : decode cX8_say 242 = .ok (.iload 4, 2) := by decide +kernel
theorem dX8_say_244 : decode cX8_say 244 = .ok (.iload 9, 2) := by decide +kernel
theorem dX8_say_246 : decode cX8_say 246 = .ok (.invokevirtual 24, 3) := by decide +kernel
theorem dX8_say_249 : decode cX8_say 249 = .ok (.aload_n 1, 1) := by decide +kernel
theorem dX8_say_250 : decode cX8_say 250 = .ok (.getfield 52, 3) := by decide +kernel
theorem dX8_say_253 : decode cX8_say 253 = .ok (.isub, 1) := by decide +kernel
theorem dX8_say_254 : decode cX8_say 254 = .ok (.ireturn, 1) := by decide +kernel
theorem dX8_say_255 : decode cX8_say 255 = .ok (.aload_n 0, 1) := by decide +kernel
theorem dX8_say_256 : decode cX8_say 256 = .ok (.aload_n 1, 1) := by decide +kernel
theorem dX8_say_257 : decode cX8_say 257 = .ok (.iload 8, 2) := by decide +kernel
theorem dX8_say_259 : decode cX8_say 259 = .ok (.iconst 3, 1) := by decide +kernel
theorem dX8_say_260 : decode cX8_say 260 = .ok (.iload 4, 2) := by decide +kernel
theorem dX8_say_262 : decode cX8_say 262 = .ok (.iconst 1, 1) := by decide +kernel
theorem dX8_say_263 : decode cX8_say 263 = .ok (.iadd, 1) := by decide +kernel
theorem dX8_say_264 : decode cX8_say 264 = .ok (.iload 9, 2) := by decide +kernel
theorem dX8_say_266 : decode cX8_say 266 = .ok (.invokevirtual 24, 3) := by decide +kernel
theorem dX8_say_269 : decode cX8_say 269 = .ok (.ireturn, 1) := by decide +kernel
theorem dX8_say_270 : decode cX8_say 270 = .ok (.aload_n 0, 1) := by decide +kernel
theorem dX8_say_271 : decode cX8_say 271 = .ok (.aload_n 1, 1) := by decide +kernel
theorem dX8_say_272 : decode cX8_say 272 = .ok (.iload 8, 2) := by decide +kernel
theorem dX8_say_274 : decode cX8_say 274 = .ok (.iconst 1, 1) := by decide +kernel
theorem dX8_say_275 : decode cX8_say 275 = .ok (.iload 4, 2) := by decide +kernel
theorem dX8_say_277 : decode cX8_say 277 = .ok (.iload 9, 2) := by decide +kernel
theorem dX8_say_279 : decode cX8_say 279 = .ok (.invokevirtual 24, 3) := by decide +kernel
theorem dX8_say_282 : decode cX8_say 282 = .ok (.aload_n 0, 1) := by decide +kernel
theorem dX8_say_283 : decode cX8_say 283 = .ok (.aload_n 1, 1) := by decide +kernel
theorem dX8_say_284 : decode cX8_say 284 = .ok (.aload_n 1, 1) := by decide +kernel
theorem dX8_say_285 : decode cX8_say 285 = .ok (.getfield 19, 3) := by decide +kernel
theorem dX8_say_288 : decode cX8_say 288 = .ok (.iconst 2, 1) := by decide +kernel
theorem dX8_say_289 : decode cX8_say 289 = .ok (.iload 4, 2) := by decide +kernel
theorem dX8_say_291 : decode cX8_say 291 = .ok (.iload 9, 2) := by decide +kernel
theorem dX8_say_293 : decode cX8_say 293 = .ok (.invokevirtual 24, 3) := by decide +kernel
theorem dX8_say_296 : decode cX8_say 296 = .ok (.iadd, 1) := by decide +kernel
theorem dX8_say_297 : decode cX8_say 297 = .ok (.ireturn, 1) := by decide +kernel
theorem dX8_say_298 : decode cX8_say 298 = .ok (.aload_n 0, 1) := by decide +kernel
theorem dX8_say_299 : decode cX8_say 299 = .ok (.aload_n 1, 1) := by decide +kernel
theorem dX8_say_300 : decode cX8_say 300 = .ok (.iload 8, 2) := by decide +kernel
theorem dX8_say_302 : decode cX8_say 302 = .ok (.iconst 2, 1) := by decide +kernel
theorem dX8_say_303 : decode cX8_say 303 = .ok (.iload 4, 2) := by decide +kernel
theorem dX8_say_305 : decode cX8_say 305 = .ok (.iload 9, 2) := by decide +kernel
theorem dX8_say_307 : decode cX8_say 307 = .ok (.invokevirtual 24, 3) := by decide +kernel
theorem dX8_say_310 : decode cX8_say 310 = .ok (.iconst 3, 1) := by decide +kernel
theorem dX8_say_311 : decode cX8_say 311 = .ok (.imul, 1) := by decide +kernel
theorem dX8_say_312 : decode cX8_say 312 = .ok (.ireturn, 1) := by decide +kernel
theorem dX8_say_313 : decode cX8_say 313 = .ok (.aload_n 0, 1) := by decide +kernel
theorem dX8_say_314 : decode cX8_say 314 = .ok (.aload_n 1, 1) := by decide +kernel
theorem dX8_say_315 : decode cX8_say 315 = .ok (.iload 8, 2) := by decide +kernel
theorem dX8_say_317 : decode cX8_say 317 = .ok (.iconst 0, 1) := by decide +kernel
theorem dX8_say_318 : decode cX8_say 318 = .ok (.iload 4, 2) := by decide +kernel
theorem dX8_say_320 : decode cX8_say 320 = .ok (.iload 10, 2) := by decide +kernel
theorem dX8_say_322 : decode cX8_say 322 = .ok (.iadd, 1) := by decide +kernel
theorem dX8_say_323 : decode cX8_say 323 = .ok (.iload 9, 2) := by decide +kernel
theorem dX8_say_325 : decode cX8_say 325 = .ok (.invokevirtual 24, 3) := by decide +kernel
theorem dX8_say_328 : decode cX8_say 328 = .ok (.ireturn, 1) := by decide +kernel
theorem dX8_say_329 : decode cX8_say 329 = .ok (.aload_n 0, 1) := by decide +kernel
theorem dX8_say_330 : decode cX8_say 330 = .ok (.aload_n 1, 1) := by decide +kernel
theorem dX8_say_331 : decode cX8_say 331 = .ok (.aload_n 1, 1) := by decide +kernel
theorem dX8_say_332 : decode cX8_say 332 = .ok (.getfield 19, 3) := by decide +kernel
theorem dX8_say_335 : decode cX8_say 335 = .ok (.iconst 2, 1) := by decide +kernel
theorem dX8_say_336 : decode cX8_say 336 = .ok (.iload 4, 2) := by decide +kernel
theorem dX8_say_338 : decode cX8_say 338 = .ok (.iload 9, 2) := by decide +kernel
theorem dX8_say_340 : decode cX8_say 340 = .ok (.invokevirtual 24, 3) := by decide +kernel
theorem dX8_say_343 : decode cX8_say 343 = .ok (.aload_n 0, 1) := by decide +kernel
theorem dX8_say_344 : decode cX8_say 344 = .ok (.aload_n 1, 1) := by decide +kernel
theorem dX8_say_345 : decode cX8_say 345 = .ok (.iload 8, 2) := by decide +kernel
theorem dX8_say_347 : decode cX8_say 347 = .ok (.iconst 3, 1) := by decide +kernel
theorem dX8_say_348 : decode cX8_say 348 = .ok (.iload 4, 2) := by decide +kernel
theorem dX8_say_350 : decode cX8_say 350 = .ok (.iload 9, 2) := by decide +kernel
theorem dX8_say_352 : decode cX8_say 352 = .ok (.invokevirtual 24, 3) := by decide +kernel
theorem dX8_say_355 : decode cX8_say 355 = .ok (.isub, 1) := by decide +kernel
theorem dX8_say_356 : decode cX8_say 356 = .ok (.ireturn, 1) := by decide +kernel
theorem dX8_say_357 : decode cX8_say 357 = .ok (.aload_n 0, 1) := by decide +kernel
theorem dX8_say_358 : decode cX8_say 358 = .ok (.aload_n 1, 1) := by decide +kernel
theorem dX8_say_359 : decode cX8_say 359 = .ok (.iload 8, 2) := by decide +kernel
theorem dX8_say_361 : decode cX8_say 361 = .ok (.iconst 1, 1) := by decide +kernel
theorem dX8_say_362 : decode cX8_say 362 = .ok (.iload 4, 2) := by decide +kernel
theorem dX8_say_364 : decode cX8_say 364 = .ok (.iload 9, 2) := by decide +kernel
theorem dX8_say_366 : decode cX8_say 366 = .ok (.invokevirtual 24, 3) := by decide +kernel
theorem dX8_say_369 : decode cX8_say 369 = .ok (.aload_n 0, 1) := by decide +kernel
theorem dX8_say_370 : decode cX8_say 370 = .ok (.aload_n 1, 1) := by decide +kernel
theorem dX8_say_371 : decode cX8_say 371 = .ok (.aload_n 1, 1) := by decide +kernel
theorem dX8_say_372 : decode cX8_say 372 = .ok (.getfield 19, 3) := by decide +kernel
theorem dX8_say_375 : decode cX8_say 375 = .ok (.iconst 0, 1) := by decide +kernel
theorem dX8_say_376 : decode cX8_say 376 = .ok (.iload 4, 2) := by decide +kernel
theorem dX8_say_378 : decode cX8_say 378 = .ok (.iload 9, 2) := by decide +kernel
theorem dX8_say_380 : decode cX8_say 380 = .ok (.invokevirtual 24, 3) := by decide +kernel
theorem dX8_say_383 : decode cX8_say 383 = .ok (.ixor, 1) := by decide +kernel
theorem dX8_say_384 : decode cX8_say 384 = .ok (.ireturn, 1) := by decide +kernel
theorem dX8_say_385 : decode cX8_say 385 = .ok (.aload_n 0, 1) := by decide +kernel
theorem dX8_say_386 : decode cX8_say 386 = .ok (.aload_n 1, 1) := by decide +kernel
theorem dX8_say_387 : decode cX8_say 387 = .ok (.iload 8, 2) := by decide +kernel
theorem dX8_say_389 : decode cX8_say 389 = .ok (.iconst 2, 1) := by decide +kernel
theorem dX8_say_390 : decode cX8_say 390 = .ok (.iload 4, 2) := by decide +kernel
theorem dX8_say_392 : decode cX8_say 392 = .ok (.iload 10, 2) := by decide +kernel
theorem dX8_say_394 : decode cX8_say 394 = .ok (.isub, 1) := by decide +kernel
theorem dX8_say_395 : decode cX8_say 395 = .ok (.iload 9, 2) := by decide +kernel
theorem dX8_say_397 : decode cX8_say 397 = .ok (.invokevirtual 24, 3) := by decide +kernel
theorem dX8_say_400 : decode cX8_say 400 = .ok (.ireturn, 1) := by decide +kernel
theorem dX8_say_401 : decode cX8_say 401 = .ok (.iconst 0, 1) := by decide +kernel
theorem dX8_say_402 : decode cX8_say 402 = .ok (.ireturn, 1) := by decide +kernel
theorem dX8_ownerOf_0 : decode cX8_ownerOf 0 = .ok (.iload_n 0, 1) := by decide +kernel
theorem dX8_ownerOf_1 : decode cX8_ownerOf 1 = .ok (.istore_n 2, 1) := by decide +kernel
theorem dX8_ownerOf_2 : decode cX8_ownerOf 2 = .ok (.iconst 0, 1) := by decide +kernel
theorem dX8_ownerOf_3 : decode cX8_ownerOf 3 = .ok (.istore_n 3, 1) := by decide +kernel
theorem dX8_ownerOf_4 : decode cX8_ownerOf 4 = .ok (.iload_n 3, 1) := by decide +kernel
theorem dX8_ownerOf_5 : decode cX8_ownerOf 5 = .ok (.bipush 6, 2) := by decide +kernel
theorem dX8_ownerOf_7 : decode cX8_ownerOf 7 = .ok (.if_icmp .ge 45, 3) := by decide +kernel
theorem dX8_ownerOf_10 : decode cX8_ownerOf 10 = .ok (.iload_n 2, 1) := by decide +kernel
theorem dX8_ownerOf_11 : decode cX8_ownerOf 11 = .ok (.invokestatic 32, 3) := by decide +kernel
theorem dX8_ownerOf_14 : decode cX8_ownerOf 14 = .ok (.ifCond .eq 38, 3) := by decide +kernel
theorem dX8_ownerOf_17 : decode cX8_ownerOf 17 = .ok (.iload_n 1, 1) := by decide +kernel
theorem dX8_ownerOf_18 : decode cX8_ownerOf 18 = .ok (.ifCond .lt 34, 3) := by decide +kernel
theorem dX8_ownerOf_21 : decode cX8_ownerOf 21 = .ok (.iload_n 1, 1) := by decide +kernel
theorem dX8_ownerOf_22 : decode cX8_ownerOf 22 = .ok (.iconst 4, 1) := by decide +kernel
theorem dX8_ownerOf_23 : decode cX8_ownerOf 23 = .ok (.if_icmp .ge 29, 3) := by decide +kernel
theorem dX8_ownerOf_26 : decode cX8_ownerOf 26 = .ok (.getstatic 36, 3) := by decide +kernel
theorem dX8_ownerOf_29 : decode cX8_ownerOf 29 = .ok (.iload_n 2, 1) := by decide +kernel
theorem dX8_ownerOf_30 : decode cX8_ownerOf 30 = .ok (.iconst 4, 1) := by decide +kernel
theorem dX8_ownerOf_31 : decode cX8_ownerOf 31 = .ok (.imul, 1) := by decide +kernel
theorem dX8_ownerOf_32 : decode cX8_ownerOf 32 = .ok (.iload_n 1, 1) := by decide +kernel
theorem dX8_ownerOf_33 : decode cX8_ownerOf 33 = .ok (.iadd, 1) := by decide +kernel
theorem dX8_ownerOf_34 : decode cX8_ownerOf 34 = .ok (.iaload, 1) := by decide +kernel
theorem dX8_ownerOf_35 : decode cX8_ownerOf 35 = .ok (.ifCond .eq 5, 3) := by decide +kernel
theorem dX8_ownerOf_38 : decode cX8_ownerOf 38 = .ok (.iload_n 2, 1) := by decide +kernel
theorem dX8_ownerOf_39 : decode cX8_ownerOf 39 = .ok (.ireturn, 1) := by decide +kernel
theorem dX8_ownerOf_40 : decode cX8_ownerOf 40 = .ok (.getstatic 39, 3) := by decide +kernel
theorem dX8_ownerOf_43 : decode cX8_ownerOf 43 = .ok (.iload_n 2, 1) := by decide +kernel
theorem dX8_ownerOf_44 : decode cX8_ownerOf 44 = .ok (.iaload, 1) := by decide +kernel
theorem dX8_ownerOf_45 : decode cX8_ownerOf 45 = .ok (.istore_n 2, 1) := by decide +kernel
theorem dX8_ownerOf_46 : decode cX8_ownerOf 46 = .ok (.iinc 3 1, 3) := by decide +kernel
theorem dX8_ownerOf_49 : decode cX8_ownerOf 49 = .ok (.goto (-45), 3) := by decide +kernel
theorem dX8_ownerOf_52 : decode cX8_ownerOf 52 = .ok (.iconst (-1), 1) := by decide +kernel
theorem dX8_ownerOf_53 : decode cX8_ownerOf 53 = .ok (.ireturn, 1) := by decide +kernel
theorem dX8_note_0 : decode cX8_note 0 = .ok (.aload_n 0, 1) := by decide +kernel
theorem dX8_note_1 : decode cX8_note 1 = .ok (.getfield 15, 3) := by decide +kernel
theorem dX8_note_4 : decode cX8_note 4 = .ok (.bipush 40, 2) := by decide +kernel
theorem dX8_note_6 : decode cX8_note 6 = .ok (.if_icmp .ge 23, 3) := by decide +kernel
theorem dX8_note_9 : decode cX8_note 9 = .ok (.aload_n 0, 1) := by decide +kernel
theorem dX8_note_10 : decode cX8_note 10 = .ok (.getfield 11, 3) := by decide +kernel
theorem dX8_note_13 : decode cX8_note 13 = .ok (.aload_n 0, 1) := by decide +kernel
theorem dX8_note_14 : decode cX8_note 14 = .ok (.getfield 15, 3) := by decide +kernel
theorem dX8_note_17 : decode cX8_note 17 = .ok (.iload_n 1, 1) := by decide +kernel
theorem dX8_note_18 : decode cX8_note 18 = .ok (.iastore, 1) := by decide +kernel
theorem dX8_note_19 : decode cX8_note 19 = .ok (.aload_n 0, 1) := by decide +kernel
theorem dX8_note_20 : decode cX8_note 20 = .ok (.dup, 1) := by decide +kernel
theorem dX8_note_21 : decode cX8_note 21 = .ok (.getfield 15, 3) := by decide +kernel
theorem dX8_note_24 : decode cX8_note 24 = .ok (.iconst 1, 1) := by decide +kernel
theorem dX8_note_25 : decode cX8_note 25 = .ok (.iadd, 1) := by decide +kernel
theorem dX8_note_26 : decode cX8_note 26 = .ok (.putfield 15, 3) := by decide +kernel
theorem dX8_note_29 : decode cX8_note 29 = .ok (.return_, 1) := by decide +kernel
theorem dX9_init_0 : decode cX9_init 0 = .ok (.aload_n 0, 1) := by decide +kernel
theorem dX9_init_1 : decode cX9_init 1 = .ok (.invokespecial 1, 3) := by decide +kernel
theorem dX9_init_4 : decode cX9_init 4 = .ok (.aload_n 0, 1) := by decide +kernel
theorem dX9_init_5 : decode cX9_init 5 = .ok (.new 7, 3) := by decide +kernel
theorem dX9_init_8 : decode cX9_init 8 = .ok (.dup, 1) := by decide +kernel
theorem dX9_init_9 : decode cX9_init 9 = .ok (.invokespecial 9, 3) := by decide +kernel
theorem dX9_init_12 : decode cX9_init 12 = .ok (.putfield 10, 3) := by decide +kernel
theorem dX9_init_15 : decode cX9_init 15 = .ok (.aload_n 0, 1) := by decide +kernel
theorem dX9_init_16 : decode cX9_init 16 = .ok (.new 7, 3) := by decide +kernel
theorem dX9_init_19 : decode cX9_init 19 = .ok (.dup, 1) := by decide +kernel
theorem dX9_init_20 : decode cX9_init 20 = .ok (.invokespecial 9, 3) := by decide +kernel
theorem dX9_init_23 : decode cX9_init 23 = .ok (.putfield 16, 3) := by decide +kernel
theorem dX9_init_26 : decode cX9_init 26 = .ok (.aload_n 0, 1) := by decide +kernel
theorem dX9_init_27 : decode cX9_init 27 = .ok (.new 19, 3) := by decide +kernel
theorem dX9_init_30 : decode cX9_init 30 = .ok (.dup, 1) := by decide +kernel
theorem dX9_init_31 : decode cX9_init 31 = .ok (.invokespecial 21, 3) := by decide +kernel
theorem dX9_init_34 : decode cX9_init 34 = .ok (.putfield 22, 3) := by decide +kernel
theorem dX9_init_37 : decode cX9_init 37 = .ok (.aload_n 0, 1) := by decide +kernel
theorem dX9_init_38 : decode cX9_init 38 = .ok (.new 26, 3) := by decide +kernel
theorem dX9_init_41 : decode cX9_init 41 = .ok (.dup, 1) := by decide +kernel
theorem dX9_init_42 : decode cX9_init 42 = .ok (.invokespecial 28, 3) := by decide +kernel
theorem dX9_init_45 : decode cX9_init 45 = .ok (.putfield 29, 3) := by decide +kernel
theorem dX9_init_48 : decode cX9_init 48 = .ok (.aload_n 0, 1) := by decide +kernel
theorem dX9_init_49 : decode cX9_init 49 = .ok (.new 33, 3) := by decide +kernel
theorem dX9_init_52 : decode cX9_init 52 = .ok (.dup, 1) := by decide +kernel
theorem dX9_init_53 : decode cX9_init 53 = .ok (.invokespecial 35, 3) := by decide +kernel
theorem dX9_init_56 : decode cX9_init 56 = .ok (.putfield 36, 3) := by decide +kernel
theorem dX9_init_59 : decode cX9_init 59 = .ok (.aload_n 0, 1) := by decide +kernel
theorem dX9_init_60 : decode cX9_init 60 = .ok (.iconst 4, 1) := by decide +kernel
theorem dX9_init_61 : decode cX9_init 61 = .ok (.anewarray 40, 3) := by decide +kernel
theorem dX9_init_64 : decode cX9_init 64 = .ok (.putfield 42, 3) := by decide +kernel
theorem dX9_init_67 : decode cX9_init 67 = .ok (.aload_n 0, 1) := by decide +kernel
theorem dX9_init_68 : decode cX9_init 68 = .ok (.bipush 6, 2) := by decide +kernel
theorem dX9_init_70 : decode cX9_init 70 = .ok (.newarray .int, 2) := by decide +kernel
theorem dX9_init_72 : decode cX9_init 72 = .ok (.putfield 46, 3) := by decide +kernel
theorem dX9_init_75 : decode cX9_init 75 = .ok (.aload_n 0, 1) := by decide +kernel
theorem dX9_init_76 : decode cX9_init 76 = .ok (.bipush 8, 2) := by decide +kernel
theorem dX9_init_78 : decode cX9_init 78 = .ok (.newarray .int, 2) := by decide +kernel
theorem dX9_init_80 : decode cX9_init 80 = .ok (.putfield 50, 3) := by decide +kernel
theorem dX9_init_83 : decode cX9_init 83 = .ok (.iconst 0, 1) := by decide +kernel
theorem dX9_init_84 : decode cX9_init 84 = .ok (.istore_n 1, 1) := by decide +kernel
theorem dX9_init_85 : decode cX9_init 85 = .ok (.iload_n 1, 1) := by decide +kernel
theorem dX9_init_86 : decode cX9_init 86 = .ok (.iconst 4, 1) := by decide +kernel
theorem dX9_init_87 : decode cX9_init 87 = .ok (.if_icmp .ge 22, 3) := by decide +kernel
theorem dX9_init_90 : decode cX9_init 90 = .ok (.aload_n 0, 1) := by decide +kernel
theorem dX9_init_91 : decode cX9_init 91 = .ok (.getfield 42, 3) := by decide +kernel
theorem dX9_init_94 : decode cX9_init 94 = .ok (.iload_n 1, 1) := by decide +kernel
theorem dX9_init_95 : decode cX9_init 95 = .ok (.new 40, 3) := by decide +kernel
theorem dX9_init_98 : decode cX9_init 98 = .ok (.dup, 1) := by decide +kernel
theorem dX9_init_99 : decode cX9_init 99 = .ok (.invokespecial 53, 3) := by decide +kernel
theorem dX9_init_102 : decode cX9_init 102 = .ok (.aastore, 1) := by decide +kernel
theorem dX9_init_103 : decode cX9_init 103 = .ok (.iinc 1 1, 3) := by decide +kernel
theorem dX9_init_106 : decode cX9_init 106 = .ok (.goto (-21), 3) := by decide +kernel
theorem dX9_init_109 : decode cX9_init 109 = .ok (.return_, 1) := by decide +kernel
theorem dX9_meter_0 : decode cX9_meter 0 = .ok (.iload_n 1, 1) := by decide +kernel
theorem dX9_meter_1 : decode cX9_meter 1 = .ok (.invokestatic 54, 3) := by decide +kernel
theorem dX9_meter_4 : decode cX9_meter 4 = .ok (.ifCond .eq 10, 3) := by decide +kernel
theorem dX9_meter_7 : decode cX9_meter 7 = .ok (.iload_n 2, 1) := by decide +kernel
theorem dX9_meter_8 : decode cX9_meter 8 = .ok (.invokestatic 58, 3) := by decide +kernel
theorem dX9_meter_11 : decode cX9_meter 11 = .ok (.ifCond .ne 9, 3) := by decide +kernel
theorem dX9_meter_14 : decode cX9_meter 14 = .ok (.aload_n 0, 1) := by decide +kernel
theorem dX9_meter_15 : decode cX9_meter 15 = .ok (.iconst 1, 1) := by decide +kernel
theorem dX9_meter_16 : decode cX9_meter 16 = .ok (.invokevirtual 61, 3) := by decide +kernel
theorem dX9_meter_19 : decode cX9_meter 19 = .ok (.ireturn, 1) := by decide +kernel
theorem dX9_meter_20 : decode cX9_meter 20 = .ok (.aload_n 0, 1) := by decide +kernel
theorem dX9_meter_21 : decode cX9_meter 21 = .ok (.getfield 10, 3) := by decide +kernel
theorem dX9_meter_24 : decode cX9_meter 24 = .ok (.getfield 65, 3) := by decide +kernel
theorem dX9_meter_27 : decode cX9_meter 27 = .ok (.bipush 8, 2) := by decide +kernel
theorem dX9_meter_29 : decode cX9_meter 29 = .ok (.if_icmp .lt 9, 3) := by decide +kernel
theorem dX9_meter_32 : decode cX9_meter 32 = .ok (.aload_n 0, 1) := by decide +kernel
theorem dX9_meter_33 : decode cX9_meter 33 = .ok (.iconst 4, 1) := by decide +kernel
theorem dX9_meter_34 : decode cX9_meter 34 = .ok (.invokevirtual 61, 3) := by decide +kernel
theorem dX9_meter_37 : decode cX9_meter 37 = .ok (.ireturn, 1) := by decide +kernel
theorem dX9_meter_38 : decode cX9_meter 38 = .ok (.aload_n 0, 1) := by decide +kernel
theorem dX9_meter_39 : decode cX9_meter 39 = .ok (.getfield 10, 3) := by decide +kernel
theorem dX9_meter_42 : decode cX9_meter 42 = .ok (.iload_n 1, 1) := by decide +kernel
theorem dX9_meter_43 : decode cX9_meter 43 = .ok (.iload_n 2, 1) := by decide +kernel
theorem dX9_meter_44 : decode cX9_meter 44 = .ok (.invokevirtual 69, 3) := by decide +kernel
theorem dX9_meter_47 : decode cX9_meter 47 = .ok (.ireturn, 1) := by decide +kernel
theorem dX9_as_0 : decode cX9_as 0 = .ok (.aload_n 0, 1) := by decide +kernel
theorem dX9_as_1 : decode cX9_as 1 = .ok (.getfield 10, 3) := by decide +kernel
theorem dX9_as_4 : decode cX9_as 4 = .ok (.iload_n 1, 1) := by decide +kernel
theorem dX9_as_5 : decode cX9_as 5 = .ok (.invokevirtual 73, 3) := by decide +kernel
theorem dX9_as_8 : decode cX9_as 8 = .ok (.ifCond .eq 10, 3) := by decide +kernel
theorem dX9_as_11 : decode cX9_as 11 = .ok (.iload_n 2, 1) := by decide +kernel
theorem dX9_as_12 : decode cX9_as 12 = .ok (.invokestatic 54, 3) := by decide +kernel
theorem dX9_as_15 : decode cX9_as 15 = .ok (.ifCond .ne 9, 3) := by decide +kernel
theorem dX9_as_18 : decode cX9_as 18 = .ok (.aload_n 0, 1) := by decide +kernel
theorem dX9_as_19 : decode cX9_as 19 = .ok (.iconst 1, 1) := by decide +kernel
theorem dX9_as_20 : decode cX9_as 20 = .ok (.invokevirtual 61, 3) := by decide +kernel
theorem dX9_as_23 : decode cX9_as 23 = .ok (.ireturn, 1) := by decide +kernel
theorem dX9_as_24 : decode cX9_as 24 = .ok (.aload_n 0, 1) := by decide +kernel
theorem dX9_as_25 : decode cX9_as 25 = .ok (.getfield 10, 3) := by decide +kernel
theorem dX9_as_28 : decode cX9_as 28 = .ok (.getfield 76, 3) := by decide +kernel
theorem dX9_as_31 : decode cX9_as 31 = .ok (.iload_n 1, 1) := by decide +kernel
theorem dX9_as_32 : decode cX9_as 32 = .ok (.aaload, 1) := by decide +kernel
theorem dX9_as_33 : decode cX9_as 33 = .ok (.astore_n 3, 1) := by decide +kernel
theorem dX9_as_34 : decode cX9_as 34 = .ok (.aload_n 3, 1) := by decide +kernel
theorem dX9_as_35 : decode cX9_as 35 = .ok (.iload_n 2, 1) := by decide +kernel
theorem dX9_as_36 : decode cX9_as 36 = .ok (.invokevirtual 80, 3) := by decide +kernel
theorem dX9_as_39 : decode cX9_as 39 = .ok (.ifCond .ne 9, 3) := by decide +kernel
theorem dX9_as_42 : decode cX9_as 42 = .ok (.aload_n 0, 1) := by decide +kernel
theorem dX9_as_43 : decode cX9_as 43 = .ok (.iconst 5, 1) := by decide +kernel
theorem dX9_as_44 : decode cX9_as 44 = .ok (.invokevirtual 61, 3) := by decide +kernel
theorem dX9_as_47 : decode cX9_as 47 = .ok (.ireturn, 1) := by decide +kernel
theorem dX9_as_48 : decode cX9_as 48 = .ok (.aload_n 3, 1) := by decide +kernel
theorem dX9_as_49 : decode cX9_as 49 = .ok (.getfield 83, 3) := by decide +kernel
theorem dX9_as_52 : decode cX9_as 52 = .ok (.ireturn, 1) := by decide +kernel
theorem dX9_meterIs_0 : decode cX9_meterIs 0 = .ok (.aload_n 0, 1) := by decide +kernel
theorem dX9_meterIs_1 : decode cX9_meterIs 1 = .ok (.getfield 10, 3) := by decide +kernel
theorem dX9_meterIs_4 : decode cX9_meterIs 4 = .ok (.iload_n 1, 1) := by decide +kernel
theorem dX9_meterIs_5 : decode cX9_meterIs 5 = .ok (.invokevirtual 73, 3) := by decide +kernel
theorem dX9_meterIs_8 : decode cX9_meterIs 8 = .ok (.ifCond .ne 9, 3) := by decide +kernel
theorem dX9_meterIs_11 : decode cX9_meterIs 11 = .ok (.aload_n 0, 1) := by decide +kernel
theorem dX9_meterIs_12 : decode cX9_meterIs 12 = .ok (.iconst 1, 1) := by decide +kernel
theorem dX9_meterIs_13 : decode cX9_meterIs 13 = .ok (.invokevirtual 61, 3) := by decide +kernel
theorem dX9_meterIs_16 : decode cX9_meterIs 16 = .ok (.ireturn, 1) := by decide +kernel
theorem dX9_meterIs_17 : decode cX9_meterIs 17 = .ok (.aload_n 0, 1) := by decide +kernel
theorem dX9_meterIs_18 : decode cX9_meterIs 18 = .ok (.getfield 10, 3) := by decide +kernel
theorem dX9_meterIs_21 : decode cX9_meterIs 21 = .ok (.getfield 76, 3) := by decide +kernel
theorem dX9_meterIs_24 : decode cX9_meterIs 24 = .ok (.iload_n 1, 1) := by decide +kernel
theorem dX9_meterIs_25 : decode cX9_meterIs 25 = .ok (.aaload, 1) := by decide +kernel
theorem dX9_meterIs_26 : decode cX9_meterIs 26 = .ok (.astore_n 3, 1) := by decide +kernel
theorem dX9_meterIs_27 : decode cX9_meterIs 27 = .ok (.iload_n 2, 1) := by decide +kernel
theorem dX9_meterIs_28 : decode cX9_meterIs 28 = .ok (.tableswitch 158 0 11 #[64, 69, 74, 79, 84, 97, 110, 115, 120, 125, 130, 153], 64) := by decide +kernel
theorem dX9_meterIs_92 : decode cX9_meterIs 92 = .ok (.aload_n 3, 1) := by decide +kernel
theorem dX9_meterIs_93 : decode cX9_meterIs 93 = .ok (.getfield 86, 3) := by decide +kernel
theorem dX9_meterIs_96 : decode cX9_meterIs 96 = .ok (.ireturn, 1) := by decide +kernel
theorem dX9_meterIs_97 : decode cX9_meterIs 97 = .ok (.aload_n 3, 1) := by decide +kernel
theorem dX9_meterIs_98 : decode cX9_meterIs 98 = .ok (.getfield 83, 3) := by decide +kernel
theorem dX9_meterIs_101 : decode cX9_meterIs 101 = .ok (.ireturn, 1) := by decide +kernel
theorem dX9_meterIs_102 : decode cX9_meterIs 102 = .ok (.aload_n 3, 1) := by decide +kernel
theorem dX9_meterIs_103 : decode cX9_meterIs 103 = .ok (.getfield 89, 3) := by decide +kernel
theorem dX9_meterIs_106 : decode cX9_meterIs 106 = .ok (.ireturn, 1) := by decide +kernel
theorem dX9_meterIs_107 : decode cX9_meterIs 107 = .ok (.aload_n 3, 1) := by decide +kernel
theorem dX9_meterIs_108 : decode cX9_meterIs 108 = .ok (.getfield 92, 3) := by decide +kernel
theorem dX9_meterIs_111 : decode cX9_meterIs 111 = .ok (.ireturn, 1) := by decide +kernel
theorem dX9_meterIs_112 : decode cX9_meterIs 112 = .ok (.aload_n 3, 1) := by decide +kernel
theorem dX9_meterIs_113 : decode cX9_meterIs 113 = .ok (.getfield 95, 3) := by decide +kernel
theorem dX9_meterIs_116 : decode cX9_meterIs 116 = .ok (.ifCond .eq 7, 3) := by decide +kernel
theorem dX9_meterIs_119 : decode cX9_meterIs 119 = .ok (.iconst 1, 1) := by decide +kernel
theorem dX9_meterIs_120 : decode cX9_meterIs 120 = .ok (.goto 4, 3) := by decide +kernel
theorem dX9_meterIs_123 : decode cX9_meterIs 123 = .ok (.iconst 0, 1) := by decide +kernel
theorem dX9_meterIs_124 : decode cX9_meterIs 124 = .ok (.ireturn, 1) := by decide +kernel
theorem dX9_meterIs_125 : decode cX9_meterIs 125 = .ok (.aload_n 3, 1) := by decide +kernel
theorem dX9_meterIs_126 : decode cX9_meterIs 126 = .ok (.getfield 99, 3) := by decide +kernel
theorem dX9_meterIs_129 : decode cX9_meterIs 129 = .ok (.ifCond .eq 7, 3) := by decide +kernel
theorem dX9_meterIs_132 : decode cX9_meterIs 132 = .ok (.iconst 1, 1) := by decide +kernel
theorem dX9_meterIs_133 : decode cX9_meterIs 133 = .ok (.goto 4, 3) := by decide +kernel
theorem dX9_meterIs_136 : decode cX9_meterIs 136 = .ok (.iconst 0, 1) := by decide +kernel
theorem dX9_meterIs_137 : decode cX9_meterIs 137 = .ok (.ireturn, 1) := by decide +kernel
theorem dX9_meterIs_138 : decode cX9_meterIs 138 = .ok (.aload_n 3, 1) := by decide +kernel
theorem dX9_meterIs_139 : decode cX9_meterIs 139 = .ok (.getfield 102, 3) := by decide +kernel
theorem dX9_meterIs_142 : decode cX9_meterIs 142 = .ok (.ireturn, 1) := by decide +kernel
theorem dX9_meterIs_143 : decode cX9_meterIs 143 = .ok (.aload_n 3, 1) := by decide +kernel
theorem dX9_meterIs_144 : decode cX9_meterIs 144 = .ok (.getfield 105, 3) := by decide +kernel
theorem dX9_meterIs_147 : decode cX9_meterIs 147 = .ok (.ireturn, 1) := by decide +kernel
theorem dX9_meterIs_148 : decode cX9_meterIs 148 = .ok (.aload_n 3, 1) := by decide +kernel
theorem dX9_meterIs_149 : decode cX9_meterIs 149 = .ok (.getfield 108, 3) := by decide +kernel
theorem dX9_meterIs_152 : decode cX9_meterIs 152 = .ok (.ireturn, 1) := by decide +kernel
theorem dX9_meterIs_153 : decode cX9_meterIs 153 = .ok (.aload_n 3, 1) := by decide +kernel
theorem dX9_meterIs_154 : decode cX9_meterIs 154 = .ok (.getfield 111, 3) := by decide +kernel
theorem dX9_meterIs_157 : decode cX9_meterIs 157 = .ok (.ireturn, 1) := by decide +kernel
theorem dX9_meterIs_158 : decode cX9_meterIs 158 = .ok (.aload_n 3, 1) := by decide +kernel
theorem dX9_meterIs_159 : decode cX9_meterIs 159 = .ok (.aload_n 0, 1) := by decide +kernel
theorem dX9_meterIs_160 : decode cX9_meterIs 160 = .ok (.getfield 10, 3) := by decide +kernel
theorem dX9_meterIs_163 : decode cX9_meterIs 163 = .ok (.getfield 114, 3) := by decide +kernel
theorem dX9_meterIs_166 : decode cX9_meterIs 166 = .ok (.iconst 0, 1) := by decide +kernel
theorem dX9_meterIs_167 : decode cX9_meterIs 167 = .ok (.aload_n 0, 1) := by decide +kernel
theorem dX9_meterIs_168 : decode cX9_meterIs 168 = .ok (.getfield 10, 3) := by decide +kernel
theorem dX9_meterIs_171 : decode cX9_meterIs 171 = .ok (.getfield 118, 3) := by decide +kernel
theorem dX9_meterIs_174 : decode cX9_meterIs 174 = .ok (.invokevirtual 121, 3) := by decide +kernel
theorem dX9_meterIs_177 : decode cX9_meterIs 177 = .ok (.invokevirtual 126, 3) := by decide +kernel
theorem dX9_meterIs_180 : decode cX9_meterIs 180 = .ok (.ireturn, 1) := by decide +kernel
theorem dX9_meterIs_181 : decode cX9_meterIs 181 = .ok (.aload_n 3, 1) := by decide +kernel
theorem dX9_meterIs_182 : decode cX9_meterIs 182 = .ok (.invokevirtual 129, 3) := by decide +kernel
theorem dX9_meterIs_185 : decode cX9_meterIs 185 = .ok (.ireturn, 1) := by decide +kernel
theorem dX9_meterIs_186 : decode cX9_meterIs 186 = .ok (.aload_n 0, 1) := by decide +kernel
theorem dX9_meterIs_187 : decode cX9_meterIs 187 = .ok (.iconst 1, 1) := by decide +kernel
theorem dX9_meterIs_188 : decode cX9_meterIs 188 = .ok (.invokevirtual 61, 3) := by decide +kernel
theorem dX9_meterIs_191 : decode cX9_meterIs 191 = .ok (.ireturn, 1) := by decide +kernel
theorem dX9_load_0 : decode cX9_load 0 = .ok (.aload_n 0, 1) := by decide +kernel
theorem dX9_load_1 : decode cX9_load 1 = .ok (.getfield 10, 3) := by decide +kernel
theorem dX9_load_4 : decode cX9_load 4 = .ok (.iload_n 1, 1) := by decide +kernel
theorem dX9_load_5 : decode cX9_load 5 = .ok (.invokevirtual 73, 3) := by decide +kernel
theorem dX9_load_8 : decode cX9_load 8 = .ok (.ifCond .eq 20, 3) := by decide +kernel
theorem dX9_load_11 : decode cX9_load 11 = .ok (.iload_n 2, 1) := by decide +kernel
theorem dX9_load_12 : decode cX9_load 12 = .ok (.invokestatic 133, 3) := by decide +kernel
theorem dX9_load_15 : decode cX9_load 15 = .ok (.ifCond .eq 13, 3) := by decide +kernel
theorem dX9_load_18 : decode cX9_load 18 = .ok (.iload_n 3, 1) := by decide +kernel
theorem dX9_load_19 : decode cX9_load 19 = .ok (.ifCond .lt 9, 3) := by decide +kernel
theorem dX9_load_22 : decode cX9_load 22 = .ok (.iload_n 3, 1) := by decide +kernel
theorem dX9_load_23 : decode cX9_load 23 = .ok (.bipush 9, 2) := by decide +kernel
theorem dX9_load_25 : decode cX9_load 25 = .ok (.if_icmp .le 9, 3) := by decide +kernel
theorem dX9_load_28 : decode cX9_load 28 = .ok (.aload_n 0, 1) := by decide +kernel
theorem dX9_load_29 : decode cX9_load 29 = .ok (.iconst 1, 1) := by decide +kernel
theorem dX9_load_30 : decode cX9_load 30 = .ok (.invokevirtual 61, 3) := by decide +kernel
theorem dX9_load_33 : decode cX9_load 33 = .ok (.ireturn, 1) := by decide +kernel
theorem dX9_load_34 : decode cX9_load 34 = .ok (.aload_n 0, 1) := by decide +kernel
theorem dX9_load_35 : decode cX9_load 35 = .ok (.getfield 10, 3) := by decide +kernel
theorem dX9_load_38 : decode cX9_load 38 = .ok (.getfield 76, 3) := by decide +kernel
theorem dX9_load_41 : decode cX9_load 41 = .ok (.iload_n 1, 1) := by decide +kernel
theorem dX9_load_42 : decode cX9_load 42 = .ok (.aaload, 1) := by decide +kernel
theorem dX9_load_43 : decode cX9_load 43 = .ok (.getfield 136, 3) := by decide +kernel
theorem dX9_load_46 : decode cX9_load 46 = .ok (.astore 4, 2) := by decide +kernel
theorem dX9_load_48 : decode cX9_load 48 = .ok (.aload 4, 2) := by decide +kernel
theorem dX9_load_50 : decode cX9_load 50 = .ok (.iload_n 2, 1) := by decide +kernel
theorem dX9_load_51 : decode cX9_load 51 = .ok (.iaload, 1) := by decide +kernel
theorem dX9_load_52 : decode cX9_load 52 = .ok (.istore 5, 2) := by decide +kernel
theorem dX9_load_54 : decode cX9_load 54 = .ok (.aload 4, 2) := by decide +kernel
theorem dX9_load_56 : decode cX9_load 56 = .ok (.iload_n 2, 1) := by decide +kernel
theorem dX9_load_57 : decode cX9_load 57 = .ok (.iload_n 3, 1) := by decide +kernel
theorem dX9_load_58 : decode cX9_load 58 = .ok (.iastore, 1) := by decide +kernel
theorem dX9_load_59 : decode cX9_load 59 = .ok (.iload 5, 2) := by decide +kernel
theorem dX9_load_61 : decode cX9_load 61 = .ok (.ireturn, 1) := by decide +kernel
theorem dX9_owe_0 : decode cX9_owe 0 = .ok (.aload_n 0, 1) := by decide +kernel
theorem dX9_owe_1 : decode cX9_owe 1 = .ok (.getfield 10, 3) := by decide +kernel
theorem dX9_owe_4 : decode cX9_owe 4 = .ok (.iload_n 1, 1) := by decide +kernel
theorem dX9_owe_5 : decode cX9_owe 5 = .ok (.invokevirtual 73, 3) := by decide +kernel
theorem dX9_owe_8 : decode cX9_owe 8 = .ok (.ifCond .eq 10, 3) := by decide +kernel
theorem dX9_owe_11 : decode cX9_owe 11 = .ok (.iload_n 2, 1) := by decide +kernel
theorem dX9_owe_12 : decode cX9_owe 12 = .ok (.invokestatic 139, 3) := by decide +kernel
theorem dX9_owe_15 : decode cX9_owe 15 = .ok (.ifCond .ne 9, 3) := by decide +kernel
theorem dX9_owe_18 : decode cX9_owe 18 = .ok (.aload_n 0, 1) := by decide +kernel
theorem dX9_owe_19 : decode cX9_owe 19 = .ok (.iconst 1, 1) := by decide +kernel
theorem dX9_owe_20 : decode cX9_owe 20 = .ok (.invokevirtual 61, 3) := by decide +kernel
theorem dX9_owe_23 : decode cX9_owe 23 = .ok (.ireturn, 1) := by decide +kernel
theorem dX9_owe_24 : decode cX9_owe 24 = .ok (.aload_n 0, 1) := by decide +kernel
theorem dX9_owe_25 : decode cX9_owe 25 = .ok (.getfield 10, 3) := by decide +kernel
theorem dX9_owe_28 : decode cX9_owe 28 = .ok (.getfield 76, 3) := by decide +kernel
theorem dX9_owe_31 : decode cX9_owe 31 = .ok (.iload_n 1, 1) := by decide +kernel
theorem dX9_owe_32 : decode cX9_owe 32 = .ok (.aaload, 1) := by decide +kernel
theorem dX9_owe_33 : decode cX9_owe 33 = .ok (.astore_n 3, 1) := by decide +kernel
theorem dX9_owe_34 : decode cX9_owe 34 = .ok (.aload_n 3, 1) := by decide +kernel
theorem dX9_owe_35 : decode cX9_owe 35 = .ok (.getfield 89, 3) := by decide +kernel
theorem dX9_owe_38 : decode cX9_owe 38 = .ok (.iload_n 2, 1) := by decide +kernel
theorem dX9_owe_39 : decode cX9_owe 39 = .ok (.iadd, 1) := by decide +kernel
theorem dX9_owe_40 : decode cX9_owe 40 = .ok (.ldc 142, 2) := by decide +kernel
theorem dX9_owe_42 : decode cX9_owe 42 = .ok (.if_icmp .le 9, 3) := by decide +kernel
theorem dX9_owe_45 : decode cX9_owe 45 = .ok (.aload_n 0, 1) := by decide +kernel
theorem dX9_owe_46 : decode cX9_owe 46 = .ok (.iconst 4, 1) := by decide +kernel
theorem dX9_owe_47 : decode cX9_owe 47 = .ok (.invokevirtual 61, 3) := by decide +kernel
theorem dX9_owe_50 : decode cX9_owe 50 = .ok (.ireturn, 1) := by decide +kernel
theorem dX9_owe_51 : decode cX9_owe 51 = .ok (.aload_n 3, 1) := by decide +kernel
theorem dX9_owe_52 : decode cX9_owe 52 = .ok (.dup, 1) := by decide +kernel
theorem dX9_owe_53 : decode cX9_owe 53 = .ok (.getfield 89, 3) := by decide +kernel
theorem dX9_owe_56 : decode cX9_owe 56 = .ok (.iload_n 2, 1) := by decide +kernel
theorem dX9_owe_57 : decode cX9_owe 57 = .ok (.iadd, 1) := by decide +kernel
theorem dX9_owe_58 : decode cX9_owe 58 = .ok (.putfield 89, 3) := by decide +kernel
theorem dX9_owe_61 : decode cX9_owe 61 = .ok (.aload_n 3, 1) := by decide +kernel
theorem dX9_owe_62 : decode cX9_owe 62 = .ok (.getfield 89, 3) := by decide +kernel
theorem dX9_owe_65 : decode cX9_owe 65 = .ok (.ireturn, 1) := by decide +kernel
theorem dX9_part_0 : decode cX9_part 0 = .ok (.aload_n 0, 1) := by decide +kernel
theorem dX9_part_1 : decode cX9_part 1 = .ok (.getfield 10, 3) := by decide +kernel
theorem dX9_part_4 : decode cX9_part 4 = .ok (.iload_n 1, 1) := by decide +kernel
theorem dX9_part_5 : decode cX9_part 5 = .ok (.invokevirtual 73, 3) := by decide +kernel
theorem dX9_part_8 : decode cX9_part 8 = .ok (.ifCond .eq 10, 3) := by decide +kernel
theorem dX9_part_11 : decode cX9_part 11 = .ok (.iload_n 2, 1) := by decide +kernel
theorem dX9_part_12 : decode cX9_part 12 = .ok (.invokestatic 143, 3) := by decide +kernel
theorem dX9_part_15 : decode cX9_part 15 = .ok (.ifCond .ne 9, 3) := by decide +kernel
theorem dX9_part_18 : decode cX9_part 18 = .ok (.aload_n 0, 1) := by decide +kernel
theorem dX9_part_19 : decode cX9_part 19 = .ok (.iconst 1, 1) := by decide +kernel
theorem dX9_part_20 : decode cX9_part 20 = .ok (.invokevirtual 61, 3) := by decide +kernel
theorem dX9_part_23 : decode cX9_part 23 = .ok (.ireturn, 1) := by decide +kernel
theorem dX9_part_24 : decode cX9_part 24 = .ok (.aload_n 0, 1) := by decide +kernel
theorem dX9_part_25 : decode cX9_part 25 = .ok (.getfield 10, 3) := by decide +kernel
theorem dX9_part_28 : decode cX9_part 28 = .ok (.getfield 76, 3) := by decide +kernel
theorem dX9_part_31 : decode cX9_part 31 = .ok (.iload_n 1, 1) := by decide +kernel
theorem dX9_part_32 : decode cX9_part 32 = .ok (.aaload, 1) := by decide +kernel
theorem dX9_part_33 : decode cX9_part 33 = .ok (.astore_n 3, 1) := by decide +kernel
theorem dX9_part_34 : decode cX9_part 34 = .ok (.aload_n 3, 1) := by decide +kernel
theorem dX9_part_35 : decode cX9_part 35 = .ok (.getfield 92, 3) := by decide +kernel
theorem dX9_part_38 : decode cX9_part 38 = .ok (.istore 4, 2) := by decide +kernel
theorem dX9_part_40 : decode cX9_part 40 = .ok (.aload_n 3, 1) := by decide +kernel
theorem dX9_part_41 : decode cX9_part 41 = .ok (.iload_n 2, 1) := by decide +kernel
theorem dX9_part_42 : decode cX9_part 42 = .ok (.putfield 92, 3) := by decide +kernel
theorem dX9_part_45 : decode cX9_part 45 = .ok (.iload 4, 2) := by decide +kernel
theorem dX9_part_47 : decode cX9_part 47 = .ok (.ireturn, 1) := by decide +kernel
theorem dX9_moveIn_0 : decode cX9_moveIn 0 = .ok (.aload_n 0, 1) := by decide +kernel
theorem dX9_moveIn_1 : decode cX9_moveIn 1 = .ok (.getfield 10, 3) := by decide +kernel
theorem dX9_moveIn_4 : decode cX9_moveIn 4 = .ok (.iload_n 1, 1) := by decide +kernel
theorem dX9_moveIn_5 : decode cX9_moveIn 5 = .ok (.invokevirtual 73, 3) := by decide +kernel
theorem dX9_moveIn_8 : decode cX9_moveIn 8 = .ok (.ifCond .ne 9, 3) := by decide +kernel
theorem dX9_moveIn_11 : decode cX9_moveIn 11 = .ok (.aload_n 0, 1) := by decide +kernel
theorem dX9_moveIn_12 : decode cX9_moveIn 12 = .ok (.iconst 1, 1) := by decide +kernel
theorem dX9_moveIn_13 : decode cX9_moveIn 13 = .ok (.invokevirtual 61, 3) := by decide +kernel
theorem dX9_moveIn_16 : decode cX9_moveIn 16 = .ok (.ireturn, 1) := by decide +kernel
theorem dX9_moveIn_17 : decode cX9_moveIn 17 = .ok (.aload_n 0, 1) := by decide +kernel
theorem dX9_moveIn_18 : decode cX9_moveIn 18 = .ok (.getfield 10, 3) := by decide +kernel
theorem dX9_moveIn_21 : decode cX9_moveIn 21 = .ok (.getfield 76, 3) := by decide +kernel
theorem dX9_moveIn_24 : decode cX9_moveIn 24 = .ok (.iload_n 1, 1) := by decide +kernel
theorem dX9_moveIn_25 : decode cX9_moveIn 25 = .ok (.aaload, 1) := by decide +kernel
theorem dX9_moveIn_26 : decode cX9_moveIn 26 = .ok (.astore_n 2, 1) := by decide +kernel
theorem dX9_moveIn_27 : decode cX9_moveIn 27 = .ok (.aload_n 2, 1) := by decide +kernel
theorem dX9_moveIn_28 : decode cX9_moveIn 28 = .ok (.getfield 89, 3) := by decide +kernel
theorem dX9_moveIn_31 : decode cX9_moveIn 31 = .ok (.istore_n 3, 1) := by decide +kernel
theorem dX9_moveIn_32 : decode cX9_moveIn 32 = .ok (.aload_n 2, 1) := by decide +kernel
theorem dX9_moveIn_33 : decode cX9_moveIn 33 = .ok (.iconst 0, 1) := by decide +kernel
theorem dX9_moveIn_34 : decode cX9_moveIn 34 = .ok (.putfield 89, 3) := by decide +kernel
theorem dX9_moveIn_37 : decode cX9_moveIn 37 = .ok (.aload_n 2, 1) := by decide +kernel
theorem dX9_moveIn_38 : decode cX9_moveIn 38 = .ok (.aload_n 2, 1) := by decide +kernel
theorem dX9_moveIn_39 : decode cX9_moveIn 39 = .ok (.getfield 83, 3) := by decide +kernel
theorem dX9_moveIn_42 : decode cX9_moveIn 42 = .ok (.iconst 0, 1) := by decide +kernel
theorem dX9_moveIn_43 : decode cX9_moveIn 43 = .ok (.invokestatic 146, 3) := by decide +kernel
theorem dX9_moveIn_46 : decode cX9_moveIn 46 = .ok (.putfield 83, 3) := by decide +kernel
theorem dX9_moveIn_49 : decode cX9_moveIn 49 = .ok (.aload_n 2, 1) := by decide +kernel
